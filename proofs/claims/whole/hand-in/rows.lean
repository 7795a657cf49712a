section
/-! numbers, stores (rows pk_ from kit/rows) -/
theorem pk_us {f : Nat → Int32} {k : Nat} {x : Int32} : upd f k x k = x := if_pos rfl
theorem pk_un {f : Nat → Int32} {k j : Nat} {x : Int32} (h : j ≠ k) : upd f k x j = f j := if_neg h
theorem pk_sub {a b : Nat} (h : b ≤ a) : nI a - nI b = nI (a - b) := by
  obtain ⟨c, rfl⟩ : ∃ c, a = c + b := ⟨a - b, by omega⟩
  rw [← nI_add, Int32.add_sub_cancel, Nat.add_sub_cancel]
theorem pk_m1 (n : Nat) : nI (n + 1) + (-1) = nI n := by
  rw [← nI_1, Int32.add_assoc, show (1 : Int32) + (-1) = 0 from rfl, Int32.add_zero]
theorem pk_mul (a b : Nat) : nI a * nI b = nI (a * b) := (Int32.ofNat_mul a b).symm
theorem pk_ix (x : Int32) {n : Nat} (hn : n < 2 ^ 31) : x < 0 ∨ nI n ≤ x ∨ ∃ j : Nat, j < n ∧ x = nI j := by
  by_cases h : x < 0
  · exact Or.inl h
  · obtain ⟨j, hj, rfl⟩ := nI_of h
    by_cases h2 : j < n
    · exact Or.inr (Or.inr ⟨j, h2, rfl⟩)
    · exact Or.inr (Or.inl (nI_le (by omega) hj))
theorem pk_le {x y : Int32} {A B : Prop} (a b : Nat) (f : a ≤ b → A) (g : b < a → B) (hx : x = nI a := by rfl) (hy : y = nI b := by rfl) (ha : a < 2 ^ 31 := by omega) (hb : b < 2 ^ 31 := by omega) : (x ≤ y → A) ∧ (¬ x ≤ y → B) := by
  subst hx hy
  rw [nI_leI ha hb]
  exact ⟨f, fun z => g (by omega)⟩
theorem pk_lt {x y : Int32} {A B : Prop} (a b : Nat) (f : a < b → A) (g : b ≤ a → B) (hx : x = nI a := by rfl) (hy : y = nI b := by rfl) (ha : a < 2 ^ 31 := by omega) (hb : b < 2 ^ 31 := by omega) : (x < y → A) ∧ (¬ x < y → B) := by
  subst hx hy
  rw [nI_ltI ha hb]
  exact ⟨f, fun z => g (by omega)⟩
theorem pk_eq {x y : Int32} {A B : Prop} (a b : Nat) (f : a = b → A) (g : a ≠ b → B) (hx : x = nI a := by rfl) (hy : y = nI b := by rfl) (ha : a < 2 ^ 31 := by omega) (hb : b < 2 ^ 31 := by omega) : (x = y → A) ∧ (¬ x = y → B) := by
  subst hx hy
  rw [nI_eq ha hb]
  exact ⟨f, g⟩
theorem pk_in {x : Int32} (n N : Nat) (h : n < N) (hx : x = nI n := by rfl) (hN : N < 2 ^ 31 := by omega) : vp_in x N := by
  subst hx
  exact vp_in_nI h hN
theorem pk_cl {x : Int32} (n : Nat) (hx : x = nI n := by rfl) (h : n < 2 ^ 31 := by omega) : x.toNatClampNeg = n := by
  subst hx
  exact nI_clamp h
/-! my own -/
theorem sg_self (f : Nat → Int32) (k : Nat) (x : Int32) (h : f k = x) : upd f k x = f := by
  funext j
  by_cases e : j = k
  · subst e; rw [pk_us, h]
  · rw [pk_un e]
theorem sg_ne1 {a : Nat} (h : a < 2 ^ 31) : ¬ nI a = -1 := by
  intro e
  have h2 := nI_pos (n := a) h
  rw [e] at h2
  exact h2 (by decide)
theorem sg_b0 : vp_nar .boolean 0 = 0 := by decide
theorem sg_b1 : vp_nar .boolean 1 = 1 := by decide
theorem sg_n0 : narrow .boolean (.int 0) = .int 0 := by decide
theorem sg_n1 : narrow .boolean (.int 1) = .int 1 := by decide
/-! how many attempts have ended -/
def sg_cnt (f : Nat → Int32) : Nat → Nat
  | 0 => 0
  | n + 1 => sg_cnt f n + (f n).toNatClampNeg
theorem sg_cnt_ext {f g : Nat → Int32} : ∀ (n : Nat), (∀ j, j < n → f j = g j) → sg_cnt f n = sg_cnt g n := by
  intro n
  induction n with
  | zero => intro _; rfl
  | succ n ih =>
    intro h
    show sg_cnt f n + _ = sg_cnt g n + _
    rw [ih (fun j hj => h j (by omega)), h n (by omega)]
theorem sg_cnt_ask (f : Nat → Int32) (n : Nat) : sg_cnt (upd f n 0) (n + 1) = sg_cnt f n := by
  show sg_cnt (upd f n 0) n + (upd f n 0 n).toNatClampNeg = _
  rw [pk_us, sg_cnt_ext (g := f) n (fun j hj => pk_un (by omega))]
  rfl
theorem sg_cnt_inc (f : Nat → Int32) (j e : Nat) (he : f j = nI e) (h4 : e < 4) : ∀ n, j < n → sg_cnt (upd f j (nI (e + 1))) n = sg_cnt f n + 1 := by
  intro n
  induction n with
  | zero => intro h; omega
  | succ n ih =>
    intro h
    show sg_cnt (upd f j (nI (e + 1))) n + (upd f j (nI (e + 1)) n).toNatClampNeg = sg_cnt f n + (f n).toNatClampNeg + 1
    by_cases c : j = n
    · subst c
      rw [pk_us, sg_cnt_ext (g := f) j (fun m hm => pk_un (by omega)), he, nI_clamp (by omega), nI_clamp (by omega)]
      omega
    · rw [pk_un (fun z => c z.symm), ih (by omega)]
      omega
theorem sg_cnt_le (f : Nat → Int32) : ∀ n, (∀ j, j < n → ∃ e, e ≤ 4 ∧ f j = nI e) → sg_cnt f n ≤ 4 * n := by
  intro n
  induction n with
  | zero => intro _; exact Nat.le_refl 0
  | succ n ih =>
    intro h
    show sg_cnt f n + _ ≤ _
    obtain ⟨e, he, hf⟩ := h n (by omega)
    have h1 := ih (fun j hj => h j (by omega))
    rw [hf, nI_clamp (by omega)]
    omega
theorem sg_cnt_lt (f : Nat → Int32) (n j e : Nat) (hj : j < n) (he : f j = nI e) (h4 : e < 4) (h : ∀ j, j < n → ∃ e, e ≤ 4 ∧ f j = nI e) : sg_cnt f n < 4 * n := by
  have h1 := sg_cnt_inc f j e he h4 n hj
  have h2 := sg_cnt_le (upd f j (nI (e + 1))) n (fun m hm => by
    by_cases c : m = j
    · subst c; exact ⟨e + 1, by omega, pk_us⟩
    · rw [pk_un c]; exact h m hm)
  omega
/-! arrays that agree outside the region of workflow i -/
def sg_out (i w : Nat) (a a' : Nat → Int32) : Prop := ∀ n, (n < w * i ∨ w * i + w ≤ n) → a' n = a n
theorem sg_o_r {i w : Nat} {a : Nat → Int32} : sg_out i w a a := fun _ _ => rfl
theorem sg_o_1 {i : Nat} {a : Nat → Int32} {x : Int32} : sg_out i 1 a (upd a i x) := fun n h => pk_un (by omega)
theorem sg_o_u {i w p : Nat} {a : Nat → Int32} {x : Int32} (hp : p < w) : sg_out i w a (upd a (w * i + p) x) := fun n h => pk_un (by omega)
theorem sg_o_t {i w : Nat} {a b c : Nat → Int32} (h : sg_out i w a b) (h2 : sg_out i w b c) : sg_out i w a c := fun n hn => (h2 n hn).trans (h n hn)
theorem sg_o_at {i m w v : Nat} {a a' : Nat → Int32} (h : sg_out i w a a') (hm : m ≠ i) (hv : v < w) : a' (w * m + v) = a (w * m + v) := by
  refine h _ ?_
  by_cases c : m < i
  · left
    have h1 : w * m + w ≤ w * i := by rw [← Nat.mul_succ]; exact Nat.mul_le_mul_left w c
    omega
  · right
    have h1 : w * i + w ≤ w * m := by rw [← Nat.mul_succ]; exact Nat.mul_le_mul_left w (by omega)
    omega
theorem sg_o_at1 {i m : Nat} {a a' : Nat → Int32} (h : sg_out i 1 a a') (hm : m ≠ i) : a' m = a m := by
  have h1 := sg_o_at (v := 0) h hm (by omega)
  rwa [Nat.one_mul] at h1
/-! the relation -/
def sg_set (se : Nat → Int32) : Prop := ∀ a, a < 4 → ∃ w y d f : Nat, (1 ≤ w ∧ w ≤ 3 ∧ se (7 * a + 1) = nI w) ∧ (1 ≤ y ∧ y ≤ 4 ∧ se (7 * a + 2) = nI y) ∧ (d ≤ 9 ∧ se (7 * a + 3) = nI d) ∧ (f ≤ 4 ∧ se (7 * a + 4) = nI f)
def sg_ok (k p q r : Int32) : Prop :=
  (k = 0 ∧ ∃ a, a < 4 ∧ p = nI a) ∨
  (k = 1 ∧ ∃ a b, a < 4 ∧ b < 4 ∧ p = nI a ∧ q = nI b) ∨
  (k = 2 ∧ ∃ a b, a < 4 ∧ b < 4 ∧ p = nI a ∧ q = nI b) ∨
  (k = 3 ∧ ∃ a b c, a < 4 ∧ b < 4 ∧ c < 4 ∧ p = nI a ∧ q = nI b ∧ r = nI c) ∨
  (k = 4 ∧ ∃ a b c, a < 4 ∧ b < 4 ∧ c < 3 ∧ p = nI a ∧ q = nI b ∧ r = nI c) ∨
  (k = 5 ∧ ∃ a b, a < 3 ∧ b < 4 ∧ p = nI a ∧ q = nI b) ∨
  (k = 6 ∧ ∃ a b, a < 4 ∧ b < 4 ∧ p = nI a ∧ q = nI b) ∨
  (k = 7 ∧ ∃ a, a < 4 ∧ p = nI a) ∨
  (k = 8 ∧ ∃ a, a < 20 ∧ p = nI a) ∨
  (k = 9 ∧ ∃ a b c, a < 4 ∧ b < 4 ∧ c < 20 ∧ p = nI a ∧ q = nI b ∧ r = nI c) ∨
  (k = 10 ∧ ∃ a b, a < 2 ∧ b < 4 ∧ p = nI a ∧ q = nI b) ∨
  (k = 11 ∧ ∃ a, a < 4 ∧ p = nI a) ∨
  k = 12
def sg_prog (sc : Nat) (ki pp qq rr ss : Nat → Int32) : Prop := sc ≤ 20 ∧ ∀ m, m < sc → ss (4 * m) = ki m ∧ ss (4 * m + 1) = pp m ∧ ss (4 * m + 2) = qq m ∧ ss (4 * m + 3) = rr m ∧ sg_ok (ki m) (pp m) (qq m) (rr m)
def sg_how (t : Nat) (ou uw ra ea ho wh : Int32) : Prop :=
  (ou = -1 ∧ uw = 0 ∧ ho = 0 ∧ wh = ra) ∨ (ou = -1 ∧ uw = 0 ∧ ho = 1 ∧ wh = ra ∧ ra ≤ nI t) ∨ (ou = -1 ∧ uw = 1 ∧ ho = 2 ∧ wh = ea) ∨ (ou = 1 ∧ uw = 0 ∧ ho = 3) ∨ (ou = 0 ∧ uw = 0 ∧ ho = 4)
def sg_jobs (t jc : Nat) (se ac en ou uw ra ea ho wh : Nat → Int32) : Prop := ∀ j, j < jc → ∃ a e, a < 4 ∧ ac j = nI a ∧ e ≤ 4 ∧ en j = nI e ∧ (ou j = -1 → nI e < se (7 * a + 2)) ∧ sg_how t (ou j) (uw j) (ra j) (ea j) (ho j) (wh j)
def sg_jas (jc : Nat) (ja : Nat → Int32) : Prop := (∀ m, m < 3 → ∃ q, q ≤ 30 ∧ ja m = nI q) ∧ jc = (ja 0).toNatClampNeg + (ja 1).toNatClampNeg + (ja 2).toNatClampNeg
def sg_hd (jc : Nat) (x : Int32) : Prop := x = -1 ∨ ∃ j, j < jc ∧ x = nI j
def sg_hs (jc i : Nat) (xha yha : Nat → Int32) : Prop := ∀ h, h < 3 → yha (3 * i + h) = xha (3 * i + h) ∧ sg_hd jc (xha (3 * i + h))
def sg_h5 (jc i a : Nat) (xha yha : Nat → Int32) : Prop := ∀ h, h < 3 → (h ≠ a → yha (3 * i + h) = xha (3 * i + h) ∧ sg_hd jc (xha (3 * i + h))) ∧ (h = a → xha (3 * i + h) = -1)
def sg_aw (jc : Nat) (aj un : Int32) : Prop := ∃ j, j < jc ∧ aj = nI j ∧ un = nI j
/-- the modes of a workflow that is under way: 1 between steps, 2 waits in a step, 3 waits for a job of its pile, 4 fails just now (the reference waits for nothing) -/
def sg_ctl (md sc jc i f : Nat) (ki pp : Nat → Int32) (xin xtb xaj xat ywt yun : Int32) (xha yha : Nat → Int32) : Prop :=
  (md = 1 ∧ ywt = 0 ∧ xin = 0 ∧ xtb = 0 ∧ sg_hs jc i xha yha) ∨
  (md = 2 ∧ f < sc ∧ xin = 1 ∧ xtb = 0 ∧
    ((ywt = 1 ∧ sg_aw jc xaj yun ∧ ((ki f = 3 ∧ sg_hs jc i xha yha) ∨ (ki f = 5 ∧ ∃ a, a < 3 ∧ pp f = nI a ∧ sg_h5 jc i a xha yha))) ∨
     (ywt = 2 ∧ ki f = 7 ∧ yun = xat ∧ sg_hs jc i xha yha) ∨
     (ywt = 3 ∧ ki f = 10 ∧ yun = xat ∧ sg_hs jc i xha yha))) ∨
  (md = 3 ∧ f < sc ∧ xtb = 1 ∧ ywt = 4 ∧ sg_aw jc xaj yun) ∨
  (md = 4 ∧ f < sc ∧ xtb = 1 ∧ ywt = 0)
def sg_var (i : Nat) (xva yva : Nat → Int32) : Prop := ∀ v, v < 4 → yva (4 * i + v) = xva (4 * i + v)
def sg_pil (i d : Nat) (xps xpa : Nat → Int32) : Prop := ∃ p, p ≤ d ∧ xps i = nI p ∧ ∀ m, m < p → ∃ a, a < 4 ∧ xpa (200 * i + m) = nI a
def sg_sig (i : Nat) (xct xsn xtk yso : Nat → Int32) : Prop := ∃ n, n ≤ 6 ∧ xct i = nI n ∧ ∀ m, m < n → (xsn (6 * i + m) = 0 ∨ xsn (6 * i + m) = 1) ∧ ((xtk (6 * i + m) = 0 ∧ yso (6 * i + m) = xsn (6 * i + m)) ∨ (xtk (6 * i + m) = 1 ∧ yso (6 * i + m) = -1))
def sg_base (i d : Nat) (xsd xva xps xpa xct xsn xtk yva yso : Nat → Int32) : Prop := d ≤ 200 ∧ xsd i = nI d ∧ sg_var i xva yva ∧ sg_pil i d xps xpa ∧ sg_sig i xct xsn xtk yso
def sg_act (md sc jc i f : Nat) (xki xpp xst xfs xin xtb xaj xat xsd xja xev xha ypl ydn yas ywt yun yha : Nat → Int32) : Prop := xst i = 1 ∧ xev i = 0 ∧ f ≤ 20 ∧ xfs i = nI f ∧ ypl i = nI f ∧ ydn i = xsd i ∧ yas i = xja i ∧ sg_ctl md sc jc i f xki xpp (xin i) (xtb i) (xaj i) (xat i) (ywt i) (yun i) xha yha
def sg_idle (i : Nat) (xst xfs xin xtb xsd xja xev xva xha xps xct : Nat → Int32) : Prop := xst i = 0 ∧ xfs i = 0 ∧ xin i = 0 ∧ xtb i = 0 ∧ xsd i = 0 ∧ xja i = 0 ∧ xev i = 0 ∧ xps i = 0 ∧ xct i = 0 ∧ (∀ v, v < 4 → xva (4 * i + v) = 0) ∧ (∀ h, h < 3 → xha (3 * i + h) = -1)
def sg_end (i : Nat) (xst xev yrs : Nat → Int32) : Prop := ∃ s, 2 ≤ s ∧ s ≤ 5 ∧ xst i = nI s ∧ xev i = if s = 2 then yrs i else 0
def sg_flow (i sc jc : Nat) (xki xpp xst xfs xin xtb xaj xat xsd xja xev xva xha xps xpa xct xsn xtk ypl ydn yas ywt yun yrs yva yha yso : Nat → Int32) : Prop :=
  sg_idle i xst xfs xin xtb xsd xja xev xva xha xps xct ∨
  ∃ d, sg_base i d xsd xva xps xpa xct xsn xtk yva yso ∧
    (sg_end i xst xev yrs ∨ ∃ md f, (md = 1 ∨ md = 2 ∨ md = 3) ∧ sg_act md sc jc i f xki xpp xst xfs xin xtb xaj xat xsd xja xev xha ypl ydn yas ywt yun yha)
def sg_glob (t sc jc : Nat) (xsc xnow xjc xec : Int32) (xse xki xpp xqq xrr xst xfs xin xtb xaj xat xsd xja xev xva xha xps xpa xpi xct xsn xsv xtk xac xji xou xen xuw xra xea xtj xte : Nat → Int32) (ysc ynow yjc yec : Int32) (yse yss yac yji yen yho ywh ytj yte yst ypl ydn yas ywt yun yrs yva yha ypa ypi yps yso ysv yct : Nat → Int32) : Prop :=
  ((xsc = ysc ∧ xnow = ynow ∧ xjc = yjc ∧ xec = yec) ∧ (xse = yse ∧ xst = yst ∧ xac = yac ∧ xji = yji ∧ xen = yen ∧ xtj = ytj ∧ xte = yte ∧ xps = yps ∧ xpa = ypa ∧ xpi = ypi ∧ xsv = ysv ∧ xct = yct)) ∧
  (xsc = nI sc ∧ xnow = nI t ∧ xjc = nI jc ∧ xec = nI (sg_cnt xen jc)) ∧
  sg_set xse ∧ sg_prog sc xki xpp xqq xrr yss ∧ sg_jobs t jc xse xac xen xou xuw xra xea yho ywh ∧ sg_jas jc xja
/-- between calls, and within them at any point at which no workflow is being served -/
def sg_R (t : Nat) (u : SX) (v : SY) : Prop := match u with
  | (xsc, xnow, xjc, xec, xse, xki, xpp, xqq, xrr, xst, xfs, xin, xtb, xaj, xat, xsd, xja, xev, xva, xha, xps, xpa, xpi, xct, xsn, xsv, xtk, xac, xji, xou, xen, xuw, xra, xea, xtj, xte) => match v with
    | (ysc, ynow, yjc, yec, yse, yss, yac, yji, yen, yho, ywh, ytj, yte, yst, ypl, ydn, yas, ywt, yun, yrs, yva, yha, ypa, ypi, yps, yso, ysv, yct) => ∃ sc jc, sg_glob t sc jc xsc xnow xjc xec xse xki xpp xqq xrr xst xfs xin xtb xaj xat xsd xja xev xva xha xps xpa xpi xct xsn xsv xtk xac xji xou xen xuw xra xea xtj xte ysc ynow yjc yec yse yss yac yji yen yho ywh ytj yte yst ypl ydn yas ywt yun yrs yva yha ypa ypi yps yso ysv yct ∧ ∀ m, m < 3 → sg_flow m sc jc xki xpp xst xfs xin xtb xaj xat xsd xja xev xva xha xps xpa xct xsn xtk ypl ydn yas ywt yun yrs yva yha yso
/-- workflow i is being served, in mode md, and has done d steps -/
def sg_W (md i d t : Nat) (u : SX) (v : SY) : Prop := match u with
  | (xsc, xnow, xjc, xec, xse, xki, xpp, xqq, xrr, xst, xfs, xin, xtb, xaj, xat, xsd, xja, xev, xva, xha, xps, xpa, xpi, xct, xsn, xsv, xtk, xac, xji, xou, xen, xuw, xra, xea, xtj, xte) => match v with
    | (ysc, ynow, yjc, yec, yse, yss, yac, yji, yen, yho, ywh, ytj, yte, yst, ypl, ydn, yas, ywt, yun, yrs, yva, yha, ypa, ypi, yps, yso, ysv, yct) => ∃ sc jc, sg_glob t sc jc xsc xnow xjc xec xse xki xpp xqq xrr xst xfs xin xtb xaj xat xsd xja xev xva xha xps xpa xpi xct xsn xsv xtk xac xji xou xen xuw xra xea xtj xte ysc ynow yjc yec yse yss yac yji yen yho ywh ytj yte yst ypl ydn yas ywt yun yrs yva yha ypa ypi yps yso ysv yct ∧ (∀ m, m < 3 → m ≠ i → sg_flow m sc jc xki xpp xst xfs xin xtb xaj xat xsd xja xev xva xha xps xpa xct xsn xtk ypl ydn yas ywt yun yrs yva yha yso) ∧ sg_base i d xsd xva xps xpa xct xsn xtk yva yso ∧ ∃ f, sg_act md sc jc i f xki xpp xst xfs xin xtb xaj xat xsd xja xev xha ypl ydn yas ywt yun yha
end
section
/-! what does not touch the region of another workflow keeps its relation -/
theorem sg_hd_mono {jc jc' : Nat} {x : Int32} (h : jc ≤ jc') (H : sg_hd jc x) : sg_hd jc' x := by
  rcases H with H | ⟨j, hj, e⟩
  · exact Or.inl H
  · exact Or.inr ⟨j, by omega, e⟩
theorem sg_aw_mono {jc jc' : Nat} {x y : Int32} (h : jc ≤ jc') (H : sg_aw jc x y) : sg_aw jc' x y := by
  obtain ⟨j, hj, e⟩ := H
  exact ⟨j, by omega, e⟩
theorem sg_hs_fr {jc jc' i : Nat} {xha yha xha' yha' : Nat → Int32} (h : jc ≤ jc') (hx : ∀ h, h < 3 → xha' (3 * i + h) = xha (3 * i + h)) (hy : ∀ h, h < 3 → yha' (3 * i + h) = yha (3 * i + h)) (H : sg_hs jc i xha yha) : sg_hs jc' i xha' yha' := by
  intro k hk
  rw [hx k hk, hy k hk]
  exact ⟨(H k hk).1, sg_hd_mono h (H k hk).2⟩
theorem sg_h5_fr {jc jc' i a : Nat} {xha yha xha' yha' : Nat → Int32} (h : jc ≤ jc') (hx : ∀ h, h < 3 → xha' (3 * i + h) = xha (3 * i + h)) (hy : ∀ h, h < 3 → yha' (3 * i + h) = yha (3 * i + h)) (H : sg_h5 jc i a xha yha) : sg_h5 jc' i a xha' yha' := by
  intro k hk
  rw [hx k hk, hy k hk]
  exact ⟨fun z => ⟨((H k hk).1 z).1, sg_hd_mono h ((H k hk).1 z).2⟩, (H k hk).2⟩
theorem sg_ctl_fr {md sc jc jc' i f : Nat} {ki pp : Nat → Int32} {vin vtb vaj vat vwt vun : Int32} {xha yha xha' yha' : Nat → Int32} (h : jc ≤ jc') (hx : ∀ h, h < 3 → xha' (3 * i + h) = xha (3 * i + h)) (hy : ∀ h, h < 3 → yha' (3 * i + h) = yha (3 * i + h)) (H : sg_ctl md sc jc i f ki pp vin vtb vaj vat vwt vun xha yha) : sg_ctl md sc jc' i f ki pp vin vtb vaj vat vwt vun xha' yha' := by
  rcases H with ⟨h1, h2, h3, h4, h5⟩ | ⟨h1, h2, h3, h4, H⟩ | ⟨h1, h2, h3, h4, h5⟩ | H
  · exact Or.inl ⟨h1, h2, h3, h4, sg_hs_fr h hx hy h5⟩
  · refine Or.inr (Or.inl ⟨h1, h2, h3, h4, ?_⟩)
    rcases H with ⟨g1, g2, g3⟩ | ⟨g1, g2, g3, g4⟩ | ⟨g1, g2, g3, g4⟩
    · refine Or.inl ⟨g1, sg_aw_mono h g2, ?_⟩
      rcases g3 with ⟨k1, k2⟩ | ⟨k1, a, k2, k3, k4⟩
      · exact Or.inl ⟨k1, sg_hs_fr h hx hy k2⟩
      · exact Or.inr ⟨k1, a, k2, k3, sg_h5_fr h hx hy k4⟩
    · exact Or.inr (Or.inl ⟨g1, g2, g3, sg_hs_fr h hx hy g4⟩)
    · exact Or.inr (Or.inr ⟨g1, g2, g3, sg_hs_fr h hx hy g4⟩)
  · exact Or.inr (Or.inr (Or.inl ⟨h1, h2, h3, h4, sg_aw_mono h h5⟩))
  · exact Or.inr (Or.inr (Or.inr H))
theorem sg_base_fr {i d : Nat} {xsd xva xps xpa xct xsn xtk yva yso xsd' xva' xps' xpa' xct' xsn' xtk' yva' yso' : Nat → Int32} (esd : xsd' i = xsd i) (eps : xps' i = xps i) (ect : xct' i = xct i) (hx : ∀ v, v < 4 → xva' (4 * i + v) = xva (4 * i + v)) (hy : ∀ v, v < 4 → yva' (4 * i + v) = yva (4 * i + v)) (hp : ∀ v, v < 200 → xpa' (200 * i + v) = xpa (200 * i + v)) (hn : ∀ v, v < 6 → xsn' (6 * i + v) = xsn (6 * i + v)) (hk : ∀ v, v < 6 → xtk' (6 * i + v) = xtk (6 * i + v)) (ho : ∀ v, v < 6 → yso' (6 * i + v) = yso (6 * i + v)) (H : sg_base i d xsd xva xps xpa xct xsn xtk yva yso) : sg_base i d xsd' xva' xps' xpa' xct' xsn' xtk' yva' yso' := by
  obtain ⟨h1, h2, h3, ⟨p, p1, p2, p3⟩, ⟨n, n1, n2, n3⟩⟩ := H
  refine ⟨h1, esd.trans h2, ?_, ⟨p, p1, eps.trans p2, ?_⟩, ⟨n, n1, ect.trans n2, ?_⟩⟩
  · intro v hv
    rw [hx v hv, hy v hv]
    exact h3 v hv
  · intro m hm
    rw [hp m (by omega)]
    exact p3 m hm
  · intro m hm
    rw [hn m (by omega), hk m (by omega), ho m (by omega)]
    exact n3 m hm
theorem sg_flow_fr {i m sc jc jc' : Nat} {xki xpp xst xfs xin xtb xaj xat xsd xja xev xva xha xps xpa xct xsn xtk ypl ydn yas ywt yun yrs yva yha yso xst' xfs' xin' xtb' xaj' xat' xsd' xja' xev' xva' xha' xps' xpa' xct' xsn' xtk' ypl' ydn' yas' ywt' yun' yrs' yva' yha' yso' : Nat → Int32} (hm : m ≠ i) (H : sg_flow m sc jc xki xpp xst xfs xin xtb xaj xat xsd xja xev xva xha xps xpa xct xsn xtk ypl ydn yas ywt yun yrs yva yha yso) (hj : jc ≤ jc' := by omega) (o_xst : sg_out i 1 xst xst' := by first | exact sg_o_r | exact sg_o_1 | exact sg_o_u (by omega) | exact sg_o_t sg_o_1 sg_o_1 | exact sg_o_t (sg_o_u (by omega)) (sg_o_u (by omega))) (o_xfs : sg_out i 1 xfs xfs' := by first | exact sg_o_r | exact sg_o_1 | exact sg_o_u (by omega) | exact sg_o_t sg_o_1 sg_o_1 | exact sg_o_t (sg_o_u (by omega)) (sg_o_u (by omega))) (o_xin : sg_out i 1 xin xin' := by first | exact sg_o_r | exact sg_o_1 | exact sg_o_u (by omega) | exact sg_o_t sg_o_1 sg_o_1 | exact sg_o_t (sg_o_u (by omega)) (sg_o_u (by omega))) (o_xtb : sg_out i 1 xtb xtb' := by first | exact sg_o_r | exact sg_o_1 | exact sg_o_u (by omega) | exact sg_o_t sg_o_1 sg_o_1 | exact sg_o_t (sg_o_u (by omega)) (sg_o_u (by omega))) (o_xaj : sg_out i 1 xaj xaj' := by first | exact sg_o_r | exact sg_o_1 | exact sg_o_u (by omega) | exact sg_o_t sg_o_1 sg_o_1 | exact sg_o_t (sg_o_u (by omega)) (sg_o_u (by omega))) (o_xat : sg_out i 1 xat xat' := by first | exact sg_o_r | exact sg_o_1 | exact sg_o_u (by omega) | exact sg_o_t sg_o_1 sg_o_1 | exact sg_o_t (sg_o_u (by omega)) (sg_o_u (by omega))) (o_xsd : sg_out i 1 xsd xsd' := by first | exact sg_o_r | exact sg_o_1 | exact sg_o_u (by omega) | exact sg_o_t sg_o_1 sg_o_1 | exact sg_o_t (sg_o_u (by omega)) (sg_o_u (by omega))) (o_xja : sg_out i 1 xja xja' := by first | exact sg_o_r | exact sg_o_1 | exact sg_o_u (by omega) | exact sg_o_t sg_o_1 sg_o_1 | exact sg_o_t (sg_o_u (by omega)) (sg_o_u (by omega))) (o_xev : sg_out i 1 xev xev' := by first | exact sg_o_r | exact sg_o_1 | exact sg_o_u (by omega) | exact sg_o_t sg_o_1 sg_o_1 | exact sg_o_t (sg_o_u (by omega)) (sg_o_u (by omega))) (o_xva : sg_out i 4 xva xva' := by first | exact sg_o_r | exact sg_o_1 | exact sg_o_u (by omega) | exact sg_o_t sg_o_1 sg_o_1 | exact sg_o_t (sg_o_u (by omega)) (sg_o_u (by omega))) (o_xha : sg_out i 3 xha xha' := by first | exact sg_o_r | exact sg_o_1 | exact sg_o_u (by omega) | exact sg_o_t sg_o_1 sg_o_1 | exact sg_o_t (sg_o_u (by omega)) (sg_o_u (by omega))) (o_xps : sg_out i 1 xps xps' := by first | exact sg_o_r | exact sg_o_1 | exact sg_o_u (by omega) | exact sg_o_t sg_o_1 sg_o_1 | exact sg_o_t (sg_o_u (by omega)) (sg_o_u (by omega))) (o_xpa : sg_out i 200 xpa xpa' := by first | exact sg_o_r | exact sg_o_1 | exact sg_o_u (by omega) | exact sg_o_t sg_o_1 sg_o_1 | exact sg_o_t (sg_o_u (by omega)) (sg_o_u (by omega))) (o_xct : sg_out i 1 xct xct' := by first | exact sg_o_r | exact sg_o_1 | exact sg_o_u (by omega) | exact sg_o_t sg_o_1 sg_o_1 | exact sg_o_t (sg_o_u (by omega)) (sg_o_u (by omega))) (o_xsn : sg_out i 6 xsn xsn' := by first | exact sg_o_r | exact sg_o_1 | exact sg_o_u (by omega) | exact sg_o_t sg_o_1 sg_o_1 | exact sg_o_t (sg_o_u (by omega)) (sg_o_u (by omega))) (o_xtk : sg_out i 6 xtk xtk' := by first | exact sg_o_r | exact sg_o_1 | exact sg_o_u (by omega) | exact sg_o_t sg_o_1 sg_o_1 | exact sg_o_t (sg_o_u (by omega)) (sg_o_u (by omega))) (o_ypl : sg_out i 1 ypl ypl' := by first | exact sg_o_r | exact sg_o_1 | exact sg_o_u (by omega) | exact sg_o_t sg_o_1 sg_o_1 | exact sg_o_t (sg_o_u (by omega)) (sg_o_u (by omega))) (o_ydn : sg_out i 1 ydn ydn' := by first | exact sg_o_r | exact sg_o_1 | exact sg_o_u (by omega) | exact sg_o_t sg_o_1 sg_o_1 | exact sg_o_t (sg_o_u (by omega)) (sg_o_u (by omega))) (o_yas : sg_out i 1 yas yas' := by first | exact sg_o_r | exact sg_o_1 | exact sg_o_u (by omega) | exact sg_o_t sg_o_1 sg_o_1 | exact sg_o_t (sg_o_u (by omega)) (sg_o_u (by omega))) (o_ywt : sg_out i 1 ywt ywt' := by first | exact sg_o_r | exact sg_o_1 | exact sg_o_u (by omega) | exact sg_o_t sg_o_1 sg_o_1 | exact sg_o_t (sg_o_u (by omega)) (sg_o_u (by omega))) (o_yun : sg_out i 1 yun yun' := by first | exact sg_o_r | exact sg_o_1 | exact sg_o_u (by omega) | exact sg_o_t sg_o_1 sg_o_1 | exact sg_o_t (sg_o_u (by omega)) (sg_o_u (by omega))) (o_yrs : sg_out i 1 yrs yrs' := by first | exact sg_o_r | exact sg_o_1 | exact sg_o_u (by omega) | exact sg_o_t sg_o_1 sg_o_1 | exact sg_o_t (sg_o_u (by omega)) (sg_o_u (by omega))) (o_yva : sg_out i 4 yva yva' := by first | exact sg_o_r | exact sg_o_1 | exact sg_o_u (by omega) | exact sg_o_t sg_o_1 sg_o_1 | exact sg_o_t (sg_o_u (by omega)) (sg_o_u (by omega))) (o_yha : sg_out i 3 yha yha' := by first | exact sg_o_r | exact sg_o_1 | exact sg_o_u (by omega) | exact sg_o_t sg_o_1 sg_o_1 | exact sg_o_t (sg_o_u (by omega)) (sg_o_u (by omega))) (o_yso : sg_out i 6 yso yso' := by first | exact sg_o_r | exact sg_o_1 | exact sg_o_u (by omega) | exact sg_o_t sg_o_1 sg_o_1 | exact sg_o_t (sg_o_u (by omega)) (sg_o_u (by omega))) : sg_flow m sc jc' xki xpp xst' xfs' xin' xtb' xaj' xat' xsd' xja' xev' xva' xha' xps' xpa' xct' xsn' xtk' ypl' ydn' yas' ywt' yun' yrs' yva' yha' yso' := by
  have e_xst := sg_o_at1 o_xst hm
  have e_xfs := sg_o_at1 o_xfs hm
  have e_xin := sg_o_at1 o_xin hm
  have e_xtb := sg_o_at1 o_xtb hm
  have e_xaj := sg_o_at1 o_xaj hm
  have e_xat := sg_o_at1 o_xat hm
  have e_xsd := sg_o_at1 o_xsd hm
  have e_xja := sg_o_at1 o_xja hm
  have e_xev := sg_o_at1 o_xev hm
  have e_xva : ∀ v, v < 4 → xva' (4 * m + v) = xva (4 * m + v) := fun v hv => sg_o_at o_xva hm hv
  have e_xha : ∀ v, v < 3 → xha' (3 * m + v) = xha (3 * m + v) := fun v hv => sg_o_at o_xha hm hv
  have e_xps := sg_o_at1 o_xps hm
  have e_xpa : ∀ v, v < 200 → xpa' (200 * m + v) = xpa (200 * m + v) := fun v hv => sg_o_at o_xpa hm hv
  have e_xct := sg_o_at1 o_xct hm
  have e_xsn : ∀ v, v < 6 → xsn' (6 * m + v) = xsn (6 * m + v) := fun v hv => sg_o_at o_xsn hm hv
  have e_xtk : ∀ v, v < 6 → xtk' (6 * m + v) = xtk (6 * m + v) := fun v hv => sg_o_at o_xtk hm hv
  have e_ypl := sg_o_at1 o_ypl hm
  have e_ydn := sg_o_at1 o_ydn hm
  have e_yas := sg_o_at1 o_yas hm
  have e_ywt := sg_o_at1 o_ywt hm
  have e_yun := sg_o_at1 o_yun hm
  have e_yrs := sg_o_at1 o_yrs hm
  have e_yva : ∀ v, v < 4 → yva' (4 * m + v) = yva (4 * m + v) := fun v hv => sg_o_at o_yva hm hv
  have e_yha : ∀ v, v < 3 → yha' (3 * m + v) = yha (3 * m + v) := fun v hv => sg_o_at o_yha hm hv
  have e_yso : ∀ v, v < 6 → yso' (6 * m + v) = yso (6 * m + v) := fun v hv => sg_o_at o_yso hm hv
  rcases H with ⟨h1, h2, h3, h4, h5, h6, h7, h8, h9, hv, hh⟩ | ⟨d, hb, H⟩
  · exact Or.inl ⟨e_xst.trans h1, e_xfs.trans h2, e_xin.trans h3, e_xtb.trans h4, e_xsd.trans h5, e_xja.trans h6, e_xev.trans h7, e_xps.trans h8, e_xct.trans h9, fun v z => (e_xva v z).trans (hv v z), fun h z => (e_xha h z).trans (hh h z)⟩
  · refine Or.inr ⟨d, sg_base_fr e_xsd e_xps e_xct e_xva e_yva e_xpa e_xsn e_xtk e_yso hb, ?_⟩
    rcases H with ⟨s, s1, s2, s3, s4⟩ | ⟨md, f, hmd, h1, h2, h3, h4, h5, h6, h7, h8⟩
    · exact Or.inl ⟨s, s1, s2, e_xst.trans s3, by rw [e_xev, e_yrs]; exact s4⟩
    · refine Or.inr ⟨md, f, hmd, e_xst.trans h1, e_xev.trans h2, h3, e_xfs.trans h4, e_ypl.trans h5, by rw [e_ydn, e_xsd]; exact h6, by rw [e_yas, e_xja]; exact h7, ?_⟩
      rw [e_xin, e_xtb, e_xaj, e_xat, e_ywt, e_yun]
      exact sg_ctl_fr hj e_xha e_yha h8
/-! the jobs -/
theorem sg_jas_le {jc : Nat} {ja : Nat → Int32} (h : sg_jas jc ja) : jc ≤ 90 := by
  obtain ⟨h1, h2⟩ := h
  obtain ⟨a, a1, a2⟩ := h1 0 (by omega)
  obtain ⟨b, b1, b2⟩ := h1 1 (by omega)
  obtain ⟨c, c1, c2⟩ := h1 2 (by omega)
  rw [a2, b2, c2, nI_clamp (by omega), nI_clamp (by omega), nI_clamp (by omega)] at h2
  omega
theorem sg_jas_inc {jc i q : Nat} {ja : Nat → Int32} (h : sg_jas jc ja) (hi : i < 3) (hq : q < 30) (e : ja i = nI q) : jc < 90 ∧ sg_jas (jc + 1) (upd ja i (nI (q + 1))) := by
  have key : sg_jas (jc + 1) (upd ja i (nI (q + 1))) := by
    obtain ⟨h1, h2⟩ := h
    refine ⟨fun m hm => ?_, ?_⟩
    · by_cases c : m = i
      · subst c; exact ⟨q + 1, by omega, pk_us⟩
      · rw [pk_un c]; exact h1 m hm
    · obtain rfl | rfl | rfl : i = 0 ∨ i = 1 ∨ i = 2 := by omega
      · rw [pk_us, pk_un (by omega), pk_un (by omega), nI_clamp (by omega), h2, e, nI_clamp (by omega)]; omega
      · rw [pk_us, pk_un (by omega), pk_un (by omega), nI_clamp (by omega), h2, e, nI_clamp (by omega)]; omega
      · rw [pk_us, pk_un (by omega), pk_un (by omega), nI_clamp (by omega), h2, e, nI_clamp (by omega)]; omega
  have := sg_jas_le key
  exact ⟨by omega, key⟩
theorem sg_jobs_ask {t jc a : Nat} {se ac en ou uw ra ea ho wh : Nat → Int32} (hs : sg_set se) (h : sg_jobs t jc se ac en ou uw ra ea ho wh) (ha : a < 4) : sg_jobs t (jc + 1) se (upd ac jc (nI a)) (upd en jc 0) (upd ou jc (-1)) (upd uw jc 0) (upd ra jc (nI t)) ea (upd ho jc 1) (upd wh jc (nI t)) := by
  intro j hj
  by_cases c : j = jc
  · subst c
    simp only [pk_us]
    obtain ⟨w, y, d, f, _, ⟨y1, y2, y3⟩, _⟩ := hs a ha
    refine ⟨a, 0, ha, rfl, by omega, rfl, fun _ => ?_, Or.inr (Or.inl ⟨rfl, rfl, rfl, rfl, Int32.le_refl _⟩)⟩
    rw [y3]
    exact nI_lt (by omega) (by omega)
  · simp only [pk_un c]
    exact h j (by omega)
theorem sg_jobs_en {t jc : Nat} {se ac en ou uw ra ea ho wh : Nat → Int32} (h : sg_jobs t jc se ac en ou uw ra ea ho wh) : ∀ j, j < jc → ∃ e, e ≤ 4 ∧ en j = nI e := by
  intro j hj
  obtain ⟨a, e, _, _, h4, h5, _⟩ := h j hj
  exact ⟨e, h4, h5⟩
/-! from a mode to the relation -/
theorem sg_W_R {md i d t : Nat} {u : SX} {v : SY} (hi : i < 3) (hmd : md = 1 ∨ md = 2 ∨ md = 3) (H : sg_W md i d t u v) : sg_R t u v := by
  obtain ⟨xsc, xnow, xjc, xec, xse, xki, xpp, xqq, xrr, xst, xfs, xin, xtb, xaj, xat, xsd, xja, xev, xva, xha, xps, xpa, xpi, xct, xsn, xsv, xtk, xac, xji, xou, xen, xuw, xra, xea, xtj, xte⟩ := u
  obtain ⟨ysc, ynow, yjc, yec, yse, yss, yac, yji, yen, yho, ywh, ytj, yte, yst, ypl, ydn, yas, ywt, yun, yrs, yva, yha, ypa, ypi, yps, yso, ysv, yct⟩ := v
  obtain ⟨sc, jc, hg, hf, hb, f, ha⟩ := H
  refine ⟨sc, jc, hg, fun m hm => ?_⟩
  by_cases c : m = i
  · subst c
    exact Or.inr ⟨d, hb, Or.inr ⟨md, f, hmd, ha⟩⟩
  · exact hf m hm c
end
section
theorem sg_shift : ∀ d, d < 10 → ∀ e, e < 4 → nI d <<< ((nI (e + 1) - 1) &&& 31) = nI d * ((1 : Int32) <<< ((nI (e + 1) - 1) &&& 31)) := by decide +kernel
theorem sg_x4 (i p : Nat) : nI i * 4 + nI p = nI (4 * i + p) := by
  rw [show (4 : Int32) = nI 4 from rfl, pk_mul, nI_add, Nat.mul_comm]
theorem sg_y4 (i p : Nat) : 4 * nI i + nI p = nI (4 * i + p) := by
  rw [show (4 : Int32) = nI 4 from rfl, pk_mul, nI_add]
theorem sg_x3 (i p : Nat) : nI i * 3 + nI p = nI (3 * i + p) := by
  rw [show (3 : Int32) = nI 3 from rfl, pk_mul, nI_add, Nat.mul_comm]
theorem sg_y3 (i p : Nat) : 3 * nI i + nI p = nI (3 * i + p) := by
  rw [show (3 : Int32) = nI 3 from rfl, pk_mul, nI_add]
theorem sg_x6 (i p : Nat) : nI i * 6 + nI p = nI (6 * i + p) := by
  rw [show (6 : Int32) = nI 6 from rfl, pk_mul, nI_add, Nat.mul_comm]
theorem sg_y6 (i p : Nat) : 6 * nI i + nI p = nI (6 * i + p) := by
  rw [show (6 : Int32) = nI 6 from rfl, pk_mul, nI_add]
theorem sg_x7 (i p : Nat) : nI i * 7 + nI p = nI (7 * i + p) := by
  rw [show (7 : Int32) = nI 7 from rfl, pk_mul, nI_add, Nat.mul_comm]
theorem sg_y7 (i p : Nat) : 7 * nI i + nI p = nI (7 * i + p) := by
  rw [show (7 : Int32) = nI 7 from rfl, pk_mul, nI_add]
theorem sg_x200 (i p : Nat) : nI i * 200 + nI p = nI (200 * i + p) := by
  rw [show (200 : Int32) = nI 200 from rfl, pk_mul, nI_add, Nat.mul_comm]
theorem sg_y200 (i p : Nat) : 200 * nI i + nI p = nI (200 * i + p) := by
  rw [show (200 : Int32) = nI 200 from rfl, pk_mul, nI_add]
theorem sg_m4 (i : Nat) : nI i * 4 = nI (4 * i) := by
  rw [show (4 : Int32) = nI 4 from rfl, pk_mul, Nat.mul_comm]
theorem sg_m4' (i : Nat) : 4 * nI i = nI (4 * i) := by
  rw [show (4 : Int32) = nI 4 from rfl, pk_mul]
theorem sg_m3 (i : Nat) : nI i * 3 = nI (3 * i) := by
  rw [show (3 : Int32) = nI 3 from rfl, pk_mul, Nat.mul_comm]
theorem sg_m3' (i : Nat) : 3 * nI i = nI (3 * i) := by
  rw [show (3 : Int32) = nI 3 from rfl, pk_mul]
theorem sg_m6 (i : Nat) : nI i * 6 = nI (6 * i) := by
  rw [show (6 : Int32) = nI 6 from rfl, pk_mul, Nat.mul_comm]
theorem sg_m6' (i : Nat) : 6 * nI i = nI (6 * i) := by
  rw [show (6 : Int32) = nI 6 from rfl, pk_mul]
theorem sg_m7 (i : Nat) : nI i * 7 = nI (7 * i) := by
  rw [show (7 : Int32) = nI 7 from rfl, pk_mul, Nat.mul_comm]
theorem sg_m7' (i : Nat) : 7 * nI i = nI (7 * i) := by
  rw [show (7 : Int32) = nI 7 from rfl, pk_mul]
theorem sg_m200 (i : Nat) : nI i * 200 = nI (200 * i) := by
  rw [show (200 : Int32) = nI 200 from rfl, pk_mul, Nat.mul_comm]
theorem sg_m200' (i : Nat) : 200 * nI i = nI (200 * i) := by
  rw [show (200 : Int32) = nI 200 from rfl, pk_mul]
theorem sg_a1 (n : Nat) : nI n + 1 = nI (n + 1) := nI_add n 1
theorem sg_a2 (n : Nat) : nI n + 2 = nI (n + 2) := nI_add n 2
theorem sg_a3 (n : Nat) : nI n + 3 = nI (n + 3) := nI_add n 3
theorem sg_a4 (n : Nat) : nI n + 4 = nI (n + 4) := nI_add n 4
theorem sg_a5 (n : Nat) : nI n + 5 = nI (n + 5) := nI_add n 5
theorem sg_a6 (n : Nat) : nI n + 6 = nI (n + 6) := nI_add n 6
/-- a job is changed, the others stay -/
theorem sg_jobs_upd {t jc j : Nat} {se ac en ou uw ra ea ho wh en' ou' uw' ra' ea' ho' wh' : Nat → Int32} (h : sg_jobs t jc se ac en ou uw ra ea ho wh)
    (hne : ∀ m, m ≠ j → en' m = en m ∧ ou' m = ou m ∧ uw' m = uw m ∧ ra' m = ra m ∧ ea' m = ea m ∧ ho' m = ho m ∧ wh' m = wh m)
    (hj : ∀ a e, a < 4 → ac j = nI a → e ≤ 4 → en j = nI e → (ou j = -1 → nI e < se (7 * a + 2)) → ∃ e', e' ≤ 4 ∧ en' j = nI e' ∧ (ou' j = -1 → nI e' < se (7 * a + 2)) ∧ sg_how t (ou' j) (uw' j) (ra' j) (ea' j) (ho' j) (wh' j)) :
    sg_jobs t jc se ac en' ou' uw' ra' ea' ho' wh' := by
  intro m hm
  obtain ⟨a, e, h1, h2, h3, h4, h5, h6⟩ := h m hm
  by_cases c : m = j
  · subst c
    obtain ⟨e', g1, g2, g3, g4⟩ := hj a e h1 h2 h3 h4 h5
    exact ⟨a, e', h1, h2, g1, g2, g3, g4⟩
  · obtain ⟨k1, k2, k3, k4, k5, k6, k7⟩ := hne m c
    rw [k1, k2, k3, k4, k5, k6, k7]
    exact ⟨a, e, h1, h2, h3, h4, h5, h6⟩
theorem sg_how_up {t : Nat} {ou uw ra ea ho wh : Int32} (ht : t + 1 < 2 ^ 31) (h : sg_how t ou uw ra ea ho wh) : sg_how (t + 1) ou uw ra ea ho wh := by
  rcases h with h | ⟨h1, h2, h3, h4, h5⟩ | h
  · exact Or.inl h
  · exact Or.inr (Or.inl ⟨h1, h2, h3, h4, Int32.le_trans h5 (nI_le (by omega) ht)⟩)
  · exact Or.inr (Or.inr h)
theorem sg_jobs_up {t jc : Nat} {se ac en ou uw ra ea ho wh : Nat → Int32} (ht : t + 1 < 2 ^ 31) (h : sg_jobs t jc se ac en ou uw ra ea ho wh) : sg_jobs (t + 1) jc se ac en ou uw ra ea ho wh := by
  intro j hj
  obtain ⟨a, e, h1, h2, h3, h4, h5, h6⟩ := h j hj
  exact ⟨a, e, h1, h2, h3, h4, h5, sg_how_up ht h6⟩
theorem sg_inT {n N : Nat} (h : n < N) (hN : N < 2 ^ 31) : vp_in (nI n) N = True := eq_true (vp_in_nI h hN)
theorem sg_eqF {a b : Nat} (h : a ≠ b) (ha : a < 2 ^ 31) (hb : b < 2 ^ 31) : (nI a = nI b) = False := eq_false (fun z => h ((nI_eq ha hb).mp z))
theorem sg_ltT {a b : Nat} (h : a < b) (hb : b < 2 ^ 31) : (nI a < nI b) = True := eq_true (nI_lt h hb)
theorem sg_ltF {a b : Nat} (h : b ≤ a) (ha : a < 2 ^ 31) : (nI a < nI b) = False := eq_false (nI_nlt h ha)
theorem sg_leT {a b : Nat} (h : a ≤ b) (hb : b < 2 ^ 31) : (nI a ≤ nI b) = True := eq_true (nI_le h hb)
theorem sg_leF {a b : Nat} (h : b < a) (ha : a < 2 ^ 31) : (nI a ≤ nI b) = False := eq_false (nI_ge h ha)
theorem sg_z0 {a : Nat} (h : 0 < a) (ha : a < 2 ^ 31) : (nI a = 0) = False := eq_false (nI_ne0 h ha)
theorem sg_neg {a : Nat} (ha : a < 2 ^ 31) : (nI a < 0) = False := eq_false (nI_pos ha)
theorem sg_nn {a : Nat} (ha : a < 2 ^ 31) : (0 ≤ nI a) = True := eq_true (nI_pos' ha)
theorem sg_nm1 {a : Nat} (ha : a < 2 ^ 31) : (nI a = -1) = False := eq_false (sg_ne1 ha)
theorem sg_lt0 : ¬ (0 : Int32) = 1 ∧ ¬ (0 : Int32) = 2 ∧ ¬ (0 : Int32) = 3 ∧ ¬ (0 : Int32) = 4 ∧ ¬ (0 : Int32) = 5 ∧ ¬ (0 : Int32) = 6 ∧ ¬ (0 : Int32) = 7 ∧ ¬ (0 : Int32) = 8 ∧ ¬ (0 : Int32) = 9 ∧ ¬ (0 : Int32) = 10 ∧ ¬ (0 : Int32) = 11 ∧ ¬ (0 : Int32) = 12 := by
  refine ⟨?_, ?_, ?_, ?_, ?_, ?_, ?_, ?_, ?_, ?_, ?_, ?_⟩ <;> decide
theorem sg_lt1 : ¬ (1 : Int32) = 0 ∧ ¬ (1 : Int32) = 2 ∧ ¬ (1 : Int32) = 3 ∧ ¬ (1 : Int32) = 4 ∧ ¬ (1 : Int32) = 5 ∧ ¬ (1 : Int32) = 6 ∧ ¬ (1 : Int32) = 7 ∧ ¬ (1 : Int32) = 8 ∧ ¬ (1 : Int32) = 9 ∧ ¬ (1 : Int32) = 10 ∧ ¬ (1 : Int32) = 11 ∧ ¬ (1 : Int32) = 12 := by
  refine ⟨?_, ?_, ?_, ?_, ?_, ?_, ?_, ?_, ?_, ?_, ?_, ?_⟩ <;> decide
theorem sg_lt2 : ¬ (2 : Int32) = 0 ∧ ¬ (2 : Int32) = 1 ∧ ¬ (2 : Int32) = 3 ∧ ¬ (2 : Int32) = 4 ∧ ¬ (2 : Int32) = 5 ∧ ¬ (2 : Int32) = 6 ∧ ¬ (2 : Int32) = 7 ∧ ¬ (2 : Int32) = 8 ∧ ¬ (2 : Int32) = 9 ∧ ¬ (2 : Int32) = 10 ∧ ¬ (2 : Int32) = 11 ∧ ¬ (2 : Int32) = 12 := by
  refine ⟨?_, ?_, ?_, ?_, ?_, ?_, ?_, ?_, ?_, ?_, ?_, ?_⟩ <;> decide
theorem sg_lt3 : ¬ (3 : Int32) = 0 ∧ ¬ (3 : Int32) = 1 ∧ ¬ (3 : Int32) = 2 ∧ ¬ (3 : Int32) = 4 ∧ ¬ (3 : Int32) = 5 ∧ ¬ (3 : Int32) = 6 ∧ ¬ (3 : Int32) = 7 ∧ ¬ (3 : Int32) = 8 ∧ ¬ (3 : Int32) = 9 ∧ ¬ (3 : Int32) = 10 ∧ ¬ (3 : Int32) = 11 ∧ ¬ (3 : Int32) = 12 := by
  refine ⟨?_, ?_, ?_, ?_, ?_, ?_, ?_, ?_, ?_, ?_, ?_, ?_⟩ <;> decide
theorem sg_lt4 : ¬ (4 : Int32) = 0 ∧ ¬ (4 : Int32) = 1 ∧ ¬ (4 : Int32) = 2 ∧ ¬ (4 : Int32) = 3 ∧ ¬ (4 : Int32) = 5 ∧ ¬ (4 : Int32) = 6 ∧ ¬ (4 : Int32) = 7 ∧ ¬ (4 : Int32) = 8 ∧ ¬ (4 : Int32) = 9 ∧ ¬ (4 : Int32) = 10 ∧ ¬ (4 : Int32) = 11 ∧ ¬ (4 : Int32) = 12 := by
  refine ⟨?_, ?_, ?_, ?_, ?_, ?_, ?_, ?_, ?_, ?_, ?_, ?_⟩ <;> decide
theorem sg_lt5 : ¬ (5 : Int32) = 0 ∧ ¬ (5 : Int32) = 1 ∧ ¬ (5 : Int32) = 2 ∧ ¬ (5 : Int32) = 3 ∧ ¬ (5 : Int32) = 4 ∧ ¬ (5 : Int32) = 6 ∧ ¬ (5 : Int32) = 7 ∧ ¬ (5 : Int32) = 8 ∧ ¬ (5 : Int32) = 9 ∧ ¬ (5 : Int32) = 10 ∧ ¬ (5 : Int32) = 11 ∧ ¬ (5 : Int32) = 12 := by
  refine ⟨?_, ?_, ?_, ?_, ?_, ?_, ?_, ?_, ?_, ?_, ?_, ?_⟩ <;> decide
theorem sg_lt6 : ¬ (6 : Int32) = 0 ∧ ¬ (6 : Int32) = 1 ∧ ¬ (6 : Int32) = 2 ∧ ¬ (6 : Int32) = 3 ∧ ¬ (6 : Int32) = 4 ∧ ¬ (6 : Int32) = 5 ∧ ¬ (6 : Int32) = 7 ∧ ¬ (6 : Int32) = 8 ∧ ¬ (6 : Int32) = 9 ∧ ¬ (6 : Int32) = 10 ∧ ¬ (6 : Int32) = 11 ∧ ¬ (6 : Int32) = 12 := by
  refine ⟨?_, ?_, ?_, ?_, ?_, ?_, ?_, ?_, ?_, ?_, ?_, ?_⟩ <;> decide
theorem sg_lt7 : ¬ (7 : Int32) = 0 ∧ ¬ (7 : Int32) = 1 ∧ ¬ (7 : Int32) = 2 ∧ ¬ (7 : Int32) = 3 ∧ ¬ (7 : Int32) = 4 ∧ ¬ (7 : Int32) = 5 ∧ ¬ (7 : Int32) = 6 ∧ ¬ (7 : Int32) = 8 ∧ ¬ (7 : Int32) = 9 ∧ ¬ (7 : Int32) = 10 ∧ ¬ (7 : Int32) = 11 ∧ ¬ (7 : Int32) = 12 := by
  refine ⟨?_, ?_, ?_, ?_, ?_, ?_, ?_, ?_, ?_, ?_, ?_, ?_⟩ <;> decide
theorem sg_lt8 : ¬ (8 : Int32) = 0 ∧ ¬ (8 : Int32) = 1 ∧ ¬ (8 : Int32) = 2 ∧ ¬ (8 : Int32) = 3 ∧ ¬ (8 : Int32) = 4 ∧ ¬ (8 : Int32) = 5 ∧ ¬ (8 : Int32) = 6 ∧ ¬ (8 : Int32) = 7 ∧ ¬ (8 : Int32) = 9 ∧ ¬ (8 : Int32) = 10 ∧ ¬ (8 : Int32) = 11 ∧ ¬ (8 : Int32) = 12 := by
  refine ⟨?_, ?_, ?_, ?_, ?_, ?_, ?_, ?_, ?_, ?_, ?_, ?_⟩ <;> decide
theorem sg_lt9 : ¬ (9 : Int32) = 0 ∧ ¬ (9 : Int32) = 1 ∧ ¬ (9 : Int32) = 2 ∧ ¬ (9 : Int32) = 3 ∧ ¬ (9 : Int32) = 4 ∧ ¬ (9 : Int32) = 5 ∧ ¬ (9 : Int32) = 6 ∧ ¬ (9 : Int32) = 7 ∧ ¬ (9 : Int32) = 8 ∧ ¬ (9 : Int32) = 10 ∧ ¬ (9 : Int32) = 11 ∧ ¬ (9 : Int32) = 12 := by
  refine ⟨?_, ?_, ?_, ?_, ?_, ?_, ?_, ?_, ?_, ?_, ?_, ?_⟩ <;> decide
theorem sg_lt10 : ¬ (10 : Int32) = 0 ∧ ¬ (10 : Int32) = 1 ∧ ¬ (10 : Int32) = 2 ∧ ¬ (10 : Int32) = 3 ∧ ¬ (10 : Int32) = 4 ∧ ¬ (10 : Int32) = 5 ∧ ¬ (10 : Int32) = 6 ∧ ¬ (10 : Int32) = 7 ∧ ¬ (10 : Int32) = 8 ∧ ¬ (10 : Int32) = 9 ∧ ¬ (10 : Int32) = 11 ∧ ¬ (10 : Int32) = 12 := by
  refine ⟨?_, ?_, ?_, ?_, ?_, ?_, ?_, ?_, ?_, ?_, ?_, ?_⟩ <;> decide
theorem sg_lt11 : ¬ (11 : Int32) = 0 ∧ ¬ (11 : Int32) = 1 ∧ ¬ (11 : Int32) = 2 ∧ ¬ (11 : Int32) = 3 ∧ ¬ (11 : Int32) = 4 ∧ ¬ (11 : Int32) = 5 ∧ ¬ (11 : Int32) = 6 ∧ ¬ (11 : Int32) = 7 ∧ ¬ (11 : Int32) = 8 ∧ ¬ (11 : Int32) = 9 ∧ ¬ (11 : Int32) = 10 ∧ ¬ (11 : Int32) = 12 := by
  refine ⟨?_, ?_, ?_, ?_, ?_, ?_, ?_, ?_, ?_, ?_, ?_, ?_⟩ <;> decide
theorem sg_lt12 : ¬ (12 : Int32) = 0 ∧ ¬ (12 : Int32) = 1 ∧ ¬ (12 : Int32) = 2 ∧ ¬ (12 : Int32) = 3 ∧ ¬ (12 : Int32) = 4 ∧ ¬ (12 : Int32) = 5 ∧ ¬ (12 : Int32) = 6 ∧ ¬ (12 : Int32) = 7 ∧ ¬ (12 : Int32) = 8 ∧ ¬ (12 : Int32) = 9 ∧ ¬ (12 : Int32) = 10 ∧ ¬ (12 : Int32) = 11 := by
  refine ⟨?_, ?_, ?_, ?_, ?_, ?_, ?_, ?_, ?_, ?_, ?_, ?_⟩ <;> decide
theorem sg_lits : (¬ (0 : Int32) = 1 ∧ ¬ (0 : Int32) = 2 ∧ ¬ (0 : Int32) = 3 ∧ ¬ (0 : Int32) = 4 ∧ ¬ (0 : Int32) = 5 ∧ ¬ (0 : Int32) = 6 ∧ ¬ (0 : Int32) = 7 ∧ ¬ (0 : Int32) = 8 ∧ ¬ (0 : Int32) = 9 ∧ ¬ (0 : Int32) = 10 ∧ ¬ (0 : Int32) = 11 ∧ ¬ (0 : Int32) = 12) ∧ (¬ (1 : Int32) = 0 ∧ ¬ (1 : Int32) = 2 ∧ ¬ (1 : Int32) = 3 ∧ ¬ (1 : Int32) = 4 ∧ ¬ (1 : Int32) = 5 ∧ ¬ (1 : Int32) = 6 ∧ ¬ (1 : Int32) = 7 ∧ ¬ (1 : Int32) = 8 ∧ ¬ (1 : Int32) = 9 ∧ ¬ (1 : Int32) = 10 ∧ ¬ (1 : Int32) = 11 ∧ ¬ (1 : Int32) = 12) ∧ (¬ (2 : Int32) = 0 ∧ ¬ (2 : Int32) = 1 ∧ ¬ (2 : Int32) = 3 ∧ ¬ (2 : Int32) = 4 ∧ ¬ (2 : Int32) = 5 ∧ ¬ (2 : Int32) = 6 ∧ ¬ (2 : Int32) = 7 ∧ ¬ (2 : Int32) = 8 ∧ ¬ (2 : Int32) = 9 ∧ ¬ (2 : Int32) = 10 ∧ ¬ (2 : Int32) = 11 ∧ ¬ (2 : Int32) = 12) ∧ (¬ (3 : Int32) = 0 ∧ ¬ (3 : Int32) = 1 ∧ ¬ (3 : Int32) = 2 ∧ ¬ (3 : Int32) = 4 ∧ ¬ (3 : Int32) = 5 ∧ ¬ (3 : Int32) = 6 ∧ ¬ (3 : Int32) = 7 ∧ ¬ (3 : Int32) = 8 ∧ ¬ (3 : Int32) = 9 ∧ ¬ (3 : Int32) = 10 ∧ ¬ (3 : Int32) = 11 ∧ ¬ (3 : Int32) = 12) ∧ (¬ (4 : Int32) = 0 ∧ ¬ (4 : Int32) = 1 ∧ ¬ (4 : Int32) = 2 ∧ ¬ (4 : Int32) = 3 ∧ ¬ (4 : Int32) = 5 ∧ ¬ (4 : Int32) = 6 ∧ ¬ (4 : Int32) = 7 ∧ ¬ (4 : Int32) = 8 ∧ ¬ (4 : Int32) = 9 ∧ ¬ (4 : Int32) = 10 ∧ ¬ (4 : Int32) = 11 ∧ ¬ (4 : Int32) = 12) ∧ (¬ (5 : Int32) = 0 ∧ ¬ (5 : Int32) = 1 ∧ ¬ (5 : Int32) = 2 ∧ ¬ (5 : Int32) = 3 ∧ ¬ (5 : Int32) = 4 ∧ ¬ (5 : Int32) = 6 ∧ ¬ (5 : Int32) = 7 ∧ ¬ (5 : Int32) = 8 ∧ ¬ (5 : Int32) = 9 ∧ ¬ (5 : Int32) = 10 ∧ ¬ (5 : Int32) = 11 ∧ ¬ (5 : Int32) = 12) ∧ (¬ (6 : Int32) = 0 ∧ ¬ (6 : Int32) = 1 ∧ ¬ (6 : Int32) = 2 ∧ ¬ (6 : Int32) = 3 ∧ ¬ (6 : Int32) = 4 ∧ ¬ (6 : Int32) = 5 ∧ ¬ (6 : Int32) = 7 ∧ ¬ (6 : Int32) = 8 ∧ ¬ (6 : Int32) = 9 ∧ ¬ (6 : Int32) = 10 ∧ ¬ (6 : Int32) = 11 ∧ ¬ (6 : Int32) = 12) ∧ (¬ (7 : Int32) = 0 ∧ ¬ (7 : Int32) = 1 ∧ ¬ (7 : Int32) = 2 ∧ ¬ (7 : Int32) = 3 ∧ ¬ (7 : Int32) = 4 ∧ ¬ (7 : Int32) = 5 ∧ ¬ (7 : Int32) = 6 ∧ ¬ (7 : Int32) = 8 ∧ ¬ (7 : Int32) = 9 ∧ ¬ (7 : Int32) = 10 ∧ ¬ (7 : Int32) = 11 ∧ ¬ (7 : Int32) = 12) ∧ (¬ (8 : Int32) = 0 ∧ ¬ (8 : Int32) = 1 ∧ ¬ (8 : Int32) = 2 ∧ ¬ (8 : Int32) = 3 ∧ ¬ (8 : Int32) = 4 ∧ ¬ (8 : Int32) = 5 ∧ ¬ (8 : Int32) = 6 ∧ ¬ (8 : Int32) = 7 ∧ ¬ (8 : Int32) = 9 ∧ ¬ (8 : Int32) = 10 ∧ ¬ (8 : Int32) = 11 ∧ ¬ (8 : Int32) = 12) ∧ (¬ (9 : Int32) = 0 ∧ ¬ (9 : Int32) = 1 ∧ ¬ (9 : Int32) = 2 ∧ ¬ (9 : Int32) = 3 ∧ ¬ (9 : Int32) = 4 ∧ ¬ (9 : Int32) = 5 ∧ ¬ (9 : Int32) = 6 ∧ ¬ (9 : Int32) = 7 ∧ ¬ (9 : Int32) = 8 ∧ ¬ (9 : Int32) = 10 ∧ ¬ (9 : Int32) = 11 ∧ ¬ (9 : Int32) = 12) ∧ (¬ (10 : Int32) = 0 ∧ ¬ (10 : Int32) = 1 ∧ ¬ (10 : Int32) = 2 ∧ ¬ (10 : Int32) = 3 ∧ ¬ (10 : Int32) = 4 ∧ ¬ (10 : Int32) = 5 ∧ ¬ (10 : Int32) = 6 ∧ ¬ (10 : Int32) = 7 ∧ ¬ (10 : Int32) = 8 ∧ ¬ (10 : Int32) = 9 ∧ ¬ (10 : Int32) = 11 ∧ ¬ (10 : Int32) = 12) ∧ (¬ (11 : Int32) = 0 ∧ ¬ (11 : Int32) = 1 ∧ ¬ (11 : Int32) = 2 ∧ ¬ (11 : Int32) = 3 ∧ ¬ (11 : Int32) = 4 ∧ ¬ (11 : Int32) = 5 ∧ ¬ (11 : Int32) = 6 ∧ ¬ (11 : Int32) = 7 ∧ ¬ (11 : Int32) = 8 ∧ ¬ (11 : Int32) = 9 ∧ ¬ (11 : Int32) = 10 ∧ ¬ (11 : Int32) = 12) ∧ (¬ (12 : Int32) = 0 ∧ ¬ (12 : Int32) = 1 ∧ ¬ (12 : Int32) = 2 ∧ ¬ (12 : Int32) = 3 ∧ ¬ (12 : Int32) = 4 ∧ ¬ (12 : Int32) = 5 ∧ ¬ (12 : Int32) = 6 ∧ ¬ (12 : Int32) = 7 ∧ ¬ (12 : Int32) = 8 ∧ ¬ (12 : Int32) = 9 ∧ ¬ (12 : Int32) = 10 ∧ ¬ (12 : Int32) = 11) := ⟨sg_lt0, sg_lt1, sg_lt2, sg_lt3, sg_lt4, sg_lt5, sg_lt6, sg_lt7, sg_lt8, sg_lt9, sg_lt10, sg_lt11, sg_lt12⟩
theorem sg_mA : ((-1 : Int32) = 0) = False := eq_false (by decide)
theorem sg_mB : ((-1 : Int32) = 1) = False := eq_false (by decide)
theorem sg_mC : ((0 : Int32) = -1) = False := eq_false (by decide)
theorem sg_mD : ((1 : Int32) = -1) = False := eq_false (by decide)
theorem sg_mE : ((-1 : Int32) < 0) = True := eq_true (by decide)
theorem sg_mF : ((0 : Int32) ≤ -1) = False := eq_false (by decide)
end
section
section
variable {xsc xnow xjc xec : Int32} {xse xki xpp xqq xrr xst xfs xin xtb xaj xat xsd xja xev xva xha xps xpa xpi xct xsn xsv xtk xac xji xou xen xuw xra xea xtj xte : Nat → Int32} {ysc ynow yjc yec : Int32} {yse yss yac yji yen yho ywh ytj yte yst ypl ydn yas ywt yun yrs yva yha ypa ypi yps yso ysv yct : Nat → Int32}
theorem sg_xask0 {i q : Nat} {a inp : Int32} {post : Int32 → SX → Prop} (hi : i < 3) (hja : xja i = nI q) (hq : ¬ q < 30) (hq2 : q ≤ 30) (hp : post (-1) (xsc, xnow, xjc, xec, xse, xki, xpp, xqq, xrr, upd xst i 5, xfs, xin, xtb, xaj, xat, xsd, xja, xev, xva, xha, xps, xpa, xpi, xct, xsn, xsv, xtk, xac, xji, xou, xen, xuw, xra, xea, xtj, xte)) : wpX_askFor post (xsc, xnow, xjc, xec, xse, xki, xpp, xqq, xrr, xst, xfs, xin, xtb, xaj, xat, xsd, xja, xev, xva, xha, xps, xpa, xpi, xct, xsn, xsv, xtk, xac, xji, xou, xen, xuw, xra, xea, xtj, xte) (nI i) a inp := by
  have ci : (nI i).toNatClampNeg = i := nI_clamp (by omega)
  have b3 : vp_in (nI i) 3 := vp_in_nI hi (by omega)
  have h30 : ¬ nI q < 30 := nI_nlt (b := 30) (by omega) (by omega)
  simp only [wpX_askFor, ci, hja, b3, h30, forall_eq, true_and, and_true, true_implies, false_implies, not_true_eq_false, not_false_eq_true, implies_true]
  exact hp
theorem sg_xask1 {i q jc : Nat} {a inp : Int32} {post : Int32 → SX → Prop} (hi : i < 3) (hja : xja i = nI q) (hq : q < 30) (hjc : jc < 90) (hp : post (nI jc) (xsc, xnow, nI (jc + 1), xec, xse, xki, xpp, xqq, xrr, xst, xfs, xin, xtb, xaj, xat, xsd, upd xja i (nI (q + 1)), xev, xva, xha, xps, xpa, xpi, xct, xsn, xsv, xtk, upd xac jc a, upd xji jc inp, upd xou jc (-1), upd xen jc 0, upd xuw jc 0, upd xra jc xnow, xea, xtj, xte)) : wpX_askFor post (xsc, xnow, nI jc, xec, xse, xki, xpp, xqq, xrr, xst, xfs, xin, xtb, xaj, xat, xsd, xja, xev, xva, xha, xps, xpa, xpi, xct, xsn, xsv, xtk, xac, xji, xou, xen, xuw, xra, xea, xtj, xte) (nI i) a inp := by
  have ci : (nI i).toNatClampNeg = i := nI_clamp (by omega)
  have cj : (nI jc).toNatClampNeg = jc := nI_clamp (by omega)
  have b3 : vp_in (nI i) 3 := vp_in_nI hi (by omega)
  have b9 : vp_in (nI jc) 90 := vp_in_nI hjc (by omega)
  have h30 : nI q < 30 := nI_lt (b := 30) (by omega) (by omega)
  simp only [wpX_askFor, ci, cj, hja, b3, b9, h30, sg_a1, sg_b0, forall_eq, true_and, and_true, true_implies, false_implies, not_true_eq_false, not_false_eq_true, implies_true]
  exact hp
theorem sg_yask0 {i q : Nat} {a inp : Int32} {post : Int32 → SY → Prop} (hi : i < 3) (hja : yas i = nI q) (hq : ¬ q < 30) (hq2 : q ≤ 30) (hp : post (-1) (ysc, ynow, yjc, yec, yse, yss, yac, yji, yen, yho, ywh, ytj, yte, upd yst i 5, ypl, ydn, yas, ywt, yun, yrs, yva, yha, ypa, ypi, yps, yso, ysv, yct)) : wpY_ask post (ysc, ynow, yjc, yec, yse, yss, yac, yji, yen, yho, ywh, ytj, yte, yst, ypl, ydn, yas, ywt, yun, yrs, yva, yha, ypa, ypi, yps, yso, ysv, yct) (nI i) a inp := by
  have ci : (nI i).toNatClampNeg = i := nI_clamp (by omega)
  have b3 : vp_in (nI i) 3 := vp_in_nI hi (by omega)
  have h30 : nI q = 30 := (nI_eq (b := 30) (by omega) (by omega)).mpr (by omega)
  simp only [wpY_ask, ci, hja, b3, h30, forall_eq, true_and, and_true, true_implies, false_implies, not_true_eq_false, not_false_eq_true, implies_true]
  exact hp
theorem sg_yask1 {i q jc : Nat} {a inp : Int32} {post : Int32 → SY → Prop} (hi : i < 3) (hja : yas i = nI q) (hq : q < 30) (hjc : jc < 90) (hp : post (nI jc) (ysc, ynow, nI (jc + 1), yec, yse, yss, upd yac jc a, upd yji jc inp, upd yen jc 0, upd yho jc 1, upd ywh jc ynow, ytj, yte, yst, ypl, ydn, upd yas i (nI (q + 1)), ywt, yun, yrs, yva, yha, ypa, ypi, yps, yso, ysv, yct)) : wpY_ask post (ysc, ynow, nI jc, yec, yse, yss, yac, yji, yen, yho, ywh, ytj, yte, yst, ypl, ydn, yas, ywt, yun, yrs, yva, yha, ypa, ypi, yps, yso, ysv, yct) (nI i) a inp := by
  have ci : (nI i).toNatClampNeg = i := nI_clamp (by omega)
  have cj : (nI jc).toNatClampNeg = jc := nI_clamp (by omega)
  have b3 : vp_in (nI i) 3 := vp_in_nI hi (by omega)
  have b9 : vp_in (nI jc) 90 := vp_in_nI hjc (by omega)
  have h30 : ¬ nI q = 30 := fun z => by
    have := (nI_eq (b := 30) (by omega) (by omega)).mp z
    omega
  simp only [wpY_ask, ci, cj, hja, b3, b9, h30, sg_a1, nI_pred, forall_eq, true_and, and_true, true_implies, false_implies, not_true_eq_false, not_false_eq_true, implies_true]
  exact hp
end
end
section
def sg_E (i : Nat) (u : SX) (v : SY) : Prop := match u with
  | (xsc, xnow, xjc, xec, xse, xki, xpp, xqq, xrr, xst, xfs, xin, xtb, xaj, xat, xsd, xja, xev, xva, xha, xps, xpa, xpi, xct, xsn, xsv, xtk, xac, xji, xou, xen, xuw, xra, xea, xtj, xte) => match v with
    | (ysc, ynow, yjc, yec, yse, yss, yac, yji, yen, yho, ywh, ytj, yte, yst, ypl, ydn, yas, ywt, yun, yrs, yva, yha, ypa, ypi, yps, yso, ysv, yct) => ¬ xst i = 1 ∧ ¬ yst i = 1
section
variable {xsc xnow xjc xec : Int32} {xse xki xpp xqq xrr xst xfs xin xtb xaj xat xsd xja xev xva xha xps xpa xpi xct xsn xsv xtk xac xji xou xen xuw xra xea xtj xte : Nat → Int32} {ysc ynow yjc yec : Int32} {yse yss yac yji yen yho ywh ytj yte yst ypl ydn yas ywt yun yrs yva yha ypa ypi yps yso ysv yct : Nat → Int32}
theorem sg_goOn_not {i f j : Nat} {w : Int32} {post : Int32 → SY → Prop} (hi : i < 3) (hf : f < 20) (hpl : ypl i = nI f) (hwt : ywt i = w) (h0 : ¬ w = 0) (h2 : ¬ w = 2) (h3 : ¬ w = 3) (hj : j < 90) (hun : yun i = nI j) (hh : yho j ≤ 2) (hp : post 0 (ysc, ynow, yjc, yec, yse, yss, yac, yji, yen, yho, ywh, ytj, yte, yst, ypl, ydn, yas, ywt, yun, yrs, yva, yha, ypa, ypi, yps, yso, ysv, yct)) : wpY_goOn post (ysc, ynow, yjc, yec, yse, yss, yac, yji, yen, yho, ywh, ytj, yte, yst, ypl, ydn, yas, ywt, yun, yrs, yva, yha, ypa, ypi, yps, yso, ysv, yct) (nI i) := by
  have b3 : vp_in (nI i) 3 := vp_in_nI hi (by omega)
  have ci : (nI i).toNatClampNeg = i := nI_clamp (by omega)
  simp (disch := omega) only [wpY_goOn, wpY_part, wY_goOn_213, ci, b3, hpl, hwt, hun, h0, h2, h3, hh, sg_m4', Int32.add_zero, sg_inT, nI_clamp, forall_eq, true_and, and_true, true_implies, false_implies, not_true_eq_false, not_false_eq_true, implies_true]
  exact hp
end
theorem sg_tbl {i d t : Nat} {u : SX} {v : SY} (hi : i < 3) (H : sg_W 4 i d t u v) : ∃ u1 v1, (∀ post : SX → Prop, post u1 → wpX_takeBackLast post u (nI i)) ∧ (∀ post : SY → Prop, post v1 → wpY_takeBack post v (nI i)) ∧ ((sg_R t u1 v1 ∧ sg_E i u1 v1) ∨ (sg_W 3 i d t u1 v1 ∧ ∀ post : Int32 → SY → Prop, post 0 v1 → wpY_goOn post v1 (nI i))) := by
  obtain ⟨xsc, xnow, xjc, xec, xse, xki, xpp, xqq, xrr, xst, xfs, xin, xtb, xaj, xat, xsd, xja, xev, xva, xha, xps, xpa, xpi, xct, xsn, xsv, xtk, xac, xji, xou, xen, xuw, xra, xea, xtj, xte⟩ := u
  obtain ⟨ysc, ynow, yjc, yec, yse, yss, yac, yji, yen, yho, ywh, ytj, yte, yst, ypl, ydn, yas, ywt, yun, yrs, yva, yha, ypa, ypi, yps, yso, ysv, yct⟩ := v
  obtain ⟨sc, jc, ⟨⟨⟨e1, e2, e3, e4⟩, e5, e6, e7, e8, e9, e10, e11, e12, e13, e14, e15, e16⟩, ⟨g1, g2, g3, g4⟩, hset, hprog, hjobs, hjas⟩, hf, hb, f, hst, hev, hf20, hfs, hpl, hdn, has, hctl⟩ := H
  subst e1 e2 e3 e4 e5 e6 e7 e8 e9 e10 e11 e12 e13 e14 e15 e16 g1 g2 g3 g4
  obtain ⟨hd, hsd, hva, ⟨p, hp1, hps, hpa⟩, hsig⟩ := hb
  obtain ⟨hfsc, htb, hwt⟩ : f < sc ∧ xtb i = 1 ∧ ywt i = 0 := by
    rcases hctl with h | h | h | h
    · exact absurd h.1 (by decide)
    · exact absurd h.1 (by decide)
    · exact absurd h.1 (by decide)
    · exact h.2
  have hsc := hprog.1
  obtain ⟨q, hq, hja⟩ := hjas.1 i hi
  have hya : yas i = nI q := has.trans hja
  have hjc := sg_jas_le hjas
  have b3 : vp_in (nI i) 3 := vp_in_nI hi (by omega)
  have ci : (nI i).toNatClampNeg = i := nI_clamp (by omega)
  have n35 : ¬ (3 : Int32) = 1 := by decide
  have n51 : ¬ (5 : Int32) = 1 := by decide
  by_cases hp0 : p = 0
  · subst hp0
    have hz : xps i = 0 := hps
    refine ⟨(nI sc, nI t, nI jc, nI (sg_cnt xen jc), xse, xki, xpp, xqq, xrr, upd xst i 3, xfs, xin, xtb, xaj, xat, xsd, xja, xev, xva, xha, xps, xpa, xpi, xct, xsn, xsv, xtk, xac, xji, xou, xen, xuw, xra, xea, xtj, xte), (nI sc, nI t, nI jc, nI (sg_cnt xen jc), xse, yss, xac, xji, xen, yho, ywh, xtj, xte, upd xst i 3, ypl, ydn, yas, ywt, yun, yrs, yva, yha, xpa, xpi, xps, yso, xsv, xct), fun post h => ?_, fun post h => ?_, Or.inl ⟨⟨sc, jc, ⟨⟨⟨rfl, rfl, rfl, rfl⟩, rfl, rfl, rfl, rfl, rfl, rfl, rfl, rfl, rfl, rfl, rfl, rfl⟩, ⟨rfl, rfl, rfl, rfl⟩, hset, hprog, hjobs, hjas⟩, fun m hm => ?_⟩, ?_⟩⟩
    · simp only [wpX_takeBackLast, ci, hz, b3, forall_eq, true_and, and_true, true_implies, false_implies, not_true_eq_false, not_false_eq_true, implies_true]
      exact h
    · simp only [wpY_takeBack, ci, hz, b3, forall_eq, true_and, and_true, true_implies, false_implies, not_true_eq_false, not_false_eq_true, implies_true]
      exact h
    · by_cases c : m = i
      · subst c
        exact Or.inr ⟨d, ⟨hd, hsd, hva, ⟨0, hp1, hps, hpa⟩, hsig⟩, Or.inl ⟨3, by omega, by omega, pk_us, hev⟩⟩
      · exact sg_flow_fr c (hf m hm c)
    · exact ⟨by rw [pk_us]; exact n35, by rw [pk_us]; exact n35⟩
  · obtain ⟨p, rfl⟩ : ∃ k, p = k + 1 := ⟨p - 1, by omega⟩
    have ex : nI i * 200 + nI (p + 1) - 1 = nI (200 * i + p) := by rw [sg_x200]; exact nI_pred (200 * i + p)
    have ey : 200 * nI i + nI (p + 1) - 1 = nI (200 * i + p) := by rw [sg_y200]; exact nI_pred (200 * i + p)
    obtain ⟨a, ha4, hpa4⟩ := hpa p (by omega)
    by_cases hq30 : q < 30
    · obtain ⟨hjc9, hjas1⟩ := sg_jas_inc hjas hi hq30 hja
      refine ⟨(nI sc, nI t, nI (jc + 1), nI (sg_cnt xen jc), xse, xki, xpp, xqq, xrr, xst, xfs, xin, xtb, upd xaj i (nI jc), xat, xsd, upd xja i (nI (q + 1)), xev, xva, xha, upd xps i (nI p), xpa, xpi, xct, xsn, xsv, xtk, upd xac jc (nI a), upd xji jc (xpi (200 * i + p)), upd xou jc (-1), upd xen jc 0, upd xuw jc 0, upd xra jc (nI t), xea, xtj, xte), (nI sc, nI t, nI (jc + 1), nI (sg_cnt xen jc), xse, yss, upd xac jc (nI a), upd xji jc (xpi (200 * i + p)), upd xen jc 0, upd yho jc 1, upd ywh jc (nI t), xtj, xte, xst, ypl, ydn, upd yas i (nI (q + 1)), upd ywt i 4, upd yun i (nI jc), yrs, yva, yha, xpa, xpi, upd xps i (nI p), yso, xsv, xct), fun post h => ?_, fun post h => ?_, Or.inr ⟨⟨sc, jc + 1, ⟨⟨⟨rfl, rfl, rfl, rfl⟩, rfl, rfl, rfl, rfl, rfl, rfl, rfl, rfl, rfl, rfl, rfl, rfl⟩, ⟨rfl, rfl, rfl, congrArg nI (sg_cnt_ask _ _).symm⟩, hset, hprog, sg_jobs_ask hset hjobs ha4, hjas1⟩, fun m hm c => sg_flow_fr c (hf m hm c), ⟨hd, hsd, hva, ⟨p, by omega, pk_us, fun m hm => hpa m (by omega)⟩, hsig⟩, f, hst, hev, hf20, hfs, hpl, hdn, ?_, Or.inr (Or.inr (Or.inl ⟨rfl, hfsc, htb, pk_us, ⟨jc, by omega, pk_us, pk_us⟩⟩))⟩, fun post h => ?_⟩⟩
      · simp (disch := omega) only [wpX_takeBackLast, ci, hps, b3, ex, sg_z0, nI_clamp, sg_inT, hpa4, forall_eq, true_and, and_true, true_implies, false_implies, not_true_eq_false, not_false_eq_true, implies_true]
        refine sg_xask1 hi hja hq30 hjc9 ?_
        simp (disch := omega) only [ci, b3, pk_us, sg_nm1, hps, nI_pred, forall_eq, true_and, and_true, true_implies, false_implies, not_true_eq_false, not_false_eq_true, implies_true]
        exact h
      · simp (disch := omega) only [wpY_takeBack, ci, hps, b3, ey, sg_z0, nI_clamp, sg_inT, hpa4, forall_eq, true_and, and_true, true_implies, false_implies, not_true_eq_false, not_false_eq_true, implies_true]
        refine sg_yask1 hi hya hq30 hjc9 ?_
        simp (disch := omega) only [wpY_waitFor, ci, b3, pk_us, sg_neg, hps, nI_pred, forall_eq, true_and, and_true, true_implies, false_implies, not_true_eq_false, not_false_eq_true, implies_true]
        exact h
      · rw [pk_us, pk_us]
      · exact sg_goOn_not hi (by omega) hpl pk_us (by decide) (by decide) (by decide) hjc9 pk_us (by rw [pk_us]; decide) h
    · refine ⟨(nI sc, nI t, nI jc, nI (sg_cnt xen jc), xse, xki, xpp, xqq, xrr, upd xst i 5, xfs, xin, xtb, upd xaj i (-1), xat, xsd, xja, xev, xva, xha, xps, xpa, xpi, xct, xsn, xsv, xtk, xac, xji, xou, xen, xuw, xra, xea, xtj, xte), (nI sc, nI t, nI jc, nI (sg_cnt xen jc), xse, yss, xac, xji, xen, yho, ywh, xtj, xte, upd xst i 5, ypl, ydn, yas, ywt, yun, yrs, yva, yha, xpa, xpi, xps, yso, xsv, xct), fun post h => ?_, fun post h => ?_, Or.inl ⟨⟨sc, jc, ⟨⟨⟨rfl, rfl, rfl, rfl⟩, rfl, rfl, rfl, rfl, rfl, rfl, rfl, rfl, rfl, rfl, rfl, rfl⟩, ⟨rfl, rfl, rfl, rfl⟩, hset, hprog, hjobs, hjas⟩, fun m hm => ?_⟩, ?_⟩⟩
      · simp (disch := omega) only [wpX_takeBackLast, ci, hps, b3, ex, sg_z0, nI_clamp, sg_inT, hpa4, forall_eq, true_and, and_true, true_implies, false_implies, not_true_eq_false, not_false_eq_true, implies_true]
        refine sg_xask0 hi hja hq30 hq ?_
        simp (disch := omega) only [ci, b3, pk_us, forall_eq, true_and, and_true, true_implies, false_implies, not_true_eq_false, not_false_eq_true, implies_true]
        exact h
      · simp (disch := omega) only [wpY_takeBack, ci, hps, b3, ey, sg_z0, nI_clamp, sg_inT, hpa4, forall_eq, true_and, and_true, true_implies, false_implies, not_true_eq_false, not_false_eq_true, implies_true]
        refine sg_yask0 hi hya hq30 hq ?_
        simp (disch := omega) only [show ((-1 : Int32) < 0) = True from eq_true (by decide), forall_eq, true_and, and_true, true_implies, false_implies, not_true_eq_false, not_false_eq_true, implies_true]
        exact h
      · by_cases c : m = i
        · subst c
          exact Or.inr ⟨d, ⟨hd, hsd, hva, ⟨p + 1, hp1, hps, hpa⟩, hsig⟩, Or.inl ⟨5, by omega, by omega, pk_us, hev⟩⟩
        · exact sg_flow_fr c (hf m hm c)
      · exact ⟨by rw [pk_us]; exact n51, by rw [pk_us]; exact n51⟩
end
section
section
variable {xsc xnow xjc xec : Int32} {xse xki xpp xqq xrr xst xfs xin xtb xaj xat xsd xja xev xva xha xps xpa xpi xct xsn xsv xtk xac xji xou xen xuw xra xea xtj xte : Nat → Int32} {ysc ynow yjc yec : Int32} {yse yss yac yji yen yho ywh ytj yte yst ypl ydn yas ywt yun yrs yva yha ypa ypi yps yso ysv yct : Nat → Int32}
/-! the component: how a job's step ends -/
theorem sg_xej_n {i j : Nat} {w : Int32} {post : Int32 → SX → Prop} (hi : i < 3) (hj : j < 90) (haj : xaj i = nI j) (ho : xou j = -1) (hp : post 0 (xsc, xnow, xjc, xec, xse, xki, xpp, xqq, xrr, xst, xfs, xin, xtb, xaj, xat, xsd, xja, xev, xva, xha, xps, xpa, xpi, xct, xsn, xsv, xtk, xac, xji, xou, xen, xuw, xra, xea, xtj, xte)) : wpX_endJobStep post (xsc, xnow, xjc, xec, xse, xki, xpp, xqq, xrr, xst, xfs, xin, xtb, xaj, xat, xsd, xja, xev, xva, xha, xps, xpa, xpi, xct, xsn, xsv, xtk, xac, xji, xou, xen, xuw, xra, xea, xtj, xte) (nI i) w := by
  have b3 : vp_in (nI i) 3 := vp_in_nI hi (by omega)
  have ci : (nI i).toNatClampNeg = i := nI_clamp (by omega)
  simp (disch := omega) only [wpX_endJobStep, ci, b3, haj, ho, sg_nm1, sg_inT, nI_clamp, forall_eq, true_and, and_true, true_implies, false_implies, not_true_eq_false, not_false_eq_true, implies_true]
  exact hp
theorem sg_xej_f {i j : Nat} {w : Int32} {post : Int32 → SX → Prop} (hi : i < 3) (hj : j < 90) (haj : xaj i = nI j) (ho : xou j = 0) (hp : post 1 (xsc, xnow, xjc, xec, xse, xki, xpp, xqq, xrr, xst, upd xfs i (xfs i), xin, upd xtb i 1, upd xaj i (-1), xat, xsd, xja, xev, xva, xha, xps, xpa, xpi, xct, xsn, xsv, xtk, xac, xji, xou, xen, xuw, xra, xea, xtj, xte)) : wpX_endJobStep post (xsc, xnow, xjc, xec, xse, xki, xpp, xqq, xrr, xst, xfs, xin, xtb, xaj, xat, xsd, xja, xev, xva, xha, xps, xpa, xpi, xct, xsn, xsv, xtk, xac, xji, xou, xen, xuw, xra, xea, xtj, xte) (nI i) w := by
  have b3 : vp_in (nI i) 3 := vp_in_nI hi (by omega)
  have ci : (nI i).toNatClampNeg = i := nI_clamp (by omega)
  simp (disch := omega) only [wpX_endJobStep, wpX_failAt, ci, b3, haj, ho, sg_nm1, sg_inT, nI_clamp, sg_b1, sg_lits, sg_mA, sg_mB, sg_mC, sg_mD, sg_mE, sg_mF, Int32.reduceLT, Int32.reduceLE, forall_eq, true_and, and_true, true_implies, false_implies, not_true_eq_false, not_false_eq_true, implies_true]
  exact hp
theorem sg_xej_s {i j w a : Nat} {post : Int32 → SX → Prop} (hi : i < 3) (hw : w < 4) (hj : j < 90) (ha : a < 4) (haj : xaj i = nI j) (ho : xou j = 1) (hac : xac j = nI a) (hp : post 1 (xsc, xnow, xjc, xec, xse, xki, xpp, xqq, xrr, xst, upd xfs i (xfs i + 1), upd xin i 0, xtb, xaj, xat, xsd, xja, xev, upd xva (4 * i + w) (xji j * xse (7 * a + 5) + xse (7 * a + 6)), xha, xps, xpa, xpi, xct, xsn, xsv, xtk, xac, xji, xou, xen, xuw, xra, xea, xtj, xte)) : wpX_endJobStep post (xsc, xnow, xjc, xec, xse, xki, xpp, xqq, xrr, xst, xfs, xin, xtb, xaj, xat, xsd, xja, xev, xva, xha, xps, xpa, xpi, xct, xsn, xsv, xtk, xac, xji, xou, xen, xuw, xra, xea, xtj, xte) (nI i) (nI w) := by
  have b3 : vp_in (nI i) 3 := vp_in_nI hi (by omega)
  have ci : (nI i).toNatClampNeg = i := nI_clamp (by omega)
  simp (disch := omega) only [wpX_endJobStep, wpX_resultOf, wpX_leaveStep, ci, b3, haj, ho, hac, sg_nm1, sg_inT, nI_clamp, sg_b0, sg_m7, sg_a5, sg_a6, sg_x4, sg_lits, sg_mA, sg_mB, sg_mC, sg_mD, sg_mE, sg_mF, Int32.reduceLT, Int32.reduceLE, forall_eq, true_and, and_true, true_implies, false_implies, not_true_eq_false, not_false_eq_true, implies_true]
  exact hp
theorem sg_xlv {i : Nat} {post : SX → Prop} (hi : i < 3) (hp : post (xsc, xnow, xjc, xec, xse, xki, xpp, xqq, xrr, xst, upd xfs i (xfs i + 1), upd xin i 0, xtb, xaj, xat, xsd, xja, xev, xva, xha, xps, xpa, xpi, xct, xsn, xsv, xtk, xac, xji, xou, xen, xuw, xra, xea, xtj, xte)) : wpX_leaveStep post (xsc, xnow, xjc, xec, xse, xki, xpp, xqq, xrr, xst, xfs, xin, xtb, xaj, xat, xsd, xja, xev, xva, xha, xps, xpa, xpi, xct, xsn, xsv, xtk, xac, xji, xou, xen, xuw, xra, xea, xtj, xte) (nI i) := by
  have b3 : vp_in (nI i) 3 := vp_in_nI hi (by omega)
  have ci : (nI i).toNatClampNeg = i := nI_clamp (by omega)
  simp (disch := omega) only [wpX_leaveStep, ci, b3, sg_b0, forall_eq, true_and, and_true, true_implies, false_implies, not_true_eq_false, not_false_eq_true, implies_true]
  exact hp
/-! the reference: going on -/
theorem sg_ygo_s3 {i j w a f : Nat} {post : Int32 → SY → Prop} (hi : i < 3) (hw : w < 4) (hj : j < 90) (ha : a < 4) (hf : f < 20) (hpl : ypl i = nI f) (hwt : ywt i = 1) (hun : yun i = nI j) (hk : yss (4 * f) = 3) (hr : yss (4 * f + 3) = nI w) (ho : yho j = 3) (hac : yac j = nI a) (hp : post 1 (ysc, ynow, yjc, yec, yse, yss, yac, yji, yen, yho, ywh, ytj, yte, yst, upd ypl i (nI (f + 1)), ydn, yas, upd ywt i 0, yun, yrs, upd yva (4 * i + w) (yji j * yse (7 * a + 5) + yse (7 * a + 6)), yha, ypa, ypi, yps, yso, ysv, yct)) : wpY_goOn post (ysc, ynow, yjc, yec, yse, yss, yac, yji, yen, yho, ywh, ytj, yte, yst, ypl, ydn, yas, ywt, yun, yrs, yva, yha, ypa, ypi, yps, yso, ysv, yct) (nI i) := by
  have b3 : vp_in (nI i) 3 := vp_in_nI hi (by omega)
  have ci : (nI i).toNatClampNeg = i := nI_clamp (by omega)
  simp (disch := omega) only [wpY_goOn, wY_goOn_192, wY_goOn_207, wY_goOn_213, wpY_part, wpY_takeResult, wpY_setting, ci, b3, hpl, hwt, hun, hk, hr, ho, hac, pk_us, sg_m3, sg_m3', sg_m4, sg_m4', sg_m6, sg_m6', sg_m7, sg_m7', sg_m200, sg_m200', nI_add, sg_a1, sg_a2, sg_a3, sg_a4, sg_a5, sg_a6, Int32.add_zero, sg_inT, nI_clamp, sg_lits, sg_mA, sg_mB, sg_mC, sg_mD, sg_mE, sg_mF, Int32.reduceLT, Int32.reduceLE, forall_eq, true_and, and_true, true_implies, false_implies, not_true_eq_false, not_false_eq_true, implies_true]
  exact hp
theorem sg_ygo_s5 {i j w a f p : Nat} {post : Int32 → SY → Prop} (hi : i < 3) (hp3 : p < 3) (hw : w < 4) (hj : j < 90) (ha : a < 4) (hf : f < 20) (hpl : ypl i = nI f) (hwt : ywt i = 1) (hun : yun i = nI j) (hk : yss (4 * f) = 5) (hr : yss (4 * f + 2) = nI w) (hr1 : yss (4 * f + 1) = nI p) (ho : yho j = 3) (hac : yac j = nI a) (hp : post 1 (ysc, ynow, yjc, yec, yse, yss, yac, yji, yen, yho, ywh, ytj, yte, yst, upd ypl i (nI (f + 1)), ydn, yas, upd ywt i 0, yun, yrs, upd yva (4 * i + w) (yji j * yse (7 * a + 5) + yse (7 * a + 6)), upd yha (3 * i + p) (-1), ypa, ypi, yps, yso, ysv, yct)) : wpY_goOn post (ysc, ynow, yjc, yec, yse, yss, yac, yji, yen, yho, ywh, ytj, yte, yst, ypl, ydn, yas, ywt, yun, yrs, yva, yha, ypa, ypi, yps, yso, ysv, yct) (nI i) := by
  have b3 : vp_in (nI i) 3 := vp_in_nI hi (by omega)
  have ci : (nI i).toNatClampNeg = i := nI_clamp (by omega)
  simp (disch := omega) only [wpY_goOn, wY_goOn_192, wY_goOn_207, wY_goOn_213, wpY_part, wpY_takeResult, wpY_setting, ci, b3, hpl, hwt, hun, hk, hr, hr1, ho, hac, pk_us, sg_m3, sg_m3', sg_m4, sg_m4', sg_m6, sg_m6', sg_m7, sg_m7', sg_m200, sg_m200', nI_add, sg_a1, sg_a2, sg_a3, sg_a4, sg_a5, sg_a6, Int32.add_zero, sg_inT, nI_clamp, sg_lits, sg_mA, sg_mB, sg_mC, sg_mD, sg_mE, sg_mF, Int32.reduceLT, Int32.reduceLE, forall_eq, true_and, and_true, true_implies, false_implies, not_true_eq_false, not_false_eq_true, implies_true]
  exact hp
theorem sg_ygo_p {i f : Nat} {post : Int32 → SY → Prop} (hi : i < 3) (hf : f < 20) (hpl : ypl i = nI f) (hwt : ywt i = 2) (hn : ¬ ynow < yun i) (hp : post 1 (ysc, ynow, yjc, yec, yse, yss, yac, yji, yen, yho, ywh, ytj, yte, yst, upd ypl i (nI (f + 1)), ydn, yas, upd ywt i 0, yun, yrs, yva, yha, ypa, ypi, yps, yso, ysv, yct)) : wpY_goOn post (ysc, ynow, yjc, yec, yse, yss, yac, yji, yen, yho, ywh, ytj, yte, yst, ypl, ydn, yas, ywt, yun, yrs, yva, yha, ypa, ypi, yps, yso, ysv, yct) (nI i) := by
  have b3 : vp_in (nI i) 3 := vp_in_nI hi (by omega)
  have ci : (nI i).toNatClampNeg = i := nI_clamp (by omega)
  simp (disch := omega) only [wpY_goOn, wY_goOn_213, wpY_part, ci, b3, hpl, hwt, hn, pk_us, sg_m4', sg_a1, Int32.add_zero, sg_inT, nI_clamp, sg_lits, sg_mA, sg_mB, sg_mC, sg_mD, sg_mE, sg_mF, Int32.reduceLT, Int32.reduceLE, forall_eq, true_and, and_true, true_implies, false_implies, not_true_eq_false, not_false_eq_true, implies_true]
  exact hp
theorem sg_ygo_pn {i f : Nat} {post : Int32 → SY → Prop} (hi : i < 3) (hf : f < 20) (hpl : ypl i = nI f) (hwt : ywt i = 2) (hn : ynow < yun i) (hp : post 0 (ysc, ynow, yjc, yec, yse, yss, yac, yji, yen, yho, ywh, ytj, yte, yst, ypl, ydn, yas, ywt, yun, yrs, yva, yha, ypa, ypi, yps, yso, ysv, yct)) : wpY_goOn post (ysc, ynow, yjc, yec, yse, yss, yac, yji, yen, yho, ywh, ytj, yte, yst, ypl, ydn, yas, ywt, yun, yrs, yva, yha, ypa, ypi, yps, yso, ysv, yct) (nI i) := by
  have b3 : vp_in (nI i) 3 := vp_in_nI hi (by omega)
  have ci : (nI i).toNatClampNeg = i := nI_clamp (by omega)
  simp (disch := omega) only [wpY_goOn, wY_goOn_213, wpY_part, ci, b3, hpl, hwt, hn, pk_us, sg_m4', sg_a1, Int32.add_zero, sg_inT, nI_clamp, sg_lits, sg_mA, sg_mB, sg_mC, sg_mD, sg_mE, sg_mF, Int32.reduceLT, Int32.reduceLE, forall_eq, true_and, and_true, true_implies, false_implies, not_true_eq_false, not_false_eq_true, implies_true]
  exact hp
theorem sg_ygo_4f {i f j : Nat} {post : Int32 → SY → Prop} (hi : i < 3) (hf : f < 20) (hj : j < 90) (hpl : ypl i = nI f) (hwt : ywt i = 4) (hun : yun i = nI j) (ho : yho j = 4) (hp : post 1 (ysc, ynow, yjc, yec, yse, yss, yac, yji, yen, yho, ywh, ytj, yte, upd yst i 4, ypl, ydn, yas, upd ywt i 0, yun, yrs, yva, yha, ypa, ypi, yps, yso, ysv, yct)) : wpY_goOn post (ysc, ynow, yjc, yec, yse, yss, yac, yji, yen, yho, ywh, ytj, yte, yst, ypl, ydn, yas, ywt, yun, yrs, yva, yha, ypa, ypi, yps, yso, ysv, yct) (nI i) := by
  have b3 : vp_in (nI i) 3 := vp_in_nI hi (by omega)
  have ci : (nI i).toNatClampNeg = i := nI_clamp (by omega)
  simp (disch := omega) only [wpY_goOn, wY_goOn_213, wpY_part, ci, b3, hpl, hwt, hun, ho, pk_us, sg_m4', sg_a1, Int32.add_zero, sg_inT, nI_clamp, sg_lits, sg_mA, sg_mB, sg_mC, sg_mD, sg_mE, sg_mF, Int32.reduceLT, Int32.reduceLE, forall_eq, true_and, and_true, true_implies, false_implies, not_true_eq_false, not_false_eq_true, implies_true]
  exact hp
theorem sg_ygo_4s {i f j : Nat} {post : Int32 → SY → Prop} (hi : i < 3) (hf : f < 20) (hj : j < 90) (hpl : ypl i = nI f) (hwt : ywt i = 4) (hun : yun i = nI j) (ho : yho j = 3) (hp : wpY_takeBack (fun u => match u with | (ysc, ynow, yjc, yec, yse, yss, yac, yji, yen, yho, ywh, ytj, yte, yst, ypl, ydn, yas, ywt, yun, yrs, yva, yha, ypa, ypi, yps, yso, ysv, yct) => wY_goOn_213 post (nI i) ysc ynow yjc yec yse yss yac yji yen yho ywh ytj yte yst ypl ydn yas ywt yun yrs yva yha ypa ypi yps yso ysv yct) (ysc, ynow, yjc, yec, yse, yss, yac, yji, yen, yho, ywh, ytj, yte, yst, ypl, ydn, yas, upd ywt i 0, yun, yrs, yva, yha, ypa, ypi, yps, yso, ysv, yct) (nI i)) : wpY_goOn post (ysc, ynow, yjc, yec, yse, yss, yac, yji, yen, yho, ywh, ytj, yte, yst, ypl, ydn, yas, ywt, yun, yrs, yva, yha, ypa, ypi, yps, yso, ysv, yct) (nI i) := by
  have b3 : vp_in (nI i) 3 := vp_in_nI hi (by omega)
  have ci : (nI i).toNatClampNeg = i := nI_clamp (by omega)
  simp (disch := omega) only [wpY_goOn, wpY_part, ci, b3, hpl, hwt, hun, ho, pk_us, sg_m4', sg_a1, Int32.add_zero, sg_inT, nI_clamp, sg_lits, sg_mA, sg_mB, sg_mC, sg_mD, sg_mE, sg_mF, Int32.reduceLT, Int32.reduceLE, forall_eq, true_and, and_true, true_implies, false_implies, not_true_eq_false, not_false_eq_true, implies_true]
  exact hp
theorem sg_ygo_f3 {i j f : Nat} {post : Int32 → SY → Prop} (hi : i < 3) (hj : j < 90) (hf : f < 20) (hpl : ypl i = nI f) (hwt : ywt i = 1) (hun : yun i = nI j) (hk : yss (4 * f) = 3) (ho : yho j = 4) (hp : wpY_takeBack (fun u => match u with | (ysc, ynow, yjc, yec, yse, yss, yac, yji, yen, yho, ywh, ytj, yte, yst, ypl, ydn, yas, ywt, yun, yrs, yva, yha, ypa, ypi, yps, yso, ysv, yct) => wY_goOn_213 post (nI i) ysc ynow yjc yec yse yss yac yji yen yho ywh ytj yte yst ypl ydn yas ywt yun yrs yva yha ypa ypi yps yso ysv yct) (ysc, ynow, yjc, yec, yse, yss, yac, yji, yen, yho, ywh, ytj, yte, yst, ypl, ydn, yas, upd ywt i 0, yun, yrs, yva, yha, ypa, ypi, yps, yso, ysv, yct) (nI i)) : wpY_goOn post (ysc, ynow, yjc, yec, yse, yss, yac, yji, yen, yho, ywh, ytj, yte, yst, ypl, ydn, yas, ywt, yun, yrs, yva, yha, ypa, ypi, yps, yso, ysv, yct) (nI i) := by
  have b3 : vp_in (nI i) 3 := vp_in_nI hi (by omega)
  have ci : (nI i).toNatClampNeg = i := nI_clamp (by omega)
  simp (disch := omega) only [wpY_goOn, wY_goOn_192, wY_goOn_207, wpY_part, wpY_takeResult, ci, b3, hpl, hwt, hun, hk, ho, pk_us, sg_m4', sg_a1, sg_a2, sg_a3, Int32.add_zero, sg_inT, nI_clamp, sg_lits, sg_mA, sg_mB, sg_mC, sg_mD, sg_mE, sg_mF, Int32.reduceLT, Int32.reduceLE, forall_eq, true_and, and_true, true_implies, false_implies, not_true_eq_false, not_false_eq_true, implies_true]
  exact hp
theorem sg_ygo_f5 {i j f p : Nat} {post : Int32 → SY → Prop} (hi : i < 3) (hp3 : p < 3) (hj : j < 90) (hf : f < 20) (hpl : ypl i = nI f) (hwt : ywt i = 1) (hun : yun i = nI j) (hk : yss (4 * f) = 5) (hr1 : yss (4 * f + 1) = nI p) (ho : yho j = 4) (hp : wpY_takeBack (fun u => match u with | (ysc, ynow, yjc, yec, yse, yss, yac, yji, yen, yho, ywh, ytj, yte, yst, ypl, ydn, yas, ywt, yun, yrs, yva, yha, ypa, ypi, yps, yso, ysv, yct) => wY_goOn_213 post (nI i) ysc ynow yjc yec yse yss yac yji yen yho ywh ytj yte yst ypl ydn yas ywt yun yrs yva yha ypa ypi yps yso ysv yct) (ysc, ynow, yjc, yec, yse, yss, yac, yji, yen, yho, ywh, ytj, yte, yst, ypl, ydn, yas, upd ywt i 0, yun, yrs, yva, upd yha (3 * i + p) (-1), ypa, ypi, yps, yso, ysv, yct) (nI i)) : wpY_goOn post (ysc, ynow, yjc, yec, yse, yss, yac, yji, yen, yho, ywh, ytj, yte, yst, ypl, ydn, yas, ywt, yun, yrs, yva, yha, ypa, ypi, yps, yso, ysv, yct) (nI i) := by
  have b3 : vp_in (nI i) 3 := vp_in_nI hi (by omega)
  have ci : (nI i).toNatClampNeg = i := nI_clamp (by omega)
  simp (disch := omega) only [wpY_goOn, wY_goOn_192, wY_goOn_207, wpY_part, wpY_takeResult, ci, b3, hpl, hwt, hun, hk, hr1, ho, pk_us, sg_m3, sg_m3', sg_m4, sg_m4', sg_m6, sg_m6', sg_m7, sg_m7', sg_m200, sg_m200', nI_add, sg_a1, sg_a2, sg_a3, sg_a4, sg_a5, sg_a6, Int32.add_zero, sg_inT, nI_clamp, sg_lits, sg_mA, sg_mB, sg_mC, sg_mD, sg_mE, sg_mF, Int32.reduceLT, Int32.reduceLE, forall_eq, true_and, and_true, true_implies, false_implies, not_true_eq_false, not_false_eq_true, implies_true]
  exact hp
end
end
section
section
variable {xsc xnow xjc xec : Int32} {xse xki xpp xqq xrr xst xfs xin xtb xaj xat xsd xja xev xva xha xps xpa xpi xct xsn xsv xtk xac xji xou xen xuw xra xea xtj xte : Nat → Int32} {ysc ynow yjc yec : Int32} {yse yss yac yji yen yho ywh ytj yte yst ypl ydn yas ywt yun yrs yva yha ypa ypi yps yso ysv yct : Nat → Int32}
theorem sg_fsig {i n s : Nat} (hi : i < 3) (hn : n ≤ 6) (hct : xct i = nI n) (hcy : yct i = nI n) (hs : s < 2) (H : ∀ m, m < n → (xsn (6 * i + m) = 0 ∨ xsn (6 * i + m) = 1) ∧ ((xtk (6 * i + m) = 0 ∧ yso (6 * i + m) = xsn (6 * i + m)) ∨ (xtk (6 * i + m) = 1 ∧ yso (6 * i + m) = -1))) : ∀ k m N, m + k = n → k < N →
    ((∀ post : Int32 → Prop, post (-1) → wX_firstSignal_2 post (nI i) (nI s) xsc xnow xjc xec xse xki xpp xqq xrr xst xfs xin xtb xaj xat xsd xja xev xva xha xps xpa xpi xct xsn xsv xtk xac xji xou xen xuw xra xea xtj xte N (nI m)) ∧ (∀ post : Int32 → Prop, post (-1) → wY_findSignal_2 post (nI i) (nI s) ysc ynow yjc yec yse yss yac yji yen yho ywh ytj yte yst ypl ydn yas ywt yun yrs yva yha ypa ypi yps yso ysv yct N (nI m))) ∨
    (∃ m0, m0 < n ∧ xtk (6 * i + m0) = 0 ∧ (∀ post : Int32 → Prop, post (nI (6 * i + m0)) → wX_firstSignal_2 post (nI i) (nI s) xsc xnow xjc xec xse xki xpp xqq xrr xst xfs xin xtb xaj xat xsd xja xev xva xha xps xpa xpi xct xsn xsv xtk xac xji xou xen xuw xra xea xtj xte N (nI m)) ∧ (∀ post : Int32 → Prop, post (nI m0) → wY_findSignal_2 post (nI i) (nI s) ysc ynow yjc yec yse yss yac yji yen yho ywh ytj yte yst ypl ydn yas ywt yun yrs yva yha ypa ypi yps yso ysv yct N (nI m))) := by
  have b3 : vp_in (nI i) 3 := vp_in_nI hi (by omega)
  have ci : (nI i).toNatClampNeg = i := nI_clamp (by omega)
  intro k
  induction k with
  | zero =>
    intro m N hm hN
    obtain ⟨N, rfl⟩ : ∃ N', N = N' + 1 := ⟨N - 1, by omega⟩
    refine Or.inl ⟨fun post hp => ?_, fun post hp => ?_⟩
    · simp (disch := omega) only [wX_firstSignal_2, ci, b3, hct, sg_leT, forall_eq, true_and, and_true, true_implies, false_implies, not_true_eq_false, not_false_eq_true, implies_true]
      exact hp
    · simp (disch := omega) only [wY_findSignal_2, ci, b3, hcy, sg_leT, forall_eq, true_and, and_true, true_implies, false_implies, not_true_eq_false, not_false_eq_true, implies_true]
      exact hp
  | succ k ih =>
    intro m N hm hN
    obtain ⟨N, rfl⟩ : ∃ N', N = N' + 1 := ⟨N - 1, by omega⟩
    obtain ⟨h1, h2⟩ := H m (by omega)
    have IH := ih (m + 1) N (by omega) (by omega)
    rcases h2 with ⟨h2, h3⟩ | ⟨h2, h3⟩
    · by_cases c : xsn (6 * i + m) = nI s
      · refine Or.inr ⟨m, by omega, h2, fun post hp => ?_, fun post hp => ?_⟩
        · simp (disch := omega) only [wX_firstSignal_2, ci, b3, hct, sg_leF, sg_m3, sg_m3', sg_m4, sg_m4', sg_m6, sg_m6', sg_m7, sg_m7', sg_m200, sg_m200', nI_add, sg_a1, sg_a2, sg_a3, sg_a4, sg_a5, sg_a6, Int32.add_zero, sg_inT, nI_clamp, h2, c, forall_eq, true_and, and_true, true_implies, false_implies, not_true_eq_false, not_false_eq_true, implies_true]
          exact hp
        · simp (disch := omega) only [wY_findSignal_2, ci, b3, hcy, sg_leF, sg_m3, sg_m3', sg_m4, sg_m4', sg_m6, sg_m6', sg_m7, sg_m7', sg_m200, sg_m200', nI_add, sg_a1, sg_a2, sg_a3, sg_a4, sg_a5, sg_a6, Int32.add_zero, sg_inT, nI_clamp, h3, c, forall_eq, true_and, and_true, true_implies, false_implies, not_true_eq_false, not_false_eq_true, implies_true]
          exact hp
      · have eX : ∀ post : Int32 → Prop, wX_firstSignal_2 post (nI i) (nI s) xsc xnow xjc xec xse xki xpp xqq xrr xst xfs xin xtb xaj xat xsd xja xev xva xha xps xpa xpi xct xsn xsv xtk xac xji xou xen xuw xra xea xtj xte N (nI (m + 1)) → wX_firstSignal_2 post (nI i) (nI s) xsc xnow xjc xec xse xki xpp xqq xrr xst xfs xin xtb xaj xat xsd xja xev xva xha xps xpa xpi xct xsn xsv xtk xac xji xou xen xuw xra xea xtj xte (N + 1) (nI m) := fun post hp => by
          simp (disch := omega) only [wX_firstSignal_2, ci, b3, hct, sg_leF, sg_m3, sg_m3', sg_m4, sg_m4', sg_m6, sg_m6', sg_m7, sg_m7', sg_m200, sg_m200', nI_add, sg_a1, sg_a2, sg_a3, sg_a4, sg_a5, sg_a6, Int32.add_zero, sg_inT, nI_clamp, h2, c, sg_a1, forall_eq, true_and, and_true, true_implies, false_implies, not_true_eq_false, not_false_eq_true, implies_true]
          exact hp
        have eY : ∀ post : Int32 → Prop, wY_findSignal_2 post (nI i) (nI s) ysc ynow yjc yec yse yss yac yji yen yho ywh ytj yte yst ypl ydn yas ywt yun yrs yva yha ypa ypi yps yso ysv yct N (nI (m + 1)) → wY_findSignal_2 post (nI i) (nI s) ysc ynow yjc yec yse yss yac yji yen yho ywh ytj yte yst ypl ydn yas ywt yun yrs yva yha ypa ypi yps yso ysv yct (N + 1) (nI m) := fun post hp => by
          simp (disch := omega) only [wY_findSignal_2, ci, b3, hcy, sg_leF, sg_m3, sg_m3', sg_m4, sg_m4', sg_m6, sg_m6', sg_m7, sg_m7', sg_m200, sg_m200', nI_add, sg_a1, sg_a2, sg_a3, sg_a4, sg_a5, sg_a6, Int32.add_zero, sg_inT, nI_clamp, h3, c, sg_a1, forall_eq, true_and, and_true, true_implies, false_implies, not_true_eq_false, not_false_eq_true, implies_true]
          exact hp
        rcases IH with ⟨g1, g2⟩ | ⟨m0, g0, g3, g1, g2⟩
        · exact Or.inl ⟨fun post hp => eX post (g1 post hp), fun post hp => eY post (g2 post hp)⟩
        · exact Or.inr ⟨m0, g0, g3, fun post hp => eX post (g1 post hp), fun post hp => eY post (g2 post hp)⟩
    · have c : ¬ (-1 : Int32) = nI s := fun z => sg_ne1 (a := s) (by omega) z.symm
      have n10 : ¬ (1 : Int32) = 0 := by decide
      have eX : ∀ post : Int32 → Prop, wX_firstSignal_2 post (nI i) (nI s) xsc xnow xjc xec xse xki xpp xqq xrr xst xfs xin xtb xaj xat xsd xja xev xva xha xps xpa xpi xct xsn xsv xtk xac xji xou xen xuw xra xea xtj xte N (nI (m + 1)) → wX_firstSignal_2 post (nI i) (nI s) xsc xnow xjc xec xse xki xpp xqq xrr xst xfs xin xtb xaj xat xsd xja xev xva xha xps xpa xpi xct xsn xsv xtk xac xji xou xen xuw xra xea xtj xte (N + 1) (nI m) := fun post hp => by
        simp (disch := omega) only [wX_firstSignal_2, ci, b3, hct, sg_leF, sg_m3, sg_m3', sg_m4, sg_m4', sg_m6, sg_m6', sg_m7, sg_m7', sg_m200, sg_m200', nI_add, sg_a1, sg_a2, sg_a3, sg_a4, sg_a5, sg_a6, Int32.add_zero, sg_inT, nI_clamp, h2, n10, sg_a1, forall_eq, true_and, and_true, true_implies, false_implies, not_true_eq_false, not_false_eq_true, implies_true]
        exact hp
      have eY : ∀ post : Int32 → Prop, wY_findSignal_2 post (nI i) (nI s) ysc ynow yjc yec yse yss yac yji yen yho ywh ytj yte yst ypl ydn yas ywt yun yrs yva yha ypa ypi yps yso ysv yct N (nI (m + 1)) → wY_findSignal_2 post (nI i) (nI s) ysc ynow yjc yec yse yss yac yji yen yho ywh ytj yte yst ypl ydn yas ywt yun yrs yva yha ypa ypi yps yso ysv yct (N + 1) (nI m) := fun post hp => by
        simp (disch := omega) only [wY_findSignal_2, ci, b3, hcy, sg_leF, sg_m3, sg_m3', sg_m4, sg_m4', sg_m6, sg_m6', sg_m7, sg_m7', sg_m200, sg_m200', nI_add, sg_a1, sg_a2, sg_a3, sg_a4, sg_a5, sg_a6, Int32.add_zero, sg_inT, nI_clamp, h3, c, sg_a1, forall_eq, true_and, and_true, true_implies, false_implies, not_true_eq_false, not_false_eq_true, implies_true]
        exact hp
      rcases IH with ⟨g1, g2⟩ | ⟨m0, g0, g3, g1, g2⟩
      · exact Or.inl ⟨fun post hp => eX post (g1 post hp), fun post hp => eY post (g2 post hp)⟩
      · exact Or.inr ⟨m0, g0, g3, fun post hp => eX post (g1 post hp), fun post hp => eY post (g2 post hp)⟩
/-! the step that waits for a signal, both ways -/
theorem sg_xes_n {i f n s : Nat} {post : Int32 → SX → Prop} (hi : i < 3) (hf : f < 20) (hs : xpp f = nI s) (hg : ∀ post : Int32 → Prop, post (-1) → wX_firstSignal_2 post (nI i) (nI s) xsc xnow xjc xec xse xki xpp xqq xrr xst xfs xin xtb xaj xat xsd xja xev xva xha xps xpa xpi xct xsn xsv xtk xac xji xou xen xuw xra xea xtj xte n 0) (hn : ¬ xat i ≤ xnow) (hp : post 0 (xsc, xnow, xjc, xec, xse, xki, xpp, xqq, xrr, xst, xfs, xin, xtb, xaj, xat, xsd, xja, xev, xva, xha, xps, xpa, xpi, xct, xsn, xsv, xtk, xac, xji, xou, xen, xuw, xra, xea, xtj, xte)) : wpX_endSignalStep post (xsc, xnow, xjc, xec, xse, xki, xpp, xqq, xrr, xst, xfs, xin, xtb, xaj, xat, xsd, xja, xev, xva, xha, xps, xpa, xpi, xct, xsn, xsv, xtk, xac, xji, xou, xen, xuw, xra, xea, xtj, xte) (nI i) (nI f) := by
  have b3 : vp_in (nI i) 3 := vp_in_nI hi (by omega)
  have ci : (nI i).toNatClampNeg = i := nI_clamp (by omega)
  simp (disch := omega) only [wpX_endSignalStep, sg_inT, nI_clamp, hs, wpX_firstSignal, forall_eq, true_and, and_true, true_implies, false_implies, not_true_eq_false, not_false_eq_true, implies_true]
  refine ⟨n, hg _ ?_⟩
  simp (disch := omega) only [ci, b3, hn, forall_eq, true_and, and_true, true_implies, false_implies, not_true_eq_false, not_false_eq_true, implies_true]
  exact hp
theorem sg_xes_t {i f n s w : Nat} {post : Int32 → SX → Prop} (hi : i < 3) (hf : f < 20) (hw : w < 4) (hs : xpp f = nI s) (hq : xqq f = nI w) (hg : ∀ post : Int32 → Prop, post (-1) → wX_firstSignal_2 post (nI i) (nI s) xsc xnow xjc xec xse xki xpp xqq xrr xst xfs xin xtb xaj xat xsd xja xev xva xha xps xpa xpi xct xsn xsv xtk xac xji xou xen xuw xra xea xtj xte n 0) (hn : xat i ≤ xnow) (hp : post 1 (xsc, xnow, xjc, xec, xse, xki, xpp, xqq, xrr, xst, upd xfs i (xfs i + 1), upd xin i 0, xtb, xaj, xat, xsd, xja, xev, upd xva (4 * i + w) (-1), xha, xps, xpa, xpi, xct, xsn, xsv, xtk, xac, xji, xou, xen, xuw, xra, xea, xtj, xte)) : wpX_endSignalStep post (xsc, xnow, xjc, xec, xse, xki, xpp, xqq, xrr, xst, xfs, xin, xtb, xaj, xat, xsd, xja, xev, xva, xha, xps, xpa, xpi, xct, xsn, xsv, xtk, xac, xji, xou, xen, xuw, xra, xea, xtj, xte) (nI i) (nI f) := by
  have b3 : vp_in (nI i) 3 := vp_in_nI hi (by omega)
  have ci : (nI i).toNatClampNeg = i := nI_clamp (by omega)
  simp (disch := omega) only [wpX_endSignalStep, sg_inT, nI_clamp, hs, wpX_firstSignal, forall_eq, true_and, and_true, true_implies, false_implies, not_true_eq_false, not_false_eq_true, implies_true]
  refine ⟨n, hg _ ?_⟩
  simp (disch := omega) only [wX_endSignalStep_32, wX_endSignalStep_55, wpX_leaveStep, ci, b3, hn, hq, sg_m3, sg_m3', sg_m4, sg_m4', sg_m6, sg_m6', sg_m7, sg_m7', sg_m200, sg_m200', nI_add, sg_a1, sg_a2, sg_a3, sg_a4, sg_a5, sg_a6, Int32.add_zero, sg_inT, nI_clamp, sg_b0, forall_eq, true_and, and_true, true_implies, false_implies, not_true_eq_false, not_false_eq_true, implies_true]
  exact hp
theorem sg_xes_s {i f n s w m : Nat} {post : Int32 → SX → Prop} (hi : i < 3) (hf : f < 20) (hw : w < 4) (hm : m < 6) (hs : xpp f = nI s) (hq : xqq f = nI w) (hg : ∀ post : Int32 → Prop, post (nI (6 * i + m)) → wX_firstSignal_2 post (nI i) (nI s) xsc xnow xjc xec xse xki xpp xqq xrr xst xfs xin xtb xaj xat xsd xja xev xva xha xps xpa xpi xct xsn xsv xtk xac xji xou xen xuw xra xea xtj xte n 0) (hp : post 1 (xsc, xnow, xjc, xec, xse, xki, xpp, xqq, xrr, xst, upd xfs i (xfs i + 1), upd xin i 0, xtb, xaj, xat, xsd, xja, xev, upd xva (4 * i + w) (xsv (6 * i + m)), xha, xps, xpa, xpi, xct, xsn, xsv, upd xtk (6 * i + m) 1, xac, xji, xou, xen, xuw, xra, xea, xtj, xte)) : wpX_endSignalStep post (xsc, xnow, xjc, xec, xse, xki, xpp, xqq, xrr, xst, xfs, xin, xtb, xaj, xat, xsd, xja, xev, xva, xha, xps, xpa, xpi, xct, xsn, xsv, xtk, xac, xji, xou, xen, xuw, xra, xea, xtj, xte) (nI i) (nI f) := by
  have b3 : vp_in (nI i) 3 := vp_in_nI hi (by omega)
  have ci : (nI i).toNatClampNeg = i := nI_clamp (by omega)
  simp (disch := omega) only [wpX_endSignalStep, sg_inT, nI_clamp, hs, wpX_firstSignal, forall_eq, true_and, and_true, true_implies, false_implies, not_true_eq_false, not_false_eq_true, implies_true]
  refine ⟨n, hg _ ?_⟩
  simp (disch := omega) only [wX_endSignalStep_32, wX_endSignalStep_55, wpX_leaveStep, ci, b3, hq, sg_nm1, sg_m3, sg_m3', sg_m4, sg_m4', sg_m6, sg_m6', sg_m7, sg_m7', sg_m200, sg_m200', nI_add, sg_a1, sg_a2, sg_a3, sg_a4, sg_a5, sg_a6, Int32.add_zero, sg_inT, nI_clamp, sg_b0, sg_b1, forall_eq, true_and, and_true, true_implies, false_implies, not_true_eq_false, not_false_eq_true, implies_true]
  exact hp
theorem sg_ygo_gn {i f n s : Nat} {post : Int32 → SY → Prop} (hi : i < 3) (hf : f < 20) (hpl : ypl i = nI f) (hwt : ywt i = 3) (hs : yss (4 * f + 1) = nI s) (hg : ∀ post : Int32 → Prop, post (-1) → wY_findSignal_2 post (nI i) (nI s) ysc ynow yjc yec yse yss yac yji yen yho ywh ytj yte yst ypl ydn yas ywt yun yrs yva yha ypa ypi yps yso ysv yct n 0) (hn : ynow < yun i) (hp : post 0 (ysc, ynow, yjc, yec, yse, yss, yac, yji, yen, yho, ywh, ytj, yte, yst, ypl, ydn, yas, ywt, yun, yrs, yva, yha, ypa, ypi, yps, yso, ysv, yct)) : wpY_goOn post (ysc, ynow, yjc, yec, yse, yss, yac, yji, yen, yho, ywh, ytj, yte, yst, ypl, ydn, yas, ywt, yun, yrs, yva, yha, ypa, ypi, yps, yso, ysv, yct) (nI i) := by
  have b3 : vp_in (nI i) 3 := vp_in_nI hi (by omega)
  have ci : (nI i).toNatClampNeg = i := nI_clamp (by omega)
  simp (disch := omega) only [wpY_goOn, wpY_part, wpY_findSignal, ci, b3, hpl, hwt, hs, sg_m4', sg_a1, Int32.add_zero, sg_inT, nI_clamp, sg_lits, sg_mA, sg_mB, sg_mC, sg_mD, sg_mE, sg_mF, Int32.reduceLT, Int32.reduceLE, forall_eq, true_and, and_true, true_implies, false_implies, not_true_eq_false, not_false_eq_true, implies_true]
  refine ⟨n, hg _ ?_⟩
  simp (disch := omega) only [wY_goOn_101, wY_goOn_213, ci, b3, hn, hwt, sg_lits, sg_mA, sg_mB, sg_mC, sg_mD, sg_mE, sg_mF, Int32.reduceLT, Int32.reduceLE, forall_eq, true_and, and_true, true_implies, false_implies, not_true_eq_false, not_false_eq_true, implies_true]
  exact hp
theorem sg_ygo_gt {i f n s w : Nat} {post : Int32 → SY → Prop} (hi : i < 3) (hf : f < 20) (hw : w < 4) (hpl : ypl i = nI f) (hwt : ywt i = 3) (hs : yss (4 * f + 1) = nI s) (hq : yss (4 * f + 2) = nI w) (hg : ∀ post : Int32 → Prop, post (-1) → wY_findSignal_2 post (nI i) (nI s) ysc ynow yjc yec yse yss yac yji yen yho ywh ytj yte yst ypl ydn yas ywt yun yrs yva yha ypa ypi yps yso ysv yct n 0) (hn : ¬ ynow < yun i) (hp : post 1 (ysc, ynow, yjc, yec, yse, yss, yac, yji, yen, yho, ywh, ytj, yte, yst, upd ypl i (nI (f + 1)), ydn, yas, upd ywt i 0, yun, yrs, upd yva (4 * i + w) (-1), yha, ypa, ypi, yps, yso, ysv, yct)) : wpY_goOn post (ysc, ynow, yjc, yec, yse, yss, yac, yji, yen, yho, ywh, ytj, yte, yst, ypl, ydn, yas, ywt, yun, yrs, yva, yha, ypa, ypi, yps, yso, ysv, yct) (nI i) := by
  have b3 : vp_in (nI i) 3 := vp_in_nI hi (by omega)
  have ci : (nI i).toNatClampNeg = i := nI_clamp (by omega)
  simp (disch := omega) only [wpY_goOn, wpY_part, wpY_findSignal, ci, b3, hpl, hwt, hs, sg_m4', sg_a1, Int32.add_zero, sg_inT, nI_clamp, sg_lits, sg_mA, sg_mB, sg_mC, sg_mD, sg_mE, sg_mF, Int32.reduceLT, Int32.reduceLE, forall_eq, true_and, and_true, true_implies, false_implies, not_true_eq_false, not_false_eq_true, implies_true]
  refine ⟨n, hg _ ?_⟩
  simp (disch := omega) only [wY_goOn_89, wY_goOn_101, wY_goOn_213, wpY_part, wpY_takeSignal, wY_takeSignal_28, wY_takeSignal_45, ci, b3, hn, hwt, hpl, hq, pk_us, sg_m3, sg_m3', sg_m4, sg_m4', sg_m6, sg_m6', sg_m7, sg_m7', sg_m200, sg_m200', nI_add, sg_a1, sg_a2, sg_a3, sg_a4, sg_a5, sg_a6, Int32.add_zero, sg_inT, nI_clamp, sg_lits, sg_mA, sg_mB, sg_mC, sg_mD, sg_mE, sg_mF, Int32.reduceLT, Int32.reduceLE, forall_eq, true_and, and_true, true_implies, false_implies, not_true_eq_false, not_false_eq_true, implies_true]
  exact hp
theorem sg_ygo_gs {i f n s w m : Nat} {post : Int32 → SY → Prop} (hi : i < 3) (hf : f < 20) (hw : w < 4) (hm : m < 6) (hpl : ypl i = nI f) (hwt : ywt i = 3) (hs : yss (4 * f + 1) = nI s) (hq : yss (4 * f + 2) = nI w) (hg : ∀ post : Int32 → Prop, post (nI m) → wY_findSignal_2 post (nI i) (nI s) ysc ynow yjc yec yse yss yac yji yen yho ywh ytj yte yst ypl ydn yas ywt yun yrs yva yha ypa ypi yps yso ysv yct n 0) (hp : post 1 (ysc, ynow, yjc, yec, yse, yss, yac, yji, yen, yho, ywh, ytj, yte, yst, upd ypl i (nI (f + 1)), ydn, yas, upd ywt i 0, yun, yrs, upd yva (4 * i + w) (ysv (6 * i + m)), yha, ypa, ypi, yps, upd yso (6 * i + m) (-1), ysv, yct)) : wpY_goOn post (ysc, ynow, yjc, yec, yse, yss, yac, yji, yen, yho, ywh, ytj, yte, yst, ypl, ydn, yas, ywt, yun, yrs, yva, yha, ypa, ypi, yps, yso, ysv, yct) (nI i) := by
  have b3 : vp_in (nI i) 3 := vp_in_nI hi (by omega)
  have ci : (nI i).toNatClampNeg = i := nI_clamp (by omega)
  simp (disch := omega) only [wpY_goOn, wpY_part, wpY_findSignal, ci, b3, hpl, hwt, hs, sg_m4', sg_a1, Int32.add_zero, sg_inT, nI_clamp, sg_lits, sg_mA, sg_mB, sg_mC, sg_mD, sg_mE, sg_mF, Int32.reduceLT, Int32.reduceLE, forall_eq, true_and, and_true, true_implies, false_implies, not_true_eq_false, not_false_eq_true, implies_true]
  refine ⟨n, hg _ ?_⟩
  simp (disch := omega) only [wY_goOn_89, wY_goOn_101, wY_goOn_213, wpY_part, wpY_takeSignal, wY_takeSignal_28, wY_takeSignal_45, ci, b3, hwt, hpl, hq, pk_us, sg_nn, sg_neg, sg_m3, sg_m3', sg_m4, sg_m4', sg_m6, sg_m6', sg_m7, sg_m7', sg_m200, sg_m200', nI_add, sg_a1, sg_a2, sg_a3, sg_a4, sg_a5, sg_a6, Int32.add_zero, sg_inT, nI_clamp, sg_lits, sg_mA, sg_mB, sg_mC, sg_mD, sg_mE, sg_mF, Int32.reduceLT, Int32.reduceLE, forall_eq, true_and, and_true, true_implies, false_implies, not_true_eq_false, not_false_eq_true, implies_true]
  exact hp
end
end
section
/-! a workflow that takes back goes on -/
theorem sg_tb {i d t : Nat} {u : SX} {v : SY} (hi : i < 3) (H : sg_W 3 i d t u v) : ∃ u1 v1 b, (∀ post : SX → Prop, post u1 → wpX_takeBack post u (nI i)) ∧ (∀ post : Int32 → SY → Prop, post b v1 → wpY_goOn post v (nI i)) ∧ sg_R t u1 v1 ∧ (sg_E i u1 v1 ∨ b = 0) := by
  have HR := sg_W_R hi (by omega) H
  have key : sg_W 4 i d t u (match v with | (ysc, ynow, yjc, yec, yse, yss, yac, yji, yen, yho, ywh, ytj, yte, yst, ypl, ydn, yas, ywt, yun, yrs, yva, yha, ypa, ypi, yps, yso, ysv, yct) => (ysc, ynow, yjc, yec, yse, yss, yac, yji, yen, yho, ywh, ytj, yte, yst, ypl, ydn, yas, upd ywt i 0, yun, yrs, yva, yha, ypa, ypi, yps, yso, ysv, yct)) := by
    obtain ⟨xsc, xnow, xjc, xec, xse, xki, xpp, xqq, xrr, xst, xfs, xin, xtb, xaj, xat, xsd, xja, xev, xva, xha, xps, xpa, xpi, xct, xsn, xsv, xtk, xac, xji, xou, xen, xuw, xra, xea, xtj, xte⟩ := u
    obtain ⟨ysc, ynow, yjc, yec, yse, yss, yac, yji, yen, yho, ywh, ytj, yte, yst, ypl, ydn, yas, ywt, yun, yrs, yva, yha, ypa, ypi, yps, yso, ysv, yct⟩ := v
    obtain ⟨sc, jc, hg, hf, hb, f, hst, hev, hf20, hfs, hpl, hdn, has, hctl⟩ := H
    refine ⟨sc, jc, hg, fun m hm c => sg_flow_fr c (hf m hm c), hb, f, hst, hev, hf20, hfs, hpl, hdn, has, ?_⟩
    rcases hctl with h | h | h | h
    · exact absurd h.1 (by decide)
    · exact absurd h.1 (by decide)
    · exact Or.inr (Or.inr (Or.inr ⟨rfl, h.2.1, h.2.2.1, pk_us⟩))
    · exact absurd h.1 (by decide)
  obtain ⟨u1, v1, hX, hY, hO⟩ := sg_tbl hi key
  obtain ⟨xsc, xnow, xjc, xec, xse, xki, xpp, xqq, xrr, xst, xfs, xin, xtb, xaj, xat, xsd, xja, xev, xva, xha, xps, xpa, xpi, xct, xsn, xsv, xtk, xac, xji, xou, xen, xuw, xra, xea, xtj, xte⟩ := u
  obtain ⟨ysc, ynow, yjc, yec, yse, yss, yac, yji, yen, yho, ywh, ytj, yte, yst, ypl, ydn, yas, ywt, yun, yrs, yva, yha, ypa, ypi, yps, yso, ysv, yct⟩ := v
  obtain ⟨sc, jc, ⟨⟨⟨e1, e2, e3, e4⟩, e5, e6, e7, e8, e9, e10, e11, e12, e13, e14, e15, e16⟩, ⟨g1, g2, g3, g4⟩, hset, hprog, hjobs, hjas⟩, hf, hb, f, hst, hev, hf20, hfs, hpl, hdn, has, hctl⟩ := H
  subst e1 e2 e3 e4 e5 e6 e7 e8 e9 e10 e11 e12 e13 e14 e15 e16 g1 g2 g3 g4
  obtain ⟨hfsc, htb, hwt, j, hj, haj, hun⟩ : f < sc ∧ xtb i = 1 ∧ ywt i = 4 ∧ sg_aw jc (xaj i) (yun i) := by
    rcases hctl with h | h | h | h
    · exact absurd h.1 (by decide)
    · exact absurd h.1 (by decide)
    · exact h.2
    · exact absurd h.1 (by decide)
  have hsc := hprog.1
  have hjc := sg_jas_le hjas
  have b3 : vp_in (nI i) 3 := vp_in_nI hi (by omega)
  have ci : (nI i).toNatClampNeg = i := nI_clamp (by omega)
  obtain ⟨a, e, ha4, hac, he, hen, hlt, hhow⟩ := hjobs j hj
  have not : xou j = -1 → yho j ≤ 2 → ∃ u1 v1 b, (∀ post : SX → Prop, post u1 → wpX_takeBack post (nI sc, nI t, nI jc, nI (sg_cnt xen jc), xse, xki, xpp, xqq, xrr, xst, xfs, xin, xtb, xaj, xat, xsd, xja, xev, xva, xha, xps, xpa, xpi, xct, xsn, xsv, xtk, xac, xji, xou, xen, xuw, xra, xea, xtj, xte) (nI i)) ∧ (∀ post : Int32 → SY → Prop, post b v1 → wpY_goOn post (nI sc, nI t, nI jc, nI (sg_cnt xen jc), xse, yss, xac, xji, xen, yho, ywh, xtj, xte, xst, ypl, ydn, yas, ywt, yun, yrs, yva, yha, xpa, xpi, xps, yso, xsv, xct) (nI i)) ∧ sg_R t u1 v1 ∧ (sg_E i u1 v1 ∨ b = 0) := fun h1 h2 => by
    refine ⟨_, _, 0, fun post h => ?_, fun post h => ?_, HR, Or.inr rfl⟩
    · simp (disch := omega) only [wpX_takeBack, wX_takeBack_22, ci, b3, haj, h1, sg_nm1, sg_m3, sg_m3', sg_m4, sg_m4', sg_m6, sg_m6', sg_m7, sg_m7', sg_m200, sg_m200', nI_add, sg_a1, sg_a2, sg_a3, sg_a4, sg_a5, sg_a6, Int32.add_zero, sg_inT, nI_clamp, sg_lits, sg_mA, sg_mB, sg_mC, sg_mD, sg_mE, sg_mF, Int32.reduceLT, Int32.reduceLE, forall_eq, true_and, and_true, true_implies, false_implies, not_true_eq_false, not_false_eq_true, implies_true]
      exact h
    · exact sg_goOn_not hi (by omega) hpl hwt (by decide) (by decide) (by decide) (by omega) hun h2 h
  rcases hhow with ⟨h1, h2, h3, h4⟩ | ⟨h1, h2, h3, h4, h5⟩ | ⟨h1, h2, h3, h4⟩ | ⟨h1, h2, h3⟩ | ⟨h1, h2, h3⟩
  · exact not h1 (by rw [h3]; decide)
  · exact not h1 (by rw [h3]; decide)
  · exact not h1 (by rw [h3]; decide)
  · obtain ⟨z1, z2, z3, z4, z5, z6, z7, z8, z9, z10, z11, z12, z13, z14, z15, z16, z17, z18, z19, z20, z21, z22, z23, z24, z25, z26, z27, z28, z29, z30, z31, z32, z33, z34, z35, z36⟩ := u1
    obtain ⟨w1, w2, w3, w4, w5, w6, w7, w8, w9, w10, w11, w12, w13, w14, w15, w16, w17, w18, w19, w20, w21, w22, w23, w24, w25, w26, w27, w28⟩ := v1
    have fin : ∀ b : Int32, (∀ post : Int32 → SY → Prop, post b (w1, w2, w3, w4, w5, w6, w7, w8, w9, w10, w11, w12, w13, w14, w15, w16, w17, w18, w19, w20, w21, w22, w23, w24, w25, w26, w27, w28) → wY_goOn_213 post (nI i) w1 w2 w3 w4 w5 w6 w7 w8 w9 w10 w11 w12 w13 w14 w15 w16 w17 w18 w19 w20 w21 w22 w23 w24 w25 w26 w27 w28) → ∀ post : Int32 → SY → Prop, post b (w1, w2, w3, w4, w5, w6, w7, w8, w9, w10, w11, w12, w13, w14, w15, w16, w17, w18, w19, w20, w21, w22, w23, w24, w25, w26, w27, w28) → wpY_goOn post (nI sc, nI t, nI jc, nI (sg_cnt xen jc), xse, yss, xac, xji, xen, yho, ywh, xtj, xte, xst, ypl, ydn, yas, ywt, yun, yrs, yva, yha, xpa, xpi, xps, yso, xsv, xct) (nI i) := fun b hb post h => by
      refine sg_ygo_4s hi (by omega) (by omega) hpl hwt hun h3 ?_
      exact hY _ (hb post h)
    have goX : ∀ post : SX → Prop, post (z1, z2, z3, z4, z5, z6, z7, z8, z9, z10, z11, z12, z13, z14, z15, z16, z17, z18, z19, z20, z21, z22, z23, z24, z25, z26, z27, z28, z29, z30, z31, z32, z33, z34, z35, z36) → wpX_takeBack post (nI sc, nI t, nI jc, nI (sg_cnt xen jc), xse, xki, xpp, xqq, xrr, xst, xfs, xin, xtb, xaj, xat, xsd, xja, xev, xva, xha, xps, xpa, xpi, xct, xsn, xsv, xtk, xac, xji, xou, xen, xuw, xra, xea, xtj, xte) (nI i) := fun post h => by
      simp (disch := omega) only [wpX_takeBack, wX_takeBack_22, ci, b3, haj, h1, sg_nm1, sg_m3, sg_m3', sg_m4, sg_m4', sg_m6, sg_m6', sg_m7, sg_m7', sg_m200, sg_m200', nI_add, sg_a1, sg_a2, sg_a3, sg_a4, sg_a5, sg_a6, Int32.add_zero, sg_inT, nI_clamp, sg_lits, sg_mA, sg_mB, sg_mC, sg_mD, sg_mE, sg_mF, Int32.reduceLT, Int32.reduceLE, forall_eq, true_and, and_true, true_implies, false_implies, not_true_eq_false, not_false_eq_true, implies_true]
      exact hX _ h
    rcases hO with ⟨r1, r2⟩ | ⟨r1, r2⟩
    · by_cases hw : w18 i = 0
      · refine ⟨_, _, 1, goX, fin 1 (fun post h => ?_), r1, Or.inl r2⟩
        simp only [wY_goOn_213, ci, b3, hw, forall_eq, true_and, and_true, true_implies, false_implies, not_true_eq_false, not_false_eq_true, implies_true]
        exact h
      · refine ⟨_, _, 0, goX, fin 0 (fun post h => ?_), r1, Or.inr rfl⟩
        simp only [wY_goOn_213, ci, b3, hw, forall_eq, true_and, and_true, true_implies, false_implies, not_true_eq_false, not_false_eq_true, implies_true]
        exact h
    · have hw : ¬ w18 i = 0 := by
        obtain ⟨_, _, _, _, _, _, _, _, _, _, _, _, _, hc⟩ := r1
        rcases hc with h | h | h | h
        · exact absurd h.1 (by decide)
        · exact absurd h.1 (by decide)
        · intro z; exact absurd (h.2.2.2.1.symm.trans z) (by decide)
        · exact absurd h.1 (by decide)
      refine ⟨_, _, 0, goX, fin 0 (fun post h => ?_), sg_W_R hi (by omega) r1, Or.inr rfl⟩
      simp only [wY_goOn_213, ci, b3, hw, forall_eq, true_and, and_true, true_implies, false_implies, not_true_eq_false, not_false_eq_true, implies_true]
      exact h
  · refine ⟨(nI sc, nI t, nI jc, nI (sg_cnt xen jc), xse, xki, xpp, xqq, xrr, upd xst i 4, xfs, xin, xtb, xaj, xat, xsd, xja, xev, xva, xha, xps, xpa, xpi, xct, xsn, xsv, xtk, xac, xji, xou, xen, xuw, xra, xea, xtj, xte), (nI sc, nI t, nI jc, nI (sg_cnt xen jc), xse, yss, xac, xji, xen, yho, ywh, xtj, xte, upd xst i 4, ypl, ydn, yas, upd ywt i 0, yun, yrs, yva, yha, xpa, xpi, xps, yso, xsv, xct), 1, fun post h => ?_, fun post h => ?_, ⟨sc, jc, ⟨⟨⟨rfl, rfl, rfl, rfl⟩, rfl, rfl, rfl, rfl, rfl, rfl, rfl, rfl, rfl, rfl, rfl, rfl⟩, ⟨rfl, rfl, rfl, rfl⟩, hset, hprog, hjobs, hjas⟩, fun m hm => ?_⟩, Or.inl ⟨by rw [pk_us]; decide, by rw [pk_us]; decide⟩⟩
    · simp (disch := omega) only [wpX_takeBack, wX_takeBack_22, ci, b3, haj, h1, sg_nm1, sg_m3, sg_m3', sg_m4, sg_m4', sg_m6, sg_m6', sg_m7, sg_m7', sg_m200, sg_m200', nI_add, sg_a1, sg_a2, sg_a3, sg_a4, sg_a5, sg_a6, Int32.add_zero, sg_inT, nI_clamp, sg_lits, sg_mA, sg_mB, sg_mC, sg_mD, sg_mE, sg_mF, Int32.reduceLT, Int32.reduceLE, forall_eq, true_and, and_true, true_implies, false_implies, not_true_eq_false, not_false_eq_true, implies_true]
      exact h
    · exact sg_ygo_4f hi (by omega) (by omega) hpl hwt hun h3 h
    · by_cases c : m = i
      · subst c
        exact Or.inr ⟨d, hb, Or.inl ⟨4, by omega, by omega, pk_us, hev⟩⟩
      · exact sg_flow_fr c (hf m hm c)
end
section
def sg_F (i : Nat) (u : SX) : Prop := match u with
  | (xsc, xnow, xjc, xec, xse, xki, xpp, xqq, xrr, xst, xfs, xin, xtb, xaj, xat, xsd, xja, xev, xva, xha, xps, xpa, xpi, xct, xsn, xsv, xtk, xac, xji, xou, xen, xuw, xra, xea, xtj, xte) => xst i = 1 ∧ xtb i = 1
def sg_N (i : Nat) (u : SX) : Prop := match u with
  | (xsc, xnow, xjc, xec, xse, xki, xpp, xqq, xrr, xst, xfs, xin, xtb, xaj, xat, xsd, xja, xev, xva, xha, xps, xpa, xpi, xct, xsn, xsv, xtk, xac, xji, xou, xen, xuw, xra, xea, xtj, xte) => xaj i = -1
theorem sg_fgo {i d t : Nat} {u : SX} {v : SY} (hi : i < 3) (H : sg_W 4 i d t u v) (hn : sg_N i u) : ∃ u2 v2 b, (∀ post : SX → Prop, post u2 → wpX_takeBack post u (nI i)) ∧ (∀ post : Int32 → SY → Prop, post b v2 → wpY_takeBack (fun u => match u with | (ysc, ynow, yjc, yec, yse, yss, yac, yji, yen, yho, ywh, ytj, yte, yst, ypl, ydn, yas, ywt, yun, yrs, yva, yha, ypa, ypi, yps, yso, ysv, yct) => wY_goOn_213 post (nI i) ysc ynow yjc yec yse yss yac yji yen yho ywh ytj yte yst ypl ydn yas ywt yun yrs yva yha ypa ypi yps yso ysv yct) v (nI i)) ∧ sg_R t u2 v2 ∧ (sg_E i u2 v2 ∨ b = 0) := by
  have b3 : vp_in (nI i) 3 := vp_in_nI hi (by omega)
  have ci : (nI i).toNatClampNeg = i := nI_clamp (by omega)
  obtain ⟨u1, v1, hX, hY, hO⟩ := sg_tbl hi H
  obtain ⟨xsc, xnow, xjc, xec, xse, xki, xpp, xqq, xrr, xst, xfs, xin, xtb, xaj, xat, xsd, xja, xev, xva, xha, xps, xpa, xpi, xct, xsn, xsv, xtk, xac, xji, xou, xen, xuw, xra, xea, xtj, xte⟩ := u
  obtain ⟨z1, z2, z3, z4, z5, z6, z7, z8, z9, z10, z11, z12, z13, z14, z15, z16, z17, z18, z19, z20, z21, z22, z23, z24, z25, z26, z27, z28, z29, z30, z31, z32, z33, z34, z35, z36⟩ := u1
  obtain ⟨w1, w2, w3, w4, w5, w6, w7, w8, w9, w10, w11, w12, w13, w14, w15, w16, w17, w18, w19, w20, w21, w22, w23, w24, w25, w26, w27, w28⟩ := v1
  have haj : xaj i = -1 := hn
  have goX : ∀ post : SX → Prop, post (z1, z2, z3, z4, z5, z6, z7, z8, z9, z10, z11, z12, z13, z14, z15, z16, z17, z18, z19, z20, z21, z22, z23, z24, z25, z26, z27, z28, z29, z30, z31, z32, z33, z34, z35, z36) → wpX_takeBack post (xsc, xnow, xjc, xec, xse, xki, xpp, xqq, xrr, xst, xfs, xin, xtb, xaj, xat, xsd, xja, xev, xva, xha, xps, xpa, xpi, xct, xsn, xsv, xtk, xac, xji, xou, xen, xuw, xra, xea, xtj, xte) (nI i) := fun post h => by
    simp (disch := omega) only [wpX_takeBack, wX_takeBack_22, ci, b3, haj, sg_lits, sg_mA, sg_mB, sg_mC, sg_mD, sg_mE, sg_mF, Int32.reduceLT, Int32.reduceLE, forall_eq, true_and, and_true, true_implies, false_implies, not_true_eq_false, not_false_eq_true, implies_true]
    exact hX _ h
  rcases hO with ⟨r1, r2⟩ | ⟨r1, r2⟩
  · by_cases hw : w18 i = 0
    · refine ⟨_, _, 1, goX, fun post h => hY _ ?_, r1, Or.inl r2⟩
      simp only [wY_goOn_213, ci, b3, hw, forall_eq, true_and, and_true, true_implies, false_implies, not_true_eq_false, not_false_eq_true, implies_true]
      exact h
    · refine ⟨_, _, 0, goX, fun post h => hY _ ?_, r1, Or.inr rfl⟩
      simp only [wY_goOn_213, ci, b3, hw, forall_eq, true_and, and_true, true_implies, false_implies, not_true_eq_false, not_false_eq_true, implies_true]
      exact h
  · have hw : ¬ w18 i = 0 := by
      obtain ⟨_, _, _, _, _, _, _, _, _, _, _, _, _, hc⟩ := r1
      rcases hc with h | h | h | h
      · exact absurd h.1 (by decide)
      · exact absurd h.1 (by decide)
      · intro z; exact absurd (h.2.2.2.1.symm.trans z) (by decide)
      · exact absurd h.1 (by decide)
    refine ⟨_, _, 0, goX, fun post h => hY _ ?_, sg_W_R hi (by omega) r1, Or.inr rfl⟩
    simp only [wY_goOn_213, ci, b3, hw, forall_eq, true_and, and_true, true_implies, false_implies, not_true_eq_false, not_false_eq_true, implies_true]
    exact h
theorem sg_var_upd {i k : Nat} {x : Int32} {xva yva : Nat → Int32} (h : sg_var i xva yva) : sg_var i (upd xva k x) (upd yva k x) := by
  intro v hv
  by_cases c : 4 * i + v = k
  · rw [c, pk_us, pk_us]
  · rw [pk_un c, pk_un c]; exact h v hv
theorem sg_h5_hs {jc i a : Nat} {xha yha : Nat → Int32} (h : sg_h5 jc i a xha yha) : sg_hs jc i xha (upd yha (3 * i + a) (-1)) := by
  intro k hk
  by_cases c : k = a
  · subst c
    rw [pk_us, (h k hk).2 rfl]
    exact ⟨rfl, Or.inl rfl⟩
  · rw [pk_un (by omega)]
    exact (h k hk).1 c
theorem sg_sig_take {i m0 n : Nat} {xct xsn xtk yso : Nat → Int32} (hn : n ≤ 6) (hct : xct i = nI n) (H : ∀ m, m < n → (xsn (6 * i + m) = 0 ∨ xsn (6 * i + m) = 1) ∧ ((xtk (6 * i + m) = 0 ∧ yso (6 * i + m) = xsn (6 * i + m)) ∨ (xtk (6 * i + m) = 1 ∧ yso (6 * i + m) = -1))) : sg_sig i xct xsn (upd xtk (6 * i + m0) 1) (upd yso (6 * i + m0) (-1)) := by
  refine ⟨n, hn, hct, fun m hm => ?_⟩
  by_cases c : m = m0
  · subst c
    rw [pk_us, pk_us]
    exact ⟨(H m hm).1, Or.inr ⟨rfl, rfl⟩⟩
  · rw [pk_un (by omega), pk_un (by omega)]
    exact H m hm
theorem sg_ok3 {p q r : Int32} (h : sg_ok 3 p q r) : ∃ a b c, a < 4 ∧ b < 4 ∧ c < 4 ∧ p = nI a ∧ q = nI b ∧ r = nI c := by
  simpa only [sg_ok, sg_lits, false_and, true_and, false_or, or_false] using h
theorem sg_ok5 {p q r : Int32} (h : sg_ok 5 p q r) : ∃ a b, a < 3 ∧ b < 4 ∧ p = nI a ∧ q = nI b := by
  simpa only [sg_ok, sg_lits, false_and, true_and, false_or, or_false] using h
theorem sg_ok7 {p q r : Int32} (h : sg_ok 7 p q r) : ∃ a, a < 4 ∧ p = nI a := by
  simpa only [sg_ok, sg_lits, false_and, true_and, false_or, or_false] using h
theorem sg_ok10 {p q r : Int32} (h : sg_ok 10 p q r) : ∃ a b, a < 2 ∧ b < 4 ∧ p = nI a ∧ q = nI b := by
  simpa only [sg_ok, sg_lits, false_and, true_and, false_or, or_false] using h
def sg_G (i d t : Nat) (u : SX) (v : SY) : Prop :=
  ((∀ post : Int32 → SX → Prop, post 0 u → wpX_endStep post u (nI i)) ∧ (∀ post : Int32 → SY → Prop, post 0 v → wpY_goOn post v (nI i))) ∨
  (∃ u1 v1, (∀ post : Int32 → SX → Prop, post 1 u1 → wpX_endStep post u (nI i)) ∧ (∀ post : Int32 → SY → Prop, post 1 v1 → wpY_goOn post v (nI i)) ∧ sg_W 1 i d t u1 v1) ∨
  (∃ u1 u2 v2 b, (∀ post : Int32 → SX → Prop, post 1 u1 → wpX_endStep post u (nI i)) ∧ sg_F i u1 ∧ (∀ post : SX → Prop, post u2 → wpX_takeBack post u1 (nI i)) ∧ (∀ post : Int32 → SY → Prop, post b v2 → wpY_goOn post v (nI i)) ∧ sg_R t u2 v2 ∧ (sg_E i u2 v2 ∨ b = 0))
theorem sg_es {i d t : Nat} {u : SX} {v : SY} (hi : i < 3) (H : sg_W 2 i d t u v) : sg_G i d t u v := by
  obtain ⟨xsc, xnow, xjc, xec, xse, xki, xpp, xqq, xrr, xst, xfs, xin, xtb, xaj, xat, xsd, xja, xev, xva, xha, xps, xpa, xpi, xct, xsn, xsv, xtk, xac, xji, xou, xen, xuw, xra, xea, xtj, xte⟩ := u
  obtain ⟨ysc, ynow, yjc, yec, yse, yss, yac, yji, yen, yho, ywh, ytj, yte, yst, ypl, ydn, yas, ywt, yun, yrs, yva, yha, ypa, ypi, yps, yso, ysv, yct⟩ := v
  obtain ⟨sc, jc, ⟨⟨⟨e1, e2, e3, e4⟩, e5, e6, e7, e8, e9, e10, e11, e12, e13, e14, e15, e16⟩, ⟨g1, g2, g3, g4⟩, hset, hprog, hjobs, hjas⟩, hf, hb, f, hst, hev, hf20, hfs, hpl, hdn, has, hctl⟩ := H
  subst e1 e2 e3 e4 e5 e6 e7 e8 e9 e10 e11 e12 e13 e14 e15 e16 g1 g2 g3 g4
  have hb0 := hb
  obtain ⟨hd, hsd, hva, hpil, n, hn6, hct, hsig⟩ := hb
  obtain ⟨hfsc, hin, htb, hctl⟩ : f < sc ∧ xin i = 1 ∧ xtb i = 0 ∧ ((ywt i = 1 ∧ sg_aw jc (xaj i) (yun i) ∧ ((xki f = 3 ∧ sg_hs jc i xha yha) ∨ (xki f = 5 ∧ ∃ a, a < 3 ∧ xpp f = nI a ∧ sg_h5 jc i a xha yha))) ∨ (ywt i = 2 ∧ xki f = 7 ∧ yun i = xat i ∧ sg_hs jc i xha yha) ∨ (ywt i = 3 ∧ xki f = 10 ∧ yun i = xat i ∧ sg_hs jc i xha yha)) := by
    rcases hctl with h | h | h | h
    · exact absurd h.1 (by decide)
    · exact h.2
    · exact absurd h.1 (by decide)
    · exact absurd h.1 (by decide)
  have hsc := hprog.1
  obtain ⟨s0, s1, s2, s3, hok⟩ := hprog.2 f hfsc
  have hjc := sg_jas_le hjas
  have b3 : vp_in (nI i) 3 := vp_in_nI hi (by omega)
  have ci : (nI i).toNatClampNeg = i := nI_clamp (by omega)
  have hf1 : xfs i + 1 = nI (f + 1) := by rw [hfs]; exact nI_1 f
  rcases hctl with ⟨hwt, ⟨j, hj, haj, hun⟩, hkind⟩ | ⟨hwt, hk, hun, hhs⟩ | ⟨hwt, hk, hun, hhs⟩
  · obtain ⟨a, e, ha4, hac, he, hen, hlt, hhow⟩ := hjobs j hj
    have not : xou j = -1 → yho j ≤ 2 → sg_G i d t (nI sc, nI t, nI jc, nI (sg_cnt xen jc), xse, xki, xpp, xqq, xrr, xst, xfs, xin, xtb, xaj, xat, xsd, xja, xev, xva, xha, xps, xpa, xpi, xct, xsn, xsv, xtk, xac, xji, xou, xen, xuw, xra, xea, xtj, xte) (nI sc, nI t, nI jc, nI (sg_cnt xen jc), xse, yss, xac, xji, xen, yho, ywh, xtj, xte, xst, ypl, ydn, yas, ywt, yun, yrs, yva, yha, xpa, xpi, xps, yso, xsv, xct) := fun h1 h2 => by
      refine Or.inl ⟨fun post h => ?_, fun post h => ?_⟩
      · rcases hkind with ⟨hk, _⟩ | ⟨hk, _⟩
        · simp (disch := omega) only [wpX_endStep, ci, b3, hfs, hk, sg_m3, sg_m3', sg_m4, sg_m4', sg_m6, sg_m6', sg_m7, sg_m7', sg_m200, sg_m200', nI_add, sg_a1, sg_a2, sg_a3, sg_a4, sg_a5, sg_a6, Int32.add_zero, sg_inT, nI_clamp, sg_lits, sg_mA, sg_mB, sg_mC, sg_mD, sg_mE, sg_mF, Int32.reduceLT, Int32.reduceLE, forall_eq, true_and, and_true, true_implies, false_implies, not_true_eq_false, not_false_eq_true, implies_true]
          exact sg_xej_n hi (by omega) haj h1 ⟨sg_n0, h⟩
        · simp (disch := omega) only [wpX_endStep, ci, b3, hfs, hk, sg_m3, sg_m3', sg_m4, sg_m4', sg_m6, sg_m6', sg_m7, sg_m7', sg_m200, sg_m200', nI_add, sg_a1, sg_a2, sg_a3, sg_a4, sg_a5, sg_a6, Int32.add_zero, sg_inT, nI_clamp, sg_lits, sg_mA, sg_mB, sg_mC, sg_mD, sg_mE, sg_mF, Int32.reduceLT, Int32.reduceLE, forall_eq, true_and, and_true, true_implies, false_implies, not_true_eq_false, not_false_eq_true, implies_true]
          exact sg_xej_n hi (by omega) haj h1 ⟨sg_n0, h⟩
      · exact sg_goOn_not hi (by omega) hpl hwt (by decide) (by decide) (by decide) (by omega) hun h2 h
    rcases hhow with ⟨h1, h2, h3, h4⟩ | ⟨h1, h2, h3, h4, h5⟩ | ⟨h1, h2, h3, h4⟩ | ⟨h1, h2, h3⟩ | ⟨h1, h2, h3⟩
    · exact not h1 (by rw [h3]; decide)
    · exact not h1 (by rw [h3]; decide)
    · exact not h1 (by rw [h3]; decide)
    · rcases hkind with ⟨hk, hhs⟩ | ⟨hk, p, hp3, hp, hh5⟩
      · obtain ⟨a', b', w, _, _, hw, _, _, hr⟩ := sg_ok3 (hk ▸ hok)
        refine Or.inr (Or.inl ⟨(nI sc, nI t, nI jc, nI (sg_cnt xen jc), xse, xki, xpp, xqq, xrr, xst, upd xfs i (xfs i + 1), upd xin i 0, xtb, xaj, xat, xsd, xja, xev, upd xva (4 * i + w) (xji j * xse (7 * a + 5) + xse (7 * a + 6)), xha, xps, xpa, xpi, xct, xsn, xsv, xtk, xac, xji, xou, xen, xuw, xra, xea, xtj, xte), (nI sc, nI t, nI jc, nI (sg_cnt xen jc), xse, yss, xac, xji, xen, yho, ywh, xtj, xte, xst, upd ypl i (nI (f + 1)), ydn, yas, upd ywt i 0, yun, yrs, upd yva (4 * i + w) (xji j * xse (7 * a + 5) + xse (7 * a + 6)), yha, xpa, xpi, xps, yso, xsv, xct), fun post h => ?_, fun post h => ?_, ⟨sc, jc, ⟨⟨⟨rfl, rfl, rfl, rfl⟩, rfl, rfl, rfl, rfl, rfl, rfl, rfl, rfl, rfl, rfl, rfl, rfl⟩, ⟨rfl, rfl, rfl, rfl⟩, hset, hprog, hjobs, hjas⟩, fun m hm c => sg_flow_fr c (hf m hm c), ⟨hd, hsd, sg_var_upd hva, hpil, n, hn6, hct, hsig⟩, f + 1, hst, hev, by omega, pk_us.trans hf1, pk_us, hdn, has, Or.inl ⟨rfl, pk_us, pk_us, htb, hhs⟩⟩⟩)
        · simp (disch := omega) only [wpX_endStep, ci, b3, hfs, hk, hr, sg_m3, sg_m3', sg_m4, sg_m4', sg_m6, sg_m6', sg_m7, sg_m7', sg_m200, sg_m200', nI_add, sg_a1, sg_a2, sg_a3, sg_a4, sg_a5, sg_a6, Int32.add_zero, sg_inT, nI_clamp, sg_lits, sg_mA, sg_mB, sg_mC, sg_mD, sg_mE, sg_mF, Int32.reduceLT, Int32.reduceLE, forall_eq, true_and, and_true, true_implies, false_implies, not_true_eq_false, not_false_eq_true, implies_true]
          refine sg_xej_s hi hw (by omega) ha4 haj h1 hac ⟨sg_n1, ?_⟩
          exact h
        · exact sg_ygo_s3 hi hw (by omega) ha4 (by omega) hpl hwt hun (s0.trans hk) (s3.trans hr) h3 hac h
      · obtain ⟨a', w, _, hw, _, hq⟩ := sg_ok5 (hk ▸ hok)
        refine Or.inr (Or.inl ⟨(nI sc, nI t, nI jc, nI (sg_cnt xen jc), xse, xki, xpp, xqq, xrr, xst, upd xfs i (xfs i + 1), upd xin i 0, xtb, xaj, xat, xsd, xja, xev, upd xva (4 * i + w) (xji j * xse (7 * a + 5) + xse (7 * a + 6)), xha, xps, xpa, xpi, xct, xsn, xsv, xtk, xac, xji, xou, xen, xuw, xra, xea, xtj, xte), (nI sc, nI t, nI jc, nI (sg_cnt xen jc), xse, yss, xac, xji, xen, yho, ywh, xtj, xte, xst, upd ypl i (nI (f + 1)), ydn, yas, upd ywt i 0, yun, yrs, upd yva (4 * i + w) (xji j * xse (7 * a + 5) + xse (7 * a + 6)), upd yha (3 * i + p) (-1), xpa, xpi, xps, yso, xsv, xct), fun post h => ?_, fun post h => ?_, ⟨sc, jc, ⟨⟨⟨rfl, rfl, rfl, rfl⟩, rfl, rfl, rfl, rfl, rfl, rfl, rfl, rfl, rfl, rfl, rfl, rfl⟩, ⟨rfl, rfl, rfl, rfl⟩, hset, hprog, hjobs, hjas⟩, fun m hm c => sg_flow_fr c (hf m hm c), ⟨hd, hsd, sg_var_upd hva, hpil, n, hn6, hct, hsig⟩, f + 1, hst, hev, by omega, pk_us.trans hf1, pk_us, hdn, has, Or.inl ⟨rfl, pk_us, pk_us, htb, sg_h5_hs hh5⟩⟩⟩)
        · simp (disch := omega) only [wpX_endStep, ci, b3, hfs, hk, hq, sg_m3, sg_m3', sg_m4, sg_m4', sg_m6, sg_m6', sg_m7, sg_m7', sg_m200, sg_m200', nI_add, sg_a1, sg_a2, sg_a3, sg_a4, sg_a5, sg_a6, Int32.add_zero, sg_inT, nI_clamp, sg_lits, sg_mA, sg_mB, sg_mC, sg_mD, sg_mE, sg_mF, Int32.reduceLT, Int32.reduceLE, forall_eq, true_and, and_true, true_implies, false_implies, not_true_eq_false, not_false_eq_true, implies_true]
          refine sg_xej_s hi hw (by omega) ha4 haj h1 hac ⟨sg_n1, ?_⟩
          exact h
        · exact sg_ygo_s5 hi hp3 hw (by omega) ha4 (by omega) hpl hwt hun (s0.trans hk) (s2.trans hq) (s1.trans hp) h3 hac h
    · rcases hkind with ⟨hk, hhs⟩ | ⟨hk, p, hp3, hp, hh5⟩
      · have W4 : sg_W 4 i d t (nI sc, nI t, nI jc, nI (sg_cnt xen jc), xse, xki, xpp, xqq, xrr, xst, upd xfs i (xfs i), xin, upd xtb i 1, upd xaj i (-1), xat, xsd, xja, xev, xva, xha, xps, xpa, xpi, xct, xsn, xsv, xtk, xac, xji, xou, xen, xuw, xra, xea, xtj, xte) (nI sc, nI t, nI jc, nI (sg_cnt xen jc), xse, yss, xac, xji, xen, yho, ywh, xtj, xte, xst, ypl, ydn, yas, upd ywt i 0, yun, yrs, yva, yha, xpa, xpi, xps, yso, xsv, xct) := ⟨sc, jc, ⟨⟨⟨rfl, rfl, rfl, rfl⟩, rfl, rfl, rfl, rfl, rfl, rfl, rfl, rfl, rfl, rfl, rfl, rfl⟩, ⟨rfl, rfl, rfl, rfl⟩, hset, hprog, hjobs, hjas⟩, fun m hm c => sg_flow_fr c (hf m hm c), hb0, f, hst, hev, hf20, pk_us.trans hfs, hpl, hdn, has, Or.inr (Or.inr (Or.inr ⟨rfl, hfsc, pk_us, pk_us⟩))⟩
        obtain ⟨u2, v2, b, r1, r2, r3, r4⟩ := sg_fgo hi W4 pk_us
        refine Or.inr (Or.inr ⟨_, u2, v2, b, fun post h => ?_, ⟨hst, pk_us⟩, r1, fun post h => ?_, r3, r4⟩)
        · simp (disch := omega) only [wpX_endStep, ci, b3, hfs, hk, sg_m3, sg_m3', sg_m4, sg_m4', sg_m6, sg_m6', sg_m7, sg_m7', sg_m200, sg_m200', nI_add, sg_a1, sg_a2, sg_a3, sg_a4, sg_a5, sg_a6, Int32.add_zero, sg_inT, nI_clamp, sg_lits, sg_mA, sg_mB, sg_mC, sg_mD, sg_mE, sg_mF, Int32.reduceLT, Int32.reduceLE, forall_eq, true_and, and_true, true_implies, false_implies, not_true_eq_false, not_false_eq_true, implies_true]
          refine sg_xej_f hi (by omega) haj h1 ⟨sg_n1, ?_⟩
          exact h
        · exact sg_ygo_f3 hi (by omega) (by omega) hpl hwt hun (s0.trans hk) h3 (r2 post h)
      · have W4 : sg_W 4 i d t (nI sc, nI t, nI jc, nI (sg_cnt xen jc), xse, xki, xpp, xqq, xrr, xst, upd xfs i (xfs i), xin, upd xtb i 1, upd xaj i (-1), xat, xsd, xja, xev, xva, xha, xps, xpa, xpi, xct, xsn, xsv, xtk, xac, xji, xou, xen, xuw, xra, xea, xtj, xte) (nI sc, nI t, nI jc, nI (sg_cnt xen jc), xse, yss, xac, xji, xen, yho, ywh, xtj, xte, xst, ypl, ydn, yas, upd ywt i 0, yun, yrs, yva, upd yha (3 * i + p) (-1), xpa, xpi, xps, yso, xsv, xct) := ⟨sc, jc, ⟨⟨⟨rfl, rfl, rfl, rfl⟩, rfl, rfl, rfl, rfl, rfl, rfl, rfl, rfl, rfl, rfl, rfl, rfl⟩, ⟨rfl, rfl, rfl, rfl⟩, hset, hprog, hjobs, hjas⟩, fun m hm c => sg_flow_fr c (hf m hm c), hb0, f, hst, hev, hf20, pk_us.trans hfs, hpl, hdn, has, Or.inr (Or.inr (Or.inr ⟨rfl, hfsc, pk_us, pk_us⟩))⟩
        obtain ⟨u2, v2, b, r1, r2, r3, r4⟩ := sg_fgo hi W4 pk_us
        refine Or.inr (Or.inr ⟨_, u2, v2, b, fun post h => ?_, ⟨hst, pk_us⟩, r1, fun post h => ?_, r3, r4⟩)
        · simp (disch := omega) only [wpX_endStep, ci, b3, hfs, hk, sg_m3, sg_m3', sg_m4, sg_m4', sg_m6, sg_m6', sg_m7, sg_m7', sg_m200, sg_m200', nI_add, sg_a1, sg_a2, sg_a3, sg_a4, sg_a5, sg_a6, Int32.add_zero, sg_inT, nI_clamp, sg_lits, sg_mA, sg_mB, sg_mC, sg_mD, sg_mE, sg_mF, Int32.reduceLT, Int32.reduceLE, forall_eq, true_and, and_true, true_implies, false_implies, not_true_eq_false, not_false_eq_true, implies_true]
          refine sg_xej_f hi (by omega) haj h1 ⟨sg_n1, ?_⟩
          exact h
        · exact sg_ygo_f5 hi hp3 (by omega) (by omega) hpl hwt hun (s0.trans hk) (s1.trans hp) h3 (r2 post h)
  · by_cases hn : xat i ≤ nI t
    · refine Or.inr (Or.inl ⟨(nI sc, nI t, nI jc, nI (sg_cnt xen jc), xse, xki, xpp, xqq, xrr, xst, upd xfs i (xfs i + 1), upd xin i 0, xtb, xaj, xat, xsd, xja, xev, xva, xha, xps, xpa, xpi, xct, xsn, xsv, xtk, xac, xji, xou, xen, xuw, xra, xea, xtj, xte), (nI sc, nI t, nI jc, nI (sg_cnt xen jc), xse, yss, xac, xji, xen, yho, ywh, xtj, xte, xst, upd ypl i (nI (f + 1)), ydn, yas, upd ywt i 0, yun, yrs, yva, yha, xpa, xpi, xps, yso, xsv, xct), fun post h => ?_, fun post h => ?_, ⟨sc, jc, ⟨⟨⟨rfl, rfl, rfl, rfl⟩, rfl, rfl, rfl, rfl, rfl, rfl, rfl, rfl, rfl, rfl, rfl, rfl⟩, ⟨rfl, rfl, rfl, rfl⟩, hset, hprog, hjobs, hjas⟩, fun m hm c => sg_flow_fr c (hf m hm c), hb0, f + 1, hst, hev, by omega, pk_us.trans hf1, pk_us, hdn, has, Or.inl ⟨rfl, pk_us, pk_us, htb, hhs⟩⟩⟩)
      · simp (disch := omega) only [wpX_endStep, wpX_endPause, ci, b3, hfs, hk, hn, sg_m3, sg_m3', sg_m4, sg_m4', sg_m6, sg_m6', sg_m7, sg_m7', sg_m200, sg_m200', nI_add, sg_a1, sg_a2, sg_a3, sg_a4, sg_a5, sg_a6, Int32.add_zero, sg_inT, nI_clamp, sg_lits, sg_mA, sg_mB, sg_mC, sg_mD, sg_mE, sg_mF, Int32.reduceLT, Int32.reduceLE, forall_eq, true_and, and_true, true_implies, false_implies, not_true_eq_false, not_false_eq_true, implies_true]
        refine sg_xlv hi ?_
        exact ⟨sg_n1, h⟩
      · exact sg_ygo_p hi (by omega) hpl hwt (by rw [hun]; exact Int32.not_lt.mpr hn) h
    · refine Or.inl ⟨fun post h => ?_, fun post h => ?_⟩
      · simp (disch := omega) only [wpX_endStep, wpX_endPause, ci, b3, hfs, hk, hn, sg_m3, sg_m3', sg_m4, sg_m4', sg_m6, sg_m6', sg_m7, sg_m7', sg_m200, sg_m200', nI_add, sg_a1, sg_a2, sg_a3, sg_a4, sg_a5, sg_a6, Int32.add_zero, sg_inT, nI_clamp, sg_lits, sg_mA, sg_mB, sg_mC, sg_mD, sg_mE, sg_mF, Int32.reduceLT, Int32.reduceLE, forall_eq, true_and, and_true, true_implies, false_implies, not_true_eq_false, not_false_eq_true, implies_true]
        exact ⟨sg_n0, h⟩
      · exact sg_ygo_pn hi (by omega) hpl hwt (by rw [hun]; exact Int32.not_le.mp hn) h
  · obtain ⟨s, w, hs2, hw, hp, hq⟩ := sg_ok10 (hk ▸ hok)
    rcases sg_fsig (xsc := nI sc) (xnow := nI t) (xjc := nI jc) (xec := nI (sg_cnt xen jc)) (xse := xse) (xki := xki) (xpp := xpp) (xqq := xqq) (xrr := xrr) (xst := xst) (xfs := xfs) (xin := xin) (xtb := xtb) (xaj := xaj) (xat := xat) (xsd := xsd) (xja := xja) (xev := xev) (xva := xva) (xha := xha) (xps := xps) (xpa := xpa) (xpi := xpi) (xsv := xsv) (xac := xac) (xji := xji) (xou := xou) (xen := xen) (xuw := xuw) (xra := xra) (xea := xea) (xtj := xtj) (xte := xte) (ysc := nI sc) (ynow := nI t) (yjc := nI jc) (yec := nI (sg_cnt xen jc)) (yse := xse) (yss := yss) (yac := xac) (yji := xji) (yen := xen) (yho := yho) (ywh := ywh) (ytj := xtj) (yte := xte) (yst := xst) (ypl := ypl) (ydn := ydn) (yas := yas) (ywt := ywt) (yun := yun) (yrs := yrs) (yva := yva) (yha := yha) (ypa := xpa) (ypi := xpi) (yps := xps) (ysv := xsv) hi hn6 hct hct hs2 hsig n 0 (n + 1) (by omega) (by omega) with ⟨gX, gY⟩ | ⟨m0, hm0, htk, gX, gY⟩
    · by_cases hn : xat i ≤ nI t
      · refine Or.inr (Or.inl ⟨(nI sc, nI t, nI jc, nI (sg_cnt xen jc), xse, xki, xpp, xqq, xrr, xst, upd xfs i (xfs i + 1), upd xin i 0, xtb, xaj, xat, xsd, xja, xev, upd xva (4 * i + w) (-1), xha, xps, xpa, xpi, xct, xsn, xsv, xtk, xac, xji, xou, xen, xuw, xra, xea, xtj, xte), (nI sc, nI t, nI jc, nI (sg_cnt xen jc), xse, yss, xac, xji, xen, yho, ywh, xtj, xte, xst, upd ypl i (nI (f + 1)), ydn, yas, upd ywt i 0, yun, yrs, upd yva (4 * i + w) (-1), yha, xpa, xpi, xps, yso, xsv, xct), fun post h => ?_, fun post h => ?_, ⟨sc, jc, ⟨⟨⟨rfl, rfl, rfl, rfl⟩, rfl, rfl, rfl, rfl, rfl, rfl, rfl, rfl, rfl, rfl, rfl, rfl⟩, ⟨rfl, rfl, rfl, rfl⟩, hset, hprog, hjobs, hjas⟩, fun m hm c => sg_flow_fr c (hf m hm c), ⟨hd, hsd, sg_var_upd hva, hpil, n, hn6, hct, hsig⟩, f + 1, hst, hev, by omega, pk_us.trans hf1, pk_us, hdn, has, Or.inl ⟨rfl, pk_us, pk_us, htb, hhs⟩⟩⟩)
        · simp (disch := omega) only [wpX_endStep, wX_endStep_78, ci, b3, hfs, hk, sg_m3, sg_m3', sg_m4, sg_m4', sg_m6, sg_m6', sg_m7, sg_m7', sg_m200, sg_m200', nI_add, sg_a1, sg_a2, sg_a3, sg_a4, sg_a5, sg_a6, Int32.add_zero, sg_inT, nI_clamp, sg_lits, sg_mA, sg_mB, sg_mC, sg_mD, sg_mE, sg_mF, Int32.reduceLT, Int32.reduceLE, forall_eq, true_and, and_true, true_implies, false_implies, not_true_eq_false, not_false_eq_true, implies_true]
          refine sg_xes_t hi (by omega) hw hp hq gX hn ⟨sg_n1, ?_⟩
          exact h
        · exact sg_ygo_gt hi (by omega) hw hpl hwt (s1.trans hp) (s2.trans hq) gY (by rw [hun]; exact Int32.not_lt.mpr hn) h
      · refine Or.inl ⟨fun post h => ?_, fun post h => ?_⟩
        · simp (disch := omega) only [wpX_endStep, wX_endStep_78, ci, b3, hfs, hk, sg_m3, sg_m3', sg_m4, sg_m4', sg_m6, sg_m6', sg_m7, sg_m7', sg_m200, sg_m200', nI_add, sg_a1, sg_a2, sg_a3, sg_a4, sg_a5, sg_a6, Int32.add_zero, sg_inT, nI_clamp, sg_lits, sg_mA, sg_mB, sg_mC, sg_mD, sg_mE, sg_mF, Int32.reduceLT, Int32.reduceLE, forall_eq, true_and, and_true, true_implies, false_implies, not_true_eq_false, not_false_eq_true, implies_true]
          refine sg_xes_n hi (by omega) hp gX hn ⟨sg_n0, ?_⟩
          exact h
        · exact sg_ygo_gn hi (by omega) hpl hwt (s1.trans hp) gY (by rw [hun]; exact Int32.not_le.mp hn) h
    · refine Or.inr (Or.inl ⟨(nI sc, nI t, nI jc, nI (sg_cnt xen jc), xse, xki, xpp, xqq, xrr, xst, upd xfs i (xfs i + 1), upd xin i 0, xtb, xaj, xat, xsd, xja, xev, upd xva (4 * i + w) (xsv (6 * i + m0)), xha, xps, xpa, xpi, xct, xsn, xsv, upd xtk (6 * i + m0) 1, xac, xji, xou, xen, xuw, xra, xea, xtj, xte), (nI sc, nI t, nI jc, nI (sg_cnt xen jc), xse, yss, xac, xji, xen, yho, ywh, xtj, xte, xst, upd ypl i (nI (f + 1)), ydn, yas, upd ywt i 0, yun, yrs, upd yva (4 * i + w) (xsv (6 * i + m0)), yha, xpa, xpi, xps, upd yso (6 * i + m0) (-1), xsv, xct), fun post h => ?_, fun post h => ?_, ⟨sc, jc, ⟨⟨⟨rfl, rfl, rfl, rfl⟩, rfl, rfl, rfl, rfl, rfl, rfl, rfl, rfl, rfl, rfl, rfl, rfl⟩, ⟨rfl, rfl, rfl, rfl⟩, hset, hprog, hjobs, hjas⟩, fun m hm c => sg_flow_fr c (hf m hm c), ⟨hd, hsd, sg_var_upd hva, hpil, sg_sig_take hn6 hct hsig⟩, f + 1, hst, hev, by omega, pk_us.trans hf1, pk_us, hdn, has, Or.inl ⟨rfl, pk_us, pk_us, htb, hhs⟩⟩⟩)
      · simp (disch := omega) only [wpX_endStep, wX_endStep_78, ci, b3, hfs, hk, sg_m3, sg_m3', sg_m4, sg_m4', sg_m6, sg_m6', sg_m7, sg_m7', sg_m200, sg_m200', nI_add, sg_a1, sg_a2, sg_a3, sg_a4, sg_a5, sg_a6, Int32.add_zero, sg_inT, nI_clamp, sg_lits, sg_mA, sg_mB, sg_mC, sg_mD, sg_mE, sg_mF, Int32.reduceLT, Int32.reduceLE, forall_eq, true_and, and_true, true_implies, false_implies, not_true_eq_false, not_false_eq_true, implies_true]
        refine sg_xes_s hi (by omega) hw (by omega) hp hq gX ⟨sg_n1, ?_⟩
        exact h
      · exact sg_ygo_gs hi (by omega) hw (by omega) hpl hwt (s1.trans hp) (s2.trans hq) gY h
end
section
def sg_K (i : Nat) (k : Int32) (u : SX) : Prop := match u with
  | (xsc, xnow, xjc, xec, xse, xki, xpp, xqq, xrr, xst, xfs, xin, xtb, xaj, xat, xsd, xja, xev, xva, xha, xps, xpa, xpi, xct, xsn, xsv, xtk, xac, xji, xou, xen, xuw, xra, xea, xtj, xte) => ∃ f sc, xfs i = nI f ∧ xsc = nI sc ∧ f < sc ∧ sc ≤ 20 ∧ xki f = k
def sg_D (i d : Nat) (v : SY) : SY := match v with
  | (ysc, ynow, yjc, yec, yse, yss, yac, yji, yen, yho, ywh, ytj, yte, yst, ypl, ydn, yas, ywt, yun, yrs, yva, yha, ypa, ypi, yps, yso, ysv, yct) => (ysc, ynow, yjc, yec, yse, yss, yac, yji, yen, yho, ywh, ytj, yte, yst, ypl, upd ydn i (nI (d + 1)), yas, ywt, yun, yrs, yva, yha, ypa, ypi, yps, yso, ysv, yct)
def sg_S (i d t : Nat) (u : SX) (v : SY) : Prop := ∃ u1 v1, (∀ post : SX → Prop, post u1 → wpX_beginStep post u (nI i)) ∧ (∀ post : SY → Prop, post v1 → wpY_doStep post (sg_D i d v) (nI i)) ∧
  ((sg_R t u1 v1 ∧ sg_E i u1 v1) ∨ sg_W 1 i (d + 1) t u1 v1 ∨ sg_W 2 i (d + 1) t u1 v1 ∨ (sg_F i u1 ∧ ∃ u2, (∀ post : SX → Prop, post u2 → wpX_takeBack post u1 (nI i)) ∧ ((sg_R t u2 v1 ∧ sg_E i u2 v1) ∨ (sg_W 3 i (d + 1) t u2 v1 ∧ ∀ post : Int32 → SY → Prop, post 0 v1 → wpY_goOn post v1 (nI i)))))
theorem sg_ok0 {p q r : Int32} (h : sg_ok 0 p q r) : ∃ a, a < 4 ∧ p = nI a := by
  simpa only [sg_ok, sg_lits, false_and, true_and, false_or, or_false] using h
theorem sg_ok1 {p q r : Int32} (h : sg_ok 1 p q r) : ∃ a b, a < 4 ∧ b < 4 ∧ p = nI a ∧ q = nI b := by
  simpa only [sg_ok, sg_lits, false_and, true_and, false_or, or_false] using h
theorem sg_ok2 {p q r : Int32} (h : sg_ok 2 p q r) : ∃ a b, a < 4 ∧ b < 4 ∧ p = nI a ∧ q = nI b := by
  simpa only [sg_ok, sg_lits, false_and, true_and, false_or, or_false] using h
theorem sg_ok4 {p q r : Int32} (h : sg_ok 4 p q r) : ∃ a b c, a < 4 ∧ b < 4 ∧ c < 3 ∧ p = nI a ∧ q = nI b ∧ r = nI c := by
  simpa only [sg_ok, sg_lits, false_and, true_and, false_or, or_false] using h
theorem sg_ok6 {p q r : Int32} (h : sg_ok 6 p q r) : ∃ a b, a < 4 ∧ b < 4 ∧ p = nI a ∧ q = nI b := by
  simpa only [sg_ok, sg_lits, false_and, true_and, false_or, or_false] using h
theorem sg_ok8 {p q r : Int32} (h : sg_ok 8 p q r) : ∃ a, a < 20 ∧ p = nI a := by
  simpa only [sg_ok, sg_lits, false_and, true_and, false_or, or_false] using h
theorem sg_ok9 {p q r : Int32} (h : sg_ok 9 p q r) : ∃ a b c, a < 4 ∧ b < 4 ∧ c < 20 ∧ p = nI a ∧ q = nI b ∧ r = nI c := by
  simpa only [sg_ok, sg_lits, false_and, true_and, false_or, or_false] using h
theorem sg_ok11 {p q r : Int32} (h : sg_ok 11 p q r) : ∃ a, a < 4 ∧ p = nI a := by
  simpa only [sg_ok, sg_lits, false_and, true_and, false_or, or_false] using h
theorem sg_3n {a : Nat} (h : a < 4) : ¬ (3 : Int32) < nI a := nI_nlt (a := 3) (by omega) (by omega)
theorem sg_step0 {i d t : Nat} {u : SX} {v : SY} {kk : Int32} (hkk : kk = 0) (hi : i < 3) (H : sg_W 1 i d t u v) (hlt : d < 200) (hK : sg_K i kk u) : sg_S i d t u v := by
  obtain ⟨xsc, xnow, xjc, xec, xse, xki, xpp, xqq, xrr, xst, xfs, xin, xtb, xaj, xat, xsd, xja, xev, xva, xha, xps, xpa, xpi, xct, xsn, xsv, xtk, xac, xji, xou, xen, xuw, xra, xea, xtj, xte⟩ := u
  obtain ⟨ysc, ynow, yjc, yec, yse, yss, yac, yji, yen, yho, ywh, ytj, yte, yst, ypl, ydn, yas, ywt, yun, yrs, yva, yha, ypa, ypi, yps, yso, ysv, yct⟩ := v
  obtain ⟨sc, jc, ⟨⟨⟨e1, e2, e3, e4⟩, e5, e6, e7, e8, e9, e10, e11, e12, e13, e14, e15, e16⟩, ⟨g1, g2, g3, g4⟩, hset, hprog, hjobs, hjas⟩, hf, hb, f, hst, hev, hf20, hfs, hpl, hdn, has, hctl⟩ := H
  subst e1 e2 e3 e4 e5 e6 e7 e8 e9 e10 e11 e12 e13 e14 e15 e16 g1 g2 g3 g4
  obtain ⟨hd, hsd, hva, ⟨pz, hpz, hps, hpa⟩, hsig⟩ := hb
  obtain ⟨hwt, hin, htb, hhs⟩ : ywt i = 0 ∧ xin i = 0 ∧ xtb i = 0 ∧ sg_hs jc i xha yha := by
    rcases hctl with h | h | h | h
    · exact h.2
    · exact absurd h.1 (by decide)
    · exact absurd h.1 (by decide)
    · exact absurd h.1 (by decide)
  have hsc := hprog.1
  obtain ⟨hfsc, hk⟩ : f < sc ∧ xki f = kk := by
    obtain ⟨f', sc', k1, k2, k3, k4, k5⟩ := hK
    have e1 : f = f' := (nI_eq (by omega) (by omega)).mp (hfs.symm.trans k1)
    have e2 : sc = sc' := (nI_eq (by omega) (by omega)).mp k2
    subst e1 e2
    exact ⟨k3, k5⟩
  obtain ⟨s0, s1, s2, s3, hok⟩ := hprog.2 f hfsc
  have hjc := sg_jas_le hjas
  have b3 : vp_in (nI i) 3 := vp_in_nI hi (by omega)
  have ci : (nI i).toNatClampNeg = i := nI_clamp (by omega)
  have h200 : nI d < 200 := nI_lt (b := 200) hlt (by decide)
  have hdn1 : upd ydn i (nI (d + 1)) i = upd xsd i (nI (d + 1)) i := pk_us.trans pk_us.symm
  have hb1 : sg_base i (d + 1) (upd xsd i (nI (d + 1))) xva xps xpa xct xsn xtk yva yso := ⟨by omega, pk_us, hva, ⟨pz, by omega, hps, hpa⟩, hsig⟩
  obtain ⟨q, hq30, hja⟩ := hjas.1 i hi
  have hya : yas i = nI q := has.trans hja
  subst hkk
  obtain ⟨a, ha, hp⟩ := sg_ok0 (hk ▸ hok)
  have h3 := sg_3n ha
  refine ⟨(nI sc, nI t, nI jc, nI (sg_cnt xen jc), xse, xki, xpp, xqq, xrr, xst, upd xfs i (nI (f + 1)), xin, xtb, xaj, xat, upd xsd i (nI (d + 1)), xja, xev, upd xva (4 * i + a) (xqq f), xha, xps, xpa, xpi, xct, xsn, xsv, xtk, xac, xji, xou, xen, xuw, xra, xea, xtj, xte), (nI sc, nI t, nI jc, nI (sg_cnt xen jc), xse, yss, xac, xji, xen, yho, ywh, xtj, xte, xst, upd ypl i (nI (f + 1)), upd ydn i (nI (d + 1)), yas, ywt, yun, yrs, upd yva (4 * i + a) (xqq f), yha, xpa, xpi, xps, yso, xsv, xct), fun post h => ?_, fun post h => ?_, Or.inr (Or.inl ⟨sc, jc, ⟨⟨⟨rfl, rfl, rfl, rfl⟩, rfl, rfl, rfl, rfl, rfl, rfl, rfl, rfl, rfl, rfl, rfl, rfl⟩, ⟨rfl, rfl, rfl, rfl⟩, hset, hprog, hjobs, hjas⟩, fun m hm c => sg_flow_fr c (hf m hm c), ⟨by omega, pk_us, sg_var_upd hva, ⟨pz, by omega, hps, hpa⟩, hsig⟩, f + 1, hst, hev, by omega, pk_us, pk_us, hdn1, has, Or.inl ⟨rfl, hwt, hin, htb, hhs⟩⟩)⟩
  · simp (disch := omega) only [hp, wpX_beginStep, wpX_isWaitingKind, wpX_doAtOnce, wpX_beginWait, ci, b3, hfs, hsd, h200, hk, sg_ltT, sg_m3, sg_m3', sg_m4, sg_m4', sg_m6, sg_m6', sg_m7, sg_m7', sg_m200, sg_m200', nI_add, sg_a1, sg_a2, sg_a3, sg_a4, sg_a5, sg_a6, Int32.add_zero, sg_inT, nI_clamp, sg_lits, sg_mA, sg_mB, sg_mC, sg_mD, sg_mE, sg_mF, Int32.reduceLT, Int32.reduceLE, forall_eq, true_and, and_true, true_implies, false_implies, not_true_eq_false, not_false_eq_true, implies_true]
    exact h
  · simp (disch := omega) only [sg_D, wY_doStep_76, wY_doStep_121, hp, h3, wpY_doStep, wY_doStep_48, wpY_part, wpY_isIn, ci, b3, hpl, s0, s1, s2, s3, hk, sg_neg, sg_m3, sg_m3', sg_m4, sg_m4', sg_m6, sg_m6', sg_m7, sg_m7', sg_m200, sg_m200', nI_add, sg_a1, sg_a2, sg_a3, sg_a4, sg_a5, sg_a6, Int32.add_zero, sg_inT, nI_clamp, sg_lits, sg_mA, sg_mB, sg_mC, sg_mD, sg_mE, sg_mF, Int32.reduceLT, Int32.reduceLE, forall_eq, true_and, and_true, true_implies, false_implies, not_true_eq_false, not_false_eq_true, implies_true]
    exact h
theorem sg_step1 {i d t : Nat} {u : SX} {v : SY} {kk : Int32} (hkk : kk = 1) (hi : i < 3) (H : sg_W 1 i d t u v) (hlt : d < 200) (hK : sg_K i kk u) : sg_S i d t u v := by
  obtain ⟨xsc, xnow, xjc, xec, xse, xki, xpp, xqq, xrr, xst, xfs, xin, xtb, xaj, xat, xsd, xja, xev, xva, xha, xps, xpa, xpi, xct, xsn, xsv, xtk, xac, xji, xou, xen, xuw, xra, xea, xtj, xte⟩ := u
  obtain ⟨ysc, ynow, yjc, yec, yse, yss, yac, yji, yen, yho, ywh, ytj, yte, yst, ypl, ydn, yas, ywt, yun, yrs, yva, yha, ypa, ypi, yps, yso, ysv, yct⟩ := v
  obtain ⟨sc, jc, ⟨⟨⟨e1, e2, e3, e4⟩, e5, e6, e7, e8, e9, e10, e11, e12, e13, e14, e15, e16⟩, ⟨g1, g2, g3, g4⟩, hset, hprog, hjobs, hjas⟩, hf, hb, f, hst, hev, hf20, hfs, hpl, hdn, has, hctl⟩ := H
  subst e1 e2 e3 e4 e5 e6 e7 e8 e9 e10 e11 e12 e13 e14 e15 e16 g1 g2 g3 g4
  obtain ⟨hd, hsd, hva, ⟨pz, hpz, hps, hpa⟩, hsig⟩ := hb
  obtain ⟨hwt, hin, htb, hhs⟩ : ywt i = 0 ∧ xin i = 0 ∧ xtb i = 0 ∧ sg_hs jc i xha yha := by
    rcases hctl with h | h | h | h
    · exact h.2
    · exact absurd h.1 (by decide)
    · exact absurd h.1 (by decide)
    · exact absurd h.1 (by decide)
  have hsc := hprog.1
  obtain ⟨hfsc, hk⟩ : f < sc ∧ xki f = kk := by
    obtain ⟨f', sc', k1, k2, k3, k4, k5⟩ := hK
    have e1 : f = f' := (nI_eq (by omega) (by omega)).mp (hfs.symm.trans k1)
    have e2 : sc = sc' := (nI_eq (by omega) (by omega)).mp k2
    subst e1 e2
    exact ⟨k3, k5⟩
  obtain ⟨s0, s1, s2, s3, hok⟩ := hprog.2 f hfsc
  have hjc := sg_jas_le hjas
  have b3 : vp_in (nI i) 3 := vp_in_nI hi (by omega)
  have ci : (nI i).toNatClampNeg = i := nI_clamp (by omega)
  have h200 : nI d < 200 := nI_lt (b := 200) hlt (by decide)
  have hdn1 : upd ydn i (nI (d + 1)) i = upd xsd i (nI (d + 1)) i := pk_us.trans pk_us.symm
  have hb1 : sg_base i (d + 1) (upd xsd i (nI (d + 1))) xva xps xpa xct xsn xtk yva yso := ⟨by omega, pk_us, hva, ⟨pz, by omega, hps, hpa⟩, hsig⟩
  obtain ⟨q, hq30, hja⟩ := hjas.1 i hi
  have hya : yas i = nI q := has.trans hja
  subst hkk
  obtain ⟨a, b, ha, hb, hp, hq⟩ := sg_ok1 (hk ▸ hok)
  have h3 := sg_3n ha
  have e1 := hva a ha
  have e2 := hva b hb
  refine ⟨(nI sc, nI t, nI jc, nI (sg_cnt xen jc), xse, xki, xpp, xqq, xrr, xst, upd xfs i (nI (f + 1)), xin, xtb, xaj, xat, upd xsd i (nI (d + 1)), xja, xev, upd xva (4 * i + a) (xva (4 * i + a) + xva (4 * i + b)), xha, xps, xpa, xpi, xct, xsn, xsv, xtk, xac, xji, xou, xen, xuw, xra, xea, xtj, xte), (nI sc, nI t, nI jc, nI (sg_cnt xen jc), xse, yss, xac, xji, xen, yho, ywh, xtj, xte, xst, upd ypl i (nI (f + 1)), upd ydn i (nI (d + 1)), yas, ywt, yun, yrs, upd yva (4 * i + a) (xva (4 * i + a) + xva (4 * i + b)), yha, xpa, xpi, xps, yso, xsv, xct), fun post h => ?_, fun post h => ?_, Or.inr (Or.inl ⟨sc, jc, ⟨⟨⟨rfl, rfl, rfl, rfl⟩, rfl, rfl, rfl, rfl, rfl, rfl, rfl, rfl, rfl, rfl, rfl, rfl⟩, ⟨rfl, rfl, rfl, rfl⟩, hset, hprog, hjobs, hjas⟩, fun m hm c => sg_flow_fr c (hf m hm c), ⟨by omega, pk_us, sg_var_upd hva, ⟨pz, by omega, hps, hpa⟩, hsig⟩, f + 1, hst, hev, by omega, pk_us, pk_us, hdn1, has, Or.inl ⟨rfl, hwt, hin, htb, hhs⟩⟩)⟩
  · simp (disch := omega) only [hp, hq, wpX_beginStep, wpX_isWaitingKind, wpX_doAtOnce, wpX_beginWait, ci, b3, hfs, hsd, h200, hk, sg_ltT, sg_m3, sg_m3', sg_m4, sg_m4', sg_m6, sg_m6', sg_m7, sg_m7', sg_m200, sg_m200', nI_add, sg_a1, sg_a2, sg_a3, sg_a4, sg_a5, sg_a6, Int32.add_zero, sg_inT, nI_clamp, sg_lits, sg_mA, sg_mB, sg_mC, sg_mD, sg_mE, sg_mF, Int32.reduceLT, Int32.reduceLE, forall_eq, true_and, and_true, true_implies, false_implies, not_true_eq_false, not_false_eq_true, implies_true]
    exact h
  · simp (disch := omega) only [sg_D, wY_doStep_76, wY_doStep_121, hp, hq, h3, e1, e2, wpY_doStep, wY_doStep_48, wpY_part, wpY_isIn, ci, b3, hpl, s0, s1, s2, s3, hk, sg_neg, sg_m3, sg_m3', sg_m4, sg_m4', sg_m6, sg_m6', sg_m7, sg_m7', sg_m200, sg_m200', nI_add, sg_a1, sg_a2, sg_a3, sg_a4, sg_a5, sg_a6, Int32.add_zero, sg_inT, nI_clamp, sg_lits, sg_mA, sg_mB, sg_mC, sg_mD, sg_mE, sg_mF, Int32.reduceLT, Int32.reduceLE, forall_eq, true_and, and_true, true_implies, false_implies, not_true_eq_false, not_false_eq_true, implies_true]
    exact h
theorem sg_step2 {i d t : Nat} {u : SX} {v : SY} {kk : Int32} (hkk : kk = 2) (hi : i < 3) (H : sg_W 1 i d t u v) (hlt : d < 200) (hK : sg_K i kk u) : sg_S i d t u v := by
  obtain ⟨xsc, xnow, xjc, xec, xse, xki, xpp, xqq, xrr, xst, xfs, xin, xtb, xaj, xat, xsd, xja, xev, xva, xha, xps, xpa, xpi, xct, xsn, xsv, xtk, xac, xji, xou, xen, xuw, xra, xea, xtj, xte⟩ := u
  obtain ⟨ysc, ynow, yjc, yec, yse, yss, yac, yji, yen, yho, ywh, ytj, yte, yst, ypl, ydn, yas, ywt, yun, yrs, yva, yha, ypa, ypi, yps, yso, ysv, yct⟩ := v
  obtain ⟨sc, jc, ⟨⟨⟨e1, e2, e3, e4⟩, e5, e6, e7, e8, e9, e10, e11, e12, e13, e14, e15, e16⟩, ⟨g1, g2, g3, g4⟩, hset, hprog, hjobs, hjas⟩, hf, hb, f, hst, hev, hf20, hfs, hpl, hdn, has, hctl⟩ := H
  subst e1 e2 e3 e4 e5 e6 e7 e8 e9 e10 e11 e12 e13 e14 e15 e16 g1 g2 g3 g4
  obtain ⟨hd, hsd, hva, ⟨pz, hpz, hps, hpa⟩, hsig⟩ := hb
  obtain ⟨hwt, hin, htb, hhs⟩ : ywt i = 0 ∧ xin i = 0 ∧ xtb i = 0 ∧ sg_hs jc i xha yha := by
    rcases hctl with h | h | h | h
    · exact h.2
    · exact absurd h.1 (by decide)
    · exact absurd h.1 (by decide)
    · exact absurd h.1 (by decide)
  have hsc := hprog.1
  obtain ⟨hfsc, hk⟩ : f < sc ∧ xki f = kk := by
    obtain ⟨f', sc', k1, k2, k3, k4, k5⟩ := hK
    have e1 : f = f' := (nI_eq (by omega) (by omega)).mp (hfs.symm.trans k1)
    have e2 : sc = sc' := (nI_eq (by omega) (by omega)).mp k2
    subst e1 e2
    exact ⟨k3, k5⟩
  obtain ⟨s0, s1, s2, s3, hok⟩ := hprog.2 f hfsc
  have hjc := sg_jas_le hjas
  have b3 : vp_in (nI i) 3 := vp_in_nI hi (by omega)
  have ci : (nI i).toNatClampNeg = i := nI_clamp (by omega)
  have h200 : nI d < 200 := nI_lt (b := 200) hlt (by decide)
  have hdn1 : upd ydn i (nI (d + 1)) i = upd xsd i (nI (d + 1)) i := pk_us.trans pk_us.symm
  have hb1 : sg_base i (d + 1) (upd xsd i (nI (d + 1))) xva xps xpa xct xsn xtk yva yso := ⟨by omega, pk_us, hva, ⟨pz, by omega, hps, hpa⟩, hsig⟩
  obtain ⟨q, hq30, hja⟩ := hjas.1 i hi
  have hya : yas i = nI q := has.trans hja
  subst hkk
  obtain ⟨a, b, ha, hb, hp, hq⟩ := sg_ok2 (hk ▸ hok)
  have h3 := sg_3n ha
  have e1 := hva a ha
  have e2 := hva b hb
  refine ⟨(nI sc, nI t, nI jc, nI (sg_cnt xen jc), xse, xki, xpp, xqq, xrr, xst, upd xfs i (nI (f + 1)), xin, xtb, xaj, xat, upd xsd i (nI (d + 1)), xja, xev, upd xva (4 * i + a) (xva (4 * i + a) - xva (4 * i + b)), xha, xps, xpa, xpi, xct, xsn, xsv, xtk, xac, xji, xou, xen, xuw, xra, xea, xtj, xte), (nI sc, nI t, nI jc, nI (sg_cnt xen jc), xse, yss, xac, xji, xen, yho, ywh, xtj, xte, xst, upd ypl i (nI (f + 1)), upd ydn i (nI (d + 1)), yas, ywt, yun, yrs, upd yva (4 * i + a) (xva (4 * i + a) - xva (4 * i + b)), yha, xpa, xpi, xps, yso, xsv, xct), fun post h => ?_, fun post h => ?_, Or.inr (Or.inl ⟨sc, jc, ⟨⟨⟨rfl, rfl, rfl, rfl⟩, rfl, rfl, rfl, rfl, rfl, rfl, rfl, rfl, rfl, rfl, rfl, rfl⟩, ⟨rfl, rfl, rfl, rfl⟩, hset, hprog, hjobs, hjas⟩, fun m hm c => sg_flow_fr c (hf m hm c), ⟨by omega, pk_us, sg_var_upd hva, ⟨pz, by omega, hps, hpa⟩, hsig⟩, f + 1, hst, hev, by omega, pk_us, pk_us, hdn1, has, Or.inl ⟨rfl, hwt, hin, htb, hhs⟩⟩)⟩
  · simp (disch := omega) only [hp, hq, wpX_beginStep, wpX_isWaitingKind, wpX_doAtOnce, wpX_beginWait, ci, b3, hfs, hsd, h200, hk, sg_ltT, sg_m3, sg_m3', sg_m4, sg_m4', sg_m6, sg_m6', sg_m7, sg_m7', sg_m200, sg_m200', nI_add, sg_a1, sg_a2, sg_a3, sg_a4, sg_a5, sg_a6, Int32.add_zero, sg_inT, nI_clamp, sg_lits, sg_mA, sg_mB, sg_mC, sg_mD, sg_mE, sg_mF, Int32.reduceLT, Int32.reduceLE, forall_eq, true_and, and_true, true_implies, false_implies, not_true_eq_false, not_false_eq_true, implies_true]
    exact h
  · simp (disch := omega) only [sg_D, wY_doStep_76, wY_doStep_121, hp, hq, h3, e1, e2, wpY_doStep, wY_doStep_48, wpY_part, wpY_isIn, ci, b3, hpl, s0, s1, s2, s3, hk, sg_neg, sg_m3, sg_m3', sg_m4, sg_m4', sg_m6, sg_m6', sg_m7, sg_m7', sg_m200, sg_m200', nI_add, sg_a1, sg_a2, sg_a3, sg_a4, sg_a5, sg_a6, Int32.add_zero, sg_inT, nI_clamp, sg_lits, sg_mA, sg_mB, sg_mC, sg_mD, sg_mE, sg_mF, Int32.reduceLT, Int32.reduceLE, forall_eq, true_and, and_true, true_implies, false_implies, not_true_eq_false, not_false_eq_true, implies_true]
    exact h
theorem sg_step8 {i d t : Nat} {u : SX} {v : SY} {kk : Int32} (hkk : kk = 8) (hi : i < 3) (H : sg_W 1 i d t u v) (hlt : d < 200) (hK : sg_K i kk u) : sg_S i d t u v := by
  obtain ⟨xsc, xnow, xjc, xec, xse, xki, xpp, xqq, xrr, xst, xfs, xin, xtb, xaj, xat, xsd, xja, xev, xva, xha, xps, xpa, xpi, xct, xsn, xsv, xtk, xac, xji, xou, xen, xuw, xra, xea, xtj, xte⟩ := u
  obtain ⟨ysc, ynow, yjc, yec, yse, yss, yac, yji, yen, yho, ywh, ytj, yte, yst, ypl, ydn, yas, ywt, yun, yrs, yva, yha, ypa, ypi, yps, yso, ysv, yct⟩ := v
  obtain ⟨sc, jc, ⟨⟨⟨e1, e2, e3, e4⟩, e5, e6, e7, e8, e9, e10, e11, e12, e13, e14, e15, e16⟩, ⟨g1, g2, g3, g4⟩, hset, hprog, hjobs, hjas⟩, hf, hb, f, hst, hev, hf20, hfs, hpl, hdn, has, hctl⟩ := H
  subst e1 e2 e3 e4 e5 e6 e7 e8 e9 e10 e11 e12 e13 e14 e15 e16 g1 g2 g3 g4
  obtain ⟨hd, hsd, hva, ⟨pz, hpz, hps, hpa⟩, hsig⟩ := hb
  obtain ⟨hwt, hin, htb, hhs⟩ : ywt i = 0 ∧ xin i = 0 ∧ xtb i = 0 ∧ sg_hs jc i xha yha := by
    rcases hctl with h | h | h | h
    · exact h.2
    · exact absurd h.1 (by decide)
    · exact absurd h.1 (by decide)
    · exact absurd h.1 (by decide)
  have hsc := hprog.1
  obtain ⟨hfsc, hk⟩ : f < sc ∧ xki f = kk := by
    obtain ⟨f', sc', k1, k2, k3, k4, k5⟩ := hK
    have e1 : f = f' := (nI_eq (by omega) (by omega)).mp (hfs.symm.trans k1)
    have e2 : sc = sc' := (nI_eq (by omega) (by omega)).mp k2
    subst e1 e2
    exact ⟨k3, k5⟩
  obtain ⟨s0, s1, s2, s3, hok⟩ := hprog.2 f hfsc
  have hjc := sg_jas_le hjas
  have b3 : vp_in (nI i) 3 := vp_in_nI hi (by omega)
  have ci : (nI i).toNatClampNeg = i := nI_clamp (by omega)
  have h200 : nI d < 200 := nI_lt (b := 200) hlt (by decide)
  have hdn1 : upd ydn i (nI (d + 1)) i = upd xsd i (nI (d + 1)) i := pk_us.trans pk_us.symm
  have hb1 : sg_base i (d + 1) (upd xsd i (nI (d + 1))) xva xps xpa xct xsn xtk yva yso := ⟨by omega, pk_us, hva, ⟨pz, by omega, hps, hpa⟩, hsig⟩
  obtain ⟨q, hq30, hja⟩ := hjas.1 i hi
  have hya : yas i = nI q := has.trans hja
  subst hkk
  obtain ⟨a, ha, hp⟩ := sg_ok8 (hk ▸ hok)
  refine ⟨(nI sc, nI t, nI jc, nI (sg_cnt xen jc), xse, xki, xpp, xqq, xrr, xst, upd (upd xfs i (nI (f + 1))) i (nI a), xin, xtb, xaj, xat, upd xsd i (nI (d + 1)), xja, xev, xva, xha, xps, xpa, xpi, xct, xsn, xsv, xtk, xac, xji, xou, xen, xuw, xra, xea, xtj, xte), (nI sc, nI t, nI jc, nI (sg_cnt xen jc), xse, yss, xac, xji, xen, yho, ywh, xtj, xte, xst, upd ypl i (nI a), upd ydn i (nI (d + 1)), yas, ywt, yun, yrs, yva, yha, xpa, xpi, xps, yso, xsv, xct), fun post h => ?_, fun post h => ?_, Or.inr (Or.inl ⟨sc, jc, ⟨⟨⟨rfl, rfl, rfl, rfl⟩, rfl, rfl, rfl, rfl, rfl, rfl, rfl, rfl, rfl, rfl, rfl, rfl⟩, ⟨rfl, rfl, rfl, rfl⟩, hset, hprog, hjobs, hjas⟩, fun m hm c => sg_flow_fr c (hf m hm c), hb1, a, hst, hev, by omega, pk_us, pk_us, hdn1, has, Or.inl ⟨rfl, hwt, hin, htb, hhs⟩⟩)⟩
  · simp (disch := omega) only [hp, wpX_beginStep, wpX_isWaitingKind, wpX_doAtOnce, wpX_beginWait, ci, b3, hfs, hsd, h200, hk, sg_ltT, sg_m3, sg_m3', sg_m4, sg_m4', sg_m6, sg_m6', sg_m7, sg_m7', sg_m200, sg_m200', nI_add, sg_a1, sg_a2, sg_a3, sg_a4, sg_a5, sg_a6, Int32.add_zero, sg_inT, nI_clamp, sg_lits, sg_mA, sg_mB, sg_mC, sg_mD, sg_mE, sg_mF, Int32.reduceLT, Int32.reduceLE, forall_eq, true_and, and_true, true_implies, false_implies, not_true_eq_false, not_false_eq_true, implies_true]
    exact h
  · by_cases h3 : (3 : Int32) < nI a
    · simp (disch := omega) only [sg_D, hp, h3, wpY_doStep, wY_doStep_48, wpY_part, wpY_isIn, ci, b3, hpl, s0, s1, s2, s3, hk, sg_neg, sg_m3, sg_m3', sg_m4, sg_m4', sg_m6, sg_m6', sg_m7, sg_m7', sg_m200, sg_m200', nI_add, sg_a1, sg_a2, sg_a3, sg_a4, sg_a5, sg_a6, Int32.add_zero, sg_inT, nI_clamp, sg_lits, sg_mA, sg_mB, sg_mC, sg_mD, sg_mE, sg_mF, Int32.reduceLT, Int32.reduceLE, forall_eq, true_and, and_true, true_implies, false_implies, not_true_eq_false, not_false_eq_true, implies_true]
      exact h
    · simp (disch := omega) only [sg_D, hp, h3, wpY_doStep, wY_doStep_48, wpY_part, wpY_isIn, ci, b3, hpl, s0, s1, s2, s3, hk, sg_neg, sg_m3, sg_m3', sg_m4, sg_m4', sg_m6, sg_m6', sg_m7, sg_m7', sg_m200, sg_m200', nI_add, sg_a1, sg_a2, sg_a3, sg_a4, sg_a5, sg_a6, Int32.add_zero, sg_inT, nI_clamp, sg_lits, sg_mA, sg_mB, sg_mC, sg_mD, sg_mE, sg_mF, Int32.reduceLT, Int32.reduceLE, forall_eq, true_and, and_true, true_implies, false_implies, not_true_eq_false, not_false_eq_true, implies_true]
      exact h
theorem sg_step9 {i d t : Nat} {u : SX} {v : SY} {kk : Int32} (hkk : kk = 9) (hi : i < 3) (H : sg_W 1 i d t u v) (hlt : d < 200) (hK : sg_K i kk u) : sg_S i d t u v := by
  obtain ⟨xsc, xnow, xjc, xec, xse, xki, xpp, xqq, xrr, xst, xfs, xin, xtb, xaj, xat, xsd, xja, xev, xva, xha, xps, xpa, xpi, xct, xsn, xsv, xtk, xac, xji, xou, xen, xuw, xra, xea, xtj, xte⟩ := u
  obtain ⟨ysc, ynow, yjc, yec, yse, yss, yac, yji, yen, yho, ywh, ytj, yte, yst, ypl, ydn, yas, ywt, yun, yrs, yva, yha, ypa, ypi, yps, yso, ysv, yct⟩ := v
  obtain ⟨sc, jc, ⟨⟨⟨e1, e2, e3, e4⟩, e5, e6, e7, e8, e9, e10, e11, e12, e13, e14, e15, e16⟩, ⟨g1, g2, g3, g4⟩, hset, hprog, hjobs, hjas⟩, hf, hb, f, hst, hev, hf20, hfs, hpl, hdn, has, hctl⟩ := H
  subst e1 e2 e3 e4 e5 e6 e7 e8 e9 e10 e11 e12 e13 e14 e15 e16 g1 g2 g3 g4
  obtain ⟨hd, hsd, hva, ⟨pz, hpz, hps, hpa⟩, hsig⟩ := hb
  obtain ⟨hwt, hin, htb, hhs⟩ : ywt i = 0 ∧ xin i = 0 ∧ xtb i = 0 ∧ sg_hs jc i xha yha := by
    rcases hctl with h | h | h | h
    · exact h.2
    · exact absurd h.1 (by decide)
    · exact absurd h.1 (by decide)
    · exact absurd h.1 (by decide)
  have hsc := hprog.1
  obtain ⟨hfsc, hk⟩ : f < sc ∧ xki f = kk := by
    obtain ⟨f', sc', k1, k2, k3, k4, k5⟩ := hK
    have e1 : f = f' := (nI_eq (by omega) (by omega)).mp (hfs.symm.trans k1)
    have e2 : sc = sc' := (nI_eq (by omega) (by omega)).mp k2
    subst e1 e2
    exact ⟨k3, k5⟩
  obtain ⟨s0, s1, s2, s3, hok⟩ := hprog.2 f hfsc
  have hjc := sg_jas_le hjas
  have b3 : vp_in (nI i) 3 := vp_in_nI hi (by omega)
  have ci : (nI i).toNatClampNeg = i := nI_clamp (by omega)
  have h200 : nI d < 200 := nI_lt (b := 200) hlt (by decide)
  have hdn1 : upd ydn i (nI (d + 1)) i = upd xsd i (nI (d + 1)) i := pk_us.trans pk_us.symm
  have hb1 : sg_base i (d + 1) (upd xsd i (nI (d + 1))) xva xps xpa xct xsn xtk yva yso := ⟨by omega, pk_us, hva, ⟨pz, by omega, hps, hpa⟩, hsig⟩
  obtain ⟨q, hq30, hja⟩ := hjas.1 i hi
  have hya : yas i = nI q := has.trans hja
  subst hkk
  obtain ⟨a, b, c, ha, hb, hc, hp, hq, hr⟩ := sg_ok9 (hk ▸ hok)
  have h3 := sg_3n ha
  have e1 := hva a ha
  have e2 := hva b hb
  by_cases hl : xva (4 * i + b) ≤ xva (4 * i + a)
  · refine ⟨(nI sc, nI t, nI jc, nI (sg_cnt xen jc), xse, xki, xpp, xqq, xrr, xst, upd xfs i (nI (f + 1)), xin, xtb, xaj, xat, upd xsd i (nI (d + 1)), xja, xev, xva, xha, xps, xpa, xpi, xct, xsn, xsv, xtk, xac, xji, xou, xen, xuw, xra, xea, xtj, xte), (nI sc, nI t, nI jc, nI (sg_cnt xen jc), xse, yss, xac, xji, xen, yho, ywh, xtj, xte, xst, upd ypl i (nI (f + 1)), upd ydn i (nI (d + 1)), yas, ywt, yun, yrs, yva, yha, xpa, xpi, xps, yso, xsv, xct), fun post h => ?_, fun post h => ?_, Or.inr (Or.inl ⟨sc, jc, ⟨⟨⟨rfl, rfl, rfl, rfl⟩, rfl, rfl, rfl, rfl, rfl, rfl, rfl, rfl, rfl, rfl, rfl, rfl⟩, ⟨rfl, rfl, rfl, rfl⟩, hset, hprog, hjobs, hjas⟩, fun m hm c => sg_flow_fr c (hf m hm c), hb1, f + 1, hst, hev, by omega, pk_us, pk_us, hdn1, has, Or.inl ⟨rfl, hwt, hin, htb, hhs⟩⟩)⟩
    · simp (disch := omega) only [hp, hq, hr, hl, wpX_beginStep, wpX_isWaitingKind, wpX_doAtOnce, wpX_beginWait, ci, b3, hfs, hsd, h200, hk, sg_ltT, sg_m3, sg_m3', sg_m4, sg_m4', sg_m6, sg_m6', sg_m7, sg_m7', sg_m200, sg_m200', nI_add, sg_a1, sg_a2, sg_a3, sg_a4, sg_a5, sg_a6, Int32.add_zero, sg_inT, nI_clamp, sg_lits, sg_mA, sg_mB, sg_mC, sg_mD, sg_mE, sg_mF, Int32.reduceLT, Int32.reduceLE, forall_eq, true_and, and_true, true_implies, false_implies, not_true_eq_false, not_false_eq_true, implies_true]
      exact h
    · simp (disch := omega) only [sg_D, hp, hq, hr, h3, e1, e2, hl, wpY_doStep, wY_doStep_48, wpY_part, wpY_isIn, ci, b3, hpl, s0, s1, s2, s3, hk, sg_neg, sg_m3, sg_m3', sg_m4, sg_m4', sg_m6, sg_m6', sg_m7, sg_m7', sg_m200, sg_m200', nI_add, sg_a1, sg_a2, sg_a3, sg_a4, sg_a5, sg_a6, Int32.add_zero, sg_inT, nI_clamp, sg_lits, sg_mA, sg_mB, sg_mC, sg_mD, sg_mE, sg_mF, Int32.reduceLT, Int32.reduceLE, forall_eq, true_and, and_true, true_implies, false_implies, not_true_eq_false, not_false_eq_true, implies_true]
      exact h
  · refine ⟨(nI sc, nI t, nI jc, nI (sg_cnt xen jc), xse, xki, xpp, xqq, xrr, xst, upd (upd xfs i (nI (f + 1))) i (nI c), xin, xtb, xaj, xat, upd xsd i (nI (d + 1)), xja, xev, xva, xha, xps, xpa, xpi, xct, xsn, xsv, xtk, xac, xji, xou, xen, xuw, xra, xea, xtj, xte), (nI sc, nI t, nI jc, nI (sg_cnt xen jc), xse, yss, xac, xji, xen, yho, ywh, xtj, xte, xst, upd ypl i (nI c), upd ydn i (nI (d + 1)), yas, ywt, yun, yrs, yva, yha, xpa, xpi, xps, yso, xsv, xct), fun post h => ?_, fun post h => ?_, Or.inr (Or.inl ⟨sc, jc, ⟨⟨⟨rfl, rfl, rfl, rfl⟩, rfl, rfl, rfl, rfl, rfl, rfl, rfl, rfl, rfl, rfl, rfl, rfl⟩, ⟨rfl, rfl, rfl, rfl⟩, hset, hprog, hjobs, hjas⟩, fun m hm c => sg_flow_fr c (hf m hm c), hb1, c, hst, hev, by omega, pk_us, pk_us, hdn1, has, Or.inl ⟨rfl, hwt, hin, htb, hhs⟩⟩)⟩
    · simp (disch := omega) only [hp, hq, hr, hl, wpX_beginStep, wpX_isWaitingKind, wpX_doAtOnce, wpX_beginWait, ci, b3, hfs, hsd, h200, hk, sg_ltT, sg_m3, sg_m3', sg_m4, sg_m4', sg_m6, sg_m6', sg_m7, sg_m7', sg_m200, sg_m200', nI_add, sg_a1, sg_a2, sg_a3, sg_a4, sg_a5, sg_a6, Int32.add_zero, sg_inT, nI_clamp, sg_lits, sg_mA, sg_mB, sg_mC, sg_mD, sg_mE, sg_mF, Int32.reduceLT, Int32.reduceLE, forall_eq, true_and, and_true, true_implies, false_implies, not_true_eq_false, not_false_eq_true, implies_true]
      exact h
    · simp (disch := omega) only [sg_D, hp, hq, hr, h3, e1, e2, hl, wpY_doStep, wY_doStep_48, wpY_part, wpY_isIn, ci, b3, hpl, s0, s1, s2, s3, hk, sg_neg, sg_m3, sg_m3', sg_m4, sg_m4', sg_m6, sg_m6', sg_m7, sg_m7', sg_m200, sg_m200', nI_add, sg_a1, sg_a2, sg_a3, sg_a4, sg_a5, sg_a6, Int32.add_zero, sg_inT, nI_clamp, sg_lits, sg_mA, sg_mB, sg_mC, sg_mD, sg_mE, sg_mF, Int32.reduceLT, Int32.reduceLE, forall_eq, true_and, and_true, true_implies, false_implies, not_true_eq_false, not_false_eq_true, implies_true]
      exact h
theorem sg_step11 {i d t : Nat} {u : SX} {v : SY} {kk : Int32} (hkk : kk = 11) (hi : i < 3) (H : sg_W 1 i d t u v) (hlt : d < 200) (hK : sg_K i kk u) : sg_S i d t u v := by
  obtain ⟨xsc, xnow, xjc, xec, xse, xki, xpp, xqq, xrr, xst, xfs, xin, xtb, xaj, xat, xsd, xja, xev, xva, xha, xps, xpa, xpi, xct, xsn, xsv, xtk, xac, xji, xou, xen, xuw, xra, xea, xtj, xte⟩ := u
  obtain ⟨ysc, ynow, yjc, yec, yse, yss, yac, yji, yen, yho, ywh, ytj, yte, yst, ypl, ydn, yas, ywt, yun, yrs, yva, yha, ypa, ypi, yps, yso, ysv, yct⟩ := v
  obtain ⟨sc, jc, ⟨⟨⟨e1, e2, e3, e4⟩, e5, e6, e7, e8, e9, e10, e11, e12, e13, e14, e15, e16⟩, ⟨g1, g2, g3, g4⟩, hset, hprog, hjobs, hjas⟩, hf, hb, f, hst, hev, hf20, hfs, hpl, hdn, has, hctl⟩ := H
  subst e1 e2 e3 e4 e5 e6 e7 e8 e9 e10 e11 e12 e13 e14 e15 e16 g1 g2 g3 g4
  obtain ⟨hd, hsd, hva, ⟨pz, hpz, hps, hpa⟩, hsig⟩ := hb
  obtain ⟨hwt, hin, htb, hhs⟩ : ywt i = 0 ∧ xin i = 0 ∧ xtb i = 0 ∧ sg_hs jc i xha yha := by
    rcases hctl with h | h | h | h
    · exact h.2
    · exact absurd h.1 (by decide)
    · exact absurd h.1 (by decide)
    · exact absurd h.1 (by decide)
  have hsc := hprog.1
  obtain ⟨hfsc, hk⟩ : f < sc ∧ xki f = kk := by
    obtain ⟨f', sc', k1, k2, k3, k4, k5⟩ := hK
    have e1 : f = f' := (nI_eq (by omega) (by omega)).mp (hfs.symm.trans k1)
    have e2 : sc = sc' := (nI_eq (by omega) (by omega)).mp k2
    subst e1 e2
    exact ⟨k3, k5⟩
  obtain ⟨s0, s1, s2, s3, hok⟩ := hprog.2 f hfsc
  have hjc := sg_jas_le hjas
  have b3 : vp_in (nI i) 3 := vp_in_nI hi (by omega)
  have ci : (nI i).toNatClampNeg = i := nI_clamp (by omega)
  have h200 : nI d < 200 := nI_lt (b := 200) hlt (by decide)
  have hdn1 : upd ydn i (nI (d + 1)) i = upd xsd i (nI (d + 1)) i := pk_us.trans pk_us.symm
  have hb1 : sg_base i (d + 1) (upd xsd i (nI (d + 1))) xva xps xpa xct xsn xtk yva yso := ⟨by omega, pk_us, hva, ⟨pz, by omega, hps, hpa⟩, hsig⟩
  obtain ⟨q, hq30, hja⟩ := hjas.1 i hi
  have hya : yas i = nI q := has.trans hja
  subst hkk
  obtain ⟨a, ha, hp⟩ := sg_ok11 (hk ▸ hok)
  have h3 := sg_3n ha
  have e1 := hva a ha
  refine ⟨(nI sc, nI t, nI jc, nI (sg_cnt xen jc), xse, xki, xpp, xqq, xrr, upd xst i 2, upd xfs i (nI (f + 1)), xin, xtb, xaj, xat, upd xsd i (nI (d + 1)), xja, upd xev i (xva (4 * i + a)), xva, xha, xps, xpa, xpi, xct, xsn, xsv, xtk, xac, xji, xou, xen, xuw, xra, xea, xtj, xte), (nI sc, nI t, nI jc, nI (sg_cnt xen jc), xse, yss, xac, xji, xen, yho, ywh, xtj, xte, upd xst i 2, ypl, upd ydn i (nI (d + 1)), yas, ywt, yun, upd yrs i (xva (4 * i + a)), yva, yha, xpa, xpi, xps, yso, xsv, xct), fun post h => ?_, fun post h => ?_, Or.inl ⟨⟨sc, jc, ⟨⟨⟨rfl, rfl, rfl, rfl⟩, rfl, rfl, rfl, rfl, rfl, rfl, rfl, rfl, rfl, rfl, rfl, rfl⟩, ⟨rfl, rfl, rfl, rfl⟩, hset, hprog, hjobs, hjas⟩, fun m hm => ?_⟩, ⟨by rw [pk_us]; decide, by rw [pk_us]; decide⟩⟩⟩
  · simp (disch := omega) only [hp, wpX_beginStep, wpX_isWaitingKind, wpX_doAtOnce, wpX_beginWait, ci, b3, hfs, hsd, h200, hk, sg_ltT, sg_m3, sg_m3', sg_m4, sg_m4', sg_m6, sg_m6', sg_m7, sg_m7', sg_m200, sg_m200', nI_add, sg_a1, sg_a2, sg_a3, sg_a4, sg_a5, sg_a6, Int32.add_zero, sg_inT, nI_clamp, sg_lits, sg_mA, sg_mB, sg_mC, sg_mD, sg_mE, sg_mF, Int32.reduceLT, Int32.reduceLE, forall_eq, true_and, and_true, true_implies, false_implies, not_true_eq_false, not_false_eq_true, implies_true]
    exact h
  · simp (disch := omega) only [sg_D, hp, h3, e1, wpY_doStep, wY_doStep_48, wpY_part, wpY_isIn, ci, b3, hpl, s0, s1, s2, s3, hk, sg_neg, sg_m3, sg_m3', sg_m4, sg_m4', sg_m6, sg_m6', sg_m7, sg_m7', sg_m200, sg_m200', nI_add, sg_a1, sg_a2, sg_a3, sg_a4, sg_a5, sg_a6, Int32.add_zero, sg_inT, nI_clamp, sg_lits, sg_mA, sg_mB, sg_mC, sg_mD, sg_mE, sg_mF, Int32.reduceLT, Int32.reduceLE, forall_eq, true_and, and_true, true_implies, false_implies, not_true_eq_false, not_false_eq_true, implies_true]
    exact h
  · by_cases c : m = i
    · subst c
      exact Or.inr ⟨d + 1, hb1, Or.inl ⟨2, by omega, by omega, pk_us, by rw [pk_us, if_pos rfl, pk_us]⟩⟩
    · exact sg_flow_fr c (hf m hm c)
end
section
theorem sg_hs_upd {jc jc' i k : Nat} {x : Int32} {xha yha : Nat → Int32} (hj : jc ≤ jc') (h : sg_hs jc i xha yha) (hx : sg_hd jc' x) : sg_hs jc' i (upd xha k x) (upd yha k x) := by
  intro m hm
  by_cases c : 3 * i + m = k
  · rw [c, pk_us, pk_us]; exact ⟨rfl, hx⟩
  · rw [pk_un c, pk_un c]; exact ⟨(h m hm).1, sg_hd_mono hj (h m hm).2⟩
theorem sg_hs_5 {jc i a : Nat} {xha yha : Nat → Int32} (h : sg_hs jc i xha yha) : sg_h5 jc i a (upd xha (3 * i + a) (-1)) yha := by
  intro m hm
  refine ⟨fun c => ?_, fun c => ?_⟩
  · rw [pk_un (by omega)]; exact h m hm
  · subst c; exact pk_us
theorem sg_step7 {i d t : Nat} {u : SX} {v : SY} {kk : Int32} (hkk : kk = 7) (hi : i < 3) (H : sg_W 1 i d t u v) (hlt : d < 200) (hK : sg_K i kk u) : sg_S i d t u v := by
  obtain ⟨xsc, xnow, xjc, xec, xse, xki, xpp, xqq, xrr, xst, xfs, xin, xtb, xaj, xat, xsd, xja, xev, xva, xha, xps, xpa, xpi, xct, xsn, xsv, xtk, xac, xji, xou, xen, xuw, xra, xea, xtj, xte⟩ := u
  obtain ⟨ysc, ynow, yjc, yec, yse, yss, yac, yji, yen, yho, ywh, ytj, yte, yst, ypl, ydn, yas, ywt, yun, yrs, yva, yha, ypa, ypi, yps, yso, ysv, yct⟩ := v
  obtain ⟨sc, jc, ⟨⟨⟨e1, e2, e3, e4⟩, e5, e6, e7, e8, e9, e10, e11, e12, e13, e14, e15, e16⟩, ⟨g1, g2, g3, g4⟩, hset, hprog, hjobs, hjas⟩, hf, hb, f, hst, hev, hf20, hfs, hpl, hdn, has, hctl⟩ := H
  subst e1 e2 e3 e4 e5 e6 e7 e8 e9 e10 e11 e12 e13 e14 e15 e16 g1 g2 g3 g4
  obtain ⟨hd, hsd, hva, ⟨pz, hpz, hps, hpa⟩, hsig⟩ := hb
  obtain ⟨hwt, hin, htb, hhs⟩ : ywt i = 0 ∧ xin i = 0 ∧ xtb i = 0 ∧ sg_hs jc i xha yha := by
    rcases hctl with h | h | h | h
    · exact h.2
    · exact absurd h.1 (by decide)
    · exact absurd h.1 (by decide)
    · exact absurd h.1 (by decide)
  have hsc := hprog.1
  obtain ⟨hfsc, hk⟩ : f < sc ∧ xki f = kk := by
    obtain ⟨f', sc', k1, k2, k3, k4, k5⟩ := hK
    have e1 : f = f' := (nI_eq (by omega) (by omega)).mp (hfs.symm.trans k1)
    have e2 : sc = sc' := (nI_eq (by omega) (by omega)).mp k2
    subst e1 e2
    exact ⟨k3, k5⟩
  obtain ⟨s0, s1, s2, s3, hok⟩ := hprog.2 f hfsc
  have hjc := sg_jas_le hjas
  have b3 : vp_in (nI i) 3 := vp_in_nI hi (by omega)
  have ci : (nI i).toNatClampNeg = i := nI_clamp (by omega)
  have h200 : nI d < 200 := nI_lt (b := 200) hlt (by decide)
  have hdn1 : upd ydn i (nI (d + 1)) i = upd xsd i (nI (d + 1)) i := pk_us.trans pk_us.symm
  have hb1 : sg_base i (d + 1) (upd xsd i (nI (d + 1))) xva xps xpa xct xsn xtk yva yso := ⟨by omega, pk_us, hva, ⟨pz, by omega, hps, hpa⟩, hsig⟩
  obtain ⟨q, hq30, hja⟩ := hjas.1 i hi
  have hya : yas i = nI q := has.trans hja
  subst hkk
  obtain ⟨a, ha, hp⟩ := sg_ok7 (hk ▸ hok)
  have h3 := sg_3n ha
  have e1 := hva a ha
  have go : ∀ x : Int32, (∀ post : Int32 → Prop, post x → wpX_pauseOf post (xva (4 * i + a))) → (∀ post : SY → Prop, wY_doStep_199 post (nI i) x (nI sc) (nI t) (nI jc) (nI (sg_cnt xen jc)) xse yss xac xji xen yho ywh xtj xte xst ypl (upd ydn i (nI (d + 1))) yas ywt yun yrs yva yha xpa xpi xps yso xsv xct → wpY_doStep post (nI sc, nI t, nI jc, nI (sg_cnt xen jc), xse, yss, xac, xji, xen, yho, ywh, xtj, xte, xst, ypl, upd ydn i (nI (d + 1)), yas, ywt, yun, yrs, yva, yha, xpa, xpi, xps, yso, xsv, xct) (nI i)) → sg_S i d t (nI sc, nI t, nI jc, nI (sg_cnt xen jc), xse, xki, xpp, xqq, xrr, xst, xfs, xin, xtb, xaj, xat, xsd, xja, xev, xva, xha, xps, xpa, xpi, xct, xsn, xsv, xtk, xac, xji, xou, xen, xuw, xra, xea, xtj, xte) (nI sc, nI t, nI jc, nI (sg_cnt xen jc), xse, yss, xac, xji, xen, yho, ywh, xtj, xte, xst, ypl, ydn, yas, ywt, yun, yrs, yva, yha, xpa, xpi, xps, yso, xsv, xct) := fun x hX hY => by
    refine ⟨(nI sc, nI t, nI jc, nI (sg_cnt xen jc), xse, xki, xpp, xqq, xrr, xst, xfs, upd xin i 1, xtb, xaj, upd xat i (nI t + x), upd xsd i (nI (d + 1)), xja, xev, xva, xha, xps, xpa, xpi, xct, xsn, xsv, xtk, xac, xji, xou, xen, xuw, xra, xea, xtj, xte), (nI sc, nI t, nI jc, nI (sg_cnt xen jc), xse, yss, xac, xji, xen, yho, ywh, xtj, xte, xst, ypl, upd ydn i (nI (d + 1)), yas, upd ywt i 2, upd yun i (nI t + x), yrs, yva, yha, xpa, xpi, xps, yso, xsv, xct), fun post h => ?_, fun post h => hY post ?_, Or.inr (Or.inr (Or.inl ⟨sc, jc, ⟨⟨⟨rfl, rfl, rfl, rfl⟩, rfl, rfl, rfl, rfl, rfl, rfl, rfl, rfl, rfl, rfl, rfl, rfl⟩, ⟨rfl, rfl, rfl, rfl⟩, hset, hprog, hjobs, hjas⟩, fun m hm c => sg_flow_fr c (hf m hm c), hb1, f, hst, hev, hf20, hfs, hpl, hdn1, has, Or.inr (Or.inl ⟨rfl, hfsc, pk_us, htb, Or.inr (Or.inl ⟨pk_us, hk, by rw [pk_us, pk_us], hhs⟩)⟩)⟩))⟩
    · simp (disch := omega) only [sg_b1, hp, wpX_beginStep, wpX_isWaitingKind, wpX_doAtOnce, wpX_beginWait, ci, b3, hfs, hsd, h200, hk, sg_ltT, sg_m3, sg_m3', sg_m4, sg_m4', sg_m6, sg_m6', sg_m7, sg_m7', sg_m200, sg_m200', nI_add, sg_a1, sg_a2, sg_a3, sg_a4, sg_a5, sg_a6, Int32.add_zero, sg_inT, nI_clamp, sg_lits, sg_mA, sg_mB, sg_mC, sg_mD, sg_mE, sg_mF, Int32.reduceLT, Int32.reduceLE, forall_eq, true_and, and_true, true_implies, false_implies, not_true_eq_false, not_false_eq_true, implies_true]
      exact hX _ h
    · simp only [wY_doStep_199, wpY_waitFor, ci, b3, forall_eq, true_and, and_true, true_implies, false_implies, not_true_eq_false, not_false_eq_true, implies_true]
      exact h
  by_cases c0 : 0 ≤ xva (4 * i + a)
  · by_cases c5 : xva (4 * i + a) ≤ 50
    · refine go (xva (4 * i + a)) (fun post h => ?_) (fun post h => ?_)
      · simp only [wpX_pauseOf, c0, c5, forall_eq, true_and, and_true, true_implies, false_implies, not_true_eq_false, not_false_eq_true, implies_true]
        exact h
      · simp (disch := omega) only [hp, h3, e1, c0, c5, wpY_doStep, wY_doStep_48, wpY_part, wpY_isIn, ci, b3, hpl, s0, s1, s2, s3, hk, sg_neg, sg_m3, sg_m3', sg_m4, sg_m4', sg_m6, sg_m6', sg_m7, sg_m7', sg_m200, sg_m200', nI_add, sg_a1, sg_a2, sg_a3, sg_a4, sg_a5, sg_a6, Int32.add_zero, sg_inT, nI_clamp, sg_lits, sg_mA, sg_mB, sg_mC, sg_mD, sg_mE, sg_mF, Int32.reduceLT, Int32.reduceLE, forall_eq, true_and, and_true, true_implies, false_implies, not_true_eq_false, not_false_eq_true, implies_true]
        exact h
    · refine go 50 (fun post h => ?_) (fun post h => ?_)
      · simp only [wpX_pauseOf, c0, c5, forall_eq, true_and, and_true, true_implies, false_implies, not_true_eq_false, not_false_eq_true, implies_true]
        exact h
      · simp (disch := omega) only [hp, h3, e1, c0, c5, wpY_doStep, wY_doStep_48, wpY_part, wpY_isIn, ci, b3, hpl, s0, s1, s2, s3, hk, sg_neg, sg_m3, sg_m3', sg_m4, sg_m4', sg_m6, sg_m6', sg_m7, sg_m7', sg_m200, sg_m200', nI_add, sg_a1, sg_a2, sg_a3, sg_a4, sg_a5, sg_a6, Int32.add_zero, sg_inT, nI_clamp, sg_lits, sg_mA, sg_mB, sg_mC, sg_mD, sg_mE, sg_mF, Int32.reduceLT, Int32.reduceLE, forall_eq, true_and, and_true, true_implies, false_implies, not_true_eq_false, not_false_eq_true, implies_true]
        exact h
  · refine go 0 (fun post h => ?_) (fun post h => ?_)
    · simp only [wpX_pauseOf, c0, forall_eq, true_and, and_true, true_implies, false_implies, not_true_eq_false, not_false_eq_true, implies_true]
      exact h
    · simp (disch := omega) only [hp, h3, e1, c0, wpY_doStep, wY_doStep_48, wpY_part, wpY_isIn, ci, b3, hpl, s0, s1, s2, s3, hk, sg_neg, sg_m3, sg_m3', sg_m4, sg_m4', sg_m6, sg_m6', sg_m7, sg_m7', sg_m200, sg_m200', nI_add, sg_a1, sg_a2, sg_a3, sg_a4, sg_a5, sg_a6, Int32.add_zero, sg_inT, nI_clamp, sg_lits, sg_mA, sg_mB, sg_mC, sg_mD, sg_mE, sg_mF, Int32.reduceLT, Int32.reduceLE, forall_eq, true_and, and_true, true_implies, false_implies, not_true_eq_false, not_false_eq_true, implies_true]
      exact h
theorem sg_step10 {i d t : Nat} {u : SX} {v : SY} {kk : Int32} (hkk : kk = 10) (hi : i < 3) (H : sg_W 1 i d t u v) (hlt : d < 200) (hK : sg_K i kk u) : sg_S i d t u v := by
  obtain ⟨xsc, xnow, xjc, xec, xse, xki, xpp, xqq, xrr, xst, xfs, xin, xtb, xaj, xat, xsd, xja, xev, xva, xha, xps, xpa, xpi, xct, xsn, xsv, xtk, xac, xji, xou, xen, xuw, xra, xea, xtj, xte⟩ := u
  obtain ⟨ysc, ynow, yjc, yec, yse, yss, yac, yji, yen, yho, ywh, ytj, yte, yst, ypl, ydn, yas, ywt, yun, yrs, yva, yha, ypa, ypi, yps, yso, ysv, yct⟩ := v
  obtain ⟨sc, jc, ⟨⟨⟨e1, e2, e3, e4⟩, e5, e6, e7, e8, e9, e10, e11, e12, e13, e14, e15, e16⟩, ⟨g1, g2, g3, g4⟩, hset, hprog, hjobs, hjas⟩, hf, hb, f, hst, hev, hf20, hfs, hpl, hdn, has, hctl⟩ := H
  subst e1 e2 e3 e4 e5 e6 e7 e8 e9 e10 e11 e12 e13 e14 e15 e16 g1 g2 g3 g4
  obtain ⟨hd, hsd, hva, ⟨pz, hpz, hps, hpa⟩, hsig⟩ := hb
  obtain ⟨hwt, hin, htb, hhs⟩ : ywt i = 0 ∧ xin i = 0 ∧ xtb i = 0 ∧ sg_hs jc i xha yha := by
    rcases hctl with h | h | h | h
    · exact h.2
    · exact absurd h.1 (by decide)
    · exact absurd h.1 (by decide)
    · exact absurd h.1 (by decide)
  have hsc := hprog.1
  obtain ⟨hfsc, hk⟩ : f < sc ∧ xki f = kk := by
    obtain ⟨f', sc', k1, k2, k3, k4, k5⟩ := hK
    have e1 : f = f' := (nI_eq (by omega) (by omega)).mp (hfs.symm.trans k1)
    have e2 : sc = sc' := (nI_eq (by omega) (by omega)).mp k2
    subst e1 e2
    exact ⟨k3, k5⟩
  obtain ⟨s0, s1, s2, s3, hok⟩ := hprog.2 f hfsc
  have hjc := sg_jas_le hjas
  have b3 : vp_in (nI i) 3 := vp_in_nI hi (by omega)
  have ci : (nI i).toNatClampNeg = i := nI_clamp (by omega)
  have h200 : nI d < 200 := nI_lt (b := 200) hlt (by decide)
  have hdn1 : upd ydn i (nI (d + 1)) i = upd xsd i (nI (d + 1)) i := pk_us.trans pk_us.symm
  have hb1 : sg_base i (d + 1) (upd xsd i (nI (d + 1))) xva xps xpa xct xsn xtk yva yso := ⟨by omega, pk_us, hva, ⟨pz, by omega, hps, hpa⟩, hsig⟩
  obtain ⟨q, hq30, hja⟩ := hjas.1 i hi
  have hya : yas i = nI q := has.trans hja
  subst hkk
  obtain ⟨a, b, ha, hb, hp, hq⟩ := sg_ok10 (hk ▸ hok)
  have h3 := sg_3n (a := a) (by omega)
  refine ⟨(nI sc, nI t, nI jc, nI (sg_cnt xen jc), xse, xki, xpp, xqq, xrr, xst, xfs, upd xin i 1, xtb, xaj, upd xat i (nI t + xrr f), upd xsd i (nI (d + 1)), xja, xev, xva, xha, xps, xpa, xpi, xct, xsn, xsv, xtk, xac, xji, xou, xen, xuw, xra, xea, xtj, xte), (nI sc, nI t, nI jc, nI (sg_cnt xen jc), xse, yss, xac, xji, xen, yho, ywh, xtj, xte, xst, ypl, upd ydn i (nI (d + 1)), yas, upd ywt i 3, upd yun i (nI t + xrr f), yrs, yva, yha, xpa, xpi, xps, yso, xsv, xct), fun post h => ?_, fun post h => ?_, Or.inr (Or.inr (Or.inl ⟨sc, jc, ⟨⟨⟨rfl, rfl, rfl, rfl⟩, rfl, rfl, rfl, rfl, rfl, rfl, rfl, rfl, rfl, rfl, rfl, rfl⟩, ⟨rfl, rfl, rfl, rfl⟩, hset, hprog, hjobs, hjas⟩, fun m hm c => sg_flow_fr c (hf m hm c), hb1, f, hst, hev, hf20, hfs, hpl, hdn1, has, Or.inr (Or.inl ⟨rfl, hfsc, pk_us, htb, Or.inr (Or.inr ⟨pk_us, hk, by rw [pk_us, pk_us], hhs⟩)⟩)⟩))⟩
  · simp (disch := omega) only [wX_beginWait_133, sg_b1, hp, wpX_beginStep, wpX_isWaitingKind, wpX_doAtOnce, wpX_beginWait, ci, b3, hfs, hsd, h200, hk, sg_ltT, sg_m3, sg_m3', sg_m4, sg_m4', sg_m6, sg_m6', sg_m7, sg_m7', sg_m200, sg_m200', nI_add, sg_a1, sg_a2, sg_a3, sg_a4, sg_a5, sg_a6, Int32.add_zero, sg_inT, nI_clamp, sg_lits, sg_mA, sg_mB, sg_mC, sg_mD, sg_mE, sg_mF, Int32.reduceLT, Int32.reduceLE, forall_eq, true_and, and_true, true_implies, false_implies, not_true_eq_false, not_false_eq_true, implies_true]
    exact h
  · simp (disch := omega) only [sg_D, wpY_waitFor, hp, h3, wpY_doStep, wY_doStep_48, wpY_part, wpY_isIn, ci, b3, hpl, s0, s1, s2, s3, hk, sg_neg, sg_m3, sg_m3', sg_m4, sg_m4', sg_m6, sg_m6', sg_m7, sg_m7', sg_m200, sg_m200', nI_add, sg_a1, sg_a2, sg_a3, sg_a4, sg_a5, sg_a6, Int32.add_zero, sg_inT, nI_clamp, sg_lits, sg_mA, sg_mB, sg_mC, sg_mD, sg_mE, sg_mF, Int32.reduceLT, Int32.reduceLE, forall_eq, true_and, and_true, true_implies, false_implies, not_true_eq_false, not_false_eq_true, implies_true]
    exact h
theorem sg_step6 {i d t : Nat} {u : SX} {v : SY} {kk : Int32} (hkk : kk = 6) (hi : i < 3) (H : sg_W 1 i d t u v) (hlt : d < 200) (hK : sg_K i kk u) : sg_S i d t u v := by
  obtain ⟨xsc, xnow, xjc, xec, xse, xki, xpp, xqq, xrr, xst, xfs, xin, xtb, xaj, xat, xsd, xja, xev, xva, xha, xps, xpa, xpi, xct, xsn, xsv, xtk, xac, xji, xou, xen, xuw, xra, xea, xtj, xte⟩ := u
  obtain ⟨ysc, ynow, yjc, yec, yse, yss, yac, yji, yen, yho, ywh, ytj, yte, yst, ypl, ydn, yas, ywt, yun, yrs, yva, yha, ypa, ypi, yps, yso, ysv, yct⟩ := v
  obtain ⟨sc, jc, ⟨⟨⟨e1, e2, e3, e4⟩, e5, e6, e7, e8, e9, e10, e11, e12, e13, e14, e15, e16⟩, ⟨g1, g2, g3, g4⟩, hset, hprog, hjobs, hjas⟩, hf, hb, f, hst, hev, hf20, hfs, hpl, hdn, has, hctl⟩ := H
  subst e1 e2 e3 e4 e5 e6 e7 e8 e9 e10 e11 e12 e13 e14 e15 e16 g1 g2 g3 g4
  obtain ⟨hd, hsd, hva, ⟨pz, hpz, hps, hpa⟩, hsig⟩ := hb
  obtain ⟨hwt, hin, htb, hhs⟩ : ywt i = 0 ∧ xin i = 0 ∧ xtb i = 0 ∧ sg_hs jc i xha yha := by
    rcases hctl with h | h | h | h
    · exact h.2
    · exact absurd h.1 (by decide)
    · exact absurd h.1 (by decide)
    · exact absurd h.1 (by decide)
  have hsc := hprog.1
  obtain ⟨hfsc, hk⟩ : f < sc ∧ xki f = kk := by
    obtain ⟨f', sc', k1, k2, k3, k4, k5⟩ := hK
    have e1 : f = f' := (nI_eq (by omega) (by omega)).mp (hfs.symm.trans k1)
    have e2 : sc = sc' := (nI_eq (by omega) (by omega)).mp k2
    subst e1 e2
    exact ⟨k3, k5⟩
  obtain ⟨s0, s1, s2, s3, hok⟩ := hprog.2 f hfsc
  have hjc := sg_jas_le hjas
  have b3 : vp_in (nI i) 3 := vp_in_nI hi (by omega)
  have ci : (nI i).toNatClampNeg = i := nI_clamp (by omega)
  have h200 : nI d < 200 := nI_lt (b := 200) hlt (by decide)
  have hdn1 : upd ydn i (nI (d + 1)) i = upd xsd i (nI (d + 1)) i := pk_us.trans pk_us.symm
  have hb1 : sg_base i (d + 1) (upd xsd i (nI (d + 1))) xva xps xpa xct xsn xtk yva yso := ⟨by omega, pk_us, hva, ⟨pz, by omega, hps, hpa⟩, hsig⟩
  obtain ⟨q, hq30, hja⟩ := hjas.1 i hi
  have hya : yas i = nI q := has.trans hja
  subst hkk
  obtain ⟨a, b, ha, hb, hp, hq⟩ := sg_ok6 (hk ▸ hok)
  have h3 := sg_3n ha
  have e2 := hva b hb
  refine ⟨(nI sc, nI t, nI jc, nI (sg_cnt xen jc), xse, xki, xpp, xqq, xrr, xst, upd xfs i (nI (f + 1)), xin, xtb, xaj, xat, upd xsd i (nI (d + 1)), xja, xev, xva, xha, upd xps i (nI (pz + 1)), upd xpa (200 * i + pz) (nI a), upd xpi (200 * i + pz) (xva (4 * i + b)), xct, xsn, xsv, xtk, xac, xji, xou, xen, xuw, xra, xea, xtj, xte), (nI sc, nI t, nI jc, nI (sg_cnt xen jc), xse, yss, xac, xji, xen, yho, ywh, xtj, xte, xst, upd ypl i (nI (f + 1)), upd ydn i (nI (d + 1)), yas, ywt, yun, yrs, yva, yha, upd xpa (200 * i + pz) (nI a), upd xpi (200 * i + pz) (xva (4 * i + b)), upd xps i (nI (pz + 1)), yso, xsv, xct), fun post h => ?_, fun post h => ?_, Or.inr (Or.inl ⟨sc, jc, ⟨⟨⟨rfl, rfl, rfl, rfl⟩, rfl, rfl, rfl, rfl, rfl, rfl, rfl, rfl, rfl, rfl, rfl, rfl⟩, ⟨rfl, rfl, rfl, rfl⟩, hset, hprog, hjobs, hjas⟩, fun m hm c => sg_flow_fr c (hf m hm c), ⟨by omega, pk_us, hva, ⟨pz + 1, by omega, pk_us, fun m hm => ?_⟩, hsig⟩, f + 1, hst, hev, by omega, pk_us, pk_us, hdn1, has, Or.inl ⟨rfl, hwt, hin, htb, hhs⟩⟩)⟩
  · simp (disch := omega) only [wpX_putOnPile, hp, hq, hps, wpX_beginStep, wpX_isWaitingKind, wpX_doAtOnce, wpX_beginWait, ci, b3, hfs, hsd, h200, hk, sg_ltT, sg_m3, sg_m3', sg_m4, sg_m4', sg_m6, sg_m6', sg_m7, sg_m7', sg_m200, sg_m200', nI_add, sg_a1, sg_a2, sg_a3, sg_a4, sg_a5, sg_a6, Int32.add_zero, sg_inT, nI_clamp, sg_lits, sg_mA, sg_mB, sg_mC, sg_mD, sg_mE, sg_mF, Int32.reduceLT, Int32.reduceLE, forall_eq, true_and, and_true, true_implies, false_implies, not_true_eq_false, not_false_eq_true, implies_true]
    exact h
  · simp (disch := omega) only [sg_D, wpY_doJobs, hp, hq, hps, h3, e2, wpY_doStep, wY_doStep_48, wpY_part, wpY_isIn, ci, b3, hpl, s0, s1, s2, s3, hk, sg_neg, sg_m3, sg_m3', sg_m4, sg_m4', sg_m6, sg_m6', sg_m7, sg_m7', sg_m200, sg_m200', nI_add, sg_a1, sg_a2, sg_a3, sg_a4, sg_a5, sg_a6, Int32.add_zero, sg_inT, nI_clamp, sg_lits, sg_mA, sg_mB, sg_mC, sg_mD, sg_mE, sg_mF, Int32.reduceLT, Int32.reduceLE, forall_eq, true_and, and_true, true_implies, false_implies, not_true_eq_false, not_false_eq_true, implies_true]
    exact h
  · by_cases c : m = pz
    · subst c; exact ⟨a, ha, pk_us⟩
    · rw [pk_un (by omega)]; exact hpa m (by omega)
theorem sg_step3 {i d t : Nat} {u : SX} {v : SY} {kk : Int32} (hkk : kk = 3) (hi : i < 3) (H : sg_W 1 i d t u v) (hlt : d < 200) (hK : sg_K i kk u) : sg_S i d t u v := by
  obtain ⟨xsc, xnow, xjc, xec, xse, xki, xpp, xqq, xrr, xst, xfs, xin, xtb, xaj, xat, xsd, xja, xev, xva, xha, xps, xpa, xpi, xct, xsn, xsv, xtk, xac, xji, xou, xen, xuw, xra, xea, xtj, xte⟩ := u
  obtain ⟨ysc, ynow, yjc, yec, yse, yss, yac, yji, yen, yho, ywh, ytj, yte, yst, ypl, ydn, yas, ywt, yun, yrs, yva, yha, ypa, ypi, yps, yso, ysv, yct⟩ := v
  obtain ⟨sc, jc, ⟨⟨⟨e1, e2, e3, e4⟩, e5, e6, e7, e8, e9, e10, e11, e12, e13, e14, e15, e16⟩, ⟨g1, g2, g3, g4⟩, hset, hprog, hjobs, hjas⟩, hf, hb, f, hst, hev, hf20, hfs, hpl, hdn, has, hctl⟩ := H
  subst e1 e2 e3 e4 e5 e6 e7 e8 e9 e10 e11 e12 e13 e14 e15 e16 g1 g2 g3 g4
  obtain ⟨hd, hsd, hva, ⟨pz, hpz, hps, hpa⟩, hsig⟩ := hb
  obtain ⟨hwt, hin, htb, hhs⟩ : ywt i = 0 ∧ xin i = 0 ∧ xtb i = 0 ∧ sg_hs jc i xha yha := by
    rcases hctl with h | h | h | h
    · exact h.2
    · exact absurd h.1 (by decide)
    · exact absurd h.1 (by decide)
    · exact absurd h.1 (by decide)
  have hsc := hprog.1
  obtain ⟨hfsc, hk⟩ : f < sc ∧ xki f = kk := by
    obtain ⟨f', sc', k1, k2, k3, k4, k5⟩ := hK
    have e1 : f = f' := (nI_eq (by omega) (by omega)).mp (hfs.symm.trans k1)
    have e2 : sc = sc' := (nI_eq (by omega) (by omega)).mp k2
    subst e1 e2
    exact ⟨k3, k5⟩
  obtain ⟨s0, s1, s2, s3, hok⟩ := hprog.2 f hfsc
  have hjc := sg_jas_le hjas
  have b3 : vp_in (nI i) 3 := vp_in_nI hi (by omega)
  have ci : (nI i).toNatClampNeg = i := nI_clamp (by omega)
  have h200 : nI d < 200 := nI_lt (b := 200) hlt (by decide)
  have hdn1 : upd ydn i (nI (d + 1)) i = upd xsd i (nI (d + 1)) i := pk_us.trans pk_us.symm
  have hb1 : sg_base i (d + 1) (upd xsd i (nI (d + 1))) xva xps xpa xct xsn xtk yva yso := ⟨by omega, pk_us, hva, ⟨pz, by omega, hps, hpa⟩, hsig⟩
  obtain ⟨q, hq30, hja⟩ := hjas.1 i hi
  have hya : yas i = nI q := has.trans hja
  subst hkk
  obtain ⟨a, b, c, ha4, hb, hc, hp, hq, hr⟩ := sg_ok3 (hk ▸ hok)
  have h3 := sg_3n ha4
  have e2 := hva b hb
  by_cases hq3 : q < 30
  · obtain ⟨hjc9, hjas1⟩ := sg_jas_inc hjas hi hq3 hja
    refine ⟨(nI sc, nI t, nI (jc + 1), nI (sg_cnt xen jc), xse, xki, xpp, xqq, xrr, xst, xfs, upd xin i 1, xtb, upd xaj i (nI jc), xat, upd xsd i (nI (d + 1)), upd xja i (nI (q + 1)), xev, xva, xha, xps, xpa, xpi, xct, xsn, xsv, xtk, upd xac jc (nI a), upd xji jc (xva (4 * i + b)), upd xou jc (-1), upd xen jc 0, upd xuw jc 0, upd xra jc (nI t), xea, xtj, xte), (nI sc, nI t, nI (jc + 1), nI (sg_cnt xen jc), xse, yss, upd xac jc (nI a), upd xji jc (xva (4 * i + b)), upd xen jc 0, upd yho jc 1, upd ywh jc (nI t), xtj, xte, xst, ypl, upd ydn i (nI (d + 1)), upd yas i (nI (q + 1)), upd ywt i 1, upd yun i (nI jc), yrs, yva, yha, xpa, xpi, xps, yso, xsv, xct), fun post h => ?_, fun post h => ?_, Or.inr (Or.inr (Or.inl ⟨sc, jc + 1, ⟨⟨⟨rfl, rfl, rfl, rfl⟩, rfl, rfl, rfl, rfl, rfl, rfl, rfl, rfl, rfl, rfl, rfl, rfl⟩, ⟨rfl, rfl, rfl, congrArg nI (sg_cnt_ask _ _).symm⟩, hset, hprog, sg_jobs_ask hset hjobs ha4, hjas1⟩, fun m hm c => sg_flow_fr c (hf m hm c), hb1, f, hst, hev, hf20, hfs, hpl, hdn1, pk_us.trans pk_us.symm, Or.inr (Or.inl ⟨rfl, hfsc, pk_us, htb, Or.inl ⟨pk_us, ⟨jc, by omega, pk_us, pk_us⟩, Or.inl ⟨hk, sg_hs_fr (by omega) (fun _ _ => rfl) (fun _ _ => rfl) hhs⟩⟩⟩)⟩))⟩
    · simp (disch := omega) only [sg_b1, hp, hq, wpX_beginStep, wpX_isWaitingKind, wpX_doAtOnce, wpX_beginWait, ci, b3, hfs, hsd, h200, hk, sg_ltT, sg_m3, sg_m3', sg_m4, sg_m4', sg_m6, sg_m6', sg_m7, sg_m7', sg_m200, sg_m200', nI_add, sg_a1, sg_a2, sg_a3, sg_a4, sg_a5, sg_a6, Int32.add_zero, sg_inT, nI_clamp, sg_lits, sg_mA, sg_mB, sg_mC, sg_mD, sg_mE, sg_mF, Int32.reduceLT, Int32.reduceLE, forall_eq, true_and, and_true, true_implies, false_implies, not_true_eq_false, not_false_eq_true, implies_true]
      refine sg_xask1 hi hja hq3 hjc9 ?_
      simp only [ci, b3, forall_eq, true_and, and_true, true_implies, false_implies, not_true_eq_false, not_false_eq_true, implies_true]
      exact h
    · simp (disch := omega) only [sg_D, wpY_doJobs, hp, hq, h3, e2, wpY_doStep, wY_doStep_48, wpY_part, wpY_isIn, ci, b3, hpl, s0, s1, s2, s3, hk, sg_neg, sg_m3, sg_m3', sg_m4, sg_m4', sg_m6, sg_m6', sg_m7, sg_m7', sg_m200, sg_m200', nI_add, sg_a1, sg_a2, sg_a3, sg_a4, sg_a5, sg_a6, Int32.add_zero, sg_inT, nI_clamp, sg_lits, sg_mA, sg_mB, sg_mC, sg_mD, sg_mE, sg_mF, Int32.reduceLT, Int32.reduceLE, forall_eq, true_and, and_true, true_implies, false_implies, not_true_eq_false, not_false_eq_true, implies_true]
      refine sg_yask1 hi hya hq3 hjc9 ?_
      simp (disch := omega) only [wpY_waitFor, ci, b3, sg_neg, forall_eq, true_and, and_true, true_implies, false_implies, not_true_eq_false, not_false_eq_true, implies_true]
      exact h
  · refine ⟨(nI sc, nI t, nI jc, nI (sg_cnt xen jc), xse, xki, xpp, xqq, xrr, upd xst i 5, xfs, upd xin i 1, xtb, upd xaj i (-1), xat, upd xsd i (nI (d + 1)), xja, xev, xva, xha, xps, xpa, xpi, xct, xsn, xsv, xtk, xac, xji, xou, xen, xuw, xra, xea, xtj, xte), (nI sc, nI t, nI jc, nI (sg_cnt xen jc), xse, yss, xac, xji, xen, yho, ywh, xtj, xte, upd xst i 5, ypl, upd ydn i (nI (d + 1)), yas, ywt, yun, yrs, yva, yha, xpa, xpi, xps, yso, xsv, xct), fun post h => ?_, fun post h => ?_, Or.inl ⟨⟨sc, jc, ⟨⟨⟨rfl, rfl, rfl, rfl⟩, rfl, rfl, rfl, rfl, rfl, rfl, rfl, rfl, rfl, rfl, rfl, rfl⟩, ⟨rfl, rfl, rfl, rfl⟩, hset, hprog, hjobs, hjas⟩, fun m hm => ?_⟩, ⟨by rw [pk_us]; decide, by rw [pk_us]; decide⟩⟩⟩
    · simp (disch := omega) only [sg_b1, hp, hq, wpX_beginStep, wpX_isWaitingKind, wpX_doAtOnce, wpX_beginWait, ci, b3, hfs, hsd, h200, hk, sg_ltT, sg_m3, sg_m3', sg_m4, sg_m4', sg_m6, sg_m6', sg_m7, sg_m7', sg_m200, sg_m200', nI_add, sg_a1, sg_a2, sg_a3, sg_a4, sg_a5, sg_a6, Int32.add_zero, sg_inT, nI_clamp, sg_lits, sg_mA, sg_mB, sg_mC, sg_mD, sg_mE, sg_mF, Int32.reduceLT, Int32.reduceLE, forall_eq, true_and, and_true, true_implies, false_implies, not_true_eq_false, not_false_eq_true, implies_true]
      refine sg_xask0 hi hja hq3 hq30 ?_
      simp only [ci, b3, forall_eq, true_and, and_true, true_implies, false_implies, not_true_eq_false, not_false_eq_true, implies_true]
      exact h
    · simp (disch := omega) only [sg_D, wpY_doJobs, hp, hq, h3, e2, wpY_doStep, wY_doStep_48, wpY_part, wpY_isIn, ci, b3, hpl, s0, s1, s2, s3, hk, sg_neg, sg_m3, sg_m3', sg_m4, sg_m4', sg_m6, sg_m6', sg_m7, sg_m7', sg_m200, sg_m200', nI_add, sg_a1, sg_a2, sg_a3, sg_a4, sg_a5, sg_a6, Int32.add_zero, sg_inT, nI_clamp, sg_lits, sg_mA, sg_mB, sg_mC, sg_mD, sg_mE, sg_mF, Int32.reduceLT, Int32.reduceLE, forall_eq, true_and, and_true, true_implies, false_implies, not_true_eq_false, not_false_eq_true, implies_true]
      refine sg_yask0 hi hya hq3 hq30 ?_
      simp (disch := omega) only [sg_mE, forall_eq, true_and, and_true, true_implies, false_implies, not_true_eq_false, not_false_eq_true, implies_true]
      exact h
    · by_cases c : m = i
      · subst c
        exact Or.inr ⟨d + 1, hb1, Or.inl ⟨5, by omega, by omega, pk_us, hev⟩⟩
      · exact sg_flow_fr c (hf m hm c)
theorem sg_step4 {i d t : Nat} {u : SX} {v : SY} {kk : Int32} (hkk : kk = 4) (hi : i < 3) (H : sg_W 1 i d t u v) (hlt : d < 200) (hK : sg_K i kk u) : sg_S i d t u v := by
  obtain ⟨xsc, xnow, xjc, xec, xse, xki, xpp, xqq, xrr, xst, xfs, xin, xtb, xaj, xat, xsd, xja, xev, xva, xha, xps, xpa, xpi, xct, xsn, xsv, xtk, xac, xji, xou, xen, xuw, xra, xea, xtj, xte⟩ := u
  obtain ⟨ysc, ynow, yjc, yec, yse, yss, yac, yji, yen, yho, ywh, ytj, yte, yst, ypl, ydn, yas, ywt, yun, yrs, yva, yha, ypa, ypi, yps, yso, ysv, yct⟩ := v
  obtain ⟨sc, jc, ⟨⟨⟨e1, e2, e3, e4⟩, e5, e6, e7, e8, e9, e10, e11, e12, e13, e14, e15, e16⟩, ⟨g1, g2, g3, g4⟩, hset, hprog, hjobs, hjas⟩, hf, hb, f, hst, hev, hf20, hfs, hpl, hdn, has, hctl⟩ := H
  subst e1 e2 e3 e4 e5 e6 e7 e8 e9 e10 e11 e12 e13 e14 e15 e16 g1 g2 g3 g4
  obtain ⟨hd, hsd, hva, ⟨pz, hpz, hps, hpa⟩, hsig⟩ := hb
  obtain ⟨hwt, hin, htb, hhs⟩ : ywt i = 0 ∧ xin i = 0 ∧ xtb i = 0 ∧ sg_hs jc i xha yha := by
    rcases hctl with h | h | h | h
    · exact h.2
    · exact absurd h.1 (by decide)
    · exact absurd h.1 (by decide)
    · exact absurd h.1 (by decide)
  have hsc := hprog.1
  obtain ⟨hfsc, hk⟩ : f < sc ∧ xki f = kk := by
    obtain ⟨f', sc', k1, k2, k3, k4, k5⟩ := hK
    have e1 : f = f' := (nI_eq (by omega) (by omega)).mp (hfs.symm.trans k1)
    have e2 : sc = sc' := (nI_eq (by omega) (by omega)).mp k2
    subst e1 e2
    exact ⟨k3, k5⟩
  obtain ⟨s0, s1, s2, s3, hok⟩ := hprog.2 f hfsc
  have hjc := sg_jas_le hjas
  have b3 : vp_in (nI i) 3 := vp_in_nI hi (by omega)
  have ci : (nI i).toNatClampNeg = i := nI_clamp (by omega)
  have h200 : nI d < 200 := nI_lt (b := 200) hlt (by decide)
  have hdn1 : upd ydn i (nI (d + 1)) i = upd xsd i (nI (d + 1)) i := pk_us.trans pk_us.symm
  have hb1 : sg_base i (d + 1) (upd xsd i (nI (d + 1))) xva xps xpa xct xsn xtk yva yso := ⟨by omega, pk_us, hva, ⟨pz, by omega, hps, hpa⟩, hsig⟩
  obtain ⟨q, hq30, hja⟩ := hjas.1 i hi
  have hya : yas i = nI q := has.trans hja
  subst hkk
  obtain ⟨a, b, c, ha4, hb, hc, hp, hq, hr⟩ := sg_ok4 (hk ▸ hok)
  have h3 := sg_3n ha4
  have e2 := hva b hb
  obtain ⟨hh1, hh2⟩ := hhs c hc
  rcases hh2 with hh2 | ⟨j, hj, hh2⟩
  · have hy2 : yha (3 * i + c) = -1 := hh1.trans hh2
    by_cases hq3 : q < 30
    · obtain ⟨hjc9, hjas1⟩ := sg_jas_inc hjas hi hq3 hja
      refine ⟨(nI sc, nI t, nI (jc + 1), nI (sg_cnt xen jc), xse, xki, xpp, xqq, xrr, xst, upd xfs i (nI (f + 1)), xin, xtb, xaj, xat, upd xsd i (nI (d + 1)), upd xja i (nI (q + 1)), xev, xva, upd xha (3 * i + c) (nI jc), xps, xpa, xpi, xct, xsn, xsv, xtk, upd xac jc (nI a), upd xji jc (xva (4 * i + b)), upd xou jc (-1), upd xen jc 0, upd xuw jc 0, upd xra jc (nI t), xea, xtj, xte), (nI sc, nI t, nI (jc + 1), nI (sg_cnt xen jc), xse, yss, upd xac jc (nI a), upd xji jc (xva (4 * i + b)), upd xen jc 0, upd yho jc 1, upd ywh jc (nI t), xtj, xte, xst, upd ypl i (nI (f + 1)), upd ydn i (nI (d + 1)), upd yas i (nI (q + 1)), ywt, yun, yrs, yva, upd yha (3 * i + c) (nI jc), xpa, xpi, xps, yso, xsv, xct), fun post h => ?_, fun post h => ?_, Or.inr (Or.inl ⟨sc, jc + 1, ⟨⟨⟨rfl, rfl, rfl, rfl⟩, rfl, rfl, rfl, rfl, rfl, rfl, rfl, rfl, rfl, rfl, rfl, rfl⟩, ⟨rfl, rfl, rfl, congrArg nI (sg_cnt_ask _ _).symm⟩, hset, hprog, sg_jobs_ask hset hjobs ha4, hjas1⟩, fun m hm c => sg_flow_fr c (hf m hm c), hb1, f + 1, hst, hev, by omega, pk_us, pk_us, hdn1, pk_us.trans pk_us.symm, Or.inl ⟨rfl, hwt, hin, htb, sg_hs_upd (by omega) hhs (Or.inr ⟨jc, by omega, rfl⟩)⟩⟩)⟩
      · simp (disch := omega) only [wpX_askIntoHandle, hp, hq, hr, hh2, wpX_beginStep, wpX_isWaitingKind, wpX_doAtOnce, wpX_beginWait, ci, b3, hfs, hsd, h200, hk, sg_ltT, sg_m3, sg_m3', sg_m4, sg_m4', sg_m6, sg_m6', sg_m7, sg_m7', sg_m200, sg_m200', nI_add, sg_a1, sg_a2, sg_a3, sg_a4, sg_a5, sg_a6, Int32.add_zero, sg_inT, nI_clamp, sg_lits, sg_mA, sg_mB, sg_mC, sg_mD, sg_mE, sg_mF, Int32.reduceLT, Int32.reduceLE, forall_eq, true_and, and_true, true_implies, false_implies, not_true_eq_false, not_false_eq_true, implies_true]
        refine sg_xask1 hi hja hq3 hjc9 ?_
        exact h
      · simp (disch := omega) only [sg_D, wpY_doJobs, hp, hq, hr, h3, e2, hy2, wpY_doStep, wY_doStep_48, wpY_part, wpY_isIn, ci, b3, hpl, s0, s1, s2, s3, hk, sg_neg, sg_m3, sg_m3', sg_m4, sg_m4', sg_m6, sg_m6', sg_m7, sg_m7', sg_m200, sg_m200', nI_add, sg_a1, sg_a2, sg_a3, sg_a4, sg_a5, sg_a6, Int32.add_zero, sg_inT, nI_clamp, sg_lits, sg_mA, sg_mB, sg_mC, sg_mD, sg_mE, sg_mF, Int32.reduceLT, Int32.reduceLE, forall_eq, true_and, and_true, true_implies, false_implies, not_true_eq_false, not_false_eq_true, implies_true]
        refine sg_yask1 hi hya hq3 hjc9 ?_
        simp (disch := omega) only [ci, b3, hpl, sg_m3, sg_m3', sg_m4, sg_m4', sg_m6, sg_m6', sg_m7, sg_m7', sg_m200, sg_m200', nI_add, sg_a1, sg_a2, sg_a3, sg_a4, sg_a5, sg_a6, Int32.add_zero, sg_inT, nI_clamp, forall_eq, true_and, and_true, true_implies, false_implies, not_true_eq_false, not_false_eq_true, implies_true]
        exact h
    · refine ⟨(nI sc, nI t, nI jc, nI (sg_cnt xen jc), xse, xki, xpp, xqq, xrr, upd xst i 5, upd xfs i (nI (f + 1)), xin, xtb, xaj, xat, upd xsd i (nI (d + 1)), xja, xev, xva, upd xha (3 * i + c) (-1), xps, xpa, xpi, xct, xsn, xsv, xtk, xac, xji, xou, xen, xuw, xra, xea, xtj, xte), (nI sc, nI t, nI jc, nI (sg_cnt xen jc), xse, yss, xac, xji, xen, yho, ywh, xtj, xte, upd xst i 5, upd ypl i (nI (f + 1)), upd ydn i (nI (d + 1)), yas, ywt, yun, yrs, yva, upd yha (3 * i + c) (-1), xpa, xpi, xps, yso, xsv, xct), fun post h => ?_, fun post h => ?_, Or.inl ⟨⟨sc, jc, ⟨⟨⟨rfl, rfl, rfl, rfl⟩, rfl, rfl, rfl, rfl, rfl, rfl, rfl, rfl, rfl, rfl, rfl, rfl⟩, ⟨rfl, rfl, rfl, rfl⟩, hset, hprog, hjobs, hjas⟩, fun m hm => ?_⟩, ⟨by rw [pk_us]; decide, by rw [pk_us]; decide⟩⟩⟩
      · simp (disch := omega) only [wpX_askIntoHandle, hp, hq, hr, hh2, wpX_beginStep, wpX_isWaitingKind, wpX_doAtOnce, wpX_beginWait, ci, b3, hfs, hsd, h200, hk, sg_ltT, sg_m3, sg_m3', sg_m4, sg_m4', sg_m6, sg_m6', sg_m7, sg_m7', sg_m200, sg_m200', nI_add, sg_a1, sg_a2, sg_a3, sg_a4, sg_a5, sg_a6, Int32.add_zero, sg_inT, nI_clamp, sg_lits, sg_mA, sg_mB, sg_mC, sg_mD, sg_mE, sg_mF, Int32.reduceLT, Int32.reduceLE, forall_eq, true_and, and_true, true_implies, false_implies, not_true_eq_false, not_false_eq_true, implies_true]
        refine sg_xask0 hi hja hq3 hq30 ?_
        exact h
      · simp (disch := omega) only [sg_D, wpY_doJobs, hp, hq, hr, h3, e2, hy2, wpY_doStep, wY_doStep_48, wpY_part, wpY_isIn, ci, b3, hpl, s0, s1, s2, s3, hk, sg_neg, sg_m3, sg_m3', sg_m4, sg_m4', sg_m6, sg_m6', sg_m7, sg_m7', sg_m200, sg_m200', nI_add, sg_a1, sg_a2, sg_a3, sg_a4, sg_a5, sg_a6, Int32.add_zero, sg_inT, nI_clamp, sg_lits, sg_mA, sg_mB, sg_mC, sg_mD, sg_mE, sg_mF, Int32.reduceLT, Int32.reduceLE, forall_eq, true_and, and_true, true_implies, false_implies, not_true_eq_false, not_false_eq_true, implies_true]
        refine sg_yask0 hi hya hq3 hq30 ?_
        simp (disch := omega) only [ci, b3, hpl, sg_m3, sg_m3', sg_m4, sg_m4', sg_m6, sg_m6', sg_m7, sg_m7', sg_m200, sg_m200', nI_add, sg_a1, sg_a2, sg_a3, sg_a4, sg_a5, sg_a6, Int32.add_zero, sg_inT, nI_clamp, forall_eq, true_and, and_true, true_implies, false_implies, not_true_eq_false, not_false_eq_true, implies_true]
        exact h
      · by_cases c : m = i
        · subst c
          exact Or.inr ⟨d + 1, hb1, Or.inl ⟨5, by omega, by omega, pk_us, hev⟩⟩
        · exact sg_flow_fr c (hf m hm c)
  · have hy2 : yha (3 * i + c) = nI j := hh1.trans hh2
    refine ⟨(nI sc, nI t, nI jc, nI (sg_cnt xen jc), xse, xki, xpp, xqq, xrr, upd xst i 5, upd xfs i (nI (f + 1)), xin, xtb, xaj, xat, upd xsd i (nI (d + 1)), xja, xev, xva, xha, xps, xpa, xpi, xct, xsn, xsv, xtk, xac, xji, xou, xen, xuw, xra, xea, xtj, xte), (nI sc, nI t, nI jc, nI (sg_cnt xen jc), xse, yss, xac, xji, xen, yho, ywh, xtj, xte, upd xst i 5, ypl, upd ydn i (nI (d + 1)), yas, ywt, yun, yrs, yva, yha, xpa, xpi, xps, yso, xsv, xct), fun post h => ?_, fun post h => ?_, Or.inl ⟨⟨sc, jc, ⟨⟨⟨rfl, rfl, rfl, rfl⟩, rfl, rfl, rfl, rfl, rfl, rfl, rfl, rfl, rfl, rfl, rfl, rfl⟩, ⟨rfl, rfl, rfl, rfl⟩, hset, hprog, hjobs, hjas⟩, fun m hm => ?_⟩, ⟨by rw [pk_us]; decide, by rw [pk_us]; decide⟩⟩⟩
    · simp (disch := omega) only [wpX_askIntoHandle, hp, hq, hr, hh2, sg_nm1, wpX_beginStep, wpX_isWaitingKind, wpX_doAtOnce, wpX_beginWait, ci, b3, hfs, hsd, h200, hk, sg_ltT, sg_m3, sg_m3', sg_m4, sg_m4', sg_m6, sg_m6', sg_m7, sg_m7', sg_m200, sg_m200', nI_add, sg_a1, sg_a2, sg_a3, sg_a4, sg_a5, sg_a6, Int32.add_zero, sg_inT, nI_clamp, sg_lits, sg_mA, sg_mB, sg_mC, sg_mD, sg_mE, sg_mF, Int32.reduceLT, Int32.reduceLE, forall_eq, true_and, and_true, true_implies, false_implies, not_true_eq_false, not_false_eq_true, implies_true]
      exact h
    · simp (disch := omega) only [sg_D, wpY_doJobs, hp, hq, hr, h3, e2, hy2, wpY_doStep, wY_doStep_48, wpY_part, wpY_isIn, ci, b3, hpl, s0, s1, s2, s3, hk, sg_neg, sg_m3, sg_m3', sg_m4, sg_m4', sg_m6, sg_m6', sg_m7, sg_m7', sg_m200, sg_m200', nI_add, sg_a1, sg_a2, sg_a3, sg_a4, sg_a5, sg_a6, Int32.add_zero, sg_inT, nI_clamp, sg_lits, sg_mA, sg_mB, sg_mC, sg_mD, sg_mE, sg_mF, Int32.reduceLT, Int32.reduceLE, forall_eq, true_and, and_true, true_implies, false_implies, not_true_eq_false, not_false_eq_true, implies_true]
      exact h
    · by_cases c : m = i
      · subst c
        exact Or.inr ⟨d + 1, hb1, Or.inl ⟨5, by omega, by omega, pk_us, hev⟩⟩
      · exact sg_flow_fr c (hf m hm c)
theorem sg_step5 {i d t : Nat} {u : SX} {v : SY} {kk : Int32} (hkk : kk = 5) (hi : i < 3) (H : sg_W 1 i d t u v) (hlt : d < 200) (hK : sg_K i kk u) : sg_S i d t u v := by
  obtain ⟨xsc, xnow, xjc, xec, xse, xki, xpp, xqq, xrr, xst, xfs, xin, xtb, xaj, xat, xsd, xja, xev, xva, xha, xps, xpa, xpi, xct, xsn, xsv, xtk, xac, xji, xou, xen, xuw, xra, xea, xtj, xte⟩ := u
  obtain ⟨ysc, ynow, yjc, yec, yse, yss, yac, yji, yen, yho, ywh, ytj, yte, yst, ypl, ydn, yas, ywt, yun, yrs, yva, yha, ypa, ypi, yps, yso, ysv, yct⟩ := v
  obtain ⟨sc, jc, ⟨⟨⟨e1, e2, e3, e4⟩, e5, e6, e7, e8, e9, e10, e11, e12, e13, e14, e15, e16⟩, ⟨g1, g2, g3, g4⟩, hset, hprog, hjobs, hjas⟩, hf, hb, f, hst, hev, hf20, hfs, hpl, hdn, has, hctl⟩ := H
  subst e1 e2 e3 e4 e5 e6 e7 e8 e9 e10 e11 e12 e13 e14 e15 e16 g1 g2 g3 g4
  obtain ⟨hd, hsd, hva, ⟨pz, hpz, hps, hpa⟩, hsig⟩ := hb
  obtain ⟨hwt, hin, htb, hhs⟩ : ywt i = 0 ∧ xin i = 0 ∧ xtb i = 0 ∧ sg_hs jc i xha yha := by
    rcases hctl with h | h | h | h
    · exact h.2
    · exact absurd h.1 (by decide)
    · exact absurd h.1 (by decide)
    · exact absurd h.1 (by decide)
  have hsc := hprog.1
  obtain ⟨hfsc, hk⟩ : f < sc ∧ xki f = kk := by
    obtain ⟨f', sc', k1, k2, k3, k4, k5⟩ := hK
    have e1 : f = f' := (nI_eq (by omega) (by omega)).mp (hfs.symm.trans k1)
    have e2 : sc = sc' := (nI_eq (by omega) (by omega)).mp k2
    subst e1 e2
    exact ⟨k3, k5⟩
  obtain ⟨s0, s1, s2, s3, hok⟩ := hprog.2 f hfsc
  have hjc := sg_jas_le hjas
  have b3 : vp_in (nI i) 3 := vp_in_nI hi (by omega)
  have ci : (nI i).toNatClampNeg = i := nI_clamp (by omega)
  have h200 : nI d < 200 := nI_lt (b := 200) hlt (by decide)
  have hdn1 : upd ydn i (nI (d + 1)) i = upd xsd i (nI (d + 1)) i := pk_us.trans pk_us.symm
  have hb1 : sg_base i (d + 1) (upd xsd i (nI (d + 1))) xva xps xpa xct xsn xtk yva yso := ⟨by omega, pk_us, hva, ⟨pz, by omega, hps, hpa⟩, hsig⟩
  obtain ⟨q, hq30, hja⟩ := hjas.1 i hi
  have hya : yas i = nI q := has.trans hja
  subst hkk
  obtain ⟨a, b, ha, hb, hp, hq⟩ := sg_ok5 (hk ▸ hok)
  have h3 := sg_3n (a := a) (by omega)
  obtain ⟨hh1, hh2⟩ := hhs a ha
  rcases hh2 with hh2 | ⟨j, hj, hh2⟩
  · have hy2 : yha (3 * i + a) = -1 := hh1.trans hh2
    refine ⟨(nI sc, nI t, nI jc, nI (sg_cnt xen jc), xse, xki, xpp, xqq, xrr, upd xst i 5, xfs, upd xin i 1, xtb, xaj, xat, upd xsd i (nI (d + 1)), xja, xev, xva, xha, xps, xpa, xpi, xct, xsn, xsv, xtk, xac, xji, xou, xen, xuw, xra, xea, xtj, xte), (nI sc, nI t, nI jc, nI (sg_cnt xen jc), xse, yss, xac, xji, xen, yho, ywh, xtj, xte, upd xst i 5, ypl, upd ydn i (nI (d + 1)), yas, ywt, yun, yrs, yva, yha, xpa, xpi, xps, yso, xsv, xct), fun post h => ?_, fun post h => ?_, Or.inl ⟨⟨sc, jc, ⟨⟨⟨rfl, rfl, rfl, rfl⟩, rfl, rfl, rfl, rfl, rfl, rfl, rfl, rfl, rfl, rfl, rfl, rfl⟩, ⟨rfl, rfl, rfl, rfl⟩, hset, hprog, hjobs, hjas⟩, fun m hm => ?_⟩, ⟨by rw [pk_us]; decide, by rw [pk_us]; decide⟩⟩⟩
    · simp (disch := omega) only [wpX_awaitHandle, sg_b1, hp, hq, hh2, wpX_beginStep, wpX_isWaitingKind, wpX_doAtOnce, wpX_beginWait, ci, b3, hfs, hsd, h200, hk, sg_ltT, sg_m3, sg_m3', sg_m4, sg_m4', sg_m6, sg_m6', sg_m7, sg_m7', sg_m200, sg_m200', nI_add, sg_a1, sg_a2, sg_a3, sg_a4, sg_a5, sg_a6, Int32.add_zero, sg_inT, nI_clamp, sg_lits, sg_mA, sg_mB, sg_mC, sg_mD, sg_mE, sg_mF, Int32.reduceLT, Int32.reduceLE, forall_eq, true_and, and_true, true_implies, false_implies, not_true_eq_false, not_false_eq_true, implies_true]
      exact h
    · simp (disch := omega) only [sg_D, wpY_doJobs, hp, hq, h3, hy2, wpY_doStep, wY_doStep_48, wpY_part, wpY_isIn, ci, b3, hpl, s0, s1, s2, s3, hk, sg_neg, sg_m3, sg_m3', sg_m4, sg_m4', sg_m6, sg_m6', sg_m7, sg_m7', sg_m200, sg_m200', nI_add, sg_a1, sg_a2, sg_a3, sg_a4, sg_a5, sg_a6, Int32.add_zero, sg_inT, nI_clamp, sg_lits, sg_mA, sg_mB, sg_mC, sg_mD, sg_mE, sg_mF, Int32.reduceLT, Int32.reduceLE, forall_eq, true_and, and_true, true_implies, false_implies, not_true_eq_false, not_false_eq_true, implies_true]
      exact h
    · by_cases c : m = i
      · subst c
        exact Or.inr ⟨d + 1, hb1, Or.inl ⟨5, by omega, by omega, pk_us, hev⟩⟩
      · exact sg_flow_fr c (hf m hm c)
  · have hy2 : yha (3 * i + a) = nI j := hh1.trans hh2
    refine ⟨(nI sc, nI t, nI jc, nI (sg_cnt xen jc), xse, xki, xpp, xqq, xrr, xst, xfs, upd xin i 1, xtb, upd xaj i (nI j), xat, upd xsd i (nI (d + 1)), xja, xev, xva, upd xha (3 * i + a) (-1), xps, xpa, xpi, xct, xsn, xsv, xtk, xac, xji, xou, xen, xuw, xra, xea, xtj, xte), (nI sc, nI t, nI jc, nI (sg_cnt xen jc), xse, yss, xac, xji, xen, yho, ywh, xtj, xte, xst, ypl, upd ydn i (nI (d + 1)), yas, upd ywt i 1, upd yun i (nI j), yrs, yva, yha, xpa, xpi, xps, yso, xsv, xct), fun post h => ?_, fun post h => ?_, Or.inr (Or.inr (Or.inl ⟨sc, jc, ⟨⟨⟨rfl, rfl, rfl, rfl⟩, rfl, rfl, rfl, rfl, rfl, rfl, rfl, rfl, rfl, rfl, rfl, rfl⟩, ⟨rfl, rfl, rfl, rfl⟩, hset, hprog, hjobs, hjas⟩, fun m hm c => sg_flow_fr c (hf m hm c), hb1, f, hst, hev, hf20, hfs, hpl, hdn1, has, Or.inr (Or.inl ⟨rfl, hfsc, pk_us, htb, Or.inl ⟨pk_us, ⟨j, hj, pk_us, pk_us⟩, Or.inr ⟨hk, a, ha, hp, sg_hs_5 hhs⟩⟩⟩)⟩))⟩
    · simp (disch := omega) only [wpX_awaitHandle, sg_b1, hp, hq, hh2, sg_nm1, wpX_beginStep, wpX_isWaitingKind, wpX_doAtOnce, wpX_beginWait, ci, b3, hfs, hsd, h200, hk, sg_ltT, sg_m3, sg_m3', sg_m4, sg_m4', sg_m6, sg_m6', sg_m7, sg_m7', sg_m200, sg_m200', nI_add, sg_a1, sg_a2, sg_a3, sg_a4, sg_a5, sg_a6, Int32.add_zero, sg_inT, nI_clamp, sg_lits, sg_mA, sg_mB, sg_mC, sg_mD, sg_mE, sg_mF, Int32.reduceLT, Int32.reduceLE, forall_eq, true_and, and_true, true_implies, false_implies, not_true_eq_false, not_false_eq_true, implies_true]
      exact h
    · simp (disch := omega) only [sg_D, wpY_doJobs, wpY_waitFor, hp, hq, h3, hy2, sg_nn, wpY_doStep, wY_doStep_48, wpY_part, wpY_isIn, ci, b3, hpl, s0, s1, s2, s3, hk, sg_neg, sg_m3, sg_m3', sg_m4, sg_m4', sg_m6, sg_m6', sg_m7, sg_m7', sg_m200, sg_m200', nI_add, sg_a1, sg_a2, sg_a3, sg_a4, sg_a5, sg_a6, Int32.add_zero, sg_inT, nI_clamp, sg_lits, sg_mA, sg_mB, sg_mC, sg_mD, sg_mE, sg_mF, Int32.reduceLT, Int32.reduceLE, forall_eq, true_and, and_true, true_implies, false_implies, not_true_eq_false, not_false_eq_true, implies_true]
      exact h
theorem sg_step12 {i d t : Nat} {u : SX} {v : SY} {kk : Int32} (hkk : kk = 12) (hi : i < 3) (H : sg_W 1 i d t u v) (hlt : d < 200) (hK : sg_K i kk u) : sg_S i d t u v := by
  obtain ⟨xsc, xnow, xjc, xec, xse, xki, xpp, xqq, xrr, xst, xfs, xin, xtb, xaj, xat, xsd, xja, xev, xva, xha, xps, xpa, xpi, xct, xsn, xsv, xtk, xac, xji, xou, xen, xuw, xra, xea, xtj, xte⟩ := u
  obtain ⟨ysc, ynow, yjc, yec, yse, yss, yac, yji, yen, yho, ywh, ytj, yte, yst, ypl, ydn, yas, ywt, yun, yrs, yva, yha, ypa, ypi, yps, yso, ysv, yct⟩ := v
  obtain ⟨sc, jc, ⟨⟨⟨e1, e2, e3, e4⟩, e5, e6, e7, e8, e9, e10, e11, e12, e13, e14, e15, e16⟩, ⟨g1, g2, g3, g4⟩, hset, hprog, hjobs, hjas⟩, hf, hb, f, hst, hev, hf20, hfs, hpl, hdn, has, hctl⟩ := H
  subst e1 e2 e3 e4 e5 e6 e7 e8 e9 e10 e11 e12 e13 e14 e15 e16 g1 g2 g3 g4
  obtain ⟨hd, hsd, hva, ⟨pz, hpz, hps, hpa⟩, hsig⟩ := hb
  obtain ⟨hwt, hin, htb, hhs⟩ : ywt i = 0 ∧ xin i = 0 ∧ xtb i = 0 ∧ sg_hs jc i xha yha := by
    rcases hctl with h | h | h | h
    · exact h.2
    · exact absurd h.1 (by decide)
    · exact absurd h.1 (by decide)
    · exact absurd h.1 (by decide)
  have hsc := hprog.1
  obtain ⟨hfsc, hk⟩ : f < sc ∧ xki f = kk := by
    obtain ⟨f', sc', k1, k2, k3, k4, k5⟩ := hK
    have e1 : f = f' := (nI_eq (by omega) (by omega)).mp (hfs.symm.trans k1)
    have e2 : sc = sc' := (nI_eq (by omega) (by omega)).mp k2
    subst e1 e2
    exact ⟨k3, k5⟩
  obtain ⟨s0, s1, s2, s3, hok⟩ := hprog.2 f hfsc
  have hjc := sg_jas_le hjas
  have b3 : vp_in (nI i) 3 := vp_in_nI hi (by omega)
  have ci : (nI i).toNatClampNeg = i := nI_clamp (by omega)
  have h200 : nI d < 200 := nI_lt (b := 200) hlt (by decide)
  have hdn1 : upd ydn i (nI (d + 1)) i = upd xsd i (nI (d + 1)) i := pk_us.trans pk_us.symm
  have hb1 : sg_base i (d + 1) (upd xsd i (nI (d + 1))) xva xps xpa xct xsn xtk yva yso := ⟨by omega, pk_us, hva, ⟨pz, by omega, hps, hpa⟩, hsig⟩
  obtain ⟨q, hq30, hja⟩ := hjas.1 i hi
  have hya : yas i = nI q := has.trans hja
  subst hkk
  have W4 : sg_W 4 i (d + 1) t (nI sc, nI t, nI jc, nI (sg_cnt xen jc), xse, xki, xpp, xqq, xrr, xst, upd (upd xfs i (nI (f + 1))) i (nI f), xin, upd xtb i 1, upd xaj i (-1), xat, upd xsd i (nI (d + 1)), xja, xev, xva, xha, xps, xpa, xpi, xct, xsn, xsv, xtk, xac, xji, xou, xen, xuw, xra, xea, xtj, xte) (nI sc, nI t, nI jc, nI (sg_cnt xen jc), xse, yss, xac, xji, xen, yho, ywh, xtj, xte, xst, ypl, upd ydn i (nI (d + 1)), yas, ywt, yun, yrs, yva, yha, xpa, xpi, xps, yso, xsv, xct) := ⟨sc, jc, ⟨⟨⟨rfl, rfl, rfl, rfl⟩, rfl, rfl, rfl, rfl, rfl, rfl, rfl, rfl, rfl, rfl, rfl, rfl⟩, ⟨rfl, rfl, rfl, rfl⟩, hset, hprog, hjobs, hjas⟩, fun m hm c => sg_flow_fr c (hf m hm c), hb1, f, hst, hev, hf20, pk_us, hpl, hdn1, has, Or.inr (Or.inr (Or.inr ⟨rfl, hfsc, pk_us, hwt⟩))⟩
  obtain ⟨u2, v1, hX, hY, hO⟩ := sg_tbl hi W4
  obtain ⟨z1, z2, z3, z4, z5, z6, z7, z8, z9, z10, z11, z12, z13, z14, z15, z16, z17, z18, z19, z20, z21, z22, z23, z24, z25, z26, z27, z28, z29, z30, z31, z32, z33, z34, z35, z36⟩ := u2
  obtain ⟨w1, w2, w3, w4, w5, w6, w7, w8, w9, w10, w11, w12, w13, w14, w15, w16, w17, w18, w19, w20, w21, w22, w23, w24, w25, w26, w27, w28⟩ := v1
  refine ⟨(nI sc, nI t, nI jc, nI (sg_cnt xen jc), xse, xki, xpp, xqq, xrr, xst, upd (upd xfs i (nI (f + 1))) i (nI f), xin, upd xtb i 1, upd xaj i (-1), xat, upd xsd i (nI (d + 1)), xja, xev, xva, xha, xps, xpa, xpi, xct, xsn, xsv, xtk, xac, xji, xou, xen, xuw, xra, xea, xtj, xte), (w1, w2, w3, w4, w5, w6, w7, w8, w9, w10, w11, w12, w13, w14, w15, w16, w17, w18, w19, w20, w21, w22, w23, w24, w25, w26, w27, w28), fun post h => ?_, fun post h => ?_, Or.inr (Or.inr (Or.inr ⟨⟨hst, pk_us⟩, (z1, z2, z3, z4, z5, z6, z7, z8, z9, z10, z11, z12, z13, z14, z15, z16, z17, z18, z19, z20, z21, z22, z23, z24, z25, z26, z27, z28, z29, z30, z31, z32, z33, z34, z35, z36), fun post h => ?_, hO⟩))⟩
  · simp (disch := omega) only [wX_doAtOnce_258, wpX_failAt, sg_b1, wpX_beginStep, wpX_isWaitingKind, wpX_doAtOnce, wpX_beginWait, ci, b3, hfs, hsd, h200, hk, sg_ltT, sg_m3, sg_m3', sg_m4, sg_m4', sg_m6, sg_m6', sg_m7, sg_m7', sg_m200, sg_m200', nI_add, sg_a1, sg_a2, sg_a3, sg_a4, sg_a5, sg_a6, Int32.add_zero, sg_inT, nI_clamp, sg_lits, sg_mA, sg_mB, sg_mC, sg_mD, sg_mE, sg_mF, Int32.reduceLT, Int32.reduceLE, forall_eq, true_and, and_true, true_implies, false_implies, not_true_eq_false, not_false_eq_true, implies_true]
    exact h
  · by_cases c0 : xpp f < 0
    · simp (disch := omega) only [sg_D, c0, wpY_doStep, wY_doStep_48, wpY_part, wpY_isIn, ci, b3, hpl, s0, s1, s2, s3, hk, sg_neg, sg_m3, sg_m3', sg_m4, sg_m4', sg_m6, sg_m6', sg_m7, sg_m7', sg_m200, sg_m200', nI_add, sg_a1, sg_a2, sg_a3, sg_a4, sg_a5, sg_a6, Int32.add_zero, sg_inT, nI_clamp, sg_lits, sg_mA, sg_mB, sg_mC, sg_mD, sg_mE, sg_mF, Int32.reduceLT, Int32.reduceLE, forall_eq, true_and, and_true, true_implies, false_implies, not_true_eq_false, not_false_eq_true, implies_true]
      exact hY _ h
    · by_cases c3 : 3 < xpp f
      · simp (disch := omega) only [sg_D, c0, c3, wpY_doStep, wY_doStep_48, wpY_part, wpY_isIn, ci, b3, hpl, s0, s1, s2, s3, hk, sg_neg, sg_m3, sg_m3', sg_m4, sg_m4', sg_m6, sg_m6', sg_m7, sg_m7', sg_m200, sg_m200', nI_add, sg_a1, sg_a2, sg_a3, sg_a4, sg_a5, sg_a6, Int32.add_zero, sg_inT, nI_clamp, sg_lits, sg_mA, sg_mB, sg_mC, sg_mD, sg_mE, sg_mF, Int32.reduceLT, Int32.reduceLE, forall_eq, true_and, and_true, true_implies, false_implies, not_true_eq_false, not_false_eq_true, implies_true]
        exact hY _ h
      · simp (disch := omega) only [sg_D, c0, c3, wpY_doStep, wY_doStep_48, wpY_part, wpY_isIn, ci, b3, hpl, s0, s1, s2, s3, hk, sg_neg, sg_m3, sg_m3', sg_m4, sg_m4', sg_m6, sg_m6', sg_m7, sg_m7', sg_m200, sg_m200', nI_add, sg_a1, sg_a2, sg_a3, sg_a4, sg_a5, sg_a6, Int32.add_zero, sg_inT, nI_clamp, sg_lits, sg_mA, sg_mB, sg_mC, sg_mD, sg_mE, sg_mF, Int32.reduceLT, Int32.reduceLE, forall_eq, true_and, and_true, true_implies, false_implies, not_true_eq_false, not_false_eq_true, implies_true]
        exact hY _ h
  · simp (disch := omega) only [wpX_takeBack, wX_takeBack_22, ci, b3, pk_us, sg_lits, sg_mA, sg_mB, sg_mC, sg_mD, sg_mE, sg_mF, Int32.reduceLT, Int32.reduceLE, forall_eq, true_and, and_true, true_implies, false_implies, not_true_eq_false, not_false_eq_true, implies_true]
    exact hX _ h
end
section
theorem sg_stepAll {i d t : Nat} {u : SX} {v : SY} {k : Int32} (hi : i < 3) (H : sg_W 1 i d t u v) (hlt : d < 200) (hK : sg_K i k u) (hk : k = 0 ∨ k = 1 ∨ k = 2 ∨ k = 3 ∨ k = 4 ∨ k = 5 ∨ k = 6 ∨ k = 7 ∨ k = 8 ∨ k = 9 ∨ k = 10 ∨ k = 11 ∨ k = 12) : sg_S i d t u v := by
  rcases hk with h | h | h | h | h | h | h | h | h | h | h | h | h
  · exact sg_step0 h hi H hlt hK
  · exact sg_step1 h hi H hlt hK
  · exact sg_step2 h hi H hlt hK
  · exact sg_step3 h hi H hlt hK
  · exact sg_step4 h hi H hlt hK
  · exact sg_step5 h hi H hlt hK
  · exact sg_step6 h hi H hlt hK
  · exact sg_step7 h hi H hlt hK
  · exact sg_step8 h hi H hlt hK
  · exact sg_step9 h hi H hlt hK
  · exact sg_step10 h hi H hlt hK
  · exact sg_step11 h hi H hlt hK
  · exact sg_step12 h hi H hlt hK
theorem sg_okk {k p q r : Int32} (h : sg_ok k p q r) : k = 0 ∨ k = 1 ∨ k = 2 ∨ k = 3 ∨ k = 4 ∨ k = 5 ∨ k = 6 ∨ k = 7 ∨ k = 8 ∨ k = 9 ∨ k = 10 ∨ k = 11 ∨ k = 12 := by
  rcases h with h | h | h | h | h | h | h | h | h | h | h | h | h
  · exact Or.inl h.1
  · exact Or.inr (Or.inl h.1)
  · exact Or.inr (Or.inr (Or.inl h.1))
  · exact Or.inr (Or.inr (Or.inr (Or.inl h.1)))
  · exact Or.inr (Or.inr (Or.inr (Or.inr (Or.inl h.1))))
  · exact Or.inr (Or.inr (Or.inr (Or.inr (Or.inr (Or.inl h.1)))))
  · exact Or.inr (Or.inr (Or.inr (Or.inr (Or.inr (Or.inr (Or.inl h.1))))))
  · exact Or.inr (Or.inr (Or.inr (Or.inr (Or.inr (Or.inr (Or.inr (Or.inl h.1)))))))
  · exact Or.inr (Or.inr (Or.inr (Or.inr (Or.inr (Or.inr (Or.inr (Or.inr (Or.inl h.1))))))))
  · exact Or.inr (Or.inr (Or.inr (Or.inr (Or.inr (Or.inr (Or.inr (Or.inr (Or.inr (Or.inl h.1)))))))))
  · exact Or.inr (Or.inr (Or.inr (Or.inr (Or.inr (Or.inr (Or.inr (Or.inr (Or.inr (Or.inr (Or.inl h.1))))))))))
  · exact Or.inr (Or.inr (Or.inr (Or.inr (Or.inr (Or.inr (Or.inr (Or.inr (Or.inr (Or.inr (Or.inr (Or.inl h.1)))))))))))
  · exact Or.inr (Or.inr (Or.inr (Or.inr (Or.inr (Or.inr (Or.inr (Or.inr (Or.inr (Or.inr (Or.inr (Or.inr h)))))))))))
/-! the two loops, over whole states -/
def sg_XL (i n : Nat) (mv c : Int32) (post : SX → Prop) (u : SX) : Prop := match u with
  | (xsc, xnow, xjc, xec, xse, xki, xpp, xqq, xrr, xst, xfs, xin, xtb, xaj, xat, xsd, xja, xev, xva, xha, xps, xpa, xpi, xct, xsn, xsv, xtk, xac, xji, xou, xen, xuw, xra, xea, xtj, xte) => wX_goOn_4 post (nI i) n mv c xsc xnow xjc xec xse xki xpp xqq xrr xst xfs xin xtb xaj xat xsd xja xev xva xha xps xpa xpi xct xsn xsv xtk xac xji xou xen xuw xra xea xtj xte
def sg_YL (i n : Nat) (on : Int32) (post : SY → Prop) (v : SY) : Prop := match v with
  | (ysc, ynow, yjc, yec, yse, yss, yac, yji, yen, yho, ywh, ytj, yte, yst, ypl, ydn, yas, ywt, yun, yrs, yva, yha, ypa, ypi, yps, yso, ysv, yct) => wY_work_33 post (nI i) n on ysc ynow yjc yec yse yss yac yji yen yho ywh ytj yte yst ypl ydn yas ywt yun yrs yva yha ypa ypi yps yso ysv yct
def sg_HX (i : Nat) (tb inn : Int32) (u : SX) : Prop := match u with
  | (xsc, xnow, xjc, xec, xse, xki, xpp, xqq, xrr, xst, xfs, xin, xtb, xaj, xat, xsd, xja, xev, xva, xha, xps, xpa, xpi, xct, xsn, xsv, xtk, xac, xji, xou, xen, xuw, xra, xea, xtj, xte) => xst i = 1 ∧ xtb i = tb ∧ xin i = inn
def sg_EX (i : Nat) (u : SX) : Prop := match u with
  | (xsc, xnow, xjc, xec, xse, xki, xpp, xqq, xrr, xst, xfs, xin, xtb, xaj, xat, xsd, xja, xev, xva, xha, xps, xpa, xpi, xct, xsn, xsv, xtk, xac, xji, xou, xen, xuw, xra, xea, xtj, xte) => ¬ xst i = 1
def sg_EY (i : Nat) (v : SY) : Prop := match v with
  | (ysc, ynow, yjc, yec, yse, yss, yac, yji, yen, yho, ywh, ytj, yte, yst, ypl, ydn, yas, ywt, yun, yrs, yva, yha, ypa, ypi, yps, yso, ysv, yct) => ¬ yst i = 1
def sg_HY (i : Nat) (z : Prop) (v : SY) : Prop := match v with
  | (ysc, ynow, yjc, yec, yse, yss, yac, yji, yen, yho, ywh, ytj, yte, yst, ypl, ydn, yas, ywt, yun, yrs, yva, yha, ypa, ypi, yps, yso, ysv, yct) => yst i = 1 ∧ (ywt i = 0 ↔ z)
theorem sg_2000 {c : Nat} (h : c < 2000) : ¬ (2000 : Int32) ≤ nI c := nI_ge (b := 2000) h (by decide)
theorem sg_xl_stop {i n c : Nat} {post : SX → Prop} {u : SX} (hc : c < 2000) (hp : post u) : sg_XL i (n + 1) 0 (nI c) post u := by
  obtain ⟨xsc, xnow, xjc, xec, xse, xki, xpp, xqq, xrr, xst, xfs, xin, xtb, xaj, xat, xsd, xja, xev, xva, xha, xps, xpa, xpi, xct, xsn, xsv, xtk, xac, xji, xou, xen, xuw, xra, xea, xtj, xte⟩ := u
  have h2 := sg_2000 hc
  simp only [sg_XL, wX_goOn_4, h2, forall_eq, true_and, and_true, true_implies, false_implies, not_true_eq_false, not_false_eq_true, implies_true]
  exact hp
theorem sg_xl_end {i n c : Nat} {post : SX → Prop} {u : SX} (hi : i < 3) (hc : c < 2000) (he : sg_EX i u) (hp : post u) : sg_XL i (n + 1) 1 (nI c) post u := by
  have b3 : vp_in (nI i) 3 := vp_in_nI hi (by omega)
  have ci : (nI i).toNatClampNeg = i := nI_clamp (by omega)
  obtain ⟨xsc, xnow, xjc, xec, xse, xki, xpp, xqq, xrr, xst, xfs, xin, xtb, xaj, xat, xsd, xja, xev, xva, xha, xps, xpa, xpi, xct, xsn, xsv, xtk, xac, xji, xou, xen, xuw, xra, xea, xtj, xte⟩ := u
  have h2 := sg_2000 hc
  have h3 : ¬ xst i = 1 := he
  simp only [sg_XL, wX_goOn_4, h2, h3, ci, b3, sg_lits, sg_mA, sg_mB, sg_mC, sg_mD, sg_mE, sg_mF, Int32.reduceLT, Int32.reduceLE, forall_eq, true_and, and_true, true_implies, false_implies, not_true_eq_false, not_false_eq_true, implies_true]
  exact hp
theorem sg_xl_begin {i n c : Nat} {post : SX → Prop} {u u1 : SX} (hi : i < 3) (hc : c < 2000) (hh : sg_HX i 0 0 u) (hr : ∀ P : SX → Prop, P u1 → wpX_beginStep P u (nI i)) (hp : sg_XL i n 1 (nI (c + 1)) post u1) : sg_XL i (n + 1) 1 (nI c) post u := by
  have b3 : vp_in (nI i) 3 := vp_in_nI hi (by omega)
  have ci : (nI i).toNatClampNeg = i := nI_clamp (by omega)
  obtain ⟨xsc, xnow, xjc, xec, xse, xki, xpp, xqq, xrr, xst, xfs, xin, xtb, xaj, xat, xsd, xja, xev, xva, xha, xps, xpa, xpi, xct, xsn, xsv, xtk, xac, xji, xou, xen, xuw, xra, xea, xtj, xte⟩ := u
  obtain ⟨z1, z2, z3, z4, z5, z6, z7, z8, z9, z10, z11, z12, z13, z14, z15, z16, z17, z18, z19, z20, z21, z22, z23, z24, z25, z26, z27, z28, z29, z30, z31, z32, z33, z34, z35, z36⟩ := u1
  have h2 := sg_2000 hc
  obtain ⟨g1, g2, g3⟩ := hh
  simp only [sg_XL, wX_goOn_4, h2, g1, g2, g3, ci, b3, sg_a1, sg_lits, sg_mA, sg_mB, sg_mC, sg_mD, sg_mE, sg_mF, Int32.reduceLT, Int32.reduceLE, forall_eq, true_and, and_true, true_implies, false_implies, not_true_eq_false, not_false_eq_true, implies_true]
  refine hr _ ?_
  exact hp
theorem sg_xl_es {i n c : Nat} {r : Int32} {post : SX → Prop} {u u1 : SX} (hi : i < 3) (hc : c < 2000) (hh : sg_HX i 0 1 u) (hr : ∀ P : Int32 → SX → Prop, P r u1 → wpX_endStep P u (nI i)) (hp : sg_XL i n r (nI (c + 1)) post u1) : sg_XL i (n + 1) 1 (nI c) post u := by
  have b3 : vp_in (nI i) 3 := vp_in_nI hi (by omega)
  have ci : (nI i).toNatClampNeg = i := nI_clamp (by omega)
  obtain ⟨xsc, xnow, xjc, xec, xse, xki, xpp, xqq, xrr, xst, xfs, xin, xtb, xaj, xat, xsd, xja, xev, xva, xha, xps, xpa, xpi, xct, xsn, xsv, xtk, xac, xji, xou, xen, xuw, xra, xea, xtj, xte⟩ := u
  obtain ⟨z1, z2, z3, z4, z5, z6, z7, z8, z9, z10, z11, z12, z13, z14, z15, z16, z17, z18, z19, z20, z21, z22, z23, z24, z25, z26, z27, z28, z29, z30, z31, z32, z33, z34, z35, z36⟩ := u1
  have h2 := sg_2000 hc
  obtain ⟨g1, g2, g3⟩ := hh
  simp only [sg_XL, wX_goOn_4, h2, g1, g2, g3, ci, b3, sg_a1, sg_lits, sg_mA, sg_mB, sg_mC, sg_mD, sg_mE, sg_mF, Int32.reduceLT, Int32.reduceLE, forall_eq, true_and, and_true, true_implies, false_implies, not_true_eq_false, not_false_eq_true, implies_true]
  refine hr _ ?_
  exact hp
theorem sg_xl_tb {i n c : Nat} {post : SX → Prop} {u u1 : SX} (hi : i < 3) (hc : c < 2000) (hh : sg_F i u) (hr : ∀ P : SX → Prop, P u1 → wpX_takeBack P u (nI i)) (hp : sg_XL i n 0 (nI (c + 1)) post u1) : sg_XL i (n + 1) 1 (nI c) post u := by
  have b3 : vp_in (nI i) 3 := vp_in_nI hi (by omega)
  have ci : (nI i).toNatClampNeg = i := nI_clamp (by omega)
  obtain ⟨xsc, xnow, xjc, xec, xse, xki, xpp, xqq, xrr, xst, xfs, xin, xtb, xaj, xat, xsd, xja, xev, xva, xha, xps, xpa, xpi, xct, xsn, xsv, xtk, xac, xji, xou, xen, xuw, xra, xea, xtj, xte⟩ := u
  obtain ⟨z1, z2, z3, z4, z5, z6, z7, z8, z9, z10, z11, z12, z13, z14, z15, z16, z17, z18, z19, z20, z21, z22, z23, z24, z25, z26, z27, z28, z29, z30, z31, z32, z33, z34, z35, z36⟩ := u1
  have h2 := sg_2000 hc
  obtain ⟨g1, g2⟩ := hh
  simp only [sg_XL, wX_goOn_4, h2, g1, g2, ci, b3, sg_a1, sg_lits, sg_mA, sg_mB, sg_mC, sg_mD, sg_mE, sg_mF, Int32.reduceLT, Int32.reduceLE, forall_eq, true_and, and_true, true_implies, false_implies, not_true_eq_false, not_false_eq_true, implies_true]
  refine hr _ ?_
  exact hp
theorem sg_yl_off {i n : Nat} {post : SY → Prop} {v : SY} (hp : post v) : sg_YL i (n + 1) 0 post v := by
  obtain ⟨ysc, ynow, yjc, yec, yse, yss, yac, yji, yen, yho, ywh, ytj, yte, yst, ypl, ydn, yas, ywt, yun, yrs, yva, yha, ypa, ypi, yps, yso, ysv, yct⟩ := v
  simp only [sg_YL, wY_work_33, forall_eq, true_and, and_true, true_implies, false_implies, not_true_eq_false, not_false_eq_true, implies_true]
  exact hp
theorem sg_yl_end {i n : Nat} {post : SY → Prop} {v : SY} (hi : i < 3) (he : sg_EY i v) (hp : post v) : sg_YL i (n + 1) 1 post v := by
  have b3 : vp_in (nI i) 3 := vp_in_nI hi (by omega)
  have ci : (nI i).toNatClampNeg = i := nI_clamp (by omega)
  obtain ⟨ysc, ynow, yjc, yec, yse, yss, yac, yji, yen, yho, ywh, ytj, yte, yst, ypl, ydn, yas, ywt, yun, yrs, yva, yha, ypa, ypi, yps, yso, ysv, yct⟩ := v
  have h3 : ¬ yst i = 1 := he
  simp only [sg_YL, wY_work_33, ci, b3, h3, sg_lits, sg_mA, sg_mB, sg_mC, sg_mD, sg_mE, sg_mF, Int32.reduceLT, Int32.reduceLE, forall_eq, true_and, and_true, true_implies, false_implies, not_true_eq_false, not_false_eq_true, implies_true]
  exact hp
def sg_CY (i d : Nat) (v : SY) : Prop := match v with
  | (ysc, ynow, yjc, yec, yse, yss, yac, yji, yen, yho, ywh, ytj, yte, yst, ypl, ydn, yas, ywt, yun, yrs, yva, yha, ypa, ypi, yps, yso, ysv, yct) => yst i = 1 ∧ ypl i < ysc ∧ ydn i = nI d
theorem sg_yl_a {i n d : Nat} {post : SY → Prop} {v v1 : SY} (hi : i < 3) (hd : d < 200) (hh : sg_CY i d v) (hr : ∀ P : SY → Prop, P v1 → wpY_doStep P (sg_D i d v) (nI i)) (he : sg_EY i v1) (hp : sg_YL i n 0 post v1) : sg_YL i (n + 1) 1 post v := by
  have b3 : vp_in (nI i) 3 := vp_in_nI hi (by omega)
  have ci : (nI i).toNatClampNeg = i := nI_clamp (by omega)
  have h200 : ¬ nI d = 200 := fun z => by
    have := (nI_eq (b := 200) (by omega) (by omega)).mp z
    omega
  obtain ⟨ysc, ynow, yjc, yec, yse, yss, yac, yji, yen, yho, ywh, ytj, yte, yst, ypl, ydn, yas, ywt, yun, yrs, yva, yha, ypa, ypi, yps, yso, ysv, yct⟩ := v
  obtain ⟨w1, w2, w3, w4, w5, w6, w7, w8, w9, w10, w11, w12, w13, w14, w15, w16, w17, w18, w19, w20, w21, w22, w23, w24, w25, w26, w27, w28⟩ := v1
  obtain ⟨g1, g2, g3⟩ := hh
  have h3 : ¬ w14 i = 1 := he
  simp only [sg_YL, wY_work_33, ci, b3, g1, g2, g3, h200, sg_a1, sg_lits, sg_mA, sg_mB, sg_mC, sg_mD, sg_mE, sg_mF, Int32.reduceLT, Int32.reduceLE, forall_eq, true_and, and_true, true_implies, false_implies, not_true_eq_false, not_false_eq_true, implies_true]
  refine hr _ ?_
  simp only [ci, b3, h3, forall_eq, true_and, and_true, true_implies, false_implies, not_true_eq_false, not_false_eq_true, implies_true]
  exact hp
theorem sg_yl_b {i n d : Nat} {post : SY → Prop} {v v1 : SY} (hi : i < 3) (hd : d < 200) (hh : sg_CY i d v) (hr : ∀ P : SY → Prop, P v1 → wpY_doStep P (sg_D i d v) (nI i)) (he : sg_HY i True v1) (hp : sg_YL i n 1 post v1) : sg_YL i (n + 1) 1 post v := by
  have b3 : vp_in (nI i) 3 := vp_in_nI hi (by omega)
  have ci : (nI i).toNatClampNeg = i := nI_clamp (by omega)
  have h200 : ¬ nI d = 200 := fun z => by
    have := (nI_eq (b := 200) (by omega) (by omega)).mp z
    omega
  obtain ⟨ysc, ynow, yjc, yec, yse, yss, yac, yji, yen, yho, ywh, ytj, yte, yst, ypl, ydn, yas, ywt, yun, yrs, yva, yha, ypa, ypi, yps, yso, ysv, yct⟩ := v
  obtain ⟨w1, w2, w3, w4, w5, w6, w7, w8, w9, w10, w11, w12, w13, w14, w15, w16, w17, w18, w19, w20, w21, w22, w23, w24, w25, w26, w27, w28⟩ := v1
  obtain ⟨g1, g2, g3⟩ := hh
  obtain ⟨h3, h4⟩ := he
  have h4 : w18 i = 0 := h4.mpr trivial
  simp only [sg_YL, wY_work_33, ci, b3, g1, g2, g3, h200, sg_a1, sg_lits, sg_mA, sg_mB, sg_mC, sg_mD, sg_mE, sg_mF, Int32.reduceLT, Int32.reduceLE, forall_eq, true_and, and_true, true_implies, false_implies, not_true_eq_false, not_false_eq_true, implies_true]
  refine hr _ ?_
  simp only [ci, b3, h3, h4, forall_eq, true_and, and_true, true_implies, false_implies, not_true_eq_false, not_false_eq_true, implies_true]
  exact hp
theorem sg_yl_c0 {i n d : Nat} {post : SY → Prop} {v v1 v2 : SY} (hi : i < 3) (hd : d < 200) (hh : sg_CY i d v) (hr : ∀ P : SY → Prop, P v1 → wpY_doStep P (sg_D i d v) (nI i)) (he : sg_HY i False v1) (hg : ∀ P : Int32 → SY → Prop, P 0 v2 → wpY_goOn P v1 (nI i)) (hp : sg_YL i n 0 post v2) : sg_YL i (n + 1) 1 post v := by
  have b3 : vp_in (nI i) 3 := vp_in_nI hi (by omega)
  have ci : (nI i).toNatClampNeg = i := nI_clamp (by omega)
  have h200 : ¬ nI d = 200 := fun z => by
    have := (nI_eq (b := 200) (by omega) (by omega)).mp z
    omega
  obtain ⟨ysc, ynow, yjc, yec, yse, yss, yac, yji, yen, yho, ywh, ytj, yte, yst, ypl, ydn, yas, ywt, yun, yrs, yva, yha, ypa, ypi, yps, yso, ysv, yct⟩ := v
  obtain ⟨w1, w2, w3, w4, w5, w6, w7, w8, w9, w10, w11, w12, w13, w14, w15, w16, w17, w18, w19, w20, w21, w22, w23, w24, w25, w26, w27, w28⟩ := v1
  obtain ⟨a1, a2, a3, a4, a5, a6, a7, a8, a9, a10, a11, a12, a13, a14, a15, a16, a17, a18, a19, a20, a21, a22, a23, a24, a25, a26, a27, a28⟩ := v2
  obtain ⟨g1, g2, g3⟩ := hh
  obtain ⟨h3, h4⟩ := he
  have h4 : ¬ w18 i = 0 := fun z => h4.mp z
  simp only [sg_YL, wY_work_33, ci, b3, g1, g2, g3, h200, sg_a1, sg_lits, sg_mA, sg_mB, sg_mC, sg_mD, sg_mE, sg_mF, Int32.reduceLT, Int32.reduceLE, forall_eq, true_and, and_true, true_implies, false_implies, not_true_eq_false, not_false_eq_true, implies_true]
  refine hr _ ?_
  simp only [ci, b3, h3, h4, forall_eq, true_and, and_true, true_implies, false_implies, not_true_eq_false, not_false_eq_true, implies_true]
  refine hg _ ?_
  simp only [forall_eq, true_and, and_true, true_implies, false_implies, not_true_eq_false, not_false_eq_true, implies_true]
  exact hp
theorem sg_yl_c1 {i n d : Nat} {b : Int32} {post : SY → Prop} {v v1 v2 : SY} (hi : i < 3) (hd : d < 200) (hb : ¬ b = 0) (hh : sg_CY i d v) (hr : ∀ P : SY → Prop, P v1 → wpY_doStep P (sg_D i d v) (nI i)) (he : sg_HY i False v1) (hg : ∀ P : Int32 → SY → Prop, P b v2 → wpY_goOn P v1 (nI i)) (hp : sg_YL i n 1 post v2) : sg_YL i (n + 1) 1 post v := by
  have b3 : vp_in (nI i) 3 := vp_in_nI hi (by omega)
  have ci : (nI i).toNatClampNeg = i := nI_clamp (by omega)
  have h200 : ¬ nI d = 200 := fun z => by
    have := (nI_eq (b := 200) (by omega) (by omega)).mp z
    omega
  obtain ⟨ysc, ynow, yjc, yec, yse, yss, yac, yji, yen, yho, ywh, ytj, yte, yst, ypl, ydn, yas, ywt, yun, yrs, yva, yha, ypa, ypi, yps, yso, ysv, yct⟩ := v
  obtain ⟨w1, w2, w3, w4, w5, w6, w7, w8, w9, w10, w11, w12, w13, w14, w15, w16, w17, w18, w19, w20, w21, w22, w23, w24, w25, w26, w27, w28⟩ := v1
  obtain ⟨a1, a2, a3, a4, a5, a6, a7, a8, a9, a10, a11, a12, a13, a14, a15, a16, a17, a18, a19, a20, a21, a22, a23, a24, a25, a26, a27, a28⟩ := v2
  obtain ⟨g1, g2, g3⟩ := hh
  obtain ⟨h3, h4⟩ := he
  have h4 : ¬ w18 i = 0 := fun z => h4.mp z
  simp only [sg_YL, wY_work_33, ci, b3, g1, g2, g3, h200, sg_a1, sg_lits, sg_mA, sg_mB, sg_mC, sg_mD, sg_mE, sg_mF, Int32.reduceLT, Int32.reduceLE, forall_eq, true_and, and_true, true_implies, false_implies, not_true_eq_false, not_false_eq_true, implies_true]
  refine hr _ ?_
  simp only [ci, b3, h3, h4, forall_eq, true_and, and_true, true_implies, false_implies, not_true_eq_false, not_false_eq_true, implies_true]
  refine hg _ ?_
  simp only [hb, forall_eq, true_and, and_true, true_implies, false_implies, not_true_eq_false, not_false_eq_true, implies_true]
  exact hp
/-! what the modes say of the heads -/
theorem sg_W1x {i d t : Nat} {u : SX} {v : SY} (H : sg_W 1 i d t u v) : sg_HX i 0 0 u ∧ sg_HY i True v := by
  obtain ⟨xsc, xnow, xjc, xec, xse, xki, xpp, xqq, xrr, xst, xfs, xin, xtb, xaj, xat, xsd, xja, xev, xva, xha, xps, xpa, xpi, xct, xsn, xsv, xtk, xac, xji, xou, xen, xuw, xra, xea, xtj, xte⟩ := u
  obtain ⟨ysc, ynow, yjc, yec, yse, yss, yac, yji, yen, yho, ywh, ytj, yte, yst, ypl, ydn, yas, ywt, yun, yrs, yva, yha, ypa, ypi, yps, yso, ysv, yct⟩ := v
  obtain ⟨sc, jc, ⟨⟨⟨e1, e2, e3, e4⟩, e5, e6, e7, e8, e9, e10, e11, e12, e13, e14, e15, e16⟩, ⟨g1, g2, g3, g4⟩, hset, hprog, hjobs, hjas⟩, hf, hb, f, hst, hev, hf20, hfs, hpl, hdn, has, hctl⟩ := H
  subst e1 e2 e3 e4 e5 e6 e7 e8 e9 e10 e11 e12 e13 e14 e15 e16 g1 g2 g3 g4
  rcases hctl with h | h | h | h
  · exact ⟨⟨hst, h.2.2.2.1, h.2.2.1⟩, hst, ⟨fun _ => trivial, fun _ => h.2.1⟩⟩
  · exact absurd h.1 (by decide)
  · exact absurd h.1 (by decide)
  · exact absurd h.1 (by decide)
theorem sg_W2x {i d t : Nat} {u : SX} {v : SY} (H : sg_W 2 i d t u v) : sg_HX i 0 1 u ∧ sg_HY i False v := by
  obtain ⟨xsc, xnow, xjc, xec, xse, xki, xpp, xqq, xrr, xst, xfs, xin, xtb, xaj, xat, xsd, xja, xev, xva, xha, xps, xpa, xpi, xct, xsn, xsv, xtk, xac, xji, xou, xen, xuw, xra, xea, xtj, xte⟩ := u
  obtain ⟨ysc, ynow, yjc, yec, yse, yss, yac, yji, yen, yho, ywh, ytj, yte, yst, ypl, ydn, yas, ywt, yun, yrs, yva, yha, ypa, ypi, yps, yso, ysv, yct⟩ := v
  obtain ⟨sc, jc, ⟨⟨⟨e1, e2, e3, e4⟩, e5, e6, e7, e8, e9, e10, e11, e12, e13, e14, e15, e16⟩, ⟨g1, g2, g3, g4⟩, hset, hprog, hjobs, hjas⟩, hf, hb, f, hst, hev, hf20, hfs, hpl, hdn, has, hctl⟩ := H
  subst e1 e2 e3 e4 e5 e6 e7 e8 e9 e10 e11 e12 e13 e14 e15 e16 g1 g2 g3 g4
  rcases hctl with h | h | h | h
  · exact absurd h.1 (by decide)
  · refine ⟨⟨hst, h.2.2.2.1, h.2.2.1⟩, hst, ⟨fun z => ?_, fun z => z.elim⟩⟩
    rcases h.2.2.2.2 with k | k | k
    · exact absurd (k.1.symm.trans z) (by decide)
    · exact absurd (k.1.symm.trans z) (by decide)
    · exact absurd (k.1.symm.trans z) (by decide)
  · exact absurd h.1 (by decide)
  · exact absurd h.1 (by decide)
theorem sg_W3x {i d t : Nat} {u : SX} {v : SY} (H : sg_W 3 i d t u v) : sg_F i u ∧ sg_HY i False v := by
  obtain ⟨xsc, xnow, xjc, xec, xse, xki, xpp, xqq, xrr, xst, xfs, xin, xtb, xaj, xat, xsd, xja, xev, xva, xha, xps, xpa, xpi, xct, xsn, xsv, xtk, xac, xji, xou, xen, xuw, xra, xea, xtj, xte⟩ := u
  obtain ⟨ysc, ynow, yjc, yec, yse, yss, yac, yji, yen, yho, ywh, ytj, yte, yst, ypl, ydn, yas, ywt, yun, yrs, yva, yha, ypa, ypi, yps, yso, ysv, yct⟩ := v
  obtain ⟨sc, jc, ⟨⟨⟨e1, e2, e3, e4⟩, e5, e6, e7, e8, e9, e10, e11, e12, e13, e14, e15, e16⟩, ⟨g1, g2, g3, g4⟩, hset, hprog, hjobs, hjas⟩, hf, hb, f, hst, hev, hf20, hfs, hpl, hdn, has, hctl⟩ := H
  subst e1 e2 e3 e4 e5 e6 e7 e8 e9 e10 e11 e12 e13 e14 e15 e16 g1 g2 g3 g4
  rcases hctl with h | h | h | h
  · exact absurd h.1 (by decide)
  · exact absurd h.1 (by decide)
  · exact ⟨⟨hst, h.2.2.1⟩, hst, ⟨fun z => absurd (h.2.2.2.1.symm.trans z) (by decide), fun z => z.elim⟩⟩
  · exact absurd h.1 (by decide)
theorem sg_E_X {i : Nat} {u : SX} {v : SY} (h : sg_E i u v) : sg_EX i u := by
  obtain ⟨xsc, xnow, xjc, xec, xse, xki, xpp, xqq, xrr, xst, xfs, xin, xtb, xaj, xat, xsd, xja, xev, xva, xha, xps, xpa, xpi, xct, xsn, xsv, xtk, xac, xji, xou, xen, xuw, xra, xea, xtj, xte⟩ := u
  obtain ⟨ysc, ynow, yjc, yec, yse, yss, yac, yji, yen, yho, ywh, ytj, yte, yst, ypl, ydn, yas, ywt, yun, yrs, yva, yha, ypa, ypi, yps, yso, ysv, yct⟩ := v
  exact h.1
theorem sg_E_Y {i : Nat} {u : SX} {v : SY} (h : sg_E i u v) : sg_EY i v := by
  obtain ⟨xsc, xnow, xjc, xec, xse, xki, xpp, xqq, xrr, xst, xfs, xin, xtb, xaj, xat, xsd, xja, xev, xva, xha, xps, xpa, xpi, xct, xsn, xsv, xtk, xac, xji, xou, xen, xuw, xra, xea, xtj, xte⟩ := u
  obtain ⟨ysc, ynow, yjc, yec, yse, yss, yac, yji, yen, yho, ywh, ytj, yte, yst, ypl, ydn, yas, ywt, yun, yrs, yva, yha, ypa, ypi, yps, yso, ysv, yct⟩ := v
  exact h.2
end
section
/-- at the head of the loop: the program is at its end, or 200 steps are done, or a step is due -/
theorem sg_head {i d t : Nat} {u : SX} {v : SY} (hi : i < 3) (H : sg_W 1 i d t u v) :
    (∃ u1 v1, (∀ P : SX → Prop, P u1 → wpX_beginStep P u (nI i)) ∧ (∀ (n : Nat) (P : SY → Prop), sg_YL i n 1 P v1 → sg_YL i (n + 1) 1 P v) ∧ sg_R t u1 v1 ∧ sg_E i u1 v1) ∨
    (d < 200 ∧ sg_CY i d v ∧ sg_S i d t u v) := by
  have H0 := H
  obtain ⟨xsc, xnow, xjc, xec, xse, xki, xpp, xqq, xrr, xst, xfs, xin, xtb, xaj, xat, xsd, xja, xev, xva, xha, xps, xpa, xpi, xct, xsn, xsv, xtk, xac, xji, xou, xen, xuw, xra, xea, xtj, xte⟩ := u
  obtain ⟨ysc, ynow, yjc, yec, yse, yss, yac, yji, yen, yho, ywh, ytj, yte, yst, ypl, ydn, yas, ywt, yun, yrs, yva, yha, ypa, ypi, yps, yso, ysv, yct⟩ := v
  obtain ⟨sc, jc, ⟨⟨⟨e1, e2, e3, e4⟩, e5, e6, e7, e8, e9, e10, e11, e12, e13, e14, e15, e16⟩, ⟨g1, g2, g3, g4⟩, hset, hprog, hjobs, hjas⟩, hf, hb, f, hst, hev, hf20, hfs, hpl, hdn, has, hctl⟩ := H
  subst e1 e2 e3 e4 e5 e6 e7 e8 e9 e10 e11 e12 e13 e14 e15 e16 g1 g2 g3 g4
  have hb0 := hb
  obtain ⟨hd, hsd, hva, hpil, hsig⟩ := hb
  have hsc := hprog.1
  have b3 : vp_in (nI i) 3 := vp_in_nI hi (by omega)
  have ci : (nI i).toNatClampNeg = i := nI_clamp (by omega)
  have hyd : ydn i = nI d := hdn.trans hsd
  by_cases hfsc : f < sc
  · by_cases h2 : d < 200
    · refine Or.inr ⟨h2, ⟨hst, by rw [hpl]; exact nI_lt hfsc (by omega), hyd⟩, ?_⟩
      exact sg_stepAll (k := xki f) hi H0 h2 ⟨f, sc, hfs, rfl, hfsc, hsc, rfl⟩ (sg_okk (hprog.2 f hfsc).2.2.2.2)
    · have e2 : d = 200 := by omega
      subst e2
      refine Or.inl ⟨(nI sc, nI t, nI jc, nI (sg_cnt xen jc), xse, xki, xpp, xqq, xrr, upd xst i 5, xfs, xin, xtb, xaj, xat, xsd, xja, xev, xva, xha, xps, xpa, xpi, xct, xsn, xsv, xtk, xac, xji, xou, xen, xuw, xra, xea, xtj, xte), (nI sc, nI t, nI jc, nI (sg_cnt xen jc), xse, yss, xac, xji, xen, yho, ywh, xtj, xte, upd xst i 5, ypl, ydn, yas, ywt, yun, yrs, yva, yha, xpa, xpi, xps, yso, xsv, xct), fun P h => ?_, fun n P h => ?_, ⟨sc, jc, ⟨⟨⟨rfl, rfl, rfl, rfl⟩, rfl, rfl, rfl, rfl, rfl, rfl, rfl, rfl, rfl, rfl, rfl, rfl⟩, ⟨rfl, rfl, rfl, rfl⟩, hset, hprog, hjobs, hjas⟩, fun m hm => ?_⟩, ⟨by rw [pk_us]; decide, by rw [pk_us]; decide⟩⟩
      · have h20 : ¬ nI 200 < 200 := nI_nlt (b := 200) (by omega) (by omega)
        simp (disch := omega) only [wpX_beginStep, ci, b3, hfs, hsd, h20, sg_ltT, sg_m3, sg_m3', sg_m4, sg_m4', sg_m6, sg_m6', sg_m7, sg_m7', sg_m200, sg_m200', nI_add, sg_a1, sg_a2, sg_a3, sg_a4, sg_a5, sg_a6, Int32.add_zero, sg_inT, nI_clamp, sg_lits, sg_mA, sg_mB, sg_mC, sg_mD, sg_mE, sg_mF, Int32.reduceLT, Int32.reduceLE, forall_eq, true_and, and_true, true_implies, false_implies, not_true_eq_false, not_false_eq_true, implies_true]
        exact h
      · have h20 : nI 200 = 200 := rfl
        simp (disch := omega) only [sg_YL, wY_work_33, ci, b3, hst, hpl, hyd, h20, sg_ltT, sg_m3, sg_m3', sg_m4, sg_m4', sg_m6, sg_m6', sg_m7, sg_m7', sg_m200, sg_m200', nI_add, sg_a1, sg_a2, sg_a3, sg_a4, sg_a5, sg_a6, Int32.add_zero, sg_inT, nI_clamp, sg_lits, sg_mA, sg_mB, sg_mC, sg_mD, sg_mE, sg_mF, Int32.reduceLT, Int32.reduceLE, forall_eq, true_and, and_true, true_implies, false_implies, not_true_eq_false, not_false_eq_true, implies_true]
        exact h
      · by_cases c : m = i
        · subst c
          exact Or.inr ⟨200, hb0, Or.inl ⟨5, by omega, by omega, pk_us, hev⟩⟩
        · exact sg_flow_fr c (hf m hm c)
  · refine Or.inl ⟨(nI sc, nI t, nI jc, nI (sg_cnt xen jc), xse, xki, xpp, xqq, xrr, upd xst i 2, xfs, xin, xtb, xaj, xat, xsd, xja, xev, xva, xha, xps, xpa, xpi, xct, xsn, xsv, xtk, xac, xji, xou, xen, xuw, xra, xea, xtj, xte), (nI sc, nI t, nI jc, nI (sg_cnt xen jc), xse, yss, xac, xji, xen, yho, ywh, xtj, xte, upd xst i 2, ypl, ydn, yas, ywt, yun, upd yrs i 0, yva, yha, xpa, xpi, xps, yso, xsv, xct), fun P h => ?_, fun n P h => ?_, ⟨sc, jc, ⟨⟨⟨rfl, rfl, rfl, rfl⟩, rfl, rfl, rfl, rfl, rfl, rfl, rfl, rfl, rfl, rfl, rfl, rfl⟩, ⟨rfl, rfl, rfl, rfl⟩, hset, hprog, hjobs, hjas⟩, fun m hm => ?_⟩, ⟨by rw [pk_us]; decide, by rw [pk_us]; decide⟩⟩
    · simp (disch := omega) only [wpX_beginStep, ci, b3, hfs, sg_ltF, sg_m3, sg_m3', sg_m4, sg_m4', sg_m6, sg_m6', sg_m7, sg_m7', sg_m200, sg_m200', nI_add, sg_a1, sg_a2, sg_a3, sg_a4, sg_a5, sg_a6, Int32.add_zero, sg_inT, nI_clamp, sg_lits, sg_mA, sg_mB, sg_mC, sg_mD, sg_mE, sg_mF, Int32.reduceLT, Int32.reduceLE, forall_eq, true_and, and_true, true_implies, false_implies, not_true_eq_false, not_false_eq_true, implies_true]
      exact h
    · simp (disch := omega) only [sg_YL, wY_work_33, ci, b3, hst, hpl, sg_ltF, sg_m3, sg_m3', sg_m4, sg_m4', sg_m6, sg_m6', sg_m7, sg_m7', sg_m200, sg_m200', nI_add, sg_a1, sg_a2, sg_a3, sg_a4, sg_a5, sg_a6, Int32.add_zero, sg_inT, nI_clamp, sg_lits, sg_mA, sg_mB, sg_mC, sg_mD, sg_mE, sg_mF, Int32.reduceLT, Int32.reduceLE, forall_eq, true_and, and_true, true_implies, false_implies, not_true_eq_false, not_false_eq_true, implies_true]
      exact h
    · by_cases c : m = i
      · subst c
        exact Or.inr ⟨d, hb0, Or.inl ⟨2, by omega, by omega, pk_us, by rw [if_pos rfl, pk_us]; exact hev⟩⟩
      · exact sg_flow_fr c (hf m hm c)
theorem sg_loop {i t : Nat} (hi : i < 3) : ∀ (k d c N M : Nat) (u : SX) (v : SY), d + k = 200 → c + 3 * k + 8 ≤ 2000 → 3 * k + 8 ≤ N → k + 4 ≤ M → sg_W 1 i d t u v → ∃ u1 v1, (∀ P : SX → Prop, P u1 → sg_XL i N 1 (nI c) P u) ∧ (∀ P : SY → Prop, P v1 → sg_YL i M 1 P v) ∧ sg_R t u1 v1 := by
  intro k
  induction k with
  | zero =>
    intro d c N M u v hd hc hN hM H
    obtain ⟨N, rfl⟩ : ∃ n, N = n + 2 := ⟨N - 2, by omega⟩
    obtain ⟨M, rfl⟩ : ∃ n, M = n + 2 := ⟨M - 2, by omega⟩
    rcases sg_head hi H with ⟨u1, v1, hX, hY, hR, hE⟩ | ⟨h, _⟩
    · exact ⟨u1, v1, fun P h => sg_xl_begin hi (by omega) (sg_W1x H).1 hX (sg_xl_end hi (by omega) (sg_E_X hE) h), fun P h => hY _ P (sg_yl_end hi (sg_E_Y hE) h), hR⟩
    · omega
  | succ k ih =>
    intro d c N M u v hd hc hN hM H
    obtain ⟨N, rfl⟩ : ∃ n, N = n + 4 := ⟨N - 4, by omega⟩
    obtain ⟨M, rfl⟩ : ∃ n, M = n + 2 := ⟨M - 2, by omega⟩
    rcases sg_head hi H with ⟨u1, v1, hX, hY, hR, hE⟩ | ⟨h2, hC, u1, v1, hX, hY, hO⟩
    · exact ⟨u1, v1, fun P h => sg_xl_begin hi (by omega) (sg_W1x H).1 hX (sg_xl_end hi (by omega) (sg_E_X hE) h), fun P h => hY _ P (sg_yl_end hi (sg_E_Y hE) h), hR⟩
    · have bX : ∀ P : SX → Prop, sg_XL i (N + 3) 1 (nI (c + 1)) P u1 → sg_XL i (N + 4) 1 (nI c) P u := fun P h => sg_xl_begin hi (by omega) (sg_W1x H).1 hX h
      rcases hO with ⟨hR, hE⟩ | hW | hW | ⟨hF, u2, hT, hO⟩
      · exact ⟨u1, v1, fun P h => bX P (sg_xl_end hi (by omega) (sg_E_X hE) h), fun P h => sg_yl_a hi h2 hC hY (sg_E_Y hE) (sg_yl_off h), hR⟩
      · obtain ⟨u2, v2, r1, r2, r3⟩ := ih (d + 1) (c + 1) (N + 3) (M + 1) u1 v1 (by omega) (by omega) (by omega) (by omega) hW
        exact ⟨u2, v2, fun P h => bX P (r1 P h), fun P h => sg_yl_b hi h2 hC hY (sg_W1x hW).2 (r2 P h), r3⟩
      · rcases sg_es hi hW with ⟨e1, e2⟩ | ⟨u2, v2, e1, e2, hW2⟩ | ⟨u2, u3, v3, b, e1, hF, e2, e3, hR, hE⟩
        · exact ⟨u1, v1, fun P h => bX P (sg_xl_es hi (by omega) (sg_W2x hW).1 e1 (sg_xl_stop (by omega) h)), fun P h => sg_yl_c0 hi h2 hC hY (sg_W2x hW).2 e2 (sg_yl_off h), sg_W_R hi (by omega) hW⟩
        · obtain ⟨u3, v3, r1, r2, r3⟩ := ih (d + 1) (c + 2) (N + 2) (M + 1) u2 v2 (by omega) (by omega) (by omega) (by omega) hW2
          exact ⟨u3, v3, fun P h => bX P (sg_xl_es hi (by omega) (sg_W2x hW).1 e1 (r1 P h)), fun P h => sg_yl_c1 hi h2 (by decide) hC hY (sg_W2x hW).2 e2 (r2 P h), r3⟩
        · refine ⟨u3, v3, fun P h => bX P (sg_xl_es hi (by omega) (sg_W2x hW).1 e1 (sg_xl_tb hi (by omega) hF e2 (sg_xl_stop (by omega) h))), fun P h => ?_, hR⟩
          by_cases hb : b = 0
          · subst hb
            exact sg_yl_c0 hi h2 hC hY (sg_W2x hW).2 e3 (sg_yl_off h)
          · rcases hE with hE | hE
            · exact sg_yl_c1 hi h2 hb hC hY (sg_W2x hW).2 e3 (sg_yl_end hi (sg_E_Y hE) h)
            · exact absurd hE hb
      · rcases hO with ⟨hR, hE⟩ | ⟨hW, hg⟩
        · exact ⟨u2, v1, fun P h => bX P (sg_xl_tb hi (by omega) hF hT (sg_xl_stop (by omega) h)), fun P h => sg_yl_a hi h2 hC hY (sg_E_Y hE) (sg_yl_off h), hR⟩
        · exact ⟨u2, v1, fun P h => bX P (sg_xl_tb hi (by omega) hF hT (sg_xl_stop (by omega) h)), fun P h => sg_yl_c0 hi h2 hC hY (sg_W3x hW).2 hg (sg_yl_off h), sg_W_R hi (by omega) hW⟩
/-! serving a workflow -/
theorem sg_xgo {i N : Nat} {u u1 : SX} (h : ∀ P : SX → Prop, P u1 → sg_XL i N 1 (nI 0) P u) : ∀ P : SX → Prop, P u1 → wpX_goOn P u (nI i) := fun P hp => by
  have h1 := h P hp
  obtain ⟨xsc, xnow, xjc, xec, xse, xki, xpp, xqq, xrr, xst, xfs, xin, xtb, xaj, xat, xsd, xja, xev, xva, xha, xps, xpa, xpi, xct, xsn, xsv, xtk, xac, xji, xou, xen, xuw, xra, xea, xtj, xte⟩ := u
  exact ⟨N, h1⟩
theorem sg_ywk_e {i : Nat} {v : SY} (hi : i < 3) (he : sg_EY i v) : ∀ P : SY → Prop, P v → wpY_work P v (nI i) := fun P hp => by
  have b3 : vp_in (nI i) 3 := vp_in_nI hi (by omega)
  have ci : (nI i).toNatClampNeg = i := nI_clamp (by omega)
  have h1 := sg_yl_off (i := i) (n := 0) hp
  obtain ⟨ysc, ynow, yjc, yec, yse, yss, yac, yji, yen, yho, ywh, ytj, yte, yst, ypl, ydn, yas, ywt, yun, yrs, yva, yha, ypa, ypi, yps, yso, ysv, yct⟩ := v
  have h3 : ¬ yst i = 1 := he
  simp only [wpY_work, ci, b3, h3, forall_eq, true_and, and_true, true_implies, false_implies, not_true_eq_false, not_false_eq_true, implies_true]
  exact ⟨1, h1⟩
theorem sg_ywk_1 {i N : Nat} {v v1 : SY} (hi : i < 3) (he : sg_HY i True v) (h : ∀ P : SY → Prop, P v1 → sg_YL i N 1 P v) : ∀ P : SY → Prop, P v1 → wpY_work P v (nI i) := fun P hp => by
  have b3 : vp_in (nI i) 3 := vp_in_nI hi (by omega)
  have ci : (nI i).toNatClampNeg = i := nI_clamp (by omega)
  have h1 := h P hp
  obtain ⟨ysc, ynow, yjc, yec, yse, yss, yac, yji, yen, yho, ywh, ytj, yte, yst, ypl, ydn, yas, ywt, yun, yrs, yva, yha, ypa, ypi, yps, yso, ysv, yct⟩ := v
  obtain ⟨h3, h4⟩ := he
  have h4 : ywt i = 0 := h4.mpr trivial
  simp only [wpY_work, ci, b3, h3, h4, forall_eq, true_and, and_true, true_implies, false_implies, not_true_eq_false, not_false_eq_true, implies_true]
  exact ⟨N, h1⟩
theorem sg_ywk_g0 {i : Nat} {v v1 : SY} (hi : i < 3) (he : sg_HY i False v) (hg : ∀ P : Int32 → SY → Prop, P 0 v1 → wpY_goOn P v (nI i)) : ∀ P : SY → Prop, P v1 → wpY_work P v (nI i) := fun P hp => by
  have b3 : vp_in (nI i) 3 := vp_in_nI hi (by omega)
  have ci : (nI i).toNatClampNeg = i := nI_clamp (by omega)
  have h1 := sg_yl_off (i := i) (n := 0) hp
  obtain ⟨ysc, ynow, yjc, yec, yse, yss, yac, yji, yen, yho, ywh, ytj, yte, yst, ypl, ydn, yas, ywt, yun, yrs, yva, yha, ypa, ypi, yps, yso, ysv, yct⟩ := v
  obtain ⟨w1, w2, w3, w4, w5, w6, w7, w8, w9, w10, w11, w12, w13, w14, w15, w16, w17, w18, w19, w20, w21, w22, w23, w24, w25, w26, w27, w28⟩ := v1
  obtain ⟨h3, h4⟩ := he
  have h4 : ¬ ywt i = 0 := fun z => h4.mp z
  simp only [wpY_work, ci, b3, h3, h4, forall_eq, true_and, and_true, true_implies, false_implies, not_true_eq_false, not_false_eq_true, implies_true]
  refine hg _ ?_
  simp only [forall_eq, true_and, and_true, true_implies, false_implies, not_true_eq_false, not_false_eq_true, implies_true]
  exact ⟨1, h1⟩
theorem sg_ywk_g1 {i N : Nat} {b : Int32} {v v1 v2 : SY} (hi : i < 3) (hb : ¬ b = 0) (he : sg_HY i False v) (hg : ∀ P : Int32 → SY → Prop, P b v1 → wpY_goOn P v (nI i)) (h : ∀ P : SY → Prop, P v2 → sg_YL i N 1 P v1) : ∀ P : SY → Prop, P v2 → wpY_work P v (nI i) := fun P hp => by
  have b3 : vp_in (nI i) 3 := vp_in_nI hi (by omega)
  have ci : (nI i).toNatClampNeg = i := nI_clamp (by omega)
  have h1 := h P hp
  obtain ⟨ysc, ynow, yjc, yec, yse, yss, yac, yji, yen, yho, ywh, ytj, yte, yst, ypl, ydn, yas, ywt, yun, yrs, yva, yha, ypa, ypi, yps, yso, ysv, yct⟩ := v
  obtain ⟨w1, w2, w3, w4, w5, w6, w7, w8, w9, w10, w11, w12, w13, w14, w15, w16, w17, w18, w19, w20, w21, w22, w23, w24, w25, w26, w27, w28⟩ := v1
  obtain ⟨h3, h4⟩ := he
  have h4 : ¬ ywt i = 0 := fun z => h4.mp z
  simp only [wpY_work, ci, b3, h3, h4, forall_eq, true_and, and_true, true_implies, false_implies, not_true_eq_false, not_false_eq_true, implies_true]
  refine hg _ ?_
  simp only [hb, forall_eq, true_and, and_true, true_implies, false_implies, not_true_eq_false, not_false_eq_true, implies_true]
  exact ⟨N, h1⟩
theorem sg_W_d {md i d t : Nat} {u : SX} {v : SY} (H : sg_W md i d t u v) : d ≤ 200 := by
  obtain ⟨xsc, xnow, xjc, xec, xse, xki, xpp, xqq, xrr, xst, xfs, xin, xtb, xaj, xat, xsd, xja, xev, xva, xha, xps, xpa, xpi, xct, xsn, xsv, xtk, xac, xji, xou, xen, xuw, xra, xea, xtj, xte⟩ := u
  obtain ⟨ysc, ynow, yjc, yec, yse, yss, yac, yji, yen, yho, ywh, ytj, yte, yst, ypl, ydn, yas, ywt, yun, yrs, yva, yha, ypa, ypi, yps, yso, ysv, yct⟩ := v
  obtain ⟨sc, jc, hg, hf, hb, _⟩ := H
  exact hb.1
theorem sg_R_W {i t : Nat} {u : SX} {v : SY} (hi : i < 3) (H : sg_R t u v) : sg_E i u v ∨ ∃ md d, (md = 1 ∨ md = 2 ∨ md = 3) ∧ sg_W md i d t u v := by
  obtain ⟨xsc, xnow, xjc, xec, xse, xki, xpp, xqq, xrr, xst, xfs, xin, xtb, xaj, xat, xsd, xja, xev, xva, xha, xps, xpa, xpi, xct, xsn, xsv, xtk, xac, xji, xou, xen, xuw, xra, xea, xtj, xte⟩ := u
  obtain ⟨ysc, ynow, yjc, yec, yse, yss, yac, yji, yen, yho, ywh, ytj, yte, yst, ypl, ydn, yas, ywt, yun, yrs, yva, yha, ypa, ypi, yps, yso, ysv, yct⟩ := v
  obtain ⟨sc, jc, ⟨⟨⟨e1, e2, e3, e4⟩, e5, e6, e7, e8, e9, e10, e11, e12, e13, e14, e15, e16⟩, ⟨g1, g2, g3, g4⟩, hset, hprog, hjobs, hjas⟩, hf⟩ := H
  subst e1 e2 e3 e4 e5 e6 e7 e8 e9 e10 e11 e12 e13 e14 e15 e16 g1 g2 g3 g4
  rcases hf i hi with h | ⟨d, hb, h⟩
  · exact Or.inl ⟨by rw [h.1]; decide, by rw [h.1]; decide⟩
  · rcases h with ⟨s, s1, s2, s3, _⟩ | ⟨md, f, hmd, ha⟩
    · have n1 : ¬ nI s = 1 := fun z => by
        have := (nI_eq (b := 1) (by omega) (by omega)).mp z
        omega
      exact Or.inl ⟨by rw [s3]; exact n1, by rw [s3]; exact n1⟩
    · exact Or.inr ⟨md, d, hmd, sc, jc, ⟨⟨⟨rfl, rfl, rfl, rfl⟩, rfl, rfl, rfl, rfl, rfl, rfl, rfl, rfl, rfl, rfl, rfl, rfl⟩, ⟨rfl, rfl, rfl, rfl⟩, hset, hprog, hjobs, hjas⟩, fun m hm _ => hf m hm, hb, f, ha⟩
theorem sg_work {i t : Nat} {u : SX} {v : SY} (hi : i < 3) (H : sg_R t u v) : ∃ u1 v1, (∀ P : SX → Prop, P u1 → wpX_goOn P u (nI i)) ∧ (∀ P : SY → Prop, P v1 → wpY_work P v (nI i)) ∧ sg_R t u1 v1 := by
  rcases sg_R_W hi H with hE | ⟨md, d, hmd, hW⟩
  · exact ⟨u, v, sg_xgo (N := 1) (fun P h => sg_xl_end hi (by omega) (sg_E_X hE) h), sg_ywk_e hi (sg_E_Y hE), H⟩
  · have hd := sg_W_d hW
    rcases hmd with rfl | rfl | rfl
    · obtain ⟨u1, v1, r1, r2, r3⟩ := sg_loop hi (200 - d) d 0 1000 1000 u v (by omega) (by omega) (by omega) (by omega) hW
      exact ⟨u1, v1, sg_xgo r1, sg_ywk_1 hi (sg_W1x hW).2 r2, r3⟩
    · rcases sg_es hi hW with ⟨e1, e2⟩ | ⟨u2, v2, e1, e2, hW2⟩ | ⟨u2, u3, v3, b, e1, hF, e2, e3, hR, hE⟩
      · exact ⟨u, v, sg_xgo (N := 2) (fun P h => sg_xl_es hi (by omega) (sg_W2x hW).1 e1 (sg_xl_stop (by omega) h)), sg_ywk_g0 hi (sg_W2x hW).2 e2, H⟩
      · obtain ⟨u3, v3, r1, r2, r3⟩ := sg_loop hi (200 - d) d 1 1000 1000 u2 v2 (by omega) (by omega) (by omega) (by omega) hW2
        exact ⟨u3, v3, sg_xgo (N := 1001) (fun P h => sg_xl_es hi (by omega) (sg_W2x hW).1 e1 (r1 P h)), sg_ywk_g1 hi (by decide) (sg_W2x hW).2 e2 r2, r3⟩
      · refine ⟨u3, v3, sg_xgo (N := 3) (fun P h => sg_xl_es hi (by omega) (sg_W2x hW).1 e1 (sg_xl_tb hi (by omega) hF e2 (sg_xl_stop (by omega) h))), ?_, hR⟩
        by_cases hb : b = 0
        · subst hb
          exact sg_ywk_g0 hi (sg_W2x hW).2 e3
        · rcases hE with hE | hE
          · exact sg_ywk_g1 (N := 1) hi hb (sg_W2x hW).2 e3 (fun P h => sg_yl_end hi (sg_E_Y hE) h)
          · exact absurd hE hb
    · obtain ⟨u1, v1, b, e1, e2, hR, hE⟩ := sg_tb hi hW
      refine ⟨u1, v1, sg_xgo (N := 2) (fun P h => sg_xl_tb hi (by omega) (sg_W3x hW).1 e1 (sg_xl_stop (by omega) h)), ?_, hR⟩
      by_cases hb : b = 0
      · subst hb
        exact sg_ywk_g0 hi (sg_W3x hW).2 e2
      · rcases hE with hE | hE
        · exact sg_ywk_g1 (N := 1) hi hb (sg_W3x hW).2 e2 (fun P h => sg_yl_end hi (sg_E_Y hE) h)
        · exact absurd hE hb
end
section
def sg_XE (n : Nat) (x : Int32) (P : SX → Prop) (u : SX) : Prop := match u with
  | (xsc, xnow, xjc, xec, xse, xki, xpp, xqq, xrr, xst, xfs, xin, xtb, xaj, xat, xsd, xja, xev, xva, xha, xps, xpa, xpi, xct, xsn, xsv, xtk, xac, xji, xou, xen, xuw, xra, xea, xtj, xte) => wX_endDueAttempts_2 P n x xsc xnow xjc xec xse xki xpp xqq xrr xst xfs xin xtb xaj xat xsd xja xev xva xha xps xpa xpi xct xsn xsv xtk xac xji xou xen xuw xra xea xtj xte
def sg_YE (n : Nat) (x : Int32) (P : SY → Prop) (v : SY) : Prop := match v with
  | (ysc, ynow, yjc, yec, yse, yss, yac, yji, yen, yho, ywh, ytj, yte, yst, ypl, ydn, yas, ywt, yun, yrs, yva, yha, ypa, ypi, yps, yso, ysv, yct) => wY_endAttempts_2 P ysc ynow yjc n x yec yse yss yac yji yen yho ywh ytj yte yst ypl ydn yas ywt yun yrs yva yha ypa ypi yps yso ysv yct
def sg_J (jc : Nat) (u : SX) (v : SY) : Prop := match u with
  | (xsc, xnow, xjc, xec, xse, xki, xpp, xqq, xrr, xst, xfs, xin, xtb, xaj, xat, xsd, xja, xev, xva, xha, xps, xpa, xpi, xct, xsn, xsv, xtk, xac, xji, xou, xen, xuw, xra, xea, xtj, xte) => match v with
    | (ysc, ynow, yjc, yec, yse, yss, yac, yji, yen, yho, ywh, ytj, yte, yst, ypl, ydn, yas, ywt, yun, yrs, yva, yha, ypa, ypi, yps, yso, ysv, yct) => xjc = nI jc ∧ yjc = nI jc
theorem sg_endone {t jc j : Nat} {u : SX} {v : SY} (H : sg_R t u v) (hJ : sg_J jc u v) (hc9 : jc < 2 ^ 31) (hj : j < jc) : ∃ u1 v1, (∀ (n : Nat) (P : SX → Prop), sg_XE n (nI (j + 1)) P u1 → sg_XE (n + 1) (nI j) P u) ∧ (∀ (n : Nat) (P : SY → Prop), sg_YE n (nI (j + 1)) P v1 → sg_YE (n + 1) (nI j) P v) ∧ sg_R t u1 v1 ∧ sg_J jc u1 v1 := by
  have H0 := H
  have J0 := hJ
  obtain ⟨xsc, xnow, xjc, xec, xse, xki, xpp, xqq, xrr, xst, xfs, xin, xtb, xaj, xat, xsd, xja, xev, xva, xha, xps, xpa, xpi, xct, xsn, xsv, xtk, xac, xji, xou, xen, xuw, xra, xea, xtj, xte⟩ := u
  obtain ⟨ysc, ynow, yjc, yec, yse, yss, yac, yji, yen, yho, ywh, ytj, yte, yst, ypl, ydn, yas, ywt, yun, yrs, yva, yha, ypa, ypi, yps, yso, ysv, yct⟩ := v
  obtain ⟨sc, jc', ⟨⟨⟨e1, e2, e3, e4⟩, e5, e6, e7, e8, e9, e10, e11, e12, e13, e14, e15, e16⟩, ⟨g1, g2, g3, g4⟩, hset, hprog, hjobs, hjas⟩, hf⟩ := H
  have hle := sg_jas_le hjas
  have ejc : jc = jc' := (nI_eq hc9 (by omega)).mp (hJ.1.symm.trans g3)
  subst ejc
  subst e1 e2 e3 e4 e5 e6 e7 e8 e9 e10 e11 e12 e13 e14 e15 e16 g1 g2 g3 g4
  obtain ⟨a, e, ha4, hac, he, hen, hlt, hhow⟩ := hjobs j hj
  obtain ⟨w, y, dl, fl, _, ⟨y1, y2, hy⟩, ⟨d1, hdl⟩, ⟨f1, hfl⟩⟩ := hset a ha4
  have skip : ¬ (xuw j = 1 ∧ xea j = nI t) → (xuw j = 0 ∨ xuw j = 1) → (yho j = 2 ∧ ywh j = nI t ↔ xuw j = 1 ∧ xea j = nI t) → ∃ u1 v1, (∀ (n : Nat) (P : SX → Prop), sg_XE n (nI (j + 1)) P u1 → sg_XE (n + 1) (nI j) P (nI sc, nI t, nI jc, nI (sg_cnt xen jc), xse, xki, xpp, xqq, xrr, xst, xfs, xin, xtb, xaj, xat, xsd, xja, xev, xva, xha, xps, xpa, xpi, xct, xsn, xsv, xtk, xac, xji, xou, xen, xuw, xra, xea, xtj, xte)) ∧ (∀ (n : Nat) (P : SY → Prop), sg_YE n (nI (j + 1)) P v1 → sg_YE (n + 1) (nI j) P (nI sc, nI t, nI jc, nI (sg_cnt xen jc), xse, yss, xac, xji, xen, yho, ywh, xtj, xte, xst, ypl, ydn, yas, ywt, yun, yrs, yva, yha, xpa, xpi, xps, yso, xsv, xct)) ∧ sg_R t u1 v1 ∧ sg_J jc u1 v1 := fun k1 k0 k2 => by
    refine ⟨_, _, fun n P h => ?_, fun n P h => ?_, H0, J0⟩
    · rcases k0 with k0 | k0
      · simp (disch := omega) only [sg_XE, wX_endDueAttempts_2, sg_leF, k0, sg_m3, sg_m3', sg_m4, sg_m4', sg_m6, sg_m6', sg_m7, sg_m7', sg_m200, sg_m200', nI_add, sg_a1, sg_a2, sg_a3, sg_a4, sg_a5, sg_a6, Int32.add_zero, sg_inT, nI_clamp, sg_lits, sg_mA, sg_mB, sg_mC, sg_mD, sg_mE, sg_mF, Int32.reduceLT, Int32.reduceLE, forall_eq, true_and, and_true, true_implies, false_implies, not_true_eq_false, not_false_eq_true, implies_true]
        exact h
      · have k3 : ¬ xea j = nI t := fun z => k1 ⟨k0, z⟩
        simp (disch := omega) only [sg_XE, wX_endDueAttempts_2, sg_leF, k0, k3, sg_m3, sg_m3', sg_m4, sg_m4', sg_m6, sg_m6', sg_m7, sg_m7', sg_m200, sg_m200', nI_add, sg_a1, sg_a2, sg_a3, sg_a4, sg_a5, sg_a6, Int32.add_zero, sg_inT, nI_clamp, sg_lits, sg_mA, sg_mB, sg_mC, sg_mD, sg_mE, sg_mF, Int32.reduceLT, Int32.reduceLE, forall_eq, true_and, and_true, true_implies, false_implies, not_true_eq_false, not_false_eq_true, implies_true]
        exact h
    · by_cases k4 : yho j = 2
      · have k3 : ¬ ywh j = nI t := fun z => k1 (k2.mp ⟨k4, z⟩)
        simp (disch := omega) only [sg_YE, wY_endAttempts_2, sg_leF, k4, k3, sg_m3, sg_m3', sg_m4, sg_m4', sg_m6, sg_m6', sg_m7, sg_m7', sg_m200, sg_m200', nI_add, sg_a1, sg_a2, sg_a3, sg_a4, sg_a5, sg_a6, Int32.add_zero, sg_inT, nI_clamp, sg_lits, sg_mA, sg_mB, sg_mC, sg_mD, sg_mE, sg_mF, Int32.reduceLT, Int32.reduceLE, forall_eq, true_and, and_true, true_implies, false_implies, not_true_eq_false, not_false_eq_true, implies_true]
        exact h
      · simp (disch := omega) only [sg_YE, wY_endAttempts_2, sg_leF, k4, sg_m3, sg_m3', sg_m4, sg_m4', sg_m6, sg_m6', sg_m7, sg_m7', sg_m200, sg_m200', nI_add, sg_a1, sg_a2, sg_a3, sg_a4, sg_a5, sg_a6, Int32.add_zero, sg_inT, nI_clamp, sg_lits, sg_mA, sg_mB, sg_mC, sg_mD, sg_mE, sg_mF, Int32.reduceLT, Int32.reduceLE, forall_eq, true_and, and_true, true_implies, false_implies, not_true_eq_false, not_false_eq_true, implies_true]
        exact h
  have c21 : ¬ (0 : Int32) = 2 := by decide
  have c22 : ¬ (1 : Int32) = 2 := by decide
  have c23 : ¬ (3 : Int32) = 2 := by decide
  have c24 : ¬ (4 : Int32) = 2 := by decide
  have c01 : ¬ (0 : Int32) = 1 := by decide
  rcases hhow with ⟨h1, h2, h3, h4⟩ | ⟨h1, h2, h3, h4, h5⟩ | ⟨h1, h2, h3, h4⟩ | ⟨h1, h2, h3⟩ | ⟨h1, h2, h3⟩
  · exact skip (by rw [h2]; exact fun z => c01 z.1) (Or.inl h2) (by rw [h2, h3]; exact ⟨fun z => absurd z.1 c21, fun z => absurd z.1 c01⟩)
  · exact skip (by rw [h2]; exact fun z => c01 z.1) (Or.inl h2) (by rw [h2, h3]; exact ⟨fun z => absurd z.1 c22, fun z => absurd z.1 c01⟩)
  · by_cases hea : xea j = nI t
    · have hwh : ywh j = nI t := h4.trans hea
      have hey : e < y := by
        have z := hlt h1
        rw [hy] at z
        exact (nI_ltI (by omega) (by omega)).mp z
      have hec := sg_cnt_lt xen jc j e hj hen (by omega) (sg_jobs_en hjobs)
      have hinc := sg_cnt_inc xen j e hen (by omega) jc hj
      have gec : nI (sg_cnt xen jc + 1) = nI (sg_cnt (upd xen j (nI (e + 1))) jc) := by rw [hinc]
      by_cases c1 : e + 1 ≤ fl
      · by_cases c2 : e + 1 < y
        · obtain ⟨rr, hrX⟩ : ∃ rr, nI t + (nI dl <<< ((nI (e + 1) - 1) &&& 31)) = rr := ⟨_, rfl⟩
          have hrY : nI t + nI dl * ((1 : Int32) <<< ((nI (e + 1) - 1) &&& 31)) = rr := by rw [← sg_shift dl (by omega) e (by omega)]; exact hrX
          refine ⟨(nI sc, nI t, nI jc, nI (sg_cnt xen jc + 1), xse, xki, xpp, xqq, xrr, xst, xfs, xin, xtb, xaj, xat, xsd, xja, xev, xva, xha, xps, xpa, xpi, xct, xsn, xsv, xtk, xac, xji, xou, upd xen j (nI (e + 1)), upd xuw j 0, upd xra j rr, xea, upd xtj (sg_cnt xen jc) (nI j), upd xte (sg_cnt xen jc) (nI t)), (nI sc, nI t, nI jc, nI (sg_cnt xen jc + 1), xse, yss, xac, xji, upd xen j (nI (e + 1)), upd yho j 0, upd ywh j rr, upd xtj (sg_cnt xen jc) (nI j), upd xte (sg_cnt xen jc) (nI t), xst, ypl, ydn, yas, ywt, yun, yrs, yva, yha, xpa, xpi, xps, yso, xsv, xct), fun n P h => ?_, fun n P h => ?_, ⟨sc, jc, ⟨⟨⟨rfl, rfl, rfl, rfl⟩, rfl, rfl, rfl, rfl, rfl, rfl, rfl, rfl, rfl, rfl, rfl, rfl⟩, ⟨rfl, rfl, rfl, gec⟩, hset, hprog, sg_jobs_upd (j := j) hjobs (fun m hm => ⟨pk_un hm, rfl, pk_un hm, pk_un hm, rfl, pk_un hm, pk_un hm⟩) (fun a' e' q1 q2 q3 q4 q5 => ?_), hjas⟩, hf⟩, ⟨rfl, rfl⟩⟩
          · simp (disch := omega) only [sg_XE, wX_endDueAttempts_2, wpX_endAttempt, sg_leF, sg_leT, sg_ltT, h2, hea, hac, hen, hfl, hy, hdl, hrX, pk_us, sg_b0, sg_m3, sg_m3', sg_m4, sg_m4', sg_m6, sg_m6', sg_m7, sg_m7', sg_m200, sg_m200', nI_add, sg_a1, sg_a2, sg_a3, sg_a4, sg_a5, sg_a6, Int32.add_zero, sg_inT, nI_clamp, sg_lits, sg_mA, sg_mB, sg_mC, sg_mD, sg_mE, sg_mF, Int32.reduceLT, Int32.reduceLE, forall_eq, true_and, and_true, true_implies, false_implies, not_true_eq_false, not_false_eq_true, implies_true]
            exact h
          · simp (disch := omega) only [sg_YE, wY_endAttempts_2, wY_endAttempts_105, wY_endAttempts_136, wpY_setting, sg_leF, sg_leT, sg_eqF, h3, hwh, hac, hen, hfl, hy, hdl, hrY, pk_us, sg_m3, sg_m3', sg_m4, sg_m4', sg_m6, sg_m6', sg_m7, sg_m7', sg_m200, sg_m200', nI_add, sg_a1, sg_a2, sg_a3, sg_a4, sg_a5, sg_a6, Int32.add_zero, sg_inT, nI_clamp, sg_lits, sg_mA, sg_mB, sg_mC, sg_mD, sg_mE, sg_mF, Int32.reduceLT, Int32.reduceLE, forall_eq, true_and, and_true, true_implies, false_implies, not_true_eq_false, not_false_eq_true, implies_true]
            exact h
          · have ea : a' = a := (nI_eq (by omega) (by omega)).mp (q2.symm.trans hac)
            subst ea
            refine ⟨e + 1, by omega, pk_us, fun _ => ?_, Or.inl ⟨h1, pk_us, pk_us, by rw [pk_us, pk_us]⟩⟩
            rw [hy]
            exact nI_lt c2 (by omega)
        · have ey : y = e + 1 := by omega
          subst ey
          refine ⟨(nI sc, nI t, nI jc, nI (sg_cnt xen jc + 1), xse, xki, xpp, xqq, xrr, xst, xfs, xin, xtb, xaj, xat, xsd, xja, xev, xva, xha, xps, xpa, xpi, xct, xsn, xsv, xtk, xac, xji, upd xou j 0, upd xen j (nI (e + 1)), upd xuw j 0, xra, xea, upd xtj (sg_cnt xen jc) (nI j), upd xte (sg_cnt xen jc) (nI t)), (nI sc, nI t, nI jc, nI (sg_cnt xen jc + 1), xse, yss, xac, xji, upd xen j (nI (e + 1)), upd yho j 4, upd ywh j (nI t), upd xtj (sg_cnt xen jc) (nI j), upd xte (sg_cnt xen jc) (nI t), xst, ypl, ydn, yas, ywt, yun, yrs, yva, yha, xpa, xpi, xps, yso, xsv, xct), fun n P h => ?_, fun n P h => ?_, ⟨sc, jc, ⟨⟨⟨rfl, rfl, rfl, rfl⟩, rfl, rfl, rfl, rfl, rfl, rfl, rfl, rfl, rfl, rfl, rfl, rfl⟩, ⟨rfl, rfl, rfl, gec⟩, hset, hprog, sg_jobs_upd (j := j) hjobs (fun m hm => ⟨pk_un hm, pk_un hm, pk_un hm, rfl, rfl, pk_un hm, pk_un hm⟩) (fun a' e' q1 q2 q3 q4 q5 => ⟨e + 1, by omega, pk_us, fun z => absurd (pk_us.symm.trans z) (by decide), Or.inr (Or.inr (Or.inr (Or.inr ⟨pk_us, pk_us, pk_us⟩)))⟩), hjas⟩, hf⟩, ⟨rfl, rfl⟩⟩
          · simp (disch := omega) only [sg_XE, wX_endDueAttempts_2, wpX_endAttempt, sg_leF, sg_leT, sg_ltF, h2, hea, hac, hen, hfl, hy, pk_us, sg_b0, sg_m3, sg_m3', sg_m4, sg_m4', sg_m6, sg_m6', sg_m7, sg_m7', sg_m200, sg_m200', nI_add, sg_a1, sg_a2, sg_a3, sg_a4, sg_a5, sg_a6, Int32.add_zero, sg_inT, nI_clamp, sg_lits, sg_mA, sg_mB, sg_mC, sg_mD, sg_mE, sg_mF, Int32.reduceLT, Int32.reduceLE, forall_eq, true_and, and_true, true_implies, false_implies, not_true_eq_false, not_false_eq_true, implies_true]
            exact h
          · simp (disch := omega) only [sg_YE, wY_endAttempts_2, wY_endAttempts_105, wY_endAttempts_136, wpY_setting, sg_leF, sg_leT, h3, hwh, hac, hen, hfl, hy, pk_us, sg_m3, sg_m3', sg_m4, sg_m4', sg_m6, sg_m6', sg_m7, sg_m7', sg_m200, sg_m200', nI_add, sg_a1, sg_a2, sg_a3, sg_a4, sg_a5, sg_a6, Int32.add_zero, sg_inT, nI_clamp, sg_lits, sg_mA, sg_mB, sg_mC, sg_mD, sg_mE, sg_mF, Int32.reduceLT, Int32.reduceLE, forall_eq, true_and, and_true, true_implies, false_implies, not_true_eq_false, not_false_eq_true, implies_true]
            exact h
      · refine ⟨(nI sc, nI t, nI jc, nI (sg_cnt xen jc + 1), xse, xki, xpp, xqq, xrr, xst, xfs, xin, xtb, xaj, xat, xsd, xja, xev, xva, xha, xps, xpa, xpi, xct, xsn, xsv, xtk, xac, xji, upd xou j 1, upd xen j (nI (e + 1)), upd xuw j 0, xra, xea, upd xtj (sg_cnt xen jc) (nI j), upd xte (sg_cnt xen jc) (nI t)), (nI sc, nI t, nI jc, nI (sg_cnt xen jc + 1), xse, yss, xac, xji, upd xen j (nI (e + 1)), upd yho j 3, upd ywh j (nI t), upd xtj (sg_cnt xen jc) (nI j), upd xte (sg_cnt xen jc) (nI t), xst, ypl, ydn, yas, ywt, yun, yrs, yva, yha, xpa, xpi, xps, yso, xsv, xct), fun n P h => ?_, fun n P h => ?_, ⟨sc, jc, ⟨⟨⟨rfl, rfl, rfl, rfl⟩, rfl, rfl, rfl, rfl, rfl, rfl, rfl, rfl, rfl, rfl, rfl, rfl⟩, ⟨rfl, rfl, rfl, gec⟩, hset, hprog, sg_jobs_upd (j := j) hjobs (fun m hm => ⟨pk_un hm, pk_un hm, pk_un hm, rfl, rfl, pk_un hm, pk_un hm⟩) (fun a' e' q1 q2 q3 q4 q5 => ⟨e + 1, by omega, pk_us, fun z => absurd (pk_us.symm.trans z) (by decide), Or.inr (Or.inr (Or.inr (Or.inl ⟨pk_us, pk_us, pk_us⟩)))⟩), hjas⟩, hf⟩, ⟨rfl, rfl⟩⟩
        · simp (disch := omega) only [sg_XE, wX_endDueAttempts_2, wpX_endAttempt, sg_leF, h2, hea, hac, hen, hfl, pk_us, sg_b0, sg_m3, sg_m3', sg_m4, sg_m4', sg_m6, sg_m6', sg_m7, sg_m7', sg_m200, sg_m200', nI_add, sg_a1, sg_a2, sg_a3, sg_a4, sg_a5, sg_a6, Int32.add_zero, sg_inT, nI_clamp, sg_lits, sg_mA, sg_mB, sg_mC, sg_mD, sg_mE, sg_mF, Int32.reduceLT, Int32.reduceLE, forall_eq, true_and, and_true, true_implies, false_implies, not_true_eq_false, not_false_eq_true, implies_true]
          exact h
        · simp (disch := omega) only [sg_YE, wY_endAttempts_2, wY_endAttempts_105, wY_endAttempts_136, wpY_setting, sg_leF, h3, hwh, hac, hen, hfl, pk_us, sg_m3, sg_m3', sg_m4, sg_m4', sg_m6, sg_m6', sg_m7, sg_m7', sg_m200, sg_m200', nI_add, sg_a1, sg_a2, sg_a3, sg_a4, sg_a5, sg_a6, Int32.add_zero, sg_inT, nI_clamp, sg_lits, sg_mA, sg_mB, sg_mC, sg_mD, sg_mE, sg_mF, Int32.reduceLT, Int32.reduceLE, forall_eq, true_and, and_true, true_implies, false_implies, not_true_eq_false, not_false_eq_true, implies_true]
          exact h
    · exact skip (fun z => hea z.2) (Or.inr h2) ⟨fun z => absurd (h4.symm.trans z.2) hea, fun z => absurd z.2 hea⟩
  · exact skip (by rw [h2]; exact fun z => c01 z.1) (Or.inl h2) (by rw [h2, h3]; exact ⟨fun z => absurd z.1 c23, fun z => absurd z.1 c01⟩)
  · exact skip (by rw [h2]; exact fun z => c01 z.1) (Or.inl h2) (by rw [h2, h3]; exact ⟨fun z => absurd z.1 c24, fun z => absurd z.1 c01⟩)
theorem sg_endl {t jc : Nat} (hc9 : jc < 2 ^ 31) : ∀ (k j : Nat) (u : SX) (v : SY), j + k = jc → sg_R t u v → sg_J jc u v → ∃ u1 v1, (∀ P : SX → Prop, P u1 → sg_XE (k + 1) (nI j) P u) ∧ (∀ P : SY → Prop, P v1 → sg_YE (k + 1) (nI j) P v) ∧ sg_R t u1 v1 := by
  intro k
  induction k with
  | zero =>
    intro j u v hj H hJ
    refine ⟨u, v, fun P h => ?_, fun P h => ?_, H⟩
    · obtain ⟨xsc, xnow, xjc, xec, xse, xki, xpp, xqq, xrr, xst, xfs, xin, xtb, xaj, xat, xsd, xja, xev, xva, xha, xps, xpa, xpi, xct, xsn, xsv, xtk, xac, xji, xou, xen, xuw, xra, xea, xtj, xte⟩ := u
      obtain ⟨ysc, ynow, yjc, yec, yse, yss, yac, yji, yen, yho, ywh, ytj, yte, yst, ypl, ydn, yas, ywt, yun, yrs, yva, yha, ypa, ypi, yps, yso, ysv, yct⟩ := v
      have e1 : xjc = nI jc := hJ.1
      subst e1
      simp (disch := omega) only [sg_XE, wX_endDueAttempts_2, sg_leT, forall_eq, true_and, and_true, true_implies, false_implies, not_true_eq_false, not_false_eq_true, implies_true]
      exact h
    · obtain ⟨xsc, xnow, xjc, xec, xse, xki, xpp, xqq, xrr, xst, xfs, xin, xtb, xaj, xat, xsd, xja, xev, xva, xha, xps, xpa, xpi, xct, xsn, xsv, xtk, xac, xji, xou, xen, xuw, xra, xea, xtj, xte⟩ := u
      obtain ⟨ysc, ynow, yjc, yec, yse, yss, yac, yji, yen, yho, ywh, ytj, yte, yst, ypl, ydn, yas, ywt, yun, yrs, yva, yha, ypa, ypi, yps, yso, ysv, yct⟩ := v
      have e1 : yjc = nI jc := hJ.2
      subst e1
      simp (disch := omega) only [sg_YE, wY_endAttempts_2, sg_leT, forall_eq, true_and, and_true, true_implies, false_implies, not_true_eq_false, not_false_eq_true, implies_true]
      exact h
  | succ k ih =>
    intro j u v hj H hJ
    obtain ⟨u1, v1, a1, a2, a3, a4⟩ := sg_endone (j := j) H hJ hc9 (by omega)
    obtain ⟨u2, v2, b1, b2, b3⟩ := ih (j + 1) u1 v1 (by omega) a3 a4
    exact ⟨u2, v2, fun P h => a1 _ P (b1 P h), fun P h => a2 _ P (b2 P h), b3⟩
theorem sg_ends {t : Nat} {u : SX} {v : SY} (H : sg_R t u v) : ∃ u1 v1, (∀ P : SX → Prop, P u1 → wpX_endDueAttempts P u) ∧ (∀ P : SY → Prop, P v1 → wpY_endAttempts P v) ∧ sg_R t u1 v1 := by
  have hJ : ∃ jc, jc < 2 ^ 31 ∧ sg_J jc u v := by
    obtain ⟨xsc, xnow, xjc, xec, xse, xki, xpp, xqq, xrr, xst, xfs, xin, xtb, xaj, xat, xsd, xja, xev, xva, xha, xps, xpa, xpi, xct, xsn, xsv, xtk, xac, xji, xou, xen, xuw, xra, xea, xtj, xte⟩ := u
    obtain ⟨ysc, ynow, yjc, yec, yse, yss, yac, yji, yen, yho, ywh, ytj, yte, yst, ypl, ydn, yas, ywt, yun, yrs, yva, yha, ypa, ypi, yps, yso, ysv, yct⟩ := v
    obtain ⟨sc, jc, ⟨⟨⟨e1, e2, e3, e4⟩, e5, e6, e7, e8, e9, e10, e11, e12, e13, e14, e15, e16⟩, ⟨g1, g2, g3, g4⟩, hset, hprog, hjobs, hjas⟩, hf⟩ := H
    have := sg_jas_le hjas
    exact ⟨jc, by omega, g3, e3.symm.trans g3⟩
  obtain ⟨jc, h1, h2⟩ := hJ
  obtain ⟨u1, v1, a1, a2, a3⟩ := sg_endl h1 jc 0 u v (by omega) H h2
  refine ⟨u1, v1, fun P h => ?_, fun P h => ?_, a3⟩
  · have z := a1 P h
    obtain ⟨xsc, xnow, xjc, xec, xse, xki, xpp, xqq, xrr, xst, xfs, xin, xtb, xaj, xat, xsd, xja, xev, xva, xha, xps, xpa, xpi, xct, xsn, xsv, xtk, xac, xji, xou, xen, xuw, xra, xea, xtj, xte⟩ := u
    exact ⟨_, z⟩
  · have z := a2 P h
    obtain ⟨ysc, ynow, yjc, yec, yse, yss, yac, yji, yen, yho, ywh, ytj, yte, yst, ypl, ydn, yas, ywt, yun, yrs, yva, yha, ypa, ypi, yps, yso, ysv, yct⟩ := v
    exact ⟨_, z⟩
end
section
section
variable {xsc xnow xjc xec : Int32} {xse xki xpp xqq xrr xst xfs xin xtb xaj xat xsd xja xev xva xha xps xpa xpi xct xsn xsv xtk xac xji xou xen xuw xra xea xtj xte : Nat → Int32} {ysc ynow yjc yec : Int32} {yse yss yac yji yen yho ywh ytj yte yst ypl ydn yas ywt yun yrs yva yha ypa ypi yps yso ysv yct : Nat → Int32} {t jc : Nat}
theorem sg_rdy1 {j : Nat} (hj : j < 90) (h1 : xou j = -1) (h2 : xuw j = 0) (h3 : xra j ≤ nI t) {P : Int32 → Prop} (hp : P 1) : wpX_isReady P (xsc, nI t, xjc, xec, xse, xki, xpp, xqq, xrr, xst, xfs, xin, xtb, xaj, xat, xsd, xja, xev, xva, xha, xps, xpa, xpi, xct, xsn, xsv, xtk, xac, xji, xou, xen, xuw, xra, xea, xtj, xte) (nI j) := by
  have h4 : ¬ nI t < xra j := Int32.not_lt.mpr h3
  simp (disch := omega) only [wpX_isReady, h1, h2, h4, sg_m3, sg_m3', sg_m4, sg_m4', sg_m6, sg_m6', sg_m7, sg_m7', sg_m200, sg_m200', nI_add, sg_a1, sg_a2, sg_a3, sg_a4, sg_a5, sg_a6, Int32.add_zero, sg_inT, nI_clamp, sg_lits, sg_mA, sg_mB, sg_mC, sg_mD, sg_mE, sg_mF, Int32.reduceLT, Int32.reduceLE, forall_eq, true_and, and_true, true_implies, false_implies, not_true_eq_false, not_false_eq_true, implies_true]
  exact hp
theorem sg_rdy0 {j : Nat} {ea ho wh : Int32} (hj : j < 90) (hh : sg_how t (xou j) (xuw j) (xra j) ea ho wh) (h1 : ¬ ho = 1) (hl : ho = 0 → ¬ xra j ≤ nI t) {P : Int32 → Prop} (hp : P 0) : wpX_isReady P (xsc, nI t, xjc, xec, xse, xki, xpp, xqq, xrr, xst, xfs, xin, xtb, xaj, xat, xsd, xja, xev, xva, xha, xps, xpa, xpi, xct, xsn, xsv, xtk, xac, xji, xou, xen, xuw, xra, xea, xtj, xte) (nI j) := by
  rcases hh with ⟨k1, k2, k3, k4⟩ | ⟨k1, k2, k3, k4, k5⟩ | ⟨k1, k2, k3, k4⟩ | ⟨k1, k2, k3⟩ | ⟨k1, k2, k3⟩
  · have h4 : nI t < xra j := Int32.not_le.mp (hl k3)
    simp (disch := omega) only [wpX_isReady, k1, k2, h4, sg_m3, sg_m3', sg_m4, sg_m4', sg_m6, sg_m6', sg_m7, sg_m7', sg_m200, sg_m200', nI_add, sg_a1, sg_a2, sg_a3, sg_a4, sg_a5, sg_a6, Int32.add_zero, sg_inT, nI_clamp, sg_lits, sg_mA, sg_mB, sg_mC, sg_mD, sg_mE, sg_mF, Int32.reduceLT, Int32.reduceLE, forall_eq, true_and, and_true, true_implies, false_implies, not_true_eq_false, not_false_eq_true, implies_true]
    exact hp
  · exact absurd k3 h1
  · simp (disch := omega) only [wpX_isReady, k1, k2, sg_m3, sg_m3', sg_m4, sg_m4', sg_m6, sg_m6', sg_m7, sg_m7', sg_m200, sg_m200', nI_add, sg_a1, sg_a2, sg_a3, sg_a4, sg_a5, sg_a6, Int32.add_zero, sg_inT, nI_clamp, sg_lits, sg_mA, sg_mB, sg_mC, sg_mD, sg_mE, sg_mF, Int32.reduceLT, Int32.reduceLE, forall_eq, true_and, and_true, true_implies, false_implies, not_true_eq_false, not_false_eq_true, implies_true]
    exact hp
  · simp (disch := omega) only [wpX_isReady, k1, k2, sg_m3, sg_m3', sg_m4, sg_m4', sg_m6, sg_m6', sg_m7, sg_m7', sg_m200, sg_m200', nI_add, sg_a1, sg_a2, sg_a3, sg_a4, sg_a5, sg_a6, Int32.add_zero, sg_inT, nI_clamp, sg_lits, sg_mA, sg_mB, sg_mC, sg_mD, sg_mE, sg_mF, Int32.reduceLT, Int32.reduceLE, forall_eq, true_and, and_true, true_implies, false_implies, not_true_eq_false, not_false_eq_true, implies_true]
    exact hp
  · simp (disch := omega) only [wpX_isReady, k1, k2, sg_m3, sg_m3', sg_m4, sg_m4', sg_m6, sg_m6', sg_m7, sg_m7', sg_m200, sg_m200', nI_add, sg_a1, sg_a2, sg_a3, sg_a4, sg_a5, sg_a6, Int32.add_zero, sg_inT, nI_clamp, sg_lits, sg_mA, sg_mB, sg_mC, sg_mD, sg_mE, sg_mF, Int32.reduceLT, Int32.reduceLE, forall_eq, true_and, and_true, true_implies, false_implies, not_true_eq_false, not_false_eq_true, implies_true]
    exact hp
theorem sg_frl {a : Nat} (ha : a < 4) (hc : jc ≤ 90) (hjobs : sg_jobs t jc xse xac xen xou xuw xra xea yho ywh) (hl : ∀ m, m < jc → yho m = 0 → ¬ xra m ≤ nI t) : ∀ (k j N : Nat) (bs : Int32), j + k = jc → k < N → (bs = -1 ∨ ∃ b, b < jc ∧ bs = nI b ∧ xac b = nI a ∧ yho b = 1) → ∃ r, (r = -1 ∨ ∃ b, b < jc ∧ r = nI b ∧ xac b = nI a ∧ yho b = 1) ∧ (∀ P : Int32 → Prop, P r → wX_firstReady_4 P (nI a) xsc (nI t) (nI jc) xec xse xki xpp xqq xrr xst xfs xin xtb xaj xat xsd xja xev xva xha xps xpa xpi xct xsn xsv xtk xac xji xou xen xuw xra xea xtj xte N bs (nI j)) ∧ (∀ P : Int32 → Prop, P r → wY_firstReady_4 P (nI a) xsc (nI t) (nI jc) xec xse yss xac xji xen yho ywh xtj xte xst ypl ydn yas ywt yun yrs yva yha xpa xpi xps yso xsv xct N bs (nI j)) := by
  intro k
  induction k with
  | zero =>
    intro j N bs hj hN hbs
    obtain ⟨N, rfl⟩ : ∃ n, N = n + 1 := ⟨N - 1, by omega⟩
    refine ⟨bs, hbs, fun P h => ?_, fun P h => ?_⟩
    · simp (disch := omega) only [wX_firstReady_4, sg_leT, forall_eq, true_and, and_true, true_implies, false_implies, not_true_eq_false, not_false_eq_true, implies_true]
      exact h
    · simp (disch := omega) only [wY_firstReady_4, sg_leT, forall_eq, true_and, and_true, true_implies, false_implies, not_true_eq_false, not_false_eq_true, implies_true]
      exact h
  | succ k ih =>
    intro j N bs hj hN hbs
    obtain ⟨N, rfl⟩ : ∃ n, N = n + 1 := ⟨N - 1, by omega⟩
    obtain ⟨a', e, ha4, hac, he, hen, hlt, hhow⟩ := hjobs j (by omega)
    by_cases c1 : xac j = nI a
    · by_cases c2 : yho j = 1
      · obtain ⟨k1, k2, k4, k5⟩ : xou j = -1 ∧ xuw j = 0 ∧ ywh j = xra j ∧ xra j ≤ nI t := by
          rcases hhow with ⟨k1, k2, k3, k4⟩ | ⟨k1, k2, k3, k4, k5⟩ | ⟨k1, k2, k3, k4⟩ | ⟨k1, k2, k3⟩ | ⟨k1, k2, k3⟩
          · exact absurd (k3.symm.trans c2) (by decide)
          · exact ⟨k1, k2, k4, k5⟩
          · exact absurd (k3.symm.trans c2) (by decide)
          · exact absurd (k3.symm.trans c2) (by decide)
          · exact absurd (k3.symm.trans c2) (by decide)
        rcases hbs with hbs | ⟨b, hb, hbs, hba, hbh⟩
        · obtain ⟨r, r1, r2, r3⟩ := ih (j + 1) N (nI j) (by omega) (by omega) (Or.inr ⟨j, by omega, rfl, c1, c2⟩)
          refine ⟨r, r1, fun P h => ?_, fun P h => ?_⟩
          · simp (disch := omega) only [wX_firstReady_4, sg_leF, c1, hbs, sg_m3, sg_m3', sg_m4, sg_m4', sg_m6, sg_m6', sg_m7, sg_m7', sg_m200, sg_m200', nI_add, sg_a1, sg_a2, sg_a3, sg_a4, sg_a5, sg_a6, Int32.add_zero, sg_inT, nI_clamp, sg_lits, sg_mA, sg_mB, sg_mC, sg_mD, sg_mE, sg_mF, Int32.reduceLT, Int32.reduceLE, forall_eq, true_and, and_true, true_implies, false_implies, not_true_eq_false, not_false_eq_true, implies_true]
            refine sg_rdy1 (by omega) k1 k2 k5 ?_
            simp only [sg_lits, sg_mA, sg_mB, sg_mC, sg_mD, sg_mE, sg_mF, Int32.reduceLT, Int32.reduceLE, forall_eq, true_and, and_true, true_implies, false_implies, not_true_eq_false, not_false_eq_true, implies_true]
            exact r2 P h
          · simp (disch := omega) only [wY_firstReady_4, wY_firstReady_37, sg_leF, c1, c2, hbs, sg_m3, sg_m3', sg_m4, sg_m4', sg_m6, sg_m6', sg_m7, sg_m7', sg_m200, sg_m200', nI_add, sg_a1, sg_a2, sg_a3, sg_a4, sg_a5, sg_a6, Int32.add_zero, sg_inT, nI_clamp, sg_lits, sg_mA, sg_mB, sg_mC, sg_mD, sg_mE, sg_mF, Int32.reduceLT, Int32.reduceLE, forall_eq, true_and, and_true, true_implies, false_implies, not_true_eq_false, not_false_eq_true, implies_true]
            exact r3 P h
        · obtain ⟨_, _, _, _, _, _, _, bhow⟩ := hjobs b hb
          have bw : ywh b = xra b := by
            rcases bhow with ⟨k1, k2, k3, k4⟩ | ⟨k1, k2, k3, k4, k5⟩ | ⟨k1, k2, k3, k4⟩ | ⟨k1, k2, k3⟩ | ⟨k1, k2, k3⟩
            · exact k4
            · exact k4
            · exact absurd (k3.symm.trans hbh) (by decide)
            · exact absurd (k3.symm.trans hbh) (by decide)
            · exact absurd (k3.symm.trans hbh) (by decide)
          by_cases c3 : xra b ≤ xra j
          · obtain ⟨r, r1, r2, r3⟩ := ih (j + 1) N bs (by omega) (by omega) (Or.inr ⟨b, hb, hbs, hba, hbh⟩)
            rw [hbs] at r2 r3
            refine ⟨r, r1, fun P h => ?_, fun P h => ?_⟩
            · simp (disch := omega) only [wX_firstReady_4, sg_leF, c1, hbs, sg_nm1, c3, sg_m3, sg_m3', sg_m4, sg_m4', sg_m6, sg_m6', sg_m7, sg_m7', sg_m200, sg_m200', nI_add, sg_a1, sg_a2, sg_a3, sg_a4, sg_a5, sg_a6, Int32.add_zero, sg_inT, nI_clamp, sg_lits, sg_mA, sg_mB, sg_mC, sg_mD, sg_mE, sg_mF, Int32.reduceLT, Int32.reduceLE, forall_eq, true_and, and_true, true_implies, false_implies, not_true_eq_false, not_false_eq_true, implies_true]
              refine sg_rdy1 (by omega) k1 k2 k5 ?_
              simp only [sg_lits, sg_mA, sg_mB, sg_mC, sg_mD, sg_mE, sg_mF, Int32.reduceLT, Int32.reduceLE, forall_eq, true_and, and_true, true_implies, false_implies, not_true_eq_false, not_false_eq_true, implies_true]
              exact r2 P h
            · simp (disch := omega) only [wY_firstReady_4, wY_firstReady_37, sg_leF, c1, c2, hbs, sg_neg, bw, k4, c3, sg_m3, sg_m3', sg_m4, sg_m4', sg_m6, sg_m6', sg_m7, sg_m7', sg_m200, sg_m200', nI_add, sg_a1, sg_a2, sg_a3, sg_a4, sg_a5, sg_a6, Int32.add_zero, sg_inT, nI_clamp, sg_lits, sg_mA, sg_mB, sg_mC, sg_mD, sg_mE, sg_mF, Int32.reduceLT, Int32.reduceLE, forall_eq, true_and, and_true, true_implies, false_implies, not_true_eq_false, not_false_eq_true, implies_true]
              exact r3 P h
          · obtain ⟨r, r1, r2, r3⟩ := ih (j + 1) N (nI j) (by omega) (by omega) (Or.inr ⟨j, by omega, rfl, c1, c2⟩)
            refine ⟨r, r1, fun P h => ?_, fun P h => ?_⟩
            · simp (disch := omega) only [wX_firstReady_4, sg_leF, c1, hbs, sg_nm1, c3, sg_m3, sg_m3', sg_m4, sg_m4', sg_m6, sg_m6', sg_m7, sg_m7', sg_m200, sg_m200', nI_add, sg_a1, sg_a2, sg_a3, sg_a4, sg_a5, sg_a6, Int32.add_zero, sg_inT, nI_clamp, sg_lits, sg_mA, sg_mB, sg_mC, sg_mD, sg_mE, sg_mF, Int32.reduceLT, Int32.reduceLE, forall_eq, true_and, and_true, true_implies, false_implies, not_true_eq_false, not_false_eq_true, implies_true]
              refine sg_rdy1 (by omega) k1 k2 k5 ?_
              simp only [sg_lits, sg_mA, sg_mB, sg_mC, sg_mD, sg_mE, sg_mF, Int32.reduceLT, Int32.reduceLE, forall_eq, true_and, and_true, true_implies, false_implies, not_true_eq_false, not_false_eq_true, implies_true]
              exact r2 P h
            · simp (disch := omega) only [wY_firstReady_4, wY_firstReady_37, sg_leF, c1, c2, hbs, sg_neg, bw, k4, c3, sg_m3, sg_m3', sg_m4, sg_m4', sg_m6, sg_m6', sg_m7, sg_m7', sg_m200, sg_m200', nI_add, sg_a1, sg_a2, sg_a3, sg_a4, sg_a5, sg_a6, Int32.add_zero, sg_inT, nI_clamp, sg_lits, sg_mA, sg_mB, sg_mC, sg_mD, sg_mE, sg_mF, Int32.reduceLT, Int32.reduceLE, forall_eq, true_and, and_true, true_implies, false_implies, not_true_eq_false, not_false_eq_true, implies_true]
              exact r3 P h
      · obtain ⟨r, r1, r2, r3⟩ := ih (j + 1) N bs (by omega) (by omega) hbs
        refine ⟨r, r1, fun P h => ?_, fun P h => ?_⟩
        · simp (disch := omega) only [wX_firstReady_4, sg_leF, c1, sg_m3, sg_m3', sg_m4, sg_m4', sg_m6, sg_m6', sg_m7, sg_m7', sg_m200, sg_m200', nI_add, sg_a1, sg_a2, sg_a3, sg_a4, sg_a5, sg_a6, Int32.add_zero, sg_inT, nI_clamp, sg_lits, sg_mA, sg_mB, sg_mC, sg_mD, sg_mE, sg_mF, Int32.reduceLT, Int32.reduceLE, forall_eq, true_and, and_true, true_implies, false_implies, not_true_eq_false, not_false_eq_true, implies_true]
          refine sg_rdy0 (by omega) hhow c2 (hl j (by omega)) ?_
          simp only [sg_lits, sg_mA, sg_mB, sg_mC, sg_mD, sg_mE, sg_mF, Int32.reduceLT, Int32.reduceLE, forall_eq, true_and, and_true, true_implies, false_implies, not_true_eq_false, not_false_eq_true, implies_true]
          exact r2 P h
        · simp (disch := omega) only [wY_firstReady_4, wY_firstReady_37, wY_firstReady_36, sg_leF, c1, c2, sg_m3, sg_m3', sg_m4, sg_m4', sg_m6, sg_m6', sg_m7, sg_m7', sg_m200, sg_m200', nI_add, sg_a1, sg_a2, sg_a3, sg_a4, sg_a5, sg_a6, Int32.add_zero, sg_inT, nI_clamp, sg_lits, sg_mA, sg_mB, sg_mC, sg_mD, sg_mE, sg_mF, Int32.reduceLT, Int32.reduceLE, forall_eq, true_and, and_true, true_implies, false_implies, not_true_eq_false, not_false_eq_true, implies_true]
          exact r3 P h
    · obtain ⟨r, r1, r2, r3⟩ := ih (j + 1) N bs (by omega) (by omega) hbs
      refine ⟨r, r1, fun P h => ?_, fun P h => ?_⟩
      · simp (disch := omega) only [wX_firstReady_4, sg_leF, c1, sg_m3, sg_m3', sg_m4, sg_m4', sg_m6, sg_m6', sg_m7, sg_m7', sg_m200, sg_m200', nI_add, sg_a1, sg_a2, sg_a3, sg_a4, sg_a5, sg_a6, Int32.add_zero, sg_inT, nI_clamp, sg_lits, sg_mA, sg_mB, sg_mC, sg_mD, sg_mE, sg_mF, Int32.reduceLT, Int32.reduceLE, forall_eq, true_and, and_true, true_implies, false_implies, not_true_eq_false, not_false_eq_true, implies_true]
        exact r2 P h
      · simp (disch := omega) only [wY_firstReady_4, wY_firstReady_37, wY_firstReady_36, sg_leF, c1, sg_m3, sg_m3', sg_m4, sg_m4', sg_m6, sg_m6', sg_m7, sg_m7', sg_m200, sg_m200', nI_add, sg_a1, sg_a2, sg_a3, sg_a4, sg_a5, sg_a6, Int32.add_zero, sg_inT, nI_clamp, sg_lits, sg_mA, sg_mB, sg_mC, sg_mD, sg_mE, sg_mF, Int32.reduceLT, Int32.reduceLE, forall_eq, true_and, and_true, true_implies, false_implies, not_true_eq_false, not_false_eq_true, implies_true]
        exact r3 P h
theorem sg_fr {a : Nat} (ha : a < 4) (hc : jc ≤ 90) (hjobs : sg_jobs t jc xse xac xen xou xuw xra xea yho ywh) (hl : ∀ m, m < jc → yho m = 0 → ¬ xra m ≤ nI t) : ∃ r, (r = -1 ∨ ∃ b, b < jc ∧ r = nI b ∧ xac b = nI a ∧ yho b = 1) ∧ (∀ P : Int32 → Prop, P r → wpX_firstReady P (xsc, nI t, nI jc, xec, xse, xki, xpp, xqq, xrr, xst, xfs, xin, xtb, xaj, xat, xsd, xja, xev, xva, xha, xps, xpa, xpi, xct, xsn, xsv, xtk, xac, xji, xou, xen, xuw, xra, xea, xtj, xte) (nI a)) ∧ (∀ P : Int32 → Prop, P r → wpY_firstReady P (xsc, nI t, nI jc, xec, xse, yss, xac, xji, xen, yho, ywh, xtj, xte, xst, ypl, ydn, yas, ywt, yun, yrs, yva, yha, xpa, xpi, xps, yso, xsv, xct) (nI a)) := by
  obtain ⟨r, r1, r2, r3⟩ := sg_frl (xsc := xsc) (xec := xec) (xki := xki) (xpp := xpp) (xqq := xqq) (xrr := xrr) (xst := xst) (xfs := xfs) (xin := xin) (xtb := xtb) (xaj := xaj) (xat := xat) (xsd := xsd) (xja := xja) (xev := xev) (xva := xva) (xha := xha) (xps := xps) (xpa := xpa) (xpi := xpi) (xct := xct) (xsn := xsn) (xsv := xsv) (xtk := xtk) (xji := xji) (xtj := xtj) (xte := xte) (yss := yss) (ypl := ypl) (ydn := ydn) (yas := yas) (ywt := ywt) (yun := yun) (yrs := yrs) (yva := yva) (yha := yha) (yso := yso) ha hc hjobs hl jc 0 (jc + 1) (-1) (by omega) (by omega) (Or.inl rfl)
  exact ⟨r, r1, fun P h => ⟨jc + 1, r2 P h⟩, fun P h => ⟨jc + 1, r3 P h⟩⟩
theorem sg_freel {a : Nat} (ha : a < 4) (hc : jc ≤ 90) (hjobs : sg_jobs t jc xse xac xen xou xuw xra xea yho ywh) : ∀ (k j N : Nat) (ac : Int32), j + k = jc → k < N → ∃ r, (∀ P : Int32 → Prop, P r → wX_freeWorkers_14 P (nI a) xsc (nI t) (nI jc) xec xse xki xpp xqq xrr xst xfs xin xtb xaj xat xsd xja xev xva xha xps xpa xpi xct xsn xsv xtk xac xji xou xen xuw xra xea xtj xte N ac (nI j)) ∧ (∀ P : Int32 → Prop, P r → wY_free_9 P (nI a) xsc (nI t) (nI jc) xec xse yss xac xji xen yho ywh xtj xte xst ypl ydn yas ywt yun yrs yva yha xpa xpi xps yso xsv xct N ac (nI j)) := by
  intro k
  induction k with
  | zero =>
    intro j N ac hj hN
    obtain ⟨N, rfl⟩ : ∃ n, N = n + 1 := ⟨N - 1, by omega⟩
    refine ⟨ac, fun P h => ?_, fun P h => ?_⟩
    · simp (disch := omega) only [wX_freeWorkers_14, sg_leT, forall_eq, true_and, and_true, true_implies, false_implies, not_true_eq_false, not_false_eq_true, implies_true]
      exact h
    · simp (disch := omega) only [wY_free_9, sg_leT, forall_eq, true_and, and_true, true_implies, false_implies, not_true_eq_false, not_false_eq_true, implies_true]
      exact h
  | succ k ih =>
    intro j N ac hj hN
    obtain ⟨N, rfl⟩ : ∃ n, N = n + 1 := ⟨N - 1, by omega⟩
    obtain ⟨a', e, ha4, hac, he, hen, hlt, hhow⟩ := hjobs j (by omega)
    by_cases c1 : xac j = nI a
    · rcases (show (xuw j = 1 ∧ yho j = 2) ∨ (xuw j = 0 ∧ ¬ yho j = 2) by
        rcases hhow with ⟨k1, k2, k3, k4⟩ | ⟨k1, k2, k3, k4, k5⟩ | ⟨k1, k2, k3, k4⟩ | ⟨k1, k2, k3⟩ | ⟨k1, k2, k3⟩
        · exact Or.inr ⟨k2, by rw [k3]; decide⟩
        · exact Or.inr ⟨k2, by rw [k3]; decide⟩
        · exact Or.inl ⟨k2, k3⟩
        · exact Or.inr ⟨k2, by rw [k3]; decide⟩
        · exact Or.inr ⟨k2, by rw [k3]; decide⟩) with ⟨k1, k2⟩ | ⟨k1, k2⟩
      · obtain ⟨r, r2, r3⟩ := ih (j + 1) N (ac + (-1)) (by omega) (by omega)
        refine ⟨r, fun P h => ?_, fun P h => ?_⟩
        · simp (disch := omega) only [wX_freeWorkers_14, sg_leF, c1, k1, sg_m3, sg_m3', sg_m4, sg_m4', sg_m6, sg_m6', sg_m7, sg_m7', sg_m200, sg_m200', nI_add, sg_a1, sg_a2, sg_a3, sg_a4, sg_a5, sg_a6, Int32.add_zero, sg_inT, nI_clamp, sg_lits, sg_mA, sg_mB, sg_mC, sg_mD, sg_mE, sg_mF, Int32.reduceLT, Int32.reduceLE, forall_eq, true_and, and_true, true_implies, false_implies, not_true_eq_false, not_false_eq_true, implies_true]
          exact r2 P h
        · simp (disch := omega) only [wY_free_9, sg_leF, c1, k2, Int32.sub_eq_add_neg, sg_m3, sg_m3', sg_m4, sg_m4', sg_m6, sg_m6', sg_m7, sg_m7', sg_m200, sg_m200', nI_add, sg_a1, sg_a2, sg_a3, sg_a4, sg_a5, sg_a6, Int32.add_zero, sg_inT, nI_clamp, sg_lits, sg_mA, sg_mB, sg_mC, sg_mD, sg_mE, sg_mF, Int32.reduceLT, Int32.reduceLE, forall_eq, true_and, and_true, true_implies, false_implies, not_true_eq_false, not_false_eq_true, implies_true]
          exact r3 P h
      · obtain ⟨r, r2, r3⟩ := ih (j + 1) N ac (by omega) (by omega)
        refine ⟨r, fun P h => ?_, fun P h => ?_⟩
        · simp (disch := omega) only [wX_freeWorkers_14, sg_leF, c1, k1, sg_m3, sg_m3', sg_m4, sg_m4', sg_m6, sg_m6', sg_m7, sg_m7', sg_m200, sg_m200', nI_add, sg_a1, sg_a2, sg_a3, sg_a4, sg_a5, sg_a6, Int32.add_zero, sg_inT, nI_clamp, sg_lits, sg_mA, sg_mB, sg_mC, sg_mD, sg_mE, sg_mF, Int32.reduceLT, Int32.reduceLE, forall_eq, true_and, and_true, true_implies, false_implies, not_true_eq_false, not_false_eq_true, implies_true]
          exact r2 P h
        · simp (disch := omega) only [wY_free_9, sg_leF, c1, k2, sg_m3, sg_m3', sg_m4, sg_m4', sg_m6, sg_m6', sg_m7, sg_m7', sg_m200, sg_m200', nI_add, sg_a1, sg_a2, sg_a3, sg_a4, sg_a5, sg_a6, Int32.add_zero, sg_inT, nI_clamp, sg_lits, sg_mA, sg_mB, sg_mC, sg_mD, sg_mE, sg_mF, Int32.reduceLT, Int32.reduceLE, forall_eq, true_and, and_true, true_implies, false_implies, not_true_eq_false, not_false_eq_true, implies_true]
          exact r3 P h
    · obtain ⟨r, r2, r3⟩ := ih (j + 1) N ac (by omega) (by omega)
      refine ⟨r, fun P h => ?_, fun P h => ?_⟩
      · simp (disch := omega) only [wX_freeWorkers_14, sg_leF, c1, sg_m3, sg_m3', sg_m4, sg_m4', sg_m6, sg_m6', sg_m7, sg_m7', sg_m200, sg_m200', nI_add, sg_a1, sg_a2, sg_a3, sg_a4, sg_a5, sg_a6, Int32.add_zero, sg_inT, nI_clamp, sg_lits, sg_mA, sg_mB, sg_mC, sg_mD, sg_mE, sg_mF, Int32.reduceLT, Int32.reduceLE, forall_eq, true_and, and_true, true_implies, false_implies, not_true_eq_false, not_false_eq_true, implies_true]
        exact r2 P h
      · simp (disch := omega) only [wY_free_9, sg_leF, c1, sg_m3, sg_m3', sg_m4, sg_m4', sg_m6, sg_m6', sg_m7, sg_m7', sg_m200, sg_m200', nI_add, sg_a1, sg_a2, sg_a3, sg_a4, sg_a5, sg_a6, Int32.add_zero, sg_inT, nI_clamp, sg_lits, sg_mA, sg_mB, sg_mC, sg_mD, sg_mE, sg_mF, Int32.reduceLT, Int32.reduceLE, forall_eq, true_and, and_true, true_implies, false_implies, not_true_eq_false, not_false_eq_true, implies_true]
        exact r3 P h
theorem sg_free {a : Nat} (ha : a < 4) (hc : jc ≤ 90) (hjobs : sg_jobs t jc xse xac xen xou xuw xra xea yho ywh) : ∃ r, (∀ P : Int32 → Prop, P r → wpX_freeWorkers P (xsc, nI t, nI jc, xec, xse, xki, xpp, xqq, xrr, xst, xfs, xin, xtb, xaj, xat, xsd, xja, xev, xva, xha, xps, xpa, xpi, xct, xsn, xsv, xtk, xac, xji, xou, xen, xuw, xra, xea, xtj, xte) (nI a)) ∧ (∀ P : Int32 → Prop, P r → wpY_free P (xsc, nI t, nI jc, xec, xse, yss, xac, xji, xen, yho, ywh, xtj, xte, xst, ypl, ydn, yas, ywt, yun, yrs, yva, yha, xpa, xpi, xps, yso, xsv, xct) (nI a)) := by
  obtain ⟨r, r2, r3⟩ := sg_freel (xsc := xsc) (xec := xec) (xki := xki) (xpp := xpp) (xqq := xqq) (xrr := xrr) (xst := xst) (xfs := xfs) (xin := xin) (xtb := xtb) (xaj := xaj) (xat := xat) (xsd := xsd) (xja := xja) (xev := xev) (xva := xva) (xha := xha) (xps := xps) (xpa := xpa) (xpi := xpi) (xct := xct) (xsn := xsn) (xsv := xsv) (xtk := xtk) (xji := xji) (xtj := xtj) (xte := xte) (yss := yss) (ypl := ypl) (ydn := ydn) (yas := yas) (ywt := ywt) (yun := yun) (yrs := yrs) (yva := yva) (yha := yha) (yso := yso) ha hc hjobs jc 0 (jc + 1) (xse (7 * a + 1)) (by omega) (by omega)
  refine ⟨r, fun P h => ?_, fun P h => ?_⟩
  · simp (disch := omega) only [wpX_freeWorkers, sg_m3, sg_m3', sg_m4, sg_m4', sg_m6, sg_m6', sg_m7, sg_m7', sg_m200, sg_m200', nI_add, sg_a1, sg_a2, sg_a3, sg_a4, sg_a5, sg_a6, Int32.add_zero, sg_inT, nI_clamp, forall_eq, true_and, and_true, true_implies, false_implies, not_true_eq_false, not_false_eq_true, implies_true]
    exact ⟨jc + 1, r2 P h⟩
  · simp (disch := omega) only [wpY_free, wpY_setting, sg_m3, sg_m3', sg_m4, sg_m4', sg_m6, sg_m6', sg_m7, sg_m7', sg_m200, sg_m200', nI_add, sg_a1, sg_a2, sg_a3, sg_a4, sg_a5, sg_a6, Int32.add_zero, sg_inT, nI_clamp, forall_eq, true_and, and_true, true_implies, false_implies, not_true_eq_false, not_false_eq_true, implies_true]
    exact ⟨jc + 1, r3 P h⟩
end
end
section
section
variable {xsc xnow xjc xec : Int32} {xse xki xpp xqq xrr xst xfs xin xtb xaj xat xsd xja xev xva xha xps xpa xpi xct xsn xsv xtk xac xji xou xen xuw xra xea xtj xte : Nat → Int32} {ysc ynow yjc yec : Int32} {yse yss yac yji yen yho ywh ytj yte yst ypl ydn yas ywt yun yrs yva yha ypa ypi yps yso ysv yct : Nat → Int32} {t jc : Nat}
/-- a ready attempt begins -/
theorem sg_jb {a b : Nat} {x : Int32} (ha : a < 4) (hb : b < jc) (hac : xac b = nI a) (hh : yho b = 1) (hjobs : sg_jobs t jc xse xac xen xou xuw xra xea yho ywh) (hl : ∀ m, m < jc → yho m = 0 → ¬ xra m ≤ nI t) : sg_jobs t jc xse xac xen xou (upd xuw b 1) xra (upd xea b x) (upd yho b 2) (upd ywh b x) ∧ ∀ m, m < jc → upd yho b 2 m = 0 → ¬ xra m ≤ nI t := by
  constructor
  · refine sg_jobs_upd (j := b) hjobs (fun m hm => ⟨rfl, rfl, pk_un hm, rfl, pk_un hm, pk_un hm, pk_un hm⟩) (fun a' e q1 q2 q3 q4 q5 => ?_)
    obtain ⟨_, _, _, _, _, _, _, bhow⟩ := hjobs b hb
    have bo : xou b = -1 := by
      rcases bhow with ⟨k1, k2, k3, k4⟩ | ⟨k1, k2, k3, k4, k5⟩ | ⟨k1, k2, k3, k4⟩ | ⟨k1, k2, k3⟩ | ⟨k1, k2, k3⟩
      · exact k1
      · exact k1
      · exact k1
      · exact absurd (k3.symm.trans hh) (by decide)
      · exact absurd (k3.symm.trans hh) (by decide)
    exact ⟨e, q3, q4, q5, Or.inr (Or.inr (Or.inl ⟨bo, pk_us, pk_us, by rw [pk_us, pk_us]⟩))⟩
  · intro m hm z
    by_cases c : m = b
    · subst c
      rw [pk_us] at z
      exact absurd z (by decide)
    · rw [pk_un c] at z
      exact hl m hm z
theorem sg_in0 {a f : Nat} (ha : a < 4) (hf : f < 2 ^ 31) (hr : ∀ P : Int32 → Prop, P (-1) → wpX_firstReady P (xsc, nI t, nI jc, xec, xse, xki, xpp, xqq, xrr, xst, xfs, xin, xtb, xaj, xat, xsd, xja, xev, xva, xha, xps, xpa, xpi, xct, xsn, xsv, xtk, xac, xji, xou, xen, xuw, xra, xea, xtj, xte) (nI a)) : ∀ (k n N : Nat), n + k = f → k < N → ∀ (post : SX → Prop) (J2 : Int32 → (Nat → Int32) → (Nat → Int32) → (Nat → Int32) → (Nat → Int32) → (Nat → Int32) → (Nat → Int32) → (Nat → Int32) → (Nat → Int32) → (Nat → Int32) → (Nat → Int32) → (Nat → Int32) → (Nat → Int32) → (Nat → Int32) → (Nat → Int32) → (Nat → Int32) → (Nat → Int32) → (Nat → Int32) → (Nat → Int32) → (Nat → Int32) → (Nat → Int32) → (Nat → Int32) → (Nat → Int32) → (Nat → Int32) → (Nat → Int32) → (Nat → Int32) → (Nat → Int32) → (Nat → Int32) → (Nat → Int32) → (Nat → Int32) → (Nat → Int32) → (Nat → Int32) → (Nat → Int32) → Prop), J2 (nI (a + 1)) xse xki xpp xqq xrr xst xfs xin xtb xaj xat xsd xja xev xva xha xps xpa xpi xct xsn xsv xtk xac xji xou xen xuw xra xea xtj xte → wX_beginReadyAttempts_15 post J2 (nI a) (nI f) xsc (nI t) (nI jc) xec N (nI n) xse xki xpp xqq xrr xst xfs xin xtb xaj xat xsd xja xev xva xha xps xpa xpi xct xsn xsv xtk xac xji xou xen xuw xra xea xtj xte := by
  intro k
  induction k with
  | zero =>
    intro n N hn hN post J2 h
    obtain ⟨N, rfl⟩ : ∃ m, N = m + 1 := ⟨N - 1, by omega⟩
    simp (disch := omega) only [wX_beginReadyAttempts_15, sg_leT, sg_a1, forall_eq, true_and, and_true, true_implies, false_implies, not_true_eq_false, not_false_eq_true, implies_true]
    exact h
  | succ k ih =>
    intro n N hn hN post J2 h
    obtain ⟨N, rfl⟩ : ∃ m, N = m + 1 := ⟨N - 1, by omega⟩
    simp (disch := omega) only [wX_beginReadyAttempts_15, sg_leF, sg_a1, forall_eq, true_and, and_true, true_implies, false_implies, not_true_eq_false, not_false_eq_true, implies_true]
    refine hr _ ?_
    simp only [forall_eq, true_and, and_true, true_implies, false_implies, not_true_eq_false, not_false_eq_true, implies_true]
    exact ih (n + 1) N (by omega) (by omega) post J2 h
end
section
variable {xsc xnow xjc xec : Int32} {xse xki xpp xqq xrr xst xfs xin xtb xaj xat xsd xja xev xva xha xps xpa xpi xct xsn xsv xtk xac xji xou xen xuw xra xea xtj xte : Nat → Int32} {ysc ynow yjc yec : Int32} {yse yss yac yji yen yho ywh ytj yte yst ypl ydn yas ywt yun yrs yva yha ypa ypi yps yso ysv yct : Nat → Int32} {t jc : Nat}
theorem sg_inner {a f : Nat} (ha : a < 4) (hc : jc ≤ 90) (hf : f < 2 ^ 31) : ∀ (k n N : Nat) (xuw xea yho ywh : Nat → Int32) (r : Int32), n + k = f → k < N → sg_jobs t jc xse xac xen xou xuw xra xea yho ywh → (∀ m, m < jc → yho m = 0 → ¬ xra m ≤ nI t) → (r = -1 ∨ ∃ b, b < jc ∧ r = nI b ∧ xac b = nI a ∧ yho b = 1) → (∀ P : Int32 → Prop, P r → wpX_firstReady P (xsc, nI t, nI jc, xec, xse, xki, xpp, xqq, xrr, xst, xfs, xin, xtb, xaj, xat, xsd, xja, xev, xva, xha, xps, xpa, xpi, xct, xsn, xsv, xtk, xac, xji, xou, xen, xuw, xra, xea, xtj, xte) (nI a)) →
    ∃ zuw zea zho zwh : Nat → Int32, (∀ (post : SX → Prop) (J2 : Int32 → (Nat → Int32) → (Nat → Int32) → (Nat → Int32) → (Nat → Int32) → (Nat → Int32) → (Nat → Int32) → (Nat → Int32) → (Nat → Int32) → (Nat → Int32) → (Nat → Int32) → (Nat → Int32) → (Nat → Int32) → (Nat → Int32) → (Nat → Int32) → (Nat → Int32) → (Nat → Int32) → (Nat → Int32) → (Nat → Int32) → (Nat → Int32) → (Nat → Int32) → (Nat → Int32) → (Nat → Int32) → (Nat → Int32) → (Nat → Int32) → (Nat → Int32) → (Nat → Int32) → (Nat → Int32) → (Nat → Int32) → (Nat → Int32) → (Nat → Int32) → (Nat → Int32) → (Nat → Int32) → Prop), J2 (nI (a + 1)) xse xki xpp xqq xrr xst xfs xin xtb xaj xat xsd xja xev xva xha xps xpa xpi xct xsn xsv xtk xac xji xou xen zuw xra zea xtj xte → wX_beginReadyAttempts_15 post J2 (nI a) (nI f) xsc (nI t) (nI jc) xec N (nI n) xse xki xpp xqq xrr xst xfs xin xtb xaj xat xsd xja xev xva xha xps xpa xpi xct xsn xsv xtk xac xji xou xen xuw xra xea xtj xte) ∧ (∀ (post : SY → Prop) (J : Int32 → (Nat → Int32) → (Nat → Int32) → (Nat → Int32) → (Nat → Int32) → (Nat → Int32) → (Nat → Int32) → (Nat → Int32) → (Nat → Int32) → (Nat → Int32) → (Nat → Int32) → (Nat → Int32) → (Nat → Int32) → (Nat → Int32) → (Nat → Int32) → (Nat → Int32) → (Nat → Int32) → (Nat → Int32) → (Nat → Int32) → (Nat → Int32) → (Nat → Int32) → (Nat → Int32) → (Nat → Int32) → (Nat → Int32) → (Nat → Int32) → Prop), J (nI (a + 1)) xse yss xac xji xen zho zwh xtj xte xst ypl ydn yas ywt yun yrs yva yha xpa xpi xps yso xsv xct → wY_begin_73 post J (nI a) xsc (nI t) (nI jc) xec N r (nI k) xse yss xac xji xen yho ywh xtj xte xst ypl ydn yas ywt yun yrs yva yha xpa xpi xps yso xsv xct) ∧ sg_jobs t jc xse xac xen xou zuw xra zea zho zwh ∧ (∀ m, m < jc → zho m = 0 → ¬ xra m ≤ nI t) := by
  intro k
  induction k with
  | zero =>
    intro n N xuw xea yho ywh r hn hN hjobs hl hr hrX
    obtain ⟨N, rfl⟩ : ∃ m, N = m + 1 := ⟨N - 1, by omega⟩
    refine ⟨xuw, xea, yho, ywh, fun post J2 h => ?_, fun post J h => ?_, hjobs, hl⟩
    · simp (disch := omega) only [wX_beginReadyAttempts_15, sg_leT, sg_a1, forall_eq, true_and, and_true, true_implies, false_implies, not_true_eq_false, not_false_eq_true, implies_true]
      exact h
    · have h0 : nI 0 ≤ 0 := by decide
      by_cases c : r < 0
      · simp (disch := omega) only [wY_begin_73, c, sg_a1, forall_eq, true_and, and_true, true_implies, false_implies, not_true_eq_false, not_false_eq_true, implies_true]
        exact h
      · simp (disch := omega) only [wY_begin_73, c, h0, sg_a1, forall_eq, true_and, and_true, true_implies, false_implies, not_true_eq_false, not_false_eq_true, implies_true]
        exact h
  | succ k ih =>
    intro n N xuw xea yho ywh r hn hN hjobs hl hr hrX
    obtain ⟨N, rfl⟩ : ∃ m, N = m + 1 := ⟨N - 1, by omega⟩
    rcases hr with hr | ⟨b, hb, hr, hba, hbh⟩
    · subst hr
      refine ⟨xuw, xea, yho, ywh, fun post J2 h => sg_in0 ha hf hrX (k + 1) n (N + 1) hn (by omega) post J2 h, fun post J h => ?_, hjobs, hl⟩
      simp (disch := omega) only [wY_begin_73, sg_a1, sg_lits, sg_mA, sg_mB, sg_mC, sg_mD, sg_mE, sg_mF, Int32.reduceLT, Int32.reduceLE, forall_eq, true_and, and_true, true_implies, false_implies, not_true_eq_false, not_false_eq_true, implies_true]
      exact h
    · subst hr
      obtain ⟨g1, g2⟩ := sg_jb (x := nI t + xse (7 * a)) ha hb hba hbh hjobs hl
      obtain ⟨r', r1, r2, r3⟩ := sg_fr (xsc := xsc) (xec := xec) (xse := xse) (xki := xki) (xpp := xpp) (xqq := xqq) (xrr := xrr) (xst := xst) (xfs := xfs) (xin := xin) (xtb := xtb) (xaj := xaj) (xat := xat) (xsd := xsd) (xja := xja) (xev := xev) (xva := xva) (xha := xha) (xps := xps) (xpa := xpa) (xpi := xpi) (xct := xct) (xsn := xsn) (xsv := xsv) (xtk := xtk) (xji := xji) (xtj := xtj) (xte := xte) (yss := yss) (ypl := ypl) (ydn := ydn) (yas := yas) (ywt := ywt) (yun := yun) (yrs := yrs) (yva := yva) (yha := yha) (yso := yso) ha hc g1 g2
      obtain ⟨zuw, zea, zho, zwh, q1, q2, q3, q4⟩ := ih (n + 1) N (upd xuw b 1) (upd xea b (nI t + xse (7 * a))) (upd yho b 2) (upd ywh b (nI t + xse (7 * a))) r' (by omega) (by omega) g1 g2 r1 r2
      refine ⟨zuw, zea, zho, zwh, fun post J2 h => ?_, fun post J h => ?_, q3, q4⟩
      · simp (disch := omega) only [wX_beginReadyAttempts_15, sg_leF, sg_a1, forall_eq, true_and, and_true, true_implies, false_implies, not_true_eq_false, not_false_eq_true, implies_true]
        refine hrX _ ?_
        simp (disch := omega) only [sg_nm1, sg_b1, sg_m3, sg_m3', sg_m4, sg_m4', sg_m6, sg_m6', sg_m7, sg_m7', sg_m200, sg_m200', nI_add, sg_a1, sg_a2, sg_a3, sg_a4, sg_a5, sg_a6, Int32.add_zero, sg_inT, nI_clamp, forall_eq, true_and, and_true, true_implies, false_implies, not_true_eq_false, not_false_eq_true, implies_true]
        exact q1 post J2 h
      · have h0 : ¬ nI (k + 1) ≤ 0 := nI_nle (by omega) (by omega)
        simp (disch := omega) only [wY_begin_73, wpY_setting, sg_neg, h0, pk_m1, sg_m3, sg_m3', sg_m4, sg_m4', sg_m6, sg_m6', sg_m7, sg_m7', sg_m200, sg_m200', nI_add, sg_a1, sg_a2, sg_a3, sg_a4, sg_a5, sg_a6, Int32.add_zero, sg_inT, nI_clamp, forall_eq, true_and, and_true, true_implies, false_implies, not_true_eq_false, not_false_eq_true, implies_true]
        refine r3 _ ?_
        exact q2 post J h
theorem sg_outer (hc : jc ≤ 90) : ∀ (k a N : Nat) (xuw xea yho ywh : Nat → Int32), a + k = 4 → k < N → sg_jobs t jc xse xac xen xou xuw xra xea yho ywh → (∀ m, m < jc → yho m = 0 → ¬ xra m ≤ nI t) →
    ∃ zuw zea zho zwh : Nat → Int32, (∀ post : SX → Prop, post (xsc, nI t, nI jc, xec, xse, xki, xpp, xqq, xrr, xst, xfs, xin, xtb, xaj, xat, xsd, xja, xev, xva, xha, xps, xpa, xpi, xct, xsn, xsv, xtk, xac, xji, xou, xen, zuw, xra, zea, xtj, xte) → wX_beginReadyAttempts_2 post xsc (nI t) (nI jc) xec N (nI a) xse xki xpp xqq xrr xst xfs xin xtb xaj xat xsd xja xev xva xha xps xpa xpi xct xsn xsv xtk xac xji xou xen xuw xra xea xtj xte) ∧ (∀ post : SY → Prop, post (xsc, nI t, nI jc, xec, xse, yss, xac, xji, xen, zho, zwh, xtj, xte, xst, ypl, ydn, yas, ywt, yun, yrs, yva, yha, xpa, xpi, xps, yso, xsv, xct) → wY_begin_56 post xsc (nI t) (nI jc) xec N (nI a) xse yss xac xji xen yho ywh xtj xte xst ypl ydn yas ywt yun yrs yva yha xpa xpi xps yso xsv xct) ∧ sg_jobs t jc xse xac xen xou zuw xra zea zho zwh ∧ (∀ m, m < jc → zho m = 0 → ¬ xra m ≤ nI t) := by
  intro k
  induction k with
  | zero =>
    intro a N xuw xea yho ywh hk hN hjobs hl
    obtain ⟨N, rfl⟩ : ∃ m, N = m + 1 := ⟨N - 1, by omega⟩
    have h4 : (4 : Int32) ≤ nI a := nI_le (a := 4) (by omega) (by omega)
    refine ⟨xuw, xea, yho, ywh, fun post h => ?_, fun post h => ?_, hjobs, hl⟩
    · simp (disch := omega) only [wX_beginReadyAttempts_2, h4, forall_eq, true_and, and_true, true_implies, false_implies, not_true_eq_false, not_false_eq_true, implies_true]
      exact h
    · simp (disch := omega) only [wY_begin_56, h4, forall_eq, true_and, and_true, true_implies, false_implies, not_true_eq_false, not_false_eq_true, implies_true]
      exact h
  | succ k ih =>
    intro a N xuw xea yho ywh hk hN hjobs hl
    obtain ⟨N, rfl⟩ : ∃ m, N = m + 1 := ⟨N - 1, by omega⟩
    have h4 : ¬ (4 : Int32) ≤ nI a := nI_ge (b := 4) (by omega) (by omega)
    obtain ⟨r, r1, r2, r3⟩ := sg_fr (a := a) (xsc := xsc) (xec := xec) (xse := xse) (xki := xki) (xpp := xpp) (xqq := xqq) (xrr := xrr) (xst := xst) (xfs := xfs) (xin := xin) (xtb := xtb) (xaj := xaj) (xat := xat) (xsd := xsd) (xja := xja) (xev := xev) (xva := xva) (xha := xha) (xps := xps) (xpa := xpa) (xpi := xpi) (xct := xct) (xsn := xsn) (xsv := xsv) (xtk := xtk) (xji := xji) (xtj := xtj) (xte := xte) (yss := yss) (ypl := ypl) (ydn := ydn) (yas := yas) (ywt := ywt) (yun := yun) (yrs := yrs) (yva := yva) (yha := yha) (yso := yso) (by omega) hc hjobs hl
    obtain ⟨F, f2, f3⟩ := sg_free (a := a) (xsc := xsc) (xec := xec) (xse := xse) (xki := xki) (xpp := xpp) (xqq := xqq) (xrr := xrr) (xst := xst) (xfs := xfs) (xin := xin) (xtb := xtb) (xaj := xaj) (xat := xat) (xsd := xsd) (xja := xja) (xev := xev) (xva := xva) (xha := xha) (xps := xps) (xpa := xpa) (xpi := xpi) (xct := xct) (xsn := xsn) (xsv := xsv) (xtk := xtk) (xji := xji) (xtj := xtj) (xte := xte) (yss := yss) (ypl := ypl) (ydn := ydn) (yas := yas) (ywt := ywt) (yun := yun) (yrs := yrs) (yva := yva) (yha := yha) (yso := yso) (by omega) hc hjobs
    by_cases hF : F < 0
    · obtain ⟨zuw, zea, zho, zwh, q1, q2, q3, q4⟩ := ih (a + 1) N xuw xea yho ywh (by omega) (by omega) hjobs hl
      have hF0 : F ≤ 0 := Int32.le_of_lt hF
      refine ⟨zuw, zea, zho, zwh, fun post h => ?_, fun post h => ?_, q3, q4⟩
      · simp (disch := omega) only [wX_beginReadyAttempts_2, h4, forall_eq, true_and, and_true, true_implies, false_implies, not_true_eq_false, not_false_eq_true, implies_true]
        refine f2 _ ⟨1, ?_⟩
        simp (disch := omega) only [wX_beginReadyAttempts_15, hF0, sg_a1, forall_eq, true_and, and_true, true_implies, false_implies, not_true_eq_false, not_false_eq_true, implies_true]
        exact q1 post h
      · simp (disch := omega) only [wY_begin_56, h4, forall_eq, true_and, and_true, true_implies, false_implies, not_true_eq_false, not_false_eq_true, implies_true]
        refine r3 _ (f3 _ ⟨1, ?_⟩)
        by_cases c : r < 0
        · simp (disch := omega) only [wY_begin_73, c, sg_a1, forall_eq, true_and, and_true, true_implies, false_implies, not_true_eq_false, not_false_eq_true, implies_true]
          exact q2 post h
        · simp (disch := omega) only [wY_begin_73, c, hF0, sg_a1, forall_eq, true_and, and_true, true_implies, false_implies, not_true_eq_false, not_false_eq_true, implies_true]
          exact q2 post h
    · obtain ⟨f, hf, rfl⟩ := nI_of hF
      obtain ⟨yuw, yea, xho, xwh, p1, p2, p3, p4⟩ := sg_inner (a := a) (xsc := xsc) (xec := xec) (xse := xse) (xki := xki) (xpp := xpp) (xqq := xqq) (xrr := xrr) (xst := xst) (xfs := xfs) (xin := xin) (xtb := xtb) (xaj := xaj) (xat := xat) (xsd := xsd) (xja := xja) (xev := xev) (xva := xva) (xha := xha) (xps := xps) (xpa := xpa) (xpi := xpi) (xct := xct) (xsn := xsn) (xsv := xsv) (xtk := xtk) (xji := xji) (xtj := xtj) (xte := xte) (yss := yss) (ypl := ypl) (ydn := ydn) (yas := yas) (ywt := ywt) (yun := yun) (yrs := yrs) (yva := yva) (yha := yha) (yso := yso) (by omega) hc hf f 0 (f + 1) xuw xea yho ywh r (by omega) (by omega) hjobs hl r1 r2
      obtain ⟨zuw, zea, zho, zwh, q1, q2, q3, q4⟩ := ih (a + 1) N yuw yea xho xwh (by omega) (by omega) p3 p4
      refine ⟨zuw, zea, zho, zwh, fun post h => ?_, fun post h => ?_, q3, q4⟩
      · simp (disch := omega) only [wX_beginReadyAttempts_2, h4, forall_eq, true_and, and_true, true_implies, false_implies, not_true_eq_false, not_false_eq_true, implies_true]
        exact f2 _ ⟨f + 1, p1 post _ (q1 post h)⟩
      · simp (disch := omega) only [wY_begin_56, h4, forall_eq, true_and, and_true, true_implies, false_implies, not_true_eq_false, not_false_eq_true, implies_true]
        exact r3 _ (f3 _ ⟨f + 1, p2 post _ (q2 post h)⟩)
/-- the reference looks who is ready -/
theorem sg_prom (hc : jc ≤ 90) : ∀ (k j N : Nat) (yho : Nat → Int32), j + k = jc → k < N → sg_jobs t jc xse xac xen xou xuw xra xea yho ywh → (∀ m, m < j → yho m = 0 → ¬ xra m ≤ nI t) →
    ∃ zho : Nat → Int32, (∀ post : SY → Prop, (∃ n, wY_begin_56 post xsc (nI t) (nI jc) xec n 0 xse yss xac xji xen zho ywh xtj xte xst ypl ydn yas ywt yun yrs yva yha xpa xpi xps yso xsv xct) → wY_begin_2 post xsc (nI t) (nI jc) xec N (nI j) xse yss xac xji xen yho ywh xtj xte xst ypl ydn yas ywt yun yrs yva yha xpa xpi xps yso xsv xct) ∧ sg_jobs t jc xse xac xen xou xuw xra xea zho ywh ∧ (∀ m, m < jc → zho m = 0 → ¬ xra m ≤ nI t) := by
  intro k
  induction k with
  | zero =>
    intro j N yho hk hN hjobs hl
    obtain ⟨N, rfl⟩ : ∃ m, N = m + 1 := ⟨N - 1, by omega⟩
    refine ⟨yho, fun post h => ?_, hjobs, fun m hm => hl m (by omega)⟩
    simp (disch := omega) only [wY_begin_2, sg_leT, forall_eq, true_and, and_true, true_implies, false_implies, not_true_eq_false, not_false_eq_true, implies_true]
    exact h
  | succ k ih =>
    intro j N yho hk hN hjobs hl
    obtain ⟨N, rfl⟩ : ∃ m, N = m + 1 := ⟨N - 1, by omega⟩
    obtain ⟨a', e, ha4, hac, he, hen, hlt, hhow⟩ := hjobs j (by omega)
    have same : upd yho j (yho j) = yho := sg_self yho j _ rfl
    by_cases c : yho j = 0
    · obtain ⟨k1, k2, k4⟩ : xou j = -1 ∧ xuw j = 0 ∧ ywh j = xra j := by
        rcases hhow with ⟨k1, k2, k3, k4⟩ | ⟨k1, k2, k3, k4, k5⟩ | ⟨k1, k2, k3, k4⟩ | ⟨k1, k2, k3⟩ | ⟨k1, k2, k3⟩
        · exact ⟨k1, k2, k4⟩
        · exact absurd (k3.symm.trans c) (by decide)
        · exact absurd (k3.symm.trans c) (by decide)
        · exact absurd (k3.symm.trans c) (by decide)
        · exact absurd (k3.symm.trans c) (by decide)
      by_cases c2 : nI t < xra j
      · obtain ⟨zho, q1, q2, q3⟩ := ih (j + 1) N yho (by omega) (by omega) hjobs (fun m hm z => by
          by_cases e : m = j
          · subst e; exact Int32.not_le.mpr c2
          · exact hl m (by omega) z)
        refine ⟨zho, fun post h => ?_, q2, q3⟩
        have s0 : upd yho j 0 = yho := sg_self yho j 0 c
        simp (disch := omega) only [wY_begin_2, sg_leF, c, k4, c2, s0, sg_m3, sg_m3', sg_m4, sg_m4', sg_m6, sg_m6', sg_m7, sg_m7', sg_m200, sg_m200', nI_add, sg_a1, sg_a2, sg_a3, sg_a4, sg_a5, sg_a6, Int32.add_zero, sg_inT, nI_clamp, forall_eq, true_and, and_true, true_implies, false_implies, not_true_eq_false, not_false_eq_true, implies_true]
        exact q1 post h
      · obtain ⟨zho, q1, q2, q3⟩ := ih (j + 1) N (upd yho j 1) (by omega) (by omega) (sg_jobs_upd (j := j) hjobs (fun m hm => ⟨rfl, rfl, rfl, rfl, rfl, pk_un hm, rfl⟩) (fun a e q1 q2 q3 q4 q5 => ⟨e, q3, q4, q5, Or.inr (Or.inl ⟨k1, k2, pk_us, k4, Int32.not_lt.mp c2⟩)⟩)) (fun m hm z => by
          by_cases e : m = j
          · subst e; rw [pk_us] at z; exact absurd z (by decide)
          · rw [pk_un e] at z; exact hl m (by omega) z)
        refine ⟨zho, fun post h => ?_, q2, q3⟩
        simp (disch := omega) only [wY_begin_2, sg_leF, c, k4, c2, sg_m3, sg_m3', sg_m4, sg_m4', sg_m6, sg_m6', sg_m7, sg_m7', sg_m200, sg_m200', nI_add, sg_a1, sg_a2, sg_a3, sg_a4, sg_a5, sg_a6, Int32.add_zero, sg_inT, nI_clamp, forall_eq, true_and, and_true, true_implies, false_implies, not_true_eq_false, not_false_eq_true, implies_true]
        exact q1 post h
    · obtain ⟨zho, q1, q2, q3⟩ := ih (j + 1) N yho (by omega) (by omega) hjobs (fun m hm z => by
        by_cases e : m = j
        · subst e; exact absurd z c
        · exact hl m (by omega) z)
      refine ⟨zho, fun post h => ?_, q2, q3⟩
      simp (disch := omega) only [wY_begin_2, sg_leF, c, same, sg_m3, sg_m3', sg_m4, sg_m4', sg_m6, sg_m6', sg_m7, sg_m7', sg_m200, sg_m200', nI_add, sg_a1, sg_a2, sg_a3, sg_a4, sg_a5, sg_a6, Int32.add_zero, sg_inT, nI_clamp, forall_eq, true_and, and_true, true_implies, false_implies, not_true_eq_false, not_false_eq_true, implies_true]
      exact q1 post h
end
def sg_late (u : SX) (v : SY) : Prop := match u with
  | (xsc, xnow, xjc, xec, xse, xki, xpp, xqq, xrr, xst, xfs, xin, xtb, xaj, xat, xsd, xja, xev, xva, xha, xps, xpa, xpi, xct, xsn, xsv, xtk, xac, xji, xou, xen, xuw, xra, xea, xtj, xte) => match v with
    | (ysc, ynow, yjc, yec, yse, yss, yac, yji, yen, yho, ywh, ytj, yte, yst, ypl, ydn, yas, ywt, yun, yrs, yva, yha, ypa, ypi, yps, yso, ysv, yct) => ∀ m, m < xjc.toNatClampNeg → yho m = 0 → ¬ xra m ≤ xnow
theorem sg_begin {t : Nat} {u : SX} {v : SY} (H : sg_R t u v) : ∃ u1 v1, (∀ P : SX → Prop, P u1 → wpX_beginReadyAttempts P u) ∧ (∀ P : SY → Prop, P v1 → wpY_begin P v) ∧ sg_R t u1 v1 ∧ sg_late u1 v1 := by
  obtain ⟨xsc, xnow, xjc, xec, xse, xki, xpp, xqq, xrr, xst, xfs, xin, xtb, xaj, xat, xsd, xja, xev, xva, xha, xps, xpa, xpi, xct, xsn, xsv, xtk, xac, xji, xou, xen, xuw, xra, xea, xtj, xte⟩ := u
  obtain ⟨ysc, ynow, yjc, yec, yse, yss, yac, yji, yen, yho, ywh, ytj, yte, yst, ypl, ydn, yas, ywt, yun, yrs, yva, yha, ypa, ypi, yps, yso, ysv, yct⟩ := v
  obtain ⟨sc, jc, ⟨⟨⟨e1, e2, e3, e4⟩, e5, e6, e7, e8, e9, e10, e11, e12, e13, e14, e15, e16⟩, ⟨g1, g2, g3, g4⟩, hset, hprog, hjobs, hjas⟩, hf⟩ := H
  subst e1 e2 e3 e4 e5 e6 e7 e8 e9 e10 e11 e12 e13 e14 e15 e16 g1 g2 g3 g4
  have hc := sg_jas_le hjas
  obtain ⟨xho, p1, p2, p3⟩ := sg_prom (xsc := nI sc) (xec := nI (sg_cnt xen jc)) (xst := xst) (xps := xps) (xpa := xpa) (xpi := xpi) (xct := xct) (xsv := xsv) (xji := xji) (xtj := xtj) (xte := xte) (yss := yss) (ypl := ypl) (ydn := ydn) (yas := yas) (ywt := ywt) (yun := yun) (yrs := yrs) (yva := yva) (yha := yha) (yso := yso) hc jc 0 (jc + 1) yho (by omega) (by omega) hjobs (fun m hm => absurd hm (by omega))
  obtain ⟨zuw, zea, zho, zwh, q1, q2, q3, q4⟩ := sg_outer (xsc := nI sc) (xec := nI (sg_cnt xen jc)) (xki := xki) (xpp := xpp) (xqq := xqq) (xrr := xrr) (xst := xst) (xfs := xfs) (xin := xin) (xtb := xtb) (xaj := xaj) (xat := xat) (xsd := xsd) (xja := xja) (xev := xev) (xva := xva) (xha := xha) (xps := xps) (xpa := xpa) (xpi := xpi) (xct := xct) (xsn := xsn) (xsv := xsv) (xtk := xtk) (xji := xji) (xtj := xtj) (xte := xte) (yss := yss) (ypl := ypl) (ydn := ydn) (yas := yas) (ywt := ywt) (yun := yun) (yrs := yrs) (yva := yva) (yha := yha) (yso := yso) hc 4 0 5 xuw xea xho ywh (by omega) (by omega) p2 p3
  refine ⟨(nI sc, nI t, nI jc, nI (sg_cnt xen jc), xse, xki, xpp, xqq, xrr, xst, xfs, xin, xtb, xaj, xat, xsd, xja, xev, xva, xha, xps, xpa, xpi, xct, xsn, xsv, xtk, xac, xji, xou, xen, zuw, xra, zea, xtj, xte), (nI sc, nI t, nI jc, nI (sg_cnt xen jc), xse, yss, xac, xji, xen, zho, zwh, xtj, xte, xst, ypl, ydn, yas, ywt, yun, yrs, yva, yha, xpa, xpi, xps, yso, xsv, xct), fun P h => ⟨5, q1 P h⟩, fun P h => ⟨jc + 1, p1 P ⟨5, q2 P h⟩⟩, ⟨sc, jc, ⟨⟨⟨rfl, rfl, rfl, rfl⟩, rfl, rfl, rfl, rfl, rfl, rfl, rfl, rfl, rfl, rfl, rfl, rfl⟩, ⟨rfl, rfl, rfl, rfl⟩, hset, hprog, q3, hjas⟩, hf⟩, fun m hm => q4 m ?_⟩
  have e : (nI jc).toNatClampNeg = jc := nI_clamp (by omega)
  exact Nat.lt_of_lt_of_eq hm e
end
section
def i_Rel (k : Nat) (u : SX) (v : SY) : Prop := ∃ t, t ≤ 20 * k ∧ sg_R t u v ∧ sg_late u v
theorem i_up {k : Nat} {u : SX} {v : SY} (h : i_Rel k u v) : i_Rel (k + 5) u v := by
  obtain ⟨t, h1, h2⟩ := h
  exact ⟨t, by omega, h2⟩
theorem sg_rng (x : Int32) (m : Nat) (hm : m < 2 ^ 31) : x < 0 ∨ (¬ x < 0 ∧ nI m < x) ∨ ∃ j, j ≤ m ∧ x = nI j := by
  by_cases h : x < 0
  · exact Or.inl h
  · obtain ⟨j, hj, rfl⟩ := nI_of h
    by_cases c : j ≤ m
    · exact Or.inr (Or.inr ⟨j, c, rfl⟩)
    · exact Or.inr (Or.inl ⟨h, nI_lt (by omega) hj⟩)
theorem sg_2n {a : Nat} (h : a ≤ 2) : ¬ (2 : Int32) < nI a := nI_nlt (a := 2) (by omega) (by omega)
theorem sg_1n {a : Nat} (h : a ≤ 1) : ¬ (1 : Int32) < nI a := nI_nlt (a := 1) (by omega) (by omega)
theorem sg_100n {a : Nat} (h : a ≤ 100) : ¬ (100 : Int32) < nI a := nI_nlt (a := 100) (by omega) (by omega)
theorem sg_adds : ((0 : Int32) + 1 = 1) ∧ ((1 : Int32) + 1 = 2) ∧ ((2 : Int32) + 1 = 3) ∧ ((3 : Int32) + 1 = 4) ∧ ((4 : Int32) + 1 = 5) ∧ ((5 : Int32) + 1 = 6) := by
  refine ⟨?_, ?_, ?_, ?_, ?_, ?_⟩ <;> decide
/-- serving workflow i, and beginning what is ready -/
theorem sg_serve {i t : Nat} {u : SX} {v : SY} (hi : i < 3) (H : sg_R t u v) : ∃ u2 v2, (∀ P : SX → Prop, P u2 → wpX_goOn (fun u => wpX_beginReadyAttempts P u) u (nI i)) ∧ (∀ P : SY → Prop, P v2 → wpY_work (fun u => wpY_begin P u) v (nI i)) ∧ sg_R t u2 v2 ∧ sg_late u2 v2 := by
  obtain ⟨u1, v1, a1, a2, a3⟩ := sg_work hi H
  obtain ⟨u2, v2, b1, b2, b3, b4⟩ := sg_begin a3
  exact ⟨u2, v2, fun P h => a1 _ (b1 P h), fun P h => a2 _ (b2 P h), b3, b4⟩
theorem sg_st_eq {t : Nat} {u : SX} {v : SY} (H : sg_R t u v) : (match v with | (ysc, ynow, yjc, yec, yse, yss, yac, yji, yen, yho, ywh, ytj, yte, yst, ypl, ydn, yas, ywt, yun, yrs, yva, yha, ypa, ypi, yps, yso, ysv, yct) => yst) = (match u with | (xsc, xnow, xjc, xec, xse, xki, xpp, xqq, xrr, xst, xfs, xin, xtb, xaj, xat, xsd, xja, xev, xva, xha, xps, xpa, xpi, xct, xsn, xsv, xtk, xac, xji, xou, xen, xuw, xra, xea, xtj, xte) => xst) := by
  obtain ⟨xsc, xnow, xjc, xec, xse, xki, xpp, xqq, xrr, xst, xfs, xin, xtb, xaj, xat, xsd, xja, xev, xva, xha, xps, xpa, xpi, xct, xsn, xsv, xtk, xac, xji, xou, xen, xuw, xra, xea, xtj, xte⟩ := u
  obtain ⟨ysc, ynow, yjc, yec, yse, yss, yac, yji, yen, yho, ywh, ytj, yte, yst, ypl, ydn, yas, ywt, yun, yrs, yva, yha, ypa, ypi, yps, yso, ysv, yct⟩ := v
  obtain ⟨sc, jc, ⟨⟨⟨e1, e2, e3, e4⟩, e5, e6, e7, e8, e9, e10, e11, e12, e13, e14, e15, e16⟩, ⟨g1, g2, g3, g4⟩, hset, hprog, hjobs, hjas⟩, hf⟩ := H
  exact e6.symm
theorem sg_start {k : Nat} {u : SX} {v : SY} (I : i_Rel k u v) (x y : Int32) : ∃ r u' v', (∀ P : Int32 → SX → Prop, P r u' → wpX_start P u x y) ∧ (∀ P : Int32 → SY → Prop, P r v' → wpY_start P v x y) ∧ i_Rel (k + 5) u' v' := by
  have I5 := i_up I
  obtain ⟨t, ht, H, HL⟩ := I
  rcases sg_rng x 2 (by decide) with h0 | ⟨h0, h2⟩ | ⟨i, hi, rfl⟩
  · refine ⟨-1, u, v, fun P h => ?_, fun P h => ?_, I5⟩
    · obtain ⟨xsc, xnow, xjc, xec, xse, xki, xpp, xqq, xrr, xst, xfs, xin, xtb, xaj, xat, xsd, xja, xev, xva, xha, xps, xpa, xpi, xct, xsn, xsv, xtk, xac, xji, xou, xen, xuw, xra, xea, xtj, xte⟩ := u
      simp only [wpX_start, wpX_isWorkflow, wpX_isIn, h0, sg_n0, forall_eq, true_and, and_true, true_implies, false_implies, not_true_eq_false, not_false_eq_true, implies_true]
      exact h
    · obtain ⟨ysc, ynow, yjc, yec, yse, yss, yac, yji, yen, yho, ywh, ytj, yte, yst, ypl, ydn, yas, ywt, yun, yrs, yva, yha, ypa, ypi, yps, yso, ysv, yct⟩ := v
      simp only [wpY_start, wpY_isIn, h0, forall_eq, true_and, and_true, true_implies, false_implies, not_true_eq_false, not_false_eq_true, implies_true]
      exact h
  · have h2 : (2 : Int32) < x := h2
    refine ⟨-1, u, v, fun P h => ?_, fun P h => ?_, I5⟩
    · obtain ⟨xsc, xnow, xjc, xec, xse, xki, xpp, xqq, xrr, xst, xfs, xin, xtb, xaj, xat, xsd, xja, xev, xva, xha, xps, xpa, xpi, xct, xsn, xsv, xtk, xac, xji, xou, xen, xuw, xra, xea, xtj, xte⟩ := u
      simp only [wpX_start, wpX_isWorkflow, wpX_isIn, h0, h2, sg_n0, forall_eq, true_and, and_true, true_implies, false_implies, not_true_eq_false, not_false_eq_true, implies_true]
      exact h
    · obtain ⟨ysc, ynow, yjc, yec, yse, yss, yac, yji, yen, yho, ywh, ytj, yte, yst, ypl, ydn, yas, ywt, yun, yrs, yva, yha, ypa, ypi, yps, yso, ysv, yct⟩ := v
      simp only [wpY_start, wpY_isIn, h0, h2, forall_eq, true_and, and_true, true_implies, false_implies, not_true_eq_false, not_false_eq_true, implies_true]
      exact h
  · have hi3 : i < 3 := by omega
    have b3 : vp_in (nI i) 3 := vp_in_nI hi3 (by omega)
    have ci : (nI i).toNatClampNeg = i := nI_clamp (by omega)
    have h2 := sg_2n hi
    obtain ⟨xsc, xnow, xjc, xec, xse, xki, xpp, xqq, xrr, xst, xfs, xin, xtb, xaj, xat, xsd, xja, xev, xva, xha, xps, xpa, xpi, xct, xsn, xsv, xtk, xac, xji, xou, xen, xuw, xra, xea, xtj, xte⟩ := u
    obtain ⟨ysc, ynow, yjc, yec, yse, yss, yac, yji, yen, yho, ywh, ytj, yte, yst, ypl, ydn, yas, ywt, yun, yrs, yva, yha, ypa, ypi, yps, yso, ysv, yct⟩ := v
    obtain ⟨sc, jc, ⟨⟨⟨e1, e2, e3, e4⟩, e5, e6, e7, e8, e9, e10, e11, e12, e13, e14, e15, e16⟩, ⟨g1, g2, g3, g4⟩, hset, hprog, hjobs, hjas⟩, hf⟩ := H
    subst e1 e2 e3 e4 e5 e6 e7 e8 e9 e10 e11 e12 e13 e14 e15 e16 g1 g2 g3 g4
    by_cases c : xst i = 0
    · have hid := hf i hi3
      rcases hid with ⟨k1, k2, k3, k4, k5, k6, k7, k8, k9, kv, kh⟩ | ⟨d, hb, hx⟩
      · have eps : upd xps i 0 = xps := sg_self xps i 0 k8
        have ect : upd xct i 0 = xct := sg_self xct i 0 k9
        have R1 : sg_R t (nI sc, nI t, nI jc, nI (sg_cnt xen jc), xse, xki, xpp, xqq, xrr, upd xst i 1, xfs, xin, xtb, xaj, xat, xsd, xja, xev, upd xva (4 * i) y, xha, xps, xpa, xpi, xct, xsn, xsv, xtk, xac, xji, xou, xen, xuw, xra, xea, xtj, xte) (nI sc, nI t, nI jc, nI (sg_cnt xen jc), xse, yss, xac, xji, xen, yho, ywh, xtj, xte, upd xst i 1, upd ypl i 0, upd ydn i 0, upd yas i 0, upd ywt i 0, yun, yrs, upd (upd (upd (upd yva (4 * i) y) (4 * i + 1) 0) (4 * i + 2) 0) (4 * i + 3) 0, upd (upd (upd yha (3 * i) (-1)) (3 * i + 1) (-1)) (3 * i + 2) (-1), xpa, xpi, xps, yso, xsv, xct) := by
          refine ⟨sc, jc, ⟨⟨⟨rfl, rfl, rfl, rfl⟩, rfl, rfl, rfl, rfl, rfl, rfl, rfl, rfl, rfl, rfl, rfl, rfl⟩, ⟨rfl, rfl, rfl, rfl⟩, hset, hprog, hjobs, hjas⟩, fun m hm => ?_⟩
          by_cases e : m = i
          · subst e
            refine Or.inr ⟨0, ⟨by omega, k5, ?_, ⟨0, by omega, k8, fun z hz => absurd hz (by omega)⟩, ⟨0, by omega, k9, fun z hz => absurd hz (by omega)⟩⟩, Or.inr ⟨1, 0, Or.inl rfl, pk_us, k7, by omega, k2, pk_us, ?_, ?_, Or.inl ⟨rfl, pk_us, k3, k4, ?_⟩⟩⟩
            · intro z hz
              obtain rfl | rfl | rfl | rfl : z = 0 ∨ z = 1 ∨ z = 2 ∨ z = 3 := by omega
              · rw [pk_un (by omega), pk_un (by omega), pk_un (by omega), Nat.add_zero, pk_us, pk_us]
              · rw [pk_un (by omega), pk_un (by omega), pk_us, pk_un (by omega), kv 1 (by omega)]
              · rw [pk_un (by omega), pk_us, pk_un (by omega), kv 2 (by omega)]
              · rw [pk_us, pk_un (by omega), kv 3 (by omega)]
            · rw [pk_us, k5]
            · rw [pk_us, k6]
            · intro z hz
              obtain rfl | rfl | rfl : z = 0 ∨ z = 1 ∨ z = 2 := by omega
              · rw [pk_un (by omega), pk_un (by omega), Nat.add_zero, pk_us]
                exact ⟨(kh 0 (by omega)).symm, Or.inl (kh 0 (by omega))⟩
              · rw [pk_un (by omega), pk_us]
                exact ⟨(kh 1 (by omega)).symm, Or.inl (kh 1 (by omega))⟩
              · rw [pk_us]
                exact ⟨(kh 2 (by omega)).symm, Or.inl (kh 2 (by omega))⟩
          · have o0 : sg_out i 4 xva (upd xva (4 * i) y) := sg_o_u (p := 0) (by omega)
            have o1 : sg_out i 4 yva (upd (upd (upd (upd yva (4 * i) y) (4 * i + 1) 0) (4 * i + 2) 0) (4 * i + 3) 0) := sg_o_t (sg_o_t (sg_o_t (sg_o_u (p := 0) (by omega)) (sg_o_u (by omega))) (sg_o_u (by omega))) (sg_o_u (by omega))
            have o2 : sg_out i 3 yha (upd (upd (upd yha (3 * i) (-1)) (3 * i + 1) (-1)) (3 * i + 2) (-1)) := sg_o_t (sg_o_t (sg_o_u (p := 0) (by omega)) (sg_o_u (by omega))) (sg_o_u (by omega))
            exact sg_flow_fr e (hf m hm) (o_xva := o0) (o_yva := o1) (o_yha := o2)
        obtain ⟨u2, v2, p1, p2, p3, p4⟩ := sg_serve hi3 R1
        have est := sg_st_eq p3
        obtain ⟨z1, z2, z3, z4, z5, z6, z7, z8, z9, z10, z11, z12, z13, z14, z15, z16, z17, z18, z19, z20, z21, z22, z23, z24, z25, z26, z27, z28, z29, z30, z31, z32, z33, z34, z35, z36⟩ := u2
        obtain ⟨w1, w2, w3, w4, w5, w6, w7, w8, w9, w10, w11, w12, w13, w14, w15, w16, w17, w18, w19, w20, w21, w22, w23, w24, w25, w26, w27, w28⟩ := v2
        have est : w14 = z10 := est
        subst est
        refine ⟨w14 i, _, _, fun P h => ?_, fun P h => ?_, ⟨t, by omega, p3, p4⟩⟩
        · simp (disch := omega) only [wpX_start, wpX_isWorkflow, wpX_isIn, sg_neg, h2, sg_n1, ci, b3, c, sg_m3, sg_m3', sg_m4, sg_m4', sg_m6, sg_m6', sg_m7, sg_m7', sg_m200, sg_m200', nI_add, sg_a1, sg_a2, sg_a3, sg_a4, sg_a5, sg_a6, Int32.add_zero, sg_inT, nI_clamp, sg_lits, sg_mA, sg_mB, sg_mC, sg_mD, sg_mE, sg_mF, Int32.reduceLT, Int32.reduceLE, forall_eq, true_and, and_true, true_implies, false_implies, not_true_eq_false, not_false_eq_true, implies_true]
          exact p1 _ h
        · simp (disch := omega) only [wpY_start, wpY_isIn, sg_neg, h2, ci, b3, c, eps, ect, sg_m3, sg_m3', sg_m4, sg_m4', sg_m6, sg_m6', sg_m7, sg_m7', sg_m200, sg_m200', nI_add, sg_a1, sg_a2, sg_a3, sg_a4, sg_a5, sg_a6, Int32.add_zero, sg_inT, nI_clamp, sg_lits, sg_mA, sg_mB, sg_mC, sg_mD, sg_mE, sg_mF, Int32.reduceLT, Int32.reduceLE, forall_eq, true_and, and_true, true_implies, false_implies, not_true_eq_false, not_false_eq_true, implies_true]
          refine ⟨5, ?_⟩
          simp (disch := omega) only [wY_start_75, sg_adds, sg_m3, sg_m3', sg_m4, sg_m4', sg_m6, sg_m6', sg_m7, sg_m7', sg_m200, sg_m200', nI_add, sg_a1, sg_a2, sg_a3, sg_a4, sg_a5, sg_a6, Int32.add_zero, sg_inT, nI_clamp, sg_lits, sg_mA, sg_mB, sg_mC, sg_mD, sg_mE, sg_mF, Int32.reduceLT, Int32.reduceLE, forall_eq, true_and, and_true, true_implies, false_implies, not_true_eq_false, not_false_eq_true, implies_true]
          refine ⟨4, ?_⟩
          simp (disch := omega) only [wY_start_107, sg_adds, sg_m3, sg_m3', sg_m4, sg_m4', sg_m6, sg_m6', sg_m7, sg_m7', sg_m200, sg_m200', nI_add, sg_a1, sg_a2, sg_a3, sg_a4, sg_a5, sg_a6, Int32.add_zero, sg_inT, nI_clamp, sg_lits, sg_mA, sg_mB, sg_mC, sg_mD, sg_mE, sg_mF, Int32.reduceLT, Int32.reduceLE, forall_eq, true_and, and_true, true_implies, false_implies, not_true_eq_false, not_false_eq_true, implies_true]
          exact p2 _ h
      · exfalso
        rcases hx with ⟨s, s1, s2, s3, s4⟩ | ⟨md, f, hmd, ha⟩
        · have z := (nI_eq (b := 0) (by omega) (by omega)).mp (s3.symm.trans c)
          omega
        · exact absurd (ha.1.symm.trans c) (by decide)
    · refine ⟨-3, _, _, fun P h => ?_, fun P h => ?_, I5⟩
      · simp (disch := omega) only [wpX_start, wpX_isWorkflow, wpX_isIn, sg_neg, h2, sg_n1, ci, b3, c, sg_m3, sg_m3', sg_m4, sg_m4', sg_m6, sg_m6', sg_m7, sg_m7', sg_m200, sg_m200', nI_add, sg_a1, sg_a2, sg_a3, sg_a4, sg_a5, sg_a6, Int32.add_zero, sg_inT, nI_clamp, sg_lits, sg_mA, sg_mB, sg_mC, sg_mD, sg_mE, sg_mF, Int32.reduceLT, Int32.reduceLE, forall_eq, true_and, and_true, true_implies, false_implies, not_true_eq_false, not_false_eq_true, implies_true]
        exact h
      · simp (disch := omega) only [wpY_start, wpY_isIn, sg_neg, h2, ci, b3, c, sg_m3, sg_m3', sg_m4, sg_m4', sg_m6, sg_m6', sg_m7, sg_m7', sg_m200, sg_m200', nI_add, sg_a1, sg_a2, sg_a3, sg_a4, sg_a5, sg_a6, Int32.add_zero, sg_inT, nI_clamp, sg_lits, sg_mA, sg_mB, sg_mC, sg_mD, sg_mE, sg_mF, Int32.reduceLT, Int32.reduceLE, forall_eq, true_and, and_true, true_implies, false_implies, not_true_eq_false, not_false_eq_true, implies_true]
        exact h
theorem i_vc_start {k : Nat} {u : SX} {v : SY} (I : i_Rel k u v) (hk : k + 5 ≤ 2560) (v1 : Int32) (v2 : Int32) : wpX_start (fun r u' => wpY_start (fun r' v' => r' = r ∧ i_Rel (k + 5) u' v') v v1 v2) u v1 v2 := by
  obtain ⟨r, u', v', h1, h2, h3⟩ := sg_start I v1 v2
  exact h1 _ (h2 _ ⟨rfl, h3⟩)
theorem i_vc_crash {k : Nat} {u : SX} {v : SY} (I : i_Rel k u v) (hk : k + 5 ≤ 2560) : wpX_crash (fun u' => wpY_crash (fun v' => i_Rel (k + 5) u' v') v) u := by
  have I5 := i_up I
  obtain ⟨xsc, xnow, xjc, xec, xse, xki, xpp, xqq, xrr, xst, xfs, xin, xtb, xaj, xat, xsd, xja, xev, xva, xha, xps, xpa, xpi, xct, xsn, xsv, xtk, xac, xji, xou, xen, xuw, xra, xea, xtj, xte⟩ := u
  obtain ⟨ysc, ynow, yjc, yec, yse, yss, yac, yji, yen, yho, ywh, ytj, yte, yst, ypl, ydn, yas, ywt, yun, yrs, yva, yha, ypa, ypi, yps, yso, ysv, yct⟩ := v
  exact I5
end
section
theorem sg_sig_put {i n s : Nat} {xct xsn xtk yso : Nat → Int32} (hn : n < 6) (hs : s < 2) (hct : xct i = nI n) (H : ∀ m, m < n → (xsn (6 * i + m) = 0 ∨ xsn (6 * i + m) = 1) ∧ ((xtk (6 * i + m) = 0 ∧ yso (6 * i + m) = xsn (6 * i + m)) ∨ (xtk (6 * i + m) = 1 ∧ yso (6 * i + m) = -1))) : sg_sig i (upd xct i (nI (n + 1))) (upd xsn (6 * i + n) (nI s)) (upd xtk (6 * i + n) 0) (upd yso (6 * i + n) (nI s)) := by
  refine ⟨n + 1, by omega, pk_us, fun m hm => ?_⟩
  by_cases c : m = n
  · subst c
    rw [pk_us, pk_us, pk_us]
    refine ⟨?_, Or.inl ⟨rfl, rfl⟩⟩
    obtain rfl | rfl : s = 0 ∨ s = 1 := by omega
    · exact Or.inl rfl
    · exact Or.inr rfl
  · rw [pk_un (by omega), pk_un (by omega), pk_un (by omega)]
    exact H m (by omega)
theorem sg_signal {k : Nat} {u : SX} {v : SY} (I : i_Rel k u v) (x y z : Int32) : ∃ r u' v', (∀ P : Int32 → SX → Prop, P r u' → wpX_signal P u x y z) ∧ (∀ P : Int32 → SY → Prop, P r v' → wpY_signal P v x y z) ∧ i_Rel (k + 5) u' v' := by
  have I5 := i_up I
  obtain ⟨t, ht, H, HL⟩ := I
  rcases sg_rng x 2 (by decide) with h0 | ⟨h0, h2⟩ | ⟨i, hi, rfl⟩
  · refine ⟨-1, u, v, fun P h => ?_, fun P h => ?_, I5⟩
    · obtain ⟨xsc, xnow, xjc, xec, xse, xki, xpp, xqq, xrr, xst, xfs, xin, xtb, xaj, xat, xsd, xja, xev, xva, xha, xps, xpa, xpi, xct, xsn, xsv, xtk, xac, xji, xou, xen, xuw, xra, xea, xtj, xte⟩ := u
      simp only [wpX_signal, wpX_isWorkflow, wpX_isIn, h0, sg_n0, forall_eq, true_and, and_true, true_implies, false_implies, not_true_eq_false, not_false_eq_true, implies_true]
      exact h
    · obtain ⟨ysc, ynow, yjc, yec, yse, yss, yac, yji, yen, yho, ywh, ytj, yte, yst, ypl, ydn, yas, ywt, yun, yrs, yva, yha, ypa, ypi, yps, yso, ysv, yct⟩ := v
      simp only [wpY_signal, wpY_isIn, h0, forall_eq, true_and, and_true, true_implies, false_implies, not_true_eq_false, not_false_eq_true, implies_true]
      exact h
  · have h2 : (2 : Int32) < x := h2
    refine ⟨-1, u, v, fun P h => ?_, fun P h => ?_, I5⟩
    · obtain ⟨xsc, xnow, xjc, xec, xse, xki, xpp, xqq, xrr, xst, xfs, xin, xtb, xaj, xat, xsd, xja, xev, xva, xha, xps, xpa, xpi, xct, xsn, xsv, xtk, xac, xji, xou, xen, xuw, xra, xea, xtj, xte⟩ := u
      simp only [wpX_signal, wpX_isWorkflow, wpX_isIn, h0, h2, sg_n0, forall_eq, true_and, and_true, true_implies, false_implies, not_true_eq_false, not_false_eq_true, implies_true]
      exact h
    · obtain ⟨ysc, ynow, yjc, yec, yse, yss, yac, yji, yen, yho, ywh, ytj, yte, yst, ypl, ydn, yas, ywt, yun, yrs, yva, yha, ypa, ypi, yps, yso, ysv, yct⟩ := v
      simp only [wpY_signal, wpY_isIn, h0, h2, forall_eq, true_and, and_true, true_implies, false_implies, not_true_eq_false, not_false_eq_true, implies_true]
      exact h
  · have hi3 : i < 3 := by omega
    have b3 : vp_in (nI i) 3 := vp_in_nI hi3 (by omega)
    have ci : (nI i).toNatClampNeg = i := nI_clamp (by omega)
    have h2 := sg_2n hi
    rcases sg_rng y 1 (by decide) with g0 | ⟨g0, g2⟩ | ⟨s, hs, rfl⟩
    · refine ⟨-1, u, v, fun P h => ?_, fun P h => ?_, I5⟩
      · obtain ⟨xsc, xnow, xjc, xec, xse, xki, xpp, xqq, xrr, xst, xfs, xin, xtb, xaj, xat, xsd, xja, xev, xva, xha, xps, xpa, xpi, xct, xsn, xsv, xtk, xac, xji, xou, xen, xuw, xra, xea, xtj, xte⟩ := u
        simp (disch := omega) only [wpX_signal, wpX_isWorkflow, wpX_isIn, sg_neg, h2, g0, sg_n1, sg_lits, sg_mA, sg_mB, sg_mC, sg_mD, sg_mE, sg_mF, Int32.reduceLT, Int32.reduceLE, forall_eq, true_and, and_true, true_implies, false_implies, not_true_eq_false, not_false_eq_true, implies_true]
        exact h
      · obtain ⟨ysc, ynow, yjc, yec, yse, yss, yac, yji, yen, yho, ywh, ytj, yte, yst, ypl, ydn, yas, ywt, yun, yrs, yva, yha, ypa, ypi, yps, yso, ysv, yct⟩ := v
        simp (disch := omega) only [wpY_signal, wpY_isIn, sg_neg, h2, g0, sg_lits, sg_mA, sg_mB, sg_mC, sg_mD, sg_mE, sg_mF, Int32.reduceLT, Int32.reduceLE, forall_eq, true_and, and_true, true_implies, false_implies, not_true_eq_false, not_false_eq_true, implies_true]
        exact h
    · have g2 : (1 : Int32) < y := g2
      refine ⟨-1, u, v, fun P h => ?_, fun P h => ?_, I5⟩
      · obtain ⟨xsc, xnow, xjc, xec, xse, xki, xpp, xqq, xrr, xst, xfs, xin, xtb, xaj, xat, xsd, xja, xev, xva, xha, xps, xpa, xpi, xct, xsn, xsv, xtk, xac, xji, xou, xen, xuw, xra, xea, xtj, xte⟩ := u
        simp (disch := omega) only [wpX_signal, wpX_isWorkflow, wpX_isIn, sg_neg, h2, g0, g2, sg_n1, sg_lits, sg_mA, sg_mB, sg_mC, sg_mD, sg_mE, sg_mF, Int32.reduceLT, Int32.reduceLE, forall_eq, true_and, and_true, true_implies, false_implies, not_true_eq_false, not_false_eq_true, implies_true]
        exact h
      · obtain ⟨ysc, ynow, yjc, yec, yse, yss, yac, yji, yen, yho, ywh, ytj, yte, yst, ypl, ydn, yas, ywt, yun, yrs, yva, yha, ypa, ypi, yps, yso, ysv, yct⟩ := v
        simp (disch := omega) only [wpY_signal, wpY_isIn, sg_neg, h2, g0, g2, sg_lits, sg_mA, sg_mB, sg_mC, sg_mD, sg_mE, sg_mF, Int32.reduceLT, Int32.reduceLE, forall_eq, true_and, and_true, true_implies, false_implies, not_true_eq_false, not_false_eq_true, implies_true]
        exact h
    · have g2 := sg_1n hs
      obtain ⟨xsc, xnow, xjc, xec, xse, xki, xpp, xqq, xrr, xst, xfs, xin, xtb, xaj, xat, xsd, xja, xev, xva, xha, xps, xpa, xpi, xct, xsn, xsv, xtk, xac, xji, xou, xen, xuw, xra, xea, xtj, xte⟩ := u
      obtain ⟨ysc, ynow, yjc, yec, yse, yss, yac, yji, yen, yho, ywh, ytj, yte, yst, ypl, ydn, yas, ywt, yun, yrs, yva, yha, ypa, ypi, yps, yso, ysv, yct⟩ := v
      obtain ⟨sc, jc, ⟨⟨⟨e1, e2, e3, e4⟩, e5, e6, e7, e8, e9, e10, e11, e12, e13, e14, e15, e16⟩, ⟨g1, g2, g3, g4⟩, hset, hprog, hjobs, hjas⟩, hf⟩ := H
      subst e1 e2 e3 e4 e5 e6 e7 e8 e9 e10 e11 e12 e13 e14 e15 e16 g1 g2 g3 g4
      by_cases c : xst i = 1
      · rcases hf i hi3 with hid | ⟨d, ⟨hd, hsd, hva, hpil, n, hn6, hct, hsig⟩, hx⟩
        · exact absurd (hid.1.symm.trans c) (by decide)
        · by_cases cn : n < 6
          · have c6 : nI n < 6 := nI_lt (b := 6) cn (by decide)
            have c7 : ¬ nI n = 6 := fun z => by
              have := (nI_eq (b := 6) (by omega) (by omega)).mp z
              omega
            have R1 : sg_R t (nI sc, nI t, nI jc, nI (sg_cnt xen jc), xse, xki, xpp, xqq, xrr, xst, xfs, xin, xtb, xaj, xat, xsd, xja, xev, xva, xha, xps, xpa, xpi, upd xct i (nI (n + 1)), upd xsn (6 * i + n) (nI s), upd xsv (6 * i + n) z, upd xtk (6 * i + n) 0, xac, xji, xou, xen, xuw, xra, xea, xtj, xte) (nI sc, nI t, nI jc, nI (sg_cnt xen jc), xse, yss, xac, xji, xen, yho, ywh, xtj, xte, xst, ypl, ydn, yas, ywt, yun, yrs, yva, yha, xpa, xpi, xps, upd yso (6 * i + n) (nI s), upd xsv (6 * i + n) z, upd xct i (nI (n + 1))) := by
              refine ⟨sc, jc, ⟨⟨⟨rfl, rfl, rfl, rfl⟩, rfl, rfl, rfl, rfl, rfl, rfl, rfl, rfl, rfl, rfl, rfl, rfl⟩, ⟨rfl, rfl, rfl, rfl⟩, hset, hprog, hjobs, hjas⟩, fun m hm => ?_⟩
              by_cases e : m = i
              · subst e
                exact Or.inr ⟨d, ⟨hd, hsd, hva, hpil, sg_sig_put cn (by omega) hct hsig⟩, hx⟩
              · exact sg_flow_fr e (hf m hm)
            obtain ⟨u2, v2, p1, p2, p3, p4⟩ := sg_serve hi3 R1
            have est := sg_st_eq p3
            obtain ⟨z1, z2, z3, z4, z5, z6, z7, z8, z9, z10, z11, z12, z13, z14, z15, z16, z17, z18, z19, z20, z21, z22, z23, z24, z25, z26, z27, z28, z29, z30, z31, z32, z33, z34, z35, z36⟩ := u2
            obtain ⟨w1, w2, w3, w4, w5, w6, w7, w8, w9, w10, w11, w12, w13, w14, w15, w16, w17, w18, w19, w20, w21, w22, w23, w24, w25, w26, w27, w28⟩ := v2
            have est : w14 = z10 := est
            subst est
            refine ⟨w14 i, _, _, fun P h => ?_, fun P h => ?_, ⟨t, by omega, p3, p4⟩⟩
            · simp (disch := omega) only [wpX_signal, wpX_isWorkflow, wpX_isIn, sg_neg, h2, g2, sg_n1, sg_b0, ci, b3, c, hct, c6, sg_m3, sg_m3', sg_m4, sg_m4', sg_m6, sg_m6', sg_m7, sg_m7', sg_m200, sg_m200', nI_add, sg_a1, sg_a2, sg_a3, sg_a4, sg_a5, sg_a6, Int32.add_zero, sg_inT, nI_clamp, sg_lits, sg_mA, sg_mB, sg_mC, sg_mD, sg_mE, sg_mF, Int32.reduceLT, Int32.reduceLE, forall_eq, true_and, and_true, true_implies, false_implies, not_true_eq_false, not_false_eq_true, implies_true]
              exact p1 _ h
            · simp (disch := omega) only [wpY_signal, wpY_isIn, sg_neg, h2, g2, ci, b3, c, hct, c7, sg_m3, sg_m3', sg_m4, sg_m4', sg_m6, sg_m6', sg_m7, sg_m7', sg_m200, sg_m200', nI_add, sg_a1, sg_a2, sg_a3, sg_a4, sg_a5, sg_a6, Int32.add_zero, sg_inT, nI_clamp, sg_lits, sg_mA, sg_mB, sg_mC, sg_mD, sg_mE, sg_mF, Int32.reduceLT, Int32.reduceLE, forall_eq, true_and, and_true, true_implies, false_implies, not_true_eq_false, not_false_eq_true, implies_true]
              exact p2 _ h
          · have e6' : n = 6 := by omega
            subst e6'
            have c6 : ¬ nI 6 < 6 := by decide
            have c7 : nI 6 = 6 := rfl
            refine ⟨-2, _, _, fun P h => ?_, fun P h => ?_, I5⟩
            · simp (disch := omega) only [wpX_signal, wpX_isWorkflow, wpX_isIn, sg_neg, h2, g2, sg_n1, ci, b3, c, hct, c6, sg_m3, sg_m3', sg_m4, sg_m4', sg_m6, sg_m6', sg_m7, sg_m7', sg_m200, sg_m200', nI_add, sg_a1, sg_a2, sg_a3, sg_a4, sg_a5, sg_a6, Int32.add_zero, sg_inT, nI_clamp, sg_lits, sg_mA, sg_mB, sg_mC, sg_mD, sg_mE, sg_mF, Int32.reduceLT, Int32.reduceLE, forall_eq, true_and, and_true, true_implies, false_implies, not_true_eq_false, not_false_eq_true, implies_true]
              exact h
            · simp (disch := omega) only [wpY_signal, wpY_isIn, sg_neg, h2, g2, ci, b3, c, hct, c7, sg_m3, sg_m3', sg_m4, sg_m4', sg_m6, sg_m6', sg_m7, sg_m7', sg_m200, sg_m200', nI_add, sg_a1, sg_a2, sg_a3, sg_a4, sg_a5, sg_a6, Int32.add_zero, sg_inT, nI_clamp, sg_lits, sg_mA, sg_mB, sg_mC, sg_mD, sg_mE, sg_mF, Int32.reduceLT, Int32.reduceLE, forall_eq, true_and, and_true, true_implies, false_implies, not_true_eq_false, not_false_eq_true, implies_true]
              exact h
      · refine ⟨-4, _, _, fun P h => ?_, fun P h => ?_, I5⟩
        · simp (disch := omega) only [wpX_signal, wpX_isWorkflow, wpX_isIn, sg_neg, h2, g2, sg_n1, ci, b3, c, sg_m3, sg_m3', sg_m4, sg_m4', sg_m6, sg_m6', sg_m7, sg_m7', sg_m200, sg_m200', nI_add, sg_a1, sg_a2, sg_a3, sg_a4, sg_a5, sg_a6, Int32.add_zero, sg_inT, nI_clamp, sg_lits, sg_mA, sg_mB, sg_mC, sg_mD, sg_mE, sg_mF, Int32.reduceLT, Int32.reduceLE, forall_eq, true_and, and_true, true_implies, false_implies, not_true_eq_false, not_false_eq_true, implies_true]
          exact h
        · simp (disch := omega) only [wpY_signal, wpY_isIn, sg_neg, h2, g2, ci, b3, c, sg_m3, sg_m3', sg_m4, sg_m4', sg_m6, sg_m6', sg_m7, sg_m7', sg_m200, sg_m200', nI_add, sg_a1, sg_a2, sg_a3, sg_a4, sg_a5, sg_a6, Int32.add_zero, sg_inT, nI_clamp, sg_lits, sg_mA, sg_mB, sg_mC, sg_mD, sg_mE, sg_mF, Int32.reduceLT, Int32.reduceLE, forall_eq, true_and, and_true, true_implies, false_implies, not_true_eq_false, not_false_eq_true, implies_true]
          exact h
theorem i_vc_signal {k : Nat} {u : SX} {v : SY} (I : i_Rel k u v) (hk : k + 5 ≤ 2560) (v1 : Int32) (v2 : Int32) (v3 : Int32) : wpX_signal (fun r u' => wpY_signal (fun r' v' => r' = r ∧ i_Rel (k + 5) u' v') v v1 v2 v3) u v1 v2 v3 := by
  obtain ⟨r, u', v', h1, h2, h3⟩ := sg_signal I v1 v2 v3
  exact h1 _ (h2 _ ⟨rfl, h3⟩)
/-! time goes on -/
def sg_XA (m n c : Nat) (P : Int32 → SX → Prop) (u : SX) : Prop := match u with
  | (xsc, xnow, xjc, xec, xse, xki, xpp, xqq, xrr, xst, xfs, xin, xtb, xaj, xat, xsd, xja, xev, xva, xha, xps, xpa, xpi, xct, xsn, xsv, xtk, xac, xji, xou, xen, xuw, xra, xea, xtj, xte) => wX_advance_14 P (nI m) n (nI c) xsc xnow xjc xec xse xki xpp xqq xrr xst xfs xin xtb xaj xat xsd xja xev xva xha xps xpa xpi xct xsn xsv xtk xac xji xou xen xuw xra xea xtj xte
def sg_YA (m n c : Nat) (P : Int32 → SY → Prop) (v : SY) : Prop := match v with
  | (ysc, ynow, yjc, yec, yse, yss, yac, yji, yen, yho, ywh, ytj, yte, yst, ypl, ydn, yas, ywt, yun, yrs, yva, yha, ypa, ypi, yps, yso, ysv, yct) => wY_advance_15 P (nI m) n (nI c) ysc ynow yjc yec yse yss yac yji yen yho ywh ytj yte yst ypl ydn yas ywt yun yrs yva yha ypa ypi yps yso ysv yct
def sg_tX (u : SX) : SX := match u with
  | (xsc, xnow, xjc, xec, xse, xki, xpp, xqq, xrr, xst, xfs, xin, xtb, xaj, xat, xsd, xja, xev, xva, xha, xps, xpa, xpi, xct, xsn, xsv, xtk, xac, xji, xou, xen, xuw, xra, xea, xtj, xte) => (xsc, xnow + 1, xjc, xec, xse, xki, xpp, xqq, xrr, xst, xfs, xin, xtb, xaj, xat, xsd, xja, xev, xva, xha, xps, xpa, xpi, xct, xsn, xsv, xtk, xac, xji, xou, xen, xuw, xra, xea, xtj, xte)
def sg_tY (v : SY) : SY := match v with
  | (ysc, ynow, yjc, yec, yse, yss, yac, yji, yen, yho, ywh, ytj, yte, yst, ypl, ydn, yas, ywt, yun, yrs, yva, yha, ypa, ypi, yps, yso, ysv, yct) => (ysc, ynow + 1, yjc, yec, yse, yss, yac, yji, yen, yho, ywh, ytj, yte, yst, ypl, ydn, yas, ywt, yun, yrs, yva, yha, ypa, ypi, yps, yso, ysv, yct)
theorem sg_tick {t : Nat} {u : SX} {v : SY} (ht : t + 1 < 2 ^ 31) (H : sg_R t u v) : sg_R (t + 1) (sg_tX u) (sg_tY v) := by
  obtain ⟨xsc, xnow, xjc, xec, xse, xki, xpp, xqq, xrr, xst, xfs, xin, xtb, xaj, xat, xsd, xja, xev, xva, xha, xps, xpa, xpi, xct, xsn, xsv, xtk, xac, xji, xou, xen, xuw, xra, xea, xtj, xte⟩ := u
  obtain ⟨ysc, ynow, yjc, yec, yse, yss, yac, yji, yen, yho, ywh, ytj, yte, yst, ypl, ydn, yas, ywt, yun, yrs, yva, yha, ypa, ypi, yps, yso, ysv, yct⟩ := v
  obtain ⟨sc, jc, ⟨⟨⟨e1, e2, e3, e4⟩, e5, e6, e7, e8, e9, e10, e11, e12, e13, e14, e15, e16⟩, ⟨g1, g2, g3, g4⟩, hset, hprog, hjobs, hjas⟩, hf⟩ := H
  subst e1 e2 e3 e4 e5 e6 e7 e8 e9 e10 e11 e12 e13 e14 e15 e16 g1 g2 g3 g4
  exact ⟨sc, jc, ⟨⟨⟨rfl, rfl, rfl, rfl⟩, rfl, rfl, rfl, rfl, rfl, rfl, rfl, rfl, rfl, rfl, rfl, rfl⟩, ⟨rfl, sg_a1 t, rfl, rfl⟩, hset, hprog, sg_jobs_up ht hjobs, hjas⟩, hf⟩
theorem sg_adv1 {t m c : Nat} {u : SX} {v : SY} (hm : m ≤ 100) (hc : c < m) (ht : t + 1 < 2 ^ 31) (H : sg_R t u v) : ∃ u1 v1, (∀ (n : Nat) (P : Int32 → SX → Prop), sg_XA m n (c + 1) P u1 → sg_XA m (n + 1) c P u) ∧ (∀ (n : Nat) (P : Int32 → SY → Prop), sg_YA m n (c + 1) P v1 → sg_YA m (n + 1) c P v) ∧ sg_R (t + 1) u1 v1 ∧ sg_late u1 v1 := by
  obtain ⟨u1, v1, a1, a2, a3⟩ := sg_ends (sg_tick ht H)
  obtain ⟨u2, v2, b1, b2, b3⟩ := sg_work (i := 0) (by omega) a3
  obtain ⟨u3, v3, c1, c2, c3⟩ := sg_work (i := 1) (by omega) b3
  obtain ⟨u4, v4, d1, d2, d3⟩ := sg_work (i := 2) (by omega) c3
  obtain ⟨u5, v5, e1, e2, e3, e4⟩ := sg_begin d3
  refine ⟨u5, v5, fun n P h => ?_, fun n P h => ?_, e3, e4⟩
  · obtain ⟨xsc, xnow, xjc, xec, xse, xki, xpp, xqq, xrr, xst, xfs, xin, xtb, xaj, xat, xsd, xja, xev, xva, xha, xps, xpa, xpi, xct, xsn, xsv, xtk, xac, xji, xou, xen, xuw, xra, xea, xtj, xte⟩ := u
    have h1 : ¬ nI m ≤ nI c := nI_ge hc (by omega)
    simp only [sg_XA, wX_advance_14, h1, forall_eq, true_and, and_true, true_implies, false_implies, not_true_eq_false, not_false_eq_true, implies_true]
    refine a1 _ ?_
    obtain ⟨p1, p2, p3, p4, p5, p6, p7, p8, p9, p10, p11, p12, p13, p14, p15, p16, p17, p18, p19, p20, p21, p22, p23, p24, p25, p26, p27, p28, p29, p30, p31, p32, p33, p34, p35, p36⟩ := u1
    refine ⟨4, ?_⟩
    simp only [wX_advance_35, sg_adds, sg_lits, sg_mA, sg_mB, sg_mC, sg_mD, sg_mE, sg_mF, Int32.reduceLT, Int32.reduceLE, forall_eq, true_and, and_true, true_implies, false_implies, not_true_eq_false, not_false_eq_true, implies_true]
    refine b1 _ ?_
    refine c1 _ ?_
    refine d1 _ ?_
    refine e1 _ ?_
    obtain ⟨z1, z2, z3, z4, z5, z6, z7, z8, z9, z10, z11, z12, z13, z14, z15, z16, z17, z18, z19, z20, z21, z22, z23, z24, z25, z26, z27, z28, z29, z30, z31, z32, z33, z34, z35, z36⟩ := u5
    have e : nI c + 1 = nI (c + 1) := sg_a1 c
    simp only [e, forall_eq, true_and, and_true, true_implies, false_implies, not_true_eq_false, not_false_eq_true, implies_true]
    exact h
  · obtain ⟨ysc, ynow, yjc, yec, yse, yss, yac, yji, yen, yho, ywh, ytj, yte, yst, ypl, ydn, yas, ywt, yun, yrs, yva, yha, ypa, ypi, yps, yso, ysv, yct⟩ := v
    have h1 : ¬ nI m ≤ nI c := nI_ge hc (by omega)
    simp only [sg_YA, wY_advance_15, h1, forall_eq, true_and, and_true, true_implies, false_implies, not_true_eq_false, not_false_eq_true, implies_true]
    refine a2 _ ?_
    refine b2 _ ?_
    refine c2 _ ?_
    refine d2 _ ?_
    refine e2 _ ?_
    obtain ⟨w1, w2, w3, w4, w5, w6, w7, w8, w9, w10, w11, w12, w13, w14, w15, w16, w17, w18, w19, w20, w21, w22, w23, w24, w25, w26, w27, w28⟩ := v5
    have e : nI c + 1 = nI (c + 1) := sg_a1 c
    simp only [e, forall_eq, true_and, and_true, true_implies, false_implies, not_true_eq_false, not_false_eq_true, implies_true]
    exact h
theorem sg_advl {m : Nat} (hm : m ≤ 100) : ∀ (k c N t : Nat) (u : SX) (v : SY), c + k = m → k < N → t + k < 2 ^ 31 → sg_R t u v → sg_late u v → ∃ r u1 v1, (∀ P : Int32 → SX → Prop, P r u1 → sg_XA m N c P u) ∧ (∀ P : Int32 → SY → Prop, P r v1 → sg_YA m N c P v) ∧ sg_R (t + k) u1 v1 ∧ sg_late u1 v1 := by
  intro k
  induction k with
  | zero =>
    intro c N t u v hc hN ht H HL
    obtain ⟨N, rfl⟩ : ∃ n, N = n + 1 := ⟨N - 1, by omega⟩
    have e : c = m := by omega
    subst e
    refine ⟨nI t, u, v, fun P h => ?_, fun P h => ?_, H, HL⟩
    · obtain ⟨xsc, xnow, xjc, xec, xse, xki, xpp, xqq, xrr, xst, xfs, xin, xtb, xaj, xat, xsd, xja, xev, xva, xha, xps, xpa, xpi, xct, xsn, xsv, xtk, xac, xji, xou, xen, xuw, xra, xea, xtj, xte⟩ := u
      obtain ⟨ysc, ynow, yjc, yec, yse, yss, yac, yji, yen, yho, ywh, ytj, yte, yst, ypl, ydn, yas, ywt, yun, yrs, yva, yha, ypa, ypi, yps, yso, ysv, yct⟩ := v
      obtain ⟨sc, jc, ⟨⟨⟨e1, e2, e3, e4⟩, e5, e6, e7, e8, e9, e10, e11, e12, e13, e14, e15, e16⟩, ⟨g1, g2, g3, g4⟩, hset, hprog, hjobs, hjas⟩, hf⟩ := H
      subst e1 e2 e3 e4 e5 e6 e7 e8 e9 e10 e11 e12 e13 e14 e15 e16 g1 g2 g3 g4
      simp (disch := omega) only [sg_XA, wX_advance_14, sg_leT, forall_eq, true_and, and_true, true_implies, false_implies, not_true_eq_false, not_false_eq_true, implies_true]
      exact h
    · obtain ⟨xsc, xnow, xjc, xec, xse, xki, xpp, xqq, xrr, xst, xfs, xin, xtb, xaj, xat, xsd, xja, xev, xva, xha, xps, xpa, xpi, xct, xsn, xsv, xtk, xac, xji, xou, xen, xuw, xra, xea, xtj, xte⟩ := u
      obtain ⟨ysc, ynow, yjc, yec, yse, yss, yac, yji, yen, yho, ywh, ytj, yte, yst, ypl, ydn, yas, ywt, yun, yrs, yva, yha, ypa, ypi, yps, yso, ysv, yct⟩ := v
      obtain ⟨sc, jc, ⟨⟨⟨e1, e2, e3, e4⟩, e5, e6, e7, e8, e9, e10, e11, e12, e13, e14, e15, e16⟩, ⟨g1, g2, g3, g4⟩, hset, hprog, hjobs, hjas⟩, hf⟩ := H
      subst e1 e2 e3 e4 e5 e6 e7 e8 e9 e10 e11 e12 e13 e14 e15 e16 g1 g2 g3 g4
      simp (disch := omega) only [sg_YA, wY_advance_15, sg_leT, forall_eq, true_and, and_true, true_implies, false_implies, not_true_eq_false, not_false_eq_true, implies_true]
      exact h
  | succ k ih =>
    intro c N t u v hc hN ht H HL
    obtain ⟨N, rfl⟩ : ∃ n, N = n + 1 := ⟨N - 1, by omega⟩
    obtain ⟨u1, v1, a1, a2, a3, a4⟩ := sg_adv1 (m := m) (c := c) hm (by omega) (by omega) H
    obtain ⟨r, u2, v2, b1, b2, b3, b4⟩ := ih (c + 1) N (t + 1) u1 v1 (by omega) (by omega) (by omega) a3 a4
    have e : t + 1 + k = t + (k + 1) := by omega
    exact ⟨r, u2, v2, fun P h => a1 N P (b1 P h), fun P h => a2 N P (b2 P h), e ▸ b3, b4⟩
theorem sg_advance {k : Nat} {u : SX} {v : SY} (I : i_Rel k u v) (hk : k + 5 ≤ 2560) (x : Int32) : ∃ r u' v', (∀ P : Int32 → SX → Prop, P r u' → wpX_advance P u x) ∧ (∀ P : Int32 → SY → Prop, P r v' → wpY_advance P v x) ∧ i_Rel (k + 5) u' v' := by
  have I5 := i_up I
  obtain ⟨t, ht, H, HL⟩ := I
  rcases sg_rng x 100 (by decide) with h0 | ⟨h0, h2⟩ | ⟨m, hm, rfl⟩
  · refine ⟨-1, u, v, fun P h => ?_, fun P h => ?_, I5⟩
    · obtain ⟨xsc, xnow, xjc, xec, xse, xki, xpp, xqq, xrr, xst, xfs, xin, xtb, xaj, xat, xsd, xja, xev, xva, xha, xps, xpa, xpi, xct, xsn, xsv, xtk, xac, xji, xou, xen, xuw, xra, xea, xtj, xte⟩ := u
      simp only [wpX_advance, wpX_isIn, h0, forall_eq, true_and, and_true, true_implies, false_implies, not_true_eq_false, not_false_eq_true, implies_true]
      exact h
    · obtain ⟨ysc, ynow, yjc, yec, yse, yss, yac, yji, yen, yho, ywh, ytj, yte, yst, ypl, ydn, yas, ywt, yun, yrs, yva, yha, ypa, ypi, yps, yso, ysv, yct⟩ := v
      simp only [wpY_advance, wpY_isIn, h0, forall_eq, true_and, and_true, true_implies, false_implies, not_true_eq_false, not_false_eq_true, implies_true]
      exact h
  · have h2 : (100 : Int32) < x := h2
    refine ⟨-1, u, v, fun P h => ?_, fun P h => ?_, I5⟩
    · obtain ⟨xsc, xnow, xjc, xec, xse, xki, xpp, xqq, xrr, xst, xfs, xin, xtb, xaj, xat, xsd, xja, xev, xva, xha, xps, xpa, xpi, xct, xsn, xsv, xtk, xac, xji, xou, xen, xuw, xra, xea, xtj, xte⟩ := u
      simp only [wpX_advance, wpX_isIn, h0, h2, forall_eq, true_and, and_true, true_implies, false_implies, not_true_eq_false, not_false_eq_true, implies_true]
      exact h
    · obtain ⟨ysc, ynow, yjc, yec, yse, yss, yac, yji, yen, yho, ywh, ytj, yte, yst, ypl, ydn, yas, ywt, yun, yrs, yva, yha, ypa, ypi, yps, yso, ysv, yct⟩ := v
      simp only [wpY_advance, wpY_isIn, h0, h2, forall_eq, true_and, and_true, true_implies, false_implies, not_true_eq_false, not_false_eq_true, implies_true]
      exact h
  · have h2 := sg_100n hm
    obtain ⟨r, u1, v1, a1, a2, a3, a4⟩ := sg_advl hm m 0 (m + 1) t u v (by omega) (by omega) (by omega) H HL
    refine ⟨r, u1, v1, fun P h => ?_, fun P h => ?_, ⟨t + m, by omega, a3, a4⟩⟩
    · have z := a1 P h
      obtain ⟨xsc, xnow, xjc, xec, xse, xki, xpp, xqq, xrr, xst, xfs, xin, xtb, xaj, xat, xsd, xja, xev, xva, xha, xps, xpa, xpi, xct, xsn, xsv, xtk, xac, xji, xou, xen, xuw, xra, xea, xtj, xte⟩ := u
      simp (disch := omega) only [wpX_advance, wpX_isIn, sg_neg, h2, sg_lits, sg_mA, sg_mB, sg_mC, sg_mD, sg_mE, sg_mF, Int32.reduceLT, Int32.reduceLE, forall_eq, true_and, and_true, true_implies, false_implies, not_true_eq_false, not_false_eq_true, implies_true]
      exact ⟨m + 1, z⟩
    · have z := a2 P h
      obtain ⟨ysc, ynow, yjc, yec, yse, yss, yac, yji, yen, yho, ywh, ytj, yte, yst, ypl, ydn, yas, ywt, yun, yrs, yva, yha, ypa, ypi, yps, yso, ysv, yct⟩ := v
      simp (disch := omega) only [wpY_advance, wpY_isIn, sg_neg, h2, sg_lits, sg_mA, sg_mB, sg_mC, sg_mD, sg_mE, sg_mF, Int32.reduceLT, Int32.reduceLE, forall_eq, true_and, and_true, true_implies, false_implies, not_true_eq_false, not_false_eq_true, implies_true]
      exact ⟨m + 1, z⟩
theorem i_vc_advance {k : Nat} {u : SX} {v : SY} (I : i_Rel k u v) (hk : k + 5 ≤ 2560) (v1 : Int32) : wpX_advance (fun r u' => wpY_advance (fun r' v' => r' = r ∧ i_Rel (k + 5) u' v') v v1) u v1 := by
  obtain ⟨r, u', v', h1, h2, h3⟩ := sg_advance I hk v1
  exact h1 _ (h2 _ ⟨rfl, h3⟩)
end
section
theorem i_vc_time {k : Nat} {u : SX} {v : SY} (I : i_Rel k u v) (hk : k + 5 ≤ 2560) : wpX_time (fun r => wpY_time (fun r' => r' = r ∧ i_Rel (k + 5) u v) v) u := by
  have I5 := i_up I
  obtain ⟨t, ht, H, HL⟩ := I
  obtain ⟨xsc, xnow, xjc, xec, xse, xki, xpp, xqq, xrr, xst, xfs, xin, xtb, xaj, xat, xsd, xja, xev, xva, xha, xps, xpa, xpi, xct, xsn, xsv, xtk, xac, xji, xou, xen, xuw, xra, xea, xtj, xte⟩ := u
  obtain ⟨ysc, ynow, yjc, yec, yse, yss, yac, yji, yen, yho, ywh, ytj, yte, yst, ypl, ydn, yas, ywt, yun, yrs, yva, yha, ypa, ypi, yps, yso, ysv, yct⟩ := v
  obtain ⟨sc, jc, ⟨⟨⟨e1, e2, e3, e4⟩, e5, e6, e7, e8, e9, e10, e11, e12, e13, e14, e15, e16⟩, ⟨g1, g2, g3, g4⟩, hset, hprog, hjobs, hjas⟩, hf⟩ := H
  have hjc := sg_jas_le hjas
  subst e1 e2 e3 e4 e5 e6 e7 e8 e9 e10 e11 e12 e13 e14 e15 e16 g1 g2 g3 g4
  exact ⟨rfl, I5⟩
theorem i_vc_jobs {k : Nat} {u : SX} {v : SY} (I : i_Rel k u v) (hk : k + 5 ≤ 2560) : wpX_jobs (fun r => wpY_jobs (fun r' => r' = r ∧ i_Rel (k + 5) u v) v) u := by
  have I5 := i_up I
  obtain ⟨t, ht, H, HL⟩ := I
  obtain ⟨xsc, xnow, xjc, xec, xse, xki, xpp, xqq, xrr, xst, xfs, xin, xtb, xaj, xat, xsd, xja, xev, xva, xha, xps, xpa, xpi, xct, xsn, xsv, xtk, xac, xji, xou, xen, xuw, xra, xea, xtj, xte⟩ := u
  obtain ⟨ysc, ynow, yjc, yec, yse, yss, yac, yji, yen, yho, ywh, ytj, yte, yst, ypl, ydn, yas, ywt, yun, yrs, yva, yha, ypa, ypi, yps, yso, ysv, yct⟩ := v
  obtain ⟨sc, jc, ⟨⟨⟨e1, e2, e3, e4⟩, e5, e6, e7, e8, e9, e10, e11, e12, e13, e14, e15, e16⟩, ⟨g1, g2, g3, g4⟩, hset, hprog, hjobs, hjas⟩, hf⟩ := H
  have hjc := sg_jas_le hjas
  subst e1 e2 e3 e4 e5 e6 e7 e8 e9 e10 e11 e12 e13 e14 e15 e16 g1 g2 g3 g4
  exact ⟨rfl, I5⟩
theorem i_vc_attempts {k : Nat} {u : SX} {v : SY} (I : i_Rel k u v) (hk : k + 5 ≤ 2560) : wpX_attempts (fun r => wpY_attempts (fun r' => r' = r ∧ i_Rel (k + 5) u v) v) u := by
  have I5 := i_up I
  obtain ⟨t, ht, H, HL⟩ := I
  obtain ⟨xsc, xnow, xjc, xec, xse, xki, xpp, xqq, xrr, xst, xfs, xin, xtb, xaj, xat, xsd, xja, xev, xva, xha, xps, xpa, xpi, xct, xsn, xsv, xtk, xac, xji, xou, xen, xuw, xra, xea, xtj, xte⟩ := u
  obtain ⟨ysc, ynow, yjc, yec, yse, yss, yac, yji, yen, yho, ywh, ytj, yte, yst, ypl, ydn, yas, ywt, yun, yrs, yva, yha, ypa, ypi, yps, yso, ysv, yct⟩ := v
  obtain ⟨sc, jc, ⟨⟨⟨e1, e2, e3, e4⟩, e5, e6, e7, e8, e9, e10, e11, e12, e13, e14, e15, e16⟩, ⟨g1, g2, g3, g4⟩, hset, hprog, hjobs, hjas⟩, hf⟩ := H
  have hjc := sg_jas_le hjas
  subst e1 e2 e3 e4 e5 e6 e7 e8 e9 e10 e11 e12 e13 e14 e15 e16 g1 g2 g3 g4
  exact ⟨rfl, I5⟩
theorem i_vc_state {k : Nat} {u : SX} {v : SY} (I : i_Rel k u v) (hk : k + 5 ≤ 2560) (v1 : Int32) : wpX_state (fun r => wpY_state (fun r' => r' = r ∧ i_Rel (k + 5) u v) v v1) u v1 := by
  have I5 := i_up I
  obtain ⟨t, ht, H, HL⟩ := I
  obtain ⟨xsc, xnow, xjc, xec, xse, xki, xpp, xqq, xrr, xst, xfs, xin, xtb, xaj, xat, xsd, xja, xev, xva, xha, xps, xpa, xpi, xct, xsn, xsv, xtk, xac, xji, xou, xen, xuw, xra, xea, xtj, xte⟩ := u
  obtain ⟨ysc, ynow, yjc, yec, yse, yss, yac, yji, yen, yho, ywh, ytj, yte, yst, ypl, ydn, yas, ywt, yun, yrs, yva, yha, ypa, ypi, yps, yso, ysv, yct⟩ := v
  obtain ⟨sc, jc, ⟨⟨⟨e1, e2, e3, e4⟩, e5, e6, e7, e8, e9, e10, e11, e12, e13, e14, e15, e16⟩, ⟨g1, g2, g3, g4⟩, hset, hprog, hjobs, hjas⟩, hf⟩ := H
  have hjc := sg_jas_le hjas
  subst e1 e2 e3 e4 e5 e6 e7 e8 e9 e10 e11 e12 e13 e14 e15 e16 g1 g2 g3 g4
  rcases sg_rng v1 2 (by decide) with h0 | ⟨h0, h2⟩ | ⟨i, hi, rfl⟩
  · simp only [wpX_state, wpX_isWorkflow, wpX_isIn, wpY_state, wpY_isIn, h0, sg_n0, forall_eq, true_and, and_true, true_implies, false_implies, not_true_eq_false, not_false_eq_true, implies_true]
    exact I5
  · have h2 : (2 : Int32) < v1 := h2
    simp only [wpX_state, wpX_isWorkflow, wpX_isIn, wpY_state, wpY_isIn, h0, h2, sg_n0, forall_eq, true_and, and_true, true_implies, false_implies, not_true_eq_false, not_false_eq_true, implies_true]
    exact I5
  · have h2 := sg_2n hi
    simp (disch := omega) only [wpX_state, wpX_isWorkflow, wpX_isIn, wpY_state, wpY_isIn, sg_neg, h2, sg_n1, sg_m3, sg_m3', sg_m4, sg_m4', sg_m6, sg_m6', sg_m7, sg_m7', sg_m200, sg_m200', nI_add, sg_a1, sg_a2, sg_a3, sg_a4, sg_a5, sg_a6, Int32.add_zero, sg_inT, nI_clamp, sg_lits, sg_mA, sg_mB, sg_mC, sg_mD, sg_mE, sg_mF, Int32.reduceLT, Int32.reduceLE, forall_eq, true_and, and_true, true_implies, false_implies, not_true_eq_false, not_false_eq_true, implies_true]
    exact I5
theorem i_vc_pile {k : Nat} {u : SX} {v : SY} (I : i_Rel k u v) (hk : k + 5 ≤ 2560) (v1 : Int32) : wpX_pile (fun r => wpY_pile (fun r' => r' = r ∧ i_Rel (k + 5) u v) v v1) u v1 := by
  have I5 := i_up I
  obtain ⟨t, ht, H, HL⟩ := I
  obtain ⟨xsc, xnow, xjc, xec, xse, xki, xpp, xqq, xrr, xst, xfs, xin, xtb, xaj, xat, xsd, xja, xev, xva, xha, xps, xpa, xpi, xct, xsn, xsv, xtk, xac, xji, xou, xen, xuw, xra, xea, xtj, xte⟩ := u
  obtain ⟨ysc, ynow, yjc, yec, yse, yss, yac, yji, yen, yho, ywh, ytj, yte, yst, ypl, ydn, yas, ywt, yun, yrs, yva, yha, ypa, ypi, yps, yso, ysv, yct⟩ := v
  obtain ⟨sc, jc, ⟨⟨⟨e1, e2, e3, e4⟩, e5, e6, e7, e8, e9, e10, e11, e12, e13, e14, e15, e16⟩, ⟨g1, g2, g3, g4⟩, hset, hprog, hjobs, hjas⟩, hf⟩ := H
  have hjc := sg_jas_le hjas
  subst e1 e2 e3 e4 e5 e6 e7 e8 e9 e10 e11 e12 e13 e14 e15 e16 g1 g2 g3 g4
  rcases sg_rng v1 2 (by decide) with h0 | ⟨h0, h2⟩ | ⟨i, hi, rfl⟩
  · simp only [wpX_pile, wpX_isWorkflow, wpX_isIn, wpY_pile, wpY_isIn, h0, sg_n0, forall_eq, true_and, and_true, true_implies, false_implies, not_true_eq_false, not_false_eq_true, implies_true]
    exact I5
  · have h2 : (2 : Int32) < v1 := h2
    simp only [wpX_pile, wpX_isWorkflow, wpX_isIn, wpY_pile, wpY_isIn, h0, h2, sg_n0, forall_eq, true_and, and_true, true_implies, false_implies, not_true_eq_false, not_false_eq_true, implies_true]
    exact I5
  · have h2 := sg_2n hi
    simp (disch := omega) only [wpX_pile, wpX_isWorkflow, wpX_isIn, wpY_pile, wpY_isIn, sg_neg, h2, sg_n1, sg_m3, sg_m3', sg_m4, sg_m4', sg_m6, sg_m6', sg_m7, sg_m7', sg_m200, sg_m200', nI_add, sg_a1, sg_a2, sg_a3, sg_a4, sg_a5, sg_a6, Int32.add_zero, sg_inT, nI_clamp, sg_lits, sg_mA, sg_mB, sg_mC, sg_mD, sg_mE, sg_mF, Int32.reduceLT, Int32.reduceLE, forall_eq, true_and, and_true, true_implies, false_implies, not_true_eq_false, not_false_eq_true, implies_true]
    exact I5
theorem i_vc_result {k : Nat} {u : SX} {v : SY} (I : i_Rel k u v) (hk : k + 5 ≤ 2560) (v1 : Int32) : wpX_result (fun r => wpY_result (fun r' => r' = r ∧ i_Rel (k + 5) u v) v v1) u v1 := by
  have I5 := i_up I
  obtain ⟨t, ht, H, HL⟩ := I
  obtain ⟨xsc, xnow, xjc, xec, xse, xki, xpp, xqq, xrr, xst, xfs, xin, xtb, xaj, xat, xsd, xja, xev, xva, xha, xps, xpa, xpi, xct, xsn, xsv, xtk, xac, xji, xou, xen, xuw, xra, xea, xtj, xte⟩ := u
  obtain ⟨ysc, ynow, yjc, yec, yse, yss, yac, yji, yen, yho, ywh, ytj, yte, yst, ypl, ydn, yas, ywt, yun, yrs, yva, yha, ypa, ypi, yps, yso, ysv, yct⟩ := v
  obtain ⟨sc, jc, ⟨⟨⟨e1, e2, e3, e4⟩, e5, e6, e7, e8, e9, e10, e11, e12, e13, e14, e15, e16⟩, ⟨g1, g2, g3, g4⟩, hset, hprog, hjobs, hjas⟩, hf⟩ := H
  have hjc := sg_jas_le hjas
  subst e1 e2 e3 e4 e5 e6 e7 e8 e9 e10 e11 e12 e13 e14 e15 e16 g1 g2 g3 g4
  rcases sg_rng v1 2 (by decide) with h0 | ⟨h0, h2⟩ | ⟨i, hi, rfl⟩
  · simp only [wpX_result, wpX_isWorkflow, wpX_isIn, wpY_result, wpY_isIn, h0, sg_n0, forall_eq, true_and, and_true, true_implies, false_implies, not_true_eq_false, not_false_eq_true, implies_true]
    exact I5
  · have h2 : (2 : Int32) < v1 := h2
    simp only [wpX_result, wpX_isWorkflow, wpX_isIn, wpY_result, wpY_isIn, h0, h2, sg_n0, forall_eq, true_and, and_true, true_implies, false_implies, not_true_eq_false, not_false_eq_true, implies_true]
    exact I5
  · have h2 := sg_2n hi
    have hev : (xst i = 2 ∧ xev i = yrs i) ∨ (¬ xst i = 2 ∧ xev i = 0) := by
      rcases hf i (by omega) with h | ⟨d, hb, h⟩
      · exact Or.inr ⟨by rw [h.1]; decide, h.2.2.2.2.2.2.1⟩
      · rcases h with ⟨s, s1, s2, s3, s4⟩ | ⟨md, f, hmd, ha⟩
        · by_cases c : s = 2
          · subst c
            rw [if_pos rfl] at s4
            exact Or.inl ⟨s3, s4⟩
          · rw [if_neg c] at s4
            refine Or.inr ⟨?_, s4⟩
            rw [s3]
            intro z
            exact c ((nI_eq (b := 2) (by omega) (by omega)).mp z)
        · exact Or.inr ⟨by rw [ha.1]; decide, ha.2.1⟩
    rcases hev with ⟨c, e⟩ | ⟨c, e⟩
    · simp (disch := omega) only [wpX_result, wpX_isWorkflow, wpX_isIn, wpY_result, wpY_isIn, sg_neg, h2, sg_n1, c, e, sg_m3, sg_m3', sg_m4, sg_m4', sg_m6, sg_m6', sg_m7, sg_m7', sg_m200, sg_m200', nI_add, sg_a1, sg_a2, sg_a3, sg_a4, sg_a5, sg_a6, Int32.add_zero, sg_inT, nI_clamp, sg_lits, sg_mA, sg_mB, sg_mC, sg_mD, sg_mE, sg_mF, Int32.reduceLT, Int32.reduceLE, forall_eq, true_and, and_true, true_implies, false_implies, not_true_eq_false, not_false_eq_true, implies_true]
      exact I5
    · simp (disch := omega) only [wpX_result, wpX_isWorkflow, wpX_isIn, wpY_result, wpY_isIn, sg_neg, h2, sg_n1, c, e, sg_m3, sg_m3', sg_m4, sg_m4', sg_m6, sg_m6', sg_m7, sg_m7', sg_m200, sg_m200', nI_add, sg_a1, sg_a2, sg_a3, sg_a4, sg_a5, sg_a6, Int32.add_zero, sg_inT, nI_clamp, sg_lits, sg_mA, sg_mB, sg_mC, sg_mD, sg_mE, sg_mF, Int32.reduceLT, Int32.reduceLE, forall_eq, true_and, and_true, true_implies, false_implies, not_true_eq_false, not_false_eq_true, implies_true]
      exact I5
theorem i_vc_waitsAt {k : Nat} {u : SX} {v : SY} (I : i_Rel k u v) (hk : k + 5 ≤ 2560) (v1 : Int32) : wpX_waitsAt (fun r => wpY_waitsAt (fun r' => r' = r ∧ i_Rel (k + 5) u v) v v1) u v1 := by
  have I5 := i_up I
  obtain ⟨t, ht, H, HL⟩ := I
  obtain ⟨xsc, xnow, xjc, xec, xse, xki, xpp, xqq, xrr, xst, xfs, xin, xtb, xaj, xat, xsd, xja, xev, xva, xha, xps, xpa, xpi, xct, xsn, xsv, xtk, xac, xji, xou, xen, xuw, xra, xea, xtj, xte⟩ := u
  obtain ⟨ysc, ynow, yjc, yec, yse, yss, yac, yji, yen, yho, ywh, ytj, yte, yst, ypl, ydn, yas, ywt, yun, yrs, yva, yha, ypa, ypi, yps, yso, ysv, yct⟩ := v
  obtain ⟨sc, jc, ⟨⟨⟨e1, e2, e3, e4⟩, e5, e6, e7, e8, e9, e10, e11, e12, e13, e14, e15, e16⟩, ⟨g1, g2, g3, g4⟩, hset, hprog, hjobs, hjas⟩, hf⟩ := H
  have hjc := sg_jas_le hjas
  subst e1 e2 e3 e4 e5 e6 e7 e8 e9 e10 e11 e12 e13 e14 e15 e16 g1 g2 g3 g4
  rcases sg_rng v1 2 (by decide) with h0 | ⟨h0, h2⟩ | ⟨i, hi, rfl⟩
  · simp only [wpX_waitsAt, wpX_isWorkflow, wpX_isIn, wpY_waitsAt, wpY_isIn, h0, sg_n0, forall_eq, true_and, and_true, true_implies, false_implies, not_true_eq_false, not_false_eq_true, implies_true]
    exact I5
  · have h2 : (2 : Int32) < v1 := h2
    simp only [wpX_waitsAt, wpX_isWorkflow, wpX_isIn, wpY_waitsAt, wpY_isIn, h0, h2, sg_n0, forall_eq, true_and, and_true, true_implies, false_implies, not_true_eq_false, not_false_eq_true, implies_true]
    exact I5
  · have h2 := sg_2n hi
    have hev : (xst i = 1 ∧ ypl i = xfs i) ∨ ¬ xst i = 1 := by
      rcases hf i (by omega) with h | ⟨d, hb, h⟩
      · exact Or.inr (by rw [h.1]; decide)
      · rcases h with ⟨s, s1, s2, s3, s4⟩ | ⟨md, f, hmd, ha⟩
        · refine Or.inr ?_
          rw [s3]
          intro z
          have := (nI_eq (b := 1) (by omega) (by omega)).mp z
          omega
        · exact Or.inl ⟨ha.1, ha.2.2.2.2.1.trans ha.2.2.2.1.symm⟩
    rcases hev with ⟨c, e⟩ | c
    · simp (disch := omega) only [wpX_waitsAt, wpX_isWorkflow, wpX_isIn, wpY_waitsAt, wpY_isIn, sg_neg, h2, sg_n1, c, e, sg_m3, sg_m3', sg_m4, sg_m4', sg_m6, sg_m6', sg_m7, sg_m7', sg_m200, sg_m200', nI_add, sg_a1, sg_a2, sg_a3, sg_a4, sg_a5, sg_a6, Int32.add_zero, sg_inT, nI_clamp, sg_lits, sg_mA, sg_mB, sg_mC, sg_mD, sg_mE, sg_mF, Int32.reduceLT, Int32.reduceLE, forall_eq, true_and, and_true, true_implies, false_implies, not_true_eq_false, not_false_eq_true, implies_true]
      exact I5
    · simp (disch := omega) only [wpX_waitsAt, wpX_isWorkflow, wpX_isIn, wpY_waitsAt, wpY_isIn, sg_neg, h2, sg_n1, c, sg_m3, sg_m3', sg_m4, sg_m4', sg_m6, sg_m6', sg_m7, sg_m7', sg_m200, sg_m200', nI_add, sg_a1, sg_a2, sg_a3, sg_a4, sg_a5, sg_a6, Int32.add_zero, sg_inT, nI_clamp, sg_lits, sg_mA, sg_mB, sg_mC, sg_mD, sg_mE, sg_mF, Int32.reduceLT, Int32.reduceLE, forall_eq, true_and, and_true, true_implies, false_implies, not_true_eq_false, not_false_eq_true, implies_true]
      exact I5
theorem i_vc_variable {k : Nat} {u : SX} {v : SY} (I : i_Rel k u v) (hk : k + 5 ≤ 2560) (v1 : Int32) (v2 : Int32) : wpX_variable (fun r => wpY_variable (fun r' => r' = r ∧ i_Rel (k + 5) u v) v v1 v2) u v1 v2 := by
  have I5 := i_up I
  obtain ⟨t, ht, H, HL⟩ := I
  obtain ⟨xsc, xnow, xjc, xec, xse, xki, xpp, xqq, xrr, xst, xfs, xin, xtb, xaj, xat, xsd, xja, xev, xva, xha, xps, xpa, xpi, xct, xsn, xsv, xtk, xac, xji, xou, xen, xuw, xra, xea, xtj, xte⟩ := u
  obtain ⟨ysc, ynow, yjc, yec, yse, yss, yac, yji, yen, yho, ywh, ytj, yte, yst, ypl, ydn, yas, ywt, yun, yrs, yva, yha, ypa, ypi, yps, yso, ysv, yct⟩ := v
  obtain ⟨sc, jc, ⟨⟨⟨e1, e2, e3, e4⟩, e5, e6, e7, e8, e9, e10, e11, e12, e13, e14, e15, e16⟩, ⟨g1, g2, g3, g4⟩, hset, hprog, hjobs, hjas⟩, hf⟩ := H
  have hjc := sg_jas_le hjas
  subst e1 e2 e3 e4 e5 e6 e7 e8 e9 e10 e11 e12 e13 e14 e15 e16 g1 g2 g3 g4
  rcases sg_rng v1 2 (by decide) with h0 | ⟨h0, h2⟩ | ⟨i, hi, rfl⟩
  · simp only [wpX_variable, wpX_isWorkflow, wpX_isIn, wpY_variable, wpY_isIn, h0, sg_n0, forall_eq, true_and, and_true, true_implies, false_implies, not_true_eq_false, not_false_eq_true, implies_true]
    exact I5
  · have h2 : (2 : Int32) < v1 := h2
    simp only [wpX_variable, wpX_isWorkflow, wpX_isIn, wpY_variable, wpY_isIn, h0, h2, sg_n0, forall_eq, true_and, and_true, true_implies, false_implies, not_true_eq_false, not_false_eq_true, implies_true]
    exact I5
  · have h2 := sg_2n hi
    rcases sg_rng v2 3 (by decide) with g0 | ⟨g0, g3⟩ | ⟨j, hj, rfl⟩
    · simp (disch := omega) only [wpX_variable, wpX_isWorkflow, wpX_isVariable, wpX_isIn, wpY_variable, wpY_isIn, sg_neg, h2, g0, sg_n0, sg_n1, sg_m3, sg_m3', sg_m4, sg_m4', sg_m6, sg_m6', sg_m7, sg_m7', sg_m200, sg_m200', nI_add, sg_a1, sg_a2, sg_a3, sg_a4, sg_a5, sg_a6, Int32.add_zero, sg_inT, nI_clamp, sg_lits, sg_mA, sg_mB, sg_mC, sg_mD, sg_mE, sg_mF, Int32.reduceLT, Int32.reduceLE, forall_eq, true_and, and_true, true_implies, false_implies, not_true_eq_false, not_false_eq_true, implies_true]
      exact I5
    · have g3 : (3 : Int32) < v2 := g3
      simp (disch := omega) only [wpX_variable, wpX_isWorkflow, wpX_isVariable, wpX_isIn, wpY_variable, wpY_isIn, sg_neg, h2, g0, g3, sg_n0, sg_n1, sg_m3, sg_m3', sg_m4, sg_m4', sg_m6, sg_m6', sg_m7, sg_m7', sg_m200, sg_m200', nI_add, sg_a1, sg_a2, sg_a3, sg_a4, sg_a5, sg_a6, Int32.add_zero, sg_inT, nI_clamp, sg_lits, sg_mA, sg_mB, sg_mC, sg_mD, sg_mE, sg_mF, Int32.reduceLT, Int32.reduceLE, forall_eq, true_and, and_true, true_implies, false_implies, not_true_eq_false, not_false_eq_true, implies_true]
      exact I5
    · have g3 := sg_3n (a := j) (by omega)
      have hev : (xst i = 0 ∧ xva (4 * i + j) = 0) ∨ (¬ xst i = 0 ∧ yva (4 * i + j) = xva (4 * i + j)) := by
        rcases hf i (by omega) with h | ⟨d, hb, h⟩
        · exact Or.inl ⟨h.1, h.2.2.2.2.2.2.2.2.2.1 j (by omega)⟩
        · refine Or.inr ⟨?_, hb.2.2.1 j (by omega)⟩
          rcases h with ⟨s, s1, s2, s3, s4⟩ | ⟨md, f, hmd, ha⟩
          · rw [s3]
            intro z
            have := (nI_eq (b := 0) (by omega) (by omega)).mp z
            omega
          · rw [ha.1]; decide
      rcases hev with ⟨c, e⟩ | ⟨c, e⟩
      · simp (disch := omega) only [wpX_variable, wpX_isWorkflow, wpX_isVariable, wpX_isIn, wpY_variable, wpY_isIn, sg_neg, h2, g3, sg_n0, sg_n1, c, e, sg_m3, sg_m3', sg_m4, sg_m4', sg_m6, sg_m6', sg_m7, sg_m7', sg_m200, sg_m200', nI_add, sg_a1, sg_a2, sg_a3, sg_a4, sg_a5, sg_a6, Int32.add_zero, sg_inT, nI_clamp, sg_lits, sg_mA, sg_mB, sg_mC, sg_mD, sg_mE, sg_mF, Int32.reduceLT, Int32.reduceLE, forall_eq, true_and, and_true, true_implies, false_implies, not_true_eq_false, not_false_eq_true, implies_true]
        exact I5
      · simp (disch := omega) only [wpX_variable, wpX_isWorkflow, wpX_isVariable, wpX_isIn, wpY_variable, wpY_isIn, sg_neg, h2, g3, sg_n0, sg_n1, c, e, sg_m3, sg_m3', sg_m4, sg_m4', sg_m6, sg_m6', sg_m7, sg_m7', sg_m200, sg_m200', nI_add, sg_a1, sg_a2, sg_a3, sg_a4, sg_a5, sg_a6, Int32.add_zero, sg_inT, nI_clamp, sg_lits, sg_mA, sg_mB, sg_mC, sg_mD, sg_mE, sg_mF, Int32.reduceLT, Int32.reduceLE, forall_eq, true_and, and_true, true_implies, false_implies, not_true_eq_false, not_false_eq_true, implies_true]
        exact I5
theorem sg_pred_lt {c j : Nat} (hc : c < 2 ^ 31) (hj : j < 2 ^ 31) : nI c - 1 < nI j ↔ c ≤ j := by
  cases c with
  | zero =>
    refine ⟨fun _ => by omega, fun _ => ?_⟩
    have e : nI 0 - 1 = -1 := by decide
    rw [e]
    exact Int32.lt_of_lt_of_le (by decide : (-1 : Int32) < 0) (nI_pos' hj)
  | succ c =>
    rw [nI_pred, nI_ltI (by omega) hj]
    omega
theorem i_vc_job {k : Nat} {u : SX} {v : SY} (I : i_Rel k u v) (hk : k + 5 ≤ 2560) (v1 : Int32) (v2 : Int32) : wpX_job (fun r => wpY_job (fun r' => r' = r ∧ i_Rel (k + 5) u v) v v1 v2) u v1 v2 := by
  have I5 := i_up I
  obtain ⟨t, ht, H, HL⟩ := I
  obtain ⟨xsc, xnow, xjc, xec, xse, xki, xpp, xqq, xrr, xst, xfs, xin, xtb, xaj, xat, xsd, xja, xev, xva, xha, xps, xpa, xpi, xct, xsn, xsv, xtk, xac, xji, xou, xen, xuw, xra, xea, xtj, xte⟩ := u
  obtain ⟨ysc, ynow, yjc, yec, yse, yss, yac, yji, yen, yho, ywh, ytj, yte, yst, ypl, ydn, yas, ywt, yun, yrs, yva, yha, ypa, ypi, yps, yso, ysv, yct⟩ := v
  obtain ⟨sc, jc, ⟨⟨⟨e1, e2, e3, e4⟩, e5, e6, e7, e8, e9, e10, e11, e12, e13, e14, e15, e16⟩, ⟨g1, g2, g3, g4⟩, hset, hprog, hjobs, hjas⟩, hf⟩ := H
  have hjc := sg_jas_le hjas
  subst e1 e2 e3 e4 e5 e6 e7 e8 e9 e10 e11 e12 e13 e14 e15 e16 g1 g2 g3 g4
  rcases sg_rng v2 3 (by decide) with h0 | ⟨h0, h2⟩ | ⟨w, hw, rfl⟩
  · simp only [wpX_job, wpX_isIn, wpY_job, wpY_isIn, h0, forall_eq, true_and, and_true, true_implies, false_implies, not_true_eq_false, not_false_eq_true, implies_true]
    exact I5
  · have h2 : (3 : Int32) < v2 := h2
    simp only [wpX_job, wpX_isIn, wpY_job, wpY_isIn, h0, h2, forall_eq, true_and, and_true, true_implies, false_implies, not_true_eq_false, not_false_eq_true, implies_true]
    exact I5
  · have h3 := sg_3n (a := w) (by omega)
    by_cases g0 : v1 < 0
    · simp (disch := omega) only [wpX_job, wpX_isIn, wpY_job, wpY_isIn, sg_neg, h3, g0, sg_m3, sg_m3', sg_m4, sg_m4', sg_m6, sg_m6', sg_m7, sg_m7', sg_m200, sg_m200', nI_add, sg_a1, sg_a2, sg_a3, sg_a4, sg_a5, sg_a6, Int32.add_zero, sg_inT, nI_clamp, sg_lits, sg_mA, sg_mB, sg_mC, sg_mD, sg_mE, sg_mF, Int32.reduceLT, Int32.reduceLE, forall_eq, true_and, and_true, true_implies, false_implies, not_true_eq_false, not_false_eq_true, implies_true]
      exact I5
    · obtain ⟨j, hj, rfl⟩ := nI_of g0
      by_cases c : jc ≤ j
      · have c1 : nI jc - 1 < nI j := (sg_pred_lt (by omega) hj).mpr c
        simp (disch := omega) only [wpX_job, wpX_isIn, wpY_job, wpY_isIn, sg_neg, h3, c1, sg_ltF, sg_m3, sg_m3', sg_m4, sg_m4', sg_m6, sg_m6', sg_m7, sg_m7', sg_m200, sg_m200', nI_add, sg_a1, sg_a2, sg_a3, sg_a4, sg_a5, sg_a6, Int32.add_zero, sg_inT, nI_clamp, sg_lits, sg_mA, sg_mB, sg_mC, sg_mD, sg_mE, sg_mF, Int32.reduceLT, Int32.reduceLE, forall_eq, true_and, and_true, true_implies, false_implies, not_true_eq_false, not_false_eq_true, implies_true]
        exact I5
      · have c1 : ¬ nI jc - 1 < nI j := fun z => c ((sg_pred_lt (by omega) hj).mp z)
        obtain ⟨a, e, ha4, hac, he, hen, hlt, hhow⟩ := hjobs j (by omega)
        have ho : (yho j = 3 ∧ xou j = 1) ∨ (¬ yho j = 3 ∧ yho j = 4 ∧ xou j = 0) ∨ (¬ yho j = 3 ∧ ¬ yho j = 4 ∧ xou j = -1) := by
          rcases hhow with ⟨k1, k2, k3, k4⟩ | ⟨k1, k2, k3, k4, k5⟩ | ⟨k1, k2, k3, k4⟩ | ⟨k1, k2, k3⟩ | ⟨k1, k2, k3⟩
          · exact Or.inr (Or.inr ⟨by rw [k3]; decide, by rw [k3]; decide, k1⟩)
          · exact Or.inr (Or.inr ⟨by rw [k3]; decide, by rw [k3]; decide, k1⟩)
          · exact Or.inr (Or.inr ⟨by rw [k3]; decide, by rw [k3]; decide, k1⟩)
          · exact Or.inl ⟨k3, k1⟩
          · exact Or.inr (Or.inl ⟨by rw [k3]; decide, k3, k1⟩)
        have n0 : nI 0 = 0 := rfl
        have n1 : nI 1 = 1 := rfl
        have n2 : nI 2 = 2 := rfl
        have n3 : nI 3 = 3 := rfl
        obtain rfl | rfl | rfl | rfl : w = 0 ∨ w = 1 ∨ w = 2 ∨ w = 3 := by omega
        · rcases ho with ⟨q1, q2⟩ | ⟨q0, q1, q2⟩ | ⟨q0, q1, q2⟩
          · simp (disch := omega) only [wpX_job, wpX_isIn, wpY_job, wY_job_56, wpY_isIn, n0, sg_neg, c1, sg_ltT, q1, q2, sg_m3, sg_m3', sg_m4, sg_m4', sg_m6, sg_m6', sg_m7, sg_m7', sg_m200, sg_m200', nI_add, sg_a1, sg_a2, sg_a3, sg_a4, sg_a5, sg_a6, Int32.add_zero, sg_inT, nI_clamp, sg_lits, sg_mA, sg_mB, sg_mC, sg_mD, sg_mE, sg_mF, Int32.reduceLT, Int32.reduceLE, forall_eq, true_and, and_true, true_implies, false_implies, not_true_eq_false, not_false_eq_true, implies_true]
            exact I5
          · simp (disch := omega) only [wpX_job, wpX_isIn, wpY_job, wY_job_56, wpY_isIn, n0, sg_neg, c1, sg_ltT, q0, q1, q2, sg_m3, sg_m3', sg_m4, sg_m4', sg_m6, sg_m6', sg_m7, sg_m7', sg_m200, sg_m200', nI_add, sg_a1, sg_a2, sg_a3, sg_a4, sg_a5, sg_a6, Int32.add_zero, sg_inT, nI_clamp, sg_lits, sg_mA, sg_mB, sg_mC, sg_mD, sg_mE, sg_mF, Int32.reduceLT, Int32.reduceLE, forall_eq, true_and, and_true, true_implies, false_implies, not_true_eq_false, not_false_eq_true, implies_true]
            exact I5
          · simp (disch := omega) only [wpX_job, wpX_isIn, wpY_job, wY_job_56, wpY_isIn, n0, sg_neg, c1, sg_ltT, q0, q1, q2, sg_m3, sg_m3', sg_m4, sg_m4', sg_m6, sg_m6', sg_m7, sg_m7', sg_m200, sg_m200', nI_add, sg_a1, sg_a2, sg_a3, sg_a4, sg_a5, sg_a6, Int32.add_zero, sg_inT, nI_clamp, sg_lits, sg_mA, sg_mB, sg_mC, sg_mD, sg_mE, sg_mF, Int32.reduceLT, Int32.reduceLE, forall_eq, true_and, and_true, true_implies, false_implies, not_true_eq_false, not_false_eq_true, implies_true]
            exact I5
        · rcases ho with ⟨q1, q2⟩ | ⟨q0, q1, q2⟩ | ⟨q0, q1, q2⟩
          · simp (disch := omega) only [wpX_job, wpX_isIn, wpY_job, wY_job_56, wpY_isIn, n1, sg_neg, c1, sg_ltT, q1, q2, sg_m3, sg_m3', sg_m4, sg_m4', sg_m6, sg_m6', sg_m7, sg_m7', sg_m200, sg_m200', nI_add, sg_a1, sg_a2, sg_a3, sg_a4, sg_a5, sg_a6, Int32.add_zero, sg_inT, nI_clamp, sg_lits, sg_mA, sg_mB, sg_mC, sg_mD, sg_mE, sg_mF, Int32.reduceLT, Int32.reduceLE, forall_eq, true_and, and_true, true_implies, false_implies, not_true_eq_false, not_false_eq_true, implies_true]
            exact I5
          · simp (disch := omega) only [wpX_job, wpX_isIn, wpY_job, wY_job_56, wpY_isIn, n1, sg_neg, c1, sg_ltT, q0, q1, q2, sg_m3, sg_m3', sg_m4, sg_m4', sg_m6, sg_m6', sg_m7, sg_m7', sg_m200, sg_m200', nI_add, sg_a1, sg_a2, sg_a3, sg_a4, sg_a5, sg_a6, Int32.add_zero, sg_inT, nI_clamp, sg_lits, sg_mA, sg_mB, sg_mC, sg_mD, sg_mE, sg_mF, Int32.reduceLT, Int32.reduceLE, forall_eq, true_and, and_true, true_implies, false_implies, not_true_eq_false, not_false_eq_true, implies_true]
            exact I5
          · simp (disch := omega) only [wpX_job, wpX_isIn, wpY_job, wY_job_56, wpY_isIn, n1, sg_neg, c1, sg_ltT, q0, q1, q2, sg_m3, sg_m3', sg_m4, sg_m4', sg_m6, sg_m6', sg_m7, sg_m7', sg_m200, sg_m200', nI_add, sg_a1, sg_a2, sg_a3, sg_a4, sg_a5, sg_a6, Int32.add_zero, sg_inT, nI_clamp, sg_lits, sg_mA, sg_mB, sg_mC, sg_mD, sg_mE, sg_mF, Int32.reduceLT, Int32.reduceLE, forall_eq, true_and, and_true, true_implies, false_implies, not_true_eq_false, not_false_eq_true, implies_true]
            exact I5
        · rcases ho with ⟨q1, q2⟩ | ⟨q0, q1, q2⟩ | ⟨q0, q1, q2⟩
          · simp (disch := omega) only [wpX_job, wpX_isIn, wpY_job, wY_job_56, wpY_isIn, n2, sg_neg, c1, sg_ltT, q1, q2, sg_m3, sg_m3', sg_m4, sg_m4', sg_m6, sg_m6', sg_m7, sg_m7', sg_m200, sg_m200', nI_add, sg_a1, sg_a2, sg_a3, sg_a4, sg_a5, sg_a6, Int32.add_zero, sg_inT, nI_clamp, sg_lits, sg_mA, sg_mB, sg_mC, sg_mD, sg_mE, sg_mF, Int32.reduceLT, Int32.reduceLE, forall_eq, true_and, and_true, true_implies, false_implies, not_true_eq_false, not_false_eq_true, implies_true]
            exact I5
          · simp (disch := omega) only [wpX_job, wpX_isIn, wpY_job, wY_job_56, wpY_isIn, n2, sg_neg, c1, sg_ltT, q0, q1, q2, sg_m3, sg_m3', sg_m4, sg_m4', sg_m6, sg_m6', sg_m7, sg_m7', sg_m200, sg_m200', nI_add, sg_a1, sg_a2, sg_a3, sg_a4, sg_a5, sg_a6, Int32.add_zero, sg_inT, nI_clamp, sg_lits, sg_mA, sg_mB, sg_mC, sg_mD, sg_mE, sg_mF, Int32.reduceLT, Int32.reduceLE, forall_eq, true_and, and_true, true_implies, false_implies, not_true_eq_false, not_false_eq_true, implies_true]
            exact I5
          · simp (disch := omega) only [wpX_job, wpX_isIn, wpY_job, wY_job_56, wpY_isIn, n2, sg_neg, c1, sg_ltT, q0, q1, q2, sg_m3, sg_m3', sg_m4, sg_m4', sg_m6, sg_m6', sg_m7, sg_m7', sg_m200, sg_m200', nI_add, sg_a1, sg_a2, sg_a3, sg_a4, sg_a5, sg_a6, Int32.add_zero, sg_inT, nI_clamp, sg_lits, sg_mA, sg_mB, sg_mC, sg_mD, sg_mE, sg_mF, Int32.reduceLT, Int32.reduceLE, forall_eq, true_and, and_true, true_implies, false_implies, not_true_eq_false, not_false_eq_true, implies_true]
            exact I5
        · rcases ho with ⟨q1, q2⟩ | ⟨q0, q1, q2⟩ | ⟨q0, q1, q2⟩
          · simp (disch := omega) only [wpX_job, wpX_isIn, wpY_job, wY_job_56, wpY_isIn, n3, sg_neg, c1, sg_ltT, q1, q2, sg_m3, sg_m3', sg_m4, sg_m4', sg_m6, sg_m6', sg_m7, sg_m7', sg_m200, sg_m200', nI_add, sg_a1, sg_a2, sg_a3, sg_a4, sg_a5, sg_a6, Int32.add_zero, sg_inT, nI_clamp, sg_lits, sg_mA, sg_mB, sg_mC, sg_mD, sg_mE, sg_mF, Int32.reduceLT, Int32.reduceLE, forall_eq, true_and, and_true, true_implies, false_implies, not_true_eq_false, not_false_eq_true, implies_true]
            exact I5
          · simp (disch := omega) only [wpX_job, wpX_isIn, wpY_job, wY_job_56, wpY_isIn, n3, sg_neg, c1, sg_ltT, q0, q1, q2, sg_m3, sg_m3', sg_m4, sg_m4', sg_m6, sg_m6', sg_m7, sg_m7', sg_m200, sg_m200', nI_add, sg_a1, sg_a2, sg_a3, sg_a4, sg_a5, sg_a6, Int32.add_zero, sg_inT, nI_clamp, sg_lits, sg_mA, sg_mB, sg_mC, sg_mD, sg_mE, sg_mF, Int32.reduceLT, Int32.reduceLE, forall_eq, true_and, and_true, true_implies, false_implies, not_true_eq_false, not_false_eq_true, implies_true]
            exact I5
          · simp (disch := omega) only [wpX_job, wpX_isIn, wpY_job, wY_job_56, wpY_isIn, n3, sg_neg, c1, sg_ltT, q0, q1, q2, sg_m3, sg_m3', sg_m4, sg_m4', sg_m6, sg_m6', sg_m7, sg_m7', sg_m200, sg_m200', nI_add, sg_a1, sg_a2, sg_a3, sg_a4, sg_a5, sg_a6, Int32.add_zero, sg_inT, nI_clamp, sg_lits, sg_mA, sg_mB, sg_mC, sg_mD, sg_mE, sg_mF, Int32.reduceLT, Int32.reduceLE, forall_eq, true_and, and_true, true_implies, false_implies, not_true_eq_false, not_false_eq_true, implies_true]
            exact I5
theorem i_vc_attempt {k : Nat} {u : SX} {v : SY} (I : i_Rel k u v) (hk : k + 5 ≤ 2560) (v1 : Int32) (v2 : Int32) : wpX_attempt (fun r => wpY_attempt (fun r' => r' = r ∧ i_Rel (k + 5) u v) v v1 v2) u v1 v2 := by
  have I5 := i_up I
  obtain ⟨t, ht, H, HL⟩ := I
  obtain ⟨xsc, xnow, xjc, xec, xse, xki, xpp, xqq, xrr, xst, xfs, xin, xtb, xaj, xat, xsd, xja, xev, xva, xha, xps, xpa, xpi, xct, xsn, xsv, xtk, xac, xji, xou, xen, xuw, xra, xea, xtj, xte⟩ := u
  obtain ⟨ysc, ynow, yjc, yec, yse, yss, yac, yji, yen, yho, ywh, ytj, yte, yst, ypl, ydn, yas, ywt, yun, yrs, yva, yha, ypa, ypi, yps, yso, ysv, yct⟩ := v
  obtain ⟨sc, jc, ⟨⟨⟨e1, e2, e3, e4⟩, e5, e6, e7, e8, e9, e10, e11, e12, e13, e14, e15, e16⟩, ⟨g1, g2, g3, g4⟩, hset, hprog, hjobs, hjas⟩, hf⟩ := H
  have hjc := sg_jas_le hjas
  subst e1 e2 e3 e4 e5 e6 e7 e8 e9 e10 e11 e12 e13 e14 e15 e16 g1 g2 g3 g4
  have hec := sg_cnt_le xen jc (sg_jobs_en hjobs)
  rcases sg_rng v2 1 (by decide) with h0 | ⟨h0, h2⟩ | ⟨w, hw, rfl⟩
  · simp only [wpX_attempt, wpX_isIn, wpY_attempt, wpY_isIn, h0, forall_eq, true_and, and_true, true_implies, false_implies, not_true_eq_false, not_false_eq_true, implies_true]
    exact I5
  · have h2 : (1 : Int32) < v2 := h2
    simp only [wpX_attempt, wpX_isIn, wpY_attempt, wpY_isIn, h0, h2, forall_eq, true_and, and_true, true_implies, false_implies, not_true_eq_false, not_false_eq_true, implies_true]
    exact I5
  · have h1 := sg_1n hw
    by_cases g0 : v1 < 0
    · simp (disch := omega) only [wpX_attempt, wpX_isIn, wpY_attempt, wpY_isIn, sg_neg, h1, g0, sg_m3, sg_m3', sg_m4, sg_m4', sg_m6, sg_m6', sg_m7, sg_m7', sg_m200, sg_m200', nI_add, sg_a1, sg_a2, sg_a3, sg_a4, sg_a5, sg_a6, Int32.add_zero, sg_inT, nI_clamp, sg_lits, sg_mA, sg_mB, sg_mC, sg_mD, sg_mE, sg_mF, Int32.reduceLT, Int32.reduceLE, forall_eq, true_and, and_true, true_implies, false_implies, not_true_eq_false, not_false_eq_true, implies_true]
      exact I5
    · obtain ⟨j, hj, rfl⟩ := nI_of g0
      by_cases c : sg_cnt xen jc ≤ j
      · have c1 : nI (sg_cnt xen jc) - 1 < nI j := (sg_pred_lt (by omega) hj).mpr c
        simp (disch := omega) only [wpX_attempt, wpX_isIn, wpY_attempt, wpY_isIn, sg_neg, h1, c1, sg_ltF, sg_m3, sg_m3', sg_m4, sg_m4', sg_m6, sg_m6', sg_m7, sg_m7', sg_m200, sg_m200', nI_add, sg_a1, sg_a2, sg_a3, sg_a4, sg_a5, sg_a6, Int32.add_zero, sg_inT, nI_clamp, sg_lits, sg_mA, sg_mB, sg_mC, sg_mD, sg_mE, sg_mF, Int32.reduceLT, Int32.reduceLE, forall_eq, true_and, and_true, true_implies, false_implies, not_true_eq_false, not_false_eq_true, implies_true]
        exact I5
      · have c1 : ¬ nI (sg_cnt xen jc) - 1 < nI j := fun z => c ((sg_pred_lt (by omega) hj).mp z)
        by_cases cw : nI w = 0
        · simp (disch := omega) only [wpX_attempt, wpX_isIn, wpY_attempt, wpY_isIn, sg_neg, h1, c1, sg_ltT, cw, sg_m3, sg_m3', sg_m4, sg_m4', sg_m6, sg_m6', sg_m7, sg_m7', sg_m200, sg_m200', nI_add, sg_a1, sg_a2, sg_a3, sg_a4, sg_a5, sg_a6, Int32.add_zero, sg_inT, nI_clamp, sg_lits, sg_mA, sg_mB, sg_mC, sg_mD, sg_mE, sg_mF, Int32.reduceLT, Int32.reduceLE, forall_eq, true_and, and_true, true_implies, false_implies, not_true_eq_false, not_false_eq_true, implies_true]
          exact I5
        · simp (disch := omega) only [wpX_attempt, wpX_isIn, wpY_attempt, wpY_isIn, sg_neg, h1, c1, sg_ltT, cw, sg_m3, sg_m3', sg_m4, sg_m4', sg_m6, sg_m6', sg_m7, sg_m7', sg_m200, sg_m200', nI_add, sg_a1, sg_a2, sg_a3, sg_a4, sg_a5, sg_a6, Int32.add_zero, sg_inT, nI_clamp, sg_lits, sg_mA, sg_mB, sg_mC, sg_mD, sg_mE, sg_mF, Int32.reduceLT, Int32.reduceLE, forall_eq, true_and, and_true, true_implies, false_implies, not_true_eq_false, not_false_eq_true, implies_true]
          exact I5
end
section
section
variable {xsc xnow xjc xec : Int32} {xse xki xpp xqq xrr xst xfs xin xtb xaj xat xsd xja xev xva xha xps xpa xpi xct xsn xsv xtk xac xji xou xen xuw xra xea xtj xte : Nat → Int32} {ysc ynow yjc yec : Int32} {yse yss yac yji yen yho ywh ytj yte yst ypl ydn yas ywt yun yrs yva yha ypa ypi yps yso ysv yct : Nat → Int32} {t jc : Nat}
theorem sg_loadl {a : Nat} (ha : a < 4) (hc : jc ≤ 90) (hjobs : sg_jobs t jc xse xac xen xou xuw xra xea yho ywh) (hl : ∀ m, m < jc → yho m = 0 → ¬ xra m ≤ nI t) : ∀ (k j N : Nat) (ac : Int32), j + k = jc → k < N → ∃ r, (∀ P : Int32 → Prop, P r → wX_load_15 P (nI a) xsc (nI t) (nI jc) xec xse xki xpp xqq xrr xst xfs xin xtb xaj xat xsd xja xev xva xha xps xpa xpi xct xsn xsv xtk xac xji xou xen xuw xra xea xtj xte N ac (nI j)) ∧ (∀ P : Int32 → Prop, P r → wY_load_16 P (nI a) xsc (nI t) (nI jc) xec xse yss xac xji xen yho ywh xtj xte xst ypl ydn yas ywt yun yrs yva yha xpa xpi xps yso xsv xct N ac (nI j)) := by
  intro k
  induction k with
  | zero =>
    intro j N ac hj hN
    obtain ⟨N, rfl⟩ : ∃ n, N = n + 1 := ⟨N - 1, by omega⟩
    refine ⟨ac, fun P h => ?_, fun P h => ?_⟩
    · simp (disch := omega) only [wX_load_15, sg_leT, forall_eq, true_and, and_true, true_implies, false_implies, not_true_eq_false, not_false_eq_true, implies_true]
      exact h
    · simp (disch := omega) only [wY_load_16, sg_leT, forall_eq, true_and, and_true, true_implies, false_implies, not_true_eq_false, not_false_eq_true, implies_true]
      exact h
  | succ k ih =>
    intro j N ac hj hN
    obtain ⟨N, rfl⟩ : ∃ n, N = n + 1 := ⟨N - 1, by omega⟩
    obtain ⟨a', e, ha4, hac, he, hen, hlt, hhow⟩ := hjobs j (by omega)
    by_cases c1 : xac j = nI a
    · by_cases c2 : yho j = 2
      · have k1 : xuw j = 1 := by
          rcases hhow with ⟨k1, k2, k3, k4⟩ | ⟨k1, k2, k3, k4, k5⟩ | ⟨k1, k2, k3, k4⟩ | ⟨k1, k2, k3⟩ | ⟨k1, k2, k3⟩
          · exact absurd (k3.symm.trans c2) (by decide)
          · exact absurd (k3.symm.trans c2) (by decide)
          · exact k2
          · exact absurd (k3.symm.trans c2) (by decide)
          · exact absurd (k3.symm.trans c2) (by decide)
        obtain ⟨r, r2, r3⟩ := ih (j + 1) N (ac + 1) (by omega) (by omega)
        refine ⟨r, fun P h => ?_, fun P h => ?_⟩
        · simp (disch := omega) only [wX_load_15, sg_leF, c1, k1, sg_m3, sg_m3', sg_m4, sg_m4', sg_m6, sg_m6', sg_m7, sg_m7', sg_m200, sg_m200', nI_add, sg_a1, sg_a2, sg_a3, sg_a4, sg_a5, sg_a6, Int32.add_zero, sg_inT, nI_clamp, sg_lits, sg_mA, sg_mB, sg_mC, sg_mD, sg_mE, sg_mF, Int32.reduceLT, Int32.reduceLE, forall_eq, true_and, and_true, true_implies, false_implies, not_true_eq_false, not_false_eq_true, implies_true]
          exact r2 P h
        · simp (disch := omega) only [wY_load_16, sg_leF, c1, c2, sg_m3, sg_m3', sg_m4, sg_m4', sg_m6, sg_m6', sg_m7, sg_m7', sg_m200, sg_m200', nI_add, sg_a1, sg_a2, sg_a3, sg_a4, sg_a5, sg_a6, Int32.add_zero, sg_inT, nI_clamp, sg_lits, sg_mA, sg_mB, sg_mC, sg_mD, sg_mE, sg_mF, Int32.reduceLT, Int32.reduceLE, forall_eq, true_and, and_true, true_implies, false_implies, not_true_eq_false, not_false_eq_true, implies_true]
          exact r3 P h
      · have k1 : xuw j = 0 := by
          rcases hhow with ⟨k1, k2, k3, k4⟩ | ⟨k1, k2, k3, k4, k5⟩ | ⟨k1, k2, k3, k4⟩ | ⟨k1, k2, k3⟩ | ⟨k1, k2, k3⟩
          · exact k2
          · exact k2
          · exact absurd k3 c2
          · exact k2
          · exact k2
        by_cases c3 : yho j = 1
        · obtain ⟨k2, k5⟩ : xou j = -1 ∧ xra j ≤ nI t := by
            rcases hhow with ⟨k1, k2, k3, k4⟩ | ⟨k1, k2, k3, k4, k5⟩ | ⟨k1, k2, k3, k4⟩ | ⟨k1, k2, k3⟩ | ⟨k1, k2, k3⟩
            · exact absurd (k3.symm.trans c3) (by decide)
            · exact ⟨k1, k5⟩
            · exact absurd (k3.symm.trans c3) (by decide)
            · exact absurd (k3.symm.trans c3) (by decide)
            · exact absurd (k3.symm.trans c3) (by decide)
          obtain ⟨r, r2, r3⟩ := ih (j + 1) N (ac + 1) (by omega) (by omega)
          refine ⟨r, fun P h => ?_, fun P h => ?_⟩
          · simp (disch := omega) only [wX_load_15, sg_leF, c1, k1, sg_m3, sg_m3', sg_m4, sg_m4', sg_m6, sg_m6', sg_m7, sg_m7', sg_m200, sg_m200', nI_add, sg_a1, sg_a2, sg_a3, sg_a4, sg_a5, sg_a6, Int32.add_zero, sg_inT, nI_clamp, sg_lits, sg_mA, sg_mB, sg_mC, sg_mD, sg_mE, sg_mF, Int32.reduceLT, Int32.reduceLE, forall_eq, true_and, and_true, true_implies, false_implies, not_true_eq_false, not_false_eq_true, implies_true]
            refine sg_rdy1 (by omega) k2 k1 k5 ?_
            simp only [sg_lits, sg_mA, sg_mB, sg_mC, sg_mD, sg_mE, sg_mF, Int32.reduceLT, Int32.reduceLE, forall_eq, true_and, and_true, true_implies, false_implies, not_true_eq_false, not_false_eq_true, implies_true]
            exact r2 P h
          · simp (disch := omega) only [wY_load_16, sg_leF, c1, c3, sg_m3, sg_m3', sg_m4, sg_m4', sg_m6, sg_m6', sg_m7, sg_m7', sg_m200, sg_m200', nI_add, sg_a1, sg_a2, sg_a3, sg_a4, sg_a5, sg_a6, Int32.add_zero, sg_inT, nI_clamp, sg_lits, sg_mA, sg_mB, sg_mC, sg_mD, sg_mE, sg_mF, Int32.reduceLT, Int32.reduceLE, forall_eq, true_and, and_true, true_implies, false_implies, not_true_eq_false, not_false_eq_true, implies_true]
            exact r3 P h
        · obtain ⟨r, r2, r3⟩ := ih (j + 1) N ac (by omega) (by omega)
          refine ⟨r, fun P h => ?_, fun P h => ?_⟩
          · simp (disch := omega) only [wX_load_15, sg_leF, c1, k1, sg_m3, sg_m3', sg_m4, sg_m4', sg_m6, sg_m6', sg_m7, sg_m7', sg_m200, sg_m200', nI_add, sg_a1, sg_a2, sg_a3, sg_a4, sg_a5, sg_a6, Int32.add_zero, sg_inT, nI_clamp, sg_lits, sg_mA, sg_mB, sg_mC, sg_mD, sg_mE, sg_mF, Int32.reduceLT, Int32.reduceLE, forall_eq, true_and, and_true, true_implies, false_implies, not_true_eq_false, not_false_eq_true, implies_true]
            refine sg_rdy0 (by omega) hhow c3 (hl j (by omega)) ?_
            simp only [sg_lits, sg_mA, sg_mB, sg_mC, sg_mD, sg_mE, sg_mF, Int32.reduceLT, Int32.reduceLE, forall_eq, true_and, and_true, true_implies, false_implies, not_true_eq_false, not_false_eq_true, implies_true]
            exact r2 P h
          · simp (disch := omega) only [wY_load_16, sg_leF, c1, c2, c3, sg_m3, sg_m3', sg_m4, sg_m4', sg_m6, sg_m6', sg_m7, sg_m7', sg_m200, sg_m200', nI_add, sg_a1, sg_a2, sg_a3, sg_a4, sg_a5, sg_a6, Int32.add_zero, sg_inT, nI_clamp, sg_lits, sg_mA, sg_mB, sg_mC, sg_mD, sg_mE, sg_mF, Int32.reduceLT, Int32.reduceLE, forall_eq, true_and, and_true, true_implies, false_implies, not_true_eq_false, not_false_eq_true, implies_true]
            exact r3 P h
    · obtain ⟨r, r2, r3⟩ := ih (j + 1) N ac (by omega) (by omega)
      refine ⟨r, fun P h => ?_, fun P h => ?_⟩
      · simp (disch := omega) only [wX_load_15, sg_leF, c1, sg_m3, sg_m3', sg_m4, sg_m4', sg_m6, sg_m6', sg_m7, sg_m7', sg_m200, sg_m200', nI_add, sg_a1, sg_a2, sg_a3, sg_a4, sg_a5, sg_a6, Int32.add_zero, sg_inT, nI_clamp, sg_lits, sg_mA, sg_mB, sg_mC, sg_mD, sg_mE, sg_mF, Int32.reduceLT, Int32.reduceLE, forall_eq, true_and, and_true, true_implies, false_implies, not_true_eq_false, not_false_eq_true, implies_true]
        exact r2 P h
      · simp (disch := omega) only [wY_load_16, sg_leF, c1, sg_m3, sg_m3', sg_m4, sg_m4', sg_m6, sg_m6', sg_m7, sg_m7', sg_m200, sg_m200', nI_add, sg_a1, sg_a2, sg_a3, sg_a4, sg_a5, sg_a6, Int32.add_zero, sg_inT, nI_clamp, sg_lits, sg_mA, sg_mB, sg_mC, sg_mD, sg_mE, sg_mF, Int32.reduceLT, Int32.reduceLE, forall_eq, true_and, and_true, true_implies, false_implies, not_true_eq_false, not_false_eq_true, implies_true]
        exact r3 P h
theorem sg_sigl {i n : Nat} (hi : i < 3) (hn : n ≤ 6) (hct : xct i = nI n) (H : ∀ m, m < n → (xsn (6 * i + m) = 0 ∨ xsn (6 * i + m) = 1) ∧ ((xtk (6 * i + m) = 0 ∧ yso (6 * i + m) = xsn (6 * i + m)) ∨ (xtk (6 * i + m) = 1 ∧ yso (6 * i + m) = -1))) : ∀ (k m N : Nat) (ac : Int32), m + k = n → k < N → ∃ r, (∀ P : Int32 → Prop, P r → wX_signals_13 P (nI i) xsc xnow xjc xec xse xki xpp xqq xrr xst xfs xin xtb xaj xat xsd xja xev xva xha xps xpa xpi xct xsn xsv xtk xac xji xou xen xuw xra xea xtj xte N ac (nI m)) ∧ (∀ P : Int32 → Prop, P r → wY_signals_4 P (nI i) xsc xnow xjc xec xse yss xac xji xen yho ywh xtj xte xst ypl ydn yas ywt yun yrs yva yha xpa xpi xps yso xsv xct N ac (nI m)) := by
  have b3 : vp_in (nI i) 3 := vp_in_nI hi (by omega)
  have ci : (nI i).toNatClampNeg = i := nI_clamp (by omega)
  have h2 := sg_2n (a := i) (by omega)
  intro k
  induction k with
  | zero =>
    intro m N ac hm hN
    obtain ⟨N, rfl⟩ : ∃ n, N = n + 1 := ⟨N - 1, by omega⟩
    refine ⟨ac, fun P h => ?_, fun P h => ?_⟩
    · simp (disch := omega) only [wX_signals_13, ci, b3, hct, sg_leT, forall_eq, true_and, and_true, true_implies, false_implies, not_true_eq_false, not_false_eq_true, implies_true]
      exact h
    · simp (disch := omega) only [wY_signals_4, wpY_isIn, sg_neg, h2, ci, b3, hct, sg_leT, sg_lits, sg_mA, sg_mB, sg_mC, sg_mD, sg_mE, sg_mF, Int32.reduceLT, Int32.reduceLE, forall_eq, true_and, and_true, true_implies, false_implies, not_true_eq_false, not_false_eq_true, implies_true]
      exact h
  | succ k ih =>
    intro m N ac hm hN
    obtain ⟨N, rfl⟩ : ∃ n, N = n + 1 := ⟨N - 1, by omega⟩
    obtain ⟨h4, h5⟩ := H m (by omega)
    rcases h5 with ⟨h5, h6⟩ | ⟨h5, h6⟩
    · obtain ⟨r, r2, r3⟩ := ih (m + 1) N (ac + 1) (by omega) (by omega)
      refine ⟨r, fun P h => ?_, fun P h => ?_⟩
      · simp (disch := omega) only [wX_signals_13, ci, b3, hct, sg_leF, h5, sg_m3, sg_m3', sg_m4, sg_m4', sg_m6, sg_m6', sg_m7, sg_m7', sg_m200, sg_m200', nI_add, sg_a1, sg_a2, sg_a3, sg_a4, sg_a5, sg_a6, Int32.add_zero, sg_inT, nI_clamp, sg_lits, sg_mA, sg_mB, sg_mC, sg_mD, sg_mE, sg_mF, Int32.reduceLT, Int32.reduceLE, forall_eq, true_and, and_true, true_implies, false_implies, not_true_eq_false, not_false_eq_true, implies_true]
        exact r2 P h
      · rcases h4 with h4 | h4
        · simp (disch := omega) only [wY_signals_4, wpY_isIn, sg_neg, h2, ci, b3, hct, sg_leF, h6, h4, sg_m3, sg_m3', sg_m4, sg_m4', sg_m6, sg_m6', sg_m7, sg_m7', sg_m200, sg_m200', nI_add, sg_a1, sg_a2, sg_a3, sg_a4, sg_a5, sg_a6, Int32.add_zero, sg_inT, nI_clamp, sg_lits, sg_mA, sg_mB, sg_mC, sg_mD, sg_mE, sg_mF, Int32.reduceLT, Int32.reduceLE, forall_eq, true_and, and_true, true_implies, false_implies, not_true_eq_false, not_false_eq_true, implies_true]
          exact r3 P h
        · simp (disch := omega) only [wY_signals_4, wpY_isIn, sg_neg, h2, ci, b3, hct, sg_leF, h6, h4, sg_m3, sg_m3', sg_m4, sg_m4', sg_m6, sg_m6', sg_m7, sg_m7', sg_m200, sg_m200', nI_add, sg_a1, sg_a2, sg_a3, sg_a4, sg_a5, sg_a6, Int32.add_zero, sg_inT, nI_clamp, sg_lits, sg_mA, sg_mB, sg_mC, sg_mD, sg_mE, sg_mF, Int32.reduceLT, Int32.reduceLE, forall_eq, true_and, and_true, true_implies, false_implies, not_true_eq_false, not_false_eq_true, implies_true]
          exact r3 P h
    · obtain ⟨r, r2, r3⟩ := ih (m + 1) N ac (by omega) (by omega)
      refine ⟨r, fun P h => ?_, fun P h => ?_⟩
      · simp (disch := omega) only [wX_signals_13, ci, b3, hct, sg_leF, h5, sg_m3, sg_m3', sg_m4, sg_m4', sg_m6, sg_m6', sg_m7, sg_m7', sg_m200, sg_m200', nI_add, sg_a1, sg_a2, sg_a3, sg_a4, sg_a5, sg_a6, Int32.add_zero, sg_inT, nI_clamp, sg_lits, sg_mA, sg_mB, sg_mC, sg_mD, sg_mE, sg_mF, Int32.reduceLT, Int32.reduceLE, forall_eq, true_and, and_true, true_implies, false_implies, not_true_eq_false, not_false_eq_true, implies_true]
        exact r2 P h
      · simp (disch := omega) only [wY_signals_4, wpY_isIn, sg_neg, h2, ci, b3, hct, sg_leF, h6, sg_m3, sg_m3', sg_m4, sg_m4', sg_m6, sg_m6', sg_m7, sg_m7', sg_m200, sg_m200', nI_add, sg_a1, sg_a2, sg_a3, sg_a4, sg_a5, sg_a6, Int32.add_zero, sg_inT, nI_clamp, sg_lits, sg_mA, sg_mB, sg_mC, sg_mD, sg_mE, sg_mF, Int32.reduceLT, Int32.reduceLE, forall_eq, true_and, and_true, true_implies, false_implies, not_true_eq_false, not_false_eq_true, implies_true]
        exact r3 P h
end
theorem i_vc_load {k : Nat} {u : SX} {v : SY} (I : i_Rel k u v) (hk : k + 5 ≤ 2560) (v1 : Int32) : wpX_load (fun r => wpY_load (fun r' => r' = r ∧ i_Rel (k + 5) u v) v v1) u v1 := by
  have I5 := i_up I
  obtain ⟨t, ht, H, HL⟩ := I
  obtain ⟨xsc, xnow, xjc, xec, xse, xki, xpp, xqq, xrr, xst, xfs, xin, xtb, xaj, xat, xsd, xja, xev, xva, xha, xps, xpa, xpi, xct, xsn, xsv, xtk, xac, xji, xou, xen, xuw, xra, xea, xtj, xte⟩ := u
  obtain ⟨ysc, ynow, yjc, yec, yse, yss, yac, yji, yen, yho, ywh, ytj, yte, yst, ypl, ydn, yas, ywt, yun, yrs, yva, yha, ypa, ypi, yps, yso, ysv, yct⟩ := v
  obtain ⟨sc, jc, ⟨⟨⟨e1, e2, e3, e4⟩, e5, e6, e7, e8, e9, e10, e11, e12, e13, e14, e15, e16⟩, ⟨g1, g2, g3, g4⟩, hset, hprog, hjobs, hjas⟩, hf⟩ := H
  have hjc := sg_jas_le hjas
  subst e1 e2 e3 e4 e5 e6 e7 e8 e9 e10 e11 e12 e13 e14 e15 e16 g1 g2 g3 g4
  rcases sg_rng v1 3 (by decide) with h0 | ⟨h0, h2⟩ | ⟨a, ha, rfl⟩
  · simp only [wpX_load, wpX_isIn, wpY_load, wpY_isIn, h0, forall_eq, true_and, and_true, true_implies, false_implies, not_true_eq_false, not_false_eq_true, implies_true]
    exact I5
  · have h2 : (3 : Int32) < v1 := h2
    simp only [wpX_load, wpX_isIn, wpY_load, wpY_isIn, h0, h2, forall_eq, true_and, and_true, true_implies, false_implies, not_true_eq_false, not_false_eq_true, implies_true]
    exact I5
  · have h3 := sg_3n (a := a) (by omega)
    have e : (nI jc).toNatClampNeg = jc := nI_clamp (by omega)
    have hl : ∀ m, m < jc → yho m = 0 → ¬ xra m ≤ nI t := fun m hm => HL m (Nat.lt_of_lt_of_eq hm e.symm)
    obtain ⟨r, r2, r3⟩ := sg_loadl (xsc := nI sc) (xec := nI (sg_cnt xen jc)) (xki := xki) (xpp := xpp) (xqq := xqq) (xrr := xrr) (xst := xst) (xfs := xfs) (xin := xin) (xtb := xtb) (xaj := xaj) (xat := xat) (xsd := xsd) (xja := xja) (xev := xev) (xva := xva) (xha := xha) (xps := xps) (xpa := xpa) (xpi := xpi) (xct := xct) (xsn := xsn) (xsv := xsv) (xtk := xtk) (xji := xji) (xtj := xtj) (xte := xte) (yss := yss) (ypl := ypl) (ydn := ydn) (yas := yas) (ywt := ywt) (yun := yun) (yrs := yrs) (yva := yva) (yha := yha) (yso := yso) (a := a) (by omega) hjc hjobs hl jc 0 (jc + 1) 0 (by omega) (by omega)
    simp (disch := omega) only [wpX_load, wpX_isIn, sg_neg, h3, sg_lits, sg_mA, sg_mB, sg_mC, sg_mD, sg_mE, sg_mF, Int32.reduceLT, Int32.reduceLE, forall_eq, true_and, and_true, true_implies, false_implies, not_true_eq_false, not_false_eq_true, implies_true]
    refine ⟨jc + 1, r2 _ ?_⟩
    simp (disch := omega) only [wpY_load, wpY_isIn, sg_neg, h3, sg_lits, sg_mA, sg_mB, sg_mC, sg_mD, sg_mE, sg_mF, Int32.reduceLT, Int32.reduceLE, forall_eq, true_and, and_true, true_implies, false_implies, not_true_eq_false, not_false_eq_true, implies_true]
    exact ⟨jc + 1, r3 _ ⟨rfl, I5⟩⟩
theorem i_vc_signals {k : Nat} {u : SX} {v : SY} (I : i_Rel k u v) (hk : k + 5 ≤ 2560) (v1 : Int32) : wpX_signals (fun r => wpY_signals (fun r' => r' = r ∧ i_Rel (k + 5) u v) v v1) u v1 := by
  have I5 := i_up I
  obtain ⟨t, ht, H, HL⟩ := I
  obtain ⟨xsc, xnow, xjc, xec, xse, xki, xpp, xqq, xrr, xst, xfs, xin, xtb, xaj, xat, xsd, xja, xev, xva, xha, xps, xpa, xpi, xct, xsn, xsv, xtk, xac, xji, xou, xen, xuw, xra, xea, xtj, xte⟩ := u
  obtain ⟨ysc, ynow, yjc, yec, yse, yss, yac, yji, yen, yho, ywh, ytj, yte, yst, ypl, ydn, yas, ywt, yun, yrs, yva, yha, ypa, ypi, yps, yso, ysv, yct⟩ := v
  obtain ⟨sc, jc, ⟨⟨⟨e1, e2, e3, e4⟩, e5, e6, e7, e8, e9, e10, e11, e12, e13, e14, e15, e16⟩, ⟨g1, g2, g3, g4⟩, hset, hprog, hjobs, hjas⟩, hf⟩ := H
  have hjc := sg_jas_le hjas
  subst e1 e2 e3 e4 e5 e6 e7 e8 e9 e10 e11 e12 e13 e14 e15 e16 g1 g2 g3 g4
  rcases sg_rng v1 2 (by decide) with h0 | ⟨h0, h2⟩ | ⟨i, hi, rfl⟩
  · simp only [wpX_signals, wpX_isWorkflow, wpX_isIn, wpY_signals, h0, sg_n0, forall_eq, true_and, and_true, true_implies, false_implies, not_true_eq_false, not_false_eq_true, implies_true]
    refine ⟨1, ?_⟩
    simp only [wY_signals_4, wpY_isIn, h0, forall_eq, true_and, and_true, true_implies, false_implies, not_true_eq_false, not_false_eq_true, implies_true]
    exact I5
  · have h2 : (2 : Int32) < v1 := h2
    simp only [wpX_signals, wpX_isWorkflow, wpX_isIn, wpY_signals, h0, h2, sg_n0, forall_eq, true_and, and_true, true_implies, false_implies, not_true_eq_false, not_false_eq_true, implies_true]
    refine ⟨1, ?_⟩
    simp only [wY_signals_4, wpY_isIn, h0, h2, forall_eq, true_and, and_true, true_implies, false_implies, not_true_eq_false, not_false_eq_true, implies_true]
    exact I5
  · have h2 := sg_2n hi
    obtain ⟨n, hn, hct, hsig⟩ : sg_sig i xct xsn xtk yso := by
      rcases hf i (by omega) with h | ⟨d, hb, h⟩
      · exact ⟨0, by omega, h.2.2.2.2.2.2.2.2.1, fun m hm => absurd hm (by omega)⟩
      · exact hb.2.2.2.2
    obtain ⟨r, r2, r3⟩ := sg_sigl (xsc := nI sc) (xnow := nI t) (xjc := nI jc) (xec := nI (sg_cnt xen jc)) (xse := xse) (xki := xki) (xpp := xpp) (xqq := xqq) (xrr := xrr) (xst := xst) (xfs := xfs) (xin := xin) (xtb := xtb) (xaj := xaj) (xat := xat) (xsd := xsd) (xja := xja) (xev := xev) (xva := xva) (xha := xha) (xps := xps) (xpa := xpa) (xpi := xpi) (xsv := xsv) (xac := xac) (xji := xji) (xou := xou) (xen := xen) (xuw := xuw) (xra := xra) (xea := xea) (xtj := xtj) (xte := xte) (yss := yss) (yho := yho) (ywh := ywh) (ypl := ypl) (ydn := ydn) (yas := yas) (ywt := ywt) (yun := yun) (yrs := yrs) (yva := yva) (yha := yha) (i := i) (by omega) hn hct hsig n 0 (n + 1) 0 (by omega) (by omega)
    simp (disch := omega) only [wpX_signals, wpX_isWorkflow, wpX_isIn, sg_neg, h2, sg_n1, sg_lits, sg_mA, sg_mB, sg_mC, sg_mD, sg_mE, sg_mF, Int32.reduceLT, Int32.reduceLE, forall_eq, true_and, and_true, true_implies, false_implies, not_true_eq_false, not_false_eq_true, implies_true]
    refine ⟨n + 1, r2 _ ?_⟩
    exact ⟨n + 1, r3 _ ⟨rfl, I5⟩⟩
/-! reset -/
def sg_r3 (f : Nat → Int32) (c : Int32) : Nat → Int32 := upd (upd (upd f 0 c) 1 c) 2 c
theorem sg_r3_at {f : Nat → Int32} {c : Int32} {m : Nat} (hm : m < 3) : sg_r3 f c m = c := by
  unfold sg_r3
  obtain rfl | rfl | rfl : m = 0 ∨ m = 1 ∨ m = 2 := by omega
  · rw [pk_un (by omega), pk_un (by omega), pk_us]
  · rw [pk_un (by omega), pk_us]
  · rw [pk_us]
section
variable {xsc xnow xjc xec : Int32} {xse xki xpp xqq xrr xst xfs xin xtb xaj xat xsd xja xev xva xha xps xpa xpi xct xsn xsv xtk xac xji xou xen xuw xra xea xtj xte : Nat → Int32} {ysc ynow yjc yec : Int32} {yse yss yac yji yen yho ywh ytj yte yst ypl ydn yas ywt yun yrs yva yha ypa ypi yps yso ysv yct : Nat → Int32}
theorem sg_fgh : ∀ (k n N : Nat) (xha : Nat → Int32), n + k = 9 → k < N → (∀ m, m < n → xha m = -1) → ∃ zha : Nat → Int32, (∀ m, m < 9 → zha m = -1) ∧ ∀ post : SX → Prop, post (xsc, xnow, xjc, xec, xse, xki, xpp, xqq, xrr, xst, xfs, xin, xtb, xaj, xat, xsd, xja, xev, xva, zha, xps, xpa, xpi, xct, xsn, xsv, xtk, xac, xji, xou, xen, xuw, xra, xea, xtj, xte) → wX_forgetRuns_128 post xsc xnow xjc xec N (nI n) xse xki xpp xqq xrr xst xfs xin xtb xaj xat xsd xja xev xva xha xps xpa xpi xct xsn xsv xtk xac xji xou xen xuw xra xea xtj xte := by
  intro k
  induction k with
  | zero =>
    intro n N xha hn hN h
    obtain ⟨N, rfl⟩ : ∃ n, N = n + 1 := ⟨N - 1, by omega⟩
    have h9 : (9 : Int32) ≤ nI n := nI_le (a := 9) (by omega) (by omega)
    refine ⟨xha, fun m hm => h m (by omega), fun post hp => ?_⟩
    simp only [wX_forgetRuns_128, h9, forall_eq, true_and, and_true, true_implies, false_implies, not_true_eq_false, not_false_eq_true, implies_true]
    exact hp
  | succ k ih =>
    intro n N xha hn hN h
    obtain ⟨N, rfl⟩ : ∃ n, N = n + 1 := ⟨N - 1, by omega⟩
    have h9 : ¬ (9 : Int32) ≤ nI n := nI_ge (b := 9) (by omega) (by omega)
    obtain ⟨zha, z1, z2⟩ := ih (n + 1) N (upd xha n (-1)) (by omega) (by omega) (fun m hm => by
      by_cases c : m = n
      · subst c; exact pk_us
      · rw [pk_un c]; exact h m (by omega))
    refine ⟨zha, z1, fun post hp => ?_⟩
    simp (disch := omega) only [wX_forgetRuns_128, h9, sg_m3, sg_m3', sg_m4, sg_m4', sg_m6, sg_m6', sg_m7, sg_m7', sg_m200, sg_m200', nI_add, sg_a1, sg_a2, sg_a3, sg_a4, sg_a5, sg_a6, Int32.add_zero, sg_inT, nI_clamp, forall_eq, true_and, and_true, true_implies, false_implies, not_true_eq_false, not_false_eq_true, implies_true]
    exact z2 post hp
theorem sg_fgv : ∀ (k n N : Nat) (xva : Nat → Int32), n + k = 12 → k < N → (∀ m, m < n → xva m = 0) → ∃ zva : Nat → Int32, (∀ m, m < 12 → zva m = 0) ∧ ∀ post : SX → Prop, (∃ n, wX_forgetRuns_128 post xsc xnow xjc xec n 0 xse xki xpp xqq xrr xst xfs xin xtb xaj xat xsd xja xev zva xha xps xpa xpi xct xsn xsv xtk xac xji xou xen xuw xra xea xtj xte) → wX_forgetRuns_107 post xsc xnow xjc xec N (nI n) xse xki xpp xqq xrr xst xfs xin xtb xaj xat xsd xja xev xva xha xps xpa xpi xct xsn xsv xtk xac xji xou xen xuw xra xea xtj xte := by
  intro k
  induction k with
  | zero =>
    intro n N xva hn hN h
    obtain ⟨N, rfl⟩ : ∃ n, N = n + 1 := ⟨N - 1, by omega⟩
    have h9 : (12 : Int32) ≤ nI n := nI_le (a := 12) (by omega) (by omega)
    refine ⟨xva, fun m hm => h m (by omega), fun post hp => ?_⟩
    simp only [wX_forgetRuns_107, h9, forall_eq, true_and, and_true, true_implies, false_implies, not_true_eq_false, not_false_eq_true, implies_true]
    exact hp
  | succ k ih =>
    intro n N xva hn hN h
    obtain ⟨N, rfl⟩ : ∃ n, N = n + 1 := ⟨N - 1, by omega⟩
    have h9 : ¬ (12 : Int32) ≤ nI n := nI_ge (b := 12) (by omega) (by omega)
    obtain ⟨zva, z1, z2⟩ := ih (n + 1) N (upd xva n 0) (by omega) (by omega) (fun m hm => by
      by_cases c : m = n
      · subst c; exact pk_us
      · rw [pk_un c]; exact h m (by omega))
    refine ⟨zva, z1, fun post hp => ?_⟩
    simp (disch := omega) only [wX_forgetRuns_107, h9, sg_m3, sg_m3', sg_m4, sg_m4', sg_m6, sg_m6', sg_m7, sg_m7', sg_m200, sg_m200', nI_add, sg_a1, sg_a2, sg_a3, sg_a4, sg_a5, sg_a6, Int32.add_zero, sg_inT, nI_clamp, forall_eq, true_and, and_true, true_implies, false_implies, not_true_eq_false, not_false_eq_true, implies_true]
    exact z2 post hp
theorem sg_v03 : vp_in (0 : Int32) 3 ∧ vp_in (1 : Int32) 3 ∧ vp_in (2 : Int32) 3 := ⟨vp_in_nI (n := 0) (by omega) (by omega), vp_in_nI (n := 1) (by omega) (by omega), vp_in_nI (n := 2) (by omega) (by omega)⟩
theorem sg_c03 : (0 : Int32).toNatClampNeg = 0 ∧ (1 : Int32).toNatClampNeg = 1 ∧ (2 : Int32).toNatClampNeg = 2 := ⟨nI_clamp (n := 0) (by omega), nI_clamp (n := 1) (by omega), nI_clamp (n := 2) (by omega)⟩
theorem sg_forget : ∃ zva zha : Nat → Int32, (∀ m, m < 12 → zva m = 0) ∧ (∀ m, m < 9 → zha m = -1) ∧ ∀ post : SX → Prop, post (xsc, 0, 0, 0, xse, xki, xpp, xqq, xrr, sg_r3 xst 0, sg_r3 xfs 0, sg_r3 xin 0, sg_r3 xtb 0, sg_r3 xaj (-1), sg_r3 xat 0, sg_r3 xsd 0, sg_r3 xja 0, sg_r3 xev 0, zva, zha, sg_r3 xps 0, xpa, xpi, sg_r3 xct 0, xsn, xsv, xtk, xac, xji, xou, xen, xuw, xra, xea, xtj, xte) → wpX_forgetRuns post (xsc, xnow, xjc, xec, xse, xki, xpp, xqq, xrr, xst, xfs, xin, xtb, xaj, xat, xsd, xja, xev, xva, xha, xps, xpa, xpi, xct, xsn, xsv, xtk, xac, xji, xou, xen, xuw, xra, xea, xtj, xte) := by
  obtain ⟨zva, a1, a2⟩ := sg_fgv (xsc := xsc) (xnow := 0) (xjc := 0) (xec := 0) (xse := xse) (xki := xki) (xpp := xpp) (xqq := xqq) (xrr := xrr) (xst := sg_r3 xst 0) (xfs := sg_r3 xfs 0) (xin := sg_r3 xin 0) (xtb := sg_r3 xtb 0) (xaj := sg_r3 xaj (-1)) (xat := sg_r3 xat 0) (xsd := sg_r3 xsd 0) (xja := sg_r3 xja 0) (xev := sg_r3 xev 0) (xha := xha) (xps := sg_r3 xps 0) (xpa := xpa) (xpi := xpi) (xct := sg_r3 xct 0) (xsn := xsn) (xsv := xsv) (xtk := xtk) (xac := xac) (xji := xji) (xou := xou) (xen := xen) (xuw := xuw) (xra := xra) (xea := xea) (xtj := xtj) (xte := xte) 12 0 13 xva (by omega) (by omega) (fun m hm => absurd hm (by omega))
  obtain ⟨zha, b1, b2⟩ := sg_fgh (xsc := xsc) (xnow := 0) (xjc := 0) (xec := 0) (xse := xse) (xki := xki) (xpp := xpp) (xqq := xqq) (xrr := xrr) (xst := sg_r3 xst 0) (xfs := sg_r3 xfs 0) (xin := sg_r3 xin 0) (xtb := sg_r3 xtb 0) (xaj := sg_r3 xaj (-1)) (xat := sg_r3 xat 0) (xsd := sg_r3 xsd 0) (xja := sg_r3 xja 0) (xev := sg_r3 xev 0) (xva := zva) (xps := sg_r3 xps 0) (xpa := xpa) (xpi := xpi) (xct := sg_r3 xct 0) (xsn := xsn) (xsv := xsv) (xtk := xtk) (xac := xac) (xji := xji) (xou := xou) (xen := xen) (xuw := xuw) (xra := xra) (xea := xea) (xtj := xtj) (xte := xte) 9 0 10 xha (by omega) (by omega) (fun m hm => absurd hm (by omega))
  refine ⟨zva, zha, a1, b1, fun post h => ?_⟩
  have z := a2 post ⟨10, b2 post h⟩
  refine ⟨4, ?_⟩
  simp only [wX_forgetRuns_17, sg_adds, sg_v03, sg_c03, sg_b0, sg_lits, sg_mA, sg_mB, sg_mC, sg_mD, sg_mE, sg_mF, Int32.reduceLT, Int32.reduceLE, forall_eq, true_and, and_true, true_implies, false_implies, not_true_eq_false, not_false_eq_true, implies_true]
  exact ⟨13, z⟩
/-- what both sides are after a reset is related -/
theorem sg_R0 {sc : Nat} {zva zha : Nat → Int32} (hset : sg_set xse) (hprog : sg_prog sc xki xpp xqq xrr yss) (hv : ∀ m, m < 12 → zva m = 0) (hh : ∀ m, m < 9 → zha m = -1) : sg_R 0 (nI sc, 0, 0, 0, xse, xki, xpp, xqq, xrr, sg_r3 xst 0, sg_r3 xfs 0, sg_r3 xin 0, sg_r3 xtb 0, sg_r3 xaj (-1), sg_r3 xat 0, sg_r3 xsd 0, sg_r3 xja 0, sg_r3 xev 0, zva, zha, sg_r3 xps 0, xpa, xpi, sg_r3 xct 0, xsn, xsv, xtk, xac, xji, xou, xen, xuw, xra, xea, xtj, xte) (nI sc, 0, 0, 0, xse, yss, xac, xji, xen, yho, ywh, xtj, xte, sg_r3 xst 0, ypl, ydn, yas, ywt, yun, yrs, yva, yha, xpa, xpi, sg_r3 xps 0, yso, xsv, sg_r3 xct 0) := by
  refine ⟨sc, 0, ⟨⟨⟨rfl, rfl, rfl, rfl⟩, rfl, rfl, rfl, rfl, rfl, rfl, rfl, rfl, rfl, rfl, rfl, rfl⟩, ⟨rfl, rfl, rfl, rfl⟩, hset, hprog, fun j hj => absurd hj (by omega), ⟨fun m hm => ⟨0, by omega, sg_r3_at hm⟩, ?_⟩⟩, fun m hm => Or.inl ⟨sg_r3_at hm, sg_r3_at hm, sg_r3_at hm, sg_r3_at hm, sg_r3_at hm, sg_r3_at hm, sg_r3_at hm, sg_r3_at hm, sg_r3_at hm, fun w hw => hv _ (by omega), fun w hw => hh _ (by omega)⟩⟩
  rw [sg_r3_at (by omega), sg_r3_at (by omega), sg_r3_at (by omega)]
  rfl
end
theorem i_vc_reset {k : Nat} {u : SX} {v : SY} (I : i_Rel k u v) (hk : k + 5 ≤ 2560) : wpX_reset (fun u' => wpY_reset (fun v' => i_Rel (k + 5) u' v') v) u := by
  obtain ⟨t, ht, H, HL⟩ := I
  obtain ⟨xsc, xnow, xjc, xec, xse, xki, xpp, xqq, xrr, xst, xfs, xin, xtb, xaj, xat, xsd, xja, xev, xva, xha, xps, xpa, xpi, xct, xsn, xsv, xtk, xac, xji, xou, xen, xuw, xra, xea, xtj, xte⟩ := u
  obtain ⟨ysc, ynow, yjc, yec, yse, yss, yac, yji, yen, yho, ywh, ytj, yte, yst, ypl, ydn, yas, ywt, yun, yrs, yva, yha, ypa, ypi, yps, yso, ysv, yct⟩ := v
  obtain ⟨sc, jc, ⟨⟨⟨e1, e2, e3, e4⟩, e5, e6, e7, e8, e9, e10, e11, e12, e13, e14, e15, e16⟩, ⟨g1, g2, g3, g4⟩, hset, hprog, hjobs, hjas⟩, hf⟩ := H
  subst e1 e2 e3 e4 e5 e6 e7 e8 e9 e10 e11 e12 e13 e14 e15 e16 g1 g2 g3 g4
  obtain ⟨zva, zha, a1, a2, a3⟩ := sg_forget (xsc := nI sc) (xnow := nI t) (xjc := nI jc) (xec := nI (sg_cnt xen jc)) (xse := xse) (xki := xki) (xpp := xpp) (xqq := xqq) (xrr := xrr) (xst := xst) (xfs := xfs) (xin := xin) (xtb := xtb) (xaj := xaj) (xat := xat) (xsd := xsd) (xja := xja) (xev := xev) (xva := xva) (xha := xha) (xps := xps) (xpa := xpa) (xpi := xpi) (xct := xct) (xsn := xsn) (xsv := xsv) (xtk := xtk) (xac := xac) (xji := xji) (xou := xou) (xen := xen) (xuw := xuw) (xra := xra) (xea := xea) (xtj := xtj) (xte := xte)
  refine a3 _ ⟨4, ?_⟩
  simp only [wY_reset_17, sg_adds, sg_v03, sg_c03, sg_lits, sg_mA, sg_mB, sg_mC, sg_mD, sg_mE, sg_mF, Int32.reduceLT, Int32.reduceLE, forall_eq, true_and, and_true, true_implies, false_implies, not_true_eq_false, not_false_eq_true, implies_true]
  refine ⟨0, by omega, sg_R0 hset hprog a1 a2, fun m hm => ?_⟩
  exact absurd hm (Nat.not_lt_zero m)
end
section
/-! a new object -/
def sg_se (n : Nat) : Nat → Int32 := fun j => if j < n ∧ (j % 7 = 0 ∨ j % 7 = 1 ∨ j % 7 = 2 ∨ j % 7 = 5) then 1 else 0
theorem sg_se0 : (fun _ => 0) = sg_se 0 := by
  funext j
  unfold sg_se
  rw [if_neg (by omega)]
theorem sg_seX (a : Nat) : upd (upd (upd (upd (sg_se (7 * a)) (7 * a) 1) (7 * a + 1) 1) (7 * a + 2) 1) (7 * a + 5) 1 = sg_se (7 * (a + 1)) := by
  funext j
  unfold upd sg_se
  by_cases c : j < 7 * (a + 1) ∧ (j % 7 = 0 ∨ j % 7 = 1 ∨ j % 7 = 2 ∨ j % 7 = 5)
  · rw [if_pos c]
    by_cases h5 : j = 7 * a + 5
    · rw [if_pos h5]
    · rw [if_neg h5]
      by_cases h2 : j = 7 * a + 2
      · rw [if_pos h2]
      · rw [if_neg h2]
        by_cases h1 : j = 7 * a + 1
        · rw [if_pos h1]
        · rw [if_neg h1]
          by_cases h0 : j = 7 * a
          · rw [if_pos h0]
          · rw [if_neg h0, if_pos (by omega)]
  · rw [if_neg c, if_neg (by omega), if_neg (by omega), if_neg (by omega), if_neg (by omega), if_neg (by omega)]
theorem sg_seY1 {a w : Nat} (h : w = 0 ∨ w = 1 ∨ w = 2 ∨ w = 5) : upd (sg_se (7 * a + w)) (7 * a + w) 1 = sg_se (7 * a + (w + 1)) := by
  funext j
  unfold upd sg_se
  by_cases c : j = 7 * a + w
  · rw [if_pos c, if_pos (by omega)]
  · rw [if_neg c]
    by_cases c2 : j < 7 * a + w ∧ (j % 7 = 0 ∨ j % 7 = 1 ∨ j % 7 = 2 ∨ j % 7 = 5)
    · rw [if_pos c2, if_pos (by omega)]
    · rw [if_neg c2, if_neg (by omega)]
theorem sg_seY0 {a w : Nat} (h : w = 3 ∨ w = 4) : upd (sg_se (7 * a + w)) (7 * a + w) 0 = sg_se (7 * a + (w + 1)) := by
  funext j
  unfold upd sg_se
  by_cases c : j = 7 * a + w
  · rw [if_pos c, if_neg (by omega)]
  · rw [if_neg c]
    by_cases c2 : j < 7 * a + w ∧ (j % 7 = 0 ∨ j % 7 = 1 ∨ j % 7 = 2 ∨ j % 7 = 5)
    · rw [if_pos c2, if_pos (by omega)]
    · rw [if_neg c2, if_neg (by omega)]
theorem sg_seY6 (a : Nat) : sg_se (7 * a + 6) = sg_se (7 * (a + 1)) := by
  funext j
  unfold sg_se
  by_cases c2 : j < 7 * a + 6 ∧ (j % 7 = 0 ∨ j % 7 = 1 ∨ j % 7 = 2 ∨ j % 7 = 5)
  · rw [if_pos c2, if_pos (by omega)]
  · rw [if_neg c2, if_neg (by omega)]
theorem sg_set0 : sg_set (sg_se 28) := by
  intro a ha
  refine ⟨1, 1, 0, 0, ⟨by omega, by omega, ?_⟩, ⟨by omega, by omega, ?_⟩, ⟨by omega, ?_⟩, ⟨by omega, ?_⟩⟩
  · exact if_pos (by omega)
  · exact if_pos (by omega)
  · exact if_neg (by omega)
  · exact if_neg (by omega)
theorem sg_initX : ∀ (k a N : Nat), a + k = 4 → k < N → ∀ post : SX → Prop, wpX_forgetRuns post (0, 0, 0, 0, sg_se 28, (fun _ => 0), (fun _ => 0), (fun _ => 0), (fun _ => 0), (fun _ => 0), (fun _ => 0), (fun _ => 0), (fun _ => 0), (fun _ => 0), (fun _ => 0), (fun _ => 0), (fun _ => 0), (fun _ => 0), (fun _ => 0), (fun _ => 0), (fun _ => 0), (fun _ => 0), (fun _ => 0), (fun _ => 0), (fun _ => 0), (fun _ => 0), (fun _ => 0), (fun _ => 0), (fun _ => 0), (fun _ => 0), (fun _ => 0), (fun _ => 0), (fun _ => 0), (fun _ => 0), (fun _ => 0), (fun _ => 0)) → wX_init_255 post 0 0 0 0 N (nI a) (sg_se (7 * a)) (fun _ => 0) (fun _ => 0) (fun _ => 0) (fun _ => 0) (fun _ => 0) (fun _ => 0) (fun _ => 0) (fun _ => 0) (fun _ => 0) (fun _ => 0) (fun _ => 0) (fun _ => 0) (fun _ => 0) (fun _ => 0) (fun _ => 0) (fun _ => 0) (fun _ => 0) (fun _ => 0) (fun _ => 0) (fun _ => 0) (fun _ => 0) (fun _ => 0) (fun _ => 0) (fun _ => 0) (fun _ => 0) (fun _ => 0) (fun _ => 0) (fun _ => 0) (fun _ => 0) (fun _ => 0) (fun _ => 0) := by
  intro k
  induction k with
  | zero =>
    intro a N ha hN post h
    obtain ⟨N, rfl⟩ : ∃ n, N = n + 1 := ⟨N - 1, by omega⟩
    have h4 : (4 : Int32) ≤ nI a := nI_le (a := 4) (by omega) (by omega)
    have e : a = 4 := by omega
    subst e
    simp only [wX_init_255, h4, forall_eq, true_and, and_true, true_implies, false_implies, not_true_eq_false, not_false_eq_true, implies_true]
    exact h
  | succ k ih =>
    intro a N ha hN post h
    obtain ⟨N, rfl⟩ : ∃ n, N = n + 1 := ⟨N - 1, by omega⟩
    have h4 : ¬ (4 : Int32) ≤ nI a := nI_ge (b := 4) (by omega) (by omega)
    have z := ih (a + 1) N (by omega) (by omega) post h
    simp (disch := omega) only [wX_init_255, h4, sg_seX, sg_m3, sg_m3', sg_m4, sg_m4', sg_m6, sg_m6', sg_m7, sg_m7', sg_m200, sg_m200', nI_add, sg_a1, sg_a2, sg_a3, sg_a4, sg_a5, sg_a6, Int32.add_zero, sg_inT, nI_clamp, forall_eq, true_and, and_true, true_implies, false_implies, not_true_eq_false, not_false_eq_true, implies_true]
    exact z
theorem sg_initI {a : Nat} (ha : a < 4) : ∀ (k w N : Nat), w + k = 6 → k < N → ∀ (post : SY → Prop) (J : Int32 → (Nat → Int32) → (Nat → Int32) → (Nat → Int32) → (Nat → Int32) → (Nat → Int32) → (Nat → Int32) → (Nat → Int32) → (Nat → Int32) → (Nat → Int32) → (Nat → Int32) → (Nat → Int32) → (Nat → Int32) → (Nat → Int32) → (Nat → Int32) → (Nat → Int32) → (Nat → Int32) → (Nat → Int32) → (Nat → Int32) → (Nat → Int32) → (Nat → Int32) → (Nat → Int32) → (Nat → Int32) → (Nat → Int32) → (Nat → Int32) → Prop), J (nI (a + 1)) (sg_se (7 * (a + 1))) (fun _ => 0) (fun _ => 0) (fun _ => 0) (fun _ => 0) (fun _ => 0) (fun _ => 0) (fun _ => 0) (fun _ => 0) (fun _ => 0) (fun _ => 0) (fun _ => 0) (fun _ => 0) (fun _ => 0) (fun _ => 0) (fun _ => 0) (fun _ => 0) (fun _ => 0) (fun _ => 0) (fun _ => 0) (fun _ => 0) (fun _ => 0) (fun _ => 0) (fun _ => 0) → wY_init_200 post J (nI a) 0 0 0 0 N (nI w) (sg_se (7 * a + w)) (fun _ => 0) (fun _ => 0) (fun _ => 0) (fun _ => 0) (fun _ => 0) (fun _ => 0) (fun _ => 0) (fun _ => 0) (fun _ => 0) (fun _ => 0) (fun _ => 0) (fun _ => 0) (fun _ => 0) (fun _ => 0) (fun _ => 0) (fun _ => 0) (fun _ => 0) (fun _ => 0) (fun _ => 0) (fun _ => 0) (fun _ => 0) (fun _ => 0) (fun _ => 0) := by
  intro k
  induction k with
  | zero =>
    intro w N hw hN post J h
    obtain ⟨N, rfl⟩ : ∃ n, N = n + 1 := ⟨N - 1, by omega⟩
    have h6 : (6 : Int32) ≤ nI w := nI_le (a := 6) (by omega) (by omega)
    have e : w = 6 := by omega
    subst e
    simp only [wY_init_200, h6, sg_a1, sg_seY6, forall_eq, true_and, and_true, true_implies, false_implies, not_true_eq_false, not_false_eq_true, implies_true]
    exact h
  | succ k ih =>
    intro w N hw hN post J h
    obtain ⟨N, rfl⟩ : ∃ n, N = n + 1 := ⟨N - 1, by omega⟩
    have h6 : ¬ (6 : Int32) ≤ nI w := nI_ge (b := 6) (by omega) (by omega)
    have z := ih (w + 1) N (by omega) (by omega) post J h
    by_cases c3 : w = 3
    · subst c3
      have n3 : nI 3 = (3 : Int32) := rfl
      have y := sg_seY0 (a := a) (w := 3) (Or.inl rfl)
      have x3 : (nI 3 = (3 : Int32)) = True := eq_true rfl
      simp (disch := omega) only [wY_init_200, h6, x3, y, sg_m3, sg_m3', sg_m4, sg_m4', sg_m6, sg_m6', sg_m7, sg_m7', sg_m200, sg_m200', nI_add, sg_a1, sg_a2, sg_a3, sg_a4, sg_a5, sg_a6, Int32.add_zero, sg_inT, nI_clamp, forall_eq, true_and, and_true, true_implies, false_implies, not_true_eq_false, not_false_eq_true, implies_true]
      exact z
    · have d3 : ¬ nI w = 3 := fun q => c3 ((nI_eq (b := 3) (by omega) (by omega)).mp q)
      by_cases c4 : w = 4
      · subst c4
        have y := sg_seY0 (a := a) (w := 4) (Or.inr rfl)
        have x4 : (nI 4 = (4 : Int32)) = True := eq_true rfl
        simp (disch := omega) only [wY_init_200, h6, d3, x4, y, sg_m3, sg_m3', sg_m4, sg_m4', sg_m6, sg_m6', sg_m7, sg_m7', sg_m200, sg_m200', nI_add, sg_a1, sg_a2, sg_a3, sg_a4, sg_a5, sg_a6, Int32.add_zero, sg_inT, nI_clamp, forall_eq, true_and, and_true, true_implies, false_implies, not_true_eq_false, not_false_eq_true, implies_true]
        exact z
      · have d4 : ¬ nI w = 4 := fun q => c4 ((nI_eq (b := 4) (by omega) (by omega)).mp q)
        have y := sg_seY1 (a := a) (w := w) (by omega)
        simp (disch := omega) only [wY_init_200, h6, d3, d4, y, sg_m3, sg_m3', sg_m4, sg_m4', sg_m6, sg_m6', sg_m7, sg_m7', sg_m200, sg_m200', nI_add, sg_a1, sg_a2, sg_a3, sg_a4, sg_a5, sg_a6, Int32.add_zero, sg_inT, nI_clamp, forall_eq, true_and, and_true, true_implies, false_implies, not_true_eq_false, not_false_eq_true, implies_true]
        exact z
theorem sg_initY : ∀ (k a N : Nat), a + k = 4 → k < N → ∀ post : SY → Prop, post (0, 0, 0, 0, sg_se 28, (fun _ => 0), (fun _ => 0), (fun _ => 0), (fun _ => 0), (fun _ => 0), (fun _ => 0), (fun _ => 0), (fun _ => 0), (fun _ => 0), (fun _ => 0), (fun _ => 0), (fun _ => 0), (fun _ => 0), (fun _ => 0), (fun _ => 0), (fun _ => 0), (fun _ => 0), (fun _ => 0), (fun _ => 0), (fun _ => 0), (fun _ => 0), (fun _ => 0), (fun _ => 0)) → wY_init_193 post 0 0 0 0 N (nI a) (sg_se (7 * a)) (fun _ => 0) (fun _ => 0) (fun _ => 0) (fun _ => 0) (fun _ => 0) (fun _ => 0) (fun _ => 0) (fun _ => 0) (fun _ => 0) (fun _ => 0) (fun _ => 0) (fun _ => 0) (fun _ => 0) (fun _ => 0) (fun _ => 0) (fun _ => 0) (fun _ => 0) (fun _ => 0) (fun _ => 0) (fun _ => 0) (fun _ => 0) (fun _ => 0) (fun _ => 0) := by
  intro k
  induction k with
  | zero =>
    intro a N ha hN post h
    obtain ⟨N, rfl⟩ : ∃ n, N = n + 1 := ⟨N - 1, by omega⟩
    have h4 : (4 : Int32) ≤ nI a := nI_le (a := 4) (by omega) (by omega)
    have e : a = 4 := by omega
    subst e
    simp only [wY_init_193, h4, forall_eq, true_and, and_true, true_implies, false_implies, not_true_eq_false, not_false_eq_true, implies_true]
    exact h
  | succ k ih =>
    intro a N ha hN post h
    obtain ⟨N, rfl⟩ : ∃ n, N = n + 1 := ⟨N - 1, by omega⟩
    have h4 : ¬ (4 : Int32) ≤ nI a := nI_ge (b := 4) (by omega) (by omega)
    have z := ih (a + 1) N (by omega) (by omega) post h
    simp only [wY_init_193, h4, forall_eq, true_and, and_true, true_implies, false_implies, not_true_eq_false, not_false_eq_true, implies_true]
    exact ⟨7, sg_initI (by omega) 6 0 7 (by omega) (by omega) post _ z⟩
theorem i_vc0 : wpX_init (fun u => wpY_init (fun v => i_Rel 0 u v)) := by
  have e0 : sg_r3 (fun _ => 0) 0 = fun _ => 0 := by
    unfold sg_r3
    rw [sg_self _ 0 0 rfl, sg_self _ 1 0 rfl, sg_self _ 2 0 rfl]
  obtain ⟨zva, zha, a1, a2, a3⟩ := sg_forget (xsc := 0) (xnow := 0) (xjc := 0) (xec := 0) (xse := sg_se 28) (xki := fun _ => 0) (xpp := fun _ => 0) (xqq := fun _ => 0) (xrr := fun _ => 0) (xst := fun _ => 0) (xfs := fun _ => 0) (xin := fun _ => 0) (xtb := fun _ => 0) (xaj := fun _ => 0) (xat := fun _ => 0) (xsd := fun _ => 0) (xja := fun _ => 0) (xev := fun _ => 0) (xva := fun _ => 0) (xha := fun _ => 0) (xps := fun _ => 0) (xpa := fun _ => 0) (xpi := fun _ => 0) (xct := fun _ => 0) (xsn := fun _ => 0) (xsv := fun _ => 0) (xtk := fun _ => 0) (xac := fun _ => 0) (xji := fun _ => 0) (xou := fun _ => 0) (xen := fun _ => 0) (xuw := fun _ => 0) (xra := fun _ => 0) (xea := fun _ => 0) (xtj := fun _ => 0) (xte := fun _ => 0)
  have R := sg_R0 (sc := 0) (xse := sg_se 28) (xki := fun _ => 0) (xpp := fun _ => 0) (xqq := fun _ => 0) (xrr := fun _ => 0) (xst := fun _ => 0) (xfs := fun _ => 0) (xin := fun _ => 0) (xtb := fun _ => 0) (xaj := fun _ => 0) (xat := fun _ => 0) (xsd := fun _ => 0) (xja := fun _ => 0) (xev := fun _ => 0) (xps := fun _ => 0) (xpa := fun _ => 0) (xpi := fun _ => 0) (xct := fun _ => 0) (xsn := fun _ => 0) (xsv := fun _ => 0) (xtk := fun _ => 0) (xac := fun _ => 0) (xji := fun _ => 0) (xou := fun _ => 0) (xen := fun _ => 0) (xuw := fun _ => 0) (xra := fun _ => 0) (xea := fun _ => 0) (xtj := fun _ => 0) (xte := fun _ => 0) (yss := fun _ => 0) (yho := fun _ => 0) (ywh := fun _ => 0) (ypl := fun _ => 0) (ydn := fun _ => 0) (yas := fun _ => 0) (ywt := fun _ => 0) (yun := fun _ => 0) (yrs := fun _ => 0) (yva := fun _ => 0) (yha := fun _ => 0) (yso := fun _ => 0) sg_set0 ⟨by omega, fun m hm => absurd hm (by omega)⟩ a1 a2
  rw [e0] at R
  have zz := sg_initY 4 0 5 (by omega) (by omega) (fun v => i_Rel 0 _ v) ⟨0, by omega, R, fun m hm => absurd hm (Nat.not_lt_zero m)⟩
  rw [show sg_se (7 * 0) = fun _ => 0 from sg_se0.symm] at zz
  rw [e0] at a3
  have zx := sg_initX 4 0 5 (by omega) (by omega) (fun u => wpY_init (fun v => i_Rel 0 u v)) (a3 _ ⟨5, zz⟩)
  rw [show sg_se (7 * 0) = fun _ => 0 from sg_se0.symm] at zx
  exact ⟨5, zx⟩
end
section
/-! is a workflow started -/
theorem sg_flow_st {i sc jc : Nat} {xki xpp xst xfs xin xtb xaj xat xsd xja xev xva xha xps xpa xct xsn xtk ypl ydn yas ywt yun yrs yva yha yso : Nat → Int32} (h : sg_flow i sc jc xki xpp xst xfs xin xtb xaj xat xsd xja xev xva xha xps xpa xct xsn xtk ypl ydn yas ywt yun yrs yva yha yso) : ∃ s, s ≤ 5 ∧ xst i = nI s := by
  rcases h with h | ⟨d, hb, h⟩
  · exact ⟨0, by omega, h.1⟩
  · rcases h with ⟨s, s1, s2, s3, _⟩ | ⟨md, f, hmd, ha⟩
    · exact ⟨s, s2, s3⟩
    · exact ⟨1, by omega, ha.1⟩
theorem sg_flow_id {i sc jc : Nat} {xki xpp xst xfs xin xtb xaj xat xsd xja xev xva xha xps xpa xct xsn xtk ypl ydn yas ywt yun yrs yva yha yso : Nat → Int32} (h : sg_flow i sc jc xki xpp xst xfs xin xtb xaj xat xsd xja xev xva xha xps xpa xct xsn xtk ypl ydn yas ywt yun yrs yva yha yso) (h0 : xst i = 0) : sg_idle i xst xfs xin xtb xsd xja xev xva xha xps xct := by
  rcases h with h | ⟨d, hb, h⟩
  · exact h
  · exfalso
    rcases h with ⟨s, s1, s2, s3, _⟩ | ⟨md, f, hmd, ha⟩
    · have z := (nI_eq (b := 0) (by omega) (by omega)).mp (s3.symm.trans h0)
      omega
    · exact absurd (ha.1.symm.trans h0) (by decide)
section
variable {xsc xnow xjc xec : Int32} {xse xki xpp xqq xrr xst xfs xin xtb xaj xat xsd xja xev xva xha xps xpa xpi xct xsn xsv xtk xac xji xou xen xuw xra xea xtj xte : Nat → Int32} {ysc ynow yjc yec : Int32} {yse yss yac yji yen yho ywh ytj yte yst ypl ydn yas ywt yun yrs yva yha ypa ypi yps yso ysv yct : Nat → Int32}
theorem sg_anyX {P : Int32 → Prop} : ((xst 0 = 0 ∧ xst 1 = 0 ∧ xst 2 = 0) → P 0 → wpX_isAnyStarted P (xsc, xnow, xjc, xec, xse, xki, xpp, xqq, xrr, xst, xfs, xin, xtb, xaj, xat, xsd, xja, xev, xva, xha, xps, xpa, xpi, xct, xsn, xsv, xtk, xac, xji, xou, xen, xuw, xra, xea, xtj, xte)) ∧ (¬ (xst 0 = 0 ∧ xst 1 = 0 ∧ xst 2 = 0) → P 1 → wpX_isAnyStarted P (xsc, xnow, xjc, xec, xse, xki, xpp, xqq, xrr, xst, xfs, xin, xtb, xaj, xat, xsd, xja, xev, xva, xha, xps, xpa, xpi, xct, xsn, xsv, xtk, xac, xji, xou, xen, xuw, xra, xea, xtj, xte)) := by
  constructor
  · intro ⟨c0, c1, c2⟩ h
    refine ⟨4, ?_⟩
    simp only [wX_isAnyStarted_4, sg_adds, sg_v03, sg_c03, sg_n0, c0, c1, c2, sg_lits, sg_mA, sg_mB, sg_mC, sg_mD, sg_mE, sg_mF, Int32.reduceLT, Int32.reduceLE, forall_eq, true_and, and_true, true_implies, false_implies, not_true_eq_false, not_false_eq_true, implies_true]
    exact h
  · intro hn h
    refine ⟨4, ?_⟩
    by_cases c0 : xst 0 = 0
    · by_cases c1 : xst 1 = 0
      · have c2 : ¬ xst 2 = 0 := fun z => hn ⟨c0, c1, z⟩
        simp only [wX_isAnyStarted_4, sg_adds, sg_v03, sg_c03, sg_n1, c0, c1, c2, sg_lits, sg_mA, sg_mB, sg_mC, sg_mD, sg_mE, sg_mF, Int32.reduceLT, Int32.reduceLE, forall_eq, true_and, and_true, true_implies, false_implies, not_true_eq_false, not_false_eq_true, implies_true]
        exact h
      · simp only [wX_isAnyStarted_4, sg_adds, sg_v03, sg_c03, sg_n1, c0, c1, sg_lits, sg_mA, sg_mB, sg_mC, sg_mD, sg_mE, sg_mF, Int32.reduceLT, Int32.reduceLE, forall_eq, true_and, and_true, true_implies, false_implies, not_true_eq_false, not_false_eq_true, implies_true]
        exact h
    · simp only [wX_isAnyStarted_4, sg_adds, sg_v03, sg_c03, sg_n1, c0, sg_lits, sg_mA, sg_mB, sg_mC, sg_mD, sg_mE, sg_mF, Int32.reduceLT, Int32.reduceLE, forall_eq, true_and, and_true, true_implies, false_implies, not_true_eq_false, not_false_eq_true, implies_true]
      exact h
theorem sg_busyY {s0 s1 s2 : Nat} {P : Int32 → Prop} (h0 : yst 0 = nI s0) (h1 : yst 1 = nI s1) (h2 : yst 2 = nI s2) (k0 : s0 ≤ 5) (k1 : s1 ≤ 5) (k2 : s2 ≤ 5) : ((yst 0 = 0 ∧ yst 1 = 0 ∧ yst 2 = 0) → P 0 → wpY_isBusy P (ysc, ynow, yjc, yec, yse, yss, yac, yji, yen, yho, ywh, ytj, yte, yst, ypl, ydn, yas, ywt, yun, yrs, yva, yha, ypa, ypi, yps, yso, ysv, yct)) ∧ (¬ (yst 0 = 0 ∧ yst 1 = 0 ∧ yst 2 = 0) → P 1 → wpY_isBusy P (ysc, ynow, yjc, yec, yse, yss, yac, yji, yen, yho, ywh, ytj, yte, yst, ypl, ydn, yas, ywt, yun, yrs, yva, yha, ypa, ypi, yps, yso, ysv, yct)) := by
  constructor
  · intro ⟨c0, c1, c2⟩ h
    have z : (0 : Int32) + 0 + 0 ≤ 0 := by decide
    simp only [wpY_isBusy, c0, c1, c2, z, forall_eq, true_and, and_true, true_implies, false_implies, not_true_eq_false, not_false_eq_true, implies_true]
    exact h
  · intro hn h
    have z : ¬ nI s0 + nI s1 + nI s2 ≤ 0 := by
      rw [nI_add, nI_add]
      refine nI_nle ?_ (by omega)
      refine Nat.pos_of_ne_zero fun e => hn ?_
      obtain ⟨rfl, rfl, rfl⟩ : s0 = 0 ∧ s1 = 0 ∧ s2 = 0 := by omega
      exact ⟨h0, h1, h2⟩
    simp only [wpY_isBusy, h0, h1, h2, z, forall_eq, true_and, and_true, true_implies, false_implies, not_true_eq_false, not_false_eq_true, implies_true]
    exact h
end
/-! one range -/
def sg_rg (x lo hi : Int32) : Prop := ¬ x < lo ∧ ¬ hi < x
theorem sg_xT {x lo hi : Int32} (h : sg_rg x lo hi) (P : Int32 → Prop) : wpX_isIn P x lo hi = P 1 := by
  obtain ⟨h1, h2⟩ := h
  simp only [wpX_isIn, h1, h2, forall_eq, true_and, and_true, true_implies, false_implies, not_true_eq_false, not_false_eq_true, implies_true]
theorem sg_xF {x lo hi : Int32} (h : ¬ sg_rg x lo hi) (P : Int32 → Prop) : wpX_isIn P x lo hi = P 0 := by
  by_cases h1 : x < lo
  · simp only [wpX_isIn, h1, forall_eq, true_and, and_true, true_implies, false_implies, not_true_eq_false, not_false_eq_true, implies_true]
  · have h2 : hi < x := Classical.byContradiction fun z => h ⟨h1, z⟩
    simp only [wpX_isIn, h1, h2, forall_eq, true_and, and_true, true_implies, false_implies, not_true_eq_false, not_false_eq_true, implies_true]
section
variable {xsc xnow xjc xec : Int32} {xse xki xpp xqq xrr xst xfs xin xtb xaj xat xsd xja xev xva xha xps xpa xpi xct xsn xsv xtk xac xji xou xen xuw xra xea xtj xte : Nat → Int32} {ysc ynow yjc yec : Int32} {yse yss yac yji yen yho ywh ytj yte yst ypl ydn yas ywt yun yrs yva yha ypa ypi yps yso ysv yct : Nat → Int32}
theorem sg_yT {x lo hi : Int32} (h : sg_rg x lo hi) (P : Int32 → Prop) : wpY_isIn P (ysc, ynow, yjc, yec, yse, yss, yac, yji, yen, yho, ywh, ytj, yte, yst, ypl, ydn, yas, ywt, yun, yrs, yva, yha, ypa, ypi, yps, yso, ysv, yct) x lo hi = P 1 := by
  obtain ⟨h1, h2⟩ := h
  simp only [wpY_isIn, h1, h2, forall_eq, true_and, and_true, true_implies, false_implies, not_true_eq_false, not_false_eq_true, implies_true]
theorem sg_yF {x lo hi : Int32} (h : ¬ sg_rg x lo hi) (P : Int32 → Prop) : wpY_isIn P (ysc, ynow, yjc, yec, yse, yss, yac, yji, yen, yho, ywh, ytj, yte, yst, ypl, ydn, yas, ywt, yun, yrs, yva, yha, ypa, ypi, yps, yso, ysv, yct) x lo hi = P 0 := by
  by_cases h1 : x < lo
  · simp only [wpY_isIn, h1, forall_eq, true_and, and_true, true_implies, false_implies, not_true_eq_false, not_false_eq_true, implies_true]
  · have h2 : hi < x := Classical.byContradiction fun z => h ⟨h1, z⟩
    simp only [wpY_isIn, h1, h2, forall_eq, true_and, and_true, true_implies, false_implies, not_true_eq_false, not_false_eq_true, implies_true]
end
theorem sg_rgN {x : Int32} (lo hi : Nat) (hl : lo < 2 ^ 31) (hh : hi < 2 ^ 31) (h : sg_rg x (nI lo) (nI hi)) : ∃ n, lo ≤ n ∧ n ≤ hi ∧ x = nI n := by
  obtain ⟨h1, h2⟩ := h
  have h0 : ¬ x < 0 := fun z => h1 (Int32.lt_of_lt_of_le z (nI_pos' hl))
  obtain ⟨n, hn, rfl⟩ := nI_of h0
  refine ⟨n, ?_, ?_, rfl⟩
  · exact Nat.le_of_not_lt fun z => h1 (nI_lt z hl)
  · exact Nat.le_of_not_lt fun z => h2 (nI_lt z hn)
/-! the steps that are taken -/
def sg_Fit (k p q r : Int32) (v : SY) : Prop := ∃ z, (∀ P : Int32 → Prop, P z → wpX_isStep P k p q r) ∧ (∀ P : Int32 → Prop, P z → wpY_fits P v k p q r) ∧ (z = 0 ∨ (z = 1 ∧ sg_ok k p q r))
theorem sg_fit0 {p q r : Int32} {v : SY} : sg_Fit 0 p q r v := by
  obtain ⟨ysc, ynow, yjc, yec, yse, yss, yac, yji, yen, yho, ywh, ytj, yte, yst, ypl, ydn, yas, ywt, yun, yrs, yva, yha, ypa, ypi, yps, yso, ysv, yct⟩ := v
  by_cases ha : sg_rg p 0 3
  · by_cases hb : sg_rg q 0 3
    · by_cases hc : sg_rg q (-99) 99
      · refine ⟨1, fun P h => ?_, fun P h => ?_, ?_⟩
        · simp only [wpX_isStep, wX_isStep_92, wX_isStep_216, wpX_isVariable, sg_n0, sg_n1, sg_xT ha, sg_xT hb, sg_xT hc, sg_lits, sg_mA, sg_mB, sg_mC, sg_mD, sg_mE, sg_mF, Int32.reduceLT, Int32.reduceLE, forall_eq, true_and, and_true, true_implies, false_implies, not_true_eq_false, not_false_eq_true, implies_true]
          exact h
        · simp only [wpY_fits, wY_fits_91, sg_n0, sg_n1, sg_yT ha, sg_yT hb, sg_yT hc, sg_lits, sg_mA, sg_mB, sg_mC, sg_mD, sg_mE, sg_mF, Int32.reduceLT, Int32.reduceLE, forall_eq, true_and, and_true, true_implies, false_implies, not_true_eq_false, not_false_eq_true, implies_true]
          exact h
        · refine Or.inr ⟨rfl, ?_⟩
          obtain ⟨na, la, ua, ea⟩ := sg_rgN 0 3 (by omega) (by omega) ha
          exact Or.inl ⟨rfl, na, by omega, ea⟩
      · refine ⟨0, fun P h => ?_, fun P h => ?_, ?_⟩
        · simp only [wpX_isStep, wX_isStep_92, wX_isStep_216, wpX_isVariable, sg_n0, sg_n1, sg_xT ha, sg_xT hb, sg_xF hc, sg_lits, sg_mA, sg_mB, sg_mC, sg_mD, sg_mE, sg_mF, Int32.reduceLT, Int32.reduceLE, forall_eq, true_and, and_true, true_implies, false_implies, not_true_eq_false, not_false_eq_true, implies_true]
          exact h
        · simp only [wpY_fits, wY_fits_91, sg_n0, sg_n1, sg_yT ha, sg_yT hb, sg_yF hc, sg_lits, sg_mA, sg_mB, sg_mC, sg_mD, sg_mE, sg_mF, Int32.reduceLT, Int32.reduceLE, forall_eq, true_and, and_true, true_implies, false_implies, not_true_eq_false, not_false_eq_true, implies_true]
          exact h
        · exact Or.inl rfl
    · by_cases hc : sg_rg q (-99) 99
      · refine ⟨1, fun P h => ?_, fun P h => ?_, ?_⟩
        · simp only [wpX_isStep, wX_isStep_92, wX_isStep_216, wpX_isVariable, sg_n0, sg_n1, sg_xT ha, sg_xF hb, sg_xT hc, sg_lits, sg_mA, sg_mB, sg_mC, sg_mD, sg_mE, sg_mF, Int32.reduceLT, Int32.reduceLE, forall_eq, true_and, and_true, true_implies, false_implies, not_true_eq_false, not_false_eq_true, implies_true]
          exact h
        · simp only [wpY_fits, wY_fits_91, sg_n0, sg_n1, sg_yT ha, sg_yF hb, sg_yT hc, sg_lits, sg_mA, sg_mB, sg_mC, sg_mD, sg_mE, sg_mF, Int32.reduceLT, Int32.reduceLE, forall_eq, true_and, and_true, true_implies, false_implies, not_true_eq_false, not_false_eq_true, implies_true]
          exact h
        · refine Or.inr ⟨rfl, ?_⟩
          obtain ⟨na, la, ua, ea⟩ := sg_rgN 0 3 (by omega) (by omega) ha
          exact Or.inl ⟨rfl, na, by omega, ea⟩
      · refine ⟨0, fun P h => ?_, fun P h => ?_, ?_⟩
        · simp only [wpX_isStep, wX_isStep_92, wX_isStep_216, wpX_isVariable, sg_n0, sg_n1, sg_xT ha, sg_xF hb, sg_xF hc, sg_lits, sg_mA, sg_mB, sg_mC, sg_mD, sg_mE, sg_mF, Int32.reduceLT, Int32.reduceLE, forall_eq, true_and, and_true, true_implies, false_implies, not_true_eq_false, not_false_eq_true, implies_true]
          exact h
        · simp only [wpY_fits, wY_fits_91, sg_n0, sg_n1, sg_yT ha, sg_yF hb, sg_yF hc, sg_lits, sg_mA, sg_mB, sg_mC, sg_mD, sg_mE, sg_mF, Int32.reduceLT, Int32.reduceLE, forall_eq, true_and, and_true, true_implies, false_implies, not_true_eq_false, not_false_eq_true, implies_true]
          exact h
        · exact Or.inl rfl
  · by_cases hb : sg_rg q 0 3
    · by_cases hc : sg_rg q (-99) 99
      · refine ⟨0, fun P h => ?_, fun P h => ?_, ?_⟩
        · simp only [wpX_isStep, wX_isStep_92, wX_isStep_216, wpX_isVariable, sg_n0, sg_n1, sg_xF ha, sg_xT hb, sg_xT hc, sg_lits, sg_mA, sg_mB, sg_mC, sg_mD, sg_mE, sg_mF, Int32.reduceLT, Int32.reduceLE, forall_eq, true_and, and_true, true_implies, false_implies, not_true_eq_false, not_false_eq_true, implies_true]
          exact h
        · simp only [wpY_fits, wY_fits_91, sg_n0, sg_n1, sg_yF ha, sg_yT hb, sg_yT hc, sg_lits, sg_mA, sg_mB, sg_mC, sg_mD, sg_mE, sg_mF, Int32.reduceLT, Int32.reduceLE, forall_eq, true_and, and_true, true_implies, false_implies, not_true_eq_false, not_false_eq_true, implies_true]
          exact h
        · exact Or.inl rfl
      · refine ⟨0, fun P h => ?_, fun P h => ?_, ?_⟩
        · simp only [wpX_isStep, wX_isStep_92, wX_isStep_216, wpX_isVariable, sg_n0, sg_n1, sg_xF ha, sg_xT hb, sg_xF hc, sg_lits, sg_mA, sg_mB, sg_mC, sg_mD, sg_mE, sg_mF, Int32.reduceLT, Int32.reduceLE, forall_eq, true_and, and_true, true_implies, false_implies, not_true_eq_false, not_false_eq_true, implies_true]
          exact h
        · simp only [wpY_fits, wY_fits_91, sg_n0, sg_n1, sg_yF ha, sg_yT hb, sg_yF hc, sg_lits, sg_mA, sg_mB, sg_mC, sg_mD, sg_mE, sg_mF, Int32.reduceLT, Int32.reduceLE, forall_eq, true_and, and_true, true_implies, false_implies, not_true_eq_false, not_false_eq_true, implies_true]
          exact h
        · exact Or.inl rfl
    · by_cases hc : sg_rg q (-99) 99
      · refine ⟨0, fun P h => ?_, fun P h => ?_, ?_⟩
        · simp only [wpX_isStep, wX_isStep_92, wX_isStep_216, wpX_isVariable, sg_n0, sg_n1, sg_xF ha, sg_xF hb, sg_xT hc, sg_lits, sg_mA, sg_mB, sg_mC, sg_mD, sg_mE, sg_mF, Int32.reduceLT, Int32.reduceLE, forall_eq, true_and, and_true, true_implies, false_implies, not_true_eq_false, not_false_eq_true, implies_true]
          exact h
        · simp only [wpY_fits, wY_fits_91, sg_n0, sg_n1, sg_yF ha, sg_yF hb, sg_yT hc, sg_lits, sg_mA, sg_mB, sg_mC, sg_mD, sg_mE, sg_mF, Int32.reduceLT, Int32.reduceLE, forall_eq, true_and, and_true, true_implies, false_implies, not_true_eq_false, not_false_eq_true, implies_true]
          exact h
        · exact Or.inl rfl
      · refine ⟨0, fun P h => ?_, fun P h => ?_, ?_⟩
        · simp only [wpX_isStep, wX_isStep_92, wX_isStep_216, wpX_isVariable, sg_n0, sg_n1, sg_xF ha, sg_xF hb, sg_xF hc, sg_lits, sg_mA, sg_mB, sg_mC, sg_mD, sg_mE, sg_mF, Int32.reduceLT, Int32.reduceLE, forall_eq, true_and, and_true, true_implies, false_implies, not_true_eq_false, not_false_eq_true, implies_true]
          exact h
        · simp only [wpY_fits, wY_fits_91, sg_n0, sg_n1, sg_yF ha, sg_yF hb, sg_yF hc, sg_lits, sg_mA, sg_mB, sg_mC, sg_mD, sg_mE, sg_mF, Int32.reduceLT, Int32.reduceLE, forall_eq, true_and, and_true, true_implies, false_implies, not_true_eq_false, not_false_eq_true, implies_true]
          exact h
        · exact Or.inl rfl
theorem sg_fit1 {p q r : Int32} {v : SY} : sg_Fit 1 p q r v := by
  obtain ⟨ysc, ynow, yjc, yec, yse, yss, yac, yji, yen, yho, ywh, ytj, yte, yst, ypl, ydn, yas, ywt, yun, yrs, yva, yha, ypa, ypi, yps, yso, ysv, yct⟩ := v
  by_cases ha : sg_rg p 0 3
  · by_cases hb : sg_rg q 0 3
    · refine ⟨1, fun P h => ?_, fun P h => ?_, ?_⟩
      · simp only [wpX_isStep, wX_isStep_92, wX_isStep_216, wpX_isVariable, sg_n0, sg_n1, sg_xT ha, sg_xT hb, sg_lits, sg_mA, sg_mB, sg_mC, sg_mD, sg_mE, sg_mF, Int32.reduceLT, Int32.reduceLE, forall_eq, true_and, and_true, true_implies, false_implies, not_true_eq_false, not_false_eq_true, implies_true]
        exact h
      · simp only [wpY_fits, wY_fits_91, sg_n0, sg_n1, sg_yT ha, sg_yT hb, sg_lits, sg_mA, sg_mB, sg_mC, sg_mD, sg_mE, sg_mF, Int32.reduceLT, Int32.reduceLE, forall_eq, true_and, and_true, true_implies, false_implies, not_true_eq_false, not_false_eq_true, implies_true]
        exact h
      · refine Or.inr ⟨rfl, ?_⟩
        obtain ⟨na, la, ua, ea⟩ := sg_rgN 0 3 (by omega) (by omega) ha
        obtain ⟨nb, lb, ub, eb⟩ := sg_rgN 0 3 (by omega) (by omega) hb
        exact Or.inr (Or.inl ⟨rfl, na, nb, by omega, by omega, ea, eb⟩)
    · refine ⟨0, fun P h => ?_, fun P h => ?_, ?_⟩
      · simp only [wpX_isStep, wX_isStep_92, wX_isStep_216, wpX_isVariable, sg_n0, sg_n1, sg_xT ha, sg_xF hb, sg_lits, sg_mA, sg_mB, sg_mC, sg_mD, sg_mE, sg_mF, Int32.reduceLT, Int32.reduceLE, forall_eq, true_and, and_true, true_implies, false_implies, not_true_eq_false, not_false_eq_true, implies_true]
        exact h
      · simp only [wpY_fits, wY_fits_91, sg_n0, sg_n1, sg_yT ha, sg_yF hb, sg_lits, sg_mA, sg_mB, sg_mC, sg_mD, sg_mE, sg_mF, Int32.reduceLT, Int32.reduceLE, forall_eq, true_and, and_true, true_implies, false_implies, not_true_eq_false, not_false_eq_true, implies_true]
        exact h
      · exact Or.inl rfl
  · by_cases hb : sg_rg q 0 3
    · refine ⟨0, fun P h => ?_, fun P h => ?_, ?_⟩
      · simp only [wpX_isStep, wX_isStep_92, wX_isStep_216, wpX_isVariable, sg_n0, sg_n1, sg_xF ha, sg_xT hb, sg_lits, sg_mA, sg_mB, sg_mC, sg_mD, sg_mE, sg_mF, Int32.reduceLT, Int32.reduceLE, forall_eq, true_and, and_true, true_implies, false_implies, not_true_eq_false, not_false_eq_true, implies_true]
        exact h
      · simp only [wpY_fits, wY_fits_91, sg_n0, sg_n1, sg_yF ha, sg_yT hb, sg_lits, sg_mA, sg_mB, sg_mC, sg_mD, sg_mE, sg_mF, Int32.reduceLT, Int32.reduceLE, forall_eq, true_and, and_true, true_implies, false_implies, not_true_eq_false, not_false_eq_true, implies_true]
        exact h
      · exact Or.inl rfl
    · refine ⟨0, fun P h => ?_, fun P h => ?_, ?_⟩
      · simp only [wpX_isStep, wX_isStep_92, wX_isStep_216, wpX_isVariable, sg_n0, sg_n1, sg_xF ha, sg_xF hb, sg_lits, sg_mA, sg_mB, sg_mC, sg_mD, sg_mE, sg_mF, Int32.reduceLT, Int32.reduceLE, forall_eq, true_and, and_true, true_implies, false_implies, not_true_eq_false, not_false_eq_true, implies_true]
        exact h
      · simp only [wpY_fits, wY_fits_91, sg_n0, sg_n1, sg_yF ha, sg_yF hb, sg_lits, sg_mA, sg_mB, sg_mC, sg_mD, sg_mE, sg_mF, Int32.reduceLT, Int32.reduceLE, forall_eq, true_and, and_true, true_implies, false_implies, not_true_eq_false, not_false_eq_true, implies_true]
        exact h
      · exact Or.inl rfl
theorem sg_fit2 {p q r : Int32} {v : SY} : sg_Fit 2 p q r v := by
  obtain ⟨ysc, ynow, yjc, yec, yse, yss, yac, yji, yen, yho, ywh, ytj, yte, yst, ypl, ydn, yas, ywt, yun, yrs, yva, yha, ypa, ypi, yps, yso, ysv, yct⟩ := v
  by_cases ha : sg_rg p 0 3
  · by_cases hb : sg_rg q 0 3
    · refine ⟨1, fun P h => ?_, fun P h => ?_, ?_⟩
      · simp only [wpX_isStep, wX_isStep_92, wX_isStep_216, wpX_isVariable, sg_n0, sg_n1, sg_xT ha, sg_xT hb, sg_lits, sg_mA, sg_mB, sg_mC, sg_mD, sg_mE, sg_mF, Int32.reduceLT, Int32.reduceLE, forall_eq, true_and, and_true, true_implies, false_implies, not_true_eq_false, not_false_eq_true, implies_true]
        exact h
      · simp only [wpY_fits, wY_fits_91, sg_n0, sg_n1, sg_yT ha, sg_yT hb, sg_lits, sg_mA, sg_mB, sg_mC, sg_mD, sg_mE, sg_mF, Int32.reduceLT, Int32.reduceLE, forall_eq, true_and, and_true, true_implies, false_implies, not_true_eq_false, not_false_eq_true, implies_true]
        exact h
      · refine Or.inr ⟨rfl, ?_⟩
        obtain ⟨na, la, ua, ea⟩ := sg_rgN 0 3 (by omega) (by omega) ha
        obtain ⟨nb, lb, ub, eb⟩ := sg_rgN 0 3 (by omega) (by omega) hb
        exact Or.inr (Or.inr (Or.inl ⟨rfl, na, nb, by omega, by omega, ea, eb⟩))
    · refine ⟨0, fun P h => ?_, fun P h => ?_, ?_⟩
      · simp only [wpX_isStep, wX_isStep_92, wX_isStep_216, wpX_isVariable, sg_n0, sg_n1, sg_xT ha, sg_xF hb, sg_lits, sg_mA, sg_mB, sg_mC, sg_mD, sg_mE, sg_mF, Int32.reduceLT, Int32.reduceLE, forall_eq, true_and, and_true, true_implies, false_implies, not_true_eq_false, not_false_eq_true, implies_true]
        exact h
      · simp only [wpY_fits, wY_fits_91, sg_n0, sg_n1, sg_yT ha, sg_yF hb, sg_lits, sg_mA, sg_mB, sg_mC, sg_mD, sg_mE, sg_mF, Int32.reduceLT, Int32.reduceLE, forall_eq, true_and, and_true, true_implies, false_implies, not_true_eq_false, not_false_eq_true, implies_true]
        exact h
      · exact Or.inl rfl
  · by_cases hb : sg_rg q 0 3
    · refine ⟨0, fun P h => ?_, fun P h => ?_, ?_⟩
      · simp only [wpX_isStep, wX_isStep_92, wX_isStep_216, wpX_isVariable, sg_n0, sg_n1, sg_xF ha, sg_xT hb, sg_lits, sg_mA, sg_mB, sg_mC, sg_mD, sg_mE, sg_mF, Int32.reduceLT, Int32.reduceLE, forall_eq, true_and, and_true, true_implies, false_implies, not_true_eq_false, not_false_eq_true, implies_true]
        exact h
      · simp only [wpY_fits, wY_fits_91, sg_n0, sg_n1, sg_yF ha, sg_yT hb, sg_lits, sg_mA, sg_mB, sg_mC, sg_mD, sg_mE, sg_mF, Int32.reduceLT, Int32.reduceLE, forall_eq, true_and, and_true, true_implies, false_implies, not_true_eq_false, not_false_eq_true, implies_true]
        exact h
      · exact Or.inl rfl
    · refine ⟨0, fun P h => ?_, fun P h => ?_, ?_⟩
      · simp only [wpX_isStep, wX_isStep_92, wX_isStep_216, wpX_isVariable, sg_n0, sg_n1, sg_xF ha, sg_xF hb, sg_lits, sg_mA, sg_mB, sg_mC, sg_mD, sg_mE, sg_mF, Int32.reduceLT, Int32.reduceLE, forall_eq, true_and, and_true, true_implies, false_implies, not_true_eq_false, not_false_eq_true, implies_true]
        exact h
      · simp only [wpY_fits, wY_fits_91, sg_n0, sg_n1, sg_yF ha, sg_yF hb, sg_lits, sg_mA, sg_mB, sg_mC, sg_mD, sg_mE, sg_mF, Int32.reduceLT, Int32.reduceLE, forall_eq, true_and, and_true, true_implies, false_implies, not_true_eq_false, not_false_eq_true, implies_true]
        exact h
      · exact Or.inl rfl
theorem sg_fit3 {p q r : Int32} {v : SY} : sg_Fit 3 p q r v := by
  obtain ⟨ysc, ynow, yjc, yec, yse, yss, yac, yji, yen, yho, ywh, ytj, yte, yst, ypl, ydn, yas, ywt, yun, yrs, yva, yha, ypa, ypi, yps, yso, ysv, yct⟩ := v
  by_cases ha : sg_rg p 0 3
  · by_cases hb : sg_rg q 0 3
    · by_cases hc : sg_rg r 0 3
      · refine ⟨1, fun P h => ?_, fun P h => ?_, ?_⟩
        · simp only [wpX_isStep, wX_isStep_92, wX_isStep_216, wpX_isVariable, sg_n0, sg_n1, sg_xT ha, sg_xT hb, sg_xT hc, sg_lits, sg_mA, sg_mB, sg_mC, sg_mD, sg_mE, sg_mF, Int32.reduceLT, Int32.reduceLE, forall_eq, true_and, and_true, true_implies, false_implies, not_true_eq_false, not_false_eq_true, implies_true]
          exact h
        · simp only [wpY_fits, wY_fits_91, sg_n0, sg_n1, sg_yT ha, sg_yT hb, sg_yT hc, sg_lits, sg_mA, sg_mB, sg_mC, sg_mD, sg_mE, sg_mF, Int32.reduceLT, Int32.reduceLE, forall_eq, true_and, and_true, true_implies, false_implies, not_true_eq_false, not_false_eq_true, implies_true]
          exact h
        · refine Or.inr ⟨rfl, ?_⟩
          obtain ⟨na, la, ua, ea⟩ := sg_rgN 0 3 (by omega) (by omega) ha
          obtain ⟨nb, lb, ub, eb⟩ := sg_rgN 0 3 (by omega) (by omega) hb
          obtain ⟨nc, lc, uc, ec⟩ := sg_rgN 0 3 (by omega) (by omega) hc
          exact Or.inr (Or.inr (Or.inr (Or.inl ⟨rfl, na, nb, nc, by omega, by omega, by omega, ea, eb, ec⟩)))
      · refine ⟨0, fun P h => ?_, fun P h => ?_, ?_⟩
        · simp only [wpX_isStep, wX_isStep_92, wX_isStep_216, wpX_isVariable, sg_n0, sg_n1, sg_xT ha, sg_xT hb, sg_xF hc, sg_lits, sg_mA, sg_mB, sg_mC, sg_mD, sg_mE, sg_mF, Int32.reduceLT, Int32.reduceLE, forall_eq, true_and, and_true, true_implies, false_implies, not_true_eq_false, not_false_eq_true, implies_true]
          exact h
        · simp only [wpY_fits, wY_fits_91, sg_n0, sg_n1, sg_yT ha, sg_yT hb, sg_yF hc, sg_lits, sg_mA, sg_mB, sg_mC, sg_mD, sg_mE, sg_mF, Int32.reduceLT, Int32.reduceLE, forall_eq, true_and, and_true, true_implies, false_implies, not_true_eq_false, not_false_eq_true, implies_true]
          exact h
        · exact Or.inl rfl
    · by_cases hc : sg_rg r 0 3
      · refine ⟨0, fun P h => ?_, fun P h => ?_, ?_⟩
        · simp only [wpX_isStep, wX_isStep_92, wX_isStep_216, wpX_isVariable, sg_n0, sg_n1, sg_xT ha, sg_xF hb, sg_xT hc, sg_lits, sg_mA, sg_mB, sg_mC, sg_mD, sg_mE, sg_mF, Int32.reduceLT, Int32.reduceLE, forall_eq, true_and, and_true, true_implies, false_implies, not_true_eq_false, not_false_eq_true, implies_true]
          exact h
        · simp only [wpY_fits, wY_fits_91, sg_n0, sg_n1, sg_yT ha, sg_yF hb, sg_yT hc, sg_lits, sg_mA, sg_mB, sg_mC, sg_mD, sg_mE, sg_mF, Int32.reduceLT, Int32.reduceLE, forall_eq, true_and, and_true, true_implies, false_implies, not_true_eq_false, not_false_eq_true, implies_true]
          exact h
        · exact Or.inl rfl
      · refine ⟨0, fun P h => ?_, fun P h => ?_, ?_⟩
        · simp only [wpX_isStep, wX_isStep_92, wX_isStep_216, wpX_isVariable, sg_n0, sg_n1, sg_xT ha, sg_xF hb, sg_xF hc, sg_lits, sg_mA, sg_mB, sg_mC, sg_mD, sg_mE, sg_mF, Int32.reduceLT, Int32.reduceLE, forall_eq, true_and, and_true, true_implies, false_implies, not_true_eq_false, not_false_eq_true, implies_true]
          exact h
        · simp only [wpY_fits, wY_fits_91, sg_n0, sg_n1, sg_yT ha, sg_yF hb, sg_yF hc, sg_lits, sg_mA, sg_mB, sg_mC, sg_mD, sg_mE, sg_mF, Int32.reduceLT, Int32.reduceLE, forall_eq, true_and, and_true, true_implies, false_implies, not_true_eq_false, not_false_eq_true, implies_true]
          exact h
        · exact Or.inl rfl
  · by_cases hb : sg_rg q 0 3
    · by_cases hc : sg_rg r 0 3
      · refine ⟨0, fun P h => ?_, fun P h => ?_, ?_⟩
        · simp only [wpX_isStep, wX_isStep_92, wX_isStep_216, wpX_isVariable, sg_n0, sg_n1, sg_xF ha, sg_xT hb, sg_xT hc, sg_lits, sg_mA, sg_mB, sg_mC, sg_mD, sg_mE, sg_mF, Int32.reduceLT, Int32.reduceLE, forall_eq, true_and, and_true, true_implies, false_implies, not_true_eq_false, not_false_eq_true, implies_true]
          exact h
        · simp only [wpY_fits, wY_fits_91, sg_n0, sg_n1, sg_yF ha, sg_yT hb, sg_yT hc, sg_lits, sg_mA, sg_mB, sg_mC, sg_mD, sg_mE, sg_mF, Int32.reduceLT, Int32.reduceLE, forall_eq, true_and, and_true, true_implies, false_implies, not_true_eq_false, not_false_eq_true, implies_true]
          exact h
        · exact Or.inl rfl
      · refine ⟨0, fun P h => ?_, fun P h => ?_, ?_⟩
        · simp only [wpX_isStep, wX_isStep_92, wX_isStep_216, wpX_isVariable, sg_n0, sg_n1, sg_xF ha, sg_xT hb, sg_xF hc, sg_lits, sg_mA, sg_mB, sg_mC, sg_mD, sg_mE, sg_mF, Int32.reduceLT, Int32.reduceLE, forall_eq, true_and, and_true, true_implies, false_implies, not_true_eq_false, not_false_eq_true, implies_true]
          exact h
        · simp only [wpY_fits, wY_fits_91, sg_n0, sg_n1, sg_yF ha, sg_yT hb, sg_yF hc, sg_lits, sg_mA, sg_mB, sg_mC, sg_mD, sg_mE, sg_mF, Int32.reduceLT, Int32.reduceLE, forall_eq, true_and, and_true, true_implies, false_implies, not_true_eq_false, not_false_eq_true, implies_true]
          exact h
        · exact Or.inl rfl
    · by_cases hc : sg_rg r 0 3
      · refine ⟨0, fun P h => ?_, fun P h => ?_, ?_⟩
        · simp only [wpX_isStep, wX_isStep_92, wX_isStep_216, wpX_isVariable, sg_n0, sg_n1, sg_xF ha, sg_xF hb, sg_xT hc, sg_lits, sg_mA, sg_mB, sg_mC, sg_mD, sg_mE, sg_mF, Int32.reduceLT, Int32.reduceLE, forall_eq, true_and, and_true, true_implies, false_implies, not_true_eq_false, not_false_eq_true, implies_true]
          exact h
        · simp only [wpY_fits, wY_fits_91, sg_n0, sg_n1, sg_yF ha, sg_yF hb, sg_yT hc, sg_lits, sg_mA, sg_mB, sg_mC, sg_mD, sg_mE, sg_mF, Int32.reduceLT, Int32.reduceLE, forall_eq, true_and, and_true, true_implies, false_implies, not_true_eq_false, not_false_eq_true, implies_true]
          exact h
        · exact Or.inl rfl
      · refine ⟨0, fun P h => ?_, fun P h => ?_, ?_⟩
        · simp only [wpX_isStep, wX_isStep_92, wX_isStep_216, wpX_isVariable, sg_n0, sg_n1, sg_xF ha, sg_xF hb, sg_xF hc, sg_lits, sg_mA, sg_mB, sg_mC, sg_mD, sg_mE, sg_mF, Int32.reduceLT, Int32.reduceLE, forall_eq, true_and, and_true, true_implies, false_implies, not_true_eq_false, not_false_eq_true, implies_true]
          exact h
        · simp only [wpY_fits, wY_fits_91, sg_n0, sg_n1, sg_yF ha, sg_yF hb, sg_yF hc, sg_lits, sg_mA, sg_mB, sg_mC, sg_mD, sg_mE, sg_mF, Int32.reduceLT, Int32.reduceLE, forall_eq, true_and, and_true, true_implies, false_implies, not_true_eq_false, not_false_eq_true, implies_true]
          exact h
        · exact Or.inl rfl
theorem sg_fit4 {p q r : Int32} {v : SY} : sg_Fit 4 p q r v := by
  obtain ⟨ysc, ynow, yjc, yec, yse, yss, yac, yji, yen, yho, ywh, ytj, yte, yst, ypl, ydn, yas, ywt, yun, yrs, yva, yha, ypa, ypi, yps, yso, ysv, yct⟩ := v
  by_cases ha : sg_rg p 0 3
  · by_cases hb : sg_rg q 0 3
    · by_cases hc : sg_rg r 0 2
      · refine ⟨1, fun P h => ?_, fun P h => ?_, ?_⟩
        · simp only [wpX_isStep, wX_isStep_92, wX_isStep_216, wpX_isVariable, sg_n0, sg_n1, sg_xT ha, sg_xT hb, sg_xT hc, sg_lits, sg_mA, sg_mB, sg_mC, sg_mD, sg_mE, sg_mF, Int32.reduceLT, Int32.reduceLE, forall_eq, true_and, and_true, true_implies, false_implies, not_true_eq_false, not_false_eq_true, implies_true]
          exact h
        · simp only [wpY_fits, wY_fits_91, sg_n0, sg_n1, sg_yT ha, sg_yT hb, sg_yT hc, sg_lits, sg_mA, sg_mB, sg_mC, sg_mD, sg_mE, sg_mF, Int32.reduceLT, Int32.reduceLE, forall_eq, true_and, and_true, true_implies, false_implies, not_true_eq_false, not_false_eq_true, implies_true]
          exact h
        · refine Or.inr ⟨rfl, ?_⟩
          obtain ⟨na, la, ua, ea⟩ := sg_rgN 0 3 (by omega) (by omega) ha
          obtain ⟨nb, lb, ub, eb⟩ := sg_rgN 0 3 (by omega) (by omega) hb
          obtain ⟨nc, lc, uc, ec⟩ := sg_rgN 0 2 (by omega) (by omega) hc
          exact Or.inr (Or.inr (Or.inr (Or.inr (Or.inl ⟨rfl, na, nb, nc, by omega, by omega, by omega, ea, eb, ec⟩))))
      · refine ⟨0, fun P h => ?_, fun P h => ?_, ?_⟩
        · simp only [wpX_isStep, wX_isStep_92, wX_isStep_216, wpX_isVariable, sg_n0, sg_n1, sg_xT ha, sg_xT hb, sg_xF hc, sg_lits, sg_mA, sg_mB, sg_mC, sg_mD, sg_mE, sg_mF, Int32.reduceLT, Int32.reduceLE, forall_eq, true_and, and_true, true_implies, false_implies, not_true_eq_false, not_false_eq_true, implies_true]
          exact h
        · simp only [wpY_fits, wY_fits_91, sg_n0, sg_n1, sg_yT ha, sg_yT hb, sg_yF hc, sg_lits, sg_mA, sg_mB, sg_mC, sg_mD, sg_mE, sg_mF, Int32.reduceLT, Int32.reduceLE, forall_eq, true_and, and_true, true_implies, false_implies, not_true_eq_false, not_false_eq_true, implies_true]
          exact h
        · exact Or.inl rfl
    · by_cases hc : sg_rg r 0 2
      · refine ⟨0, fun P h => ?_, fun P h => ?_, ?_⟩
        · simp only [wpX_isStep, wX_isStep_92, wX_isStep_216, wpX_isVariable, sg_n0, sg_n1, sg_xT ha, sg_xF hb, sg_xT hc, sg_lits, sg_mA, sg_mB, sg_mC, sg_mD, sg_mE, sg_mF, Int32.reduceLT, Int32.reduceLE, forall_eq, true_and, and_true, true_implies, false_implies, not_true_eq_false, not_false_eq_true, implies_true]
          exact h
        · simp only [wpY_fits, wY_fits_91, sg_n0, sg_n1, sg_yT ha, sg_yF hb, sg_yT hc, sg_lits, sg_mA, sg_mB, sg_mC, sg_mD, sg_mE, sg_mF, Int32.reduceLT, Int32.reduceLE, forall_eq, true_and, and_true, true_implies, false_implies, not_true_eq_false, not_false_eq_true, implies_true]
          exact h
        · exact Or.inl rfl
      · refine ⟨0, fun P h => ?_, fun P h => ?_, ?_⟩
        · simp only [wpX_isStep, wX_isStep_92, wX_isStep_216, wpX_isVariable, sg_n0, sg_n1, sg_xT ha, sg_xF hb, sg_xF hc, sg_lits, sg_mA, sg_mB, sg_mC, sg_mD, sg_mE, sg_mF, Int32.reduceLT, Int32.reduceLE, forall_eq, true_and, and_true, true_implies, false_implies, not_true_eq_false, not_false_eq_true, implies_true]
          exact h
        · simp only [wpY_fits, wY_fits_91, sg_n0, sg_n1, sg_yT ha, sg_yF hb, sg_yF hc, sg_lits, sg_mA, sg_mB, sg_mC, sg_mD, sg_mE, sg_mF, Int32.reduceLT, Int32.reduceLE, forall_eq, true_and, and_true, true_implies, false_implies, not_true_eq_false, not_false_eq_true, implies_true]
          exact h
        · exact Or.inl rfl
  · by_cases hb : sg_rg q 0 3
    · by_cases hc : sg_rg r 0 2
      · refine ⟨0, fun P h => ?_, fun P h => ?_, ?_⟩
        · simp only [wpX_isStep, wX_isStep_92, wX_isStep_216, wpX_isVariable, sg_n0, sg_n1, sg_xF ha, sg_xT hb, sg_xT hc, sg_lits, sg_mA, sg_mB, sg_mC, sg_mD, sg_mE, sg_mF, Int32.reduceLT, Int32.reduceLE, forall_eq, true_and, and_true, true_implies, false_implies, not_true_eq_false, not_false_eq_true, implies_true]
          exact h
        · simp only [wpY_fits, wY_fits_91, sg_n0, sg_n1, sg_yF ha, sg_yT hb, sg_yT hc, sg_lits, sg_mA, sg_mB, sg_mC, sg_mD, sg_mE, sg_mF, Int32.reduceLT, Int32.reduceLE, forall_eq, true_and, and_true, true_implies, false_implies, not_true_eq_false, not_false_eq_true, implies_true]
          exact h
        · exact Or.inl rfl
      · refine ⟨0, fun P h => ?_, fun P h => ?_, ?_⟩
        · simp only [wpX_isStep, wX_isStep_92, wX_isStep_216, wpX_isVariable, sg_n0, sg_n1, sg_xF ha, sg_xT hb, sg_xF hc, sg_lits, sg_mA, sg_mB, sg_mC, sg_mD, sg_mE, sg_mF, Int32.reduceLT, Int32.reduceLE, forall_eq, true_and, and_true, true_implies, false_implies, not_true_eq_false, not_false_eq_true, implies_true]
          exact h
        · simp only [wpY_fits, wY_fits_91, sg_n0, sg_n1, sg_yF ha, sg_yT hb, sg_yF hc, sg_lits, sg_mA, sg_mB, sg_mC, sg_mD, sg_mE, sg_mF, Int32.reduceLT, Int32.reduceLE, forall_eq, true_and, and_true, true_implies, false_implies, not_true_eq_false, not_false_eq_true, implies_true]
          exact h
        · exact Or.inl rfl
    · by_cases hc : sg_rg r 0 2
      · refine ⟨0, fun P h => ?_, fun P h => ?_, ?_⟩
        · simp only [wpX_isStep, wX_isStep_92, wX_isStep_216, wpX_isVariable, sg_n0, sg_n1, sg_xF ha, sg_xF hb, sg_xT hc, sg_lits, sg_mA, sg_mB, sg_mC, sg_mD, sg_mE, sg_mF, Int32.reduceLT, Int32.reduceLE, forall_eq, true_and, and_true, true_implies, false_implies, not_true_eq_false, not_false_eq_true, implies_true]
          exact h
        · simp only [wpY_fits, wY_fits_91, sg_n0, sg_n1, sg_yF ha, sg_yF hb, sg_yT hc, sg_lits, sg_mA, sg_mB, sg_mC, sg_mD, sg_mE, sg_mF, Int32.reduceLT, Int32.reduceLE, forall_eq, true_and, and_true, true_implies, false_implies, not_true_eq_false, not_false_eq_true, implies_true]
          exact h
        · exact Or.inl rfl
      · refine ⟨0, fun P h => ?_, fun P h => ?_, ?_⟩
        · simp only [wpX_isStep, wX_isStep_92, wX_isStep_216, wpX_isVariable, sg_n0, sg_n1, sg_xF ha, sg_xF hb, sg_xF hc, sg_lits, sg_mA, sg_mB, sg_mC, sg_mD, sg_mE, sg_mF, Int32.reduceLT, Int32.reduceLE, forall_eq, true_and, and_true, true_implies, false_implies, not_true_eq_false, not_false_eq_true, implies_true]
          exact h
        · simp only [wpY_fits, wY_fits_91, sg_n0, sg_n1, sg_yF ha, sg_yF hb, sg_yF hc, sg_lits, sg_mA, sg_mB, sg_mC, sg_mD, sg_mE, sg_mF, Int32.reduceLT, Int32.reduceLE, forall_eq, true_and, and_true, true_implies, false_implies, not_true_eq_false, not_false_eq_true, implies_true]
          exact h
        · exact Or.inl rfl
theorem sg_fit5 {p q r : Int32} {v : SY} : sg_Fit 5 p q r v := by
  obtain ⟨ysc, ynow, yjc, yec, yse, yss, yac, yji, yen, yho, ywh, ytj, yte, yst, ypl, ydn, yas, ywt, yun, yrs, yva, yha, ypa, ypi, yps, yso, ysv, yct⟩ := v
  by_cases ha : sg_rg p 0 3
  · by_cases hb : sg_rg q 0 3
    · by_cases hc : sg_rg p 0 2
      · refine ⟨1, fun P h => ?_, fun P h => ?_, ?_⟩
        · simp only [wpX_isStep, wX_isStep_92, wX_isStep_216, wpX_isVariable, sg_n0, sg_n1, sg_xT ha, sg_xT hb, sg_xT hc, sg_lits, sg_mA, sg_mB, sg_mC, sg_mD, sg_mE, sg_mF, Int32.reduceLT, Int32.reduceLE, forall_eq, true_and, and_true, true_implies, false_implies, not_true_eq_false, not_false_eq_true, implies_true]
          exact h
        · simp only [wpY_fits, wY_fits_91, sg_n0, sg_n1, sg_yT ha, sg_yT hb, sg_yT hc, sg_lits, sg_mA, sg_mB, sg_mC, sg_mD, sg_mE, sg_mF, Int32.reduceLT, Int32.reduceLE, forall_eq, true_and, and_true, true_implies, false_implies, not_true_eq_false, not_false_eq_true, implies_true]
          exact h
        · refine Or.inr ⟨rfl, ?_⟩
          obtain ⟨nc, lc, uc, ec⟩ := sg_rgN 0 2 (by omega) (by omega) hc
          obtain ⟨nb, lb, ub, eb⟩ := sg_rgN 0 3 (by omega) (by omega) hb
          exact Or.inr (Or.inr (Or.inr (Or.inr (Or.inr (Or.inl ⟨rfl, nc, nb, by omega, by omega, ec, eb⟩)))))
      · refine ⟨0, fun P h => ?_, fun P h => ?_, ?_⟩
        · simp only [wpX_isStep, wX_isStep_92, wX_isStep_216, wpX_isVariable, sg_n0, sg_n1, sg_xT ha, sg_xT hb, sg_xF hc, sg_lits, sg_mA, sg_mB, sg_mC, sg_mD, sg_mE, sg_mF, Int32.reduceLT, Int32.reduceLE, forall_eq, true_and, and_true, true_implies, false_implies, not_true_eq_false, not_false_eq_true, implies_true]
          exact h
        · simp only [wpY_fits, wY_fits_91, sg_n0, sg_n1, sg_yT ha, sg_yT hb, sg_yF hc, sg_lits, sg_mA, sg_mB, sg_mC, sg_mD, sg_mE, sg_mF, Int32.reduceLT, Int32.reduceLE, forall_eq, true_and, and_true, true_implies, false_implies, not_true_eq_false, not_false_eq_true, implies_true]
          exact h
        · exact Or.inl rfl
    · by_cases hc : sg_rg p 0 2
      · refine ⟨0, fun P h => ?_, fun P h => ?_, ?_⟩
        · simp only [wpX_isStep, wX_isStep_92, wX_isStep_216, wpX_isVariable, sg_n0, sg_n1, sg_xT ha, sg_xF hb, sg_xT hc, sg_lits, sg_mA, sg_mB, sg_mC, sg_mD, sg_mE, sg_mF, Int32.reduceLT, Int32.reduceLE, forall_eq, true_and, and_true, true_implies, false_implies, not_true_eq_false, not_false_eq_true, implies_true]
          exact h
        · simp only [wpY_fits, wY_fits_91, sg_n0, sg_n1, sg_yT ha, sg_yF hb, sg_yT hc, sg_lits, sg_mA, sg_mB, sg_mC, sg_mD, sg_mE, sg_mF, Int32.reduceLT, Int32.reduceLE, forall_eq, true_and, and_true, true_implies, false_implies, not_true_eq_false, not_false_eq_true, implies_true]
          exact h
        · exact Or.inl rfl
      · refine ⟨0, fun P h => ?_, fun P h => ?_, ?_⟩
        · simp only [wpX_isStep, wX_isStep_92, wX_isStep_216, wpX_isVariable, sg_n0, sg_n1, sg_xT ha, sg_xF hb, sg_xF hc, sg_lits, sg_mA, sg_mB, sg_mC, sg_mD, sg_mE, sg_mF, Int32.reduceLT, Int32.reduceLE, forall_eq, true_and, and_true, true_implies, false_implies, not_true_eq_false, not_false_eq_true, implies_true]
          exact h
        · simp only [wpY_fits, wY_fits_91, sg_n0, sg_n1, sg_yT ha, sg_yF hb, sg_yF hc, sg_lits, sg_mA, sg_mB, sg_mC, sg_mD, sg_mE, sg_mF, Int32.reduceLT, Int32.reduceLE, forall_eq, true_and, and_true, true_implies, false_implies, not_true_eq_false, not_false_eq_true, implies_true]
          exact h
        · exact Or.inl rfl
  · by_cases hb : sg_rg q 0 3
    · by_cases hc : sg_rg p 0 2
      · refine ⟨1, fun P h => ?_, fun P h => ?_, ?_⟩
        · simp only [wpX_isStep, wX_isStep_92, wX_isStep_216, wpX_isVariable, sg_n0, sg_n1, sg_xF ha, sg_xT hb, sg_xT hc, sg_lits, sg_mA, sg_mB, sg_mC, sg_mD, sg_mE, sg_mF, Int32.reduceLT, Int32.reduceLE, forall_eq, true_and, and_true, true_implies, false_implies, not_true_eq_false, not_false_eq_true, implies_true]
          exact h
        · simp only [wpY_fits, wY_fits_91, sg_n0, sg_n1, sg_yF ha, sg_yT hb, sg_yT hc, sg_lits, sg_mA, sg_mB, sg_mC, sg_mD, sg_mE, sg_mF, Int32.reduceLT, Int32.reduceLE, forall_eq, true_and, and_true, true_implies, false_implies, not_true_eq_false, not_false_eq_true, implies_true]
          exact h
        · refine Or.inr ⟨rfl, ?_⟩
          obtain ⟨nc, lc, uc, ec⟩ := sg_rgN 0 2 (by omega) (by omega) hc
          obtain ⟨nb, lb, ub, eb⟩ := sg_rgN 0 3 (by omega) (by omega) hb
          exact Or.inr (Or.inr (Or.inr (Or.inr (Or.inr (Or.inl ⟨rfl, nc, nb, by omega, by omega, ec, eb⟩)))))
      · refine ⟨0, fun P h => ?_, fun P h => ?_, ?_⟩
        · simp only [wpX_isStep, wX_isStep_92, wX_isStep_216, wpX_isVariable, sg_n0, sg_n1, sg_xF ha, sg_xT hb, sg_xF hc, sg_lits, sg_mA, sg_mB, sg_mC, sg_mD, sg_mE, sg_mF, Int32.reduceLT, Int32.reduceLE, forall_eq, true_and, and_true, true_implies, false_implies, not_true_eq_false, not_false_eq_true, implies_true]
          exact h
        · simp only [wpY_fits, wY_fits_91, sg_n0, sg_n1, sg_yF ha, sg_yT hb, sg_yF hc, sg_lits, sg_mA, sg_mB, sg_mC, sg_mD, sg_mE, sg_mF, Int32.reduceLT, Int32.reduceLE, forall_eq, true_and, and_true, true_implies, false_implies, not_true_eq_false, not_false_eq_true, implies_true]
          exact h
        · exact Or.inl rfl
    · by_cases hc : sg_rg p 0 2
      · refine ⟨0, fun P h => ?_, fun P h => ?_, ?_⟩
        · simp only [wpX_isStep, wX_isStep_92, wX_isStep_216, wpX_isVariable, sg_n0, sg_n1, sg_xF ha, sg_xF hb, sg_xT hc, sg_lits, sg_mA, sg_mB, sg_mC, sg_mD, sg_mE, sg_mF, Int32.reduceLT, Int32.reduceLE, forall_eq, true_and, and_true, true_implies, false_implies, not_true_eq_false, not_false_eq_true, implies_true]
          exact h
        · simp only [wpY_fits, wY_fits_91, sg_n0, sg_n1, sg_yF ha, sg_yF hb, sg_yT hc, sg_lits, sg_mA, sg_mB, sg_mC, sg_mD, sg_mE, sg_mF, Int32.reduceLT, Int32.reduceLE, forall_eq, true_and, and_true, true_implies, false_implies, not_true_eq_false, not_false_eq_true, implies_true]
          exact h
        · exact Or.inl rfl
      · refine ⟨0, fun P h => ?_, fun P h => ?_, ?_⟩
        · simp only [wpX_isStep, wX_isStep_92, wX_isStep_216, wpX_isVariable, sg_n0, sg_n1, sg_xF ha, sg_xF hb, sg_xF hc, sg_lits, sg_mA, sg_mB, sg_mC, sg_mD, sg_mE, sg_mF, Int32.reduceLT, Int32.reduceLE, forall_eq, true_and, and_true, true_implies, false_implies, not_true_eq_false, not_false_eq_true, implies_true]
          exact h
        · simp only [wpY_fits, wY_fits_91, sg_n0, sg_n1, sg_yF ha, sg_yF hb, sg_yF hc, sg_lits, sg_mA, sg_mB, sg_mC, sg_mD, sg_mE, sg_mF, Int32.reduceLT, Int32.reduceLE, forall_eq, true_and, and_true, true_implies, false_implies, not_true_eq_false, not_false_eq_true, implies_true]
          exact h
        · exact Or.inl rfl
theorem sg_fit6 {p q r : Int32} {v : SY} : sg_Fit 6 p q r v := by
  obtain ⟨ysc, ynow, yjc, yec, yse, yss, yac, yji, yen, yho, ywh, ytj, yte, yst, ypl, ydn, yas, ywt, yun, yrs, yva, yha, ypa, ypi, yps, yso, ysv, yct⟩ := v
  by_cases ha : sg_rg p 0 3
  · by_cases hb : sg_rg q 0 3
    · refine ⟨1, fun P h => ?_, fun P h => ?_, ?_⟩
      · simp only [wpX_isStep, wX_isStep_92, wX_isStep_216, wpX_isVariable, sg_n0, sg_n1, sg_xT ha, sg_xT hb, sg_lits, sg_mA, sg_mB, sg_mC, sg_mD, sg_mE, sg_mF, Int32.reduceLT, Int32.reduceLE, forall_eq, true_and, and_true, true_implies, false_implies, not_true_eq_false, not_false_eq_true, implies_true]
        exact h
      · simp only [wpY_fits, wY_fits_91, sg_n0, sg_n1, sg_yT ha, sg_yT hb, sg_lits, sg_mA, sg_mB, sg_mC, sg_mD, sg_mE, sg_mF, Int32.reduceLT, Int32.reduceLE, forall_eq, true_and, and_true, true_implies, false_implies, not_true_eq_false, not_false_eq_true, implies_true]
        exact h
      · refine Or.inr ⟨rfl, ?_⟩
        obtain ⟨na, la, ua, ea⟩ := sg_rgN 0 3 (by omega) (by omega) ha
        obtain ⟨nb, lb, ub, eb⟩ := sg_rgN 0 3 (by omega) (by omega) hb
        exact Or.inr (Or.inr (Or.inr (Or.inr (Or.inr (Or.inr (Or.inl ⟨rfl, na, nb, by omega, by omega, ea, eb⟩))))))
    · refine ⟨0, fun P h => ?_, fun P h => ?_, ?_⟩
      · simp only [wpX_isStep, wX_isStep_92, wX_isStep_216, wpX_isVariable, sg_n0, sg_n1, sg_xT ha, sg_xF hb, sg_lits, sg_mA, sg_mB, sg_mC, sg_mD, sg_mE, sg_mF, Int32.reduceLT, Int32.reduceLE, forall_eq, true_and, and_true, true_implies, false_implies, not_true_eq_false, not_false_eq_true, implies_true]
        exact h
      · simp only [wpY_fits, wY_fits_91, sg_n0, sg_n1, sg_yT ha, sg_yF hb, sg_lits, sg_mA, sg_mB, sg_mC, sg_mD, sg_mE, sg_mF, Int32.reduceLT, Int32.reduceLE, forall_eq, true_and, and_true, true_implies, false_implies, not_true_eq_false, not_false_eq_true, implies_true]
        exact h
      · exact Or.inl rfl
  · by_cases hb : sg_rg q 0 3
    · refine ⟨0, fun P h => ?_, fun P h => ?_, ?_⟩
      · simp only [wpX_isStep, wX_isStep_92, wX_isStep_216, wpX_isVariable, sg_n0, sg_n1, sg_xF ha, sg_xT hb, sg_lits, sg_mA, sg_mB, sg_mC, sg_mD, sg_mE, sg_mF, Int32.reduceLT, Int32.reduceLE, forall_eq, true_and, and_true, true_implies, false_implies, not_true_eq_false, not_false_eq_true, implies_true]
        exact h
      · simp only [wpY_fits, wY_fits_91, sg_n0, sg_n1, sg_yF ha, sg_yT hb, sg_lits, sg_mA, sg_mB, sg_mC, sg_mD, sg_mE, sg_mF, Int32.reduceLT, Int32.reduceLE, forall_eq, true_and, and_true, true_implies, false_implies, not_true_eq_false, not_false_eq_true, implies_true]
        exact h
      · exact Or.inl rfl
    · refine ⟨0, fun P h => ?_, fun P h => ?_, ?_⟩
      · simp only [wpX_isStep, wX_isStep_92, wX_isStep_216, wpX_isVariable, sg_n0, sg_n1, sg_xF ha, sg_xF hb, sg_lits, sg_mA, sg_mB, sg_mC, sg_mD, sg_mE, sg_mF, Int32.reduceLT, Int32.reduceLE, forall_eq, true_and, and_true, true_implies, false_implies, not_true_eq_false, not_false_eq_true, implies_true]
        exact h
      · simp only [wpY_fits, wY_fits_91, sg_n0, sg_n1, sg_yF ha, sg_yF hb, sg_lits, sg_mA, sg_mB, sg_mC, sg_mD, sg_mE, sg_mF, Int32.reduceLT, Int32.reduceLE, forall_eq, true_and, and_true, true_implies, false_implies, not_true_eq_false, not_false_eq_true, implies_true]
        exact h
      · exact Or.inl rfl
theorem sg_fit7 {p q r : Int32} {v : SY} : sg_Fit 7 p q r v := by
  obtain ⟨ysc, ynow, yjc, yec, yse, yss, yac, yji, yen, yho, ywh, ytj, yte, yst, ypl, ydn, yas, ywt, yun, yrs, yva, yha, ypa, ypi, yps, yso, ysv, yct⟩ := v
  by_cases ha : sg_rg p 0 3
  · by_cases hb : sg_rg q 0 3
    · refine ⟨1, fun P h => ?_, fun P h => ?_, ?_⟩
      · simp only [wpX_isStep, wX_isStep_92, wX_isStep_216, wpX_isVariable, sg_n0, sg_n1, sg_xT ha, sg_xT hb, sg_lits, sg_mA, sg_mB, sg_mC, sg_mD, sg_mE, sg_mF, Int32.reduceLT, Int32.reduceLE, forall_eq, true_and, and_true, true_implies, false_implies, not_true_eq_false, not_false_eq_true, implies_true]
        exact h
      · simp only [wpY_fits, wY_fits_91, sg_n0, sg_n1, sg_yT ha, sg_yT hb, sg_lits, sg_mA, sg_mB, sg_mC, sg_mD, sg_mE, sg_mF, Int32.reduceLT, Int32.reduceLE, forall_eq, true_and, and_true, true_implies, false_implies, not_true_eq_false, not_false_eq_true, implies_true]
        exact h
      · refine Or.inr ⟨rfl, ?_⟩
        obtain ⟨na, la, ua, ea⟩ := sg_rgN 0 3 (by omega) (by omega) ha
        exact Or.inr (Or.inr (Or.inr (Or.inr (Or.inr (Or.inr (Or.inr (Or.inl ⟨rfl, na, by omega, ea⟩)))))))
    · refine ⟨1, fun P h => ?_, fun P h => ?_, ?_⟩
      · simp only [wpX_isStep, wX_isStep_92, wX_isStep_216, wpX_isVariable, sg_n0, sg_n1, sg_xT ha, sg_xF hb, sg_lits, sg_mA, sg_mB, sg_mC, sg_mD, sg_mE, sg_mF, Int32.reduceLT, Int32.reduceLE, forall_eq, true_and, and_true, true_implies, false_implies, not_true_eq_false, not_false_eq_true, implies_true]
        exact h
      · simp only [wpY_fits, wY_fits_91, sg_n0, sg_n1, sg_yT ha, sg_yF hb, sg_lits, sg_mA, sg_mB, sg_mC, sg_mD, sg_mE, sg_mF, Int32.reduceLT, Int32.reduceLE, forall_eq, true_and, and_true, true_implies, false_implies, not_true_eq_false, not_false_eq_true, implies_true]
        exact h
      · refine Or.inr ⟨rfl, ?_⟩
        obtain ⟨na, la, ua, ea⟩ := sg_rgN 0 3 (by omega) (by omega) ha
        exact Or.inr (Or.inr (Or.inr (Or.inr (Or.inr (Or.inr (Or.inr (Or.inl ⟨rfl, na, by omega, ea⟩)))))))
  · by_cases hb : sg_rg q 0 3
    · refine ⟨0, fun P h => ?_, fun P h => ?_, ?_⟩
      · simp only [wpX_isStep, wX_isStep_92, wX_isStep_216, wpX_isVariable, sg_n0, sg_n1, sg_xF ha, sg_xT hb, sg_lits, sg_mA, sg_mB, sg_mC, sg_mD, sg_mE, sg_mF, Int32.reduceLT, Int32.reduceLE, forall_eq, true_and, and_true, true_implies, false_implies, not_true_eq_false, not_false_eq_true, implies_true]
        exact h
      · simp only [wpY_fits, wY_fits_91, sg_n0, sg_n1, sg_yF ha, sg_yT hb, sg_lits, sg_mA, sg_mB, sg_mC, sg_mD, sg_mE, sg_mF, Int32.reduceLT, Int32.reduceLE, forall_eq, true_and, and_true, true_implies, false_implies, not_true_eq_false, not_false_eq_true, implies_true]
        exact h
      · exact Or.inl rfl
    · refine ⟨0, fun P h => ?_, fun P h => ?_, ?_⟩
      · simp only [wpX_isStep, wX_isStep_92, wX_isStep_216, wpX_isVariable, sg_n0, sg_n1, sg_xF ha, sg_xF hb, sg_lits, sg_mA, sg_mB, sg_mC, sg_mD, sg_mE, sg_mF, Int32.reduceLT, Int32.reduceLE, forall_eq, true_and, and_true, true_implies, false_implies, not_true_eq_false, not_false_eq_true, implies_true]
        exact h
      · simp only [wpY_fits, wY_fits_91, sg_n0, sg_n1, sg_yF ha, sg_yF hb, sg_lits, sg_mA, sg_mB, sg_mC, sg_mD, sg_mE, sg_mF, Int32.reduceLT, Int32.reduceLE, forall_eq, true_and, and_true, true_implies, false_implies, not_true_eq_false, not_false_eq_true, implies_true]
        exact h
      · exact Or.inl rfl
theorem sg_fit8 {p q r : Int32} {v : SY} : sg_Fit 8 p q r v := by
  obtain ⟨ysc, ynow, yjc, yec, yse, yss, yac, yji, yen, yho, ywh, ytj, yte, yst, ypl, ydn, yas, ywt, yun, yrs, yva, yha, ypa, ypi, yps, yso, ysv, yct⟩ := v
  by_cases ha : sg_rg p 0 3
  · by_cases hb : sg_rg q 0 3
    · by_cases hc : sg_rg p 0 19
      · refine ⟨1, fun P h => ?_, fun P h => ?_, ?_⟩
        · simp only [wpX_isStep, wX_isStep_92, wX_isStep_216, wpX_isVariable, sg_n0, sg_n1, sg_xT ha, sg_xT hb, sg_xT hc, sg_lits, sg_mA, sg_mB, sg_mC, sg_mD, sg_mE, sg_mF, Int32.reduceLT, Int32.reduceLE, forall_eq, true_and, and_true, true_implies, false_implies, not_true_eq_false, not_false_eq_true, implies_true]
          exact h
        · simp only [wpY_fits, wY_fits_91, sg_n0, sg_n1, sg_yT ha, sg_yT hb, sg_yT hc, sg_lits, sg_mA, sg_mB, sg_mC, sg_mD, sg_mE, sg_mF, Int32.reduceLT, Int32.reduceLE, forall_eq, true_and, and_true, true_implies, false_implies, not_true_eq_false, not_false_eq_true, implies_true]
          exact h
        · refine Or.inr ⟨rfl, ?_⟩
          obtain ⟨nc, lc, uc, ec⟩ := sg_rgN 0 19 (by omega) (by omega) hc
          exact Or.inr (Or.inr (Or.inr (Or.inr (Or.inr (Or.inr (Or.inr (Or.inr (Or.inl ⟨rfl, nc, by omega, ec⟩))))))))
      · refine ⟨0, fun P h => ?_, fun P h => ?_, ?_⟩
        · simp only [wpX_isStep, wX_isStep_92, wX_isStep_216, wpX_isVariable, sg_n0, sg_n1, sg_xT ha, sg_xT hb, sg_xF hc, sg_lits, sg_mA, sg_mB, sg_mC, sg_mD, sg_mE, sg_mF, Int32.reduceLT, Int32.reduceLE, forall_eq, true_and, and_true, true_implies, false_implies, not_true_eq_false, not_false_eq_true, implies_true]
          exact h
        · simp only [wpY_fits, wY_fits_91, sg_n0, sg_n1, sg_yT ha, sg_yT hb, sg_yF hc, sg_lits, sg_mA, sg_mB, sg_mC, sg_mD, sg_mE, sg_mF, Int32.reduceLT, Int32.reduceLE, forall_eq, true_and, and_true, true_implies, false_implies, not_true_eq_false, not_false_eq_true, implies_true]
          exact h
        · exact Or.inl rfl
    · by_cases hc : sg_rg p 0 19
      · refine ⟨1, fun P h => ?_, fun P h => ?_, ?_⟩
        · simp only [wpX_isStep, wX_isStep_92, wX_isStep_216, wpX_isVariable, sg_n0, sg_n1, sg_xT ha, sg_xF hb, sg_xT hc, sg_lits, sg_mA, sg_mB, sg_mC, sg_mD, sg_mE, sg_mF, Int32.reduceLT, Int32.reduceLE, forall_eq, true_and, and_true, true_implies, false_implies, not_true_eq_false, not_false_eq_true, implies_true]
          exact h
        · simp only [wpY_fits, wY_fits_91, sg_n0, sg_n1, sg_yT ha, sg_yF hb, sg_yT hc, sg_lits, sg_mA, sg_mB, sg_mC, sg_mD, sg_mE, sg_mF, Int32.reduceLT, Int32.reduceLE, forall_eq, true_and, and_true, true_implies, false_implies, not_true_eq_false, not_false_eq_true, implies_true]
          exact h
        · refine Or.inr ⟨rfl, ?_⟩
          obtain ⟨nc, lc, uc, ec⟩ := sg_rgN 0 19 (by omega) (by omega) hc
          exact Or.inr (Or.inr (Or.inr (Or.inr (Or.inr (Or.inr (Or.inr (Or.inr (Or.inl ⟨rfl, nc, by omega, ec⟩))))))))
      · refine ⟨0, fun P h => ?_, fun P h => ?_, ?_⟩
        · simp only [wpX_isStep, wX_isStep_92, wX_isStep_216, wpX_isVariable, sg_n0, sg_n1, sg_xT ha, sg_xF hb, sg_xF hc, sg_lits, sg_mA, sg_mB, sg_mC, sg_mD, sg_mE, sg_mF, Int32.reduceLT, Int32.reduceLE, forall_eq, true_and, and_true, true_implies, false_implies, not_true_eq_false, not_false_eq_true, implies_true]
          exact h
        · simp only [wpY_fits, wY_fits_91, sg_n0, sg_n1, sg_yT ha, sg_yF hb, sg_yF hc, sg_lits, sg_mA, sg_mB, sg_mC, sg_mD, sg_mE, sg_mF, Int32.reduceLT, Int32.reduceLE, forall_eq, true_and, and_true, true_implies, false_implies, not_true_eq_false, not_false_eq_true, implies_true]
          exact h
        · exact Or.inl rfl
  · by_cases hb : sg_rg q 0 3
    · by_cases hc : sg_rg p 0 19
      · refine ⟨1, fun P h => ?_, fun P h => ?_, ?_⟩
        · simp only [wpX_isStep, wX_isStep_92, wX_isStep_216, wpX_isVariable, sg_n0, sg_n1, sg_xF ha, sg_xT hb, sg_xT hc, sg_lits, sg_mA, sg_mB, sg_mC, sg_mD, sg_mE, sg_mF, Int32.reduceLT, Int32.reduceLE, forall_eq, true_and, and_true, true_implies, false_implies, not_true_eq_false, not_false_eq_true, implies_true]
          exact h
        · simp only [wpY_fits, wY_fits_91, sg_n0, sg_n1, sg_yF ha, sg_yT hb, sg_yT hc, sg_lits, sg_mA, sg_mB, sg_mC, sg_mD, sg_mE, sg_mF, Int32.reduceLT, Int32.reduceLE, forall_eq, true_and, and_true, true_implies, false_implies, not_true_eq_false, not_false_eq_true, implies_true]
          exact h
        · refine Or.inr ⟨rfl, ?_⟩
          obtain ⟨nc, lc, uc, ec⟩ := sg_rgN 0 19 (by omega) (by omega) hc
          exact Or.inr (Or.inr (Or.inr (Or.inr (Or.inr (Or.inr (Or.inr (Or.inr (Or.inl ⟨rfl, nc, by omega, ec⟩))))))))
      · refine ⟨0, fun P h => ?_, fun P h => ?_, ?_⟩
        · simp only [wpX_isStep, wX_isStep_92, wX_isStep_216, wpX_isVariable, sg_n0, sg_n1, sg_xF ha, sg_xT hb, sg_xF hc, sg_lits, sg_mA, sg_mB, sg_mC, sg_mD, sg_mE, sg_mF, Int32.reduceLT, Int32.reduceLE, forall_eq, true_and, and_true, true_implies, false_implies, not_true_eq_false, not_false_eq_true, implies_true]
          exact h
        · simp only [wpY_fits, wY_fits_91, sg_n0, sg_n1, sg_yF ha, sg_yT hb, sg_yF hc, sg_lits, sg_mA, sg_mB, sg_mC, sg_mD, sg_mE, sg_mF, Int32.reduceLT, Int32.reduceLE, forall_eq, true_and, and_true, true_implies, false_implies, not_true_eq_false, not_false_eq_true, implies_true]
          exact h
        · exact Or.inl rfl
    · by_cases hc : sg_rg p 0 19
      · refine ⟨1, fun P h => ?_, fun P h => ?_, ?_⟩
        · simp only [wpX_isStep, wX_isStep_92, wX_isStep_216, wpX_isVariable, sg_n0, sg_n1, sg_xF ha, sg_xF hb, sg_xT hc, sg_lits, sg_mA, sg_mB, sg_mC, sg_mD, sg_mE, sg_mF, Int32.reduceLT, Int32.reduceLE, forall_eq, true_and, and_true, true_implies, false_implies, not_true_eq_false, not_false_eq_true, implies_true]
          exact h
        · simp only [wpY_fits, wY_fits_91, sg_n0, sg_n1, sg_yF ha, sg_yF hb, sg_yT hc, sg_lits, sg_mA, sg_mB, sg_mC, sg_mD, sg_mE, sg_mF, Int32.reduceLT, Int32.reduceLE, forall_eq, true_and, and_true, true_implies, false_implies, not_true_eq_false, not_false_eq_true, implies_true]
          exact h
        · refine Or.inr ⟨rfl, ?_⟩
          obtain ⟨nc, lc, uc, ec⟩ := sg_rgN 0 19 (by omega) (by omega) hc
          exact Or.inr (Or.inr (Or.inr (Or.inr (Or.inr (Or.inr (Or.inr (Or.inr (Or.inl ⟨rfl, nc, by omega, ec⟩))))))))
      · refine ⟨0, fun P h => ?_, fun P h => ?_, ?_⟩
        · simp only [wpX_isStep, wX_isStep_92, wX_isStep_216, wpX_isVariable, sg_n0, sg_n1, sg_xF ha, sg_xF hb, sg_xF hc, sg_lits, sg_mA, sg_mB, sg_mC, sg_mD, sg_mE, sg_mF, Int32.reduceLT, Int32.reduceLE, forall_eq, true_and, and_true, true_implies, false_implies, not_true_eq_false, not_false_eq_true, implies_true]
          exact h
        · simp only [wpY_fits, wY_fits_91, sg_n0, sg_n1, sg_yF ha, sg_yF hb, sg_yF hc, sg_lits, sg_mA, sg_mB, sg_mC, sg_mD, sg_mE, sg_mF, Int32.reduceLT, Int32.reduceLE, forall_eq, true_and, and_true, true_implies, false_implies, not_true_eq_false, not_false_eq_true, implies_true]
          exact h
        · exact Or.inl rfl
theorem sg_fit9 {p q r : Int32} {v : SY} : sg_Fit 9 p q r v := by
  obtain ⟨ysc, ynow, yjc, yec, yse, yss, yac, yji, yen, yho, ywh, ytj, yte, yst, ypl, ydn, yas, ywt, yun, yrs, yva, yha, ypa, ypi, yps, yso, ysv, yct⟩ := v
  by_cases ha : sg_rg p 0 3
  · by_cases hb : sg_rg q 0 3
    · by_cases hc : sg_rg r 0 19
      · refine ⟨1, fun P h => ?_, fun P h => ?_, ?_⟩
        · simp only [wpX_isStep, wX_isStep_92, wX_isStep_216, wpX_isVariable, sg_n0, sg_n1, sg_xT ha, sg_xT hb, sg_xT hc, sg_lits, sg_mA, sg_mB, sg_mC, sg_mD, sg_mE, sg_mF, Int32.reduceLT, Int32.reduceLE, forall_eq, true_and, and_true, true_implies, false_implies, not_true_eq_false, not_false_eq_true, implies_true]
          exact h
        · simp only [wpY_fits, wY_fits_91, sg_n0, sg_n1, sg_yT ha, sg_yT hb, sg_yT hc, sg_lits, sg_mA, sg_mB, sg_mC, sg_mD, sg_mE, sg_mF, Int32.reduceLT, Int32.reduceLE, forall_eq, true_and, and_true, true_implies, false_implies, not_true_eq_false, not_false_eq_true, implies_true]
          exact h
        · refine Or.inr ⟨rfl, ?_⟩
          obtain ⟨na, la, ua, ea⟩ := sg_rgN 0 3 (by omega) (by omega) ha
          obtain ⟨nb, lb, ub, eb⟩ := sg_rgN 0 3 (by omega) (by omega) hb
          obtain ⟨nc, lc, uc, ec⟩ := sg_rgN 0 19 (by omega) (by omega) hc
          exact Or.inr (Or.inr (Or.inr (Or.inr (Or.inr (Or.inr (Or.inr (Or.inr (Or.inr (Or.inl ⟨rfl, na, nb, nc, by omega, by omega, by omega, ea, eb, ec⟩)))))))))
      · refine ⟨0, fun P h => ?_, fun P h => ?_, ?_⟩
        · simp only [wpX_isStep, wX_isStep_92, wX_isStep_216, wpX_isVariable, sg_n0, sg_n1, sg_xT ha, sg_xT hb, sg_xF hc, sg_lits, sg_mA, sg_mB, sg_mC, sg_mD, sg_mE, sg_mF, Int32.reduceLT, Int32.reduceLE, forall_eq, true_and, and_true, true_implies, false_implies, not_true_eq_false, not_false_eq_true, implies_true]
          exact h
        · simp only [wpY_fits, wY_fits_91, sg_n0, sg_n1, sg_yT ha, sg_yT hb, sg_yF hc, sg_lits, sg_mA, sg_mB, sg_mC, sg_mD, sg_mE, sg_mF, Int32.reduceLT, Int32.reduceLE, forall_eq, true_and, and_true, true_implies, false_implies, not_true_eq_false, not_false_eq_true, implies_true]
          exact h
        · exact Or.inl rfl
    · by_cases hc : sg_rg r 0 19
      · refine ⟨0, fun P h => ?_, fun P h => ?_, ?_⟩
        · simp only [wpX_isStep, wX_isStep_92, wX_isStep_216, wpX_isVariable, sg_n0, sg_n1, sg_xT ha, sg_xF hb, sg_xT hc, sg_lits, sg_mA, sg_mB, sg_mC, sg_mD, sg_mE, sg_mF, Int32.reduceLT, Int32.reduceLE, forall_eq, true_and, and_true, true_implies, false_implies, not_true_eq_false, not_false_eq_true, implies_true]
          exact h
        · simp only [wpY_fits, wY_fits_91, sg_n0, sg_n1, sg_yT ha, sg_yF hb, sg_yT hc, sg_lits, sg_mA, sg_mB, sg_mC, sg_mD, sg_mE, sg_mF, Int32.reduceLT, Int32.reduceLE, forall_eq, true_and, and_true, true_implies, false_implies, not_true_eq_false, not_false_eq_true, implies_true]
          exact h
        · exact Or.inl rfl
      · refine ⟨0, fun P h => ?_, fun P h => ?_, ?_⟩
        · simp only [wpX_isStep, wX_isStep_92, wX_isStep_216, wpX_isVariable, sg_n0, sg_n1, sg_xT ha, sg_xF hb, sg_xF hc, sg_lits, sg_mA, sg_mB, sg_mC, sg_mD, sg_mE, sg_mF, Int32.reduceLT, Int32.reduceLE, forall_eq, true_and, and_true, true_implies, false_implies, not_true_eq_false, not_false_eq_true, implies_true]
          exact h
        · simp only [wpY_fits, wY_fits_91, sg_n0, sg_n1, sg_yT ha, sg_yF hb, sg_yF hc, sg_lits, sg_mA, sg_mB, sg_mC, sg_mD, sg_mE, sg_mF, Int32.reduceLT, Int32.reduceLE, forall_eq, true_and, and_true, true_implies, false_implies, not_true_eq_false, not_false_eq_true, implies_true]
          exact h
        · exact Or.inl rfl
  · by_cases hb : sg_rg q 0 3
    · by_cases hc : sg_rg r 0 19
      · refine ⟨0, fun P h => ?_, fun P h => ?_, ?_⟩
        · simp only [wpX_isStep, wX_isStep_92, wX_isStep_216, wpX_isVariable, sg_n0, sg_n1, sg_xF ha, sg_xT hb, sg_xT hc, sg_lits, sg_mA, sg_mB, sg_mC, sg_mD, sg_mE, sg_mF, Int32.reduceLT, Int32.reduceLE, forall_eq, true_and, and_true, true_implies, false_implies, not_true_eq_false, not_false_eq_true, implies_true]
          exact h
        · simp only [wpY_fits, wY_fits_91, sg_n0, sg_n1, sg_yF ha, sg_yT hb, sg_yT hc, sg_lits, sg_mA, sg_mB, sg_mC, sg_mD, sg_mE, sg_mF, Int32.reduceLT, Int32.reduceLE, forall_eq, true_and, and_true, true_implies, false_implies, not_true_eq_false, not_false_eq_true, implies_true]
          exact h
        · exact Or.inl rfl
      · refine ⟨0, fun P h => ?_, fun P h => ?_, ?_⟩
        · simp only [wpX_isStep, wX_isStep_92, wX_isStep_216, wpX_isVariable, sg_n0, sg_n1, sg_xF ha, sg_xT hb, sg_xF hc, sg_lits, sg_mA, sg_mB, sg_mC, sg_mD, sg_mE, sg_mF, Int32.reduceLT, Int32.reduceLE, forall_eq, true_and, and_true, true_implies, false_implies, not_true_eq_false, not_false_eq_true, implies_true]
          exact h
        · simp only [wpY_fits, wY_fits_91, sg_n0, sg_n1, sg_yF ha, sg_yT hb, sg_yF hc, sg_lits, sg_mA, sg_mB, sg_mC, sg_mD, sg_mE, sg_mF, Int32.reduceLT, Int32.reduceLE, forall_eq, true_and, and_true, true_implies, false_implies, not_true_eq_false, not_false_eq_true, implies_true]
          exact h
        · exact Or.inl rfl
    · by_cases hc : sg_rg r 0 19
      · refine ⟨0, fun P h => ?_, fun P h => ?_, ?_⟩
        · simp only [wpX_isStep, wX_isStep_92, wX_isStep_216, wpX_isVariable, sg_n0, sg_n1, sg_xF ha, sg_xF hb, sg_xT hc, sg_lits, sg_mA, sg_mB, sg_mC, sg_mD, sg_mE, sg_mF, Int32.reduceLT, Int32.reduceLE, forall_eq, true_and, and_true, true_implies, false_implies, not_true_eq_false, not_false_eq_true, implies_true]
          exact h
        · simp only [wpY_fits, wY_fits_91, sg_n0, sg_n1, sg_yF ha, sg_yF hb, sg_yT hc, sg_lits, sg_mA, sg_mB, sg_mC, sg_mD, sg_mE, sg_mF, Int32.reduceLT, Int32.reduceLE, forall_eq, true_and, and_true, true_implies, false_implies, not_true_eq_false, not_false_eq_true, implies_true]
          exact h
        · exact Or.inl rfl
      · refine ⟨0, fun P h => ?_, fun P h => ?_, ?_⟩
        · simp only [wpX_isStep, wX_isStep_92, wX_isStep_216, wpX_isVariable, sg_n0, sg_n1, sg_xF ha, sg_xF hb, sg_xF hc, sg_lits, sg_mA, sg_mB, sg_mC, sg_mD, sg_mE, sg_mF, Int32.reduceLT, Int32.reduceLE, forall_eq, true_and, and_true, true_implies, false_implies, not_true_eq_false, not_false_eq_true, implies_true]
          exact h
        · simp only [wpY_fits, wY_fits_91, sg_n0, sg_n1, sg_yF ha, sg_yF hb, sg_yF hc, sg_lits, sg_mA, sg_mB, sg_mC, sg_mD, sg_mE, sg_mF, Int32.reduceLT, Int32.reduceLE, forall_eq, true_and, and_true, true_implies, false_implies, not_true_eq_false, not_false_eq_true, implies_true]
          exact h
        · exact Or.inl rfl
theorem sg_fit10 {p q r : Int32} {v : SY} : sg_Fit 10 p q r v := by
  obtain ⟨ysc, ynow, yjc, yec, yse, yss, yac, yji, yen, yho, ywh, ytj, yte, yst, ypl, ydn, yas, ywt, yun, yrs, yva, yha, ypa, ypi, yps, yso, ysv, yct⟩ := v
  by_cases ha : sg_rg p 0 3
  · by_cases hb : sg_rg q 0 3
    · by_cases hc : sg_rg p 0 1
      · by_cases hd : sg_rg r 1 50
        · refine ⟨1, fun P h => ?_, fun P h => ?_, ?_⟩
          · simp only [wpX_isStep, wX_isStep_92, wX_isStep_216, wpX_isVariable, sg_n0, sg_n1, sg_xT ha, sg_xT hb, sg_xT hc, sg_xT hd, sg_lits, sg_mA, sg_mB, sg_mC, sg_mD, sg_mE, sg_mF, Int32.reduceLT, Int32.reduceLE, forall_eq, true_and, and_true, true_implies, false_implies, not_true_eq_false, not_false_eq_true, implies_true]
            exact h
          · simp only [wpY_fits, wY_fits_91, sg_n0, sg_n1, sg_yT ha, sg_yT hb, sg_yT hc, sg_yT hd, sg_lits, sg_mA, sg_mB, sg_mC, sg_mD, sg_mE, sg_mF, Int32.reduceLT, Int32.reduceLE, forall_eq, true_and, and_true, true_implies, false_implies, not_true_eq_false, not_false_eq_true, implies_true]
            exact h
          · refine Or.inr ⟨rfl, ?_⟩
            obtain ⟨nc, lc, uc, ec⟩ := sg_rgN 0 1 (by omega) (by omega) hc
            obtain ⟨nb, lb, ub, eb⟩ := sg_rgN 0 3 (by omega) (by omega) hb
            exact Or.inr (Or.inr (Or.inr (Or.inr (Or.inr (Or.inr (Or.inr (Or.inr (Or.inr (Or.inr (Or.inl ⟨rfl, nc, nb, by omega, by omega, ec, eb⟩))))))))))
        · refine ⟨0, fun P h => ?_, fun P h => ?_, ?_⟩
          · simp only [wpX_isStep, wX_isStep_92, wX_isStep_216, wpX_isVariable, sg_n0, sg_n1, sg_xT ha, sg_xT hb, sg_xT hc, sg_xF hd, sg_lits, sg_mA, sg_mB, sg_mC, sg_mD, sg_mE, sg_mF, Int32.reduceLT, Int32.reduceLE, forall_eq, true_and, and_true, true_implies, false_implies, not_true_eq_false, not_false_eq_true, implies_true]
            exact h
          · simp only [wpY_fits, wY_fits_91, sg_n0, sg_n1, sg_yT ha, sg_yT hb, sg_yT hc, sg_yF hd, sg_lits, sg_mA, sg_mB, sg_mC, sg_mD, sg_mE, sg_mF, Int32.reduceLT, Int32.reduceLE, forall_eq, true_and, and_true, true_implies, false_implies, not_true_eq_false, not_false_eq_true, implies_true]
            exact h
          · exact Or.inl rfl
      · by_cases hd : sg_rg r 1 50
        · refine ⟨0, fun P h => ?_, fun P h => ?_, ?_⟩
          · simp only [wpX_isStep, wX_isStep_92, wX_isStep_216, wpX_isVariable, sg_n0, sg_n1, sg_xT ha, sg_xT hb, sg_xF hc, sg_xT hd, sg_lits, sg_mA, sg_mB, sg_mC, sg_mD, sg_mE, sg_mF, Int32.reduceLT, Int32.reduceLE, forall_eq, true_and, and_true, true_implies, false_implies, not_true_eq_false, not_false_eq_true, implies_true]
            exact h
          · simp only [wpY_fits, wY_fits_91, sg_n0, sg_n1, sg_yT ha, sg_yT hb, sg_yF hc, sg_yT hd, sg_lits, sg_mA, sg_mB, sg_mC, sg_mD, sg_mE, sg_mF, Int32.reduceLT, Int32.reduceLE, forall_eq, true_and, and_true, true_implies, false_implies, not_true_eq_false, not_false_eq_true, implies_true]
            exact h
          · exact Or.inl rfl
        · refine ⟨0, fun P h => ?_, fun P h => ?_, ?_⟩
          · simp only [wpX_isStep, wX_isStep_92, wX_isStep_216, wpX_isVariable, sg_n0, sg_n1, sg_xT ha, sg_xT hb, sg_xF hc, sg_xF hd, sg_lits, sg_mA, sg_mB, sg_mC, sg_mD, sg_mE, sg_mF, Int32.reduceLT, Int32.reduceLE, forall_eq, true_and, and_true, true_implies, false_implies, not_true_eq_false, not_false_eq_true, implies_true]
            exact h
          · simp only [wpY_fits, wY_fits_91, sg_n0, sg_n1, sg_yT ha, sg_yT hb, sg_yF hc, sg_yF hd, sg_lits, sg_mA, sg_mB, sg_mC, sg_mD, sg_mE, sg_mF, Int32.reduceLT, Int32.reduceLE, forall_eq, true_and, and_true, true_implies, false_implies, not_true_eq_false, not_false_eq_true, implies_true]
            exact h
          · exact Or.inl rfl
    · by_cases hc : sg_rg p 0 1
      · by_cases hd : sg_rg r 1 50
        · refine ⟨0, fun P h => ?_, fun P h => ?_, ?_⟩
          · simp only [wpX_isStep, wX_isStep_92, wX_isStep_216, wpX_isVariable, sg_n0, sg_n1, sg_xT ha, sg_xF hb, sg_xT hc, sg_xT hd, sg_lits, sg_mA, sg_mB, sg_mC, sg_mD, sg_mE, sg_mF, Int32.reduceLT, Int32.reduceLE, forall_eq, true_and, and_true, true_implies, false_implies, not_true_eq_false, not_false_eq_true, implies_true]
            exact h
          · simp only [wpY_fits, wY_fits_91, sg_n0, sg_n1, sg_yT ha, sg_yF hb, sg_yT hc, sg_yT hd, sg_lits, sg_mA, sg_mB, sg_mC, sg_mD, sg_mE, sg_mF, Int32.reduceLT, Int32.reduceLE, forall_eq, true_and, and_true, true_implies, false_implies, not_true_eq_false, not_false_eq_true, implies_true]
            exact h
          · exact Or.inl rfl
        · refine ⟨0, fun P h => ?_, fun P h => ?_, ?_⟩
          · simp only [wpX_isStep, wX_isStep_92, wX_isStep_216, wpX_isVariable, sg_n0, sg_n1, sg_xT ha, sg_xF hb, sg_xT hc, sg_xF hd, sg_lits, sg_mA, sg_mB, sg_mC, sg_mD, sg_mE, sg_mF, Int32.reduceLT, Int32.reduceLE, forall_eq, true_and, and_true, true_implies, false_implies, not_true_eq_false, not_false_eq_true, implies_true]
            exact h
          · simp only [wpY_fits, wY_fits_91, sg_n0, sg_n1, sg_yT ha, sg_yF hb, sg_yT hc, sg_yF hd, sg_lits, sg_mA, sg_mB, sg_mC, sg_mD, sg_mE, sg_mF, Int32.reduceLT, Int32.reduceLE, forall_eq, true_and, and_true, true_implies, false_implies, not_true_eq_false, not_false_eq_true, implies_true]
            exact h
          · exact Or.inl rfl
      · by_cases hd : sg_rg r 1 50
        · refine ⟨0, fun P h => ?_, fun P h => ?_, ?_⟩
          · simp only [wpX_isStep, wX_isStep_92, wX_isStep_216, wpX_isVariable, sg_n0, sg_n1, sg_xT ha, sg_xF hb, sg_xF hc, sg_xT hd, sg_lits, sg_mA, sg_mB, sg_mC, sg_mD, sg_mE, sg_mF, Int32.reduceLT, Int32.reduceLE, forall_eq, true_and, and_true, true_implies, false_implies, not_true_eq_false, not_false_eq_true, implies_true]
            exact h
          · simp only [wpY_fits, wY_fits_91, sg_n0, sg_n1, sg_yT ha, sg_yF hb, sg_yF hc, sg_yT hd, sg_lits, sg_mA, sg_mB, sg_mC, sg_mD, sg_mE, sg_mF, Int32.reduceLT, Int32.reduceLE, forall_eq, true_and, and_true, true_implies, false_implies, not_true_eq_false, not_false_eq_true, implies_true]
            exact h
          · exact Or.inl rfl
        · refine ⟨0, fun P h => ?_, fun P h => ?_, ?_⟩
          · simp only [wpX_isStep, wX_isStep_92, wX_isStep_216, wpX_isVariable, sg_n0, sg_n1, sg_xT ha, sg_xF hb, sg_xF hc, sg_xF hd, sg_lits, sg_mA, sg_mB, sg_mC, sg_mD, sg_mE, sg_mF, Int32.reduceLT, Int32.reduceLE, forall_eq, true_and, and_true, true_implies, false_implies, not_true_eq_false, not_false_eq_true, implies_true]
            exact h
          · simp only [wpY_fits, wY_fits_91, sg_n0, sg_n1, sg_yT ha, sg_yF hb, sg_yF hc, sg_yF hd, sg_lits, sg_mA, sg_mB, sg_mC, sg_mD, sg_mE, sg_mF, Int32.reduceLT, Int32.reduceLE, forall_eq, true_and, and_true, true_implies, false_implies, not_true_eq_false, not_false_eq_true, implies_true]
            exact h
          · exact Or.inl rfl
  · by_cases hb : sg_rg q 0 3
    · by_cases hc : sg_rg p 0 1
      · by_cases hd : sg_rg r 1 50
        · refine ⟨1, fun P h => ?_, fun P h => ?_, ?_⟩
          · simp only [wpX_isStep, wX_isStep_92, wX_isStep_216, wpX_isVariable, sg_n0, sg_n1, sg_xF ha, sg_xT hb, sg_xT hc, sg_xT hd, sg_lits, sg_mA, sg_mB, sg_mC, sg_mD, sg_mE, sg_mF, Int32.reduceLT, Int32.reduceLE, forall_eq, true_and, and_true, true_implies, false_implies, not_true_eq_false, not_false_eq_true, implies_true]
            exact h
          · simp only [wpY_fits, wY_fits_91, sg_n0, sg_n1, sg_yF ha, sg_yT hb, sg_yT hc, sg_yT hd, sg_lits, sg_mA, sg_mB, sg_mC, sg_mD, sg_mE, sg_mF, Int32.reduceLT, Int32.reduceLE, forall_eq, true_and, and_true, true_implies, false_implies, not_true_eq_false, not_false_eq_true, implies_true]
            exact h
          · refine Or.inr ⟨rfl, ?_⟩
            obtain ⟨nc, lc, uc, ec⟩ := sg_rgN 0 1 (by omega) (by omega) hc
            obtain ⟨nb, lb, ub, eb⟩ := sg_rgN 0 3 (by omega) (by omega) hb
            exact Or.inr (Or.inr (Or.inr (Or.inr (Or.inr (Or.inr (Or.inr (Or.inr (Or.inr (Or.inr (Or.inl ⟨rfl, nc, nb, by omega, by omega, ec, eb⟩))))))))))
        · refine ⟨0, fun P h => ?_, fun P h => ?_, ?_⟩
          · simp only [wpX_isStep, wX_isStep_92, wX_isStep_216, wpX_isVariable, sg_n0, sg_n1, sg_xF ha, sg_xT hb, sg_xT hc, sg_xF hd, sg_lits, sg_mA, sg_mB, sg_mC, sg_mD, sg_mE, sg_mF, Int32.reduceLT, Int32.reduceLE, forall_eq, true_and, and_true, true_implies, false_implies, not_true_eq_false, not_false_eq_true, implies_true]
            exact h
          · simp only [wpY_fits, wY_fits_91, sg_n0, sg_n1, sg_yF ha, sg_yT hb, sg_yT hc, sg_yF hd, sg_lits, sg_mA, sg_mB, sg_mC, sg_mD, sg_mE, sg_mF, Int32.reduceLT, Int32.reduceLE, forall_eq, true_and, and_true, true_implies, false_implies, not_true_eq_false, not_false_eq_true, implies_true]
            exact h
          · exact Or.inl rfl
      · by_cases hd : sg_rg r 1 50
        · refine ⟨0, fun P h => ?_, fun P h => ?_, ?_⟩
          · simp only [wpX_isStep, wX_isStep_92, wX_isStep_216, wpX_isVariable, sg_n0, sg_n1, sg_xF ha, sg_xT hb, sg_xF hc, sg_xT hd, sg_lits, sg_mA, sg_mB, sg_mC, sg_mD, sg_mE, sg_mF, Int32.reduceLT, Int32.reduceLE, forall_eq, true_and, and_true, true_implies, false_implies, not_true_eq_false, not_false_eq_true, implies_true]
            exact h
          · simp only [wpY_fits, wY_fits_91, sg_n0, sg_n1, sg_yF ha, sg_yT hb, sg_yF hc, sg_yT hd, sg_lits, sg_mA, sg_mB, sg_mC, sg_mD, sg_mE, sg_mF, Int32.reduceLT, Int32.reduceLE, forall_eq, true_and, and_true, true_implies, false_implies, not_true_eq_false, not_false_eq_true, implies_true]
            exact h
          · exact Or.inl rfl
        · refine ⟨0, fun P h => ?_, fun P h => ?_, ?_⟩
          · simp only [wpX_isStep, wX_isStep_92, wX_isStep_216, wpX_isVariable, sg_n0, sg_n1, sg_xF ha, sg_xT hb, sg_xF hc, sg_xF hd, sg_lits, sg_mA, sg_mB, sg_mC, sg_mD, sg_mE, sg_mF, Int32.reduceLT, Int32.reduceLE, forall_eq, true_and, and_true, true_implies, false_implies, not_true_eq_false, not_false_eq_true, implies_true]
            exact h
          · simp only [wpY_fits, wY_fits_91, sg_n0, sg_n1, sg_yF ha, sg_yT hb, sg_yF hc, sg_yF hd, sg_lits, sg_mA, sg_mB, sg_mC, sg_mD, sg_mE, sg_mF, Int32.reduceLT, Int32.reduceLE, forall_eq, true_and, and_true, true_implies, false_implies, not_true_eq_false, not_false_eq_true, implies_true]
            exact h
          · exact Or.inl rfl
    · by_cases hc : sg_rg p 0 1
      · by_cases hd : sg_rg r 1 50
        · refine ⟨0, fun P h => ?_, fun P h => ?_, ?_⟩
          · simp only [wpX_isStep, wX_isStep_92, wX_isStep_216, wpX_isVariable, sg_n0, sg_n1, sg_xF ha, sg_xF hb, sg_xT hc, sg_xT hd, sg_lits, sg_mA, sg_mB, sg_mC, sg_mD, sg_mE, sg_mF, Int32.reduceLT, Int32.reduceLE, forall_eq, true_and, and_true, true_implies, false_implies, not_true_eq_false, not_false_eq_true, implies_true]
            exact h
          · simp only [wpY_fits, wY_fits_91, sg_n0, sg_n1, sg_yF ha, sg_yF hb, sg_yT hc, sg_yT hd, sg_lits, sg_mA, sg_mB, sg_mC, sg_mD, sg_mE, sg_mF, Int32.reduceLT, Int32.reduceLE, forall_eq, true_and, and_true, true_implies, false_implies, not_true_eq_false, not_false_eq_true, implies_true]
            exact h
          · exact Or.inl rfl
        · refine ⟨0, fun P h => ?_, fun P h => ?_, ?_⟩
          · simp only [wpX_isStep, wX_isStep_92, wX_isStep_216, wpX_isVariable, sg_n0, sg_n1, sg_xF ha, sg_xF hb, sg_xT hc, sg_xF hd, sg_lits, sg_mA, sg_mB, sg_mC, sg_mD, sg_mE, sg_mF, Int32.reduceLT, Int32.reduceLE, forall_eq, true_and, and_true, true_implies, false_implies, not_true_eq_false, not_false_eq_true, implies_true]
            exact h
          · simp only [wpY_fits, wY_fits_91, sg_n0, sg_n1, sg_yF ha, sg_yF hb, sg_yT hc, sg_yF hd, sg_lits, sg_mA, sg_mB, sg_mC, sg_mD, sg_mE, sg_mF, Int32.reduceLT, Int32.reduceLE, forall_eq, true_and, and_true, true_implies, false_implies, not_true_eq_false, not_false_eq_true, implies_true]
            exact h
          · exact Or.inl rfl
      · by_cases hd : sg_rg r 1 50
        · refine ⟨0, fun P h => ?_, fun P h => ?_, ?_⟩
          · simp only [wpX_isStep, wX_isStep_92, wX_isStep_216, wpX_isVariable, sg_n0, sg_n1, sg_xF ha, sg_xF hb, sg_xF hc, sg_xT hd, sg_lits, sg_mA, sg_mB, sg_mC, sg_mD, sg_mE, sg_mF, Int32.reduceLT, Int32.reduceLE, forall_eq, true_and, and_true, true_implies, false_implies, not_true_eq_false, not_false_eq_true, implies_true]
            exact h
          · simp only [wpY_fits, wY_fits_91, sg_n0, sg_n1, sg_yF ha, sg_yF hb, sg_yF hc, sg_yT hd, sg_lits, sg_mA, sg_mB, sg_mC, sg_mD, sg_mE, sg_mF, Int32.reduceLT, Int32.reduceLE, forall_eq, true_and, and_true, true_implies, false_implies, not_true_eq_false, not_false_eq_true, implies_true]
            exact h
          · exact Or.inl rfl
        · refine ⟨0, fun P h => ?_, fun P h => ?_, ?_⟩
          · simp only [wpX_isStep, wX_isStep_92, wX_isStep_216, wpX_isVariable, sg_n0, sg_n1, sg_xF ha, sg_xF hb, sg_xF hc, sg_xF hd, sg_lits, sg_mA, sg_mB, sg_mC, sg_mD, sg_mE, sg_mF, Int32.reduceLT, Int32.reduceLE, forall_eq, true_and, and_true, true_implies, false_implies, not_true_eq_false, not_false_eq_true, implies_true]
            exact h
          · simp only [wpY_fits, wY_fits_91, sg_n0, sg_n1, sg_yF ha, sg_yF hb, sg_yF hc, sg_yF hd, sg_lits, sg_mA, sg_mB, sg_mC, sg_mD, sg_mE, sg_mF, Int32.reduceLT, Int32.reduceLE, forall_eq, true_and, and_true, true_implies, false_implies, not_true_eq_false, not_false_eq_true, implies_true]
            exact h
          · exact Or.inl rfl
theorem sg_fit11 {p q r : Int32} {v : SY} : sg_Fit 11 p q r v := by
  obtain ⟨ysc, ynow, yjc, yec, yse, yss, yac, yji, yen, yho, ywh, ytj, yte, yst, ypl, ydn, yas, ywt, yun, yrs, yva, yha, ypa, ypi, yps, yso, ysv, yct⟩ := v
  by_cases ha : sg_rg p 0 3
  · by_cases hb : sg_rg q 0 3
    · refine ⟨1, fun P h => ?_, fun P h => ?_, ?_⟩
      · simp only [wpX_isStep, wX_isStep_92, wX_isStep_216, wpX_isVariable, sg_n0, sg_n1, sg_xT ha, sg_xT hb, sg_lits, sg_mA, sg_mB, sg_mC, sg_mD, sg_mE, sg_mF, Int32.reduceLT, Int32.reduceLE, forall_eq, true_and, and_true, true_implies, false_implies, not_true_eq_false, not_false_eq_true, implies_true]
        exact h
      · simp only [wpY_fits, wY_fits_91, sg_n0, sg_n1, sg_yT ha, sg_yT hb, sg_lits, sg_mA, sg_mB, sg_mC, sg_mD, sg_mE, sg_mF, Int32.reduceLT, Int32.reduceLE, forall_eq, true_and, and_true, true_implies, false_implies, not_true_eq_false, not_false_eq_true, implies_true]
        exact h
      · refine Or.inr ⟨rfl, ?_⟩
        obtain ⟨na, la, ua, ea⟩ := sg_rgN 0 3 (by omega) (by omega) ha
        exact Or.inr (Or.inr (Or.inr (Or.inr (Or.inr (Or.inr (Or.inr (Or.inr (Or.inr (Or.inr (Or.inr (Or.inl ⟨rfl, na, by omega, ea⟩)))))))))))
    · refine ⟨1, fun P h => ?_, fun P h => ?_, ?_⟩
      · simp only [wpX_isStep, wX_isStep_92, wX_isStep_216, wpX_isVariable, sg_n0, sg_n1, sg_xT ha, sg_xF hb, sg_lits, sg_mA, sg_mB, sg_mC, sg_mD, sg_mE, sg_mF, Int32.reduceLT, Int32.reduceLE, forall_eq, true_and, and_true, true_implies, false_implies, not_true_eq_false, not_false_eq_true, implies_true]
        exact h
      · simp only [wpY_fits, wY_fits_91, sg_n0, sg_n1, sg_yT ha, sg_yF hb, sg_lits, sg_mA, sg_mB, sg_mC, sg_mD, sg_mE, sg_mF, Int32.reduceLT, Int32.reduceLE, forall_eq, true_and, and_true, true_implies, false_implies, not_true_eq_false, not_false_eq_true, implies_true]
        exact h
      · refine Or.inr ⟨rfl, ?_⟩
        obtain ⟨na, la, ua, ea⟩ := sg_rgN 0 3 (by omega) (by omega) ha
        exact Or.inr (Or.inr (Or.inr (Or.inr (Or.inr (Or.inr (Or.inr (Or.inr (Or.inr (Or.inr (Or.inr (Or.inl ⟨rfl, na, by omega, ea⟩)))))))))))
  · by_cases hb : sg_rg q 0 3
    · refine ⟨0, fun P h => ?_, fun P h => ?_, ?_⟩
      · simp only [wpX_isStep, wX_isStep_92, wX_isStep_216, wpX_isVariable, sg_n0, sg_n1, sg_xF ha, sg_xT hb, sg_lits, sg_mA, sg_mB, sg_mC, sg_mD, sg_mE, sg_mF, Int32.reduceLT, Int32.reduceLE, forall_eq, true_and, and_true, true_implies, false_implies, not_true_eq_false, not_false_eq_true, implies_true]
        exact h
      · simp only [wpY_fits, wY_fits_91, sg_n0, sg_n1, sg_yF ha, sg_yT hb, sg_lits, sg_mA, sg_mB, sg_mC, sg_mD, sg_mE, sg_mF, Int32.reduceLT, Int32.reduceLE, forall_eq, true_and, and_true, true_implies, false_implies, not_true_eq_false, not_false_eq_true, implies_true]
        exact h
      · exact Or.inl rfl
    · refine ⟨0, fun P h => ?_, fun P h => ?_, ?_⟩
      · simp only [wpX_isStep, wX_isStep_92, wX_isStep_216, wpX_isVariable, sg_n0, sg_n1, sg_xF ha, sg_xF hb, sg_lits, sg_mA, sg_mB, sg_mC, sg_mD, sg_mE, sg_mF, Int32.reduceLT, Int32.reduceLE, forall_eq, true_and, and_true, true_implies, false_implies, not_true_eq_false, not_false_eq_true, implies_true]
        exact h
      · simp only [wpY_fits, wY_fits_91, sg_n0, sg_n1, sg_yF ha, sg_yF hb, sg_lits, sg_mA, sg_mB, sg_mC, sg_mD, sg_mE, sg_mF, Int32.reduceLT, Int32.reduceLE, forall_eq, true_and, and_true, true_implies, false_implies, not_true_eq_false, not_false_eq_true, implies_true]
        exact h
      · exact Or.inl rfl
theorem sg_fit12 {p q r : Int32} {v : SY} : sg_Fit 12 p q r v := by
  obtain ⟨ysc, ynow, yjc, yec, yse, yss, yac, yji, yen, yho, ywh, ytj, yte, yst, ypl, ydn, yas, ywt, yun, yrs, yva, yha, ypa, ypi, yps, yso, ysv, yct⟩ := v
  by_cases ha : sg_rg p 0 3
  · by_cases hb : sg_rg q 0 3
    · refine ⟨1, fun P h => ?_, fun P h => ?_, ?_⟩
      · simp only [wpX_isStep, wX_isStep_92, wX_isStep_216, wpX_isVariable, sg_n0, sg_n1, sg_xT ha, sg_xT hb, sg_lits, sg_mA, sg_mB, sg_mC, sg_mD, sg_mE, sg_mF, Int32.reduceLT, Int32.reduceLE, forall_eq, true_and, and_true, true_implies, false_implies, not_true_eq_false, not_false_eq_true, implies_true]
        exact h
      · simp only [wpY_fits, wY_fits_91, sg_n0, sg_n1, sg_yT ha, sg_yT hb, sg_lits, sg_mA, sg_mB, sg_mC, sg_mD, sg_mE, sg_mF, Int32.reduceLT, Int32.reduceLE, forall_eq, true_and, and_true, true_implies, false_implies, not_true_eq_false, not_false_eq_true, implies_true]
        exact h
      · refine Or.inr ⟨rfl, ?_⟩
        exact Or.inr (Or.inr (Or.inr (Or.inr (Or.inr (Or.inr (Or.inr (Or.inr (Or.inr (Or.inr (Or.inr (Or.inr rfl)))))))))))
    · refine ⟨1, fun P h => ?_, fun P h => ?_, ?_⟩
      · simp only [wpX_isStep, wX_isStep_92, wX_isStep_216, wpX_isVariable, sg_n0, sg_n1, sg_xT ha, sg_xF hb, sg_lits, sg_mA, sg_mB, sg_mC, sg_mD, sg_mE, sg_mF, Int32.reduceLT, Int32.reduceLE, forall_eq, true_and, and_true, true_implies, false_implies, not_true_eq_false, not_false_eq_true, implies_true]
        exact h
      · simp only [wpY_fits, wY_fits_91, sg_n0, sg_n1, sg_yT ha, sg_yF hb, sg_lits, sg_mA, sg_mB, sg_mC, sg_mD, sg_mE, sg_mF, Int32.reduceLT, Int32.reduceLE, forall_eq, true_and, and_true, true_implies, false_implies, not_true_eq_false, not_false_eq_true, implies_true]
        exact h
      · refine Or.inr ⟨rfl, ?_⟩
        exact Or.inr (Or.inr (Or.inr (Or.inr (Or.inr (Or.inr (Or.inr (Or.inr (Or.inr (Or.inr (Or.inr (Or.inr rfl)))))))))))
  · by_cases hb : sg_rg q 0 3
    · refine ⟨1, fun P h => ?_, fun P h => ?_, ?_⟩
      · simp only [wpX_isStep, wX_isStep_92, wX_isStep_216, wpX_isVariable, sg_n0, sg_n1, sg_xF ha, sg_xT hb, sg_lits, sg_mA, sg_mB, sg_mC, sg_mD, sg_mE, sg_mF, Int32.reduceLT, Int32.reduceLE, forall_eq, true_and, and_true, true_implies, false_implies, not_true_eq_false, not_false_eq_true, implies_true]
        exact h
      · simp only [wpY_fits, wY_fits_91, sg_n0, sg_n1, sg_yF ha, sg_yT hb, sg_lits, sg_mA, sg_mB, sg_mC, sg_mD, sg_mE, sg_mF, Int32.reduceLT, Int32.reduceLE, forall_eq, true_and, and_true, true_implies, false_implies, not_true_eq_false, not_false_eq_true, implies_true]
        exact h
      · refine Or.inr ⟨rfl, ?_⟩
        exact Or.inr (Or.inr (Or.inr (Or.inr (Or.inr (Or.inr (Or.inr (Or.inr (Or.inr (Or.inr (Or.inr (Or.inr rfl)))))))))))
    · refine ⟨1, fun P h => ?_, fun P h => ?_, ?_⟩
      · simp only [wpX_isStep, wX_isStep_92, wX_isStep_216, wpX_isVariable, sg_n0, sg_n1, sg_xF ha, sg_xF hb, sg_lits, sg_mA, sg_mB, sg_mC, sg_mD, sg_mE, sg_mF, Int32.reduceLT, Int32.reduceLE, forall_eq, true_and, and_true, true_implies, false_implies, not_true_eq_false, not_false_eq_true, implies_true]
        exact h
      · simp only [wpY_fits, wY_fits_91, sg_n0, sg_n1, sg_yF ha, sg_yF hb, sg_lits, sg_mA, sg_mB, sg_mC, sg_mD, sg_mE, sg_mF, Int32.reduceLT, Int32.reduceLE, forall_eq, true_and, and_true, true_implies, false_implies, not_true_eq_false, not_false_eq_true, implies_true]
        exact h
      · refine Or.inr ⟨rfl, ?_⟩
        exact Or.inr (Or.inr (Or.inr (Or.inr (Or.inr (Or.inr (Or.inr (Or.inr (Or.inr (Or.inr (Or.inr (Or.inr rfl)))))))))))
theorem sg_fitN {k p q r : Int32} {v : SY} (h0 : k < 0) : sg_Fit k p q r v := by
  obtain ⟨ysc, ynow, yjc, yec, yse, yss, yac, yji, yen, yho, ywh, ytj, yte, yst, ypl, ydn, yas, ywt, yun, yrs, yva, yha, ypa, ypi, yps, yso, ysv, yct⟩ := v
  have n3 : ¬ (3 : Int32) ≤ k := fun z => absurd (Int32.lt_of_le_of_lt z h0) (by decide)
  refine ⟨0, fun P h => ?_, fun P h => ?_, Or.inl rfl⟩
  · simp only [wpX_isStep, h0, forall_eq, true_and, and_true, true_implies, false_implies, not_true_eq_false, not_false_eq_true, implies_true]
    exact h
  · by_cases ha : sg_rg p 0 3
    · by_cases hb : sg_rg q 0 3
      · simp only [wpY_fits, sg_yT ha, sg_yT hb, h0, n3, sg_lits, sg_mA, sg_mB, sg_mC, sg_mD, sg_mE, sg_mF, Int32.reduceLT, Int32.reduceLE, forall_eq, true_and, and_true, true_implies, false_implies, not_true_eq_false, not_false_eq_true, implies_true]
        exact h
      · simp only [wpY_fits, sg_yT ha, sg_yF hb, h0, n3, sg_lits, sg_mA, sg_mB, sg_mC, sg_mD, sg_mE, sg_mF, Int32.reduceLT, Int32.reduceLE, forall_eq, true_and, and_true, true_implies, false_implies, not_true_eq_false, not_false_eq_true, implies_true]
        exact h
    · by_cases hb : sg_rg q 0 3
      · simp only [wpY_fits, sg_yF ha, sg_yT hb, h0, n3, sg_lits, sg_mA, sg_mB, sg_mC, sg_mD, sg_mE, sg_mF, Int32.reduceLT, Int32.reduceLE, forall_eq, true_and, and_true, true_implies, false_implies, not_true_eq_false, not_false_eq_true, implies_true]
        exact h
      · simp only [wpY_fits, sg_yF ha, sg_yF hb, h0, n3, sg_lits, sg_mA, sg_mB, sg_mC, sg_mD, sg_mE, sg_mF, Int32.reduceLT, Int32.reduceLE, forall_eq, true_and, and_true, true_implies, false_implies, not_true_eq_false, not_false_eq_true, implies_true]
        exact h
theorem sg_fitL {k p q r : Int32} {v : SY} (h0 : ¬ k < 0) (h1 : 12 < k) : sg_Fit k p q r v := by
  obtain ⟨ysc, ynow, yjc, yec, yse, yss, yac, yji, yen, yho, ywh, ytj, yte, yst, ypl, ydn, yas, ywt, yun, yrs, yva, yha, ypa, ypi, yps, yso, ysv, yct⟩ := v
  have m3 : (3 : Int32) ≤ k := Int32.le_of_lt (Int32.lt_of_le_of_lt (by decide) h1)
  have m5 : (5 : Int32) ≤ k := Int32.le_of_lt (Int32.lt_of_le_of_lt (by decide) h1)
  have m8 : (8 : Int32) ≤ k := Int32.le_of_lt (Int32.lt_of_le_of_lt (by decide) h1)
  have m11 : (11 : Int32) ≤ k := Int32.le_of_lt (Int32.lt_of_le_of_lt (by decide) h1)
  have m12 : ¬ k = 12 := fun z => absurd (z ▸ h1) (by decide)
  have m11' : ¬ k = 11 := fun z => absurd (z ▸ h1) (by decide)
  refine ⟨0, fun P h => ?_, fun P h => ?_, Or.inl rfl⟩
  · simp only [wpX_isStep, h0, h1, forall_eq, true_and, and_true, true_implies, false_implies, not_true_eq_false, not_false_eq_true, implies_true]
    exact h
  · by_cases ha : sg_rg p 0 3
    · by_cases hb : sg_rg q 0 3
      · simp only [wpY_fits, sg_yT ha, sg_yT hb, m3, m5, m8, m11, m12, m11', sg_lits, sg_mA, sg_mB, sg_mC, sg_mD, sg_mE, sg_mF, Int32.reduceLT, Int32.reduceLE, forall_eq, true_and, and_true, true_implies, false_implies, not_true_eq_false, not_false_eq_true, implies_true]
        exact h
      · simp only [wpY_fits, sg_yT ha, sg_yF hb, m3, m5, m8, m11, m12, m11', sg_lits, sg_mA, sg_mB, sg_mC, sg_mD, sg_mE, sg_mF, Int32.reduceLT, Int32.reduceLE, forall_eq, true_and, and_true, true_implies, false_implies, not_true_eq_false, not_false_eq_true, implies_true]
        exact h
    · by_cases hb : sg_rg q 0 3
      · simp only [wpY_fits, sg_yF ha, sg_yT hb, m3, m5, m8, m11, m12, m11', sg_lits, sg_mA, sg_mB, sg_mC, sg_mD, sg_mE, sg_mF, Int32.reduceLT, Int32.reduceLE, forall_eq, true_and, and_true, true_implies, false_implies, not_true_eq_false, not_false_eq_true, implies_true]
        exact h
      · simp only [wpY_fits, sg_yF ha, sg_yF hb, m3, m5, m8, m11, m12, m11', sg_lits, sg_mA, sg_mB, sg_mC, sg_mD, sg_mE, sg_mF, Int32.reduceLT, Int32.reduceLE, forall_eq, true_and, and_true, true_implies, false_implies, not_true_eq_false, not_false_eq_true, implies_true]
        exact h
theorem sg_fit (k p q r : Int32) (v : SY) : sg_Fit k p q r v := by
  rcases sg_rng k 12 (by decide) with h0 | ⟨h0, h2⟩ | ⟨j, hj, rfl⟩
  · exact sg_fitN h0
  · exact sg_fitL h0 h2
  · obtain rfl | rfl | rfl | rfl | rfl | rfl | rfl | rfl | rfl | rfl | rfl | rfl | rfl : j = 0 ∨ j = 1 ∨ j = 2 ∨ j = 3 ∨ j = 4 ∨ j = 5 ∨ j = 6 ∨ j = 7 ∨ j = 8 ∨ j = 9 ∨ j = 10 ∨ j = 11 ∨ j = 12 := by omega
    · exact sg_fit0
    · exact sg_fit1
    · exact sg_fit2
    · exact sg_fit3
    · exact sg_fit4
    · exact sg_fit5
    · exact sg_fit6
    · exact sg_fit7
    · exact sg_fit8
    · exact sg_fit9
    · exact sg_fit10
    · exact sg_fit11
    · exact sg_fit12
end
section
/-- all idle: no job, and the program and the settings may change -/
theorem sg_busy {t : Nat} {u : SX} {v : SY} (H : sg_R t u v) : ((∀ P : Int32 → Prop, P 1 → wpX_isAnyStarted P u) ∧ (∀ P : Int32 → Prop, P 1 → wpY_isBusy P v)) ∨ ((∀ P : Int32 → Prop, P 0 → wpX_isAnyStarted P u) ∧ (∀ P : Int32 → Prop, P 0 → wpY_isBusy P v) ∧ (match u with | (xsc, xnow, xjc, xec, xse, xki, xpp, xqq, xrr, xst, xfs, xin, xtb, xaj, xat, xsd, xja, xev, xva, xha, xps, xpa, xpi, xct, xsn, xsv, xtk, xac, xji, xou, xen, xuw, xra, xea, xtj, xte) => xjc = 0 ∧ ∀ m, m < 3 → sg_idle m xst xfs xin xtb xsd xja xev xva xha xps xct)) := by
  obtain ⟨xsc, xnow, xjc, xec, xse, xki, xpp, xqq, xrr, xst, xfs, xin, xtb, xaj, xat, xsd, xja, xev, xva, xha, xps, xpa, xpi, xct, xsn, xsv, xtk, xac, xji, xou, xen, xuw, xra, xea, xtj, xte⟩ := u
  obtain ⟨ysc, ynow, yjc, yec, yse, yss, yac, yji, yen, yho, ywh, ytj, yte, yst, ypl, ydn, yas, ywt, yun, yrs, yva, yha, ypa, ypi, yps, yso, ysv, yct⟩ := v
  obtain ⟨sc, jc, ⟨⟨⟨e1, e2, e3, e4⟩, e5, e6, e7, e8, e9, e10, e11, e12, e13, e14, e15, e16⟩, ⟨g1, g2, g3, g4⟩, hset, hprog, hjobs, hjas⟩, hf⟩ := H
  subst e1 e2 e3 e4 e5 e6 e7 e8 e9 e10 e11 e12 e13 e14 e15 e16 g1 g2 g3 g4
  obtain ⟨s0, k0, h0⟩ := sg_flow_st (hf 0 (by omega))
  obtain ⟨s1, k1, h1⟩ := sg_flow_st (hf 1 (by omega))
  obtain ⟨s2, k2, h2⟩ := sg_flow_st (hf 2 (by omega))
  by_cases c : xst 0 = 0 ∧ xst 1 = 0 ∧ xst 2 = 0
  · refine Or.inr ⟨fun P h => sg_anyX.1 c h, fun P h => (sg_busyY h0 h1 h2 k0 k1 k2).1 c h, ?_, fun m hm => ?_⟩
    · have i0 := sg_flow_id (hf 0 (by omega)) c.1
      have i1 := sg_flow_id (hf 1 (by omega)) c.2.1
      have i2 := sg_flow_id (hf 2 (by omega)) c.2.2
      have e := hjas.2
      rw [i0.2.2.2.2.2.1, i1.2.2.2.2.2.1, i2.2.2.2.2.2.1] at e
      have e : jc = 0 := e
      rw [e]
      rfl
    · refine sg_flow_id (hf m hm) ?_
      obtain rfl | rfl | rfl : m = 0 ∨ m = 1 ∨ m = 2 := by omega
      · exact c.1
      · exact c.2.1
      · exact c.2.2
  · exact Or.inl ⟨fun P h => sg_anyX.2 c h, fun P h => (sg_busyY h0 h1 h2 k0 k1 k2).2 c h⟩
theorem sg_prog_app {sc : Nat} {ki pp qq rr ss : Nat → Int32} {k p q r : Int32} (h : sg_prog sc ki pp qq rr ss) (hs : sc < 20) (hok : sg_ok k p q r) : sg_prog (sc + 1) (upd ki sc k) (upd pp sc p) (upd qq sc q) (upd rr sc r) (upd (upd (upd (upd ss (4 * sc) k) (4 * sc + 1) p) (4 * sc + 2) q) (4 * sc + 3) r) := by
  refine ⟨by omega, fun m hm => ?_⟩
  by_cases c : m = sc
  · subst c
    simp only [pk_us]
    refine ⟨?_, ?_, ?_, trivial, hok⟩
    · rw [pk_un (by omega), pk_un (by omega), pk_un (by omega), pk_us]
    · rw [pk_un (by omega), pk_un (by omega), pk_us]
    · rw [pk_un (by omega), pk_us]
  · rw [pk_un c, pk_un c, pk_un c, pk_un c, pk_un (by omega), pk_un (by omega), pk_un (by omega), pk_un (by omega), pk_un (by omega), pk_un (by omega), pk_un (by omega), pk_un (by omega), pk_un (by omega), pk_un (by omega), pk_un (by omega), pk_un (by omega), pk_un (by omega), pk_un (by omega), pk_un (by omega), pk_un (by omega)]
    exact h.2 m (by omega)
theorem sg_stepC {k : Nat} {u : SX} {v : SY} (I : i_Rel k u v) (a b c d : Int32) : ∃ r u' v', (∀ P : Int32 → SX → Prop, P r u' → wpX_step P u a b c d) ∧ (∀ P : Int32 → SY → Prop, P r v' → wpY_step P v a b c d) ∧ i_Rel (k + 5) u' v' := by
  have I5 := i_up I
  obtain ⟨t, ht, H, HL⟩ := I
  obtain ⟨z, f1, f2, f3⟩ := sg_fit a b c d v
  have HB := sg_busy H
  obtain ⟨xsc, xnow, xjc, xec, xse, xki, xpp, xqq, xrr, xst, xfs, xin, xtb, xaj, xat, xsd, xja, xev, xva, xha, xps, xpa, xpi, xct, xsn, xsv, xtk, xac, xji, xou, xen, xuw, xra, xea, xtj, xte⟩ := u
  obtain ⟨ysc, ynow, yjc, yec, yse, yss, yac, yji, yen, yho, ywh, ytj, yte, yst, ypl, ydn, yas, ywt, yun, yrs, yva, yha, ypa, ypi, yps, yso, ysv, yct⟩ := v
  obtain ⟨sc, jc, ⟨⟨⟨e1, e2, e3, e4⟩, e5, e6, e7, e8, e9, e10, e11, e12, e13, e14, e15, e16⟩, ⟨g1, g2, g3, g4⟩, hset, hprog, hjobs, hjas⟩, hf⟩ := H
  subst e1 e2 e3 e4 e5 e6 e7 e8 e9 e10 e11 e12 e13 e14 e15 e16 g1 g2 g3 g4
  have hsc := hprog.1
  rcases f3 with f3 | ⟨f3, hok⟩
  · subst f3
    refine ⟨-1, _, _, fun P h => ?_, fun P h => ?_, I5⟩
    · simp only [wpX_step]
      refine f1 _ ?_
      simp only [forall_eq, true_and, and_true, true_implies, false_implies, not_true_eq_false, not_false_eq_true, implies_true]
      exact h
    · simp only [wpY_step]
      refine f2 _ ?_
      simp only [forall_eq, true_and, and_true, true_implies, false_implies, not_true_eq_false, not_false_eq_true, implies_true]
      exact h
  · subst f3
    rcases HB with ⟨b1, b2⟩ | ⟨b1, b2, ej, hid⟩
    · refine ⟨-3, _, _, fun P h => ?_, fun P h => ?_, I5⟩
      · simp only [wpX_step]
        refine f1 _ ?_
        simp only [sg_lits, sg_mA, sg_mB, sg_mC, sg_mD, sg_mE, sg_mF, Int32.reduceLT, Int32.reduceLE, forall_eq, true_and, and_true, true_implies, false_implies, not_true_eq_false, not_false_eq_true, implies_true]
        refine b1 _ ?_
        simp only [sg_lits, sg_mA, sg_mB, sg_mC, sg_mD, sg_mE, sg_mF, Int32.reduceLT, Int32.reduceLE, forall_eq, true_and, and_true, true_implies, false_implies, not_true_eq_false, not_false_eq_true, implies_true]
        exact h
      · simp only [wpY_step]
        refine f2 _ ?_
        simp only [sg_lits, sg_mA, sg_mB, sg_mC, sg_mD, sg_mE, sg_mF, Int32.reduceLT, Int32.reduceLE, forall_eq, true_and, and_true, true_implies, false_implies, not_true_eq_false, not_false_eq_true, implies_true]
        refine b2 _ ?_
        simp only [sg_lits, sg_mA, sg_mB, sg_mC, sg_mD, sg_mE, sg_mF, Int32.reduceLT, Int32.reduceLE, forall_eq, true_and, and_true, true_implies, false_implies, not_true_eq_false, not_false_eq_true, implies_true]
        exact h
    · by_cases c20 : sc < 20
      · have c1 : nI sc < 20 := nI_lt (b := 20) c20 (by decide)
        have c2 : ¬ nI sc = 20 := fun z => by
          have := (nI_eq (b := 20) (by omega) (by omega)).mp z
          omega
        refine ⟨nI sc, (nI (sc + 1), nI t, nI jc, nI (sg_cnt xen jc), xse, upd xki sc a, upd xpp sc b, upd xqq sc c, upd xrr sc d, xst, xfs, xin, xtb, xaj, xat, xsd, xja, xev, xva, xha, xps, xpa, xpi, xct, xsn, xsv, xtk, xac, xji, xou, xen, xuw, xra, xea, xtj, xte), (nI (sc + 1), nI t, nI jc, nI (sg_cnt xen jc), xse, upd (upd (upd (upd yss (4 * sc) a) (4 * sc + 1) b) (4 * sc + 2) c) (4 * sc + 3) d, xac, xji, xen, yho, ywh, xtj, xte, xst, ypl, ydn, yas, ywt, yun, yrs, yva, yha, xpa, xpi, xps, yso, xsv, xct), fun P h => ?_, fun P h => ?_, ⟨t, by omega, ⟨sc + 1, jc, ⟨⟨⟨rfl, rfl, rfl, rfl⟩, rfl, rfl, rfl, rfl, rfl, rfl, rfl, rfl, rfl, rfl, rfl, rfl⟩, ⟨rfl, rfl, rfl, rfl⟩, hset, sg_prog_app hprog c20 hok, hjobs, hjas⟩, fun m hm => Or.inl (hid m hm)⟩, HL⟩⟩
        · simp only [wpX_step]
          refine f1 _ ?_
          simp only [sg_lits, sg_mA, sg_mB, sg_mC, sg_mD, sg_mE, sg_mF, Int32.reduceLT, Int32.reduceLE, forall_eq, true_and, and_true, true_implies, false_implies, not_true_eq_false, not_false_eq_true, implies_true]
          refine b1 _ ?_
          simp (disch := omega) only [c1, sg_m3, sg_m3', sg_m4, sg_m4', sg_m6, sg_m6', sg_m7, sg_m7', sg_m200, sg_m200', nI_add, sg_a1, sg_a2, sg_a3, sg_a4, sg_a5, sg_a6, Int32.add_zero, sg_inT, nI_clamp, sg_lits, sg_mA, sg_mB, sg_mC, sg_mD, sg_mE, sg_mF, Int32.reduceLT, Int32.reduceLE, forall_eq, true_and, and_true, true_implies, false_implies, not_true_eq_false, not_false_eq_true, implies_true]
          exact h
        · simp only [wpY_step]
          refine f2 _ ?_
          simp only [sg_lits, sg_mA, sg_mB, sg_mC, sg_mD, sg_mE, sg_mF, Int32.reduceLT, Int32.reduceLE, forall_eq, true_and, and_true, true_implies, false_implies, not_true_eq_false, not_false_eq_true, implies_true]
          refine b2 _ ?_
          simp (disch := omega) only [c2, nI_pred, sg_m3, sg_m3', sg_m4, sg_m4', sg_m6, sg_m6', sg_m7, sg_m7', sg_m200, sg_m200', nI_add, sg_a1, sg_a2, sg_a3, sg_a4, sg_a5, sg_a6, Int32.add_zero, sg_inT, nI_clamp, sg_lits, sg_mA, sg_mB, sg_mC, sg_mD, sg_mE, sg_mF, Int32.reduceLT, Int32.reduceLE, forall_eq, true_and, and_true, true_implies, false_implies, not_true_eq_false, not_false_eq_true, implies_true]
          exact h
      · have e : sc = 20 := by omega
        subst e
        have c1 : ¬ nI 20 < 20 := by decide
        have c2 : nI 20 = 20 := rfl
        refine ⟨-2, _, _, fun P h => ?_, fun P h => ?_, I5⟩
        · simp only [wpX_step]
          refine f1 _ ?_
          simp only [sg_lits, sg_mA, sg_mB, sg_mC, sg_mD, sg_mE, sg_mF, Int32.reduceLT, Int32.reduceLE, forall_eq, true_and, and_true, true_implies, false_implies, not_true_eq_false, not_false_eq_true, implies_true]
          refine b1 _ ?_
          simp (disch := omega) only [c1, sg_m3, sg_m3', sg_m4, sg_m4', sg_m6, sg_m6', sg_m7, sg_m7', sg_m200, sg_m200', nI_add, sg_a1, sg_a2, sg_a3, sg_a4, sg_a5, sg_a6, Int32.add_zero, sg_inT, nI_clamp, sg_lits, sg_mA, sg_mB, sg_mC, sg_mD, sg_mE, sg_mF, Int32.reduceLT, Int32.reduceLE, forall_eq, true_and, and_true, true_implies, false_implies, not_true_eq_false, not_false_eq_true, implies_true]
          exact h
        · simp only [wpY_step]
          refine f2 _ ?_
          simp only [sg_lits, sg_mA, sg_mB, sg_mC, sg_mD, sg_mE, sg_mF, Int32.reduceLT, Int32.reduceLE, forall_eq, true_and, and_true, true_implies, false_implies, not_true_eq_false, not_false_eq_true, implies_true]
          refine b2 _ ?_
          simp (disch := omega) only [show (nI 20 = 20) = True from eq_true c2, sg_m3, sg_m3', sg_m4, sg_m4', sg_m6, sg_m6', sg_m7, sg_m7', sg_m200, sg_m200', nI_add, sg_a1, sg_a2, sg_a3, sg_a4, sg_a5, sg_a6, Int32.add_zero, sg_inT, nI_clamp, sg_lits, sg_mA, sg_mB, sg_mC, sg_mD, sg_mE, sg_mF, Int32.reduceLT, Int32.reduceLE, forall_eq, true_and, and_true, true_implies, false_implies, not_true_eq_false, not_false_eq_true, implies_true]
          exact h
theorem i_vc_step {k : Nat} {u : SX} {v : SY} (I : i_Rel k u v) (hk : k + 5 ≤ 2560) (v1 : Int32) (v2 : Int32) (v3 : Int32) (v4 : Int32) : wpX_step (fun r u' => wpY_step (fun r' v' => r' = r ∧ i_Rel (k + 5) u' v') v v1 v2 v3 v4) u v1 v2 v3 v4 := by
  obtain ⟨r, u', v', h1, h2, h3⟩ := sg_stepC I v1 v2 v3 v4
  exact h1 _ (h2 _ ⟨rfl, h3⟩)
theorem sg_unstep {k : Nat} {u : SX} {v : SY} (I : i_Rel k u v) : ∃ r u' v', (∀ P : Int32 → SX → Prop, P r u' → wpX_unstep P u) ∧ (∀ P : Int32 → SY → Prop, P r v' → wpY_unstep P v) ∧ i_Rel (k + 5) u' v' := by
  have I5 := i_up I
  obtain ⟨t, ht, H, HL⟩ := I
  have HB := sg_busy H
  obtain ⟨xsc, xnow, xjc, xec, xse, xki, xpp, xqq, xrr, xst, xfs, xin, xtb, xaj, xat, xsd, xja, xev, xva, xha, xps, xpa, xpi, xct, xsn, xsv, xtk, xac, xji, xou, xen, xuw, xra, xea, xtj, xte⟩ := u
  obtain ⟨ysc, ynow, yjc, yec, yse, yss, yac, yji, yen, yho, ywh, ytj, yte, yst, ypl, ydn, yas, ywt, yun, yrs, yva, yha, ypa, ypi, yps, yso, ysv, yct⟩ := v
  obtain ⟨sc, jc, ⟨⟨⟨e1, e2, e3, e4⟩, e5, e6, e7, e8, e9, e10, e11, e12, e13, e14, e15, e16⟩, ⟨g1, g2, g3, g4⟩, hset, hprog, hjobs, hjas⟩, hf⟩ := H
  subst e1 e2 e3 e4 e5 e6 e7 e8 e9 e10 e11 e12 e13 e14 e15 e16 g1 g2 g3 g4
  have hsc := hprog.1
  rcases HB with ⟨b1, b2⟩ | ⟨b1, b2, ej, hid⟩
  · refine ⟨-3, _, _, fun P h => ?_, fun P h => ?_, I5⟩
    · simp only [wpX_unstep]
      refine b1 _ ?_
      simp only [sg_lits, sg_mA, sg_mB, sg_mC, sg_mD, sg_mE, sg_mF, Int32.reduceLT, Int32.reduceLE, forall_eq, true_and, and_true, true_implies, false_implies, not_true_eq_false, not_false_eq_true, implies_true]
      exact h
    · simp only [wpY_unstep]
      refine b2 _ ?_
      simp only [sg_lits, sg_mA, sg_mB, sg_mC, sg_mD, sg_mE, sg_mF, Int32.reduceLT, Int32.reduceLE, forall_eq, true_and, and_true, true_implies, false_implies, not_true_eq_false, not_false_eq_true, implies_true]
      exact h
  · by_cases c : sc = 0
    · subst c
      have c1 : (nI 0 = 0) = True := eq_true rfl
      refine ⟨-4, _, _, fun P h => ?_, fun P h => ?_, I5⟩
      · simp only [wpX_unstep]
        refine b1 _ ?_
        simp only [c1, sg_lits, sg_mA, sg_mB, sg_mC, sg_mD, sg_mE, sg_mF, Int32.reduceLT, Int32.reduceLE, forall_eq, true_and, and_true, true_implies, false_implies, not_true_eq_false, not_false_eq_true, implies_true]
        exact h
      · simp only [wpY_unstep]
        refine b2 _ ?_
        simp only [c1, sg_lits, sg_mA, sg_mB, sg_mC, sg_mD, sg_mE, sg_mF, Int32.reduceLT, Int32.reduceLE, forall_eq, true_and, and_true, true_implies, false_implies, not_true_eq_false, not_false_eq_true, implies_true]
        exact h
    · obtain ⟨s, rfl⟩ : ∃ s, sc = s + 1 := ⟨sc - 1, by omega⟩
      refine ⟨nI s, (nI s, nI t, nI jc, nI (sg_cnt xen jc), xse, xki, xpp, xqq, xrr, xst, xfs, xin, xtb, xaj, xat, xsd, xja, xev, xva, xha, xps, xpa, xpi, xct, xsn, xsv, xtk, xac, xji, xou, xen, xuw, xra, xea, xtj, xte), (nI s, nI t, nI jc, nI (sg_cnt xen jc), xse, yss, xac, xji, xen, yho, ywh, xtj, xte, xst, ypl, ydn, yas, ywt, yun, yrs, yva, yha, xpa, xpi, xps, yso, xsv, xct), fun P h => ?_, fun P h => ?_, ⟨t, by omega, ⟨s, jc, ⟨⟨⟨rfl, rfl, rfl, rfl⟩, rfl, rfl, rfl, rfl, rfl, rfl, rfl, rfl, rfl, rfl, rfl, rfl⟩, ⟨rfl, rfl, rfl, rfl⟩, hset, ⟨by omega, fun m hm => hprog.2 m (by omega)⟩, hjobs, hjas⟩, fun m hm => Or.inl (hid m hm)⟩, HL⟩⟩
      · simp only [wpX_unstep]
        refine b1 _ ?_
        simp (disch := omega) only [sg_z0, nI_pred, sg_lits, sg_mA, sg_mB, sg_mC, sg_mD, sg_mE, sg_mF, Int32.reduceLT, Int32.reduceLE, forall_eq, true_and, and_true, true_implies, false_implies, not_true_eq_false, not_false_eq_true, implies_true]
        exact h
      · simp only [wpY_unstep]
        refine b2 _ ?_
        simp (disch := omega) only [sg_z0, nI_pred, sg_lits, sg_mA, sg_mB, sg_mC, sg_mD, sg_mE, sg_mF, Int32.reduceLT, Int32.reduceLE, forall_eq, true_and, and_true, true_implies, false_implies, not_true_eq_false, not_false_eq_true, implies_true]
        exact h
theorem i_vc_unstep {k : Nat} {u : SX} {v : SY} (I : i_Rel k u v) (hk : k + 5 ≤ 2560) : wpX_unstep (fun r u' => wpY_unstep (fun r' v' => r' = r ∧ i_Rel (k + 5) u' v') v) u := by
  obtain ⟨r, u', v', h1, h2, h3⟩ := sg_unstep I
  exact h1 _ (h2 _ ⟨rfl, h3⟩)
end
section
theorem sg_set_upd {a w : Nat} {x : Int32} {se : Nat → Int32} (H : sg_set se) (ha : a < 4) (hw : w < 7) (h1 : w = 1 → ∃ n, 1 ≤ n ∧ n ≤ 3 ∧ x = nI n) (h2 : w = 2 → ∃ n, 1 ≤ n ∧ n ≤ 4 ∧ x = nI n) (h3 : w = 3 → ∃ n, 0 ≤ n ∧ n ≤ 9 ∧ x = nI n) (h4 : w = 4 → ∃ n, 0 ≤ n ∧ n ≤ 4 ∧ x = nI n) : sg_set (upd se (7 * a + w) x) := by
  intro b hb
  obtain ⟨n1, n2, n3, n4, ⟨p1, p2, p3⟩, ⟨q1, q2, q3⟩, ⟨r2, r3⟩, ⟨s2, s3⟩⟩ := H b hb
  have g1 : ∃ n, 1 ≤ n ∧ n ≤ 3 ∧ upd se (7 * a + w) x (7 * b + 1) = nI n := by
    by_cases c : 7 * b + 1 = 7 * a + w
    · obtain ⟨n, z1, z2, z3⟩ := h1 (by omega)
      rw [c, pk_us]
      exact ⟨n, z1, z2, z3⟩
    · rw [pk_un c]
      exact ⟨n1, p1, p2, p3⟩
  have g2 : ∃ n, 1 ≤ n ∧ n ≤ 4 ∧ upd se (7 * a + w) x (7 * b + 2) = nI n := by
    by_cases c : 7 * b + 2 = 7 * a + w
    · obtain ⟨n, z1, z2, z3⟩ := h2 (by omega)
      rw [c, pk_us]
      exact ⟨n, z1, z2, z3⟩
    · rw [pk_un c]
      exact ⟨n2, q1, q2, q3⟩
  have g3 : ∃ n, n ≤ 9 ∧ upd se (7 * a + w) x (7 * b + 3) = nI n := by
    by_cases c : 7 * b + 3 = 7 * a + w
    · obtain ⟨n, z1, z2, z3⟩ := h3 (by omega)
      rw [c, pk_us]
      exact ⟨n, z2, z3⟩
    · rw [pk_un c]
      exact ⟨n3, r2, r3⟩
  have g4 : ∃ n, n ≤ 4 ∧ upd se (7 * a + w) x (7 * b + 4) = nI n := by
    by_cases c : 7 * b + 4 = 7 * a + w
    · obtain ⟨n, z1, z2, z3⟩ := h4 (by omega)
      rw [c, pk_us]
      exact ⟨n, z2, z3⟩
    · rw [pk_un c]
      exact ⟨n4, s2, s3⟩
  obtain ⟨m1, a1, a2, a3⟩ := g1
  obtain ⟨m2, b1, b2, b3⟩ := g2
  obtain ⟨m3, c2, c3⟩ := g3
  obtain ⟨m4, d2, d3⟩ := g4
  exact ⟨m1, m2, m3, m4, ⟨a1, a2, a3⟩, ⟨b1, b2, b3⟩, ⟨c2, c3⟩, ⟨d2, d3⟩⟩
def sg_Act (k : Nat) (a b c : Int32) (u : SX) (v : SY) : Prop := ∃ r u' v', (∀ P : Int32 → SX → Prop, P r u' → wpX_activity P u a b c) ∧ (∀ P : Int32 → SY → Prop, P r v' → wpY_activity P v a b c) ∧ i_Rel (k + 5) u' v'
theorem sg_act0 {k a : Nat} {u : SX} {v : SY} (I : i_Rel k u v) (ha : a < 4) (x : Int32) : sg_Act k (nI a) 0 x u v := by
  have I5 := i_up I
  obtain ⟨t, ht, H, HL⟩ := I
  have HB := sg_busy H
  have ga : sg_rg (nI a) 0 3 := ⟨nI_pos (by omega), sg_3n ha⟩
  have gw : sg_rg (0 : Int32) 0 6 := ⟨by decide, by decide⟩
  obtain ⟨xsc, xnow, xjc, xec, xse, xki, xpp, xqq, xrr, xst, xfs, xin, xtb, xaj, xat, xsd, xja, xev, xva, xha, xps, xpa, xpi, xct, xsn, xsv, xtk, xac, xji, xou, xen, xuw, xra, xea, xtj, xte⟩ := u
  obtain ⟨ysc, ynow, yjc, yec, yse, yss, yac, yji, yen, yho, ywh, ytj, yte, yst, ypl, ydn, yas, ywt, yun, yrs, yva, yha, ypa, ypi, yps, yso, ysv, yct⟩ := v
  obtain ⟨sc, jc, ⟨⟨⟨e1, e2, e3, e4⟩, e5, e6, e7, e8, e9, e10, e11, e12, e13, e14, e15, e16⟩, ⟨g1, g2, g3, g4⟩, hset, hprog, hjobs, hjas⟩, hf⟩ := H
  subst e1 e2 e3 e4 e5 e6 e7 e8 e9 e10 e11 e12 e13 e14 e15 e16 g1 g2 g3 g4
  by_cases hx : sg_rg x 1 9
  · rcases HB with ⟨b1, b2⟩ | ⟨b1, b2, ej, hid⟩
    · refine ⟨-3, _, _, fun P h => ?_, fun P h => ?_, I5⟩
      · simp only [wpX_activity, wpX_isSetting, sg_xT ga, sg_xT hx, sg_n1, sg_lits, sg_mA, sg_mB, sg_mC, sg_mD, sg_mE, sg_mF, Int32.reduceLT, Int32.reduceLE, forall_eq, true_and, and_true, true_implies, false_implies, not_true_eq_false, not_false_eq_true, implies_true]
        refine b1 _ ?_
        simp only [sg_lits, sg_mA, sg_mB, sg_mC, sg_mD, sg_mE, sg_mF, Int32.reduceLT, Int32.reduceLE, forall_eq, true_and, and_true, true_implies, false_implies, not_true_eq_false, not_false_eq_true, implies_true]
        exact h
      · simp only [wpY_activity, wY_activity_53, wY_activity_74, wY_activity_91, sg_yT ga, sg_yT gw, sg_yT hx, sg_lits, sg_mA, sg_mB, sg_mC, sg_mD, sg_mE, sg_mF, Int32.reduceLT, Int32.reduceLE, forall_eq, true_and, and_true, true_implies, false_implies, not_true_eq_false, not_false_eq_true, implies_true]
        refine b2 _ ?_
        simp only [sg_lits, sg_mA, sg_mB, sg_mC, sg_mD, sg_mE, sg_mF, Int32.reduceLT, Int32.reduceLE, forall_eq, true_and, and_true, true_implies, false_implies, not_true_eq_false, not_false_eq_true, implies_true]
        exact h
    · have hset1 : sg_set (upd xse (7 * a + 0) x) := sg_set_upd hset ha (by omega) (fun z => absurd z (by decide)) (fun z => absurd z (by decide)) (fun z => absurd z (by decide)) (fun z => absurd z (by decide))
      have ej0 : jc = 0 := (nI_eq (b := 0) (by have := sg_jas_le hjas; omega) (by omega)).mp ej
      subst ej0
      refine ⟨xse (7 * a + 0), (nI sc, nI t, nI 0, nI (sg_cnt xen 0), upd xse (7 * a + 0) x, xki, xpp, xqq, xrr, xst, xfs, xin, xtb, xaj, xat, xsd, xja, xev, xva, xha, xps, xpa, xpi, xct, xsn, xsv, xtk, xac, xji, xou, xen, xuw, xra, xea, xtj, xte), (nI sc, nI t, nI 0, nI (sg_cnt xen 0), upd xse (7 * a + 0) x, yss, xac, xji, xen, yho, ywh, xtj, xte, xst, ypl, ydn, yas, ywt, yun, yrs, yva, yha, xpa, xpi, xps, yso, xsv, xct), fun P h => ?_, fun P h => ?_, ⟨t, by omega, ⟨sc, 0, ⟨⟨⟨rfl, rfl, rfl, rfl⟩, rfl, rfl, rfl, rfl, rfl, rfl, rfl, rfl, rfl, rfl, rfl, rfl⟩, ⟨rfl, rfl, rfl, rfl⟩, hset1, hprog, fun j hj => absurd hj (by omega), hjas⟩, fun m hm => Or.inl (hid m hm)⟩, HL⟩⟩
      · simp only [wpX_activity, wpX_isSetting, sg_xT ga, sg_xT hx, sg_n1, sg_lits, sg_mA, sg_mB, sg_mC, sg_mD, sg_mE, sg_mF, Int32.reduceLT, Int32.reduceLE, forall_eq, true_and, and_true, true_implies, false_implies, not_true_eq_false, not_false_eq_true, implies_true]
        refine b1 _ ?_
        simp (disch := omega) only [sg_m3, sg_m3', sg_m4, sg_m4', sg_m6, sg_m6', sg_m7, sg_m7', sg_m200, sg_m200', nI_add, sg_a1, sg_a2, sg_a3, sg_a4, sg_a5, sg_a6, Int32.add_zero, sg_inT, nI_clamp, sg_lits, sg_mA, sg_mB, sg_mC, sg_mD, sg_mE, sg_mF, Int32.reduceLT, Int32.reduceLE, forall_eq, true_and, and_true, true_implies, false_implies, not_true_eq_false, not_false_eq_true, implies_true]
        exact h
      · simp only [wpY_activity, wY_activity_53, wY_activity_74, wY_activity_91, sg_yT ga, sg_yT gw, sg_yT hx, sg_lits, sg_mA, sg_mB, sg_mC, sg_mD, sg_mE, sg_mF, Int32.reduceLT, Int32.reduceLE, forall_eq, true_and, and_true, true_implies, false_implies, not_true_eq_false, not_false_eq_true, implies_true]
        refine b2 _ ?_
        simp (disch := omega) only [sg_m3, sg_m3', sg_m4, sg_m4', sg_m6, sg_m6', sg_m7, sg_m7', sg_m200, sg_m200', nI_add, sg_a1, sg_a2, sg_a3, sg_a4, sg_a5, sg_a6, Int32.add_zero, sg_inT, nI_clamp, sg_lits, sg_mA, sg_mB, sg_mC, sg_mD, sg_mE, sg_mF, Int32.reduceLT, Int32.reduceLE, forall_eq, true_and, and_true, true_implies, false_implies, not_true_eq_false, not_false_eq_true, implies_true]
        exact h
  · refine ⟨-1, _, _, fun P h => ?_, fun P h => ?_, I5⟩
    · simp only [wpX_activity, wpX_isSetting, sg_xT ga, sg_xF hx, sg_n0, sg_lits, sg_mA, sg_mB, sg_mC, sg_mD, sg_mE, sg_mF, Int32.reduceLT, Int32.reduceLE, forall_eq, true_and, and_true, true_implies, false_implies, not_true_eq_false, not_false_eq_true, implies_true]
      exact h
    · simp only [wpY_activity, wY_activity_53, wY_activity_74, wY_activity_91, sg_yT ga, sg_yT gw, sg_yF hx, sg_lits, sg_mA, sg_mB, sg_mC, sg_mD, sg_mE, sg_mF, Int32.reduceLT, Int32.reduceLE, forall_eq, true_and, and_true, true_implies, false_implies, not_true_eq_false, not_false_eq_true, implies_true]
      exact h
theorem sg_act1 {k a : Nat} {u : SX} {v : SY} (I : i_Rel k u v) (ha : a < 4) (x : Int32) : sg_Act k (nI a) 1 x u v := by
  have I5 := i_up I
  obtain ⟨t, ht, H, HL⟩ := I
  have HB := sg_busy H
  have ga : sg_rg (nI a) 0 3 := ⟨nI_pos (by omega), sg_3n ha⟩
  have gw : sg_rg (1 : Int32) 0 6 := ⟨by decide, by decide⟩
  obtain ⟨xsc, xnow, xjc, xec, xse, xki, xpp, xqq, xrr, xst, xfs, xin, xtb, xaj, xat, xsd, xja, xev, xva, xha, xps, xpa, xpi, xct, xsn, xsv, xtk, xac, xji, xou, xen, xuw, xra, xea, xtj, xte⟩ := u
  obtain ⟨ysc, ynow, yjc, yec, yse, yss, yac, yji, yen, yho, ywh, ytj, yte, yst, ypl, ydn, yas, ywt, yun, yrs, yva, yha, ypa, ypi, yps, yso, ysv, yct⟩ := v
  obtain ⟨sc, jc, ⟨⟨⟨e1, e2, e3, e4⟩, e5, e6, e7, e8, e9, e10, e11, e12, e13, e14, e15, e16⟩, ⟨g1, g2, g3, g4⟩, hset, hprog, hjobs, hjas⟩, hf⟩ := H
  subst e1 e2 e3 e4 e5 e6 e7 e8 e9 e10 e11 e12 e13 e14 e15 e16 g1 g2 g3 g4
  by_cases hx : sg_rg x 1 3
  · rcases HB with ⟨b1, b2⟩ | ⟨b1, b2, ej, hid⟩
    · refine ⟨-3, _, _, fun P h => ?_, fun P h => ?_, I5⟩
      · simp only [wpX_activity, wpX_isSetting, sg_xT ga, sg_xT hx, sg_n1, sg_lits, sg_mA, sg_mB, sg_mC, sg_mD, sg_mE, sg_mF, Int32.reduceLT, Int32.reduceLE, forall_eq, true_and, and_true, true_implies, false_implies, not_true_eq_false, not_false_eq_true, implies_true]
        refine b1 _ ?_
        simp only [sg_lits, sg_mA, sg_mB, sg_mC, sg_mD, sg_mE, sg_mF, Int32.reduceLT, Int32.reduceLE, forall_eq, true_and, and_true, true_implies, false_implies, not_true_eq_false, not_false_eq_true, implies_true]
        exact h
      · simp only [wpY_activity, wY_activity_53, wY_activity_74, wY_activity_91, sg_yT ga, sg_yT gw, sg_yT hx, sg_lits, sg_mA, sg_mB, sg_mC, sg_mD, sg_mE, sg_mF, Int32.reduceLT, Int32.reduceLE, forall_eq, true_and, and_true, true_implies, false_implies, not_true_eq_false, not_false_eq_true, implies_true]
        refine b2 _ ?_
        simp only [sg_lits, sg_mA, sg_mB, sg_mC, sg_mD, sg_mE, sg_mF, Int32.reduceLT, Int32.reduceLE, forall_eq, true_and, and_true, true_implies, false_implies, not_true_eq_false, not_false_eq_true, implies_true]
        exact h
    · have hset1 : sg_set (upd xse (7 * a + 1) x) := sg_set_upd hset ha (by omega) (fun _ => sg_rgN 1 3 (by omega) (by omega) hx) (fun z => absurd z (by decide)) (fun z => absurd z (by decide)) (fun z => absurd z (by decide))
      have ej0 : jc = 0 := (nI_eq (b := 0) (by have := sg_jas_le hjas; omega) (by omega)).mp ej
      subst ej0
      refine ⟨xse (7 * a + 1), (nI sc, nI t, nI 0, nI (sg_cnt xen 0), upd xse (7 * a + 1) x, xki, xpp, xqq, xrr, xst, xfs, xin, xtb, xaj, xat, xsd, xja, xev, xva, xha, xps, xpa, xpi, xct, xsn, xsv, xtk, xac, xji, xou, xen, xuw, xra, xea, xtj, xte), (nI sc, nI t, nI 0, nI (sg_cnt xen 0), upd xse (7 * a + 1) x, yss, xac, xji, xen, yho, ywh, xtj, xte, xst, ypl, ydn, yas, ywt, yun, yrs, yva, yha, xpa, xpi, xps, yso, xsv, xct), fun P h => ?_, fun P h => ?_, ⟨t, by omega, ⟨sc, 0, ⟨⟨⟨rfl, rfl, rfl, rfl⟩, rfl, rfl, rfl, rfl, rfl, rfl, rfl, rfl, rfl, rfl, rfl, rfl⟩, ⟨rfl, rfl, rfl, rfl⟩, hset1, hprog, fun j hj => absurd hj (by omega), hjas⟩, fun m hm => Or.inl (hid m hm)⟩, HL⟩⟩
      · simp only [wpX_activity, wpX_isSetting, sg_xT ga, sg_xT hx, sg_n1, sg_lits, sg_mA, sg_mB, sg_mC, sg_mD, sg_mE, sg_mF, Int32.reduceLT, Int32.reduceLE, forall_eq, true_and, and_true, true_implies, false_implies, not_true_eq_false, not_false_eq_true, implies_true]
        refine b1 _ ?_
        simp (disch := omega) only [sg_m3, sg_m3', sg_m4, sg_m4', sg_m6, sg_m6', sg_m7, sg_m7', sg_m200, sg_m200', nI_add, sg_a1, sg_a2, sg_a3, sg_a4, sg_a5, sg_a6, Int32.add_zero, sg_inT, nI_clamp, sg_lits, sg_mA, sg_mB, sg_mC, sg_mD, sg_mE, sg_mF, Int32.reduceLT, Int32.reduceLE, forall_eq, true_and, and_true, true_implies, false_implies, not_true_eq_false, not_false_eq_true, implies_true]
        exact h
      · simp only [wpY_activity, wY_activity_53, wY_activity_74, wY_activity_91, sg_yT ga, sg_yT gw, sg_yT hx, sg_lits, sg_mA, sg_mB, sg_mC, sg_mD, sg_mE, sg_mF, Int32.reduceLT, Int32.reduceLE, forall_eq, true_and, and_true, true_implies, false_implies, not_true_eq_false, not_false_eq_true, implies_true]
        refine b2 _ ?_
        simp (disch := omega) only [sg_m3, sg_m3', sg_m4, sg_m4', sg_m6, sg_m6', sg_m7, sg_m7', sg_m200, sg_m200', nI_add, sg_a1, sg_a2, sg_a3, sg_a4, sg_a5, sg_a6, Int32.add_zero, sg_inT, nI_clamp, sg_lits, sg_mA, sg_mB, sg_mC, sg_mD, sg_mE, sg_mF, Int32.reduceLT, Int32.reduceLE, forall_eq, true_and, and_true, true_implies, false_implies, not_true_eq_false, not_false_eq_true, implies_true]
        exact h
  · refine ⟨-1, _, _, fun P h => ?_, fun P h => ?_, I5⟩
    · simp only [wpX_activity, wpX_isSetting, sg_xT ga, sg_xF hx, sg_n0, sg_lits, sg_mA, sg_mB, sg_mC, sg_mD, sg_mE, sg_mF, Int32.reduceLT, Int32.reduceLE, forall_eq, true_and, and_true, true_implies, false_implies, not_true_eq_false, not_false_eq_true, implies_true]
      exact h
    · simp only [wpY_activity, wY_activity_53, wY_activity_74, wY_activity_91, sg_yT ga, sg_yT gw, sg_yF hx, sg_lits, sg_mA, sg_mB, sg_mC, sg_mD, sg_mE, sg_mF, Int32.reduceLT, Int32.reduceLE, forall_eq, true_and, and_true, true_implies, false_implies, not_true_eq_false, not_false_eq_true, implies_true]
      exact h
theorem sg_act2 {k a : Nat} {u : SX} {v : SY} (I : i_Rel k u v) (ha : a < 4) (x : Int32) : sg_Act k (nI a) 2 x u v := by
  have I5 := i_up I
  obtain ⟨t, ht, H, HL⟩ := I
  have HB := sg_busy H
  have ga : sg_rg (nI a) 0 3 := ⟨nI_pos (by omega), sg_3n ha⟩
  have gw : sg_rg (2 : Int32) 0 6 := ⟨by decide, by decide⟩
  obtain ⟨xsc, xnow, xjc, xec, xse, xki, xpp, xqq, xrr, xst, xfs, xin, xtb, xaj, xat, xsd, xja, xev, xva, xha, xps, xpa, xpi, xct, xsn, xsv, xtk, xac, xji, xou, xen, xuw, xra, xea, xtj, xte⟩ := u
  obtain ⟨ysc, ynow, yjc, yec, yse, yss, yac, yji, yen, yho, ywh, ytj, yte, yst, ypl, ydn, yas, ywt, yun, yrs, yva, yha, ypa, ypi, yps, yso, ysv, yct⟩ := v
  obtain ⟨sc, jc, ⟨⟨⟨e1, e2, e3, e4⟩, e5, e6, e7, e8, e9, e10, e11, e12, e13, e14, e15, e16⟩, ⟨g1, g2, g3, g4⟩, hset, hprog, hjobs, hjas⟩, hf⟩ := H
  subst e1 e2 e3 e4 e5 e6 e7 e8 e9 e10 e11 e12 e13 e14 e15 e16 g1 g2 g3 g4
  by_cases hx : sg_rg x 1 4
  · rcases HB with ⟨b1, b2⟩ | ⟨b1, b2, ej, hid⟩
    · refine ⟨-3, _, _, fun P h => ?_, fun P h => ?_, I5⟩
      · simp only [wpX_activity, wpX_isSetting, sg_xT ga, sg_xT hx, sg_n1, sg_lits, sg_mA, sg_mB, sg_mC, sg_mD, sg_mE, sg_mF, Int32.reduceLT, Int32.reduceLE, forall_eq, true_and, and_true, true_implies, false_implies, not_true_eq_false, not_false_eq_true, implies_true]
        refine b1 _ ?_
        simp only [sg_lits, sg_mA, sg_mB, sg_mC, sg_mD, sg_mE, sg_mF, Int32.reduceLT, Int32.reduceLE, forall_eq, true_and, and_true, true_implies, false_implies, not_true_eq_false, not_false_eq_true, implies_true]
        exact h
      · simp only [wpY_activity, wY_activity_53, wY_activity_74, wY_activity_91, sg_yT ga, sg_yT gw, sg_yT hx, sg_lits, sg_mA, sg_mB, sg_mC, sg_mD, sg_mE, sg_mF, Int32.reduceLT, Int32.reduceLE, forall_eq, true_and, and_true, true_implies, false_implies, not_true_eq_false, not_false_eq_true, implies_true]
        refine b2 _ ?_
        simp only [sg_lits, sg_mA, sg_mB, sg_mC, sg_mD, sg_mE, sg_mF, Int32.reduceLT, Int32.reduceLE, forall_eq, true_and, and_true, true_implies, false_implies, not_true_eq_false, not_false_eq_true, implies_true]
        exact h
    · have hset1 : sg_set (upd xse (7 * a + 2) x) := sg_set_upd hset ha (by omega) (fun z => absurd z (by decide)) (fun _ => sg_rgN 1 4 (by omega) (by omega) hx) (fun z => absurd z (by decide)) (fun z => absurd z (by decide))
      have ej0 : jc = 0 := (nI_eq (b := 0) (by have := sg_jas_le hjas; omega) (by omega)).mp ej
      subst ej0
      refine ⟨xse (7 * a + 2), (nI sc, nI t, nI 0, nI (sg_cnt xen 0), upd xse (7 * a + 2) x, xki, xpp, xqq, xrr, xst, xfs, xin, xtb, xaj, xat, xsd, xja, xev, xva, xha, xps, xpa, xpi, xct, xsn, xsv, xtk, xac, xji, xou, xen, xuw, xra, xea, xtj, xte), (nI sc, nI t, nI 0, nI (sg_cnt xen 0), upd xse (7 * a + 2) x, yss, xac, xji, xen, yho, ywh, xtj, xte, xst, ypl, ydn, yas, ywt, yun, yrs, yva, yha, xpa, xpi, xps, yso, xsv, xct), fun P h => ?_, fun P h => ?_, ⟨t, by omega, ⟨sc, 0, ⟨⟨⟨rfl, rfl, rfl, rfl⟩, rfl, rfl, rfl, rfl, rfl, rfl, rfl, rfl, rfl, rfl, rfl, rfl⟩, ⟨rfl, rfl, rfl, rfl⟩, hset1, hprog, fun j hj => absurd hj (by omega), hjas⟩, fun m hm => Or.inl (hid m hm)⟩, HL⟩⟩
      · simp only [wpX_activity, wpX_isSetting, sg_xT ga, sg_xT hx, sg_n1, sg_lits, sg_mA, sg_mB, sg_mC, sg_mD, sg_mE, sg_mF, Int32.reduceLT, Int32.reduceLE, forall_eq, true_and, and_true, true_implies, false_implies, not_true_eq_false, not_false_eq_true, implies_true]
        refine b1 _ ?_
        simp (disch := omega) only [sg_m3, sg_m3', sg_m4, sg_m4', sg_m6, sg_m6', sg_m7, sg_m7', sg_m200, sg_m200', nI_add, sg_a1, sg_a2, sg_a3, sg_a4, sg_a5, sg_a6, Int32.add_zero, sg_inT, nI_clamp, sg_lits, sg_mA, sg_mB, sg_mC, sg_mD, sg_mE, sg_mF, Int32.reduceLT, Int32.reduceLE, forall_eq, true_and, and_true, true_implies, false_implies, not_true_eq_false, not_false_eq_true, implies_true]
        exact h
      · simp only [wpY_activity, wY_activity_53, wY_activity_74, wY_activity_91, sg_yT ga, sg_yT gw, sg_yT hx, sg_lits, sg_mA, sg_mB, sg_mC, sg_mD, sg_mE, sg_mF, Int32.reduceLT, Int32.reduceLE, forall_eq, true_and, and_true, true_implies, false_implies, not_true_eq_false, not_false_eq_true, implies_true]
        refine b2 _ ?_
        simp (disch := omega) only [sg_m3, sg_m3', sg_m4, sg_m4', sg_m6, sg_m6', sg_m7, sg_m7', sg_m200, sg_m200', nI_add, sg_a1, sg_a2, sg_a3, sg_a4, sg_a5, sg_a6, Int32.add_zero, sg_inT, nI_clamp, sg_lits, sg_mA, sg_mB, sg_mC, sg_mD, sg_mE, sg_mF, Int32.reduceLT, Int32.reduceLE, forall_eq, true_and, and_true, true_implies, false_implies, not_true_eq_false, not_false_eq_true, implies_true]
        exact h
  · refine ⟨-1, _, _, fun P h => ?_, fun P h => ?_, I5⟩
    · simp only [wpX_activity, wpX_isSetting, sg_xT ga, sg_xF hx, sg_n0, sg_lits, sg_mA, sg_mB, sg_mC, sg_mD, sg_mE, sg_mF, Int32.reduceLT, Int32.reduceLE, forall_eq, true_and, and_true, true_implies, false_implies, not_true_eq_false, not_false_eq_true, implies_true]
      exact h
    · simp only [wpY_activity, wY_activity_53, wY_activity_74, wY_activity_91, sg_yT ga, sg_yT gw, sg_yF hx, sg_lits, sg_mA, sg_mB, sg_mC, sg_mD, sg_mE, sg_mF, Int32.reduceLT, Int32.reduceLE, forall_eq, true_and, and_true, true_implies, false_implies, not_true_eq_false, not_false_eq_true, implies_true]
      exact h
theorem sg_act3 {k a : Nat} {u : SX} {v : SY} (I : i_Rel k u v) (ha : a < 4) (x : Int32) : sg_Act k (nI a) 3 x u v := by
  have I5 := i_up I
  obtain ⟨t, ht, H, HL⟩ := I
  have HB := sg_busy H
  have ga : sg_rg (nI a) 0 3 := ⟨nI_pos (by omega), sg_3n ha⟩
  have gw : sg_rg (3 : Int32) 0 6 := ⟨by decide, by decide⟩
  obtain ⟨xsc, xnow, xjc, xec, xse, xki, xpp, xqq, xrr, xst, xfs, xin, xtb, xaj, xat, xsd, xja, xev, xva, xha, xps, xpa, xpi, xct, xsn, xsv, xtk, xac, xji, xou, xen, xuw, xra, xea, xtj, xte⟩ := u
  obtain ⟨ysc, ynow, yjc, yec, yse, yss, yac, yji, yen, yho, ywh, ytj, yte, yst, ypl, ydn, yas, ywt, yun, yrs, yva, yha, ypa, ypi, yps, yso, ysv, yct⟩ := v
  obtain ⟨sc, jc, ⟨⟨⟨e1, e2, e3, e4⟩, e5, e6, e7, e8, e9, e10, e11, e12, e13, e14, e15, e16⟩, ⟨g1, g2, g3, g4⟩, hset, hprog, hjobs, hjas⟩, hf⟩ := H
  subst e1 e2 e3 e4 e5 e6 e7 e8 e9 e10 e11 e12 e13 e14 e15 e16 g1 g2 g3 g4
  by_cases hx : sg_rg x 0 9
  · rcases HB with ⟨b1, b2⟩ | ⟨b1, b2, ej, hid⟩
    · refine ⟨-3, _, _, fun P h => ?_, fun P h => ?_, I5⟩
      · simp only [wpX_activity, wpX_isSetting, sg_xT ga, sg_xT hx, sg_n1, sg_lits, sg_mA, sg_mB, sg_mC, sg_mD, sg_mE, sg_mF, Int32.reduceLT, Int32.reduceLE, forall_eq, true_and, and_true, true_implies, false_implies, not_true_eq_false, not_false_eq_true, implies_true]
        refine b1 _ ?_
        simp only [sg_lits, sg_mA, sg_mB, sg_mC, sg_mD, sg_mE, sg_mF, Int32.reduceLT, Int32.reduceLE, forall_eq, true_and, and_true, true_implies, false_implies, not_true_eq_false, not_false_eq_true, implies_true]
        exact h
      · simp only [wpY_activity, wY_activity_53, wY_activity_74, wY_activity_91, sg_yT ga, sg_yT gw, sg_yT hx, sg_lits, sg_mA, sg_mB, sg_mC, sg_mD, sg_mE, sg_mF, Int32.reduceLT, Int32.reduceLE, forall_eq, true_and, and_true, true_implies, false_implies, not_true_eq_false, not_false_eq_true, implies_true]
        refine b2 _ ?_
        simp only [sg_lits, sg_mA, sg_mB, sg_mC, sg_mD, sg_mE, sg_mF, Int32.reduceLT, Int32.reduceLE, forall_eq, true_and, and_true, true_implies, false_implies, not_true_eq_false, not_false_eq_true, implies_true]
        exact h
    · have hset1 : sg_set (upd xse (7 * a + 3) x) := sg_set_upd hset ha (by omega) (fun z => absurd z (by decide)) (fun z => absurd z (by decide)) (fun _ => sg_rgN 0 9 (by omega) (by omega) hx) (fun z => absurd z (by decide))
      have ej0 : jc = 0 := (nI_eq (b := 0) (by have := sg_jas_le hjas; omega) (by omega)).mp ej
      subst ej0
      refine ⟨xse (7 * a + 3), (nI sc, nI t, nI 0, nI (sg_cnt xen 0), upd xse (7 * a + 3) x, xki, xpp, xqq, xrr, xst, xfs, xin, xtb, xaj, xat, xsd, xja, xev, xva, xha, xps, xpa, xpi, xct, xsn, xsv, xtk, xac, xji, xou, xen, xuw, xra, xea, xtj, xte), (nI sc, nI t, nI 0, nI (sg_cnt xen 0), upd xse (7 * a + 3) x, yss, xac, xji, xen, yho, ywh, xtj, xte, xst, ypl, ydn, yas, ywt, yun, yrs, yva, yha, xpa, xpi, xps, yso, xsv, xct), fun P h => ?_, fun P h => ?_, ⟨t, by omega, ⟨sc, 0, ⟨⟨⟨rfl, rfl, rfl, rfl⟩, rfl, rfl, rfl, rfl, rfl, rfl, rfl, rfl, rfl, rfl, rfl, rfl⟩, ⟨rfl, rfl, rfl, rfl⟩, hset1, hprog, fun j hj => absurd hj (by omega), hjas⟩, fun m hm => Or.inl (hid m hm)⟩, HL⟩⟩
      · simp only [wpX_activity, wpX_isSetting, sg_xT ga, sg_xT hx, sg_n1, sg_lits, sg_mA, sg_mB, sg_mC, sg_mD, sg_mE, sg_mF, Int32.reduceLT, Int32.reduceLE, forall_eq, true_and, and_true, true_implies, false_implies, not_true_eq_false, not_false_eq_true, implies_true]
        refine b1 _ ?_
        simp (disch := omega) only [sg_m3, sg_m3', sg_m4, sg_m4', sg_m6, sg_m6', sg_m7, sg_m7', sg_m200, sg_m200', nI_add, sg_a1, sg_a2, sg_a3, sg_a4, sg_a5, sg_a6, Int32.add_zero, sg_inT, nI_clamp, sg_lits, sg_mA, sg_mB, sg_mC, sg_mD, sg_mE, sg_mF, Int32.reduceLT, Int32.reduceLE, forall_eq, true_and, and_true, true_implies, false_implies, not_true_eq_false, not_false_eq_true, implies_true]
        exact h
      · simp only [wpY_activity, wY_activity_53, wY_activity_74, wY_activity_91, sg_yT ga, sg_yT gw, sg_yT hx, sg_lits, sg_mA, sg_mB, sg_mC, sg_mD, sg_mE, sg_mF, Int32.reduceLT, Int32.reduceLE, forall_eq, true_and, and_true, true_implies, false_implies, not_true_eq_false, not_false_eq_true, implies_true]
        refine b2 _ ?_
        simp (disch := omega) only [sg_m3, sg_m3', sg_m4, sg_m4', sg_m6, sg_m6', sg_m7, sg_m7', sg_m200, sg_m200', nI_add, sg_a1, sg_a2, sg_a3, sg_a4, sg_a5, sg_a6, Int32.add_zero, sg_inT, nI_clamp, sg_lits, sg_mA, sg_mB, sg_mC, sg_mD, sg_mE, sg_mF, Int32.reduceLT, Int32.reduceLE, forall_eq, true_and, and_true, true_implies, false_implies, not_true_eq_false, not_false_eq_true, implies_true]
        exact h
  · refine ⟨-1, _, _, fun P h => ?_, fun P h => ?_, I5⟩
    · simp only [wpX_activity, wpX_isSetting, sg_xT ga, sg_xF hx, sg_n0, sg_lits, sg_mA, sg_mB, sg_mC, sg_mD, sg_mE, sg_mF, Int32.reduceLT, Int32.reduceLE, forall_eq, true_and, and_true, true_implies, false_implies, not_true_eq_false, not_false_eq_true, implies_true]
      exact h
    · simp only [wpY_activity, wY_activity_53, wY_activity_74, wY_activity_91, sg_yT ga, sg_yT gw, sg_yF hx, sg_lits, sg_mA, sg_mB, sg_mC, sg_mD, sg_mE, sg_mF, Int32.reduceLT, Int32.reduceLE, forall_eq, true_and, and_true, true_implies, false_implies, not_true_eq_false, not_false_eq_true, implies_true]
      exact h
theorem sg_act4 {k a : Nat} {u : SX} {v : SY} (I : i_Rel k u v) (ha : a < 4) (x : Int32) : sg_Act k (nI a) 4 x u v := by
  have I5 := i_up I
  obtain ⟨t, ht, H, HL⟩ := I
  have HB := sg_busy H
  have ga : sg_rg (nI a) 0 3 := ⟨nI_pos (by omega), sg_3n ha⟩
  have gw : sg_rg (4 : Int32) 0 6 := ⟨by decide, by decide⟩
  obtain ⟨xsc, xnow, xjc, xec, xse, xki, xpp, xqq, xrr, xst, xfs, xin, xtb, xaj, xat, xsd, xja, xev, xva, xha, xps, xpa, xpi, xct, xsn, xsv, xtk, xac, xji, xou, xen, xuw, xra, xea, xtj, xte⟩ := u
  obtain ⟨ysc, ynow, yjc, yec, yse, yss, yac, yji, yen, yho, ywh, ytj, yte, yst, ypl, ydn, yas, ywt, yun, yrs, yva, yha, ypa, ypi, yps, yso, ysv, yct⟩ := v
  obtain ⟨sc, jc, ⟨⟨⟨e1, e2, e3, e4⟩, e5, e6, e7, e8, e9, e10, e11, e12, e13, e14, e15, e16⟩, ⟨g1, g2, g3, g4⟩, hset, hprog, hjobs, hjas⟩, hf⟩ := H
  subst e1 e2 e3 e4 e5 e6 e7 e8 e9 e10 e11 e12 e13 e14 e15 e16 g1 g2 g3 g4
  by_cases hx : sg_rg x 0 4
  · rcases HB with ⟨b1, b2⟩ | ⟨b1, b2, ej, hid⟩
    · refine ⟨-3, _, _, fun P h => ?_, fun P h => ?_, I5⟩
      · simp only [wpX_activity, wpX_isSetting, sg_xT ga, sg_xT hx, sg_n1, sg_lits, sg_mA, sg_mB, sg_mC, sg_mD, sg_mE, sg_mF, Int32.reduceLT, Int32.reduceLE, forall_eq, true_and, and_true, true_implies, false_implies, not_true_eq_false, not_false_eq_true, implies_true]
        refine b1 _ ?_
        simp only [sg_lits, sg_mA, sg_mB, sg_mC, sg_mD, sg_mE, sg_mF, Int32.reduceLT, Int32.reduceLE, forall_eq, true_and, and_true, true_implies, false_implies, not_true_eq_false, not_false_eq_true, implies_true]
        exact h
      · simp only [wpY_activity, wY_activity_53, wY_activity_74, wY_activity_91, sg_yT ga, sg_yT gw, sg_yT hx, sg_lits, sg_mA, sg_mB, sg_mC, sg_mD, sg_mE, sg_mF, Int32.reduceLT, Int32.reduceLE, forall_eq, true_and, and_true, true_implies, false_implies, not_true_eq_false, not_false_eq_true, implies_true]
        refine b2 _ ?_
        simp only [sg_lits, sg_mA, sg_mB, sg_mC, sg_mD, sg_mE, sg_mF, Int32.reduceLT, Int32.reduceLE, forall_eq, true_and, and_true, true_implies, false_implies, not_true_eq_false, not_false_eq_true, implies_true]
        exact h
    · have hset1 : sg_set (upd xse (7 * a + 4) x) := sg_set_upd hset ha (by omega) (fun z => absurd z (by decide)) (fun z => absurd z (by decide)) (fun z => absurd z (by decide)) (fun _ => sg_rgN 0 4 (by omega) (by omega) hx)
      have ej0 : jc = 0 := (nI_eq (b := 0) (by have := sg_jas_le hjas; omega) (by omega)).mp ej
      subst ej0
      refine ⟨xse (7 * a + 4), (nI sc, nI t, nI 0, nI (sg_cnt xen 0), upd xse (7 * a + 4) x, xki, xpp, xqq, xrr, xst, xfs, xin, xtb, xaj, xat, xsd, xja, xev, xva, xha, xps, xpa, xpi, xct, xsn, xsv, xtk, xac, xji, xou, xen, xuw, xra, xea, xtj, xte), (nI sc, nI t, nI 0, nI (sg_cnt xen 0), upd xse (7 * a + 4) x, yss, xac, xji, xen, yho, ywh, xtj, xte, xst, ypl, ydn, yas, ywt, yun, yrs, yva, yha, xpa, xpi, xps, yso, xsv, xct), fun P h => ?_, fun P h => ?_, ⟨t, by omega, ⟨sc, 0, ⟨⟨⟨rfl, rfl, rfl, rfl⟩, rfl, rfl, rfl, rfl, rfl, rfl, rfl, rfl, rfl, rfl, rfl, rfl⟩, ⟨rfl, rfl, rfl, rfl⟩, hset1, hprog, fun j hj => absurd hj (by omega), hjas⟩, fun m hm => Or.inl (hid m hm)⟩, HL⟩⟩
      · simp only [wpX_activity, wpX_isSetting, sg_xT ga, sg_xT hx, sg_n1, sg_lits, sg_mA, sg_mB, sg_mC, sg_mD, sg_mE, sg_mF, Int32.reduceLT, Int32.reduceLE, forall_eq, true_and, and_true, true_implies, false_implies, not_true_eq_false, not_false_eq_true, implies_true]
        refine b1 _ ?_
        simp (disch := omega) only [sg_m3, sg_m3', sg_m4, sg_m4', sg_m6, sg_m6', sg_m7, sg_m7', sg_m200, sg_m200', nI_add, sg_a1, sg_a2, sg_a3, sg_a4, sg_a5, sg_a6, Int32.add_zero, sg_inT, nI_clamp, sg_lits, sg_mA, sg_mB, sg_mC, sg_mD, sg_mE, sg_mF, Int32.reduceLT, Int32.reduceLE, forall_eq, true_and, and_true, true_implies, false_implies, not_true_eq_false, not_false_eq_true, implies_true]
        exact h
      · simp only [wpY_activity, wY_activity_53, wY_activity_74, wY_activity_91, sg_yT ga, sg_yT gw, sg_yT hx, sg_lits, sg_mA, sg_mB, sg_mC, sg_mD, sg_mE, sg_mF, Int32.reduceLT, Int32.reduceLE, forall_eq, true_and, and_true, true_implies, false_implies, not_true_eq_false, not_false_eq_true, implies_true]
        refine b2 _ ?_
        simp (disch := omega) only [sg_m3, sg_m3', sg_m4, sg_m4', sg_m6, sg_m6', sg_m7, sg_m7', sg_m200, sg_m200', nI_add, sg_a1, sg_a2, sg_a3, sg_a4, sg_a5, sg_a6, Int32.add_zero, sg_inT, nI_clamp, sg_lits, sg_mA, sg_mB, sg_mC, sg_mD, sg_mE, sg_mF, Int32.reduceLT, Int32.reduceLE, forall_eq, true_and, and_true, true_implies, false_implies, not_true_eq_false, not_false_eq_true, implies_true]
        exact h
  · refine ⟨-1, _, _, fun P h => ?_, fun P h => ?_, I5⟩
    · simp only [wpX_activity, wpX_isSetting, sg_xT ga, sg_xF hx, sg_n0, sg_lits, sg_mA, sg_mB, sg_mC, sg_mD, sg_mE, sg_mF, Int32.reduceLT, Int32.reduceLE, forall_eq, true_and, and_true, true_implies, false_implies, not_true_eq_false, not_false_eq_true, implies_true]
      exact h
    · simp only [wpY_activity, wY_activity_53, wY_activity_74, wY_activity_91, sg_yT ga, sg_yT gw, sg_yF hx, sg_lits, sg_mA, sg_mB, sg_mC, sg_mD, sg_mE, sg_mF, Int32.reduceLT, Int32.reduceLE, forall_eq, true_and, and_true, true_implies, false_implies, not_true_eq_false, not_false_eq_true, implies_true]
      exact h
theorem sg_act5 {k a : Nat} {u : SX} {v : SY} (I : i_Rel k u v) (ha : a < 4) (x : Int32) : sg_Act k (nI a) 5 x u v := by
  have I5 := i_up I
  obtain ⟨t, ht, H, HL⟩ := I
  have HB := sg_busy H
  have ga : sg_rg (nI a) 0 3 := ⟨nI_pos (by omega), sg_3n ha⟩
  have gw : sg_rg (5 : Int32) 0 6 := ⟨by decide, by decide⟩
  obtain ⟨xsc, xnow, xjc, xec, xse, xki, xpp, xqq, xrr, xst, xfs, xin, xtb, xaj, xat, xsd, xja, xev, xva, xha, xps, xpa, xpi, xct, xsn, xsv, xtk, xac, xji, xou, xen, xuw, xra, xea, xtj, xte⟩ := u
  obtain ⟨ysc, ynow, yjc, yec, yse, yss, yac, yji, yen, yho, ywh, ytj, yte, yst, ypl, ydn, yas, ywt, yun, yrs, yva, yha, ypa, ypi, yps, yso, ysv, yct⟩ := v
  obtain ⟨sc, jc, ⟨⟨⟨e1, e2, e3, e4⟩, e5, e6, e7, e8, e9, e10, e11, e12, e13, e14, e15, e16⟩, ⟨g1, g2, g3, g4⟩, hset, hprog, hjobs, hjas⟩, hf⟩ := H
  subst e1 e2 e3 e4 e5 e6 e7 e8 e9 e10 e11 e12 e13 e14 e15 e16 g1 g2 g3 g4
  by_cases hx : sg_rg x (-9) 9
  · rcases HB with ⟨b1, b2⟩ | ⟨b1, b2, ej, hid⟩
    · refine ⟨-3, _, _, fun P h => ?_, fun P h => ?_, I5⟩
      · simp only [wpX_activity, wpX_isSetting, sg_xT ga, sg_xT hx, sg_n1, sg_lits, sg_mA, sg_mB, sg_mC, sg_mD, sg_mE, sg_mF, Int32.reduceLT, Int32.reduceLE, forall_eq, true_and, and_true, true_implies, false_implies, not_true_eq_false, not_false_eq_true, implies_true]
        refine b1 _ ?_
        simp only [sg_lits, sg_mA, sg_mB, sg_mC, sg_mD, sg_mE, sg_mF, Int32.reduceLT, Int32.reduceLE, forall_eq, true_and, and_true, true_implies, false_implies, not_true_eq_false, not_false_eq_true, implies_true]
        exact h
      · simp only [wpY_activity, wY_activity_53, wY_activity_74, wY_activity_91, sg_yT ga, sg_yT gw, sg_yT hx, sg_lits, sg_mA, sg_mB, sg_mC, sg_mD, sg_mE, sg_mF, Int32.reduceLT, Int32.reduceLE, forall_eq, true_and, and_true, true_implies, false_implies, not_true_eq_false, not_false_eq_true, implies_true]
        refine b2 _ ?_
        simp only [sg_lits, sg_mA, sg_mB, sg_mC, sg_mD, sg_mE, sg_mF, Int32.reduceLT, Int32.reduceLE, forall_eq, true_and, and_true, true_implies, false_implies, not_true_eq_false, not_false_eq_true, implies_true]
        exact h
    · have hset1 : sg_set (upd xse (7 * a + 5) x) := sg_set_upd hset ha (by omega) (fun z => absurd z (by decide)) (fun z => absurd z (by decide)) (fun z => absurd z (by decide)) (fun z => absurd z (by decide))
      have ej0 : jc = 0 := (nI_eq (b := 0) (by have := sg_jas_le hjas; omega) (by omega)).mp ej
      subst ej0
      refine ⟨xse (7 * a + 5), (nI sc, nI t, nI 0, nI (sg_cnt xen 0), upd xse (7 * a + 5) x, xki, xpp, xqq, xrr, xst, xfs, xin, xtb, xaj, xat, xsd, xja, xev, xva, xha, xps, xpa, xpi, xct, xsn, xsv, xtk, xac, xji, xou, xen, xuw, xra, xea, xtj, xte), (nI sc, nI t, nI 0, nI (sg_cnt xen 0), upd xse (7 * a + 5) x, yss, xac, xji, xen, yho, ywh, xtj, xte, xst, ypl, ydn, yas, ywt, yun, yrs, yva, yha, xpa, xpi, xps, yso, xsv, xct), fun P h => ?_, fun P h => ?_, ⟨t, by omega, ⟨sc, 0, ⟨⟨⟨rfl, rfl, rfl, rfl⟩, rfl, rfl, rfl, rfl, rfl, rfl, rfl, rfl, rfl, rfl, rfl, rfl⟩, ⟨rfl, rfl, rfl, rfl⟩, hset1, hprog, fun j hj => absurd hj (by omega), hjas⟩, fun m hm => Or.inl (hid m hm)⟩, HL⟩⟩
      · simp only [wpX_activity, wpX_isSetting, sg_xT ga, sg_xT hx, sg_n1, sg_lits, sg_mA, sg_mB, sg_mC, sg_mD, sg_mE, sg_mF, Int32.reduceLT, Int32.reduceLE, forall_eq, true_and, and_true, true_implies, false_implies, not_true_eq_false, not_false_eq_true, implies_true]
        refine b1 _ ?_
        simp (disch := omega) only [sg_m3, sg_m3', sg_m4, sg_m4', sg_m6, sg_m6', sg_m7, sg_m7', sg_m200, sg_m200', nI_add, sg_a1, sg_a2, sg_a3, sg_a4, sg_a5, sg_a6, Int32.add_zero, sg_inT, nI_clamp, sg_lits, sg_mA, sg_mB, sg_mC, sg_mD, sg_mE, sg_mF, Int32.reduceLT, Int32.reduceLE, forall_eq, true_and, and_true, true_implies, false_implies, not_true_eq_false, not_false_eq_true, implies_true]
        exact h
      · simp only [wpY_activity, wY_activity_53, wY_activity_74, wY_activity_91, sg_yT ga, sg_yT gw, sg_yT hx, sg_lits, sg_mA, sg_mB, sg_mC, sg_mD, sg_mE, sg_mF, Int32.reduceLT, Int32.reduceLE, forall_eq, true_and, and_true, true_implies, false_implies, not_true_eq_false, not_false_eq_true, implies_true]
        refine b2 _ ?_
        simp (disch := omega) only [sg_m3, sg_m3', sg_m4, sg_m4', sg_m6, sg_m6', sg_m7, sg_m7', sg_m200, sg_m200', nI_add, sg_a1, sg_a2, sg_a3, sg_a4, sg_a5, sg_a6, Int32.add_zero, sg_inT, nI_clamp, sg_lits, sg_mA, sg_mB, sg_mC, sg_mD, sg_mE, sg_mF, Int32.reduceLT, Int32.reduceLE, forall_eq, true_and, and_true, true_implies, false_implies, not_true_eq_false, not_false_eq_true, implies_true]
        exact h
  · refine ⟨-1, _, _, fun P h => ?_, fun P h => ?_, I5⟩
    · simp only [wpX_activity, wpX_isSetting, sg_xT ga, sg_xF hx, sg_n0, sg_lits, sg_mA, sg_mB, sg_mC, sg_mD, sg_mE, sg_mF, Int32.reduceLT, Int32.reduceLE, forall_eq, true_and, and_true, true_implies, false_implies, not_true_eq_false, not_false_eq_true, implies_true]
      exact h
    · simp only [wpY_activity, wY_activity_53, wY_activity_74, wY_activity_91, sg_yT ga, sg_yT gw, sg_yF hx, sg_lits, sg_mA, sg_mB, sg_mC, sg_mD, sg_mE, sg_mF, Int32.reduceLT, Int32.reduceLE, forall_eq, true_and, and_true, true_implies, false_implies, not_true_eq_false, not_false_eq_true, implies_true]
      exact h
theorem sg_act6 {k a : Nat} {u : SX} {v : SY} (I : i_Rel k u v) (ha : a < 4) (x : Int32) : sg_Act k (nI a) 6 x u v := by
  have I5 := i_up I
  obtain ⟨t, ht, H, HL⟩ := I
  have HB := sg_busy H
  have ga : sg_rg (nI a) 0 3 := ⟨nI_pos (by omega), sg_3n ha⟩
  have gw : sg_rg (6 : Int32) 0 6 := ⟨by decide, by decide⟩
  obtain ⟨xsc, xnow, xjc, xec, xse, xki, xpp, xqq, xrr, xst, xfs, xin, xtb, xaj, xat, xsd, xja, xev, xva, xha, xps, xpa, xpi, xct, xsn, xsv, xtk, xac, xji, xou, xen, xuw, xra, xea, xtj, xte⟩ := u
  obtain ⟨ysc, ynow, yjc, yec, yse, yss, yac, yji, yen, yho, ywh, ytj, yte, yst, ypl, ydn, yas, ywt, yun, yrs, yva, yha, ypa, ypi, yps, yso, ysv, yct⟩ := v
  obtain ⟨sc, jc, ⟨⟨⟨e1, e2, e3, e4⟩, e5, e6, e7, e8, e9, e10, e11, e12, e13, e14, e15, e16⟩, ⟨g1, g2, g3, g4⟩, hset, hprog, hjobs, hjas⟩, hf⟩ := H
  subst e1 e2 e3 e4 e5 e6 e7 e8 e9 e10 e11 e12 e13 e14 e15 e16 g1 g2 g3 g4
  by_cases hx : sg_rg x (-99) 99
  · rcases HB with ⟨b1, b2⟩ | ⟨b1, b2, ej, hid⟩
    · refine ⟨-3, _, _, fun P h => ?_, fun P h => ?_, I5⟩
      · simp only [wpX_activity, wpX_isSetting, sg_xT ga, sg_xT hx, sg_n1, sg_lits, sg_mA, sg_mB, sg_mC, sg_mD, sg_mE, sg_mF, Int32.reduceLT, Int32.reduceLE, forall_eq, true_and, and_true, true_implies, false_implies, not_true_eq_false, not_false_eq_true, implies_true]
        refine b1 _ ?_
        simp only [sg_lits, sg_mA, sg_mB, sg_mC, sg_mD, sg_mE, sg_mF, Int32.reduceLT, Int32.reduceLE, forall_eq, true_and, and_true, true_implies, false_implies, not_true_eq_false, not_false_eq_true, implies_true]
        exact h
      · simp only [wpY_activity, wY_activity_53, wY_activity_74, wY_activity_91, sg_yT ga, sg_yT gw, sg_yT hx, sg_lits, sg_mA, sg_mB, sg_mC, sg_mD, sg_mE, sg_mF, Int32.reduceLT, Int32.reduceLE, forall_eq, true_and, and_true, true_implies, false_implies, not_true_eq_false, not_false_eq_true, implies_true]
        refine b2 _ ?_
        simp only [sg_lits, sg_mA, sg_mB, sg_mC, sg_mD, sg_mE, sg_mF, Int32.reduceLT, Int32.reduceLE, forall_eq, true_and, and_true, true_implies, false_implies, not_true_eq_false, not_false_eq_true, implies_true]
        exact h
    · have hset1 : sg_set (upd xse (7 * a + 6) x) := sg_set_upd hset ha (by omega) (fun z => absurd z (by decide)) (fun z => absurd z (by decide)) (fun z => absurd z (by decide)) (fun z => absurd z (by decide))
      have ej0 : jc = 0 := (nI_eq (b := 0) (by have := sg_jas_le hjas; omega) (by omega)).mp ej
      subst ej0
      refine ⟨xse (7 * a + 6), (nI sc, nI t, nI 0, nI (sg_cnt xen 0), upd xse (7 * a + 6) x, xki, xpp, xqq, xrr, xst, xfs, xin, xtb, xaj, xat, xsd, xja, xev, xva, xha, xps, xpa, xpi, xct, xsn, xsv, xtk, xac, xji, xou, xen, xuw, xra, xea, xtj, xte), (nI sc, nI t, nI 0, nI (sg_cnt xen 0), upd xse (7 * a + 6) x, yss, xac, xji, xen, yho, ywh, xtj, xte, xst, ypl, ydn, yas, ywt, yun, yrs, yva, yha, xpa, xpi, xps, yso, xsv, xct), fun P h => ?_, fun P h => ?_, ⟨t, by omega, ⟨sc, 0, ⟨⟨⟨rfl, rfl, rfl, rfl⟩, rfl, rfl, rfl, rfl, rfl, rfl, rfl, rfl, rfl, rfl, rfl, rfl⟩, ⟨rfl, rfl, rfl, rfl⟩, hset1, hprog, fun j hj => absurd hj (by omega), hjas⟩, fun m hm => Or.inl (hid m hm)⟩, HL⟩⟩
      · simp only [wpX_activity, wpX_isSetting, sg_xT ga, sg_xT hx, sg_n1, sg_lits, sg_mA, sg_mB, sg_mC, sg_mD, sg_mE, sg_mF, Int32.reduceLT, Int32.reduceLE, forall_eq, true_and, and_true, true_implies, false_implies, not_true_eq_false, not_false_eq_true, implies_true]
        refine b1 _ ?_
        simp (disch := omega) only [sg_m3, sg_m3', sg_m4, sg_m4', sg_m6, sg_m6', sg_m7, sg_m7', sg_m200, sg_m200', nI_add, sg_a1, sg_a2, sg_a3, sg_a4, sg_a5, sg_a6, Int32.add_zero, sg_inT, nI_clamp, sg_lits, sg_mA, sg_mB, sg_mC, sg_mD, sg_mE, sg_mF, Int32.reduceLT, Int32.reduceLE, forall_eq, true_and, and_true, true_implies, false_implies, not_true_eq_false, not_false_eq_true, implies_true]
        exact h
      · simp only [wpY_activity, wY_activity_53, wY_activity_74, wY_activity_91, sg_yT ga, sg_yT gw, sg_yT hx, sg_lits, sg_mA, sg_mB, sg_mC, sg_mD, sg_mE, sg_mF, Int32.reduceLT, Int32.reduceLE, forall_eq, true_and, and_true, true_implies, false_implies, not_true_eq_false, not_false_eq_true, implies_true]
        refine b2 _ ?_
        simp (disch := omega) only [sg_m3, sg_m3', sg_m4, sg_m4', sg_m6, sg_m6', sg_m7, sg_m7', sg_m200, sg_m200', nI_add, sg_a1, sg_a2, sg_a3, sg_a4, sg_a5, sg_a6, Int32.add_zero, sg_inT, nI_clamp, sg_lits, sg_mA, sg_mB, sg_mC, sg_mD, sg_mE, sg_mF, Int32.reduceLT, Int32.reduceLE, forall_eq, true_and, and_true, true_implies, false_implies, not_true_eq_false, not_false_eq_true, implies_true]
        exact h
  · refine ⟨-1, _, _, fun P h => ?_, fun P h => ?_, I5⟩
    · simp only [wpX_activity, wpX_isSetting, sg_xT ga, sg_xF hx, sg_n0, sg_lits, sg_mA, sg_mB, sg_mC, sg_mD, sg_mE, sg_mF, Int32.reduceLT, Int32.reduceLE, forall_eq, true_and, and_true, true_implies, false_implies, not_true_eq_false, not_false_eq_true, implies_true]
      exact h
    · simp only [wpY_activity, wY_activity_53, wY_activity_74, wY_activity_91, sg_yT ga, sg_yT gw, sg_yF hx, sg_lits, sg_mA, sg_mB, sg_mC, sg_mD, sg_mE, sg_mF, Int32.reduceLT, Int32.reduceLE, forall_eq, true_and, and_true, true_implies, false_implies, not_true_eq_false, not_false_eq_true, implies_true]
      exact h
theorem sg_activity {k : Nat} {u : SX} {v : SY} (I : i_Rel k u v) (x y z : Int32) : sg_Act k x y z u v := by
  by_cases ga : sg_rg x 0 3
  · obtain ⟨a, _, ha, rfl⟩ := sg_rgN 0 3 (by omega) (by omega) ga
    rcases sg_rng y 6 (by decide) with h0 | ⟨h0, h2⟩ | ⟨j, hj, rfl⟩
    · have gw : ¬ sg_rg y 0 6 := fun q => q.1 h0
      refine ⟨-1, u, v, fun P h => ?_, fun P h => ?_, i_up I⟩
      · obtain ⟨xsc, xnow, xjc, xec, xse, xki, xpp, xqq, xrr, xst, xfs, xin, xtb, xaj, xat, xsd, xja, xev, xva, xha, xps, xpa, xpi, xct, xsn, xsv, xtk, xac, xji, xou, xen, xuw, xra, xea, xtj, xte⟩ := u
        simp only [wpX_activity, wpX_isSetting, sg_xT ga, h0, sg_lits, sg_mA, sg_mB, sg_mC, sg_mD, sg_mE, sg_mF, Int32.reduceLT, Int32.reduceLE, forall_eq, true_and, and_true, true_implies, false_implies, not_true_eq_false, not_false_eq_true, implies_true]
        exact h
      · obtain ⟨ysc, ynow, yjc, yec, yse, yss, yac, yji, yen, yho, ywh, ytj, yte, yst, ypl, ydn, yas, ywt, yun, yrs, yva, yha, ypa, ypi, yps, yso, ysv, yct⟩ := v
        simp only [wpY_activity, sg_yT ga, sg_yF gw, sg_lits, sg_mA, sg_mB, sg_mC, sg_mD, sg_mE, sg_mF, Int32.reduceLT, Int32.reduceLE, forall_eq, true_and, and_true, true_implies, false_implies, not_true_eq_false, not_false_eq_true, implies_true]
        exact h
    · have h2 : (6 : Int32) < y := h2
      have gw : ¬ sg_rg y 0 6 := fun q => q.2 h2
      refine ⟨-1, u, v, fun P h => ?_, fun P h => ?_, i_up I⟩
      · obtain ⟨xsc, xnow, xjc, xec, xse, xki, xpp, xqq, xrr, xst, xfs, xin, xtb, xaj, xat, xsd, xja, xev, xva, xha, xps, xpa, xpi, xct, xsn, xsv, xtk, xac, xji, xou, xen, xuw, xra, xea, xtj, xte⟩ := u
        simp only [wpX_activity, wpX_isSetting, sg_xT ga, h0, h2, sg_lits, sg_mA, sg_mB, sg_mC, sg_mD, sg_mE, sg_mF, Int32.reduceLT, Int32.reduceLE, forall_eq, true_and, and_true, true_implies, false_implies, not_true_eq_false, not_false_eq_true, implies_true]
        exact h
      · obtain ⟨ysc, ynow, yjc, yec, yse, yss, yac, yji, yen, yho, ywh, ytj, yte, yst, ypl, ydn, yas, ywt, yun, yrs, yva, yha, ypa, ypi, yps, yso, ysv, yct⟩ := v
        simp only [wpY_activity, sg_yT ga, sg_yF gw, sg_lits, sg_mA, sg_mB, sg_mC, sg_mD, sg_mE, sg_mF, Int32.reduceLT, Int32.reduceLE, forall_eq, true_and, and_true, true_implies, false_implies, not_true_eq_false, not_false_eq_true, implies_true]
        exact h
    · obtain rfl | rfl | rfl | rfl | rfl | rfl | rfl : j = 0 ∨ j = 1 ∨ j = 2 ∨ j = 3 ∨ j = 4 ∨ j = 5 ∨ j = 6 := by omega
      · exact sg_act0 I (by omega) z
      · exact sg_act1 I (by omega) z
      · exact sg_act2 I (by omega) z
      · exact sg_act3 I (by omega) z
      · exact sg_act4 I (by omega) z
      · exact sg_act5 I (by omega) z
      · exact sg_act6 I (by omega) z
  · refine ⟨-1, u, v, fun P h => ?_, fun P h => ?_, i_up I⟩
    · obtain ⟨xsc, xnow, xjc, xec, xse, xki, xpp, xqq, xrr, xst, xfs, xin, xtb, xaj, xat, xsd, xja, xev, xva, xha, xps, xpa, xpi, xct, xsn, xsv, xtk, xac, xji, xou, xen, xuw, xra, xea, xtj, xte⟩ := u
      simp only [wpX_activity, sg_xF ga, forall_eq, true_and, and_true, true_implies, false_implies, not_true_eq_false, not_false_eq_true, implies_true]
      exact h
    · obtain ⟨ysc, ynow, yjc, yec, yse, yss, yac, yji, yen, yho, ywh, ytj, yte, yst, ypl, ydn, yas, ywt, yun, yrs, yva, yha, ypa, ypi, yps, yso, ysv, yct⟩ := v
      simp only [wpY_activity, sg_yF ga, forall_eq, true_and, and_true, true_implies, false_implies, not_true_eq_false, not_false_eq_true, implies_true]
      exact h
theorem i_vc_activity {k : Nat} {u : SX} {v : SY} (I : i_Rel k u v) (hk : k + 5 ≤ 2560) (v1 : Int32) (v2 : Int32) (v3 : Int32) : wpX_activity (fun r u' => wpY_activity (fun r' v' => r' = r ∧ i_Rel (k + 5) u' v') v v1 v2 v3) u v1 v2 v3 := by
  obtain ⟨r, u', v', h1, h2, h3⟩ := sg_activity I v1 v2 v3
  exact h1 _ (h2 _ ⟨rfl, h3⟩)
end
