/-! the class's code comes to the reference's values -/
theorem eSeg_app (a b : List Int) : ∀ M : MS, eSeg (a ++ b) M = eSeg b (eSeg a M) := by
  induction a with
  | nil => intro M; rfl
  | cons e r ih =>
    intro M
    show (if M.2.2 = 0 then eSeg (r ++ b) (eEnt e M) else M) = eSeg b (if M.2.2 = 0 then eSeg r (eEnt e M) else M)
    by_cases q : M.2.2 = 0
    · rw [if_pos q, if_pos q, ih]
    · rw [if_neg q, if_neg q, eSeg_al q]
/-- c, begun over st0, leaves x's value over st, or x's alarm -/
def eVw (vs : Nat → Int) (c : List Int) (st0 st : List Int) (x : Nat × Int) : Prop := (x.1 = 0 → eSeg c (vs, st0, 0) = (vs, x.2 :: st, 0)) ∧ (¬ x.1 = 0 → (eSeg c (vs, st0, 0)).2.2 = x.1 ∧ (eSeg c (vs, st0, 0)).1 = vs)
theorem eVw_then {vs : Nat → Int} {c1 c2 st0 st st2 : List Int} {x : Nat × Int} {f : Int → Nat × Int} (h : eVw vs c1 st0 st x) (h2 : x.1 = 0 → eVw vs c2 (x.2 :: st) st2 (f x.2)) : eVw vs (c1 ++ c2) st0 st2 (xThen x f) := by
  obtain ⟨al, v⟩ := x
  unfold eVw
  rw [eSeg_app]
  by_cases q : al = 0
  · subst q
    rw [xThen_0, h.1 rfl]
    exact h2 rfl
  · rw [xThen_n q]
    have h3 := h.2 q
    have h4 : eSeg c2 (eSeg c1 (vs, st0, 0)) = eSeg c1 (vs, st0, 0) := eSeg_al (by rw [h3.1]; exact q)
    rw [h4]
    exact ⟨fun h => absurd h q, fun _ => h3⟩
theorem eSeg_1 (e : Int) (vs : Nat → Int) (st : List Int) : eSeg [e] (vs, st, 0) = eEnt e (vs, st, 0) := rfl
theorem mPush_lt {st : List Int} (h : st.length < 80) (x : Int) : mPush st x = x :: st := if_pos h
theorem eEnt_neg {k : Nat} (hk : 0 < k) (M : MS) : eEnt (-(k : Int)) M = eNeg k M := by
  unfold eEnt
  rw [if_neg (by omega), show (-(-(k : Int))).toNat = k by omega]
theorem eVw_lit {vs : Nat → Int} {st : List Int} (h : st.length < 80) (n : Nat) : eVw vs [(n : Int)] st st (0, (n : Int)) := by
  refine ⟨fun _ => ?_, fun h => absurd rfl h⟩
  rw [eSeg_1]
  unfold eEnt
  rw [if_pos (by omega)]
  show (vs, mPush st (n : Int), 0) = _
  rw [mPush_lt h]
theorem eVw_one {vs : Nat → Int} {st : List Int} (h : st.length < 80) {k : Nat} (hk : k = 1 ∨ k = 305 ∨ k = 306 ∨ k = 307 ∨ k = 308) (v : Int) : eVw vs [-(k : Int)] (v :: st) st (xOp1 k v) := by
  unfold eVw
  rw [eSeg_1, eEnt_neg (by omega)]
  unfold eNeg
  rw [if_pos hk]
  unfold eOne xOp1
  show (_ → (if k = 308 ∧ v < 0 then (vs, st, 1) else ePR (vOne k v) (vs, st, 0)) = _) ∧ (_ → (if k = 308 ∧ v < 0 then (vs, st, 1) else ePR (vOne k v) (vs, st, 0)).2.2 = _ ∧ (if k = 308 ∧ v < 0 then (vs, st, 1) else ePR (vOne k v) (vs, st, 0)).1 = vs)
  by_cases q : k = 308 ∧ v < 0
  · rw [if_pos q, if_pos q]
    exact ⟨fun h => absurd h (by decide), fun _ => ⟨rfl, rfl⟩⟩
  · rw [if_neg q, if_neg q]
    unfold ePR
    by_cases q2 : vTG (vOne k v) = true
    · rw [if_pos q2, if_pos q2]
      exact ⟨fun h => absurd h (by decide), fun _ => ⟨rfl, rfl⟩⟩
    · rw [if_neg q2, if_neg q2]
      refine ⟨fun _ => ?_, fun h => absurd rfl h⟩
      show (vs, mPush st _, 0) = _
      rw [mPush_lt h]
theorem eVw_two {vs : Nat → Int} {st : List Int} (h : st.length < 80) {k : Nat} (h1 : ¬ (k = 1 ∨ k = 305 ∨ k = 306 ∨ k = 307 ∨ k = 308)) (h2 : ¬ k = 2) (h3 : ¬ k = 3) (h4 : ¬ k = 4) (h0 : 0 < k) (v u : Int) : eVw vs [-(k : Int)] (u :: v :: st) st (xOp2 k v u) := by
  unfold eVw
  rw [eSeg_1, eEnt_neg h0]
  unfold eNeg
  rw [if_neg h1, if_neg h2, if_neg h3, if_neg h4]
  unfold eTwo xOp2
  show (_ → (if u = 0 ∧ (k = 47 ∨ k = 309) then (vs, st, 1) else ePR (vTwo k v u) (vs, st, 0)) = _) ∧ (_ → (if u = 0 ∧ (k = 47 ∨ k = 309) then (vs, st, 1) else ePR (vTwo k v u) (vs, st, 0)).2.2 = _ ∧ (if u = 0 ∧ (k = 47 ∨ k = 309) then (vs, st, 1) else ePR (vTwo k v u) (vs, st, 0)).1 = vs)
  by_cases q : u = 0 ∧ (k = 47 ∨ k = 309)
  · rw [if_pos q, if_pos q]
    exact ⟨fun h => absurd h (by decide), fun _ => ⟨rfl, rfl⟩⟩
  · rw [if_neg q, if_neg q]
    unfold ePR
    by_cases q2 : vTG (vTwo k v u) = true
    · rw [if_pos q2, if_pos q2]
      exact ⟨fun h => absurd h (by decide), fun _ => ⟨rfl, rfl⟩⟩
    · rw [if_neg q2, if_neg q2]
      refine ⟨fun _ => ?_, fun h => absurd rfl h⟩
      show (vs, mPush st _, 0) = _
      rw [mPush_lt h]
theorem eVw_load {vs : Nat → Int} {st : List Int} (h : st.length < 80) (v : Int) : eVw vs [-((2 : Nat) : Int)] (v :: st) st (xThen (xCk v) (fun n => (0, vs n.toNat))) := by
  unfold eVw
  rw [eSeg_1, eEnt_neg (by decide)]
  unfold eNeg
  rw [if_neg (by decide), if_pos rfl]
  show (_ → (vs, mPush st (mGet vs (cPn v)), cPa v 0) = _) ∧ (_ → (vs, mPush st (mGet vs (cPn v)), cPa v 0).2.2 = _ ∧ _)
  unfold xCk cPn cPa
  by_cases q : v.tdiv 1000 * 1000 = v ∧ isV (v.tdiv 1000) = true
  · rw [if_pos q, if_pos q, if_pos q, xThen_0]
    refine ⟨fun _ => ?_, fun h => absurd rfl h⟩
    rw [mPush_lt h, show mGet vs (v.tdiv 1000) = vs (v.tdiv 1000).toNat from if_pos q.2]
  · rw [if_neg q, if_neg q, if_neg q, xThen_n (by decide)]
    exact ⟨fun h => absurd h (by decide), fun _ => ⟨rfl, rfl⟩⟩
theorem eVw_chk {vs : Nat → Int} {st : List Int} (h : st.length < 80) (v : Int) : eVw vs [-((3 : Nat) : Int)] (v :: st) st (xCk v) := by
  unfold eVw
  rw [eSeg_1, eEnt_neg (by decide)]
  unfold eNeg
  rw [if_neg (by decide), if_neg (by decide), if_pos rfl]
  show (_ → (vs, mPush st (cPn v), cPa v 0) = _) ∧ (_ → (vs, mPush st (cPn v), cPa v 0).2.2 = _ ∧ _)
  unfold xCk cPn cPa
  by_cases q : v.tdiv 1000 * 1000 = v ∧ isV (v.tdiv 1000) = true
  · rw [if_pos q, if_pos q, if_pos q]
    refine ⟨fun _ => ?_, fun h => absurd rfl h⟩
    rw [mPush_lt h]
  · rw [if_neg q, if_neg q, if_neg q]
    exact ⟨fun h => absurd h (by decide), fun _ => ⟨rfl, rfl⟩⟩
/-- a part's code has the part's value, where there is room for h values more -/
def EVf (tk : Nat → List Nat) (vs : Nat → Int) (h : Nat) (g : Nat → List Int → Bool × Nat × List Int) (q : Nat → Bool × Nat) (x : Nat → Nat × Int) : Prop := ∀ (a : Nat), a + 1 ≤ (tk 0).length → (q a).1 = true → ∀ st : List Int, st.length + h ≤ 80 → eVw vs (g a []).2.2 st st (x a)
theorem cod_then {x : Bool × Nat × List Int} {f : Nat → List Int → Bool × Nat × List Int} (hf : Uni f) (h : x.1 = true) : (pThen x f).2.2 = x.2.2 ++ (f x.2.1 []).2.2 := by
  unfold pThen
  rw [if_pos h, hf x.2.1 x.2.2]
theorem cod_wr {x : Bool × Nat × List Int} (k : Nat) (h : x.1 = true) : (pThen x (pWr k)).2.2 = x.2.2 ++ [-(k : Int)] := by
  unfold pThen
  rw [if_pos h]
  rfl
theorem wr_1 {x : Bool × Nat × List Int} (k : Nat) : (pThen x (pWr k)).1 = x.1 ∧ (pThen x (pWr k)).2.1 = x.2.1 := by
  unfold pThen
  split
  · rename_i q; exact ⟨q.symm, rfl⟩
  · exact ⟨rfl, rfl⟩
theorem xloop_fuel {tk : Nat → List Nat} (hE : tE tk) {jn : Nat → Bool} (hn : ∀ c, jn c = true → ¬ c = 0 ∧ ¬ c = 10) {q : Nat → Bool × Nat} (hq : qB tk q) (x : Nat → Nat × Int) : ∀ (n n2 a : Nat) (v : Int), (tk 0).length ≤ n + a + 1 → (tk 0).length ≤ n2 + a + 1 → xLoop tk jn q x n a v = xLoop tk jn q x n2 a v
  | 0, 0, a, v, _, _ => rfl
  | 0, n2 + 1, a, v, h, _ => by
    show (0, v) = (if _ then _ else _)
    rw [if_neg]
    intro z
    have := hE.lt (hn _ z).1 (hn _ z).2
    omega
  | n + 1, 0, a, v, _, h => by
    show (if _ then _ else _) = (0, v)
    rw [if_neg]
    intro z
    have := hE.lt (hn _ z).1 (hn _ z).2
    omega
  | n + 1, n2 + 1, a, v, h, h2 => by
    show (if _ then _ else _) = (if _ then _ else _)
    split
    · rename_i z
      have hl := hE.lt (hn _ z).1 (hn _ z).2
      have hb := (hq (a + 1) (by omega)).1
      have e : ∀ w, xLoop tk jn q x n (q (a + 1)).2 w = xLoop tk jn q x n2 (q (a + 1)).2 w := fun w => xloop_fuel hE hn hq x n n2 _ w (by omega) (by omega)
      rw [funext e]
    · rfl
theorem ev_loop {tk : Nat → List Nat} (hE : tE tk) {jn : Nat → Bool} (hn : ∀ c, jn c = true → ¬ c = 0 ∧ ¬ c = 10) (hn2 : ∀ c, jn c = true → 10 < c ∧ ¬ (c = 305 ∨ c = 306 ∨ c = 307 ∨ c = 308)) {vs : Nat → Int} {h : Nat} {g : Nat → List Int → Bool × Nat × List Int} {q : Nat → Bool × Nat} {x : Nat → Nat × Int} (hq : qB tk q) (hg : PQ tk g q) (hu : Uni g) (hx : EVf tk vs h g q x) :
    ∀ (n a : Nat), a + 1 ≤ (tk 0).length → (qLoop tk jn q n a).1 = true → ∀ (v : Int) (st : List Int), st.length + (1 + h) ≤ 80 → 1 ≤ h → eVw vs (pLoop tk jn g n a []).2.2 (v :: st) st (xLoop tk jn q x n a v)
  | 0, a, _, _, v, st, _, _ => ⟨fun _ => rfl, fun z => absurd rfl z⟩
  | n + 1, a, ha, hok, v, st, hst, hh => by
    by_cases z : jn ((tk 0).getD a 0) = true
    · have hl := hE.lt (hn _ z).1 (hn _ z).2
      have ek : qLoop tk jn q (n + 1) a = qThen (q (a + 1)) (qLoop tk jn q n) := if_pos z
      rw [ek] at hok
      obtain ⟨k1, k2, -⟩ := qThen_ok hok
      have hp := hg (a + 1) [] (by omega)
      have hb := hq (a + 1) (by omega)
      have e1 : (pLoop tk jn g (n + 1) a []) = pThen (pThen (g (a + 1) []) (pWr ((tk 0).getD a 0))) (pLoop tk jn g n) := if_pos z
      have e2 : xLoop tk jn q x (n + 1) a v = xThen (x (a + 1)) (fun u => xThen (xOp2 ((tk 0).getD a 0) v u) (xLoop tk jn q x n (q (a + 1)).2)) := if_pos z
      have hw := wr_1 (x := g (a + 1) []) ((tk 0).getD a 0)
      have hg1 : (g (a + 1) []).1 = true := by rw [hp.1]; exact k1
      rw [e1, e2, cod_then (uni_loop tk jn hu n) (by rw [hw.1]; exact hg1), cod_wr _ hg1, hw.2, hp.2, List.append_assoc]
      refine eVw_then (hx (a + 1) (by omega) k1 (v :: st) (by show st.length + 1 + h ≤ 80; omega)) (fun _ => ?_)
      have hj := hn2 _ z
      exact eVw_then (eVw_two (by omega) (by omega) (by omega) (by omega) (by omega) (by omega) v _) (fun _ => ev_loop hE hn hn2 hq hg hu hx n _ (by omega) k2 _ st hst hh)
    · have e1 : (pLoop tk jn g (n + 1) a []) = (true, a, []) := if_neg z
      have e2 : xLoop tk jn q x (n + 1) a v = (0, v) := if_neg z
      rw [e1, e2]
      exact ⟨fun _ => rfl, fun z => absurd rfl z⟩
theorem jnP_y {c : Nat} (h : jnP c = true) : 10 < c ∧ ¬ (c = 305 ∨ c = 306 ∨ c = 307 ∨ c = 308) := by have := of_decide_eq_true h; omega
theorem jnF_y {c : Nat} (h : jnF c = true) : 10 < c ∧ ¬ (c = 305 ∨ c = 306 ∨ c = 307 ∨ c = 308) := by have := of_decide_eq_true h; omega
theorem ev_seq {tk : Nat → List Nat} (hE : tE tk) (hL : (tk 0).length ≤ 8001) {N : Nat} (hN : (tk 0).length ≤ N) {jn : Nat → Bool} (hn : ∀ c, jn c = true → ¬ c = 0 ∧ ¬ c = 10) (hn2 : ∀ c, jn c = true → 10 < c ∧ ¬ (c = 305 ∨ c = 306 ∨ c = 307 ∨ c = 308)) {vs : Nat → Int} {h : Nat} {g : Nat → List Int → Bool × Nat × List Int} {q : Nat → Bool × Nat} {x : Nat → Nat × Int} (hh : 1 ≤ h) (hq : qB tk q) (hg : PQ tk g q) (hu : Uni g) (hx : EVf tk vs h g q x) : EVf tk vs (1 + h) (pSeq tk jn g) (qSeq tk N jn q) (xSeq tk N jn q x) := by
  intro a ha hok st hst
  obtain ⟨k1, k2, -⟩ := qThen_ok (show (qThen (q a) (qLoop tk jn q N)).1 = true from hok)
  have hp := hg a [] ha
  have hb := hq a ha
  rw [qloop_fuel hE hn hq N 8000 (q a).2 (by omega) (by omega)] at k2
  have e2 : xSeq tk N jn q x a = xThen (x a) (xLoop tk jn q x 8000 (q a).2) := by
    unfold xSeq
    rw [funext (fun v => xloop_fuel hE hn hq x N 8000 (q a).2 v (by omega) (by omega))]
  have hg1 : (g a []).1 = true := by rw [hp.1]; exact k1
  rw [e2]
  show eVw vs (pThen (g a []) (pLoop tk jn g 8000)).2.2 st st _
  rw [cod_then (uni_loop tk jn hu 8000) hg1, hp.2]
  exact eVw_then (hx a ha k1 st (by omega)) (fun _ => ev_loop hE hn hn2 hq hg hu hx 8000 _ hb.2 k2 _ st hst hh)
theorem ev_te {tk : Nat → List Nat} (hE : tE tk) {vs : Nat → Int} {h : Nat} {g : Nat → List Int → Bool × Nat × List Int} {q : Nat → Bool × Nat} {x : Nat → Nat × Int} (hh : 1 ≤ h) (hq : qB tk q) (hg : PQ tk g q) (hu : Uni g) (hx : EVf tk vs h g q x) : EVf tk vs (1 + h) (pTe tk g) (qTe tk q) (xTe tk q x) := by
  intro a ha hok st hst
  obtain ⟨k1, k2, -⟩ := qThen_ok (show (qThen (q a) _).1 = true from hok)
  have hp := hg a [] ha
  have hb := hq a ha
  have hg1 : (g a []).1 = true := by rw [hp.1]; exact k1
  unfold pTe xTe
  have hu2 : Uni (fun a co => if 313 ≤ (tk 0).getD a 0 ∧ (tk 0).getD a 0 ≤ 318 then pThen (g (a + 1) co) (pWr ((tk 0).getD a 0)) else (true, a, co)) := fun a => uni_if (uni_then (hu (a + 1)) (uni_wr _)) (uni_id true a)
  rw [cod_then hu2 hg1, hp.2]
  refine eVw_then (hx a ha k1 st (by omega)) (fun _ => ?_)
  by_cases z : 313 ≤ (tk 0).getD (q a).2 0 ∧ (tk 0).getD (q a).2 0 ≤ 318
  · rw [if_pos z] at k2 ⊢
    rw [if_pos z]
    have hl := hE.lt (a := (q a).2) (by omega) (by omega)
    have hp2 := hg ((q a).2 + 1) [] (by omega)
    rw [cod_wr _ (by rw [hp2.1]; exact k2)]
    refine eVw_then (hx _ (by omega) k2 (_ :: st) (by show st.length + 1 + h ≤ 80; omega)) (fun _ => ?_)
    exact eVw_two (by omega) (by omega) (by omega) (by omega) (by omega) (by omega) _ _
  · rw [if_neg z, if_neg z]
    exact ⟨fun _ => rfl, fun z => absurd rfl z⟩
/-- of a bracket: the [ stands at a -/
theorem ev_br {tk : Nat → List Nat} {vs : Nat → Int} {h : Nat} {g : Nat → List Int → Bool × Nat × List Int} {q : Nat → Bool × Nat} {x : Nat → Nat × Int} (hE : tE tk) (hg : PQ tk g q) (hu : Uni g) (hx : EVf tk vs h g q x) : EVf tk vs h (pBr tk g) (qBr tk q) (fun a => x (a + 1)) := by
  intro a ha hok st hst
  obtain ⟨k1, k2, -⟩ := qThen_ok (show (qThen (qThen (qTake tk 91 a) q) (qTake tk 93)).1 = true from hok)
  obtain ⟨k3, k4, k5⟩ := qThen_ok k1
  have ht := qTake_ok k3
  have hl := hE.lt (a := a) (by omega) (by omega)
  rw [ht.2] at k4 k5
  have e1 : pTake tk 91 a [] = (true, a + 1, []) := if_pos ht.1
  have hp := hg (a + 1) [] (by omega)
  have e2 : pBr tk g a [] = pThen (g (a + 1) []) (pTake tk 93) := by
    unfold pBr
    rw [e1]
    rfl
  have e3 : (pTake tk 93 (g (a + 1) []).2.1 []).2.2 = [] := by
    unfold pTake
    split <;> rfl
  rw [e2, cod_then (uni_take tk 93) (by rw [hp.1]; exact k4), e3, List.append_nil]
  exact hx (a + 1) (by omega) k4 st hst
theorem ev_pn {tk : Nat → List Nat} {vs : Nat → Int} {h r N : Nat} (hh : 1 ≤ h) {x : Nat → Nat × Int} (hg : EVf tk vs h (pBra tk r) (qBra tk N r) x) {a : Nat} (ha : a + 1 ≤ (tk 0).length) (hok : (qPl tk (qBra tk N r) a).1 = true) {st : List Int} (hst : st.length + h ≤ 80) : eVw vs (pPl tk (pBra tk r) a []).2.2 st st (xPv tk x a) := by
  rcases qPl_ok hok with ⟨h1, h2, h3⟩ | ⟨h1, h2⟩
  · unfold pPl xPv
    rw [if_neg (by omega), if_pos h1]
    exact hg a ha h2 st hst
  · unfold pPl xPv
    rw [if_pos h1, if_neg (by omega)]
    exact eVw_lit (by omega) _
theorem ev_fac {tk : Nat → List Nat} (hE : tE tk) (hL : (tk 0).length ≤ 8001) {N : Nat} (hN : (tk 0).length ≤ N) (vs : Nat → Int) : ∀ r : Nat, EVf tk vs (1 + 3 * r) (pFac tk r) (qFac tk N r) (xFac tk N vs r) ∧ EVf tk vs (1 + 3 * r) (pBra tk r) (qBra tk N r) (xBra tk N vs r)
  | r => by
    have hB : EVf tk vs (1 + 3 * r) (pBra tk r) (qBra tk N r) (xBra tk N vs r) := by
      cases r with
      | zero => intro a ha hok; exact absurd hok (by show ¬ false = true; decide)
      | succ r =>
        have hF := (ev_fac hE hL hN vs r).1
        have hS := ev_seq hE hL hN (fun _ => jnP_x) (fun _ => jnP_y) (by omega) (qb_seq hE (fun _ => jnF_x) (qb_fac hE N r) N) (pq_seq hE hL hN (fun _ => jnF_x) (qb_fac hE N r) (pq_fac hE hL hN r)) (uni_seq tk jnF (uni_fac tk r)) (ev_seq hE hL hN (fun _ => jnF_x) (fun _ => jnF_y) (by omega) (qb_fac hE N r) (pq_fac hE hL hN r) (uni_fac tk r) hF)
        have hT := ev_te hE (by omega) (qb_sum hE N r) (pq_sum hE hL hN r) (uni_sum tk r) hS
        have hBr := ev_br hE (pq_te hE (qb_sum hE N r) (pq_sum hE hL hN r)) (uni_te tk (uni_sum tk r)) hT
        intro a ha hok st hst
        exact hBr a ha hok st (by omega)
    refine ⟨?_, hB⟩
    intro a ha hok st hst
    rw [pFac_eq]
    rcases qFac_ok hok with ⟨c, r2, hr2, k1, -⟩ | ⟨c1, c2, k1, -⟩ | ⟨c1, c2, k1, -⟩
    · subst hr2
      have hl := hE.lt (a := a) (by omega) (by omega)
      have hF := (ev_fac hE hL hN vs r2).1
      have hp := pq_fac hE hL hN r2 (a + 1) [] (by omega)
      unfold pFw
      rw [if_pos c, xFac_m c]
      show eVw vs (pThen (pFac tk r2 (a + 1) []) (pWr 1)).2.2 st st _
      rw [cod_wr _ (by rw [hp.1]; exact k1)]
      exact eVw_then (hF (a + 1) (by omega) k1 st (by omega)) (fun _ => eVw_one (by omega) (Or.inl rfl) _)
    · have hl := hE.lt (a := a) (by omega) (by omega)
      have hp := pq_bra hE hL hN r (a + 1) [] (by omega)
      unfold pFw
      rw [if_neg (by omega), if_pos (by omega), xFac_f ⟨c1, c2⟩, cod_wr _ (by rw [hp.1]; exact k1)]
      exact eVw_then (hB (a + 1) (by omega) k1 st (by omega)) (fun _ => eVw_one (by omega) (by omega) _)
    · rw [xFac_i c1 (by omega) k1]
      unfold pFw xIt
      rw [if_neg c1, if_neg (by omega)]
      by_cases c3 : (tk 0).getD a 0 = 35
      · have hl := hE.lt (a := a) (by omega) (by omega)
        rw [if_pos c3, if_pos c3]
        rw [qItm_p c3] at k1
        have k2 : (qPl tk (qBra tk N r) (a + 1)).1 = true := k1
        have hp := pq_pl (pq_bra hE hL hN r) (a + 1) [] (by omega)
        rw [cod_wr _ (by rw [hp.1]; exact k2)]
        have hv := ev_pn (by omega) hB (by omega) k2 hst
        have e : xThen (xVa tk N vs r a) (fun n => (0, vs n.toNat)) = xThen (xPv tk (xBra tk N vs r) (a + 1)) (fun v => xThen (xCk v) (fun n => (0, vs n.toNat))) := by
          unfold xVa xPn
          generalize xPv tk (xBra tk N vs r) (a + 1) = y
          obtain ⟨al, v⟩ := y
          by_cases q : al = 0
          · subst q; rw [xThen_0, xThen_0]
          · rw [xThen_n q, xThen_n q, xThen_n q]
        rw [e]
        exact eVw_then hv (fun _ => eVw_load (by omega) _)
      · rw [if_neg c3, if_neg c3]
        by_cases c4 : (tk 0).getD a 0 = 91
        · rw [if_neg (by omega), if_pos c4]
          rw [qItm_b c4] at k1
          exact hB a ha k1 st (by omega)
        · obtain ⟨k2, -⟩ := qItm_w k1 c3 c4
          rw [if_pos k2, if_neg c4]
          exact eVw_lit (by omega) _
theorem ev_sum {tk : Nat → List Nat} (hE : tE tk) (hL : (tk 0).length ≤ 8001) {N : Nat} (hN : (tk 0).length ≤ N) (vs : Nat → Int) (r : Nat) : EVf tk vs (1 + (1 + (1 + 3 * r))) (pSeq tk jnP (pSeq tk jnF (pFac tk r))) (qSum tk N r) (xSum tk N vs r) := ev_seq hE hL hN (fun _ => jnP_x) (fun _ => jnP_y) (by omega) (qb_seq hE (fun _ => jnF_x) (qb_fac hE N r) N) (pq_seq hE hL hN (fun _ => jnF_x) (qb_fac hE N r) (pq_fac hE hL hN r)) (uni_seq tk jnF (uni_fac tk r)) (ev_seq hE hL hN (fun _ => jnF_x) (fun _ => jnF_y) (by omega) (qb_fac hE N r) (pq_fac hE hL hN r) (uni_fac tk r) (ev_fac hE hL hN vs r).1)
