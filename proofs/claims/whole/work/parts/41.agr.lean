/-! the class's parse and the reference's go the same way -/
def PX2 (x : Bool × Nat × List Int) (y : Bool × Nat) : Prop := x.1 = y.1 ∧ x.2.1 = y.2
def PQ (tk : Nat → List Nat) (g : Nat → List Int → Bool × Nat × List Int) (h : Nat → Bool × Nat) : Prop := ∀ (a : Nat) (co : List Int), a + 1 ≤ (tk 0).length → PX2 (g a co) (h a)
theorem pq_then {tk : Nat → List Nat} {x : Bool × Nat × List Int} {y : Bool × Nat} (h : PX2 x y) (hy : y.2 + 1 ≤ (tk 0).length) {g : Nat → List Int → Bool × Nat × List Int} {f : Nat → Bool × Nat} (hg : PQ tk g f) : PX2 (pThen x g) (qThen y f) := by
  obtain ⟨b, i, c⟩ := x
  obtain ⟨b2, i2⟩ := y
  obtain ⟨h1, h2⟩ := h
  dsimp only at h1 h2 hy
  subst h1; subst h2
  cases b with
  | false => exact ⟨rfl, rfl⟩
  | true => exact hg i c hy
theorem pq_wr {x : Bool × Nat × List Int} {y : Bool × Nat} (h : PX2 x y) (k : Nat) : PX2 (pThen x (pWr k)) y := by
  obtain ⟨b, i, c⟩ := x
  cases b with
  | false => exact h
  | true => exact h
theorem pq_take (tk : Nat → List Nat) (k : Nat) : PQ tk (pTake tk k) (qTake tk k) := by
  intro a co _
  unfold pTake qTake
  split
  · exact ⟨rfl, rfl⟩
  · exact ⟨rfl, rfl⟩
theorem qloop_fuel {tk : Nat → List Nat} (hE : tE tk) {jn : Nat → Bool} (hn : ∀ c, jn c = true → ¬ c = 0 ∧ ¬ c = 10) {f : Nat → Bool × Nat} (hf : qB tk f) : ∀ (n n2 a : Nat), (tk 0).length ≤ n + a + 1 → (tk 0).length ≤ n2 + a + 1 → qLoop tk jn f n a = qLoop tk jn f n2 a
  | 0, 0, a, _, _ => rfl
  | 0, n2 + 1, a, h, _ => by
    show (true, a) = (if _ then _ else _)
    rw [if_neg]
    intro q
    have := hE.lt (hn _ q).1 (hn _ q).2
    omega
  | n + 1, 0, a, _, h => by
    show (if _ then _ else _) = (true, a)
    rw [if_neg]
    intro q
    have := hE.lt (hn _ q).1 (hn _ q).2
    omega
  | n + 1, n2 + 1, a, h, h2 => by
    show (if _ then _ else _) = (if _ then _ else _)
    split
    · rename_i q
      have hb := qb_step hE (hn _ q).1 (hn _ q).2 hf
      have hl := hE.lt (hn _ q).1 (hn _ q).2
      have hb2 := hf (a + 1) (by omega)
      generalize f (a + 1) = y at *
      obtain ⟨b, i⟩ := y
      cases b with
      | false => rfl
      | true => exact qloop_fuel hE hn hf n n2 i (by dsimp only at hb2; omega) (by dsimp only at hb2; omega)
    · rfl
theorem pq_loop {tk : Nat → List Nat} (hE : tE tk) {jn : Nat → Bool} (hn : ∀ c, jn c = true → ¬ c = 0 ∧ ¬ c = 10) {g : Nat → List Int → Bool × Nat × List Int} {f : Nat → Bool × Nat} (hf : qB tk f) (hg : PQ tk g f) : ∀ n : Nat, PQ tk (pLoop tk jn g n) (qLoop tk jn f n)
  | 0 => fun a co _ => ⟨rfl, rfl⟩
  | n + 1 => fun a co ha => by
    show PX2 (if _ then _ else _) (if _ then _ else _)
    split
    · rename_i q
      have hl := hE.lt (hn _ q).1 (hn _ q).2
      exact pq_then (pq_wr (hg (a + 1) co (by omega)) _) (hf (a + 1) (by omega)).2 (pq_loop hE hn hf hg n)
    · exact ⟨rfl, rfl⟩
theorem pq_seq {tk : Nat → List Nat} (hE : tE tk) (hL : (tk 0).length ≤ 8001) {N : Nat} (hN : (tk 0).length ≤ N) {jn : Nat → Bool} (hn : ∀ c, jn c = true → ¬ c = 0 ∧ ¬ c = 10) {g : Nat → List Int → Bool × Nat × List Int} {f : Nat → Bool × Nat} (hf : qB tk f) (hg : PQ tk g f) : PQ tk (pSeq tk jn g) (qSeq tk N jn f) := by
  intro a co ha
  have e : ∀ i, qLoop tk jn f N i = qLoop tk jn f 8000 i := fun i => qloop_fuel hE hn hf N 8000 i (by omega) (by omega)
  have e2 : qSeq tk N jn f a = qSeq tk 8000 jn f a := by
    unfold qSeq qThen
    rw [e]
  rw [e2]
  exact pq_then (hg a co ha) (hf a ha).2 (pq_loop hE hn hf hg 8000)
theorem pq_te {tk : Nat → List Nat} (hE : tE tk) {g : Nat → List Int → Bool × Nat × List Int} {f : Nat → Bool × Nat} (hf : qB tk f) (hg : PQ tk g f) : PQ tk (pTe tk g) (qTe tk f) := by
  intro a co ha
  refine pq_then (hg a co ha) (hf a ha).2 (fun a co ha => ?_)
  show PX2 (if _ then _ else _) (if _ then _ else _)
  split
  · have hl := hE.lt (a := a) (by omega) (by omega)
    exact pq_wr (hg (a + 1) co (by omega)) _
  · exact ⟨rfl, rfl⟩
theorem pq_br {tk : Nat → List Nat} (hE : tE tk) {g : Nat → List Int → Bool × Nat × List Int} {f : Nat → Bool × Nat} (hf : qB tk f) (hg : PQ tk g f) : PQ tk (pBr tk g) (qBr tk f) := by
  intro a co ha
  have h1 := qb_take hE (k := 91) (by decide) (by decide) a ha
  exact pq_then (pq_then (pq_take tk 91 a co ha) h1.2 hg) (qb_then h1 hf).2 (pq_take tk 93)
theorem pq_pl {tk : Nat → List Nat} {g : Nat → List Int → Bool × Nat × List Int} {f : Nat → Bool × Nat} (hg : PQ tk g f) : PQ tk (pPl tk g) (qPl tk f) := by
  intro a co ha
  unfold pPl qPl
  split
  · exact ⟨rfl, rfl⟩
  · exact hg a co ha
theorem pq_fw {tk : Nat → List Nat} (hE : tE tk) {n1 b1 : Nat → List Int → Bool × Nat × List Int} {n2 b2 : Nat → Bool × Nat} (hn : ∀ (a : Nat) (co : List Int), (tk 0).getD a 0 = 45 → PX2 (n1 a co) (n2 a)) (hb : PQ tk b1 b2) : PQ tk (pFw tk n1 b1) (qFw tk n2 b2) := by
  intro a co ha
  unfold pFw qFw
  split
  · rename_i q; exact hn a co q
  · split
    · have hl := hE.lt (a := a) (by omega) (by omega)
      exact pq_wr (hb (a + 1) co (by omega)) _
    · split
      · have hl := hE.lt (a := a) (by omega) (by omega)
        exact pq_wr (pq_pl hb (a + 1) co (by omega)) _
      · split
        · exact ⟨rfl, rfl⟩
        · exact hb a co ha
theorem pq_no (tk : Nat → List Nat) : PQ tk pNo qNo := fun _ _ _ => ⟨rfl, rfl⟩
theorem pq_fac {tk : Nat → List Nat} (hE : tE tk) (hL : (tk 0).length ≤ 8001) {N : Nat} (hN : (tk 0).length ≤ N) : ∀ r : Nat, PQ tk (pFac tk r) (qFac tk N r)
  | 0 => pq_fw hE (fun _ _ _ => ⟨rfl, rfl⟩) (pq_no tk)
  | r + 1 => pq_fw hE (fun a co q => by
      have hl := hE.lt (a := a) (by omega) (by omega)
      exact pq_wr (pq_fac hE hL hN r (a + 1) co (by omega)) 1)
      (pq_br hE (qb_te hE (qb_sum hE N r)) (pq_te hE (qb_sum hE N r) (pq_seq hE hL hN (fun _ => jnP_x) (qb_seq hE (fun _ => jnF_x) (qb_fac hE N r) N) (pq_seq hE hL hN (fun _ => jnF_x) (qb_fac hE N r) (pq_fac hE hL hN r)))))
theorem pq_bra {tk : Nat → List Nat} (hE : tE tk) (hL : (tk 0).length ≤ 8001) {N : Nat} (hN : (tk 0).length ≤ N) : ∀ r : Nat, PQ tk (pBra tk r) (qBra tk N r)
  | 0 => pq_no tk
  | r + 1 => pq_br hE (qb_te hE (qb_sum hE N r)) (pq_te hE (qb_sum hE N r) (pq_seq hE hL hN (fun _ => jnP_x) (qb_seq hE (fun _ => jnF_x) (qb_fac hE N r) N) (pq_seq hE hL hN (fun _ => jnF_x) (qb_fac hE N r) (pq_fac hE hL hN r))))
theorem pq_sum {tk : Nat → List Nat} (hE : tE tk) (hL : (tk 0).length ≤ 8001) {N : Nat} (hN : (tk 0).length ≤ N) (r : Nat) : PQ tk (pSeq tk jnP (pSeq tk jnF (pFac tk r))) (qSum tk N r) := pq_seq hE hL hN (fun _ => jnP_x) (qb_seq hE (fun _ => jnF_x) (qb_fac hE N r) N) (pq_seq hE hL hN (fun _ => jnF_x) (qb_fac hE N r) (pq_fac hE hL hN r))
/-! two streams of tokens that are the same below m -/
def Agr (m : Nat) (y z : Bool × Nat) : Prop := (y = z ∧ y.2 < m) ∨ (m ≤ y.2 ∧ m ≤ z.2)
def AgF (m : Nat) (f g : Nat → Bool × Nat) : Prop := ∀ a, Agr m (f a) (g a)
def qM (f : Nat → Bool × Nat) : Prop := ∀ a, a ≤ (f a).2
def tkS (m : Nat) (tk tk2 : Nat → List Nat) : Prop := ∀ i, i < m → (tk 0).getD i 0 = (tk2 0).getD i 0
theorem qm_then {x : Bool × Nat} {a : Nat} (h : a ≤ x.2) {f : Nat → Bool × Nat} (hf : qM f) : a ≤ (qThen x f).2 := by
  unfold qThen
  split
  · exact Nat.le_trans h (hf _)
  · exact h
theorem qm_take (tk : Nat → List Nat) (k : Nat) : qM (qTake tk k) := fun a => by
  unfold qTake
  split
  · exact Nat.le_succ a
  · exact Nat.le_refl a
theorem qm_loop (tk : Nat → List Nat) (jn : Nat → Bool) {f : Nat → Bool × Nat} (hf : qM f) : ∀ n, qM (qLoop tk jn f n)
  | 0 => fun a => Nat.le_refl a
  | n + 1 => fun a => by
    show a ≤ (if _ then _ else _ : Bool × Nat).2
    split
    · exact qm_then (Nat.le_trans (Nat.le_succ a) (hf (a + 1))) (qm_loop tk jn hf n)
    · exact Nat.le_refl a
theorem qm_seq (tk : Nat → List Nat) (N : Nat) (jn : Nat → Bool) {f : Nat → Bool × Nat} (hf : qM f) : qM (qSeq tk N jn f) := fun a => qm_then (hf a) (qm_loop tk jn hf N)
theorem qm_te (tk : Nat → List Nat) {f : Nat → Bool × Nat} (hf : qM f) : qM (qTe tk f) := fun a => qm_then (hf a) (fun a => by
  show a ≤ (if _ then _ else _ : Bool × Nat).2
  split
  · exact Nat.le_trans (Nat.le_succ a) (hf (a + 1))
  · exact Nat.le_refl a)
theorem qm_br (tk : Nat → List Nat) {f : Nat → Bool × Nat} (hf : qM f) : qM (qBr tk f) := fun a => qm_then (qm_then (qm_take tk 91 a) hf) (qm_take tk 93)
theorem qm_pl (tk : Nat → List Nat) {f : Nat → Bool × Nat} (hf : qM f) : qM (qPl tk f) := fun a => by
  unfold qPl
  split
  · exact Nat.le_succ a
  · exact hf a
theorem qm_no : qM qNo := fun a => Nat.le_refl a
theorem qm_fw (tk : Nat → List Nat) {n b : Nat → Bool × Nat} (hn : qM n) (hb : qM b) : qM (qFw tk n b) := fun a => by
  unfold qFw
  split
  · exact hn a
  · split
    · exact Nat.le_trans (Nat.le_succ a) (hb (a + 1))
    · split
      · exact Nat.le_trans (Nat.le_succ a) (qm_pl tk hb (a + 1))
      · split
        · exact Nat.le_succ a
        · exact hb a
theorem qm_fac (tk : Nat → List Nat) (N : Nat) : ∀ r, qM (qFac tk N r)
  | 0 => qm_fw tk qm_no qm_no
  | r + 1 => qm_fw tk (fun a => Nat.le_trans (Nat.le_succ a) (qm_fac tk N r (a + 1))) (qm_br tk (qm_te tk (qm_seq tk N jnP (qm_seq tk N jnF (qm_fac tk N r)))))
theorem qm_sum (tk : Nat → List Nat) (N r : Nat) : qM (qSum tk N r) := qm_seq tk N jnP (qm_seq tk N jnF (qm_fac tk N r))
theorem qm_bra (tk : Nat → List Nat) (N : Nat) : ∀ r, qM (qBra tk N r)
  | 0 => qm_no
  | r + 1 => qm_br tk (qm_te tk (qm_sum tk N r))
theorem agr_then {m : Nat} {x y : Bool × Nat} (h : Agr m x y) {f g : Nat → Bool × Nat} (hf : qM f) (hg : qM g) (hfg : AgF m f g) : Agr m (qThen x f) (qThen y g) := by
  rcases h with ⟨rfl, h⟩ | ⟨h1, h2⟩
  · obtain ⟨b, i⟩ := x
    cases b with
    | false => exact Or.inl ⟨rfl, h⟩
    | true => exact hfg i
  · exact Or.inr ⟨qm_then h1 hf, qm_then h2 hg⟩
theorem agr_far {m a : Nat} (h : m ≤ a) {x y : Bool × Nat} (hx : a ≤ x.2) (hy : a ≤ y.2) : Agr m x y := Or.inr ⟨by omega, by omega⟩
theorem agr_same {m a : Nat} (b : Bool) : Agr m (b, a) (b, a) := by
  rcases Nat.lt_or_ge a m with h | h
  · exact Or.inl ⟨rfl, h⟩
  · exact Or.inr ⟨h, h⟩
theorem agr_take {m : Nat} {tk tk2 : Nat → List Nat} (hs : tkS m tk tk2) (k : Nat) : AgF m (qTake tk k) (qTake tk2 k) := fun a => by
  rcases Nat.lt_or_ge a m with h | h
  · unfold qTake
    rw [hs a h]
    split
    · exact agr_same true
    · exact agr_same false
  · exact agr_far h (qm_take tk k a) (qm_take tk2 k a)
theorem agr_loop {m : Nat} {tk tk2 : Nat → List Nat} (hs : tkS m tk tk2) (jn : Nat → Bool) {f g : Nat → Bool × Nat} (hf : qM f) (hg : qM g) (hfg : AgF m f g) : ∀ n, AgF m (qLoop tk jn f n) (qLoop tk2 jn g n)
  | 0 => fun a => agr_same true
  | n + 1 => fun a => by
    rcases Nat.lt_or_ge a m with h | h
    · show Agr m (if _ then _ else _) (if _ then _ else _)
      rw [hs a h]
      split
      · exact agr_then (hfg (a + 1)) (qm_loop tk jn hf n) (qm_loop tk2 jn hg n) (agr_loop hs jn hf hg hfg n)
      · exact agr_same true
    · exact agr_far h (qm_loop tk jn hf (n + 1) a) (qm_loop tk2 jn hg (n + 1) a)
theorem agr_seq {m : Nat} {tk tk2 : Nat → List Nat} (hs : tkS m tk tk2) (N : Nat) (jn : Nat → Bool) {f g : Nat → Bool × Nat} (hf : qM f) (hg : qM g) (hfg : AgF m f g) : AgF m (qSeq tk N jn f) (qSeq tk2 N jn g) := fun a => agr_then (hfg a) (qm_loop tk jn hf N) (qm_loop tk2 jn hg N) (agr_loop hs jn hf hg hfg N)
theorem agr_te {m : Nat} {tk tk2 : Nat → List Nat} (hs : tkS m tk tk2) {f g : Nat → Bool × Nat} (hf : qM f) (hg : qM g) (hfg : AgF m f g) : AgF m (qTe tk f) (qTe tk2 g) := fun a => by
  have key : ∀ (t : Nat → List Nat) {u : Nat → Bool × Nat}, qM u → qM (fun a => if 313 ≤ (t 0).getD a 0 ∧ (t 0).getD a 0 ≤ 318 then u (a + 1) else (true, a)) := fun t u hu a => by
    show a ≤ (if _ then _ else _ : Bool × Nat).2
    split
    · exact Nat.le_trans (Nat.le_succ a) (hu (a + 1))
    · exact Nat.le_refl a
  refine agr_then (hfg a) (key tk hf) (key tk2 hg) (fun a => ?_)
  rcases Nat.lt_or_ge a m with h | h
  · show Agr m (if _ then _ else _) (if _ then _ else _)
    rw [hs a h]
    split
    · exact hfg (a + 1)
    · exact agr_same true
  · exact agr_far h (key tk hf a) (key tk2 hg a)
theorem agr_br {m : Nat} {tk tk2 : Nat → List Nat} (hs : tkS m tk tk2) {f g : Nat → Bool × Nat} (hf : qM f) (hg : qM g) (hfg : AgF m f g) : AgF m (qBr tk f) (qBr tk2 g) := fun a => agr_then (agr_then (agr_take hs 91 a) hf hg hfg) (qm_take tk 93) (qm_take tk2 93) (agr_take hs 93)
theorem agr_pl {m : Nat} {tk tk2 : Nat → List Nat} (hs : tkS m tk tk2) {f g : Nat → Bool × Nat} (hf : qM f) (hg : qM g) (hfg : AgF m f g) : AgF m (qPl tk f) (qPl tk2 g) := fun a => by
  rcases Nat.lt_or_ge a m with h | h
  · unfold qPl
    rw [hs a h]
    split
    · exact agr_same true
    · exact hfg a
  · exact agr_far h (qm_pl tk hf a) (qm_pl tk2 hg a)
theorem agr_no (m : Nat) : AgF m qNo qNo := fun a => agr_same false
theorem agr_fw {m : Nat} {tk tk2 : Nat → List Nat} (hs : tkS m tk tk2) {n1 n2 b1 b2 : Nat → Bool × Nat} (h1 : qM n1) (h2 : qM n2) (h3 : qM b1) (h4 : qM b2) (hn : AgF m n1 n2) (hb : AgF m b1 b2) : AgF m (qFw tk n1 b1) (qFw tk2 n2 b2) := fun a => by
  rcases Nat.lt_or_ge a m with h | h
  · unfold qFw
    rw [hs a h]
    split
    · exact hn a
    · split
      · exact hb (a + 1)
      · split
        · exact agr_pl hs h3 h4 hb (a + 1)
        · split
          · exact agr_same true
          · exact hb a
  · exact agr_far h (qm_fw tk h1 h3 a) (qm_fw tk2 h2 h4 a)
theorem agr_fac {m : Nat} {tk tk2 : Nat → List Nat} (hs : tkS m tk tk2) (N : Nat) : ∀ r, AgF m (qFac tk N r) (qFac tk2 N r)
  | 0 => agr_fw hs qm_no qm_no qm_no qm_no (agr_no m) (agr_no m)
  | r + 1 => agr_fw hs (fun a => Nat.le_trans (Nat.le_succ a) (qm_fac tk N r (a + 1))) (fun a => Nat.le_trans (Nat.le_succ a) (qm_fac tk2 N r (a + 1))) (qm_bra tk N (r + 1)) (qm_bra tk2 N (r + 1)) (fun a => agr_fac hs N r (a + 1))
      (agr_br hs (qm_te tk (qm_sum tk N r)) (qm_te tk2 (qm_sum tk2 N r)) (agr_te hs (qm_sum tk N r) (qm_sum tk2 N r) (agr_seq hs N jnP (qm_seq tk N jnF (qm_fac tk N r)) (qm_seq tk2 N jnF (qm_fac tk2 N r)) (agr_seq hs N jnF (qm_fac tk N r) (qm_fac tk2 N r) (agr_fac hs N r)))))
theorem agr_sum {m : Nat} {tk tk2 : Nat → List Nat} (hs : tkS m tk tk2) (N r : Nat) : AgF m (qSum tk N r) (qSum tk2 N r) := agr_seq hs N jnP (qm_seq tk N jnF (qm_fac tk N r)) (qm_seq tk2 N jnF (qm_fac tk2 N r)) (agr_seq hs N jnF (qm_fac tk N r) (qm_fac tk2 N r) (agr_fac hs N r))
theorem agr_bra {m : Nat} {tk tk2 : Nat → List Nat} (hs : tkS m tk tk2) (N : Nat) : ∀ r, AgF m (qBra tk N r) (qBra tk2 N r)
  | 0 => agr_no m
  | r + 1 => agr_br hs (qm_te tk (qm_sum tk N r)) (qm_te tk2 (qm_sum tk2 N r)) (agr_te hs (qm_sum tk N r) (qm_sum tk2 N r) (agr_sum hs N r))
theorem qm_plc (tk : Nat → List Nat) (N r : Nat) : qM (qPlc tk N r) := fun a => qm_then (qm_take tk 35 a) (qm_pl tk (qm_bra tk N r))
theorem agr_plc {m : Nat} {tk tk2 : Nat → List Nat} (hs : tkS m tk tk2) (N r : Nat) : AgF m (qPlc tk N r) (qPlc tk2 N r) := fun a => agr_then (agr_take hs 35 a) (qm_pl tk (qm_bra tk N r)) (qm_pl tk2 (qm_bra tk2 N r)) (agr_pl hs (qm_bra tk N r) (qm_bra tk2 N r) (agr_bra hs N r))
theorem qm_rest (tk : Nat → List Nat) (N : Nat) : qM (qRest tk N) := fun b => by
  unfold qRest
  split
  · exact qm_then (qm_then (qm_plc tk N 20 b) (qm_take tk 61)) (qm_sum tk N 20)
  · split
    · exact qm_then (qm_then (Nat.le_trans (Nat.le_succ b) (qm_bra tk N 20 (b + 1))) (qm_take tk 301)) (qm_take tk 256)
    · split
      · exact Nat.le_trans (Nat.le_succ b) (qm_take tk 256 (b + 1))
      · split
        · exact qm_then (qm_then (Nat.le_trans (Nat.le_succ b) (qm_bra tk N 20 (b + 1))) (qm_take tk 303)) (qm_take tk 256)
        · split
          · exact Nat.le_trans (Nat.le_succ b) (qm_take tk 256 (b + 1))
          · exact Nat.le_refl b
theorem agr_rest {m : Nat} {tk tk2 : Nat → List Nat} (hs : tkS m tk tk2) (N : Nat) : AgF m (qRest tk N) (qRest tk2 N) := fun b => by
  rcases Nat.lt_or_ge b m with h | h
  · unfold qRest
    rw [hs b h]
    split
    · exact agr_then (agr_then (agr_plc hs N 20 b) (qm_take tk 61) (qm_take tk2 61) (agr_take hs 61)) (qm_sum tk N 20) (qm_sum tk2 N 20) (agr_sum hs N 20)
    · split
      · exact agr_then (agr_then (agr_bra hs N 20 (b + 1)) (qm_take tk 301) (qm_take tk2 301) (agr_take hs 301)) (qm_take tk 256) (qm_take tk2 256) (agr_take hs 256)
      · split
        · exact agr_take hs 256 (b + 1)
        · split
          · exact agr_then (agr_then (agr_bra hs N 20 (b + 1)) (qm_take tk 303) (qm_take tk2 303) (agr_take hs 303)) (qm_take tk 256) (qm_take tk2 256) (agr_take hs 256)
          · split
            · exact agr_take hs 256 (b + 1)
            · exact agr_same true
  · exact agr_far h (qm_rest tk N b) (qm_rest tk2 N b)
theorem qm_lab (tk : Nat → List Nat) : qM (qLab tk) := fun a => by
  unfold qLab
  split
  · exact Nat.le_trans (Nat.le_succ a) (qm_take tk 256 (a + 1))
  · exact Nat.le_refl a
theorem agr_lab {m : Nat} {tk tk2 : Nat → List Nat} (hs : tkS m tk tk2) : AgF m (qLab tk) (qLab tk2) := fun a => by
  rcases Nat.lt_or_ge a m with h | h
  · unfold qLab
    rw [hs a h]
    split
    · exact agr_take hs 256 (a + 1)
    · exact agr_same true
  · exact agr_far h (qm_lab tk a) (qm_lab tk2 a)
theorem qm_line (tk : Nat → List Nat) (N : Nat) : qM (qLine tk N) := fun a => qm_then (qm_then (qm_lab tk a) (qm_rest tk N)) (qm_take tk 10)
theorem agr_line {m : Nat} {tk tk2 : Nat → List Nat} (hs : tkS m tk tk2) (N : Nat) : AgF m (qLine tk N) (qLine tk2 N) := fun a => agr_then (agr_then (agr_lab hs a) (qm_rest tk N) (qm_rest tk2 N) (agr_rest hs N)) (qm_take tk 10) (qm_take tk2 10) (agr_take hs 10)
