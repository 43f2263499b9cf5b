/-! ValueBlocks$Links: a program read as numbers: kinds ks, labels lb, their places lp, numbers nu, their places np, targets ts -/
def jLk (cI : ClassId) (h P N : Nat) (ks lp np : List Nat) (lb nu ts : List Int) (w : va_W) : Prop := ∃ pr : Nat → List Int32, jProg cI h P pr w ∧ (pr 1).length = N ∧ pr 2 = ks.map nI ∧ pr 3 = lb.map iI ∧ pr 4 = lp.map nI ∧ pr 5 = nu.map iI ∧ pr 6 = np.map nI ∧ pr 7 = ts.map iI ∧ (∀ x ∈ ks, x < 1000000000) ∧ (∀ x ∈ lp, x < 1000000000) ∧ (∀ x ∈ np, x < 1000000000) ∧ (∀ x ∈ lb, -1 ≤ x ∧ x ≤ 1000000000) ∧ (∀ x ∈ nu, -1 ≤ x ∧ x ≤ 1000000000) ∧ (∀ x ∈ ts, -1 ≤ x ∧ x ≤ 8001)
theorem jLk.hd {cI : ClassId} {h P N : Nat} {ks lp np : List Nat} {lb nu ts : List Int} {w : va_W} (hw : jLk cI h P N ks lp np lb nu ts w) : ∃ (i : Nat) (fs : List Value), w[i]? = some (h, .inr (2, fs)) := by
  obtain ⟨pr, hp, -⟩ := hw
  exact hp.hd
theorem jgetZ {xs : List Int} {a b : Int} (h0 : a ≤ 0 ∧ 0 ≤ b) (h : ∀ x ∈ xs, a ≤ x ∧ x ≤ b) (j : Nat) : a ≤ xs.getD j 0 ∧ xs.getD j 0 ≤ b := by
  rw [List.getD_eq_getElem?_getD]
  cases e : xs[j]? with
  | none => exact h0
  | some x => exact h x (List.mem_of_getElem? e)
theorem jLk.b {cI : ClassId} {h P N : Nat} {ks lp np : List Nat} {lb nu ts : List Int} {w : va_W} (hw : jLk cI h P N ks lp np lb nu ts w) : N ≤ 8000 ∧ (∀ j, ks.getD j 0 < 1000000000) ∧ (∀ j, lp.getD j 0 < 1000000000) ∧ (∀ j, np.getD j 0 < 1000000000) ∧ (∀ j, -1 ≤ lb.getD j 0 ∧ lb.getD j 0 ≤ 1000000000) ∧ (∀ j, -1 ≤ nu.getD j 0 ∧ nu.getD j 0 ≤ 1000000000) ∧ (∀ j, -1 ≤ ts.getD j 0 ∧ ts.getD j 0 ≤ 8001) := by
  obtain ⟨pr, hp, hN, h2, h3, h4, h5, h6, h7, b2, b4, b6, b3, b5, b7⟩ := hw
  have := hp.len.1 1 (by decide)
  exact ⟨by omega, jgetL (by decide) b2, jgetL (by decide) b4, jgetL (by decide) b6, jgetZ (by decide) b3, jgetZ (by decide) b5, jgetZ (by decide) b7⟩
theorem iI_inj {a b : Int} (h1 : -2147483648 ≤ a ∧ a < 2147483648) (h2 : -2147483648 ≤ b ∧ b < 2147483648) (h : iI a = iI b) : a = b := (iI_eq h1.1 h1.2 h2.1 h2.2).mp h
/-- the first place below b that holds x; b where none does -/
def lkF (lb : List Int) (x : Int) (b : Nat) : Nat → Nat → Nat
  | 0, _ => b
  | f + 1, j => if b ≤ j then b else if lb.getD j 0 = x then j else lkF lb x b f (j + 1)
def lkFirst (lb : List Int) (x : Int) (b : Nat) : Nat := lkF lb x b b 0
theorem lkF_eq {lb : List Int} {x : Int} {b r : Nat} (h1 : r ≤ b) (h2 : ∀ j, j < r → ¬ lb.getD j 0 = x) (h3 : r < b → lb.getD r 0 = x) : ∀ (f j : Nat), j ≤ r → b - j ≤ f → lkF lb x b f j = r
  | 0, j, a, c => by show b = r; omega
  | f + 1, j, a, c => by
    show (if _ then _ else _) = _
    by_cases q : b ≤ j
    · rw [if_pos q]; omega
    · rw [if_neg q]
      rcases Nat.eq_or_lt_of_le a with e | e
      · subst e; exact if_pos (h3 (by omega))
      · rw [if_neg (h2 j e)]
        exact lkF_eq h1 h2 h3 f (j + 1) e (by omega)
def lkRep (lb : List Int) (j : Nat) : Bool := decide (¬ lb.getD j 0 = -1 ∧ lkFirst lb (lb.getD j 0) j < j)
def lkCh (nu ts : List Int) (n : Int) : Nat → Int → Bool
  | 0, _ => true
  | f + 1, o => if o = -1 then true else if nu.getD o.toNat 0 = n then false else lkCh nu ts n f (ts.getD o.toNat 0)
theorem lkCh_k (nu ts : List Int) (n : Int) (f k : Nat) : lkCh nu ts n (f + 1) (k : Int) = if nu.getD k 0 = n then false else lkCh nu ts n f (ts.getD k 0) := by
  show (if _ then _ else _) = _
  rw [if_neg (by omega)]
  rfl
def lkMay (nu ts : List Int) (j : Nat) (inn : Int) : Bool := if nu.getD j 0 < 1000 ∨ 3000 < nu.getD j 0 then false else lkCh nu ts (nu.getD j 0) 3 inn
def lkOut (np : List Nat) (ts : List Int) : Nat → Int → Int → Int
  | 0, _, p => p
  | f + 1, o, p => if o = -1 then p else lkOut np ts f (ts.getD o.toNat 0) (np.getD o.toNat 0)
theorem lkOut_k (np : List Nat) (ts : List Int) (f k : Nat) (p : Int) : lkOut np ts (f + 1) (k : Int) p = lkOut np ts f (ts.getD k 0) (np.getD k 0) := by
  show (if _ then _ else _) = _
  rw [if_neg (by omega)]
  rfl
theorem lkOut_b (np : List Nat) (ts : List Int) (hb : ∀ j, np.getD j 0 < 1000000000) : ∀ (f : Nat) (o p : Int), -1 ≤ p ∧ p < 1000000000 → -1 ≤ lkOut np ts f o p ∧ lkOut np ts f o p < 1000000000
  | 0, o, p, h => h
  | f + 1, o, p, h => by
    unfold lkOut
    split
    · exact h
    · have := hb o.toNat
      exact lkOut_b np ts hb f _ _ (by omega)
def lkJL (N : Nat) (ks lp np : List Nat) (lb nu : List Int) : Nat → Nat → Int → List Int → Int × List Int
  | 0, _, _, ts => (-1, ts)
  | f + 1, j, inn, ts => if N ≤ j then (lkOut np ts 3 inn (-1), ts) else if lkRep lb j = true then ((lp.getD j 0 : Nat), ts) else if ks.getD j 0 = 302 then (if lkMay nu ts j inn = true then lkJL N ks lp np lb nu f (j + 1) j (ts.set j inn) else ((np.getD j 0 : Nat), ts)) else if ks.getD j 0 = 304 then (if inn = -1 ∨ ¬ nu.getD inn.toNat 0 = nu.getD j 0 then ((np.getD j 0 : Nat), ts) else lkJL N ks lp np lb nu f (j + 1) (ts.getD inn.toNat 0) ((ts.set inn.toNat ((j + 1 : Nat) : Int)).set j inn)) else lkJL N ks lp np lb nu f (j + 1) inn ts
def lkJG (N : Nat) (ks np : List Nat) (lb nu : List Int) : Nat → Nat → List Int → Int × List Int
  | 0, _, ts => (-1, ts)
  | f + 1, j, ts => if N ≤ j then (-1, ts) else if ks.getD j 0 = 301 ∨ ks.getD j 0 = 300 then (if lkFirst lb (nu.getD j 0) N = N then ((np.getD j 0 : Nat), ts) else lkJG N ks np lb nu f (j + 1) (ts.set j (lkFirst lb (nu.getD j 0) N : Nat))) else lkJG N ks np lb nu f (j + 1) ts
section LK
variable {D : va_G} {G : Nat → Nat} {cI cJ cB cZ : ClassId} {l : Launch}

theorem c_Lk_kindOf {h P N : Nat} {ks lp np : List Nat} {lb nu ts : List Int} {w : va_W} (hw : jLk cI h P N ks lp np lb nu ts w) (j : Nat) (hj : j < 2147483648) : HM l yX3_kindOf wsX3_kindOf ({ frames := 1, cells := 0, slots := 0, locals := 40 } : Room) D G (jT cI cJ cB cZ) [.ref h, .int (nI j)] w (fun v u k n => v = some (.int (nI (ks.getD j 0))) ∧ u = w ∧ k = 0 ∧ n = 0) := by
  obtain ⟨pr, hp, hN, h2, h3, h4, h5, h6, h7, -⟩ := hw
  have h := c_Prog_kindOf (D := D) (G := G) (l := l) (cJ := cJ) (cB := cB) (cZ := cZ) hp j hj
  rw [h2, jget_n] at h
  exact h
theorem c_Lk_label {h P N : Nat} {ks lp np : List Nat} {lb nu ts : List Int} {w : va_W} (hw : jLk cI h P N ks lp np lb nu ts w) (j : Nat) (hj : j < 2147483648) : HM l yX3_label wsX3_label ({ frames := 1, cells := 0, slots := 0, locals := 40 } : Room) D G (jT cI cJ cB cZ) [.ref h, .int (nI j)] w (fun v u k n => v = some (.int (iI (lb.getD j 0))) ∧ u = w ∧ k = 0 ∧ n = 0) := by
  obtain ⟨pr, hp, hN, h2, h3, h4, h5, h6, h7, -⟩ := hw
  have h := c_Prog_label (D := D) (G := G) (l := l) (cJ := cJ) (cB := cB) (cZ := cZ) hp j hj
  rw [h3, jget_z] at h
  exact h
theorem c_Lk_labelPlace {h P N : Nat} {ks lp np : List Nat} {lb nu ts : List Int} {w : va_W} (hw : jLk cI h P N ks lp np lb nu ts w) (j : Nat) (hj : j < 2147483648) : HM l yX3_labelPlace wsX3_labelPlace ({ frames := 1, cells := 0, slots := 0, locals := 40 } : Room) D G (jT cI cJ cB cZ) [.ref h, .int (nI j)] w (fun v u k n => v = some (.int (nI (lp.getD j 0))) ∧ u = w ∧ k = 0 ∧ n = 0) := by
  obtain ⟨pr, hp, hN, h2, h3, h4, h5, h6, h7, -⟩ := hw
  have h := c_Prog_labelPlace (D := D) (G := G) (l := l) (cJ := cJ) (cB := cB) (cZ := cZ) hp j hj
  rw [h4, jget_n] at h
  exact h
theorem c_Lk_number {h P N : Nat} {ks lp np : List Nat} {lb nu ts : List Int} {w : va_W} (hw : jLk cI h P N ks lp np lb nu ts w) (j : Nat) (hj : j < 2147483648) : HM l yX3_number wsX3_number ({ frames := 1, cells := 0, slots := 0, locals := 40 } : Room) D G (jT cI cJ cB cZ) [.ref h, .int (nI j)] w (fun v u k n => v = some (.int (iI (nu.getD j 0))) ∧ u = w ∧ k = 0 ∧ n = 0) := by
  obtain ⟨pr, hp, hN, h2, h3, h4, h5, h6, h7, -⟩ := hw
  have h := c_Prog_number (D := D) (G := G) (l := l) (cJ := cJ) (cB := cB) (cZ := cZ) hp j hj
  rw [h5, jget_z] at h
  exact h
theorem c_Lk_numberPlace {h P N : Nat} {ks lp np : List Nat} {lb nu ts : List Int} {w : va_W} (hw : jLk cI h P N ks lp np lb nu ts w) (j : Nat) (hj : j < 2147483648) : HM l yX3_numberPlace wsX3_numberPlace ({ frames := 1, cells := 0, slots := 0, locals := 40 } : Room) D G (jT cI cJ cB cZ) [.ref h, .int (nI j)] w (fun v u k n => v = some (.int (nI (np.getD j 0))) ∧ u = w ∧ k = 0 ∧ n = 0) := by
  obtain ⟨pr, hp, hN, h2, h3, h4, h5, h6, h7, -⟩ := hw
  have h := c_Prog_numberPlace (D := D) (G := G) (l := l) (cJ := cJ) (cB := cB) (cZ := cZ) hp j hj
  rw [h6, jget_n] at h
  exact h
theorem c_Lk_target {h P N : Nat} {ks lp np : List Nat} {lb nu ts : List Int} {w : va_W} (hw : jLk cI h P N ks lp np lb nu ts w) (j : Nat) (hj : j < 2147483648) : HM l yX3_target wsX3_target ({ frames := 1, cells := 0, slots := 0, locals := 40 } : Room) D G (jT cI cJ cB cZ) [.ref h, .int (nI j)] w (fun v u k n => v = some (.int (iI (ts.getD j 0))) ∧ u = w ∧ k = 0 ∧ n = 0) := by
  obtain ⟨pr, hp, hN, h2, h3, h4, h5, h6, h7, -⟩ := hw
  have h := c_Prog_target (D := D) (G := G) (l := l) (cJ := cJ) (cB := cB) (cZ := cZ) hp j hj
  rw [h7, jget_z] at h
  exact h
theorem c_Lk_size {h P N : Nat} {ks lp np : List Nat} {lb nu ts : List Int} {w : va_W} (hw : jLk cI h P N ks lp np lb nu ts w) : HM l yX3_size wsX3_size ({ frames := 1, cells := 0, slots := 0, locals := 40 } : Room) D G (jT cI cJ cB cZ) [.ref h] w (fun v u k n => v = some (.int (nI N)) ∧ u = w ∧ k = 0 ∧ n = 0) := by
  obtain ⟨pr, hp, hN, -⟩ := hw
  have h := c_Prog_size (D := D) (G := G) (l := l) (cJ := cJ) (cB := cB) (cZ := cZ) hp
  rw [hN] at h
  exact h
theorem jHM_mono {y : MethodName} {ws : List Cond} {rm : Room} {D : va_G} {G : Nat → Nat} {tys : List (ClassId × FieldType)} {av : List Value} {w : va_W} {Qv Qw : Option Value → va_W → Nat → Nat → Prop} (h : HM l y ws rm D G tys av w Qv) (hq : ∀ v u k n, Qv v u k n → Qw v u k n) : HM l y ws rm D G tys av w Qw := by
  intro sz
  exact (h sz).mono (fun a st oc t hQ => by
    obtain ⟨⟨v, u, k, n, h1, h2, h3⟩, h4⟩ := hQ
    exact ⟨⟨v, u, k, n, h1, hq v u k n h2, h3⟩, h4⟩)
end LK
