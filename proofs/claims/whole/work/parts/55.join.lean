/-! joining: one line's step, and what is known of the open loops -/
def kA (A : Nat → List Nat) (fi : Nat → Nat) (i : Nat) : Nat := lnK A (lnB A (fi i))
def jA (A : Nat → List Nat) (N : Nat) (fi : Nat → Nat) (i : Nat) : Nat := rJ A N (lnB A (fi i))
def wtA (A : Nat → List Nat) (N : Nat) (fi : Nat → Nat) (i : Nat) : Nat := (A 2).getD (jA A N fi i) 0
def bA (A : Nat → List Nat) (fi : Nat → Nat) (i : Nat) : Int := if (A 0).getD (fi i) 0 = 78 then (((A 2).getD (fi i + 1) 0 : Nat) : Int) else -1
theorem lnK_i (tk : Nat → List Nat) (b : Nat) : (lnK tk b = 300 ↔ (tk 0).getD b 0 = 300) ∧ (lnK tk b = 301 ↔ (tk 0).getD b 0 = 301) ∧ (lnK tk b = 302 ↔ (tk 0).getD b 0 = 302) ∧ (lnK tk b = 304 ↔ (tk 0).getD b 0 = 304) ∧ (lnK tk b = 0 ∨ lnK tk b = 300 ∨ lnK tk b = 301 ∨ lnK tk b = 302 ∨ lnK tk b = 304) := by
  unfold lnK
  split <;> omega
/-- the label's fault -/
def lbP (A : Nat → List Nat) (j a : Nat) (lb : Nat → Int) (lp : Int) : Int := if (A 0).getD a 0 = 78 ∧ ¬ lo lb (((A 2).getD (a + 1) 0 : Nat) : Int) j = -1 then lsLater A (a + 1) lp else lp
/-- what a line does to the state: labels, jumps, sorts -/
theorem lsLine_r (A : Nat → List Nat) (N j a : Nat) (lb pa jm : Nat → Int) (so op : Nat → Nat) (oc : Nat) (lp : Int) :
    (lsLine A N j a (lb, pa, jm, so, op, oc, lp)).1 = va_up lb j (if (A 0).getD a 0 = 78 then (((A 2).getD (a + 1) 0 : Nat) : Int) else -1) ∧
    (lsLine A N j a (lb, pa, jm, so, op, oc, lp)).2.2.1 = va_up jm j (if lnK A (lnB A a) = 300 ∨ lnK A (lnB A a) = 301 ∨ lnK A (lnB A a) = 302 then ((rJ A N (lnB A a) : Nat) : Int) else -1) ∧
    (lsLine A N j a (lb, pa, jm, so, op, oc, lp)).2.2.2.1 = va_up so j (soK ((A 0).getD (lnB A a) 0)) ∧
    (lsLine A N j a (lb, pa, jm, so, op, oc, lp)).2.1 = (if lnK A (lnB A a) = 304 ∧ 0 < oc ∧ wj A (va_up jm j (-1)) (op (oc - 1)) = (A 2).getD (rJ A N (lnB A a)) 0 then va_up (va_up pa j ((op (oc - 1) : Nat) : Int)) (op (oc - 1)) (j : Int) else va_up pa j (-1)) ∧
    (lsLine A N j a (lb, pa, jm, so, op, oc, lp)).2.2.2.2.1 = (if lnK A (lnB A a) = 302 ∧ oc < 4 then va_up op oc j else op) ∧
    (lsLine A N j a (lb, pa, jm, so, op, oc, lp)).2.2.2.2.2.1 = (if lnK A (lnB A a) = 302 ∧ oc < 4 then oc + 1 else if lnK A (lnB A a) = 304 ∧ 0 < oc ∧ wj A (va_up jm j (-1)) (op (oc - 1)) = (A 2).getD (rJ A N (lnB A a)) 0 then oc - 1 else oc) ∧
    (lsLine A N j a (lb, pa, jm, so, op, oc, lp)).2.2.2.2.2.2 = (if lnK A (lnB A a) = 302 then (if dOK A (va_up jm j ((rJ A N (lnB A a) : Nat) : Int)) op ((A 2).getD (rJ A N (lnB A a)) 0) oc = true then lbP A j a lb lp else lsLater A (rJ A N (lnB A a)) (lbP A j a lb lp))
      else if lnK A (lnB A a) = 304 then (if 0 < oc ∧ wj A (va_up jm j (-1)) (op (oc - 1)) = (A 2).getD (rJ A N (lnB A a)) 0 then lbP A j a lb lp else lsLater A (rJ A N (lnB A a)) (lbP A j a lb lp)) else lbP A j a lb lp) := by
  have hL : lsLabel A j a (lsNew j (lb, pa, jm, so, op, oc, lp)) = (va_up lb j (if (A 0).getD a 0 = 78 then (((A 2).getD (a + 1) 0 : Nat) : Int) else -1), va_up pa j (-1), va_up jm j (-1), va_up so j 0, op, oc, lbP A j a lb lp) := by
    unfold lsLabel lsNew lbP
    by_cases q : (A 0).getD a 0 = 78
    · rw [if_pos q, if_pos q]
      dsimp only
      rw [va_up_up, lsLab_up A lb _ _ _ j lp j (Nat.le_refl j), lsLab_v]
      by_cases q2 : lo lb (((A 2).getD (a + 1) 0 : Nat) : Int) j = -1
      · rw [if_pos q2, if_neg (fun z => z.2 q2)]
      · rw [if_neg q2, if_pos ⟨q, q2⟩]
    · rw [if_neg q, if_neg q, if_neg (fun z => q z.1)]
  unfold lsLine
  rw [hL]
  generalize lbP A j a lb lp = lp1
  generalize lnB A a = b
  obtain ⟨k1, k2, k3, k4, k5⟩ := lnK_i A b
  unfold lsRest
  dsimp only
  by_cases c1 : (A 0).getD b 0 = 35
  · have hk : lnK A b = 0 := by omega
    rw [if_pos c1, hk, c1]
    dsimp only
    rw [va_up_up]
    exact ⟨rfl, rfl, rfl, rfl, rfl, rfl, rfl⟩
  · rw [if_neg c1]
    by_cases c2 : (A 0).getD b 0 = 300
    · rw [if_pos c2, k1.mpr c2, c2]
      dsimp only
      rw [va_up_up, va_up_up]
      exact ⟨rfl, rfl, rfl, rfl, rfl, rfl, rfl⟩
    · rw [if_neg c2]
      by_cases c3 : (A 0).getD b 0 = 301
      · rw [if_pos c3, k2.mpr c3, c3]
        dsimp only
        rw [va_up_up, va_up_up]
        exact ⟨rfl, rfl, rfl, rfl, rfl, rfl, rfl⟩
      · rw [if_neg c3]
        by_cases c4 : (A 0).getD b 0 = 302
        · rw [if_pos c4, k3.mpr c4, c4]
          unfold lsDo
          dsimp only
          rw [va_up_up, va_up_up]
          refine ⟨rfl, rfl, rfl, rfl, ?_, ?_, rfl⟩
          · by_cases q : oc < 4
            · rw [if_pos q, if_pos ⟨rfl, q⟩]
            · rw [if_neg q, if_neg (fun z => q z.2)]
          · by_cases q : oc < 4
            · rw [if_pos q, if_pos ⟨rfl, q⟩]
            · rw [if_neg q, if_neg (fun z => q z.2), if_neg (fun z => absurd z.1 (by decide))]
        · rw [if_neg c4]
          by_cases c5 : (A 0).getD b 0 = 304
          · have hr : rJ A N b = b + 1 := if_neg (by omega)
            rw [if_pos c5, k4.mpr c5, c5, hr]
            unfold lsEnd
            dsimp only
            rw [va_up_up]
            by_cases q : 0 < oc ∧ wj A (va_up jm j (-1)) (op (oc - 1)) = (A 2).getD (b + 1) 0
            · rw [if_pos q]
              dsimp only
              refine ⟨rfl, rfl, rfl, ?_, rfl, ?_, ?_⟩
              · rw [if_pos ⟨rfl, q⟩, va_up_up]
              · rw [if_neg (fun z => absurd z.1 (by decide)), if_pos ⟨rfl, q⟩]
              · rw [if_neg (by decide), if_pos rfl, if_pos q]
            · rw [if_neg q]
              dsimp only
              refine ⟨rfl, rfl, rfl, ?_, rfl, ?_, ?_⟩
              · rw [if_neg (fun z => q z.2)]
              · rw [if_neg (fun z => absurd z.1 (by decide)), if_neg (fun z => q z.2)]
              · rw [if_neg (by decide), if_pos rfl, if_neg q]
          · have hk : lnK A b = 0 := by omega
            have hs : soK ((A 0).getD b 0) = 0 := by
              have := soK_i ((A 0).getD b 0)
              unfold soK
              rw [if_neg c1, if_neg c2, if_neg c3, if_neg c4, if_neg c5]
            rw [if_neg c5, hk, hs]
            exact ⟨rfl, rfl, rfl, rfl, rfl, rfl, rfl⟩
/-- a fault stays the first -/
theorem lsLine_lp {A : Nat → List Nat} {N j a : Nat} {S : LSt} (h : 0 ≤ S.2.2.2.2.2.2) : (lsLine A N j a S).2.2.2.2.2.2 = S.2.2.2.2.2.2 := by
  obtain ⟨lb, pa, jm, so, op, oc, lp, rfl⟩ := LSt_ex S
  dsimp only at h
  obtain ⟨-, -, -, -, -, -, r7⟩ := lsLine_r A N j a lb pa jm so op oc lp
  have hb : lbP A j a lb lp = lp := by
    unfold lbP
    split
    · exact later_ge _ _ h
    · rfl
  rw [r7, hb]
  dsimp only
  (repeat' split) <;> first | rfl | exact later_ge _ _ h
theorem sA_lp {A : Nat → List Nat} {N : Nat} {fi : Nat → Nat} {S0 : LSt} {k : Nat} (h : 0 ≤ (sA A N fi S0 k).2.2.2.2.2.2) : ∀ d : Nat, (sA A N fi S0 (k + d)).2.2.2.2.2.2 = (sA A N fi S0 k).2.2.2.2.2.2
  | 0 => rfl
  | d + 1 => by
    have ih := sA_lp h d
    show (lsLine A N (k + d) (fi (k + d)) (sA A N fi S0 (k + d))).2.2.2.2.2.2 = _
    rw [lsLine_lp (by rw [ih]; exact h), ih]
/-- labels, sorts and jumps of the lines before -/
def rI (A : Nat → List Nat) (N : Nat) (fi : Nat → Nat) (j : Nat) (lb jm : Nat → Int) (so : Nat → Nat) : Prop := ∀ i, i < j → lb i = bA A fi i ∧ so i = soK ((A 0).getD (lnB A (fi i)) 0) ∧ (kA A fi i = 300 ∨ kA A fi i = 301 ∨ kA A fi i = 302 → jm i = ((jA A N fi i : Nat) : Int))
theorem rI.wE {A : Nat → List Nat} {N : Nat} {fi : Nat → Nat} {j : Nat} {lb jm : Nat → Int} {so : Nat → Nat} (h : rI A N fi j lb jm so) {i : Nat} (hi : i < j) (hk : kA A fi i = 300 ∨ kA A fi i = 301 ∨ kA A fi i = 302) : wj A jm i = wtA A N fi i := by
  unfold wj wtA
  rw [(h i hi).2.2 hk]
  rfl
theorem sA_r {A : Nat → List Nat} {N : Nat} {fi : Nat → Nat} {S0 : LSt} : ∀ k : Nat, rI A N fi k (sA A N fi S0 k).1 (sA A N fi S0 k).2.2.1 (sA A N fi S0 k).2.2.2.1
  | 0 => fun i hi => absurd hi (Nat.not_lt_zero i)
  | k + 1 => by
    have ih := sA_r (A := A) (N := N) (fi := fi) (S0 := S0) k
    show rI A N fi (k + 1) (lsLine A N k (fi k) (sA A N fi S0 k)).1 (lsLine A N k (fi k) (sA A N fi S0 k)).2.2.1 (lsLine A N k (fi k) (sA A N fi S0 k)).2.2.2.1
    obtain ⟨lb, pa, jm, so, op, oc, lp, e⟩ := LSt_ex (sA A N fi S0 k)
    rw [e] at ih ⊢
    obtain ⟨r1, r2, r3, -⟩ := lsLine_r A N k (fi k) lb pa jm so op oc lp
    rw [r1, r2, r3]
    intro i hi
    by_cases q : i = k
    · subst q
      rw [va_up_self, va_up_self, va_up_self]
      exact ⟨rfl, rfl, fun hk => if_pos hk⟩
    · rw [va_up_ne _ _ q, va_up_ne _ _ q, va_up_ne _ _ q]
      exact ih i (by omega)
/-- the open loops: the reference's row op (oc of them) and the class's chain from inn through ts -/
def jI (A : Nat → List Nat) (N : Nat) (fi : Nat → Nat) (n j : Nat) (pa : Nat → Int) (op : Nat → Nat) (oc : Nat) (inn : Int) (ts : List Int) : Prop :=
  ts.length = n ∧ oc ≤ 3 ∧ inn = (if oc = 0 then -1 else ((op (oc - 1) : Nat) : Int)) ∧
  (∀ k, k < oc → op k < j ∧ kA A fi (op k) = 302 ∧ (wtA A N fi (op k) = 1000 ∨ wtA A N fi (op k) = 2000 ∨ wtA A N fi (op k) = 3000) ∧ pa (op k) < 0 ∧ ts.getD (op k) 0 = (if k = 0 then -1 else ((op (k - 1) : Nat) : Int))) ∧
  (∀ k k', k < k' → k' < oc → op k < op k' ∧ ¬ wtA A N fi (op k) = wtA A N fi (op k')) ∧
  (∀ i, i < j → kA A fi i = 302 → (∃ k, k < oc ∧ op k = i) ∨ (0 ≤ pa i ∧ pa i < (j : Int) ∧ ts.getD i 0 = pa i + 1)) ∧
  (∀ i, i < j → kA A fi i = 304 → 0 ≤ pa i ∧ pa i < (j : Int) ∧ ts.getD i 0 = pa i) ∧
  (∀ i, i < n → ¬ kA A fi i = 302 ∧ ¬ kA A fi i = 304 → ts.getD i 0 = 0)
theorem jI_0 {A : Nat → List Nat} {N : Nat} {fi : Nat → Nat} {n : Nat} {pa : Nat → Int} {op : Nat → Nat} {ts : List Int} (h : ts.length = n) (h0 : ∀ i, ts.getD i 0 = 0) : jI A N fi n 0 pa op 0 (-1) ts :=
  ⟨h, by decide, rfl, fun k hk => absurd hk (Nat.not_lt_zero k), fun k k' _ hk => absurd hk (Nat.not_lt_zero k'), fun i hi => absurd hi (Nat.not_lt_zero i), fun i hi => absurd hi (Nat.not_lt_zero i), fun i _ _ => h0 i⟩
/-- a line that is no loop's -/
theorem jI_id {A : Nat → List Nat} {N : Nat} {fi : Nat → Nat} {n j : Nat} {pa : Nat → Int} {op : Nat → Nat} {oc : Nat} {inn : Int} {ts : List Int} (h : jI A N fi n j pa op oc inn ts) (hk : ¬ kA A fi j = 302 ∧ ¬ kA A fi j = 304) : jI A N fi n (j + 1) (va_up pa j (-1)) op oc inn ts := by
  obtain ⟨h1, h2, h3, h4, h5, h6, h7, h8⟩ := h
  refine ⟨h1, h2, h3, fun k q => ?_, h5, fun i hi q => ?_, fun i hi q => ?_, h8⟩
  · obtain ⟨a1, a2, a3, a4, a5⟩ := h4 k q
    rw [va_up_ne _ _ (show ¬ op k = j by omega)]
    exact ⟨by omega, a2, a3, a4, a5⟩
  · have hne : ¬ i = j := fun e => by subst e; exact hk.1 q
    rw [va_up_ne _ _ hne]
    rcases h6 i (by omega) q with z | z
    · exact Or.inl z
    · exact Or.inr ⟨z.1, by omega, z.2.2⟩
  · have hne : ¬ i = j := fun e => by subst e; exact hk.2 q
    rw [va_up_ne _ _ hne]
    have z := h7 i (by omega) q
    exact ⟨z.1, by omega, z.2.2⟩
/-- three numbers, none of them twice -/
theorem jI_3 {A : Nat → List Nat} {N : Nat} {fi : Nat → Nat} {n j : Nat} {pa : Nat → Int} {op : Nat → Nat} {oc : Nat} {inn : Int} {ts : List Int} (h : jI A N fi n j pa op oc inn ts) {v : Nat} (hv : v = 1000 ∨ v = 2000 ∨ v = 3000) (hn : ∀ k, k < oc → ¬ wtA A N fi (op k) = v) : oc < 3 := by
  obtain ⟨h1, h2, h3, h4, h5, h6, h7, h8⟩ := h
  rcases Nat.lt_or_ge oc 3 with q | q
  · exact q
  · exfalso
    have a0 := (h4 0 (by omega)).2.2.1
    have a1 := (h4 1 (by omega)).2.2.1
    have a2 := (h4 2 (by omega)).2.2.1
    have b1 := (h5 0 1 (by decide) (by omega)).2
    have b2 := (h5 0 2 (by decide) (by omega)).2
    have b3 := (h5 1 2 (by decide) (by omega)).2
    have c0 := hn 0 (by omega)
    have c1 := hn 1 (by omega)
    have c2 := hn 2 (by omega)
    omega
/-- a loop is opened -/
theorem jI_do {A : Nat → List Nat} {N : Nat} {fi : Nat → Nat} {n j : Nat} {pa : Nat → Int} {op : Nat → Nat} {oc : Nat} {inn : Int} {ts : List Int} (h : jI A N fi n j pa op oc inn ts) (hj : j < n) (hk : kA A fi j = 302) (hv : wtA A N fi j = 1000 ∨ wtA A N fi j = 2000 ∨ wtA A N fi j = 3000) (hn : ∀ k, k < oc → ¬ wtA A N fi (op k) = wtA A N fi j) : jI A N fi n (j + 1) (va_up pa j (-1)) (va_up op oc j) (oc + 1) (j : Int) (ts.set j inn) := by
  have h3 := jI_3 h hv hn
  obtain ⟨h1, h2, hin, h4, h5, h6, h7, h8⟩ := h
  refine ⟨by rw [List.length_set]; exact h1, by omega, ?_, fun k q => ?_, fun k k' q1 q2 => ?_, fun i hi q => ?_, fun i hi q => ?_, fun i hi q => by rw [getD_set_ne (fun e => by subst e; exact q.1 hk)]; exact h8 i hi q⟩
  · rw [if_neg (by omega), show oc + 1 - 1 = oc by omega, va_up_self]
  · by_cases e : k = oc
    · subst e
      rw [va_up_self, va_up_self, getD_set_eq (by omega)]
      refine ⟨by omega, hk, hv, by decide, ?_⟩
      rw [hin]
      by_cases e0 : k = 0
      · rw [if_pos e0, if_pos e0]
      · rw [if_neg e0, if_neg e0, va_up_ne _ _ (by omega)]
    · obtain ⟨a1, a2, a3, a4, a5⟩ := h4 k (by omega)
      rw [va_up_ne _ _ e, va_up_ne _ _ (show ¬ op k = j by omega), getD_set_ne (by omega)]
      refine ⟨by omega, a2, a3, a4, ?_⟩
      rw [a5]
      by_cases e0 : k = 0
      · rw [if_pos e0, if_pos e0]
      · rw [if_neg e0, if_neg e0, va_up_ne _ _ (by omega)]
  · rw [va_up_ne op _ (show ¬ k = oc by omega)]
    by_cases e : k' = oc
    · subst e
      rw [va_up_self]
      exact ⟨(h4 k q1).1, hn k q1⟩
    · rw [va_up_ne op _ e]
      exact h5 k k' q1 (by omega)
  · by_cases e : i = j
    · exact Or.inl ⟨oc, by omega, by rw [va_up_self, e]⟩
    · rw [va_up_ne _ _ e, getD_set_ne e]
      rcases h6 i (by omega) q with ⟨k, z1, z2⟩ | z
      · exact Or.inl ⟨k, by omega, by rw [va_up_ne _ _ (by omega)]; exact z2⟩
      · exact Or.inr ⟨z.1, by omega, z.2.2⟩
  · have e : ¬ i = j := fun e => by subst e; omega
    rw [va_up_ne _ _ e, getD_set_ne e]
    have z := h7 i (by omega) q
    exact ⟨z.1, by omega, z.2.2⟩
/-- a loop is closed -/
theorem jI_end {A : Nat → List Nat} {N : Nat} {fi : Nat → Nat} {n j : Nat} {pa : Nat → Int} {op : Nat → Nat} {oc : Nat} {inn : Int} {ts : List Int} (h : jI A N fi n j pa op oc inn ts) (hj : j < n) (hk : kA A fi j = 304) (ho : 0 < oc) : inn.toNat = op (oc - 1) ∧ jI A N fi n (j + 1) (va_up (va_up pa j ((op (oc - 1) : Nat) : Int)) (op (oc - 1)) (j : Int)) op (oc - 1) (ts.getD inn.toNat 0) ((ts.set inn.toNat ((j + 1 : Nat) : Int)).set j inn) := by
  obtain ⟨h1, h2, hin, h4, h5, h6, h7, h8⟩ := h
  rw [if_neg (by omega)] at hin
  obtain ⟨a1, a2, a3, a4, a5⟩ := h4 (oc - 1) (by omega)
  have e : inn.toNat = op (oc - 1) := by omega
  refine ⟨e, ?_⟩
  rw [e]
  have hl : (ts.set (op (oc - 1)) ((j + 1 : Nat) : Int)).length = n := by rw [List.length_set]; exact h1
  refine ⟨by rw [List.length_set]; exact hl, by omega, ?_, fun k q => ?_, fun k k' q1 q2 => h5 k k' q1 (by omega), fun i hi q => ?_, fun i hi q => ?_, fun i hi q => by rw [getD_set_ne (fun z => by subst z; exact q.2 hk), getD_set_ne (fun z => by subst z; exact q.1 a2)]; exact h8 i hi q⟩
  · rw [a5]
  · obtain ⟨b1, b2, b3, b4, b5⟩ := h4 k (by omega)
    have hlt := (h5 k (oc - 1) q (by omega)).1
    rw [va_up_ne _ _ (show ¬ op k = op (oc - 1) by omega), va_up_ne _ _ (show ¬ op k = j by omega), getD_set_ne (by omega), getD_set_ne (by omega)]
    exact ⟨by omega, b2, b3, b4, b5⟩
  · have hne : ¬ i = j := fun z => by subst z; omega
    by_cases z : i = op (oc - 1)
    · subst z
      right
      rw [va_up_self, getD_set_ne hne, getD_set_eq (by omega)]
      exact ⟨by omega, by omega, by omega⟩
    · rw [va_up_ne _ _ z, va_up_ne _ _ hne, getD_set_ne hne, getD_set_ne z]
      rcases h6 i (by omega) q with ⟨k, z1, z2⟩ | w
      · left
        refine ⟨k, ?_, z2⟩
        by_cases y : k = oc - 1
        · subst y; exact absurd z2.symm z
        · omega
      · exact Or.inr ⟨w.1, by omega, w.2.2⟩
  · by_cases z : i = j
    · subst z
      rw [va_up_ne _ _ (show ¬ i = op (oc - 1) by omega), va_up_self, getD_set_eq (by omega), hin]
      exact ⟨by omega, by omega, rfl⟩
    · have z2 : ¬ i = op (oc - 1) := fun y => by rw [y] at q; omega
      rw [va_up_ne _ _ z2, va_up_ne _ _ z, getD_set_ne z, getD_set_ne z2]
      have w := h7 i (by omega) q
      exact ⟨w.1, by omega, w.2.2⟩
