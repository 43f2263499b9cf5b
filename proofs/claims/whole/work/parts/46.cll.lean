/-! one line of the class, and the reference's -/
theorem sx_take1 {tk : Nat → List Nat} (hk : kOK tk) {k : Nat} (h0 : ¬ k = 0) (h10 : ¬ k = 10) {x : Bool × Nat × List Int32} {y : Bool × Nat × List Int} {a : Nat} {co : List Int} (h : SimX 0 x y a co) (ht : (pThen y (pTake tk k)).1 = true) : SimX 1 (rThen x (rTake tk k)) (pThen y (pTake tk k)) a co := by
  obtain ⟨rfl, h1, h2, h3⟩ := h
  obtain ⟨b, i, c⟩ := y
  dsimp only at *
  cases b with
  | false => exact absurd ht Bool.false_ne_true
  | true =>
    have ht2 : (pTake tk k i c).1 = true := ht
    unfold pTake at ht2
    split at ht2
    · rename_i q
      have := hk.lt (a := i) (by omega) (by omega)
      have e1 : pThen (true, i, c) (pTake tk k) = (true, i + 1, c) := (show pTake tk k i c = _ from if_pos q)
      have e2 : rThen (true, i, c.map iI) (rTake tk k) = (true, i + 1, c.map iI) := (show rTake tk k i (c.map iI) = _ from if_pos q)
      rw [e1, e2]
      exact ⟨rfl, by show a ≤ i + 1; omega, by show i + 1 ≤ 8000; omega, by show c.length + a + 1 ≤ co.length + (i + 1); omega⟩
    · exact absurd ht2 Bool.false_ne_true
theorem pThen_no {x : Bool × Nat × List Int} (h : ¬ x.1 = true) (f : Nat → List Int → Bool × Nat × List Int) : pThen x f = x := if_neg h
theorem rThen_no {x : Bool × Nat × List Int32} (h : ¬ x.1 = true) (f : Nat → List Int32 → Bool × Nat × List Int32) : rThen x f = x := if_neg h
theorem rThenL_id {x : Bool × Nat × List Int32} {y : Bool × Nat × List Int} {F : Nat → List Int32} (e : x = (y.1, y.2.1, y.2.2.map iI)) : rThenL x F (fun a F => (true, a, F)) = (y.1, y.2.1, va_up F 0 (y.2.2.map iI)) := by
  subst e
  obtain ⟨b, i, c⟩ := y
  cases b <;> rfl
theorem pTake_le {tk : Nat → List Nat} {k : Nat} (y : Bool × Nat × List Int) : (pThen y (pTake tk k)).2.2 = y.2.2 ∧ y.2.1 ≤ (pThen y (pTake tk k)).2.1 := by
  unfold pThen
  split
  · unfold pTake
    split
    · exact ⟨rfl, by show y.2.1 ≤ y.2.1 + 1; omega⟩
    · exact ⟨rfl, Nat.le_refl _⟩
  · exact ⟨rfl, Nat.le_refl _⟩
theorem pTake_ok {tk : Nat → List Nat} {k : Nat} {y : Bool × Nat × List Int} (h : (pThen y (pTake tk k)).1 = true) : y.1 = true ∧ (pThen y (pTake tk k)).2.1 = y.2.1 + 1 ∧ (tk 0).getD y.2.1 0 = k := by
  obtain ⟨b, i, c⟩ := y
  cases b with
  | false => exact absurd h Bool.false_ne_true
  | true =>
    have h2 : (pTake tk k i c).1 = true := h
    show true = true ∧ (pTake tk k i c).2.1 = i + 1 ∧ _
    unfold pTake at h2 ⊢
    by_cases q : (tk 0).getD i 0 = k
    · rw [if_pos q]; exact ⟨rfl, rfl, q⟩
    · rw [if_neg q] at h2; exact absurd h2 Bool.false_ne_true
theorem lnK_y {tk : Nat → List Nat} {b c : Nat} (h : (tk 0).getD b 0 = c) (hc : c = 300 ∨ c = 301 ∨ c = 302 ∨ c = 304) : lnK tk b = c := by
  unfold lnK
  rw [if_pos (by omega)]
  exact h
theorem lnK_n {tk : Nat → List Nat} {b : Nat} (h : ¬ ((tk 0).getD b 0 = 300 ∨ (tk 0).getD b 0 = 301 ∨ (tk 0).getD b 0 = 302 ∨ (tk 0).getD b 0 = 304)) : lnK tk b = 0 := if_neg h
def rstLn (tk : Nat → List Nat) (N b n : Nat) (u : Int) (v : Nat) : LnR := (n, lnK tk b, u, v, if lnK tk b = 0 then -1 else (((tk 2).getD (rJ tk N b) 0 : Nat) : Int), if lnK tk b = 0 then 0 else (tk 1).getD (rJ tk N b) 0)
theorem rstLn_y {tk : Nat → List Nat} {N b n : Nat} {u : Int} {v c : Nat} (h : lnK tk b = c) (hc : ¬ c = 0) : rstLn tk N b n u v = (n, c, u, v, (((tk 2).getD (rJ tk N b) 0 : Nat) : Int), (tk 1).getD (rJ tk N b) 0) := by
  unfold rstLn
  rw [h, if_neg hc, if_neg hc]
theorem rstLn_n {tk : Nat → List Nat} {N b n : Nat} {u : Int} {v : Nat} (h : lnK tk b = 0) : rstLn tk N b n u v = (n, 0, u, v, -1, 0) := by
  unfold rstLn
  rw [h, if_pos rfl, if_pos rfl]
theorem rst_num {tk : Nat → List Nat} (hE : tE tk) (hL : (tk 0).length ≤ 8001) (hk : kOK tk) {N : Nat} (hN : (tk 0).length ≤ N) {b w t : Nat} {co : List Int} {F : Nat → List Int32} (hF : F 0 = co.map iI) (hco : co.length ≤ b) (c : (tk 0).getD b 0 = w) (hw : w = 300 ∨ w = 302) (ht : ¬ t = 0 ∧ ¬ t = 10) :
    (rThenL (rThen (rBra tk 20 (b + 1) (F 0)) (rTake tk t)) F (rNum tk w)).1 = (pThen (pThen (pBra tk 20 (b + 1) co) (pTake tk t)) (pTake tk 256)).1 ∧ (rThenL (rThen (rBra tk 20 (b + 1) (F 0)) (rTake tk t)) F (rNum tk w)).2.1 = (pThen (pThen (pBra tk 20 (b + 1) co) (pTake tk t)) (pTake tk 256)).2.1 ∧ (pThen (pThen (pBra tk 20 (b + 1) co) (pTake tk t)) (pTake tk 256)).2.2.length ≤ (pThen (pThen (pBra tk 20 (b + 1) co) (pTake tk t)) (pTake tk 256)).2.1 ∧
    (∀ (ls : List LnR) (n : Nat) (u : Int) (v : Nat), F = rowsF co (ls ++ [(n, 0, u, v, -1, 0)]) → (pThen (pThen (pBra tk 20 (b + 1) co) (pTake tk t)) (pTake tk 256)).1 = true → (rThenL (rThen (rBra tk 20 (b + 1) (F 0)) (rTake tk t)) F (rNum tk w)).2.2 = rowsF (pThen (pThen (pBra tk 20 (b + 1) co) (pTake tk t)) (pTake tk 256)).2.2 (ls ++ [rstLn tk N b n u v])) := by
  have hb := hk.lt (a := b) (by omega) (by omega)
  have hl := hE.lt (a := b) (by omega) (by omega)
  have hs := sx_then (sx_next (sim_bra hk 20 (b + 1) co (by omega) (by omega))) hco (sim_take hk ht.1 ht.2)
  rw [← hF] at hs
  have hp := pq_bra hE hL hN 20 (b + 1) co (by omega)
  have h1 := rThenL_take (tk := tk) (F := F) (word := w) hs.1
  have h2 := pTake_le (tk := tk) (k := 256) (pThen (pBra tk 20 (b + 1) co) (pTake tk t))
  have h3 := hs.2.2.2
  refine ⟨h1.1, h1.2.1, ?_, ?_⟩
  · rw [h2.1]; omega
  · intro ls n u v hr hok
    have k1 := pTake_ok hok
    have k2 := pTake_ok k1.1
    have h4 := h1.2.2 k1.1
    rw [h4.1, h4.2, hr, rowsF_code, nI_iI ((tk 2).getD _ 0), rowsF_clo, k2.2.1, hp.2, rstLn_y (lnK_y c (by omega)) (by omega)]
    have e : rJ tk N b = (qBra tk N 20 (b + 1)).2 + 1 := if_pos (by omega)
    rw [e]
theorem rst_sim {tk : Nat → List Nat} (hE : tE tk) (hL : (tk 0).length ≤ 8001) (hk : kOK tk) {N : Nat} (hN : (tk 0).length ≤ N) {b : Nat} {co : List Int} {F : Nat → List Int32} (hF : F 0 = co.map iI) (hb : b ≤ 8000) (hco : co.length ≤ b) :
    (rRest tk b F).1 = (pRst tk b co).1 ∧ (rRest tk b F).2.1 = (pRst tk b co).2.1 ∧ (pRst tk b co).2.2.length ≤ (pRst tk b co).2.1 ∧
    (∀ (ls : List LnR) (n : Nat) (u : Int) (v : Nat), F = rowsF co (ls ++ [(n, 0, u, v, -1, 0)]) → (pRst tk b co).1 = true → (rRest tk b F).2.2 = rowsF (pRst tk b co).2.2 (ls ++ [rstLn tk N b n u v])) := by
  unfold rRest pRst
  by_cases c1 : (tk 0).getD b 0 = 35
  · have hb2 := hk.lt (a := b) (by omega) (by omega)
    rw [if_pos c1, if_pos c1]
    have h2 := sx_wr (k := 3) (sx_next (sim_pl hk (sim_bra hk 20) (b + 1) co (by omega) (by omega))) hco
    have h5 : SimX 0 (rThen (rThen (rThen (rThen (rPl tk (rBra tk 20) (b + 1) (co.map iI)) (rWr 3)) (rTake tk 61)) (rSum tk 20)) (rWr 4)) (pThen (pThen (pThen (pThen (pPl tk (pBra tk 20) (b + 1) co) (pWr 3)) (pTake tk 61)) (pSeq tk jnP (pSeq tk jnF (pFac tk 20)))) (pWr 4)) b co := by
      by_cases ok : (pThen (pThen (pPl tk (pBra tk 20) (b + 1) co) (pWr 3)) (pTake tk 61)).1 = true
      · exact sx_wr (sx_then (sx_take1 hk (by decide) (by decide) h2 ok) hco (sim_sum hk 20)) hco
      · have h3 := sx_then h2 hco (sim_take hk (k := 61) (by decide) (by decide))
        have ok2 : ¬ (rThen (rThen (rPl tk (rBra tk 20) (b + 1) (co.map iI)) (rWr 3)) (rTake tk 61)).1 = true := by rw [h3.1]; exact ok
        rw [pThen_no ok, pThen_no ok, rThen_no ok2, rThen_no ok2]
        exact h3
    rw [← hF] at h5
    have h6 := rThenL_id (F := F) h5.1
    have h7 := h5.2.2.2
    rw [h6]
    refine ⟨rfl, rfl, by omega, ?_⟩
    intro ls n u v hr _
    rw [hr, rowsF_code, rstLn_n (lnK_n (by omega))]
  · rw [if_neg c1, if_neg c1]
    by_cases c2 : (tk 0).getD b 0 = 300
    · rw [if_pos c2, if_pos c2]
      exact rst_num hE hL hk hN hF hco c2 (Or.inl rfl) (by decide)
    · rw [if_neg c2, if_neg c2]
      by_cases c3 : (tk 0).getD b 0 = 302
      · rw [if_pos c3, if_pos c3]
        exact rst_num hE hL hk hN hF hco c3 (Or.inr rfl) (by decide)
      · rw [if_neg c3, if_neg c3]
        by_cases c4 : (tk 0).getD b 0 = 301 ∨ (tk 0).getD b 0 = 304
        · rw [if_pos c4, if_pos c4]
          have hb2 := hk.lt (a := b) (by omega) (by omega)
          have e1 : ∀ z : List Int32, (rTake tk 256 (b + 1) z).1 = (pTake tk 256 (b + 1) co).1 ∧ (rTake tk 256 (b + 1) z).2.1 = (pTake tk 256 (b + 1) co).2.1 ∧ (pTake tk 256 (b + 1) co).2.2 = co ∧ b + 1 ≤ (pTake tk 256 (b + 1) co).2.1 := by
            intro z
            unfold rTake pTake
            split
            · exact ⟨rfl, rfl, rfl, by show b + 1 ≤ b + 1 + 1; omega⟩
            · exact ⟨rfl, rfl, rfl, Nat.le_refl _⟩
          obtain ⟨e2, e3, e4, e5⟩ := e1 (F 0)
          refine ⟨e2, e3, by rw [e4]; omega, ?_⟩
          intro ls n u v hr _
          show pClo F (nI ((tk 0).getD b 0)) (nI ((tk 2).getD (b + 1) 0)) (nI ((tk 1).getD (b + 1) 0)) = _
          rw [e4, hr, nI_iI ((tk 2).getD _ 0), rowsF_clo, rstLn_y (lnK_y (c := (tk 0).getD b 0) rfl (by omega)) (by omega)]
          have e : rJ tk N b = b + 1 := if_neg (by omega)
          rw [e]
        · rw [if_neg c4, if_neg c4]
          refine ⟨rfl, rfl, hco, ?_⟩
          intro ls n u v hr _
          show F = _
          rw [hr, rstLn_n (lnK_n (by omega))]
theorem labC {tk : Nat → List Nat} {a : Nat} {G : Nat → List Int32} : (rLab tk a G).1 = (qLab tk a).1 ∧ (rLab tk a G).2.1 = (qLab tk a).2 ∧ ((qLab tk a).1 = true → (qLab tk a).2 = lnB tk a ∧ (rLab tk a G).2.2 = (if (tk 0).getD a 0 = 78 then pLab G (nI ((tk 2).getD (a + 1) 0)) (nI ((tk 1).getD (a + 1) 0)) else G) ∧ ((tk 0).getD a 0 = 78 → (tk 0).getD (a + 1) 0 = 256)) := by
  unfold rLab qLab lnB
  by_cases c : (tk 0).getD a 0 = 78
  · rw [if_pos c, if_pos c, if_pos c, if_pos c]
    unfold rTake qTake
    by_cases c2 : (tk 0).getD (a + 1) 0 = 256
    · rw [if_pos c2, if_pos c2]
      exact ⟨rfl, rfl, fun _ => ⟨rfl, rfl, fun _ => c2⟩⟩
    · rw [if_neg c2, if_neg c2]
      exact ⟨rfl, rfl, fun h => absurd h Bool.false_ne_true⟩
  · rw [if_neg c, if_neg c, if_neg c, if_neg c]
    exact ⟨rfl, rfl, fun _ => ⟨rfl, rfl, fun h => absurd h c⟩⟩
