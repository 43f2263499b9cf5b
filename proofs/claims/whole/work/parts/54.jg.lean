/-! joining: labels, and the jumps to them -/
theorem lkF_lo {lb : List Int} {lbf : Nat → Int} {x : Int} {b : Nat} (h : ∀ i, i < b → lbf i = lb.getD i 0) : ∀ (f j : Nat), j + f = b → (loF lbf x f j = -1 ∧ lkF lb x b f j = b) ∨ (loF lbf x f j = ((lkF lb x b f j : Nat) : Int) ∧ lkF lb x b f j < b)
  | 0, j, _ => Or.inl ⟨rfl, rfl⟩
  | f + 1, j, e => by
    unfold loF lkF
    rw [if_neg (show ¬ b ≤ j by omega), h j (by omega)]
    by_cases q : lb.getD j 0 = x
    · rw [if_pos q, if_pos q]
      exact Or.inr ⟨rfl, by omega⟩
    · rw [if_neg q, if_neg q]
      exact lkF_lo h f (j + 1) (by omega)
theorem lkFirst_lo {lb : List Int} {lbf : Nat → Int} {x : Int} {b : Nat} (h : ∀ i, i < b → lbf i = lb.getD i 0) : (lo lbf x b = -1 ∧ lkFirst lb x b = b) ∨ (lo lbf x b = ((lkFirst lb x b : Nat) : Int) ∧ lkFirst lb x b < b) := lkF_lo h b 0 (by omega)
theorem loF_ex (lb : Nat → Int) (x : Int) : ∀ (f k : Nat), loF lb x f k = -1 ↔ ∀ i, k ≤ i → i < k + f → ¬ lb i = x
  | 0, k => ⟨fun _ i h1 h2 => by omega, fun _ => rfl⟩
  | f + 1, k => by
    unfold loF
    by_cases q : lb k = x
    · rw [if_pos q]
      exact ⟨fun h => by omega, fun h => absurd q (h k (Nat.le_refl k) (by omega))⟩
    · rw [if_neg q, loF_ex lb x f (k + 1)]
      refine ⟨fun h i h1 h2 => ?_, fun h i h1 h2 => h i (by omega) (by omega)⟩
      by_cases e : i = k
      · rw [e]; exact q
      · exact h i (by omega) (by omega)
theorem later_2 (tk : Nat → List Nat) (num : Nat) (lp : Int) : lsLater tk num (lsLater tk num lp) = lsLater tk num lp := by
  unfold lsLater
  by_cases q : lp < 0
  · rw [if_pos q, if_neg (by omega)]
  · rw [if_neg q, if_neg q]
theorem later_ge (tk : Nat → List Nat) (num : Nat) {lp : Int} (h : 0 ≤ lp) : lsLater tk num lp = lp := if_neg (by omega)
theorem later_no (tk : Nat → List Nat) (num : Nat) {lp : Int} (h : lp < 0) : lsLater tk num lp = (((tk 1).getD num 0 : Nat) : Int) := if_pos h
/-- a label that stood before -/
theorem lsLab_v (tk : Nat → List Nat) (lb : Nat → Int) (x : Int) (num : Nat) (lp : Int) : ∀ k : Nat, lsLab tk lb x num k lp = if lo lb x k = -1 then lp else lsLater tk num lp
  | 0 => rfl
  | k + 1 => by
    have h1 := loF_ex lb x k 0
    have h2 := loF_ex lb x (k + 1) 0
    unfold lsLab
    rw [lsLab_v tk lb x num lp k]
    unfold lo
    by_cases q : lb k = x
    · have n2 : ¬ loF lb x (k + 1) 0 = -1 := fun z => h2.mp z k (Nat.zero_le _) (by omega) q
      rw [if_pos q, if_neg n2]
      split
      · rfl
      · exact later_2 tk num lp
    · rw [if_neg q]
      by_cases z : loF lb x k 0 = -1
      · have z2 : loF lb x (k + 1) 0 = -1 := h2.mpr (fun i a b => by
          by_cases e : i = k
          · rw [e]; exact q
          · exact h1.mp z i a (by omega))
        rw [if_pos z, if_pos z2]
      · have z2 : ¬ loF lb x (k + 1) 0 = -1 := fun y => z (h1.mpr (fun i a b => h2.mp y i a (by omega)))
        rw [if_neg z, if_neg z2]
theorem ba2_stay {tk : Nat → List Nat} {so : Nat → Nat} {lb jm : Nat → Int} {ln : Nat} {lp : Int} {k : Nat} (h : 0 ≤ ba2 tk so lb jm ln k lp) : ∀ d : Nat, ba2 tk so lb jm ln (k + d) lp = ba2 tk so lb jm ln k lp
  | 0 => rfl
  | d + 1 => by
    have ih := ba2_stay h d
    show (if _ then lsLater _ _ (ba2 tk so lb jm ln (k + d) lp) else ba2 tk so lb jm ln (k + d) lp) = _
    rw [ih, later_ge _ _ h]
    split <;> rfl
theorem getD_set_ne {ts : List Int} {i j : Nat} {x : Int} (h : ¬ i = j) : (ts.set j x).getD i 0 = ts.getD i 0 := by
  rw [List.getD_eq_getElem?_getD, List.getD_eq_getElem?_getD, List.getElem?_set_ne (fun e => h e.symm)]
theorem getD_set_eq {ts : List Int} {j : Nat} {x : Int} (h : j < ts.length) : (ts.set j x).getD j 0 = x := by
  rw [List.getD_eq_getElem?_getD, List.getElem?_set_self h]
  rfl
/-- the jumps: the class's pass and the reference's -/
theorem jg_A {tk : Nat → List Nat} {so : Nat → Nat} {lbf jm : Nat → Int} {n : Nat} {ks np : List Nat} {lb nu : List Int} (hs : ∀ i, i < n → (so i = 3 ∨ so i = 4 ↔ ks.getD i 0 = 301 ∨ ks.getD i 0 = 300)) (hl : ∀ i, i < n → lbf i = lb.getD i 0) (hv : ∀ i, i < n → so i = 3 ∨ so i = 4 → nu.getD i 0 = ((wj tk jm i : Nat) : Int) ∧ np.getD i 0 = (tk 1).getD (jm i).toNat 0) :
    ∀ (f j : Nat) (ts : List Int), n < f + j → j ≤ n → ts.length = n → ba2 tk so lbf jm n j (-1) = -1 →
      (lkJG n ks np lb nu f j ts).1 = ba2 tk so lbf jm n n (-1) ∧ ((lkJG n ks np lb nu f j ts).1 = -1 → (lkJG n ks np lb nu f j ts).2.length = n ∧ ∀ i, i < n → (j ≤ i → so i = 3 ∨ so i = 4 → (lkJG n ks np lb nu f j ts).2.getD i 0 = lo lbf ((wj tk jm i : Nat) : Int) n ∧ 0 ≤ lo lbf ((wj tk jm i : Nat) : Int) n) ∧ (i < j ∨ ¬ (so i = 3 ∨ so i = 4) → (lkJG n ks np lb nu f j ts).2.getD i 0 = ts.getD i 0))
  | 0, j, ts, h, h2, _, _ => by omega
  | f + 1, j, ts, h, h2, ht, hb => by
    rw [lkJG_s]
    by_cases q : n ≤ j
    · have e : j = n := by omega
      subst e
      rw [if_pos q]
      exact ⟨hb.symm, fun _ => ⟨ht, fun i hi => ⟨fun h3 => by omega, fun _ => rfl⟩⟩⟩
    · rw [if_neg q]
      by_cases c : ks.getD j 0 = 301 ∨ ks.getD j 0 = 300
      · have hso := (hs j (by omega)).mpr c
        obtain ⟨v1, v2⟩ := hv j (by omega) hso
        rw [if_pos c, v1, v2]
        rcases lkFirst_lo (x := ((wj tk jm j : Nat) : Int)) hl with ⟨e1, e2⟩ | ⟨e1, e2⟩
        · rw [if_pos e2]
          have eb : ba2 tk so lbf jm n (j + 1) (-1) = (((tk 1).getD (jm j).toNat 0 : Nat) : Int) := by
            show (if _ then _ else _) = _
            rw [if_pos ⟨hso, by rw [e1]; decide⟩, hb, later_no _ _ (by decide)]
          have est := ba2_stay (tk := tk) (so := so) (lb := lbf) (jm := jm) (ln := n) (lp := -1) (k := j + 1) (by rw [eb]; omega) (n - (j + 1))
          rw [show j + 1 + (n - (j + 1)) = n by omega, eb] at est
          rw [est]
          exact ⟨rfl, fun z => by dsimp only at z; omega⟩
        · rw [if_neg (by omega)]
          have eb : ba2 tk so lbf jm n (j + 1) (-1) = -1 := by
            show (if _ then _ else _) = _
            rw [if_neg (fun z => by have := z.2; omega), hb]
          have ih := jg_A hs hl hv f (j + 1) (ts.set j ((lkFirst lb ((wj tk jm j : Nat) : Int) n : Nat) : Int)) (by omega) (by omega) (by rw [List.length_set]; exact ht) eb
          refine ⟨ih.1, fun z => ?_⟩
          obtain ⟨i1, i2⟩ := ih.2 z
          refine ⟨i1, fun i hi => ⟨fun h3 h4 => ?_, fun h3 => ?_⟩⟩
          · by_cases e : i = j
            · subst e
              rw [(i2 i hi).2 (Or.inl (by omega)), getD_set_eq (by omega), e1]
              exact ⟨rfl, by omega⟩
            · exact (i2 i hi).1 (by omega) h4
          · have hne : ¬ i = j := fun e => by subst e; rcases h3 with h3 | h3 <;> first | omega | exact h3 hso
            rw [(i2 i hi).2 (h3.elim (fun z => Or.inl (by omega)) Or.inr), getD_set_ne hne]
      · rw [if_neg c]
        have hso : ¬ (so j = 3 ∨ so j = 4) := fun z => c ((hs j (by omega)).mp z)
        have eb : ba2 tk so lbf jm n (j + 1) (-1) = -1 := by
          show (if _ then _ else _) = _
          rw [if_neg (fun z => hso z.1), hb]
        have ih := jg_A hs hl hv f (j + 1) ts (by omega) (by omega) ht eb
        refine ⟨ih.1, fun z => ?_⟩
        obtain ⟨i1, i2⟩ := ih.2 z
        refine ⟨i1, fun i hi => ⟨fun h3 h4 => ?_, fun h3 => ?_⟩⟩
        · have hne : ¬ i = j := fun e => by subst e; exact hso h4
          exact (i2 i hi).1 (by omega) h4
        · by_cases e : i = j
          · subst e
            exact (i2 i hi).2 (Or.inl (by omega))
          · exact (i2 i hi).2 (h3.elim (fun z => Or.inl (by omega)) Or.inr)
