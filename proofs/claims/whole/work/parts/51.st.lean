/-! the reference's state of the lines, over all tokens -/
theorem lsLab_x {tk tk2 : Nat → List Nat} {num : Nat} (h : (tk2 1).getD num 0 = (tk 1).getD num 0) (lb : Nat → Int) (x : Int) : ∀ (k : Nat) (lp : Int), lsLab tk2 lb x num k lp = lsLab tk lb x num k lp
  | 0, _ => rfl
  | k + 1, lp => by
    unfold lsLab
    rw [lsLab_x h lb x k lp]
    unfold lsLater
    rw [h]
theorem dOK_x {tk tk2 : Nat → List Nat} {jm : Nat → Int} {op : Nat → Nat} (v : Nat) : ∀ (k : Nat), (∀ i, i < k → wj tk2 jm (op i) = wj tk jm (op i)) → dOK tk2 jm op v k = dOK tk jm op v k
  | 0, _ => rfl
  | k + 1, h => by
    unfold dOK
    rw [dOK_x v k (fun i hi => h i (by omega)), h k (by omega)]
theorem oInv_wx {tk tk2 : Nat → List Nat} (hx : tkX tk tk2) (hl : tL tk) {j : Nat} {jm : Nat → Int} {op : Nat → Nat} {oc : Nat} (h : oInv tk j jm op oc) {k : Nat} (hk : k < oc) : wj tk2 jm (op k) = wj tk jm (op k) := by
  obtain ⟨h1, h2, h3, h4⟩ := h.2 k hk
  exact hx.getD hl (by decide) (by omega)
theorem lsDo_x {tk tk2 : Nat → List Nat} (hx : tkX tk tk2) (hl : tL tk) {j num : Nat} {S : LSt} (hn : num + 1 ≤ (tk 0).length) (h : oInv tk j S.2.2.1 S.2.2.2.2.1 S.2.2.2.2.2.1) : lsDo tk2 j num S = lsDo tk j num S := by
  unfold lsDo lsLater
  rw [hx.getD hl (r := 2) (by decide) (by omega), hx.getD hl (r := 1) (by decide) (by omega), dOK_x _ _ (fun i hi => oInv_wx hx hl h hi)]
theorem lsEnd_x {tk tk2 : Nat → List Nat} (hx : tkX tk tk2) (hl : tL tk) {j num : Nat} {S : LSt} (hn : num + 1 ≤ (tk 0).length) (h : oInv tk j S.2.2.1 S.2.2.2.2.1 S.2.2.2.2.2.1) : lsEnd tk2 j num S = lsEnd tk j num S := by
  unfold lsEnd lsLater
  rw [hx.getD hl (r := 2) (by decide) (by omega), hx.getD hl (r := 1) (by decide) (by omega)]
  by_cases q : 0 < S.2.2.2.2.2.1
  · rw [oInv_wx hx hl h (k := S.2.2.2.2.2.1 - 1) (by omega)]
  · have n1 : ∀ p : Prop, ¬ (0 < S.2.2.2.2.2.1 ∧ p) := fun p z => q z.1
    rw [if_neg (n1 _), if_neg (n1 _)]
theorem lsLine_x {tk tk2 : Nat → List Nat} (hx : tkX tk tk2) (hl : tL tk) (hE : tE tk) {N j a : Nat} {S : LSt} (ha : a + 1 ≤ (tk 0).length) (hq : (qLine tk N a).1 = true) (h : oInv tk j S.2.2.1 S.2.2.2.2.1 S.2.2.2.2.2.1) : lsLine tk2 N j a S = lsLine tk N j a S := by
  obtain ⟨q1, q2, q3, q4⟩ := qLine_rest hq
  have e0 : (tk2 0).getD a 0 = (tk 0).getD a 0 := hx.getD hl (by decide) (by omega)
  have eb : lnB tk2 a = lnB tk a := by unfold lnB; rw [e0]
  have hb : lnB tk a + 1 ≤ (tk 0).length := by
    unfold lnB
    split
    · rename_i z
      have := q4 z
      have := hE.lt (a := a + 1) (by omega) (by omega)
      omega
    · exact ha
  have eL : lsLabel tk2 j a (lsNew j S) = lsLabel tk j a (lsNew j S) := by
    unfold lsLabel
    rw [e0]
    by_cases z : (tk 0).getD a 0 = 78
    · have := hE.lt (a := a) (by omega) (by omega)
      rw [if_pos z, if_pos z, hx.getD hl (r := 2) (by decide) (by omega), lsLab_x (hx.getD hl (r := 1) (by decide) (by omega))]
    · rw [if_neg z, if_neg z]
  have ho : oInv tk j (lsLabel tk j a (lsNew j S)).2.2.1 (lsLabel tk j a (lsNew j S)).2.2.2.2.1 (lsLabel tk j a (lsNew j S)).2.2.2.2.2.1 := by
    unfold lsLabel
    split
    · exact h.upd (-1)
    · exact h.upd (-1)
  unfold lsLine
  rw [eb, eL]
  generalize lsLabel tk j a (lsNew j S) = S2 at ho ⊢
  generalize lnB tk a = b at *
  have ec : (tk2 0).getD b 0 = (tk 0).getD b 0 := hx.getD hl (by decide) (by omega)
  have eJ : rJ tk2 N b = rJ tk N b := by
    unfold rJ
    rw [ec]
    by_cases z : (tk 0).getD b 0 = 300 ∨ (tk 0).getD b 0 = 302
    · have hl2 := hE.lt (a := b) (by omega) (by omega)
      rw [if_pos z, if_pos z]
      have hs : tkS (tk 0).length tk tk2 := fun i hi => (hx.getD hl (by decide) hi).symm
      have hA := agr_bra hs N 20 (b + 1)
      have hB := (qb_bra hE N 20 (b + 1) (by omega)).2
      rcases hA with ⟨x1, x2⟩ | ⟨x1, x2⟩
      · rw [x1]
      · omega
    · rw [if_neg z, if_neg z]
  unfold lsRest
  rw [ec, eJ]
  by_cases c1 : (tk 0).getD b 0 = 35
  · rw [if_pos c1, if_pos c1]
  · rw [if_neg c1, if_neg c1]
    by_cases c2 : (tk 0).getD b 0 = 300
    · rw [if_pos c2, if_pos c2]
    · rw [if_neg c2, if_neg c2]
      by_cases c3 : (tk 0).getD b 0 = 301
      · rw [if_pos c3, if_pos c3]
      · rw [if_neg c3, if_neg c3]
        by_cases c4 : (tk 0).getD b 0 = 302
        · rw [if_pos c4, if_pos c4]
          have hn := (qRest_num hE q1 (Or.inr (Or.inr c4))).1
          exact lsDo_x hx hl hn (ho.upd _)
        · rw [if_neg c4, if_neg c4]
          by_cases c5 : (tk 0).getD b 0 = 304
          · have := hE.lt (a := b) (by omega) (by omega)
            rw [if_pos c5, if_pos c5]
            exact lsEnd_x hx hl (by omega) ho
          · rw [if_neg c5, if_neg c5]
theorem rlF_x (T : List Nat) (N : Nat) : ∀ (f k : Nat) (tk : Nat → List Nat) (j : Nat) (S : LSt) (fi : Nat → Nat), tL tk → (tk 0).length ≤ k → (rlF T N f k tk j S fi).1 = true → tkX tk (rlF T N f k tk j S fi).2.2.1 ∧ tL (rlF T N f k tk j S fi).2.2.1
  | 0, k, tk, j, S, fi, hl, _, _ => ⟨tkX.refl _, hl⟩
  | f + 1, k, tk, j, S, fi, hl, h3, hR => by
    by_cases q : k < T.length
    · have hcp := cuF_p T (T.length + 1) tk k (by omega) (by omega) h3 hl
      rw [rlF_s q] at hR ⊢
      generalize cuF T (T.length + 1) tk k = c at *
      by_cases hy : (qLine c.1 N (tk 0).length).1 = true
      · rw [if_pos hy] at hR ⊢
        have := rlF_x T N f c.2 c.1 (j + 1) _ _ hcp.2.1 (by omega) hR
        exact ⟨hcp.1.trans this.1, this.2⟩
      · rw [if_neg hy] at hR
        exact absurd hR Bool.false_ne_true
    · rw [rlF_e (Or.inr q)]
      exact ⟨tkX.refl _, hl⟩
