/-! the class's tokens and the reference's, line by line -/
def gF (T : List Nat) (f : Nat) (tk : Nat → List Nat) (i la : Nat) : Nat → List Nat := if ¬ (spF T f tk i la).2.2 = 10 ∧ ¬ (spF T f tk i la).2.2 = 0 then tkEnd T (spF T f tk i la).1 else (spF T f tk i la).1
theorem tkAll_g (T : List Nat) : tkAll T = gF T 8001 (fun _ => []) 0 10 := rfl
theorem gF_step {T : List Nat} {f : Nat} {tk : Nat → List Nat} {i la : Nat} (h : i < T.length) (h2 : ¬ la = 0) : gF T (f + 1) tk i la = gF T f (tkAdd tk (tkTok T i).1 (tkTok T i).2.1 (tkTok T i).2.2.1) (tkTok T i).2.2.2 (tkTok T i).1 := by
  unfold gF
  rw [spF_step rfl ⟨h, h2⟩]
theorem gF_0 (T : List Nat) (f : Nat) (tk : Nat → List Nat) (i : Nat) : gF T f tk i 0 = tk := by
  unfold gF
  rw [spF_end (Or.inr (fun q => q.2 rfl))]
  exact if_neg (fun q => q.2 rfl)
theorem gF_10 {T : List Nat} {i : Nat} (h : T.length ≤ i) (f : Nat) (tk : Nat → List Nat) : gF T f tk i 10 = tk := by
  unfold gF
  rw [spF_end (Or.inr (fun q => by omega))]
  exact if_neg (fun q => q.1 rfl)
theorem gF_e {T : List Nat} {i la : Nat} (h : T.length ≤ i) (h1 : ¬ la = 10) (h2 : ¬ la = 0) (f : Nat) (tk : Nat → List Nat) : gF T f tk i la = tkEnd T tk := by
  unfold gF
  rw [spF_end (Or.inr (fun q => by omega))]
  exact if_pos ⟨h1, h2⟩
theorem oT_ten {T : List Nat} {k : Nat} (h : (oT T k).1 = 10) : (oT T k).2.2.2 = k + 1 := by
  unfold oT at h ⊢
  by_cases q1 : isDg (T.getD k 0) = true
  · rw [if_pos q1] at h
    dsimp only at h
    unfold nK at h
    split at h
    · omega
    · split at h <;> omega
  · rw [if_neg q1] at h ⊢
    by_cases q2 : 65 ≤ T.getD k 0 ∧ T.getD k 0 ≤ 90
    · rw [if_pos q2] at h
      dsimp only at h
      unfold wTok at h
      split at h
      · dsimp only at h; omega
      · dsimp only at h; omega
    · rw [if_neg q2]
theorem getD_gt {l : List Nat} {j : Nat} (h : l.length ≤ j) : l.getD j 0 = 0 := by
  rw [List.getD_eq_getElem?_getD, List.getElem?_eq_none h]
  rfl
theorem tkAdd_g0 (tk : Nat → List Nat) (k s w j : Nat) : (tkAdd tk k s w 0).getD j 0 = if j = (tk 0).length then k else (tk 0).getD j 0 := getD_snoc (tk 0) k j
theorem tkAdd_g1 {tk : Nat → List Nat} (hl : tL tk) (k s w j : Nat) : (tkAdd tk k s w 1).getD j 0 = if j = (tk 0).length then s else (tk 1).getD j 0 := by
  rw [← hl.1]
  exact getD_snoc (tk 1) s j
theorem cuF_n10 (T : List Nat) : ∀ (f : Nat) (tk : Nat → List Nat) (i j : Nat), T.length < f + i → i ≤ T.length → (tk 0).length ≤ i → tL tk → (tk 0).length ≤ j → ((cuF T f tk i).1 0).getD j 0 = 10 → j + 1 = ((cuF T f tk i).1 0).length
  | 0, tk, i, j, h, h2, _, _, _, _ => by omega
  | f + 1, tk, i, j, h, h2, h3, hl, hj, he => by
    obtain ⟨b1, b2, b3, b4, b5, b6⟩ := uTok_b h2
    unfold cuF at he ⊢
    by_cases c0 : (uTok T i).1 = 0
    · rw [if_pos c0] at he
      dsimp only at he
      rw [tkAdd_g0] at he
      split at he
      · omega
      · rw [getD_gt hj] at he; omega
    · rw [if_neg c0] at he ⊢
      by_cases c1 : (uTok T i).1 = 10
      · rw [if_pos c1] at he ⊢
        dsimp only at he ⊢
        rw [tkAdd_g0] at he
        rw [tkAdd_l]
        split at he
        · omega
        · rw [getD_gt hj] at he; omega
      · rw [if_neg c1] at he ⊢
        have h4 := b4 c1
        have hl2 := tL_add hl (uTok T i).1 (uTok T i).2.1 (uTok T i).2.2.1
        have hr := cuF_p T f (tkAdd tk (uTok T i).1 (uTok T i).2.1 (uTok T i).2.2.1) (uTok T i).2.2.2 (by omega) (by omega) (by rw [tkAdd_l]; omega) hl2
        by_cases e : j = (tk 0).length
        · rw [hr.1.getD hl2 (by decide) (by rw [tkAdd_l]; omega), tkAdd_g0, if_pos e] at he
          exact absurd he c1
        · exact cuF_n10 T f _ _ j (by omega) (by omega) (by rw [tkAdd_l]; omega) hl2 (by rw [tkAdd_l]; omega) he
/-- a line's tokens stand from its first one on, in the text -/
theorem cuF_pl (T : List Nat) : ∀ (f : Nat) (tk : Nat → List Nat) (i j : Nat), T.length < f + i → i ≤ T.length → (tk 0).length ≤ i → tL tk → (tk 0).length ≤ j → j < ((cuF T f tk i).1 0).length → pb T i ≤ ((cuF T f tk i).1 1).getD j 0 ∧ ((cuF T f tk i).1 1).getD j 0 ≤ T.length
  | 0, tk, i, j, h, h2, _, _, _, _ => by omega
  | f + 1, tk, i, j, h, h2, h3, hl, hj, he => by
    obtain ⟨b1, b2, b3, b4, b5, b6⟩ := uTok_b h2
    have hp := uTok_pl T i
    unfold cuF at he ⊢
    by_cases c0 : (uTok T i).1 = 0
    · rw [if_pos c0] at he ⊢
      dsimp only at he ⊢
      rw [tkAdd_l] at he
      rw [tkAdd_g1 hl, if_pos (by omega)]
      omega
    · rw [if_neg c0] at he ⊢
      by_cases c1 : (uTok T i).1 = 10
      · rw [if_pos c1] at he ⊢
        dsimp only at he ⊢
        rw [tkAdd_l] at he
        rw [tkAdd_g1 hl, if_pos (by omega)]
        omega
      · rw [if_neg c1] at he ⊢
        have h4 := b4 c1
        have hl2 := tL_add hl (uTok T i).1 (uTok T i).2.1 (uTok T i).2.2.1
        have hr := cuF_p T f (tkAdd tk (uTok T i).1 (uTok T i).2.1 (uTok T i).2.2.1) (uTok T i).2.2.2 (by omega) (by omega) (by rw [tkAdd_l]; omega) hl2
        by_cases e : j = (tk 0).length
        · rw [hr.1.getD hl2 (by decide) (by rw [tkAdd_l]; omega), tkAdd_g1 hl, if_pos e]
          omega
        · have h5 := cuF_pl T f _ _ j (by omega) (by omega) (by rw [tkAdd_l]; omega) hl2 (by rw [tkAdd_l]; omega) he
          have h6 := oT_n (T := T) (k := pb T i)
          have h7 : pb T i ≤ (uTok T i).2.2.2 := by
            unfold uTok
            by_cases q : T.length ≤ pb T i
            · rw [if_pos q]; show pb T i ≤ T.length + 1; omega
            · rw [if_neg q]; have := h6 (by omega); omega
          have h8 := pb_ge (T := T) (i := (uTok T i).2.2.2) (by omega)
          omega
/-- the class's tokens, over a line c of the reference -/
def gLn (T : List Nat) (tk : Nat → List Nat) (c : (Nat → List Nat) × Nat) (A : Nat → List Nat) : Prop :=
  ((∃ g2, min T.length 8000 < g2 + c.2 ∧ (T.length ≤ 8000 ∨ c.2 ≤ 8000) ∧ A = gF T g2 c.1 c.2 10) ∧ (∀ j, (tk 0).length ≤ j → j < (c.1 0).length → (c.1 1).getD j 0 ≤ 8000)) ∨
  (((c.1 0).getD ((c.1 0).length - 1) 0 = 0 ∧ A = c.1) ∧ (∀ j, (tk 0).length ≤ j → j < (c.1 0).length → (c.1 1).getD j 0 ≤ 8000)) ∨
  (8000 < T.length ∧ ∃ tk3 : Nat → List Nat, tkX tk3 c.1 ∧ tL tk3 ∧ (tk 0).length ≤ (tk3 0).length ∧ (tk3 0).length + 1 ≤ (c.1 0).length ∧ A = tkAdd tk3 0 8000 0 ∧ (∀ j, (tk 0).length ≤ j → j < (tk3 0).length → (tk3 1).getD j 0 ≤ 8000) ∧ (∀ j, (tk3 0).length ≤ j → j < (c.1 0).length → 8000 ≤ (c.1 1).getD j 0))
theorem gF_line (T : List Nat) : ∀ (f : Nat) (tk : Nat → List Nat) (i la g : Nat), T.length < f + i → i ≤ T.length → (tk 0).length ≤ i → tL tk → 1 ≤ g → min T.length 8000 < g + i → ¬ la = 0 → (i < T.length ∨ ¬ la = 10) → gLn T tk (cuF T f tk i) (gF T g tk i la)
  | 0, tk, i, la, g, h, h2, _, _, _, _, _, _ => by omega
  | f + 1, tk, i, la, g, h, h2, h3, hl, hg, hg2, hla, hi => by
    have hcp := cuF_p T (f + 1) tk i h h2 h3 hl
    have hpl := fun j => cuF_pl T (f + 1) tk i j h h2 h3 hl
    obtain ⟨b1, b2, b3, b4, b5, b6⟩ := uTok_b h2
    have hp := uTok_pl T i
    by_cases hlt : i < T.length
    · obtain ⟨g', rfl⟩ : ∃ g', g = g' + 1 := ⟨g - 1, by omega⟩
      rw [gF_step hlt hla]
      by_cases h8 : T.length ≤ 8000 ∨ pb T i < 8000
      · rw [tkTok_u h8]
        have hu : ∀ k w, ∀ j, (tk 0).length ≤ j → j < (tkAdd tk k (uTok T i).2.1 w 0).length → (tkAdd tk k (uTok T i).2.1 w 1).getD j 0 ≤ 8000 := by
          intro k w j hj hj2
          rw [tkAdd_l] at hj2
          rw [tkAdd_g1 hl, if_pos (by omega)]
          omega
        by_cases c0 : (uTok T i).1 = 0
        · have e : cuF T (f + 1) tk i = (tkAdd tk 0 (uTok T i).2.1 0, T.length) := if_pos c0
          rw [e, uTok_w0 (Or.inl c0), c0, gF_0]
          refine Or.inr (Or.inl ⟨⟨?_, rfl⟩, hu 0 0⟩)
          dsimp only
          rw [tkAdd_l, tkAdd_g0, if_pos (by omega)]
        · by_cases c1 : (uTok T i).1 = 10
          · have e : cuF T (f + 1) tk i = (tkAdd tk 10 (uTok T i).2.1 0, (uTok T i).2.2.2) := (if_neg c0).trans (if_pos c1)
            rw [e, uTok_w0 (Or.inr c1), c1]
            refine Or.inl ⟨⟨g', ?_, ?_, rfl⟩, hu 10 0⟩
            · have := b3 c1
              dsimp only
              omega
            · rcases h8 with q | q
              · exact Or.inl q
              · by_cases q2 : T.length ≤ 8000
                · exact Or.inl q2
                · right
                  have e2 : uTok T i = oT T (pb T i) := if_neg (by omega)
                  rw [e2] at c1
                  have := oT_ten c1
                  rw [← e2] at this
                  dsimp only
                  omega
          · have e : cuF T (f + 1) tk i = cuF T f (tkAdd tk (uTok T i).1 (uTok T i).2.1 (uTok T i).2.2.1) (uTok T i).2.2.2 := (if_neg c0).trans (if_neg c1)
            have h4 := b4 c1
            have hl2 := tL_add hl (uTok T i).1 (uTok T i).2.1 (uTok T i).2.2.1
            have hr := gF_line T f (tkAdd tk (uTok T i).1 (uTok T i).2.1 (uTok T i).2.2.1) (uTok T i).2.2.2 (uTok T i).1 g' (by omega) (by omega) (by rw [tkAdd_l]; omega) hl2 (by omega) (by omega) c0 (Or.inr c1)
            have hrp := cuF_p T f (tkAdd tk (uTok T i).1 (uTok T i).2.1 (uTok T i).2.2.1) (uTok T i).2.2.2 (by omega) (by omega) (by rw [tkAdd_l]; omega) hl2
            rw [e]
            have hx : ∀ (d : Nat → List Nat), tkX (tkAdd tk (uTok T i).1 (uTok T i).2.1 (uTok T i).2.2.1) d → (∀ j, ((tkAdd tk (uTok T i).1 (uTok T i).2.1 (uTok T i).2.2.1) 0).length ≤ j → j < (d 0).length → (d 1).getD j 0 ≤ 8000) → ∀ j, (tk 0).length ≤ j → j < (d 0).length → (d 1).getD j 0 ≤ 8000 := by
              intro d hd hd2 j hj hj2
              by_cases ej : j = (tk 0).length
              · rw [hd.getD hl2 (by decide) (by rw [tkAdd_l]; omega), tkAdd_g1 hl, if_pos ej]
                omega
              · exact hd2 j (by rw [tkAdd_l]; omega) hj2
            rcases hr with ⟨r1, r2⟩ | ⟨r1, r2⟩ | ⟨r0, tk3, r1, r2, r3, r4, r5, r6, r7⟩
            · exact Or.inl ⟨r1, hx _ hrp.1 r2⟩
            · exact Or.inr (Or.inl ⟨r1, hx _ hrp.1 r2⟩)
            · rw [tkAdd_l] at r3
              refine Or.inr (Or.inr ⟨r0, tk3, r1, r2, by omega, r4, r5, ?_, r7⟩)
              intro j hj hj2
              by_cases ej : j = (tk 0).length
              · rw [← r1.getD r2 (by decide) hj2, hrp.1.getD hl2 (by decide) (by rw [tkAdd_l]; omega), tkAdd_g1 hl, if_pos ej]
                omega
              · exact r6 j (by rw [tkAdd_l]; omega) hj2
      · rw [tkTok_f (by omega) (by omega)]
        dsimp only
        rw [gF_0]
        exact Or.inr (Or.inr ⟨by omega, tk, hcp.1, hl, Nat.le_refl _, hcp.2.2.2.1, rfl, fun j a b => absurd a (by omega), fun j a b => by have := (hpl j a b).1; omega⟩)
    · have hie : i = T.length := by omega
      have h10 : ¬ la = 10 := by omega
      rw [gF_e (by omega) h10 hla]
      unfold tkEnd
      by_cases h8 : 8000 < T.length
      · rw [if_pos h8]
        exact Or.inr (Or.inr ⟨by omega, tk, hcp.1, hl, Nat.le_refl _, hcp.2.2.2.1, rfl, fun j a b => absurd a (by omega), fun j a b => by have := (hpl j a b).1; omega⟩)
      · rw [if_neg h8]
        have hT : uTok T i = (10, T.length, 0, T.length + 1) := if_pos (by omega)
        have e : cuF T (f + 1) tk i = (tkAdd tk 10 T.length 0, T.length + 1) := by
          show (if _ then _ else _) = _
          rw [hT]
          rfl
        rw [e]
        refine Or.inl ⟨⟨1, by dsimp only; omega, Or.inl (by omega), (gF_10 (by dsimp only; omega) _ _).symm⟩, fun j hj hj2 => ?_⟩
        have := (hpl j hj (by rw [e]; exact hj2)).2
        rw [e] at this
        omega
