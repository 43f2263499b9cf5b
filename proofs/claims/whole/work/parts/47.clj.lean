/-! a line of the class is a line of the reference; the tokens' end -/
def lnCode (tk : Nat → List Nat) (a : Nat) : List Int := (pRst tk (lnB tk a) []).2.2
theorem clr_line {tk : Nat → List Nat} (hE : tE tk) (hL : (tk 0).length ≤ 8001) (hk : kOK tk) {N : Nat} (hN : (tk 0).length ≤ N) {a : Nat} {co : List Int} {F : Nat → List Int32} (hF : F 0 = co.map iI) (ha : a + 1 ≤ (tk 0).length) (hco : co.length ≤ a) :
    (rLine tk a F).1 = (qLine tk N a).1 ∧ (rLine tk a F).2.1 = (qLine tk N a).2 ∧ ((qLine tk N a).1 = true → (co ++ lnCode tk a).length + 1 ≤ (qLine tk N a).2 ∧ ∀ ls : List LnR, F = rowsF co ls → ls.length < 8000 → (rLine tk a F).2.2 = rowsF (co ++ lnCode tk a) (ls ++ [lnOf tk N a co.length])) := by
  have hlab := labC (tk := tk) (a := a) (G := jBeginT F)
  unfold rLine qLine
  by_cases q : (qLab tk a).1 = true
  · obtain ⟨e1, e2, e3⟩ := hlab
    obtain ⟨e3, e4, e5⟩ := e3 q
    have hrl : rLab tk a (jBeginT F) = (true, lnB tk a, (rLab tk a (jBeginT F)).2.2) := by
      rw [← e3, ← e2, ← q, ← e1]
    have hql : qLab tk a = (true, lnB tk a) := by rw [← e3, ← q]
    have hb1 : a ≤ lnB tk a ∧ lnB tk a ≤ 8000 ∧ lnB tk a + 1 ≤ (tk 0).length := by
      unfold lnB
      split
      · rename_i z
        have z2 := e5 z
        have := hk.lt (a := a + 1) (by omega) (by omega)
        have := hE.lt (a := a + 1) (by omega) (by omega)
        omega
      · omega
    have hF1 : (rLab tk a (jBeginT F)).2.2 0 = co.map iI := by
      rw [e4]
      split
      · exact hF
      · exact hF
    have hs := rst_sim hE hL hk hN hF1 hb1.2.1 (by omega)
    have hpq := pq_rst hE hL hN (lnB tk a) co hb1.2.2
    have hun := uni_rst tk (lnB tk a) co
    rw [hrl, hql, rThenF_t, qThen_t]
    generalize hX : rRest tk (lnB tk a) (rLab tk a (jBeginT F)).2.2 = X at hs
    obtain ⟨xb, xi, xF⟩ := X
    obtain ⟨s1, s2, s3, s4⟩ := hs
    dsimp only at s1 s2 s4
    have t1 : xb = (qRest tk N (lnB tk a)).1 := s1.trans hpq.1
    have t2 : xi = (qRest tk N (lnB tk a)).2 := s2.trans hpq.2
    have t3 : (pRst tk (lnB tk a) co).2.2 = co ++ lnCode tk a := by rw [hun]; rfl
    rw [t3] at s3 s4
    generalize hY : qRest tk N (lnB tk a) = Y at t1 t2
    obtain ⟨yb, yi⟩ := Y
    dsimp only at t1 t2
    subst t1; subst t2
    cases xb with
    | false => exact ⟨rfl, rfl, fun h => absurd h Bool.false_ne_true⟩
    | true =>
      rw [rThenF_t, qThen_t]
      show (rTakeF tk 10 xi xF).1 = (qTake tk 10 xi).1 ∧ (rTakeF tk 10 xi xF).2.1 = (qTake tk 10 xi).2 ∧ ((qTake tk 10 xi).1 = true → _ ≤ (qTake tk 10 xi).2 ∧ ∀ ls : List LnR, F = rowsF co ls → ls.length < 8000 → xF = _)
      have hrows : ∀ ls : List LnR, F = rowsF co ls → ls.length < 8000 → xF = rowsF (co ++ lnCode tk a) (ls ++ [lnOf tk N a co.length]) := by
        intro ls hr hl
        refine s4 ls co.length (if (tk 0).getD a 0 = 78 then (((tk 2).getD (a + 1) 0 : Nat) : Int) else -1) (if (tk 0).getD a 0 = 78 then (tk 1).getD (a + 1) 0 else 0) ?_ s1.symm
        rw [e4, hr, rowsF_begin hl]
        by_cases z : (tk 0).getD a 0 = 78
        · rw [if_pos z, if_pos z, if_pos z, nI_iI ((tk 2).getD _ 0), rowsF_lab]
        · rw [if_neg z, if_neg z, if_neg z]
      unfold rTakeF rTake qTake
      rw [← s2] at s3
      by_cases z : (tk 0).getD xi 0 = 10
      · rw [if_pos z, if_pos z]
        exact ⟨rfl, rfl, fun _ => ⟨by dsimp only; omega, hrows⟩⟩
      · rw [if_neg z, if_neg z]
        exact ⟨rfl, rfl, fun h => absurd h Bool.false_ne_true⟩
  · obtain ⟨e1, e2, -⟩ := hlab
    generalize rLab tk a (jBeginT F) = X at e1 e2
    generalize qLab tk a = Y at e1 e2 q
    obtain ⟨xb, xi, xF⟩ := X
    obtain ⟨yb, yi⟩ := Y
    dsimp only at e1 e2 q
    subst e1; subst e2
    cases xb with
    | false => exact ⟨rfl, rfl, fun h => absurd h Bool.false_ne_true⟩
    | true => exact absurd rfl q
theorem spF_t (T : List Nat) : ∀ (f : Nat) (tk : Nat → List Nat) (nx la : Nat), (tk 0).length ≤ nx → ((tk 0).length ≤ 8000 ∨ (la = 0 ∧ (tk 0).length ≤ 8001)) → (la = 0 ∨ la = 10 → tE tk) → (((spF T f tk nx la).1 0).length ≤ 8000 ∨ ((spF T f tk nx la).2.2 = 0 ∧ ((spF T f tk nx la).1 0).length ≤ 8001)) ∧ ((spF T f tk nx la).2.2 = 0 ∨ (spF T f tk nx la).2.2 = 10 → tE (spF T f tk nx la).1)
  | 0, tk, nx, la, _, h1, h2 => ⟨h1, h2⟩
  | f + 1, tk, nx, la, h, h1, h2 => by
    by_cases q : nx < T.length ∧ ¬ la = 0
    · rw [spF_step rfl q]
      have ha := tkTok_adv q.1
      refine spF_t T f _ _ _ (by rw [tkAdd_l]; omega) ?_ (fun h3 => tE_add _ _ _ h3)
      rw [tkAdd_l]
      rcases Nat.lt_or_ge nx 8000 with z | z
      · left; omega
      · right
        have hp := pb_ge (T := T) (i := nx) (by omega)
        rw [tkTok_f (by omega) (by omega)]
        exact ⟨rfl, by omega⟩
    · rw [spF_end (Or.inr q)]
      exact ⟨h1, h2⟩
theorem tkAll_t (T : List Nat) : ((tkAll T) 0).length ≤ 8001 ∧ tE (tkAll T) := by
  obtain ⟨h1, h2⟩ := spF_t T 8001 (fun _ => []) 0 10 (Nat.le_refl 0) (Or.inl (Nat.zero_le _)) (fun _ i _ => Or.inl rfl)
  unfold tkAll
  split
  · rename_i q
    unfold tkEnd
    split
    · exact ⟨by rw [tkAdd_l]; omega, tE_add _ _ _ (Or.inl rfl)⟩
    · exact ⟨by rw [tkAdd_l]; omega, tE_add _ _ _ (Or.inr rfl)⟩
  · rename_i q
    exact ⟨by omega, h2 (by omega)⟩
theorem gF_x (T : List Nat) (tkE : Nat → List Nat) : ∀ (f : Nat) (tk : Nat → List Nat) (i la : Nat), tkX tk (gF T f tk i la)
  | 0, tk, i, la => by
    unfold gF
    rw [spF_end (Or.inl rfl)]
    split
    · unfold tkEnd
      split
      · exact tkX_add _ _ _ _
      · exact tkX_add _ _ _ _
    · exact tkX.refl _
  | f + 1, tk, i, la => by
    by_cases q : i < T.length ∧ ¬ la = 0
    · rw [gF_step q.1 q.2]
      exact (tkX_add _ _ _ _).trans (gF_x T tkE f _ _ _)
    · unfold gF
      rw [spF_end (Or.inr q)]
      split
      · unfold tkEnd
        split
        · exact tkX_add _ _ _ _
        · exact tkX_add _ _ _ _
      · exact tkX.refl _
/-- a line whose tokens go on is the same line -/
theorem qLine_x {tk tk2 : Nat → List Nat} (hx : tkX tk tk2) (hl : tL tk) (hE : tE tk) (N : Nat) {a : Nat} (ha : a + 1 ≤ (tk 0).length) (hEnd : (qLine tk N a).1 = true → (qLine tk N a).2 = (tk 0).length) (hB : (qLine tk N a).1 = false → (qLine tk N a).2 + 1 ≤ (tk 0).length) : qLine tk2 N a = qLine tk N a := by
  have hs : tkS (tk 0).length tk tk2 := fun i hi => (hx.getD hl (by decide) hi).symm
  have hA := agr_line hs N a
  by_cases q : (qLine tk N a).1 = true
  · have h1 := hEnd q
    have h9 : qLine tk N a = (true, (tk 0).length) := by rw [← q, ← h1]
    unfold qLine at q h1
    obtain ⟨k1, k2, -⟩ := qThen_ok q
    have hX := agr_then (agr_lab hs a) (qm_rest tk N) (qm_rest tk2 N) (agr_rest hs N)
    have h2 := qTake_ok k2
    have h3 : qThen (qThen (qLab tk a) (qRest tk N)) (qTake tk 10) = qTake tk 10 (qThen (qLab tk a) (qRest tk N)).2 := if_pos k1
    rw [h3, h2.2] at h1
    dsimp only at h1
    rcases hX with ⟨x1, x2⟩ | ⟨x1, x2⟩
    · rw [h9]
      unfold qLine
      rw [← x1]
      have h4 : qThen (qThen (qLab tk a) (qRest tk N)) (qTake tk2 10) = qTake tk2 10 (qThen (qLab tk a) (qRest tk N)).2 := if_pos k1
      rw [h4]
      have h5 : (tk2 0).getD (qThen (qLab tk a) (qRest tk N)).2 0 = 10 := by rw [← hs _ (by omega)]; exact h2.1
      have h6 : qTake tk2 10 (qThen (qLab tk a) (qRest tk N)).2 = (true, (qThen (qLab tk a) (qRest tk N)).2 + 1) := if_pos h5
      rw [h6, h1]
    · omega
  · have q2 : (qLine tk N a).1 = false := by
      cases h : (qLine tk N a).1 with
      | true => exact absurd h q
      | false => rfl
    have := hB q2
    rcases hA with ⟨x1, x2⟩ | ⟨x1, x2⟩
    · exact x1.symm
    · omega
