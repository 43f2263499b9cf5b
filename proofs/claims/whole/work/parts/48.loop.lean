/-! the class's lines and the reference's -/
theorem qb_lab {tk : Nat → List Nat} (hE : tE tk) : qB tk (qLab tk) := by
  intro a ha
  unfold qLab
  split
  · rename_i z
    have := hE.lt (a := a) (by omega) (by omega)
    have := qb_take hE (k := 256) (by decide) (by decide) (a + 1) (by omega)
    omega
  · exact ⟨Nat.le_refl a, ha⟩
theorem qLine_end {tk : Nat → List Nat} (hE : tE tk) (N : Nat) {a : Nat} (ha : a + 1 ≤ (tk 0).length) : ((qLine tk N a).1 = true → ∃ x, (qLine tk N a).2 = x + 1 ∧ a ≤ x ∧ x + 1 ≤ (tk 0).length ∧ (tk 0).getD x 0 = 10) ∧ ((qLine tk N a).1 = false → a ≤ (qLine tk N a).2 ∧ (qLine tk N a).2 + 1 ≤ (tk 0).length) := by
  have hX := qb_then (qb_lab hE a ha) (qRest_b hE N)
  unfold qLine
  generalize qThen (qLab tk a) (qRest tk N) = X at hX ⊢
  obtain ⟨b, i⟩ := X
  dsimp only at hX
  cases b with
  | false => exact ⟨fun h => absurd h Bool.false_ne_true, fun _ => hX⟩
  | true =>
    rw [qThen_t]
    unfold qTake
    by_cases q : (tk 0).getD i 0 = 10
    · rw [if_pos q]
      exact ⟨fun _ => ⟨i, rfl, hX.1, hX.2, q⟩, fun h => absurd h.symm Bool.false_ne_true⟩
    · rw [if_neg q]
      exact ⟨fun h => absurd h Bool.false_ne_true, fun _ => hX⟩
theorem cuF_ple (T : List Nat) : ∀ (f : Nat) (tk : Nat → List Nat) (i j : Nat), T.length < f + i → i ≤ T.length → (tk 0).length ≤ i → tL tk → (tk 0).length ≤ j → j < ((cuF T f tk i).1 0).length → ((cuF T f tk i).1 1).getD j 0 ≤ (cuF T f tk i).2
  | 0, tk, i, j, h, h2, _, _, _, _ => by omega
  | f + 1, tk, i, j, h, h2, h3, hl, hj, he => by
    obtain ⟨b1, b2, b3, b4, b5, b6⟩ := uTok_b h2
    have hp := uTok_pl T i
    have h7 : pb T i ≤ (uTok T i).2.2.2 := by
      have h6 := oT_n (T := T) (k := pb T i)
      unfold uTok
      by_cases q : T.length ≤ pb T i
      · rw [if_pos q]; show pb T i ≤ T.length + 1; omega
      · rw [if_neg q]; have := h6 (by omega); omega
    unfold cuF at he ⊢
    by_cases c0 : (uTok T i).1 = 0
    · rw [if_pos c0] at he ⊢
      dsimp only at he ⊢
      rw [tkAdd_l] at he
      rw [tkAdd_g1 hl, if_pos (by omega)]
      omega
    · rw [if_neg c0] at he ⊢
      by_cases c1 : (uTok T i).1 = 10
      · rw [if_pos c1] at he ⊢
        dsimp only at he ⊢
        rw [tkAdd_l] at he
        rw [tkAdd_g1 hl, if_pos (by omega)]
        omega
      · rw [if_neg c1] at he ⊢
        have h4 := b4 c1
        have hl2 := tL_add hl (uTok T i).1 (uTok T i).2.1 (uTok T i).2.2.1
        have hr := cuF_p T f (tkAdd tk (uTok T i).1 (uTok T i).2.1 (uTok T i).2.2.1) (uTok T i).2.2.2 (by omega) (by omega) (by rw [tkAdd_l]; omega) hl2
        by_cases e : j = (tk 0).length
        · rw [hr.1.getD hl2 (by decide) (by rw [tkAdd_l]; omega), tkAdd_g1 hl, if_pos e]
          omega
        · exact cuF_ple T f _ _ j (by omega) (by omega) (by rw [tkAdd_l]; omega) hl2 (by rw [tkAdd_l]; omega) he
theorem rlF_s {T : List Nat} {N f k : Nat} {tk : Nat → List Nat} {j : Nat} {S : LSt} {fi : Nat → Nat} (hk : k < T.length) : rlF T N (f + 1) k tk j S fi = (if (qLine (cuF T (T.length + 1) tk k).1 N (tk 0).length).1 = true then rlF T N f (cuF T (T.length + 1) tk k).2 (cuF T (T.length + 1) tk k).1 (j + 1) (lsLine (cuF T (T.length + 1) tk k).1 N j (tk 0).length S) (va_up fi j (tk 0).length) else (false, ((cuF T (T.length + 1) tk k).1 1).getD (qLine (cuF T (T.length + 1) tk k).1 N (tk 0).length).2 0, (cuF T (T.length + 1) tk k).1, j, S, fi)) := if_pos hk
theorem rlF_e {T : List Nat} {N f k : Nat} {tk : Nat → List Nat} {j : Nat} {S : LSt} {fi : Nat → Nat} (hk : f = 0 ∨ ¬ k < T.length) : rlF T N f k tk j S fi = (true, 0, tk, j, S, fi) := by
  cases f with
  | zero => rfl
  | succ f => exact if_neg (by omega)
/-- behind 8000 every fault lies behind 8000 -/
theorem rlF_far (T : List Nat) (N : Nat) : ∀ (f k : Nat) (tk : Nat → List Nat) (j : Nat) (S : LSt) (fi : Nat → Nat), 8000 ≤ k → tL tk → (tk 0).length ≤ k → (rlF T N f k tk j S fi).1 = true ∨ ((rlF T N f k tk j S fi).1 = false ∧ 8000 ≤ (rlF T N f k tk j S fi).2.1)
  | 0, k, tk, j, S, fi, _, _, _ => Or.inl rfl
  | f + 1, k, tk, j, S, fi, h8, hl, h3 => by
    by_cases q : k < T.length
    · have hcp := cuF_p T (T.length + 1) tk k (by omega) (by omega) h3 hl
      have hpl := fun j => cuF_pl T (T.length + 1) tk k j (by omega) (by omega) h3 hl
      have hend := qLine_end hcp.2.2.1 N (a := (tk 0).length) (by omega)
      have hpb := pb_ge (T := T) (i := k) (by omega)
      rw [rlF_s q]
      generalize cuF T (T.length + 1) tk k = c at *
      cases hy : (qLine c.1 N (tk 0).length).1 with
      | true =>
        rw [if_pos rfl]
        exact rlF_far T N f _ _ _ _ _ (by omega) hcp.2.1 (by omega)
      | false =>
        have h4 := hend.2 hy
        rw [if_neg Bool.false_ne_true]
        have := hpl _ h4.1 (by omega)
        exact Or.inr ⟨rfl, by dsimp only; omega⟩
    · rw [rlF_e (Or.inr q)]
      exact Or.inl rfl
def cdA (tk : Nat → List Nat) (fi : Nat → Nat) : Nat → List Int
  | 0 => []
  | n + 1 => cdA tk fi n ++ lnCode tk (fi n)
def lsA (tk : Nat → List Nat) (N : Nat) (fi : Nat → Nat) : Nat → List LnR
  | 0 => []
  | n + 1 => lsA tk N fi n ++ [lnOf tk N (fi n) (cdA tk fi n).length]
theorem cdA_c (tk : Nat → List Nat) {fi fi2 : Nat → Nat} : ∀ n : Nat, (∀ x, x < n → fi x = fi2 x) → cdA tk fi n = cdA tk fi2 n
  | 0, _ => rfl
  | n + 1, h => by
    show cdA tk fi n ++ lnCode tk (fi n) = cdA tk fi2 n ++ lnCode tk (fi2 n)
    rw [cdA_c tk n (fun x hx => h x (by omega)), h n (by omega)]
theorem lsA_c (tk : Nat → List Nat) (N : Nat) {fi fi2 : Nat → Nat} : ∀ n : Nat, (∀ x, x < n → fi x = fi2 x) → lsA tk N fi n = lsA tk N fi2 n
  | 0, _ => rfl
  | n + 1, h => by
    show lsA tk N fi n ++ [lnOf tk N (fi n) (cdA tk fi n).length] = lsA tk N fi2 n ++ [lnOf tk N (fi2 n) (cdA tk fi2 n).length]
    rw [lsA_c tk N n (fun x hx => h x (by omega)), cdA_c tk n (fun x hx => h x (by omega)), h n (by omega)]
theorem lsA_len (tk : Nat → List Nat) (N : Nat) (fi : Nat → Nat) : ∀ n : Nat, (lsA tk N fi n).length = n
  | 0 => rfl
  | n + 1 => by
    show (lsA tk N fi n ++ [_]).length = n + 1
    rw [List.length_append, lsA_len tk N fi n]
    rfl
theorem cdA_up (tk : Nat → List Nat) (fi : Nat → Nat) (j a : Nat) : cdA tk (va_up fi j a) (j + 1) = cdA tk fi j ++ lnCode tk a := by
  show cdA tk (va_up fi j a) j ++ lnCode tk (va_up fi j a j) = _
  rw [va_up_self, cdA_c tk j (fun x hx => va_up_ne fi a (by omega))]
theorem lsA_up (tk : Nat → List Nat) (N : Nat) (fi : Nat → Nat) (j a : Nat) : lsA tk N (va_up fi j a) (j + 1) = lsA tk N fi j ++ [lnOf tk N a (cdA tk fi j).length] := by
  show lsA tk N (va_up fi j a) j ++ [lnOf tk N (va_up fi j a j) (cdA tk (va_up fi j a) j).length] = _
  rw [va_up_self, cdA_c tk j (fun x hx => va_up_ne fi a (by omega)), lsA_c tk N j (fun x hx => va_up_ne fi a (by omega))]
/-- the class's result C and the reference's R -/
def loopO (T : List Nat) (A : Nat → List Nat) (N : Nat) (R : RlR) (C : Bool × Nat × (Nat → List Int32)) : Prop :=
  (C.1 = false ∧ ((R.1 = false ∧ (A 1).getD C.2.1 0 = min R.2.1 8000) ∨ (R.1 = true ∧ 8000 < T.length ∧ (A 1).getD C.2.1 0 = 8000))) ∨
  (C.1 = true ∧ R.1 = true ∧ T.length ≤ 8000 ∧ A = R.2.2.1 ∧ C.2.2 = rowsF (cdA A R.2.2.2.2.2 R.2.2.2.1) (lsA A N R.2.2.2.2.2 R.2.2.2.1))
theorem loop_A {T : List Nat} {A : Nat → List Nat} (hE : tE A) (hL : (A 0).length ≤ 8001) (hK : kOK A) {N : Nat} (hN : (A 0).length ≤ N) : ∀ (f k : Nat) (tk : Nat → List Nat) (j : Nat) (S : LSt) (fi : Nat → Nat) (g h : Nat), T.length < f + k → (tk 0).length ≤ k → tL tk → j ≤ k → min T.length 8000 < g + k → (T.length ≤ 8000 ∨ k ≤ 8000) → 8001 ≤ h + (tk 0).length → (cdA A fi j).length ≤ (tk 0).length → A = gF T g tk k 10 →
    loopO T A N (rlF T N f k tk j S fi) (rTra A h (tk 0).length (rowsF (cdA A fi j) (lsA A N fi j)))
  | 0, k, tk, j, S, fi, g, h, hf, h3, hl, hj, hg, h8, hh, hc, hA => by
    have e : A = tk := by rw [hA, gF_10 (by omega)]
    rw [rlF_e (Or.inl rfl), rTra_end (Or.inr (by rw [← e]; omega))]
    exact Or.inr ⟨rfl, rfl, by omega, e, rfl⟩
  | f + 1, k, tk, j, S, fi, g, h, hf, h3, hl, hj, hg, h8, hh, hc, hA => by
    by_cases q : k < T.length
    · have hcp := cuF_p T (T.length + 1) tk k (by omega) (by omega) h3 hl
      have hpl := fun j => cuF_pl T (T.length + 1) tk k j (by omega) (by omega) h3 hl
      have hple := fun j => cuF_ple T (T.length + 1) tk k j (by omega) (by omega) h3 hl
      have hn10 := fun j => cuF_n10 T (T.length + 1) tk k j (by omega) (by omega) h3 hl
      have hG := gF_line T (T.length + 1) tk k 10 g (by omega) (by omega) h3 hl (by omega) hg (by decide) (Or.inl q)
      rw [← hA] at hG
      have hend := qLine_end hcp.2.2.1 N (a := (tk 0).length) (by omega)
      rw [rlF_s q]
      generalize cuF T (T.length + 1) tk k = c at *
      obtain ⟨p1, p2, p3, p4, p5, p6, p7⟩ := hcp
      have hendA : (qLine c.1 N (tk 0).length).1 = true → (qLine c.1 N (tk 0).length).2 = (c.1 0).length := fun hy => by
        obtain ⟨x, x1, x2, x3, x4⟩ := hend.1 hy
        have := hn10 x x2 x4
        omega
      rcases hG with ⟨⟨g2, r1, r2, r3⟩, r4⟩ | ⟨⟨r1, r2⟩, r4⟩ | ⟨r0, tk3, r1, r2, r3, r4, r5, r6, r7⟩
      · have hx : tkX c.1 A := by rw [r3]; exact gF_x T tk _ _ _ _
        have hxl := hx.len
        have hq := qLine_x hx p2 p3 N (a := (tk 0).length) (by omega) hendA (fun hy => (hend.2 hy).2)
        have hcl := clr_line hE hL hK hN (a := (tk 0).length) (co := cdA A fi j) (F := rowsF (cdA A fi j) (lsA A N fi j)) rfl (by omega) hc
        rw [hq] at hcl
        obtain ⟨h', rfl⟩ : ∃ h', h = h' + 1 := ⟨h - 1, by omega⟩
        rw [rTra_step rfl (by omega)]
        obtain ⟨c1, c2, c3⟩ := hcl
        cases hy : (qLine c.1 N (tk 0).length).1 with
        | true =>
          obtain ⟨c4, c5⟩ := c3 hy
          have hy2 := hendA hy
          have c6 := c5 _ rfl (by rw [lsA_len]; omega)
          rw [if_pos rfl]
          have e : rLine A (tk 0).length (rowsF (cdA A fi j) (lsA A N fi j)) = (true, (c.1 0).length, rowsF (cdA A (va_up fi j (tk 0).length) (j + 1)) (lsA A N (va_up fi j (tk 0).length) (j + 1))) := by
            rw [cdA_up, lsA_up, ← c6, ← hy2, ← c2, ← hy, ← c1]
          rw [e, rThenF_t]
          exact loop_A hE hL hK hN f c.2 c.1 (j + 1) _ _ g2 h' (by omega) p5 p2 (by omega) r1 r2 (by omega) (by rw [cdA_up]; omega) r3
        | false =>
          have hy2 := hend.2 hy
          rw [if_neg Bool.false_ne_true]
          have e : (rThenF (rLine A (tk 0).length (rowsF (cdA A fi j) (lsA A N fi j))) (rTra A h')) = rLine A (tk 0).length (rowsF (cdA A fi j) (lsA A N fi j)) := if_neg (by rw [c1, hy]; exact Bool.false_ne_true)
          rw [e]
          refine Or.inl ⟨c1.trans hy, Or.inl ⟨rfl, ?_⟩⟩
          rw [c2, hx.getD p2 (by decide) (by omega)]
          have := r4 _ hy2.1 (by omega)
          dsimp only
          omega
      · have hcl := clr_line hE hL hK hN (a := (tk 0).length) (co := cdA A fi j) (F := rowsF (cdA A fi j) (lsA A N fi j)) rfl (by rw [r2]; omega) hc
        obtain ⟨c1, c2, -⟩ := hcl
        obtain ⟨h', rfl⟩ : ∃ h', h = h' + 1 := ⟨h - 1, by rw [r2] at hL; omega⟩
        rw [rTra_step rfl (by rw [r2]; omega)]
        have hy : (qLine c.1 N (tk 0).length).1 = false := by
          cases hy : (qLine c.1 N (tk 0).length).1 with
          | false => rfl
          | true =>
            obtain ⟨x, x1, x2, x3, x4⟩ := hend.1 hy
            have := hn10 x x2 x4
            rw [show (c.1 0).length - 1 = x by omega] at r1
            omega
        have hy2 := hend.2 hy
        rw [hy, if_neg Bool.false_ne_true]
        have c1' : (rLine A (tk 0).length (rowsF (cdA A fi j) (lsA A N fi j))).1 = false := by rw [c1, r2]; exact hy
        have e : (rThenF (rLine A (tk 0).length (rowsF (cdA A fi j) (lsA A N fi j))) (rTra A h')) = rLine A (tk 0).length (rowsF (cdA A fi j) (lsA A N fi j)) := if_neg (by rw [c1']; exact Bool.false_ne_true)
        rw [e]
        refine Or.inl ⟨c1', Or.inl ⟨rfl, ?_⟩⟩
        rw [c2, r2]
        have := r4 _ hy2.1 (by omega)
        dsimp only
        omega
      · have hcl := clr_line hE hL hK hN (a := (tk 0).length) (co := cdA A fi j) (F := rowsF (cdA A fi j) (lsA A N fi j)) rfl (by rw [r5, tkAdd_l]; omega) hc
        obtain ⟨c1, c2, -⟩ := hcl
        have hLA : (A 0).length = (tk3 0).length + 1 := by rw [r5, tkAdd_l]
        obtain ⟨h', rfl⟩ : ∃ h', h = h' + 1 := ⟨h - 1, by omega⟩
        rw [rTra_step rfl (by omega)]
        have hs : tkS (tk3 0).length A c.1 := fun i hi => by
          rw [r5, (tkX_add tk3 0 8000 0).getD r2 (by decide) hi, r1.getD r2 (by decide) hi]
        have hAg := agr_line hs N (tk 0).length
        have hendZ := qLine_end hE N (a := (tk 0).length) (by omega)
        have hz : (qLine A N (tk 0).length).1 = false := by
          cases hz : (qLine A N (tk 0).length).1 with
          | false => rfl
          | true =>
            exfalso
            obtain ⟨x, x1, x2, x3, x4⟩ := hendZ.1 hz
            by_cases ex : x = (tk3 0).length
            · rw [r5, tkAdd_g0, if_pos ex] at x4
              omega
            · rw [hs x (by omega)] at x4
              have := hn10 x x2 x4
              omega
        have hz2 := hendZ.2 hz
        have c1' := c1.trans hz
        have e : (rThenF (rLine A (tk 0).length (rowsF (cdA A fi j) (lsA A N fi j))) (rTra A h')) = rLine A (tk 0).length (rowsF (cdA A fi j) (lsA A N fi j)) := if_neg (by rw [c1']; exact Bool.false_ne_true)
        rw [e]
        rcases hAg with ⟨x1, x2⟩ | ⟨x1, x2⟩
        · rw [if_neg (by rw [← x1, hz]; exact Bool.false_ne_true)]
          refine Or.inl ⟨c1', Or.inl ⟨rfl, ?_⟩⟩
          rw [c2, ← x1, r5, (tkX_add tk3 0 8000 0).getD r2 (by decide) (by rw [← r5]; exact x2), r1.getD r2 (by decide) (by rw [← r5]; exact x2)]
          have := r6 _ hz2.1 x2
          rw [← r5]
          dsimp only
          omega
        · have hpA : (A 1).getD (qLine A N (tk 0).length).2 0 = 8000 := by
            have e9 : (qLine A N (tk 0).length).2 = (tk3 0).length := by omega
            rw [e9, r5, tkAdd_g1 r2, if_pos rfl]
          refine Or.inl ⟨c1', ?_⟩
          rw [c2, hpA]
          cases hy : (qLine c.1 N (tk 0).length).1 with
          | true =>
            rw [if_pos rfl]
            have h10 : 8000 ≤ c.2 := by
              have := r7 ((c.1 0).length - 1) (by omega) (by omega)
              have := hple ((c.1 0).length - 1) (by omega) (by omega)
              omega
            rcases rlF_far T N f c.2 c.1 (j + 1) (lsLine c.1 N j (tk 0).length S) (va_up fi j (tk 0).length) h10 p2 p5 with w | ⟨w, w2⟩
            · exact Or.inr ⟨w, r0, rfl⟩
            · exact Or.inl ⟨w, by omega⟩
          | false =>
            have hy2 := hend.2 hy
            rw [if_neg Bool.false_ne_true]
            have := r7 _ x2 (by omega)
            exact Or.inl ⟨rfl, by dsimp only; omega⟩
    · have e : A = tk := by rw [hA, gF_10 (by omega)]
      rw [rlF_e (Or.inr q), rTra_end (Or.inr (by rw [← e]; omega))]
      exact Or.inr ⟨rfl, rfl, by omega, e, rfl⟩
/-- the whole text: the class's reading and the reference's -/
theorem read_A (T : List Nat) {N : Nat} (hN : 8001 ≤ N) (lb pa jm : Nat → Int) (so op fi : Nat → Nat) : loopO T (tkAll T) N (mRd T N lb pa jm so op fi) (rAll T) := by
  have ht := tkAll_t T
  have h := loop_A (T := T) (A := tkAll T) ht.2 ht.1 (tkAll_ok T) (N := N) (by omega) (T.length + 2) 0 (fun _ => []) 0 (lb, pa, jm, so, op, 0, -1) fi 8001 8001 (by omega) (Nat.le_refl 0) ⟨rfl, rfl⟩ (Nat.le_refl 0) (by omega) (by omega) (Nat.le_refl _) (Nat.le_refl 0) rfl
  have e : rowsF (cdA (tkAll T) fi 0) (lsA (tkAll T) N fi 0) = fun _ => [] := rowsF_nil
  rw [e] at h
  exact h
