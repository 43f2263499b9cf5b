/-! the class's tokens and the reference's: words, one token -/
def wL (n : Nat) : Nat := wB.getD n 0 - wA.getD n 0
theorem wW : ∀ n, n < 19 → wL n ≤ 5 ∧ 1 ≤ wL n ∧ (wL n < 5 → jW1.getD (5 * n + wL n) 0 = 32) := by decide +kernel
theorem wWi : ∀ n, n < 19 → ∀ i, i < 5 → i < wL n → jW1.getD (5 * n + i) 0 = jW2.getD (wA.getD n 0 + i) 0 ∧ ¬ jW1.getD (5 * n + i) 0 = 32 ∧ ¬ jW2.getD (wA.getD n 0 + i) 0 = 0 := by decide +kernel
theorem wWu : ∀ n, n < 19 → ∀ m, m < 19 → n = m ∨ (∃ i, i < 5 ∧ i < wL n ∧ i < wL m ∧ ¬ jW2.getD (wA.getD n 0 + i) 0 = jW2.getD (wA.getD m 0 + i) 0) := by decide +kernel
def fit (T : List Nat) (s n : Nat) : Bool := iAt T s (wA.getD n 0) (wB.getD n 0)
theorem flF_fit {T : List Nat} {s n : Nat} (hn : n < 19) : ∀ (f i : Nat), f + i = 6 → i ≤ wL n → flF T (5 * n) s f i = if iaF T s (wA.getD n 0) (wL n - i) (wA.getD n 0 + i) = true then wL n else 0
  | 0, i, h, h2 => by have := (wW n hn).1; omega
  | f + 1, i, h, h2 => by
    obtain ⟨w1, w2, w3⟩ := wW n hn
    unfold flF
    by_cases q : i = wL n
    · have e : iaF T s (wA.getD n 0) (wL n - i) (wA.getD n 0 + i) = true := by rw [show wL n - i = 0 by omega]; rfl
      rw [if_pos e]
      by_cases q5 : 5 ≤ i
      · rw [if_pos q5]; omega
      · rw [if_neg q5, q, if_pos (w3 (by omega))]
    · obtain ⟨x1, x2, x3⟩ := wWi n hn i (by omega) (by omega)
      rw [if_neg (by omega), if_neg x2, show wL n - i = (wL n - (i + 1)) + 1 by omega]
      have e : iaF T s (wA.getD n 0) (wL n - (i + 1) + 1) (wA.getD n 0 + i) = if lk T (s + (wA.getD n 0 + i) - wA.getD n 0) = ((jW2.getD (wA.getD n 0 + i) 0 : Nat) : Int) then iaF T s (wA.getD n 0) (wL n - (i + 1)) (wA.getD n 0 + i + 1) else false := rfl
      rw [e, show s + (wA.getD n 0 + i) - wA.getD n 0 = s + i by omega, x1]
      by_cases c : T.getD (s + i) 0 = jW2.getD (wA.getD n 0 + i) 0
      · have c2 : lk T (s + i) = ((jW2.getD (wA.getD n 0 + i) 0 : Nat) : Int) := by
          rcases lk_c T (s + i) with ⟨h3, h4⟩ | ⟨h3, h4⟩
          · rw [h4, c]
          · rw [List.getD_eq_getElem?_getD, List.getElem?_eq_none h3] at c
            exact absurd c.symm x3
        rw [if_pos c, if_pos c2]
        exact flF_fit hn f (i + 1) (by omega) (by omega)
      · have c2 : ¬ lk T (s + i) = ((jW2.getD (wA.getD n 0 + i) 0 : Nat) : Int) := by
          rcases lk_c T (s + i) with ⟨h3, h4⟩ | ⟨h3, h4⟩
          · rw [h4]; omega
          · rw [h4]; omega
        rw [if_neg c, if_neg c2]
        rfl
theorem fl_fit {T : List Nat} {s n : Nat} (hn : n < 19) : fl T (5 * n) s = if fit T s n = true then wL n else 0 := flF_fit hn 6 0 rfl (Nat.zero_le _)
theorem fit_u {T : List Nat} {s n m : Nat} (hn : n < 19) (hm : m < 19) (h1 : fit T s n = true) (h2 : fit T s m = true) : n = m := by
  rcases wWu n hn m hm with h | ⟨i, i5, i1, i2, i3⟩
  · exact h
  · exfalso
    have e1 := iaF_t (k := s) (a := wA.getD n 0) (wB.getD n 0 - wA.getD n 0) (wA.getD n 0) (wA.getD n 0 + i) h1 (by omega) (by have : wL n = wB.getD n 0 - wA.getD n 0 := rfl; omega)
    have e2 := iaF_t (k := s) (a := wA.getD m 0) (wB.getD m 0 - wA.getD m 0) (wA.getD m 0) (wA.getD m 0 + i) h2 (by omega) (by have : wL m = wB.getD m 0 - wA.getD m 0 := rfl; omega)
    rw [show s + (wA.getD n 0 + i) - wA.getD n 0 = s + i by omega] at e1
    rw [show s + (wA.getD m 0 + i) - wA.getD m 0 = s + i by omega] at e2
    omega
theorem twF_no {T : List Nat} {s : Nat} (h : ∀ n, n < 19 → ¬ fit T s n = true) : ∀ f k : Nat, twF T s f k = (0, 0)
  | 0, _ => rfl
  | f + 1, k => by
    unfold twF
    by_cases q : 18 < k
    · rw [if_pos q]
    · rw [if_neg q, fl_fit (by omega), if_neg (h k (by omega)), if_neg (by omega)]
      exact twF_no h f (k + 1)
theorem twF_yes {T : List Nat} {s n : Nat} (hn : n < 19) (h : fit T s n = true) : ∀ f k : Nat, k ≤ n → n < f + k → twF T s f k = (300 + n, wL n)
  | 0, k, h1, h2 => by omega
  | f + 1, k, h1, h2 => by
    unfold twF
    rw [if_neg (by omega), fl_fit (by omega)]
    by_cases c : fit T s k = true
    · have e := fit_u hn (by omega) h c
      subst e
      rw [if_pos c, if_pos (by have := (wW n hn).2.1; omega)]
    · rw [if_neg c, if_neg (by omega)]
      have : ¬ k = n := fun e => c (e ▸ h)
      exact twF_yes hn h f (k + 1) (by omega) (by omega)
theorem wdS_no {T : List Nat} {s : Nat} : ∀ N : Nat, (∀ n, n < N → ¬ fit T s n = true) → wdS T s N = (0, -1)
  | 0, _ => rfl
  | N + 1, h => by
    unfold wdS
    rw [if_neg (fun q => h N (by omega) q.2)]
    exact wdS_no N (fun n hn => h n (by omega))
theorem wdS_yes {T : List Nat} {s n : Nat} (hn : n < 19) (h : fit T s n = true) : ∀ N : Nat, n < N → N ≤ 19 → wdS T s N = (wL n, (n : Int))
  | 0, h1, _ => by omega
  | N + 1, h1, h2 => by
    unfold wdS
    by_cases e : n = N
    · subst e
      have e0 := wdS_no (T := T) (s := s) n (fun m hm q => by have := fit_u hn (by omega) h q; omega)
      rw [e0, if_pos ⟨by show 0 < wL n; have := (wW n hn).2.1; omega, h⟩]
      rfl
    · rw [if_neg (fun q => e (fit_u hn (by omega) h q.2))]
      exact wdS_yes hn h N (by omega) (by omega)
theorem wTok_tw (T : List Nat) (s : Nat) : wTok T s = if (twF T s 20 0).1 = 0 then (T.getD s 0, s + 1) else ((twF T s 20 0).1, s + (twF T s 20 0).2) := by
  unfold wTok
  by_cases h : ∃ n, n < 19 ∧ fit T s n = true
  · obtain ⟨n, hn, hf⟩ := h
    rw [wdS_yes hn hf 19 (by omega) (Nat.le_refl _), twF_yes hn hf 20 0 (by omega) (by omega), if_pos (by show (0 : Int) ≤ (n : Int); omega), if_neg (by show ¬ 300 + n = 0; omega)]
    rfl
  · have h2 : ∀ n, n < 19 → ¬ fit T s n = true := fun n hn q => h ⟨n, hn, q⟩
    rw [wdS_no 19 h2, twF_no h2, if_neg (by show ¬ (0 : Int) ≤ -1; omega), if_pos rfl]
theorem tkTok_oT {T : List Nat} {i : Nat} (h1 : pb T i < 8000) (h2 : pb T i < T.length) : tkTok T i = oT T (pb T i) := by
  unfold tkTok oT
  rw [if_neg (by omega), wTok_tw]
  generalize twF T (pb T i) 20 0 = y
  obtain ⟨a, b⟩ := y
  by_cases q1 : isDg (T.getD (pb T i) 0) = true
  · rw [if_pos q1, if_pos q1]
  · rw [if_neg q1, if_neg q1]
    by_cases q2 : 65 ≤ T.getD (pb T i) 0 ∧ T.getD (pb T i) 0 ≤ 90
    · rw [if_pos q2, if_pos q2]
      dsimp only
      split <;> rfl
    · rw [if_neg q2, if_neg q2]
theorem pb_le (T : List Nat) (i : Nat) : pb T i ≤ T.length := (pbF_b T (T.length + 1) i).1
theorem pb_ge {T : List Nat} {i : Nat} (h : i ≤ T.length) : i ≤ pb T i := (pbF_b T (T.length + 1) i).2 h
/-- in a text that fits, and before 8000, the tokens are the same -/
theorem tkTok_u {T : List Nat} {i : Nat} (h : T.length ≤ 8000 ∨ pb T i < 8000) : tkTok T i = uTok T i := by
  have h1 := pb_le T i
  unfold uTok
  by_cases q : T.length ≤ pb T i
  · rw [if_pos q]
    unfold tkTok
    rw [if_pos (Or.inr q), if_neg (by omega), show pb T i = T.length by omega]
  · rw [if_neg q]
    exact tkTok_oT (by omega) (by omega)
theorem tkTok_f {T : List Nat} {i : Nat} (h : 8000 < T.length) (h2 : 8000 ≤ pb T i) : tkTok T i = (0, 8000, 0, pb T i + 1) := by
  unfold tkTok
  rw [if_pos (Or.inl h2), if_pos h]
theorem oT_w0 {T : List Nat} {k : Nat} (h : (oT T k).1 = 0 ∨ (oT T k).1 = 10) : (oT T k).2.2.1 = 0 := by
  unfold oT at h ⊢
  by_cases q1 : isDg (T.getD k 0) = true
  · rw [if_pos q1] at h ⊢
    dsimp only at h ⊢
    unfold nK at h
    unfold nW
    by_cases q : 6 < pd T k - k ∨ 3 < nE T k - nS T k
    · rw [if_pos q]
    · rw [if_neg q] at h
      split at h <;> omega
  · rw [if_neg q1]
    split <;> rfl
theorem uTok_w0 {T : List Nat} {i : Nat} (h : (uTok T i).1 = 0 ∨ (uTok T i).1 = 10) : (uTok T i).2.2.1 = 0 := by
  unfold uTok at h ⊢
  by_cases q : T.length ≤ pb T i
  · rw [if_pos q]
  · rw [if_neg q] at h ⊢
    exact oT_w0 h
theorem uTok_pl (T : List Nat) (i : Nat) : (uTok T i).2.1 = pb T i := by
  unfold uTok
  have := pb_le T i
  by_cases q : T.length ≤ pb T i
  · rw [if_pos q]
    show T.length = pb T i
    omega
  · rw [if_neg q]
    unfold oT
    (repeat' split) <;> rfl
