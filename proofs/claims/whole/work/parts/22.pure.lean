/-! the class's reading, without memory: tokens from 8000 on are none or a line's end; the code never meets its limit -/
theorem fl_pos_le {T : List Nat} {a s : Nat} : fl T a s ≤ 5 := flF_b T a s 6 0 (by omega)
theorem pdF_pos {T : List Nat} {i : Nat} (hi : i < T.length) (hd : isDg (T.getD i 0) = true) : i + 1 ≤ pd T i := by
  have h : pd T i = pdF T T.length (i + 1) := by
    show (if _ then _ else _) = _
    rw [if_neg (by omega), if_pos hd]
  rw [h]
  exact (pdF_b T _ (i + 1)).2 hi
theorem twF_pos (T : List Nat) (s : Nat) : ∀ (f k : Nat), (twF T s f k).1 = 0 ∨ 1 ≤ (twF T s f k).2
  | 0, _ => Or.inl rfl
  | f + 1, k => by
    unfold twF
    split
    · exact Or.inl rfl
    · split
      · rename_i q
        exact Or.inr q
      · exact twF_pos T s f (k + 1)
/-- a token moves on; from 8000 on it is none or a line's end -/
theorem tkTok_adv {T : List Nat} {i : Nat} (hi : i < T.length) : i + 1 ≤ (tkTok T i).2.2.2 ∧ (8000 ≤ i → (tkTok T i).1 = 0 ∨ (tkTok T i).1 = 10) := by
  have hb := (pbF_b T (T.length + 1) i).2 (by omega)
  have hb2 := (pbF_b T (T.length + 1) i).1
  have hpb : pb T i = pbF T (T.length + 1) i := rfl
  rw [← hpb] at hb hb2
  unfold tkTok
  split
  · split
    · exact ⟨by show i + 1 ≤ pb T i + 1; omega, fun _ => Or.inl rfl⟩
    · exact ⟨by show i + 1 ≤ pb T i + 1; omega, fun _ => Or.inr rfl⟩
  · rename_i q
    have hlt : pb T i < T.length := by omega
    have h8 : ¬ 8000 ≤ i := by omega
    refine ⟨?_, fun h => absurd h h8⟩
    split
    · rename_i qd
      have h1 := pdF_pos hlt qd
      have h2 := nS_b (T := T) (s := pb T i) (by omega)
      show i + 1 ≤ nE T (pb T i)
      omega
    · split
      · split
        · show i + 1 ≤ pb T i + 1; omega
        · rename_i q0
          rcases twF_pos T (pb T i) 20 0 with e | e
          · exact absurd e q0
          · show i + 1 ≤ pb T i + _; omega
      · show i + 1 ≤ pb T i + 1; omega
def kOK (tk : Nat → List Nat) : Prop := ∀ i, 8000 ≤ i → (tk 0).getD i 0 = 0 ∨ (tk 0).getD i 0 = 10
theorem kOK_add {tk : Nat → List Nat} {k s w : Nat} (h : kOK tk) (hk : 8000 ≤ (tk 0).length → k = 0 ∨ k = 10) : kOK (tkAdd tk k s w) := by
  intro i hi
  show (tk 0 ++ [k]).getD i 0 = 0 ∨ (tk 0 ++ [k]).getD i 0 = 10
  rw [List.getD_eq_getElem?_getD]
  rcases Nat.lt_trichotomy i (tk 0).length with q | q | q
  · rw [List.getElem?_append_left q, ← List.getD_eq_getElem?_getD]
    exact h i hi
  · rw [List.getElem?_append_right (by omega), show i - (tk 0).length = 0 by omega]
    exact hk (by omega)
  · rw [List.getElem?_eq_none (by rw [List.length_append, List.length_singleton]; omega)]
    exact Or.inl rfl
theorem spF_ok (T : List Nat) : ∀ (f : Nat) (tk : Nat → List Nat) (nx la : Nat), kOK tk → (tk 0).length ≤ nx → kOK (spF T f tk nx la).1 ∧ ((spF T f tk nx la).1 0).length ≤ (spF T f tk nx la).2.1
  | 0, tk, nx, la, h, hl => ⟨h, hl⟩
  | f + 1, tk, nx, la, h, hl => by
    show kOK (if _ then _ else _ : (Nat → List Nat) × Nat × Nat).1 ∧ ((if _ then _ else _ : (Nat → List Nat) × Nat × Nat).1 0).length ≤ (if _ then _ else _ : (Nat → List Nat) × Nat × Nat).2.1
    split
    · rename_i q
      have ha := tkTok_adv q.1
      refine spF_ok T f _ _ _ (kOK_add h (fun h8 => ha.2 (by omega))) ?_
      show (tk 0 ++ [_]).length ≤ _
      rw [List.length_append, List.length_singleton]
      omega
    · exact ⟨h, hl⟩
theorem tkAll_ok (T : List Nat) : kOK (tkAll T) := by
  have h := (spF_ok T 8001 (fun _ => []) 0 10 (fun i _ => Or.inl rfl) (Nat.le_refl 0)).1
  unfold tkAll
  split
  · unfold tkEnd
    split
    · exact kOK_add h (fun _ => Or.inl rfl)
    · exact kOK_add h (fun _ => Or.inr rfl)
  · exact h
