/-! the kinds of tokens are below 1000 -/
theorem tkTok_k {T : List Nat} (hB : ∀ j, T.getD j 0 < 256) (i : Nat) : (tkTok T i).1 < 1000 := by
  have h1 := hB (pb T i)
  unfold tkTok
  split
  · split
    · show 0 < 1000; omega
    · show 10 < 1000; omega
  · split
    · show nK T (pb T i) < 1000
      unfold nK
      split
      · omega
      · split <;> omega
    · split
      · split
        · show T.getD (pb T i) 0 < 1000; omega
        · have := twF_b T (pb T i) 20 0
          show (twF T (pb T i) 20 0).1 < 1000; omega
      · show (if isSg (T.getD (pb T i) 0) = true then T.getD (pb T i) 0 else 0) < 1000
        split <;> omega
def kLt (tk : Nat → List Nat) : Prop := ∀ x ∈ tk 0, x < 1000
theorem spF_k {T : List Nat} (hB : ∀ j, T.getD j 0 < 256) : ∀ (f : Nat) (tk : Nat → List Nat) (nx la : Nat), kLt tk → kLt (spF T f tk nx la).1
  | 0, tk, nx, la, h => h
  | f + 1, tk, nx, la, h => by
    show kLt (if _ then _ else _ : (Nat → List Nat) × Nat × Nat).1
    split
    · exact spF_k hB f _ _ _ (show ∀ x ∈ tk 0 ++ [(tkTok T nx).1], x < 1000 from jin_app h (tkTok_k hB nx))
    · exact h
theorem tkAll_k {T : List Nat} (hB : ∀ j, T.getD j 0 < 256) : kLt (tkAll T) := by
  have h := spF_k hB 8001 (fun _ => []) 0 10 (fun x h => absurd h List.not_mem_nil)
  unfold tkAll
  split
  · unfold tkEnd
    split
    · exact (show ∀ x ∈ _ ++ [0], x < 1000 from jin_app h (by decide))
    · exact (show ∀ x ∈ _ ++ [10], x < 1000 from jin_app h (by decide))
  · exact h
