/-! the rows of the lines have one length -/
def pL (F : Nat → List Int32) : Prop := ∀ i, 1 ≤ i → i < 8 → (F i).length = (F 1).length
theorem jAdd_len_eq (lim : Nat) (xs : List Int32) (x : Int32) : (jAdd lim xs x).length = if xs.length < lim then xs.length + 1 else xs.length := by
  unfold jAdd
  split
  · rw [List.length_append]; rfl
  · rfl
theorem pL_nil : pL (fun _ => []) := fun i _ _ => rfl
theorem pL_begin {F : Nat → List Int32} (h : pL F) : pL (jBeginT F) := by
  intro i h1 h8
  have e := h i h1 h8
  rcases (show i = 1 ∨ i = 2 ∨ i = 3 ∨ i = 4 ∨ i = 5 ∨ i = 6 ∨ i = 7 by omega) with rfl | rfl | rfl | rfl | rfl | rfl | rfl
  · rfl
  · show (jAdd 8000 (F 2) (nI 0)).length = (jAdd 8000 (F 1) (nI (F 0).length)).length
    rw [jAdd_len_eq, jAdd_len_eq, e]
  · show (jAdd 8000 (F 3) (iI (-1))).length = (jAdd 8000 (F 1) (nI (F 0).length)).length
    rw [jAdd_len_eq, jAdd_len_eq, e]
  · show (jAdd 8000 (F 4) (nI 0)).length = (jAdd 8000 (F 1) (nI (F 0).length)).length
    rw [jAdd_len_eq, jAdd_len_eq, e]
  · show (jAdd 8000 (F 5) (iI (-1))).length = (jAdd 8000 (F 1) (nI (F 0).length)).length
    rw [jAdd_len_eq, jAdd_len_eq, e]
  · show (jAdd 8000 (F 6) (nI 0)).length = (jAdd 8000 (F 1) (nI (F 0).length)).length
    rw [jAdd_len_eq, jAdd_len_eq, e]
  · show (jAdd 8000 (F 7) (nI 0)).length = (jAdd 8000 (F 1) (nI (F 0).length)).length
    rw [jAdd_len_eq, jAdd_len_eq, e]
theorem pL_set {F : Nat → List Int32} (h : pL F) {r k : Nat} (hr : 2 ≤ r) {x : Int32} : pL (va_up F r ((F r).set k x)) := by
  intro i h1 h8
  rw [va_up_ne F ((F r).set k x) (show ¬ 1 = r by omega)]
  by_cases e : i = r
  · subst e
    rw [va_up_self, List.length_set]
    exact h i h1 h8
  · rw [va_up_ne F _ e]
    exact h i h1 h8
theorem pL_code {F : Nat → List Int32} (h : pL F) (co : List Int32) : pL (va_up F 0 co) := by
  intro i h1 h8
  rw [va_up_ne F co (show ¬ 1 = 0 by omega), va_up_ne F co (show ¬ i = 0 by omega)]
  exact h i h1 h8
theorem pL_lab {F : Nat → List Int32} (h : pL F) (x y : Int32) : pL (pLab F x y) := pL_set (pL_set h (r := 3) (by decide)) (r := 4) (by decide)
theorem pL_clo {F : Nat → List Int32} (h : pL F) (x y z : Int32) : pL (pClo F x y z) := pL_set (pL_set (pL_set h (r := 2) (by decide)) (r := 5) (by decide)) (r := 6) (by decide)
theorem pL_rLab {tk : Nat → List Nat} {a : Nat} {F : Nat → List Int32} (h : pL F) : pL (rLab tk a F).2.2 := by
  unfold rLab
  split
  · exact pL_lab h _ _
  · exact h
theorem pL_rThenL {x : Bool × Nat × List Int32} {F : Nat → List Int32} {f : Nat → (Nat → List Int32) → Bool × Nat × (Nat → List Int32)} (h : pL F) (hf : ∀ a F, pL F → pL (f a F).2.2) : pL (rThenL x F f).2.2 := by
  unfold rThenL
  split
  · exact hf _ _ (pL_code h _)
  · exact pL_code h _
theorem pL_rRest {tk : Nat → List Nat} {a : Nat} {F : Nat → List Int32} (h : pL F) : pL (rRest tk a F).2.2 := by
  unfold rRest
  split
  · exact pL_rThenL h (fun a F h => h)
  · split
    · exact pL_rThenL h (fun a F h => pL_clo h _ _ _)
    · split
      · exact pL_rThenL h (fun a F h => pL_clo h _ _ _)
      · split
        · exact pL_clo h _ _ _
        · exact h
theorem pL_rThenF {x : Bool × Nat × (Nat → List Int32)} {f : Nat → (Nat → List Int32) → Bool × Nat × (Nat → List Int32)} (h : pL x.2.2) (hf : ∀ a F, pL F → pL (f a F).2.2) : pL (rThenF x f).2.2 := by
  unfold rThenF
  split
  · exact hf _ _ h
  · exact h
theorem pL_rTra {tk : Nat → List Nat} : ∀ (f a : Nat) (F : Nat → List Int32), pL F → pL (rTra tk f a F).2.2
  | 0, a, F, h => h
  | f + 1, a, F, h => by
    show pL (if _ then _ else _ : Bool × Nat × (Nat → List Int32)).2.2
    split
    · exact pL_rThenF (pL_rThenF (pL_rThenF (pL_rLab (pL_begin h)) (fun a F h => pL_rRest h)) (fun a F h => h)) (fun a F h => pL_rTra f a F h)
    · exact h
