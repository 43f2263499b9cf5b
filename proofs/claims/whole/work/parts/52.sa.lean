/-! the reference's state is the steps of its lines over all tokens -/
def vOf (tk : Nat → List Nat) : Nat → Nat → Int32 := fun r i => if r = 0 then nI (kC ((tk 0).getD i 0)) else if r = 1 then nI ((tk 1).getD i 0) else if r = 2 then nI (kW ((tk 0).getD i 0) ((tk 2).getD i 0)) else bI (decide ((tk 0).getD i 0 = 256))
def tB3 (tk : Nat → List Nat) : Prop := (tk 0).length ≤ 32008 ∧ ∀ i, (tk 0).getD i 0 < 1000 ∧ (tk 1).getD i 0 < 1000000000 ∧ (tk 2).getD i 0 < 1000000000
theorem tV_of {tk : Nat → List Nat} (h : tB3 tk) : tV tk (vOf tk) := ⟨h.1, fun i _ => ⟨rfl, rfl, rfl, rfl⟩, h.2⟩
theorem tB3_pre {tk tk2 : Nat → List Nat} (hx : tkX tk tk2) (hl : tL tk) (h : tB3 tk2) : tB3 tk := by
  have hlen := hx.len
  refine ⟨by have := h.1; omega, fun i => ?_⟩
  by_cases q : i < (tk 0).length
  · rw [← hx.getD hl (r := 0) (by decide) q, ← hx.getD hl (r := 1) (by decide) q, ← hx.getD hl (r := 2) (by decide) q]
    exact h.2 i
  · rw [getD_gt (l := tk 0) (by omega), getD_gt (l := tk 1) (by rw [hl.1]; omega), getD_gt (l := tk 2) (by rw [hl.2]; omega)]
    omega
def sA (A : Nat → List Nat) (N : Nat) (fi : Nat → Nat) (S0 : LSt) : Nat → LSt
  | 0 => S0
  | n + 1 => lsLine A N n (fi n) (sA A N fi S0 n)
theorem sA_c (A : Nat → List Nat) (N : Nat) {fi fi2 : Nat → Nat} (S0 : LSt) : ∀ n : Nat, (∀ x, x < n → fi x = fi2 x) → sA A N fi S0 n = sA A N fi2 S0 n
  | 0, _ => rfl
  | n + 1, h => by
    show lsLine A N n (fi n) (sA A N fi S0 n) = lsLine A N n (fi2 n) (sA A N fi2 S0 n)
    rw [sA_c A N S0 n (fun x hx => h x (by omega)), h n (by omega)]
theorem rlF_S {T : List Nat} (hT : T.length ≤ 16000) (N : Nat) : ∀ (f k : Nat) (tk : Nat → List Nat) (j : Nat) (S : LSt) (fi : Nat → Nat), tL tk → (tk 0).length ≤ k → j ≤ k → lInv tk j S → (rlF T N f k tk j S fi).1 = true → tB3 (rlF T N f k tk j S fi).2.2.1 →
    (j ≤ (rlF T N f k tk j S fi).2.2.2.1 ∧ (rlF T N f k tk j S fi).2.2.2.1 ≤ max j T.length) ∧ (∀ x, x < j → (rlF T N f k tk j S fi).2.2.2.2.2 x = fi x) ∧
    (∀ x, j ≤ x → x < (rlF T N f k tk j S fi).2.2.2.1 → (qLine (rlF T N f k tk j S fi).2.2.1 N ((rlF T N f k tk j S fi).2.2.2.2.2 x)).1 = true ∧ (rlF T N f k tk j S fi).2.2.2.2.2 x + 1 ≤ ((rlF T N f k tk j S fi).2.2.1 0).length) ∧
    (∀ S0, S = sA (rlF T N f k tk j S fi).2.2.1 N fi S0 j → (rlF T N f k tk j S fi).2.2.2.2.1 = sA (rlF T N f k tk j S fi).2.2.1 N (rlF T N f k tk j S fi).2.2.2.2.2 S0 (rlF T N f k tk j S fi).2.2.2.1) ∧
    lInv (rlF T N f k tk j S fi).2.2.1 (rlF T N f k tk j S fi).2.2.2.1 (rlF T N f k tk j S fi).2.2.2.2.1
  | 0, k, tk, j, S, fi, hl, h3, hj, hI, _, _ => ⟨⟨Nat.le_refl j, by show j ≤ max j T.length; omega⟩, fun _ _ => rfl, fun x h1 h2 => absurd (show x < j from h2) (by omega), fun _ h => h, hI⟩
  | f + 1, k, tk, j, S, fi, hl, h3, hj, hI, hR, hB => by
    by_cases q : k < T.length
    · have hcp := cuF_p T (T.length + 1) tk k (by omega) (by omega) h3 hl
      have hn10 := fun j => cuF_n10 T (T.length + 1) tk k j (by omega) (by omega) h3 hl
      have hend := qLine_end hcp.2.2.1 N (a := (tk 0).length) (by omega)
      rw [rlF_s q] at hR hB ⊢
      generalize cuF T (T.length + 1) tk k = c at *
      obtain ⟨p1, p2, p3, p4, p5, p6, p7⟩ := hcp
      by_cases hy : (qLine c.1 N (tk 0).length).1 = true
      · rw [if_pos hy] at hR hB ⊢
        have hx := (rlF_x T N f c.2 c.1 (j + 1) _ _ p2 (by omega) hR).1
        have hIc := hI.ext p1 hl
        have hIl := lInv_line (tV_of (tB3_pre hx p2 hB)) p3 (N := N) (a := (tk 0).length) (by omega) hy hIc
        have ih := rlF_S hT N f c.2 c.1 (j + 1) _ _ p2 (by omega) (by omega) hIl hR hB
        have hls := lsLine_x hx p2 p3 (N := N) (j := j) (a := (tk 0).length) (by omega) hy hIc.1
        have hqx := qLine_x hx p2 p3 N (a := (tk 0).length) (by omega) (fun _ => by
          obtain ⟨x, x1, x2, x3, x4⟩ := hend.1 hy
          have := hn10 x x2 x4
          omega) (fun h => absurd (h.symm.trans hy) Bool.false_ne_true)
        have hxl := hx.len
        generalize rlF T N f c.2 c.1 (j + 1) (lsLine c.1 N j (tk 0).length S) (va_up fi j (tk 0).length) = R at *
        obtain ⟨⟨i1, i2⟩, i3, i4, i5, i6⟩ := ih
        refine ⟨⟨by omega, by omega⟩, fun x hx9 => by rw [i3 x (by omega), va_up_ne _ _ (by omega)], fun x h1 h2 => ?_, fun S0 h0 => i5 S0 ?_, i6⟩
        · by_cases e : x = j
          · subst e
            rw [i3 x (by omega), va_up_self, hqx]
            exact ⟨hy, by omega⟩
          · exact i4 x (by omega) h2
        · show lsLine c.1 N j (tk 0).length S = lsLine R.2.2.1 N j (va_up fi j (tk 0).length j) (sA R.2.2.1 N (va_up fi j (tk 0).length) S0 j)
          rw [va_up_self, ← hls, sA_c R.2.2.1 N S0 j (fi := va_up fi j (tk 0).length) (fi2 := fi) (fun x hx9 => va_up_ne _ _ (by omega)), ← h0]
      · rw [if_neg hy] at hR
        exact absurd hR Bool.false_ne_true
    · rw [rlF_e (Or.inr q)]
      exact ⟨⟨Nat.le_refl j, by show j ≤ max j T.length; omega⟩, fun _ _ => rfl, fun x h1 h2 => absurd (show x < j from h2) (by omega), fun _ h => h, hI⟩
