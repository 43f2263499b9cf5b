/-! the bounds of the code's entries -/
def eB (e : List Int) : Prop := ∀ x ∈ e, -1000000000 ≤ x ∧ x ≤ 1000000000
def CloX (x : List Int → Bool × Nat × List Int) : Prop := ∀ co : List Int, eB co → eB (x co).2.2
def Clo (g : Nat → List Int → Bool × Nat × List Int) : Prop := ∀ a : Nat, CloX (g a)
theorem eB_app {e : List Int} {x : Int} (h : eB e) (hx : -1000000000 ≤ x ∧ x ≤ 1000000000) : eB (e ++ [x]) := by
  intro y hy
  rcases List.mem_append.mp hy with q | q
  · exact h y q
  · rw [List.mem_singleton.mp q]; exact hx
theorem clo_then {x : List Int → Bool × Nat × List Int} {f : Nat → List Int → Bool × Nat × List Int} (hx : CloX x) (hf : Clo f) : CloX (fun co => pThen (x co) f) := by
  intro co h
  have h1 := hx co h
  show eB (pThen (x co) f).2.2
  unfold pThen
  split
  · exact hf _ _ h1
  · exact h1
theorem clo_wr {k : Nat} (hk : k ≤ 1000000000) : Clo (pWr k) := fun a co h => eB_app h (by omega)
theorem clo_take (tk : Nat → List Nat) (k : Nat) : Clo (pTake tk k) := by
  intro a co h
  show eB (pTake tk k a co).2.2
  unfold pTake
  split
  · exact h
  · exact h
theorem clo_id (b : Bool) (a : Nat) : CloX (fun co => (b, a, co)) := fun co h => h
theorem clo_no : Clo pNo := fun a => clo_id false a
theorem clo_if {c : Prop} [Decidable c] {x y : List Int → Bool × Nat × List Int} (hx : CloX x) (hy : CloX y) : CloX (fun co => if c then x co else y co) := by
  intro co h
  show eB (if c then x co else y co).2.2
  split
  · exact hx co h
  · exact hy co h
theorem clo_lit {tk : Nat → List Nat} (hb : ∀ i, i < 3 → ∀ j, (tk i).getD j 0 < 1000000000) : Clo (pLit tk) := fun a co h => eB_app h (by have := hb 2 (by decide) a; omega)
theorem clo_loop {tk : Nat → List Nat} (hb : ∀ i, i < 3 → ∀ j, (tk i).getD j 0 < 1000000000) (jn : Nat → Bool) {g : Nat → List Int → Bool × Nat × List Int} (hg : Clo g) : ∀ n : Nat, Clo (pLoop tk jn g n)
  | 0 => fun a => clo_id true a
  | n + 1 => fun a => clo_if (clo_then (clo_then (hg (a + 1)) (clo_wr (Nat.le_of_lt (hb 0 (by decide) a)))) (clo_loop hb jn hg n)) (clo_id true a)
theorem clo_seq {tk : Nat → List Nat} (hb : ∀ i, i < 3 → ∀ j, (tk i).getD j 0 < 1000000000) (jn : Nat → Bool) {g : Nat → List Int → Bool × Nat × List Int} (hg : Clo g) : Clo (pSeq tk jn g) := fun a => clo_then (hg a) (clo_loop hb jn hg 8000)
theorem clo_te {tk : Nat → List Nat} (hb : ∀ i, i < 3 → ∀ j, (tk i).getD j 0 < 1000000000) {g : Nat → List Int → Bool × Nat × List Int} (hg : Clo g) : Clo (pTe tk g) := fun a => clo_then (hg a) (fun a => clo_if (clo_then (hg (a + 1)) (clo_wr (Nat.le_of_lt (hb 0 (by decide) a)))) (clo_id true a))
theorem clo_br {tk : Nat → List Nat} {g : Nat → List Int → Bool × Nat × List Int} (hg : Clo g) : Clo (pBr tk g) := fun a => clo_then (clo_then (clo_take tk 91 a) hg) (clo_take tk 93)
theorem clo_pl {tk : Nat → List Nat} (hb : ∀ i, i < 3 → ∀ j, (tk i).getD j 0 < 1000000000) {g : Nat → List Int → Bool × Nat × List Int} (hg : Clo g) : Clo (pPl tk g) := fun a => clo_if (clo_lit hb a) (hg a)
theorem clo_fw {tk : Nat → List Nat} (hb : ∀ i, i < 3 → ∀ j, (tk i).getD j 0 < 1000000000) {n2 b2 : Nat → List Int → Bool × Nat × List Int} (hn : Clo n2) (hb2 : Clo b2) : Clo (pFw tk n2 b2) := fun a => clo_if (hn a) (clo_if (clo_then (hb2 (a + 1)) (clo_wr (Nat.le_of_lt (hb 0 (by decide) a)))) (clo_if (clo_then (clo_pl hb hb2 (a + 1)) (clo_wr (by decide))) (clo_if (clo_lit hb a) (hb2 a))))
theorem clo_fac {tk : Nat → List Nat} (hb : ∀ i, i < 3 → ∀ j, (tk i).getD j 0 < 1000000000) : ∀ r : Nat, Clo (pFac tk r)
  | 0 => clo_fw hb clo_no clo_no
  | r + 1 => clo_fw hb (fun a => clo_then (clo_fac hb r (a + 1)) (clo_wr (by decide))) (clo_br (clo_te hb (clo_seq hb jnP (clo_seq hb jnF (clo_fac hb r)))))
theorem clo_bra {tk : Nat → List Nat} (hb : ∀ i, i < 3 → ∀ j, (tk i).getD j 0 < 1000000000) : ∀ r : Nat, Clo (pBra tk r)
  | 0 => clo_no
  | r + 1 => clo_br (clo_te hb (clo_seq hb jnP (clo_seq hb jnF (clo_fac hb r))))
theorem clo_sum {tk : Nat → List Nat} (hb : ∀ i, i < 3 → ∀ j, (tk i).getD j 0 < 1000000000) (r : Nat) : Clo (pSeq tk jnP (pSeq tk jnF (pFac tk r))) := clo_seq hb jnP (clo_seq hb jnF (clo_fac hb r))
