/-! the code row holds numbers within +-10^9 -/
def rowC (l : List Int32) : Prop := ∃ co : List Int, l = co.map iI ∧ eB co
theorem rowC.add {l : List Int32} (h : rowC l) {x : Int} (hx : -1000000000 ≤ x ∧ x ≤ 1000000000) : rowC (jAdd 8000 l (iI x)) := by
  obtain ⟨co, rfl, hb⟩ := h
  unfold jAdd
  split
  · exact ⟨co ++ [x], by rw [List.map_append]; rfl, eB_app hb hx⟩
  · exact ⟨co, rfl, hb⟩
def RcX (x : List Int32 → Bool × Nat × List Int32) : Prop := ∀ co : List Int32, rowC co → rowC (x co).2.2
def Rc (g : Nat → List Int32 → Bool × Nat × List Int32) : Prop := ∀ a : Nat, RcX (g a)
theorem rc_then {x : List Int32 → Bool × Nat × List Int32} {f : Nat → List Int32 → Bool × Nat × List Int32} (hx : RcX x) (hf : Rc f) : RcX (fun co => rThen (x co) f) := by
  intro co h
  have h1 := hx co h
  show rowC (rThen (x co) f).2.2
  unfold rThen
  split
  · exact hf _ _ h1
  · exact h1
theorem rc_wr {k : Nat} (hk : k ≤ 1000000000) : Rc (rWr k) := fun a co h => h.add (by omega)
theorem rc_take (tk : Nat → List Nat) (k : Nat) : Rc (rTake tk k) := by
  intro a co h
  show rowC (rTake tk k a co).2.2
  unfold rTake
  split
  · exact h
  · exact h
theorem rc_id (b : Bool) (a : Nat) : RcX (fun co => (b, a, co)) := fun co h => h
theorem rc_no : Rc rNo := fun a => rc_id false a
theorem rc_if {c : Prop} [Decidable c] {x y : List Int32 → Bool × Nat × List Int32} (hx : RcX x) (hy : RcX y) : RcX (fun co => if c then x co else y co) := by
  intro co h
  show rowC (if c then x co else y co).2.2
  split
  · exact hx co h
  · exact hy co h
theorem rc_lit {tk : Nat → List Nat} (hb : ∀ i, i < 3 → ∀ j, (tk i).getD j 0 < 1000000000) : Rc (rLit tk) := fun a co h => by
  have h1 := hb 2 (by decide) a
  have h2 := h.add (x := ((tk 2).getD a 0 : Int)) (by omega)
  rw [← nI_iI] at h2
  exact h2
theorem rc_loop {tk : Nat → List Nat} (hb : ∀ i, i < 3 → ∀ j, (tk i).getD j 0 < 1000000000) (jn : Nat → Bool) {f : Nat → List Int32 → Bool × Nat × List Int32} (hf : Rc f) : ∀ n : Nat, Rc (rLoop tk jn f n)
  | 0 => fun a => rc_id true a
  | n + 1 => fun a => rc_if (rc_then (rc_then (hf (a + 1)) (rc_wr (Nat.le_of_lt (hb 0 (by decide) a)))) (rc_loop hb jn hf n)) (rc_id true a)
theorem rc_seq {tk : Nat → List Nat} (hb : ∀ i, i < 3 → ∀ j, (tk i).getD j 0 < 1000000000) (jn : Nat → Bool) {f : Nat → List Int32 → Bool × Nat × List Int32} (hf : Rc f) : Rc (rSeq tk jn f) := fun a => rc_then (hf a) (rc_loop hb jn hf 8000)
theorem rc_te {tk : Nat → List Nat} (hb : ∀ i, i < 3 → ∀ j, (tk i).getD j 0 < 1000000000) {f : Nat → List Int32 → Bool × Nat × List Int32} (hf : Rc f) : Rc (rTe tk f) := fun a => rc_then (hf a) (fun a => rc_if (rc_then (hf (a + 1)) (rc_wr (Nat.le_of_lt (hb 0 (by decide) a)))) (rc_id true a))
theorem rc_br {tk : Nat → List Nat} {f : Nat → List Int32 → Bool × Nat × List Int32} (hf : Rc f) : Rc (rBr tk f) := fun a => rc_then (rc_then (rc_take tk 91 a) hf) (rc_take tk 93)
theorem rc_pl {tk : Nat → List Nat} (hb : ∀ i, i < 3 → ∀ j, (tk i).getD j 0 < 1000000000) {f : Nat → List Int32 → Bool × Nat × List Int32} (hf : Rc f) : Rc (rPl tk f) := fun a => rc_if (rc_lit hb a) (hf a)
theorem rc_fw {tk : Nat → List Nat} (hb : ∀ i, i < 3 → ∀ j, (tk i).getD j 0 < 1000000000) {n2 b2 : Nat → List Int32 → Bool × Nat × List Int32} (hn : Rc n2) (hb2 : Rc b2) : Rc (rFw tk n2 b2) := fun a => rc_if (hn a) (rc_if (rc_then (hb2 (a + 1)) (rc_wr (Nat.le_of_lt (hb 0 (by decide) a)))) (rc_if (rc_then (rc_pl hb hb2 (a + 1)) (rc_wr (by decide))) (rc_if (rc_lit hb a) (hb2 a))))
theorem rc_fac {tk : Nat → List Nat} (hb : ∀ i, i < 3 → ∀ j, (tk i).getD j 0 < 1000000000) : ∀ r : Nat, Rc (rFac tk r)
  | 0 => rc_fw hb rc_no rc_no
  | r + 1 => rc_fw hb (fun a => rc_then (rc_fac hb r (a + 1)) (rc_wr (by decide))) (rc_br (rc_te hb (rc_seq hb jnP (rc_seq hb jnF (rc_fac hb r)))))
theorem rc_bra {tk : Nat → List Nat} (hb : ∀ i, i < 3 → ∀ j, (tk i).getD j 0 < 1000000000) : ∀ r : Nat, Rc (rBra tk r)
  | 0 => rc_no
  | r + 1 => rc_br (rc_te hb (rc_seq hb jnP (rc_seq hb jnF (rc_fac hb r))))
theorem rc_sum {tk : Nat → List Nat} (hb : ∀ i, i < 3 → ∀ j, (tk i).getD j 0 < 1000000000) (r : Nat) : Rc (rSum tk r) := rc_seq hb jnP (rc_seq hb jnF (rc_fac hb r))
theorem rc_rRest {tk : Nat → List Nat} (hb : ∀ i, i < 3 → ∀ j, (tk i).getD j 0 < 1000000000) {a : Nat} {F : Nat → List Int32} (h : rowC (F 0)) : rowC ((rRest tk a F).2.2 0) := by
  unfold rRest
  split
  · have h1 := rc_then (rc_then (rc_then (rc_then (rc_pl hb (rc_bra hb 20) (a + 1)) (rc_wr (k := 3) (by decide))) (rc_take tk 61)) (rc_sum hb 20)) (rc_wr (k := 4) (by decide)) (F 0) h
    unfold rThenL
    split
    · exact h1
    · exact h1
  · split
    · have h1 := rc_then (rc_bra hb 20 (a + 1)) (rc_take tk 301) (F 0) h
      unfold rThenL
      split
      · exact h1
      · exact h1
    · split
      · have h1 := rc_then (rc_bra hb 20 (a + 1)) (rc_take tk 303) (F 0) h
        unfold rThenL
        split
        · exact h1
        · exact h1
      · split
        · exact h
        · exact h
theorem rc_rLab {tk : Nat → List Nat} {a : Nat} {F : Nat → List Int32} (h : rowC (F 0)) : rowC ((rLab tk a F).2.2 0) := by
  unfold rLab
  split
  · exact h
  · exact h
theorem rc_rThenF {x : Bool × Nat × (Nat → List Int32)} {f : Nat → (Nat → List Int32) → Bool × Nat × (Nat → List Int32)} (h : rowC (x.2.2 0)) (hf : ∀ a F, rowC (F 0) → rowC ((f a F).2.2 0)) : rowC ((rThenF x f).2.2 0) := by
  unfold rThenF
  split
  · exact hf _ _ h
  · exact h
theorem rc_rTra {tk : Nat → List Nat} (hb : ∀ i, i < 3 → ∀ j, (tk i).getD j 0 < 1000000000) : ∀ (f a : Nat) (F : Nat → List Int32), rowC (F 0) → rowC ((rTra tk f a F).2.2 0)
  | 0, a, F, h => h
  | f + 1, a, F, h => by
    show rowC ((if _ then _ else _ : Bool × Nat × (Nat → List Int32)).2.2 0)
    split
    · exact rc_rThenF (rc_rThenF (rc_rThenF (rc_rLab (F := jBeginT F) h) (fun a F h => rc_rRest hb h)) (fun a F h => h)) (fun a F h => rc_rTra hb f a F h)
    · exact h
