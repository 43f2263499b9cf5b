/-! what the parse adds to the code doesn't look at the code so far -/
def UniX (x : List Int → Bool × Nat × List Int) : Prop := ∀ co : List Int, x co = ((x []).1, (x []).2.1, co ++ (x []).2.2)
def Uni (g : Nat → List Int → Bool × Nat × List Int) : Prop := ∀ a : Nat, UniX (g a)
theorem uni_then {x : List Int → Bool × Nat × List Int} {f : Nat → List Int → Bool × Nat × List Int} (hx : UniX x) (hf : Uni f) : UniX (fun co => pThen (x co) f) := by
  intro co
  show pThen (x co) f = ((pThen (x []) f).1, (pThen (x []) f).2.1, co ++ (pThen (x []) f).2.2)
  have h := hx co
  generalize x [] = y at h ⊢
  obtain ⟨b, i, e⟩ := y
  rw [h]
  cases b with
  | false => rfl
  | true =>
    show f i (co ++ e) = ((f i e).1, (f i e).2.1, co ++ (f i e).2.2)
    rw [hf i (co ++ e), hf i e, List.append_assoc]
theorem uni_wr (k : Nat) : Uni (pWr k) := fun a co => rfl
theorem uni_take (tk : Nat → List Nat) (k : Nat) : Uni (pTake tk k) := by
  intro a co
  unfold pTake
  split
  · show (true, a + 1, co) = (true, a + 1, co ++ [])
    rw [List.append_nil]
  · show (false, a, co) = (false, a, co ++ [])
    rw [List.append_nil]
theorem uni_id (b : Bool) (a : Nat) : UniX (fun co => (b, a, co)) := by
  intro co
  show (b, a, co) = (b, a, co ++ [])
  rw [List.append_nil]
theorem uni_lit (tk : Nat → List Nat) : Uni (pLit tk) := fun a co => rfl
theorem uni_no : Uni pNo := fun a => uni_id false a
theorem uni_if {c : Prop} [Decidable c] {x y : List Int → Bool × Nat × List Int} (hx : UniX x) (hy : UniX y) : UniX (fun co => if c then x co else y co) := by
  intro co
  show (if c then x co else y co) = ((if c then x [] else y []).1, (if c then x [] else y []).2.1, co ++ (if c then x [] else y []).2.2)
  split
  · exact hx co
  · exact hy co
theorem uni_loop (tk : Nat → List Nat) (jn : Nat → Bool) {g : Nat → List Int → Bool × Nat × List Int} (hg : Uni g) : ∀ n : Nat, Uni (pLoop tk jn g n)
  | 0 => fun a => uni_id true a
  | n + 1 => fun a => uni_if (uni_then (uni_then (hg (a + 1)) (uni_wr _)) (uni_loop tk jn hg n)) (uni_id true a)
theorem uni_seq (tk : Nat → List Nat) (jn : Nat → Bool) {g : Nat → List Int → Bool × Nat × List Int} (hg : Uni g) : Uni (pSeq tk jn g) := fun a => uni_then (hg a) (uni_loop tk jn hg 8000)
theorem uni_te (tk : Nat → List Nat) {g : Nat → List Int → Bool × Nat × List Int} (hg : Uni g) : Uni (pTe tk g) := fun a => uni_then (hg a) (fun a => uni_if (uni_then (hg (a + 1)) (uni_wr _)) (uni_id true a))
theorem uni_br (tk : Nat → List Nat) {g : Nat → List Int → Bool × Nat × List Int} (hg : Uni g) : Uni (pBr tk g) := fun a => uni_then (uni_then (uni_take tk 91 a) hg) (uni_take tk 93)
theorem uni_pl (tk : Nat → List Nat) {g : Nat → List Int → Bool × Nat × List Int} (hg : Uni g) : Uni (pPl tk g) := fun a => uni_if (uni_lit tk a) (hg a)
theorem uni_fw (tk : Nat → List Nat) {n2 b2 : Nat → List Int → Bool × Nat × List Int} (hn : Uni n2) (hb : Uni b2) : Uni (pFw tk n2 b2) := fun a => uni_if (hn a) (uni_if (uni_then (hb (a + 1)) (uni_wr _)) (uni_if (uni_then (uni_pl tk hb (a + 1)) (uni_wr _)) (uni_if (uni_lit tk a) (hb a))))
theorem uni_fac (tk : Nat → List Nat) : ∀ r : Nat, Uni (pFac tk r)
  | 0 => uni_fw tk uni_no uni_no
  | r + 1 => uni_fw tk (fun a => uni_then (uni_fac tk r (a + 1)) (uni_wr 1)) (uni_br tk (uni_te tk (uni_seq tk jnP (uni_seq tk jnF (uni_fac tk r)))))
theorem uni_bra (tk : Nat → List Nat) : ∀ r : Nat, Uni (pBra tk r)
  | 0 => uni_no
  | r + 1 => uni_br tk (uni_te tk (uni_seq tk jnP (uni_seq tk jnF (uni_fac tk r))))
theorem uni_sum (tk : Nat → List Nat) (r : Nat) : Uni (pSeq tk jnP (pSeq tk jnF (pFac tk r))) := uni_seq tk jnP (uni_seq tk jnF (uni_fac tk r))
