/-! a line's start is no more than the code's length -/
def Mo (f : Nat → List Int32 → Bool × Nat × List Int32) : Prop := ∀ (a : Nat) (co : List Int32), co.length ≤ (f a co).2.2.length
theorem jAdd_ge (lim : Nat) (xs : List Int32) (x : Int32) : xs.length ≤ (jAdd lim xs x).length := by
  rw [jAdd_len_eq]
  split <;> omega
theorem mo_then {x : Bool × Nat × List Int32} {n : Nat} (hx : n ≤ x.2.2.length) {f : Nat → List Int32 → Bool × Nat × List Int32} (hf : Mo f) : n ≤ (rThen x f).2.2.length := by
  unfold rThen
  split
  · exact Nat.le_trans hx (hf _ _)
  · exact hx
theorem mo_wr (k : Nat) : Mo (rWr k) := fun a co => jAdd_ge _ _ _
theorem mo_lit (tk : Nat → List Nat) : Mo (rLit tk) := fun a co => jAdd_ge _ _ _
theorem mo_no : Mo rNo := fun a co => Nat.le_refl _
theorem mo_take (tk : Nat → List Nat) (k : Nat) : Mo (rTake tk k) := by
  intro a co
  unfold rTake
  split <;> exact Nat.le_refl _
theorem mo_loop (tk : Nat → List Nat) (jn : Nat → Bool) {f : Nat → List Int32 → Bool × Nat × List Int32} (hf : Mo f) : ∀ n : Nat, Mo (rLoop tk jn f n)
  | 0 => fun a co => Nat.le_refl _
  | n + 1 => fun a co => by
    show co.length ≤ (if _ then _ else _ : Bool × Nat × List Int32).2.2.length
    split
    · exact mo_then (mo_then (hf _ _) (mo_wr _)) (mo_loop tk jn hf n)
    · exact Nat.le_refl _
theorem mo_seq (tk : Nat → List Nat) (jn : Nat → Bool) {f : Nat → List Int32 → Bool × Nat × List Int32} (hf : Mo f) : Mo (rSeq tk jn f) := fun a co => mo_then (hf a co) (mo_loop tk jn hf 8000)
theorem mo_te (tk : Nat → List Nat) {f : Nat → List Int32 → Bool × Nat × List Int32} (hf : Mo f) : Mo (rTe tk f) := fun a co => mo_then (hf a co) (fun a co => by
  show co.length ≤ (if _ then _ else _ : Bool × Nat × List Int32).2.2.length
  split
  · exact mo_then (hf _ _) (mo_wr _)
  · exact Nat.le_refl _)
theorem mo_br (tk : Nat → List Nat) {f : Nat → List Int32 → Bool × Nat × List Int32} (hf : Mo f) : Mo (rBr tk f) := fun a co => mo_then (mo_then (mo_take tk 91 a co) hf) (mo_take tk 93)
theorem mo_pl (tk : Nat → List Nat) {f : Nat → List Int32 → Bool × Nat × List Int32} (hf : Mo f) : Mo (rPl tk f) := by
  intro a co
  unfold rPl
  split
  · exact mo_lit tk a co
  · exact hf a co
theorem mo_fw (tk : Nat → List Nat) {n b : Nat → List Int32 → Bool × Nat × List Int32} (hn : Mo n) (hb : Mo b) : Mo (rFw tk n b) := by
  intro a co
  unfold rFw
  split
  · exact hn a co
  · split
    · exact mo_then (hb _ _) (mo_wr _)
    · split
      · exact mo_then (mo_pl tk hb _ _) (mo_wr _)
      · split
        · exact mo_lit tk a co
        · exact hb a co
theorem mo_fac (tk : Nat → List Nat) : ∀ r : Nat, Mo (rFac tk r)
  | 0 => mo_fw tk mo_no mo_no
  | r + 1 => mo_fw tk (fun a co => mo_then (mo_fac tk r _ _) (mo_wr 1)) (mo_br tk (mo_te tk (mo_seq tk jnP (mo_seq tk jnF (mo_fac tk r)))))
theorem mo_bra (tk : Nat → List Nat) : ∀ r : Nat, Mo (rBra tk r)
  | 0 => mo_no
  | r + 1 => mo_br tk (mo_te tk (mo_seq tk jnP (mo_seq tk jnF (mo_fac tk r))))
theorem mo_sum (tk : Nat → List Nat) (r : Nat) : Mo (rSum tk r) := mo_seq tk jnP (mo_seq tk jnF (mo_fac tk r))
def pS (F : Nat → List Int32) : Prop := ∃ ss : List Nat, F 1 = ss.map nI ∧ ∀ x ∈ ss, x ≤ (F 0).length
theorem pS_nil : pS (fun _ => []) := ⟨[], rfl, fun x h => absurd h List.not_mem_nil⟩
theorem pS_begin {F : Nat → List Int32} (h : pS F) : pS (jBeginT F) := by
  obtain ⟨ss, e, hb⟩ := h
  unfold pS
  show ∃ ss : List Nat, jAdd 8000 (F 1) (nI (F 0).length) = ss.map nI ∧ ∀ x ∈ ss, x ≤ (F 0).length
  unfold jAdd
  split
  · refine ⟨ss ++ [(F 0).length], by rw [e, List.map_append]; rfl, fun x hx => ?_⟩
    rcases List.mem_append.mp hx with q | q
    · exact hb x q
    · rw [List.mem_singleton.mp q]; exact Nat.le_refl _
  · exact ⟨ss, e, hb⟩
theorem pS_code {F : Nat → List Int32} (h : pS F) {co : List Int32} (hc : (F 0).length ≤ co.length) : pS (va_up F 0 co) := by
  obtain ⟨ss, e, hb⟩ := h
  exact ⟨ss, e, fun x hx => Nat.le_trans (hb x hx) hc⟩
theorem pS_rLab {tk : Nat → List Nat} {a : Nat} {F : Nat → List Int32} (h : pS F) : pS (rLab tk a F).2.2 := by
  unfold rLab
  split
  · exact h
  · exact h
theorem pS_rThenL {x : Bool × Nat × List Int32} {F : Nat → List Int32} (hx : (F 0).length ≤ x.2.2.length) {f : Nat → (Nat → List Int32) → Bool × Nat × (Nat → List Int32)} (h : pS F) (hf : ∀ a F, pS F → pS (f a F).2.2) : pS (rThenL x F f).2.2 := by
  unfold rThenL
  split
  · exact hf _ _ (pS_code h hx)
  · exact pS_code h hx
theorem pS_rRest {tk : Nat → List Nat} {a : Nat} {F : Nat → List Int32} (h : pS F) : pS (rRest tk a F).2.2 := by
  unfold rRest
  split
  · exact pS_rThenL (mo_then (mo_then (mo_then (mo_then (mo_pl tk (mo_bra tk 20) _ _) (mo_wr 3)) (mo_take tk 61)) (mo_sum tk 20)) (mo_wr 4)) h (fun a F h => h)
  · split
    · exact pS_rThenL (mo_then (mo_bra tk 20 _ _) (mo_take tk 301)) h (fun a F h => h)
    · split
      · exact pS_rThenL (mo_then (mo_bra tk 20 _ _) (mo_take tk 303)) h (fun a F h => h)
      · split
        · exact h
        · exact h
theorem pS_rThenF {x : Bool × Nat × (Nat → List Int32)} {f : Nat → (Nat → List Int32) → Bool × Nat × (Nat → List Int32)} (h : pS x.2.2) (hf : ∀ a F, pS F → pS (f a F).2.2) : pS (rThenF x f).2.2 := by
  unfold rThenF
  split
  · exact hf _ _ h
  · exact h
theorem pS_rTra {tk : Nat → List Nat} : ∀ (f a : Nat) (F : Nat → List Int32), pS F → pS (rTra tk f a F).2.2
  | 0, a, F, h => h
  | f + 1, a, F, h => by
    show pS (if _ then _ else _ : Bool × Nat × (Nat → List Int32)).2.2
    split
    · exact pS_rThenF (pS_rThenF (pS_rThenF (pS_rLab (pS_begin h)) (fun a F h => pS_rRest h)) (fun a F h => h)) (fun a F h => pS_rTra f a F h)
    · exact h
