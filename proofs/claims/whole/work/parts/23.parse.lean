/-! the parse over numbers: as the class's, without a limit -/
def pThen (x : Bool × Nat × List Int) (f : Nat → List Int → Bool × Nat × List Int) : Bool × Nat × List Int := if x.1 = true then f x.2.1 x.2.2 else x
def pTake (tk : Nat → List Nat) (k a : Nat) (co : List Int) : Bool × Nat × List Int := if (tk 0).getD a 0 = k then (true, a + 1, co) else (false, a, co)
def pLit (tk : Nat → List Nat) (a : Nat) (co : List Int) : Bool × Nat × List Int := (true, a + 1, co ++ [((tk 2).getD a 0 : Int)])
def pWr (act a : Nat) (co : List Int) : Bool × Nat × List Int := (true, a, co ++ [-(act : Int)])
def pLoop (tk : Nat → List Nat) (jn : Nat → Bool) (part : Nat → List Int → Bool × Nat × List Int) : Nat → Nat → List Int → Bool × Nat × List Int
  | 0 => fun a co => (true, a, co)
  | f + 1 => fun a co => if jn ((tk 0).getD a 0) = true then pThen (pThen (part (a + 1) co) (pWr ((tk 0).getD a 0))) (pLoop tk jn part f) else (true, a, co)
def pSeq (tk : Nat → List Nat) (jn : Nat → Bool) (part : Nat → List Int → Bool × Nat × List Int) (a : Nat) (co : List Int) : Bool × Nat × List Int := pThen (part a co) (pLoop tk jn part 8000)
def pPl (tk : Nat → List Nat) (br : Nat → List Int → Bool × Nat × List Int) (a : Nat) (co : List Int) : Bool × Nat × List Int := if (tk 0).getD a 0 = 256 then pLit tk a co else br a co
def pBr (tk : Nat → List Nat) (te : Nat → List Int → Bool × Nat × List Int) (a : Nat) (co : List Int) : Bool × Nat × List Int := pThen (pThen (pTake tk 91 a co) te) (pTake tk 93)
def pTe (tk : Nat → List Nat) (su : Nat → List Int → Bool × Nat × List Int) (a : Nat) (co : List Int) : Bool × Nat × List Int := pThen (su a co) (fun a co => if 313 ≤ (tk 0).getD a 0 ∧ (tk 0).getD a 0 ≤ 318 then pThen (su (a + 1) co) (pWr ((tk 0).getD a 0)) else (true, a, co))
def pFw (tk : Nat → List Nat) (ng br : Nat → List Int → Bool × Nat × List Int) (a : Nat) (co : List Int) : Bool × Nat × List Int :=
  if (tk 0).getD a 0 = 45 then ng a co
  else if (tk 0).getD a 0 = 305 ∨ (tk 0).getD a 0 = 306 ∨ (tk 0).getD a 0 = 307 ∨ (tk 0).getD a 0 = 308 then pThen (br (a + 1) co) (pWr ((tk 0).getD a 0))
  else if (tk 0).getD a 0 = 35 then pThen (pPl tk br (a + 1) co) (pWr 2)
  else if (tk 0).getD a 0 = 256 ∨ (tk 0).getD a 0 = 257 then pLit tk a co
  else br a co
def pNo (a : Nat) (co : List Int) : Bool × Nat × List Int := (false, a, co)
def pFac (tk : Nat → List Nat) : Nat → Nat → List Int → Bool × Nat × List Int
  | 0 => pFw tk pNo pNo
  | r + 1 => pFw tk (fun a co => pThen (pFac tk r (a + 1) co) (pWr 1)) (pBr tk (pTe tk (pSeq tk jnP (pSeq tk jnF (pFac tk r)))))
def pBra (tk : Nat → List Nat) : Nat → Nat → List Int → Bool × Nat × List Int
  | 0 => pNo
  | r + 1 => pBr tk (pTe tk (pSeq tk jnP (pSeq tk jnF (pFac tk r))))
def pNeg (tk : Nat → List Nat) : Nat → Nat → List Int → Bool × Nat × List Int
  | 0 => pNo
  | r + 1 => fun a co => pThen (pFac tk r (a + 1) co) (pWr 1)
theorem pFac_eq (tk : Nat → List Nat) (r a : Nat) (co : List Int) : pFac tk r a co = pFw tk (pNeg tk r) (pBra tk r) a co := by
  cases r <;> rfl
/-- x is y in 32 bits; y stands s entries below its tokens -/
def SimX (s : Nat) (x : Bool × Nat × List Int32) (y : Bool × Nat × List Int) (a : Nat) (co : List Int) : Prop := x = (y.1, y.2.1, y.2.2.map iI) ∧ a ≤ y.2.1 ∧ y.2.1 ≤ 8000 ∧ y.2.2.length + a + s ≤ co.length + y.2.1
def Sim (f : Nat → List Int32 → Bool × Nat × List Int32) (g : Nat → List Int → Bool × Nat × List Int) : Prop := ∀ (a : Nat) (co : List Int), a ≤ 8000 → co.length ≤ a → SimX 0 (f a (co.map iI)) (g a co) a co
theorem sx_then {s : Nat} {x : Bool × Nat × List Int32} {y : Bool × Nat × List Int} {a : Nat} {co : List Int} (h : SimX s x y a co) (hco : co.length ≤ a) {f : Nat → List Int32 → Bool × Nat × List Int32} {g : Nat → List Int → Bool × Nat × List Int} (hf : Sim f g) : SimX s (rThen x f) (pThen y g) a co := by
  obtain ⟨rfl, h1, h2, h3⟩ := h
  obtain ⟨b, i, c⟩ := y
  dsimp only at *
  cases b with
  | false => exact ⟨rfl, h1, h2, h3⟩
  | true =>
    obtain ⟨e, k1, k2, k3⟩ := hf i c h2 (by omega)
    exact ⟨e, by show a ≤ (g i c).2.1; omega, k2, by show (g i c).2.2.length + a + s ≤ co.length + (g i c).2.1; omega⟩
theorem sx_wr {x : Bool × Nat × List Int32} {y : Bool × Nat × List Int} {a k : Nat} {co : List Int} (h : SimX 1 x y a co) (hco : co.length ≤ a) : SimX 0 (rThen x (rWr k)) (pThen y (pWr k)) a co := by
  obtain ⟨rfl, h1, h2, h3⟩ := h
  obtain ⟨b, i, c⟩ := y
  dsimp only at *
  cases b with
  | false => exact ⟨rfl, h1, h2, by show c.length + a + 0 ≤ co.length + i; omega⟩
  | true =>
    refine ⟨?_, h1, h2, ?_⟩
    · show (true, i, jAdd 8000 (c.map iI) (iI (-(k : Int)))) = (true, i, (c ++ [-(k : Int)]).map iI)
      rw [show jAdd 8000 (c.map iI) (iI (-(k : Int))) = c.map iI ++ [iI (-(k : Int))] from if_pos (by rw [List.length_map]; omega), List.map_append]
      rfl
    · show (c ++ [-(k : Int)]).length + a + 0 ≤ co.length + i
      rw [List.length_append, List.length_singleton]; omega
theorem sx_next {x : Bool × Nat × List Int32} {y : Bool × Nat × List Int} {a : Nat} {co : List Int} (h : SimX 0 x y (a + 1) co) : SimX 1 x y a co := by
  obtain ⟨e, h1, h2, h3⟩ := h
  exact ⟨e, by omega, h2, by omega⟩
theorem sx_weak {x : Bool × Nat × List Int32} {y : Bool × Nat × List Int} {a : Nat} {co : List Int} (h : SimX 1 x y a co) : SimX 0 x y a co := by
  obtain ⟨e, h1, h2, h3⟩ := h
  exact ⟨e, h1, h2, by omega⟩
theorem kOK.lt {tk : Nat → List Nat} (h : kOK tk) {a : Nat} (h0 : ¬ (tk 0).getD a 0 = 0) (h10 : ¬ (tk 0).getD a 0 = 10) : a < 8000 := by
  rcases Nat.lt_or_ge a 8000 with q | q
  · exact q
  · rcases h a q with e | e
    · exact absurd e h0
    · exact absurd e h10
theorem sim_take {tk : Nat → List Nat} (hk : kOK tk) {k : Nat} (h0 : ¬ k = 0) (h10 : ¬ k = 10) : Sim (rTake tk k) (pTake tk k) := by
  intro a co ha hco
  unfold rTake pTake
  split
  · rename_i q
    have := hk.lt (a := a) (by omega) (by omega)
    exact ⟨rfl, by show a ≤ a + 1; omega, by show a + 1 ≤ 8000; omega, by show co.length + a + 0 ≤ co.length + (a + 1); omega⟩
  · exact ⟨rfl, Nat.le_refl a, ha, Nat.le_refl _⟩
theorem sx_lit {tk : Nat → List Nat} {a : Nat} {co : List Int} (ha : a < 8000) (hco : co.length ≤ a) : SimX 0 (rLit tk a (co.map iI)) (pLit tk a co) a co := by
  refine ⟨?_, by show a ≤ a + 1; omega, by show a + 1 ≤ 8000; omega, ?_⟩
  · show (true, a + 1, jAdd 8000 (co.map iI) (nI ((tk 2).getD a 0))) = (true, a + 1, (co ++ [((tk 2).getD a 0 : Int)]).map iI)
    rw [show jAdd 8000 (co.map iI) (nI ((tk 2).getD a 0)) = co.map iI ++ [nI ((tk 2).getD a 0)] from if_pos (by rw [List.length_map]; omega), List.map_append, nI_iI]
    rfl
  · show (co ++ [((tk 2).getD a 0 : Int)]).length + a + 0 ≤ co.length + (a + 1)
    rw [List.length_append, List.length_singleton]; omega
theorem sx_id {a : Nat} {co : List Int} (b : Bool) (ha : a ≤ 8000) : SimX 0 (b, a, co.map iI) (b, a, co) a co := ⟨rfl, Nat.le_refl a, ha, Nat.le_refl _⟩
theorem sim_no : Sim rNo pNo := fun a co ha _ => sx_id false ha
theorem jnP_10 {c : Nat} (h : jnP c = true) : ¬ c = 10 := by have := of_decide_eq_true h; omega
theorem jnF_10 {c : Nat} (h : jnF c = true) : ¬ c = 10 := by have := of_decide_eq_true h; omega
theorem sim_loop {tk : Nat → List Nat} (hk : kOK tk) {jn : Nat → Bool} (hn : ∀ c, jn c = true → ¬ c = 0 ∧ ¬ c = 10) {f : Nat → List Int32 → Bool × Nat × List Int32} {g : Nat → List Int → Bool × Nat × List Int} (hf : Sim f g) : ∀ n : Nat, Sim (rLoop tk jn f n) (pLoop tk jn g n)
  | 0 => fun a co ha _ => sx_id true ha
  | n + 1 => fun a co ha hco => by
    show SimX 0 (if _ then _ else _) (if _ then _ else _) a co
    split
    · rename_i q
      have h9 := hn _ q
      have ha8 := hk.lt h9.1 h9.2
      exact sx_then (sx_wr (sx_next (hf (a + 1) co (by omega) (by omega))) hco) hco (sim_loop hk hn hf n)
    · exact sx_id true ha
theorem sim_seq {tk : Nat → List Nat} (hk : kOK tk) {jn : Nat → Bool} (hn : ∀ c, jn c = true → ¬ c = 0 ∧ ¬ c = 10) {f : Nat → List Int32 → Bool × Nat × List Int32} {g : Nat → List Int → Bool × Nat × List Int} (hf : Sim f g) : Sim (rSeq tk jn f) (pSeq tk jn g) := fun a co ha hco => sx_then (hf a co ha hco) hco (sim_loop hk hn hf 8000)
theorem sim_te {tk : Nat → List Nat} (hk : kOK tk) {f : Nat → List Int32 → Bool × Nat × List Int32} {g : Nat → List Int → Bool × Nat × List Int} (hf : Sim f g) : Sim (rTe tk f) (pTe tk g) := by
  intro a co ha hco
  refine sx_then (hf a co ha hco) hco (fun a co ha hco => ?_)
  show SimX 0 (if _ then _ else _) (if _ then _ else _) a co
  split
  · rename_i q
    have ha8 := hk.lt (a := a) (by omega) (by omega)
    exact sx_wr (sx_next (hf (a + 1) co (by omega) (by omega))) hco
  · exact sx_id true ha
theorem sim_br {tk : Nat → List Nat} (hk : kOK tk) {f : Nat → List Int32 → Bool × Nat × List Int32} {g : Nat → List Int → Bool × Nat × List Int} (hf : Sim f g) : Sim (rBr tk f) (pBr tk g) := fun a co ha hco => sx_then (sx_then (sim_take hk (by decide) (by decide) a co ha hco) hco hf) hco (sim_take hk (by decide) (by decide))
theorem sim_pl {tk : Nat → List Nat} (hk : kOK tk) {f : Nat → List Int32 → Bool × Nat × List Int32} {g : Nat → List Int → Bool × Nat × List Int} (hf : Sim f g) : Sim (rPl tk f) (pPl tk g) := by
  intro a co ha hco
  unfold rPl pPl
  split
  · rename_i q
    exact sx_lit (hk.lt (by omega) (by omega)) hco
  · exact hf a co ha hco
theorem sim_fw {tk : Nat → List Nat} (hk : kOK tk) {n1 b1 : Nat → List Int32 → Bool × Nat × List Int32} {n2 b2 : Nat → List Int → Bool × Nat × List Int} (hn : ∀ (a : Nat) (co : List Int), a < 8000 → co.length ≤ a → SimX 0 (n1 a (co.map iI)) (n2 a co) a co) (hb : Sim b1 b2) : Sim (rFw tk n1 b1) (pFw tk n2 b2) := by
  intro a co ha hco
  unfold rFw pFw
  split
  · exact hn a co (hk.lt (by omega) (by omega)) hco
  · split
    · have ha8 := hk.lt (a := a) (by omega) (by omega)
      exact sx_wr (sx_next (hb (a + 1) co (by omega) (by omega))) hco
    · split
      · have ha8 := hk.lt (a := a) (by omega) (by omega)
        exact sx_wr (sx_next (sim_pl hk hb (a + 1) co (by omega) (by omega))) hco
      · split
        · exact sx_lit (hk.lt (by omega) (by omega)) hco
        · exact hb a co ha hco
theorem sim_fac {tk : Nat → List Nat} (hk : kOK tk) : ∀ r : Nat, Sim (rFac tk r) (pFac tk r)
  | 0 => sim_fw hk (fun a co ha hco => sim_no a co (by omega) hco) sim_no
  | r + 1 => sim_fw hk (fun a co ha hco => sx_wr (sx_next (sim_fac hk r (a + 1) co (by omega) (by omega))) hco) (sim_br hk (sim_te hk (sim_seq hk (fun c h => ⟨jnP_nz h, jnP_10 h⟩) (sim_seq hk (fun c h => ⟨jnF_nz h, jnF_10 h⟩) (sim_fac hk r)))))
theorem sim_bra {tk : Nat → List Nat} (hk : kOK tk) : ∀ r : Nat, Sim (rBra tk r) (pBra tk r)
  | 0 => sim_no
  | r + 1 => sim_br hk (sim_te hk (sim_seq hk (fun c h => ⟨jnP_nz h, jnP_10 h⟩) (sim_seq hk (fun c h => ⟨jnF_nz h, jnF_10 h⟩) (sim_fac hk r))))
theorem sim_sum {tk : Nat → List Nat} (hk : kOK tk) (r : Nat) : Sim (rSum tk r) (pSeq tk jnP (pSeq tk jnF (pFac tk r))) := sim_seq hk (fun c h => ⟨jnP_nz h, jnP_10 h⟩) (sim_seq hk (fun c h => ⟨jnF_nz h, jnF_10 h⟩) (sim_fac hk r))
