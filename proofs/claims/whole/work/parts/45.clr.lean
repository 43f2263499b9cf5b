/-! the class's rows, and one line of the class -/
abbrev LnR : Type := Nat × Nat × Int × Nat × Int × Nat
/-- the rows of a program: the code, and of each line its start, its kind, its label and the label's place, its number and the number's place -/
def rowsF (co : List Int) (ls : List LnR) : Nat → List Int32 := fun i => match i with
  | 0 => co.map iI
  | 1 => ls.map (fun x => nI x.1)
  | 2 => ls.map (fun x => nI x.2.1)
  | 3 => ls.map (fun x => iI x.2.2.1)
  | 4 => ls.map (fun x => nI x.2.2.2.1)
  | 5 => ls.map (fun x => iI x.2.2.2.2.1)
  | 6 => ls.map (fun x => nI x.2.2.2.2.2)
  | 7 => ls.map (fun _ => nI 0)
  | _ => []
theorem rowsF_nil : rowsF [] [] = fun _ => [] := by
  funext i
  match i with
  | 0 => rfl
  | 1 => rfl
  | 2 => rfl
  | 3 => rfl
  | 4 => rfl
  | 5 => rfl
  | 6 => rfl
  | 7 => rfl
  | i + 8 => rfl
theorem jAdd_map {ls : List LnR} (h : ls.length < 8000) (g : LnR → Int32) (x : LnR) : jAdd 8000 (ls.map g) (g x) = (ls ++ [x]).map g := by
  unfold jAdd
  rw [if_pos (by rw [List.length_map]; exact h), List.map_append]
  rfl
theorem rowsF_begin {co : List Int} {ls : List LnR} (h : ls.length < 8000) : jBeginT (rowsF co ls) = rowsF co (ls ++ [(co.length, 0, -1, 0, -1, 0)]) := by
  funext i
  match i with
  | 0 => rfl
  | 1 =>
    show jAdd 8000 (ls.map (fun x : LnR => nI x.1)) (nI (co.map iI).length) = _
    rw [List.length_map]
    exact jAdd_map h (fun x => nI x.1) (co.length, 0, -1, 0, -1, 0)
  | 2 => exact jAdd_map h (fun x => nI x.2.1) (co.length, 0, -1, 0, -1, 0)
  | 3 => exact jAdd_map h (fun x => iI x.2.2.1) (co.length, 0, -1, 0, -1, 0)
  | 4 => exact jAdd_map h (fun x => nI x.2.2.2.1) (co.length, 0, -1, 0, -1, 0)
  | 5 => exact jAdd_map h (fun x => iI x.2.2.2.2.1) (co.length, 0, -1, 0, -1, 0)
  | 6 => exact jAdd_map h (fun x => nI x.2.2.2.2.2) (co.length, 0, -1, 0, -1, 0)
  | 7 => exact jAdd_map h (fun _ => nI 0) (co.length, 0, -1, 0, -1, 0)
  | i + 8 => rfl
theorem map_set {ls : List LnR} (g : LnR → Int32) (x y : LnR) (g1 : LnR → Int32) : ((ls ++ [x]).map g).set (((ls ++ [x]).map g1).length - 1) (g y) = (ls ++ [y]).map g := by
  rw [List.length_map, List.length_append, List.length_singleton, show ls.length + 1 - 1 = (ls.map g).length by rw [List.length_map]; omega, List.map_append, List.map_append]
  show (ls.map g ++ [g x]).set (ls.map g).length (g y) = ls.map g ++ [g y]
  rw [List.set_append_right _ _ (Nat.le_refl _), Nat.sub_self]
  rfl
theorem map_kee {ls : List LnR} (g : LnR → Int32) {x y : LnR} (h : g x = g y) : (ls ++ [x]).map g = (ls ++ [y]).map g := by
  rw [List.map_append, List.map_append]
  show ls.map g ++ [g x] = ls.map g ++ [g y]
  rw [h]
theorem rowsF_lab (co : List Int) (ls : List LnR) (x : LnR) (u : Int) (v : Nat) : pLab (rowsF co (ls ++ [x])) (iI u) (nI v) = rowsF co (ls ++ [(x.1, x.2.1, u, v, x.2.2.2.2)]) := by
  funext i
  match i with
  | 0 => rfl
  | 1 => exact map_kee (fun x => nI x.1) rfl
  | 2 => exact map_kee (fun x => nI x.2.1) rfl
  | 3 => exact map_set (fun x => iI x.2.2.1) x (x.1, x.2.1, u, v, x.2.2.2.2) (fun x => nI x.1)
  | 4 => exact map_set (fun x => nI x.2.2.2.1) x (x.1, x.2.1, u, v, x.2.2.2.2) (fun x => nI x.1)
  | 5 => exact map_kee (fun x => iI x.2.2.2.2.1) rfl
  | 6 => exact map_kee (fun x => nI x.2.2.2.2.2) rfl
  | 7 => exact map_kee (fun _ => nI 0) rfl
  | i + 8 => rfl
theorem rowsF_clo (co : List Int) (ls : List LnR) (x : LnR) (c : Nat) (u : Int) (v : Nat) : pClo (rowsF co (ls ++ [x])) (nI c) (iI u) (nI v) = rowsF co (ls ++ [(x.1, c, x.2.2.1, x.2.2.2.1, u, v)]) := by
  funext i
  match i with
  | 0 => rfl
  | 1 => exact map_kee (fun x => nI x.1) rfl
  | 2 => exact map_set (fun x => nI x.2.1) x (x.1, c, x.2.2.1, x.2.2.2.1, u, v) (fun x => nI x.1)
  | 3 => exact map_kee (fun x => iI x.2.2.1) rfl
  | 4 => exact map_kee (fun x => nI x.2.2.2.1) rfl
  | 5 => exact map_set (fun x => iI x.2.2.2.2.1) x (x.1, c, x.2.2.1, x.2.2.2.1, u, v) (fun x => nI x.1)
  | 6 => exact map_set (fun x => nI x.2.2.2.2.2) x (x.1, c, x.2.2.1, x.2.2.2.1, u, v) (fun x => nI x.1)
  | 7 => exact map_kee (fun _ => nI 0) rfl
  | i + 8 => rfl
theorem rowsF_code (co co2 : List Int) (ls : List LnR) : va_up (rowsF co ls) 0 (co2.map iI) = rowsF co2 ls := by
  funext i
  match i with
  | 0 => rfl
  | 1 => rfl
  | 2 => rfl
  | 3 => rfl
  | 4 => rfl
  | 5 => rfl
  | 6 => rfl
  | 7 => rfl
  | i + 8 => rfl
/-- the statement behind a label -/
def pRst (tk : Nat → List Nat) (b : Nat) (co : List Int) : Bool × Nat × List Int :=
  if (tk 0).getD b 0 = 35 then pThen (pThen (pThen (pThen (pPl tk (pBra tk 20) (b + 1) co) (pWr 3)) (pTake tk 61)) (pSeq tk jnP (pSeq tk jnF (pFac tk 20)))) (pWr 4)
  else if (tk 0).getD b 0 = 300 then pThen (pThen (pBra tk 20 (b + 1) co) (pTake tk 301)) (pTake tk 256)
  else if (tk 0).getD b 0 = 302 then pThen (pThen (pBra tk 20 (b + 1) co) (pTake tk 303)) (pTake tk 256)
  else if (tk 0).getD b 0 = 301 ∨ (tk 0).getD b 0 = 304 then pTake tk 256 (b + 1) co
  else (true, b, co)
theorem uni_rst (tk : Nat → List Nat) : Uni (pRst tk) := fun b => uni_if (uni_then (uni_then (uni_then (uni_then (uni_pl tk (uni_bra tk 20) (b + 1)) (uni_wr 3)) (uni_take tk 61)) (uni_sum tk 20)) (uni_wr 4)) (uni_if (uni_then (uni_then (uni_bra tk 20 (b + 1)) (uni_take tk 301)) (uni_take tk 256)) (uni_if (uni_then (uni_then (uni_bra tk 20 (b + 1)) (uni_take tk 303)) (uni_take tk 256)) (uni_if (uni_take tk 256 (b + 1)) (uni_id true b))))
theorem pq_rst {tk : Nat → List Nat} (hE : tE tk) (hL : (tk 0).length ≤ 8001) {N : Nat} (hN : (tk 0).length ≤ N) : PQ tk (pRst tk) (qRest tk N) := by
  intro b co hb
  unfold pRst qRest
  by_cases c1 : (tk 0).getD b 0 = 35
  · have hl := hE.lt (a := b) (by omega) (by omega)
    rw [if_pos c1, if_pos c1, qPlc_y c1]
    have hq := qb_pl hE (qb_bra hE N 20) (b + 1) (by omega)
    exact pq_wr (pq_then (pq_then (pq_wr (pq_pl (pq_bra hE hL hN 20) (b + 1) co (by omega)) 3) hq.2 (pq_take tk 61)) (qb_then hq (qb_take hE (by decide) (by decide))).2 (pq_sum hE hL hN 20)) 4
  · rw [if_neg c1, if_neg c1]
    by_cases c2 : (tk 0).getD b 0 = 300
    · have hl := hE.lt (a := b) (by omega) (by omega)
      rw [if_pos c2, if_pos c2]
      have hq := qb_bra hE N 20 (b + 1) (by omega)
      exact pq_then (pq_then (pq_bra hE hL hN 20 (b + 1) co (by omega)) hq.2 (pq_take tk 301)) (qb_then hq (qb_take hE (by decide) (by decide))).2 (pq_take tk 256)
    · rw [if_neg c2, if_neg c2]
      by_cases c3 : (tk 0).getD b 0 = 302
      · have hl := hE.lt (a := b) (by omega) (by omega)
        rw [if_pos c3, if_neg (by omega), if_pos c3]
        have hq := qb_bra hE N 20 (b + 1) (by omega)
        exact pq_then (pq_then (pq_bra hE hL hN 20 (b + 1) co (by omega)) hq.2 (pq_take tk 303)) (qb_then hq (qb_take hE (by decide) (by decide))).2 (pq_take tk 256)
      · rw [if_neg c3]
        by_cases c4 : (tk 0).getD b 0 = 301
        · have hl := hE.lt (a := b) (by omega) (by omega)
          rw [if_pos (Or.inl c4), if_pos c4]
          exact pq_take tk 256 (b + 1) co (by omega)
        · rw [if_neg c4, if_neg c3]
          by_cases c5 : (tk 0).getD b 0 = 304
          · have hl := hE.lt (a := b) (by omega) (by omega)
            rw [if_pos (Or.inr c5), if_pos c5]
            exact pq_take tk 256 (b + 1) co (by omega)
          · rw [if_neg (by omega), if_neg c5]
            exact ⟨rfl, rfl⟩
/-- of the class's line -/
def lnK (tk : Nat → List Nat) (b : Nat) : Nat := if (tk 0).getD b 0 = 300 ∨ (tk 0).getD b 0 = 301 ∨ (tk 0).getD b 0 = 302 ∨ (tk 0).getD b 0 = 304 then (tk 0).getD b 0 else 0
def lnOf (tk : Nat → List Nat) (N a n : Nat) : LnR := (n, lnK tk (lnB tk a), if (tk 0).getD a 0 = 78 then (((tk 2).getD (a + 1) 0 : Nat) : Int) else -1, if (tk 0).getD a 0 = 78 then (tk 1).getD (a + 1) 0 else 0, if lnK tk (lnB tk a) = 0 then -1 else (((tk 2).getD (rJ tk N (lnB tk a)) 0 : Nat) : Int), if lnK tk (lnB tk a) = 0 then 0 else (tk 1).getD (rJ tk N (lnB tk a)) 0)
theorem rThenL_take {x : Bool × Nat × List Int32} {y : Bool × Nat × List Int} {tk : Nat → List Nat} {F : Nat → List Int32} {word : Nat} (e : x = (y.1, y.2.1, y.2.2.map iI)) : (rThenL x F (rNum tk word)).1 = (pThen y (pTake tk 256)).1 ∧ (rThenL x F (rNum tk word)).2.1 = (pThen y (pTake tk 256)).2.1 ∧ (y.1 = true → (rThenL x F (rNum tk word)).2.2 = pClo (va_up F 0 (y.2.2.map iI)) (nI word) (nI ((tk 2).getD y.2.1 0)) (nI ((tk 1).getD y.2.1 0)) ∧ (pThen y (pTake tk 256)).2.2 = y.2.2) := by
  subst e
  obtain ⟨b, i, c⟩ := y
  cases b with
  | false => exact ⟨rfl, rfl, fun h => absurd h Bool.false_ne_true⟩
  | true =>
    show (rNum tk word i (va_up F 0 (c.map iI))).1 = (pTake tk 256 i c).1 ∧ (rNum tk word i (va_up F 0 (c.map iI))).2.1 = (pTake tk 256 i c).2.1 ∧ (true = true → (rNum tk word i (va_up F 0 (c.map iI))).2.2 = _ ∧ (pTake tk 256 i c).2.2 = c)
    unfold rNum rTake pTake
    split
    · exact ⟨rfl, rfl, fun _ => ⟨rfl, rfl⟩⟩
    · exact ⟨rfl, rfl, fun _ => ⟨rfl, rfl⟩⟩
