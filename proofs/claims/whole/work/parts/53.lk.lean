/-! the rows read as numbers are the lines' records -/
theorem map_iI_inj : ∀ (xs ys : List Int), xs.map iI = ys.map iI → (∀ x ∈ xs, -1 ≤ x ∧ x ≤ 1000000000) → (∀ x ∈ ys, -1 ≤ x ∧ x ≤ 1000000000) → xs = ys
  | [], [], _, _, _ => rfl
  | [], y :: ys, h, _, _ => absurd (congrArg List.length h) (by rw [List.length_map, List.length_map, List.length_cons]; show ¬ 0 = _; omega)
  | x :: xs, [], h, _, _ => absurd (congrArg List.length h) (by rw [List.length_map, List.length_map, List.length_cons]; show ¬ _ = 0; omega)
  | x :: xs, y :: ys, h, h1, h2 => by
    rw [List.map_cons, List.map_cons] at h
    have hx := h1 x List.mem_cons_self
    have hy := h2 y List.mem_cons_self
    have e1 : x = y := iI_inj (by omega) (by omega) (List.cons.inj h).1
    have e2 := map_iI_inj xs ys (List.cons.inj h).2 (fun z hz => h1 z (List.mem_cons_of_mem x hz)) (fun z hz => h2 z (List.mem_cons_of_mem y hz))
    rw [e1, e2]
theorem map_nI_inj : ∀ (xs ys : List Nat), xs.map nI = ys.map nI → (∀ x ∈ xs, x < 1000000000) → (∀ x ∈ ys, x < 1000000000) → xs = ys
  | [], [], _, _, _ => rfl
  | [], y :: ys, h, _, _ => absurd (congrArg List.length h) (by rw [List.length_map, List.length_map, List.length_cons]; show ¬ 0 = _; omega)
  | x :: xs, [], h, _, _ => absurd (congrArg List.length h) (by rw [List.length_map, List.length_map, List.length_cons]; show ¬ _ = 0; omega)
  | x :: xs, y :: ys, h, h1, h2 => by
    rw [List.map_cons, List.map_cons] at h
    have hx := h1 x List.mem_cons_self
    have hy := h2 y List.mem_cons_self
    have h3 := (List.cons.inj h).1
    rw [nI_iI, nI_iI] at h3
    have e1 : (x : Int) = (y : Int) := iI_inj (by omega) (by omega) h3
    have e2 := map_nI_inj xs ys (List.cons.inj h).2 (fun z hz => h1 z (List.mem_cons_of_mem x hz)) (fun z hz => h2 z (List.mem_cons_of_mem y hz))
    rw [Int.ofNat.inj e1, e2]
def lnBd (x : LnR) : Prop := x.2.1 < 1000000000 ∧ (-1 ≤ x.2.2.1 ∧ x.2.2.1 ≤ 1000000000) ∧ x.2.2.2.1 < 1000000000 ∧ (-1 ≤ x.2.2.2.2.1 ∧ x.2.2.2.2.1 ≤ 1000000000) ∧ x.2.2.2.2.2 < 1000000000
theorem lnOf_b {tk : Nat → List Nat} (h : tB3 tk) (N a n : Nat) : lnBd (lnOf tk N a n) := by
  have h1 := h.2 (lnB tk a)
  have h2 := h.2 (a + 1)
  have h3 := h.2 (rJ tk N (lnB tk a))
  unfold lnOf lnBd
  dsimp only
  refine ⟨?_, ?_, ?_, ?_, ?_⟩
  · unfold lnK
    split <;> omega
  · split <;> omega
  · split <;> omega
  · split <;> omega
  · split <;> omega
theorem lsA_b {tk : Nat → List Nat} (h : tB3 tk) (N : Nat) (fi : Nat → Nat) : ∀ n : Nat, ∀ x ∈ lsA tk N fi n, lnBd x
  | 0, x, hx => absurd hx List.not_mem_nil
  | n + 1, x, hx => by
    rcases List.mem_append.mp (show x ∈ lsA tk N fi n ++ [lnOf tk N (fi n) (cdA tk fi n).length] from hx) with q | q
    · exact lsA_b h N fi n x q
    · rw [List.mem_singleton.mp q]
      exact lnOf_b h N _ _
theorem lk_rows {co : List Int} {ls : List LnR} (hb : ∀ x ∈ ls, lnBd x) {ks lp np : List Nat} {lb nu ts : List Int} (h : lkOf (rowsF co ls) ks lp np lb nu ts) : ks = ls.map (fun x => x.2.1) ∧ lb = ls.map (fun x => x.2.2.1) ∧ lp = ls.map (fun x => x.2.2.2.1) ∧ nu = ls.map (fun x => x.2.2.2.2.1) ∧ np = ls.map (fun x => x.2.2.2.2.2) ∧ ts = ls.map (fun _ => (0 : Int)) := by
  obtain ⟨e2, e3, e4, e5, e6, e7, b1, b2, b3, b4, b5, b6⟩ := h
  refine ⟨?_, ?_, ?_, ?_, ?_, ?_⟩
  · refine map_nI_inj _ _ ?_ b1 (fun x hx => ?_)
    · rw [← e2, List.map_map]; rfl
    · obtain ⟨y, hy, rfl⟩ := List.mem_map.mp hx
      exact (hb y hy).1
  · refine map_iI_inj _ _ ?_ b4 (fun x hx => ?_)
    · rw [← e3, List.map_map]; rfl
    · obtain ⟨y, hy, rfl⟩ := List.mem_map.mp hx
      exact (hb y hy).2.1
  · refine map_nI_inj _ _ ?_ b2 (fun x hx => ?_)
    · rw [← e4, List.map_map]; rfl
    · obtain ⟨y, hy, rfl⟩ := List.mem_map.mp hx
      exact (hb y hy).2.2.1
  · refine map_iI_inj _ _ ?_ b5 (fun x hx => ?_)
    · rw [← e5, List.map_map]; rfl
    · obtain ⟨y, hy, rfl⟩ := List.mem_map.mp hx
      exact (hb y hy).2.2.2.1
  · refine map_nI_inj _ _ ?_ b3 (fun x hx => ?_)
    · rw [← e6, List.map_map]; rfl
    · obtain ⟨y, hy, rfl⟩ := List.mem_map.mp hx
      exact (hb y hy).2.2.2.2
  · refine map_iI_inj _ _ ?_ (fun x hx => by have := b6 x hx; omega) (fun x hx => ?_)
    · rw [← e7, List.map_map]
      rfl
    · obtain ⟨y, hy, rfl⟩ := List.mem_map.mp hx
      omega
