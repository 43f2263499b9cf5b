/-! a run: the class's and the reference's -/
theorem cdA_pre (tk : Nat → List Nat) (fi : Nat → Nat) (m : Nat) : ∀ d : Nat, ∃ r, cdA tk fi (m + d) = cdA tk fi m ++ r
  | 0 => ⟨[], (List.append_nil _).symm⟩
  | d + 1 => by
    obtain ⟨r, h⟩ := cdA_pre tk fi m d
    exact ⟨r ++ lnCode tk (fi (m + d)), by show cdA tk fi (m + d) ++ lnCode tk (fi (m + d)) = _; rw [h, List.append_assoc]⟩
theorem lsA_get {α : Type} (tk : Nat → List Nat) (N : Nat) (fi : Nat → Nat) (g : LnR → α) (d : α) : ∀ (n j : Nat), j < n → ((lsA tk N fi n).map g).getD j d = g (lnOf tk N (fi j) (cdA tk fi j).length)
  | 0, j, h => absurd h (Nat.not_lt_zero j)
  | n + 1, j, h => by
    show ((lsA tk N fi n ++ [lnOf tk N (fi n) (cdA tk fi n).length]).map g).getD j d = _
    rw [List.map_append, List.getD_eq_getElem?_getD]
    by_cases e : j < n
    · rw [List.getElem?_append_left (by rw [List.length_map, lsA_len]; exact e), ← List.getD_eq_getElem?_getD]
      exact lsA_get tk N fi g d n j e
    · have e2 : j = n := by omega
      subst e2
      rw [List.getElem?_append_right (by rw [List.length_map, lsA_len]; exact Nat.le_refl _), List.length_map, lsA_len, Nat.sub_self]
      rfl
theorem seg_A {tk : Nat → List Nat} {N : Nat} {fi : Nat → Nat} {n j : Nat} (h : j < n) : ((cdA tk fi n).take (eSt (cdA tk fi n) ((lsA tk N fi n).map (fun x => x.1)) (j + 1))).drop (eSt (cdA tk fi n) ((lsA tk N fi n).map (fun x => x.1)) j) = lnCode tk (fi j) := by
  have e0 : eSt (cdA tk fi n) ((lsA tk N fi n).map (fun x => x.1)) j = (cdA tk fi j).length := by
    unfold eSt
    rw [if_pos (by rw [List.length_map, lsA_len]; exact h), lsA_get tk N fi _ 0 n j h]
    rfl
  have e1 : eSt (cdA tk fi n) ((lsA tk N fi n).map (fun x => x.1)) (j + 1) = (cdA tk fi (j + 1)).length := by
    unfold eSt
    by_cases q : j + 1 < n
    · rw [if_pos (by rw [List.length_map, lsA_len]; exact q), lsA_get tk N fi _ 0 n (j + 1) q]
      rfl
    · rw [if_neg (by rw [List.length_map, lsA_len]; exact q), show n = j + 1 by omega]
  obtain ⟨r, hr⟩ := cdA_pre tk fi (j + 1) (n - (j + 1))
  rw [show j + 1 + (n - (j + 1)) = n by omega] at hr
  rw [e0, e1, hr, List.take_left, show cdA tk fi (j + 1) = cdA tk fi j ++ lnCode tk (fi j) from rfl, List.drop_left]
theorem dnF_al {tk : Nat → List Nat} {N ln : Nat} {lb pa jm vs : Nat → Int} {j b : Nat} (h : ¬ (dnF tk N ln lb pa jm vs j b).1 = 0) : (dnF tk N ln lb pa jm vs j b).2.1 = vs := by
  revert h
  unfold dnF
  (repeat' split) <;> intro h <;> first | rfl | exact absurd rfl h
theorem go_A {tk : Nat → List Nat} (hE : tE tk) (hL : (tk 0).length ≤ 8001) {N : Nat} (hN : (tk 0).length ≤ N) (hB : ∀ i, (tk 2).getD i 0 < 1000000000) {fi so : Nat → Nat} {n : Nat} (hn : n ≤ 16001) {lb pa jm : Nat → Int} (hR : rOK tk N n fi so lb pa jm) {ts : List Nat}
    (hg : ∀ j, j < n → lnK tk (lnB tk (fi j)) = 300 ∨ lnK tk (lnB tk (fi j)) = 301 → ((ts.getD j 0 : Nat) : Int) = lo lb ((wj tk jm j : Nat) : Int) n) (hw : ∀ j, j < n → lnK tk (lnB tk (fi j)) = 302 → ((ts.getD j 0 : Nat) : Int) = pa j + 1) (he : ∀ j, j < n → lnK tk (lnB tk (fi j)) = 304 → ((ts.getD j 0 : Nat) : Int) = pa j) :
    ∀ (f now : Nat) (vs : Nat → Int) (st : Nat), (∀ i, i < 200 → vOK (vs i)) → eGo (cdA tk fi n) ((lsA tk N fi n).map (fun x => x.1)) ((lsA tk N fi n).map (fun x => x.2.1)) ts f now vs st = rnF tk N n lb pa jm fi f now vs st
  | 0, now, vs, st, hvs => by
    unfold eGo rnF
    rw [List.length_map, lsA_len]
  | f + 1, now, vs, st, hvs => by
    unfold eGo rnF
    rw [List.length_map, lsA_len]
    by_cases q : now < n
    · obtain ⟨r1, r2, -⟩ := hR now q
      have hd := dn_line hE hL hN hvs hB (a := fi now) r2 r1 (ln := n) (j := now) (lb := lb) (pa := pa) (jm := jm) (ks := (lsA tk N fi n).map (fun x => x.2.1)) (ts := ts) (by rw [lsA_get tk N fi _ 0 n now q]; rfl) (hg now q) (hw now q) (he now q)
      rw [if_pos q, if_pos q]
      unfold eLn
      rw [seg_A q]
      obtain ⟨d1, d2, d3⟩ := hd
      rw [d1, d2]
      by_cases q2 : (dnF tk N n lb pa jm vs now (lnB tk (fi now))).1 = 0
      · rw [if_pos q2, if_pos q2, d3 q2]
        exact go_A hE hL hN hB hn hR hg hw he f _ _ _ (dnF_b hB hvs hn hR q q2).2.2
      · rw [if_neg q2, if_neg q2]
        have e : (dnF tk N n lb pa jm vs now (lnB tk (fi now))).2.1 = vs := dnF_al q2
        rw [e]
    · rw [if_neg q, if_neg q]
