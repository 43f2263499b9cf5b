/-! joining: the loops -/
def cL (A : Nat → List Nat) (N : Nat) (fi : Nat → Nat) (n : Nat) (ks lp np : List Nat) (lb nu : List Int) : Prop := ∀ i, i < n → ks.getD i 0 = kA A fi i ∧ lb.getD i 0 = bA A fi i ∧ ((A 0).getD (fi i) 0 = 78 → lp.getD i 0 = (A 1).getD (fi i + 1) 0) ∧ (¬ kA A fi i = 0 → nu.getD i 0 = ((wtA A N fi i : Nat) : Int) ∧ np.getD i 0 = (A 1).getD (jA A N fi i) 0)
theorem lkCh_ch {op : Nat → Nat} {oc : Nat} {ts nu : List Int} {v : Int} (hc : ∀ k, k < oc → ts.getD (op k) 0 = (if k = 0 then -1 else ((op (k - 1) : Nat) : Int))) : ∀ (k f : Nat), k ≤ f → k ≤ oc → (lkCh nu ts v f (if k = 0 then -1 else ((op (k - 1) : Nat) : Int)) = true ↔ ∀ i, i < k → ¬ nu.getD (op i) 0 = v)
  | 0, 0, _, _ => ⟨fun _ i hi => absurd hi (Nat.not_lt_zero i), fun _ => rfl⟩
  | 0, f + 1, _, _ => by
    rw [if_pos rfl]
    unfold lkCh
    rw [if_pos rfl]
    exact ⟨fun _ i hi => absurd hi (Nat.not_lt_zero i), fun _ => rfl⟩
  | k + 1, 0, h, _ => absurd h (Nat.not_succ_le_zero k)
  | k + 1, f + 1, h, h2 => by
    rw [if_neg (Nat.succ_ne_zero k), show k + 1 - 1 = k by omega, lkCh_k, hc k (by omega)]
    have ih := lkCh_ch (nu := nu) (v := v) hc k f (by omega) (by omega)
    by_cases q : nu.getD (op k) 0 = v
    · rw [if_pos q]
      exact ⟨fun z => absurd z Bool.false_ne_true, fun z => absurd q (z k (by omega))⟩
    · rw [if_neg q, ih]
      refine ⟨fun z i hi => ?_, fun z i hi => z i (by omega)⟩
      by_cases e : i = k
      · rw [e]; exact q
      · exact z i (by omega)
theorem lkOut_ch {op : Nat → Nat} {oc : Nat} {ts : List Int} {np : List Nat} (hc : ∀ k, k < oc → ts.getD (op k) 0 = (if k = 0 then -1 else ((op (k - 1) : Nat) : Int))) : ∀ (k f : Nat) (p : Int), k ≤ f → k ≤ oc → lkOut np ts f (if k = 0 then -1 else ((op (k - 1) : Nat) : Int)) p = (if k = 0 then p else ((np.getD (op 0) 0 : Nat) : Int))
  | 0, 0, p, _, _ => rfl
  | 0, f + 1, p, _, _ => by
    rw [if_pos rfl, if_pos rfl]
    unfold lkOut
    exact if_pos rfl
  | k + 1, 0, _, h, _ => absurd h (Nat.not_succ_le_zero k)
  | k + 1, f + 1, p, h, h2 => by
    rw [if_neg (Nat.succ_ne_zero k), if_neg (Nat.succ_ne_zero k), show k + 1 - 1 = k by omega, lkOut_k, hc k (by omega), lkOut_ch hc k f _ (by omega) (by omega)]
    by_cases q : k = 0
    · rw [if_pos q, q]
    · rw [if_neg q]
theorem dOK_i {tk : Nat → List Nat} {jm : Nat → Int} {op : Nat → Nat} {v : Nat} : ∀ k : Nat, dOK tk jm op v k = true ↔ (v = 1000 ∨ v = 2000 ∨ v = 3000) ∧ ∀ i, i < k → ¬ wj tk jm (op i) = v
  | 0 => by
    unfold dOK
    rw [decide_eq_true_iff]
    exact ⟨fun h => ⟨h, fun i hi => absurd hi (Nat.not_lt_zero i)⟩, fun h => h.1⟩
  | k + 1 => by
    unfold dOK
    rw [Bool.and_eq_true, dOK_i k, decide_eq_true_iff]
    refine ⟨fun h => ⟨h.1.1, fun i hi => ?_⟩, fun h => ⟨⟨h.1, fun i hi => h.2 i (by omega)⟩, h.2 k (by omega)⟩⟩
    by_cases e : i = k
    · rw [e]; exact h.2
    · exact h.1.2 i (by omega)
theorem ba1_stay {tk : Nat → List Nat} {so : Nat → Nat} {pa jm : Nat → Int} {lp : Int} {k : Nat} (h : 0 ≤ ba1 tk so pa jm k lp) : ∀ d : Nat, ba1 tk so pa jm (k + d) lp = ba1 tk so pa jm k lp
  | 0 => rfl
  | d + 1 => by
    have ih := ba1_stay h d
    show (if _ then lsLater _ _ (ba1 tk so pa jm (k + d) lp) else ba1 tk so pa jm (k + d) lp) = _
    rw [ih, later_ge _ _ h]
    split <;> rfl
theorem ba1_ge (tk : Nat → List Nat) (so : Nat → Nat) (pa jm : Nat → Int) {lp : Int} (h : 0 ≤ lp) (n : Nat) : ba1 tk so pa jm n lp = lp := by
  have := ba1_stay (tk := tk) (so := so) (pa := pa) (jm := jm) (lp := lp) (k := 0) h n
  rwa [Nat.zero_add] at this
theorem ba2_ge (tk : Nat → List Nat) (so : Nat → Nat) (lb jm : Nat → Int) (ln : Nat) {lp : Int} (h : 0 ≤ lp) (n : Nat) : ba2 tk so lb jm ln n lp = lp := by
  have := ba2_stay (tk := tk) (so := so) (lb := lb) (jm := jm) (ln := ln) (lp := lp) (k := 0) h n
  rwa [Nat.zero_add] at this
theorem ba1_no {tk : Nat → List Nat} {so : Nat → Nat} {pa jm : Nat → Int} {lp : Int} : ∀ k : Nat, (∀ i, i < k → ¬ (so i = 5 ∧ pa i < 0)) → ba1 tk so pa jm k lp = lp
  | 0, _ => rfl
  | k + 1, h => by
    show (if _ then _ else _) = lp
    rw [if_neg (h k (by omega))]
    exact ba1_no k (fun i hi => h i (by omega))
/-- the outermost open loop -/
theorem jl_end {A : Nat → List Nat} {N : Nat} {fi : Nat → Nat} {n : Nat} {ks lp np : List Nat} {lb nu : List Int} (hc : cL A N fi n ks lp np lb nu) {lbf pa jm : Nat → Int} {so op : Nat → Nat} {oc : Nat} {inn : Int} {ts : List Int} (hr : rI A N fi n lbf jm so) (h : jI A N fi n n pa op oc inn ts) :
    lkOut np ts 3 inn (-1) = ba1 A so pa jm n (-1) ∧ (lkOut np ts 3 inn (-1) = -1 → ∀ i, i < n → (kA A fi i = 302 → 0 ≤ pa i ∧ pa i < (n : Int) ∧ ts.getD i 0 = pa i + 1) ∧ (kA A fi i = 304 → 0 ≤ pa i ∧ pa i < (n : Int) ∧ ts.getD i 0 = pa i) ∧ (¬ kA A fi i = 302 ∧ ¬ kA A fi i = 304 → ts.getD i 0 = 0)) := by
  obtain ⟨h1, h2, h3, h4, h5, h6, h7, h8⟩ := h
  have hso : ∀ i, i < n → (so i = 5 ↔ kA A fi i = 302) := fun i hi => by
    rw [(hr i hi).2.1, (soK_i _).2.2.2.1]
    exact ((lnK_i A (lnB A (fi i))).2.2.1).symm
  have ho := lkOut_ch (np := np) (fun k hk => (h4 k hk).2.2.2.2) oc 3 (-1) h2 (Nat.le_refl oc)
  rw [← h3] at ho
  rw [ho]
  by_cases q : oc = 0
  · rw [if_pos q]
    refine ⟨(ba1_no n (fun i hi z => ?_)).symm, fun _ i hi => ⟨fun z => ?_, h7 i hi, h8 i hi⟩⟩
    · rcases h6 i hi ((hso i hi).mp z.1) with ⟨k, z1, -⟩ | z1
      · omega
      · omega
    · rcases h6 i hi z with ⟨k, z1, -⟩ | z1
      · omega
      · exact z1
  · rw [if_neg q]
    obtain ⟨a1, a2, a3, a4, a5⟩ := h4 0 (by omega)
    have e1 : ba1 A so pa jm (op 0) (-1) = -1 := ba1_no _ (fun i hi z => by
      rcases h6 i (by omega) ((hso i (by omega)).mp z.1) with ⟨k, z1, z2⟩ | z1
      · by_cases e : k = 0
        · subst e; omega
        · have := (h5 0 k (by omega) z1).1
          omega
      · omega)
    have e2 : ba1 A so pa jm (op 0 + 1) (-1) = (((A 1).getD (jA A N fi (op 0)) 0 : Nat) : Int) := by
      show (if _ then _ else _) = _
      rw [if_pos ⟨(hso _ a1).mpr a2, a4⟩, e1, later_no _ _ (by decide), (hr _ a1).2.2 (by omega)]
      rfl
    have e3 := ba1_stay (tk := A) (so := so) (pa := pa) (jm := jm) (lp := -1) (k := op 0 + 1) (by rw [e2]; omega) (n - (op 0 + 1))
    rw [show op 0 + 1 + (n - (op 0 + 1)) = n by omega, e2] at e3
    rw [e3, ((hc _ a1).2.2.2 (by omega)).2]
    exact ⟨rfl, fun z => by omega⟩
theorem rep_i {A : Nat → List Nat} {N : Nat} {fi : Nat → Nat} {n j : Nat} {ks lp np : List Nat} {lb nu : List Int} (hc : cL A N fi n ks lp np lb nu) {lbf jm : Nat → Int} {so : Nat → Nat} (hr : rI A N fi j lbf jm so) (hj : j < n) : lkRep lb j = true ↔ ((A 0).getD (fi j) 0 = 78 ∧ ¬ lo lbf (((A 2).getD (fi j + 1) 0 : Nat) : Int) j = -1) := by
  unfold lkRep
  rw [decide_eq_true_iff, (hc j hj).2.1]
  unfold bA
  by_cases q : (A 0).getD (fi j) 0 = 78
  · rw [if_pos q]
    have hf := lkFirst_lo (lb := lb) (lbf := lbf) (x := (((A 2).getD (fi j + 1) 0 : Nat) : Int)) (b := j) (fun i hi => by rw [(hr i hi).1, (hc i (by omega)).2.1])
    refine ⟨fun z => ⟨q, ?_⟩, fun z => ⟨by omega, ?_⟩⟩ <;> omega
  · rw [if_neg q]
    exact ⟨fun z => absurd rfl z.1, fun z => absurd z.1 q⟩
/-- the loops: the class's pass and the reference's steps -/
theorem jl_A {A : Nat → List Nat} {N : Nat} {fi : Nat → Nat} {n : Nat} {ks lp np : List Nat} {lb nu : List Int} (hc : cL A N fi n ks lp np lb nu) (hw : ∀ i, i < n → ¬ kA A fi i = 0 → 1000 ∣ wtA A N fi i) {S0 : LSt} :
    ∀ (f j : Nat) (inn : Int) (ts : List Int), n < f + j → j ≤ n → (sA A N fi S0 j).2.2.2.2.2.2 = -1 → jI A N fi n j (sA A N fi S0 j).2.1 (sA A N fi S0 j).2.2.2.2.1 (sA A N fi S0 j).2.2.2.2.2.1 inn ts →
      (lkJL n ks lp np lb nu f j inn ts).1 = ba1 A (sA A N fi S0 n).2.2.2.1 (sA A N fi S0 n).2.1 (sA A N fi S0 n).2.2.1 n (sA A N fi S0 n).2.2.2.2.2.2 ∧
      ((lkJL n ks lp np lb nu f j inn ts).1 = -1 → (lkJL n ks lp np lb nu f j inn ts).2.length = n ∧ ∀ i, i < n → (kA A fi i = 302 → 0 ≤ (sA A N fi S0 n).2.1 i ∧ (sA A N fi S0 n).2.1 i < (n : Int) ∧ (lkJL n ks lp np lb nu f j inn ts).2.getD i 0 = (sA A N fi S0 n).2.1 i + 1) ∧ (kA A fi i = 304 → 0 ≤ (sA A N fi S0 n).2.1 i ∧ (sA A N fi S0 n).2.1 i < (n : Int) ∧ (lkJL n ks lp np lb nu f j inn ts).2.getD i 0 = (sA A N fi S0 n).2.1 i) ∧ (¬ kA A fi i = 302 ∧ ¬ kA A fi i = 304 → (lkJL n ks lp np lb nu f j inn ts).2.getD i 0 = 0))
  | 0, j, inn, ts, h, h2, _, _ => by omega
  | f + 1, j, inn, ts, h, h2, hlp, hI => by
    rw [lkJL_s]
    by_cases q : n ≤ j
    · obtain rfl : j = n := by omega
      rw [if_pos q, hlp]
      have hE := jl_end hc (sA_r (A := A) (N := N) (fi := fi) (S0 := S0) j) hI
      exact ⟨hE.1, fun z => ⟨hI.1, hE.2 z⟩⟩
    · rw [if_neg q]
      have hst := sA_lp (A := A) (N := N) (fi := fi) (S0 := S0) (k := j + 1)
      have ih := fun inn2 ts2 => jl_A hc hw (S0 := S0) f (j + 1) inn2 ts2 (by omega) (by omega)
      have hrj := sA_r (A := A) (N := N) (fi := fi) (S0 := S0) j
      have hS : sA A N fi S0 (j + 1) = lsLine A N j (fi j) (sA A N fi S0 j) := rfl
      obtain ⟨lbf, pa, jm, so, op, oc, lpj, e⟩ := LSt_ex (sA A N fi S0 j)
      rw [e] at hI hlp hS hrj
      dsimp only at hI hlp hrj
      subst hlp
      obtain ⟨-, r2, -, r4, r5, r6, r7⟩ := lsLine_r A N j (fi j) lbf pa jm so op oc (-1)
      rw [← hS] at r2 r4 r5 r6 r7
      have hk : lnK A (lnB A (fi j)) = kA A fi j := rfl
      have hjA : rJ A N (lnB A (fi j)) = jA A N fi j := rfl
      have hwA : (A 2).getD (jA A N fi j) 0 = wtA A N fi j := rfl
      rw [hk] at r2 r4 r5 r6 r7
      rw [hjA] at r2 r4 r6 r7
      rw [hwA] at r4 r6 r7
      -- a fault at this line
      have hfault : ∀ x : Nat, (sA A N fi S0 (j + 1)).2.2.2.2.2.2 = (x : Int) → ba1 A (sA A N fi S0 n).2.2.2.1 (sA A N fi S0 n).2.1 (sA A N fi S0 n).2.2.1 n (sA A N fi S0 n).2.2.2.2.2.2 = (x : Int) := fun x hx => by
        have h3 := hst (by rw [hx]; omega) (n - (j + 1))
        rw [show j + 1 + (n - (j + 1)) = n by omega, hx] at h3
        rw [h3, ba1_ge _ _ _ _ (by omega)]
      have hrep := rep_i hc hrj (by omega)
      obtain ⟨hc1, hc2, hc3, hc4⟩ := hc j (by omega)
      by_cases cr : lkRep lb j = true
      · rw [if_pos cr]
        have c2 := hrep.mp cr
        have hb : lbP A j (fi j) lbf (-1) = (((A 1).getD (fi j + 1) 0 : Nat) : Int) := (if_pos c2).trans (later_no _ _ (by decide))
        have h9 : (sA A N fi S0 (j + 1)).2.2.2.2.2.2 = (((A 1).getD (fi j + 1) 0 : Nat) : Int) := by
          rw [r7, hb]
          have hg : ∀ num, lsLater A num (((A 1).getD (fi j + 1) 0 : Nat) : Int) = (((A 1).getD (fi j + 1) 0 : Nat) : Int) := fun num => later_ge _ _ (by omega)
          rw [hg]
          (repeat' split) <;> rfl
        rw [hfault _ h9, hc3 c2.1]
        exact ⟨rfl, fun z => by dsimp only at z; omega⟩
      · rw [if_neg cr]
        have hb : lbP A j (fi j) lbf (-1) = -1 := if_neg (fun z => cr (hrep.mpr z))
        rw [hb] at r7
        rw [hc1]
        by_cases k2 : kA A fi j = 302
        · obtain ⟨hc5, hc6⟩ := hc4 (by omega)
          rw [if_pos k2]
          rw [if_pos k2] at r7
          have hwj : ∀ k, k < oc → wj A (va_up jm j ((jA A N fi j : Nat) : Int)) (op k) = wtA A N fi (op k) := fun k hk9 => by
            have z := hI.2.2.2.1 k hk9
            unfold wj
            rw [va_up_ne _ _ (show ¬ op k = j by omega), (hrj _ z.1).2.2 (by omega)]
            rfl
          have hch := lkCh_ch (nu := nu) (v := nu.getD j 0) (fun k hk9 => (hI.2.2.2.1 k hk9).2.2.2.2) oc 3 hI.2.1 (Nat.le_refl oc)
          rw [← hI.2.2.1] at hch
          have h1000 := hw j (by omega) (by omega)
          have hmay : lkMay nu ts j inn = true ↔ dOK A (va_up jm j ((jA A N fi j : Nat) : Int)) op (wtA A N fi j) oc = true := by
            rw [dOK_i]
            unfold lkMay
            have hiff : (∀ i, i < oc → ¬ nu.getD (op i) 0 = nu.getD j 0) ↔ ∀ i, i < oc → ¬ wj A (va_up jm j ((jA A N fi j : Nat) : Int)) (op i) = wtA A N fi j := by
              refine ⟨fun z i hi y => z i hi ?_, fun z i hi y => z i hi ?_⟩
              · have z2 := hI.2.2.2.1 i hi
                rw [hwj i hi] at y
                rw [((hc (op i) (by omega)).2.2.2 (by omega)).1, hc5, y]
              · have z2 := hI.2.2.2.1 i hi
                rw [((hc (op i) (by omega)).2.2.2 (by omega)).1, hc5] at y
                rw [hwj i hi]
                omega
            by_cases c5 : nu.getD j 0 < 1000 ∨ 3000 < nu.getD j 0
            · rw [if_pos c5]
              exact ⟨fun z => absurd z Bool.false_ne_true, fun z => by rw [hc5] at c5; omega⟩
            · rw [if_neg c5, hch, hiff]
              refine ⟨fun z => ⟨?_, z⟩, fun z => z.2⟩
              rw [hc5] at c5
              omega
          by_cases cm : lkMay nu ts j inn = true
          · have cd := hmay.mp cm
            rw [if_pos cm]
            rw [if_pos cd] at r7
            have hd := (dOK_i oc).mp cd
            have hI2 := jI_do hI (by omega) k2 hd.1 (fun k hk9 => by rw [← hwj k hk9]; exact hd.2 k hk9)
            have hoc := jI_3 hI hd.1 (fun k hk9 => by rw [← hwj k hk9]; exact hd.2 k hk9)
            rw [if_neg (fun z => by have := z.1; omega)] at r4
            rw [if_pos ⟨k2, by omega⟩] at r5 r6
            exact ih _ _ r7 (by rw [r4, r5, r6]; exact hI2)
          · rw [if_neg cm]
            rw [if_neg (fun z => cm (hmay.mpr z)), later_no _ _ (by decide)] at r7
            rw [hfault _ r7, hc6]
            exact ⟨rfl, fun z => by dsimp only at z; omega⟩
        · rw [if_neg k2]
          rw [if_neg k2] at r7
          rw [if_neg (fun z => k2 z.1)] at r5 r6
          by_cases k4 : kA A fi j = 304
          · obtain ⟨hc5, hc6⟩ := hc4 (by omega)
            rw [if_pos k4]
            rw [if_pos k4] at r7
            have hcond : (¬ (inn = -1 ∨ ¬ nu.getD inn.toNat 0 = nu.getD j 0)) ↔ (0 < oc ∧ wj A (va_up jm j (-1)) (op (oc - 1)) = wtA A N fi j) := by
              by_cases c0 : oc = 0
              · have := hI.2.2.1
                rw [if_pos c0] at this
                exact ⟨fun z => absurd (Or.inl this) z, fun z => by omega⟩
              · have hi := hI.2.2.1
                rw [if_neg c0] at hi
                have z2 := hI.2.2.2.1 (oc - 1) (by omega)
                have e9 : inn.toNat = op (oc - 1) := by omega
                have ew : wj A (va_up jm j (-1)) (op (oc - 1)) = wtA A N fi (op (oc - 1)) := by
                  unfold wj
                  rw [va_up_ne _ _ (show ¬ op (oc - 1) = j by omega), (hrj _ z2.1).2.2 (by omega)]
                  rfl
                rw [e9, ((hc (op (oc - 1)) (by omega)).2.2.2 (by omega)).1, hc5, ew]
                refine ⟨fun z => ⟨by omega, ?_⟩, fun z y => ?_⟩
                · by_cases y : wtA A N fi (op (oc - 1)) = wtA A N fi j
                  · exact y
                  · exact absurd (Or.inr (fun y2 => y (by omega))) z
                · rcases y with y | y
                  · omega
                  · exact y (by rw [z.2])
            by_cases cc : inn = -1 ∨ ¬ nu.getD inn.toNat 0 = nu.getD j 0
            · have cd : ¬ (0 < oc ∧ wj A (va_up jm j (-1)) (op (oc - 1)) = wtA A N fi j) := fun z => hcond.mpr z cc
              rw [if_pos cc]
              rw [if_neg cd, later_no _ _ (by decide)] at r7
              rw [hfault _ r7, hc6]
              exact ⟨rfl, fun z => by dsimp only at z; omega⟩
            · have cd := hcond.mp cc
              rw [if_neg cc]
              rw [if_pos cd] at r7
              rw [if_pos ⟨k4, cd⟩] at r4 r6
              have hI2 := jI_end hI (by omega) k4 cd.1
              exact ih _ _ r7 (by rw [r4, r5, r6]; exact hI2.2)
          · rw [if_neg k4]
            rw [if_neg k4] at r7
            rw [if_neg (fun z => k4 z.1)] at r4 r6
            exact ih _ _ r7 (by rw [r4, r5, r6]; exact jI_id hI ⟨k2, k4⟩)
