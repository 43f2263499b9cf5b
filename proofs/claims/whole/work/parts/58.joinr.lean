/-! joining: the whole -/
theorem lsA_cL {A : Nat → List Nat} {N : Nat} {fi : Nat → Nat} {n : Nat} {ks lp np : List Nat} {lb nu : List Int} (h : ks = (lsA A N fi n).map (fun x => x.2.1) ∧ lb = (lsA A N fi n).map (fun x => x.2.2.1) ∧ lp = (lsA A N fi n).map (fun x => x.2.2.2.1) ∧ nu = (lsA A N fi n).map (fun x => x.2.2.2.2.1) ∧ np = (lsA A N fi n).map (fun x => x.2.2.2.2.2)) : cL A N fi n ks lp np lb nu := by
  obtain ⟨rfl, rfl, rfl, rfl, rfl⟩ := h
  intro i hi
  refine ⟨lsA_get A N fi _ 0 n i hi, lsA_get A N fi _ 0 n i hi, fun q => ?_, fun q => ⟨?_, ?_⟩⟩
  · rw [lsA_get A N fi _ 0 n i hi]
    exact if_pos q
  · rw [lsA_get A N fi _ 0 n i hi]
    exact if_neg q
  · rw [lsA_get A N fi _ 0 n i hi]
    exact if_neg q
theorem later_ge1 (tk : Nat → List Nat) (num : Nat) {lp : Int} (h : -1 ≤ lp) : -1 ≤ lsLater tk num lp := by
  unfold lsLater
  split <;> omega
theorem ba1_ge1 (tk : Nat → List Nat) (so : Nat → Nat) (pa jm : Nat → Int) {lp : Int} (h : -1 ≤ lp) : ∀ k : Nat, -1 ≤ ba1 tk so pa jm k lp
  | 0 => h
  | k + 1 => by
    have ih := ba1_ge1 tk so pa jm h k
    unfold ba1
    split
    · exact later_ge1 _ _ ih
    · exact ih
theorem sA_ge {A : Nat → List Nat} {N : Nat} {fi : Nat → Nat} {S0 : LSt} (h : -1 ≤ S0.2.2.2.2.2.2) : ∀ k : Nat, -1 ≤ (sA A N fi S0 k).2.2.2.2.2.2
  | 0 => h
  | k + 1 => by
    have ih := sA_ge (A := A) (N := N) (fi := fi) h k
    show -1 ≤ (lsLine A N k (fi k) (sA A N fi S0 k)).2.2.2.2.2.2
    obtain ⟨lb, pa, jm, so, op, oc, lp, e⟩ := LSt_ex (sA A N fi S0 k)
    rw [e] at ih ⊢
    obtain ⟨-, -, -, -, -, -, r7⟩ := lsLine_r A N k (fi k) lb pa jm so op oc lp
    have hb : -1 ≤ lbP A k (fi k) lb lp := by
      unfold lbP
      split
      · exact later_ge1 _ _ ih
      · exact ih
    rw [r7]
    (repeat' split) <;> first | exact hb | exact later_ge1 _ _ hb
theorem join_A {A : Nat → List Nat} {N : Nat} {fi : Nat → Nat} {n : Nat} {ks lp np : List Nat} {lb nu ts : List Int} (hc : cL A N fi n ks lp np lb nu) (hw : ∀ i, i < n → ¬ kA A fi i = 0 → 1000 ∣ wtA A N fi i) (hn : n ≤ 8000) (ht : ts.length = n) (ht0 : ∀ i, ts.getD i 0 = 0) (lb0 pa0 jm0 : Nat → Int) (so0 op0 : Nat → Nat) {Z : LSt} (hZ : Z = sA A N fi (lb0, pa0, jm0, so0, op0, 0, -1) n) :
    (lkJoin n ks lp np lb nu ts).1 = bAll A n Z ∧ ((lkJoin n ks lp np lb nu ts).1 = -1 → (lkJoin n ks lp np lb nu ts).2.length = n ∧ ∀ i, i < n →
      (kA A fi i = 300 ∨ kA A fi i = 301 → (lkJoin n ks lp np lb nu ts).2.getD i 0 = lo Z.1 ((wj A Z.2.2.1 i : Nat) : Int) n ∧ 0 ≤ lo Z.1 ((wj A Z.2.2.1 i : Nat) : Int) n) ∧
      (kA A fi i = 302 → 0 ≤ Z.2.1 i ∧ Z.2.1 i < (n : Int) ∧ (lkJoin n ks lp np lb nu ts).2.getD i 0 = Z.2.1 i + 1) ∧
      (kA A fi i = 304 → 0 ≤ Z.2.1 i ∧ Z.2.1 i < (n : Int) ∧ (lkJoin n ks lp np lb nu ts).2.getD i 0 = Z.2.1 i) ∧
      (kA A fi i = 0 → (lkJoin n ks lp np lb nu ts).2.getD i 0 = 0)) := by
  have hr := sA_r (A := A) (N := N) (fi := fi) (S0 := (lb0, pa0, jm0, so0, op0, 0, -1)) n
  have hl := jl_A hc hw (S0 := (lb0, pa0, jm0, so0, op0, 0, -1)) 8001 0 (-1) ts (by omega) (Nat.zero_le n) rfl (jI_0 ht ht0)
  rw [← hZ] at hr hl
  obtain ⟨lbz, paz, jmz, soz, opz, ocz, lpz, e⟩ := LSt_ex Z
  subst e
  dsimp only at hr hl
  unfold lkJoin bAll
  dsimp only
  generalize lkJL n ks lp np lb nu 8001 0 (-1) ts = L at hl
  obtain ⟨l1, l2⟩ := L
  dsimp only at hl
  obtain ⟨h1, h2⟩ := hl
  by_cases q : l1 = -1
  · obtain ⟨h3, h4⟩ := h2 q
    rw [if_pos q, ← h1, q]
    have hK := fun i => lnK_i A (lnB A (fi i))
    have hkA : ∀ i, kA A fi i = lnK A (lnB A (fi i)) := fun _ => rfl
    have hso : ∀ i, i < n → (soz i = 3 ∨ soz i = 4 ↔ ks.getD i 0 = 301 ∨ ks.getD i 0 = 300) := fun i hi => by
      have k1 := hK i
      have k2 := soK_i ((A 0).getD (lnB A (fi i)) 0)
      rw [(hr i hi).2.1, (hc i hi).1, hkA]
      omega
    have hso2 : ∀ i, i < n → (soz i = 3 ∨ soz i = 4 ↔ kA A fi i = 300 ∨ kA A fi i = 301) := fun i hi => by
      have := hso i hi
      rw [(hc i hi).1] at this
      omega
    have hg := jg_A (tk := A) (so := soz) (lbf := lbz) (jm := jmz) (n := n) (ks := ks) (np := np) (lb := lb) (nu := nu) hso (fun i hi => by rw [(hr i hi).1, (hc i hi).2.1]) (fun i hi hs => by
      have hk := (hso2 i hi).mp hs
      have hh := (hc i hi).2.2.2 (by omega)
      refine ⟨?_, ?_⟩
      · rw [hh.1, hr.wE hi (by omega)]
      · rw [hh.2, (hr i hi).2.2 (by omega)]
        rfl) 8001 0 l2 (by omega) (Nat.zero_le n) h3 rfl
    refine ⟨hg.1, fun z => ?_⟩
    obtain ⟨g1, g2⟩ := hg.2 z
    refine ⟨g1, fun i hi => ⟨fun hk => ?_, fun hk => ?_, fun hk => ?_, fun hk => ?_⟩⟩
    · exact (g2 i hi).1 (Nat.zero_le i) ((hso2 i hi).mpr hk)
    · rw [(g2 i hi).2 (Or.inr (fun y => by have := (hso2 i hi).mp y; omega))]
      exact (h4 i hi).1 hk
    · rw [(g2 i hi).2 (Or.inr (fun y => by have := (hso2 i hi).mp y; omega))]
      exact (h4 i hi).2.1 hk
    · rw [(g2 i hi).2 (Or.inr (fun y => by have := (hso2 i hi).mp y; omega))]
      exact (h4 i hi).2.2 (by omega)
  · have hb := lkJL_b n ks lp np lb nu
    rw [if_neg q]
    dsimp only
    have hge : -1 ≤ l1 := by
      rw [h1]
      have hlp : -1 ≤ lpz := by
        have := sA_ge (A := A) (N := N) (fi := fi) (S0 := (lb0, pa0, jm0, so0, op0, 0, -1)) (Int.le_refl (-1)) n
        rw [← hZ] at this
        exact this
      exact ba1_ge1 A soz paz jmz hlp n
    rw [← h1, ba2_ge _ _ _ _ _ (by omega)]
    exact ⟨rfl, fun z => absurd z q⟩
