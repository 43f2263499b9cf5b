/-! lines and tokens, without memory: what a line adds, what stays known of the lines -/
def tkX (tk tk2 : Nat → List Nat) : Prop := ∀ r, r < 3 → ∃ s, tk2 r = tk r ++ s
theorem tkX.refl (tk : Nat → List Nat) : tkX tk tk := fun r _ => ⟨[], (List.append_nil _).symm⟩
theorem tkX.trans {a b c : Nat → List Nat} (h1 : tkX a b) (h2 : tkX b c) : tkX a c := fun r hr => by
  obtain ⟨s, e⟩ := h1 r hr
  obtain ⟨t, e2⟩ := h2 r hr
  exact ⟨s ++ t, by rw [e2, e, List.append_assoc]⟩
theorem tkX_add (tk : Nat → List Nat) (k s w : Nat) : tkX tk (tkAdd tk k s w) := fun r hr => by
  rcases (show r = 0 ∨ r = 1 ∨ r = 2 by omega) with rfl | rfl | rfl
  · exact ⟨[k], rfl⟩
  · exact ⟨[s], rfl⟩
  · exact ⟨[w], rfl⟩
theorem getD_app {a s : List Nat} {i : Nat} (h : i < a.length) : (a ++ s).getD i 0 = a.getD i 0 := by
  rw [List.getD_eq_getElem?_getD, List.getD_eq_getElem?_getD, List.getElem?_append_left h]
theorem tL.len {tk : Nat → List Nat} (h : tL tk) {r : Nat} (hr : r < 3) : (tk r).length = (tk 0).length := by
  rcases (show r = 0 ∨ r = 1 ∨ r = 2 by omega) with rfl | rfl | rfl
  · rfl
  · exact h.1
  · exact h.2
theorem tkX.getD {tk tk2 : Nat → List Nat} (h : tkX tk tk2) (hl : tL tk) {r i : Nat} (hr : r < 3) (hi : i < (tk 0).length) : (tk2 r).getD i 0 = (tk r).getD i 0 := by
  obtain ⟨s, e⟩ := h r hr
  rw [e, getD_app (by rw [hl.len hr]; exact hi)]
theorem tkX.len {tk tk2 : Nat → List Nat} (h : tkX tk tk2) : (tk 0).length ≤ (tk2 0).length := by
  obtain ⟨s, e⟩ := h 0 (by decide)
  rw [e, List.length_append]
  omega
theorem uTok_b {T : List Nat} {i : Nat} (hi : i ≤ T.length) : i ≤ pb T i ∧ ((uTok T i).1 = 0 → pb T i < T.length) ∧ ((uTok T i).1 = 10 → i + 1 ≤ (uTok T i).2.2.2 ∧ (uTok T i).2.2.2 ≤ T.length + 1) ∧ (¬ (uTok T i).1 = 10 → i + 1 ≤ (uTok T i).2.2.2 ∧ (uTok T i).2.2.2 ≤ T.length) ∧ pb T i ≤ T.length ∧ (uTok T i).2.1 ≤ T.length := by
  have hb := pbF_b T (T.length + 1) i
  have he : pb T i = pbF T (T.length + 1) i := rfl
  rw [← he] at hb
  unfold uTok
  by_cases q : T.length ≤ pb T i
  · rw [if_pos q]
    dsimp only
    refine ⟨by omega, fun h => by omega, fun _ => by omega, fun h => by omega, by omega, by omega⟩
  · rw [if_neg q]
    have h := oT_n (T := T) (k := pb T i) (by omega)
    refine ⟨by omega, fun _ => by omega, fun _ => by omega, fun _ => by omega, by omega, by omega⟩
theorem tE_add {tk : Nat → List Nat} (k s w : Nat) (hk : k = 0 ∨ k = 10) : tE (tkAdd tk k s w) := by
  intro i hi
  rw [tkAdd_l] at hi
  have e : (tkAdd tk k s w 0).getD i 0 = if i = (tk 0).length then k else (tk 0).getD i 0 := getD_snoc (tk 0) k i
  rw [e]
  split
  · exact hk
  · left
    rw [List.getD_eq_getElem?_getD, List.getElem?_eq_none (by omega)]
    rfl
theorem cuF_p (T : List Nat) : ∀ (f : Nat) (tk : Nat → List Nat) (i : Nat), T.length < f + i → i ≤ T.length → (tk 0).length ≤ i → tL tk →
    tkX tk (cuF T f tk i).1 ∧ tL (cuF T f tk i).1 ∧ tE (cuF T f tk i).1 ∧ (tk 0).length + 1 ≤ ((cuF T f tk i).1 0).length ∧ ((cuF T f tk i).1 0).length ≤ (cuF T f tk i).2 ∧ i + 1 ≤ (cuF T f tk i).2 ∧ (cuF T f tk i).2 ≤ T.length + 1
  | 0, tk, i, h, h2, _, _ => by omega
  | f + 1, tk, i, h, h2, h3, hl => by
    obtain ⟨b1, b2, b3, b4, b5, b6⟩ := uTok_b h2
    unfold cuF
    by_cases c0 : (uTok T i).1 = 0
    · rw [if_pos c0]
      have := b2 c0
      exact ⟨tkX_add _ _ _ _, tL_add hl _ _ _, tE_add _ _ _ (Or.inl rfl), by dsimp only; rw [tkAdd_l]; omega, by dsimp only; rw [tkAdd_l]; omega, by dsimp only; omega, by dsimp only; omega⟩
    · rw [if_neg c0]
      by_cases c1 : (uTok T i).1 = 10
      · rw [if_pos c1]
        have := b3 c1
        exact ⟨tkX_add _ _ _ _, tL_add hl _ _ _, tE_add _ _ _ (Or.inr rfl), by dsimp only; rw [tkAdd_l]; omega, by dsimp only; rw [tkAdd_l]; omega, by dsimp only; omega, by dsimp only; omega⟩
      · rw [if_neg c1]
        have h4 := b4 c1
        obtain ⟨r1, r2, r3, r4, r5, r6, r7⟩ := cuF_p T f (tkAdd tk (uTok T i).1 (uTok T i).2.1 (uTok T i).2.2.1) (uTok T i).2.2.2 (by omega) (by omega) (by rw [tkAdd_l]; omega) (tL_add hl _ _ _)
        rw [tkAdd_l] at r4
        exact ⟨(tkX_add _ _ _ _).trans r1, r2, r3, by omega, r5, by omega, r7⟩
/-- what is known of the j lines so far -/
def lInv (tk : Nat → List Nat) (j : Nat) (S : LSt) : Prop := oInv tk j S.2.2.1 S.2.2.2.2.1 S.2.2.2.2.2.1 ∧ (-1 ≤ S.2.2.2.2.2.2 ∧ S.2.2.2.2.2.2 < 1000000000) ∧
  ∀ i, i < j → S.2.2.2.1 i ≤ 6 ∧ (S.2.2.2.1 i = 3 ∨ S.2.2.2.1 i = 4 ∨ S.2.2.2.1 i = 5 → 0 ≤ S.2.2.1 i ∧ (S.2.2.1 i).toNat + 1 ≤ (tk 0).length ∧ (tk 0).getD (S.2.2.1 i).toNat 0 = 256) ∧ (-1 ≤ S.1 i ∧ S.1 i < 1000000000) ∧ (-1 ≤ S.2.1 i ∧ S.2.1 i < 20000)
theorem lInv.ext {tk tk2 : Nat → List Nat} {j : Nat} {S : LSt} (h : lInv tk j S) (hx : tkX tk tk2) (hl : tL tk) : lInv tk2 j S := by
  obtain ⟨⟨h1, h2⟩, h3, h4⟩ := h
  have hlen := hx.len
  refine ⟨⟨h1, fun k hk => ?_⟩, h3, fun i hi => ?_⟩
  · obtain ⟨a, b, c, d⟩ := h2 k hk
    exact ⟨a, b, by omega, by rw [hx.getD hl (by decide) (by omega)]; exact d⟩
  · obtain ⟨a, b, c, d⟩ := h4 i hi
    refine ⟨a, fun q => ?_, c, d⟩
    obtain ⟨b1, b2, b3⟩ := b q
    exact ⟨b1, by omega, by rw [hx.getD hl (by decide) (by omega)]; exact b3⟩
theorem lInv_new {tk : Nat → List Nat} {j : Nat} {S : LSt} (h : lInv tk j S) : lInv tk j (lsNew j S) ∧ (lsNew j S).1 j = -1 ∧ (lsNew j S).2.1 j = -1 ∧ (lsNew j S).2.2.2.1 j = 0 := by
  obtain ⟨h1, h3, h4⟩ := h
  refine ⟨⟨h1.upd (-1), h3, fun i hi => ?_⟩, va_up_self _ _ _, va_up_self _ _ _, va_up_self _ _ _⟩
  have hne : ¬ i = j := by omega
  show va_up S.2.2.2.1 j 0 i ≤ 6 ∧ (va_up S.2.2.2.1 j 0 i = 3 ∨ va_up S.2.2.2.1 j 0 i = 4 ∨ va_up S.2.2.2.1 j 0 i = 5 → 0 ≤ va_up S.2.2.1 j (-1) i ∧ (va_up S.2.2.1 j (-1) i).toNat + 1 ≤ (tk 0).length ∧ (tk 0).getD (va_up S.2.2.1 j (-1) i).toNat 0 = 256) ∧ (-1 ≤ va_up S.1 j (-1) i ∧ va_up S.1 j (-1) i < 1000000000) ∧ (-1 ≤ va_up S.2.1 j (-1) i ∧ va_up S.2.1 j (-1) i < 20000)
  rw [va_up_ne _ _ hne, va_up_ne _ _ hne, va_up_ne _ _ hne, va_up_ne _ _ hne]
  exact h4 i hi
/-- the state of the line j itself is known too -/
def lIn1 (tk : Nat → List Nat) (j : Nat) (S : LSt) : Prop := S.2.2.2.1 j ≤ 6 ∧ (S.2.2.2.1 j = 3 ∨ S.2.2.2.1 j = 4 ∨ S.2.2.2.1 j = 5 → 0 ≤ S.2.2.1 j ∧ (S.2.2.1 j).toNat + 1 ≤ (tk 0).length ∧ (tk 0).getD (S.2.2.1 j).toNat 0 = 256) ∧ (-1 ≤ S.1 j ∧ S.1 j < 1000000000) ∧ (-1 ≤ S.2.1 j ∧ S.2.1 j < 20000)
theorem oInv.mono {tk : Nat → List Nat} {j j2 : Nat} {jm : Nat → Int} {op : Nat → Nat} {oc : Nat} (h : oInv tk j jm op oc) (hj : j ≤ j2) : oInv tk j2 jm op oc := ⟨h.1, fun k hk => by
  obtain ⟨a, b⟩ := h.2 k hk
  exact ⟨by omega, b⟩⟩
theorem lInv_succ {tk : Nat → List Nat} {j : Nat} {S : LSt} (h : lInv tk j S) (h1 : lIn1 tk j S) : lInv tk (j + 1) S := ⟨h.1.mono (by omega), h.2.1, fun i hi => by
  rcases Nat.lt_or_ge i j with q | q
  · exact h.2.2 i q
  · obtain rfl : i = j := (by omega)
    exact h1⟩
theorem lInv_label {tk : Nat → List Nat} {V : Nat → Nat → Int32} (hT : tV tk V) {j a : Nat} {S : LSt} (h : lInv tk j S) (h1 : lIn1 tk j S) : lInv tk j (lsLabel tk j a S) ∧ lIn1 tk j (lsLabel tk j a S) ∧ (lsLabel tk j a S).2.2.2.1 j = S.2.2.2.1 j := by
  have hb := (hT.2.2 (a + 1)).2.2
  unfold lsLabel
  split
  · obtain ⟨g1, g2, g3⟩ := h
    obtain ⟨k1, k2, k3, k4⟩ := h1
    refine ⟨⟨g1, lsLab_b hT _ _ _ g2 j, fun i hi => ?_⟩, ⟨k1, k2, ?_, k4⟩, rfl⟩
    · obtain ⟨p1, p2, p3, p4⟩ := g3 i hi
      refine ⟨p1, p2, ?_, p4⟩
      show -1 ≤ va_up S.1 j _ i ∧ va_up S.1 j _ i < 1000000000
      rw [va_up_ne _ _ (show ¬ i = j by omega)]
      exact p3
    · show -1 ≤ va_up S.1 j _ j ∧ va_up S.1 j _ j < 1000000000
      rw [va_up_self]
      omega
  · exact ⟨h, h1, rfl⟩
/-- a line's sort and the token of its number -/
theorem lInv_so {tk : Nat → List Nat} {j : Nat} {S : LSt} (h : lInv tk j S) (h1 : lIn1 tk j S) {k : Nat} (hk : k ≤ 6) (x : Nat) (hx : x + 1 ≤ (tk 0).length ∧ (tk 0).getD x 0 = 256) : lInv tk j (S.1, S.2.1, va_up S.2.2.1 j (x : Int), va_up S.2.2.2.1 j k, S.2.2.2.2) ∧ lIn1 tk j (S.1, S.2.1, va_up S.2.2.1 j (x : Int), va_up S.2.2.2.1 j k, S.2.2.2.2) := by
  obtain ⟨g1, g2, g3⟩ := h
  obtain ⟨k1, k2, k3, k4⟩ := h1
  refine ⟨⟨g1.upd _, g2, fun i hi => ?_⟩, ?_, ?_, k3, k4⟩
  · obtain ⟨p1, p2, p3, p4⟩ := g3 i hi
    have hne : ¬ i = j := by omega
    show va_up S.2.2.2.1 j k i ≤ 6 ∧ (va_up S.2.2.2.1 j k i = 3 ∨ va_up S.2.2.2.1 j k i = 4 ∨ va_up S.2.2.2.1 j k i = 5 → 0 ≤ va_up S.2.2.1 j (x : Int) i ∧ (va_up S.2.2.1 j (x : Int) i).toNat + 1 ≤ (tk 0).length ∧ (tk 0).getD (va_up S.2.2.1 j (x : Int) i).toNat 0 = 256) ∧ _ ∧ _
    rw [va_up_ne _ _ hne, va_up_ne _ _ hne]
    exact ⟨p1, p2, p3, p4⟩
  · show va_up S.2.2.2.1 j k j ≤ 6
    rw [va_up_self]; exact hk
  · intro _
    show 0 ≤ va_up S.2.2.1 j (x : Int) j ∧ (va_up S.2.2.1 j (x : Int) j).toNat + 1 ≤ (tk 0).length ∧ (tk 0).getD (va_up S.2.2.1 j (x : Int) j).toNat 0 = 256
    rw [va_up_self]
    exact ⟨by omega, by simpa using hx.1, by simpa using hx.2⟩
theorem lInv_so0 {tk : Nat → List Nat} {j : Nat} {S : LSt} (h : lInv tk j S) (h1 : lIn1 tk j S) {k : Nat} (hk : k ≤ 6) (hk3 : ¬ (k = 3 ∨ k = 4 ∨ k = 5)) : lInv tk j (S.1, S.2.1, S.2.2.1, va_up S.2.2.2.1 j k, S.2.2.2.2) ∧ lIn1 tk j (S.1, S.2.1, S.2.2.1, va_up S.2.2.2.1 j k, S.2.2.2.2) := by
  obtain ⟨g1, g2, g3⟩ := h
  obtain ⟨k1, k2, k3, k4⟩ := h1
  refine ⟨⟨g1, g2, fun i hi => ?_⟩, ?_, ?_, k3, k4⟩
  · obtain ⟨p1, p2, p3, p4⟩ := g3 i hi
    have hne : ¬ i = j := by omega
    show va_up S.2.2.2.1 j k i ≤ 6 ∧ (va_up S.2.2.2.1 j k i = 3 ∨ va_up S.2.2.2.1 j k i = 4 ∨ va_up S.2.2.2.1 j k i = 5 → _ ∧ _ ∧ _) ∧ _ ∧ _
    rw [va_up_ne _ _ hne]
    exact ⟨p1, p2, p3, p4⟩
  · show va_up S.2.2.2.1 j k j ≤ 6
    rw [va_up_self]; exact hk
  · show va_up S.2.2.2.1 j k j = 3 ∨ va_up S.2.2.2.1 j k j = 4 ∨ va_up S.2.2.2.1 j k j = 5 → _
    rw [va_up_self]
    intro q; exact absurd q hk3
theorem lInv_do {tk : Nat → List Nat} {V : Nat → Nat → Int32} (hT : tV tk V) {j num : Nat} {S : LSt} (h : lInv tk j S) (h1 : lIn1 tk j S) (h5 : S.2.2.2.1 j = 5) : lInv tk (j + 1) (lsDo tk j num S) := by
  have hs := lInv_succ h h1
  have hj := h1.2.1 (by omega)
  obtain ⟨g1, g2, g3⟩ := hs
  refine ⟨?_, ?_, g3⟩
  · show oInv tk (j + 1) S.2.2.1 (if S.2.2.2.2.2.1 < 4 then va_up S.2.2.2.2.1 S.2.2.2.2.2.1 j else S.2.2.2.2.1) (if S.2.2.2.2.2.1 < 4 then S.2.2.2.2.2.1 + 1 else S.2.2.2.2.2.1)
    split
    · rename_i q
      refine ⟨by omega, fun k hk => ?_⟩
      by_cases e : k = S.2.2.2.2.2.1
      · subst e
        rw [va_up_self]
        exact ⟨by omega, hj⟩
      · rw [va_up_ne _ _ e]
        exact g1.2 k (by omega)
    · exact g1
  · show -1 ≤ (if _ then _ else _ : Int) ∧ (if _ then _ else _ : Int) < 1000000000
    split
    · exact g2
    · exact lsLater_b hT num g2
theorem lInv_end {tk : Nat → List Nat} {V : Nat → Nat → Int32} (hT : tV tk V) {j num : Nat} (hj : j < 16002) {S : LSt} (h : lInv tk j S) (h1 : lIn1 tk j S) : lInv tk (j + 1) (lsEnd tk j num S) := by
  have hs := lInv_succ h h1
  have ho := h.1
  obtain ⟨g1, g2, g3⟩ := hs
  unfold lsEnd
  split
  · rename_i q
    have hk := (ho.2 (S.2.2.2.2.2.1 - 1) (by omega)).1
    refine ⟨⟨by have := g1.1; show S.2.2.2.2.2.1 - 1 ≤ 4; omega, fun k hk2 => g1.2 k (by have hk3 : k < S.2.2.2.2.2.1 - 1 := hk2; omega)⟩, g2, fun i hi => ?_⟩
    obtain ⟨p1, p2, p3, p4⟩ := g3 i hi
    refine ⟨p1, p2, p3, ?_⟩
    show -1 ≤ va_up (va_up S.2.1 j _) _ _ i ∧ va_up (va_up S.2.1 j _) _ _ i < 20000
    by_cases e : i = S.2.2.2.2.1 (S.2.2.2.2.2.1 - 1)
    · rw [e, va_up_self]; omega
    · rw [va_up_ne _ _ e]
      by_cases e2 : i = j
      · rw [e2, va_up_self]; omega
      · rw [va_up_ne _ _ e2]; exact p4
  · exact ⟨g1, lsLater_b hT num g2, g3⟩
theorem qTake_ok {tk : Nat → List Nat} {k a : Nat} (h : (qTake tk k a).1 = true) : (tk 0).getD a 0 = k ∧ qTake tk k a = (true, a + 1) := by
  unfold qTake at h ⊢
  split at h
  · rename_i q; exact ⟨q, if_pos q⟩
  · exact absurd h Bool.false_ne_true
theorem qRest_num {tk : Nat → List Nat} (hE : tE tk) {N b : Nat} (h : (qRest tk N b).1 = true) (hc : (tk 0).getD b 0 = 300 ∨ (tk 0).getD b 0 = 301 ∨ (tk 0).getD b 0 = 302) : rJ tk N b + 1 ≤ (tk 0).length ∧ (tk 0).getD (rJ tk N b) 0 = 256 := by
  have key : (tk 0).getD (rJ tk N b) 0 = 256 := by
    unfold qRest at h
    unfold rJ
    rcases hc with c | c | c
    · rw [if_neg (by omega), if_pos c] at h
      rw [if_pos (Or.inl c)]
      obtain ⟨h1, h2, -⟩ := qThen_ok h
      obtain ⟨h3, h4, h5⟩ := qThen_ok h1
      rw [h5, (qTake_ok h4).2] at h2
      exact (qTake_ok h2).1
    · rw [if_neg (by omega), if_neg (by omega), if_pos c] at h
      rw [if_neg (by omega)]
      exact (qTake_ok h).1
    · rw [if_neg (by omega), if_neg (by omega), if_neg (by omega), if_pos c] at h
      rw [if_pos (Or.inr c)]
      obtain ⟨h1, h2, -⟩ := qThen_ok h
      obtain ⟨h3, h4, h5⟩ := qThen_ok h1
      rw [h5, (qTake_ok h4).2] at h2
      exact (qTake_ok h2).1
  have := hE.lt (a := rJ tk N b) (by omega) (by omega)
  exact ⟨by omega, key⟩
theorem lInv_rest {tk : Nat → List Nat} {V : Nat → Nat → Int32} (hT : tV tk V) (hE : tE tk) {N j b : Nat} (hj : j < 16002) {S : LSt} (hq : (qRest tk N b).1 = true) (h : lInv tk j S) (h1 : lIn1 tk j S) : lInv tk (j + 1) (lsRest tk N j b S) := by
  unfold lsRest
  by_cases c1 : (tk 0).getD b 0 = 35
  · rw [if_pos c1]
    have := lInv_so0 h h1 (k := 2) (by decide) (by decide)
    exact lInv_succ this.1 this.2
  · rw [if_neg c1]
    by_cases c2 : (tk 0).getD b 0 = 300
    · rw [if_pos c2]
      have := lInv_so h h1 (k := 3) (by decide) _ (qRest_num hE hq (Or.inl c2))
      exact lInv_succ this.1 this.2
    · rw [if_neg c2]
      by_cases c3 : (tk 0).getD b 0 = 301
      · rw [if_pos c3]
        have := lInv_so h h1 (k := 4) (by decide) _ (qRest_num hE hq (Or.inr (Or.inl c3)))
        exact lInv_succ this.1 this.2
      · rw [if_neg c3]
        by_cases c4 : (tk 0).getD b 0 = 302
        · rw [if_pos c4]
          have := lInv_so h h1 (k := 5) (by decide) _ (qRest_num hE hq (Or.inr (Or.inr c4)))
          exact lInv_do hT this.1 this.2 (va_up_self _ _ _)
        · rw [if_neg c4]
          by_cases c5 : (tk 0).getD b 0 = 304
          · rw [if_pos c5]
            have := lInv_so0 h h1 (k := 6) (by decide) (by decide)
            exact lInv_end hT hj this.1 this.2
          · rw [if_neg c5]
            exact lInv_succ h h1
theorem qLine_rest {tk : Nat → List Nat} {N a : Nat} (h : (qLine tk N a).1 = true) : (qRest tk N (lnB tk a)).1 = true ∧ (tk 0).getD (qRest tk N (lnB tk a)).2 0 = 10 ∧ (qLine tk N a).2 = (qRest tk N (lnB tk a)).2 + 1 ∧ ((tk 0).getD a 0 = 78 → (tk 0).getD (a + 1) 0 = 256) := by
  unfold qLine at h ⊢
  obtain ⟨h1, h2, h3⟩ := qThen_ok h
  obtain ⟨h4, h5, h6⟩ := qThen_ok h1
  have hb : qLab tk a = (true, lnB tk a) ∧ ((tk 0).getD a 0 = 78 → (tk 0).getD (a + 1) 0 = 256) := by
    unfold qLab at h4 ⊢
    unfold lnB
    split at h4
    · rename_i q
      rw [if_pos q, if_pos q]
      have := qTake_ok h4
      exact ⟨this.2, fun _ => this.1⟩
    · rename_i q
      rw [if_neg q, if_neg q]
      exact ⟨rfl, fun q2 => absurd q2 q⟩
  rw [h6] at h2 h3
  rw [hb.1] at h5 h2 h3
  have h8 : qThen (qThen (qLab tk a) (qRest tk N)) (qTake tk 10) = qTake tk 10 (qRest tk N (lnB tk a)).2 := by rw [h6, hb.1]; exact h3
  rw [h8]
  have h7 := qTake_ok h2
  exact ⟨h5, h7.1, by rw [h7.2], hb.2⟩
theorem lInv_line {tk : Nat → List Nat} {V : Nat → Nat → Int32} (hT : tV tk V) (hE : tE tk) {N j a : Nat} (hj : j < 16002) {S : LSt} (hq : (qLine tk N a).1 = true) (h : lInv tk j S) : lInv tk (j + 1) (lsLine tk N j a S) := by
  obtain ⟨n1, n2, n3, n4⟩ := lInv_new h
  have i1 : lIn1 tk j (lsNew j S) := ⟨by omega, fun q => by omega, by omega, by omega⟩
  obtain ⟨l1, l2, l3⟩ := lInv_label hT (a := a) n1 i1
  exact lInv_rest hT hE hj (qLine_rest hq).1 l1 l2
