/-! the tokens' bounds; a whole number's worth is whole -/
theorem nwF_0 {T : List Nat} {p z f i v : Nat} (h1 : p ≤ i) (h2 : i < z) : nwF T p z (f + 1) i v = nwF T p z f (i + 1) (v * 10) := by
  show (if z ≤ i then v else nwF T p z f (i + 1) (v * 10 + (if i < p then T.getD i 0 - 48 else 0))) = _
  rw [if_neg (show ¬ z ≤ i by omega), if_neg (show ¬ i < p by omega)]
  rfl
theorem nwF_z {T : List Nat} {p z f i v : Nat} (h2 : z ≤ i) : nwF T p z (f + 1) i v = v := if_pos h2
theorem nW_256 {T : List Nat} {s : Nat} (h : nK T s = 256) : 1000 ∣ nW T s := by
  unfold nK at h
  unfold nW
  by_cases q : 6 < pd T s - s ∨ 3 < nE T s - nS T s
  · rw [if_pos q]
    exact Nat.dvd_zero 1000
  · rw [if_neg q] at h ⊢
    have h46 : ¬ T.getD (pd T s) 0 = 46 := fun z => by rw [if_pos z] at h; omega
    have e1 : nE T s = pd T s := if_neg h46
    have e2 : nS T s = pd T s := if_neg h46
    unfold nV
    rw [e1, e2, nwF_0 (Nat.le_refl _) (by omega), nwF_0 (by omega) (by omega), nwF_0 (by omega) (by omega), nwF_z (by omega)]
    generalize nvF T (pd T s) 7 s 0 = v
    omega
theorem tkTok_g {T : List Nat} (hB : ∀ j, T.getD j 0 < 256) (hT : T.length ≤ 16000) (i : Nat) : (tkTok T i).1 < 1000 ∧ (tkTok T i).2.1 < 1000000000 ∧ (tkTok T i).2.2.1 < 1000000000 ∧ ((tkTok T i).1 = 256 → 1000 ∣ (tkTok T i).2.2.1) := by
  refine ⟨tkTok_k hB i, ?_⟩
  have hp := pb_le T i
  unfold tkTok
  split
  · split
    · exact ⟨by dsimp only; omega, by dsimp only; omega, fun _ => Nat.dvd_zero 1000⟩
    · exact ⟨by dsimp only; omega, by dsimp only; omega, fun _ => Nat.dvd_zero 1000⟩
  · split
    · refine ⟨by dsimp only; omega, ?_, fun h => nW_256 h⟩
      dsimp only
      unfold nW
      split
      · omega
      · exact nV_b hp (by omega)
    · split
      · split
        · exact ⟨by dsimp only; omega, by dsimp only; omega, fun _ => Nat.dvd_zero 1000⟩
        · exact ⟨by dsimp only; omega, by dsimp only; omega, fun _ => Nat.dvd_zero 1000⟩
      · exact ⟨by dsimp only; omega, by dsimp only; omega, fun _ => Nat.dvd_zero 1000⟩
def tG (tk : Nat → List Nat) : Prop := tL tk ∧ ∀ i, (tk 0).getD i 0 < 1000 ∧ (tk 1).getD i 0 < 1000000000 ∧ (tk 2).getD i 0 < 1000000000 ∧ ((tk 0).getD i 0 = 256 → 1000 ∣ (tk 2).getD i 0)
theorem tG_nil : tG (fun _ => []) := ⟨tL_nil, fun i => ⟨by show 0 < 1000; decide, by show 0 < 1000000000; decide, by show 0 < 1000000000; decide, fun _ => Nat.dvd_zero 1000⟩⟩
theorem tkAdd_g2 {tk : Nat → List Nat} (hl : tL tk) (k s w j : Nat) : (tkAdd tk k s w 2).getD j 0 = if j = (tk 0).length then w else (tk 2).getD j 0 := by
  rw [← hl.2]
  exact getD_snoc (tk 2) w j
theorem tG_add {tk : Nat → List Nat} (h : tG tk) {k s w : Nat} (hk : k < 1000) (hs : s < 1000000000) (hw : w < 1000000000) (hd : k = 256 → 1000 ∣ w) : tG (tkAdd tk k s w) := by
  refine ⟨tL_add h.1 _ _ _, fun i => ?_⟩
  rw [tkAdd_g0, tkAdd_g1 h.1, tkAdd_g2 h.1]
  by_cases q : i = (tk 0).length
  · rw [if_pos q, if_pos q, if_pos q]
    exact ⟨hk, hs, hw, hd⟩
  · rw [if_neg q, if_neg q, if_neg q]
    exact h.2 i
theorem spF_g {T : List Nat} (hB : ∀ j, T.getD j 0 < 256) (hT : T.length ≤ 16000) : ∀ (f : Nat) (tk : Nat → List Nat) (nx la : Nat), tG tk → tG (spF T f tk nx la).1
  | 0, tk, nx, la, h => h
  | f + 1, tk, nx, la, h => by
    show tG (if _ then _ else _ : (Nat → List Nat) × Nat × Nat).1
    have ht := tkTok_g hB hT nx
    split
    · exact spF_g hB hT f _ _ _ (tG_add h ht.1 ht.2.1 ht.2.2.1 ht.2.2.2)
    · exact h
theorem tkAll_g3 {T : List Nat} (hB : ∀ j, T.getD j 0 < 256) (hT : T.length ≤ 16000) : tG (tkAll T) := by
  have h := spF_g hB hT 8001 (fun _ => []) 0 10 tG_nil
  unfold tkAll
  split
  · unfold tkEnd
    split
    · exact tG_add h (by decide) (by decide) (by decide) (fun z => absurd z (by decide))
    · exact tG_add h (by decide) (by omega) (by decide) (fun z => absurd z (by decide))
  · exact h
/-- the number behind a word is a whole number -/
theorem qRest_num4 {tk : Nat → List Nat} (hE : tE tk) {N b : Nat} (h : (qRest tk N b).1 = true) (hc : ¬ lnK tk b = 0) : rJ tk N b + 1 ≤ (tk 0).length ∧ (tk 0).getD (rJ tk N b) 0 = 256 := by
  have hk := lnK_i tk b
  by_cases c : (tk 0).getD b 0 = 304
  · have hr : rJ tk N b = b + 1 := if_neg (by omega)
    have h2 : qRest tk N b = qTake tk 256 (b + 1) := by
      unfold qRest
      rw [if_neg (by omega), if_neg (by omega), if_neg (by omega), if_neg (by omega), if_pos c]
    rw [h2] at h
    rw [hr]
    have h3 := (qTake_ok h).1
    have := hE.lt (a := b + 1) (by omega) (by omega)
    exact ⟨by omega, h3⟩
  · exact qRest_num hE h (by omega)
