/-! reading: the class's answer held against the reference's result -/
theorem rd_J {cI cJ : ClassId} {h Pt P1 P2 fed al an sp : Nat} {T : List Nat} {F1 F2 : Nat → List Int32} {hasT : Bool} {fp : Int} {vs : Nat → Int} {w : va_W} (hw : jVB cI cJ h Pt P1 P2 T F1 F2 hasT fed fp vs al an sp w) {v : Option Value} {u : va_W} {k n : Nat}
    (hq : ∃ Pt2 P12 P22 : Nat, (((rAll T).1 = false ∧ v = some (.int (iI (-1))) ∧ jVB cI cJ h Pt2 P12 P22 [] F1 (rAll T).2.2 hasT fed (((tkAll T 1).getD (rAll T).2.1 0 : Nat) : Int) vs al an sp u) ∨ ((rAll T).1 = true ∧ ∃ (ks lp np : List Nat) (lb nu ts : List Int), lkOf (rAll T).2.2 ks lp np lb nu ts ∧ ((¬ (lkJoin ((rAll T).2.2 1).length ks lp np lb nu ts).1 = -1 ∧ v = some (.int (iI (-2))) ∧ jVB cI cJ h Pt2 P12 P22 [] F1 (va_up (rAll T).2.2 7 ((lkJoin ((rAll T).2.2 1).length ks lp np lb nu ts).2.map iI)) hasT fed (lkJoin ((rAll T).2.2 1).length ks lp np lb nu ts).1 vs al an sp u) ∨ ((lkJoin ((rAll T).2.2 1).length ks lp np lb nu ts).1 = -1 ∧ v = some (.int (nI ((rAll T).2.2 1).length)) ∧ jVB cI cJ h Pt2 P12 P22 [] (va_up (rAll T).2.2 7 ((lkJoin ((rAll T).2.2 1).length ks lp np lb nu ts).2.map iI)) F1 true fed (-1) vs al an sp u)))) ∧ k + (Pt + P1 + P2) ≤ Pt2 + P12 + P22 ∧ n + 128 * (Pt + P1 + P2) ≤ 128 * (Pt2 + P12 + P22))
    (lb pa jm : Nat → Int) (so op fi : Nat → Nat) :
    ∃ v1 : Int32, v = some (.int v1) ∧ ∃ Pt2 P12 P22 : Nat, k + (Pt + P1 + P2) ≤ Pt2 + P12 + P22 ∧ n + 128 * (Pt + P1 + P2) ≤ 128 * (Pt2 + P12 + P22) ∧ Pt2 + P12 + P22 ≤ 10000 ∧
      ((v1 = iI (-1) ∧ ∃ (pl : Int) (F9 : Nat → List Int32), (((mRd T 32008 lb pa jm so op fi).1 = false ∧ pl = ((min (mRd T 32008 lb pa jm so op fi).2.1 8000 : Nat) : Int)) ∨ ((mRd T 32008 lb pa jm so op fi).1 = true ∧ 8000 < T.length ∧ pl = ((min 8000 8000 : Nat) : Int))) ∧ jVB cI cJ h Pt2 P12 P22 [] F1 F9 hasT fed pl vs al an sp u) ∨
      ((mRd T 32008 lb pa jm so op fi).1 = true ∧ T.length ≤ 8000 ∧ 0 ≤ bAll (mRd T 32008 lb pa jm so op fi).2.2.1 (mRd T 32008 lb pa jm so op fi).2.2.2.1 (mRd T 32008 lb pa jm so op fi).2.2.2.2.1 ∧ v1 = iI (-2) ∧ ∃ F9 : Nat → List Int32, jVB cI cJ h Pt2 P12 P22 [] F1 F9 hasT fed (bAll (mRd T 32008 lb pa jm so op fi).2.2.1 (mRd T 32008 lb pa jm so op fi).2.2.2.1 (mRd T 32008 lb pa jm so op fi).2.2.2.2.1) vs al an sp u) ∨
      ((mRd T 32008 lb pa jm so op fi).1 = true ∧ T.length ≤ 8000 ∧ bAll (mRd T 32008 lb pa jm so op fi).2.2.1 (mRd T 32008 lb pa jm so op fi).2.2.2.1 (mRd T 32008 lb pa jm so op fi).2.2.2.2.1 < 0 ∧ v1 = nI (mRd T 32008 lb pa jm so op fi).2.2.2.1 ∧ ∃ F9 F8 : Nat → List Int32, jVB cI cJ h Pt2 P12 P22 [] F9 F8 true fed (-1) vs al an sp u ∧ jUse 32008 (mRd T 32008 lb pa jm so op fi).2.2.1 (mRd T 32008 lb pa jm so op fi).2.2.2.1 (mRd T 32008 lb pa jm so op fi).2.2.2.2.2 (mRd T 32008 lb pa jm so op fi).2.2.2.2.1.2.2.2.1 (mRd T 32008 lb pa jm so op fi).2.2.2.2.1.1 (mRd T 32008 lb pa jm so op fi).2.2.2.2.1.2.1 (mRd T 32008 lb pa jm so op fi).2.2.2.2.1.2.2.1 F9)) := by
  have hb := hw.b
  obtain ⟨Pt2, P12, P22, hc, hp1, hp2⟩ := hq
  have hU := fun hlen => read_U hb.2.2.2.2.1 hb.2.2.2.1 (N := 32008) (by decide) lb pa jm so op fi (R := mRd T 32008 lb pa jm so op fi) rfl hlen
  rcases hc with ⟨a1, a2, a3⟩ | ⟨a1, ks, lp, np, lb2, nu, ts, ho, hc⟩
  · refine ⟨_, a2, Pt2, P12, P22, hp1, hp2, by have := a3.b; omega, Or.inl ⟨rfl, _, _, ?_, a3⟩⟩
    rcases hU a3.b.2.2.2.2.2.2.2 with ⟨-, h2⟩ | ⟨h1, -⟩
    · rcases h2 with ⟨h2, h3⟩ | ⟨h2, h3, h4⟩
      · exact Or.inl ⟨h2, by rw [h3]⟩
      · exact Or.inr ⟨h2, h3, by rw [h4]; rfl⟩
    · rw [a1] at h1
      exact absurd h1 Bool.false_ne_true
  · have hnn : ∀ j, lp.getD j 0 < 1000000000 := jgetL (by decide) ho.2.2.2.2.2.2.2.1
    have hnp : ∀ j, np.getD j 0 < 1000000000 := jgetL (by decide) ho.2.2.2.2.2.2.2.2.1
    have hjb := lkJoin_b ((rAll T).2.2 1).length ks lp np lb2 nu ts hnn hnp
    rcases hc with ⟨b1, b2, b3⟩ | ⟨b1, b2, b3⟩
    · rcases hU (show ((rAll T).2.2 0).length ≤ 8000 from b3.b.2.2.2.2.2.2.2) with ⟨h1, -⟩ | ⟨-, h2, h3, h4, h5, h6⟩
      · rw [a1] at h1
        exact absurd h1.symm Bool.false_ne_true
      · have h7 := (h6 ks lp np lb2 nu ts ho).1
        refine ⟨_, b2, Pt2, P12, P22, hp1, hp2, by have := b3.b; omega, Or.inr (Or.inl ⟨h2, h3, by omega, rfl, va_up (rAll T).2.2 7 ((lkJoin ((rAll T).2.2 1).length ks lp np lb2 nu ts).2.map iI), ?_⟩)⟩
        rw [← h7]
        exact b3
    · rcases hU (show ((rAll T).2.2 0).length ≤ 8000 from b3.b.2.2.2.2.2.2.1) with ⟨h1, -⟩ | ⟨-, h2, h3, h4, h5, h6⟩
      · rw [a1] at h1
        exact absurd h1.symm Bool.false_ne_true
      · have h7 := h6 ks lp np lb2 nu ts ho
        exact ⟨_, b2, Pt2, P12, P22, hp1, hp2, by have := b3.b; omega, Or.inr (Or.inr ⟨h2, h3, by omega, by rw [h4], _, _, b3, h7.2 b1⟩)⟩
