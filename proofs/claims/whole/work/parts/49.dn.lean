/-! a line done: the class's machine and the reference -/
theorem dn_line {tk : Nat → List Nat} (hE : tE tk) (hL : (tk 0).length ≤ 8001) {N : Nat} (hN : (tk 0).length ≤ N) {vs : Nat → Int} (hvs : ∀ i, i < 200 → vOK (vs i)) (hB : ∀ i, (tk 2).getD i 0 < 1000000000) {a : Nat} (hb : lnB tk a + 1 ≤ (tk 0).length) (hok : (qRest tk N (lnB tk a)).1 = true) {ln j : Nat} {lb pa jm : Nat → Int} {ks ts : List Nat}
    (hk : ks.getD j 0 = lnK tk (lnB tk a)) (hg : lnK tk (lnB tk a) = 300 ∨ lnK tk (lnB tk a) = 301 → ((ts.getD j 0 : Nat) : Int) = lo lb ((wj tk jm j : Nat) : Int) ln) (hw : lnK tk (lnB tk a) = 302 → ((ts.getD j 0 : Nat) : Int) = pa j + 1) (he : lnK tk (lnB tk a) = 304 → ((ts.getD j 0 : Nat) : Int) = pa j) :
    (eSeg (lnCode tk a) (vs, [], 0)).2.2 = (dnF tk N ln lb pa jm vs j (lnB tk a)).1 ∧ (eSeg (lnCode tk a) (vs, [], 0)).1 = (dnF tk N ln lb pa jm vs j (lnB tk a)).2.1 ∧ ((dnF tk N ln lb pa jm vs j (lnB tk a)).1 = 0 → eNx ks ts j ((eSeg (lnCode tk a) (vs, [], 0)).2.1.headD 0) = (dnF tk N ln lb pa jm vs j (lnB tk a)).2.2.toNat) := by
  unfold lnCode
  generalize lnB tk a = b at *
  have hpq := pq_rst hE hL hN b [] hb
  by_cases c1 : (tk 0).getD b 0 = 35
  · have hl := hE.lt (a := b) (by omega) (by omega)
    have hk0 : lnK tk b = 0 := lnK_n (by omega)
    have e1 : qRest tk N b = qThen (qThen (qPl tk (qBra tk N 20) (b + 1)) (qTake tk 61)) (qSum tk N 20) := by
      unfold qRest
      rw [if_pos c1, qPlc_y c1]
    rw [e1] at hok
    obtain ⟨k1, k2, -⟩ := qThen_ok hok
    obtain ⟨k3, k4, k5⟩ := qThen_ok k1
    have ht := qTake_ok k4
    rw [k5, ht.2] at k2
    have e2 : pRst tk b [] = pThen (pThen (pThen (pThen (pPl tk (pBra tk 20) (b + 1) []) (pWr 3)) (pTake tk 61)) (pSeq tk jnP (pSeq tk jnF (pFac tk 20)))) (pWr 4) := if_pos c1
    have hp0 := pq_pl (pq_bra hE hL hN 20) (b + 1) [] (by omega)
    have hqb := qb_pl hE (qb_bra hE N 20) (b + 1) (by omega)
    have hw3 := wr_1 (x := pPl tk (pBra tk 20) (b + 1) []) 3
    have h01 : (pPl tk (pBra tk 20) (b + 1) []).1 = true := by rw [hp0.1]; exact k3
    have eZ : pThen (pThen (pPl tk (pBra tk 20) (b + 1) []) (pWr 3)) (pTake tk 61) = (true, (qPl tk (qBra tk N 20) (b + 1)).2 + 1, (pPl tk (pBra tk 20) (b + 1) []).2.2 ++ [-((3 : Nat) : Int)]) := by
      have h3 := cod_wr (x := pPl tk (pBra tk 20) (b + 1) []) 3 h01
      generalize pThen (pPl tk (pBra tk 20) (b + 1) []) (pWr 3) = Y at hw3 h3
      obtain ⟨yb, yi, yc⟩ := Y
      dsimp only at hw3 h3
      rw [hw3.1, h01, hw3.2, hp0.2, h3]
      exact if_pos ht.1
    have hsum := pq_sum hE hL hN 20 ((qPl tk (qBra tk N 20) (b + 1)).2 + 1) [] (by have := hE.lt (a := (qPl tk (qBra tk N 20) (b + 1)).2) (by omega) (by omega); omega)
    have eY := cod_then (x := (true, (qPl tk (qBra tk N 20) (b + 1)).2 + 1, (pPl tk (pBra tk 20) (b + 1) []).2.2 ++ [-((3 : Nat) : Int)])) (uni_sum tk 20) rfl
    rw [e2, eZ, cod_wr 4 (by show (pSeq tk jnP (pSeq tk jnF (pFac tk 20)) ((qPl tk (qBra tk N 20) (b + 1)).2 + 1) _).1 = true; rw [uni_sum tk 20 _ _]; show (pSeq tk jnP (pSeq tk jnF (pFac tk 20)) ((qPl tk (qBra tk N 20) (b + 1)).2 + 1) []).1 = true; rw [hsum.1]; exact k2), eY, eSeg_app]
    dsimp only
    have hv1 : eVw vs ((pPl tk (pBra tk 20) (b + 1) []).2.2 ++ [-((3 : Nat) : Int)]) [] [] (xVa tk N vs 20 b) := eVw_then (f := xCk) (ev_pn (by omega) (ev_fac hE hL hN vs 20).2 (by omega) k3 (by show 0 + (1 + 3 * 20) ≤ 80; omega)) (fun _ => eVw_chk (by decide) _)
    have hv2 := eVw_then (f := fun _ => xSum tk N vs 20 ((qVa tk N 20 b).2 + 1)) (st2 := [(xVa tk N vs 20 b).2]) hv1 (fun _ => ev_sum hE hL hN vs 20 _ (by have := hE.lt (a := (qPl tk (qBra tk N 20) (b + 1)).2) (by omega) (by omega); show (qPl tk (qBra tk N 20) (b + 1)).2 + 1 + 1 ≤ _; omega) k2 [(xVa tk N vs 20 b).2] (by show 1 + _ ≤ 80; omega))
    have eD : dnF tk N ln lb pa jm vs j b = (if (xVa tk N vs 20 b).1 = 0 then (if (xSum tk N vs 20 ((qVa tk N 20 b).2 + 1)).1 = 0 then (0, va_up vs (xVa tk N vs 20 b).2.toNat (xSum tk N vs 20 ((qVa tk N 20 b).2 + 1)).2, ((j + 1 : Nat) : Int)) else ((xSum tk N vs 20 ((qVa tk N 20 b).2 + 1)).1, vs, 0)) else ((xVa tk N vs 20 b).1, vs, 0)) := if_pos c1
    rw [eD]
    have hidx := xVa_b (tk := tk) (N := N) (vs := vs) (r := 20) (a := b)
    have hval := xv_sum N hB hvs 20 ((qVa tk N 20 b).2 + 1)
    have eQ : (qVa tk N 20 b).2 = (qPl tk (qBra tk N 20) (b + 1)).2 := rfl
    rw [eQ] at hv2 hval ⊢
    generalize xSum tk N vs 20 ((qPl tk (qBra tk N 20) (b + 1)).2 + 1) = s at *
    generalize xVa tk N vs 20 b = v at *
    obtain ⟨va, vv⟩ := v
    obtain ⟨sa, sv⟩ := s
    dsimp only at *
    by_cases q1 : va = 0
    · subst q1
      rw [xThen_0] at hv2
      by_cases q2 : sa = 0
      · subst q2
        have h5 := hv2.1 rfl
        rw [h5, if_pos rfl, if_pos rfl]
        have hb2 := hidx rfl
        have e5 : eSeg [-((4 : Nat) : Int)] (vs, [sv, vv], 0) = (mSet vs (vv.bmod 4294967296) sv, [], 0) := by
          rw [eSeg_1, eEnt_neg (by decide)]
          rfl
        have e6 : vv.bmod 4294967296 = vv := by
          rw [Int.bmod_def]
          omega
        have e7 : vTG sv = false := by
          have := hval rfl
          unfold vOK at this
          unfold vTG
          exact decide_eq_false (by omega)
        rw [e5, e6, show mSet vs vv sv = va_up vs vv.toNat sv from if_pos ⟨decide_eq_true hb2, e7⟩]
        refine ⟨rfl, rfl, fun _ => ?_⟩
        unfold eNx
        rw [hk, hk0]
        rfl
      · have h5 := hv2.2 q2
        rw [if_pos rfl, if_neg q2, eSeg_al (by rw [h5.1]; exact q2)]
        exact ⟨h5.1, h5.2, fun h => absurd h q2⟩
    · rw [xThen_n q1] at hv2
      have h5 := hv2.2 q1
      rw [if_neg q1, eSeg_al (by rw [h5.1]; exact q1)]
      exact ⟨h5.1, h5.2, fun h => absurd h q1⟩
  · by_cases c2 : (tk 0).getD b 0 = 300
    · have hl := hE.lt (a := b) (by omega) (by omega)
      have hk2 : lnK tk b = 300 := lnK_y c2 (by decide)
      have e1 : qRest tk N b = qThen (qThen (qBra tk N 20 (b + 1)) (qTake tk 301)) (qTake tk 256) := by
        unfold qRest
        rw [if_neg c1, if_pos c2]
      rw [e1] at hok
      obtain ⟨k1, k2, -⟩ := qThen_ok hok
      obtain ⟨k3, k4, k5⟩ := qThen_ok k1
      have e2 : pRst tk b [] = pThen (pThen (pBra tk 20 (b + 1) []) (pTake tk 301)) (pTake tk 256) := by
        unfold pRst
        rw [if_neg c1, if_pos c2]
      rw [e2, (pTake_le _).1, (pTake_le _).1]
      have hv := (ev_fac hE hL hN vs 20).2 (b + 1) (by omega) k3 [] (by show 0 + (1 + 3 * 20) ≤ 80; omega)
      have eD : dnF tk N ln lb pa jm vs j b = (if (xBra tk N vs 20 (b + 1)).1 = 0 then (0, vs, if (xBra tk N vs 20 (b + 1)).2 = 0 then ((j + 1 : Nat) : Int) else lo lb ((wj tk jm j : Nat) : Int) ln) else ((xBra tk N vs 20 (b + 1)).1, vs, 0)) := by
        unfold dnF
        rw [if_neg c1, if_pos c2]
      rw [eD]
      generalize xBra tk N vs 20 (b + 1) = v at *
      obtain ⟨va, vv⟩ := v
      dsimp only at *
      by_cases q1 : va = 0
      · subst q1
        have h5 := hv.1 rfl
        rw [h5, if_pos rfl]
        refine ⟨rfl, rfl, fun _ => ?_⟩
        unfold eNx
        rw [hk, hk2, if_neg (by decide), if_pos rfl]
        show (if vv = 0 then _ else _) = (if vv = 0 then _ else _ : Int).toNat
        split
        · rfl
        · have := hg (Or.inl hk2); omega
      · have h5 := hv.2 q1
        rw [if_neg q1]
        exact ⟨h5.1, h5.2, fun h => absurd h q1⟩
    · by_cases c3 : (tk 0).getD b 0 = 302
      · have hl := hE.lt (a := b) (by omega) (by omega)
        have hk2 : lnK tk b = 302 := lnK_y c3 (by decide)
        have e1 : qRest tk N b = qThen (qThen (qBra tk N 20 (b + 1)) (qTake tk 303)) (qTake tk 256) := by
          unfold qRest
          rw [if_neg c1, if_neg c2, if_neg (by omega), if_pos c3]
        rw [e1] at hok
        obtain ⟨k1, k2, -⟩ := qThen_ok hok
        obtain ⟨k3, k4, k5⟩ := qThen_ok k1
        have e2 : pRst tk b [] = pThen (pThen (pBra tk 20 (b + 1) []) (pTake tk 303)) (pTake tk 256) := by
          unfold pRst
          rw [if_neg c1, if_neg c2, if_pos c3]
        rw [e2, (pTake_le _).1, (pTake_le _).1]
        have hv := (ev_fac hE hL hN vs 20).2 (b + 1) (by omega) k3 [] (by show 0 + (1 + 3 * 20) ≤ 80; omega)
        have eD : dnF tk N ln lb pa jm vs j b = (if (xBra tk N vs 20 (b + 1)).1 = 0 then (0, vs, if (xBra tk N vs 20 (b + 1)).2 = 0 then pa j + 1 else ((j + 1 : Nat) : Int)) else ((xBra tk N vs 20 (b + 1)).1, vs, 0)) := by
          unfold dnF
          rw [if_neg c1, if_neg c2, if_neg (by omega), if_pos c3]
        rw [eD]
        generalize xBra tk N vs 20 (b + 1) = v at *
        obtain ⟨va, vv⟩ := v
        dsimp only at *
        by_cases q1 : va = 0
        · subst q1
          have h5 := hv.1 rfl
          rw [h5, if_pos rfl]
          refine ⟨rfl, rfl, fun _ => ?_⟩
          unfold eNx
          rw [hk, hk2, if_neg (by decide), if_neg (by decide), if_pos rfl]
          show (if vv = 0 then _ else _) = (if vv = 0 then _ else _ : Int).toNat
          split
          · have := hw hk2; omega
          · rfl
        · have h5 := hv.2 q1
          rw [if_neg q1]
          exact ⟨h5.1, h5.2, fun h => absurd h q1⟩
      · have hn9 : ¬ ((tk 0).getD b 0 = 35) := c1
        have eC : (pRst tk b []).2.2 = [] := by
          unfold pRst
          rw [if_neg c1, if_neg c2, if_neg c3]
          split
          · unfold pTake
            split <;> rfl
          · rfl
        rw [eC]
        have eS : eSeg [] (vs, [], 0) = (vs, [], 0) := rfl
        rw [eS]
        by_cases c4 : (tk 0).getD b 0 = 301
        · have hk2 : lnK tk b = 301 := lnK_y c4 (by decide)
          have eD : dnF tk N ln lb pa jm vs j b = (0, vs, lo lb ((wj tk jm j : Nat) : Int) ln) := by
            unfold dnF
            rw [if_neg c1, if_neg c2, if_pos c4]
          rw [eD]
          refine ⟨rfl, rfl, fun _ => ?_⟩
          unfold eNx
          rw [hk, hk2, if_pos (Or.inl rfl)]
          have := hg (Or.inr hk2)
          dsimp only
          omega
        · by_cases c5 : (tk 0).getD b 0 = 304
          · have hk2 : lnK tk b = 304 := lnK_y c5 (by decide)
            have eD : dnF tk N ln lb pa jm vs j b = (0, vs, pa j) := by
              unfold dnF
              rw [if_neg c1, if_neg c2, if_neg c4, if_neg c3, if_pos c5]
            rw [eD]
            refine ⟨rfl, rfl, fun _ => ?_⟩
            unfold eNx
            rw [hk, hk2, if_pos (Or.inr rfl)]
            have := he hk2
            dsimp only
            omega
          · have hk2 : lnK tk b = 0 := lnK_n (by omega)
            have eD : dnF tk N ln lb pa jm vs j b = (0, vs, ((j + 1 : Nat) : Int)) := by
              unfold dnF
              rw [if_neg c1, if_neg c2, if_neg c4, if_neg c3, if_neg c5]
            rw [eD]
            refine ⟨rfl, rfl, fun _ => ?_⟩
            unfold eNx
            rw [hk, hk2]
            rfl
