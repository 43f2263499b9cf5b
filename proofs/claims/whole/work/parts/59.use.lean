/-! a text read without fault: what class and reference then run -/
theorem clo_rst {tk : Nat → List Nat} (hb : ∀ i, i < 3 → ∀ j, (tk i).getD j 0 < 1000000000) : Clo (pRst tk) := fun b => clo_if (clo_then (clo_then (clo_then (clo_then (clo_pl hb (clo_bra hb 20) (b + 1)) (clo_wr (by decide))) (clo_take tk 61)) (clo_sum hb 20)) (clo_wr (by decide))) (clo_if (clo_then (clo_then (clo_bra hb 20 (b + 1)) (clo_take tk 301)) (clo_take tk 256)) (clo_if (clo_then (clo_then (clo_bra hb 20 (b + 1)) (clo_take tk 303)) (clo_take tk 256)) (clo_if (clo_take tk 256 (b + 1)) (clo_id true b))))
theorem eB_cdA {tk : Nat → List Nat} (hb : ∀ i, i < 3 → ∀ j, (tk i).getD j 0 < 1000000000) (fi : Nat → Nat) : ∀ n : Nat, eB (cdA tk fi n)
  | 0 => fun x hx => absurd hx List.not_mem_nil
  | n + 1 => fun x hx => by
    rcases List.mem_append.mp (show x ∈ cdA tk fi n ++ lnCode tk (fi n) from hx) with q | q
    · exact eB_cdA hb fi n x q
    · exact clo_rst hb (lnB tk (fi n)) [] (fun y hy => absurd hy List.not_mem_nil) x q
theorem cdA_le (tk : Nat → List Nat) (fi : Nat → Nat) {m n : Nat} (h : m ≤ n) : (cdA tk fi m).length ≤ (cdA tk fi n).length := by
  obtain ⟨r, hr⟩ := cdA_pre tk fi m (n - m)
  rw [show m + (n - m) = n by omega] at hr
  rw [hr, List.length_append]
  omega
theorem lsA_mem (tk : Nat → List Nat) (N : Nat) (fi : Nat → Nat) : ∀ (n : Nat) (x : LnR), x ∈ lsA tk N fi n → ∃ j, j < n ∧ x = lnOf tk N (fi j) (cdA tk fi j).length
  | 0, x, hx => absurd hx List.not_mem_nil
  | n + 1, x, hx => by
    rcases List.mem_append.mp (show x ∈ lsA tk N fi n ++ [lnOf tk N (fi n) (cdA tk fi n).length] from hx) with q | q
    · obtain ⟨j, hj, e⟩ := lsA_mem tk N fi n x q
      exact ⟨j, by omega, e⟩
    · exact ⟨n, by omega, List.mem_singleton.mp q⟩
theorem lo_lt (lb : Nat → Int) (x : Int) (n : Nat) : lo lb x n < (n : Int) ∨ n = 0 := by
  have := loF_b lb x n 0
  unfold lo
  omega
/-- the text in use: the reference's rows and the class's program -/
def jUse (N : Nat) (tk : Nat → List Nat) (n : Nat) (fi so : Nat → Nat) (lb pa jm : Nat → Int) (F : Nat → List Int32) : Prop :=
  tE tk ∧ (tk 0).length ≤ N ∧ n ≤ 16001 ∧ (∀ i, (tk 2).getD i 0 < 1000000000) ∧ rOK tk N n fi so lb pa jm ∧
  ∃ (co : List Int) (ss ks ts : List Nat), jPV F co ss ks ts ∧ (∀ j, j < 8001 → eSt co ss (j + 1) ≤ co.length) ∧ ∀ (f : Nat) (vs : Nat → Int), (∀ i, i < 200 → vOK (vs i)) → eGo co ss ks ts f 0 vs 0 = rnF tk N n lb pa jm fi f 0 vs 0
theorem use_A {A : Nat → List Nat} {N n : Nat} {fi : Nat → Nat} (hG : tG A) (hE : tE A) (hL : (A 0).length ≤ 8001) (hN : (A 0).length ≤ N) (hn : n ≤ 8000) (hq : ∀ x, x < n → (qLine A N (fi x)).1 = true ∧ fi x + 1 ≤ (A 0).length)
    (lb0 pa0 jm0 : Nat → Int) (so0 op0 : Nat → Nat) {Z : LSt} (hZ : Z = sA A N fi (lb0, pa0, jm0, so0, op0, 0, -1) n) (hI : lInv A n Z) (hlen : (cdA A fi n).length ≤ 8000)
    {ks lp np : List Nat} {lb nu ts : List Int} (ho : lkOf (rowsF (cdA A fi n) (lsA A N fi n)) ks lp np lb nu ts) :
    (lkJoin n ks lp np lb nu ts).1 = bAll A n Z ∧ ((lkJoin n ks lp np lb nu ts).1 = -1 → jUse N A n fi Z.2.2.2.1 Z.1 Z.2.1 Z.2.2.1 (va_up (rowsF (cdA A fi n) (lsA A N fi n)) 7 ((lkJoin n ks lp np lb nu ts).2.map iI))) := by
  have hB3 : tB3 A := ⟨by omega, fun i => ⟨(hG.2 i).1, (hG.2 i).2.1, (hG.2 i).2.2.1⟩⟩
  have hb3 : ∀ i, i < 3 → ∀ j, (A i).getD j 0 < 1000000000 := fun i hi j => by
    have := hG.2 j
    rcases (show i = 0 ∨ i = 1 ∨ i = 2 by omega) with rfl | rfl | rfl
    · omega
    · exact this.2.1
    · exact this.2.2.1
  obtain ⟨e1, e2, e3, e4, e5, e6⟩ := lk_rows (lsA_b hB3 N fi n) ho
  have hc : cL A N fi n ks lp np lb nu := lsA_cL ⟨e1, e2, e3, e4, e5⟩
  have hrest : ∀ x, x < n → (qRest A N (lnB A (fi x))).1 = true := fun x hx => (qLine_rest (hq x hx).1).1
  have hlnB : ∀ x, x < n → lnB A (fi x) + 1 ≤ (A 0).length := fun x hx => by
    have h1 := hq x hx
    have h4 := (qLine_rest h1.1).2.2.2
    unfold lnB
    split
    · rename_i z
      have := h4 z
      have := hE.lt (a := fi x + 1) (by omega) (by omega)
      omega
    · omega
  have hw : ∀ i, i < n → ¬ kA A fi i = 0 → 1000 ∣ wtA A N fi i := fun i hi hk => (hG.2 _).2.2.2 (qRest_num4 hE (hrest i hi) hk).2
  have ht : ts.length = n := by rw [e6, List.length_map, lsA_len]
  have ht0 : ∀ i, ts.getD i 0 = 0 := fun i => by
    rw [e6, List.getD_eq_getElem?_getD, List.getElem?_map]
    cases (lsA A N fi n)[i]? <;> rfl
  have hJ := join_A hc hw hn ht ht0 lb0 pa0 jm0 so0 op0 hZ
  refine ⟨hJ.1, fun hz => ?_⟩
  obtain ⟨j1, j2⟩ := hJ.2 hz
  have hr := sA_r (A := A) (N := N) (fi := fi) (S0 := (lb0, pa0, jm0, so0, op0, 0, -1)) n
  rw [← hZ] at hr
  generalize (lkJoin n ks lp np lb nu ts).2 = ts2 at j1 j2
  have hKi := fun i => lnK_i A (lnB A (fi i))
  have hkA : ∀ i, kA A fi i = lnK A (lnB A (fi i)) := fun _ => rfl
  have hts : ∀ i, i < n → 0 ≤ ts2.getD i 0 ∧ ts2.getD i 0 ≤ 8000 := fun i hi => by
    obtain ⟨a1, a2, a3, a4⟩ := j2 i hi
    have k5 := (hKi i).2.2.2.2
    rw [← hkA] at k5
    have hlt := lo_lt Z.1 ((wj A Z.2.2.1 i : Nat) : Int) n
    rcases k5 with k | k | k | k | k
    · rw [a4 k]; omega
    · have := a1 (Or.inl k); omega
    · have := a1 (Or.inr k); omega
    · have := a2 k; omega
    · have := a3 k; omega
  have htsm : ∀ x ∈ ts2, 0 ≤ x ∧ x ≤ 8000 := fun x hx => by
    obtain ⟨i, hi, e⟩ := List.mem_iff_getElem.mp hx
    have := hts i (by omega)
    rw [List.getD_eq_getElem?_getD, List.getElem?_eq_getElem hi] at this
    rw [← e]
    exact this
  have hgN : ∀ i, i < n → (((ts2.map Int.toNat).getD i 0 : Nat) : Int) = ts2.getD i 0 := fun i hi => by
    have := hts i hi
    rw [List.getD_eq_getElem?_getD, List.getElem?_map]
    rw [List.getD_eq_getElem?_getD] at this ⊢
    rw [List.getElem?_eq_getElem (by omega)] at this ⊢
    show ((Int.toNat _ : Nat) : Int) = _
    exact Int.toNat_of_nonneg this.1
  have hR : rOK A N n fi Z.2.2.2.1 Z.1 Z.2.1 Z.2.2.1 := fun j hj => by
    obtain ⟨a1, a2, a3, a4⟩ := j2 j hj
    obtain ⟨i1, i2, i3, i4⟩ := hI.2.2 j hj
    have hs := (hr j hj).2.1
    have k1 := hKi j
    have k2 := soK_i ((A 0).getD (lnB A (fi j)) 0)
    rw [← hs] at k2
    rw [← hkA] at k1
    refine ⟨hrest j hj, hlnB j hj, hs, fun h => ?_, fun h => ?_, by omega, by omega⟩
    · have h2 := i2 (by omega)
      exact ⟨h2.1, h2.2.1, h2.2.2, (a1 (by omega)).2⟩
    · refine ⟨?_, i4.2⟩
      rcases (show kA A fi j = 302 ∨ kA A fi j = 304 by omega) with k | k
      · exact (a2 k).1
      · exact (a3 k).1
  refine ⟨hE, hN, by omega, fun i => (hG.2 i).2.2.1, hR, cdA A fi n, (lsA A N fi n).map (fun x => x.1), (lsA A N fi n).map (fun x => x.2.1), ts2.map Int.toNat, ?_, fun j hj => ?_, fun f vs hvs => ?_⟩
  · refine ⟨rfl, ?_, ?_, ?_, ?_, ?_, ?_, ?_, hlen, ?_, ?_, ?_⟩
    · show (lsA A N fi n).map (fun x => nI x.1) = _
      rw [List.map_map]
      rfl
    · show (lsA A N fi n).map (fun x => nI x.2.1) = _
      rw [List.map_map]
      rfl
    · show ts2.map iI = _
      rw [List.map_map]
      refine List.map_congr_left (fun x hx => ?_)
      have := htsm x hx
      show iI x = nI x.toNat
      rw [nI_iI, Int.toNat_of_nonneg this.1]
    · intro x hx
      have := eB_cdA hb3 fi n x hx
      omega
    · intro x hx
      obtain ⟨y, hy, rfl⟩ := List.mem_map.mp hx
      obtain ⟨j, hj, rfl⟩ := lsA_mem A N fi n y hy
      have := cdA_le A fi (Nat.le_of_lt hj)
      show (cdA A fi j).length ≤ 8000
      omega
    · intro x hx
      obtain ⟨y, hy, rfl⟩ := List.mem_map.mp hx
      obtain ⟨j, hj, rfl⟩ := lsA_mem A N fi n y hy
      have := (hKi j).2.2.2.2
      show lnK A (lnB A (fi j)) < 1000
      omega
    · intro x hx
      obtain ⟨y, hy, rfl⟩ := List.mem_map.mp hx
      have := htsm y hy
      omega
    · rw [List.length_map, lsA_len]; exact hn
    · rw [List.length_map, List.length_map]
    · rw [List.length_map, List.length_map, lsA_len]; exact j1
  · unfold eSt
    split
    · rename_i z
      rw [List.length_map, lsA_len] at z
      rw [lsA_get A N fi _ 0 n (j + 1) z]
      exact cdA_le A fi (Nat.le_of_lt z)
    · exact Nat.le_refl _
  · refine go_A hE hL hN (fun i => (hG.2 i).2.2.1) (by omega) hR (fun j hj hk => ?_) (fun j hj hk => ?_) (fun j hj hk => ?_) f 0 vs 0 hvs
    · rw [hgN j hj]
      exact ((j2 j hj).1 hk).1
    · rw [hgN j hj]
      exact ((j2 j hj).2.1 hk).2.2
    · rw [hgN j hj]
      exact ((j2 j hj).2.2.1 hk).2.2
/-- reading, both sides -/
theorem read_U {T : List Nat} (hB : ∀ j, T.getD j 0 < 256) (hT : T.length ≤ 16000) {N : Nat} (hN : 8001 ≤ N) (lb pa jm : Nat → Int) (so op fi : Nat → Nat) {R : RlR} (hR : mRd T N lb pa jm so op fi = R) (hlen : ((rAll T).2.2 0).length ≤ 8000) :
    ((rAll T).1 = false ∧ ((R.1 = false ∧ (tkAll T 1).getD (rAll T).2.1 0 = min R.2.1 8000) ∨ (R.1 = true ∧ 8000 < T.length ∧ (tkAll T 1).getD (rAll T).2.1 0 = 8000))) ∨
    ((rAll T).1 = true ∧ R.1 = true ∧ T.length ≤ 8000 ∧ ((rAll T).2.2 1).length = R.2.2.2.1 ∧ R.2.2.2.1 ≤ 8000 ∧
      ∀ (ks lp np : List Nat) (lb2 nu ts : List Int), lkOf (rAll T).2.2 ks lp np lb2 nu ts → (lkJoin ((rAll T).2.2 1).length ks lp np lb2 nu ts).1 = bAll R.2.2.1 R.2.2.2.1 R.2.2.2.2.1 ∧
        ((lkJoin ((rAll T).2.2 1).length ks lp np lb2 nu ts).1 = -1 → jUse N R.2.2.1 R.2.2.2.1 R.2.2.2.2.2 R.2.2.2.2.1.2.2.2.1 R.2.2.2.2.1.1 R.2.2.2.2.1.2.1 R.2.2.2.2.1.2.2.1 (va_up (rAll T).2.2 7 ((lkJoin ((rAll T).2.2 1).length ks lp np lb2 nu ts).2.map iI)))) := by
  have h := read_A T hN lb pa jm so op fi
  have hG := tkAll_g3 hB hT
  have ht := tkAll_t T
  rw [hR] at h
  rcases h with h | ⟨h1, h2, h3, h4, h5⟩
  · exact Or.inl h
  · right
    have hS := rlF_S hT N (T.length + 2) 0 (fun _ => []) 0 (lb, pa, jm, so, op, 0, -1) fi tL_nil (Nat.le_refl 0) (Nat.le_refl 0) (lInv_nil lb pa jm so op)
    have hm : rlF T N (T.length + 2) 0 (fun _ => []) 0 (lb, pa, jm, so, op, 0, -1) fi = R := hR
    rw [hm] at hS
    have hB3 : tB3 R.2.2.1 := by rw [← h4]; exact ⟨by omega, fun i => ⟨(hG.2 i).1, (hG.2 i).2.1, (hG.2 i).2.2.1⟩⟩
    obtain ⟨s1, -, s3, s4, s5⟩ := hS h2 hB3
    have s6 := s4 (lb, pa, jm, so, op, 0, -1) rfl
    have hn : R.2.2.2.1 ≤ 8000 := by omega
    have hl1 : ((rAll T).2.2 1).length = R.2.2.2.1 := by
      rw [h5]
      show ((lsA _ _ _ _).map _).length = _
      rw [List.length_map, lsA_len]
    refine ⟨h1, h2, h3, hl1, hn, fun ks lp np lb2 nu ts ho => ?_⟩
    rw [hl1]
    rw [h5] at ho hlen ⊢
    rw [h4] at ho hlen ⊢
    rw [h4] at hG ht
    have hlen2 : (cdA R.2.2.1 R.2.2.2.2.2 R.2.2.2.1).length ≤ 8000 := by
      have z : ((cdA R.2.2.1 R.2.2.2.2.2 R.2.2.2.1).map iI).length ≤ 8000 := hlen
      rwa [List.length_map] at z
    exact use_A hG ht.2 ht.1 (by omega) hn (fun x hx => s3 x (Nat.zero_le x) hx) lb pa jm so op s6 s5 hlen2 ho
