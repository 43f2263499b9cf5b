/-! ValueBlocks$Links: a program read as numbers: kinds ks, labels lb, their places lp, numbers nu, their places np, targets ts -/
def jLk (cI : ClassId) (h P N : Nat) (c0 c1 : List Int32) (ks lp np : List Nat) (lb nu ts : List Int) (w : va_W) : Prop := ∃ pr : Nat → List Int32, jProg cI h P pr w ∧ ((pr 1).length = N ∧ pr 0 = c0 ∧ pr 1 = c1) ∧ pr 2 = ks.map nI ∧ pr 3 = lb.map iI ∧ pr 4 = lp.map nI ∧ pr 5 = nu.map iI ∧ pr 6 = np.map nI ∧ pr 7 = ts.map iI ∧ (∀ x ∈ ks, x < 1000000000) ∧ (∀ x ∈ lp, x < 1000000000) ∧ (∀ x ∈ np, x < 1000000000) ∧ (∀ x ∈ lb, -1 ≤ x ∧ x ≤ 1000000000) ∧ (∀ x ∈ nu, -1 ≤ x ∧ x ≤ 1000000000) ∧ (∀ x ∈ ts, -1 ≤ x ∧ x ≤ 8001)
theorem jLk.hd {cI : ClassId} {h P N : Nat} {c0 c1 : List Int32} {ks lp np : List Nat} {lb nu ts : List Int} {w : va_W} (hw : jLk cI h P N c0 c1 ks lp np lb nu ts w) : ∃ (i : Nat) (fs : List Value), w[i]? = some (h, .inr (2, fs)) := by
  obtain ⟨pr, hp, -⟩ := hw
  exact hp.hd
theorem jgetZ {xs : List Int} {a b : Int} (h0 : a ≤ 0 ∧ 0 ≤ b) (h : ∀ x ∈ xs, a ≤ x ∧ x ≤ b) (j : Nat) : a ≤ xs.getD j 0 ∧ xs.getD j 0 ≤ b := by
  rw [List.getD_eq_getElem?_getD]
  cases e : xs[j]? with
  | none => exact h0
  | some x => exact h x (List.mem_of_getElem? e)
theorem jLk.b {cI : ClassId} {h P N : Nat} {c0 c1 : List Int32} {ks lp np : List Nat} {lb nu ts : List Int} {w : va_W} (hw : jLk cI h P N c0 c1 ks lp np lb nu ts w) : N ≤ 8000 ∧ (∀ j, ks.getD j 0 < 1000000000) ∧ (∀ j, lp.getD j 0 < 1000000000) ∧ (∀ j, np.getD j 0 < 1000000000) ∧ (∀ j, -1 ≤ lb.getD j 0 ∧ lb.getD j 0 ≤ 1000000000) ∧ (∀ j, -1 ≤ nu.getD j 0 ∧ nu.getD j 0 ≤ 1000000000) ∧ (∀ j, -1 ≤ ts.getD j 0 ∧ ts.getD j 0 ≤ 8001) := by
  obtain ⟨pr, hp, hN, h2, h3, h4, h5, h6, h7, b2, b4, b6, b3, b5, b7⟩ := hw
  have := hp.len.1 1 (by decide)
  have hN := hN.1
  exact ⟨by omega, jgetL (by decide) b2, jgetL (by decide) b4, jgetL (by decide) b6, jgetZ (by decide) b3, jgetZ (by decide) b5, jgetZ (by decide) b7⟩
theorem iI_inj {a b : Int} (h1 : -2147483648 ≤ a ∧ a < 2147483648) (h2 : -2147483648 ≤ b ∧ b < 2147483648) (h : iI a = iI b) : a = b := (iI_eq h1.1 h1.2 h2.1 h2.2).mp h
/-- the first place below b that holds x; b where none does -/
def lkF (lb : List Int) (x : Int) (b : Nat) : Nat → Nat → Nat
  | 0, _ => b
  | f + 1, j => if b ≤ j then b else if lb.getD j 0 = x then j else lkF lb x b f (j + 1)
def lkFirst (lb : List Int) (x : Int) (b : Nat) : Nat := lkF lb x b b 0
theorem lkF_eq {lb : List Int} {x : Int} {b r : Nat} (h1 : r ≤ b) (h2 : ∀ j, j < r → ¬ lb.getD j 0 = x) (h3 : r < b → lb.getD r 0 = x) : ∀ (f j : Nat), j ≤ r → b - j ≤ f → lkF lb x b f j = r
  | 0, j, a, c => by show b = r; omega
  | f + 1, j, a, c => by
    show (if _ then _ else _) = _
    by_cases q : b ≤ j
    · rw [if_pos q]; omega
    · rw [if_neg q]
      rcases Nat.eq_or_lt_of_le a with e | e
      · subst e; exact if_pos (h3 (by omega))
      · rw [if_neg (h2 j e)]
        exact lkF_eq h1 h2 h3 f (j + 1) e (by omega)
def lkRep (lb : List Int) (j : Nat) : Bool := decide (¬ lb.getD j 0 = -1 ∧ lkFirst lb (lb.getD j 0) j < j)
def lkCh (nu ts : List Int) (n : Int) : Nat → Int → Bool
  | 0, _ => true
  | f + 1, o => if o = -1 then true else if nu.getD o.toNat 0 = n then false else lkCh nu ts n f (ts.getD o.toNat 0)
theorem lkCh_k (nu ts : List Int) (n : Int) (f k : Nat) : lkCh nu ts n (f + 1) (k : Int) = if nu.getD k 0 = n then false else lkCh nu ts n f (ts.getD k 0) := by
  show (if _ then _ else _) = _
  rw [if_neg (by omega)]
  rfl
def lkMay (nu ts : List Int) (j : Nat) (inn : Int) : Bool := if nu.getD j 0 < 1000 ∨ 3000 < nu.getD j 0 then false else lkCh nu ts (nu.getD j 0) 3 inn
def lkOut (np : List Nat) (ts : List Int) : Nat → Int → Int → Int
  | 0, _, p => p
  | f + 1, o, p => if o = -1 then p else lkOut np ts f (ts.getD o.toNat 0) (np.getD o.toNat 0)
theorem lkOut_k (np : List Nat) (ts : List Int) (f k : Nat) (p : Int) : lkOut np ts (f + 1) (k : Int) p = lkOut np ts f (ts.getD k 0) (np.getD k 0) := by
  show (if _ then _ else _) = _
  rw [if_neg (by omega)]
  rfl
theorem lkOut_b (np : List Nat) (ts : List Int) (hb : ∀ j, np.getD j 0 < 1000000000) : ∀ (f : Nat) (o p : Int), -1 ≤ p ∧ p < 1000000000 → -1 ≤ lkOut np ts f o p ∧ lkOut np ts f o p < 1000000000
  | 0, o, p, h => h
  | f + 1, o, p, h => by
    unfold lkOut
    split
    · exact h
    · have := hb o.toNat
      exact lkOut_b np ts hb f _ _ (by omega)
def lkJL (N : Nat) (ks lp np : List Nat) (lb nu : List Int) : Nat → Nat → Int → List Int → Int × List Int
  | 0, _, _, ts => (-1, ts)
  | f + 1, j, inn, ts => if N ≤ j then (lkOut np ts 3 inn (-1), ts) else if lkRep lb j = true then ((lp.getD j 0 : Nat), ts) else if ks.getD j 0 = 302 then (if lkMay nu ts j inn = true then lkJL N ks lp np lb nu f (j + 1) j (ts.set j inn) else ((np.getD j 0 : Nat), ts)) else if ks.getD j 0 = 304 then (if inn = -1 ∨ ¬ nu.getD inn.toNat 0 = nu.getD j 0 then ((np.getD j 0 : Nat), ts) else lkJL N ks lp np lb nu f (j + 1) (ts.getD inn.toNat 0) ((ts.set inn.toNat ((j + 1 : Nat) : Int)).set j inn)) else lkJL N ks lp np lb nu f (j + 1) inn ts
def lkJG (N : Nat) (ks np : List Nat) (lb nu : List Int) : Nat → Nat → List Int → Int × List Int
  | 0, _, ts => (-1, ts)
  | f + 1, j, ts => if N ≤ j then (-1, ts) else if ks.getD j 0 = 301 ∨ ks.getD j 0 = 300 then (if lkFirst lb (nu.getD j 0) N = N then ((np.getD j 0 : Nat), ts) else lkJG N ks np lb nu f (j + 1) (ts.set j (lkFirst lb (nu.getD j 0) N : Nat))) else lkJG N ks np lb nu f (j + 1) ts
theorem lkJL_s (N : Nat) (ks lp np : List Nat) (lb nu : List Int) (f j : Nat) (inn : Int) (ts : List Int) : lkJL N ks lp np lb nu (f + 1) j inn ts = (if N ≤ j then (lkOut np ts 3 inn (-1), ts) else if lkRep lb j = true then ((lp.getD j 0 : Nat), ts) else if ks.getD j 0 = 302 then (if lkMay nu ts j inn = true then lkJL N ks lp np lb nu f (j + 1) j (ts.set j inn) else ((np.getD j 0 : Nat), ts)) else if ks.getD j 0 = 304 then (if inn = -1 ∨ ¬ nu.getD inn.toNat 0 = nu.getD j 0 then ((np.getD j 0 : Nat), ts) else lkJL N ks lp np lb nu f (j + 1) (ts.getD inn.toNat 0) ((ts.set inn.toNat ((j + 1 : Nat) : Int)).set j inn)) else lkJL N ks lp np lb nu f (j + 1) inn ts : Int × List Int) := rfl
theorem lkJG_s (N : Nat) (ks np : List Nat) (lb nu : List Int) (f j : Nat) (ts : List Int) : lkJG N ks np lb nu (f + 1) j ts = (if N ≤ j then (-1, ts) else if ks.getD j 0 = 301 ∨ ks.getD j 0 = 300 then (if lkFirst lb (nu.getD j 0) N = N then ((np.getD j 0 : Nat), ts) else lkJG N ks np lb nu f (j + 1) (ts.set j (lkFirst lb (nu.getD j 0) N : Nat))) else lkJG N ks np lb nu f (j + 1) ts : Int × List Int) := rfl
section LK
variable {D : va_G} {G : Nat → Nat} {cI cJ cB cZ : ClassId} {l : Launch}

theorem c_Lk_kindOf {h P N : Nat} {c0 c1 : List Int32} {ks lp np : List Nat} {lb nu ts : List Int} {w : va_W} (hw : jLk cI h P N c0 c1 ks lp np lb nu ts w) (j : Nat) (hj : j < 2147483648) : HM l yX3_kindOf wsX3_kindOf ({ frames := 1, cells := 0, slots := 0, locals := 40 } : Room) D G (jT cI cJ cB cZ) [.ref h, .int (nI j)] w (fun v u k n => v = some (.int (nI (ks.getD j 0))) ∧ u = w ∧ k = 0 ∧ n = 0) := by
  obtain ⟨pr, hp, hN, h2, h3, h4, h5, h6, h7, -⟩ := hw
  have h := c_Prog_kindOf (D := D) (G := G) (l := l) (cJ := cJ) (cB := cB) (cZ := cZ) hp j hj
  rw [h2, jget_n] at h
  exact h
theorem c_Lk_label {h P N : Nat} {c0 c1 : List Int32} {ks lp np : List Nat} {lb nu ts : List Int} {w : va_W} (hw : jLk cI h P N c0 c1 ks lp np lb nu ts w) (j : Nat) (hj : j < 2147483648) : HM l yX3_label wsX3_label ({ frames := 1, cells := 0, slots := 0, locals := 40 } : Room) D G (jT cI cJ cB cZ) [.ref h, .int (nI j)] w (fun v u k n => v = some (.int (iI (lb.getD j 0))) ∧ u = w ∧ k = 0 ∧ n = 0) := by
  obtain ⟨pr, hp, hN, h2, h3, h4, h5, h6, h7, -⟩ := hw
  have h := c_Prog_label (D := D) (G := G) (l := l) (cJ := cJ) (cB := cB) (cZ := cZ) hp j hj
  rw [h3, jget_z] at h
  exact h
theorem c_Lk_labelPlace {h P N : Nat} {c0 c1 : List Int32} {ks lp np : List Nat} {lb nu ts : List Int} {w : va_W} (hw : jLk cI h P N c0 c1 ks lp np lb nu ts w) (j : Nat) (hj : j < 2147483648) : HM l yX3_labelPlace wsX3_labelPlace ({ frames := 1, cells := 0, slots := 0, locals := 40 } : Room) D G (jT cI cJ cB cZ) [.ref h, .int (nI j)] w (fun v u k n => v = some (.int (nI (lp.getD j 0))) ∧ u = w ∧ k = 0 ∧ n = 0) := by
  obtain ⟨pr, hp, hN, h2, h3, h4, h5, h6, h7, -⟩ := hw
  have h := c_Prog_labelPlace (D := D) (G := G) (l := l) (cJ := cJ) (cB := cB) (cZ := cZ) hp j hj
  rw [h4, jget_n] at h
  exact h
theorem c_Lk_number {h P N : Nat} {c0 c1 : List Int32} {ks lp np : List Nat} {lb nu ts : List Int} {w : va_W} (hw : jLk cI h P N c0 c1 ks lp np lb nu ts w) (j : Nat) (hj : j < 2147483648) : HM l yX3_number wsX3_number ({ frames := 1, cells := 0, slots := 0, locals := 40 } : Room) D G (jT cI cJ cB cZ) [.ref h, .int (nI j)] w (fun v u k n => v = some (.int (iI (nu.getD j 0))) ∧ u = w ∧ k = 0 ∧ n = 0) := by
  obtain ⟨pr, hp, hN, h2, h3, h4, h5, h6, h7, -⟩ := hw
  have h := c_Prog_number (D := D) (G := G) (l := l) (cJ := cJ) (cB := cB) (cZ := cZ) hp j hj
  rw [h5, jget_z] at h
  exact h
theorem c_Lk_numberPlace {h P N : Nat} {c0 c1 : List Int32} {ks lp np : List Nat} {lb nu ts : List Int} {w : va_W} (hw : jLk cI h P N c0 c1 ks lp np lb nu ts w) (j : Nat) (hj : j < 2147483648) : HM l yX3_numberPlace wsX3_numberPlace ({ frames := 1, cells := 0, slots := 0, locals := 40 } : Room) D G (jT cI cJ cB cZ) [.ref h, .int (nI j)] w (fun v u k n => v = some (.int (nI (np.getD j 0))) ∧ u = w ∧ k = 0 ∧ n = 0) := by
  obtain ⟨pr, hp, hN, h2, h3, h4, h5, h6, h7, -⟩ := hw
  have h := c_Prog_numberPlace (D := D) (G := G) (l := l) (cJ := cJ) (cB := cB) (cZ := cZ) hp j hj
  rw [h6, jget_n] at h
  exact h
theorem c_Lk_target {h P N : Nat} {c0 c1 : List Int32} {ks lp np : List Nat} {lb nu ts : List Int} {w : va_W} (hw : jLk cI h P N c0 c1 ks lp np lb nu ts w) (j : Nat) (hj : j < 2147483648) : HM l yX3_target wsX3_target ({ frames := 1, cells := 0, slots := 0, locals := 40 } : Room) D G (jT cI cJ cB cZ) [.ref h, .int (nI j)] w (fun v u k n => v = some (.int (iI (ts.getD j 0))) ∧ u = w ∧ k = 0 ∧ n = 0) := by
  obtain ⟨pr, hp, hN, h2, h3, h4, h5, h6, h7, -⟩ := hw
  have h := c_Prog_target (D := D) (G := G) (l := l) (cJ := cJ) (cB := cB) (cZ := cZ) hp j hj
  rw [h7, jget_z] at h
  exact h
theorem c_Lk_size {h P N : Nat} {c0 c1 : List Int32} {ks lp np : List Nat} {lb nu ts : List Int} {w : va_W} (hw : jLk cI h P N c0 c1 ks lp np lb nu ts w) : HM l yX3_size wsX3_size ({ frames := 1, cells := 0, slots := 0, locals := 40 } : Room) D G (jT cI cJ cB cZ) [.ref h] w (fun v u k n => v = some (.int (nI N)) ∧ u = w ∧ k = 0 ∧ n = 0) := by
  obtain ⟨pr, hp, hN, -⟩ := hw
  have h := c_Prog_size (D := D) (G := G) (l := l) (cJ := cJ) (cB := cB) (cZ := cZ) hp
  rw [hN.1] at h
  exact h
theorem jHM_mono {y : MethodName} {ws : List Cond} {rm : Room} {D : va_G} {G : Nat → Nat} {tys : List (ClassId × FieldType)} {av : List Value} {w : va_W} {Qv Qw : Option Value → va_W → Nat → Nat → Prop} (h : HM l y ws rm D G tys av w Qv) (hq : ∀ v u k n, Qv v u k n → Qw v u k n) : HM l y ws rm D G tys av w Qw := by
  intro sz
  exact MetFree.mono (h sz) (fun _ _ h => h) (fun _ _ _ _ _ h => h) (fun a st oc t _ hQ => by
    obtain ⟨⟨⟨v, u, k, n, h1, h2, h3⟩, h4⟩, hL⟩ := hQ
    exact ⟨⟨⟨v, u, k, n, h1, hq v u k n h2, h3⟩, h4⟩, hL⟩)
theorem c_Lk_aim {h P N : Nat} {c0 c1 : List Int32} {ks lp np : List Nat} {lb nu ts : List Int} {w : va_W} (hw : jLk cI h P N c0 c1 ks lp np lb nu ts w) (j : Nat) (t : Int) (hj : j < 2147483648) (ht : -1 ≤ t ∧ t ≤ 8001) : HM l yX3_aim wsX3_aim ({ frames := 1, cells := 0, slots := 0, locals := 40 } : Room) D G (jT cI cJ cB cZ) [.ref h, .int (nI j), .int (iI t)] w (fun v u k n => v = none ∧ jLk cI h P N c0 c1 ks lp np lb nu (ts.set j t) u ∧ k = 0 ∧ n = 0) := by
  obtain ⟨pr, hp, hN, h2, h3, h4, h5, h6, h7, b2, b4, b6, b3, b5, b7⟩ := hw
  refine jHM_mono (c_Prog_aim (D := D) (G := G) (l := l) (cJ := cJ) (cB := cB) (cZ := cZ) hp j (iI t) hj) (fun v u k n hq => ?_)
  obtain ⟨e1, e2, e3, e4⟩ := hq
  refine ⟨e1, ⟨_, e2, hN, h2, h3, h4, h5, h6, ?_, b2, b4, b6, b3, b5, ?_⟩, e3, e4⟩
  · show (pr 7).set j (iI t) = _
    rw [h7, List.map_set]
  · intro x hx
    rcases List.mem_or_eq_of_mem_set hx with q | q
    · exact b7 x q
    · rw [q]; exact ht
theorem c_Lk_labelled {h P N : Nat} {c0 c1 : List Int32} {ks lp np : List Nat} {lb nu ts : List Int} {w : va_W} (hw : jLk cI h P N c0 c1 ks lp np lb nu ts w) (x : Int) (b : Nat) (hx : -1 ≤ x ∧ x ≤ 1000000000) (hb9 : b < 2147483647) : HM l yX3_labelled wsX3_labelled ({ frames := 1, cells := 0, slots := 0, locals := 60 } : Room) D G (jT cI cJ cB cZ) [.ref h, .int (iI x), .int (nI b)] w (fun v u k n => v = some (.int (nI (lkFirst lb x b))) ∧ u = w ∧ k = 0 ∧ n = 0) := by
  have hb := hw.b
  obtain ⟨pr, hp, hN, h2, h3, h4, h5, h6, h7, -⟩ := hw
  refine jHM_mono (c_Prog_labelled (D := D) (G := G) (l := l) (cJ := cJ) (cB := cB) (cZ := cZ) hp (iI x) b hb9) (fun v u k n hq => ?_)
  obtain ⟨r, e1, e2, e3, e4, e5, e6, e7⟩ := hq
  rw [h3] at e4 e5
  refine ⟨?_, e2, e6, e7⟩
  rw [e1, show lkFirst lb x b = r from lkF_eq e3 (fun j hj e => e4 j hj (by rw [jget_z, e])) (fun hr => by
    have h9 := e5 hr
    rw [jget_z] at h9
    have := hb.2.2.2.2.1 r
    exact iI_inj (by omega) (by omega) h9) b 0 (Nat.zero_le r) (by omega)]
theorem lkF_b (lb : List Int) (x : Int) (b : Nat) : ∀ (f j : Nat), lkF lb x b f j ≤ b
  | 0, _ => Nat.le_refl b
  | f + 1, j => by
    show (if _ then _ else _) ≤ b
    by_cases q : b ≤ j
    · rw [if_pos q]; exact Nat.le_refl b
    · rw [if_neg q]
      by_cases e : lb.getD j 0 = x
      · rw [if_pos e]; omega
      · rw [if_neg e]; exact lkF_b lb x b f (j + 1)
theorem lkFirst_b (lb : List Int) (x : Int) (b : Nat) : lkFirst lb x b ≤ b := lkF_b lb x b b 0
set_option maxHeartbeats 4000000 in
set_option maxRecDepth 100000 in
/-- isRepeatedLabel(line) -/
theorem c_Lk_rep {h P N : Nat} {c0 c1 : List Int32} {ks lp np : List Nat} {lb nu ts : List Int} {w : va_W} (hw : jLk cI h P N c0 c1 ks lp np lb nu ts w) (j : Nat) (hj : j < 20000) : HM l yX1_isRepeatedLabel wsX1_isRepeatedLabel ({ frames := 2, cells := 0, slots := 0, locals := 120 } : Room) D G (jT cI cJ cB cZ) [.ref h, .int (nI j)] w (fun v u k n => v = some (.int (bI (lkRep lb j))) ∧ u = w ∧ k = 0 ∧ n = 0) := by
  refine HM_of (cc := cX1_isRepeatedLabel) (maxL := 3) (ret := (some .boolean)) (lv := [(0, .ref h), (1, .int (nI j))]) (by decide) rfl rfl (Nat.le_of_ble_eq_true rfl) (fun p e s m args below meth c A0 ls hx hb hr hts hown hlocks hml hnm hK hA hAm hl => ?_)
  have hB := hw.b
  have hlfb := lkFirst_b lb (lb.getD j 0) j
  refine jJ_of (fun H locs => lv_aload_n hx hb dX1_isRepeatedLabel_0 rfl (lv_at hl 0 rfl)) ?_
  refine jJ_of (fun H locs => lv_iload_n hx hb dX1_isRepeatedLabel_1 rfl (lv_at hl 1 rfl)) ?_
  refine jJ_callV (As := [.int (nI j)]) (rest := []) (wc := _) (cs2 := []) (C := RX3) (T := TX3) (N := 8) (ci := 2) [0] [] ⟨hx, hb, hml, hown, hts⟩ hK hA hAm (c_Lk_label hw j (by omega)) (cwV 1 hts gX1_isRepeatedLabel_X3_label rfl rfl rfl (by decide +kernel) ⟨Nat.le_of_ble_eq_true rfl, Nat.le_of_ble_eq_true rfl⟩) (nn := 1) rfl (by decide) rfl rfl hw.hd rfl rfl rfl hl.1 (Nat.le_of_ble_eq_true rfl) dX1_isRepeatedLabel_2 (by show _ + 0 ≤ 0; omega) (by show _ + 0 ≤ 0; omega) (fun v u1 k1 n1 hq1 => ?_)
  obtain ⟨rfl, hw1, rfl, rfl⟩ := hq1
  rw [hw1]
  refine jJ_eq (g2 := F0 m 5 ls [.int (iI (lb.getD j 0))]) (cs2 := [w]) rfl rfl ?_
  have hv1 := hB.2.2.2.2.1 j
  refine jJ_ofL (fun H locs => lv_istore_n (lv' := [(2, .int (iI (lb.getD j 0))), (0, .ref h), (1, .int (nI j))]) hx hb dX1_isRepeatedLabel_5 rfl hl (by decide) rfl) (fun ls hl => ?_)
  refine jJ_of (fun H locs => lv_iload_n hx hb dX1_isRepeatedLabel_6 rfl (lv_at hl 0 rfl)) ?_
  refine jJ_of (fun H locs => lv_iconst (v := (iI (-1))) hx hb dX1_isRepeatedLabel_7 (by decide)) ?_
  refine jJ_of2 (fun H locs => jz_icmp_eq (tgt := 25) hx hb dX1_isRepeatedLabel_8 (by decide) (by omega) (by omega) (by omega) (by omega)) (fun c8 => ?_) (fun c8 => ?_)
  · refine jJ_of (fun H locs => lv_iconst (v := (nI 0)) hx hb dX1_isRepeatedLabel_25 (by decide)) ?_
    exact jJ_zret hx hb hr hlocks dX1_isRepeatedLabel_26 (by show _ ≤ 0; omega) (by show _ ≤ 0; omega) (Or.inl rfl) ⟨by rw [show lkRep lb j = false from decide_eq_false (by omega)]; rfl, rfl, rfl, rfl⟩
  · refine jJ_of (fun H locs => lv_aload_n hx hb dX1_isRepeatedLabel_11 rfl (lv_at hl 1 rfl)) ?_
    refine jJ_of (fun H locs => lv_iload_n hx hb dX1_isRepeatedLabel_12 rfl (lv_at hl 0 rfl)) ?_
    refine jJ_of (fun H locs => lv_iload_n hx hb dX1_isRepeatedLabel_13 rfl (lv_at hl 2 rfl)) ?_
    refine jJ_callV (As := [.int (iI (lb.getD j 0)), .int (nI j)]) (rest := []) (wc := _) (cs2 := []) (C := RX3) (T := TX3) (N := 8) (ci := 2) [0] [] ⟨hx, hb, hml, hown, hts⟩ hK hA hAm (c_Lk_labelled hw (lb.getD j 0) j (by omega) (by omega)) (cwV 2 hts gX1_isRepeatedLabel_X3_labelled rfl rfl rfl (by decide +kernel) ⟨Nat.le_of_ble_eq_true rfl, Nat.le_of_ble_eq_true rfl⟩) (nn := 1) rfl (by decide) rfl rfl hw.hd rfl rfl rfl hl.1 (Nat.le_of_ble_eq_true rfl) dX1_isRepeatedLabel_14 (by show _ + 0 ≤ 0; omega) (by show _ + 0 ≤ 0; omega) (fun v u2 k2 n2 hq2 => ?_)
    obtain ⟨rfl, hw2, rfl, rfl⟩ := hq2
    rw [hw2]
    refine jJ_eq (g2 := F0 m 17 ls [.int (nI (lkFirst lb (lb.getD j 0) j))]) (cs2 := [w]) rfl rfl ?_
    have hlf2 := lkF_b lb (lb.getD j 0) j j 0
    refine jJ_of (fun H locs => lv_iload_n hx hb dX1_isRepeatedLabel_17 rfl (lv_at hl 2 rfl)) ?_
    refine jJ_of2 (fun H locs => jn_icmp_ge (tgt := 25) hx hb dX1_isRepeatedLabel_18 (by decide) (by omega) (by omega)) (fun c18 => ?_) (fun c18 => ?_)
    · refine jJ_of (fun H locs => lv_iconst (v := (nI 0)) hx hb dX1_isRepeatedLabel_25 (by decide)) ?_
      exact jJ_zret hx hb hr hlocks dX1_isRepeatedLabel_26 (by show _ ≤ 0; omega) (by show _ ≤ 0; omega) (Or.inl rfl) ⟨by rw [show lkRep lb j = false from decide_eq_false (by omega)]; rfl, rfl, rfl, rfl⟩
    · refine jJ_of (fun H locs => lv_iconst (v := (nI 1)) hx hb dX1_isRepeatedLabel_21 (by decide)) ?_
      refine jJ_of (fun H locs => lv_goto (tgt := 26) hx hb dX1_isRepeatedLabel_22 (by decide)) ?_
      exact jJ_zret hx hb hr hlocks dX1_isRepeatedLabel_26 (by show _ ≤ 0; omega) (by show _ ≤ 0; omega) (Or.inr rfl) ⟨by rw [show lkRep lb j = true from decide_eq_true ⟨by omega, by omega⟩]; rfl, rfl, rfl, rfl⟩
set_option maxHeartbeats 4000000 in
set_option maxRecDepth 100000 in
/-- mayOpen(line, innermost) -/
theorem c_Lk_may {h P N : Nat} {c0 c1 : List Int32} {ks lp np : List Nat} {lb nu ts : List Int} {w : va_W} (hw : jLk cI h P N c0 c1 ks lp np lb nu ts w) (j : Nat) (inn : Int) (hj : j < 20000) (hin : -1 ≤ inn ∧ inn ≤ 8001) : HM l yX1_mayOpen wsX1_mayOpen ({ frames := 2, cells := 0, slots := 0, locals := 120 } : Room) D G (jT cI cJ cB cZ) [.ref h, .int (nI j), .int (iI inn)] w (fun v u k n => v = some (.int (bI (lkMay nu ts j inn))) ∧ u = w ∧ k = 0 ∧ n = 0) := by
  refine HM_of (cc := cX1_mayOpen) (maxL := 6) (ret := (some .boolean)) (lv := [(0, .ref h), (1, .int (nI j)), (2, .int (iI inn))]) (by decide) rfl rfl (Nat.le_of_ble_eq_true rfl) (fun p e s m args below meth c A0 ls hx hb hr hts hown hlocks hml hnm hK hA hAm hl => ?_)
  have hB := hw.b
  have hnj := hB.2.2.2.2.2.1 j
  refine jJ_of (fun H locs => lv_aload_n hx hb dX1_mayOpen_0 rfl (lv_at hl 0 rfl)) ?_
  refine jJ_of (fun H locs => lv_iload_n hx hb dX1_mayOpen_1 rfl (lv_at hl 1 rfl)) ?_
  refine jJ_callV (As := [.int (nI j)]) (rest := []) (wc := _) (cs2 := []) (C := RX3) (T := TX3) (N := 8) (ci := 2) [0] [] ⟨hx, hb, hml, hown, hts⟩ hK hA hAm (c_Lk_number hw j (by omega)) (cwV 1 hts gX1_mayOpen_X3_number rfl rfl rfl (by decide +kernel) ⟨Nat.le_of_ble_eq_true rfl, Nat.le_of_ble_eq_true rfl⟩) (nn := 1) rfl (by decide) rfl rfl hw.hd rfl rfl rfl hl.1 (Nat.le_of_ble_eq_true rfl) dX1_mayOpen_2 (by show _ + 0 ≤ 0; omega) (by show _ + 0 ≤ 0; omega) (fun v u1 k1 n1 hq1 => ?_)
  obtain ⟨rfl, hw1, rfl, rfl⟩ := hq1
  rw [hw1]
  refine jJ_eq (g2 := F0 m 5 ls [.int (iI (nu.getD j 0))]) (cs2 := [w]) rfl rfl ?_
  have hv1 := hB.2.2.2.2.2.1 j
  refine jJ_ofL (fun H locs => lv_istore_n (lv' := [(3, .int (iI (nu.getD j 0))), (0, .ref h), (1, .int (nI j)), (2, .int (iI inn))]) hx hb dX1_mayOpen_5 rfl hl (by decide) rfl) (fun ls hl => ?_)
  refine jJ_of (fun H locs => lv_iload_n hx hb dX1_mayOpen_6 rfl (lv_at hl 0 rfl)) ?_
  refine jJ_of (fun H locs => lv_sipush (v := (nI 1000)) hx hb dX1_mayOpen_7 (by decide)) ?_
  rw [nI_iI 1000]
  refine jJ_eq (g2 := F0 m 10 ls [.int (iI 1000), .int (iI (nu.getD j 0))]) (cs2 := [w]) rfl rfl ?_
  refine jJ_of2 (fun H locs => jz_icmp_lt (tgt := 20) hx hb dX1_mayOpen_10 (by decide) (by omega) (by omega) (by omega) (by omega)) (fun c10 => ?_) (fun c10 => ?_)
  · refine jJ_of (fun H locs => lv_iconst (v := (nI 0)) hx hb dX1_mayOpen_20 (by decide)) ?_
    exact jJ_zret hx hb hr hlocks dX1_mayOpen_21 (by show _ ≤ 0; omega) (by show _ ≤ 0; omega) (Or.inl rfl) ⟨by rw [show lkMay nu ts j inn = false from if_pos (by omega)]; rfl, rfl, rfl, rfl⟩
  · refine jJ_of (fun H locs => lv_iload_n hx hb dX1_mayOpen_13 rfl (lv_at hl 0 rfl)) ?_
    refine jJ_of (fun H locs => lv_sipush (v := (nI 3000)) hx hb dX1_mayOpen_14 (by decide)) ?_
    rw [nI_iI 3000]
    refine jJ_eq (g2 := F0 m 17 ls [.int (iI 3000), .int (iI (nu.getD j 0))]) (cs2 := [w]) rfl rfl ?_
    refine jJ_of2 (fun H locs => jz_icmp_le (tgt := 22) hx hb dX1_mayOpen_17 (by decide) (by omega) (by omega) (by omega) (by omega)) (fun c17 => ?_) (fun c17 => ?_)
    · refine jJ_of (fun H locs => lv_iload_n hx hb dX1_mayOpen_22 rfl (lv_at hl 3 rfl)) ?_
      refine jJ_ofL (fun H locs => lv_istore (lv' := [(4, .int (iI inn)), (3, .int (iI (nu.getD j 0))), (0, .ref h), (1, .int (nI j)), (2, .int (iI inn))]) hx hb dX1_mayOpen_23 hl (by decide) rfl) (fun ls hl => ?_)
      refine jJ_of (fun H locs => lv_iconst (v := (nI 0)) hx hb dX1_mayOpen_25 (by decide)) ?_
      refine jJ_ofL (fun H locs => lv_istore (lv' := [(5, .int (nI 0)), (4, .int (iI inn)), (3, .int (iI (nu.getD j 0))), (0, .ref h), (1, .int (nI j)), (2, .int (iI inn))]) hx hb dX1_mayOpen_26 hl (by decide) rfl) (fun ls hl => ?_)
      suffices lp : ∀ (f i : Nat) (o : Int), 3 - i < f → i ≤ 3 → -1 ≤ o → o ≤ 8001 → lkCh nu ts (nu.getD j 0) (3 - i) o = lkMay nu ts j inn → ∀ ls, lv_has ls 6 [(5, .int (nI i)), (4, .int (iI o)), (3, .int (iI (nu.getD j 0))), (0, .ref h)] → jJ p l e _ s m args below meth c D A0 [w] 0 0 (jEnd below D A0 _ args s _ _) (F0 m 28 ls []) from lp 4 0 inn (by omega) (by omega) (by omega) (by omega) (if_neg (by omega)).symm ls (lv_sub hl [0, 1, 2, 3] rfl)
      intro f
      induction f with
      | zero => intro i o h9; exact absurd h9 (Nat.not_lt_zero _)
      | succ f ih =>
        intro i o h9 hi9 ho1 ho2 hcl ls hl
        refine jJ_of (fun H locs => lv_iload hx hb dX1_mayOpen_28 (lv_at hl 0 rfl)) ?_
        refine jJ_of (fun H locs => lv_iconst (v := (nI 3)) hx hb dX1_mayOpen_30 (by decide)) ?_
        refine jJ_of2 (fun H locs => jn_icmp_ge (tgt := 66) hx hb dX1_mayOpen_31 (by decide) (by omega) (by omega)) (fun c31 => ?_) (fun c31 => ?_)
        · refine jJ_of (fun H locs => lv_iconst (v := (nI 1)) hx hb dX1_mayOpen_66 (by decide)) ?_
          exact jJ_zret hx hb hr hlocks dX1_mayOpen_67 (by show _ ≤ 0; omega) (by show _ ≤ 0; omega) (Or.inr rfl) ⟨by rw [show lkMay nu ts j inn = true from by rw [← hcl]; first | (rw [show 3 - i = 0 by omega]; rfl) | (rw [show 3 - i = (2 - i) + 1 by omega]; exact if_pos (by omega))]; rfl, rfl, rfl, rfl⟩
        · refine jJ_of (fun H locs => lv_iload hx hb dX1_mayOpen_34 (lv_at hl 1 rfl)) ?_
          refine jJ_of (fun H locs => lv_iconst (v := (iI (-1))) hx hb dX1_mayOpen_36 (by decide)) ?_
          refine jJ_of2 (fun H locs => jz_icmp_eq (tgt := 66) hx hb dX1_mayOpen_37 (by decide) (by omega) (by omega) (by omega) (by omega)) (fun c37 => ?_) (fun c37 => ?_)
          · refine jJ_of (fun H locs => lv_iconst (v := (nI 1)) hx hb dX1_mayOpen_66 (by decide)) ?_
            exact jJ_zret hx hb hr hlocks dX1_mayOpen_67 (by show _ ≤ 0; omega) (by show _ ≤ 0; omega) (Or.inr rfl) ⟨by rw [show lkMay nu ts j inn = true from by rw [← hcl]; first | (rw [show 3 - i = 0 by omega]; rfl) | (rw [show 3 - i = (2 - i) + 1 by omega]; exact if_pos (by omega))]; rfl, rfl, rfl, rfl⟩
          · obtain ⟨ko, hko⟩ : ∃ k : Nat, o = (k : Int) := ⟨o.toNat, by omega⟩
            subst hko
            rw [← nI_iI ko] at hl
            refine jJ_of (fun H locs => lv_aload_n hx hb dX1_mayOpen_40 rfl (lv_at hl 3 rfl)) ?_
            refine jJ_of (fun H locs => lv_iload hx hb dX1_mayOpen_41 (lv_at hl 1 rfl)) ?_
            refine jJ_callV (As := [.int (nI ko)]) (rest := []) (wc := _) (cs2 := []) (C := RX3) (T := TX3) (N := 8) (ci := 2) [0] [] ⟨hx, hb, hml, hown, hts⟩ hK hA hAm (c_Lk_number hw ko (by omega)) (cwV 1 hts gX1_mayOpen_X3_number rfl rfl rfl (by decide +kernel) ⟨Nat.le_of_ble_eq_true rfl, Nat.le_of_ble_eq_true rfl⟩) (nn := 1) rfl (by decide) rfl rfl hw.hd rfl rfl rfl hl.1 (Nat.le_of_ble_eq_true rfl) dX1_mayOpen_43 (by show _ + 0 ≤ 0; omega) (by show _ + 0 ≤ 0; omega) (fun v u2 k2 n2 hq2 => ?_)
            obtain ⟨rfl, hw2, rfl, rfl⟩ := hq2
            rw [hw2]
            refine jJ_eq (g2 := F0 m 46 ls [.int (iI (nu.getD ko 0))]) (cs2 := [w]) rfl rfl ?_
            have hv2 := hB.2.2.2.2.2.1 ko
            refine jJ_of (fun H locs => lv_iload_n hx hb dX1_mayOpen_46 rfl (lv_at hl 2 rfl)) ?_
            refine jJ_of2 (fun H locs => jz_icmp_ne (tgt := 52) hx hb dX1_mayOpen_47 (by decide) (by omega) (by omega) (by omega) (by omega)) (fun c47 => ?_) (fun c47 => ?_)
            · refine jJ_of (fun H locs => lv_aload_n hx hb dX1_mayOpen_52 rfl (lv_at hl 3 rfl)) ?_
              refine jJ_of (fun H locs => lv_iload hx hb dX1_mayOpen_53 (lv_at hl 1 rfl)) ?_
              refine jJ_callV (As := [.int (nI ko)]) (rest := []) (wc := _) (cs2 := []) (C := RX3) (T := TX3) (N := 8) (ci := 2) [0] [] ⟨hx, hb, hml, hown, hts⟩ hK hA hAm (c_Lk_target hw ko (by omega)) (cwV 1 hts gX1_mayOpen_X3_target rfl rfl rfl (by decide +kernel) ⟨Nat.le_of_ble_eq_true rfl, Nat.le_of_ble_eq_true rfl⟩) (nn := 1) rfl (by decide) rfl rfl hw.hd rfl rfl rfl hl.1 (Nat.le_of_ble_eq_true rfl) dX1_mayOpen_55 (by show _ + 0 ≤ 0; omega) (by show _ + 0 ≤ 0; omega) (fun v u3 k3 n3 hq3 => ?_)
              obtain ⟨rfl, hw3, rfl, rfl⟩ := hq3
              rw [hw3]
              refine jJ_eq (g2 := F0 m 58 ls [.int (iI (ts.getD ko 0))]) (cs2 := [w]) rfl rfl ?_
              have hv3 := hw.b.2.2.2.2.2.2 ko
              refine jJ_ofL (fun H locs => lv_istore (lv' := [(4, .int (iI (ts.getD ko 0))), (5, .int (nI i)), (3, .int (iI (nu.getD j 0))), (0, .ref h)]) hx hb dX1_mayOpen_58 hl (by decide) rfl) (fun ls hl => ?_)
              refine jJ_ofL (fun H locs => lv_iinc (v := (nI (i + 1))) (lv' := [(5, .int (nI (i + 1))), (4, .int (iI (ts.getD ko 0))), (3, .int (iI (nu.getD j 0))), (0, .ref h)]) hx hb dX1_mayOpen_60 hl (k := 1) rfl (nI_add _ _) (by decide) rfl) (fun ls hl => ?_)
              refine jJ_of (fun H locs => lv_goto (tgt := 28) hx hb dX1_mayOpen_63 (by decide)) ?_
              exact ih (i + 1) _ (by omega) (by omega) (by omega) (by omega) (by rw [← hcl, show 3 - i = (3 - (i + 1)) + 1 by omega, lkCh_k]; exact (if_neg (by omega)).symm) ls (lv_sub hl [0, 1, 2, 3] rfl)
            · refine jJ_of (fun H locs => lv_iconst (v := (nI 0)) hx hb dX1_mayOpen_50 (by decide)) ?_
              exact jJ_zret hx hb hr hlocks dX1_mayOpen_51 (by show _ ≤ 0; omega) (by show _ ≤ 0; omega) (Or.inl rfl) ⟨by rw [show lkMay nu ts j inn = false from by rw [← hcl, show 3 - i = (2 - i) + 1 by omega, lkCh_k]; exact if_pos (by omega)]; rfl, rfl, rfl, rfl⟩
    · refine jJ_of (fun H locs => lv_iconst (v := (nI 0)) hx hb dX1_mayOpen_20 (by decide)) ?_
      exact jJ_zret hx hb hr hlocks dX1_mayOpen_21 (by show _ ≤ 0; omega) (by show _ ≤ 0; omega) (Or.inl rfl) ⟨by rw [show lkMay nu ts j inn = false from if_pos (by omega)]; rfl, rfl, rfl, rfl⟩
set_option maxHeartbeats 4000000 in
set_option maxRecDepth 100000 in
/-- outermostPlace(innermost) -/
theorem c_Lk_out {h P N : Nat} {c0 c1 : List Int32} {ks lp np : List Nat} {lb nu ts : List Int} {w : va_W} (hw : jLk cI h P N c0 c1 ks lp np lb nu ts w) (inn : Int) (hin : -1 ≤ inn ∧ inn ≤ 8001) : HM l yX1_outermostPlace wsX1_outermostPlace ({ frames := 2, cells := 0, slots := 0, locals := 120 } : Room) D G (jT cI cJ cB cZ) [.ref h, .int (iI inn)] w (fun v u k n => v = some (.int (iI (lkOut np ts 3 inn (-1)))) ∧ u = w ∧ k = 0 ∧ n = 0) := by
  refine HM_of (cc := cX1_outermostPlace) (maxL := 5) (ret := (some .int)) (lv := [(0, .ref h), (1, .int (iI inn))]) (by decide) rfl rfl (Nat.le_of_ble_eq_true rfl) (fun p e s m args below meth c A0 ls hx hb hr hts hown hlocks hml hnm hK hA hAm hl => ?_)
  have hB := hw.b
  refine jJ_of (fun H locs => lv_iconst (v := (iI (-1))) hx hb dX1_outermostPlace_0 (by decide)) ?_
  refine jJ_ofL (fun H locs => lv_istore_n (lv' := [(2, .int (iI (-1))), (0, .ref h), (1, .int (iI inn))]) hx hb dX1_outermostPlace_1 rfl hl (by decide) rfl) (fun ls hl => ?_)
  refine jJ_of (fun H locs => lv_iload_n hx hb dX1_outermostPlace_2 rfl (lv_at hl 2 rfl)) ?_
  refine jJ_ofL (fun H locs => lv_istore_n (lv' := [(3, .int (iI inn)), (2, .int (iI (-1))), (0, .ref h), (1, .int (iI inn))]) hx hb dX1_outermostPlace_3 rfl hl (by decide) rfl) (fun ls hl => ?_)
  refine jJ_of (fun H locs => lv_iconst (v := (nI 0)) hx hb dX1_outermostPlace_4 (by decide)) ?_
  refine jJ_ofL (fun H locs => lv_istore (lv' := [(4, .int (nI 0)), (3, .int (iI inn)), (2, .int (iI (-1))), (0, .ref h), (1, .int (iI inn))]) hx hb dX1_outermostPlace_5 hl (by decide) rfl) (fun ls hl => ?_)
  suffices lp : ∀ (f i : Nat) (o p0 : Int), 3 - i < f → i ≤ 3 → -1 ≤ o → o ≤ 8001 → lkOut np ts (3 - i) o p0 = lkOut np ts 3 inn (-1) → ∀ ls, lv_has ls 5 [(4, .int (nI i)), (3, .int (iI o)), (2, .int (iI p0)), (0, .ref h)] → jJ p l e _ s m args below meth c D A0 [w] 0 0 (jEnd below D A0 _ args s _ _) (F0 m 7 ls []) from lp 4 0 inn (-1) (by omega) (by omega) (by omega) (by omega) rfl ls (lv_sub hl [0, 1, 2, 3] rfl)
  intro f
  induction f with
  | zero => intro i o p0 h9; exact absurd h9 (Nat.not_lt_zero _)
  | succ f ih =>
    intro i o p0 h9 hi9 ho1 ho2 hcl ls hl
    refine jJ_of (fun H locs => lv_iload hx hb dX1_outermostPlace_7 (lv_at hl 0 rfl)) ?_
    refine jJ_of (fun H locs => lv_iconst (v := (nI 3)) hx hb dX1_outermostPlace_9 (by decide)) ?_
    refine jJ_of2 (fun H locs => jn_icmp_ge (tgt := 36) hx hb dX1_outermostPlace_10 (by decide) (by omega) (by omega)) (fun c10 => ?_) (fun c10 => ?_)
    · refine jJ_of (fun H locs => lv_iload_n hx hb dX1_outermostPlace_36 rfl (lv_at hl 2 rfl)) ?_
      exact jJ_iret hx hb hr hlocks dX1_outermostPlace_37 (by show _ ≤ 0; omega) (by show _ ≤ 0; omega) ⟨by rw [show lkOut np ts 3 inn (-1) = p0 from by rw [← hcl]; first | (rw [show 3 - i = 0 by omega]; rfl) | (rw [show 3 - i = (2 - i) + 1 by omega]; exact if_pos (by omega))], rfl, rfl, rfl⟩
    · refine jJ_of (fun H locs => lv_iload_n hx hb dX1_outermostPlace_13 rfl (lv_at hl 1 rfl)) ?_
      refine jJ_of (fun H locs => lv_iconst (v := (iI (-1))) hx hb dX1_outermostPlace_14 (by decide)) ?_
      refine jJ_of2 (fun H locs => jz_icmp_eq (tgt := 36) hx hb dX1_outermostPlace_15 (by decide) (by omega) (by omega) (by omega) (by omega)) (fun c15 => ?_) (fun c15 => ?_)
      · refine jJ_of (fun H locs => lv_iload_n hx hb dX1_outermostPlace_36 rfl (lv_at hl 2 rfl)) ?_
        exact jJ_iret hx hb hr hlocks dX1_outermostPlace_37 (by show _ ≤ 0; omega) (by show _ ≤ 0; omega) ⟨by rw [show lkOut np ts 3 inn (-1) = p0 from by rw [← hcl]; first | (rw [show 3 - i = 0 by omega]; rfl) | (rw [show 3 - i = (2 - i) + 1 by omega]; exact if_pos (by omega))], rfl, rfl, rfl⟩
      · obtain ⟨ko, hko⟩ : ∃ k : Nat, o = (k : Int) := ⟨o.toNat, by omega⟩
        subst hko
        rw [← nI_iI ko] at hl
        refine jJ_of (fun H locs => lv_aload_n hx hb dX1_outermostPlace_18 rfl (lv_at hl 3 rfl)) ?_
        refine jJ_of (fun H locs => lv_iload_n hx hb dX1_outermostPlace_19 rfl (lv_at hl 1 rfl)) ?_
        refine jJ_callV (As := [.int (nI ko)]) (rest := []) (wc := _) (cs2 := []) (C := RX3) (T := TX3) (N := 8) (ci := 2) [0] [] ⟨hx, hb, hml, hown, hts⟩ hK hA hAm (c_Lk_numberPlace hw ko (by omega)) (cwV 1 hts gX1_outermostPlace_X3_numberPlace rfl rfl rfl (by decide +kernel) ⟨Nat.le_of_ble_eq_true rfl, Nat.le_of_ble_eq_true rfl⟩) (nn := 1) rfl (by decide) rfl rfl hw.hd rfl rfl rfl hl.1 (Nat.le_of_ble_eq_true rfl) dX1_outermostPlace_20 (by show _ + 0 ≤ 0; omega) (by show _ + 0 ≤ 0; omega) (fun v u1 k1 n1 hq1 => ?_)
        obtain ⟨rfl, hw1, rfl, rfl⟩ := hq1
        rw [hw1]
        refine jJ_eq (g2 := F0 m 23 ls [.int (nI (np.getD ko 0))]) (cs2 := [w]) rfl rfl ?_
        have hv1 := hB.2.2.2.1 ko
        refine jJ_ofL (fun H locs => lv_istore_n (lv' := [(2, .int (nI (np.getD ko 0))), (4, .int (nI i)), (3, .int (nI ko)), (0, .ref h)]) hx hb dX1_outermostPlace_23 rfl hl (by decide) rfl) (fun ls hl => ?_)
        refine jJ_of (fun H locs => lv_aload_n hx hb dX1_outermostPlace_24 rfl (lv_at hl 3 rfl)) ?_
        refine jJ_of (fun H locs => lv_iload_n hx hb dX1_outermostPlace_25 rfl (lv_at hl 2 rfl)) ?_
        refine jJ_callV (As := [.int (nI ko)]) (rest := []) (wc := _) (cs2 := []) (C := RX3) (T := TX3) (N := 8) (ci := 2) [0] [] ⟨hx, hb, hml, hown, hts⟩ hK hA hAm (c_Lk_target hw ko (by omega)) (cwV 1 hts gX1_outermostPlace_X3_target rfl rfl rfl (by decide +kernel) ⟨Nat.le_of_ble_eq_true rfl, Nat.le_of_ble_eq_true rfl⟩) (nn := 1) rfl (by decide) rfl rfl hw.hd rfl rfl rfl hl.1 (Nat.le_of_ble_eq_true rfl) dX1_outermostPlace_26 (by show _ + 0 ≤ 0; omega) (by show _ + 0 ≤ 0; omega) (fun v u2 k2 n2 hq2 => ?_)
        obtain ⟨rfl, hw2, rfl, rfl⟩ := hq2
        rw [hw2]
        refine jJ_eq (g2 := F0 m 29 ls [.int (iI (ts.getD ko 0))]) (cs2 := [w]) rfl rfl ?_
        have hv2 := hw.b.2.2.2.2.2.2 ko
        refine jJ_ofL (fun H locs => lv_istore_n (lv' := [(3, .int (iI (ts.getD ko 0))), (2, .int (nI (np.getD ko 0))), (4, .int (nI i)), (0, .ref h)]) hx hb dX1_outermostPlace_29 rfl hl (by decide) rfl) (fun ls hl => ?_)
        refine jJ_ofL (fun H locs => lv_iinc (v := (nI (i + 1))) (lv' := [(4, .int (nI (i + 1))), (3, .int (iI (ts.getD ko 0))), (2, .int (nI (np.getD ko 0))), (0, .ref h)]) hx hb dX1_outermostPlace_30 hl (k := 2) rfl (nI_add _ _) (by decide) rfl) (fun ls hl => ?_)
        refine jJ_of (fun H locs => lv_goto (tgt := 7) hx hb dX1_outermostPlace_33 (by decide)) ?_
        have hl9 := hl
        rw [nI_iI (np.getD ko 0)] at hl9
        exact ih (i + 1) _ _ (by omega) (by omega) (by omega) (by omega) (by rw [← hcl, show 3 - i = (3 - (i + 1)) + 1 by omega, lkOut_k]) ls (lv_sub hl9 [0, 1, 2, 3] rfl)
set_option maxHeartbeats 4000000 in
set_option maxRecDepth 100000 in
/-- joinLoops(program) -/
theorem c_Lk_jl {h P N : Nat} {c0 c1 : List Int32} {ks lp np : List Nat} {lb nu ts : List Int} {w : va_W} (hw : jLk cI h P N c0 c1 ks lp np lb nu ts w) : HM l yX1_joinLoops wsX1_joinLoops ({ frames := 3, cells := 0, slots := 0, locals := 200 } : Room) D G (jT cI cJ cB cZ) [.ref h] w (fun v u k n => v = some (.int (iI (lkJL N ks lp np lb nu 8001 0 (-1) ts).1)) ∧ jLk cI h P N c0 c1 ks lp np lb nu (lkJL N ks lp np lb nu 8001 0 (-1) ts).2 u ∧ k = 0 ∧ n = 0) := by
  refine HM_of (cc := cX1_joinLoops) (maxL := 5) (ret := (some .int)) (lv := [(0, .ref h)]) (by decide) rfl rfl (Nat.le_of_ble_eq_true rfl) (fun p e s m args below meth c A0 ls hx hb hr hts hown hlocks hml hnm hK hA hAm hl => ?_)
  have hB := hw.b
  refine jJ_of (fun H locs => lv_iconst (v := (iI (-1))) hx hb dX1_joinLoops_0 (by decide)) ?_
  refine jJ_ofL (fun H locs => lv_istore_n (lv' := [(1, .int (iI (-1))), (0, .ref h)]) hx hb dX1_joinLoops_1 rfl hl (by decide) rfl) (fun ls hl => ?_)
  refine jJ_of (fun H locs => lv_iconst (v := (nI 0)) hx hb dX1_joinLoops_2 (by decide)) ?_
  refine jJ_ofL (fun H locs => lv_istore_n (lv' := [(2, .int (nI 0)), (1, .int (iI (-1))), (0, .ref h)]) hx hb dX1_joinLoops_3 rfl hl (by decide) rfl) (fun ls hl => ?_)
  suffices lp : ∀ (f j : Nat) (inn : Int) (ts1 : List Int) (wv : va_W), 8001 - j < f → j ≤ 8000 → -1 ≤ inn → inn ≤ 8001 → jLk cI h P N c0 c1 ks lp np lb nu ts1 wv → lkJL N ks lp np lb nu (8001 - j) j inn ts1 = lkJL N ks lp np lb nu 8001 0 (-1) ts → ∀ ls, lv_has ls 5 [(2, .int (nI j)), (1, .int (iI inn)), (0, .ref h)] → jJ p l e _ s m args below meth c D A0 [wv] 0 0 (jEnd below D A0 _ args s _ _) (F0 m 4 ls []) from lp 8002 0 (-1) ts _ (by omega) (by omega) (by omega) (by omega) hw rfl ls (lv_sub hl [0, 1, 2] rfl)
  intro f
  induction f with
  | zero => intro j inn ts1 wv h9; exact absurd h9 (Nat.not_lt_zero _)
  | succ f ih =>
    intro j inn ts1 wv h9 hj9 hi1 hi2 hwv hcl ls hl
    have hnj := hB.2.2.2.2.2.1 j
    replace hcl := (lkJL_s N ks lp np lb nu (8000 - j) j inn ts1).symm.trans (show lkJL N ks lp np lb nu (8000 - j + 1) j inn ts1 = lkJL N ks lp np lb nu 8001 0 (-1) ts by rw [show 8000 - j + 1 = 8001 - j by omega]; exact hcl)
    refine jJ_of (fun H locs => lv_iload_n hx hb dX1_joinLoops_4 rfl (lv_at hl 0 rfl)) ?_
    refine jJ_of (fun H locs => lv_aload_n hx hb dX1_joinLoops_5 rfl (lv_at hl 2 rfl)) ?_
    refine jJ_callV (As := []) (rest := [.int (nI j)]) (wc := _) (cs2 := []) (C := RX3) (T := TX3) (N := 8) (ci := 2) [0] [] ⟨hx, hb, hml, hown, hts⟩ hK hA hAm (c_Lk_size hwv) (cwV 0 hts gX1_joinLoops_X3_size rfl rfl rfl (by decide +kernel) ⟨Nat.le_of_ble_eq_true rfl, Nat.le_of_ble_eq_true rfl⟩) (nn := 1) rfl (by decide) rfl rfl hwv.hd rfl rfl rfl hl.1 (Nat.le_of_ble_eq_true rfl) dX1_joinLoops_6 (by show _ + 0 ≤ 0; omega) (by show _ + 0 ≤ 0; omega) (fun v u1 k1 n1 hq1 => ?_)
    obtain ⟨rfl, hw1, rfl, rfl⟩ := hq1
    rw [hw1]
    refine jJ_eq (g2 := F0 m 9 ls [.int (nI N), .int (nI j)]) (cs2 := [wv]) rfl rfl ?_
    refine jJ_of2 (fun H locs => jn_icmp_ge (tgt := 126) hx hb dX1_joinLoops_9 (by decide) (by omega) (by omega)) (fun c9 => ?_) (fun c9 => ?_)
    · refine jJ_of (fun H locs => lv_aload_n hx hb dX1_joinLoops_126 rfl (lv_at hl 2 rfl)) ?_
      refine jJ_of (fun H locs => lv_iload_n hx hb dX1_joinLoops_127 rfl (lv_at hl 1 rfl)) ?_
      refine jJ_callS (As := [.ref h, .int (iI inn)]) (rest := []) (wc := _) (cs2 := []) [0] [] ⟨hx, hb, hml, hown, hts⟩ hK hA hAm (c_Lk_out hwv inn (by omega)) (va_cwS 2 hts gX1_joinLoops_X1_outermostPlace rfl rfl rfl (by decide +kernel) ⟨Nat.le_of_ble_eq_true rfl, Nat.le_of_ble_eq_true rfl⟩) (nn := 1) rfl (by decide) rfl rfl rfl rfl hl.1 (Nat.le_of_ble_eq_true rfl) dX1_joinLoops_128 (by show _ + 0 ≤ 0; omega) (by show _ + 0 ≤ 0; omega) (fun v u2 k2 n2 hq2 => ?_)
      obtain ⟨rfl, hw2, rfl, rfl⟩ := hq2
      rw [hw2]
      refine jJ_eq (g2 := F0 m 131 ls [.int (iI (lkOut np ts1 3 inn (-1)))]) (cs2 := [wv]) rfl rfl ?_
      have he : lkJL N ks lp np lb nu 8001 0 (-1) ts = ((lkOut np ts1 3 inn (-1) : Int), ts1) := hcl.symm.trans (if_pos (by omega))
      exact jJ_iret hx hb hr hlocks dX1_joinLoops_131 (by show _ ≤ 0; omega) (by show _ ≤ 0; omega) ⟨by rw [he], by rw [he]; exact hwv, rfl, rfl⟩
    · refine jJ_of (fun H locs => lv_aload_n hx hb dX1_joinLoops_12 rfl (lv_at hl 2 rfl)) ?_
      refine jJ_of (fun H locs => lv_iload_n hx hb dX1_joinLoops_13 rfl (lv_at hl 0 rfl)) ?_
      refine jJ_callS (As := [.ref h, .int (nI j)]) (rest := []) (wc := _) (cs2 := []) [0] [] ⟨hx, hb, hml, hown, hts⟩ hK hA hAm (c_Lk_rep hwv j (by omega)) (va_cwS 2 hts gX1_joinLoops_X1_isRepeatedLabel rfl rfl rfl (by decide +kernel) ⟨Nat.le_of_ble_eq_true rfl, Nat.le_of_ble_eq_true rfl⟩) (nn := 1) rfl (by decide) rfl rfl rfl rfl hl.1 (Nat.le_of_ble_eq_true rfl) dX1_joinLoops_14 (by show _ + 0 ≤ 0; omega) (by show _ + 0 ≤ 0; omega) (fun v u3 k3 n3 hq3 => ?_)
      obtain ⟨rfl, hw3, rfl, rfl⟩ := hq3
      rw [hw3]
      refine jJ_eq (g2 := F0 m 17 ls [.int (bI (lkRep lb j))]) (cs2 := [wv]) rfl rfl ?_
      refine jJ_of2 (fun H locs => jb_if_eq (tgt := 26) hx hb dX1_joinLoops_17 (by decide)) (fun c17 => ?_) (fun c17 => ?_)
      · refine jJ_of (fun H locs => lv_aload_n hx hb dX1_joinLoops_26 rfl (lv_at hl 2 rfl)) ?_
        refine jJ_of (fun H locs => lv_iload_n hx hb dX1_joinLoops_27 rfl (lv_at hl 0 rfl)) ?_
        refine jJ_callV (As := [.int (nI j)]) (rest := []) (wc := _) (cs2 := []) (C := RX3) (T := TX3) (N := 8) (ci := 2) [0] [] ⟨hx, hb, hml, hown, hts⟩ hK hA hAm (c_Lk_kindOf hwv j (by omega)) (cwV 1 hts gX1_joinLoops_X3_kindOf rfl rfl rfl (by decide +kernel) ⟨Nat.le_of_ble_eq_true rfl, Nat.le_of_ble_eq_true rfl⟩) (nn := 1) rfl (by decide) rfl rfl hwv.hd rfl rfl rfl hl.1 (Nat.le_of_ble_eq_true rfl) dX1_joinLoops_28 (by show _ + 0 ≤ 0; omega) (by show _ + 0 ≤ 0; omega) (fun v u4 k4 n4 hq4 => ?_)
        obtain ⟨rfl, hw4, rfl, rfl⟩ := hq4
        rw [hw4]
        refine jJ_eq (g2 := F0 m 31 ls [.int (nI (ks.getD j 0))]) (cs2 := [wv]) rfl rfl ?_
        have hv4 := hB.2.1 j
        refine jJ_ofL (fun H locs => lv_istore_n (lv' := [(3, .int (nI (ks.getD j 0))), (2, .int (nI j)), (1, .int (iI inn)), (0, .ref h)]) hx hb dX1_joinLoops_31 rfl hl (by decide) rfl) (fun ls hl => ?_)
        refine jJ_of (fun H locs => lv_iload_n hx hb dX1_joinLoops_32 rfl (lv_at hl 0 rfl)) ?_
        refine jJ_of (fun H locs => lv_sipush (v := (nI 302)) hx hb dX1_joinLoops_33 (by decide)) ?_
        refine jJ_of2 (fun H locs => jn_icmp_ne (tgt := 65) hx hb dX1_joinLoops_36 (by decide) (by omega) (by omega)) (fun c36 => ?_) (fun c36 => ?_)
        · refine jJ_of (fun H locs => lv_iload_n hx hb dX1_joinLoops_65 rfl (lv_at hl 0 rfl)) ?_
          refine jJ_of (fun H locs => lv_sipush (v := (nI 304)) hx hb dX1_joinLoops_66 (by decide)) ?_
          refine jJ_of2 (fun H locs => jn_icmp_ne (tgt := 120) hx hb dX1_joinLoops_69 (by decide) (by omega) (by omega)) (fun c69 => ?_) (fun c69 => ?_)
          · refine jJ_ofL (fun H locs => lv_iinc (v := (nI (j + 1))) (lv' := [(2, .int (nI (j + 1))), (3, .int (nI (ks.getD j 0))), (1, .int (iI inn)), (0, .ref h)]) hx hb dX1_joinLoops_120 hl (k := 1) rfl (nI_add _ _) (by decide) rfl) (fun ls hl => ?_)
            refine jJ_of (fun H locs => lv_goto (tgt := 4) hx hb dX1_joinLoops_123 (by decide)) ?_
            exact ih (j + 1) _ _ _ (by omega) (by omega) (by omega) (by omega) hwv (by rw [← hcl, show 8001 - (j + 1) = 8000 - j by omega]; exact ((if_neg (by omega)).trans ((if_neg (by rw [c17]; decide)).trans ((if_neg (by omega)).trans (if_neg (by omega))))).symm) ls (lv_sub hl [0, 2, 3] rfl)
          · refine jJ_of (fun H locs => lv_iload_n hx hb dX1_joinLoops_72 rfl (lv_at hl 2 rfl)) ?_
            refine jJ_of (fun H locs => lv_iconst (v := (iI (-1))) hx hb dX1_joinLoops_73 (by decide)) ?_
            refine jJ_of2 (fun H locs => jz_icmp_eq (tgt := 90) hx hb dX1_joinLoops_74 (by decide) (by omega) (by omega) (by omega) (by omega)) (fun c74 => ?_) (fun c74 => ?_)
            · refine jJ_of (fun H locs => lv_aload_n hx hb dX1_joinLoops_90 rfl (lv_at hl 3 rfl)) ?_
              refine jJ_of (fun H locs => lv_iload_n hx hb dX1_joinLoops_91 rfl (lv_at hl 1 rfl)) ?_
              refine jJ_callV (As := [.int (nI j)]) (rest := []) (wc := _) (cs2 := []) (C := RX3) (T := TX3) (N := 8) (ci := 2) [0] [] ⟨hx, hb, hml, hown, hts⟩ hK hA hAm (c_Lk_numberPlace hwv j (by omega)) (cwV 1 hts gX1_joinLoops_X3_numberPlace rfl rfl rfl (by decide +kernel) ⟨Nat.le_of_ble_eq_true rfl, Nat.le_of_ble_eq_true rfl⟩) (nn := 1) rfl (by decide) rfl rfl hwv.hd rfl rfl rfl hl.1 (Nat.le_of_ble_eq_true rfl) dX1_joinLoops_92 (by show _ + 0 ≤ 0; omega) (by show _ + 0 ≤ 0; omega) (fun v u5 k5 n5 hq5 => ?_)
              obtain ⟨rfl, hw5, rfl, rfl⟩ := hq5
              rw [hw5]
              refine jJ_eq (g2 := F0 m 95 ls [.int (nI (np.getD j 0))]) (cs2 := [wv]) rfl rfl ?_
              have hv5 := hB.2.2.2.1 j
              have he : lkJL N ks lp np lb nu 8001 0 (-1) ts = (((np.getD j 0 : Nat) : Int), ts1) := hcl.symm.trans ((if_neg (by omega)).trans ((if_neg (by rw [c17]; decide)).trans ((if_neg (by omega)).trans ((if_pos (by omega)).trans (if_pos (by first | exact Or.inl (by omega) | exact Or.inr c87))))))
              exact jJ_iret hx hb hr hlocks dX1_joinLoops_95 (by show _ ≤ 0; omega) (by show _ ≤ 0; omega) ⟨by rw [he]; rw [nI_iI], by rw [he]; exact hwv, rfl, rfl⟩
            · obtain ⟨ki, hki⟩ : ∃ k : Nat, inn = (k : Int) := ⟨inn.toNat, by omega⟩
              subst hki
              rw [← nI_iI ki] at hl
              refine jJ_of (fun H locs => lv_aload_n hx hb dX1_joinLoops_77 rfl (lv_at hl 3 rfl)) ?_
              refine jJ_of (fun H locs => lv_iload_n hx hb dX1_joinLoops_78 rfl (lv_at hl 2 rfl)) ?_
              refine jJ_callV (As := [.int (nI ki)]) (rest := []) (wc := _) (cs2 := []) (C := RX3) (T := TX3) (N := 8) (ci := 2) [0] [] ⟨hx, hb, hml, hown, hts⟩ hK hA hAm (c_Lk_number hwv ki (by omega)) (cwV 1 hts gX1_joinLoops_X3_number rfl rfl rfl (by decide +kernel) ⟨Nat.le_of_ble_eq_true rfl, Nat.le_of_ble_eq_true rfl⟩) (nn := 1) rfl (by decide) rfl rfl hwv.hd rfl rfl rfl hl.1 (Nat.le_of_ble_eq_true rfl) dX1_joinLoops_79 (by show _ + 0 ≤ 0; omega) (by show _ + 0 ≤ 0; omega) (fun v u6 k6 n6 hq6 => ?_)
              obtain ⟨rfl, hw6, rfl, rfl⟩ := hq6
              rw [hw6]
              refine jJ_eq (g2 := F0 m 82 ls [.int (iI (nu.getD ki 0))]) (cs2 := [wv]) rfl rfl ?_
              have hv6 := hB.2.2.2.2.2.1 ki
              refine jJ_of (fun H locs => lv_aload_n hx hb dX1_joinLoops_82 rfl (lv_at hl 3 rfl)) ?_
              refine jJ_of (fun H locs => lv_iload_n hx hb dX1_joinLoops_83 rfl (lv_at hl 1 rfl)) ?_
              refine jJ_callV (As := [.int (nI j)]) (rest := [.int (iI (nu.getD ki 0))]) (wc := _) (cs2 := []) (C := RX3) (T := TX3) (N := 8) (ci := 2) [0] [] ⟨hx, hb, hml, hown, hts⟩ hK hA hAm (c_Lk_number hwv j (by omega)) (cwV 1 hts gX1_joinLoops_X3_number rfl rfl rfl (by decide +kernel) ⟨Nat.le_of_ble_eq_true rfl, Nat.le_of_ble_eq_true rfl⟩) (nn := 1) rfl (by decide) rfl rfl hwv.hd rfl rfl rfl hl.1 (Nat.le_of_ble_eq_true rfl) dX1_joinLoops_84 (by show _ + 0 ≤ 0; omega) (by show _ + 0 ≤ 0; omega) (fun v u7 k7 n7 hq7 => ?_)
              obtain ⟨rfl, hw7, rfl, rfl⟩ := hq7
              rw [hw7]
              refine jJ_eq (g2 := F0 m 87 ls [.int (iI (nu.getD j 0)), .int (iI (nu.getD ki 0))]) (cs2 := [wv]) rfl rfl ?_
              have hv7 := hB.2.2.2.2.2.1 j
              refine jJ_of2 (fun H locs => jz_icmp_eq (tgt := 96) hx hb dX1_joinLoops_87 (by decide) (by omega) (by omega) (by omega) (by omega)) (fun c87 => ?_) (fun c87 => ?_)
              · refine jJ_of (fun H locs => lv_aload_n hx hb dX1_joinLoops_96 rfl (lv_at hl 3 rfl)) ?_
                refine jJ_of (fun H locs => lv_iload_n hx hb dX1_joinLoops_97 rfl (lv_at hl 2 rfl)) ?_
                refine jJ_callV (As := [.int (nI ki)]) (rest := []) (wc := _) (cs2 := []) (C := RX3) (T := TX3) (N := 8) (ci := 2) [0] [] ⟨hx, hb, hml, hown, hts⟩ hK hA hAm (c_Lk_target hwv ki (by omega)) (cwV 1 hts gX1_joinLoops_X3_target rfl rfl rfl (by decide +kernel) ⟨Nat.le_of_ble_eq_true rfl, Nat.le_of_ble_eq_true rfl⟩) (nn := 1) rfl (by decide) rfl rfl hwv.hd rfl rfl rfl hl.1 (Nat.le_of_ble_eq_true rfl) dX1_joinLoops_98 (by show _ + 0 ≤ 0; omega) (by show _ + 0 ≤ 0; omega) (fun v u8 k8 n8 hq8 => ?_)
                obtain ⟨rfl, hw8, rfl, rfl⟩ := hq8
                rw [hw8]
                refine jJ_eq (g2 := F0 m 101 ls [.int (iI (ts1.getD ki 0))]) (cs2 := [wv]) rfl rfl ?_
                have hv8 := hwv.b.2.2.2.2.2.2 ki
                refine jJ_ofL (fun H locs => lv_istore (lv' := [(4, .int (iI (ts1.getD ki 0))), (3, .int (nI (ks.getD j 0))), (2, .int (nI j)), (1, .int (nI ki)), (0, .ref h)]) hx hb dX1_joinLoops_101 hl (by decide) rfl) (fun ls hl => ?_)
                refine jJ_of (fun H locs => lv_aload_n hx hb dX1_joinLoops_103 rfl (lv_at hl 4 rfl)) ?_
                refine jJ_of (fun H locs => lv_iload_n hx hb dX1_joinLoops_104 rfl (lv_at hl 3 rfl)) ?_
                refine jJ_of (fun H locs => lv_iload_n hx hb dX1_joinLoops_105 rfl (lv_at hl 2 rfl)) ?_
                refine jJ_of (fun H locs => lv_iconst (v := (nI 1)) hx hb dX1_joinLoops_106 (by decide)) ?_
                refine jJ_of (fun H locs => jn_iadd hx hb dX1_joinLoops_107) ?_
                rw [nI_iI (j + 1)]
                refine jJ_callV (As := [.int (nI ki), .int (iI ((j + 1 : Nat) : Int))]) (rest := []) (wc := _) (cs2 := []) (C := RX3) (T := TX3) (N := 8) (ci := 2) [0] [] ⟨hx, hb, hml, hown, hts⟩ hK hA hAm (c_Lk_aim hwv ki ((j + 1 : Nat) : Int) (by omega) (by omega)) (cwV 2 hts gX1_joinLoops_X3_aim rfl rfl rfl (by decide +kernel) ⟨Nat.le_of_ble_eq_true rfl, Nat.le_of_ble_eq_true rfl⟩) (nn := 1) rfl (by decide) rfl rfl hwv.hd rfl rfl rfl hl.1 (Nat.le_of_ble_eq_true rfl) dX1_joinLoops_108 (by show _ + 0 ≤ 0; omega) (by show _ + 0 ≤ 0; omega) (fun v u9 k9 n9 hq9 => ?_)
                obtain ⟨rfl, hu9, rfl, rfl⟩ := hq9
                refine jJ_eq (g2 := F0 m 111 ls []) (cs2 := [u9]) rfl rfl ?_
                refine jJ_of (fun H locs => lv_aload_n hx hb dX1_joinLoops_111 rfl (lv_at hl 4 rfl)) ?_
                refine jJ_of (fun H locs => lv_iload_n hx hb dX1_joinLoops_112 rfl (lv_at hl 2 rfl)) ?_
                refine jJ_of (fun H locs => lv_iload_n hx hb dX1_joinLoops_113 rfl (lv_at hl 3 rfl)) ?_
                rw [nI_iI ki]
                refine jJ_callV (As := [.int (nI j), .int (iI ((ki : Nat) : Int))]) (rest := []) (wc := _) (cs2 := []) (C := RX3) (T := TX3) (N := 8) (ci := 2) [0] [] ⟨hx, hb, hml, hown, hts⟩ hK hA hAm (c_Lk_aim hu9 j ((ki : Nat) : Int) (by omega) (by omega)) (cwV 2 hts gX1_joinLoops_X3_aim rfl rfl rfl (by decide +kernel) ⟨Nat.le_of_ble_eq_true rfl, Nat.le_of_ble_eq_true rfl⟩) (nn := 1) rfl (by decide) rfl rfl hu9.hd rfl rfl rfl hl.1 (Nat.le_of_ble_eq_true rfl) dX1_joinLoops_114 (by show _ + 0 ≤ 0; omega) (by show _ + 0 ≤ 0; omega) (fun v u10 k10 n10 hq10 => ?_)
                obtain ⟨rfl, hu10, rfl, rfl⟩ := hq10
                refine jJ_eq (g2 := F0 m 117 ls []) (cs2 := [u10]) rfl rfl ?_
                refine jJ_of (fun H locs => lv_iload hx hb dX1_joinLoops_117 (lv_at hl 0 rfl)) ?_
                refine jJ_ofL (fun H locs => lv_istore_n (lv' := [(1, .int (iI (ts1.getD ki 0))), (4, .int (iI (ts1.getD ki 0))), (3, .int (nI (ks.getD j 0))), (2, .int (nI j)), (0, .ref h)]) hx hb dX1_joinLoops_119 rfl hl (by decide) rfl) (fun ls hl => ?_)
                refine jJ_ofL (fun H locs => lv_iinc (v := (nI (j + 1))) (lv' := [(2, .int (nI (j + 1))), (1, .int (iI (ts1.getD ki 0))), (4, .int (iI (ts1.getD ki 0))), (3, .int (nI (ks.getD j 0))), (0, .ref h)]) hx hb dX1_joinLoops_120 hl (k := 3) rfl (nI_add _ _) (by decide) rfl) (fun ls hl => ?_)
                refine jJ_of (fun H locs => lv_goto (tgt := 4) hx hb dX1_joinLoops_123 (by decide)) ?_
                exact ih (j + 1) _ _ _ (by omega) (by omega) (by omega) (by omega) hu10 (by rw [← hcl, show 8001 - (j + 1) = 8000 - j by omega]; exact ((if_neg (by omega)).trans ((if_neg (by rw [c17]; decide)).trans ((if_neg (by omega)).trans ((if_pos (by omega)).trans (if_neg (by rintro (q | q); omega; exact q c87)))))).symm) ls (lv_sub hl [0, 1, 4] rfl)
              · refine jJ_of (fun H locs => lv_aload_n hx hb dX1_joinLoops_90 rfl (lv_at hl 3 rfl)) ?_
                refine jJ_of (fun H locs => lv_iload_n hx hb dX1_joinLoops_91 rfl (lv_at hl 1 rfl)) ?_
                refine jJ_callV (As := [.int (nI j)]) (rest := []) (wc := _) (cs2 := []) (C := RX3) (T := TX3) (N := 8) (ci := 2) [0] [] ⟨hx, hb, hml, hown, hts⟩ hK hA hAm (c_Lk_numberPlace hwv j (by omega)) (cwV 1 hts gX1_joinLoops_X3_numberPlace rfl rfl rfl (by decide +kernel) ⟨Nat.le_of_ble_eq_true rfl, Nat.le_of_ble_eq_true rfl⟩) (nn := 1) rfl (by decide) rfl rfl hwv.hd rfl rfl rfl hl.1 (Nat.le_of_ble_eq_true rfl) dX1_joinLoops_92 (by show _ + 0 ≤ 0; omega) (by show _ + 0 ≤ 0; omega) (fun v u11 k11 n11 hq11 => ?_)
                obtain ⟨rfl, hw11, rfl, rfl⟩ := hq11
                rw [hw11]
                refine jJ_eq (g2 := F0 m 95 ls [.int (nI (np.getD j 0))]) (cs2 := [wv]) rfl rfl ?_
                have hv11 := hB.2.2.2.1 j
                have he : lkJL N ks lp np lb nu 8001 0 (-1) ts = (((np.getD j 0 : Nat) : Int), ts1) := hcl.symm.trans ((if_neg (by omega)).trans ((if_neg (by rw [c17]; decide)).trans ((if_neg (by omega)).trans ((if_pos (by omega)).trans (if_pos (by first | exact Or.inl (by omega) | exact Or.inr c87))))))
                exact jJ_iret hx hb hr hlocks dX1_joinLoops_95 (by show _ ≤ 0; omega) (by show _ ≤ 0; omega) ⟨by rw [he]; rw [nI_iI], by rw [he]; exact hwv, rfl, rfl⟩
        · refine jJ_of (fun H locs => lv_aload_n hx hb dX1_joinLoops_39 rfl (lv_at hl 3 rfl)) ?_
          refine jJ_of (fun H locs => lv_iload_n hx hb dX1_joinLoops_40 rfl (lv_at hl 1 rfl)) ?_
          refine jJ_of (fun H locs => lv_iload_n hx hb dX1_joinLoops_41 rfl (lv_at hl 2 rfl)) ?_
          refine jJ_callS (As := [.ref h, .int (nI j), .int (iI inn)]) (rest := []) (wc := _) (cs2 := []) [0] [] ⟨hx, hb, hml, hown, hts⟩ hK hA hAm (c_Lk_may hwv j inn (by omega) (by omega)) (va_cwS 3 hts gX1_joinLoops_X1_mayOpen rfl rfl rfl (by decide +kernel) ⟨Nat.le_of_ble_eq_true rfl, Nat.le_of_ble_eq_true rfl⟩) (nn := 1) rfl (by decide) rfl rfl rfl rfl hl.1 (Nat.le_of_ble_eq_true rfl) dX1_joinLoops_42 (by show _ + 0 ≤ 0; omega) (by show _ + 0 ≤ 0; omega) (fun v u12 k12 n12 hq12 => ?_)
          obtain ⟨rfl, hw12, rfl, rfl⟩ := hq12
          rw [hw12]
          refine jJ_eq (g2 := F0 m 45 ls [.int (bI (lkMay nu ts1 j inn))]) (cs2 := [wv]) rfl rfl ?_
          refine jJ_of2 (fun H locs => jb_if_ne (tgt := 54) hx hb dX1_joinLoops_45 (by decide)) (fun c45 => ?_) (fun c45 => ?_)
          · refine jJ_of (fun H locs => lv_aload_n hx hb dX1_joinLoops_54 rfl (lv_at hl 3 rfl)) ?_
            refine jJ_of (fun H locs => lv_iload_n hx hb dX1_joinLoops_55 rfl (lv_at hl 1 rfl)) ?_
            refine jJ_of (fun H locs => lv_iload_n hx hb dX1_joinLoops_56 rfl (lv_at hl 2 rfl)) ?_
            refine jJ_callV (As := [.int (nI j), .int (iI inn)]) (rest := []) (wc := _) (cs2 := []) (C := RX3) (T := TX3) (N := 8) (ci := 2) [0] [] ⟨hx, hb, hml, hown, hts⟩ hK hA hAm (c_Lk_aim hwv j inn (by omega) (by omega)) (cwV 2 hts gX1_joinLoops_X3_aim rfl rfl rfl (by decide +kernel) ⟨Nat.le_of_ble_eq_true rfl, Nat.le_of_ble_eq_true rfl⟩) (nn := 1) rfl (by decide) rfl rfl hwv.hd rfl rfl rfl hl.1 (Nat.le_of_ble_eq_true rfl) dX1_joinLoops_57 (by show _ + 0 ≤ 0; omega) (by show _ + 0 ≤ 0; omega) (fun v u13 k13 n13 hq13 => ?_)
            obtain ⟨rfl, hu13, rfl, rfl⟩ := hq13
            refine jJ_eq (g2 := F0 m 60 ls []) (cs2 := [u13]) rfl rfl ?_
            refine jJ_of (fun H locs => lv_iload_n hx hb dX1_joinLoops_60 rfl (lv_at hl 1 rfl)) ?_
            refine jJ_ofL (fun H locs => lv_istore_n (lv' := [(1, .int (nI j)), (3, .int (nI (ks.getD j 0))), (2, .int (nI j)), (0, .ref h)]) hx hb dX1_joinLoops_61 rfl hl (by decide) rfl) (fun ls hl => ?_)
            refine jJ_of (fun H locs => lv_goto (tgt := 120) hx hb dX1_joinLoops_62 (by decide)) ?_
            refine jJ_ofL (fun H locs => lv_iinc (v := (nI (j + 1))) (lv' := [(2, .int (nI (j + 1))), (1, .int (nI j)), (3, .int (nI (ks.getD j 0))), (0, .ref h)]) hx hb dX1_joinLoops_120 hl (k := 2) rfl (nI_add _ _) (by decide) rfl) (fun ls hl => ?_)
            refine jJ_of (fun H locs => lv_goto (tgt := 4) hx hb dX1_joinLoops_123 (by decide)) ?_
            have hl9 := lv_sub (l' := [(2, .int (nI (j + 1))), (1, .int (nI j)), (0, .ref h)]) hl [0, 1, 3] rfl
            rw [nI_iI j] at hl9
            exact ih (j + 1) (j : Int) _ _ (by omega) (by omega) (by omega) (by omega) hu13 (by rw [← hcl, show 8001 - (j + 1) = 8000 - j by omega]; exact ((if_neg (by omega)).trans ((if_neg (by rw [c17]; decide)).trans ((if_pos (by omega)).trans (if_pos c45)))).symm) ls hl9
          · refine jJ_of (fun H locs => lv_aload_n hx hb dX1_joinLoops_48 rfl (lv_at hl 3 rfl)) ?_
            refine jJ_of (fun H locs => lv_iload_n hx hb dX1_joinLoops_49 rfl (lv_at hl 1 rfl)) ?_
            refine jJ_callV (As := [.int (nI j)]) (rest := []) (wc := _) (cs2 := []) (C := RX3) (T := TX3) (N := 8) (ci := 2) [0] [] ⟨hx, hb, hml, hown, hts⟩ hK hA hAm (c_Lk_numberPlace hwv j (by omega)) (cwV 1 hts gX1_joinLoops_X3_numberPlace rfl rfl rfl (by decide +kernel) ⟨Nat.le_of_ble_eq_true rfl, Nat.le_of_ble_eq_true rfl⟩) (nn := 1) rfl (by decide) rfl rfl hwv.hd rfl rfl rfl hl.1 (Nat.le_of_ble_eq_true rfl) dX1_joinLoops_50 (by show _ + 0 ≤ 0; omega) (by show _ + 0 ≤ 0; omega) (fun v u14 k14 n14 hq14 => ?_)
            obtain ⟨rfl, hw14, rfl, rfl⟩ := hq14
            rw [hw14]
            refine jJ_eq (g2 := F0 m 53 ls [.int (nI (np.getD j 0))]) (cs2 := [wv]) rfl rfl ?_
            have hv14 := hB.2.2.2.1 j
            have he : lkJL N ks lp np lb nu 8001 0 (-1) ts = (((np.getD j 0 : Nat) : Int), ts1) := hcl.symm.trans ((if_neg (by omega)).trans ((if_neg (by rw [c17]; decide)).trans ((if_pos (by omega)).trans (if_neg (by rw [c45]; decide)))))
            exact jJ_iret hx hb hr hlocks dX1_joinLoops_53 (by show _ ≤ 0; omega) (by show _ ≤ 0; omega) ⟨by rw [he]; rw [nI_iI], by rw [he]; exact hwv, rfl, rfl⟩
      · refine jJ_of (fun H locs => lv_aload_n hx hb dX1_joinLoops_20 rfl (lv_at hl 2 rfl)) ?_
        refine jJ_of (fun H locs => lv_iload_n hx hb dX1_joinLoops_21 rfl (lv_at hl 0 rfl)) ?_
        refine jJ_callV (As := [.int (nI j)]) (rest := []) (wc := _) (cs2 := []) (C := RX3) (T := TX3) (N := 8) (ci := 2) [0] [] ⟨hx, hb, hml, hown, hts⟩ hK hA hAm (c_Lk_labelPlace hwv j (by omega)) (cwV 1 hts gX1_joinLoops_X3_labelPlace rfl rfl rfl (by decide +kernel) ⟨Nat.le_of_ble_eq_true rfl, Nat.le_of_ble_eq_true rfl⟩) (nn := 1) rfl (by decide) rfl rfl hwv.hd rfl rfl rfl hl.1 (Nat.le_of_ble_eq_true rfl) dX1_joinLoops_22 (by show _ + 0 ≤ 0; omega) (by show _ + 0 ≤ 0; omega) (fun v u15 k15 n15 hq15 => ?_)
        obtain ⟨rfl, hw15, rfl, rfl⟩ := hq15
        rw [hw15]
        refine jJ_eq (g2 := F0 m 25 ls [.int (nI (lp.getD j 0))]) (cs2 := [wv]) rfl rfl ?_
        have hv15 := hB.2.2.1 j
        have he : lkJL N ks lp np lb nu 8001 0 (-1) ts = (((lp.getD j 0 : Nat) : Int), ts1) := hcl.symm.trans ((if_neg (by omega)).trans (if_pos c17))
        exact jJ_iret hx hb hr hlocks dX1_joinLoops_25 (by show _ ≤ 0; omega) (by show _ ≤ 0; omega) ⟨by rw [he]; rw [nI_iI], by rw [he]; exact hwv, rfl, rfl⟩
set_option maxHeartbeats 4000000 in
set_option maxRecDepth 100000 in
/-- joinGotos(program) -/
theorem c_Lk_jg {h P N : Nat} {c0 c1 : List Int32} {ks lp np : List Nat} {lb nu ts : List Int} {w : va_W} (hw : jLk cI h P N c0 c1 ks lp np lb nu ts w) : HM l yX1_joinGotos wsX1_joinGotos ({ frames := 3, cells := 0, slots := 0, locals := 200 } : Room) D G (jT cI cJ cB cZ) [.ref h] w (fun v u k n => v = some (.int (iI (lkJG N ks np lb nu 8001 0 ts).1)) ∧ jLk cI h P N c0 c1 ks lp np lb nu (lkJG N ks np lb nu 8001 0 ts).2 u ∧ k = 0 ∧ n = 0) := by
  refine HM_of (cc := cX1_joinGotos) (maxL := 4) (ret := (some .int)) (lv := [(0, .ref h)]) (by decide) rfl rfl (Nat.le_of_ble_eq_true rfl) (fun p e s m args below meth c A0 ls hx hb hr hts hown hlocks hml hnm hK hA hAm hl => ?_)
  have hB := hw.b
  refine jJ_of (fun H locs => lv_iconst (v := (nI 0)) hx hb dX1_joinGotos_0 (by decide)) ?_
  refine jJ_ofL (fun H locs => lv_istore_n (lv' := [(1, .int (nI 0)), (0, .ref h)]) hx hb dX1_joinGotos_1 rfl hl (by decide) rfl) (fun ls hl => ?_)
  suffices lp : ∀ (f j : Nat) (ts1 : List Int) (wv : va_W), 8001 - j < f → j ≤ 8000 → jLk cI h P N c0 c1 ks lp np lb nu ts1 wv → lkJG N ks np lb nu (8001 - j) j ts1 = lkJG N ks np lb nu 8001 0 ts → ∀ ls, lv_has ls 4 [(1, .int (nI j)), (0, .ref h)] → jJ p l e _ s m args below meth c D A0 [wv] 0 0 (jEnd below D A0 _ args s _ _) (F0 m 2 ls []) from lp 8002 0 ts _ (by omega) (by omega) hw rfl ls (lv_sub hl [0, 1] rfl)
  intro f
  induction f with
  | zero => intro j ts1 wv h9; exact absurd h9 (Nat.not_lt_zero _)
  | succ f ih =>
    intro j ts1 wv h9 hj9 hwv hcl ls hl
    have hlfb := lkFirst_b lb (nu.getD j 0) N
    replace hcl := (lkJG_s N ks np lb nu (8000 - j) j ts1).symm.trans (show lkJG N ks np lb nu (8000 - j + 1) j ts1 = lkJG N ks np lb nu 8001 0 ts by rw [show 8000 - j + 1 = 8001 - j by omega]; exact hcl)
    refine jJ_of (fun H locs => lv_iload_n hx hb dX1_joinGotos_2 rfl (lv_at hl 0 rfl)) ?_
    refine jJ_of (fun H locs => lv_aload_n hx hb dX1_joinGotos_3 rfl (lv_at hl 1 rfl)) ?_
    refine jJ_callV (As := []) (rest := [.int (nI j)]) (wc := _) (cs2 := []) (C := RX3) (T := TX3) (N := 8) (ci := 2) [0] [] ⟨hx, hb, hml, hown, hts⟩ hK hA hAm (c_Lk_size hwv) (cwV 0 hts gX1_joinGotos_X3_size rfl rfl rfl (by decide +kernel) ⟨Nat.le_of_ble_eq_true rfl, Nat.le_of_ble_eq_true rfl⟩) (nn := 1) rfl (by decide) rfl rfl hwv.hd rfl rfl rfl hl.1 (Nat.le_of_ble_eq_true rfl) dX1_joinGotos_4 (by show _ + 0 ≤ 0; omega) (by show _ + 0 ≤ 0; omega) (fun v u1 k1 n1 hq1 => ?_)
    obtain ⟨rfl, hw1, rfl, rfl⟩ := hq1
    rw [hw1]
    refine jJ_eq (g2 := F0 m 7 ls [.int (nI N), .int (nI j)]) (cs2 := [wv]) rfl rfl ?_
    refine jJ_of2 (fun H locs => jn_icmp_ge (tgt := 70) hx hb dX1_joinGotos_7 (by decide) (by omega) (by omega)) (fun c7 => ?_) (fun c7 => ?_)
    · refine jJ_of (fun H locs => lv_iconst (v := (iI (-1))) hx hb dX1_joinGotos_70 (by decide)) ?_
      have he : lkJG N ks np lb nu 8001 0 ts = (((-1) : Int), ts1) := hcl.symm.trans (if_pos (by omega))
      exact jJ_iret hx hb hr hlocks dX1_joinGotos_71 (by show _ ≤ 0; omega) (by show _ ≤ 0; omega) ⟨by rw [he], by rw [he]; exact hwv, rfl, rfl⟩
    · refine jJ_of (fun H locs => lv_aload_n hx hb dX1_joinGotos_10 rfl (lv_at hl 1 rfl)) ?_
      refine jJ_of (fun H locs => lv_iload_n hx hb dX1_joinGotos_11 rfl (lv_at hl 0 rfl)) ?_
      refine jJ_callV (As := [.int (nI j)]) (rest := []) (wc := _) (cs2 := []) (C := RX3) (T := TX3) (N := 8) (ci := 2) [0] [] ⟨hx, hb, hml, hown, hts⟩ hK hA hAm (c_Lk_kindOf hwv j (by omega)) (cwV 1 hts gX1_joinGotos_X3_kindOf rfl rfl rfl (by decide +kernel) ⟨Nat.le_of_ble_eq_true rfl, Nat.le_of_ble_eq_true rfl⟩) (nn := 1) rfl (by decide) rfl rfl hwv.hd rfl rfl rfl hl.1 (Nat.le_of_ble_eq_true rfl) dX1_joinGotos_12 (by show _ + 0 ≤ 0; omega) (by show _ + 0 ≤ 0; omega) (fun v u2 k2 n2 hq2 => ?_)
      obtain ⟨rfl, hw2, rfl, rfl⟩ := hq2
      rw [hw2]
      refine jJ_eq (g2 := F0 m 15 ls [.int (nI (ks.getD j 0))]) (cs2 := [wv]) rfl rfl ?_
      have hv2 := hB.2.1 j
      refine jJ_ofL (fun H locs => lv_istore_n (lv' := [(2, .int (nI (ks.getD j 0))), (1, .int (nI j)), (0, .ref h)]) hx hb dX1_joinGotos_15 rfl hl (by decide) rfl) (fun ls hl => ?_)
      refine jJ_of (fun H locs => lv_iload_n hx hb dX1_joinGotos_16 rfl (lv_at hl 0 rfl)) ?_
      refine jJ_of (fun H locs => lv_sipush (v := (nI 301)) hx hb dX1_joinGotos_17 (by decide)) ?_
      refine jJ_of2 (fun H locs => jn_icmp_eq (tgt := 30) hx hb dX1_joinGotos_20 (by decide) (by omega) (by omega)) (fun c20 => ?_) (fun c20 => ?_)
      · refine jJ_of (fun H locs => lv_aload_n hx hb dX1_joinGotos_30 rfl (lv_at hl 2 rfl)) ?_
        refine jJ_of (fun H locs => lv_aload_n hx hb dX1_joinGotos_31 rfl (lv_at hl 2 rfl)) ?_
        refine jJ_of (fun H locs => lv_iload_n hx hb dX1_joinGotos_32 rfl (lv_at hl 1 rfl)) ?_
        refine jJ_callV (As := [.int (nI j)]) (rest := [.ref h]) (wc := _) (cs2 := []) (C := RX3) (T := TX3) (N := 8) (ci := 2) [0] [] ⟨hx, hb, hml, hown, hts⟩ hK hA hAm (c_Lk_number hwv j (by omega)) (cwV 1 hts gX1_joinGotos_X3_number rfl rfl rfl (by decide +kernel) ⟨Nat.le_of_ble_eq_true rfl, Nat.le_of_ble_eq_true rfl⟩) (nn := 1) rfl (by decide) rfl rfl hwv.hd rfl rfl rfl hl.1 (Nat.le_of_ble_eq_true rfl) dX1_joinGotos_33 (by show _ + 0 ≤ 0; omega) (by show _ + 0 ≤ 0; omega) (fun v u3 k3 n3 hq3 => ?_)
        obtain ⟨rfl, hw3, rfl, rfl⟩ := hq3
        rw [hw3]
        refine jJ_eq (g2 := F0 m 36 ls [.int (iI (nu.getD j 0)), .ref h]) (cs2 := [wv]) rfl rfl ?_
        have hv3 := hB.2.2.2.2.2.1 j
        refine jJ_of (fun H locs => lv_aload_n hx hb dX1_joinGotos_36 rfl (lv_at hl 2 rfl)) ?_
        refine jJ_callV (As := []) (rest := [.int (iI (nu.getD j 0)), .ref h]) (wc := _) (cs2 := []) (C := RX3) (T := TX3) (N := 8) (ci := 2) [0] [] ⟨hx, hb, hml, hown, hts⟩ hK hA hAm (c_Lk_size hwv) (cwV 0 hts gX1_joinGotos_X3_size rfl rfl rfl (by decide +kernel) ⟨Nat.le_of_ble_eq_true rfl, Nat.le_of_ble_eq_true rfl⟩) (nn := 1) rfl (by decide) rfl rfl hwv.hd rfl rfl rfl hl.1 (Nat.le_of_ble_eq_true rfl) dX1_joinGotos_37 (by show _ + 0 ≤ 0; omega) (by show _ + 0 ≤ 0; omega) (fun v u4 k4 n4 hq4 => ?_)
        obtain ⟨rfl, hw4, rfl, rfl⟩ := hq4
        rw [hw4]
        refine jJ_eq (g2 := F0 m 40 ls [.int (nI N), .int (iI (nu.getD j 0)), .ref h]) (cs2 := [wv]) rfl rfl ?_
        refine jJ_callV (As := [.int (iI (nu.getD j 0)), .int (nI N)]) (rest := []) (wc := _) (cs2 := []) (C := RX3) (T := TX3) (N := 8) (ci := 2) [0] [] ⟨hx, hb, hml, hown, hts⟩ hK hA hAm (c_Lk_labelled hwv (nu.getD j 0) N (by omega) (by omega)) (cwV 2 hts gX1_joinGotos_X3_labelled rfl rfl rfl (by decide +kernel) ⟨Nat.le_of_ble_eq_true rfl, Nat.le_of_ble_eq_true rfl⟩) (nn := 1) rfl (by decide) rfl rfl hwv.hd rfl rfl rfl hl.1 (Nat.le_of_ble_eq_true rfl) dX1_joinGotos_40 (by show _ + 0 ≤ 0; omega) (by show _ + 0 ≤ 0; omega) (fun v u5 k5 n5 hq5 => ?_)
        obtain ⟨rfl, hw5, rfl, rfl⟩ := hq5
        rw [hw5]
        refine jJ_eq (g2 := F0 m 43 ls [.int (nI (lkFirst lb (nu.getD j 0) N))]) (cs2 := [wv]) rfl rfl ?_
        have hlf5 := lkF_b lb (nu.getD j 0) N N 0
        refine jJ_ofL (fun H locs => lv_istore_n (lv' := [(3, .int (nI (lkFirst lb (nu.getD j 0) N))), (2, .int (nI (ks.getD j 0))), (1, .int (nI j)), (0, .ref h)]) hx hb dX1_joinGotos_43 rfl hl (by decide) rfl) (fun ls hl => ?_)
        refine jJ_of (fun H locs => lv_iload_n hx hb dX1_joinGotos_44 rfl (lv_at hl 0 rfl)) ?_
        refine jJ_of (fun H locs => lv_aload_n hx hb dX1_joinGotos_45 rfl (lv_at hl 3 rfl)) ?_
        refine jJ_callV (As := []) (rest := [.int (nI (lkFirst lb (nu.getD j 0) N))]) (wc := _) (cs2 := []) (C := RX3) (T := TX3) (N := 8) (ci := 2) [0] [] ⟨hx, hb, hml, hown, hts⟩ hK hA hAm (c_Lk_size hwv) (cwV 0 hts gX1_joinGotos_X3_size rfl rfl rfl (by decide +kernel) ⟨Nat.le_of_ble_eq_true rfl, Nat.le_of_ble_eq_true rfl⟩) (nn := 1) rfl (by decide) rfl rfl hwv.hd rfl rfl rfl hl.1 (Nat.le_of_ble_eq_true rfl) dX1_joinGotos_46 (by show _ + 0 ≤ 0; omega) (by show _ + 0 ≤ 0; omega) (fun v u6 k6 n6 hq6 => ?_)
        obtain ⟨rfl, hw6, rfl, rfl⟩ := hq6
        rw [hw6]
        refine jJ_eq (g2 := F0 m 49 ls [.int (nI N), .int (nI (lkFirst lb (nu.getD j 0) N))]) (cs2 := [wv]) rfl rfl ?_
        refine jJ_of2 (fun H locs => jn_icmp_ne (tgt := 58) hx hb dX1_joinGotos_49 (by decide) (by omega) (by omega)) (fun c49 => ?_) (fun c49 => ?_)
        · refine jJ_of (fun H locs => lv_aload_n hx hb dX1_joinGotos_58 rfl (lv_at hl 3 rfl)) ?_
          refine jJ_of (fun H locs => lv_iload_n hx hb dX1_joinGotos_59 rfl (lv_at hl 2 rfl)) ?_
          refine jJ_of (fun H locs => lv_iload_n hx hb dX1_joinGotos_60 rfl (lv_at hl 0 rfl)) ?_
          rw [nI_iI (lkFirst lb (nu.getD j 0) N)]
          refine jJ_callV (As := [.int (nI j), .int (iI ((lkFirst lb (nu.getD j 0) N : Nat) : Int))]) (rest := []) (wc := _) (cs2 := []) (C := RX3) (T := TX3) (N := 8) (ci := 2) [0] [] ⟨hx, hb, hml, hown, hts⟩ hK hA hAm (c_Lk_aim hwv j ((lkFirst lb (nu.getD j 0) N : Nat) : Int) (by omega) (by omega)) (cwV 2 hts gX1_joinGotos_X3_aim rfl rfl rfl (by decide +kernel) ⟨Nat.le_of_ble_eq_true rfl, Nat.le_of_ble_eq_true rfl⟩) (nn := 1) rfl (by decide) rfl rfl hwv.hd rfl rfl rfl hl.1 (Nat.le_of_ble_eq_true rfl) dX1_joinGotos_61 (by show _ + 0 ≤ 0; omega) (by show _ + 0 ≤ 0; omega) (fun v u7 k7 n7 hq7 => ?_)
          obtain ⟨rfl, hu7, rfl, rfl⟩ := hq7
          refine jJ_eq (g2 := F0 m 64 ls []) (cs2 := [u7]) rfl rfl ?_
          refine jJ_ofL (fun H locs => lv_iinc (v := (nI (j + 1))) (lv' := [(1, .int (nI (j + 1))), (3, .int (nI (lkFirst lb (nu.getD j 0) N))), (2, .int (nI (ks.getD j 0))), (0, .ref h)]) hx hb dX1_joinGotos_64 hl (k := 2) rfl (nI_add _ _) (by decide) rfl) (fun ls hl => ?_)
          refine jJ_of (fun H locs => lv_goto (tgt := 2) hx hb dX1_joinGotos_67 (by decide)) ?_
          exact ih (j + 1) _ _ (by omega) (by omega) hu7 (by rw [← hcl, show 8001 - (j + 1) = 8000 - j by omega]; exact ((if_neg (by omega)).trans ((if_pos (by omega)).trans (if_neg (by omega)))).symm) ls (lv_sub hl [0, 3] rfl)
        · refine jJ_of (fun H locs => lv_aload_n hx hb dX1_joinGotos_52 rfl (lv_at hl 3 rfl)) ?_
          refine jJ_of (fun H locs => lv_iload_n hx hb dX1_joinGotos_53 rfl (lv_at hl 2 rfl)) ?_
          refine jJ_callV (As := [.int (nI j)]) (rest := []) (wc := _) (cs2 := []) (C := RX3) (T := TX3) (N := 8) (ci := 2) [0] [] ⟨hx, hb, hml, hown, hts⟩ hK hA hAm (c_Lk_numberPlace hwv j (by omega)) (cwV 1 hts gX1_joinGotos_X3_numberPlace rfl rfl rfl (by decide +kernel) ⟨Nat.le_of_ble_eq_true rfl, Nat.le_of_ble_eq_true rfl⟩) (nn := 1) rfl (by decide) rfl rfl hwv.hd rfl rfl rfl hl.1 (Nat.le_of_ble_eq_true rfl) dX1_joinGotos_54 (by show _ + 0 ≤ 0; omega) (by show _ + 0 ≤ 0; omega) (fun v u8 k8 n8 hq8 => ?_)
          obtain ⟨rfl, hw8, rfl, rfl⟩ := hq8
          rw [hw8]
          refine jJ_eq (g2 := F0 m 57 ls [.int (nI (np.getD j 0))]) (cs2 := [wv]) rfl rfl ?_
          have hv8 := hB.2.2.2.1 j
          have he : lkJG N ks np lb nu 8001 0 ts = (((np.getD j 0 : Nat) : Int), ts1) := hcl.symm.trans ((if_neg (by omega)).trans ((if_pos (by omega)).trans (if_pos (by omega))))
          exact jJ_iret hx hb hr hlocks dX1_joinGotos_57 (by show _ ≤ 0; omega) (by show _ ≤ 0; omega) ⟨by rw [he]; rw [nI_iI], by rw [he]; exact hwv, rfl, rfl⟩
      · refine jJ_of (fun H locs => lv_iload_n hx hb dX1_joinGotos_23 rfl (lv_at hl 0 rfl)) ?_
        refine jJ_of (fun H locs => lv_sipush (v := (nI 300)) hx hb dX1_joinGotos_24 (by decide)) ?_
        refine jJ_of2 (fun H locs => jn_icmp_ne (tgt := 64) hx hb dX1_joinGotos_27 (by decide) (by omega) (by omega)) (fun c27 => ?_) (fun c27 => ?_)
        · refine jJ_ofL (fun H locs => lv_iinc (v := (nI (j + 1))) (lv' := [(1, .int (nI (j + 1))), (2, .int (nI (ks.getD j 0))), (0, .ref h)]) hx hb dX1_joinGotos_64 hl (k := 1) rfl (nI_add _ _) (by decide) rfl) (fun ls hl => ?_)
          refine jJ_of (fun H locs => lv_goto (tgt := 2) hx hb dX1_joinGotos_67 (by decide)) ?_
          exact ih (j + 1) _ _ (by omega) (by omega) hwv (by rw [← hcl, show 8001 - (j + 1) = 8000 - j by omega]; exact ((if_neg (by omega)).trans (if_neg (by omega))).symm) ls (lv_sub hl [0, 2] rfl)
        · refine jJ_of (fun H locs => lv_aload_n hx hb dX1_joinGotos_30 rfl (lv_at hl 2 rfl)) ?_
          refine jJ_of (fun H locs => lv_aload_n hx hb dX1_joinGotos_31 rfl (lv_at hl 2 rfl)) ?_
          refine jJ_of (fun H locs => lv_iload_n hx hb dX1_joinGotos_32 rfl (lv_at hl 1 rfl)) ?_
          refine jJ_callV (As := [.int (nI j)]) (rest := [.ref h]) (wc := _) (cs2 := []) (C := RX3) (T := TX3) (N := 8) (ci := 2) [0] [] ⟨hx, hb, hml, hown, hts⟩ hK hA hAm (c_Lk_number hwv j (by omega)) (cwV 1 hts gX1_joinGotos_X3_number rfl rfl rfl (by decide +kernel) ⟨Nat.le_of_ble_eq_true rfl, Nat.le_of_ble_eq_true rfl⟩) (nn := 1) rfl (by decide) rfl rfl hwv.hd rfl rfl rfl hl.1 (Nat.le_of_ble_eq_true rfl) dX1_joinGotos_33 (by show _ + 0 ≤ 0; omega) (by show _ + 0 ≤ 0; omega) (fun v u9 k9 n9 hq9 => ?_)
          obtain ⟨rfl, hw9, rfl, rfl⟩ := hq9
          rw [hw9]
          refine jJ_eq (g2 := F0 m 36 ls [.int (iI (nu.getD j 0)), .ref h]) (cs2 := [wv]) rfl rfl ?_
          have hv9 := hB.2.2.2.2.2.1 j
          refine jJ_of (fun H locs => lv_aload_n hx hb dX1_joinGotos_36 rfl (lv_at hl 2 rfl)) ?_
          refine jJ_callV (As := []) (rest := [.int (iI (nu.getD j 0)), .ref h]) (wc := _) (cs2 := []) (C := RX3) (T := TX3) (N := 8) (ci := 2) [0] [] ⟨hx, hb, hml, hown, hts⟩ hK hA hAm (c_Lk_size hwv) (cwV 0 hts gX1_joinGotos_X3_size rfl rfl rfl (by decide +kernel) ⟨Nat.le_of_ble_eq_true rfl, Nat.le_of_ble_eq_true rfl⟩) (nn := 1) rfl (by decide) rfl rfl hwv.hd rfl rfl rfl hl.1 (Nat.le_of_ble_eq_true rfl) dX1_joinGotos_37 (by show _ + 0 ≤ 0; omega) (by show _ + 0 ≤ 0; omega) (fun v u10 k10 n10 hq10 => ?_)
          obtain ⟨rfl, hw10, rfl, rfl⟩ := hq10
          rw [hw10]
          refine jJ_eq (g2 := F0 m 40 ls [.int (nI N), .int (iI (nu.getD j 0)), .ref h]) (cs2 := [wv]) rfl rfl ?_
          refine jJ_callV (As := [.int (iI (nu.getD j 0)), .int (nI N)]) (rest := []) (wc := _) (cs2 := []) (C := RX3) (T := TX3) (N := 8) (ci := 2) [0] [] ⟨hx, hb, hml, hown, hts⟩ hK hA hAm (c_Lk_labelled hwv (nu.getD j 0) N (by omega) (by omega)) (cwV 2 hts gX1_joinGotos_X3_labelled rfl rfl rfl (by decide +kernel) ⟨Nat.le_of_ble_eq_true rfl, Nat.le_of_ble_eq_true rfl⟩) (nn := 1) rfl (by decide) rfl rfl hwv.hd rfl rfl rfl hl.1 (Nat.le_of_ble_eq_true rfl) dX1_joinGotos_40 (by show _ + 0 ≤ 0; omega) (by show _ + 0 ≤ 0; omega) (fun v u11 k11 n11 hq11 => ?_)
          obtain ⟨rfl, hw11, rfl, rfl⟩ := hq11
          rw [hw11]
          refine jJ_eq (g2 := F0 m 43 ls [.int (nI (lkFirst lb (nu.getD j 0) N))]) (cs2 := [wv]) rfl rfl ?_
          have hlf11 := lkF_b lb (nu.getD j 0) N N 0
          refine jJ_ofL (fun H locs => lv_istore_n (lv' := [(3, .int (nI (lkFirst lb (nu.getD j 0) N))), (2, .int (nI (ks.getD j 0))), (1, .int (nI j)), (0, .ref h)]) hx hb dX1_joinGotos_43 rfl hl (by decide) rfl) (fun ls hl => ?_)
          refine jJ_of (fun H locs => lv_iload_n hx hb dX1_joinGotos_44 rfl (lv_at hl 0 rfl)) ?_
          refine jJ_of (fun H locs => lv_aload_n hx hb dX1_joinGotos_45 rfl (lv_at hl 3 rfl)) ?_
          refine jJ_callV (As := []) (rest := [.int (nI (lkFirst lb (nu.getD j 0) N))]) (wc := _) (cs2 := []) (C := RX3) (T := TX3) (N := 8) (ci := 2) [0] [] ⟨hx, hb, hml, hown, hts⟩ hK hA hAm (c_Lk_size hwv) (cwV 0 hts gX1_joinGotos_X3_size rfl rfl rfl (by decide +kernel) ⟨Nat.le_of_ble_eq_true rfl, Nat.le_of_ble_eq_true rfl⟩) (nn := 1) rfl (by decide) rfl rfl hwv.hd rfl rfl rfl hl.1 (Nat.le_of_ble_eq_true rfl) dX1_joinGotos_46 (by show _ + 0 ≤ 0; omega) (by show _ + 0 ≤ 0; omega) (fun v u12 k12 n12 hq12 => ?_)
          obtain ⟨rfl, hw12, rfl, rfl⟩ := hq12
          rw [hw12]
          refine jJ_eq (g2 := F0 m 49 ls [.int (nI N), .int (nI (lkFirst lb (nu.getD j 0) N))]) (cs2 := [wv]) rfl rfl ?_
          refine jJ_of2 (fun H locs => jn_icmp_ne (tgt := 58) hx hb dX1_joinGotos_49 (by decide) (by omega) (by omega)) (fun c49 => ?_) (fun c49 => ?_)
          · refine jJ_of (fun H locs => lv_aload_n hx hb dX1_joinGotos_58 rfl (lv_at hl 3 rfl)) ?_
            refine jJ_of (fun H locs => lv_iload_n hx hb dX1_joinGotos_59 rfl (lv_at hl 2 rfl)) ?_
            refine jJ_of (fun H locs => lv_iload_n hx hb dX1_joinGotos_60 rfl (lv_at hl 0 rfl)) ?_
            rw [nI_iI (lkFirst lb (nu.getD j 0) N)]
            refine jJ_callV (As := [.int (nI j), .int (iI ((lkFirst lb (nu.getD j 0) N : Nat) : Int))]) (rest := []) (wc := _) (cs2 := []) (C := RX3) (T := TX3) (N := 8) (ci := 2) [0] [] ⟨hx, hb, hml, hown, hts⟩ hK hA hAm (c_Lk_aim hwv j ((lkFirst lb (nu.getD j 0) N : Nat) : Int) (by omega) (by omega)) (cwV 2 hts gX1_joinGotos_X3_aim rfl rfl rfl (by decide +kernel) ⟨Nat.le_of_ble_eq_true rfl, Nat.le_of_ble_eq_true rfl⟩) (nn := 1) rfl (by decide) rfl rfl hwv.hd rfl rfl rfl hl.1 (Nat.le_of_ble_eq_true rfl) dX1_joinGotos_61 (by show _ + 0 ≤ 0; omega) (by show _ + 0 ≤ 0; omega) (fun v u13 k13 n13 hq13 => ?_)
            obtain ⟨rfl, hu13, rfl, rfl⟩ := hq13
            refine jJ_eq (g2 := F0 m 64 ls []) (cs2 := [u13]) rfl rfl ?_
            refine jJ_ofL (fun H locs => lv_iinc (v := (nI (j + 1))) (lv' := [(1, .int (nI (j + 1))), (3, .int (nI (lkFirst lb (nu.getD j 0) N))), (2, .int (nI (ks.getD j 0))), (0, .ref h)]) hx hb dX1_joinGotos_64 hl (k := 2) rfl (nI_add _ _) (by decide) rfl) (fun ls hl => ?_)
            refine jJ_of (fun H locs => lv_goto (tgt := 2) hx hb dX1_joinGotos_67 (by decide)) ?_
            exact ih (j + 1) _ _ (by omega) (by omega) hu13 (by rw [← hcl, show 8001 - (j + 1) = 8000 - j by omega]; exact ((if_neg (by omega)).trans ((if_pos (by omega)).trans (if_neg (by omega)))).symm) ls (lv_sub hl [0, 3] rfl)
          · refine jJ_of (fun H locs => lv_aload_n hx hb dX1_joinGotos_52 rfl (lv_at hl 3 rfl)) ?_
            refine jJ_of (fun H locs => lv_iload_n hx hb dX1_joinGotos_53 rfl (lv_at hl 2 rfl)) ?_
            refine jJ_callV (As := [.int (nI j)]) (rest := []) (wc := _) (cs2 := []) (C := RX3) (T := TX3) (N := 8) (ci := 2) [0] [] ⟨hx, hb, hml, hown, hts⟩ hK hA hAm (c_Lk_numberPlace hwv j (by omega)) (cwV 1 hts gX1_joinGotos_X3_numberPlace rfl rfl rfl (by decide +kernel) ⟨Nat.le_of_ble_eq_true rfl, Nat.le_of_ble_eq_true rfl⟩) (nn := 1) rfl (by decide) rfl rfl hwv.hd rfl rfl rfl hl.1 (Nat.le_of_ble_eq_true rfl) dX1_joinGotos_54 (by show _ + 0 ≤ 0; omega) (by show _ + 0 ≤ 0; omega) (fun v u14 k14 n14 hq14 => ?_)
            obtain ⟨rfl, hw14, rfl, rfl⟩ := hq14
            rw [hw14]
            refine jJ_eq (g2 := F0 m 57 ls [.int (nI (np.getD j 0))]) (cs2 := [wv]) rfl rfl ?_
            have hv14 := hB.2.2.2.1 j
            have he : lkJG N ks np lb nu 8001 0 ts = (((np.getD j 0 : Nat) : Int), ts1) := hcl.symm.trans ((if_neg (by omega)).trans ((if_pos (by omega)).trans (if_pos (by omega))))
            exact jJ_iret hx hb hr hlocks dX1_joinGotos_57 (by show _ ≤ 0; omega) (by show _ ≤ 0; omega) ⟨by rw [he]; rw [nI_iI], by rw [he]; exact hwv, rfl, rfl⟩
theorem lkJL_b (N : Nat) (ks lp np : List Nat) (lb nu : List Int) (h1 : ∀ j, lp.getD j 0 < 1000000000) (h2 : ∀ j, np.getD j 0 < 1000000000) : ∀ (f j : Nat) (inn : Int) (ts : List Int), -1 ≤ (lkJL N ks lp np lb nu f j inn ts).1 ∧ (lkJL N ks lp np lb nu f j inn ts).1 < 1000000000
  | 0, _, _, _ => by show -1 ≤ (-1 : Int) ∧ (-1 : Int) < 1000000000; omega
  | f + 1, j, inn, ts => by
    rw [lkJL_s]
    have a1 := h1 j
    have a2 := h2 j
    (repeat' split)
    · exact lkOut_b np ts h2 3 inn (-1) (by omega)
    · show -1 ≤ ((lp.getD j 0 : Nat) : Int) ∧ ((lp.getD j 0 : Nat) : Int) < 1000000000; omega
    · exact lkJL_b N ks lp np lb nu h1 h2 f _ _ _
    · show -1 ≤ ((np.getD j 0 : Nat) : Int) ∧ ((np.getD j 0 : Nat) : Int) < 1000000000; omega
    · show -1 ≤ ((np.getD j 0 : Nat) : Int) ∧ ((np.getD j 0 : Nat) : Int) < 1000000000; omega
    · exact lkJL_b N ks lp np lb nu h1 h2 f _ _ _
    · exact lkJL_b N ks lp np lb nu h1 h2 f _ _ _
theorem lkJG_b (N : Nat) (ks np : List Nat) (lb nu : List Int) (h2 : ∀ j, np.getD j 0 < 1000000000) : ∀ (f j : Nat) (ts : List Int), -1 ≤ (lkJG N ks np lb nu f j ts).1 ∧ (lkJG N ks np lb nu f j ts).1 < 1000000000
  | 0, _, _ => by show -1 ≤ (-1 : Int) ∧ (-1 : Int) < 1000000000; omega
  | f + 1, j, ts => by
    rw [lkJG_s]
    have a2 := h2 j
    (repeat' split)
    · show -1 ≤ (-1 : Int) ∧ (-1 : Int) < 1000000000; omega
    · show -1 ≤ ((np.getD j 0 : Nat) : Int) ∧ ((np.getD j 0 : Nat) : Int) < 1000000000; omega
    · exact lkJG_b N ks np lb nu h2 f _ _
    · exact lkJG_b N ks np lb nu h2 f _ _
/-- the faults 2 and the targets -/
def lkJoin (N : Nat) (ks lp np : List Nat) (lb nu ts : List Int) : Int × List Int := if (lkJL N ks lp np lb nu 8001 0 (-1) ts).1 = -1 then lkJG N ks np lb nu 8001 0 (lkJL N ks lp np lb nu 8001 0 (-1) ts).2 else lkJL N ks lp np lb nu 8001 0 (-1) ts
theorem lkJoin_b (N : Nat) (ks lp np : List Nat) (lb nu ts : List Int) (h1 : ∀ j, lp.getD j 0 < 1000000000) (h2 : ∀ j, np.getD j 0 < 1000000000) : -1 ≤ (lkJoin N ks lp np lb nu ts).1 ∧ (lkJoin N ks lp np lb nu ts).1 < 1000000000 := by
  unfold lkJoin
  split
  · exact lkJG_b N ks np lb nu h2 _ _ _
  · exact lkJL_b N ks lp np lb nu h1 h2 _ _ _ _
set_option maxHeartbeats 4000000 in
set_option maxRecDepth 100000 in
/-- join(program) -/
theorem c_Lk_join {h P N : Nat} {c0 c1 : List Int32} {ks lp np : List Nat} {lb nu ts : List Int} {w : va_W} (hw : jLk cI h P N c0 c1 ks lp np lb nu ts w) : HM l yX1_join wsX1_join ({ frames := 4, cells := 0, slots := 0, locals := 260 } : Room) D G (jT cI cJ cB cZ) [.ref h] w (fun v u k n => v = some (.int (iI (lkJoin N ks lp np lb nu ts).1)) ∧ jLk cI h P N c0 c1 ks lp np lb nu (lkJoin N ks lp np lb nu ts).2 u ∧ k = 0 ∧ n = 0) := by
  refine HM_of (cc := cX1_join) (maxL := 2) (ret := (some .int)) (lv := [(0, .ref h)]) (by decide) rfl rfl (Nat.le_of_ble_eq_true rfl) (fun p e s m args below meth c A0 ls hx hb hr hts hown hlocks hml hnm hK hA hAm hl => ?_)
  have hB := hw.b
  have hjb := lkJL_b N ks lp np lb nu hB.2.2.1 hB.2.2.2.1 8001 0 (-1) ts
  refine jJ_of (fun H locs => lv_aload_n hx hb dX1_join_0 rfl (lv_at hl 0 rfl)) ?_
  refine jJ_callS (As := [.ref h]) (rest := []) (wc := _) (cs2 := []) [0] [] ⟨hx, hb, hml, hown, hts⟩ hK hA hAm (c_Lk_jl hw) (va_cwS 1 hts gX1_join_X1_joinLoops rfl rfl rfl (by decide +kernel) ⟨Nat.le_of_ble_eq_true rfl, Nat.le_of_ble_eq_true rfl⟩) (nn := 1) rfl (by decide) rfl rfl rfl rfl hl.1 (Nat.le_of_ble_eq_true rfl) dX1_join_1 (by show _ + 0 ≤ 0; omega) (by show _ + 0 ≤ 0; omega) (fun v u1 k1 n1 hq1 => ?_)
  obtain ⟨rfl, hu1, rfl, rfl⟩ := hq1
  refine jJ_eq (g2 := F0 m 4 ls [.int (iI ((lkJL N ks lp np lb nu 8001 0 (-1) ts).1))]) (cs2 := [u1]) rfl rfl ?_
  refine jJ_ofL (fun H locs => lv_istore_n (lv' := [(1, .int (iI ((lkJL N ks lp np lb nu 8001 0 (-1) ts).1))), (0, .ref h)]) hx hb dX1_join_4 rfl hl (by decide) rfl) (fun ls hl => ?_)
  refine jJ_of (fun H locs => lv_iload_n hx hb dX1_join_5 rfl (lv_at hl 0 rfl)) ?_
  refine jJ_of (fun H locs => lv_iconst (v := (iI (-1))) hx hb dX1_join_6 (by decide)) ?_
  refine jJ_of2 (fun H locs => jz_icmp_eq (tgt := 14) hx hb dX1_join_7 (by decide) (by omega) (by omega) (by omega) (by omega)) (fun c7 => ?_) (fun c7 => ?_)
  · refine jJ_of (fun H locs => lv_aload_n hx hb dX1_join_14 rfl (lv_at hl 1 rfl)) ?_
    refine jJ_callS (As := [.ref h]) (rest := []) (wc := _) (cs2 := []) [0] [] ⟨hx, hb, hml, hown, hts⟩ hK hA hAm (c_Lk_jg hu1) (va_cwS 1 hts gX1_join_X1_joinGotos rfl rfl rfl (by decide +kernel) ⟨Nat.le_of_ble_eq_true rfl, Nat.le_of_ble_eq_true rfl⟩) (nn := 1) rfl (by decide) rfl rfl rfl rfl hl.1 (Nat.le_of_ble_eq_true rfl) dX1_join_15 (by show _ + 0 ≤ 0; omega) (by show _ + 0 ≤ 0; omega) (fun v u2 k2 n2 hq2 => ?_)
    obtain ⟨rfl, hu2, rfl, rfl⟩ := hq2
    refine jJ_eq (g2 := F0 m 18 ls [.int (iI ((lkJG N ks np lb nu 8001 0 ((lkJL N ks lp np lb nu 8001 0 (-1) ts).2)).1))]) (cs2 := [u2]) rfl rfl ?_
    have he : lkJoin N ks lp np lb nu ts = _ := if_pos (by omega)
    exact jJ_iret hx hb hr hlocks dX1_join_18 (by show _ ≤ 0; omega) (by show _ ≤ 0; omega) ⟨by rw [he], by rw [he]; exact hu2, rfl, rfl⟩
  · refine jJ_of (fun H locs => lv_iload_n hx hb dX1_join_10 rfl (lv_at hl 0 rfl)) ?_
    refine jJ_of (fun H locs => lv_goto (tgt := 18) hx hb dX1_join_11 (by decide)) ?_
    have he : lkJoin N ks lp np lb nu ts = _ := if_neg (by omega)
    exact jJ_iret hx hb hr hlocks dX1_join_18 (by show _ ≤ 0; omega) (by show _ ≤ 0; omega) ⟨by rw [he], by rw [he]; exact hu1, rfl, rfl⟩
end LK
