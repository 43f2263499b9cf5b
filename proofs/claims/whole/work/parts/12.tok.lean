/-! ValueBlocks$Tokens: the tray's text T, the tokens' kinds tk 0, starts tk 1, worths tk 2, the next byte nx -/
def jTkW (h hT : Nat) (a : Nat → Nat) (nx : Nat) (wT : va_W) (v : Nat → va_W) : List va_W := [[(h, .inr (5, [.ref hT, .ref (a 0), .ref (a 1), .ref (a 2), .int (nI nx)]))], wT, v 0, v 1, v 2]
def jTok (cI : ClassId) (h hT P : Nat) (T : List Nat) (tk : Nat → List Nat) (nx : Nat) (w : va_W) : Prop := ∃ (a q : Nat → Nat) (v : Nat → va_W) (qT : Nat) (wT : va_W), w = jF (jTkW h hT a nx wT v) ∧ jRow cI hT 16000 qT (T.map nI) wT ∧ (∀ i, i < 3 → jRow cI (a i) 8002 (q i) ((tk i).map nI) (v i)) ∧ P = qT + (q 0 + q 1 + q 2) ∧ (∀ x ∈ T, x < 256) ∧ nx < 40000 ∧ (tk 1).length = (tk 0).length ∧ (tk 2).length = (tk 0).length ∧ (∀ i, i < 3 → ∀ x ∈ tk i, x < 1000000000)
theorem jTok.hd {cI : ClassId} {h hT P nx : Nat} {T : List Nat} {tk : Nat → List Nat} {w : va_W} (hw : jTok cI h hT P T tk nx w) : ∃ (i : Nat) (fs : List Value), w[i]? = some (h, .inr (5, fs)) := by
  obtain ⟨a, q, v, qT, wT, rfl, -⟩ := hw
  exact ⟨0, _, rfl⟩
theorem jgetL {xs : List Nat} {N : Nat} (hN : 0 < N) (h : ∀ x ∈ xs, x < N) (j : Nat) : xs.getD j 0 < N := by
  rw [List.getD_eq_getElem?_getD]
  cases e : xs[j]? with
  | none => exact hN
  | some x => exact h x (List.mem_of_getElem? e)
theorem jTok.len {cI : ClassId} {h hT P nx : Nat} {T : List Nat} {tk : Nat → List Nat} {w : va_W} (hw : jTok cI h hT P T tk nx w) : T.length ≤ 16000 ∧ (tk 0).length ≤ 8002 ∧ 4 ≤ P ∧ P ≤ 2000 ∧ nx < 40000 ∧ (∀ j, T.getD j 0 < 256) ∧ (∀ i, i < 3 → ∀ j, (tk i).getD j 0 < 1000000000) ∧ (tk 1).length = (tk 0).length ∧ (tk 2).length = (tk 0).length := by
  obtain ⟨a, q, v, qT, wT, rfl, hrT, hr, hP, hB, hnx, hl1, hl2, hvb⟩ := hw
  have e0 := hrT.len
  have e1 := (hr 0 (by omega)).len
  have e2 := (hr 1 (by omega)).len
  have e3 := (hr 2 (by omega)).len
  rw [List.length_map] at e0 e1 e2 e3
  exact ⟨e0.1, e1.1, by omega, by omega, hnx, fun j => jgetL (by decide) hB j, fun i hi j => jgetL (by decide) (hvb i hi) j, hl1, hl2⟩
theorem jrowsN_upd {cI : ClassId} {lim : Nat} {a q : Nat → Nat} {tk : Nat → List Nat} {v : Nat → va_W} {N : Nat} (hr : ∀ i, i < N → jRow cI (a i) lim (q i) ((tk i).map nI) (v i)) (i : Nat) {q2 : Nat} {ys : List Nat} {u : va_W} (hu : jRow cI (a i) lim q2 (ys.map nI) u) : ∀ j, j < N → jRow cI (a j) lim (va_up q i q2 j) ((va_up tk i ys j).map nI) (va_up v i u j) := by
  intro j hj
  by_cases e : j = i
  · subst e
    rw [va_up_self, va_up_self, va_up_self]
    exact hu
  · rw [va_up_ne _ _ e, va_up_ne _ _ e, va_up_ne _ _ e]
    exact hr j hj
def isDg (c : Nat) : Bool := decide (48 ≤ c ∧ c ≤ 57)
def isSg (c : Nat) : Bool := decide (c = 10 ∨ c = 35 ∨ c = 42 ∨ c = 43 ∨ c = 45 ∨ c = 47 ∨ c = 61 ∨ c = 91 ∨ c = 93)
def clF (T : List Nat) : Nat → Nat → Int
  | 0, _ => -1
  | f + 1, i => if T.length ≤ i then -1 else if T.getD i 0 = 41 then (i : Int) else if T.getD i 0 < 32 ∨ 126 < T.getD i 0 then -1 else clF T f (i + 1)
def clo (T : List Nat) (i : Nat) : Int := clF T (T.length + 1) (i + 1)
theorem clF_b (T : List Nat) : ∀ (f i : Nat), clF T f i = -1 ∨ ((i : Int) ≤ clF T f i ∧ clF T f i < (T.length : Int))
  | 0, _ => Or.inl rfl
  | f + 1, i => by
    unfold clF
    split
    · exact Or.inl rfl
    · split
      · right; omega
      · split
        · exact Or.inl rfl
        · rcases clF_b T f (i + 1) with h | h
          · exact Or.inl h
          · right; omega
def pdF (T : List Nat) : Nat → Nat → Nat
  | 0, _ => T.length
  | f + 1, i => if T.length ≤ i then T.length else if isDg (T.getD i 0) = true then pdF T f (i + 1) else i
def pd (T : List Nat) (i : Nat) : Nat := pdF T (T.length + 1) i
theorem pdF_b (T : List Nat) : ∀ (f i : Nat), pdF T f i ≤ T.length ∧ (i ≤ T.length → i ≤ pdF T f i)
  | 0, i => ⟨Nat.le_refl _, fun h => h⟩
  | f + 1, i => by
    unfold pdF
    split
    · exact ⟨Nat.le_refl _, fun h => h⟩
    · split
      · have := pdF_b T f (i + 1); omega
      · omega
theorem pdF_dg (T : List Nat) : ∀ (f i j : Nat), i ≤ j → j < pdF T f i → T.length < f + i → isDg (T.getD j 0) = true
  | 0, i, j, h1, h2, h3 => by
    have := (pdF_b T 0 i).1
    omega
  | f + 1, i, j, h1, h2, h3 => by
    unfold pdF at h2
    split at h2
    · omega
    · split at h2
      · rename_i q
        rcases Nat.eq_or_lt_of_le h1 with e | e
        · subst e; exact q
        · exact pdF_dg T f (i + 1) j e h2 (by omega)
      · omega
def pbF (T : List Nat) : Nat → Nat → Nat
  | 0, _ => T.length
  | f + 1, i => if T.length ≤ i then T.length else if T.getD i 0 = 40 then (if clo T i < 0 then i else pbF T f ((clo T i).toNat + 1)) else if T.getD i 0 = 9 ∨ T.getD i 0 = 13 ∨ T.getD i 0 = 32 then pbF T f (i + 1) else i
def pb (T : List Nat) (i : Nat) : Nat := pbF T (T.length + 1) i
theorem pbF_b (T : List Nat) : ∀ (f i : Nat), pbF T f i ≤ T.length ∧ (i ≤ T.length → i ≤ pbF T f i)
  | 0, i => ⟨Nat.le_refl _, fun h => h⟩
  | f + 1, i => by
    unfold pbF
    split
    · exact ⟨Nat.le_refl _, fun h => h⟩
    · split
      · split
        · omega
        · have h1 := clF_b T (T.length + 1) (i + 1)
          have h2 : clo T i = clF T (T.length + 1) (i + 1) := rfl
          have := pbF_b T f ((clo T i).toNat + 1)
          omega
      · split
        · have := pbF_b T f (i + 1); omega
        · omega
def nvF (T : List Nat) (e : Nat) : Nat → Nat → Nat → Nat
  | 0, _, v => v
  | f + 1, i, v => if e ≤ i then v else nvF T e f (i + 1) (v * 10 + T.getD i 0 - 48)
def nwF (T : List Nat) (pE z : Nat) : Nat → Nat → Nat → Nat
  | 0, _, v => v
  | f + 1, i, v => if z ≤ i then v else nwF T pE z f (i + 1) (v * 10 + (if i < pE then T.getD i 0 - 48 else 0))
def flF (T : List Nat) (a s : Nat) : Nat → Nat → Nat
  | 0, _ => 5
  | f + 1, i => if 5 ≤ i then 5 else if jW1.getD (a + i) 0 = 32 then i else if T.getD (s + i) 0 = jW1.getD (a + i) 0 then flF T a s f (i + 1) else 0
def fl (T : List Nat) (a s : Nat) : Nat := flF T a s 6 0
theorem flF_b (T : List Nat) (a s : Nat) : ∀ (f i : Nat), i ≤ 5 → flF T a s f i ≤ 5
  | 0, _, _ => Nat.le_refl 5
  | f + 1, i, h => by
    unfold flF
    (repeat' split)
    · omega
    · omega
    · exact flF_b T a s f (i + 1) (by omega)
    · omega
section TOK
variable {D : va_G} {G : Nat → Nat} {cI cJ cB cZ : ClassId} {l : Launch}

theorem uX6_in_X6_size : ∀ w ∈ u_ws RX6 TX6 5, w ∈ wsX6_size := by decide +kernel
set_option maxHeartbeats 4000000 in
set_option maxRecDepth 100000 in
/-- size() -/
theorem c_Tok_size {h hT P nx : Nat} {T : List Nat} {tk : Nat → List Nat} {w : va_W} (hw : jTok cI h hT P T tk nx w) : HM l yX6_size wsX6_size ({ frames := 1, cells := 0, slots := 0, locals := 40 } : Room) D G (jT cI cJ cB cZ) [.ref h] w (fun v u k n => v = some (.int (nI (tk 0).length)) ∧ u = w ∧ k = 0 ∧ n = 0) := by
  refine HM_of (cc := cX6_size) (maxL := 1) (ret := (some .int)) (lv := [(0, .ref h)]) (by decide) rfl rfl (Nat.le_of_ble_eq_true rfl) (fun p e s m args below meth c A0 ls hx hb hr hts hown hlocks hml hnm hK hA hAm hl => ?_)
  have hLn := hw.len
  refine jJ_of (fun H locs => lv_aload_n hx hb dX6_size_0 rfl (lv_at hl 0 rfl)) ?_
  have hsv1 := hw
  obtain ⟨a1, q1, v1, qT1, wT1, rfl, hrT1, hr1, hP1, hB1, hnx1, hl11, hl21, hvb1⟩ := hsv1
  refine jJ_open (xs := jTkW h hT a1 nx wT1 v1) (r := []) (cs2 := [[(h, .inr (5, [.ref hT, .ref (a1 0), .ref (a1 1), .ref (a1 2), .int (nI nx)]))], wT1, v1 0, v1 1, v1 2]) rfl ?_
  refine jJ_get hx hb (C := RX6) (T := TX6) (N := 5) hts uX6_in_X6_size hown hK 0 rfl rfl 1 (by decide) (hts (.fieldLink RX6 14 "ValueBlocks$Tokens" "kinds" "LValueBlocks$Row;") (by decide +kernel)) (fun _ h9 => h9) rfl dX6_size_1 ?_
  refine jJ_callV (As := []) (rest := []) (wc := _) (cs2 := [[(h, .inr (5, [.ref hT, .ref (a1 0), .ref (a1 1), .ref (a1 2), .int (nI nx)]))], wT1, v1 1, v1 2]) (C := RX5) (T := TX5) (N := 3) (ci := 4) [2] [0, 1, 3, 4] ⟨hx, hb, hml, hown, hts⟩ hK hA hAm (c_Row_size (hr1 0 (by decide))) (cwV 0 hts gX6_size_X5_size rfl rfl rfl (by decide +kernel) ⟨Nat.le_of_ble_eq_true rfl, Nat.le_of_ble_eq_true rfl⟩) (nn := 5) rfl (by decide) rfl rfl (hr1 0 (by decide)).hd rfl rfl rfl hl.1 (Nat.le_of_ble_eq_true rfl) dX6_size_4 (by show _ + 0 ≤ 0; omega) (by show _ + 0 ≤ 0; omega) (fun v u2 k2 n2 hq2 => ?_)
  obtain ⟨rfl, hw2, rfl, rfl⟩ := hq2
  rw [hw2]
  rw [List.length_map]
  refine jJ_eq (g2 := F0 m 7 ls [.int (nI ((tk 0).length))]) (cs2 := [v1 0, [(h, .inr (5, [.ref hT, .ref (a1 0), .ref (a1 1), .ref (a1 2), .int (nI nx)]))], wT1, v1 1, v1 2]) rfl rfl ?_
  refine jJ_perm [1, 2, 0, 3, 4] (nn := 5) rfl (by decide) (cs2 := [[(h, .inr (5, [.ref hT, .ref (a1 0), .ref (a1 1), .ref (a1 2), .int (nI nx)]))], wT1, v1 0, v1 1, v1 2]) rfl ?_
  refine jJ_flat (cs2 := [jF [[(h, .inr (5, [.ref hT, .ref (a1 0), .ref (a1 1), .ref (a1 2), .int (nI nx)]))], wT1, v1 0, v1 1, v1 2]]) rfl ?_
  exact jJ_iret hx hb hr hlocks dX6_size_7 (by show _ ≤ 0; omega) (by show _ ≤ 0; omega) ⟨rfl, rfl, rfl, rfl⟩
theorem uX6_in_X6_kind : ∀ w ∈ u_ws RX6 TX6 5, w ∈ wsX6_kind := by decide +kernel
set_option maxHeartbeats 4000000 in
set_option maxRecDepth 100000 in
/-- c_Tok_kind -/
theorem c_Tok_kind {h hT P nx : Nat} {T : List Nat} {tk : Nat → List Nat} {w : va_W} (hw : jTok cI h hT P T tk nx w) (j : Nat) (hj : j < 2147483648) : HM l yX6_kind wsX6_kind ({ frames := 1, cells := 0, slots := 0, locals := 40 } : Room) D G (jT cI cJ cB cZ) [.ref h, .int (nI j)] w (fun v u k n => v = some (.int (nI ((tk 0).getD j 0))) ∧ u = w ∧ k = 0 ∧ n = 0) := by
  refine HM_of (cc := cX6_kind) (maxL := 2) (ret := (some .int)) (lv := [(0, .ref h), (1, .int (nI j))]) (by decide) rfl rfl (Nat.le_of_ble_eq_true rfl) (fun p e s m args below meth c A0 ls hx hb hr hts hown hlocks hml hnm hK hA hAm hl => ?_)
  have hLn := hw.len
  refine jJ_of (fun H locs => lv_aload_n hx hb dX6_kind_0 rfl (lv_at hl 0 rfl)) ?_
  have hsv1 := hw
  obtain ⟨a1, q1, v1, qT1, wT1, rfl, hrT1, hr1, hP1, hB1, hnx1, hl11, hl21, hvb1⟩ := hsv1
  refine jJ_open (xs := jTkW h hT a1 nx wT1 v1) (r := []) (cs2 := [[(h, .inr (5, [.ref hT, .ref (a1 0), .ref (a1 1), .ref (a1 2), .int (nI nx)]))], wT1, v1 0, v1 1, v1 2]) rfl ?_
  refine jJ_get hx hb (C := RX6) (T := TX6) (N := 5) hts uX6_in_X6_kind hown hK 0 rfl rfl 1 (by decide) (hts (.fieldLink RX6 14 "ValueBlocks$Tokens" "kinds" "LValueBlocks$Row;") (by decide +kernel)) (fun _ h9 => h9) rfl dX6_kind_1 ?_
  refine jJ_of (fun H locs => lv_iload_n hx hb dX6_kind_4 rfl (lv_at hl 1 rfl)) ?_
  refine jJ_callV (As := [.int (nI j)]) (rest := []) (wc := _) (cs2 := [[(h, .inr (5, [.ref hT, .ref (a1 0), .ref (a1 1), .ref (a1 2), .int (nI nx)]))], wT1, v1 1, v1 2]) (C := RX5) (T := TX5) (N := 3) (ci := 4) [2] [0, 1, 3, 4] ⟨hx, hb, hml, hown, hts⟩ hK hA hAm (c_Row_get (hr1 0 (by decide)) j (by omega)) (cwV 1 hts gX6_kind_X5_get rfl rfl rfl (by decide +kernel) ⟨Nat.le_of_ble_eq_true rfl, Nat.le_of_ble_eq_true rfl⟩) (nn := 5) rfl (by decide) rfl rfl (hr1 0 (by decide)).hd rfl rfl rfl hl.1 (Nat.le_of_ble_eq_true rfl) dX6_kind_5 (by show _ + 0 ≤ 0; omega) (by show _ + 0 ≤ 0; omega) (fun v u2 k2 n2 hq2 => ?_)
  obtain ⟨rfl, hw2, rfl, rfl⟩ := hq2
  rw [hw2]
  rw [jget_n]
  refine jJ_eq (g2 := F0 m 8 ls [.int (nI ((tk 0).getD j 0))]) (cs2 := [v1 0, [(h, .inr (5, [.ref hT, .ref (a1 0), .ref (a1 1), .ref (a1 2), .int (nI nx)]))], wT1, v1 1, v1 2]) rfl rfl ?_
  refine jJ_perm [1, 2, 0, 3, 4] (nn := 5) rfl (by decide) (cs2 := [[(h, .inr (5, [.ref hT, .ref (a1 0), .ref (a1 1), .ref (a1 2), .int (nI nx)]))], wT1, v1 0, v1 1, v1 2]) rfl ?_
  refine jJ_flat (cs2 := [jF [[(h, .inr (5, [.ref hT, .ref (a1 0), .ref (a1 1), .ref (a1 2), .int (nI nx)]))], wT1, v1 0, v1 1, v1 2]]) rfl ?_
  exact jJ_iret hx hb hr hlocks dX6_kind_8 (by show _ ≤ 0; omega) (by show _ ≤ 0; omega) ⟨rfl, rfl, rfl, rfl⟩
theorem uX6_in_X6_start : ∀ w ∈ u_ws RX6 TX6 5, w ∈ wsX6_start := by decide +kernel
set_option maxHeartbeats 4000000 in
set_option maxRecDepth 100000 in
/-- c_Tok_start -/
theorem c_Tok_start {h hT P nx : Nat} {T : List Nat} {tk : Nat → List Nat} {w : va_W} (hw : jTok cI h hT P T tk nx w) (j : Nat) (hj : j < 2147483648) : HM l yX6_start wsX6_start ({ frames := 1, cells := 0, slots := 0, locals := 40 } : Room) D G (jT cI cJ cB cZ) [.ref h, .int (nI j)] w (fun v u k n => v = some (.int (nI ((tk 1).getD j 0))) ∧ u = w ∧ k = 0 ∧ n = 0) := by
  refine HM_of (cc := cX6_start) (maxL := 2) (ret := (some .int)) (lv := [(0, .ref h), (1, .int (nI j))]) (by decide) rfl rfl (Nat.le_of_ble_eq_true rfl) (fun p e s m args below meth c A0 ls hx hb hr hts hown hlocks hml hnm hK hA hAm hl => ?_)
  have hLn := hw.len
  refine jJ_of (fun H locs => lv_aload_n hx hb dX6_start_0 rfl (lv_at hl 0 rfl)) ?_
  have hsv1 := hw
  obtain ⟨a1, q1, v1, qT1, wT1, rfl, hrT1, hr1, hP1, hB1, hnx1, hl11, hl21, hvb1⟩ := hsv1
  refine jJ_open (xs := jTkW h hT a1 nx wT1 v1) (r := []) (cs2 := [[(h, .inr (5, [.ref hT, .ref (a1 0), .ref (a1 1), .ref (a1 2), .int (nI nx)]))], wT1, v1 0, v1 1, v1 2]) rfl ?_
  refine jJ_get hx hb (C := RX6) (T := TX6) (N := 5) hts uX6_in_X6_start hown hK 0 rfl rfl 2 (by decide) (hts (.fieldLink RX6 18 "ValueBlocks$Tokens" "starts" "LValueBlocks$Row;") (by decide +kernel)) (fun _ h9 => h9) rfl dX6_start_1 ?_
  refine jJ_of (fun H locs => lv_iload_n hx hb dX6_start_4 rfl (lv_at hl 1 rfl)) ?_
  refine jJ_callV (As := [.int (nI j)]) (rest := []) (wc := _) (cs2 := [[(h, .inr (5, [.ref hT, .ref (a1 0), .ref (a1 1), .ref (a1 2), .int (nI nx)]))], wT1, v1 0, v1 2]) (C := RX5) (T := TX5) (N := 3) (ci := 4) [3] [0, 1, 2, 4] ⟨hx, hb, hml, hown, hts⟩ hK hA hAm (c_Row_get (hr1 1 (by decide)) j (by omega)) (cwV 1 hts gX6_start_X5_get rfl rfl rfl (by decide +kernel) ⟨Nat.le_of_ble_eq_true rfl, Nat.le_of_ble_eq_true rfl⟩) (nn := 5) rfl (by decide) rfl rfl (hr1 1 (by decide)).hd rfl rfl rfl hl.1 (Nat.le_of_ble_eq_true rfl) dX6_start_5 (by show _ + 0 ≤ 0; omega) (by show _ + 0 ≤ 0; omega) (fun v u2 k2 n2 hq2 => ?_)
  obtain ⟨rfl, hw2, rfl, rfl⟩ := hq2
  rw [hw2]
  rw [jget_n]
  refine jJ_eq (g2 := F0 m 8 ls [.int (nI ((tk 1).getD j 0))]) (cs2 := [v1 1, [(h, .inr (5, [.ref hT, .ref (a1 0), .ref (a1 1), .ref (a1 2), .int (nI nx)]))], wT1, v1 0, v1 2]) rfl rfl ?_
  refine jJ_perm [1, 2, 3, 0, 4] (nn := 5) rfl (by decide) (cs2 := [[(h, .inr (5, [.ref hT, .ref (a1 0), .ref (a1 1), .ref (a1 2), .int (nI nx)]))], wT1, v1 0, v1 1, v1 2]) rfl ?_
  refine jJ_flat (cs2 := [jF [[(h, .inr (5, [.ref hT, .ref (a1 0), .ref (a1 1), .ref (a1 2), .int (nI nx)]))], wT1, v1 0, v1 1, v1 2]]) rfl ?_
  exact jJ_iret hx hb hr hlocks dX6_start_8 (by show _ ≤ 0; omega) (by show _ ≤ 0; omega) ⟨rfl, rfl, rfl, rfl⟩
theorem uX6_in_X6_worth : ∀ w ∈ u_ws RX6 TX6 5, w ∈ wsX6_worth := by decide +kernel
set_option maxHeartbeats 4000000 in
set_option maxRecDepth 100000 in
/-- c_Tok_worth -/
theorem c_Tok_worth {h hT P nx : Nat} {T : List Nat} {tk : Nat → List Nat} {w : va_W} (hw : jTok cI h hT P T tk nx w) (j : Nat) (hj : j < 2147483648) : HM l yX6_worth wsX6_worth ({ frames := 1, cells := 0, slots := 0, locals := 40 } : Room) D G (jT cI cJ cB cZ) [.ref h, .int (nI j)] w (fun v u k n => v = some (.int (nI ((tk 2).getD j 0))) ∧ u = w ∧ k = 0 ∧ n = 0) := by
  refine HM_of (cc := cX6_worth) (maxL := 2) (ret := (some .int)) (lv := [(0, .ref h), (1, .int (nI j))]) (by decide) rfl rfl (Nat.le_of_ble_eq_true rfl) (fun p e s m args below meth c A0 ls hx hb hr hts hown hlocks hml hnm hK hA hAm hl => ?_)
  have hLn := hw.len
  refine jJ_of (fun H locs => lv_aload_n hx hb dX6_worth_0 rfl (lv_at hl 0 rfl)) ?_
  have hsv1 := hw
  obtain ⟨a1, q1, v1, qT1, wT1, rfl, hrT1, hr1, hP1, hB1, hnx1, hl11, hl21, hvb1⟩ := hsv1
  refine jJ_open (xs := jTkW h hT a1 nx wT1 v1) (r := []) (cs2 := [[(h, .inr (5, [.ref hT, .ref (a1 0), .ref (a1 1), .ref (a1 2), .int (nI nx)]))], wT1, v1 0, v1 1, v1 2]) rfl ?_
  refine jJ_get hx hb (C := RX6) (T := TX6) (N := 5) hts uX6_in_X6_worth hown hK 0 rfl rfl 3 (by decide) (hts (.fieldLink RX6 21 "ValueBlocks$Tokens" "worths" "LValueBlocks$Row;") (by decide +kernel)) (fun _ h9 => h9) rfl dX6_worth_1 ?_
  refine jJ_of (fun H locs => lv_iload_n hx hb dX6_worth_4 rfl (lv_at hl 1 rfl)) ?_
  refine jJ_callV (As := [.int (nI j)]) (rest := []) (wc := _) (cs2 := [[(h, .inr (5, [.ref hT, .ref (a1 0), .ref (a1 1), .ref (a1 2), .int (nI nx)]))], wT1, v1 0, v1 1]) (C := RX5) (T := TX5) (N := 3) (ci := 4) [4] [0, 1, 2, 3] ⟨hx, hb, hml, hown, hts⟩ hK hA hAm (c_Row_get (hr1 2 (by decide)) j (by omega)) (cwV 1 hts gX6_worth_X5_get rfl rfl rfl (by decide +kernel) ⟨Nat.le_of_ble_eq_true rfl, Nat.le_of_ble_eq_true rfl⟩) (nn := 5) rfl (by decide) rfl rfl (hr1 2 (by decide)).hd rfl rfl rfl hl.1 (Nat.le_of_ble_eq_true rfl) dX6_worth_5 (by show _ + 0 ≤ 0; omega) (by show _ + 0 ≤ 0; omega) (fun v u2 k2 n2 hq2 => ?_)
  obtain ⟨rfl, hw2, rfl, rfl⟩ := hq2
  rw [hw2]
  rw [jget_n]
  refine jJ_eq (g2 := F0 m 8 ls [.int (nI ((tk 2).getD j 0))]) (cs2 := [v1 2, [(h, .inr (5, [.ref hT, .ref (a1 0), .ref (a1 1), .ref (a1 2), .int (nI nx)]))], wT1, v1 0, v1 1]) rfl rfl ?_
  refine jJ_perm [1, 2, 3, 4, 0] (nn := 5) rfl (by decide) (cs2 := [[(h, .inr (5, [.ref hT, .ref (a1 0), .ref (a1 1), .ref (a1 2), .int (nI nx)]))], wT1, v1 0, v1 1, v1 2]) rfl ?_
  refine jJ_flat (cs2 := [jF [[(h, .inr (5, [.ref hT, .ref (a1 0), .ref (a1 1), .ref (a1 2), .int (nI nx)]))], wT1, v1 0, v1 1, v1 2]]) rfl ?_
  exact jJ_iret hx hb hr hlocks dX6_worth_8 (by show _ ≤ 0; omega) (by show _ ≤ 0; omega) ⟨rfl, rfl, rfl, rfl⟩
set_option maxHeartbeats 4000000 in
set_option maxRecDepth 100000 in
/-- isDigit(c) -/
theorem c_isDigit (c0 : Nat) (hc : c0 < 2147483648) : HM l yX6_isDigit wsX6_isDigit ({ frames := 0, cells := 0, slots := 0, locals := 0 } : Room) D G (jT cI cJ cB cZ) [.int (nI c0)] ([]) (fun v u k n => v = some (.int (bI (isDg c0))) ∧ u = [] ∧ k = 0 ∧ n = 0) := by
  refine HM_of (cc := cX6_isDigit) (maxL := 1) (ret := (some .boolean)) (lv := [(0, .int (nI c0))]) (by decide) rfl rfl (Nat.le_of_ble_eq_true rfl) (fun p e s m args below meth c A0 ls hx hb hr hts hown hlocks hml hnm hK hA hAm hl => ?_)
  refine jJ_of (fun H locs => lv_iload_n hx hb dX6_isDigit_0 rfl (lv_at hl 0 rfl)) ?_
  refine jJ_of (fun H locs => lv_bipush (v := (nI 48)) hx hb dX6_isDigit_1 (by decide)) ?_
  refine jJ_of2 (fun H locs => jn_icmp_lt (tgt := 16) hx hb dX6_isDigit_3 (by decide) (by omega) (by omega)) (fun c3 => ?_) (fun c3 => ?_)
  · refine jJ_of (fun H locs => lv_iconst (v := (nI 0)) hx hb dX6_isDigit_16 (by decide)) ?_
    exact jJ_zret hx hb hr hlocks dX6_isDigit_17 (by show _ ≤ 0; omega) (by show _ ≤ 0; omega) (Or.inl rfl) ⟨by rw [show isDg c0 = false from by simp [isDg]; omega]; rfl, rfl, rfl, rfl⟩
  · refine jJ_of (fun H locs => lv_iload_n hx hb dX6_isDigit_6 rfl (lv_at hl 0 rfl)) ?_
    refine jJ_of (fun H locs => lv_bipush (v := (nI 57)) hx hb dX6_isDigit_7 (by decide)) ?_
    refine jJ_of2 (fun H locs => jn_icmp_gt (tgt := 16) hx hb dX6_isDigit_9 (by decide) (by omega) (by omega)) (fun c9 => ?_) (fun c9 => ?_)
    · refine jJ_of (fun H locs => lv_iconst (v := (nI 0)) hx hb dX6_isDigit_16 (by decide)) ?_
      exact jJ_zret hx hb hr hlocks dX6_isDigit_17 (by show _ ≤ 0; omega) (by show _ ≤ 0; omega) (Or.inl rfl) ⟨by rw [show isDg c0 = false from by simp [isDg]; omega]; rfl, rfl, rfl, rfl⟩
    · refine jJ_of (fun H locs => lv_iconst (v := (nI 1)) hx hb dX6_isDigit_12 (by decide)) ?_
      refine jJ_of (fun H locs => lv_goto (tgt := 17) hx hb dX6_isDigit_13 (by decide)) ?_
      exact jJ_zret hx hb hr hlocks dX6_isDigit_17 (by show _ ≤ 0; omega) (by show _ ≤ 0; omega) (Or.inr rfl) ⟨by rw [show isDg c0 = true from by simp [isDg]; omega]; rfl, rfl, rfl, rfl⟩
set_option maxHeartbeats 4000000 in
set_option maxRecDepth 100000 in
/-- isSign(c) -/
theorem c_isSign (c0 : Nat) (hc : c0 < 2147483648) : HM l yX6_isSign wsX6_isSign ({ frames := 0, cells := 0, slots := 0, locals := 0 } : Room) D G (jT cI cJ cB cZ) [.int (nI c0)] ([]) (fun v u k n => v = some (.int (bI (isSg c0))) ∧ u = [] ∧ k = 0 ∧ n = 0) := by
  refine HM_of (cc := cX6_isSign) (maxL := 1) (ret := (some .boolean)) (lv := [(0, .int (nI c0))]) (by decide) rfl rfl (Nat.le_of_ble_eq_true rfl) (fun p e s m args below meth c A0 ls hx hb hr hts hown hlocks hml hnm hK hA hAm hl => ?_)
  refine jJ_of (fun H locs => lv_iload_n hx hb dX6_isSign_0 rfl (lv_at hl 0 rfl)) ?_
  by_cases e1_10 : c0 = 10 ∨ c0 = 35 ∨ c0 = 42 ∨ c0 = 43 ∨ c0 = 45 ∨ c0 = 47 ∨ c0 = 61 ∨ c0 = 91 ∨ c0 = 93
  · refine jJ_of (fun H locs => lv_lookup hx hb dX6_isSign_1 (by decide) (off := 83) (tgt := 84) (by rcases e1_10 with e9 | e9 | e9 | e9 | e9 | e9 | e9 | e9 | e9 <;> (rw [e9]; decide)) (by decide)) ?_
    refine jJ_of (fun H locs => lv_iconst (v := (nI 1)) hx hb dX6_isSign_84 (by decide)) ?_
    exact jJ_zret hx hb hr hlocks dX6_isSign_85 (by show _ ≤ 0; omega) (by show _ ≤ 0; omega) (Or.inr rfl) ⟨by rw [show isSg c0 = true from by simp [isSg]; omega]; rfl, rfl, rfl, rfl⟩
  refine jJ_of (fun H locs => lv_lookup hx hb dX6_isSign_1 (by decide) (off := 85) (tgt := 86) (by rw [nI_toInt (by omega)]; show Op.lookupswitch.offset [(10, 83), (35, 83), (42, 83), (43, 83), (45, 83), (47, 83), (61, 83), (91, 83), (93, 83)] _ _ = _; rw [Op.lookupswitch.offset_cons, if_neg (by omega), Op.lookupswitch.offset_cons, if_neg (by omega), Op.lookupswitch.offset_cons, if_neg (by omega), Op.lookupswitch.offset_cons, if_neg (by omega), Op.lookupswitch.offset_cons, if_neg (by omega), Op.lookupswitch.offset_cons, if_neg (by omega), Op.lookupswitch.offset_cons, if_neg (by omega), Op.lookupswitch.offset_cons, if_neg (by omega), Op.lookupswitch.offset_cons, if_neg (by omega)]; rfl) (by decide)) ?_
  refine jJ_of (fun H locs => lv_iconst (v := (nI 0)) hx hb dX6_isSign_86 (by decide)) ?_
  exact jJ_zret hx hb hr hlocks dX6_isSign_87 (by show _ ≤ 0; omega) (by show _ ≤ 0; omega) (Or.inl rfl) ⟨by rw [show isSg c0 = false from by simp [isSg]; omega]; rfl, rfl, rfl, rfl⟩
theorem uX6_in_X6_closing : ∀ w ∈ u_ws RX6 TX6 5, w ∈ wsX6_closing := by decide +kernel
set_option maxHeartbeats 4000000 in
set_option maxRecDepth 100000 in
/-- closing(o) -/
theorem c_Tok_closing {h hT P nx : Nat} {T : List Nat} {tk : Nat → List Nat} {w : va_W} (hw : jTok cI h hT P T tk nx w) (o : Nat) (ho : o < 50000) : HM l yX6_closing wsX6_closing ({ frames := 1, cells := 0, slots := 0, locals := 60 } : Room) D G (jT cI cJ cB cZ) [.ref h, .int (nI o)] w (fun v u k n => v = some (.int (iI (clo T o))) ∧ u = w ∧ k = 0 ∧ n = 0) := by
  refine HM_of (cc := cX6_closing) (maxL := 4) (ret := (some .int)) (lv := [(0, .ref h), (1, .int (nI o))]) (by decide) rfl rfl (Nat.le_of_ble_eq_true rfl) (fun p e s m args below meth c A0 ls hx hb hr hts hown hlocks hml hnm hK hA hAm hl => ?_)
  have hLn := hw.len
  have hsv1 := hw
  obtain ⟨a1, q1, v1, qT1, wT1, rfl, hrT1, hr1, hP1, hB1, hnx1, hl11, hl21, hvb1⟩ := hsv1
  refine jJ_open (xs := jTkW h hT a1 nx wT1 v1) (r := []) (cs2 := [[(h, .inr (5, [.ref hT, .ref (a1 0), .ref (a1 1), .ref (a1 2), .int (nI nx)]))], wT1, v1 0, v1 1, v1 2]) rfl ?_
  refine jJ_of (fun H locs => lv_iload_n hx hb dX6_closing_0 rfl (lv_at hl 1 rfl)) ?_
  refine jJ_of (fun H locs => lv_iconst (v := (nI 1)) hx hb dX6_closing_1 (by decide)) ?_
  refine jJ_of (fun H locs => jn_iadd hx hb dX6_closing_2) ?_
  refine jJ_ofL (fun H locs => lv_istore_n (lv' := [(2, .int (nI (o + 1))), (0, .ref h), (1, .int (nI o))]) hx hb dX6_closing_3 rfl hl (by decide) rfl) (fun ls hl => ?_)
  refine jJ_flat (cs2 := [jF [[(h, .inr (5, [.ref hT, .ref (a1 0), .ref (a1 1), .ref (a1 2), .int (nI nx)]))], wT1, v1 0, v1 1, v1 2]]) rfl ?_
  suffices lp : ∀ (d i : Nat), T.length - i < d → i < 100000 → clF T d i = clo T o → ∀ ls, lv_has ls 4 [(2, .int (nI i)), (0, .ref h), (1, .int (nI o))] → jJ p l e _ s m args below meth c D A0 [jF [[(h, .inr (5, [.ref hT, .ref (a1 0), .ref (a1 1), .ref (a1 2), .int (nI nx)]))], wT1, v1 0, v1 1, v1 2]] 0 0 (jEnd below D A0 _ args s _ _) (F0 m 4 ls []) from lp (T.length + 1) (o + 1) (by omega) (by omega) rfl ls hl
  intro d
  induction d with
  | zero => intro i h9; exact absurd h9 (Nat.not_lt_zero _)
  | succ d ih =>
    intro i h9 hi9 hcl ls hl
    have hgb := hLn.2.2.2.2.2.1 i
    refine jJ_of (fun H locs => lv_iload_n hx hb dX6_closing_4 rfl (lv_at hl 0 rfl)) ?_
    refine jJ_of (fun H locs => lv_aload_n hx hb dX6_closing_5 rfl (lv_at hl 1 rfl)) ?_
    refine jJ_open (xs := [[(h, .inr (5, [.ref hT, .ref (a1 0), .ref (a1 1), .ref (a1 2), .int (nI nx)]))], wT1, v1 0, v1 1, v1 2]) (r := []) (cs2 := [[(h, .inr (5, [.ref hT, .ref (a1 0), .ref (a1 1), .ref (a1 2), .int (nI nx)]))], wT1, v1 0, v1 1, v1 2]) rfl ?_
    refine jJ_get hx hb (C := RX6) (T := TX6) (N := 5) hts uX6_in_X6_closing hown hK 0 rfl rfl 0 (by decide) (hts (.fieldLink RX6 24 "ValueBlocks$Tokens" "text" "LValueBlocks$Row;") (by decide +kernel)) (fun _ h9 => h9) rfl dX6_closing_6 ?_
    refine jJ_callV (As := []) (rest := [.int (nI i)]) (wc := _) (cs2 := [[(h, .inr (5, [.ref hT, .ref (a1 0), .ref (a1 1), .ref (a1 2), .int (nI nx)]))], v1 0, v1 1, v1 2]) (C := RX5) (T := TX5) (N := 3) (ci := 4) [1] [0, 2, 3, 4] ⟨hx, hb, hml, hown, hts⟩ hK hA hAm (c_Row_size hrT1) (cwV 0 hts gX6_closing_X5_size rfl rfl rfl (by decide +kernel) ⟨Nat.le_of_ble_eq_true rfl, Nat.le_of_ble_eq_true rfl⟩) (nn := 5) rfl (by decide) rfl rfl hrT1.hd rfl rfl rfl hl.1 (Nat.le_of_ble_eq_true rfl) dX6_closing_9 (by show _ + 0 ≤ 0; omega) (by show _ + 0 ≤ 0; omega) (fun v u2 k2 n2 hq2 => ?_)
    obtain ⟨rfl, hw2, rfl, rfl⟩ := hq2
    rw [hw2]
    rw [List.length_map]
    refine jJ_eq (g2 := F0 m 12 ls [.int (nI T.length), .int (nI i)]) (cs2 := [wT1, [(h, .inr (5, [.ref hT, .ref (a1 0), .ref (a1 1), .ref (a1 2), .int (nI nx)]))], v1 0, v1 1, v1 2]) rfl rfl ?_
    refine jJ_of2 (fun H locs => jn_icmp_ge (tgt := 52) hx hb dX6_closing_12 (by decide) (by omega) (by omega)) (fun c12 => ?_) (fun c12 => ?_)
    · refine jJ_of (fun H locs => lv_iconst (v := (iI (-1))) hx hb dX6_closing_52 (by decide)) ?_
      refine jJ_perm [1, 0, 2, 3, 4] (nn := 5) rfl (by decide) (cs2 := [[(h, .inr (5, [.ref hT, .ref (a1 0), .ref (a1 1), .ref (a1 2), .int (nI nx)]))], wT1, v1 0, v1 1, v1 2]) rfl ?_
      refine jJ_flat (cs2 := [jF [[(h, .inr (5, [.ref hT, .ref (a1 0), .ref (a1 1), .ref (a1 2), .int (nI nx)]))], wT1, v1 0, v1 1, v1 2]]) rfl ?_
      exact jJ_iret hx hb hr hlocks dX6_closing_53 (by show _ ≤ 0; omega) (by show _ ≤ 0; omega) ⟨by rw [← hcl, show clF T (d + 1) i = -1 from by show (if _ then _ else _) = _; rw [if_pos (by omega)]], rfl, rfl, rfl⟩
    · refine jJ_of (fun H locs => lv_aload_n hx hb dX6_closing_15 rfl (lv_at hl 1 rfl)) ?_
      refine jJ_get hx hb (C := RX6) (T := TX6) (N := 5) hts uX6_in_X6_closing hown hK 1 rfl rfl 0 (by decide) (hts (.fieldLink RX6 24 "ValueBlocks$Tokens" "text" "LValueBlocks$Row;") (by decide +kernel)) (fun _ h9 => h9) rfl dX6_closing_16 ?_
      refine jJ_of (fun H locs => lv_iload_n hx hb dX6_closing_19 rfl (lv_at hl 0 rfl)) ?_
      refine jJ_callV (As := [.int (nI i)]) (rest := []) (wc := _) (cs2 := [[(h, .inr (5, [.ref hT, .ref (a1 0), .ref (a1 1), .ref (a1 2), .int (nI nx)]))], v1 0, v1 1, v1 2]) (C := RX5) (T := TX5) (N := 3) (ci := 4) [0] [1, 2, 3, 4] ⟨hx, hb, hml, hown, hts⟩ hK hA hAm (c_Row_get hrT1 i (by omega)) (cwV 1 hts gX6_closing_X5_get rfl rfl rfl (by decide +kernel) ⟨Nat.le_of_ble_eq_true rfl, Nat.le_of_ble_eq_true rfl⟩) (nn := 5) rfl (by decide) rfl rfl hrT1.hd rfl rfl rfl hl.1 (Nat.le_of_ble_eq_true rfl) dX6_closing_20 (by show _ + 0 ≤ 0; omega) (by show _ + 0 ≤ 0; omega) (fun v u3 k3 n3 hq3 => ?_)
      obtain ⟨rfl, hw3, rfl, rfl⟩ := hq3
      rw [hw3]
      rw [jget_n]
      refine jJ_eq (g2 := F0 m 23 ls [.int (nI (T.getD i 0))]) (cs2 := [wT1, [(h, .inr (5, [.ref hT, .ref (a1 0), .ref (a1 1), .ref (a1 2), .int (nI nx)]))], v1 0, v1 1, v1 2]) rfl rfl ?_
      refine jJ_ofL (fun H locs => lv_istore_n (lv' := [(3, .int (nI (T.getD i 0))), (2, .int (nI i)), (0, .ref h), (1, .int (nI o))]) hx hb dX6_closing_23 rfl hl (by decide) rfl) (fun ls hl => ?_)
      refine jJ_of (fun H locs => lv_iload_n hx hb dX6_closing_24 rfl (lv_at hl 0 rfl)) ?_
      refine jJ_of (fun H locs => lv_bipush (v := (nI 41)) hx hb dX6_closing_25 (by decide)) ?_
      refine jJ_of2 (fun H locs => jn_icmp_ne (tgt := 32) hx hb dX6_closing_27 (by decide) (by omega) (by omega)) (fun c27 => ?_) (fun c27 => ?_)
      · refine jJ_of (fun H locs => lv_iload_n hx hb dX6_closing_32 rfl (lv_at hl 0 rfl)) ?_
        refine jJ_of (fun H locs => lv_bipush (v := (nI 32)) hx hb dX6_closing_33 (by decide)) ?_
        refine jJ_of2 (fun H locs => jn_icmp_lt (tgt := 44) hx hb dX6_closing_35 (by decide) (by omega) (by omega)) (fun c35 => ?_) (fun c35 => ?_)
        · refine jJ_of (fun H locs => lv_iconst (v := (iI (-1))) hx hb dX6_closing_44 (by decide)) ?_
          refine jJ_perm [1, 0, 2, 3, 4] (nn := 5) rfl (by decide) (cs2 := [[(h, .inr (5, [.ref hT, .ref (a1 0), .ref (a1 1), .ref (a1 2), .int (nI nx)]))], wT1, v1 0, v1 1, v1 2]) rfl ?_
          refine jJ_flat (cs2 := [jF [[(h, .inr (5, [.ref hT, .ref (a1 0), .ref (a1 1), .ref (a1 2), .int (nI nx)]))], wT1, v1 0, v1 1, v1 2]]) rfl ?_
          exact jJ_iret hx hb hr hlocks dX6_closing_45 (by show _ ≤ 0; omega) (by show _ ≤ 0; omega) ⟨by rw [← hcl, show clF T (d + 1) i = -1 from by show (if _ then _ else _) = _; rw [if_neg (by omega), if_neg (by omega), if_pos (by omega)]], rfl, rfl, rfl⟩
        · refine jJ_of (fun H locs => lv_iload_n hx hb dX6_closing_38 rfl (lv_at hl 0 rfl)) ?_
          refine jJ_of (fun H locs => lv_bipush (v := (nI 126)) hx hb dX6_closing_39 (by decide)) ?_
          refine jJ_of2 (fun H locs => jn_icmp_le (tgt := 46) hx hb dX6_closing_41 (by decide) (by omega) (by omega)) (fun c41 => ?_) (fun c41 => ?_)
          · refine jJ_ofL (fun H locs => lv_iinc (v := (nI (i + 1))) (lv' := [(2, .int (nI (i + 1))), (3, .int (nI (T.getD i 0))), (0, .ref h), (1, .int (nI o))]) hx hb dX6_closing_46 hl (k := 1) rfl (nI_add _ _) (by decide) rfl) (fun ls hl => ?_)
            refine jJ_of (fun H locs => lv_goto (tgt := 4) hx hb dX6_closing_49 (by decide)) ?_
            refine jJ_perm [1, 0, 2, 3, 4] (nn := 5) rfl (by decide) (cs2 := [[(h, .inr (5, [.ref hT, .ref (a1 0), .ref (a1 1), .ref (a1 2), .int (nI nx)]))], wT1, v1 0, v1 1, v1 2]) rfl ?_
            refine jJ_flat (cs2 := [jF [[(h, .inr (5, [.ref hT, .ref (a1 0), .ref (a1 1), .ref (a1 2), .int (nI nx)]))], wT1, v1 0, v1 1, v1 2]]) rfl ?_
            exact ih (i + 1) (by omega) (by omega) (by rw [← hcl]; show _ = (if _ then _ else _); rw [if_neg (by omega), if_neg (by omega), if_neg (by omega)]) ls (lv_sub hl [0, 2, 3] rfl)
          · refine jJ_of (fun H locs => lv_iconst (v := (iI (-1))) hx hb dX6_closing_44 (by decide)) ?_
            refine jJ_perm [1, 0, 2, 3, 4] (nn := 5) rfl (by decide) (cs2 := [[(h, .inr (5, [.ref hT, .ref (a1 0), .ref (a1 1), .ref (a1 2), .int (nI nx)]))], wT1, v1 0, v1 1, v1 2]) rfl ?_
            refine jJ_flat (cs2 := [jF [[(h, .inr (5, [.ref hT, .ref (a1 0), .ref (a1 1), .ref (a1 2), .int (nI nx)]))], wT1, v1 0, v1 1, v1 2]]) rfl ?_
            exact jJ_iret hx hb hr hlocks dX6_closing_45 (by show _ ≤ 0; omega) (by show _ ≤ 0; omega) ⟨by rw [← hcl, show clF T (d + 1) i = -1 from by show (if _ then _ else _) = _; rw [if_neg (by omega), if_neg (by omega), if_pos (by omega)]], rfl, rfl, rfl⟩
      · refine jJ_of (fun H locs => lv_iload_n hx hb dX6_closing_30 rfl (lv_at hl 1 rfl)) ?_
        refine jJ_perm [1, 0, 2, 3, 4] (nn := 5) rfl (by decide) (cs2 := [[(h, .inr (5, [.ref hT, .ref (a1 0), .ref (a1 1), .ref (a1 2), .int (nI nx)]))], wT1, v1 0, v1 1, v1 2]) rfl ?_
        refine jJ_flat (cs2 := [jF [[(h, .inr (5, [.ref hT, .ref (a1 0), .ref (a1 1), .ref (a1 2), .int (nI nx)]))], wT1, v1 0, v1 1, v1 2]]) rfl ?_
        exact jJ_iret hx hb hr hlocks dX6_closing_31 (by show _ ≤ 0; omega) (by show _ ≤ 0; omega) ⟨by rw [← hcl, show clF T (d + 1) i = (i : Int) from by show (if _ then _ else _) = _; rw [if_neg (by omega), if_pos (by omega)], ← nI_iI], rfl, rfl, rfl⟩
theorem uX6_in_X6_pastDigits : ∀ w ∈ u_ws RX6 TX6 5, w ∈ wsX6_pastDigits := by decide +kernel
set_option maxHeartbeats 4000000 in
set_option maxRecDepth 100000 in
/-- pastDigits(o) -/
theorem c_Tok_pastDigits {h hT P nx : Nat} {T : List Nat} {tk : Nat → List Nat} {w : va_W} (hw : jTok cI h hT P T tk nx w) (o : Nat) (ho : o < 50000) : HM l yX6_pastDigits wsX6_pastDigits ({ frames := 1, cells := 0, slots := 0, locals := 60 } : Room) D G (jT cI cJ cB cZ) [.ref h, .int (nI o)] w (fun v u k n => v = some (.int (nI (pd T o))) ∧ u = w ∧ k = 0 ∧ n = 0) := by
  refine HM_of (cc := cX6_pastDigits) (maxL := 3) (ret := (some .int)) (lv := [(0, .ref h), (1, .int (nI o))]) (by decide) rfl rfl (Nat.le_of_ble_eq_true rfl) (fun p e s m args below meth c A0 ls hx hb hr hts hown hlocks hml hnm hK hA hAm hl => ?_)
  have hLn := hw.len
  have hsv1 := hw
  obtain ⟨a1, q1, v1, qT1, wT1, rfl, hrT1, hr1, hP1, hB1, hnx1, hl11, hl21, hvb1⟩ := hsv1
  refine jJ_open (xs := jTkW h hT a1 nx wT1 v1) (r := []) (cs2 := [[(h, .inr (5, [.ref hT, .ref (a1 0), .ref (a1 1), .ref (a1 2), .int (nI nx)]))], wT1, v1 0, v1 1, v1 2]) rfl ?_
  refine jJ_of (fun H locs => lv_iload_n hx hb dX6_pastDigits_0 rfl (lv_at hl 1 rfl)) ?_
  refine jJ_ofL (fun H locs => lv_istore_n (lv' := [(2, .int (nI o)), (0, .ref h), (1, .int (nI o))]) hx hb dX6_pastDigits_1 rfl hl (by decide) rfl) (fun ls hl => ?_)
  refine jJ_flat (cs2 := [jF [[(h, .inr (5, [.ref hT, .ref (a1 0), .ref (a1 1), .ref (a1 2), .int (nI nx)]))], wT1, v1 0, v1 1, v1 2]]) rfl ?_
  suffices lp : ∀ (d i : Nat), T.length - i < d → i < 100000 → pdF T d i = pd T o → ∀ ls, lv_has ls 3 [(2, .int (nI i)), (0, .ref h), (1, .int (nI o))] → jJ p l e _ s m args below meth c D A0 [jF [[(h, .inr (5, [.ref hT, .ref (a1 0), .ref (a1 1), .ref (a1 2), .int (nI nx)]))], wT1, v1 0, v1 1, v1 2]] 0 0 (jEnd below D A0 _ args s _ _) (F0 m 2 ls []) from lp (T.length + 1) o (by omega) (by omega) rfl ls hl
  intro d
  induction d with
  | zero => intro i h9; exact absurd h9 (Nat.not_lt_zero _)
  | succ d ih =>
    intro i h9 hi9 hcl ls hl
    have hgb := hLn.2.2.2.2.2.1 i
    refine jJ_of (fun H locs => lv_iload_n hx hb dX6_pastDigits_2 rfl (lv_at hl 0 rfl)) ?_
    refine jJ_of (fun H locs => lv_aload_n hx hb dX6_pastDigits_3 rfl (lv_at hl 1 rfl)) ?_
    refine jJ_open (xs := [[(h, .inr (5, [.ref hT, .ref (a1 0), .ref (a1 1), .ref (a1 2), .int (nI nx)]))], wT1, v1 0, v1 1, v1 2]) (r := []) (cs2 := [[(h, .inr (5, [.ref hT, .ref (a1 0), .ref (a1 1), .ref (a1 2), .int (nI nx)]))], wT1, v1 0, v1 1, v1 2]) rfl ?_
    refine jJ_get hx hb (C := RX6) (T := TX6) (N := 5) hts uX6_in_X6_pastDigits hown hK 0 rfl rfl 0 (by decide) (hts (.fieldLink RX6 24 "ValueBlocks$Tokens" "text" "LValueBlocks$Row;") (by decide +kernel)) (fun _ h9 => h9) rfl dX6_pastDigits_4 ?_
    refine jJ_callV (As := []) (rest := [.int (nI i)]) (wc := _) (cs2 := [[(h, .inr (5, [.ref hT, .ref (a1 0), .ref (a1 1), .ref (a1 2), .int (nI nx)]))], v1 0, v1 1, v1 2]) (C := RX5) (T := TX5) (N := 3) (ci := 4) [1] [0, 2, 3, 4] ⟨hx, hb, hml, hown, hts⟩ hK hA hAm (c_Row_size hrT1) (cwV 0 hts gX6_pastDigits_X5_size rfl rfl rfl (by decide +kernel) ⟨Nat.le_of_ble_eq_true rfl, Nat.le_of_ble_eq_true rfl⟩) (nn := 5) rfl (by decide) rfl rfl hrT1.hd rfl rfl rfl hl.1 (Nat.le_of_ble_eq_true rfl) dX6_pastDigits_7 (by show _ + 0 ≤ 0; omega) (by show _ + 0 ≤ 0; omega) (fun v u2 k2 n2 hq2 => ?_)
    obtain ⟨rfl, hw2, rfl, rfl⟩ := hq2
    rw [hw2]
    rw [List.length_map]
    refine jJ_eq (g2 := F0 m 10 ls [.int (nI T.length), .int (nI i)]) (cs2 := [wT1, [(h, .inr (5, [.ref hT, .ref (a1 0), .ref (a1 1), .ref (a1 2), .int (nI nx)]))], v1 0, v1 1, v1 2]) rfl rfl ?_
    refine jJ_of2 (fun H locs => jn_icmp_ge (tgt := 35) hx hb dX6_pastDigits_10 (by decide) (by omega) (by omega)) (fun c10 => ?_) (fun c10 => ?_)
    · refine jJ_of (fun H locs => lv_aload_n hx hb dX6_pastDigits_35 rfl (lv_at hl 1 rfl)) ?_
      refine jJ_get hx hb (C := RX6) (T := TX6) (N := 5) hts uX6_in_X6_pastDigits hown hK 1 rfl rfl 0 (by decide) (hts (.fieldLink RX6 24 "ValueBlocks$Tokens" "text" "LValueBlocks$Row;") (by decide +kernel)) (fun _ h9 => h9) rfl dX6_pastDigits_36 ?_
      refine jJ_callV (As := []) (rest := []) (wc := _) (cs2 := [[(h, .inr (5, [.ref hT, .ref (a1 0), .ref (a1 1), .ref (a1 2), .int (nI nx)]))], v1 0, v1 1, v1 2]) (C := RX5) (T := TX5) (N := 3) (ci := 4) [0] [1, 2, 3, 4] ⟨hx, hb, hml, hown, hts⟩ hK hA hAm (c_Row_size hrT1) (cwV 0 hts gX6_pastDigits_X5_size rfl rfl rfl (by decide +kernel) ⟨Nat.le_of_ble_eq_true rfl, Nat.le_of_ble_eq_true rfl⟩) (nn := 5) rfl (by decide) rfl rfl hrT1.hd rfl rfl rfl hl.1 (Nat.le_of_ble_eq_true rfl) dX6_pastDigits_39 (by show _ + 0 ≤ 0; omega) (by show _ + 0 ≤ 0; omega) (fun v u3 k3 n3 hq3 => ?_)
      obtain ⟨rfl, hw3, rfl, rfl⟩ := hq3
      rw [hw3]
      rw [List.length_map]
      refine jJ_eq (g2 := F0 m 42 ls [.int (nI T.length)]) (cs2 := [wT1, [(h, .inr (5, [.ref hT, .ref (a1 0), .ref (a1 1), .ref (a1 2), .int (nI nx)]))], v1 0, v1 1, v1 2]) rfl rfl ?_
      refine jJ_perm [1, 0, 2, 3, 4] (nn := 5) rfl (by decide) (cs2 := [[(h, .inr (5, [.ref hT, .ref (a1 0), .ref (a1 1), .ref (a1 2), .int (nI nx)]))], wT1, v1 0, v1 1, v1 2]) rfl ?_
      refine jJ_flat (cs2 := [jF [[(h, .inr (5, [.ref hT, .ref (a1 0), .ref (a1 1), .ref (a1 2), .int (nI nx)]))], wT1, v1 0, v1 1, v1 2]]) rfl ?_
      exact jJ_iret hx hb hr hlocks dX6_pastDigits_42 (by show _ ≤ 0; omega) (by show _ ≤ 0; omega) ⟨by rw [← hcl, show pdF T (d + 1) i = T.length from by show (if _ then _ else _) = _; rw [if_pos (by omega)]], rfl, rfl, rfl⟩
    · refine jJ_of (fun H locs => lv_aload_n hx hb dX6_pastDigits_13 rfl (lv_at hl 1 rfl)) ?_
      refine jJ_get hx hb (C := RX6) (T := TX6) (N := 5) hts uX6_in_X6_pastDigits hown hK 1 rfl rfl 0 (by decide) (hts (.fieldLink RX6 24 "ValueBlocks$Tokens" "text" "LValueBlocks$Row;") (by decide +kernel)) (fun _ h9 => h9) rfl dX6_pastDigits_14 ?_
      refine jJ_of (fun H locs => lv_iload_n hx hb dX6_pastDigits_17 rfl (lv_at hl 0 rfl)) ?_
      refine jJ_callV (As := [.int (nI i)]) (rest := []) (wc := _) (cs2 := [[(h, .inr (5, [.ref hT, .ref (a1 0), .ref (a1 1), .ref (a1 2), .int (nI nx)]))], v1 0, v1 1, v1 2]) (C := RX5) (T := TX5) (N := 3) (ci := 4) [0] [1, 2, 3, 4] ⟨hx, hb, hml, hown, hts⟩ hK hA hAm (c_Row_get hrT1 i (by omega)) (cwV 1 hts gX6_pastDigits_X5_get rfl rfl rfl (by decide +kernel) ⟨Nat.le_of_ble_eq_true rfl, Nat.le_of_ble_eq_true rfl⟩) (nn := 5) rfl (by decide) rfl rfl hrT1.hd rfl rfl rfl hl.1 (Nat.le_of_ble_eq_true rfl) dX6_pastDigits_18 (by show _ + 0 ≤ 0; omega) (by show _ + 0 ≤ 0; omega) (fun v u4 k4 n4 hq4 => ?_)
      obtain ⟨rfl, hw4, rfl, rfl⟩ := hq4
      rw [hw4]
      rw [jget_n]
      refine jJ_eq (g2 := F0 m 21 ls [.int (nI (T.getD i 0))]) (cs2 := [wT1, [(h, .inr (5, [.ref hT, .ref (a1 0), .ref (a1 1), .ref (a1 2), .int (nI nx)]))], v1 0, v1 1, v1 2]) rfl rfl ?_
      refine jJ_callS (As := [.int (nI (T.getD i 0))]) (rest := []) (wc := _) (cs2 := [wT1, [(h, .inr (5, [.ref hT, .ref (a1 0), .ref (a1 1), .ref (a1 2), .int (nI nx)]))], v1 0, v1 1, v1 2]) [] [0, 1, 2, 3, 4] ⟨hx, hb, hml, hown, hts⟩ hK hA hAm (c_isDigit (T.getD i 0) (by omega)) (va_cwS 1 hts gX6_pastDigits_X6_isDigit rfl rfl rfl (by decide +kernel) ⟨Nat.le_of_ble_eq_true rfl, Nat.le_of_ble_eq_true rfl⟩) (nn := 5) rfl (by decide) rfl rfl rfl rfl hl.1 (Nat.le_of_ble_eq_true rfl) dX6_pastDigits_21 (by show _ + 0 ≤ 0; omega) (by show _ + 0 ≤ 0; omega) (fun v u5 k5 n5 hq5 => ?_)
      obtain ⟨rfl, rfl, rfl, rfl⟩ := hq5
      refine jJ_eq (g2 := F0 m 24 ls [.int (bI (isDg (T.getD i 0)))]) (cs2 := [([] : va_W), wT1, [(h, .inr (5, [.ref hT, .ref (a1 0), .ref (a1 1), .ref (a1 2), .int (nI nx)]))], v1 0, v1 1, v1 2]) rfl rfl ?_
      refine jJ_flat (cs2 := [wT1, [(h, .inr (5, [.ref hT, .ref (a1 0), .ref (a1 1), .ref (a1 2), .int (nI nx)]))], v1 0, v1 1, v1 2]) rfl ?_
      refine jJ_of2 (fun H locs => jb_if_ne (tgt := 29) hx hb dX6_pastDigits_24 (by decide)) (fun c24 => ?_) (fun c24 => ?_)
      · refine jJ_ofL (fun H locs => lv_iinc (v := (nI (i + 1))) (lv' := [(2, .int (nI (i + 1))), (0, .ref h), (1, .int (nI o))]) hx hb dX6_pastDigits_29 hl (k := 0) rfl (nI_add _ _) (by decide) rfl) (fun ls hl => ?_)
        refine jJ_of (fun H locs => lv_goto (tgt := 2) hx hb dX6_pastDigits_32 (by decide)) ?_
        refine jJ_perm [1, 0, 2, 3, 4] (nn := 5) rfl (by decide) (cs2 := [[(h, .inr (5, [.ref hT, .ref (a1 0), .ref (a1 1), .ref (a1 2), .int (nI nx)]))], wT1, v1 0, v1 1, v1 2]) rfl ?_
        refine jJ_flat (cs2 := [jF [[(h, .inr (5, [.ref hT, .ref (a1 0), .ref (a1 1), .ref (a1 2), .int (nI nx)]))], wT1, v1 0, v1 1, v1 2]]) rfl ?_
        exact ih (i + 1) (by omega) (by omega) (by rw [← hcl]; show _ = (if _ then _ else _); rw [if_neg (by omega), if_pos c24]) ls hl
      · refine jJ_of (fun H locs => lv_iload_n hx hb dX6_pastDigits_27 rfl (lv_at hl 0 rfl)) ?_
        refine jJ_perm [1, 0, 2, 3, 4] (nn := 5) rfl (by decide) (cs2 := [[(h, .inr (5, [.ref hT, .ref (a1 0), .ref (a1 1), .ref (a1 2), .int (nI nx)]))], wT1, v1 0, v1 1, v1 2]) rfl ?_
        refine jJ_flat (cs2 := [jF [[(h, .inr (5, [.ref hT, .ref (a1 0), .ref (a1 1), .ref (a1 2), .int (nI nx)]))], wT1, v1 0, v1 1, v1 2]]) rfl ?_
        exact jJ_iret hx hb hr hlocks dX6_pastDigits_28 (by show _ ≤ 0; omega) (by show _ ≤ 0; omega) ⟨by rw [← hcl, show pdF T (d + 1) i = i from by show (if _ then _ else _) = _; rw [if_neg (by omega), if_neg (by rw [c24]; decide)]], rfl, rfl, rfl⟩
theorem uX6_in_X6_pastBlanks : ∀ w ∈ u_ws RX6 TX6 5, w ∈ wsX6_pastBlanks := by decide +kernel
set_option maxHeartbeats 4000000 in
set_option maxRecDepth 100000 in
/-- pastBlanks(o) -/
theorem c_Tok_pastBlanks {h hT P nx : Nat} {T : List Nat} {tk : Nat → List Nat} {w : va_W} (hw : jTok cI h hT P T tk nx w) (o : Nat) (ho : o < 50000) : HM l yX6_pastBlanks wsX6_pastBlanks ({ frames := 2, cells := 0, slots := 0, locals := 100 } : Room) D G (jT cI cJ cB cZ) [.ref h, .int (nI o)] w (fun v u k n => v = some (.int (nI (pb T o))) ∧ u = w ∧ k = 0 ∧ n = 0) := by
  refine HM_of (cc := cX6_pastBlanks) (maxL := 5) (ret := (some .int)) (lv := [(0, .ref h), (1, .int (nI o))]) (by decide) rfl rfl (Nat.le_of_ble_eq_true rfl) (fun p e s m args below meth c A0 ls hx hb hr hts hown hlocks hml hnm hK hA hAm hl => ?_)
  have hLn := hw.len
  have hsv1 := hw
  obtain ⟨a1, q1, v1, qT1, wT1, rfl, hrT1, hr1, hP1, hB1, hnx1, hl11, hl21, hvb1⟩ := hsv1
  refine jJ_open (xs := jTkW h hT a1 nx wT1 v1) (r := []) (cs2 := [[(h, .inr (5, [.ref hT, .ref (a1 0), .ref (a1 1), .ref (a1 2), .int (nI nx)]))], wT1, v1 0, v1 1, v1 2]) rfl ?_
  refine jJ_of (fun H locs => lv_iload_n hx hb dX6_pastBlanks_0 rfl (lv_at hl 1 rfl)) ?_
  refine jJ_ofL (fun H locs => lv_istore_n (lv' := [(2, .int (nI o)), (0, .ref h), (1, .int (nI o))]) hx hb dX6_pastBlanks_1 rfl hl (by decide) rfl) (fun ls hl => ?_)
  refine jJ_flat (cs2 := [jF [[(h, .inr (5, [.ref hT, .ref (a1 0), .ref (a1 1), .ref (a1 2), .int (nI nx)]))], wT1, v1 0, v1 1, v1 2]]) rfl ?_
  suffices lp : ∀ (d i : Nat), T.length - i < d → i < 100000 → pbF T d i = pb T o → ∀ ls, lv_has ls 5 [(2, .int (nI i)), (0, .ref h), (1, .int (nI o))] → jJ p l e _ s m args below meth c D A0 [jF [[(h, .inr (5, [.ref hT, .ref (a1 0), .ref (a1 1), .ref (a1 2), .int (nI nx)]))], wT1, v1 0, v1 1, v1 2]] 0 0 (jEnd below D A0 _ args s _ _) (F0 m 2 ls []) from lp (T.length + 1) o (by omega) (by omega) rfl ls hl
  intro d
  induction d with
  | zero => intro i h9; exact absurd h9 (Nat.not_lt_zero _)
  | succ d ih =>
    intro i h9 hi9 hcl ls hl
    have hgb := hLn.2.2.2.2.2.1 i
    have hcb : clo T i = -1 ∨ ((i + 1 : Nat) : Int) ≤ clo T i ∧ clo T i < (T.length : Int) := clF_b T (T.length + 1) (i + 1)
    refine jJ_of (fun H locs => lv_iload_n hx hb dX6_pastBlanks_2 rfl (lv_at hl 0 rfl)) ?_
    refine jJ_of (fun H locs => lv_aload_n hx hb dX6_pastBlanks_3 rfl (lv_at hl 1 rfl)) ?_
    refine jJ_open (xs := [[(h, .inr (5, [.ref hT, .ref (a1 0), .ref (a1 1), .ref (a1 2), .int (nI nx)]))], wT1, v1 0, v1 1, v1 2]) (r := []) (cs2 := [[(h, .inr (5, [.ref hT, .ref (a1 0), .ref (a1 1), .ref (a1 2), .int (nI nx)]))], wT1, v1 0, v1 1, v1 2]) rfl ?_
    refine jJ_get hx hb (C := RX6) (T := TX6) (N := 5) hts uX6_in_X6_pastBlanks hown hK 0 rfl rfl 0 (by decide) (hts (.fieldLink RX6 24 "ValueBlocks$Tokens" "text" "LValueBlocks$Row;") (by decide +kernel)) (fun _ h9 => h9) rfl dX6_pastBlanks_4 ?_
    refine jJ_callV (As := []) (rest := [.int (nI i)]) (wc := _) (cs2 := [[(h, .inr (5, [.ref hT, .ref (a1 0), .ref (a1 1), .ref (a1 2), .int (nI nx)]))], v1 0, v1 1, v1 2]) (C := RX5) (T := TX5) (N := 3) (ci := 4) [1] [0, 2, 3, 4] ⟨hx, hb, hml, hown, hts⟩ hK hA hAm (c_Row_size hrT1) (cwV 0 hts gX6_pastBlanks_X5_size rfl rfl rfl (by decide +kernel) ⟨Nat.le_of_ble_eq_true rfl, Nat.le_of_ble_eq_true rfl⟩) (nn := 5) rfl (by decide) rfl rfl hrT1.hd rfl rfl rfl hl.1 (Nat.le_of_ble_eq_true rfl) dX6_pastBlanks_7 (by show _ + 0 ≤ 0; omega) (by show _ + 0 ≤ 0; omega) (fun v u2 k2 n2 hq2 => ?_)
    obtain ⟨rfl, hw2, rfl, rfl⟩ := hq2
    rw [hw2]
    rw [List.length_map]
    refine jJ_eq (g2 := F0 m 10 ls [.int (nI T.length), .int (nI i)]) (cs2 := [wT1, [(h, .inr (5, [.ref hT, .ref (a1 0), .ref (a1 1), .ref (a1 2), .int (nI nx)]))], v1 0, v1 1, v1 2]) rfl rfl ?_
    refine jJ_of2 (fun H locs => jn_icmp_ge (tgt := 79) hx hb dX6_pastBlanks_10 (by decide) (by omega) (by omega)) (fun c10 => ?_) (fun c10 => ?_)
    · refine jJ_of (fun H locs => lv_aload_n hx hb dX6_pastBlanks_79 rfl (lv_at hl 1 rfl)) ?_
      refine jJ_get hx hb (C := RX6) (T := TX6) (N := 5) hts uX6_in_X6_pastBlanks hown hK 1 rfl rfl 0 (by decide) (hts (.fieldLink RX6 24 "ValueBlocks$Tokens" "text" "LValueBlocks$Row;") (by decide +kernel)) (fun _ h9 => h9) rfl dX6_pastBlanks_80 ?_
      refine jJ_callV (As := []) (rest := []) (wc := _) (cs2 := [[(h, .inr (5, [.ref hT, .ref (a1 0), .ref (a1 1), .ref (a1 2), .int (nI nx)]))], v1 0, v1 1, v1 2]) (C := RX5) (T := TX5) (N := 3) (ci := 4) [0] [1, 2, 3, 4] ⟨hx, hb, hml, hown, hts⟩ hK hA hAm (c_Row_size hrT1) (cwV 0 hts gX6_pastBlanks_X5_size rfl rfl rfl (by decide +kernel) ⟨Nat.le_of_ble_eq_true rfl, Nat.le_of_ble_eq_true rfl⟩) (nn := 5) rfl (by decide) rfl rfl hrT1.hd rfl rfl rfl hl.1 (Nat.le_of_ble_eq_true rfl) dX6_pastBlanks_83 (by show _ + 0 ≤ 0; omega) (by show _ + 0 ≤ 0; omega) (fun v u3 k3 n3 hq3 => ?_)
      obtain ⟨rfl, hw3, rfl, rfl⟩ := hq3
      rw [hw3]
      rw [List.length_map]
      refine jJ_eq (g2 := F0 m 86 ls [.int (nI T.length)]) (cs2 := [wT1, [(h, .inr (5, [.ref hT, .ref (a1 0), .ref (a1 1), .ref (a1 2), .int (nI nx)]))], v1 0, v1 1, v1 2]) rfl rfl ?_
      refine jJ_perm [1, 0, 2, 3, 4] (nn := 5) rfl (by decide) (cs2 := [[(h, .inr (5, [.ref hT, .ref (a1 0), .ref (a1 1), .ref (a1 2), .int (nI nx)]))], wT1, v1 0, v1 1, v1 2]) rfl ?_
      refine jJ_flat (cs2 := [jF [[(h, .inr (5, [.ref hT, .ref (a1 0), .ref (a1 1), .ref (a1 2), .int (nI nx)]))], wT1, v1 0, v1 1, v1 2]]) rfl ?_
      exact jJ_iret hx hb hr hlocks dX6_pastBlanks_86 (by show _ ≤ 0; omega) (by show _ ≤ 0; omega) ⟨by rw [← hcl, show pbF T (d + 1) i = T.length from by show (if _ then _ else _) = _; rw [if_pos (by omega)]], rfl, rfl, rfl⟩
    · refine jJ_of (fun H locs => lv_aload_n hx hb dX6_pastBlanks_13 rfl (lv_at hl 1 rfl)) ?_
      refine jJ_get hx hb (C := RX6) (T := TX6) (N := 5) hts uX6_in_X6_pastBlanks hown hK 1 rfl rfl 0 (by decide) (hts (.fieldLink RX6 24 "ValueBlocks$Tokens" "text" "LValueBlocks$Row;") (by decide +kernel)) (fun _ h9 => h9) rfl dX6_pastBlanks_14 ?_
      refine jJ_of (fun H locs => lv_iload_n hx hb dX6_pastBlanks_17 rfl (lv_at hl 0 rfl)) ?_
      refine jJ_callV (As := [.int (nI i)]) (rest := []) (wc := _) (cs2 := [[(h, .inr (5, [.ref hT, .ref (a1 0), .ref (a1 1), .ref (a1 2), .int (nI nx)]))], v1 0, v1 1, v1 2]) (C := RX5) (T := TX5) (N := 3) (ci := 4) [0] [1, 2, 3, 4] ⟨hx, hb, hml, hown, hts⟩ hK hA hAm (c_Row_get hrT1 i (by omega)) (cwV 1 hts gX6_pastBlanks_X5_get rfl rfl rfl (by decide +kernel) ⟨Nat.le_of_ble_eq_true rfl, Nat.le_of_ble_eq_true rfl⟩) (nn := 5) rfl (by decide) rfl rfl hrT1.hd rfl rfl rfl hl.1 (Nat.le_of_ble_eq_true rfl) dX6_pastBlanks_18 (by show _ + 0 ≤ 0; omega) (by show _ + 0 ≤ 0; omega) (fun v u4 k4 n4 hq4 => ?_)
      obtain ⟨rfl, hw4, rfl, rfl⟩ := hq4
      rw [hw4]
      rw [jget_n]
      refine jJ_eq (g2 := F0 m 21 ls [.int (nI (T.getD i 0))]) (cs2 := [wT1, [(h, .inr (5, [.ref hT, .ref (a1 0), .ref (a1 1), .ref (a1 2), .int (nI nx)]))], v1 0, v1 1, v1 2]) rfl rfl ?_
      refine jJ_ofL (fun H locs => lv_istore_n (lv' := [(3, .int (nI (T.getD i 0))), (2, .int (nI i)), (0, .ref h), (1, .int (nI o))]) hx hb dX6_pastBlanks_21 rfl hl (by decide) rfl) (fun ls hl => ?_)
      refine jJ_of (fun H locs => lv_iload_n hx hb dX6_pastBlanks_22 rfl (lv_at hl 0 rfl)) ?_
      refine jJ_of (fun H locs => lv_bipush (v := (nI 40)) hx hb dX6_pastBlanks_23 (by decide)) ?_
      refine jJ_of2 (fun H locs => jn_icmp_ne (tgt := 36) hx hb dX6_pastBlanks_25 (by decide) (by omega) (by omega)) (fun c25 => ?_) (fun c25 => ?_)
      · refine jJ_of (fun H locs => lv_iload_n hx hb dX6_pastBlanks_36 rfl (lv_at hl 1 rfl)) ?_
        refine jJ_ofL (fun H locs => lv_istore (lv' := [(4, .int (nI i)), (3, .int (nI (T.getD i 0))), (2, .int (nI i)), (0, .ref h), (1, .int (nI o))]) hx hb dX6_pastBlanks_37 hl (by decide) rfl) (fun ls hl => ?_)
        refine jJ_of (fun H locs => lv_iload hx hb dX6_pastBlanks_39 (lv_at hl 0 rfl)) ?_
        refine jJ_of2 (fun H locs => jn_if_lt (tgt := 68) hx hb dX6_pastBlanks_41 (by decide) (by omega)) (fun c41 => ?_) (fun c41 => ?_)
        · omega
        · refine jJ_of (fun H locs => lv_iload_n hx hb dX6_pastBlanks_44 rfl (lv_at hl 1 rfl)) ?_
          refine jJ_of (fun H locs => lv_bipush (v := (nI 40)) hx hb dX6_pastBlanks_45 (by decide)) ?_
          refine jJ_of2 (fun H locs => jn_icmp_eq (tgt := 70) hx hb dX6_pastBlanks_47 (by decide) (by omega) (by omega)) (fun c47 => ?_) (fun c47 => ?_)
          · omega
          · refine jJ_of (fun H locs => lv_iload_n hx hb dX6_pastBlanks_50 rfl (lv_at hl 1 rfl)) ?_
            refine jJ_of (fun H locs => lv_bipush (v := (nI 9)) hx hb dX6_pastBlanks_51 (by decide)) ?_
            refine jJ_of2 (fun H locs => jn_icmp_eq (tgt := 70) hx hb dX6_pastBlanks_53 (by decide) (by omega) (by omega)) (fun c53 => ?_) (fun c53 => ?_)
            · refine jJ_of (fun H locs => lv_iload hx hb dX6_pastBlanks_70 (lv_at hl 0 rfl)) ?_
              refine jJ_ofL (fun H locs => lv_istore_n (lv' := [(2, .int (nI i)), (4, .int (nI i)), (3, .int (nI (T.getD i 0))), (0, .ref h), (1, .int (nI o))]) hx hb dX6_pastBlanks_72 rfl hl (by decide) rfl) (fun ls hl => ?_)
              refine jJ_ofL (fun H locs => lv_iinc (v := (nI (i + 1))) (lv' := [(2, .int (nI (i + 1))), (4, .int (nI i)), (3, .int (nI (T.getD i 0))), (0, .ref h), (1, .int (nI o))]) hx hb dX6_pastBlanks_73 hl (k := 0) rfl (nI_add _ _) (by decide) rfl) (fun ls hl => ?_)
              refine jJ_of (fun H locs => lv_goto (tgt := 2) hx hb dX6_pastBlanks_76 (by decide)) ?_
              refine jJ_perm [1, 0, 2, 3, 4] (nn := 5) rfl (by decide) (cs2 := [[(h, .inr (5, [.ref hT, .ref (a1 0), .ref (a1 1), .ref (a1 2), .int (nI nx)]))], wT1, v1 0, v1 1, v1 2]) rfl ?_
              refine jJ_flat (cs2 := [jF [[(h, .inr (5, [.ref hT, .ref (a1 0), .ref (a1 1), .ref (a1 2), .int (nI nx)]))], wT1, v1 0, v1 1, v1 2]]) rfl ?_
              exact ih (i + 1) (by omega) (by omega) (by rw [← hcl]; show _ = (if _ then _ else _); rw [if_neg (by omega), if_neg (by omega), if_pos (by omega)]) ls (lv_sub hl [0, 3, 4] rfl)
            · refine jJ_of (fun H locs => lv_iload_n hx hb dX6_pastBlanks_56 rfl (lv_at hl 1 rfl)) ?_
              refine jJ_of (fun H locs => lv_bipush (v := (nI 13)) hx hb dX6_pastBlanks_57 (by decide)) ?_
              refine jJ_of2 (fun H locs => jn_icmp_eq (tgt := 70) hx hb dX6_pastBlanks_59 (by decide) (by omega) (by omega)) (fun c59 => ?_) (fun c59 => ?_)
              · refine jJ_of (fun H locs => lv_iload hx hb dX6_pastBlanks_70 (lv_at hl 0 rfl)) ?_
                refine jJ_ofL (fun H locs => lv_istore_n (lv' := [(2, .int (nI i)), (4, .int (nI i)), (3, .int (nI (T.getD i 0))), (0, .ref h), (1, .int (nI o))]) hx hb dX6_pastBlanks_72 rfl hl (by decide) rfl) (fun ls hl => ?_)
                refine jJ_ofL (fun H locs => lv_iinc (v := (nI (i + 1))) (lv' := [(2, .int (nI (i + 1))), (4, .int (nI i)), (3, .int (nI (T.getD i 0))), (0, .ref h), (1, .int (nI o))]) hx hb dX6_pastBlanks_73 hl (k := 0) rfl (nI_add _ _) (by decide) rfl) (fun ls hl => ?_)
                refine jJ_of (fun H locs => lv_goto (tgt := 2) hx hb dX6_pastBlanks_76 (by decide)) ?_
                refine jJ_perm [1, 0, 2, 3, 4] (nn := 5) rfl (by decide) (cs2 := [[(h, .inr (5, [.ref hT, .ref (a1 0), .ref (a1 1), .ref (a1 2), .int (nI nx)]))], wT1, v1 0, v1 1, v1 2]) rfl ?_
                refine jJ_flat (cs2 := [jF [[(h, .inr (5, [.ref hT, .ref (a1 0), .ref (a1 1), .ref (a1 2), .int (nI nx)]))], wT1, v1 0, v1 1, v1 2]]) rfl ?_
                exact ih (i + 1) (by omega) (by omega) (by rw [← hcl]; show _ = (if _ then _ else _); rw [if_neg (by omega), if_neg (by omega), if_pos (by omega)]) ls (lv_sub hl [0, 3, 4] rfl)
              · refine jJ_of (fun H locs => lv_iload_n hx hb dX6_pastBlanks_62 rfl (lv_at hl 1 rfl)) ?_
                refine jJ_of (fun H locs => lv_bipush (v := (nI 32)) hx hb dX6_pastBlanks_63 (by decide)) ?_
                refine jJ_of2 (fun H locs => jn_icmp_eq (tgt := 70) hx hb dX6_pastBlanks_65 (by decide) (by omega) (by omega)) (fun c65 => ?_) (fun c65 => ?_)
                · refine jJ_of (fun H locs => lv_iload hx hb dX6_pastBlanks_70 (lv_at hl 0 rfl)) ?_
                  refine jJ_ofL (fun H locs => lv_istore_n (lv' := [(2, .int (nI i)), (4, .int (nI i)), (3, .int (nI (T.getD i 0))), (0, .ref h), (1, .int (nI o))]) hx hb dX6_pastBlanks_72 rfl hl (by decide) rfl) (fun ls hl => ?_)
                  refine jJ_ofL (fun H locs => lv_iinc (v := (nI (i + 1))) (lv' := [(2, .int (nI (i + 1))), (4, .int (nI i)), (3, .int (nI (T.getD i 0))), (0, .ref h), (1, .int (nI o))]) hx hb dX6_pastBlanks_73 hl (k := 0) rfl (nI_add _ _) (by decide) rfl) (fun ls hl => ?_)
                  refine jJ_of (fun H locs => lv_goto (tgt := 2) hx hb dX6_pastBlanks_76 (by decide)) ?_
                  refine jJ_perm [1, 0, 2, 3, 4] (nn := 5) rfl (by decide) (cs2 := [[(h, .inr (5, [.ref hT, .ref (a1 0), .ref (a1 1), .ref (a1 2), .int (nI nx)]))], wT1, v1 0, v1 1, v1 2]) rfl ?_
                  refine jJ_flat (cs2 := [jF [[(h, .inr (5, [.ref hT, .ref (a1 0), .ref (a1 1), .ref (a1 2), .int (nI nx)]))], wT1, v1 0, v1 1, v1 2]]) rfl ?_
                  exact ih (i + 1) (by omega) (by omega) (by rw [← hcl]; show _ = (if _ then _ else _); rw [if_neg (by omega), if_neg (by omega), if_pos (by omega)]) ls (lv_sub hl [0, 3, 4] rfl)
                · refine jJ_of (fun H locs => lv_iload_n hx hb dX6_pastBlanks_68 rfl (lv_at hl 2 rfl)) ?_
                  refine jJ_perm [1, 0, 2, 3, 4] (nn := 5) rfl (by decide) (cs2 := [[(h, .inr (5, [.ref hT, .ref (a1 0), .ref (a1 1), .ref (a1 2), .int (nI nx)]))], wT1, v1 0, v1 1, v1 2]) rfl ?_
                  refine jJ_flat (cs2 := [jF [[(h, .inr (5, [.ref hT, .ref (a1 0), .ref (a1 1), .ref (a1 2), .int (nI nx)]))], wT1, v1 0, v1 1, v1 2]]) rfl ?_
                  exact jJ_iret hx hb hr hlocks dX6_pastBlanks_69 (by show _ ≤ 0; omega) (by show _ ≤ 0; omega) ⟨by rw [← hcl, show pbF T (d + 1) i = i from by show (if _ then _ else _) = _; rw [if_neg (by omega)]; first | (rw [if_pos (by omega), if_pos (by omega)]; done) | (rw [if_neg (by omega), if_neg (by omega)]; done)], rfl, rfl, rfl⟩
      · refine jJ_of (fun H locs => lv_aload_n hx hb dX6_pastBlanks_28 rfl (lv_at hl 2 rfl)) ?_
        refine jJ_of (fun H locs => lv_iload_n hx hb dX6_pastBlanks_29 rfl (lv_at hl 1 rfl)) ?_
        refine jJ_perm [1, 0, 2, 3, 4] (nn := 5) rfl (by decide) (cs2 := [[(h, .inr (5, [.ref hT, .ref (a1 0), .ref (a1 1), .ref (a1 2), .int (nI nx)]))], wT1, v1 0, v1 1, v1 2]) rfl ?_
        refine jJ_flat (cs2 := [jF [[(h, .inr (5, [.ref hT, .ref (a1 0), .ref (a1 1), .ref (a1 2), .int (nI nx)]))], wT1, v1 0, v1 1, v1 2]]) rfl ?_
        refine jJ_callV (As := [.int (nI i)]) (rest := []) (wc := _) (cs2 := []) (C := RX6) (T := TX6) (N := 5) (ci := 5) [0] [] ⟨hx, hb, hml, hown, hts⟩ hK hA hAm (c_Tok_closing hw i (by omega)) (cwV 1 hts gX6_pastBlanks_X6_closing rfl rfl rfl (by decide +kernel) ⟨Nat.le_of_ble_eq_true rfl, Nat.le_of_ble_eq_true rfl⟩) (nn := 1) rfl (by decide) rfl rfl hw.hd rfl rfl rfl hl.1 (Nat.le_of_ble_eq_true rfl) dX6_pastBlanks_30 (by show _ + 0 ≤ 0; omega) (by show _ + 0 ≤ 0; omega) (fun v u5 k5 n5 hq5 => ?_)
        obtain ⟨rfl, hw5, rfl, rfl⟩ := hq5
        rw [hw5]
        refine jJ_eq (g2 := F0 m 33 ls [.int (iI (clo T i))]) (cs2 := [jF [[(h, .inr (5, [.ref hT, .ref (a1 0), .ref (a1 1), .ref (a1 2), .int (nI nx)]))], wT1, v1 0, v1 1, v1 2]]) rfl rfl ?_
        refine jJ_of (fun H locs => lv_goto (tgt := 37) hx hb dX6_pastBlanks_33 (by decide)) ?_
        refine jJ_ofL (fun H locs => lv_istore (lv' := [(4, .int (iI (clo T i))), (3, .int (nI (T.getD i 0))), (2, .int (nI i)), (0, .ref h), (1, .int (nI o))]) hx hb dX6_pastBlanks_37 hl (by decide) rfl) (fun ls hl => ?_)
        refine jJ_of (fun H locs => lv_iload hx hb dX6_pastBlanks_39 (lv_at hl 0 rfl)) ?_
        refine jJ_of2 (fun H locs => jz_if_lt (tgt := 68) hx hb dX6_pastBlanks_41 (by decide) (by omega) (by omega)) (fun c41 => ?_) (fun c41 => ?_)
        · refine jJ_of (fun H locs => lv_iload_n hx hb dX6_pastBlanks_68 rfl (lv_at hl 2 rfl)) ?_
          exact jJ_iret hx hb hr hlocks dX6_pastBlanks_69 (by show _ ≤ 0; omega) (by show _ ≤ 0; omega) ⟨by rw [← hcl, show pbF T (d + 1) i = i from by show (if _ then _ else _) = _; rw [if_neg (by omega)]; first | (rw [if_pos (by omega), if_pos (by omega)]; done) | (rw [if_neg (by omega), if_neg (by omega)]; done)], rfl, rfl, rfl⟩
        · refine jJ_of (fun H locs => lv_iload_n hx hb dX6_pastBlanks_44 rfl (lv_at hl 1 rfl)) ?_
          refine jJ_of (fun H locs => lv_bipush (v := (nI 40)) hx hb dX6_pastBlanks_45 (by decide)) ?_
          refine jJ_of2 (fun H locs => jn_icmp_eq (tgt := 70) hx hb dX6_pastBlanks_47 (by decide) (by omega) (by omega)) (fun c47 => ?_) (fun c47 => ?_)
          · refine jJ_of (fun H locs => lv_iload hx hb dX6_pastBlanks_70 (lv_at hl 0 rfl)) ?_
            refine jJ_ofL (fun H locs => lv_istore_n (lv' := [(2, .int (iI (clo T i))), (4, .int (iI (clo T i))), (3, .int (nI (T.getD i 0))), (0, .ref h), (1, .int (nI o))]) hx hb dX6_pastBlanks_72 rfl hl (by decide) rfl) (fun ls hl => ?_)
            refine jJ_ofL (fun H locs => lv_iinc (v := (iI (clo T i + 1))) (lv' := [(2, .int (iI (clo T i + 1))), (4, .int (iI (clo T i))), (3, .int (nI (T.getD i 0))), (0, .ref h), (1, .int (nI o))]) hx hb dX6_pastBlanks_73 hl (k := 0) rfl (iI_add _ _) (by decide) rfl) (fun ls hl => ?_)
            refine jJ_of (fun H locs => lv_goto (tgt := 2) hx hb dX6_pastBlanks_76 (by decide)) ?_
            obtain ⟨k, hk⟩ : ∃ k : Nat, clo T i = (k : Int) := ⟨(clo T i).toNat, by omega⟩
            have hl2 := lv_sub (l' := [(2, .int (iI ((clo T i) + 1))), (0, .ref h), (1, .int (nI o))]) hl [0, 3, 4] rfl
            rw [hk, show ((k : Int) + 1) = ((k + 1 : Nat) : Int) from rfl, ← nI_iI] at hl2
            exact ih (k + 1) (by omega) (by omega) (by rw [← hcl]; show _ = (if _ then _ else _); rw [if_neg (by omega), if_pos (by omega), if_neg (by omega), hk]; rfl) ls hl2
          · omega

def tkAdd (tk : Nat → List Nat) (k s w : Nat) : Nat → List Nat := va_up (va_up (va_up tk 0 (tk 0 ++ [k])) 1 (tk 1 ++ [s])) 2 (tk 2 ++ [w])
theorem jin_app {xs : List Nat} {y N : Nat} (h : ∀ x ∈ xs, x < N) (hy : y < N) : ∀ x ∈ xs ++ [y], x < N := by
  intro x hx
  rcases List.mem_append.mp hx with e | e
  · exact h x e
  · rw [List.mem_singleton.mp e]; exact hy
theorem tkAdd_b {tk : Nat → List Nat} {k s w N : Nat} (h : ∀ i, i < 3 → ∀ x ∈ tk i, x < N) (hk : k < N) (hs : s < N) (hw : w < N) : ∀ i, i < 3 → ∀ x ∈ tkAdd tk k s w i, x < N := by
  intro i hi
  rcases (show i = 0 ∨ i = 1 ∨ i = 2 by omega) with rfl | rfl | rfl
  · exact jin_app (h 0 hi) hk
  · exact jin_app (h 1 hi) hs
  · exact jin_app (h 2 hi) hw
theorem isDg_b {c : Nat} (h : isDg c = true) : 48 ≤ c ∧ c ≤ 57 := by unfold isDg at h; exact of_decide_eq_true h
theorem nvF_b (T : List Nat) (e : Nat) : ∀ (f i v k : Nat), (∀ j, i ≤ j → j < e → isDg (T.getD j 0) = true) → v < 10 ^ k → nvF T e f i v < 10 ^ (k + (e - i))
  | 0, i, v, k, _, h => Nat.lt_of_lt_of_le h (Nat.pow_le_pow_right (by decide) (by omega))
  | f + 1, i, v, k, hd, h => by
    unfold nvF
    split
    · exact Nat.lt_of_lt_of_le h (Nat.pow_le_pow_right (by decide) (by omega))
    · have hg := isDg_b (hd i (Nat.le_refl _) (by omega))
      have h1 : v * 10 + T.getD i 0 - 48 < 10 ^ (k + 1) := by rw [Nat.pow_succ]; omega
      have := nvF_b T e f (i + 1) _ (k + 1) (fun j a b => hd j (by omega) b) h1
      rw [show k + 1 + (e - (i + 1)) = k + (e - i) by omega] at this
      exact this
theorem nwF_b (T : List Nat) (pE z : Nat) : ∀ (f i v k : Nat), (∀ j, i ≤ j → j < pE → isDg (T.getD j 0) = true) → v < 10 ^ k → nwF T pE z f i v < 10 ^ (k + (z - i))
  | 0, i, v, k, _, h => Nat.lt_of_lt_of_le h (Nat.pow_le_pow_right (by decide) (by omega))
  | f + 1, i, v, k, hd, h => by
    unfold nwF
    split
    · exact Nat.lt_of_lt_of_le h (Nat.pow_le_pow_right (by decide) (by omega))
    · have h1 : v * 10 + (if i < pE then T.getD i 0 - 48 else 0) < 10 ^ (k + 1) := by
        rw [Nat.pow_succ]
        split
        · rename_i q
          have hg := isDg_b (hd i (Nat.le_refl _) q)
          omega
        · omega
      have := nwF_b T pE z f (i + 1) _ (k + 1) (fun j a b => hd j (by omega) b) h1
      rw [show k + 1 + (z - (i + 1)) = k + (z - i) by omega] at this
      exact this
def nS (T : List Nat) (s : Nat) : Nat := if T.getD (pd T s) 0 = 46 then pd T s + 1 else pd T s
def nE (T : List Nat) (s : Nat) : Nat := if T.getD (pd T s) 0 = 46 then pd T (pd T s + 1) else pd T s
def nK (T : List Nat) (s : Nat) : Nat := if 6 < pd T s - s ∨ 3 < nE T s - nS T s then 0 else if T.getD (pd T s) 0 = 46 then 257 else 256
def nV (T : List Nat) (s : Nat) : Nat := nwF T (nE T s) (nS T s + 3) 4 (nS T s) (nvF T (pd T s) 7 s 0)
def nW (T : List Nat) (s : Nat) : Nat := if 6 < pd T s - s ∨ 3 < nE T s - nS T s then 0 else nV T s
def twF (T : List Nat) (s : Nat) : Nat → Nat → Nat × Nat
  | 0, _ => (0, 0)
  | f + 1, k => if 18 < k then (0, 0) else if 0 < fl T (5 * k) s then (300 + k, fl T (5 * k) s) else twF T s f (k + 1)
theorem twF_b (T : List Nat) (s : Nat) : ∀ (f k : Nat), (twF T s f k).1 < 319 ∧ (twF T s f k).2 ≤ 5
  | 0, _ => by show 0 < 319 ∧ 0 ≤ 5; omega
  | f + 1, k => by
    unfold twF
    split
    · show 0 < 319 ∧ 0 ≤ 5; omega
    · split
      · have := flF_b T (5 * k) s 6 0 (by omega)
        exact ⟨by show 300 + k < 319; omega, this⟩
      · exact twF_b T s f (k + 1)
def tkTok (T : List Nat) (i : Nat) : Nat × Nat × Nat × Nat :=
  if 8000 ≤ pb T i ∨ T.length ≤ pb T i then (if 8000 < T.length then (0, 8000, 0, pb T i + 1) else (10, T.length, 0, pb T i + 1))
  else if isDg (T.getD (pb T i) 0) = true then (nK T (pb T i), pb T i, nW T (pb T i), nE T (pb T i))
  else if 65 ≤ T.getD (pb T i) 0 ∧ T.getD (pb T i) 0 ≤ 90 then (if (twF T (pb T i) 20 0).1 = 0 then (T.getD (pb T i) 0, pb T i, 0, pb T i + 1) else ((twF T (pb T i) 20 0).1, pb T i, 0, pb T i + (twF T (pb T i) 20 0).2))
  else (if isSg (T.getD (pb T i) 0) = true then T.getD (pb T i) 0 else 0, pb T i, 0, pb T i + 1)
def spF (T : List Nat) : Nat → (Nat → List Nat) → Nat → Nat → (Nat → List Nat) × Nat × Nat
  | 0, tk, nx, la => (tk, nx, la)
  | f + 1, tk, nx, la => if nx < T.length ∧ ¬ la = 0 then spF T f (tkAdd tk (tkTok T nx).1 (tkTok T nx).2.1 (tkTok T nx).2.2.1) (tkTok T nx).2.2.2 (tkTok T nx).1 else (tk, nx, la)
def tkEnd (T : List Nat) (tk : Nat → List Nat) : Nat → List Nat := if 8000 < T.length then tkAdd tk 0 8000 0 else tkAdd tk 10 T.length 0
/-- all tokens of a text -/
def tkAll (T : List Nat) : Nat → List Nat := if ¬ (spF T 8001 (fun _ => []) 0 10).2.2 = 10 ∧ ¬ (spF T 8001 (fun _ => []) 0 10).2.2 = 0 then tkEnd T (spF T 8001 (fun _ => []) 0 10).1 else (spF T 8001 (fun _ => []) 0 10).1
theorem pd_b {T : List Nat} {s : Nat} (h : s ≤ T.length) : s ≤ pd T s ∧ pd T s ≤ T.length := ⟨(pdF_b T _ s).2 h, (pdF_b T _ s).1⟩
theorem pd_dg {T : List Nat} {s j : Nat} (h1 : s ≤ j) (h2 : j < pd T s) : isDg (T.getD j 0) = true := pdF_dg T (T.length + 1) s j h1 h2 (by omega)
theorem getD_nz {T : List Nat} {i : Nat} (h : ¬ T.getD i 0 = 0) : i < T.length := by
  rcases Nat.lt_or_ge i T.length with q | q
  · exact q
  · exact absurd (by rw [List.getD_eq_getElem?_getD, List.getElem?_eq_none q]; rfl) h
theorem nS_b {T : List Nat} {s : Nat} (h : s ≤ T.length) : pd T s ≤ nS T s ∧ nS T s ≤ nE T s ∧ nE T s ≤ T.length ∧ nS T s ≤ pd T s + 1 := by
  have h1 := pd_b h
  unfold nS nE
  split
  · rename_i q
    have h2 : pd T s < T.length := getD_nz (by omega)
    have h3 := pd_b (T := T) (s := pd T s + 1) (by omega)
    omega
  · omega
theorem nS_dg {T : List Nat} {s j : Nat} (h1 : nS T s ≤ j) (h2 : j < nE T s) : isDg (T.getD j 0) = true := by
  unfold nS nE at *
  split at h1
  · rename_i q
    rw [if_pos q] at h2
    exact pd_dg h1 h2
  · rename_i q
    rw [if_neg q] at h2
    omega
theorem nV_b {T : List Nat} {s : Nat} (h : s ≤ T.length) (h6 : pd T s - s ≤ 6) : nV T s < 1000000000 := by
  have h1 := nvF_b T (pd T s) 7 s 0 0 (fun j a b => pd_dg a b) (by decide)
  have h2 : nvF T (pd T s) 7 s 0 < 10 ^ 6 := Nat.lt_of_lt_of_le h1 (Nat.pow_le_pow_right (by decide) (by omega))
  have h3 := nwF_b T (nE T s) (nS T s + 3) 4 (nS T s) _ 6 (fun j a b => nS_dg a b) h2
  rw [show 6 + (nS T s + 3 - nS T s) = 9 by omega] at h3
  exact h3

theorem uX6_in_X6_add : ∀ w ∈ u_ws RX6 TX6 5, w ∈ wsX6_add := by decide +kernel
set_option maxHeartbeats 4000000 in
set_option maxRecDepth 100000 in
/-- add(kind, start, worth) -/
theorem c_Tok_add {h hT P nx : Nat} {T : List Nat} {tk : Nat → List Nat} {w : va_W} (hw : jTok cI h hT P T tk nx w) (k0 s0 w0 : Nat) (hk0 : k0 < 1000000000) (hs0 : s0 < 1000000000) (hw0 : w0 < 1000000000) (hlt : (tk 0).length < 8002) : HM l yX6_add wsX6_add ({ frames := 3, cells := 3, slots := 96000, locals := 140 } : Room) D G (jT cI cJ cB cZ) [.ref h, .int (nI k0), .int (nI s0), .int (nI w0)] w (fun v u k n => v = none ∧ ∃ P2 : Nat, jTok cI h hT P2 T (tkAdd tk k0 s0 w0) nx u ∧ k + P ≤ P2 ∧ n + 128 * P ≤ 128 * P2 ∧ k ≤ 3 ∧ n ≤ 96000) := by
  refine HM_of (cc := cX6_add) (maxL := 4) (ret := none) (lv := [(0, .ref h), (1, .int (nI k0)), (2, .int (nI s0)), (3, .int (nI w0))]) (by decide) rfl rfl (Nat.le_of_ble_eq_true rfl) (fun p e s m args below meth c A0 ls hx hb hr hts hown hlocks hml hnm hK hA hAm hl => ?_)
  have hLn := hw.len
  have hsv1 := hw
  obtain ⟨a1, q1, v1, qT1, wT1, rfl, hrT1, hr1, hP1, hB1, hnx1, hl11, hl21, hvb1⟩ := hsv1
  refine jJ_open (xs := jTkW h hT a1 nx wT1 v1) (r := []) (cs2 := [[(h, .inr (5, [.ref hT, .ref (a1 0), .ref (a1 1), .ref (a1 2), .int (nI nx)]))], wT1, v1 0, v1 1, v1 2]) rfl ?_
  have hlr0 := (hr1 0 (by decide)).len
  have hlr1 := (hr1 1 (by decide)).len
  have hlr2 := (hr1 2 (by decide)).len
  refine jJ_of (fun H locs => lv_aload_n hx hb dX6_add_0 rfl (lv_at hl 0 rfl)) ?_
  refine jJ_get hx hb (C := RX6) (T := TX6) (N := 5) hts uX6_in_X6_add hown hK 0 rfl rfl 1 (by decide) (hts (.fieldLink RX6 14 "ValueBlocks$Tokens" "kinds" "LValueBlocks$Row;") (by decide +kernel)) (fun _ h9 => h9) rfl dX6_add_1 ?_
  refine jJ_of (fun H locs => lv_iload_n hx hb dX6_add_4 rfl (lv_at hl 1 rfl)) ?_
  refine jJ_callV (As := [.int (nI k0)]) (rest := []) (wc := _) (cs2 := [[(h, .inr (5, [.ref hT, .ref (a1 0), .ref (a1 1), .ref (a1 2), .int (nI nx)]))], wT1, v1 1, v1 2]) (C := RX5) (T := TX5) (N := 3) (ci := 4) [2] [0, 1, 3, 4] ⟨hx, hb, hml, hown, hts⟩ hK hA hAm (c_Row_add (hr1 0 (by decide)) (nI k0) (by rw [List.length_map]; omega)) (cwV 1 hts gX6_add_X5_add rfl rfl rfl (by decide +kernel) ⟨Nat.le_of_ble_eq_true rfl, Nat.le_of_ble_eq_true rfl⟩) (nn := 5) rfl (by decide) rfl rfl (hr1 0 (by decide)).hd rfl rfl rfl hl.1 (Nat.le_of_ble_eq_true rfl) dX6_add_5 (by show _ + 1 ≤ 3; omega) (by show _ + 32000 ≤ 96000; omega) (fun v u2 k2 n2 hq2 => ?_)
  obtain ⟨rfl, qq2, hqq2, hu2, hk2, hn2, hkk2, hnn2⟩ := hq2
  rw [show ((tk 0).map nI) ++ [(nI k0)] = ((tk 0) ++ [k0]).map nI from by rw [List.map_append]; rfl] at hu2
  have hl2 := hu2.len
  refine jJ_eq (g2 := F0 m 8 ls []) (cs2 := [u2, [(h, .inr (5, [.ref hT, .ref (a1 0), .ref (a1 1), .ref (a1 2), .int (nI nx)]))], wT1, v1 1, v1 2]) rfl rfl ?_
  refine jJ_of (fun H locs => lv_aload_n hx hb dX6_add_8 rfl (lv_at hl 0 rfl)) ?_
  refine jJ_get hx hb (C := RX6) (T := TX6) (N := 5) hts uX6_in_X6_add hown hK 1 rfl rfl 2 (by decide) (hts (.fieldLink RX6 18 "ValueBlocks$Tokens" "starts" "LValueBlocks$Row;") (by decide +kernel)) (fun _ h9 => h9) rfl dX6_add_9 ?_
  refine jJ_of (fun H locs => lv_iload_n hx hb dX6_add_12 rfl (lv_at hl 2 rfl)) ?_
  refine jJ_callV (As := [.int (nI s0)]) (rest := []) (wc := _) (cs2 := [u2, [(h, .inr (5, [.ref hT, .ref (a1 0), .ref (a1 1), .ref (a1 2), .int (nI nx)]))], wT1, v1 2]) (C := RX5) (T := TX5) (N := 3) (ci := 4) [3] [0, 1, 2, 4] ⟨hx, hb, hml, hown, hts⟩ hK hA hAm (c_Row_add (hr1 1 (by decide)) (nI s0) (by rw [List.length_map]; omega)) (cwV 1 hts gX6_add_X5_add rfl rfl rfl (by decide +kernel) ⟨Nat.le_of_ble_eq_true rfl, Nat.le_of_ble_eq_true rfl⟩) (nn := 5) rfl (by decide) rfl rfl (hr1 1 (by decide)).hd rfl rfl rfl hl.1 (Nat.le_of_ble_eq_true rfl) dX6_add_13 (by show _ + 1 ≤ 3; omega) (by show _ + 32000 ≤ 96000; omega) (fun v u3 k3 n3 hq3 => ?_)
  obtain ⟨rfl, qq3, hqq3, hu3, hk3, hn3, hkk3, hnn3⟩ := hq3
  rw [show ((tk 1).map nI) ++ [(nI s0)] = ((tk 1) ++ [s0]).map nI from by rw [List.map_append]; rfl] at hu3
  have hl3 := hu3.len
  refine jJ_eq (g2 := F0 m 16 ls []) (cs2 := [u3, u2, [(h, .inr (5, [.ref hT, .ref (a1 0), .ref (a1 1), .ref (a1 2), .int (nI nx)]))], wT1, v1 2]) rfl rfl ?_
  refine jJ_of (fun H locs => lv_aload_n hx hb dX6_add_16 rfl (lv_at hl 0 rfl)) ?_
  refine jJ_get hx hb (C := RX6) (T := TX6) (N := 5) hts uX6_in_X6_add hown hK 2 rfl rfl 3 (by decide) (hts (.fieldLink RX6 21 "ValueBlocks$Tokens" "worths" "LValueBlocks$Row;") (by decide +kernel)) (fun _ h9 => h9) rfl dX6_add_17 ?_
  refine jJ_of (fun H locs => lv_iload_n hx hb dX6_add_20 rfl (lv_at hl 3 rfl)) ?_
  refine jJ_callV (As := [.int (nI w0)]) (rest := []) (wc := _) (cs2 := [u3, u2, [(h, .inr (5, [.ref hT, .ref (a1 0), .ref (a1 1), .ref (a1 2), .int (nI nx)]))], wT1]) (C := RX5) (T := TX5) (N := 3) (ci := 4) [4] [0, 1, 2, 3] ⟨hx, hb, hml, hown, hts⟩ hK hA hAm (c_Row_add (hr1 2 (by decide)) (nI w0) (by rw [List.length_map]; omega)) (cwV 1 hts gX6_add_X5_add rfl rfl rfl (by decide +kernel) ⟨Nat.le_of_ble_eq_true rfl, Nat.le_of_ble_eq_true rfl⟩) (nn := 5) rfl (by decide) rfl rfl (hr1 2 (by decide)).hd rfl rfl rfl hl.1 (Nat.le_of_ble_eq_true rfl) dX6_add_21 (by show _ + 1 ≤ 3; omega) (by show _ + 32000 ≤ 96000; omega) (fun v u4 k4 n4 hq4 => ?_)
  obtain ⟨rfl, qq4, hqq4, hu4, hk4, hn4, hkk4, hnn4⟩ := hq4
  rw [show ((tk 2).map nI) ++ [(nI w0)] = ((tk 2) ++ [w0]).map nI from by rw [List.map_append]; rfl] at hu4
  have hl4 := hu4.len
  refine jJ_eq (g2 := F0 m 24 ls []) (cs2 := [u4, u3, u2, [(h, .inr (5, [.ref hT, .ref (a1 0), .ref (a1 1), .ref (a1 2), .int (nI nx)]))], wT1]) rfl rfl ?_
  refine jJ_perm [3, 4, 2, 1, 0] (nn := 5) rfl (by decide) (cs2 := [[(h, .inr (5, [.ref hT, .ref (a1 0), .ref (a1 1), .ref (a1 2), .int (nI nx)]))], wT1, u2, u3, u4]) rfl ?_
  have hR6 := jrowsN_upd hr1 0 hu2
  have hR7 := jrowsN_upd hR6 1 hu3
  have hR8 := jrowsN_upd hR7 2 hu4
  obtain ⟨P5, hPe5⟩ : ∃ z : Nat, z = qT1 + (qq2 + qq3 + qq4) := ⟨_, rfl⟩
  have hwa5 : jTok cI h hT P5 T (va_up (va_up (va_up tk 0 ((tk 0) ++ [k0])) 1 ((tk 1) ++ [s0])) 2 ((tk 2) ++ [w0])) nx (jF [[(h, .inr (5, [.ref hT, .ref (a1 0), .ref (a1 1), .ref (a1 2), .int (nI nx)]))], wT1, u2, u3, u4]) := ⟨a1, _, _, _, _, rfl, hrT1, hR8, hPe5, hB1, by omega, (by show (tk 1 ++ [s0]).length = (tk 0 ++ [k0]).length; rw [List.length_append, List.length_append, hl11]; rfl), (by show (tk 2 ++ [w0]).length = (tk 0 ++ [k0]).length; rw [List.length_append, List.length_append, hl21]; rfl), tkAdd_b hvb1 hk0 hs0 hw0⟩
  refine jJ_flat (cs2 := [jF [[(h, .inr (5, [.ref hT, .ref (a1 0), .ref (a1 1), .ref (a1 2), .int (nI nx)]))], wT1, u2, u3, u4]]) rfl ?_
  exact jJ_vret hx hb hr hlocks dX6_add_24 (by show _ ≤ 3; omega) (by show _ ≤ 96000; omega) ⟨rfl, _, hwa5, by omega, by omega, by omega, by omega⟩
theorem uX6_in_X6_addEnd : ∀ w ∈ u_ws RX6 TX6 5, w ∈ wsX6_addEnd := by decide +kernel
set_option maxHeartbeats 4000000 in
set_option maxRecDepth 100000 in
/-- addEnd() -/
theorem c_Tok_addEnd {h hT P nx : Nat} {T : List Nat} {tk : Nat → List Nat} {w : va_W} (hw : jTok cI h hT P T tk nx w) (hlt0 : (tk 0).length < 8002) : HM l yX6_addEnd wsX6_addEnd ({ frames := 4, cells := 3, slots := 96000, locals := 180 } : Room) D G (jT cI cJ cB cZ) [.ref h] w (fun v u k n => v = none ∧ ∃ P2 : Nat, jTok cI h hT P2 T (tkEnd T tk) nx u ∧ k + P ≤ P2 ∧ n + 128 * P ≤ 128 * P2 ∧ k ≤ 3 ∧ n ≤ 96000) := by
  refine HM_of (cc := cX6_addEnd) (maxL := 1) (ret := none) (lv := [(0, .ref h)]) (by decide) rfl rfl (Nat.le_of_ble_eq_true rfl) (fun p e s m args below meth c A0 ls hx hb hr hts hown hlocks hml hnm hK hA hAm hl => ?_)
  have hLn := hw.len
  have hlt := hlt0
  refine jJ_of (fun H locs => lv_aload_n hx hb dX6_addEnd_0 rfl (lv_at hl 0 rfl)) ?_
  have hsv1 := hw
  obtain ⟨a1, q1, v1, qT1, wT1, rfl, hrT1, hr1, hP1, hB1, hnx1, hl11, hl21, hvb1⟩ := hsv1
  refine jJ_open (xs := jTkW h hT a1 nx wT1 v1) (r := []) (cs2 := [[(h, .inr (5, [.ref hT, .ref (a1 0), .ref (a1 1), .ref (a1 2), .int (nI nx)]))], wT1, v1 0, v1 1, v1 2]) rfl ?_
  refine jJ_get hx hb (C := RX6) (T := TX6) (N := 5) hts uX6_in_X6_addEnd hown hK 0 rfl rfl 0 (by decide) (hts (.fieldLink RX6 24 "ValueBlocks$Tokens" "text" "LValueBlocks$Row;") (by decide +kernel)) (fun _ h9 => h9) rfl dX6_addEnd_1 ?_
  refine jJ_callV (As := []) (rest := []) (wc := _) (cs2 := [[(h, .inr (5, [.ref hT, .ref (a1 0), .ref (a1 1), .ref (a1 2), .int (nI nx)]))], v1 0, v1 1, v1 2]) (C := RX5) (T := TX5) (N := 3) (ci := 4) [1] [0, 2, 3, 4] ⟨hx, hb, hml, hown, hts⟩ hK hA hAm (c_Row_size hrT1) (cwV 0 hts gX6_addEnd_X5_size rfl rfl rfl (by decide +kernel) ⟨Nat.le_of_ble_eq_true rfl, Nat.le_of_ble_eq_true rfl⟩) (nn := 5) rfl (by decide) rfl rfl hrT1.hd rfl rfl rfl hl.1 (Nat.le_of_ble_eq_true rfl) dX6_addEnd_4 (by show _ + 0 ≤ 3; omega) (by show _ + 0 ≤ 96000; omega) (fun v u2 k2 n2 hq2 => ?_)
  obtain ⟨rfl, hw2, rfl, rfl⟩ := hq2
  rw [hw2]
  rw [List.length_map]
  refine jJ_eq (g2 := F0 m 7 ls [.int (nI T.length)]) (cs2 := [wT1, [(h, .inr (5, [.ref hT, .ref (a1 0), .ref (a1 1), .ref (a1 2), .int (nI nx)]))], v1 0, v1 1, v1 2]) rfl rfl ?_
  refine jJ_of (fun H locs => lv_sipush (v := (nI 8000)) hx hb dX6_addEnd_7 (by decide)) ?_
  refine jJ_of2 (fun H locs => jn_icmp_le (tgt := 25) hx hb dX6_addEnd_10 (by decide) (by omega) (by omega)) (fun c10 => ?_) (fun c10 => ?_)
  · refine jJ_of (fun H locs => lv_aload_n hx hb dX6_addEnd_25 rfl (lv_at hl 0 rfl)) ?_
    refine jJ_of (fun H locs => lv_bipush (v := (nI 10)) hx hb dX6_addEnd_26 (by decide)) ?_
    refine jJ_of (fun H locs => lv_aload_n hx hb dX6_addEnd_28 rfl (lv_at hl 0 rfl)) ?_
    refine jJ_get hx hb (C := RX6) (T := TX6) (N := 5) hts uX6_in_X6_addEnd hown hK 1 rfl rfl 0 (by decide) (hts (.fieldLink RX6 24 "ValueBlocks$Tokens" "text" "LValueBlocks$Row;") (by decide +kernel)) (fun _ h9 => h9) rfl dX6_addEnd_29 ?_
    refine jJ_callV (As := []) (rest := [.int (nI 10), .ref h]) (wc := _) (cs2 := [[(h, .inr (5, [.ref hT, .ref (a1 0), .ref (a1 1), .ref (a1 2), .int (nI nx)]))], v1 0, v1 1, v1 2]) (C := RX5) (T := TX5) (N := 3) (ci := 4) [0] [1, 2, 3, 4] ⟨hx, hb, hml, hown, hts⟩ hK hA hAm (c_Row_size hrT1) (cwV 0 hts gX6_addEnd_X5_size rfl rfl rfl (by decide +kernel) ⟨Nat.le_of_ble_eq_true rfl, Nat.le_of_ble_eq_true rfl⟩) (nn := 5) rfl (by decide) rfl rfl hrT1.hd rfl rfl rfl hl.1 (Nat.le_of_ble_eq_true rfl) dX6_addEnd_32 (by show _ + 0 ≤ 3; omega) (by show _ + 0 ≤ 96000; omega) (fun v u3 k3 n3 hq3 => ?_)
    obtain ⟨rfl, hw3, rfl, rfl⟩ := hq3
    rw [hw3]
    rw [List.length_map]
    refine jJ_eq (g2 := F0 m 35 ls [.int (nI T.length), .int (nI 10), .ref h]) (cs2 := [wT1, [(h, .inr (5, [.ref hT, .ref (a1 0), .ref (a1 1), .ref (a1 2), .int (nI nx)]))], v1 0, v1 1, v1 2]) rfl rfl ?_
    refine jJ_of (fun H locs => lv_iconst (v := (nI 0)) hx hb dX6_addEnd_35 (by decide)) ?_
    refine jJ_perm [1, 0, 2, 3, 4] (nn := 5) rfl (by decide) (cs2 := [[(h, .inr (5, [.ref hT, .ref (a1 0), .ref (a1 1), .ref (a1 2), .int (nI nx)]))], wT1, v1 0, v1 1, v1 2]) rfl ?_
    refine jJ_flat (cs2 := [jF [[(h, .inr (5, [.ref hT, .ref (a1 0), .ref (a1 1), .ref (a1 2), .int (nI nx)]))], wT1, v1 0, v1 1, v1 2]]) rfl ?_
    refine jJ_callV (As := [.int (nI 10), .int (nI T.length), .int (nI 0)]) (rest := []) (wc := _) (cs2 := []) (C := RX6) (T := TX6) (N := 5) (ci := 5) [0] [] ⟨hx, hb, hml, hown, hts⟩ hK hA hAm (c_Tok_add hw 10 T.length 0 (by omega) (by omega) (by omega) (by omega)) (cwV 3 hts gX6_addEnd_X6_add rfl rfl rfl (by decide +kernel) ⟨Nat.le_of_ble_eq_true rfl, Nat.le_of_ble_eq_true rfl⟩) (nn := 1) rfl (by decide) rfl rfl hw.hd rfl rfl rfl hl.1 (Nat.le_of_ble_eq_true rfl) dX6_addEnd_36 (by show _ + 3 ≤ 3; omega) (by show _ + 96000 ≤ 96000; omega) (fun v u4 k4 n4 hq4 => ?_)
    obtain ⟨rfl, P24, hu4, hk4, hn4, hkk4, hnn4⟩ := hq4
    have hLu4 := hu4.len
    refine jJ_eq (g2 := F0 m 39 ls []) (cs2 := [u4]) rfl rfl ?_
    exact jJ_vret hx hb hr hlocks dX6_addEnd_39 (by show _ ≤ 3; omega) (by show _ ≤ 96000; omega) ⟨rfl, _, by rw [show tkEnd T tk = tkAdd tk 10 T.length 0 from if_neg (by omega)]; exact hu4, by omega, by omega, by omega, by omega⟩
  · refine jJ_of (fun H locs => lv_aload_n hx hb dX6_addEnd_13 rfl (lv_at hl 0 rfl)) ?_
    refine jJ_of (fun H locs => lv_iconst (v := (nI 0)) hx hb dX6_addEnd_14 (by decide)) ?_
    refine jJ_of (fun H locs => lv_sipush (v := (nI 8000)) hx hb dX6_addEnd_15 (by decide)) ?_
    refine jJ_of (fun H locs => lv_iconst (v := (nI 0)) hx hb dX6_addEnd_18 (by decide)) ?_
    refine jJ_perm [1, 0, 2, 3, 4] (nn := 5) rfl (by decide) (cs2 := [[(h, .inr (5, [.ref hT, .ref (a1 0), .ref (a1 1), .ref (a1 2), .int (nI nx)]))], wT1, v1 0, v1 1, v1 2]) rfl ?_
    refine jJ_flat (cs2 := [jF [[(h, .inr (5, [.ref hT, .ref (a1 0), .ref (a1 1), .ref (a1 2), .int (nI nx)]))], wT1, v1 0, v1 1, v1 2]]) rfl ?_
    refine jJ_callV (As := [.int (nI 0), .int (nI 8000), .int (nI 0)]) (rest := []) (wc := _) (cs2 := []) (C := RX6) (T := TX6) (N := 5) (ci := 5) [0] [] ⟨hx, hb, hml, hown, hts⟩ hK hA hAm (c_Tok_add hw 0 8000 0 (by omega) (by omega) (by omega) (by omega)) (cwV 3 hts gX6_addEnd_X6_add rfl rfl rfl (by decide +kernel) ⟨Nat.le_of_ble_eq_true rfl, Nat.le_of_ble_eq_true rfl⟩) (nn := 1) rfl (by decide) rfl rfl hw.hd rfl rfl rfl hl.1 (Nat.le_of_ble_eq_true rfl) dX6_addEnd_19 (by show _ + 3 ≤ 3; omega) (by show _ + 96000 ≤ 96000; omega) (fun v u5 k5 n5 hq5 => ?_)
    obtain ⟨rfl, P25, hu5, hk5, hn5, hkk5, hnn5⟩ := hq5
    have hLu5 := hu5.len
    refine jJ_eq (g2 := F0 m 22 ls []) (cs2 := [u5]) rfl rfl ?_
    refine jJ_of (fun H locs => lv_goto (tgt := 39) hx hb dX6_addEnd_22 (by decide)) ?_
    exact jJ_vret hx hb hr hlocks dX6_addEnd_39 (by show _ ≤ 3; omega) (by show _ ≤ 96000; omega) ⟨rfl, _, by rw [show tkEnd T tk = tkAdd tk 0 8000 0 from if_pos (by omega)]; exact hu5, by omega, by omega, by omega, by omega⟩
theorem uX6_in_X6_fittingLength : ∀ w ∈ u_ws RX6 TX6 5, w ∈ wsX6_fittingLength := by decide +kernel
set_option maxHeartbeats 4000000 in
set_option maxRecDepth 100000 in
/-- fittingLength(a0, s0) -/
theorem c_Tok_fit {h hT P nx : Nat} {T : List Nat} {tk : Nat → List Nat} {w : va_W} (hw : jTok cI h hT P T tk nx w) (a0 s0 : Nat) (ha0 : a0 + 5 ≤ 95) (hs0 : s0 < 50000) : HM l yX6_fittingLength wsX6_fittingLength ({ frames := 4, cells := 0, slots := 0, locals := 180 } : Room) D G (jT cI cJ cB cZ) [.ref h, .int (nI a0), .int (nI s0)] w (fun v u k n => v = some (.int (nI (fl T a0 s0))) ∧ u = w ∧ k = 0 ∧ n = 0) := by
  refine HM_of (cc := cX6_fittingLength) (maxL := 5) (ret := (some .int)) (lv := [(0, .ref h), (1, .int (nI a0)), (2, .int (nI s0))]) (by decide) rfl rfl (Nat.le_of_ble_eq_true rfl) (fun p e s m args below meth c A0 ls hx hb hr hts hown hlocks hml hnm hK hA hAm hl => ?_)
  have hLn := hw.len
  have hsv1 := hw
  obtain ⟨a1, q1, v1, qT1, wT1, rfl, hrT1, hr1, hP1, hB1, hnx1, hl11, hl21, hvb1⟩ := hsv1
  refine jJ_open (xs := jTkW h hT a1 nx wT1 v1) (r := []) (cs2 := [[(h, .inr (5, [.ref hT, .ref (a1 0), .ref (a1 1), .ref (a1 2), .int (nI nx)]))], wT1, v1 0, v1 1, v1 2]) rfl ?_
  refine jJ_of (fun H locs => lv_iconst (v := (nI 0)) hx hb dX6_fittingLength_0 (by decide)) ?_
  refine jJ_ofL (fun H locs => lv_istore_n (lv' := [(3, .int (nI 0)), (0, .ref h), (1, .int (nI a0)), (2, .int (nI s0))]) hx hb dX6_fittingLength_1 rfl hl (by decide) rfl) (fun ls hl => ?_)
  refine jJ_flat (cs2 := [jF [[(h, .inr (5, [.ref hT, .ref (a1 0), .ref (a1 1), .ref (a1 2), .int (nI nx)]))], wT1, v1 0, v1 1, v1 2]]) rfl ?_
  suffices lp : ∀ (d i : Nat), 5 - i < d → i ≤ 5 → flF T a0 s0 d i = fl T a0 s0 → ∀ ls, lv_has ls 5 [(3, .int (nI i)), (0, .ref h), (1, .int (nI a0)), (2, .int (nI s0))] → jJ p l e _ s m args below meth c D A0 [jF [[(h, .inr (5, [.ref hT, .ref (a1 0), .ref (a1 1), .ref (a1 2), .int (nI nx)]))], wT1, v1 0, v1 1, v1 2]] 0 0 (jEnd below D A0 _ args s _ _) (F0 m 2 ls []) from lp 6 0 (by omega) (by omega) rfl ls hl
  intro d
  induction d with
  | zero => intro i h9; exact absurd h9 (Nat.not_lt_zero _)
  | succ d ih =>
    intro i h9 hi9 hcl ls hl
    have hgb := hLn.2.2.2.2.2.1 (s0 + i)
    have hw1 := (jTx1 G).2.1 (a0 + i)
    refine jJ_of (fun H locs => lv_iload_n hx hb dX6_fittingLength_2 rfl (lv_at hl 0 rfl)) ?_
    refine jJ_of (fun H locs => lv_iconst (v := (nI 5)) hx hb dX6_fittingLength_3 (by decide)) ?_
    refine jJ_of2 (fun H locs => jn_icmp_ge (tgt := 49) hx hb dX6_fittingLength_4 (by decide) (by omega) (by omega)) (fun c4 => ?_) (fun c4 => ?_)
    · refine jJ_of (fun H locs => lv_iconst (v := (nI 5)) hx hb dX6_fittingLength_49 (by decide)) ?_
      exact jJ_iret hx hb hr hlocks dX6_fittingLength_50 (by show _ ≤ 0; omega) (by show _ ≤ 0; omega) ⟨by rw [← hcl, show flF T a0 s0 (d + 1) i = 5 from by show (if _ then _ else _) = _; rw [if_pos (by omega)]], rfl, rfl, rfl⟩
    · refine jJ_ldcS hx hb hown hAm.2.2.2.2.2.1 dX6_fittingLength_7 ?_
      refine jJ_of (fun H locs => lv_iload_n hx hb dX6_fittingLength_9 rfl (lv_at hl 2 rfl)) ?_
      refine jJ_of (fun H locs => lv_iload_n hx hb dX6_fittingLength_10 rfl (lv_at hl 0 rfl)) ?_
      refine jJ_of (fun H locs => jn_iadd hx hb dX6_fittingLength_11) ?_
      refine jJ_callVO (As := [.int (nI (a0 + i))]) (rest := []) (wc := []) (cs2 := [jF [[(h, .inr (5, [.ref hT, .ref (a1 0), .ref (a1 1), .ref (a1 2), .int (nI nx)]))], wT1, v1 0, v1 1, v1 2]]) (C := RJ0) [] [0] ⟨hx, hb, hml, hown, hts⟩ hK hA hAm (c_charAt (jTx1 G) (a0 + i) (by omega)) (cwV 1 hts gX6_fittingLength_J0_charAt_5068e rfl rfl rfl (by decide +kernel) ⟨Nat.le_of_ble_eq_true rfl, Nat.le_of_ble_eq_true rfl⟩) (nn := 1) rfl (by decide) rfl rfl (hAm.2.2.1 0 (by decide)).2.2 rfl rfl hl.1 (Nat.le_of_ble_eq_true rfl) dX6_fittingLength_12 (by show _ + 0 ≤ 0; omega) (by show _ + 0 ≤ 0; omega) (fun v u2 k2 n2 hq2 => ?_)
      obtain ⟨rfl, rfl, rfl, rfl⟩ := hq2
      refine jJ_eq (g2 := F0 m 15 ls [.int (nI (jW1.getD (a0 + i) 0))]) (cs2 := [([] : va_W), jF [[(h, .inr (5, [.ref hT, .ref (a1 0), .ref (a1 1), .ref (a1 2), .int (nI nx)]))], wT1, v1 0, v1 1, v1 2]]) rfl rfl ?_
      refine jJ_flat (cs2 := [jF [[(h, .inr (5, [.ref hT, .ref (a1 0), .ref (a1 1), .ref (a1 2), .int (nI nx)]))], wT1, v1 0, v1 1, v1 2]]) rfl ?_
      refine jJ_ofL (fun H locs => lv_istore (lv' := [(4, .int (nI (jW1.getD (a0 + i) 0))), (3, .int (nI i)), (0, .ref h), (1, .int (nI a0)), (2, .int (nI s0))]) hx hb dX6_fittingLength_15 hl (by decide) rfl) (fun ls hl => ?_)
      refine jJ_of (fun H locs => lv_iload hx hb dX6_fittingLength_17 (lv_at hl 0 rfl)) ?_
      refine jJ_of (fun H locs => lv_bipush (v := (nI 32)) hx hb dX6_fittingLength_19 (by decide)) ?_
      refine jJ_of2 (fun H locs => jn_icmp_ne (tgt := 26) hx hb dX6_fittingLength_21 (by decide) (by omega) (by omega)) (fun c21 => ?_) (fun c21 => ?_)
      · refine jJ_of (fun H locs => lv_aload_n hx hb dX6_fittingLength_26 rfl (lv_at hl 2 rfl)) ?_
        refine jJ_open (xs := [[(h, .inr (5, [.ref hT, .ref (a1 0), .ref (a1 1), .ref (a1 2), .int (nI nx)]))], wT1, v1 0, v1 1, v1 2]) (r := []) (cs2 := [[(h, .inr (5, [.ref hT, .ref (a1 0), .ref (a1 1), .ref (a1 2), .int (nI nx)]))], wT1, v1 0, v1 1, v1 2]) rfl ?_
        refine jJ_get hx hb (C := RX6) (T := TX6) (N := 5) hts uX6_in_X6_fittingLength hown hK 0 rfl rfl 0 (by decide) (hts (.fieldLink RX6 24 "ValueBlocks$Tokens" "text" "LValueBlocks$Row;") (by decide +kernel)) (fun _ h9 => h9) rfl dX6_fittingLength_27 ?_
        refine jJ_of (fun H locs => lv_iload_n hx hb dX6_fittingLength_30 rfl (lv_at hl 4 rfl)) ?_
        refine jJ_of (fun H locs => lv_iload_n hx hb dX6_fittingLength_31 rfl (lv_at hl 1 rfl)) ?_
        refine jJ_of (fun H locs => jn_iadd hx hb dX6_fittingLength_32) ?_
        refine jJ_callV (As := [.int (nI (s0 + i))]) (rest := []) (wc := _) (cs2 := [[(h, .inr (5, [.ref hT, .ref (a1 0), .ref (a1 1), .ref (a1 2), .int (nI nx)]))], v1 0, v1 1, v1 2]) (C := RX5) (T := TX5) (N := 3) (ci := 4) [1] [0, 2, 3, 4] ⟨hx, hb, hml, hown, hts⟩ hK hA hAm (c_Row_get hrT1 (s0 + i) (by omega)) (cwV 1 hts gX6_fittingLength_X5_get rfl rfl rfl (by decide +kernel) ⟨Nat.le_of_ble_eq_true rfl, Nat.le_of_ble_eq_true rfl⟩) (nn := 5) rfl (by decide) rfl rfl hrT1.hd rfl rfl rfl hl.1 (Nat.le_of_ble_eq_true rfl) dX6_fittingLength_33 (by show _ + 0 ≤ 0; omega) (by show _ + 0 ≤ 0; omega) (fun v u3 k3 n3 hq3 => ?_)
        obtain ⟨rfl, hw3, rfl, rfl⟩ := hq3
        rw [hw3]
        rw [jget_n]
        refine jJ_eq (g2 := F0 m 36 ls [.int (nI (T.getD (s0 + i) 0))]) (cs2 := [wT1, [(h, .inr (5, [.ref hT, .ref (a1 0), .ref (a1 1), .ref (a1 2), .int (nI nx)]))], v1 0, v1 1, v1 2]) rfl rfl ?_
        refine jJ_of (fun H locs => lv_iload hx hb dX6_fittingLength_36 (lv_at hl 0 rfl)) ?_
        refine jJ_of2 (fun H locs => jn_icmp_eq (tgt := 43) hx hb dX6_fittingLength_38 (by decide) (by omega) (by omega)) (fun c38 => ?_) (fun c38 => ?_)
        · refine jJ_ofL (fun H locs => lv_iinc (v := (nI (i + 1))) (lv' := [(3, .int (nI (i + 1))), (4, .int (nI (jW1.getD (a0 + i) 0))), (0, .ref h), (1, .int (nI a0)), (2, .int (nI s0))]) hx hb dX6_fittingLength_43 hl (k := 1) rfl (nI_add _ _) (by decide) rfl) (fun ls hl => ?_)
          refine jJ_of (fun H locs => lv_goto (tgt := 2) hx hb dX6_fittingLength_46 (by decide)) ?_
          refine jJ_perm [1, 0, 2, 3, 4] (nn := 5) rfl (by decide) (cs2 := [[(h, .inr (5, [.ref hT, .ref (a1 0), .ref (a1 1), .ref (a1 2), .int (nI nx)]))], wT1, v1 0, v1 1, v1 2]) rfl ?_
          refine jJ_flat (cs2 := [jF [[(h, .inr (5, [.ref hT, .ref (a1 0), .ref (a1 1), .ref (a1 2), .int (nI nx)]))], wT1, v1 0, v1 1, v1 2]]) rfl ?_
          exact ih (i + 1) (by omega) (by omega) (by rw [← hcl]; show _ = (if _ then _ else _); rw [if_neg (by omega), if_neg (by omega), if_pos (by omega)]) ls (lv_sub hl [0, 2, 3, 4] rfl)
        · refine jJ_of (fun H locs => lv_iconst (v := (nI 0)) hx hb dX6_fittingLength_41 (by decide)) ?_
          refine jJ_perm [1, 0, 2, 3, 4] (nn := 5) rfl (by decide) (cs2 := [[(h, .inr (5, [.ref hT, .ref (a1 0), .ref (a1 1), .ref (a1 2), .int (nI nx)]))], wT1, v1 0, v1 1, v1 2]) rfl ?_
          refine jJ_flat (cs2 := [jF [[(h, .inr (5, [.ref hT, .ref (a1 0), .ref (a1 1), .ref (a1 2), .int (nI nx)]))], wT1, v1 0, v1 1, v1 2]]) rfl ?_
          exact jJ_iret hx hb hr hlocks dX6_fittingLength_42 (by show _ ≤ 0; omega) (by show _ ≤ 0; omega) ⟨by rw [← hcl, show flF T a0 s0 (d + 1) i = 0 from by show (if _ then _ else _) = _; rw [if_neg (by omega), if_neg (by omega), if_neg (by omega)]], rfl, rfl, rfl⟩
      · refine jJ_of (fun H locs => lv_iload_n hx hb dX6_fittingLength_24 rfl (lv_at hl 1 rfl)) ?_
        exact jJ_iret hx hb hr hlocks dX6_fittingLength_25 (by show _ ≤ 0; omega) (by show _ ≤ 0; omega) ⟨by rw [← hcl, show flF T a0 s0 (d + 1) i = i from by show (if _ then _ else _) = _; rw [if_neg (by omega), if_pos (by omega)]], rfl, rfl, rfl⟩
theorem uX6_in_X6_takeWord : ∀ w ∈ u_ws RX6 TX6 5, w ∈ wsX6_takeWord := by decide +kernel
set_option maxHeartbeats 4000000 in
set_option maxRecDepth 100000 in
/-- takeWord(s0, c0) -/
theorem c_Tok_word {h hT P nx : Nat} {T : List Nat} {tk : Nat → List Nat} {w : va_W} (hw : jTok cI h hT P T tk nx w) (s0 c0 : Nat) (hs0 : s0 < 20000) (hc0 : c0 < 1000000000) (hlt0 : (tk 0).length < 8002) : HM l yX6_takeWord wsX6_takeWord ({ frames := 5, cells := 3, slots := 96000, locals := 240 } : Room) D G (jT cI cJ cB cZ) [.ref h, .int (nI s0), .int (nI c0)] w (fun v u k n => v = none ∧ ∃ P2 : Nat, jTok cI h hT P2 T (if (twF T s0 20 0).1 = 0 then tkAdd tk c0 s0 0 else tkAdd tk (twF T s0 20 0).1 s0 0) (if (twF T s0 20 0).1 = 0 then nx else s0 + (twF T s0 20 0).2) u ∧ k + P ≤ P2 ∧ n + 128 * P ≤ 128 * P2 ∧ k ≤ 3 ∧ n ≤ 96000) := by
  refine HM_of (cc := cX6_takeWord) (maxL := 5) (ret := none) (lv := [(0, .ref h), (1, .int (nI s0)), (2, .int (nI c0))]) (by decide) rfl rfl (Nat.le_of_ble_eq_true rfl) (fun p e s m args below meth c A0 ls hx hb hr hts hown hlocks hml hnm hK hA hAm hl => ?_)
  have hLn := hw.len
  have hlt := hlt0
  have hsv1 := hw
  obtain ⟨a1, q1, v1, qT1, wT1, rfl, hrT1, hr1, hP1, hB1, hnx1, hl11, hl21, hvb1⟩ := hsv1
  refine jJ_open (xs := jTkW h hT a1 nx wT1 v1) (r := []) (cs2 := [[(h, .inr (5, [.ref hT, .ref (a1 0), .ref (a1 1), .ref (a1 2), .int (nI nx)]))], wT1, v1 0, v1 1, v1 2]) rfl ?_
  refine jJ_of (fun H locs => lv_iconst (v := (nI 0)) hx hb dX6_takeWord_0 (by decide)) ?_
  refine jJ_ofL (fun H locs => lv_istore_n (lv' := [(3, .int (nI 0)), (0, .ref h), (1, .int (nI s0)), (2, .int (nI c0))]) hx hb dX6_takeWord_1 rfl hl (by decide) rfl) (fun ls hl => ?_)
  refine jJ_flat (cs2 := [jF [[(h, .inr (5, [.ref hT, .ref (a1 0), .ref (a1 1), .ref (a1 2), .int (nI nx)]))], wT1, v1 0, v1 1, v1 2]]) rfl ?_
  suffices lp : ∀ (d k : Nat), 19 - k < d → k ≤ 19 → twF T s0 d k = twF T s0 20 0 → ∀ ls, lv_has ls 5 [(3, .int (nI (5 * k))), (0, .ref h), (1, .int (nI s0)), (2, .int (nI c0))] → jJ p l e _ s m args below meth c D A0 [jF [[(h, .inr (5, [.ref hT, .ref (a1 0), .ref (a1 1), .ref (a1 2), .int (nI nx)]))], wT1, v1 0, v1 1, v1 2]] 0 0 (jEnd below D A0 _ args s _ _) (F0 m 2 ls []) from lp 20 0 (by omega) (by omega) rfl ls hl
  intro d
  induction d with
  | zero => intro k h9; exact absurd h9 (Nat.not_lt_zero _)
  | succ d ih =>
    intro k h9 hk9 hcl ls hl
    have hflb := flF_b T (5 * k) s0 6 0 (by omega)
    have hfld : fl T (5 * k) s0 = flF T (5 * k) s0 6 0 := rfl
    refine jJ_of (fun H locs => lv_iload_n hx hb dX6_takeWord_2 rfl (lv_at hl 0 rfl)) ?_
    refine jJ_of (fun H locs => lv_iconst (v := (nI 5)) hx hb dX6_takeWord_3 (by decide)) ?_
    refine jJ_of (fun H locs => jn_iadd hx hb dX6_takeWord_4) ?_
    refine jJ_ldcS hx hb hown hAm.2.2.2.2.2.1 dX6_takeWord_5 ?_
    refine jJ_callVO (As := []) (rest := [.int (nI ((5 * k) + 5))]) (wc := []) (cs2 := [jF [[(h, .inr (5, [.ref hT, .ref (a1 0), .ref (a1 1), .ref (a1 2), .int (nI nx)]))], wT1, v1 0, v1 1, v1 2]]) (C := RJ0) [] [0] ⟨hx, hb, hml, hown, hts⟩ hK hA hAm (c_strlen (jTx1 G)) (cwV 0 hts gX6_takeWord_J0_length_8abf5 rfl rfl rfl (by decide +kernel) ⟨Nat.le_of_ble_eq_true rfl, Nat.le_of_ble_eq_true rfl⟩) (nn := 1) rfl (by decide) rfl rfl (hAm.2.2.1 0 (by decide)).2.2 rfl rfl hl.1 (Nat.le_of_ble_eq_true rfl) dX6_takeWord_7 (by show _ + 0 ≤ 3; omega) (by show _ + 0 ≤ 96000; omega) (fun v u2 k2 n2 hq2 => ?_)
    obtain ⟨rfl, rfl, rfl, rfl⟩ := hq2
    refine jJ_eq (g2 := F0 m 10 ls [.int (nI 95), .int (nI ((5 * k) + 5))]) (cs2 := [([] : va_W), jF [[(h, .inr (5, [.ref hT, .ref (a1 0), .ref (a1 1), .ref (a1 2), .int (nI nx)]))], wT1, v1 0, v1 1, v1 2]]) rfl rfl ?_
    refine jJ_flat (cs2 := [jF [[(h, .inr (5, [.ref hT, .ref (a1 0), .ref (a1 1), .ref (a1 2), .int (nI nx)]))], wT1, v1 0, v1 1, v1 2]]) rfl ?_
    refine jJ_of2 (fun H locs => jn_icmp_gt (tgt := 54) hx hb dX6_takeWord_10 (by decide) (by omega) (by omega)) (fun c10 => ?_) (fun c10 => ?_)
    · refine jJ_of (fun H locs => lv_aload_n hx hb dX6_takeWord_54 rfl (lv_at hl 1 rfl)) ?_
      refine jJ_of (fun H locs => lv_iload_n hx hb dX6_takeWord_55 rfl (lv_at hl 3 rfl)) ?_
      refine jJ_of (fun H locs => lv_iload_n hx hb dX6_takeWord_56 rfl (lv_at hl 2 rfl)) ?_
      refine jJ_of (fun H locs => lv_iconst (v := (nI 0)) hx hb dX6_takeWord_57 (by decide)) ?_
      refine jJ_callV (As := [.int (nI c0), .int (nI s0), .int (nI 0)]) (rest := []) (wc := _) (cs2 := []) (C := RX6) (T := TX6) (N := 5) (ci := 5) [0] [] ⟨hx, hb, hml, hown, hts⟩ hK hA hAm (c_Tok_add hw c0 s0 0 (by omega) (by omega) (by omega) (by omega)) (cwV 3 hts gX6_takeWord_X6_add rfl rfl rfl (by decide +kernel) ⟨Nat.le_of_ble_eq_true rfl, Nat.le_of_ble_eq_true rfl⟩) (nn := 1) rfl (by decide) rfl rfl hw.hd rfl rfl rfl hl.1 (Nat.le_of_ble_eq_true rfl) dX6_takeWord_58 (by show _ + 3 ≤ 3; omega) (by show _ + 96000 ≤ 96000; omega) (fun v u3 k3 n3 hq3 => ?_)
      obtain ⟨rfl, P23, hu3, hk3, hn3, hkk3, hnn3⟩ := hq3
      have hLu3 := hu3.len
      refine jJ_eq (g2 := F0 m 61 ls []) (cs2 := [u3]) rfl rfl ?_
      exact jJ_vret hx hb hr hlocks dX6_takeWord_61 (by show _ ≤ 3; omega) (by show _ ≤ 96000; omega) ⟨rfl, _, by rw [show twF T s0 20 0 = (0, 0) from by rw [← hcl]; show (if _ then _ else _) = _; rw [if_pos (by omega)]]; exact hu3, by omega, by omega, by omega, by omega⟩
    · refine jJ_of (fun H locs => lv_aload_n hx hb dX6_takeWord_13 rfl (lv_at hl 1 rfl)) ?_
      refine jJ_of (fun H locs => lv_iload_n hx hb dX6_takeWord_14 rfl (lv_at hl 0 rfl)) ?_
      refine jJ_of (fun H locs => lv_iload_n hx hb dX6_takeWord_15 rfl (lv_at hl 2 rfl)) ?_
      refine jJ_callV (As := [.int (nI (5 * k)), .int (nI s0)]) (rest := []) (wc := _) (cs2 := []) (C := RX6) (T := TX6) (N := 5) (ci := 5) [0] [] ⟨hx, hb, hml, hown, hts⟩ hK hA hAm (c_Tok_fit hw (5 * k) s0 (by omega) (by omega)) (cwV 2 hts gX6_takeWord_X6_fittingLength rfl rfl rfl (by decide +kernel) ⟨Nat.le_of_ble_eq_true rfl, Nat.le_of_ble_eq_true rfl⟩) (nn := 1) rfl (by decide) rfl rfl hw.hd rfl rfl rfl hl.1 (Nat.le_of_ble_eq_true rfl) dX6_takeWord_16 (by show _ + 0 ≤ 3; omega) (by show _ + 0 ≤ 96000; omega) (fun v u4 k4 n4 hq4 => ?_)
      obtain ⟨rfl, hw4, rfl, rfl⟩ := hq4
      rw [hw4]
      refine jJ_eq (g2 := F0 m 19 ls [.int (nI (fl T (5 * k) s0))]) (cs2 := [jF [[(h, .inr (5, [.ref hT, .ref (a1 0), .ref (a1 1), .ref (a1 2), .int (nI nx)]))], wT1, v1 0, v1 1, v1 2]]) rfl rfl ?_
      refine jJ_ofL (fun H locs => lv_istore (lv' := [(4, .int (nI (fl T (5 * k) s0))), (3, .int (nI (5 * k))), (0, .ref h), (1, .int (nI s0)), (2, .int (nI c0))]) hx hb dX6_takeWord_19 hl (by decide) rfl) (fun ls hl => ?_)
      refine jJ_of (fun H locs => lv_iload hx hb dX6_takeWord_21 (lv_at hl 0 rfl)) ?_
      refine jJ_of2 (fun H locs => jn_if_le (tgt := 48) hx hb dX6_takeWord_23 (by decide) (by omega)) (fun c23 => ?_) (fun c23 => ?_)
      · refine jJ_ofL (fun H locs => lv_iinc (v := (nI (5 * k + 5))) (lv' := [(3, .int (nI (5 * k + 5))), (4, .int (nI (fl T (5 * k) s0))), (0, .ref h), (1, .int (nI s0)), (2, .int (nI c0))]) hx hb dX6_takeWord_48 hl (k := 1) rfl (nI_add _ _) (by decide) rfl) (fun ls hl => ?_)
        refine jJ_of (fun H locs => lv_goto (tgt := 2) hx hb dX6_takeWord_51 (by decide)) ?_
        exact ih (k + 1) (by omega) (by omega) (by rw [← hcl]; show _ = (if _ then _ else _); rw [if_neg (by omega), if_neg (by omega)]) ls (lv_sub hl [0, 2, 3, 4] rfl)
      · refine jJ_of (fun H locs => lv_aload_n hx hb dX6_takeWord_26 rfl (lv_at hl 2 rfl)) ?_
        refine jJ_of (fun H locs => lv_iload_n hx hb dX6_takeWord_27 rfl (lv_at hl 3 rfl)) ?_
        refine jJ_of (fun H locs => lv_iload hx hb dX6_takeWord_28 (lv_at hl 0 rfl)) ?_
        refine jJ_of (fun H locs => jn_iadd hx hb dX6_takeWord_30) ?_
        refine jJ_open (xs := [[(h, .inr (5, [.ref hT, .ref (a1 0), .ref (a1 1), .ref (a1 2), .int (nI nx)]))], wT1, v1 0, v1 1, v1 2]) (r := []) (cs2 := [[(h, .inr (5, [.ref hT, .ref (a1 0), .ref (a1 1), .ref (a1 2), .int (nI nx)]))], wT1, v1 0, v1 1, v1 2]) rfl ?_
        refine jJ_put hx hb (C := RX6) (T := TX6) (N := 5) (ty := .int) (v := .int (nI (s0 + (fl T (5 * k) s0)))) hts uX6_in_X6_takeWord tyX6 tyX6_ok nmX6 hown hK 0 rfl rfl 4 (by decide) (hts (.fieldLink RX6 38 "ValueBlocks$Tokens" "next" "I") (by decide +kernel)) (fun _ h9 => h9) rfl (by decide +kernel) rfl rfl (Nat.le_of_ble_eq_true rfl) dX6_takeWord_31 (cs2 := [[(h, .inr (5, [.ref hT, .ref (a1 0), .ref (a1 1), .ref (a1 2), .int (nI (s0 + (fl T (5 * k) s0)))]))], wT1, v1 0, v1 1, v1 2]) rfl ?_
        refine jJ_of (fun H locs => lv_aload_n hx hb dX6_takeWord_34 rfl (lv_at hl 2 rfl)) ?_
        refine jJ_of (fun H locs => lv_sipush (v := (nI 300)) hx hb dX6_takeWord_35 (by decide)) ?_
        refine jJ_of (fun H locs => lv_iload_n hx hb dX6_takeWord_38 rfl (lv_at hl 1 rfl)) ?_
        refine jJ_of (fun H locs => lv_iconst (v := (nI 5)) hx hb dX6_takeWord_39 (by decide)) ?_
        refine jJ_of (g2 := F0 m 41 ls [.int (nI k), .int (nI 300), .ref h]) (fun H locs kk => lv_idiv hx hb dX6_takeWord_40 (by decide) (by rw [pk_div (by omega) (by omega) (by omega), Nat.mul_div_cancel_left k (by decide)]; exact kk)) ?_
        refine jJ_of (fun H locs => jn_iadd hx hb dX6_takeWord_41) ?_
        refine jJ_of (fun H locs => lv_iload_n hx hb dX6_takeWord_42 rfl (lv_at hl 3 rfl)) ?_
        refine jJ_of (fun H locs => lv_iconst (v := (nI 0)) hx hb dX6_takeWord_43 (by decide)) ?_
        have hwa5 : jTok cI h hT P T tk (s0 + (fl T (5 * k) s0)) (jF [[(h, .inr (5, [.ref hT, .ref (a1 0), .ref (a1 1), .ref (a1 2), .int (nI (s0 + (fl T (5 * k) s0)))]))], wT1, v1 0, v1 1, v1 2]) := ⟨a1, q1, v1, qT1, wT1, rfl, hrT1, hr1, hP1, hB1, by omega, hl11, hl21, hvb1⟩
        refine jJ_flat (cs2 := [jF [[(h, .inr (5, [.ref hT, .ref (a1 0), .ref (a1 1), .ref (a1 2), .int (nI (s0 + (fl T (5 * k) s0)))]))], wT1, v1 0, v1 1, v1 2]]) rfl ?_
        refine jJ_callV (As := [.int (nI (300 + k)), .int (nI s0), .int (nI 0)]) (rest := []) (wc := _) (cs2 := []) (C := RX6) (T := TX6) (N := 5) (ci := 5) [0] [] ⟨hx, hb, hml, hown, hts⟩ hK hA hAm (c_Tok_add hwa5 (300 + k) s0 0 (by omega) (by omega) (by omega) (by omega)) (cwV 3 hts gX6_takeWord_X6_add rfl rfl rfl (by decide +kernel) ⟨Nat.le_of_ble_eq_true rfl, Nat.le_of_ble_eq_true rfl⟩) (nn := 1) rfl (by decide) rfl rfl hwa5.hd rfl rfl rfl hl.1 (Nat.le_of_ble_eq_true rfl) dX6_takeWord_44 (by show _ + 3 ≤ 3; omega) (by show _ + 96000 ≤ 96000; omega) (fun v u6 k6 n6 hq6 => ?_)
        obtain ⟨rfl, P26, hu6, hk6, hn6, hkk6, hnn6⟩ := hq6
        have hLu6 := hu6.len
        refine jJ_eq (g2 := F0 m 47 ls []) (cs2 := [u6]) rfl rfl ?_
        exact jJ_vret hx hb hr hlocks dX6_takeWord_47 (by show _ ≤ 3; omega) (by show _ ≤ 96000; omega) ⟨rfl, _, by rw [show twF T s0 20 0 = (300 + k, fl T (5 * k) s0) from by rw [← hcl]; show (if _ then _ else _) = _; rw [if_neg (by omega), if_pos (by omega)]]; show jTok cI h hT _ T (if 300 + k = 0 then _ else _) (if 300 + k = 0 then _ else _) _; rw [if_neg (by omega), if_neg (by omega)]; exact hu6, by omega, by omega, by omega, by omega⟩
theorem uX6_in_X6_takeNumber : ∀ w ∈ u_ws RX6 TX6 5, w ∈ wsX6_takeNumber := by decide +kernel
set_option maxHeartbeats 4000000 in
set_option maxRecDepth 100000 in
/-- takeNumber(s0) -/
theorem c_Tok_number {h hT P nx : Nat} {T : List Nat} {tk : Nat → List Nat} {w : va_W} (hw : jTok cI h hT P T tk nx w) (s0 : Nat) (hs0 : s0 < T.length) (hlt0 : (tk 0).length < 8002) : HM l yX6_takeNumber wsX6_takeNumber ({ frames := 4, cells := 3, slots := 96000, locals := 240 } : Room) D G (jT cI cJ cB cZ) [.ref h, .int (nI s0)] w (fun v u k n => v = none ∧ ∃ P2 : Nat, jTok cI h hT P2 T (tkAdd tk (nK T s0) s0 (nW T s0)) (nE T s0) u ∧ k + P ≤ P2 ∧ n + 128 * P ≤ 128 * P2 ∧ k ≤ 3 ∧ n ≤ 96000) := by
  refine HM_of (cc := cX6_takeNumber) (maxL := 8) (ret := none) (lv := [(0, .ref h), (1, .int (nI s0))]) (by decide) rfl rfl (Nat.le_of_ble_eq_true rfl) (fun p e s m args below meth c A0 ls hx hb hr hts hown hlocks hml hnm hK hA hAm hl => ?_)
  have hLn := hw.len
  have hlt := hlt0
  have hgw := hLn.2.2.2.2.2.1 (pd T s0)
  have hpd := pd_b (T := T) (s := s0) (by omega)
  have hnS := nS_b (T := T) (s := s0) (by omega)
  have hsv1 := hw
  obtain ⟨a1, q1, v1, qT1, wT1, rfl, hrT1, hr1, hP1, hB1, hnx1, hl11, hl21, hvb1⟩ := hsv1
  refine jJ_open (xs := jTkW h hT a1 nx wT1 v1) (r := []) (cs2 := [[(h, .inr (5, [.ref hT, .ref (a1 0), .ref (a1 1), .ref (a1 2), .int (nI nx)]))], wT1, v1 0, v1 1, v1 2]) rfl ?_
  refine jJ_of (fun H locs => lv_aload_n hx hb dX6_takeNumber_0 rfl (lv_at hl 0 rfl)) ?_
  refine jJ_of (fun H locs => lv_iload_n hx hb dX6_takeNumber_1 rfl (lv_at hl 1 rfl)) ?_
  refine jJ_flat (cs2 := [jF [[(h, .inr (5, [.ref hT, .ref (a1 0), .ref (a1 1), .ref (a1 2), .int (nI nx)]))], wT1, v1 0, v1 1, v1 2]]) rfl ?_
  refine jJ_callV (As := [.int (nI s0)]) (rest := []) (wc := _) (cs2 := []) (C := RX6) (T := TX6) (N := 5) (ci := 5) [0] [] ⟨hx, hb, hml, hown, hts⟩ hK hA hAm (c_Tok_pastDigits hw s0 (by omega)) (cwV 1 hts gX6_takeNumber_X6_pastDigits rfl rfl rfl (by decide +kernel) ⟨Nat.le_of_ble_eq_true rfl, Nat.le_of_ble_eq_true rfl⟩) (nn := 1) rfl (by decide) rfl rfl hw.hd rfl rfl rfl hl.1 (Nat.le_of_ble_eq_true rfl) dX6_takeNumber_2 (by show _ + 0 ≤ 3; omega) (by show _ + 0 ≤ 96000; omega) (fun v u2 k2 n2 hq2 => ?_)
  obtain ⟨rfl, hw2, rfl, rfl⟩ := hq2
  rw [hw2]
  refine jJ_eq (g2 := F0 m 5 ls [.int (nI (pd T s0))]) (cs2 := [jF [[(h, .inr (5, [.ref hT, .ref (a1 0), .ref (a1 1), .ref (a1 2), .int (nI nx)]))], wT1, v1 0, v1 1, v1 2]]) rfl rfl ?_
  refine jJ_ofL (fun H locs => lv_istore_n (lv' := [(2, .int (nI (pd T s0))), (0, .ref h), (1, .int (nI s0))]) hx hb dX6_takeNumber_5 rfl hl (by decide) rfl) (fun ls hl => ?_)
  refine jJ_of (fun H locs => lv_aload_n hx hb dX6_takeNumber_6 rfl (lv_at hl 1 rfl)) ?_
  refine jJ_open (xs := [[(h, .inr (5, [.ref hT, .ref (a1 0), .ref (a1 1), .ref (a1 2), .int (nI nx)]))], wT1, v1 0, v1 1, v1 2]) (r := []) (cs2 := [[(h, .inr (5, [.ref hT, .ref (a1 0), .ref (a1 1), .ref (a1 2), .int (nI nx)]))], wT1, v1 0, v1 1, v1 2]) rfl ?_
  refine jJ_get hx hb (C := RX6) (T := TX6) (N := 5) hts uX6_in_X6_takeNumber hown hK 0 rfl rfl 0 (by decide) (hts (.fieldLink RX6 24 "ValueBlocks$Tokens" "text" "LValueBlocks$Row;") (by decide +kernel)) (fun _ h9 => h9) rfl dX6_takeNumber_7 ?_
  refine jJ_of (fun H locs => lv_iload_n hx hb dX6_takeNumber_10 rfl (lv_at hl 0 rfl)) ?_
  refine jJ_callV (As := [.int (nI (pd T s0))]) (rest := []) (wc := _) (cs2 := [[(h, .inr (5, [.ref hT, .ref (a1 0), .ref (a1 1), .ref (a1 2), .int (nI nx)]))], v1 0, v1 1, v1 2]) (C := RX5) (T := TX5) (N := 3) (ci := 4) [1] [0, 2, 3, 4] ⟨hx, hb, hml, hown, hts⟩ hK hA hAm (c_Row_get hrT1 (pd T s0) (by omega)) (cwV 1 hts gX6_takeNumber_X5_get rfl rfl rfl (by decide +kernel) ⟨Nat.le_of_ble_eq_true rfl, Nat.le_of_ble_eq_true rfl⟩) (nn := 5) rfl (by decide) rfl rfl hrT1.hd rfl rfl rfl hl.1 (Nat.le_of_ble_eq_true rfl) dX6_takeNumber_11 (by show _ + 0 ≤ 3; omega) (by show _ + 0 ≤ 96000; omega) (fun v u3 k3 n3 hq3 => ?_)
  obtain ⟨rfl, hw3, rfl, rfl⟩ := hq3
  rw [hw3]
  rw [jget_n]
  refine jJ_eq (g2 := F0 m 14 ls [.int (nI (T.getD (pd T s0) 0))]) (cs2 := [wT1, [(h, .inr (5, [.ref hT, .ref (a1 0), .ref (a1 1), .ref (a1 2), .int (nI nx)]))], v1 0, v1 1, v1 2]) rfl rfl ?_
  refine jJ_of (fun H locs => lv_bipush (v := (nI 46)) hx hb dX6_takeNumber_14 (by decide)) ?_
  refine jJ_of2 (fun H locs => jn_icmp_ne (tgt := 23) hx hb dX6_takeNumber_16 (by decide) (by omega) (by omega)) (fun c16 => ?_) (fun c16 => ?_)
  · refine jJ_of (fun H locs => lv_iconst (v := (nI 0)) hx hb dX6_takeNumber_23 (by decide)) ?_
    refine jJ_ofL (fun H locs => lv_istore_n (lv' := [(3, .int (nI 0)), (2, .int (nI (pd T s0))), (0, .ref h), (1, .int (nI s0))]) hx hb dX6_takeNumber_24 rfl hl (by decide) rfl) (fun ls hl => ?_)
    refine jJ_of (fun H locs => lv_iload_n hx hb dX6_takeNumber_25 rfl (lv_at hl 0 rfl)) ?_
    refine jJ_of2 (fun H locs => jn_if_eq (tgt := 35) hx hb dX6_takeNumber_26 (by decide) (by omega)) (fun c26 => ?_) (fun c26 => ?_)
    · refine jJ_of (fun H locs => lv_iload_n hx hb dX6_takeNumber_35 rfl (lv_at hl 1 rfl)) ?_
      refine jJ_ofL (fun H locs => lv_istore (lv' := [(4, .int (nI (pd T s0))), (3, .int (nI 0)), (2, .int (nI (pd T s0))), (0, .ref h), (1, .int (nI s0))]) hx hb dX6_takeNumber_36 hl (by decide) rfl) (fun ls hl => ?_)
      refine jJ_of (fun H locs => lv_iload_n hx hb dX6_takeNumber_38 rfl (lv_at hl 1 rfl)) ?_
      refine jJ_of2 (fun H locs => jn_if_eq (tgt := 51) hx hb dX6_takeNumber_39 (by decide) (by omega)) (fun c39 => ?_) (fun c39 => ?_)
      · refine jJ_of (fun H locs => lv_iload_n hx hb dX6_takeNumber_51 rfl (lv_at hl 2 rfl)) ?_
        refine jJ_ofL (fun H locs => lv_istore (lv' := [(5, .int (nI (pd T s0))), (4, .int (nI (pd T s0))), (3, .int (nI 0)), (2, .int (nI (pd T s0))), (0, .ref h), (1, .int (nI s0))]) hx hb dX6_takeNumber_52 hl (by decide) rfl) (fun ls hl => ?_)
        have hS9 : nS T s0 = pd T s0 := if_neg (by omega)
        have hE9 : nE T s0 = pd T s0 := if_neg (by omega)
        have hl : lv_has ls 8 [(5, .int (nI (nE T s0))), (4, .int (nI (nS T s0))), (3, .int (nI 0)), (2, .int (nI (pd T s0))), (0, .ref h), (1, .int (nI s0))] := by rw [hS9, hE9]; exact hl
        have hpt : ¬ T.getD (pd T s0) 0 = 46 := by omega
        refine jJ_of (fun H locs => lv_aload_n hx hb dX6_takeNumber_54 rfl (lv_at hl 4 rfl)) ?_
        refine jJ_of (fun H locs => lv_iload hx hb dX6_takeNumber_55 (lv_at hl 0 rfl)) ?_
        refine jJ_put hx hb (C := RX6) (T := TX6) (N := 5) (ty := .int) (v := .int (nI (nE T s0))) hts uX6_in_X6_takeNumber tyX6 tyX6_ok nmX6 hown hK 1 rfl rfl 4 (by decide) (hts (.fieldLink RX6 38 "ValueBlocks$Tokens" "next" "I") (by decide +kernel)) (fun _ h9 => h9) rfl (by decide +kernel) rfl rfl (Nat.le_of_ble_eq_true rfl) dX6_takeNumber_57 (cs2 := [wT1, [(h, .inr (5, [.ref hT, .ref (a1 0), .ref (a1 1), .ref (a1 2), .int (nI (nE T s0))]))], v1 0, v1 1, v1 2]) rfl ?_
        refine jJ_of (fun H locs => lv_iload_n hx hb dX6_takeNumber_60 rfl (lv_at hl 3 rfl)) ?_
        refine jJ_of (fun H locs => lv_iload_n hx hb dX6_takeNumber_61 rfl (lv_at hl 5 rfl)) ?_
        refine jJ_of (fun H locs => jn_isub hx hb dX6_takeNumber_62 (by omega)) ?_
        refine jJ_of (fun H locs => lv_bipush (v := (nI 6)) hx hb dX6_takeNumber_63 (by decide)) ?_
        refine jJ_of2 (fun H locs => jn_icmp_gt (tgt := 77) hx hb dX6_takeNumber_65 (by decide) (by omega) (by omega)) (fun c65 => ?_) (fun c65 => ?_)
        · refine jJ_of (fun H locs => lv_aload_n hx hb dX6_takeNumber_77 rfl (lv_at hl 4 rfl)) ?_
          refine jJ_of (fun H locs => lv_iconst (v := (nI 0)) hx hb dX6_takeNumber_78 (by decide)) ?_
          refine jJ_of (fun H locs => lv_iload_n hx hb dX6_takeNumber_79 rfl (lv_at hl 5 rfl)) ?_
          refine jJ_of (fun H locs => lv_iconst (v := (nI 0)) hx hb dX6_takeNumber_80 (by decide)) ?_
          refine jJ_perm [1, 0, 2, 3, 4] (nn := 5) rfl (by decide) (cs2 := [[(h, .inr (5, [.ref hT, .ref (a1 0), .ref (a1 1), .ref (a1 2), .int (nI (nE T s0))]))], wT1, v1 0, v1 1, v1 2]) rfl ?_
          have hwa4 : jTok cI h hT P T tk (nE T s0) (jF [[(h, .inr (5, [.ref hT, .ref (a1 0), .ref (a1 1), .ref (a1 2), .int (nI (nE T s0))]))], wT1, v1 0, v1 1, v1 2]) := ⟨a1, q1, v1, qT1, wT1, rfl, hrT1, hr1, hP1, hB1, by omega, hl11, hl21, hvb1⟩
          refine jJ_flat (cs2 := [jF [[(h, .inr (5, [.ref hT, .ref (a1 0), .ref (a1 1), .ref (a1 2), .int (nI (nE T s0))]))], wT1, v1 0, v1 1, v1 2]]) rfl ?_
          refine jJ_callV (As := [.int (nI 0), .int (nI s0), .int (nI 0)]) (rest := []) (wc := _) (cs2 := []) (C := RX6) (T := TX6) (N := 5) (ci := 5) [0] [] ⟨hx, hb, hml, hown, hts⟩ hK hA hAm (c_Tok_add hwa4 0 s0 0 (by omega) (by omega) (by omega) (by omega)) (cwV 3 hts gX6_takeNumber_X6_add rfl rfl rfl (by decide +kernel) ⟨Nat.le_of_ble_eq_true rfl, Nat.le_of_ble_eq_true rfl⟩) (nn := 1) rfl (by decide) rfl rfl hwa4.hd rfl rfl rfl hl.1 (Nat.le_of_ble_eq_true rfl) dX6_takeNumber_81 (by show _ + 3 ≤ 3; omega) (by show _ + 96000 ≤ 96000; omega) (fun v u5 k5 n5 hq5 => ?_)
          obtain ⟨rfl, P25, hu5, hk5, hn5, hkk5, hnn5⟩ := hq5
          have hLu5 := hu5.len
          refine jJ_eq (g2 := F0 m 84 ls []) (cs2 := [u5]) rfl rfl ?_
          exact jJ_vret hx hb hr hlocks dX6_takeNumber_84 (by show _ ≤ 3; omega) (by show _ ≤ 96000; omega) ⟨rfl, _, by rw [show nK T s0 = 0 from if_pos (by omega), show nW T s0 = 0 from if_pos (by omega)]; exact hu5, by omega, by omega, by omega, by omega⟩
        · refine jJ_of (fun H locs => lv_iload hx hb dX6_takeNumber_68 (lv_at hl 0 rfl)) ?_
          refine jJ_of (fun H locs => lv_iload hx hb dX6_takeNumber_70 (lv_at hl 1 rfl)) ?_
          refine jJ_of (fun H locs => jn_isub hx hb dX6_takeNumber_72 (by omega)) ?_
          refine jJ_of (fun H locs => lv_iconst (v := (nI 3)) hx hb dX6_takeNumber_73 (by decide)) ?_
          refine jJ_of2 (fun H locs => jn_icmp_le (tgt := 85) hx hb dX6_takeNumber_74 (by decide) (by omega) (by omega)) (fun c74 => ?_) (fun c74 => ?_)
          · refine jJ_of (fun H locs => lv_iconst (v := (nI 0)) hx hb dX6_takeNumber_85 (by decide)) ?_
            refine jJ_ofL (fun H locs => lv_istore (lv' := [(6, .int (nI 0)), (5, .int (nI (nE T s0))), (4, .int (nI (nS T s0))), (3, .int (nI 0)), (2, .int (nI (pd T s0))), (0, .ref h), (1, .int (nI s0))]) hx hb dX6_takeNumber_86 hl (by decide) rfl) (fun ls hl => ?_)
            refine jJ_of (fun H locs => lv_iload_n hx hb dX6_takeNumber_88 rfl (lv_at hl 6 rfl)) ?_
            refine jJ_ofL (fun H locs => lv_istore (lv' := [(7, .int (nI s0)), (6, .int (nI 0)), (5, .int (nI (nE T s0))), (4, .int (nI (nS T s0))), (3, .int (nI 0)), (2, .int (nI (pd T s0))), (0, .ref h), (1, .int (nI s0))]) hx hb dX6_takeNumber_89 hl (by decide) rfl) (fun ls hl => ?_)
            have hnum : ¬ (6 < pd T s0 - s0 ∨ 3 < nE T s0 - nS T s0) := by omega
            have hV := nV_b (T := T) (s := s0) (by omega) (by omega)
            refine jJ_perm [1, 0, 2, 3, 4] (nn := 5) rfl (by decide) (cs2 := [[(h, .inr (5, [.ref hT, .ref (a1 0), .ref (a1 1), .ref (a1 2), .int (nI (nE T s0))]))], wT1, v1 0, v1 1, v1 2]) rfl ?_
            have hwa6 : jTok cI h hT P T tk (nE T s0) (jF [[(h, .inr (5, [.ref hT, .ref (a1 0), .ref (a1 1), .ref (a1 2), .int (nI (nE T s0))]))], wT1, v1 0, v1 1, v1 2]) := ⟨a1, q1, v1, qT1, wT1, rfl, hrT1, hr1, hP1, hB1, by omega, hl11, hl21, hvb1⟩
            refine jJ_flat (cs2 := [jF [[(h, .inr (5, [.ref hT, .ref (a1 0), .ref (a1 1), .ref (a1 2), .int (nI (nE T s0))]))], wT1, v1 0, v1 1, v1 2]]) rfl ?_
            suffices lp : ∀ (d i vv1 : Nat), pd T s0 - i < d → s0 ≤ i → i < 100000 → nvF T (pd T s0) d i vv1 = nvF T (pd T s0) 7 s0 0 → ∀ ls, lv_has ls 8 [(7, .int (nI i)), (6, .int (nI vv1)), (5, .int (nI (nE T s0))), (4, .int (nI (nS T s0))), (3, .int (nI 0)), (2, .int (nI (pd T s0))), (0, .ref h), (1, .int (nI s0))] → jJ p l e _ s m args below meth c D A0 [jF [[(h, .inr (5, [.ref hT, .ref (a1 0), .ref (a1 1), .ref (a1 2), .int (nI (nE T s0))]))], wT1, v1 0, v1 1, v1 2]] 0 0 (jEnd below D A0 _ args s _ _) (F0 m 91 ls []) from lp 7 s0 0 (by omega) (by omega) (by omega) rfl ls (lv_sub hl [0, 1, 2, 3, 4, 5, 6, 7] rfl)
            intro d
            induction d with
            | zero => intro i vv1 h9; exact absurd h9 (Nat.not_lt_zero _)
            | succ d ih =>
              intro i vv1 h9 hi0 hi9 hcl ls hl
              have hdg : i < pd T s0 → 48 ≤ T.getD i 0 := fun q => (isDg_b (pd_dg hi0 q)).1
              refine jJ_of (fun H locs => lv_iload hx hb dX6_takeNumber_91 (lv_at hl 0 rfl)) ?_
              refine jJ_of (fun H locs => lv_iload_n hx hb dX6_takeNumber_93 rfl (lv_at hl 5 rfl)) ?_
              refine jJ_of2 (fun H locs => jn_icmp_ge (tgt := 123) hx hb dX6_takeNumber_94 (by decide) (by omega) (by omega)) (fun c94 => ?_) (fun c94 => ?_)
              · refine jJ_of (fun H locs => lv_iload hx hb dX6_takeNumber_123 (lv_at hl 3 rfl)) ?_
                refine jJ_ofL (fun H locs => lv_istore (lv' := [(7, .int (nI (nS T s0))), (6, .int (nI vv1)), (5, .int (nI (nE T s0))), (4, .int (nI (nS T s0))), (3, .int (nI 0)), (2, .int (nI (pd T s0))), (0, .ref h), (1, .int (nI s0))]) hx hb dX6_takeNumber_125 hl (by decide) rfl) (fun ls hl => ?_)
                have hv1 : vv1 = nvF T (pd T s0) 7 s0 0 := by rw [← hcl]; show _ = (if _ then _ else _); rw [if_pos (by omega)]
                suffices lp2 : ∀ (d2 i2 vv2 : Nat), nS T s0 + 3 - i2 < d2 → nS T s0 ≤ i2 → i2 < 100000 → nwF T (nE T s0) (nS T s0 + 3) d2 i2 vv2 = nV T s0 → ∀ ls, lv_has ls 8 [(7, .int (nI i2)), (6, .int (nI vv2)), (5, .int (nI (nE T s0))), (4, .int (nI (nS T s0))), (3, .int (nI 0)), (0, .ref h), (1, .int (nI s0))] → jJ p l e _ s m args below meth c D A0 [jF [[(h, .inr (5, [.ref hT, .ref (a1 0), .ref (a1 1), .ref (a1 2), .int (nI (nE T s0))]))], wT1, v1 0, v1 1, v1 2]] 0 0 (jEnd below D A0 _ args s _ _) (F0 m 127 ls []) from lp2 4 (nS T s0) vv1 (by omega) (by omega) (by omega) (by rw [hv1]; rfl) ls (lv_sub hl [0, 1, 2, 3, 4, 6, 7] rfl)
                intro d2
                induction d2 with
                | zero => intro i2 vv2 h8; exact absurd h8 (Nat.not_lt_zero _)
                | succ d2 ih2 =>
                  intro i2 vv2 h8 hi2 hi8 hcl2 ls hl
                  have hdg2 : i2 < nE T s0 → 48 ≤ T.getD i2 0 := fun q => (isDg_b (nS_dg hi2 q)).1
                  have hgb2 := hLn.2.2.2.2.2.1 i2
                  refine jJ_of (fun H locs => lv_iload hx hb dX6_takeNumber_127 (lv_at hl 0 rfl)) ?_
                  refine jJ_of (fun H locs => lv_iload hx hb dX6_takeNumber_129 (lv_at hl 3 rfl)) ?_
                  refine jJ_of (fun H locs => lv_iconst (v := (nI 3)) hx hb dX6_takeNumber_131 (by decide)) ?_
                  refine jJ_of (fun H locs => jn_iadd hx hb dX6_takeNumber_132) ?_
                  refine jJ_of2 (fun H locs => jn_icmp_ge (tgt := 173) hx hb dX6_takeNumber_133 (by decide) (by omega) (by omega)) (fun c133 => ?_) (fun c133 => ?_)
                  · have hv2 : vv2 = nV T s0 := by rw [← hcl2]; show _ = (if _ then _ else _); rw [if_pos (by omega)]
                    refine jJ_of (fun H locs => lv_aload_n hx hb dX6_takeNumber_173 rfl (lv_at hl 5 rfl)) ?_
                    refine jJ_of (fun H locs => lv_iload_n hx hb dX6_takeNumber_174 rfl (lv_at hl 4 rfl)) ?_
                    refine jJ_of2 (fun H locs => jn_if_eq (tgt := 184) hx hb dX6_takeNumber_175 (by decide) (by omega)) (fun c175 => ?_) (fun c175 => ?_)
                    · refine jJ_of (fun H locs => lv_sipush (v := (nI 256)) hx hb dX6_takeNumber_184 (by decide)) ?_
                      refine jJ_of (fun H locs => lv_iload_n hx hb dX6_takeNumber_187 rfl (lv_at hl 6 rfl)) ?_
                      refine jJ_of (fun H locs => lv_iload hx hb dX6_takeNumber_188 (lv_at hl 1 rfl)) ?_
                      refine jJ_callV (As := [.int (nI 256), .int (nI s0), .int (nI vv2)]) (rest := []) (wc := _) (cs2 := []) (C := RX6) (T := TX6) (N := 5) (ci := 5) [0] [] ⟨hx, hb, hml, hown, hts⟩ hK hA hAm (c_Tok_add hwa6 256 s0 vv2 (by omega) (by omega) (by omega) (by omega)) (cwV 3 hts gX6_takeNumber_X6_add rfl rfl rfl (by decide +kernel) ⟨Nat.le_of_ble_eq_true rfl, Nat.le_of_ble_eq_true rfl⟩) (nn := 1) rfl (by decide) rfl rfl hwa6.hd rfl rfl rfl hl.1 (Nat.le_of_ble_eq_true rfl) dX6_takeNumber_190 (by show _ + 3 ≤ 3; omega) (by show _ + 96000 ≤ 96000; omega) (fun v u7 k7 n7 hq7 => ?_)
                      obtain ⟨rfl, P27, hu7, hk7, hn7, hkk7, hnn7⟩ := hq7
                      have hLu7 := hu7.len
                      refine jJ_eq (g2 := F0 m 193 ls []) (cs2 := [u7]) rfl rfl ?_
                      exact jJ_vret hx hb hr hlocks dX6_takeNumber_193 (by show _ ≤ 3; omega) (by show _ ≤ 96000; omega) ⟨rfl, _, by rw [show nK T s0 = 256 from (if_neg hnum).trans (if_neg hpt), show nW T s0 = vv2 from (if_neg hnum).trans hv2.symm]; exact hu7, by omega, by omega, by omega, by omega⟩
                    · omega
                  · refine jJ_of (fun H locs => lv_iload hx hb dX6_takeNumber_136 (lv_at hl 1 rfl)) ?_
                    refine jJ_of (fun H locs => lv_bipush (v := (nI 10)) hx hb dX6_takeNumber_138 (by decide)) ?_
                    refine jJ_of (fun H locs => jn_imul hx hb dX6_takeNumber_140) ?_
                    refine jJ_of (fun H locs => lv_iload hx hb dX6_takeNumber_141 (lv_at hl 0 rfl)) ?_
                    refine jJ_of (fun H locs => lv_iload hx hb dX6_takeNumber_143 (lv_at hl 2 rfl)) ?_
                    refine jJ_of2 (fun H locs => jn_icmp_ge (tgt := 163) hx hb dX6_takeNumber_145 (by decide) (by omega) (by omega)) (fun c145 => ?_) (fun c145 => ?_)
                    · refine jJ_of (fun H locs => lv_iconst (v := (nI 0)) hx hb dX6_takeNumber_163 (by decide)) ?_
                      refine jJ_of (fun H locs => jn_iadd hx hb dX6_takeNumber_164) ?_
                      refine jJ_ofL (fun H locs => lv_istore (lv' := [(6, .int (nI ((vv2 * 10) + 0))), (7, .int (nI i2)), (5, .int (nI (nE T s0))), (4, .int (nI (nS T s0))), (3, .int (nI 0)), (0, .ref h), (1, .int (nI s0))]) hx hb dX6_takeNumber_165 hl (by decide) rfl) (fun ls hl => ?_)
                      refine jJ_ofL (fun H locs => lv_iinc (v := (nI (i2 + 1))) (lv' := [(7, .int (nI (i2 + 1))), (6, .int (nI ((vv2 * 10) + 0))), (5, .int (nI (nE T s0))), (4, .int (nI (nS T s0))), (3, .int (nI 0)), (0, .ref h), (1, .int (nI s0))]) hx hb dX6_takeNumber_167 hl (k := 1) rfl (nI_add _ _) (by decide) rfl) (fun ls hl => ?_)
                      refine jJ_of (fun H locs => lv_goto (tgt := 127) hx hb dX6_takeNumber_170 (by decide)) ?_
                      exact ih2 (i2 + 1) _ (by omega) (by omega) (by omega) (by rw [← hcl2]; show _ = (if _ then _ else _); rw [if_neg (by omega), if_neg (by omega)]) ls (lv_sub hl [0, 1, 2, 3, 4, 5, 6] rfl)
                    · refine jJ_of (fun H locs => lv_aload_n hx hb dX6_takeNumber_148 rfl (lv_at hl 5 rfl)) ?_
                      refine jJ_open (xs := [[(h, .inr (5, [.ref hT, .ref (a1 0), .ref (a1 1), .ref (a1 2), .int (nI (nE T s0))]))], wT1, v1 0, v1 1, v1 2]) (r := []) (cs2 := [[(h, .inr (5, [.ref hT, .ref (a1 0), .ref (a1 1), .ref (a1 2), .int (nI (nE T s0))]))], wT1, v1 0, v1 1, v1 2]) rfl ?_
                      refine jJ_get hx hb (C := RX6) (T := TX6) (N := 5) hts uX6_in_X6_takeNumber hown hK 0 rfl rfl 0 (by decide) (hts (.fieldLink RX6 24 "ValueBlocks$Tokens" "text" "LValueBlocks$Row;") (by decide +kernel)) (fun _ h9 => h9) rfl dX6_takeNumber_149 ?_
                      refine jJ_of (fun H locs => lv_iload hx hb dX6_takeNumber_152 (lv_at hl 0 rfl)) ?_
                      refine jJ_callV (As := [.int (nI i2)]) (rest := [.int (nI (vv2 * 10))]) (wc := _) (cs2 := [[(h, .inr (5, [.ref hT, .ref (a1 0), .ref (a1 1), .ref (a1 2), .int (nI (nE T s0))]))], v1 0, v1 1, v1 2]) (C := RX5) (T := TX5) (N := 3) (ci := 4) [1] [0, 2, 3, 4] ⟨hx, hb, hml, hown, hts⟩ hK hA hAm (c_Row_get hrT1 i2 (by omega)) (cwV 1 hts gX6_takeNumber_X5_get rfl rfl rfl (by decide +kernel) ⟨Nat.le_of_ble_eq_true rfl, Nat.le_of_ble_eq_true rfl⟩) (nn := 5) rfl (by decide) rfl rfl hrT1.hd rfl rfl rfl hl.1 (Nat.le_of_ble_eq_true rfl) dX6_takeNumber_154 (by show _ + 0 ≤ 3; omega) (by show _ + 0 ≤ 96000; omega) (fun v u8 k8 n8 hq8 => ?_)
                      obtain ⟨rfl, hw8, rfl, rfl⟩ := hq8
                      rw [hw8]
                      rw [jget_n]
                      refine jJ_eq (g2 := F0 m 157 ls [.int (nI (T.getD i2 0)), .int (nI (vv2 * 10))]) (cs2 := [wT1, [(h, .inr (5, [.ref hT, .ref (a1 0), .ref (a1 1), .ref (a1 2), .int (nI (nE T s0))]))], v1 0, v1 1, v1 2]) rfl rfl ?_
                      refine jJ_of (fun H locs => lv_bipush (v := (nI 48)) hx hb dX6_takeNumber_157 (by decide)) ?_
                      refine jJ_of (fun H locs => jn_isub hx hb dX6_takeNumber_159 (by omega)) ?_
                      refine jJ_of (fun H locs => lv_goto (tgt := 164) hx hb dX6_takeNumber_160 (by decide)) ?_
                      refine jJ_of (fun H locs => jn_iadd hx hb dX6_takeNumber_164) ?_
                      refine jJ_ofL (fun H locs => lv_istore (lv' := [(6, .int (nI ((vv2 * 10) + ((T.getD i2 0) - 48)))), (7, .int (nI i2)), (5, .int (nI (nE T s0))), (4, .int (nI (nS T s0))), (3, .int (nI 0)), (0, .ref h), (1, .int (nI s0))]) hx hb dX6_takeNumber_165 hl (by decide) rfl) (fun ls hl => ?_)
                      refine jJ_ofL (fun H locs => lv_iinc (v := (nI (i2 + 1))) (lv' := [(7, .int (nI (i2 + 1))), (6, .int (nI ((vv2 * 10) + ((T.getD i2 0) - 48)))), (5, .int (nI (nE T s0))), (4, .int (nI (nS T s0))), (3, .int (nI 0)), (0, .ref h), (1, .int (nI s0))]) hx hb dX6_takeNumber_167 hl (k := 1) rfl (nI_add _ _) (by decide) rfl) (fun ls hl => ?_)
                      refine jJ_of (fun H locs => lv_goto (tgt := 127) hx hb dX6_takeNumber_170 (by decide)) ?_
                      refine jJ_perm [1, 0, 2, 3, 4] (nn := 5) rfl (by decide) (cs2 := [[(h, .inr (5, [.ref hT, .ref (a1 0), .ref (a1 1), .ref (a1 2), .int (nI (nE T s0))]))], wT1, v1 0, v1 1, v1 2]) rfl ?_
                      have hwa9 : jTok cI h hT P T tk (nE T s0) (jF [[(h, .inr (5, [.ref hT, .ref (a1 0), .ref (a1 1), .ref (a1 2), .int (nI (nE T s0))]))], wT1, v1 0, v1 1, v1 2]) := ⟨a1, q1, v1, qT1, wT1, rfl, hrT1, hr1, hP1, hB1, by omega, hl11, hl21, hvb1⟩
                      refine jJ_flat (cs2 := [jF [[(h, .inr (5, [.ref hT, .ref (a1 0), .ref (a1 1), .ref (a1 2), .int (nI (nE T s0))]))], wT1, v1 0, v1 1, v1 2]]) rfl ?_
                      exact ih2 (i2 + 1) _ (by omega) (by omega) (by omega) (by rw [← hcl2]; show _ = (if _ then _ else _); rw [if_neg (by omega), if_pos (by omega)]) ls (lv_sub hl [0, 1, 2, 3, 4, 5, 6] rfl)
              · refine jJ_of (fun H locs => lv_iload hx hb dX6_takeNumber_97 (lv_at hl 1 rfl)) ?_
                refine jJ_of (fun H locs => lv_bipush (v := (nI 10)) hx hb dX6_takeNumber_99 (by decide)) ?_
                refine jJ_of (fun H locs => jn_imul hx hb dX6_takeNumber_101) ?_
                refine jJ_of (fun H locs => lv_aload_n hx hb dX6_takeNumber_102 rfl (lv_at hl 6 rfl)) ?_
                refine jJ_open (xs := [[(h, .inr (5, [.ref hT, .ref (a1 0), .ref (a1 1), .ref (a1 2), .int (nI (nE T s0))]))], wT1, v1 0, v1 1, v1 2]) (r := []) (cs2 := [[(h, .inr (5, [.ref hT, .ref (a1 0), .ref (a1 1), .ref (a1 2), .int (nI (nE T s0))]))], wT1, v1 0, v1 1, v1 2]) rfl ?_
                refine jJ_get hx hb (C := RX6) (T := TX6) (N := 5) hts uX6_in_X6_takeNumber hown hK 0 rfl rfl 0 (by decide) (hts (.fieldLink RX6 24 "ValueBlocks$Tokens" "text" "LValueBlocks$Row;") (by decide +kernel)) (fun _ h9 => h9) rfl dX6_takeNumber_103 ?_
                refine jJ_of (fun H locs => lv_iload hx hb dX6_takeNumber_106 (lv_at hl 0 rfl)) ?_
                refine jJ_callV (As := [.int (nI i)]) (rest := [.int (nI (vv1 * 10))]) (wc := _) (cs2 := [[(h, .inr (5, [.ref hT, .ref (a1 0), .ref (a1 1), .ref (a1 2), .int (nI (nE T s0))]))], v1 0, v1 1, v1 2]) (C := RX5) (T := TX5) (N := 3) (ci := 4) [1] [0, 2, 3, 4] ⟨hx, hb, hml, hown, hts⟩ hK hA hAm (c_Row_get hrT1 i (by omega)) (cwV 1 hts gX6_takeNumber_X5_get rfl rfl rfl (by decide +kernel) ⟨Nat.le_of_ble_eq_true rfl, Nat.le_of_ble_eq_true rfl⟩) (nn := 5) rfl (by decide) rfl rfl hrT1.hd rfl rfl rfl hl.1 (Nat.le_of_ble_eq_true rfl) dX6_takeNumber_108 (by show _ + 0 ≤ 3; omega) (by show _ + 0 ≤ 96000; omega) (fun v u10 k10 n10 hq10 => ?_)
                obtain ⟨rfl, hw10, rfl, rfl⟩ := hq10
                rw [hw10]
                rw [jget_n]
                refine jJ_eq (g2 := F0 m 111 ls [.int (nI (T.getD i 0)), .int (nI (vv1 * 10))]) (cs2 := [wT1, [(h, .inr (5, [.ref hT, .ref (a1 0), .ref (a1 1), .ref (a1 2), .int (nI (nE T s0))]))], v1 0, v1 1, v1 2]) rfl rfl ?_
                refine jJ_of (fun H locs => jn_iadd hx hb dX6_takeNumber_111) ?_
                refine jJ_of (fun H locs => lv_bipush (v := (nI 48)) hx hb dX6_takeNumber_112 (by decide)) ?_
                refine jJ_of (fun H locs => jn_isub hx hb dX6_takeNumber_114 (by omega)) ?_
                refine jJ_ofL (fun H locs => lv_istore (lv' := [(6, .int (nI (((vv1 * 10) + (T.getD i 0)) - 48))), (7, .int (nI i)), (5, .int (nI (nE T s0))), (4, .int (nI (nS T s0))), (3, .int (nI 0)), (2, .int (nI (pd T s0))), (0, .ref h), (1, .int (nI s0))]) hx hb dX6_takeNumber_115 hl (by decide) rfl) (fun ls hl => ?_)
                refine jJ_ofL (fun H locs => lv_iinc (v := (nI (i + 1))) (lv' := [(7, .int (nI (i + 1))), (6, .int (nI (((vv1 * 10) + (T.getD i 0)) - 48))), (5, .int (nI (nE T s0))), (4, .int (nI (nS T s0))), (3, .int (nI 0)), (2, .int (nI (pd T s0))), (0, .ref h), (1, .int (nI s0))]) hx hb dX6_takeNumber_117 hl (k := 1) rfl (nI_add _ _) (by decide) rfl) (fun ls hl => ?_)
                refine jJ_of (fun H locs => lv_goto (tgt := 91) hx hb dX6_takeNumber_120 (by decide)) ?_
                refine jJ_perm [1, 0, 2, 3, 4] (nn := 5) rfl (by decide) (cs2 := [[(h, .inr (5, [.ref hT, .ref (a1 0), .ref (a1 1), .ref (a1 2), .int (nI (nE T s0))]))], wT1, v1 0, v1 1, v1 2]) rfl ?_
                have hwa11 : jTok cI h hT P T tk (nE T s0) (jF [[(h, .inr (5, [.ref hT, .ref (a1 0), .ref (a1 1), .ref (a1 2), .int (nI (nE T s0))]))], wT1, v1 0, v1 1, v1 2]) := ⟨a1, q1, v1, qT1, wT1, rfl, hrT1, hr1, hP1, hB1, by omega, hl11, hl21, hvb1⟩
                refine jJ_flat (cs2 := [jF [[(h, .inr (5, [.ref hT, .ref (a1 0), .ref (a1 1), .ref (a1 2), .int (nI (nE T s0))]))], wT1, v1 0, v1 1, v1 2]]) rfl ?_
                exact ih (i + 1) _ (by omega) (by omega) (by omega) (by rw [← hcl]; show _ = (if _ then _ else _); rw [if_neg (by omega)]) ls (lv_sub hl [0, 1, 2, 3, 4, 5, 6, 7] rfl)
          · refine jJ_of (fun H locs => lv_aload_n hx hb dX6_takeNumber_77 rfl (lv_at hl 4 rfl)) ?_
            refine jJ_of (fun H locs => lv_iconst (v := (nI 0)) hx hb dX6_takeNumber_78 (by decide)) ?_
            refine jJ_of (fun H locs => lv_iload_n hx hb dX6_takeNumber_79 rfl (lv_at hl 5 rfl)) ?_
            refine jJ_of (fun H locs => lv_iconst (v := (nI 0)) hx hb dX6_takeNumber_80 (by decide)) ?_
            refine jJ_perm [1, 0, 2, 3, 4] (nn := 5) rfl (by decide) (cs2 := [[(h, .inr (5, [.ref hT, .ref (a1 0), .ref (a1 1), .ref (a1 2), .int (nI (nE T s0))]))], wT1, v1 0, v1 1, v1 2]) rfl ?_
            have hwa12 : jTok cI h hT P T tk (nE T s0) (jF [[(h, .inr (5, [.ref hT, .ref (a1 0), .ref (a1 1), .ref (a1 2), .int (nI (nE T s0))]))], wT1, v1 0, v1 1, v1 2]) := ⟨a1, q1, v1, qT1, wT1, rfl, hrT1, hr1, hP1, hB1, by omega, hl11, hl21, hvb1⟩
            refine jJ_flat (cs2 := [jF [[(h, .inr (5, [.ref hT, .ref (a1 0), .ref (a1 1), .ref (a1 2), .int (nI (nE T s0))]))], wT1, v1 0, v1 1, v1 2]]) rfl ?_
            refine jJ_callV (As := [.int (nI 0), .int (nI s0), .int (nI 0)]) (rest := []) (wc := _) (cs2 := []) (C := RX6) (T := TX6) (N := 5) (ci := 5) [0] [] ⟨hx, hb, hml, hown, hts⟩ hK hA hAm (c_Tok_add hwa12 0 s0 0 (by omega) (by omega) (by omega) (by omega)) (cwV 3 hts gX6_takeNumber_X6_add rfl rfl rfl (by decide +kernel) ⟨Nat.le_of_ble_eq_true rfl, Nat.le_of_ble_eq_true rfl⟩) (nn := 1) rfl (by decide) rfl rfl hwa12.hd rfl rfl rfl hl.1 (Nat.le_of_ble_eq_true rfl) dX6_takeNumber_81 (by show _ + 3 ≤ 3; omega) (by show _ + 96000 ≤ 96000; omega) (fun v u13 k13 n13 hq13 => ?_)
            obtain ⟨rfl, P213, hu13, hk13, hn13, hkk13, hnn13⟩ := hq13
            have hLu13 := hu13.len
            refine jJ_eq (g2 := F0 m 84 ls []) (cs2 := [u13]) rfl rfl ?_
            exact jJ_vret hx hb hr hlocks dX6_takeNumber_84 (by show _ ≤ 3; omega) (by show _ ≤ 96000; omega) ⟨rfl, _, by rw [show nK T s0 = 0 from if_pos (by omega), show nW T s0 = 0 from if_pos (by omega)]; exact hu13, by omega, by omega, by omega, by omega⟩
      · omega
    · omega
  · refine jJ_of (fun H locs => lv_iconst (v := (nI 1)) hx hb dX6_takeNumber_19 (by decide)) ?_
    refine jJ_of (fun H locs => lv_goto (tgt := 24) hx hb dX6_takeNumber_20 (by decide)) ?_
    refine jJ_ofL (fun H locs => lv_istore_n (lv' := [(3, .int (nI 1)), (2, .int (nI (pd T s0))), (0, .ref h), (1, .int (nI s0))]) hx hb dX6_takeNumber_24 rfl hl (by decide) rfl) (fun ls hl => ?_)
    refine jJ_of (fun H locs => lv_iload_n hx hb dX6_takeNumber_25 rfl (lv_at hl 0 rfl)) ?_
    refine jJ_of2 (fun H locs => jn_if_eq (tgt := 35) hx hb dX6_takeNumber_26 (by decide) (by omega)) (fun c26 => ?_) (fun c26 => ?_)
    · omega
    · refine jJ_of (fun H locs => lv_iload_n hx hb dX6_takeNumber_29 rfl (lv_at hl 1 rfl)) ?_
      refine jJ_of (fun H locs => lv_iconst (v := (nI 1)) hx hb dX6_takeNumber_30 (by decide)) ?_
      refine jJ_of (fun H locs => jn_iadd hx hb dX6_takeNumber_31) ?_
      refine jJ_of (fun H locs => lv_goto (tgt := 36) hx hb dX6_takeNumber_32 (by decide)) ?_
      refine jJ_ofL (fun H locs => lv_istore (lv' := [(4, .int (nI ((pd T s0) + 1))), (3, .int (nI 1)), (2, .int (nI (pd T s0))), (0, .ref h), (1, .int (nI s0))]) hx hb dX6_takeNumber_36 hl (by decide) rfl) (fun ls hl => ?_)
      refine jJ_of (fun H locs => lv_iload_n hx hb dX6_takeNumber_38 rfl (lv_at hl 1 rfl)) ?_
      refine jJ_of2 (fun H locs => jn_if_eq (tgt := 51) hx hb dX6_takeNumber_39 (by decide) (by omega)) (fun c39 => ?_) (fun c39 => ?_)
      · omega
      · refine jJ_of (fun H locs => lv_aload_n hx hb dX6_takeNumber_42 rfl (lv_at hl 3 rfl)) ?_
        refine jJ_of (fun H locs => lv_iload hx hb dX6_takeNumber_43 (lv_at hl 0 rfl)) ?_
        refine jJ_perm [1, 0, 2, 3, 4] (nn := 5) rfl (by decide) (cs2 := [[(h, .inr (5, [.ref hT, .ref (a1 0), .ref (a1 1), .ref (a1 2), .int (nI nx)]))], wT1, v1 0, v1 1, v1 2]) rfl ?_
        refine jJ_flat (cs2 := [jF [[(h, .inr (5, [.ref hT, .ref (a1 0), .ref (a1 1), .ref (a1 2), .int (nI nx)]))], wT1, v1 0, v1 1, v1 2]]) rfl ?_
        refine jJ_callV (As := [.int (nI ((pd T s0) + 1))]) (rest := []) (wc := _) (cs2 := []) (C := RX6) (T := TX6) (N := 5) (ci := 5) [0] [] ⟨hx, hb, hml, hown, hts⟩ hK hA hAm (c_Tok_pastDigits hw ((pd T s0) + 1) (by omega)) (cwV 1 hts gX6_takeNumber_X6_pastDigits rfl rfl rfl (by decide +kernel) ⟨Nat.le_of_ble_eq_true rfl, Nat.le_of_ble_eq_true rfl⟩) (nn := 1) rfl (by decide) rfl rfl hw.hd rfl rfl rfl hl.1 (Nat.le_of_ble_eq_true rfl) dX6_takeNumber_45 (by show _ + 0 ≤ 3; omega) (by show _ + 0 ≤ 96000; omega) (fun v u14 k14 n14 hq14 => ?_)
        obtain ⟨rfl, hw14, rfl, rfl⟩ := hq14
        rw [hw14]
        refine jJ_eq (g2 := F0 m 48 ls [.int (nI (pd T ((pd T s0) + 1)))]) (cs2 := [jF [[(h, .inr (5, [.ref hT, .ref (a1 0), .ref (a1 1), .ref (a1 2), .int (nI nx)]))], wT1, v1 0, v1 1, v1 2]]) rfl rfl ?_
        refine jJ_of (fun H locs => lv_goto (tgt := 52) hx hb dX6_takeNumber_48 (by decide)) ?_
        refine jJ_ofL (fun H locs => lv_istore (lv' := [(5, .int (nI (pd T ((pd T s0) + 1)))), (4, .int (nI ((pd T s0) + 1))), (3, .int (nI 1)), (2, .int (nI (pd T s0))), (0, .ref h), (1, .int (nI s0))]) hx hb dX6_takeNumber_52 hl (by decide) rfl) (fun ls hl => ?_)
        have hS9 : nS T s0 = (pd T s0) + 1 := if_pos (by omega)
        have hE9 : nE T s0 = pd T ((pd T s0) + 1) := if_pos (by omega)
        have hl : lv_has ls 8 [(5, .int (nI (nE T s0))), (4, .int (nI (nS T s0))), (3, .int (nI 1)), (2, .int (nI (pd T s0))), (0, .ref h), (1, .int (nI s0))] := by rw [hS9, hE9]; exact hl
        have hpt : T.getD (pd T s0) 0 = 46 := by omega
        refine jJ_of (fun H locs => lv_aload_n hx hb dX6_takeNumber_54 rfl (lv_at hl 4 rfl)) ?_
        refine jJ_of (fun H locs => lv_iload hx hb dX6_takeNumber_55 (lv_at hl 0 rfl)) ?_
        refine jJ_open (xs := [[(h, .inr (5, [.ref hT, .ref (a1 0), .ref (a1 1), .ref (a1 2), .int (nI nx)]))], wT1, v1 0, v1 1, v1 2]) (r := []) (cs2 := [[(h, .inr (5, [.ref hT, .ref (a1 0), .ref (a1 1), .ref (a1 2), .int (nI nx)]))], wT1, v1 0, v1 1, v1 2]) rfl ?_
        refine jJ_put hx hb (C := RX6) (T := TX6) (N := 5) (ty := .int) (v := .int (nI (nE T s0))) hts uX6_in_X6_takeNumber tyX6 tyX6_ok nmX6 hown hK 0 rfl rfl 4 (by decide) (hts (.fieldLink RX6 38 "ValueBlocks$Tokens" "next" "I") (by decide +kernel)) (fun _ h9 => h9) rfl (by decide +kernel) rfl rfl (Nat.le_of_ble_eq_true rfl) dX6_takeNumber_57 (cs2 := [[(h, .inr (5, [.ref hT, .ref (a1 0), .ref (a1 1), .ref (a1 2), .int (nI (nE T s0))]))], wT1, v1 0, v1 1, v1 2]) rfl ?_
        refine jJ_of (fun H locs => lv_iload_n hx hb dX6_takeNumber_60 rfl (lv_at hl 3 rfl)) ?_
        refine jJ_of (fun H locs => lv_iload_n hx hb dX6_takeNumber_61 rfl (lv_at hl 5 rfl)) ?_
        refine jJ_of (fun H locs => jn_isub hx hb dX6_takeNumber_62 (by omega)) ?_
        refine jJ_of (fun H locs => lv_bipush (v := (nI 6)) hx hb dX6_takeNumber_63 (by decide)) ?_
        refine jJ_of2 (fun H locs => jn_icmp_gt (tgt := 77) hx hb dX6_takeNumber_65 (by decide) (by omega) (by omega)) (fun c65 => ?_) (fun c65 => ?_)
        · refine jJ_of (fun H locs => lv_aload_n hx hb dX6_takeNumber_77 rfl (lv_at hl 4 rfl)) ?_
          refine jJ_of (fun H locs => lv_iconst (v := (nI 0)) hx hb dX6_takeNumber_78 (by decide)) ?_
          refine jJ_of (fun H locs => lv_iload_n hx hb dX6_takeNumber_79 rfl (lv_at hl 5 rfl)) ?_
          refine jJ_of (fun H locs => lv_iconst (v := (nI 0)) hx hb dX6_takeNumber_80 (by decide)) ?_
          have hwa15 : jTok cI h hT P T tk (nE T s0) (jF [[(h, .inr (5, [.ref hT, .ref (a1 0), .ref (a1 1), .ref (a1 2), .int (nI (nE T s0))]))], wT1, v1 0, v1 1, v1 2]) := ⟨a1, q1, v1, qT1, wT1, rfl, hrT1, hr1, hP1, hB1, by omega, hl11, hl21, hvb1⟩
          refine jJ_flat (cs2 := [jF [[(h, .inr (5, [.ref hT, .ref (a1 0), .ref (a1 1), .ref (a1 2), .int (nI (nE T s0))]))], wT1, v1 0, v1 1, v1 2]]) rfl ?_
          refine jJ_callV (As := [.int (nI 0), .int (nI s0), .int (nI 0)]) (rest := []) (wc := _) (cs2 := []) (C := RX6) (T := TX6) (N := 5) (ci := 5) [0] [] ⟨hx, hb, hml, hown, hts⟩ hK hA hAm (c_Tok_add hwa15 0 s0 0 (by omega) (by omega) (by omega) (by omega)) (cwV 3 hts gX6_takeNumber_X6_add rfl rfl rfl (by decide +kernel) ⟨Nat.le_of_ble_eq_true rfl, Nat.le_of_ble_eq_true rfl⟩) (nn := 1) rfl (by decide) rfl rfl hwa15.hd rfl rfl rfl hl.1 (Nat.le_of_ble_eq_true rfl) dX6_takeNumber_81 (by show _ + 3 ≤ 3; omega) (by show _ + 96000 ≤ 96000; omega) (fun v u16 k16 n16 hq16 => ?_)
          obtain ⟨rfl, P216, hu16, hk16, hn16, hkk16, hnn16⟩ := hq16
          have hLu16 := hu16.len
          refine jJ_eq (g2 := F0 m 84 ls []) (cs2 := [u16]) rfl rfl ?_
          exact jJ_vret hx hb hr hlocks dX6_takeNumber_84 (by show _ ≤ 3; omega) (by show _ ≤ 96000; omega) ⟨rfl, _, by rw [show nK T s0 = 0 from if_pos (by omega), show nW T s0 = 0 from if_pos (by omega)]; exact hu16, by omega, by omega, by omega, by omega⟩
        · refine jJ_of (fun H locs => lv_iload hx hb dX6_takeNumber_68 (lv_at hl 0 rfl)) ?_
          refine jJ_of (fun H locs => lv_iload hx hb dX6_takeNumber_70 (lv_at hl 1 rfl)) ?_
          refine jJ_of (fun H locs => jn_isub hx hb dX6_takeNumber_72 (by omega)) ?_
          refine jJ_of (fun H locs => lv_iconst (v := (nI 3)) hx hb dX6_takeNumber_73 (by decide)) ?_
          refine jJ_of2 (fun H locs => jn_icmp_le (tgt := 85) hx hb dX6_takeNumber_74 (by decide) (by omega) (by omega)) (fun c74 => ?_) (fun c74 => ?_)
          · refine jJ_of (fun H locs => lv_iconst (v := (nI 0)) hx hb dX6_takeNumber_85 (by decide)) ?_
            refine jJ_ofL (fun H locs => lv_istore (lv' := [(6, .int (nI 0)), (5, .int (nI (nE T s0))), (4, .int (nI (nS T s0))), (3, .int (nI 1)), (2, .int (nI (pd T s0))), (0, .ref h), (1, .int (nI s0))]) hx hb dX6_takeNumber_86 hl (by decide) rfl) (fun ls hl => ?_)
            refine jJ_of (fun H locs => lv_iload_n hx hb dX6_takeNumber_88 rfl (lv_at hl 6 rfl)) ?_
            refine jJ_ofL (fun H locs => lv_istore (lv' := [(7, .int (nI s0)), (6, .int (nI 0)), (5, .int (nI (nE T s0))), (4, .int (nI (nS T s0))), (3, .int (nI 1)), (2, .int (nI (pd T s0))), (0, .ref h), (1, .int (nI s0))]) hx hb dX6_takeNumber_89 hl (by decide) rfl) (fun ls hl => ?_)
            have hnum : ¬ (6 < pd T s0 - s0 ∨ 3 < nE T s0 - nS T s0) := by omega
            have hV := nV_b (T := T) (s := s0) (by omega) (by omega)
            have hwa17 : jTok cI h hT P T tk (nE T s0) (jF [[(h, .inr (5, [.ref hT, .ref (a1 0), .ref (a1 1), .ref (a1 2), .int (nI (nE T s0))]))], wT1, v1 0, v1 1, v1 2]) := ⟨a1, q1, v1, qT1, wT1, rfl, hrT1, hr1, hP1, hB1, by omega, hl11, hl21, hvb1⟩
            refine jJ_flat (cs2 := [jF [[(h, .inr (5, [.ref hT, .ref (a1 0), .ref (a1 1), .ref (a1 2), .int (nI (nE T s0))]))], wT1, v1 0, v1 1, v1 2]]) rfl ?_
            suffices lp : ∀ (d i vv1 : Nat), pd T s0 - i < d → s0 ≤ i → i < 100000 → nvF T (pd T s0) d i vv1 = nvF T (pd T s0) 7 s0 0 → ∀ ls, lv_has ls 8 [(7, .int (nI i)), (6, .int (nI vv1)), (5, .int (nI (nE T s0))), (4, .int (nI (nS T s0))), (3, .int (nI 1)), (2, .int (nI (pd T s0))), (0, .ref h), (1, .int (nI s0))] → jJ p l e _ s m args below meth c D A0 [jF [[(h, .inr (5, [.ref hT, .ref (a1 0), .ref (a1 1), .ref (a1 2), .int (nI (nE T s0))]))], wT1, v1 0, v1 1, v1 2]] 0 0 (jEnd below D A0 _ args s _ _) (F0 m 91 ls []) from lp 7 s0 0 (by omega) (by omega) (by omega) rfl ls (lv_sub hl [0, 1, 2, 3, 4, 5, 6, 7] rfl)
            intro d
            induction d with
            | zero => intro i vv1 h9; exact absurd h9 (Nat.not_lt_zero _)
            | succ d ih =>
              intro i vv1 h9 hi0 hi9 hcl ls hl
              have hdg : i < pd T s0 → 48 ≤ T.getD i 0 := fun q => (isDg_b (pd_dg hi0 q)).1
              refine jJ_of (fun H locs => lv_iload hx hb dX6_takeNumber_91 (lv_at hl 0 rfl)) ?_
              refine jJ_of (fun H locs => lv_iload_n hx hb dX6_takeNumber_93 rfl (lv_at hl 5 rfl)) ?_
              refine jJ_of2 (fun H locs => jn_icmp_ge (tgt := 123) hx hb dX6_takeNumber_94 (by decide) (by omega) (by omega)) (fun c94 => ?_) (fun c94 => ?_)
              · refine jJ_of (fun H locs => lv_iload hx hb dX6_takeNumber_123 (lv_at hl 3 rfl)) ?_
                refine jJ_ofL (fun H locs => lv_istore (lv' := [(7, .int (nI (nS T s0))), (6, .int (nI vv1)), (5, .int (nI (nE T s0))), (4, .int (nI (nS T s0))), (3, .int (nI 1)), (2, .int (nI (pd T s0))), (0, .ref h), (1, .int (nI s0))]) hx hb dX6_takeNumber_125 hl (by decide) rfl) (fun ls hl => ?_)
                have hv1 : vv1 = nvF T (pd T s0) 7 s0 0 := by rw [← hcl]; show _ = (if _ then _ else _); rw [if_pos (by omega)]
                suffices lp2 : ∀ (d2 i2 vv2 : Nat), nS T s0 + 3 - i2 < d2 → nS T s0 ≤ i2 → i2 < 100000 → nwF T (nE T s0) (nS T s0 + 3) d2 i2 vv2 = nV T s0 → ∀ ls, lv_has ls 8 [(7, .int (nI i2)), (6, .int (nI vv2)), (5, .int (nI (nE T s0))), (4, .int (nI (nS T s0))), (3, .int (nI 1)), (0, .ref h), (1, .int (nI s0))] → jJ p l e _ s m args below meth c D A0 [jF [[(h, .inr (5, [.ref hT, .ref (a1 0), .ref (a1 1), .ref (a1 2), .int (nI (nE T s0))]))], wT1, v1 0, v1 1, v1 2]] 0 0 (jEnd below D A0 _ args s _ _) (F0 m 127 ls []) from lp2 4 (nS T s0) vv1 (by omega) (by omega) (by omega) (by rw [hv1]; rfl) ls (lv_sub hl [0, 1, 2, 3, 4, 6, 7] rfl)
                intro d2
                induction d2 with
                | zero => intro i2 vv2 h8; exact absurd h8 (Nat.not_lt_zero _)
                | succ d2 ih2 =>
                  intro i2 vv2 h8 hi2 hi8 hcl2 ls hl
                  have hdg2 : i2 < nE T s0 → 48 ≤ T.getD i2 0 := fun q => (isDg_b (nS_dg hi2 q)).1
                  have hgb2 := hLn.2.2.2.2.2.1 i2
                  refine jJ_of (fun H locs => lv_iload hx hb dX6_takeNumber_127 (lv_at hl 0 rfl)) ?_
                  refine jJ_of (fun H locs => lv_iload hx hb dX6_takeNumber_129 (lv_at hl 3 rfl)) ?_
                  refine jJ_of (fun H locs => lv_iconst (v := (nI 3)) hx hb dX6_takeNumber_131 (by decide)) ?_
                  refine jJ_of (fun H locs => jn_iadd hx hb dX6_takeNumber_132) ?_
                  refine jJ_of2 (fun H locs => jn_icmp_ge (tgt := 173) hx hb dX6_takeNumber_133 (by decide) (by omega) (by omega)) (fun c133 => ?_) (fun c133 => ?_)
                  · have hv2 : vv2 = nV T s0 := by rw [← hcl2]; show _ = (if _ then _ else _); rw [if_pos (by omega)]
                    refine jJ_of (fun H locs => lv_aload_n hx hb dX6_takeNumber_173 rfl (lv_at hl 5 rfl)) ?_
                    refine jJ_of (fun H locs => lv_iload_n hx hb dX6_takeNumber_174 rfl (lv_at hl 4 rfl)) ?_
                    refine jJ_of2 (fun H locs => jn_if_eq (tgt := 184) hx hb dX6_takeNumber_175 (by decide) (by omega)) (fun c175 => ?_) (fun c175 => ?_)
                    · omega
                    · refine jJ_of (fun H locs => lv_sipush (v := (nI 257)) hx hb dX6_takeNumber_178 (by decide)) ?_
                      refine jJ_of (fun H locs => lv_goto (tgt := 187) hx hb dX6_takeNumber_181 (by decide)) ?_
                      refine jJ_of (fun H locs => lv_iload_n hx hb dX6_takeNumber_187 rfl (lv_at hl 6 rfl)) ?_
                      refine jJ_of (fun H locs => lv_iload hx hb dX6_takeNumber_188 (lv_at hl 1 rfl)) ?_
                      refine jJ_callV (As := [.int (nI 257), .int (nI s0), .int (nI vv2)]) (rest := []) (wc := _) (cs2 := []) (C := RX6) (T := TX6) (N := 5) (ci := 5) [0] [] ⟨hx, hb, hml, hown, hts⟩ hK hA hAm (c_Tok_add hwa17 257 s0 vv2 (by omega) (by omega) (by omega) (by omega)) (cwV 3 hts gX6_takeNumber_X6_add rfl rfl rfl (by decide +kernel) ⟨Nat.le_of_ble_eq_true rfl, Nat.le_of_ble_eq_true rfl⟩) (nn := 1) rfl (by decide) rfl rfl hwa17.hd rfl rfl rfl hl.1 (Nat.le_of_ble_eq_true rfl) dX6_takeNumber_190 (by show _ + 3 ≤ 3; omega) (by show _ + 96000 ≤ 96000; omega) (fun v u18 k18 n18 hq18 => ?_)
                      obtain ⟨rfl, P218, hu18, hk18, hn18, hkk18, hnn18⟩ := hq18
                      have hLu18 := hu18.len
                      refine jJ_eq (g2 := F0 m 193 ls []) (cs2 := [u18]) rfl rfl ?_
                      exact jJ_vret hx hb hr hlocks dX6_takeNumber_193 (by show _ ≤ 3; omega) (by show _ ≤ 96000; omega) ⟨rfl, _, by rw [show nK T s0 = 257 from (if_neg hnum).trans (if_pos hpt), show nW T s0 = vv2 from (if_neg hnum).trans hv2.symm]; exact hu18, by omega, by omega, by omega, by omega⟩
                  · refine jJ_of (fun H locs => lv_iload hx hb dX6_takeNumber_136 (lv_at hl 1 rfl)) ?_
                    refine jJ_of (fun H locs => lv_bipush (v := (nI 10)) hx hb dX6_takeNumber_138 (by decide)) ?_
                    refine jJ_of (fun H locs => jn_imul hx hb dX6_takeNumber_140) ?_
                    refine jJ_of (fun H locs => lv_iload hx hb dX6_takeNumber_141 (lv_at hl 0 rfl)) ?_
                    refine jJ_of (fun H locs => lv_iload hx hb dX6_takeNumber_143 (lv_at hl 2 rfl)) ?_
                    refine jJ_of2 (fun H locs => jn_icmp_ge (tgt := 163) hx hb dX6_takeNumber_145 (by decide) (by omega) (by omega)) (fun c145 => ?_) (fun c145 => ?_)
                    · refine jJ_of (fun H locs => lv_iconst (v := (nI 0)) hx hb dX6_takeNumber_163 (by decide)) ?_
                      refine jJ_of (fun H locs => jn_iadd hx hb dX6_takeNumber_164) ?_
                      refine jJ_ofL (fun H locs => lv_istore (lv' := [(6, .int (nI ((vv2 * 10) + 0))), (7, .int (nI i2)), (5, .int (nI (nE T s0))), (4, .int (nI (nS T s0))), (3, .int (nI 1)), (0, .ref h), (1, .int (nI s0))]) hx hb dX6_takeNumber_165 hl (by decide) rfl) (fun ls hl => ?_)
                      refine jJ_ofL (fun H locs => lv_iinc (v := (nI (i2 + 1))) (lv' := [(7, .int (nI (i2 + 1))), (6, .int (nI ((vv2 * 10) + 0))), (5, .int (nI (nE T s0))), (4, .int (nI (nS T s0))), (3, .int (nI 1)), (0, .ref h), (1, .int (nI s0))]) hx hb dX6_takeNumber_167 hl (k := 1) rfl (nI_add _ _) (by decide) rfl) (fun ls hl => ?_)
                      refine jJ_of (fun H locs => lv_goto (tgt := 127) hx hb dX6_takeNumber_170 (by decide)) ?_
                      exact ih2 (i2 + 1) _ (by omega) (by omega) (by omega) (by rw [← hcl2]; show _ = (if _ then _ else _); rw [if_neg (by omega), if_neg (by omega)]) ls (lv_sub hl [0, 1, 2, 3, 4, 5, 6] rfl)
                    · refine jJ_of (fun H locs => lv_aload_n hx hb dX6_takeNumber_148 rfl (lv_at hl 5 rfl)) ?_
                      refine jJ_open (xs := [[(h, .inr (5, [.ref hT, .ref (a1 0), .ref (a1 1), .ref (a1 2), .int (nI (nE T s0))]))], wT1, v1 0, v1 1, v1 2]) (r := []) (cs2 := [[(h, .inr (5, [.ref hT, .ref (a1 0), .ref (a1 1), .ref (a1 2), .int (nI (nE T s0))]))], wT1, v1 0, v1 1, v1 2]) rfl ?_
                      refine jJ_get hx hb (C := RX6) (T := TX6) (N := 5) hts uX6_in_X6_takeNumber hown hK 0 rfl rfl 0 (by decide) (hts (.fieldLink RX6 24 "ValueBlocks$Tokens" "text" "LValueBlocks$Row;") (by decide +kernel)) (fun _ h9 => h9) rfl dX6_takeNumber_149 ?_
                      refine jJ_of (fun H locs => lv_iload hx hb dX6_takeNumber_152 (lv_at hl 0 rfl)) ?_
                      refine jJ_callV (As := [.int (nI i2)]) (rest := [.int (nI (vv2 * 10))]) (wc := _) (cs2 := [[(h, .inr (5, [.ref hT, .ref (a1 0), .ref (a1 1), .ref (a1 2), .int (nI (nE T s0))]))], v1 0, v1 1, v1 2]) (C := RX5) (T := TX5) (N := 3) (ci := 4) [1] [0, 2, 3, 4] ⟨hx, hb, hml, hown, hts⟩ hK hA hAm (c_Row_get hrT1 i2 (by omega)) (cwV 1 hts gX6_takeNumber_X5_get rfl rfl rfl (by decide +kernel) ⟨Nat.le_of_ble_eq_true rfl, Nat.le_of_ble_eq_true rfl⟩) (nn := 5) rfl (by decide) rfl rfl hrT1.hd rfl rfl rfl hl.1 (Nat.le_of_ble_eq_true rfl) dX6_takeNumber_154 (by show _ + 0 ≤ 3; omega) (by show _ + 0 ≤ 96000; omega) (fun v u19 k19 n19 hq19 => ?_)
                      obtain ⟨rfl, hw19, rfl, rfl⟩ := hq19
                      rw [hw19]
                      rw [jget_n]
                      refine jJ_eq (g2 := F0 m 157 ls [.int (nI (T.getD i2 0)), .int (nI (vv2 * 10))]) (cs2 := [wT1, [(h, .inr (5, [.ref hT, .ref (a1 0), .ref (a1 1), .ref (a1 2), .int (nI (nE T s0))]))], v1 0, v1 1, v1 2]) rfl rfl ?_
                      refine jJ_of (fun H locs => lv_bipush (v := (nI 48)) hx hb dX6_takeNumber_157 (by decide)) ?_
                      refine jJ_of (fun H locs => jn_isub hx hb dX6_takeNumber_159 (by omega)) ?_
                      refine jJ_of (fun H locs => lv_goto (tgt := 164) hx hb dX6_takeNumber_160 (by decide)) ?_
                      refine jJ_of (fun H locs => jn_iadd hx hb dX6_takeNumber_164) ?_
                      refine jJ_ofL (fun H locs => lv_istore (lv' := [(6, .int (nI ((vv2 * 10) + ((T.getD i2 0) - 48)))), (7, .int (nI i2)), (5, .int (nI (nE T s0))), (4, .int (nI (nS T s0))), (3, .int (nI 1)), (0, .ref h), (1, .int (nI s0))]) hx hb dX6_takeNumber_165 hl (by decide) rfl) (fun ls hl => ?_)
                      refine jJ_ofL (fun H locs => lv_iinc (v := (nI (i2 + 1))) (lv' := [(7, .int (nI (i2 + 1))), (6, .int (nI ((vv2 * 10) + ((T.getD i2 0) - 48)))), (5, .int (nI (nE T s0))), (4, .int (nI (nS T s0))), (3, .int (nI 1)), (0, .ref h), (1, .int (nI s0))]) hx hb dX6_takeNumber_167 hl (k := 1) rfl (nI_add _ _) (by decide) rfl) (fun ls hl => ?_)
                      refine jJ_of (fun H locs => lv_goto (tgt := 127) hx hb dX6_takeNumber_170 (by decide)) ?_
                      refine jJ_perm [1, 0, 2, 3, 4] (nn := 5) rfl (by decide) (cs2 := [[(h, .inr (5, [.ref hT, .ref (a1 0), .ref (a1 1), .ref (a1 2), .int (nI (nE T s0))]))], wT1, v1 0, v1 1, v1 2]) rfl ?_
                      have hwa20 : jTok cI h hT P T tk (nE T s0) (jF [[(h, .inr (5, [.ref hT, .ref (a1 0), .ref (a1 1), .ref (a1 2), .int (nI (nE T s0))]))], wT1, v1 0, v1 1, v1 2]) := ⟨a1, q1, v1, qT1, wT1, rfl, hrT1, hr1, hP1, hB1, by omega, hl11, hl21, hvb1⟩
                      refine jJ_flat (cs2 := [jF [[(h, .inr (5, [.ref hT, .ref (a1 0), .ref (a1 1), .ref (a1 2), .int (nI (nE T s0))]))], wT1, v1 0, v1 1, v1 2]]) rfl ?_
                      exact ih2 (i2 + 1) _ (by omega) (by omega) (by omega) (by rw [← hcl2]; show _ = (if _ then _ else _); rw [if_neg (by omega), if_pos (by omega)]) ls (lv_sub hl [0, 1, 2, 3, 4, 5, 6] rfl)
              · refine jJ_of (fun H locs => lv_iload hx hb dX6_takeNumber_97 (lv_at hl 1 rfl)) ?_
                refine jJ_of (fun H locs => lv_bipush (v := (nI 10)) hx hb dX6_takeNumber_99 (by decide)) ?_
                refine jJ_of (fun H locs => jn_imul hx hb dX6_takeNumber_101) ?_
                refine jJ_of (fun H locs => lv_aload_n hx hb dX6_takeNumber_102 rfl (lv_at hl 6 rfl)) ?_
                refine jJ_open (xs := [[(h, .inr (5, [.ref hT, .ref (a1 0), .ref (a1 1), .ref (a1 2), .int (nI (nE T s0))]))], wT1, v1 0, v1 1, v1 2]) (r := []) (cs2 := [[(h, .inr (5, [.ref hT, .ref (a1 0), .ref (a1 1), .ref (a1 2), .int (nI (nE T s0))]))], wT1, v1 0, v1 1, v1 2]) rfl ?_
                refine jJ_get hx hb (C := RX6) (T := TX6) (N := 5) hts uX6_in_X6_takeNumber hown hK 0 rfl rfl 0 (by decide) (hts (.fieldLink RX6 24 "ValueBlocks$Tokens" "text" "LValueBlocks$Row;") (by decide +kernel)) (fun _ h9 => h9) rfl dX6_takeNumber_103 ?_
                refine jJ_of (fun H locs => lv_iload hx hb dX6_takeNumber_106 (lv_at hl 0 rfl)) ?_
                refine jJ_callV (As := [.int (nI i)]) (rest := [.int (nI (vv1 * 10))]) (wc := _) (cs2 := [[(h, .inr (5, [.ref hT, .ref (a1 0), .ref (a1 1), .ref (a1 2), .int (nI (nE T s0))]))], v1 0, v1 1, v1 2]) (C := RX5) (T := TX5) (N := 3) (ci := 4) [1] [0, 2, 3, 4] ⟨hx, hb, hml, hown, hts⟩ hK hA hAm (c_Row_get hrT1 i (by omega)) (cwV 1 hts gX6_takeNumber_X5_get rfl rfl rfl (by decide +kernel) ⟨Nat.le_of_ble_eq_true rfl, Nat.le_of_ble_eq_true rfl⟩) (nn := 5) rfl (by decide) rfl rfl hrT1.hd rfl rfl rfl hl.1 (Nat.le_of_ble_eq_true rfl) dX6_takeNumber_108 (by show _ + 0 ≤ 3; omega) (by show _ + 0 ≤ 96000; omega) (fun v u21 k21 n21 hq21 => ?_)
                obtain ⟨rfl, hw21, rfl, rfl⟩ := hq21
                rw [hw21]
                rw [jget_n]
                refine jJ_eq (g2 := F0 m 111 ls [.int (nI (T.getD i 0)), .int (nI (vv1 * 10))]) (cs2 := [wT1, [(h, .inr (5, [.ref hT, .ref (a1 0), .ref (a1 1), .ref (a1 2), .int (nI (nE T s0))]))], v1 0, v1 1, v1 2]) rfl rfl ?_
                refine jJ_of (fun H locs => jn_iadd hx hb dX6_takeNumber_111) ?_
                refine jJ_of (fun H locs => lv_bipush (v := (nI 48)) hx hb dX6_takeNumber_112 (by decide)) ?_
                refine jJ_of (fun H locs => jn_isub hx hb dX6_takeNumber_114 (by omega)) ?_
                refine jJ_ofL (fun H locs => lv_istore (lv' := [(6, .int (nI (((vv1 * 10) + (T.getD i 0)) - 48))), (7, .int (nI i)), (5, .int (nI (nE T s0))), (4, .int (nI (nS T s0))), (3, .int (nI 1)), (2, .int (nI (pd T s0))), (0, .ref h), (1, .int (nI s0))]) hx hb dX6_takeNumber_115 hl (by decide) rfl) (fun ls hl => ?_)
                refine jJ_ofL (fun H locs => lv_iinc (v := (nI (i + 1))) (lv' := [(7, .int (nI (i + 1))), (6, .int (nI (((vv1 * 10) + (T.getD i 0)) - 48))), (5, .int (nI (nE T s0))), (4, .int (nI (nS T s0))), (3, .int (nI 1)), (2, .int (nI (pd T s0))), (0, .ref h), (1, .int (nI s0))]) hx hb dX6_takeNumber_117 hl (k := 1) rfl (nI_add _ _) (by decide) rfl) (fun ls hl => ?_)
                refine jJ_of (fun H locs => lv_goto (tgt := 91) hx hb dX6_takeNumber_120 (by decide)) ?_
                refine jJ_perm [1, 0, 2, 3, 4] (nn := 5) rfl (by decide) (cs2 := [[(h, .inr (5, [.ref hT, .ref (a1 0), .ref (a1 1), .ref (a1 2), .int (nI (nE T s0))]))], wT1, v1 0, v1 1, v1 2]) rfl ?_
                have hwa22 : jTok cI h hT P T tk (nE T s0) (jF [[(h, .inr (5, [.ref hT, .ref (a1 0), .ref (a1 1), .ref (a1 2), .int (nI (nE T s0))]))], wT1, v1 0, v1 1, v1 2]) := ⟨a1, q1, v1, qT1, wT1, rfl, hrT1, hr1, hP1, hB1, by omega, hl11, hl21, hvb1⟩
                refine jJ_flat (cs2 := [jF [[(h, .inr (5, [.ref hT, .ref (a1 0), .ref (a1 1), .ref (a1 2), .int (nI (nE T s0))]))], wT1, v1 0, v1 1, v1 2]]) rfl ?_
                exact ih (i + 1) _ (by omega) (by omega) (by omega) (by rw [← hcl]; show _ = (if _ then _ else _); rw [if_neg (by omega)]) ls (lv_sub hl [0, 1, 2, 3, 4, 5, 6, 7] rfl)
          · refine jJ_of (fun H locs => lv_aload_n hx hb dX6_takeNumber_77 rfl (lv_at hl 4 rfl)) ?_
            refine jJ_of (fun H locs => lv_iconst (v := (nI 0)) hx hb dX6_takeNumber_78 (by decide)) ?_
            refine jJ_of (fun H locs => lv_iload_n hx hb dX6_takeNumber_79 rfl (lv_at hl 5 rfl)) ?_
            refine jJ_of (fun H locs => lv_iconst (v := (nI 0)) hx hb dX6_takeNumber_80 (by decide)) ?_
            have hwa23 : jTok cI h hT P T tk (nE T s0) (jF [[(h, .inr (5, [.ref hT, .ref (a1 0), .ref (a1 1), .ref (a1 2), .int (nI (nE T s0))]))], wT1, v1 0, v1 1, v1 2]) := ⟨a1, q1, v1, qT1, wT1, rfl, hrT1, hr1, hP1, hB1, by omega, hl11, hl21, hvb1⟩
            refine jJ_flat (cs2 := [jF [[(h, .inr (5, [.ref hT, .ref (a1 0), .ref (a1 1), .ref (a1 2), .int (nI (nE T s0))]))], wT1, v1 0, v1 1, v1 2]]) rfl ?_
            refine jJ_callV (As := [.int (nI 0), .int (nI s0), .int (nI 0)]) (rest := []) (wc := _) (cs2 := []) (C := RX6) (T := TX6) (N := 5) (ci := 5) [0] [] ⟨hx, hb, hml, hown, hts⟩ hK hA hAm (c_Tok_add hwa23 0 s0 0 (by omega) (by omega) (by omega) (by omega)) (cwV 3 hts gX6_takeNumber_X6_add rfl rfl rfl (by decide +kernel) ⟨Nat.le_of_ble_eq_true rfl, Nat.le_of_ble_eq_true rfl⟩) (nn := 1) rfl (by decide) rfl rfl hwa23.hd rfl rfl rfl hl.1 (Nat.le_of_ble_eq_true rfl) dX6_takeNumber_81 (by show _ + 3 ≤ 3; omega) (by show _ + 96000 ≤ 96000; omega) (fun v u24 k24 n24 hq24 => ?_)
            obtain ⟨rfl, P224, hu24, hk24, hn24, hkk24, hnn24⟩ := hq24
            have hLu24 := hu24.len
            refine jJ_eq (g2 := F0 m 84 ls []) (cs2 := [u24]) rfl rfl ?_
            exact jJ_vret hx hb hr hlocks dX6_takeNumber_84 (by show _ ≤ 3; omega) (by show _ ≤ 96000; omega) ⟨rfl, _, by rw [show nK T s0 = 0 from if_pos (by omega), show nW T s0 = 0 from if_pos (by omega)]; exact hu24, by omega, by omega, by omega, by omega⟩

theorem tkTok_end {cI : ClassId} {h hT P nx : Nat} {T : List Nat} {tk : Nat → List Nat} {w : va_W} (hc : 8000 ≤ pb T nx ∨ T.length ≤ pb T nx) (hw : jTok cI h hT P T (tkEnd T tk) (pb T nx + 1) w) : jTok cI h hT P T (tkAdd tk (tkTok T nx).1 (tkTok T nx).2.1 (tkTok T nx).2.2.1) (tkTok T nx).2.2.2 w := by
  unfold tkTok
  rw [if_pos hc]
  by_cases q : 8000 < T.length
  · rw [if_pos q]
    rw [show tkEnd T tk = tkAdd tk 0 8000 0 from if_pos q] at hw
    exact hw
  · rw [if_neg q]
    rw [show tkEnd T tk = tkAdd tk 10 T.length 0 from if_neg q] at hw
    exact hw
theorem tkTok_word {cI : ClassId} {h hT P nx c s : Nat} {T : List Nat} {tk : Nat → List Nat} {w : va_W} (he : tkTok T nx = (if (twF T s 20 0).1 = 0 then (c, s, 0, s + 1) else ((twF T s 20 0).1, s, 0, s + (twF T s 20 0).2))) (hw : jTok cI h hT P T (if (twF T s 20 0).1 = 0 then tkAdd tk c s 0 else tkAdd tk (twF T s 20 0).1 s 0) (if (twF T s 20 0).1 = 0 then s + 1 else s + (twF T s 20 0).2) w) : jTok cI h hT P T (tkAdd tk (tkTok T nx).1 (tkTok T nx).2.1 (tkTok T nx).2.2.1) (tkTok T nx).2.2.2 w := by
  rw [he]
  by_cases q : (twF T s 20 0).1 = 0
  · rw [if_pos q]
    rw [if_pos q, if_pos q] at hw
    exact hw
  · rw [if_neg q]
    rw [if_neg q, if_neg q] at hw
    exact hw

theorem uX6_in_X6_takeToken : ∀ w ∈ u_ws RX6 TX6 5, w ∈ wsX6_takeToken := by decide +kernel
set_option maxHeartbeats 4000000 in
set_option maxRecDepth 100000 in
/-- takeToken() -/
theorem c_Tok_token {h hT P nx : Nat} {T : List Nat} {tk : Nat → List Nat} {w : va_W} (hw : jTok cI h hT P T tk nx w) (hnx0 : nx ≤ T.length) (hlt0 : (tk 0).length < 8002) : HM l yX6_takeToken wsX6_takeToken ({ frames := 6, cells := 3, slots := 96000, locals := 300 } : Room) D G (jT cI cJ cB cZ) [.ref h] w (fun v u k n => v = none ∧ ∃ P2 : Nat, jTok cI h hT P2 T (tkAdd tk (tkTok T nx).1 (tkTok T nx).2.1 (tkTok T nx).2.2.1) (tkTok T nx).2.2.2 u ∧ k + P ≤ P2 ∧ n + 128 * P ≤ 128 * P2 ∧ k ≤ 3 ∧ n ≤ 96000) := by
  refine HM_of (cc := cX6_takeToken) (maxL := 3) (ret := none) (lv := [(0, .ref h)]) (by decide) rfl rfl (Nat.le_of_ble_eq_true rfl) (fun p e s m args below meth c A0 ls hx hb hr hts hown hlocks hml hnm hK hA hAm hl => ?_)
  have hLn := hw.len
  have hlt := hlt0
  have hpbb := pbF_b T (T.length + 1) nx
  have hpbd : pb T nx = pbF T (T.length + 1) nx := rfl
  have hgb := hLn.2.2.2.2.2.1 (pb T nx)
  have hzero : T.length ≤ pb T nx → T.getD (pb T nx) 0 = 0 := fun q => by rw [List.getD_eq_getElem?_getD, List.getElem?_eq_none q]; rfl
  have hsv1 := hw
  obtain ⟨a1, q1, v1, qT1, wT1, rfl, hrT1, hr1, hP1, hB1, hnx1, hl11, hl21, hvb1⟩ := hsv1
  refine jJ_open (xs := jTkW h hT a1 nx wT1 v1) (r := []) (cs2 := [[(h, .inr (5, [.ref hT, .ref (a1 0), .ref (a1 1), .ref (a1 2), .int (nI nx)]))], wT1, v1 0, v1 1, v1 2]) rfl ?_
  refine jJ_of (fun H locs => lv_aload_n hx hb dX6_takeToken_0 rfl (lv_at hl 0 rfl)) ?_
  refine jJ_of (fun H locs => lv_aload_n hx hb dX6_takeToken_1 rfl (lv_at hl 0 rfl)) ?_
  refine jJ_get hx hb (C := RX6) (T := TX6) (N := 5) hts uX6_in_X6_takeToken hown hK 0 rfl rfl 4 (by decide) (hts (.fieldLink RX6 38 "ValueBlocks$Tokens" "next" "I") (by decide +kernel)) (fun _ h9 => h9) rfl dX6_takeToken_2 ?_
  refine jJ_flat (cs2 := [jF [[(h, .inr (5, [.ref hT, .ref (a1 0), .ref (a1 1), .ref (a1 2), .int (nI nx)]))], wT1, v1 0, v1 1, v1 2]]) rfl ?_
  refine jJ_callV (As := [.int (nI nx)]) (rest := []) (wc := _) (cs2 := []) (C := RX6) (T := TX6) (N := 5) (ci := 5) [0] [] ⟨hx, hb, hml, hown, hts⟩ hK hA hAm (c_Tok_pastBlanks hw nx (by omega)) (cwV 1 hts gX6_takeToken_X6_pastBlanks rfl rfl rfl (by decide +kernel) ⟨Nat.le_of_ble_eq_true rfl, Nat.le_of_ble_eq_true rfl⟩) (nn := 1) rfl (by decide) rfl rfl hw.hd rfl rfl rfl hl.1 (Nat.le_of_ble_eq_true rfl) dX6_takeToken_5 (by show _ + 0 ≤ 3; omega) (by show _ + 0 ≤ 96000; omega) (fun v u2 k2 n2 hq2 => ?_)
  obtain ⟨rfl, hw2, rfl, rfl⟩ := hq2
  rw [hw2]
  refine jJ_eq (g2 := F0 m 8 ls [.int (nI (pb T nx))]) (cs2 := [jF [[(h, .inr (5, [.ref hT, .ref (a1 0), .ref (a1 1), .ref (a1 2), .int (nI nx)]))], wT1, v1 0, v1 1, v1 2]]) rfl rfl ?_
  refine jJ_ofL (fun H locs => lv_istore_n (lv' := [(1, .int (nI (pb T nx))), (0, .ref h)]) hx hb dX6_takeToken_8 rfl hl (by decide) rfl) (fun ls hl => ?_)
  refine jJ_of (fun H locs => lv_aload_n hx hb dX6_takeToken_9 rfl (lv_at hl 1 rfl)) ?_
  refine jJ_open (xs := [[(h, .inr (5, [.ref hT, .ref (a1 0), .ref (a1 1), .ref (a1 2), .int (nI nx)]))], wT1, v1 0, v1 1, v1 2]) (r := []) (cs2 := [[(h, .inr (5, [.ref hT, .ref (a1 0), .ref (a1 1), .ref (a1 2), .int (nI nx)]))], wT1, v1 0, v1 1, v1 2]) rfl ?_
  refine jJ_get hx hb (C := RX6) (T := TX6) (N := 5) hts uX6_in_X6_takeToken hown hK 0 rfl rfl 0 (by decide) (hts (.fieldLink RX6 24 "ValueBlocks$Tokens" "text" "LValueBlocks$Row;") (by decide +kernel)) (fun _ h9 => h9) rfl dX6_takeToken_10 ?_
  refine jJ_of (fun H locs => lv_iload_n hx hb dX6_takeToken_13 rfl (lv_at hl 0 rfl)) ?_
  refine jJ_callV (As := [.int (nI (pb T nx))]) (rest := []) (wc := _) (cs2 := [[(h, .inr (5, [.ref hT, .ref (a1 0), .ref (a1 1), .ref (a1 2), .int (nI nx)]))], v1 0, v1 1, v1 2]) (C := RX5) (T := TX5) (N := 3) (ci := 4) [1] [0, 2, 3, 4] ⟨hx, hb, hml, hown, hts⟩ hK hA hAm (c_Row_get hrT1 (pb T nx) (by omega)) (cwV 1 hts gX6_takeToken_X5_get rfl rfl rfl (by decide +kernel) ⟨Nat.le_of_ble_eq_true rfl, Nat.le_of_ble_eq_true rfl⟩) (nn := 5) rfl (by decide) rfl rfl hrT1.hd rfl rfl rfl hl.1 (Nat.le_of_ble_eq_true rfl) dX6_takeToken_14 (by show _ + 0 ≤ 3; omega) (by show _ + 0 ≤ 96000; omega) (fun v u3 k3 n3 hq3 => ?_)
  obtain ⟨rfl, hw3, rfl, rfl⟩ := hq3
  rw [hw3]
  rw [jget_n]
  refine jJ_eq (g2 := F0 m 17 ls [.int (nI (T.getD (pb T nx) 0))]) (cs2 := [wT1, [(h, .inr (5, [.ref hT, .ref (a1 0), .ref (a1 1), .ref (a1 2), .int (nI nx)]))], v1 0, v1 1, v1 2]) rfl rfl ?_
  refine jJ_ofL (fun H locs => lv_istore_n (lv' := [(2, .int (nI (T.getD (pb T nx) 0))), (1, .int (nI (pb T nx))), (0, .ref h)]) hx hb dX6_takeToken_17 rfl hl (by decide) rfl) (fun ls hl => ?_)
  refine jJ_of (fun H locs => lv_aload_n hx hb dX6_takeToken_18 rfl (lv_at hl 2 rfl)) ?_
  refine jJ_of (fun H locs => lv_iload_n hx hb dX6_takeToken_19 rfl (lv_at hl 1 rfl)) ?_
  refine jJ_of (fun H locs => lv_iconst (v := (nI 1)) hx hb dX6_takeToken_20 (by decide)) ?_
  refine jJ_of (fun H locs => jn_iadd hx hb dX6_takeToken_21) ?_
  refine jJ_put hx hb (C := RX6) (T := TX6) (N := 5) (ty := .int) (v := .int (nI ((pb T nx) + 1))) hts uX6_in_X6_takeToken tyX6 tyX6_ok nmX6 hown hK 1 rfl rfl 4 (by decide) (hts (.fieldLink RX6 38 "ValueBlocks$Tokens" "next" "I") (by decide +kernel)) (fun _ h9 => h9) rfl (by decide +kernel) rfl rfl (Nat.le_of_ble_eq_true rfl) dX6_takeToken_22 (cs2 := [wT1, [(h, .inr (5, [.ref hT, .ref (a1 0), .ref (a1 1), .ref (a1 2), .int (nI ((pb T nx) + 1))]))], v1 0, v1 1, v1 2]) rfl ?_
  refine jJ_of (fun H locs => lv_iload_n hx hb dX6_takeToken_25 rfl (lv_at hl 1 rfl)) ?_
  refine jJ_of (fun H locs => lv_sipush (v := (nI 8000)) hx hb dX6_takeToken_26 (by decide)) ?_
  refine jJ_of2 (fun H locs => jn_icmp_ge (tgt := 43) hx hb dX6_takeToken_29 (by decide) (by omega) (by omega)) (fun c29 => ?_) (fun c29 => ?_)
  · refine jJ_of (fun H locs => lv_aload_n hx hb dX6_takeToken_43 rfl (lv_at hl 2 rfl)) ?_
    refine jJ_perm [1, 0, 2, 3, 4] (nn := 5) rfl (by decide) (cs2 := [[(h, .inr (5, [.ref hT, .ref (a1 0), .ref (a1 1), .ref (a1 2), .int (nI ((pb T nx) + 1))]))], wT1, v1 0, v1 1, v1 2]) rfl ?_
    have hwa4 : jTok cI h hT P T tk ((pb T nx) + 1) (jF [[(h, .inr (5, [.ref hT, .ref (a1 0), .ref (a1 1), .ref (a1 2), .int (nI ((pb T nx) + 1))]))], wT1, v1 0, v1 1, v1 2]) := ⟨a1, q1, v1, qT1, wT1, rfl, hrT1, hr1, hP1, hB1, by omega, hl11, hl21, hvb1⟩
    refine jJ_flat (cs2 := [jF [[(h, .inr (5, [.ref hT, .ref (a1 0), .ref (a1 1), .ref (a1 2), .int (nI ((pb T nx) + 1))]))], wT1, v1 0, v1 1, v1 2]]) rfl ?_
    refine jJ_callV (As := []) (rest := []) (wc := _) (cs2 := []) (C := RX6) (T := TX6) (N := 5) (ci := 5) [0] [] ⟨hx, hb, hml, hown, hts⟩ hK hA hAm (c_Tok_addEnd hwa4 (by omega)) (cwV 0 hts gX6_takeToken_X6_addEnd rfl rfl rfl (by decide +kernel) ⟨Nat.le_of_ble_eq_true rfl, Nat.le_of_ble_eq_true rfl⟩) (nn := 1) rfl (by decide) rfl rfl hwa4.hd rfl rfl rfl hl.1 (Nat.le_of_ble_eq_true rfl) dX6_takeToken_44 (by show _ + 3 ≤ 3; omega) (by show _ + 96000 ≤ 96000; omega) (fun v u5 k5 n5 hq5 => ?_)
    obtain ⟨rfl, P25, hu5, hk5, hn5, hkk5, hnn5⟩ := hq5
    have hLu5 := hu5.len
    refine jJ_eq (g2 := F0 m 47 ls []) (cs2 := [u5]) rfl rfl ?_
    refine jJ_of (fun H locs => lv_goto (tgt := 104) hx hb dX6_takeToken_47 (by decide)) ?_
    have hcase : 8000 ≤ pb T nx ∨ T.length ≤ pb T nx := by omega
    exact jJ_vret hx hb hr hlocks dX6_takeToken_104 (by show _ ≤ 3; omega) (by show _ ≤ 96000; omega) ⟨rfl, _, tkTok_end hcase hu5, by omega, by omega, by omega, by omega⟩
  · refine jJ_of (fun H locs => lv_iload_n hx hb dX6_takeToken_32 rfl (lv_at hl 1 rfl)) ?_
    refine jJ_of (fun H locs => lv_aload_n hx hb dX6_takeToken_33 rfl (lv_at hl 2 rfl)) ?_
    refine jJ_get hx hb (C := RX6) (T := TX6) (N := 5) hts uX6_in_X6_takeToken hown hK 1 rfl rfl 0 (by decide) (hts (.fieldLink RX6 24 "ValueBlocks$Tokens" "text" "LValueBlocks$Row;") (by decide +kernel)) (fun _ h9 => h9) rfl dX6_takeToken_34 ?_
    refine jJ_callV (As := []) (rest := [.int (nI (pb T nx))]) (wc := _) (cs2 := [[(h, .inr (5, [.ref hT, .ref (a1 0), .ref (a1 1), .ref (a1 2), .int (nI ((pb T nx) + 1))]))], v1 0, v1 1, v1 2]) (C := RX5) (T := TX5) (N := 3) (ci := 4) [0] [1, 2, 3, 4] ⟨hx, hb, hml, hown, hts⟩ hK hA hAm (c_Row_size hrT1) (cwV 0 hts gX6_takeToken_X5_size rfl rfl rfl (by decide +kernel) ⟨Nat.le_of_ble_eq_true rfl, Nat.le_of_ble_eq_true rfl⟩) (nn := 5) rfl (by decide) rfl rfl hrT1.hd rfl rfl rfl hl.1 (Nat.le_of_ble_eq_true rfl) dX6_takeToken_37 (by show _ + 0 ≤ 3; omega) (by show _ + 0 ≤ 96000; omega) (fun v u6 k6 n6 hq6 => ?_)
    obtain ⟨rfl, hw6, rfl, rfl⟩ := hq6
    rw [hw6]
    rw [List.length_map]
    refine jJ_eq (g2 := F0 m 40 ls [.int (nI T.length), .int (nI (pb T nx))]) (cs2 := [wT1, [(h, .inr (5, [.ref hT, .ref (a1 0), .ref (a1 1), .ref (a1 2), .int (nI ((pb T nx) + 1))]))], v1 0, v1 1, v1 2]) rfl rfl ?_
    refine jJ_of2 (fun H locs => jn_icmp_lt (tgt := 50) hx hb dX6_takeToken_40 (by decide) (by omega) (by omega)) (fun c40 => ?_) (fun c40 => ?_)
    · refine jJ_of (fun H locs => lv_iload_n hx hb dX6_takeToken_50 rfl (lv_at hl 0 rfl)) ?_
      refine jJ_callS (As := [.int (nI (T.getD (pb T nx) 0))]) (rest := []) (wc := _) (cs2 := [wT1, [(h, .inr (5, [.ref hT, .ref (a1 0), .ref (a1 1), .ref (a1 2), .int (nI ((pb T nx) + 1))]))], v1 0, v1 1, v1 2]) [] [0, 1, 2, 3, 4] ⟨hx, hb, hml, hown, hts⟩ hK hA hAm (c_isDigit (T.getD (pb T nx) 0) (by omega)) (va_cwS 1 hts gX6_takeToken_X6_isDigit rfl rfl rfl (by decide +kernel) ⟨Nat.le_of_ble_eq_true rfl, Nat.le_of_ble_eq_true rfl⟩) (nn := 5) rfl (by decide) rfl rfl rfl rfl hl.1 (Nat.le_of_ble_eq_true rfl) dX6_takeToken_51 (by show _ + 0 ≤ 3; omega) (by show _ + 0 ≤ 96000; omega) (fun v u7 k7 n7 hq7 => ?_)
      obtain ⟨rfl, rfl, rfl, rfl⟩ := hq7
      refine jJ_eq (g2 := F0 m 54 ls [.int (bI (isDg (T.getD (pb T nx) 0)))]) (cs2 := [([] : va_W), wT1, [(h, .inr (5, [.ref hT, .ref (a1 0), .ref (a1 1), .ref (a1 2), .int (nI ((pb T nx) + 1))]))], v1 0, v1 1, v1 2]) rfl rfl ?_
      refine jJ_flat (cs2 := [wT1, [(h, .inr (5, [.ref hT, .ref (a1 0), .ref (a1 1), .ref (a1 2), .int (nI ((pb T nx) + 1))]))], v1 0, v1 1, v1 2]) rfl ?_
      refine jJ_of2 (fun H locs => jb_if_eq (tgt := 65) hx hb dX6_takeToken_54 (by decide)) (fun c54 => ?_) (fun c54 => ?_)
      · refine jJ_of (fun H locs => lv_iload_n hx hb dX6_takeToken_65 rfl (lv_at hl 0 rfl)) ?_
        refine jJ_of (fun H locs => lv_bipush (v := (nI 65)) hx hb dX6_takeToken_66 (by decide)) ?_
        refine jJ_of2 (fun H locs => jn_icmp_lt (tgt := 86) hx hb dX6_takeToken_68 (by decide) (by omega) (by omega)) (fun c68 => ?_) (fun c68 => ?_)
        · refine jJ_of (fun H locs => lv_aload_n hx hb dX6_takeToken_86 rfl (lv_at hl 2 rfl)) ?_
          refine jJ_of (fun H locs => lv_iload_n hx hb dX6_takeToken_87 rfl (lv_at hl 0 rfl)) ?_
          refine jJ_callS (As := [.int (nI (T.getD (pb T nx) 0))]) (rest := [.ref h]) (wc := _) (cs2 := [wT1, [(h, .inr (5, [.ref hT, .ref (a1 0), .ref (a1 1), .ref (a1 2), .int (nI ((pb T nx) + 1))]))], v1 0, v1 1, v1 2]) [] [0, 1, 2, 3, 4] ⟨hx, hb, hml, hown, hts⟩ hK hA hAm (c_isSign (T.getD (pb T nx) 0) (by omega)) (va_cwS 1 hts gX6_takeToken_X6_isSign rfl rfl rfl (by decide +kernel) ⟨Nat.le_of_ble_eq_true rfl, Nat.le_of_ble_eq_true rfl⟩) (nn := 5) rfl (by decide) rfl rfl rfl rfl hl.1 (Nat.le_of_ble_eq_true rfl) dX6_takeToken_88 (by show _ + 0 ≤ 3; omega) (by show _ + 0 ≤ 96000; omega) (fun v u8 k8 n8 hq8 => ?_)
          obtain ⟨rfl, rfl, rfl, rfl⟩ := hq8
          refine jJ_eq (g2 := F0 m 91 ls [.int (bI (isSg (T.getD (pb T nx) 0))), .ref h]) (cs2 := [([] : va_W), wT1, [(h, .inr (5, [.ref hT, .ref (a1 0), .ref (a1 1), .ref (a1 2), .int (nI ((pb T nx) + 1))]))], v1 0, v1 1, v1 2]) rfl rfl ?_
          refine jJ_flat (cs2 := [wT1, [(h, .inr (5, [.ref hT, .ref (a1 0), .ref (a1 1), .ref (a1 2), .int (nI ((pb T nx) + 1))]))], v1 0, v1 1, v1 2]) rfl ?_
          refine jJ_of2 (fun H locs => jb_if_eq (tgt := 98) hx hb dX6_takeToken_91 (by decide)) (fun c91 => ?_) (fun c91 => ?_)
          · refine jJ_of (fun H locs => lv_iconst (v := (nI 0)) hx hb dX6_takeToken_98 (by decide)) ?_
            refine jJ_of (fun H locs => lv_iload_n hx hb dX6_takeToken_99 rfl (lv_at hl 1 rfl)) ?_
            refine jJ_of (fun H locs => lv_iconst (v := (nI 0)) hx hb dX6_takeToken_100 (by decide)) ?_
            refine jJ_perm [1, 0, 2, 3, 4] (nn := 5) rfl (by decide) (cs2 := [[(h, .inr (5, [.ref hT, .ref (a1 0), .ref (a1 1), .ref (a1 2), .int (nI ((pb T nx) + 1))]))], wT1, v1 0, v1 1, v1 2]) rfl ?_
            have hwa9 : jTok cI h hT P T tk ((pb T nx) + 1) (jF [[(h, .inr (5, [.ref hT, .ref (a1 0), .ref (a1 1), .ref (a1 2), .int (nI ((pb T nx) + 1))]))], wT1, v1 0, v1 1, v1 2]) := ⟨a1, q1, v1, qT1, wT1, rfl, hrT1, hr1, hP1, hB1, by omega, hl11, hl21, hvb1⟩
            refine jJ_flat (cs2 := [jF [[(h, .inr (5, [.ref hT, .ref (a1 0), .ref (a1 1), .ref (a1 2), .int (nI ((pb T nx) + 1))]))], wT1, v1 0, v1 1, v1 2]]) rfl ?_
            refine jJ_callV (As := [.int (nI 0), .int (nI (pb T nx)), .int (nI 0)]) (rest := []) (wc := _) (cs2 := []) (C := RX6) (T := TX6) (N := 5) (ci := 5) [0] [] ⟨hx, hb, hml, hown, hts⟩ hK hA hAm (c_Tok_add hwa9 0 (pb T nx) 0 (by omega) (by omega) (by omega) (by omega)) (cwV 3 hts gX6_takeToken_X6_add rfl rfl rfl (by decide +kernel) ⟨Nat.le_of_ble_eq_true rfl, Nat.le_of_ble_eq_true rfl⟩) (nn := 1) rfl (by decide) rfl rfl hwa9.hd rfl rfl rfl hl.1 (Nat.le_of_ble_eq_true rfl) dX6_takeToken_101 (by show _ + 3 ≤ 3; omega) (by show _ + 96000 ≤ 96000; omega) (fun v u10 k10 n10 hq10 => ?_)
            obtain ⟨rfl, P210, hu10, hk10, hn10, hkk10, hnn10⟩ := hq10
            have hLu10 := hu10.len
            refine jJ_eq (g2 := F0 m 104 ls []) (cs2 := [u10]) rfl rfl ?_
            exact jJ_vret hx hb hr hlocks dX6_takeToken_104 (by show _ ≤ 3; omega) (by show _ ≤ 96000; omega) ⟨rfl, _, by rw [show tkTok T nx = (0, pb T nx, 0, pb T nx + 1) from (if_neg (by omega)).trans ((if_neg (by rw [c54]; decide)).trans ((if_neg (by omega)).trans (by rw [if_neg (by rw [c91]; decide)])))]; exact hu10, by omega, by omega, by omega, by omega⟩
          · refine jJ_of (fun H locs => lv_iload_n hx hb dX6_takeToken_94 rfl (lv_at hl 0 rfl)) ?_
            refine jJ_of (fun H locs => lv_goto (tgt := 99) hx hb dX6_takeToken_95 (by decide)) ?_
            refine jJ_of (fun H locs => lv_iload_n hx hb dX6_takeToken_99 rfl (lv_at hl 1 rfl)) ?_
            refine jJ_of (fun H locs => lv_iconst (v := (nI 0)) hx hb dX6_takeToken_100 (by decide)) ?_
            refine jJ_perm [1, 0, 2, 3, 4] (nn := 5) rfl (by decide) (cs2 := [[(h, .inr (5, [.ref hT, .ref (a1 0), .ref (a1 1), .ref (a1 2), .int (nI ((pb T nx) + 1))]))], wT1, v1 0, v1 1, v1 2]) rfl ?_
            have hwa11 : jTok cI h hT P T tk ((pb T nx) + 1) (jF [[(h, .inr (5, [.ref hT, .ref (a1 0), .ref (a1 1), .ref (a1 2), .int (nI ((pb T nx) + 1))]))], wT1, v1 0, v1 1, v1 2]) := ⟨a1, q1, v1, qT1, wT1, rfl, hrT1, hr1, hP1, hB1, by omega, hl11, hl21, hvb1⟩
            refine jJ_flat (cs2 := [jF [[(h, .inr (5, [.ref hT, .ref (a1 0), .ref (a1 1), .ref (a1 2), .int (nI ((pb T nx) + 1))]))], wT1, v1 0, v1 1, v1 2]]) rfl ?_
            refine jJ_callV (As := [.int (nI (T.getD (pb T nx) 0)), .int (nI (pb T nx)), .int (nI 0)]) (rest := []) (wc := _) (cs2 := []) (C := RX6) (T := TX6) (N := 5) (ci := 5) [0] [] ⟨hx, hb, hml, hown, hts⟩ hK hA hAm (c_Tok_add hwa11 (T.getD (pb T nx) 0) (pb T nx) 0 (by omega) (by omega) (by omega) (by omega)) (cwV 3 hts gX6_takeToken_X6_add rfl rfl rfl (by decide +kernel) ⟨Nat.le_of_ble_eq_true rfl, Nat.le_of_ble_eq_true rfl⟩) (nn := 1) rfl (by decide) rfl rfl hwa11.hd rfl rfl rfl hl.1 (Nat.le_of_ble_eq_true rfl) dX6_takeToken_101 (by show _ + 3 ≤ 3; omega) (by show _ + 96000 ≤ 96000; omega) (fun v u12 k12 n12 hq12 => ?_)
            obtain ⟨rfl, P212, hu12, hk12, hn12, hkk12, hnn12⟩ := hq12
            have hLu12 := hu12.len
            refine jJ_eq (g2 := F0 m 104 ls []) (cs2 := [u12]) rfl rfl ?_
            exact jJ_vret hx hb hr hlocks dX6_takeToken_104 (by show _ ≤ 3; omega) (by show _ ≤ 96000; omega) ⟨rfl, _, by rw [show tkTok T nx = (T.getD (pb T nx) 0, pb T nx, 0, pb T nx + 1) from (if_neg (by omega)).trans ((if_neg (by rw [c54]; decide)).trans ((if_neg (by omega)).trans (by rw [if_pos c91])))]; exact hu12, by omega, by omega, by omega, by omega⟩
        · refine jJ_of (fun H locs => lv_iload_n hx hb dX6_takeToken_71 rfl (lv_at hl 0 rfl)) ?_
          refine jJ_of (fun H locs => lv_bipush (v := (nI 90)) hx hb dX6_takeToken_72 (by decide)) ?_
          refine jJ_of2 (fun H locs => jn_icmp_gt (tgt := 86) hx hb dX6_takeToken_74 (by decide) (by omega) (by omega)) (fun c74 => ?_) (fun c74 => ?_)
          · refine jJ_of (fun H locs => lv_aload_n hx hb dX6_takeToken_86 rfl (lv_at hl 2 rfl)) ?_
            refine jJ_of (fun H locs => lv_iload_n hx hb dX6_takeToken_87 rfl (lv_at hl 0 rfl)) ?_
            refine jJ_callS (As := [.int (nI (T.getD (pb T nx) 0))]) (rest := [.ref h]) (wc := _) (cs2 := [wT1, [(h, .inr (5, [.ref hT, .ref (a1 0), .ref (a1 1), .ref (a1 2), .int (nI ((pb T nx) + 1))]))], v1 0, v1 1, v1 2]) [] [0, 1, 2, 3, 4] ⟨hx, hb, hml, hown, hts⟩ hK hA hAm (c_isSign (T.getD (pb T nx) 0) (by omega)) (va_cwS 1 hts gX6_takeToken_X6_isSign rfl rfl rfl (by decide +kernel) ⟨Nat.le_of_ble_eq_true rfl, Nat.le_of_ble_eq_true rfl⟩) (nn := 5) rfl (by decide) rfl rfl rfl rfl hl.1 (Nat.le_of_ble_eq_true rfl) dX6_takeToken_88 (by show _ + 0 ≤ 3; omega) (by show _ + 0 ≤ 96000; omega) (fun v u13 k13 n13 hq13 => ?_)
            obtain ⟨rfl, rfl, rfl, rfl⟩ := hq13
            refine jJ_eq (g2 := F0 m 91 ls [.int (bI (isSg (T.getD (pb T nx) 0))), .ref h]) (cs2 := [([] : va_W), wT1, [(h, .inr (5, [.ref hT, .ref (a1 0), .ref (a1 1), .ref (a1 2), .int (nI ((pb T nx) + 1))]))], v1 0, v1 1, v1 2]) rfl rfl ?_
            refine jJ_flat (cs2 := [wT1, [(h, .inr (5, [.ref hT, .ref (a1 0), .ref (a1 1), .ref (a1 2), .int (nI ((pb T nx) + 1))]))], v1 0, v1 1, v1 2]) rfl ?_
            refine jJ_of2 (fun H locs => jb_if_eq (tgt := 98) hx hb dX6_takeToken_91 (by decide)) (fun c91 => ?_) (fun c91 => ?_)
            · refine jJ_of (fun H locs => lv_iconst (v := (nI 0)) hx hb dX6_takeToken_98 (by decide)) ?_
              refine jJ_of (fun H locs => lv_iload_n hx hb dX6_takeToken_99 rfl (lv_at hl 1 rfl)) ?_
              refine jJ_of (fun H locs => lv_iconst (v := (nI 0)) hx hb dX6_takeToken_100 (by decide)) ?_
              refine jJ_perm [1, 0, 2, 3, 4] (nn := 5) rfl (by decide) (cs2 := [[(h, .inr (5, [.ref hT, .ref (a1 0), .ref (a1 1), .ref (a1 2), .int (nI ((pb T nx) + 1))]))], wT1, v1 0, v1 1, v1 2]) rfl ?_
              have hwa14 : jTok cI h hT P T tk ((pb T nx) + 1) (jF [[(h, .inr (5, [.ref hT, .ref (a1 0), .ref (a1 1), .ref (a1 2), .int (nI ((pb T nx) + 1))]))], wT1, v1 0, v1 1, v1 2]) := ⟨a1, q1, v1, qT1, wT1, rfl, hrT1, hr1, hP1, hB1, by omega, hl11, hl21, hvb1⟩
              refine jJ_flat (cs2 := [jF [[(h, .inr (5, [.ref hT, .ref (a1 0), .ref (a1 1), .ref (a1 2), .int (nI ((pb T nx) + 1))]))], wT1, v1 0, v1 1, v1 2]]) rfl ?_
              refine jJ_callV (As := [.int (nI 0), .int (nI (pb T nx)), .int (nI 0)]) (rest := []) (wc := _) (cs2 := []) (C := RX6) (T := TX6) (N := 5) (ci := 5) [0] [] ⟨hx, hb, hml, hown, hts⟩ hK hA hAm (c_Tok_add hwa14 0 (pb T nx) 0 (by omega) (by omega) (by omega) (by omega)) (cwV 3 hts gX6_takeToken_X6_add rfl rfl rfl (by decide +kernel) ⟨Nat.le_of_ble_eq_true rfl, Nat.le_of_ble_eq_true rfl⟩) (nn := 1) rfl (by decide) rfl rfl hwa14.hd rfl rfl rfl hl.1 (Nat.le_of_ble_eq_true rfl) dX6_takeToken_101 (by show _ + 3 ≤ 3; omega) (by show _ + 96000 ≤ 96000; omega) (fun v u15 k15 n15 hq15 => ?_)
              obtain ⟨rfl, P215, hu15, hk15, hn15, hkk15, hnn15⟩ := hq15
              have hLu15 := hu15.len
              refine jJ_eq (g2 := F0 m 104 ls []) (cs2 := [u15]) rfl rfl ?_
              exact jJ_vret hx hb hr hlocks dX6_takeToken_104 (by show _ ≤ 3; omega) (by show _ ≤ 96000; omega) ⟨rfl, _, by rw [show tkTok T nx = (0, pb T nx, 0, pb T nx + 1) from (if_neg (by omega)).trans ((if_neg (by rw [c54]; decide)).trans ((if_neg (by omega)).trans (by rw [if_neg (by rw [c91]; decide)])))]; exact hu15, by omega, by omega, by omega, by omega⟩
            · refine jJ_of (fun H locs => lv_iload_n hx hb dX6_takeToken_94 rfl (lv_at hl 0 rfl)) ?_
              refine jJ_of (fun H locs => lv_goto (tgt := 99) hx hb dX6_takeToken_95 (by decide)) ?_
              refine jJ_of (fun H locs => lv_iload_n hx hb dX6_takeToken_99 rfl (lv_at hl 1 rfl)) ?_
              refine jJ_of (fun H locs => lv_iconst (v := (nI 0)) hx hb dX6_takeToken_100 (by decide)) ?_
              refine jJ_perm [1, 0, 2, 3, 4] (nn := 5) rfl (by decide) (cs2 := [[(h, .inr (5, [.ref hT, .ref (a1 0), .ref (a1 1), .ref (a1 2), .int (nI ((pb T nx) + 1))]))], wT1, v1 0, v1 1, v1 2]) rfl ?_
              have hwa16 : jTok cI h hT P T tk ((pb T nx) + 1) (jF [[(h, .inr (5, [.ref hT, .ref (a1 0), .ref (a1 1), .ref (a1 2), .int (nI ((pb T nx) + 1))]))], wT1, v1 0, v1 1, v1 2]) := ⟨a1, q1, v1, qT1, wT1, rfl, hrT1, hr1, hP1, hB1, by omega, hl11, hl21, hvb1⟩
              refine jJ_flat (cs2 := [jF [[(h, .inr (5, [.ref hT, .ref (a1 0), .ref (a1 1), .ref (a1 2), .int (nI ((pb T nx) + 1))]))], wT1, v1 0, v1 1, v1 2]]) rfl ?_
              refine jJ_callV (As := [.int (nI (T.getD (pb T nx) 0)), .int (nI (pb T nx)), .int (nI 0)]) (rest := []) (wc := _) (cs2 := []) (C := RX6) (T := TX6) (N := 5) (ci := 5) [0] [] ⟨hx, hb, hml, hown, hts⟩ hK hA hAm (c_Tok_add hwa16 (T.getD (pb T nx) 0) (pb T nx) 0 (by omega) (by omega) (by omega) (by omega)) (cwV 3 hts gX6_takeToken_X6_add rfl rfl rfl (by decide +kernel) ⟨Nat.le_of_ble_eq_true rfl, Nat.le_of_ble_eq_true rfl⟩) (nn := 1) rfl (by decide) rfl rfl hwa16.hd rfl rfl rfl hl.1 (Nat.le_of_ble_eq_true rfl) dX6_takeToken_101 (by show _ + 3 ≤ 3; omega) (by show _ + 96000 ≤ 96000; omega) (fun v u17 k17 n17 hq17 => ?_)
              obtain ⟨rfl, P217, hu17, hk17, hn17, hkk17, hnn17⟩ := hq17
              have hLu17 := hu17.len
              refine jJ_eq (g2 := F0 m 104 ls []) (cs2 := [u17]) rfl rfl ?_
              exact jJ_vret hx hb hr hlocks dX6_takeToken_104 (by show _ ≤ 3; omega) (by show _ ≤ 96000; omega) ⟨rfl, _, by rw [show tkTok T nx = (T.getD (pb T nx) 0, pb T nx, 0, pb T nx + 1) from (if_neg (by omega)).trans ((if_neg (by rw [c54]; decide)).trans ((if_neg (by omega)).trans (by rw [if_pos c91])))]; exact hu17, by omega, by omega, by omega, by omega⟩
          · refine jJ_of (fun H locs => lv_aload_n hx hb dX6_takeToken_77 rfl (lv_at hl 2 rfl)) ?_
            refine jJ_of (fun H locs => lv_iload_n hx hb dX6_takeToken_78 rfl (lv_at hl 1 rfl)) ?_
            refine jJ_of (fun H locs => lv_iload_n hx hb dX6_takeToken_79 rfl (lv_at hl 0 rfl)) ?_
            refine jJ_perm [1, 0, 2, 3, 4] (nn := 5) rfl (by decide) (cs2 := [[(h, .inr (5, [.ref hT, .ref (a1 0), .ref (a1 1), .ref (a1 2), .int (nI ((pb T nx) + 1))]))], wT1, v1 0, v1 1, v1 2]) rfl ?_
            have hwa18 : jTok cI h hT P T tk ((pb T nx) + 1) (jF [[(h, .inr (5, [.ref hT, .ref (a1 0), .ref (a1 1), .ref (a1 2), .int (nI ((pb T nx) + 1))]))], wT1, v1 0, v1 1, v1 2]) := ⟨a1, q1, v1, qT1, wT1, rfl, hrT1, hr1, hP1, hB1, by omega, hl11, hl21, hvb1⟩
            refine jJ_flat (cs2 := [jF [[(h, .inr (5, [.ref hT, .ref (a1 0), .ref (a1 1), .ref (a1 2), .int (nI ((pb T nx) + 1))]))], wT1, v1 0, v1 1, v1 2]]) rfl ?_
            refine jJ_callV (As := [.int (nI (pb T nx)), .int (nI (T.getD (pb T nx) 0))]) (rest := []) (wc := _) (cs2 := []) (C := RX6) (T := TX6) (N := 5) (ci := 5) [0] [] ⟨hx, hb, hml, hown, hts⟩ hK hA hAm (c_Tok_word hwa18 (pb T nx) (T.getD (pb T nx) 0) (by omega) (by omega) (by omega)) (cwV 2 hts gX6_takeToken_X6_takeWord rfl rfl rfl (by decide +kernel) ⟨Nat.le_of_ble_eq_true rfl, Nat.le_of_ble_eq_true rfl⟩) (nn := 1) rfl (by decide) rfl rfl hwa18.hd rfl rfl rfl hl.1 (Nat.le_of_ble_eq_true rfl) dX6_takeToken_80 (by show _ + 3 ≤ 3; omega) (by show _ + 96000 ≤ 96000; omega) (fun v u19 k19 n19 hq19 => ?_)
            obtain ⟨rfl, P219, hu19, hk19, hn19, hkk19, hnn19⟩ := hq19
            have hLu19 := hu19.len
            refine jJ_eq (g2 := F0 m 83 ls []) (cs2 := [u19]) rfl rfl ?_
            refine jJ_of (fun H locs => lv_goto (tgt := 104) hx hb dX6_takeToken_83 (by decide)) ?_
            have hw9 : tkTok T nx = (if (twF T (pb T nx) 20 0).1 = 0 then (T.getD (pb T nx) 0, pb T nx, 0, pb T nx + 1) else ((twF T (pb T nx) 20 0).1, pb T nx, 0, pb T nx + (twF T (pb T nx) 20 0).2)) := (if_neg (by omega)).trans ((if_neg (by rw [c54]; decide)).trans (if_pos ⟨by omega, by omega⟩))
            exact jJ_vret hx hb hr hlocks dX6_takeToken_104 (by show _ ≤ 3; omega) (by show _ ≤ 96000; omega) ⟨rfl, _, tkTok_word hw9 hu19, by omega, by omega, by omega, by omega⟩
      · refine jJ_of (fun H locs => lv_aload_n hx hb dX6_takeToken_57 rfl (lv_at hl 2 rfl)) ?_
        refine jJ_of (fun H locs => lv_iload_n hx hb dX6_takeToken_58 rfl (lv_at hl 1 rfl)) ?_
        refine jJ_perm [1, 0, 2, 3, 4] (nn := 5) rfl (by decide) (cs2 := [[(h, .inr (5, [.ref hT, .ref (a1 0), .ref (a1 1), .ref (a1 2), .int (nI ((pb T nx) + 1))]))], wT1, v1 0, v1 1, v1 2]) rfl ?_
        have hwa20 : jTok cI h hT P T tk ((pb T nx) + 1) (jF [[(h, .inr (5, [.ref hT, .ref (a1 0), .ref (a1 1), .ref (a1 2), .int (nI ((pb T nx) + 1))]))], wT1, v1 0, v1 1, v1 2]) := ⟨a1, q1, v1, qT1, wT1, rfl, hrT1, hr1, hP1, hB1, by omega, hl11, hl21, hvb1⟩
        refine jJ_flat (cs2 := [jF [[(h, .inr (5, [.ref hT, .ref (a1 0), .ref (a1 1), .ref (a1 2), .int (nI ((pb T nx) + 1))]))], wT1, v1 0, v1 1, v1 2]]) rfl ?_
        refine jJ_callV (As := [.int (nI (pb T nx))]) (rest := []) (wc := _) (cs2 := []) (C := RX6) (T := TX6) (N := 5) (ci := 5) [0] [] ⟨hx, hb, hml, hown, hts⟩ hK hA hAm (c_Tok_number hwa20 (pb T nx) (by omega) (by omega)) (cwV 1 hts gX6_takeToken_X6_takeNumber rfl rfl rfl (by decide +kernel) ⟨Nat.le_of_ble_eq_true rfl, Nat.le_of_ble_eq_true rfl⟩) (nn := 1) rfl (by decide) rfl rfl hwa20.hd rfl rfl rfl hl.1 (Nat.le_of_ble_eq_true rfl) dX6_takeToken_59 (by show _ + 3 ≤ 3; omega) (by show _ + 96000 ≤ 96000; omega) (fun v u21 k21 n21 hq21 => ?_)
        obtain ⟨rfl, P221, hu21, hk21, hn21, hkk21, hnn21⟩ := hq21
        have hLu21 := hu21.len
        refine jJ_eq (g2 := F0 m 62 ls []) (cs2 := [u21]) rfl rfl ?_
        refine jJ_of (fun H locs => lv_goto (tgt := 104) hx hb dX6_takeToken_62 (by decide)) ?_
        exact jJ_vret hx hb hr hlocks dX6_takeToken_104 (by show _ ≤ 3; omega) (by show _ ≤ 96000; omega) ⟨rfl, _, by rw [show tkTok T nx = (nK T (pb T nx), pb T nx, nW T (pb T nx), nE T (pb T nx)) from (if_neg (by omega)).trans (if_pos c54)]; exact hu21, by omega, by omega, by omega, by omega⟩
    · refine jJ_of (fun H locs => lv_aload_n hx hb dX6_takeToken_43 rfl (lv_at hl 2 rfl)) ?_
      refine jJ_perm [1, 0, 2, 3, 4] (nn := 5) rfl (by decide) (cs2 := [[(h, .inr (5, [.ref hT, .ref (a1 0), .ref (a1 1), .ref (a1 2), .int (nI ((pb T nx) + 1))]))], wT1, v1 0, v1 1, v1 2]) rfl ?_
      have hwa22 : jTok cI h hT P T tk ((pb T nx) + 1) (jF [[(h, .inr (5, [.ref hT, .ref (a1 0), .ref (a1 1), .ref (a1 2), .int (nI ((pb T nx) + 1))]))], wT1, v1 0, v1 1, v1 2]) := ⟨a1, q1, v1, qT1, wT1, rfl, hrT1, hr1, hP1, hB1, by omega, hl11, hl21, hvb1⟩
      refine jJ_flat (cs2 := [jF [[(h, .inr (5, [.ref hT, .ref (a1 0), .ref (a1 1), .ref (a1 2), .int (nI ((pb T nx) + 1))]))], wT1, v1 0, v1 1, v1 2]]) rfl ?_
      refine jJ_callV (As := []) (rest := []) (wc := _) (cs2 := []) (C := RX6) (T := TX6) (N := 5) (ci := 5) [0] [] ⟨hx, hb, hml, hown, hts⟩ hK hA hAm (c_Tok_addEnd hwa22 (by omega)) (cwV 0 hts gX6_takeToken_X6_addEnd rfl rfl rfl (by decide +kernel) ⟨Nat.le_of_ble_eq_true rfl, Nat.le_of_ble_eq_true rfl⟩) (nn := 1) rfl (by decide) rfl rfl hwa22.hd rfl rfl rfl hl.1 (Nat.le_of_ble_eq_true rfl) dX6_takeToken_44 (by show _ + 3 ≤ 3; omega) (by show _ + 96000 ≤ 96000; omega) (fun v u23 k23 n23 hq23 => ?_)
      obtain ⟨rfl, P223, hu23, hk23, hn23, hkk23, hnn23⟩ := hq23
      have hLu23 := hu23.len
      refine jJ_eq (g2 := F0 m 47 ls []) (cs2 := [u23]) rfl rfl ?_
      refine jJ_of (fun H locs => lv_goto (tgt := 104) hx hb dX6_takeToken_47 (by decide)) ?_
      have hcase : 8000 ≤ pb T nx ∨ T.length ≤ pb T nx := by omega
      exact jJ_vret hx hb hr hlocks dX6_takeToken_104 (by show _ ≤ 3; omega) (by show _ ≤ 96000; omega) ⟨rfl, _, tkTok_end hcase hu23, by omega, by omega, by omega, by omega⟩

theorem jTok.congr {cI : ClassId} {h hT P nx : Nat} {T : List Nat} {tk tk2 : Nat → List Nat} {w : va_W} (hw : jTok cI h hT P T tk nx w) (he : ∀ i, i < 3 → tk i = tk2 i) : jTok cI h hT P T tk2 nx w := by
  obtain ⟨a, q, v, qT, wT, hW, hrT, hr, hP, hB, hnx, hl1, hl2, hvb⟩ := hw
  refine ⟨a, q, v, qT, wT, hW, hrT, fun i hi => by rw [← he i hi]; exact hr i hi, hP, hB, hnx, by rw [← he 0 (by decide), ← he 1 (by decide)]; exact hl1, by rw [← he 0 (by decide), ← he 2 (by decide)]; exact hl2, fun i hi => by rw [← he i hi]; exact hvb i hi⟩
theorem tk0_b {tk : Nat → List Nat} {N : Nat} : ∀ i, i < 3 → ∀ x ∈ va_up (va_up (va_up tk 0 ((tk 0).take 0)) 1 ((tk 1).take 0)) 2 ((tk 2).take 0) i, x < N := by
  intro i hi x hx
  rcases (show i = 0 ∨ i = 1 ∨ i = 2 by omega) with rfl | rfl | rfl <;> exact absurd (show x ∈ ([] : List Nat) from hx) List.not_mem_nil
theorem tk0_e {tk : Nat → List Nat} : ∀ i, i < 3 → va_up (va_up (va_up tk 0 ((tk 0).take 0)) 1 ((tk 1).take 0)) 2 ((tk 2).take 0) i = (fun _ => []) i := by
  intro i hi
  rcases (show i = 0 ∨ i = 1 ∨ i = 2 by omega) with rfl | rfl | rfl <;> rfl
theorem spF_end {T : List Nat} {f : Nat} {tk : Nat → List Nat} {nx la : Nat} (h : f = 0 ∨ ¬ (nx < T.length ∧ ¬ la = 0)) : spF T f tk nx la = (tk, nx, la) := by
  cases f with
  | zero => rfl
  | succ f =>
    show (if _ then _ else _) = _
    rw [if_neg (by omega)]
theorem spF_step {T : List Nat} {f g : Nat} {tk : Nat → List Nat} {nx la : Nat} (hf : f = g + 1) (h : nx < T.length ∧ ¬ la = 0) : spF T f tk nx la = spF T g (tkAdd tk (tkTok T nx).1 (tkTok T nx).2.1 (tkTok T nx).2.2.1) (tkTok T nx).2.2.2 (tkTok T nx).1 := by
  subst hf
  show (if _ then _ else _) = _
  rw [if_pos h]
theorem tkAll_1 {T : List Nat} {tk : Nat → List Nat} {nx la : Nat} (he : spF T 8001 (fun _ => []) 0 10 = (tk, nx, la)) (h : ¬ la = 10 ∧ ¬ la = 0) : tkAll T = tkEnd T tk := by
  unfold tkAll; rw [he]; exact if_pos h
theorem tkAll_2 {T : List Nat} {tk : Nat → List Nat} {nx la : Nat} (he : spF T 8001 (fun _ => []) 0 10 = (tk, nx, la)) (h : ¬ (¬ la = 10 ∧ ¬ la = 0)) : tkAll T = tk := by
  unfold tkAll; rw [he]; exact if_neg h
theorem tkAdd_len {tk : Nat → List Nat} {k s w i : Nat} (h : (tk 0).length = i) : (tkAdd tk k s w 0).length = i + 1 := by
  show (tk 0 ++ [k]).length = _
  rw [List.length_append, h]; rfl
theorem tkAdd_last {tk : Nat → List Nat} {k s w : Nat} : (tkAdd tk k s w 0).getD ((tkAdd tk k s w 0).length - 1) 0 = k := by
  show (tk 0 ++ [k]).getD ((tk 0 ++ [k]).length - 1) 0 = k
  rw [List.length_append, List.getD_eq_getElem?_getD, List.getElem?_append_right (by simp)]
  simp

theorem uX6_in_X6_split : ∀ w ∈ u_ws RX6 TX6 5, w ∈ wsX6_split := by decide +kernel
set_option maxHeartbeats 4000000 in
set_option maxRecDepth 100000 in
/-- split() -/
theorem c_Tok_split {h hT P nx : Nat} {T : List Nat} {tk : Nat → List Nat} {w : va_W} (hw : jTok cI h hT P T tk nx w) : HM l yX6_split wsX6_split ({ frames := 7, cells := 2003, slots := 352000, locals := 340 } : Room) D G (jT cI cJ cB cZ) [.ref h] w (fun v u k n => v = none ∧ ∃ P2 nx2 : Nat, jTok cI h hT P2 T (tkAll T) nx2 u ∧ k + P ≤ P2 ∧ n + 128 * P ≤ 128 * P2) := by
  refine HM_of (cc := cX6_split) (maxL := 3) (ret := none) (lv := [(0, .ref h)]) (by decide) rfl rfl (Nat.le_of_ble_eq_true rfl) (fun p e s m args below meth c A0 ls hx hb hr hts hown hlocks hml hnm hK hA hAm hl => ?_)
  have hLn := hw.len
  have hsv1 := hw
  obtain ⟨a1, q1, v1, qT1, wT1, rfl, hrT1, hr1, hP1, hB1, hnx1, hl11, hl21, hvb1⟩ := hsv1
  refine jJ_open (xs := jTkW h hT a1 nx wT1 v1) (r := []) (cs2 := [[(h, .inr (5, [.ref hT, .ref (a1 0), .ref (a1 1), .ref (a1 2), .int (nI nx)]))], wT1, v1 0, v1 1, v1 2]) rfl ?_
  refine jJ_of (fun H locs => lv_aload_n hx hb dX6_split_0 rfl (lv_at hl 0 rfl)) ?_
  refine jJ_get hx hb (C := RX6) (T := TX6) (N := 5) hts uX6_in_X6_split hown hK 0 rfl rfl 1 (by decide) (hts (.fieldLink RX6 14 "ValueBlocks$Tokens" "kinds" "LValueBlocks$Row;") (by decide +kernel)) (fun _ h9 => h9) rfl dX6_split_1 ?_
  refine jJ_of (fun H locs => lv_iconst (v := (nI 0)) hx hb dX6_split_4 (by decide)) ?_
  refine jJ_callV (As := [.int (nI 0)]) (rest := []) (wc := _) (cs2 := [[(h, .inr (5, [.ref hT, .ref (a1 0), .ref (a1 1), .ref (a1 2), .int (nI nx)]))], wT1, v1 1, v1 2]) (C := RX5) (T := TX5) (N := 3) (ci := 4) [2] [0, 1, 3, 4] ⟨hx, hb, hml, hown, hts⟩ hK hA hAm (c_Row_cut (hr1 0 (by decide)) 0 (by omega)) (cwV 1 hts gX6_split_X5_cut rfl rfl rfl (by decide +kernel) ⟨Nat.le_of_ble_eq_true rfl, Nat.le_of_ble_eq_true rfl⟩) (nn := 5) rfl (by decide) rfl rfl (hr1 0 (by decide)).hd rfl rfl rfl hl.1 (Nat.le_of_ble_eq_true rfl) dX6_split_5 (by show _ + 0 ≤ 2003; omega) (by show _ + 0 ≤ 352000; omega) (fun v u2 k2 n2 hq2 => ?_)
  obtain ⟨rfl, hu2, rfl, rfl⟩ := hq2
  rw [← List.map_take] at hu2
  refine jJ_eq (g2 := F0 m 8 ls []) (cs2 := [u2, [(h, .inr (5, [.ref hT, .ref (a1 0), .ref (a1 1), .ref (a1 2), .int (nI nx)]))], wT1, v1 1, v1 2]) rfl rfl ?_
  refine jJ_of (fun H locs => lv_aload_n hx hb dX6_split_8 rfl (lv_at hl 0 rfl)) ?_
  refine jJ_get hx hb (C := RX6) (T := TX6) (N := 5) hts uX6_in_X6_split hown hK 1 rfl rfl 2 (by decide) (hts (.fieldLink RX6 18 "ValueBlocks$Tokens" "starts" "LValueBlocks$Row;") (by decide +kernel)) (fun _ h9 => h9) rfl dX6_split_9 ?_
  refine jJ_of (fun H locs => lv_iconst (v := (nI 0)) hx hb dX6_split_12 (by decide)) ?_
  refine jJ_callV (As := [.int (nI 0)]) (rest := []) (wc := _) (cs2 := [u2, [(h, .inr (5, [.ref hT, .ref (a1 0), .ref (a1 1), .ref (a1 2), .int (nI nx)]))], wT1, v1 2]) (C := RX5) (T := TX5) (N := 3) (ci := 4) [3] [0, 1, 2, 4] ⟨hx, hb, hml, hown, hts⟩ hK hA hAm (c_Row_cut (hr1 1 (by decide)) 0 (by omega)) (cwV 1 hts gX6_split_X5_cut rfl rfl rfl (by decide +kernel) ⟨Nat.le_of_ble_eq_true rfl, Nat.le_of_ble_eq_true rfl⟩) (nn := 5) rfl (by decide) rfl rfl (hr1 1 (by decide)).hd rfl rfl rfl hl.1 (Nat.le_of_ble_eq_true rfl) dX6_split_13 (by show _ + 0 ≤ 2003; omega) (by show _ + 0 ≤ 352000; omega) (fun v u3 k3 n3 hq3 => ?_)
  obtain ⟨rfl, hu3, rfl, rfl⟩ := hq3
  rw [← List.map_take] at hu3
  refine jJ_eq (g2 := F0 m 16 ls []) (cs2 := [u3, u2, [(h, .inr (5, [.ref hT, .ref (a1 0), .ref (a1 1), .ref (a1 2), .int (nI nx)]))], wT1, v1 2]) rfl rfl ?_
  refine jJ_of (fun H locs => lv_aload_n hx hb dX6_split_16 rfl (lv_at hl 0 rfl)) ?_
  refine jJ_get hx hb (C := RX6) (T := TX6) (N := 5) hts uX6_in_X6_split hown hK 2 rfl rfl 3 (by decide) (hts (.fieldLink RX6 21 "ValueBlocks$Tokens" "worths" "LValueBlocks$Row;") (by decide +kernel)) (fun _ h9 => h9) rfl dX6_split_17 ?_
  refine jJ_of (fun H locs => lv_iconst (v := (nI 0)) hx hb dX6_split_20 (by decide)) ?_
  refine jJ_callV (As := [.int (nI 0)]) (rest := []) (wc := _) (cs2 := [u3, u2, [(h, .inr (5, [.ref hT, .ref (a1 0), .ref (a1 1), .ref (a1 2), .int (nI nx)]))], wT1]) (C := RX5) (T := TX5) (N := 3) (ci := 4) [4] [0, 1, 2, 3] ⟨hx, hb, hml, hown, hts⟩ hK hA hAm (c_Row_cut (hr1 2 (by decide)) 0 (by omega)) (cwV 1 hts gX6_split_X5_cut rfl rfl rfl (by decide +kernel) ⟨Nat.le_of_ble_eq_true rfl, Nat.le_of_ble_eq_true rfl⟩) (nn := 5) rfl (by decide) rfl rfl (hr1 2 (by decide)).hd rfl rfl rfl hl.1 (Nat.le_of_ble_eq_true rfl) dX6_split_21 (by show _ + 0 ≤ 2003; omega) (by show _ + 0 ≤ 352000; omega) (fun v u4 k4 n4 hq4 => ?_)
  obtain ⟨rfl, hu4, rfl, rfl⟩ := hq4
  rw [← List.map_take] at hu4
  refine jJ_eq (g2 := F0 m 24 ls []) (cs2 := [u4, u3, u2, [(h, .inr (5, [.ref hT, .ref (a1 0), .ref (a1 1), .ref (a1 2), .int (nI nx)]))], wT1]) rfl rfl ?_
  refine jJ_of (fun H locs => lv_aload_n hx hb dX6_split_24 rfl (lv_at hl 0 rfl)) ?_
  refine jJ_of (fun H locs => lv_iconst (v := (nI 0)) hx hb dX6_split_25 (by decide)) ?_
  refine jJ_put hx hb (C := RX6) (T := TX6) (N := 5) (ty := .int) (v := .int (nI 0)) hts uX6_in_X6_split tyX6 tyX6_ok nmX6 hown hK 3 rfl rfl 4 (by decide) (hts (.fieldLink RX6 38 "ValueBlocks$Tokens" "next" "I") (by decide +kernel)) (fun _ h9 => h9) rfl (by decide +kernel) rfl rfl (Nat.le_of_ble_eq_true rfl) dX6_split_26 (cs2 := [u4, u3, u2, [(h, .inr (5, [.ref hT, .ref (a1 0), .ref (a1 1), .ref (a1 2), .int (nI 0)]))], wT1]) rfl ?_
  refine jJ_of (fun H locs => lv_bipush (v := (nI 10)) hx hb dX6_split_29 (by decide)) ?_
  refine jJ_ofL (fun H locs => lv_istore_n (lv' := [(1, .int (nI 10)), (0, .ref h)]) hx hb dX6_split_31 rfl hl (by decide) rfl) (fun ls hl => ?_)
  refine jJ_of (fun H locs => lv_iconst (v := (nI 0)) hx hb dX6_split_32 (by decide)) ?_
  refine jJ_ofL (fun H locs => lv_istore_n (lv' := [(2, .int (nI 0)), (1, .int (nI 10)), (0, .ref h)]) hx hb dX6_split_33 rfl hl (by decide) rfl) (fun ls hl => ?_)
  refine jJ_perm [3, 4, 2, 1, 0] (nn := 5) rfl (by decide) (cs2 := [[(h, .inr (5, [.ref hT, .ref (a1 0), .ref (a1 1), .ref (a1 2), .int (nI 0)]))], wT1, u2, u3, u4]) rfl ?_
  have hR6 := jrowsN_upd hr1 0 hu2
  have hR7 := jrowsN_upd hR6 1 hu3
  have hR8 := jrowsN_upd hR7 2 hu4
  obtain ⟨P5, hPe5⟩ : ∃ z : Nat, z = qT1 + (q1 0 + q1 1 + q1 2) := ⟨_, rfl⟩
  have hwa5 : jTok cI h hT P5 T (va_up (va_up (va_up tk 0 ((tk 0).take 0)) 1 ((tk 1).take 0)) 2 ((tk 2).take 0)) 0 (jF [[(h, .inr (5, [.ref hT, .ref (a1 0), .ref (a1 1), .ref (a1 2), .int (nI 0)]))], wT1, u2, u3, u4]) := ⟨a1, _, _, _, _, rfl, hrT1, hR8, hPe5, hB1, by omega, rfl, rfl, tk0_b⟩
  refine jJ_flat (cs2 := [jF [[(h, .inr (5, [.ref hT, .ref (a1 0), .ref (a1 1), .ref (a1 2), .int (nI 0)]))], wT1, u2, u3, u4]]) rfl ?_
  have h0 := jTok.congr hwa5 tk0_e
  suffices lp : ∀ (d i la nx1 P1 k1 n1 : Nat) (tk1 : Nat → List Nat) (w1 : va_W), 8001 - i < d → i ≤ 8001 → la < 1000000000 → (tk1 0).length = i → jTok cI h hT P1 T tk1 nx1 w1 → k1 + P ≤ P1 → n1 + 128 * P ≤ 128 * P1 → spF T (8001 - i) tk1 nx1 la = spF T 8001 (fun _ => []) 0 10 → ∀ ls, lv_has ls 3 [(2, .int (nI i)), (1, .int (nI la)), (0, .ref h)] → jJ p l e _ s m args below meth c D A0 [w1] k1 n1 (jEnd below D A0 _ args s _ _) (F0 m 34 ls []) from lp 8002 0 10 0 _ _ _ _ _ (by omega) (by omega) (by omega) rfl h0 (by omega) (by omega) rfl ls (lv_sub hl [0, 1, 2] rfl)
  intro d
  induction d with
  | zero => intro i la nx1 P1 k1 n1 tk1 w1 h9; exact absurd h9 (Nat.not_lt_zero _)
  | succ d ih =>
    intro i la nx1 P1 k1 n1 tk1 w1 h9 hi9 hla9 hlen1 hw1 hk1 hn1 hcl ls hl
    have hLn := hw1.len
    refine jJ_of (fun H locs => lv_iload_n hx hb dX6_split_34 rfl (lv_at hl 0 rfl)) ?_
    refine jJ_of (fun H locs => lv_sipush (v := (nI 8000)) hx hb dX6_split_35 (by decide)) ?_
    refine jJ_of2 (fun H locs => jn_icmp_gt (tgt := 86) hx hb dX6_split_38 (by decide) (by omega) (by omega)) (fun c38 => ?_) (fun c38 => ?_)
    · have he := hcl.symm.trans (spF_end (by omega))
      refine jJ_of (fun H locs => lv_iload_n hx hb dX6_split_86 rfl (lv_at hl 1 rfl)) ?_
      refine jJ_of (fun H locs => lv_bipush (v := (nI 10)) hx hb dX6_split_87 (by decide)) ?_
      refine jJ_of2 (fun H locs => jn_icmp_eq (tgt := 100) hx hb dX6_split_89 (by decide) (by omega) (by omega)) (fun c89 => ?_) (fun c89 => ?_)
      · exact jJ_vret hx hb hr hlocks dX6_split_100 (by show _ ≤ 2003; omega) (by show _ ≤ 352000; omega) ⟨rfl, _, _, by rw [tkAll_2 he (by omega)]; exact hw1, by omega, by omega⟩
      · refine jJ_of (fun H locs => lv_iload_n hx hb dX6_split_92 rfl (lv_at hl 1 rfl)) ?_
        refine jJ_of2 (fun H locs => jn_if_eq (tgt := 100) hx hb dX6_split_93 (by decide) (by omega)) (fun c93 => ?_) (fun c93 => ?_)
        · exact jJ_vret hx hb hr hlocks dX6_split_100 (by show _ ≤ 2003; omega) (by show _ ≤ 352000; omega) ⟨rfl, _, _, by rw [tkAll_2 he (by omega)]; exact hw1, by omega, by omega⟩
        · refine jJ_of (fun H locs => lv_aload_n hx hb dX6_split_96 rfl (lv_at hl 2 rfl)) ?_
          refine jJ_callV (As := []) (rest := []) (wc := _) (cs2 := []) (C := RX6) (T := TX6) (N := 5) (ci := 5) [0] [] ⟨hx, hb, hml, hown, hts⟩ hK hA hAm (c_Tok_addEnd hw1 (by omega)) (cwV 0 hts gX6_split_X6_addEnd rfl rfl rfl (by decide +kernel) ⟨Nat.le_of_ble_eq_true rfl, Nat.le_of_ble_eq_true rfl⟩) (nn := 1) rfl (by decide) rfl rfl hw1.hd rfl rfl rfl hl.1 (Nat.le_of_ble_eq_true rfl) dX6_split_97 (by show _ + 3 ≤ 2003; omega) (by show _ + 96000 ≤ 352000; omega) (fun v u9 k9 n9 hq9 => ?_)
          obtain ⟨rfl, P29, hu9, hk9, hn9, hkk9, hnn9⟩ := hq9
          have hLu9 := hu9.len
          refine jJ_eq (g2 := F0 m 100 ls []) (cs2 := [u9]) rfl rfl ?_
          exact jJ_vret hx hb hr hlocks dX6_split_100 (by show _ ≤ 2003; omega) (by show _ ≤ 352000; omega) ⟨rfl, _, _, by rw [tkAll_1 he ⟨by omega, by omega⟩]; exact hu9, by omega, by omega⟩
    · refine jJ_of (fun H locs => lv_aload_n hx hb dX6_split_41 rfl (lv_at hl 2 rfl)) ?_
      have hsv10 := hw1
      obtain ⟨a10, q10, v10, qT10, wT10, rfl, hrT10, hr10, hP10, hB10, hnx10, hl110, hl210, hvb10⟩ := hsv10
      refine jJ_open (xs := jTkW h hT a10 nx1 wT10 v10) (r := []) (cs2 := [[(h, .inr (5, [.ref hT, .ref (a10 0), .ref (a10 1), .ref (a10 2), .int (nI nx1)]))], wT10, v10 0, v10 1, v10 2]) rfl ?_
      refine jJ_get hx hb (C := RX6) (T := TX6) (N := 5) hts uX6_in_X6_split hown hK 0 rfl rfl 4 (by decide) (hts (.fieldLink RX6 38 "ValueBlocks$Tokens" "next" "I") (by decide +kernel)) (fun _ h9 => h9) rfl dX6_split_42 ?_
      refine jJ_of (fun H locs => lv_aload_n hx hb dX6_split_45 rfl (lv_at hl 2 rfl)) ?_
      refine jJ_get hx hb (C := RX6) (T := TX6) (N := 5) hts uX6_in_X6_split hown hK 0 rfl rfl 0 (by decide) (hts (.fieldLink RX6 24 "ValueBlocks$Tokens" "text" "LValueBlocks$Row;") (by decide +kernel)) (fun _ h9 => h9) rfl dX6_split_46 ?_
      refine jJ_callV (As := []) (rest := [.int (nI nx1)]) (wc := _) (cs2 := [[(h, .inr (5, [.ref hT, .ref (a10 0), .ref (a10 1), .ref (a10 2), .int (nI nx1)]))], v10 0, v10 1, v10 2]) (C := RX5) (T := TX5) (N := 3) (ci := 4) [1] [0, 2, 3, 4] ⟨hx, hb, hml, hown, hts⟩ hK hA hAm (c_Row_size hrT10) (cwV 0 hts gX6_split_X5_size rfl rfl rfl (by decide +kernel) ⟨Nat.le_of_ble_eq_true rfl, Nat.le_of_ble_eq_true rfl⟩) (nn := 5) rfl (by decide) rfl rfl hrT10.hd rfl rfl rfl hl.1 (Nat.le_of_ble_eq_true rfl) dX6_split_49 (by show _ + 0 ≤ 2003; omega) (by show _ + 0 ≤ 352000; omega) (fun v u11 k11 n11 hq11 => ?_)
      obtain ⟨rfl, hw11, rfl, rfl⟩ := hq11
      rw [hw11]
      rw [List.length_map]
      refine jJ_eq (g2 := F0 m 52 ls [.int (nI T.length), .int (nI nx1)]) (cs2 := [wT10, [(h, .inr (5, [.ref hT, .ref (a10 0), .ref (a10 1), .ref (a10 2), .int (nI nx1)]))], v10 0, v10 1, v10 2]) rfl rfl ?_
      refine jJ_of2 (fun H locs => jn_icmp_ge (tgt := 86) hx hb dX6_split_52 (by decide) (by omega) (by omega)) (fun c52 => ?_) (fun c52 => ?_)
      · have he := hcl.symm.trans (spF_end (by omega))
        refine jJ_of (fun H locs => lv_iload_n hx hb dX6_split_86 rfl (lv_at hl 1 rfl)) ?_
        refine jJ_of (fun H locs => lv_bipush (v := (nI 10)) hx hb dX6_split_87 (by decide)) ?_
        refine jJ_of2 (fun H locs => jn_icmp_eq (tgt := 100) hx hb dX6_split_89 (by decide) (by omega) (by omega)) (fun c89 => ?_) (fun c89 => ?_)
        · refine jJ_perm [1, 0, 2, 3, 4] (nn := 5) rfl (by decide) (cs2 := [[(h, .inr (5, [.ref hT, .ref (a10 0), .ref (a10 1), .ref (a10 2), .int (nI nx1)]))], wT10, v10 0, v10 1, v10 2]) rfl ?_
          refine jJ_flat (cs2 := [jF [[(h, .inr (5, [.ref hT, .ref (a10 0), .ref (a10 1), .ref (a10 2), .int (nI nx1)]))], wT10, v10 0, v10 1, v10 2]]) rfl ?_
          exact jJ_vret hx hb hr hlocks dX6_split_100 (by show _ ≤ 2003; omega) (by show _ ≤ 352000; omega) ⟨rfl, _, _, by rw [tkAll_2 he (by omega)]; exact hw1, by omega, by omega⟩
        · refine jJ_of (fun H locs => lv_iload_n hx hb dX6_split_92 rfl (lv_at hl 1 rfl)) ?_
          refine jJ_of2 (fun H locs => jn_if_eq (tgt := 100) hx hb dX6_split_93 (by decide) (by omega)) (fun c93 => ?_) (fun c93 => ?_)
          · refine jJ_perm [1, 0, 2, 3, 4] (nn := 5) rfl (by decide) (cs2 := [[(h, .inr (5, [.ref hT, .ref (a10 0), .ref (a10 1), .ref (a10 2), .int (nI nx1)]))], wT10, v10 0, v10 1, v10 2]) rfl ?_
            refine jJ_flat (cs2 := [jF [[(h, .inr (5, [.ref hT, .ref (a10 0), .ref (a10 1), .ref (a10 2), .int (nI nx1)]))], wT10, v10 0, v10 1, v10 2]]) rfl ?_
            exact jJ_vret hx hb hr hlocks dX6_split_100 (by show _ ≤ 2003; omega) (by show _ ≤ 352000; omega) ⟨rfl, _, _, by rw [tkAll_2 he (by omega)]; exact hw1, by omega, by omega⟩
          · refine jJ_of (fun H locs => lv_aload_n hx hb dX6_split_96 rfl (lv_at hl 2 rfl)) ?_
            refine jJ_perm [1, 0, 2, 3, 4] (nn := 5) rfl (by decide) (cs2 := [[(h, .inr (5, [.ref hT, .ref (a10 0), .ref (a10 1), .ref (a10 2), .int (nI nx1)]))], wT10, v10 0, v10 1, v10 2]) rfl ?_
            refine jJ_flat (cs2 := [jF [[(h, .inr (5, [.ref hT, .ref (a10 0), .ref (a10 1), .ref (a10 2), .int (nI nx1)]))], wT10, v10 0, v10 1, v10 2]]) rfl ?_
            refine jJ_callV (As := []) (rest := []) (wc := _) (cs2 := []) (C := RX6) (T := TX6) (N := 5) (ci := 5) [0] [] ⟨hx, hb, hml, hown, hts⟩ hK hA hAm (c_Tok_addEnd hw1 (by omega)) (cwV 0 hts gX6_split_X6_addEnd rfl rfl rfl (by decide +kernel) ⟨Nat.le_of_ble_eq_true rfl, Nat.le_of_ble_eq_true rfl⟩) (nn := 1) rfl (by decide) rfl rfl hw1.hd rfl rfl rfl hl.1 (Nat.le_of_ble_eq_true rfl) dX6_split_97 (by show _ + 3 ≤ 2003; omega) (by show _ + 96000 ≤ 352000; omega) (fun v u12 k12 n12 hq12 => ?_)
            obtain ⟨rfl, P212, hu12, hk12, hn12, hkk12, hnn12⟩ := hq12
            have hLu12 := hu12.len
            refine jJ_eq (g2 := F0 m 100 ls []) (cs2 := [u12]) rfl rfl ?_
            exact jJ_vret hx hb hr hlocks dX6_split_100 (by show _ ≤ 2003; omega) (by show _ ≤ 352000; omega) ⟨rfl, _, _, by rw [tkAll_1 he ⟨by omega, by omega⟩]; exact hu12, by omega, by omega⟩
      · refine jJ_of (fun H locs => lv_iload_n hx hb dX6_split_55 rfl (lv_at hl 1 rfl)) ?_
        refine jJ_of2 (fun H locs => jn_if_eq (tgt := 86) hx hb dX6_split_56 (by decide) (by omega)) (fun c56 => ?_) (fun c56 => ?_)
        · have he := hcl.symm.trans (spF_end (by omega))
          refine jJ_of (fun H locs => lv_iload_n hx hb dX6_split_86 rfl (lv_at hl 1 rfl)) ?_
          refine jJ_of (fun H locs => lv_bipush (v := (nI 10)) hx hb dX6_split_87 (by decide)) ?_
          refine jJ_of2 (fun H locs => jn_icmp_eq (tgt := 100) hx hb dX6_split_89 (by decide) (by omega) (by omega)) (fun c89 => ?_) (fun c89 => ?_)
          · refine jJ_perm [1, 0, 2, 3, 4] (nn := 5) rfl (by decide) (cs2 := [[(h, .inr (5, [.ref hT, .ref (a10 0), .ref (a10 1), .ref (a10 2), .int (nI nx1)]))], wT10, v10 0, v10 1, v10 2]) rfl ?_
            refine jJ_flat (cs2 := [jF [[(h, .inr (5, [.ref hT, .ref (a10 0), .ref (a10 1), .ref (a10 2), .int (nI nx1)]))], wT10, v10 0, v10 1, v10 2]]) rfl ?_
            exact jJ_vret hx hb hr hlocks dX6_split_100 (by show _ ≤ 2003; omega) (by show _ ≤ 352000; omega) ⟨rfl, _, _, by rw [tkAll_2 he (by omega)]; exact hw1, by omega, by omega⟩
          · refine jJ_of (fun H locs => lv_iload_n hx hb dX6_split_92 rfl (lv_at hl 1 rfl)) ?_
            refine jJ_of2 (fun H locs => jn_if_eq (tgt := 100) hx hb dX6_split_93 (by decide) (by omega)) (fun c93 => ?_) (fun c93 => ?_)
            · refine jJ_perm [1, 0, 2, 3, 4] (nn := 5) rfl (by decide) (cs2 := [[(h, .inr (5, [.ref hT, .ref (a10 0), .ref (a10 1), .ref (a10 2), .int (nI nx1)]))], wT10, v10 0, v10 1, v10 2]) rfl ?_
              refine jJ_flat (cs2 := [jF [[(h, .inr (5, [.ref hT, .ref (a10 0), .ref (a10 1), .ref (a10 2), .int (nI nx1)]))], wT10, v10 0, v10 1, v10 2]]) rfl ?_
              exact jJ_vret hx hb hr hlocks dX6_split_100 (by show _ ≤ 2003; omega) (by show _ ≤ 352000; omega) ⟨rfl, _, _, by rw [tkAll_2 he (by omega)]; exact hw1, by omega, by omega⟩
            · refine jJ_of (fun H locs => lv_aload_n hx hb dX6_split_96 rfl (lv_at hl 2 rfl)) ?_
              refine jJ_perm [1, 0, 2, 3, 4] (nn := 5) rfl (by decide) (cs2 := [[(h, .inr (5, [.ref hT, .ref (a10 0), .ref (a10 1), .ref (a10 2), .int (nI nx1)]))], wT10, v10 0, v10 1, v10 2]) rfl ?_
              refine jJ_flat (cs2 := [jF [[(h, .inr (5, [.ref hT, .ref (a10 0), .ref (a10 1), .ref (a10 2), .int (nI nx1)]))], wT10, v10 0, v10 1, v10 2]]) rfl ?_
              refine jJ_callV (As := []) (rest := []) (wc := _) (cs2 := []) (C := RX6) (T := TX6) (N := 5) (ci := 5) [0] [] ⟨hx, hb, hml, hown, hts⟩ hK hA hAm (c_Tok_addEnd hw1 (by omega)) (cwV 0 hts gX6_split_X6_addEnd rfl rfl rfl (by decide +kernel) ⟨Nat.le_of_ble_eq_true rfl, Nat.le_of_ble_eq_true rfl⟩) (nn := 1) rfl (by decide) rfl rfl hw1.hd rfl rfl rfl hl.1 (Nat.le_of_ble_eq_true rfl) dX6_split_97 (by show _ + 3 ≤ 2003; omega) (by show _ + 96000 ≤ 352000; omega) (fun v u13 k13 n13 hq13 => ?_)
              obtain ⟨rfl, P213, hu13, hk13, hn13, hkk13, hnn13⟩ := hq13
              have hLu13 := hu13.len
              refine jJ_eq (g2 := F0 m 100 ls []) (cs2 := [u13]) rfl rfl ?_
              exact jJ_vret hx hb hr hlocks dX6_split_100 (by show _ ≤ 2003; omega) (by show _ ≤ 352000; omega) ⟨rfl, _, _, by rw [tkAll_1 he ⟨by omega, by omega⟩]; exact hu13, by omega, by omega⟩
        · refine jJ_of (fun H locs => lv_aload_n hx hb dX6_split_59 rfl (lv_at hl 2 rfl)) ?_
          refine jJ_perm [1, 0, 2, 3, 4] (nn := 5) rfl (by decide) (cs2 := [[(h, .inr (5, [.ref hT, .ref (a10 0), .ref (a10 1), .ref (a10 2), .int (nI nx1)]))], wT10, v10 0, v10 1, v10 2]) rfl ?_
          refine jJ_flat (cs2 := [jF [[(h, .inr (5, [.ref hT, .ref (a10 0), .ref (a10 1), .ref (a10 2), .int (nI nx1)]))], wT10, v10 0, v10 1, v10 2]]) rfl ?_
          refine jJ_callV (As := []) (rest := []) (wc := _) (cs2 := []) (C := RX6) (T := TX6) (N := 5) (ci := 5) [0] [] ⟨hx, hb, hml, hown, hts⟩ hK hA hAm (c_Tok_token hw1 (by omega) (by omega)) (cwV 0 hts gX6_split_X6_takeToken rfl rfl rfl (by decide +kernel) ⟨Nat.le_of_ble_eq_true rfl, Nat.le_of_ble_eq_true rfl⟩) (nn := 1) rfl (by decide) rfl rfl hw1.hd rfl rfl rfl hl.1 (Nat.le_of_ble_eq_true rfl) dX6_split_60 (by show _ + 3 ≤ 2003; omega) (by show _ + 96000 ≤ 352000; omega) (fun v u14 k14 n14 hq14 => ?_)
          obtain ⟨rfl, P214, hu14, hk14, hn14, hkk14, hnn14⟩ := hq14
          have hLu14 := hu14.len
          refine jJ_eq (g2 := F0 m 63 ls []) (cs2 := [u14]) rfl rfl ?_
          have hsz : (tkAdd tk1 (tkTok T nx1).1 (tkTok T nx1).2.1 (tkTok T nx1).2.2.1 0).length = i + 1 := tkAdd_len hlen1
          refine jJ_of (fun H locs => lv_aload_n hx hb dX6_split_63 rfl (lv_at hl 2 rfl)) ?_
          have hsv15 := hu14
          obtain ⟨a15, q15, v15, qT15, wT15, rfl, hrT15, hr15, hP15, hB15, hnx15, hl115, hl215, hvb15⟩ := hsv15
          refine jJ_open (xs := jTkW h hT a15 ((tkTok T nx1).2.2.2) wT15 v15) (r := []) (cs2 := [[(h, .inr (5, [.ref hT, .ref (a15 0), .ref (a15 1), .ref (a15 2), .int (nI ((tkTok T nx1).2.2.2))]))], wT15, v15 0, v15 1, v15 2]) rfl ?_
          refine jJ_get hx hb (C := RX6) (T := TX6) (N := 5) hts uX6_in_X6_split hown hK 0 rfl rfl 1 (by decide) (hts (.fieldLink RX6 14 "ValueBlocks$Tokens" "kinds" "LValueBlocks$Row;") (by decide +kernel)) (fun _ h9 => h9) rfl dX6_split_64 ?_
          refine jJ_of (fun H locs => lv_aload_n hx hb dX6_split_67 rfl (lv_at hl 2 rfl)) ?_
          refine jJ_get hx hb (C := RX6) (T := TX6) (N := 5) hts uX6_in_X6_split hown hK 0 rfl rfl 1 (by decide) (hts (.fieldLink RX6 14 "ValueBlocks$Tokens" "kinds" "LValueBlocks$Row;") (by decide +kernel)) (fun _ h9 => h9) rfl dX6_split_68 ?_
          refine jJ_callV (As := []) (rest := [.ref (a15 0)]) (wc := _) (cs2 := [[(h, .inr (5, [.ref hT, .ref (a15 0), .ref (a15 1), .ref (a15 2), .int (nI ((tkTok T nx1).2.2.2))]))], wT15, v15 1, v15 2]) (C := RX5) (T := TX5) (N := 3) (ci := 4) [2] [0, 1, 3, 4] ⟨hx, hb, hml, hown, hts⟩ hK hA hAm (c_Row_size (hr15 0 (by decide))) (cwV 0 hts gX6_split_X5_size rfl rfl rfl (by decide +kernel) ⟨Nat.le_of_ble_eq_true rfl, Nat.le_of_ble_eq_true rfl⟩) (nn := 5) rfl (by decide) rfl rfl (hr15 0 (by decide)).hd rfl rfl rfl hl.1 (Nat.le_of_ble_eq_true rfl) dX6_split_71 (by show _ + 0 ≤ 2003; omega) (by show _ + 0 ≤ 352000; omega) (fun v u16 k16 n16 hq16 => ?_)
          obtain ⟨rfl, hw16, rfl, rfl⟩ := hq16
          rw [hw16]
          rw [List.length_map]
          refine jJ_eq (g2 := F0 m 74 ls [.int (nI (((tkAdd tk1 (tkTok T nx1).1 (tkTok T nx1).2.1 (tkTok T nx1).2.2.1) 0).length)), .ref (a15 0)]) (cs2 := [v15 0, [(h, .inr (5, [.ref hT, .ref (a15 0), .ref (a15 1), .ref (a15 2), .int (nI ((tkTok T nx1).2.2.2))]))], wT15, v15 1, v15 2]) rfl rfl ?_
          refine jJ_of (fun H locs => lv_iconst (v := (nI 1)) hx hb dX6_split_74 (by decide)) ?_
          refine jJ_of (fun H locs => jn_isub hx hb dX6_split_75 (by omega)) ?_
          refine jJ_callV (As := [.int (nI ((((tkAdd tk1 (tkTok T nx1).1 (tkTok T nx1).2.1 (tkTok T nx1).2.2.1) 0).length) - 1))]) (rest := []) (wc := _) (cs2 := [[(h, .inr (5, [.ref hT, .ref (a15 0), .ref (a15 1), .ref (a15 2), .int (nI ((tkTok T nx1).2.2.2))]))], wT15, v15 1, v15 2]) (C := RX5) (T := TX5) (N := 3) (ci := 4) [0] [1, 2, 3, 4] ⟨hx, hb, hml, hown, hts⟩ hK hA hAm (c_Row_get (hr15 0 (by decide)) ((((tkAdd tk1 (tkTok T nx1).1 (tkTok T nx1).2.1 (tkTok T nx1).2.2.1) 0).length) - 1) (by omega)) (cwV 1 hts gX6_split_X5_get rfl rfl rfl (by decide +kernel) ⟨Nat.le_of_ble_eq_true rfl, Nat.le_of_ble_eq_true rfl⟩) (nn := 5) rfl (by decide) rfl rfl (hr15 0 (by decide)).hd rfl rfl rfl hl.1 (Nat.le_of_ble_eq_true rfl) dX6_split_76 (by show _ + 0 ≤ 2003; omega) (by show _ + 0 ≤ 352000; omega) (fun v u17 k17 n17 hq17 => ?_)
          obtain ⟨rfl, hw17, rfl, rfl⟩ := hq17
          rw [hw17]
          rw [jget_n]
          refine jJ_eq (g2 := F0 m 79 ls [.int (nI (((tkAdd tk1 (tkTok T nx1).1 (tkTok T nx1).2.1 (tkTok T nx1).2.2.1) 0).getD ((((tkAdd tk1 (tkTok T nx1).1 (tkTok T nx1).2.1 (tkTok T nx1).2.2.1) 0).length) - 1) 0))]) (cs2 := [v15 0, [(h, .inr (5, [.ref hT, .ref (a15 0), .ref (a15 1), .ref (a15 2), .int (nI ((tkTok T nx1).2.2.2))]))], wT15, v15 1, v15 2]) rfl rfl ?_
          refine jJ_ofL (fun H locs => lv_istore_n (lv' := [(1, .int (nI (((tkAdd tk1 (tkTok T nx1).1 (tkTok T nx1).2.1 (tkTok T nx1).2.2.1) 0).getD ((((tkAdd tk1 (tkTok T nx1).1 (tkTok T nx1).2.1 (tkTok T nx1).2.2.1) 0).length) - 1) 0))), (2, .int (nI i)), (0, .ref h)]) hx hb dX6_split_79 rfl hl (by decide) rfl) (fun ls hl => ?_)
          refine jJ_ofL (fun H locs => lv_iinc (v := (nI (i + 1))) (lv' := [(2, .int (nI (i + 1))), (1, .int (nI (((tkAdd tk1 (tkTok T nx1).1 (tkTok T nx1).2.1 (tkTok T nx1).2.2.1) 0).getD ((((tkAdd tk1 (tkTok T nx1).1 (tkTok T nx1).2.1 (tkTok T nx1).2.2.1) 0).length) - 1) 0))), (0, .ref h)]) hx hb dX6_split_80 hl (k := 1) rfl (nI_add _ _) (by decide) rfl) (fun ls hl => ?_)
          refine jJ_of (fun H locs => lv_goto (tgt := 34) hx hb dX6_split_83 (by decide)) ?_
          refine jJ_perm [1, 2, 0, 3, 4] (nn := 5) rfl (by decide) (cs2 := [[(h, .inr (5, [.ref hT, .ref (a15 0), .ref (a15 1), .ref (a15 2), .int (nI ((tkTok T nx1).2.2.2))]))], wT15, v15 0, v15 1, v15 2]) rfl ?_
          refine jJ_flat (cs2 := [jF [[(h, .inr (5, [.ref hT, .ref (a15 0), .ref (a15 1), .ref (a15 2), .int (nI ((tkTok T nx1).2.2.2))]))], wT15, v15 0, v15 1, v15 2]]) rfl ?_
          have hvb9 := hu14.len.2.2.2.2.2.2.1 0 (by decide) ((tkAdd tk1 (tkTok T nx1).1 (tkTok T nx1).2.1 (tkTok T nx1).2.2.1 0).length - 1)
          rw [tkAdd_last] at hvb9
          have hl9 := lv_sub (l' := [(2, .int (nI (i + 1))), (1, .int (nI (((tkAdd tk1 (tkTok T nx1).1 (tkTok T nx1).2.1 (tkTok T nx1).2.2.1) 0).getD ((((tkAdd tk1 (tkTok T nx1).1 (tkTok T nx1).2.1 (tkTok T nx1).2.2.1) 0).length) - 1) 0))), (0, .ref h)]) hl [0, 1, 2] rfl
          rw [tkAdd_last] at hl9
          exact ih (i + 1) _ _ _ _ _ _ _ (by omega) (by omega) hvb9 hsz hu14 (by omega) (by omega) (by rw [← hcl]; exact (spF_step (by omega) ⟨by omega, by omega⟩).symm) ls hl9
end TOK
