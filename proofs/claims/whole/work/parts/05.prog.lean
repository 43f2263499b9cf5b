/-! ValueBlocks$Program: eight rows; jProg h P pr w: the chunk w is the program at h, its rows hold pr 0 .. pr 7; P counts what they have grown -/
def jPw (h : Nat) (a : Nat → Nat) (v : Nat → va_W) : List va_W := [[(h, .inr (2, [.ref (a 0), .ref (a 1), .ref (a 2), .ref (a 3), .ref (a 4), .ref (a 5), .ref (a 6), .ref (a 7)]))], v 0, v 1, v 2, v 3, v 4, v 5, v 6, v 7]
def jProg (cI : ClassId) (h P : Nat) (pr : Nat → List Int32) (w : va_W) : Prop := ∃ (a q : Nat → Nat) (v : Nat → va_W), w = jF (jPw h a v) ∧ (∀ i, i < 8 → jRow cI (a i) 8000 (q i) (pr i) (v i)) ∧ P = q 0 + q 1 + q 2 + q 3 + q 4 + q 5 + q 6 + q 7
theorem jProg.hd {cI : ClassId} {h P : Nat} {pr : Nat → List Int32} {w : va_W} (hw : jProg cI h P pr w) : ∃ (i : Nat) (fs : List Value), w[i]? = some (h, .inr (2, fs)) := by
  obtain ⟨a, q, v, rfl, -⟩ := hw
  exact ⟨0, _, rfl⟩
theorem jProg.len {cI : ClassId} {h P : Nat} {pr : Nat → List Int32} {w : va_W} (hw : jProg cI h P pr w) : (∀ i, i < 8 → (pr i).length ≤ 8000) ∧ 8 ≤ P ∧ P ≤ 4000 := by
  obtain ⟨a, q, v, rfl, hr, hP⟩ := hw
  refine ⟨fun i hi => (hr i hi).len.1, ?_⟩
  have h0 := (hr 0 (by omega)).len
  have h1 := (hr 1 (by omega)).len
  have h2 := (hr 2 (by omega)).len
  have h3 := (hr 3 (by omega)).len
  have h4 := (hr 4 (by omega)).len
  have h5 := (hr 5 (by omega)).len
  have h6 := (hr 6 (by omega)).len
  have h7 := (hr 7 (by omega)).len
  omega
theorem jrows_upd {cI : ClassId} {lim : Nat} {a q : Nat → Nat} {pr : Nat → List Int32} {v : Nat → va_W} {N : Nat} (hr : ∀ i, i < N → jRow cI (a i) lim (q i) (pr i) (v i)) (i : Nat) {q2 : Nat} {xs : List Int32} {u : va_W} (hu : jRow cI (a i) lim q2 xs u) : ∀ j, j < N → jRow cI (a j) lim (va_up q i q2 j) (va_up pr i xs j) (va_up v i u j) := by
  intro j hj
  by_cases e : j = i
  · subst e
    rw [va_up_self, va_up_self, va_up_self]
    exact hu
  · rw [va_up_ne _ _ e, va_up_ne _ _ e, va_up_ne _ _ e]
    exact hr j hj
theorem jup_id {α : Type} (f : Nat → α) (i : Nat) : va_up f i (f i) = f := by
  funext j
  by_cases e : j = i
  · subst e; rw [va_up_self]
  · rw [va_up_ne _ _ e]
theorem jProg.eq {cI : ClassId} {h P : Nat} {pr pr2 : Nat → List Int32} {w : va_W} (hw : jProg cI h P pr w) (he : ∀ i, i < 8 → pr i = pr2 i) : jProg cI h P pr2 w := by
  obtain ⟨a, q, v, rfl, hr, hP⟩ := hw
  exact ⟨a, q, v, rfl, fun i hi => by rw [← he i hi]; exact hr i hi, hP⟩
section PROG
variable {D : va_G} {G : Nat → Nat} {cI cJ cB cZ : ClassId} {l : Launch}

theorem uX3_in_X3_entry : ∀ w ∈ u_ws RX3 TX3 8, w ∈ wsX3_entry := by decide +kernel
set_option maxHeartbeats 4000000 in
set_option maxRecDepth 100000 in
/-- c_Prog_entry -/
theorem c_Prog_entry {h P : Nat} {pr : Nat → List Int32} {w : va_W} (hw : jProg cI h P pr w) (j : Nat) (hj : j < 2147483648) : HM l yX3_entry wsX3_entry ({ frames := 1, cells := 0, slots := 0, locals := 40 } : Room) D G (jT cI cJ cB cZ) [.ref h, .int (nI j)] w (fun v u k n => v = some (.int ((pr 0).getD j 0)) ∧ u = w ∧ k = 0 ∧ n = 0) := by
  obtain ⟨a, q, v, rfl, hr, hP⟩ := hw
  refine HM_of (cc := cX3_entry) (maxL := 2) (ret := (some .int)) (lv := [(0, .ref h), (1, .int (nI j))]) (by decide) rfl rfl (Nat.le_of_ble_eq_true rfl) (fun p e s m args below meth c A0 ls hx hb hr2 hts hown hlocks hml hnm hK hA hAm hl => ?_)
  refine jJ_open (xs := [[(h, .inr (2, [.ref (a 0), .ref (a 1), .ref (a 2), .ref (a 3), .ref (a 4), .ref (a 5), .ref (a 6), .ref (a 7)]))], v 0, v 1, v 2, v 3, v 4, v 5, v 6, v 7]) (r := []) (cs2 := [[(h, .inr (2, [.ref (a 0), .ref (a 1), .ref (a 2), .ref (a 3), .ref (a 4), .ref (a 5), .ref (a 6), .ref (a 7)]))], v 0, v 1, v 2, v 3, v 4, v 5, v 6, v 7]) rfl ?_
  refine jJ_of (fun H locs => lv_aload_n hx hb dX3_entry_0 rfl (lv_at hl 0 rfl)) ?_
  refine jJ_get hx hb (C := RX3) (T := TX3) (N := 8) hts uX3_in_X3_entry hown hK 0 rfl rfl 0 (by decide) (hts (.fieldLink RX3 14 "ValueBlocks$Program" "code" "LValueBlocks$Row;") (by decide +kernel)) (fun _ h9 => h9) rfl dX3_entry_1 ?_
  refine jJ_of (fun H locs => lv_iload_n hx hb dX3_entry_4 rfl (lv_at hl 1 rfl)) ?_
  refine jJ_callV (As := [.int (nI j)]) (rest := []) (wc := _) (cs2 := [[(h, .inr (2, [.ref (a 0), .ref (a 1), .ref (a 2), .ref (a 3), .ref (a 4), .ref (a 5), .ref (a 6), .ref (a 7)]))], v 1, v 2, v 3, v 4, v 5, v 6, v 7]) (C := RX5) (T := TX5) (N := 3) (ci := 4) [1] [0, 2, 3, 4, 5, 6, 7, 8] ⟨hx, hb, hml, hown, hts⟩ hK hA hAm (c_Row_get (hr 0 (by decide)) j (by omega)) (cwV 1 hts gX3_entry_X5_get rfl rfl rfl (by decide +kernel) ⟨Nat.le_of_ble_eq_true rfl, Nat.le_of_ble_eq_true rfl⟩) (nn := 9) rfl (by decide) rfl rfl (hr 0 (by decide)).hd rfl rfl rfl hl.1 (Nat.le_of_ble_eq_true rfl) dX3_entry_5 (by show _ + 0 ≤ 0; omega) (by show _ + 0 ≤ 0; omega) (fun v u1 k1 n1 hq1 => ?_)
  obtain ⟨rfl, hw1, rfl, rfl⟩ := hq1
  rw [hw1]
  refine jJ_eq (g2 := F0 m 8 ls [.int ((pr 0).getD j 0)]) (cs2 := [v 0, [(h, .inr (2, [.ref (a 0), .ref (a 1), .ref (a 2), .ref (a 3), .ref (a 4), .ref (a 5), .ref (a 6), .ref (a 7)]))], v 1, v 2, v 3, v 4, v 5, v 6, v 7]) rfl rfl ?_
  refine jJ_perm [1, 0, 2, 3, 4, 5, 6, 7, 8] (nn := 9) rfl (by decide) (cs2 := [[(h, .inr (2, [.ref (a 0), .ref (a 1), .ref (a 2), .ref (a 3), .ref (a 4), .ref (a 5), .ref (a 6), .ref (a 7)]))], v 0, v 1, v 2, v 3, v 4, v 5, v 6, v 7]) rfl ?_
  exact jJ_iret hx hb hr2 hlocks dX3_entry_8 (by show _ ≤ 0; omega) (by show _ ≤ 0; omega) ⟨rfl, rfl, rfl, rfl⟩
theorem uX3_in_X3_kindOf : ∀ w ∈ u_ws RX3 TX3 8, w ∈ wsX3_kindOf := by decide +kernel
set_option maxHeartbeats 4000000 in
set_option maxRecDepth 100000 in
/-- c_Prog_kindOf -/
theorem c_Prog_kindOf {h P : Nat} {pr : Nat → List Int32} {w : va_W} (hw : jProg cI h P pr w) (j : Nat) (hj : j < 2147483648) : HM l yX3_kindOf wsX3_kindOf ({ frames := 1, cells := 0, slots := 0, locals := 40 } : Room) D G (jT cI cJ cB cZ) [.ref h, .int (nI j)] w (fun v u k n => v = some (.int ((pr 2).getD j 0)) ∧ u = w ∧ k = 0 ∧ n = 0) := by
  obtain ⟨a, q, v, rfl, hr, hP⟩ := hw
  refine HM_of (cc := cX3_kindOf) (maxL := 2) (ret := (some .int)) (lv := [(0, .ref h), (1, .int (nI j))]) (by decide) rfl rfl (Nat.le_of_ble_eq_true rfl) (fun p e s m args below meth c A0 ls hx hb hr2 hts hown hlocks hml hnm hK hA hAm hl => ?_)
  refine jJ_open (xs := [[(h, .inr (2, [.ref (a 0), .ref (a 1), .ref (a 2), .ref (a 3), .ref (a 4), .ref (a 5), .ref (a 6), .ref (a 7)]))], v 0, v 1, v 2, v 3, v 4, v 5, v 6, v 7]) (r := []) (cs2 := [[(h, .inr (2, [.ref (a 0), .ref (a 1), .ref (a 2), .ref (a 3), .ref (a 4), .ref (a 5), .ref (a 6), .ref (a 7)]))], v 0, v 1, v 2, v 3, v 4, v 5, v 6, v 7]) rfl ?_
  refine jJ_of (fun H locs => lv_aload_n hx hb dX3_kindOf_0 rfl (lv_at hl 0 rfl)) ?_
  refine jJ_get hx hb (C := RX3) (T := TX3) (N := 8) hts uX3_in_X3_kindOf hown hK 0 rfl rfl 2 (by decide) (hts (.fieldLink RX3 23 "ValueBlocks$Program" "kinds" "LValueBlocks$Row;") (by decide +kernel)) (fun _ h9 => h9) rfl dX3_kindOf_1 ?_
  refine jJ_of (fun H locs => lv_iload_n hx hb dX3_kindOf_4 rfl (lv_at hl 1 rfl)) ?_
  refine jJ_callV (As := [.int (nI j)]) (rest := []) (wc := _) (cs2 := [[(h, .inr (2, [.ref (a 0), .ref (a 1), .ref (a 2), .ref (a 3), .ref (a 4), .ref (a 5), .ref (a 6), .ref (a 7)]))], v 0, v 1, v 3, v 4, v 5, v 6, v 7]) (C := RX5) (T := TX5) (N := 3) (ci := 4) [3] [0, 1, 2, 4, 5, 6, 7, 8] ⟨hx, hb, hml, hown, hts⟩ hK hA hAm (c_Row_get (hr 2 (by decide)) j (by omega)) (cwV 1 hts gX3_kindOf_X5_get rfl rfl rfl (by decide +kernel) ⟨Nat.le_of_ble_eq_true rfl, Nat.le_of_ble_eq_true rfl⟩) (nn := 9) rfl (by decide) rfl rfl (hr 2 (by decide)).hd rfl rfl rfl hl.1 (Nat.le_of_ble_eq_true rfl) dX3_kindOf_5 (by show _ + 0 ≤ 0; omega) (by show _ + 0 ≤ 0; omega) (fun v u1 k1 n1 hq1 => ?_)
  obtain ⟨rfl, hw1, rfl, rfl⟩ := hq1
  rw [hw1]
  refine jJ_eq (g2 := F0 m 8 ls [.int ((pr 2).getD j 0)]) (cs2 := [v 2, [(h, .inr (2, [.ref (a 0), .ref (a 1), .ref (a 2), .ref (a 3), .ref (a 4), .ref (a 5), .ref (a 6), .ref (a 7)]))], v 0, v 1, v 3, v 4, v 5, v 6, v 7]) rfl rfl ?_
  refine jJ_perm [1, 2, 3, 0, 4, 5, 6, 7, 8] (nn := 9) rfl (by decide) (cs2 := [[(h, .inr (2, [.ref (a 0), .ref (a 1), .ref (a 2), .ref (a 3), .ref (a 4), .ref (a 5), .ref (a 6), .ref (a 7)]))], v 0, v 1, v 2, v 3, v 4, v 5, v 6, v 7]) rfl ?_
  exact jJ_iret hx hb hr2 hlocks dX3_kindOf_8 (by show _ ≤ 0; omega) (by show _ ≤ 0; omega) ⟨rfl, rfl, rfl, rfl⟩
theorem uX3_in_X3_label : ∀ w ∈ u_ws RX3 TX3 8, w ∈ wsX3_label := by decide +kernel
set_option maxHeartbeats 4000000 in
set_option maxRecDepth 100000 in
/-- c_Prog_label -/
theorem c_Prog_label {h P : Nat} {pr : Nat → List Int32} {w : va_W} (hw : jProg cI h P pr w) (j : Nat) (hj : j < 2147483648) : HM l yX3_label wsX3_label ({ frames := 1, cells := 0, slots := 0, locals := 40 } : Room) D G (jT cI cJ cB cZ) [.ref h, .int (nI j)] w (fun v u k n => v = some (.int ((pr 3).getD j 0)) ∧ u = w ∧ k = 0 ∧ n = 0) := by
  obtain ⟨a, q, v, rfl, hr, hP⟩ := hw
  refine HM_of (cc := cX3_label) (maxL := 2) (ret := (some .int)) (lv := [(0, .ref h), (1, .int (nI j))]) (by decide) rfl rfl (Nat.le_of_ble_eq_true rfl) (fun p e s m args below meth c A0 ls hx hb hr2 hts hown hlocks hml hnm hK hA hAm hl => ?_)
  refine jJ_open (xs := [[(h, .inr (2, [.ref (a 0), .ref (a 1), .ref (a 2), .ref (a 3), .ref (a 4), .ref (a 5), .ref (a 6), .ref (a 7)]))], v 0, v 1, v 2, v 3, v 4, v 5, v 6, v 7]) (r := []) (cs2 := [[(h, .inr (2, [.ref (a 0), .ref (a 1), .ref (a 2), .ref (a 3), .ref (a 4), .ref (a 5), .ref (a 6), .ref (a 7)]))], v 0, v 1, v 2, v 3, v 4, v 5, v 6, v 7]) rfl ?_
  refine jJ_of (fun H locs => lv_aload_n hx hb dX3_label_0 rfl (lv_at hl 0 rfl)) ?_
  refine jJ_get hx hb (C := RX3) (T := TX3) (N := 8) hts uX3_in_X3_label hown hK 0 rfl rfl 3 (by decide) (hts (.fieldLink RX3 26 "ValueBlocks$Program" "labels" "LValueBlocks$Row;") (by decide +kernel)) (fun _ h9 => h9) rfl dX3_label_1 ?_
  refine jJ_of (fun H locs => lv_iload_n hx hb dX3_label_4 rfl (lv_at hl 1 rfl)) ?_
  refine jJ_callV (As := [.int (nI j)]) (rest := []) (wc := _) (cs2 := [[(h, .inr (2, [.ref (a 0), .ref (a 1), .ref (a 2), .ref (a 3), .ref (a 4), .ref (a 5), .ref (a 6), .ref (a 7)]))], v 0, v 1, v 2, v 4, v 5, v 6, v 7]) (C := RX5) (T := TX5) (N := 3) (ci := 4) [4] [0, 1, 2, 3, 5, 6, 7, 8] ⟨hx, hb, hml, hown, hts⟩ hK hA hAm (c_Row_get (hr 3 (by decide)) j (by omega)) (cwV 1 hts gX3_label_X5_get rfl rfl rfl (by decide +kernel) ⟨Nat.le_of_ble_eq_true rfl, Nat.le_of_ble_eq_true rfl⟩) (nn := 9) rfl (by decide) rfl rfl (hr 3 (by decide)).hd rfl rfl rfl hl.1 (Nat.le_of_ble_eq_true rfl) dX3_label_5 (by show _ + 0 ≤ 0; omega) (by show _ + 0 ≤ 0; omega) (fun v u1 k1 n1 hq1 => ?_)
  obtain ⟨rfl, hw1, rfl, rfl⟩ := hq1
  rw [hw1]
  refine jJ_eq (g2 := F0 m 8 ls [.int ((pr 3).getD j 0)]) (cs2 := [v 3, [(h, .inr (2, [.ref (a 0), .ref (a 1), .ref (a 2), .ref (a 3), .ref (a 4), .ref (a 5), .ref (a 6), .ref (a 7)]))], v 0, v 1, v 2, v 4, v 5, v 6, v 7]) rfl rfl ?_
  refine jJ_perm [1, 2, 3, 4, 0, 5, 6, 7, 8] (nn := 9) rfl (by decide) (cs2 := [[(h, .inr (2, [.ref (a 0), .ref (a 1), .ref (a 2), .ref (a 3), .ref (a 4), .ref (a 5), .ref (a 6), .ref (a 7)]))], v 0, v 1, v 2, v 3, v 4, v 5, v 6, v 7]) rfl ?_
  exact jJ_iret hx hb hr2 hlocks dX3_label_8 (by show _ ≤ 0; omega) (by show _ ≤ 0; omega) ⟨rfl, rfl, rfl, rfl⟩
theorem uX3_in_X3_labelPlace : ∀ w ∈ u_ws RX3 TX3 8, w ∈ wsX3_labelPlace := by decide +kernel
set_option maxHeartbeats 4000000 in
set_option maxRecDepth 100000 in
/-- c_Prog_labelPlace -/
theorem c_Prog_labelPlace {h P : Nat} {pr : Nat → List Int32} {w : va_W} (hw : jProg cI h P pr w) (j : Nat) (hj : j < 2147483648) : HM l yX3_labelPlace wsX3_labelPlace ({ frames := 1, cells := 0, slots := 0, locals := 40 } : Room) D G (jT cI cJ cB cZ) [.ref h, .int (nI j)] w (fun v u k n => v = some (.int ((pr 4).getD j 0)) ∧ u = w ∧ k = 0 ∧ n = 0) := by
  obtain ⟨a, q, v, rfl, hr, hP⟩ := hw
  refine HM_of (cc := cX3_labelPlace) (maxL := 2) (ret := (some .int)) (lv := [(0, .ref h), (1, .int (nI j))]) (by decide) rfl rfl (Nat.le_of_ble_eq_true rfl) (fun p e s m args below meth c A0 ls hx hb hr2 hts hown hlocks hml hnm hK hA hAm hl => ?_)
  refine jJ_open (xs := [[(h, .inr (2, [.ref (a 0), .ref (a 1), .ref (a 2), .ref (a 3), .ref (a 4), .ref (a 5), .ref (a 6), .ref (a 7)]))], v 0, v 1, v 2, v 3, v 4, v 5, v 6, v 7]) (r := []) (cs2 := [[(h, .inr (2, [.ref (a 0), .ref (a 1), .ref (a 2), .ref (a 3), .ref (a 4), .ref (a 5), .ref (a 6), .ref (a 7)]))], v 0, v 1, v 2, v 3, v 4, v 5, v 6, v 7]) rfl ?_
  refine jJ_of (fun H locs => lv_aload_n hx hb dX3_labelPlace_0 rfl (lv_at hl 0 rfl)) ?_
  refine jJ_get hx hb (C := RX3) (T := TX3) (N := 8) hts uX3_in_X3_labelPlace hown hK 0 rfl rfl 4 (by decide) (hts (.fieldLink RX3 29 "ValueBlocks$Program" "labelPlaces" "LValueBlocks$Row;") (by decide +kernel)) (fun _ h9 => h9) rfl dX3_labelPlace_1 ?_
  refine jJ_of (fun H locs => lv_iload_n hx hb dX3_labelPlace_4 rfl (lv_at hl 1 rfl)) ?_
  refine jJ_callV (As := [.int (nI j)]) (rest := []) (wc := _) (cs2 := [[(h, .inr (2, [.ref (a 0), .ref (a 1), .ref (a 2), .ref (a 3), .ref (a 4), .ref (a 5), .ref (a 6), .ref (a 7)]))], v 0, v 1, v 2, v 3, v 5, v 6, v 7]) (C := RX5) (T := TX5) (N := 3) (ci := 4) [5] [0, 1, 2, 3, 4, 6, 7, 8] ⟨hx, hb, hml, hown, hts⟩ hK hA hAm (c_Row_get (hr 4 (by decide)) j (by omega)) (cwV 1 hts gX3_labelPlace_X5_get rfl rfl rfl (by decide +kernel) ⟨Nat.le_of_ble_eq_true rfl, Nat.le_of_ble_eq_true rfl⟩) (nn := 9) rfl (by decide) rfl rfl (hr 4 (by decide)).hd rfl rfl rfl hl.1 (Nat.le_of_ble_eq_true rfl) dX3_labelPlace_5 (by show _ + 0 ≤ 0; omega) (by show _ + 0 ≤ 0; omega) (fun v u1 k1 n1 hq1 => ?_)
  obtain ⟨rfl, hw1, rfl, rfl⟩ := hq1
  rw [hw1]
  refine jJ_eq (g2 := F0 m 8 ls [.int ((pr 4).getD j 0)]) (cs2 := [v 4, [(h, .inr (2, [.ref (a 0), .ref (a 1), .ref (a 2), .ref (a 3), .ref (a 4), .ref (a 5), .ref (a 6), .ref (a 7)]))], v 0, v 1, v 2, v 3, v 5, v 6, v 7]) rfl rfl ?_
  refine jJ_perm [1, 2, 3, 4, 5, 0, 6, 7, 8] (nn := 9) rfl (by decide) (cs2 := [[(h, .inr (2, [.ref (a 0), .ref (a 1), .ref (a 2), .ref (a 3), .ref (a 4), .ref (a 5), .ref (a 6), .ref (a 7)]))], v 0, v 1, v 2, v 3, v 4, v 5, v 6, v 7]) rfl ?_
  exact jJ_iret hx hb hr2 hlocks dX3_labelPlace_8 (by show _ ≤ 0; omega) (by show _ ≤ 0; omega) ⟨rfl, rfl, rfl, rfl⟩
theorem uX3_in_X3_number : ∀ w ∈ u_ws RX3 TX3 8, w ∈ wsX3_number := by decide +kernel
set_option maxHeartbeats 4000000 in
set_option maxRecDepth 100000 in
/-- c_Prog_number -/
theorem c_Prog_number {h P : Nat} {pr : Nat → List Int32} {w : va_W} (hw : jProg cI h P pr w) (j : Nat) (hj : j < 2147483648) : HM l yX3_number wsX3_number ({ frames := 1, cells := 0, slots := 0, locals := 40 } : Room) D G (jT cI cJ cB cZ) [.ref h, .int (nI j)] w (fun v u k n => v = some (.int ((pr 5).getD j 0)) ∧ u = w ∧ k = 0 ∧ n = 0) := by
  obtain ⟨a, q, v, rfl, hr, hP⟩ := hw
  refine HM_of (cc := cX3_number) (maxL := 2) (ret := (some .int)) (lv := [(0, .ref h), (1, .int (nI j))]) (by decide) rfl rfl (Nat.le_of_ble_eq_true rfl) (fun p e s m args below meth c A0 ls hx hb hr2 hts hown hlocks hml hnm hK hA hAm hl => ?_)
  refine jJ_open (xs := [[(h, .inr (2, [.ref (a 0), .ref (a 1), .ref (a 2), .ref (a 3), .ref (a 4), .ref (a 5), .ref (a 6), .ref (a 7)]))], v 0, v 1, v 2, v 3, v 4, v 5, v 6, v 7]) (r := []) (cs2 := [[(h, .inr (2, [.ref (a 0), .ref (a 1), .ref (a 2), .ref (a 3), .ref (a 4), .ref (a 5), .ref (a 6), .ref (a 7)]))], v 0, v 1, v 2, v 3, v 4, v 5, v 6, v 7]) rfl ?_
  refine jJ_of (fun H locs => lv_aload_n hx hb dX3_number_0 rfl (lv_at hl 0 rfl)) ?_
  refine jJ_get hx hb (C := RX3) (T := TX3) (N := 8) hts uX3_in_X3_number hown hK 0 rfl rfl 5 (by decide) (hts (.fieldLink RX3 32 "ValueBlocks$Program" "numbers" "LValueBlocks$Row;") (by decide +kernel)) (fun _ h9 => h9) rfl dX3_number_1 ?_
  refine jJ_of (fun H locs => lv_iload_n hx hb dX3_number_4 rfl (lv_at hl 1 rfl)) ?_
  refine jJ_callV (As := [.int (nI j)]) (rest := []) (wc := _) (cs2 := [[(h, .inr (2, [.ref (a 0), .ref (a 1), .ref (a 2), .ref (a 3), .ref (a 4), .ref (a 5), .ref (a 6), .ref (a 7)]))], v 0, v 1, v 2, v 3, v 4, v 6, v 7]) (C := RX5) (T := TX5) (N := 3) (ci := 4) [6] [0, 1, 2, 3, 4, 5, 7, 8] ⟨hx, hb, hml, hown, hts⟩ hK hA hAm (c_Row_get (hr 5 (by decide)) j (by omega)) (cwV 1 hts gX3_number_X5_get rfl rfl rfl (by decide +kernel) ⟨Nat.le_of_ble_eq_true rfl, Nat.le_of_ble_eq_true rfl⟩) (nn := 9) rfl (by decide) rfl rfl (hr 5 (by decide)).hd rfl rfl rfl hl.1 (Nat.le_of_ble_eq_true rfl) dX3_number_5 (by show _ + 0 ≤ 0; omega) (by show _ + 0 ≤ 0; omega) (fun v u1 k1 n1 hq1 => ?_)
  obtain ⟨rfl, hw1, rfl, rfl⟩ := hq1
  rw [hw1]
  refine jJ_eq (g2 := F0 m 8 ls [.int ((pr 5).getD j 0)]) (cs2 := [v 5, [(h, .inr (2, [.ref (a 0), .ref (a 1), .ref (a 2), .ref (a 3), .ref (a 4), .ref (a 5), .ref (a 6), .ref (a 7)]))], v 0, v 1, v 2, v 3, v 4, v 6, v 7]) rfl rfl ?_
  refine jJ_perm [1, 2, 3, 4, 5, 6, 0, 7, 8] (nn := 9) rfl (by decide) (cs2 := [[(h, .inr (2, [.ref (a 0), .ref (a 1), .ref (a 2), .ref (a 3), .ref (a 4), .ref (a 5), .ref (a 6), .ref (a 7)]))], v 0, v 1, v 2, v 3, v 4, v 5, v 6, v 7]) rfl ?_
  exact jJ_iret hx hb hr2 hlocks dX3_number_8 (by show _ ≤ 0; omega) (by show _ ≤ 0; omega) ⟨rfl, rfl, rfl, rfl⟩
theorem uX3_in_X3_numberPlace : ∀ w ∈ u_ws RX3 TX3 8, w ∈ wsX3_numberPlace := by decide +kernel
set_option maxHeartbeats 4000000 in
set_option maxRecDepth 100000 in
/-- c_Prog_numberPlace -/
theorem c_Prog_numberPlace {h P : Nat} {pr : Nat → List Int32} {w : va_W} (hw : jProg cI h P pr w) (j : Nat) (hj : j < 2147483648) : HM l yX3_numberPlace wsX3_numberPlace ({ frames := 1, cells := 0, slots := 0, locals := 40 } : Room) D G (jT cI cJ cB cZ) [.ref h, .int (nI j)] w (fun v u k n => v = some (.int ((pr 6).getD j 0)) ∧ u = w ∧ k = 0 ∧ n = 0) := by
  obtain ⟨a, q, v, rfl, hr, hP⟩ := hw
  refine HM_of (cc := cX3_numberPlace) (maxL := 2) (ret := (some .int)) (lv := [(0, .ref h), (1, .int (nI j))]) (by decide) rfl rfl (Nat.le_of_ble_eq_true rfl) (fun p e s m args below meth c A0 ls hx hb hr2 hts hown hlocks hml hnm hK hA hAm hl => ?_)
  refine jJ_open (xs := [[(h, .inr (2, [.ref (a 0), .ref (a 1), .ref (a 2), .ref (a 3), .ref (a 4), .ref (a 5), .ref (a 6), .ref (a 7)]))], v 0, v 1, v 2, v 3, v 4, v 5, v 6, v 7]) (r := []) (cs2 := [[(h, .inr (2, [.ref (a 0), .ref (a 1), .ref (a 2), .ref (a 3), .ref (a 4), .ref (a 5), .ref (a 6), .ref (a 7)]))], v 0, v 1, v 2, v 3, v 4, v 5, v 6, v 7]) rfl ?_
  refine jJ_of (fun H locs => lv_aload_n hx hb dX3_numberPlace_0 rfl (lv_at hl 0 rfl)) ?_
  refine jJ_get hx hb (C := RX3) (T := TX3) (N := 8) hts uX3_in_X3_numberPlace hown hK 0 rfl rfl 6 (by decide) (hts (.fieldLink RX3 35 "ValueBlocks$Program" "numberPlaces" "LValueBlocks$Row;") (by decide +kernel)) (fun _ h9 => h9) rfl dX3_numberPlace_1 ?_
  refine jJ_of (fun H locs => lv_iload_n hx hb dX3_numberPlace_4 rfl (lv_at hl 1 rfl)) ?_
  refine jJ_callV (As := [.int (nI j)]) (rest := []) (wc := _) (cs2 := [[(h, .inr (2, [.ref (a 0), .ref (a 1), .ref (a 2), .ref (a 3), .ref (a 4), .ref (a 5), .ref (a 6), .ref (a 7)]))], v 0, v 1, v 2, v 3, v 4, v 5, v 7]) (C := RX5) (T := TX5) (N := 3) (ci := 4) [7] [0, 1, 2, 3, 4, 5, 6, 8] ⟨hx, hb, hml, hown, hts⟩ hK hA hAm (c_Row_get (hr 6 (by decide)) j (by omega)) (cwV 1 hts gX3_numberPlace_X5_get rfl rfl rfl (by decide +kernel) ⟨Nat.le_of_ble_eq_true rfl, Nat.le_of_ble_eq_true rfl⟩) (nn := 9) rfl (by decide) rfl rfl (hr 6 (by decide)).hd rfl rfl rfl hl.1 (Nat.le_of_ble_eq_true rfl) dX3_numberPlace_5 (by show _ + 0 ≤ 0; omega) (by show _ + 0 ≤ 0; omega) (fun v u1 k1 n1 hq1 => ?_)
  obtain ⟨rfl, hw1, rfl, rfl⟩ := hq1
  rw [hw1]
  refine jJ_eq (g2 := F0 m 8 ls [.int ((pr 6).getD j 0)]) (cs2 := [v 6, [(h, .inr (2, [.ref (a 0), .ref (a 1), .ref (a 2), .ref (a 3), .ref (a 4), .ref (a 5), .ref (a 6), .ref (a 7)]))], v 0, v 1, v 2, v 3, v 4, v 5, v 7]) rfl rfl ?_
  refine jJ_perm [1, 2, 3, 4, 5, 6, 7, 0, 8] (nn := 9) rfl (by decide) (cs2 := [[(h, .inr (2, [.ref (a 0), .ref (a 1), .ref (a 2), .ref (a 3), .ref (a 4), .ref (a 5), .ref (a 6), .ref (a 7)]))], v 0, v 1, v 2, v 3, v 4, v 5, v 6, v 7]) rfl ?_
  exact jJ_iret hx hb hr2 hlocks dX3_numberPlace_8 (by show _ ≤ 0; omega) (by show _ ≤ 0; omega) ⟨rfl, rfl, rfl, rfl⟩
theorem uX3_in_X3_target : ∀ w ∈ u_ws RX3 TX3 8, w ∈ wsX3_target := by decide +kernel
set_option maxHeartbeats 4000000 in
set_option maxRecDepth 100000 in
/-- c_Prog_target -/
theorem c_Prog_target {h P : Nat} {pr : Nat → List Int32} {w : va_W} (hw : jProg cI h P pr w) (j : Nat) (hj : j < 2147483648) : HM l yX3_target wsX3_target ({ frames := 1, cells := 0, slots := 0, locals := 40 } : Room) D G (jT cI cJ cB cZ) [.ref h, .int (nI j)] w (fun v u k n => v = some (.int ((pr 7).getD j 0)) ∧ u = w ∧ k = 0 ∧ n = 0) := by
  obtain ⟨a, q, v, rfl, hr, hP⟩ := hw
  refine HM_of (cc := cX3_target) (maxL := 2) (ret := (some .int)) (lv := [(0, .ref h), (1, .int (nI j))]) (by decide) rfl rfl (Nat.le_of_ble_eq_true rfl) (fun p e s m args below meth c A0 ls hx hb hr2 hts hown hlocks hml hnm hK hA hAm hl => ?_)
  refine jJ_open (xs := [[(h, .inr (2, [.ref (a 0), .ref (a 1), .ref (a 2), .ref (a 3), .ref (a 4), .ref (a 5), .ref (a 6), .ref (a 7)]))], v 0, v 1, v 2, v 3, v 4, v 5, v 6, v 7]) (r := []) (cs2 := [[(h, .inr (2, [.ref (a 0), .ref (a 1), .ref (a 2), .ref (a 3), .ref (a 4), .ref (a 5), .ref (a 6), .ref (a 7)]))], v 0, v 1, v 2, v 3, v 4, v 5, v 6, v 7]) rfl ?_
  refine jJ_of (fun H locs => lv_aload_n hx hb dX3_target_0 rfl (lv_at hl 0 rfl)) ?_
  refine jJ_get hx hb (C := RX3) (T := TX3) (N := 8) hts uX3_in_X3_target hown hK 0 rfl rfl 7 (by decide) (hts (.fieldLink RX3 38 "ValueBlocks$Program" "targets" "LValueBlocks$Row;") (by decide +kernel)) (fun _ h9 => h9) rfl dX3_target_1 ?_
  refine jJ_of (fun H locs => lv_iload_n hx hb dX3_target_4 rfl (lv_at hl 1 rfl)) ?_
  refine jJ_callV (As := [.int (nI j)]) (rest := []) (wc := _) (cs2 := [[(h, .inr (2, [.ref (a 0), .ref (a 1), .ref (a 2), .ref (a 3), .ref (a 4), .ref (a 5), .ref (a 6), .ref (a 7)]))], v 0, v 1, v 2, v 3, v 4, v 5, v 6]) (C := RX5) (T := TX5) (N := 3) (ci := 4) [8] [0, 1, 2, 3, 4, 5, 6, 7] ⟨hx, hb, hml, hown, hts⟩ hK hA hAm (c_Row_get (hr 7 (by decide)) j (by omega)) (cwV 1 hts gX3_target_X5_get rfl rfl rfl (by decide +kernel) ⟨Nat.le_of_ble_eq_true rfl, Nat.le_of_ble_eq_true rfl⟩) (nn := 9) rfl (by decide) rfl rfl (hr 7 (by decide)).hd rfl rfl rfl hl.1 (Nat.le_of_ble_eq_true rfl) dX3_target_5 (by show _ + 0 ≤ 0; omega) (by show _ + 0 ≤ 0; omega) (fun v u1 k1 n1 hq1 => ?_)
  obtain ⟨rfl, hw1, rfl, rfl⟩ := hq1
  rw [hw1]
  refine jJ_eq (g2 := F0 m 8 ls [.int ((pr 7).getD j 0)]) (cs2 := [v 7, [(h, .inr (2, [.ref (a 0), .ref (a 1), .ref (a 2), .ref (a 3), .ref (a 4), .ref (a 5), .ref (a 6), .ref (a 7)]))], v 0, v 1, v 2, v 3, v 4, v 5, v 6]) rfl rfl ?_
  refine jJ_perm [1, 2, 3, 4, 5, 6, 7, 8, 0] (nn := 9) rfl (by decide) (cs2 := [[(h, .inr (2, [.ref (a 0), .ref (a 1), .ref (a 2), .ref (a 3), .ref (a 4), .ref (a 5), .ref (a 6), .ref (a 7)]))], v 0, v 1, v 2, v 3, v 4, v 5, v 6, v 7]) rfl ?_
  exact jJ_iret hx hb hr2 hlocks dX3_target_8 (by show _ ≤ 0; omega) (by show _ ≤ 0; omega) ⟨rfl, rfl, rfl, rfl⟩
theorem uX3_in_X3_size : ∀ w ∈ u_ws RX3 TX3 8, w ∈ wsX3_size := by decide +kernel
set_option maxHeartbeats 4000000 in
set_option maxRecDepth 100000 in
/-- size() -/
theorem c_Prog_size {h P : Nat} {pr : Nat → List Int32} {w : va_W} (hw : jProg cI h P pr w) : HM l yX3_size wsX3_size ({ frames := 1, cells := 0, slots := 0, locals := 40 } : Room) D G (jT cI cJ cB cZ) [.ref h] w (fun v u k n => v = some (.int (nI (pr 1).length)) ∧ u = w ∧ k = 0 ∧ n = 0) := by
  obtain ⟨a, q, v, rfl, hr, hP⟩ := hw
  refine HM_of (cc := cX3_size) (maxL := 1) (ret := (some .int)) (lv := [(0, .ref h)]) (by decide) rfl rfl (Nat.le_of_ble_eq_true rfl) (fun p e s m args below meth c A0 ls hx hb hr2 hts hown hlocks hml hnm hK hA hAm hl => ?_)
  refine jJ_open (xs := [[(h, .inr (2, [.ref (a 0), .ref (a 1), .ref (a 2), .ref (a 3), .ref (a 4), .ref (a 5), .ref (a 6), .ref (a 7)]))], v 0, v 1, v 2, v 3, v 4, v 5, v 6, v 7]) (r := []) (cs2 := [[(h, .inr (2, [.ref (a 0), .ref (a 1), .ref (a 2), .ref (a 3), .ref (a 4), .ref (a 5), .ref (a 6), .ref (a 7)]))], v 0, v 1, v 2, v 3, v 4, v 5, v 6, v 7]) rfl ?_
  refine jJ_of (fun H locs => lv_aload_n hx hb dX3_size_0 rfl (lv_at hl 0 rfl)) ?_
  refine jJ_get hx hb (C := RX3) (T := TX3) (N := 8) hts uX3_in_X3_size hown hK 0 rfl rfl 1 (by decide) (hts (.fieldLink RX3 20 "ValueBlocks$Program" "starts" "LValueBlocks$Row;") (by decide +kernel)) (fun _ h9 => h9) rfl dX3_size_1 ?_
  refine jJ_callV (As := []) (rest := []) (wc := _) (cs2 := [[(h, .inr (2, [.ref (a 0), .ref (a 1), .ref (a 2), .ref (a 3), .ref (a 4), .ref (a 5), .ref (a 6), .ref (a 7)]))], v 0, v 2, v 3, v 4, v 5, v 6, v 7]) (C := RX5) (T := TX5) (N := 3) (ci := 4) [2] [0, 1, 3, 4, 5, 6, 7, 8] ⟨hx, hb, hml, hown, hts⟩ hK hA hAm (c_Row_size (hr 1 (by decide))) (cwV 0 hts gX3_size_X5_size rfl rfl rfl (by decide +kernel) ⟨Nat.le_of_ble_eq_true rfl, Nat.le_of_ble_eq_true rfl⟩) (nn := 9) rfl (by decide) rfl rfl (hr 1 (by decide)).hd rfl rfl rfl hl.1 (Nat.le_of_ble_eq_true rfl) dX3_size_4 (by show _ + 0 ≤ 0; omega) (by show _ + 0 ≤ 0; omega) (fun v u1 k1 n1 hq1 => ?_)
  obtain ⟨rfl, hw1, rfl, rfl⟩ := hq1
  rw [hw1]
  refine jJ_eq (g2 := F0 m 7 ls [.int (nI ((pr 1).length))]) (cs2 := [v 1, [(h, .inr (2, [.ref (a 0), .ref (a 1), .ref (a 2), .ref (a 3), .ref (a 4), .ref (a 5), .ref (a 6), .ref (a 7)]))], v 0, v 2, v 3, v 4, v 5, v 6, v 7]) rfl rfl ?_
  refine jJ_perm [1, 2, 0, 3, 4, 5, 6, 7, 8] (nn := 9) rfl (by decide) (cs2 := [[(h, .inr (2, [.ref (a 0), .ref (a 1), .ref (a 2), .ref (a 3), .ref (a 4), .ref (a 5), .ref (a 6), .ref (a 7)]))], v 0, v 1, v 2, v 3, v 4, v 5, v 6, v 7]) rfl ?_
  exact jJ_iret hx hb hr2 hlocks dX3_size_7 (by show _ ≤ 0; omega) (by show _ ≤ 0; omega) ⟨rfl, rfl, rfl, rfl⟩
theorem uX3_in_X3_codeStart : ∀ w ∈ u_ws RX3 TX3 8, w ∈ wsX3_codeStart := by decide +kernel
set_option maxHeartbeats 4000000 in
set_option maxRecDepth 100000 in
/-- codeStart(j) -/
theorem c_Prog_codeStart {h P : Nat} {pr : Nat → List Int32} {w : va_W} (hw : jProg cI h P pr w) (j : Nat) (hj : j < 2147483648) : HM l yX3_codeStart wsX3_codeStart ({ frames := 2, cells := 0, slots := 0, locals := 80 } : Room) D G (jT cI cJ cB cZ) [.ref h, .int (nI j)] w (fun v u k n => v = some (.int (if j < (pr 1).length then (pr 1).getD j 0 else nI (pr 0).length)) ∧ u = w ∧ k = 0 ∧ n = 0) := by
  obtain ⟨a, q, v, rfl, hr, hP⟩ := hw
  have hlen1 := (hr 1 (by decide)).len
  have hlen0 := (hr 0 (by decide)).len
  refine HM_of (cc := cX3_codeStart) (maxL := 2) (ret := (some .int)) (lv := [(0, .ref h), (1, .int (nI j))]) (by decide) rfl rfl (Nat.le_of_ble_eq_true rfl) (fun p e s m args below meth c A0 ls hx hb hr2 hts hown hlocks hml hnm hK hA hAm hl => ?_)
  refine jJ_open (xs := [[(h, .inr (2, [.ref (a 0), .ref (a 1), .ref (a 2), .ref (a 3), .ref (a 4), .ref (a 5), .ref (a 6), .ref (a 7)]))], v 0, v 1, v 2, v 3, v 4, v 5, v 6, v 7]) (r := []) (cs2 := [[(h, .inr (2, [.ref (a 0), .ref (a 1), .ref (a 2), .ref (a 3), .ref (a 4), .ref (a 5), .ref (a 6), .ref (a 7)]))], v 0, v 1, v 2, v 3, v 4, v 5, v 6, v 7]) rfl ?_
  refine jJ_of (fun H locs => lv_iload_n hx hb dX3_codeStart_0 rfl (lv_at hl 1 rfl)) ?_
  refine jJ_of (fun H locs => lv_aload_n hx hb dX3_codeStart_1 rfl (lv_at hl 0 rfl)) ?_
  have hwz : jProg cI h _ pr (jF (jPw h a v)) := ⟨a, q, v, rfl, hr, rfl⟩
  refine jJ_callV (As := []) (rest := [.int (nI j)]) (wc := _) (cs2 := []) (C := RX3) (T := TX3) (N := 8) (ci := 2) [0, 1, 2, 3, 4, 5, 6, 7, 8] [] ⟨hx, hb, hml, hown, hts⟩ hK hA hAm (c_Prog_size hwz) (cwV 0 hts gX3_codeStart_X3_size rfl rfl rfl (by decide +kernel) ⟨Nat.le_of_ble_eq_true rfl, Nat.le_of_ble_eq_true rfl⟩) (nn := 9) rfl (by decide) rfl rfl hwz.hd rfl rfl rfl hl.1 (Nat.le_of_ble_eq_true rfl) dX3_codeStart_2 (by show _ + 0 ≤ 0; omega) (by show _ + 0 ≤ 0; omega) (fun v u1 k1 n1 hq1 => ?_)
  obtain ⟨rfl, rfl, rfl, rfl⟩ := hq1
  refine jJ_eq (g2 := F0 m 5 ls [.int (nI ((pr 1).length)), .int (nI j)]) (cs2 := [jF (jPw h a v)]) rfl rfl ?_
  refine jJ_open (xs := jPw h a v) (r := []) (cs2 := [[(h, .inr (2, [.ref (a 0), .ref (a 1), .ref (a 2), .ref (a 3), .ref (a 4), .ref (a 5), .ref (a 6), .ref (a 7)]))], v 0, v 1, v 2, v 3, v 4, v 5, v 6, v 7]) rfl ?_
  refine jJ_of2 (fun H locs => jn_icmp_ge (tgt := 19) hx hb dX3_codeStart_5 (by decide) (by omega) (by omega)) (fun c5 => ?_) (fun c5 => ?_)
  · refine jJ_of (fun H locs => lv_aload_n hx hb dX3_codeStart_19 rfl (lv_at hl 0 rfl)) ?_
    refine jJ_get hx hb (C := RX3) (T := TX3) (N := 8) hts uX3_in_X3_codeStart hown hK 0 rfl rfl 0 (by decide) (hts (.fieldLink RX3 14 "ValueBlocks$Program" "code" "LValueBlocks$Row;") (by decide +kernel)) (fun _ h9 => h9) rfl dX3_codeStart_20 ?_
    refine jJ_callV (As := []) (rest := []) (wc := _) (cs2 := [[(h, .inr (2, [.ref (a 0), .ref (a 1), .ref (a 2), .ref (a 3), .ref (a 4), .ref (a 5), .ref (a 6), .ref (a 7)]))], v 1, v 2, v 3, v 4, v 5, v 6, v 7]) (C := RX5) (T := TX5) (N := 3) (ci := 4) [1] [0, 2, 3, 4, 5, 6, 7, 8] ⟨hx, hb, hml, hown, hts⟩ hK hA hAm (c_Row_size (hr 0 (by decide))) (cwV 0 hts gX3_codeStart_X5_size rfl rfl rfl (by decide +kernel) ⟨Nat.le_of_ble_eq_true rfl, Nat.le_of_ble_eq_true rfl⟩) (nn := 9) rfl (by decide) rfl rfl (hr 0 (by decide)).hd rfl rfl rfl hl.1 (Nat.le_of_ble_eq_true rfl) dX3_codeStart_23 (by show _ + 0 ≤ 0; omega) (by show _ + 0 ≤ 0; omega) (fun v u2 k2 n2 hq2 => ?_)
    obtain ⟨rfl, hw2, rfl, rfl⟩ := hq2
    rw [hw2]
    refine jJ_eq (g2 := F0 m 26 ls [.int (nI ((pr 0).length))]) (cs2 := [v 0, [(h, .inr (2, [.ref (a 0), .ref (a 1), .ref (a 2), .ref (a 3), .ref (a 4), .ref (a 5), .ref (a 6), .ref (a 7)]))], v 1, v 2, v 3, v 4, v 5, v 6, v 7]) rfl rfl ?_
    refine jJ_perm [1, 0, 2, 3, 4, 5, 6, 7, 8] (nn := 9) rfl (by decide) (cs2 := [[(h, .inr (2, [.ref (a 0), .ref (a 1), .ref (a 2), .ref (a 3), .ref (a 4), .ref (a 5), .ref (a 6), .ref (a 7)]))], v 0, v 1, v 2, v 3, v 4, v 5, v 6, v 7]) rfl ?_
    exact jJ_iret hx hb hr2 hlocks dX3_codeStart_26 (by show _ ≤ 0; omega) (by show _ ≤ 0; omega) ⟨by rw [if_neg (by omega)], rfl, rfl, rfl⟩
  · refine jJ_of (fun H locs => lv_aload_n hx hb dX3_codeStart_8 rfl (lv_at hl 0 rfl)) ?_
    refine jJ_get hx hb (C := RX3) (T := TX3) (N := 8) hts uX3_in_X3_codeStart hown hK 0 rfl rfl 1 (by decide) (hts (.fieldLink RX3 20 "ValueBlocks$Program" "starts" "LValueBlocks$Row;") (by decide +kernel)) (fun _ h9 => h9) rfl dX3_codeStart_9 ?_
    refine jJ_of (fun H locs => lv_iload_n hx hb dX3_codeStart_12 rfl (lv_at hl 1 rfl)) ?_
    refine jJ_callV (As := [.int (nI j)]) (rest := []) (wc := _) (cs2 := [[(h, .inr (2, [.ref (a 0), .ref (a 1), .ref (a 2), .ref (a 3), .ref (a 4), .ref (a 5), .ref (a 6), .ref (a 7)]))], v 0, v 2, v 3, v 4, v 5, v 6, v 7]) (C := RX5) (T := TX5) (N := 3) (ci := 4) [2] [0, 1, 3, 4, 5, 6, 7, 8] ⟨hx, hb, hml, hown, hts⟩ hK hA hAm (c_Row_get (hr 1 (by decide)) j (by omega)) (cwV 1 hts gX3_codeStart_X5_get rfl rfl rfl (by decide +kernel) ⟨Nat.le_of_ble_eq_true rfl, Nat.le_of_ble_eq_true rfl⟩) (nn := 9) rfl (by decide) rfl rfl (hr 1 (by decide)).hd rfl rfl rfl hl.1 (Nat.le_of_ble_eq_true rfl) dX3_codeStart_13 (by show _ + 0 ≤ 0; omega) (by show _ + 0 ≤ 0; omega) (fun v u3 k3 n3 hq3 => ?_)
    obtain ⟨rfl, hw3, rfl, rfl⟩ := hq3
    rw [hw3]
    refine jJ_eq (g2 := F0 m 16 ls [.int ((pr 1).getD j 0)]) (cs2 := [v 1, [(h, .inr (2, [.ref (a 0), .ref (a 1), .ref (a 2), .ref (a 3), .ref (a 4), .ref (a 5), .ref (a 6), .ref (a 7)]))], v 0, v 2, v 3, v 4, v 5, v 6, v 7]) rfl rfl ?_
    refine jJ_of (fun H locs => lv_goto (tgt := 26) hx hb dX3_codeStart_16 (by decide)) ?_
    refine jJ_perm [1, 2, 0, 3, 4, 5, 6, 7, 8] (nn := 9) rfl (by decide) (cs2 := [[(h, .inr (2, [.ref (a 0), .ref (a 1), .ref (a 2), .ref (a 3), .ref (a 4), .ref (a 5), .ref (a 6), .ref (a 7)]))], v 0, v 1, v 2, v 3, v 4, v 5, v 6, v 7]) rfl ?_
    exact jJ_iret hx hb hr2 hlocks dX3_codeStart_26 (by show _ ≤ 0; omega) (by show _ ≤ 0; omega) ⟨by rw [if_pos (by omega)], rfl, rfl, rfl⟩
theorem uX3_in_X3_aim : ∀ w ∈ u_ws RX3 TX3 8, w ∈ wsX3_aim := by decide +kernel
set_option maxHeartbeats 4000000 in
set_option maxRecDepth 100000 in
/-- aim(j, x) -/
theorem c_Prog_aim {h P : Nat} {pr : Nat → List Int32} {w : va_W} (hw : jProg cI h P pr w) (j : Nat) (x : Int32) (hj : j < 2147483648) : HM l yX3_aim wsX3_aim ({ frames := 1, cells := 0, slots := 0, locals := 40 } : Room) D G (jT cI cJ cB cZ) [.ref h, .int (nI j), .int x] w (fun v u k n => v = none ∧ jProg cI h P (va_up pr 7 ((pr 7).set j x)) u ∧ k = 0 ∧ n = 0) := by
  obtain ⟨a, q, v, rfl, hr, hP⟩ := hw
  refine HM_of (cc := cX3_aim) (maxL := 3) (ret := none) (lv := [(0, .ref h), (1, .int (nI j)), (2, .int x)]) (by decide) rfl rfl (Nat.le_of_ble_eq_true rfl) (fun p e s m args below meth c A0 ls hx hb hr2 hts hown hlocks hml hnm hK hA hAm hl => ?_)
  refine jJ_open (xs := [[(h, .inr (2, [.ref (a 0), .ref (a 1), .ref (a 2), .ref (a 3), .ref (a 4), .ref (a 5), .ref (a 6), .ref (a 7)]))], v 0, v 1, v 2, v 3, v 4, v 5, v 6, v 7]) (r := []) (cs2 := [[(h, .inr (2, [.ref (a 0), .ref (a 1), .ref (a 2), .ref (a 3), .ref (a 4), .ref (a 5), .ref (a 6), .ref (a 7)]))], v 0, v 1, v 2, v 3, v 4, v 5, v 6, v 7]) rfl ?_
  refine jJ_of (fun H locs => lv_aload_n hx hb dX3_aim_0 rfl (lv_at hl 0 rfl)) ?_
  refine jJ_get hx hb (C := RX3) (T := TX3) (N := 8) hts uX3_in_X3_aim hown hK 0 rfl rfl 7 (by decide) (hts (.fieldLink RX3 38 "ValueBlocks$Program" "targets" "LValueBlocks$Row;") (by decide +kernel)) (fun _ h9 => h9) rfl dX3_aim_1 ?_
  refine jJ_of (fun H locs => lv_iload_n hx hb dX3_aim_4 rfl (lv_at hl 1 rfl)) ?_
  refine jJ_of (fun H locs => lv_iload_n hx hb dX3_aim_5 rfl (lv_at hl 2 rfl)) ?_
  refine jJ_callV (As := [.int (nI j), .int x]) (rest := []) (wc := _) (cs2 := [[(h, .inr (2, [.ref (a 0), .ref (a 1), .ref (a 2), .ref (a 3), .ref (a 4), .ref (a 5), .ref (a 6), .ref (a 7)]))], v 0, v 1, v 2, v 3, v 4, v 5, v 6]) (C := RX5) (T := TX5) (N := 3) (ci := 4) [8] [0, 1, 2, 3, 4, 5, 6, 7] ⟨hx, hb, hml, hown, hts⟩ hK hA hAm (c_Row_set (hr 7 (by decide)) j x (by omega)) (cwV 2 hts gX3_aim_X5_set rfl rfl rfl (by decide +kernel) ⟨Nat.le_of_ble_eq_true rfl, Nat.le_of_ble_eq_true rfl⟩) (nn := 9) rfl (by decide) rfl rfl (hr 7 (by decide)).hd rfl rfl rfl hl.1 (Nat.le_of_ble_eq_true rfl) dX3_aim_6 (by show _ + 0 ≤ 0; omega) (by show _ + 0 ≤ 0; omega) (fun v u1 k1 n1 hq1 => ?_)
  obtain ⟨rfl, hu1, rfl, rfl⟩ := hq1
  refine jJ_eq (g2 := F0 m 9 ls []) (cs2 := [u1, [(h, .inr (2, [.ref (a 0), .ref (a 1), .ref (a 2), .ref (a 3), .ref (a 4), .ref (a 5), .ref (a 6), .ref (a 7)]))], v 0, v 1, v 2, v 3, v 4, v 5, v 6]) rfl rfl ?_
  refine jJ_perm [1, 2, 3, 4, 5, 6, 7, 8, 0] (nn := 9) rfl (by decide) (cs2 := [[(h, .inr (2, [.ref (a 0), .ref (a 1), .ref (a 2), .ref (a 3), .ref (a 4), .ref (a 5), .ref (a 6), .ref (a 7)]))], v 0, v 1, v 2, v 3, v 4, v 5, v 6, u1]) rfl ?_
  have hR1 := jrows_upd hr 7 hu1
  exact jJ_vret hx hb hr2 hlocks dX3_aim_9 (by show _ ≤ 0; omega) (by show _ ≤ 0; omega) ⟨rfl, ⟨a, _, _, rfl, hR1, by rw [hP]; simp [va_up]⟩, rfl, rfl⟩
theorem uX3_in_X3_labelLine : ∀ w ∈ u_ws RX3 TX3 8, w ∈ wsX3_labelLine := by decide +kernel
set_option maxHeartbeats 4000000 in
set_option maxRecDepth 100000 in
/-- labelLine(x, y) -/
theorem c_Prog_labelLine {h P : Nat} {pr : Nat → List Int32} {w : va_W} (hw : jProg cI h P pr w) (x y : Int32) (h1 : 0 < (pr 1).length) : HM l yX3_labelLine wsX3_labelLine ({ frames := 2, cells := 0, slots := 0, locals := 80 } : Room) D G (jT cI cJ cB cZ) [.ref h, .int x, .int y] w (fun v u k n => v = none ∧ jProg cI h P (va_up (va_up pr 3 ((pr 3).set ((pr 1).length - 1) x)) 4 ((pr 4).set ((pr 1).length - 1) y)) u ∧ k = 0 ∧ n = 0) := by
  obtain ⟨a, q, v, rfl, hr, hP⟩ := hw
  have hlen1 := (hr 1 (by decide)).len
  refine HM_of (cc := cX3_labelLine) (maxL := 3) (ret := none) (lv := [(0, .ref h), (1, .int x), (2, .int y)]) (by decide) rfl rfl (Nat.le_of_ble_eq_true rfl) (fun p e s m args below meth c A0 ls hx hb hr2 hts hown hlocks hml hnm hK hA hAm hl => ?_)
  refine jJ_open (xs := [[(h, .inr (2, [.ref (a 0), .ref (a 1), .ref (a 2), .ref (a 3), .ref (a 4), .ref (a 5), .ref (a 6), .ref (a 7)]))], v 0, v 1, v 2, v 3, v 4, v 5, v 6, v 7]) (r := []) (cs2 := [[(h, .inr (2, [.ref (a 0), .ref (a 1), .ref (a 2), .ref (a 3), .ref (a 4), .ref (a 5), .ref (a 6), .ref (a 7)]))], v 0, v 1, v 2, v 3, v 4, v 5, v 6, v 7]) rfl ?_
  refine jJ_of (fun H locs => lv_aload_n hx hb dX3_labelLine_0 rfl (lv_at hl 0 rfl)) ?_
  refine jJ_get hx hb (C := RX3) (T := TX3) (N := 8) hts uX3_in_X3_labelLine hown hK 0 rfl rfl 3 (by decide) (hts (.fieldLink RX3 26 "ValueBlocks$Program" "labels" "LValueBlocks$Row;") (by decide +kernel)) (fun _ h9 => h9) rfl dX3_labelLine_1 ?_
  refine jJ_of (fun H locs => lv_aload_n hx hb dX3_labelLine_4 rfl (lv_at hl 0 rfl)) ?_
  have hwz : jProg cI h _ pr (jF (jPw h a v)) := ⟨a, q, v, rfl, hr, rfl⟩
  refine jJ_callV (As := []) (rest := [.ref (a 3)]) (wc := _) (cs2 := []) (C := RX3) (T := TX3) (N := 8) (ci := 2) [0, 1, 2, 3, 4, 5, 6, 7, 8] [] ⟨hx, hb, hml, hown, hts⟩ hK hA hAm (c_Prog_size hwz) (cwV 0 hts gX3_labelLine_X3_size rfl rfl rfl (by decide +kernel) ⟨Nat.le_of_ble_eq_true rfl, Nat.le_of_ble_eq_true rfl⟩) (nn := 9) rfl (by decide) rfl rfl hwz.hd rfl rfl rfl hl.1 (Nat.le_of_ble_eq_true rfl) dX3_labelLine_5 (by show _ + 0 ≤ 0; omega) (by show _ + 0 ≤ 0; omega) (fun v u1 k1 n1 hq1 => ?_)
  obtain ⟨rfl, rfl, rfl, rfl⟩ := hq1
  refine jJ_eq (g2 := F0 m 8 ls [.int (nI ((pr 1).length)), .ref (a 3)]) (cs2 := [jF (jPw h a v)]) rfl rfl ?_
  refine jJ_open (xs := jPw h a v) (r := []) (cs2 := [[(h, .inr (2, [.ref (a 0), .ref (a 1), .ref (a 2), .ref (a 3), .ref (a 4), .ref (a 5), .ref (a 6), .ref (a 7)]))], v 0, v 1, v 2, v 3, v 4, v 5, v 6, v 7]) rfl ?_
  refine jJ_of (fun H locs => lv_iconst (v := (nI 1)) hx hb dX3_labelLine_8 (by decide)) ?_
  refine jJ_of (fun H locs => jn_isub hx hb dX3_labelLine_9 (by omega)) ?_
  refine jJ_of (fun H locs => lv_iload_n hx hb dX3_labelLine_10 rfl (lv_at hl 1 rfl)) ?_
  refine jJ_callV (As := [.int (nI (((pr 1).length) - 1)), .int x]) (rest := []) (wc := _) (cs2 := [[(h, .inr (2, [.ref (a 0), .ref (a 1), .ref (a 2), .ref (a 3), .ref (a 4), .ref (a 5), .ref (a 6), .ref (a 7)]))], v 0, v 1, v 2, v 4, v 5, v 6, v 7]) (C := RX5) (T := TX5) (N := 3) (ci := 4) [4] [0, 1, 2, 3, 5, 6, 7, 8] ⟨hx, hb, hml, hown, hts⟩ hK hA hAm (c_Row_set (hr 3 (by decide)) (((pr 1).length) - 1) x (by omega)) (cwV 2 hts gX3_labelLine_X5_set rfl rfl rfl (by decide +kernel) ⟨Nat.le_of_ble_eq_true rfl, Nat.le_of_ble_eq_true rfl⟩) (nn := 9) rfl (by decide) rfl rfl (hr 3 (by decide)).hd rfl rfl rfl hl.1 (Nat.le_of_ble_eq_true rfl) dX3_labelLine_11 (by show _ + 0 ≤ 0; omega) (by show _ + 0 ≤ 0; omega) (fun v u2 k2 n2 hq2 => ?_)
  obtain ⟨rfl, hu2, rfl, rfl⟩ := hq2
  refine jJ_eq (g2 := F0 m 14 ls []) (cs2 := [u2, [(h, .inr (2, [.ref (a 0), .ref (a 1), .ref (a 2), .ref (a 3), .ref (a 4), .ref (a 5), .ref (a 6), .ref (a 7)]))], v 0, v 1, v 2, v 4, v 5, v 6, v 7]) rfl rfl ?_
  refine jJ_of (fun H locs => lv_aload_n hx hb dX3_labelLine_14 rfl (lv_at hl 0 rfl)) ?_
  refine jJ_get hx hb (C := RX3) (T := TX3) (N := 8) hts uX3_in_X3_labelLine hown hK 1 rfl rfl 4 (by decide) (hts (.fieldLink RX3 29 "ValueBlocks$Program" "labelPlaces" "LValueBlocks$Row;") (by decide +kernel)) (fun _ h9 => h9) rfl dX3_labelLine_15 ?_
  refine jJ_of (fun H locs => lv_aload_n hx hb dX3_labelLine_18 rfl (lv_at hl 0 rfl)) ?_
  refine jJ_perm [1, 2, 3, 4, 0, 5, 6, 7, 8] (nn := 9) rfl (by decide) (cs2 := [[(h, .inr (2, [.ref (a 0), .ref (a 1), .ref (a 2), .ref (a 3), .ref (a 4), .ref (a 5), .ref (a 6), .ref (a 7)]))], v 0, v 1, v 2, u2, v 4, v 5, v 6, v 7]) rfl ?_
  have hR1 := jrows_upd hr 3 hu2
  have hwz : jProg cI h _ (va_up pr 3 ((pr 3).set (((pr 1).length) - 1) x)) (jF (jPw h a (va_up v 3 u2))) := ⟨a, (va_up q 3 (q 3)), (va_up v 3 u2), rfl, hR1, rfl⟩
  refine jJ_callV (As := []) (rest := [.ref (a 4)]) (wc := _) (cs2 := []) (C := RX3) (T := TX3) (N := 8) (ci := 2) [0, 1, 2, 3, 4, 5, 6, 7, 8] [] ⟨hx, hb, hml, hown, hts⟩ hK hA hAm (c_Prog_size hwz) (cwV 0 hts gX3_labelLine_X3_size rfl rfl rfl (by decide +kernel) ⟨Nat.le_of_ble_eq_true rfl, Nat.le_of_ble_eq_true rfl⟩) (nn := 9) rfl (by decide) rfl rfl hwz.hd rfl rfl rfl hl.1 (Nat.le_of_ble_eq_true rfl) dX3_labelLine_19 (by show _ + 0 ≤ 0; omega) (by show _ + 0 ≤ 0; omega) (fun v u3 k3 n3 hq3 => ?_)
  obtain ⟨rfl, rfl, rfl, rfl⟩ := hq3
  refine jJ_eq (g2 := F0 m 22 ls [.int (nI ((pr 1).length)), .ref (a 4)]) (cs2 := [jF (jPw h a (va_up v 3 u2))]) rfl rfl ?_
  refine jJ_open (xs := jPw h a (va_up v 3 u2)) (r := []) (cs2 := [[(h, .inr (2, [.ref (a 0), .ref (a 1), .ref (a 2), .ref (a 3), .ref (a 4), .ref (a 5), .ref (a 6), .ref (a 7)]))], v 0, v 1, v 2, u2, v 4, v 5, v 6, v 7]) rfl ?_
  refine jJ_of (fun H locs => lv_iconst (v := (nI 1)) hx hb dX3_labelLine_22 (by decide)) ?_
  refine jJ_of (fun H locs => jn_isub hx hb dX3_labelLine_23 (by omega)) ?_
  refine jJ_of (fun H locs => lv_iload_n hx hb dX3_labelLine_24 rfl (lv_at hl 2 rfl)) ?_
  refine jJ_callV (As := [.int (nI (((pr 1).length) - 1)), .int y]) (rest := []) (wc := _) (cs2 := [[(h, .inr (2, [.ref (a 0), .ref (a 1), .ref (a 2), .ref (a 3), .ref (a 4), .ref (a 5), .ref (a 6), .ref (a 7)]))], v 0, v 1, v 2, u2, v 5, v 6, v 7]) (C := RX5) (T := TX5) (N := 3) (ci := 4) [5] [0, 1, 2, 3, 4, 6, 7, 8] ⟨hx, hb, hml, hown, hts⟩ hK hA hAm (c_Row_set (hr 4 (by decide)) (((pr 1).length) - 1) y (by omega)) (cwV 2 hts gX3_labelLine_X5_set rfl rfl rfl (by decide +kernel) ⟨Nat.le_of_ble_eq_true rfl, Nat.le_of_ble_eq_true rfl⟩) (nn := 9) rfl (by decide) rfl rfl (hr 4 (by decide)).hd rfl rfl rfl hl.1 (Nat.le_of_ble_eq_true rfl) dX3_labelLine_25 (by show _ + 0 ≤ 0; omega) (by show _ + 0 ≤ 0; omega) (fun v u4 k4 n4 hq4 => ?_)
  obtain ⟨rfl, hu4, rfl, rfl⟩ := hq4
  refine jJ_eq (g2 := F0 m 28 ls []) (cs2 := [u4, [(h, .inr (2, [.ref (a 0), .ref (a 1), .ref (a 2), .ref (a 3), .ref (a 4), .ref (a 5), .ref (a 6), .ref (a 7)]))], v 0, v 1, v 2, u2, v 5, v 6, v 7]) rfl rfl ?_
  refine jJ_perm [1, 2, 3, 4, 5, 0, 6, 7, 8] (nn := 9) rfl (by decide) (cs2 := [[(h, .inr (2, [.ref (a 0), .ref (a 1), .ref (a 2), .ref (a 3), .ref (a 4), .ref (a 5), .ref (a 6), .ref (a 7)]))], v 0, v 1, v 2, u2, u4, v 5, v 6, v 7]) rfl ?_
  have hR1 := jrows_upd hr 3 hu2
  have hR2 := jrows_upd hR1 4 hu4
  exact jJ_vret hx hb hr2 hlocks dX3_labelLine_28 (by show _ ≤ 0; omega) (by show _ ≤ 0; omega) ⟨rfl, ⟨a, _, _, rfl, hR2, by rw [hP]; simp [va_up]⟩, rfl, rfl⟩
theorem uX3_in_X3_closeLine : ∀ w ∈ u_ws RX3 TX3 8, w ∈ wsX3_closeLine := by decide +kernel
set_option maxHeartbeats 4000000 in
set_option maxRecDepth 100000 in
/-- closeLine(x, y, z) -/
theorem c_Prog_closeLine {h P : Nat} {pr : Nat → List Int32} {w : va_W} (hw : jProg cI h P pr w) (x y z : Int32) (h1 : 0 < (pr 1).length) : HM l yX3_closeLine wsX3_closeLine ({ frames := 2, cells := 0, slots := 0, locals := 80 } : Room) D G (jT cI cJ cB cZ) [.ref h, .int x, .int y, .int z] w (fun v u k n => v = none ∧ jProg cI h P (va_up (va_up (va_up pr 2 ((pr 2).set ((pr 1).length - 1) x)) 5 ((pr 5).set ((pr 1).length - 1) y)) 6 ((pr 6).set ((pr 1).length - 1) z)) u ∧ k = 0 ∧ n = 0) := by
  obtain ⟨a, q, v, rfl, hr, hP⟩ := hw
  have hlen1 := (hr 1 (by decide)).len
  refine HM_of (cc := cX3_closeLine) (maxL := 4) (ret := none) (lv := [(0, .ref h), (1, .int x), (2, .int y), (3, .int z)]) (by decide) rfl rfl (Nat.le_of_ble_eq_true rfl) (fun p e s m args below meth c A0 ls hx hb hr2 hts hown hlocks hml hnm hK hA hAm hl => ?_)
  refine jJ_open (xs := [[(h, .inr (2, [.ref (a 0), .ref (a 1), .ref (a 2), .ref (a 3), .ref (a 4), .ref (a 5), .ref (a 6), .ref (a 7)]))], v 0, v 1, v 2, v 3, v 4, v 5, v 6, v 7]) (r := []) (cs2 := [[(h, .inr (2, [.ref (a 0), .ref (a 1), .ref (a 2), .ref (a 3), .ref (a 4), .ref (a 5), .ref (a 6), .ref (a 7)]))], v 0, v 1, v 2, v 3, v 4, v 5, v 6, v 7]) rfl ?_
  refine jJ_of (fun H locs => lv_aload_n hx hb dX3_closeLine_0 rfl (lv_at hl 0 rfl)) ?_
  refine jJ_get hx hb (C := RX3) (T := TX3) (N := 8) hts uX3_in_X3_closeLine hown hK 0 rfl rfl 2 (by decide) (hts (.fieldLink RX3 23 "ValueBlocks$Program" "kinds" "LValueBlocks$Row;") (by decide +kernel)) (fun _ h9 => h9) rfl dX3_closeLine_1 ?_
  refine jJ_of (fun H locs => lv_aload_n hx hb dX3_closeLine_4 rfl (lv_at hl 0 rfl)) ?_
  have hwz : jProg cI h _ pr (jF (jPw h a v)) := ⟨a, q, v, rfl, hr, rfl⟩
  refine jJ_callV (As := []) (rest := [.ref (a 2)]) (wc := _) (cs2 := []) (C := RX3) (T := TX3) (N := 8) (ci := 2) [0, 1, 2, 3, 4, 5, 6, 7, 8] [] ⟨hx, hb, hml, hown, hts⟩ hK hA hAm (c_Prog_size hwz) (cwV 0 hts gX3_closeLine_X3_size rfl rfl rfl (by decide +kernel) ⟨Nat.le_of_ble_eq_true rfl, Nat.le_of_ble_eq_true rfl⟩) (nn := 9) rfl (by decide) rfl rfl hwz.hd rfl rfl rfl hl.1 (Nat.le_of_ble_eq_true rfl) dX3_closeLine_5 (by show _ + 0 ≤ 0; omega) (by show _ + 0 ≤ 0; omega) (fun v u1 k1 n1 hq1 => ?_)
  obtain ⟨rfl, rfl, rfl, rfl⟩ := hq1
  refine jJ_eq (g2 := F0 m 8 ls [.int (nI ((pr 1).length)), .ref (a 2)]) (cs2 := [jF (jPw h a v)]) rfl rfl ?_
  refine jJ_open (xs := jPw h a v) (r := []) (cs2 := [[(h, .inr (2, [.ref (a 0), .ref (a 1), .ref (a 2), .ref (a 3), .ref (a 4), .ref (a 5), .ref (a 6), .ref (a 7)]))], v 0, v 1, v 2, v 3, v 4, v 5, v 6, v 7]) rfl ?_
  refine jJ_of (fun H locs => lv_iconst (v := (nI 1)) hx hb dX3_closeLine_8 (by decide)) ?_
  refine jJ_of (fun H locs => jn_isub hx hb dX3_closeLine_9 (by omega)) ?_
  refine jJ_of (fun H locs => lv_iload_n hx hb dX3_closeLine_10 rfl (lv_at hl 1 rfl)) ?_
  refine jJ_callV (As := [.int (nI (((pr 1).length) - 1)), .int x]) (rest := []) (wc := _) (cs2 := [[(h, .inr (2, [.ref (a 0), .ref (a 1), .ref (a 2), .ref (a 3), .ref (a 4), .ref (a 5), .ref (a 6), .ref (a 7)]))], v 0, v 1, v 3, v 4, v 5, v 6, v 7]) (C := RX5) (T := TX5) (N := 3) (ci := 4) [3] [0, 1, 2, 4, 5, 6, 7, 8] ⟨hx, hb, hml, hown, hts⟩ hK hA hAm (c_Row_set (hr 2 (by decide)) (((pr 1).length) - 1) x (by omega)) (cwV 2 hts gX3_closeLine_X5_set rfl rfl rfl (by decide +kernel) ⟨Nat.le_of_ble_eq_true rfl, Nat.le_of_ble_eq_true rfl⟩) (nn := 9) rfl (by decide) rfl rfl (hr 2 (by decide)).hd rfl rfl rfl hl.1 (Nat.le_of_ble_eq_true rfl) dX3_closeLine_11 (by show _ + 0 ≤ 0; omega) (by show _ + 0 ≤ 0; omega) (fun v u2 k2 n2 hq2 => ?_)
  obtain ⟨rfl, hu2, rfl, rfl⟩ := hq2
  refine jJ_eq (g2 := F0 m 14 ls []) (cs2 := [u2, [(h, .inr (2, [.ref (a 0), .ref (a 1), .ref (a 2), .ref (a 3), .ref (a 4), .ref (a 5), .ref (a 6), .ref (a 7)]))], v 0, v 1, v 3, v 4, v 5, v 6, v 7]) rfl rfl ?_
  refine jJ_of (fun H locs => lv_aload_n hx hb dX3_closeLine_14 rfl (lv_at hl 0 rfl)) ?_
  refine jJ_get hx hb (C := RX3) (T := TX3) (N := 8) hts uX3_in_X3_closeLine hown hK 1 rfl rfl 5 (by decide) (hts (.fieldLink RX3 32 "ValueBlocks$Program" "numbers" "LValueBlocks$Row;") (by decide +kernel)) (fun _ h9 => h9) rfl dX3_closeLine_15 ?_
  refine jJ_of (fun H locs => lv_aload_n hx hb dX3_closeLine_18 rfl (lv_at hl 0 rfl)) ?_
  refine jJ_perm [1, 2, 3, 0, 4, 5, 6, 7, 8] (nn := 9) rfl (by decide) (cs2 := [[(h, .inr (2, [.ref (a 0), .ref (a 1), .ref (a 2), .ref (a 3), .ref (a 4), .ref (a 5), .ref (a 6), .ref (a 7)]))], v 0, v 1, u2, v 3, v 4, v 5, v 6, v 7]) rfl ?_
  have hR1 := jrows_upd hr 2 hu2
  have hwz : jProg cI h _ (va_up pr 2 ((pr 2).set (((pr 1).length) - 1) x)) (jF (jPw h a (va_up v 2 u2))) := ⟨a, (va_up q 2 (q 2)), (va_up v 2 u2), rfl, hR1, rfl⟩
  refine jJ_callV (As := []) (rest := [.ref (a 5)]) (wc := _) (cs2 := []) (C := RX3) (T := TX3) (N := 8) (ci := 2) [0, 1, 2, 3, 4, 5, 6, 7, 8] [] ⟨hx, hb, hml, hown, hts⟩ hK hA hAm (c_Prog_size hwz) (cwV 0 hts gX3_closeLine_X3_size rfl rfl rfl (by decide +kernel) ⟨Nat.le_of_ble_eq_true rfl, Nat.le_of_ble_eq_true rfl⟩) (nn := 9) rfl (by decide) rfl rfl hwz.hd rfl rfl rfl hl.1 (Nat.le_of_ble_eq_true rfl) dX3_closeLine_19 (by show _ + 0 ≤ 0; omega) (by show _ + 0 ≤ 0; omega) (fun v u3 k3 n3 hq3 => ?_)
  obtain ⟨rfl, rfl, rfl, rfl⟩ := hq3
  refine jJ_eq (g2 := F0 m 22 ls [.int (nI ((pr 1).length)), .ref (a 5)]) (cs2 := [jF (jPw h a (va_up v 2 u2))]) rfl rfl ?_
  refine jJ_open (xs := jPw h a (va_up v 2 u2)) (r := []) (cs2 := [[(h, .inr (2, [.ref (a 0), .ref (a 1), .ref (a 2), .ref (a 3), .ref (a 4), .ref (a 5), .ref (a 6), .ref (a 7)]))], v 0, v 1, u2, v 3, v 4, v 5, v 6, v 7]) rfl ?_
  refine jJ_of (fun H locs => lv_iconst (v := (nI 1)) hx hb dX3_closeLine_22 (by decide)) ?_
  refine jJ_of (fun H locs => jn_isub hx hb dX3_closeLine_23 (by omega)) ?_
  refine jJ_of (fun H locs => lv_iload_n hx hb dX3_closeLine_24 rfl (lv_at hl 2 rfl)) ?_
  refine jJ_callV (As := [.int (nI (((pr 1).length) - 1)), .int y]) (rest := []) (wc := _) (cs2 := [[(h, .inr (2, [.ref (a 0), .ref (a 1), .ref (a 2), .ref (a 3), .ref (a 4), .ref (a 5), .ref (a 6), .ref (a 7)]))], v 0, v 1, u2, v 3, v 4, v 6, v 7]) (C := RX5) (T := TX5) (N := 3) (ci := 4) [6] [0, 1, 2, 3, 4, 5, 7, 8] ⟨hx, hb, hml, hown, hts⟩ hK hA hAm (c_Row_set (hr 5 (by decide)) (((pr 1).length) - 1) y (by omega)) (cwV 2 hts gX3_closeLine_X5_set rfl rfl rfl (by decide +kernel) ⟨Nat.le_of_ble_eq_true rfl, Nat.le_of_ble_eq_true rfl⟩) (nn := 9) rfl (by decide) rfl rfl (hr 5 (by decide)).hd rfl rfl rfl hl.1 (Nat.le_of_ble_eq_true rfl) dX3_closeLine_25 (by show _ + 0 ≤ 0; omega) (by show _ + 0 ≤ 0; omega) (fun v u4 k4 n4 hq4 => ?_)
  obtain ⟨rfl, hu4, rfl, rfl⟩ := hq4
  refine jJ_eq (g2 := F0 m 28 ls []) (cs2 := [u4, [(h, .inr (2, [.ref (a 0), .ref (a 1), .ref (a 2), .ref (a 3), .ref (a 4), .ref (a 5), .ref (a 6), .ref (a 7)]))], v 0, v 1, u2, v 3, v 4, v 6, v 7]) rfl rfl ?_
  refine jJ_of (fun H locs => lv_aload_n hx hb dX3_closeLine_28 rfl (lv_at hl 0 rfl)) ?_
  refine jJ_get hx hb (C := RX3) (T := TX3) (N := 8) hts uX3_in_X3_closeLine hown hK 1 rfl rfl 6 (by decide) (hts (.fieldLink RX3 35 "ValueBlocks$Program" "numberPlaces" "LValueBlocks$Row;") (by decide +kernel)) (fun _ h9 => h9) rfl dX3_closeLine_29 ?_
  refine jJ_of (fun H locs => lv_aload_n hx hb dX3_closeLine_32 rfl (lv_at hl 0 rfl)) ?_
  refine jJ_perm [1, 2, 3, 4, 5, 6, 0, 7, 8] (nn := 9) rfl (by decide) (cs2 := [[(h, .inr (2, [.ref (a 0), .ref (a 1), .ref (a 2), .ref (a 3), .ref (a 4), .ref (a 5), .ref (a 6), .ref (a 7)]))], v 0, v 1, u2, v 3, v 4, u4, v 6, v 7]) rfl ?_
  have hR1 := jrows_upd hr 2 hu2
  have hR2 := jrows_upd hR1 5 hu4
  have hwz : jProg cI h _ (va_up (va_up pr 2 ((pr 2).set (((pr 1).length) - 1) x)) 5 ((pr 5).set (((pr 1).length) - 1) y)) (jF (jPw h a (va_up (va_up v 2 u2) 5 u4))) := ⟨a, (va_up (va_up q 2 (q 2)) 5 (q 5)), (va_up (va_up v 2 u2) 5 u4), rfl, hR2, rfl⟩
  refine jJ_callV (As := []) (rest := [.ref (a 6)]) (wc := _) (cs2 := []) (C := RX3) (T := TX3) (N := 8) (ci := 2) [0, 1, 2, 3, 4, 5, 6, 7, 8] [] ⟨hx, hb, hml, hown, hts⟩ hK hA hAm (c_Prog_size hwz) (cwV 0 hts gX3_closeLine_X3_size rfl rfl rfl (by decide +kernel) ⟨Nat.le_of_ble_eq_true rfl, Nat.le_of_ble_eq_true rfl⟩) (nn := 9) rfl (by decide) rfl rfl hwz.hd rfl rfl rfl hl.1 (Nat.le_of_ble_eq_true rfl) dX3_closeLine_33 (by show _ + 0 ≤ 0; omega) (by show _ + 0 ≤ 0; omega) (fun v u5 k5 n5 hq5 => ?_)
  obtain ⟨rfl, rfl, rfl, rfl⟩ := hq5
  refine jJ_eq (g2 := F0 m 36 ls [.int (nI ((pr 1).length)), .ref (a 6)]) (cs2 := [jF (jPw h a (va_up (va_up v 2 u2) 5 u4))]) rfl rfl ?_
  refine jJ_open (xs := jPw h a (va_up (va_up v 2 u2) 5 u4)) (r := []) (cs2 := [[(h, .inr (2, [.ref (a 0), .ref (a 1), .ref (a 2), .ref (a 3), .ref (a 4), .ref (a 5), .ref (a 6), .ref (a 7)]))], v 0, v 1, u2, v 3, v 4, u4, v 6, v 7]) rfl ?_
  refine jJ_of (fun H locs => lv_iconst (v := (nI 1)) hx hb dX3_closeLine_36 (by decide)) ?_
  refine jJ_of (fun H locs => jn_isub hx hb dX3_closeLine_37 (by omega)) ?_
  refine jJ_of (fun H locs => lv_iload_n hx hb dX3_closeLine_38 rfl (lv_at hl 3 rfl)) ?_
  refine jJ_callV (As := [.int (nI (((pr 1).length) - 1)), .int z]) (rest := []) (wc := _) (cs2 := [[(h, .inr (2, [.ref (a 0), .ref (a 1), .ref (a 2), .ref (a 3), .ref (a 4), .ref (a 5), .ref (a 6), .ref (a 7)]))], v 0, v 1, u2, v 3, v 4, u4, v 7]) (C := RX5) (T := TX5) (N := 3) (ci := 4) [7] [0, 1, 2, 3, 4, 5, 6, 8] ⟨hx, hb, hml, hown, hts⟩ hK hA hAm (c_Row_set (hr 6 (by decide)) (((pr 1).length) - 1) z (by omega)) (cwV 2 hts gX3_closeLine_X5_set rfl rfl rfl (by decide +kernel) ⟨Nat.le_of_ble_eq_true rfl, Nat.le_of_ble_eq_true rfl⟩) (nn := 9) rfl (by decide) rfl rfl (hr 6 (by decide)).hd rfl rfl rfl hl.1 (Nat.le_of_ble_eq_true rfl) dX3_closeLine_39 (by show _ + 0 ≤ 0; omega) (by show _ + 0 ≤ 0; omega) (fun v u6 k6 n6 hq6 => ?_)
  obtain ⟨rfl, hu6, rfl, rfl⟩ := hq6
  refine jJ_eq (g2 := F0 m 42 ls []) (cs2 := [u6, [(h, .inr (2, [.ref (a 0), .ref (a 1), .ref (a 2), .ref (a 3), .ref (a 4), .ref (a 5), .ref (a 6), .ref (a 7)]))], v 0, v 1, u2, v 3, v 4, u4, v 7]) rfl rfl ?_
  refine jJ_perm [1, 2, 3, 4, 5, 6, 7, 0, 8] (nn := 9) rfl (by decide) (cs2 := [[(h, .inr (2, [.ref (a 0), .ref (a 1), .ref (a 2), .ref (a 3), .ref (a 4), .ref (a 5), .ref (a 6), .ref (a 7)]))], v 0, v 1, u2, v 3, v 4, u4, u6, v 7]) rfl ?_
  have hR1 := jrows_upd hr 2 hu2
  have hR2 := jrows_upd hR1 5 hu4
  have hR3 := jrows_upd hR2 6 hu6
  exact jJ_vret hx hb hr2 hlocks dX3_closeLine_42 (by show _ ≤ 0; omega) (by show _ ≤ 0; omega) ⟨rfl, ⟨a, _, _, rfl, hR3, by rw [hP]; simp [va_up]⟩, rfl, rfl⟩
theorem uX3_in_X3_clear : ∀ w ∈ u_ws RX3 TX3 8, w ∈ wsX3_clear := by decide +kernel
set_option maxHeartbeats 4000000 in
set_option maxRecDepth 100000 in
/-- clear() -/
theorem c_Prog_clear {h P : Nat} {pr : Nat → List Int32} {w : va_W} (hw : jProg cI h P pr w) : HM l yX3_clear wsX3_clear ({ frames := 1, cells := 0, slots := 0, locals := 40 } : Room) D G (jT cI cJ cB cZ) [.ref h] w (fun v u k n => v = none ∧ jProg cI h P (fun _ => []) u ∧ k = 0 ∧ n = 0) := by
  obtain ⟨a, q, v, rfl, hr, hP⟩ := hw
  refine HM_of (cc := cX3_clear) (maxL := 1) (ret := none) (lv := [(0, .ref h)]) (by decide) rfl rfl (Nat.le_of_ble_eq_true rfl) (fun p e s m args below meth c A0 ls hx hb hr2 hts hown hlocks hml hnm hK hA hAm hl => ?_)
  refine jJ_open (xs := [[(h, .inr (2, [.ref (a 0), .ref (a 1), .ref (a 2), .ref (a 3), .ref (a 4), .ref (a 5), .ref (a 6), .ref (a 7)]))], v 0, v 1, v 2, v 3, v 4, v 5, v 6, v 7]) (r := []) (cs2 := [[(h, .inr (2, [.ref (a 0), .ref (a 1), .ref (a 2), .ref (a 3), .ref (a 4), .ref (a 5), .ref (a 6), .ref (a 7)]))], v 0, v 1, v 2, v 3, v 4, v 5, v 6, v 7]) rfl ?_
  refine jJ_of (fun H locs => lv_aload_n hx hb dX3_clear_0 rfl (lv_at hl 0 rfl)) ?_
  refine jJ_get hx hb (C := RX3) (T := TX3) (N := 8) hts uX3_in_X3_clear hown hK 0 rfl rfl 0 (by decide) (hts (.fieldLink RX3 14 "ValueBlocks$Program" "code" "LValueBlocks$Row;") (by decide +kernel)) (fun _ h9 => h9) rfl dX3_clear_1 ?_
  refine jJ_of (fun H locs => lv_iconst (v := (nI 0)) hx hb dX3_clear_4 (by decide)) ?_
  refine jJ_callV (As := [.int (nI 0)]) (rest := []) (wc := _) (cs2 := [[(h, .inr (2, [.ref (a 0), .ref (a 1), .ref (a 2), .ref (a 3), .ref (a 4), .ref (a 5), .ref (a 6), .ref (a 7)]))], v 1, v 2, v 3, v 4, v 5, v 6, v 7]) (C := RX5) (T := TX5) (N := 3) (ci := 4) [1] [0, 2, 3, 4, 5, 6, 7, 8] ⟨hx, hb, hml, hown, hts⟩ hK hA hAm (c_Row_cut (hr 0 (by decide)) 0 (by omega)) (cwV 1 hts gX3_clear_X5_cut rfl rfl rfl (by decide +kernel) ⟨Nat.le_of_ble_eq_true rfl, Nat.le_of_ble_eq_true rfl⟩) (nn := 9) rfl (by decide) rfl rfl (hr 0 (by decide)).hd rfl rfl rfl hl.1 (Nat.le_of_ble_eq_true rfl) dX3_clear_5 (by show _ + 0 ≤ 0; omega) (by show _ + 0 ≤ 0; omega) (fun v u1 k1 n1 hq1 => ?_)
  obtain ⟨rfl, hu1, rfl, rfl⟩ := hq1
  refine jJ_eq (g2 := F0 m 8 ls []) (cs2 := [u1, [(h, .inr (2, [.ref (a 0), .ref (a 1), .ref (a 2), .ref (a 3), .ref (a 4), .ref (a 5), .ref (a 6), .ref (a 7)]))], v 1, v 2, v 3, v 4, v 5, v 6, v 7]) rfl rfl ?_
  refine jJ_of (fun H locs => lv_aload_n hx hb dX3_clear_8 rfl (lv_at hl 0 rfl)) ?_
  refine jJ_get hx hb (C := RX3) (T := TX3) (N := 8) hts uX3_in_X3_clear hown hK 1 rfl rfl 1 (by decide) (hts (.fieldLink RX3 20 "ValueBlocks$Program" "starts" "LValueBlocks$Row;") (by decide +kernel)) (fun _ h9 => h9) rfl dX3_clear_9 ?_
  refine jJ_of (fun H locs => lv_iconst (v := (nI 0)) hx hb dX3_clear_12 (by decide)) ?_
  refine jJ_callV (As := [.int (nI 0)]) (rest := []) (wc := _) (cs2 := [u1, [(h, .inr (2, [.ref (a 0), .ref (a 1), .ref (a 2), .ref (a 3), .ref (a 4), .ref (a 5), .ref (a 6), .ref (a 7)]))], v 2, v 3, v 4, v 5, v 6, v 7]) (C := RX5) (T := TX5) (N := 3) (ci := 4) [2] [0, 1, 3, 4, 5, 6, 7, 8] ⟨hx, hb, hml, hown, hts⟩ hK hA hAm (c_Row_cut (hr 1 (by decide)) 0 (by omega)) (cwV 1 hts gX3_clear_X5_cut rfl rfl rfl (by decide +kernel) ⟨Nat.le_of_ble_eq_true rfl, Nat.le_of_ble_eq_true rfl⟩) (nn := 9) rfl (by decide) rfl rfl (hr 1 (by decide)).hd rfl rfl rfl hl.1 (Nat.le_of_ble_eq_true rfl) dX3_clear_13 (by show _ + 0 ≤ 0; omega) (by show _ + 0 ≤ 0; omega) (fun v u2 k2 n2 hq2 => ?_)
  obtain ⟨rfl, hu2, rfl, rfl⟩ := hq2
  refine jJ_eq (g2 := F0 m 16 ls []) (cs2 := [u2, u1, [(h, .inr (2, [.ref (a 0), .ref (a 1), .ref (a 2), .ref (a 3), .ref (a 4), .ref (a 5), .ref (a 6), .ref (a 7)]))], v 2, v 3, v 4, v 5, v 6, v 7]) rfl rfl ?_
  refine jJ_of (fun H locs => lv_aload_n hx hb dX3_clear_16 rfl (lv_at hl 0 rfl)) ?_
  refine jJ_get hx hb (C := RX3) (T := TX3) (N := 8) hts uX3_in_X3_clear hown hK 2 rfl rfl 2 (by decide) (hts (.fieldLink RX3 23 "ValueBlocks$Program" "kinds" "LValueBlocks$Row;") (by decide +kernel)) (fun _ h9 => h9) rfl dX3_clear_17 ?_
  refine jJ_of (fun H locs => lv_iconst (v := (nI 0)) hx hb dX3_clear_20 (by decide)) ?_
  refine jJ_callV (As := [.int (nI 0)]) (rest := []) (wc := _) (cs2 := [u2, u1, [(h, .inr (2, [.ref (a 0), .ref (a 1), .ref (a 2), .ref (a 3), .ref (a 4), .ref (a 5), .ref (a 6), .ref (a 7)]))], v 3, v 4, v 5, v 6, v 7]) (C := RX5) (T := TX5) (N := 3) (ci := 4) [3] [0, 1, 2, 4, 5, 6, 7, 8] ⟨hx, hb, hml, hown, hts⟩ hK hA hAm (c_Row_cut (hr 2 (by decide)) 0 (by omega)) (cwV 1 hts gX3_clear_X5_cut rfl rfl rfl (by decide +kernel) ⟨Nat.le_of_ble_eq_true rfl, Nat.le_of_ble_eq_true rfl⟩) (nn := 9) rfl (by decide) rfl rfl (hr 2 (by decide)).hd rfl rfl rfl hl.1 (Nat.le_of_ble_eq_true rfl) dX3_clear_21 (by show _ + 0 ≤ 0; omega) (by show _ + 0 ≤ 0; omega) (fun v u3 k3 n3 hq3 => ?_)
  obtain ⟨rfl, hu3, rfl, rfl⟩ := hq3
  refine jJ_eq (g2 := F0 m 24 ls []) (cs2 := [u3, u2, u1, [(h, .inr (2, [.ref (a 0), .ref (a 1), .ref (a 2), .ref (a 3), .ref (a 4), .ref (a 5), .ref (a 6), .ref (a 7)]))], v 3, v 4, v 5, v 6, v 7]) rfl rfl ?_
  refine jJ_of (fun H locs => lv_aload_n hx hb dX3_clear_24 rfl (lv_at hl 0 rfl)) ?_
  refine jJ_get hx hb (C := RX3) (T := TX3) (N := 8) hts uX3_in_X3_clear hown hK 3 rfl rfl 3 (by decide) (hts (.fieldLink RX3 26 "ValueBlocks$Program" "labels" "LValueBlocks$Row;") (by decide +kernel)) (fun _ h9 => h9) rfl dX3_clear_25 ?_
  refine jJ_of (fun H locs => lv_iconst (v := (nI 0)) hx hb dX3_clear_28 (by decide)) ?_
  refine jJ_callV (As := [.int (nI 0)]) (rest := []) (wc := _) (cs2 := [u3, u2, u1, [(h, .inr (2, [.ref (a 0), .ref (a 1), .ref (a 2), .ref (a 3), .ref (a 4), .ref (a 5), .ref (a 6), .ref (a 7)]))], v 4, v 5, v 6, v 7]) (C := RX5) (T := TX5) (N := 3) (ci := 4) [4] [0, 1, 2, 3, 5, 6, 7, 8] ⟨hx, hb, hml, hown, hts⟩ hK hA hAm (c_Row_cut (hr 3 (by decide)) 0 (by omega)) (cwV 1 hts gX3_clear_X5_cut rfl rfl rfl (by decide +kernel) ⟨Nat.le_of_ble_eq_true rfl, Nat.le_of_ble_eq_true rfl⟩) (nn := 9) rfl (by decide) rfl rfl (hr 3 (by decide)).hd rfl rfl rfl hl.1 (Nat.le_of_ble_eq_true rfl) dX3_clear_29 (by show _ + 0 ≤ 0; omega) (by show _ + 0 ≤ 0; omega) (fun v u4 k4 n4 hq4 => ?_)
  obtain ⟨rfl, hu4, rfl, rfl⟩ := hq4
  refine jJ_eq (g2 := F0 m 32 ls []) (cs2 := [u4, u3, u2, u1, [(h, .inr (2, [.ref (a 0), .ref (a 1), .ref (a 2), .ref (a 3), .ref (a 4), .ref (a 5), .ref (a 6), .ref (a 7)]))], v 4, v 5, v 6, v 7]) rfl rfl ?_
  refine jJ_of (fun H locs => lv_aload_n hx hb dX3_clear_32 rfl (lv_at hl 0 rfl)) ?_
  refine jJ_get hx hb (C := RX3) (T := TX3) (N := 8) hts uX3_in_X3_clear hown hK 4 rfl rfl 4 (by decide) (hts (.fieldLink RX3 29 "ValueBlocks$Program" "labelPlaces" "LValueBlocks$Row;") (by decide +kernel)) (fun _ h9 => h9) rfl dX3_clear_33 ?_
  refine jJ_of (fun H locs => lv_iconst (v := (nI 0)) hx hb dX3_clear_36 (by decide)) ?_
  refine jJ_callV (As := [.int (nI 0)]) (rest := []) (wc := _) (cs2 := [u4, u3, u2, u1, [(h, .inr (2, [.ref (a 0), .ref (a 1), .ref (a 2), .ref (a 3), .ref (a 4), .ref (a 5), .ref (a 6), .ref (a 7)]))], v 5, v 6, v 7]) (C := RX5) (T := TX5) (N := 3) (ci := 4) [5] [0, 1, 2, 3, 4, 6, 7, 8] ⟨hx, hb, hml, hown, hts⟩ hK hA hAm (c_Row_cut (hr 4 (by decide)) 0 (by omega)) (cwV 1 hts gX3_clear_X5_cut rfl rfl rfl (by decide +kernel) ⟨Nat.le_of_ble_eq_true rfl, Nat.le_of_ble_eq_true rfl⟩) (nn := 9) rfl (by decide) rfl rfl (hr 4 (by decide)).hd rfl rfl rfl hl.1 (Nat.le_of_ble_eq_true rfl) dX3_clear_37 (by show _ + 0 ≤ 0; omega) (by show _ + 0 ≤ 0; omega) (fun v u5 k5 n5 hq5 => ?_)
  obtain ⟨rfl, hu5, rfl, rfl⟩ := hq5
  refine jJ_eq (g2 := F0 m 40 ls []) (cs2 := [u5, u4, u3, u2, u1, [(h, .inr (2, [.ref (a 0), .ref (a 1), .ref (a 2), .ref (a 3), .ref (a 4), .ref (a 5), .ref (a 6), .ref (a 7)]))], v 5, v 6, v 7]) rfl rfl ?_
  refine jJ_of (fun H locs => lv_aload_n hx hb dX3_clear_40 rfl (lv_at hl 0 rfl)) ?_
  refine jJ_get hx hb (C := RX3) (T := TX3) (N := 8) hts uX3_in_X3_clear hown hK 5 rfl rfl 5 (by decide) (hts (.fieldLink RX3 32 "ValueBlocks$Program" "numbers" "LValueBlocks$Row;") (by decide +kernel)) (fun _ h9 => h9) rfl dX3_clear_41 ?_
  refine jJ_of (fun H locs => lv_iconst (v := (nI 0)) hx hb dX3_clear_44 (by decide)) ?_
  refine jJ_callV (As := [.int (nI 0)]) (rest := []) (wc := _) (cs2 := [u5, u4, u3, u2, u1, [(h, .inr (2, [.ref (a 0), .ref (a 1), .ref (a 2), .ref (a 3), .ref (a 4), .ref (a 5), .ref (a 6), .ref (a 7)]))], v 6, v 7]) (C := RX5) (T := TX5) (N := 3) (ci := 4) [6] [0, 1, 2, 3, 4, 5, 7, 8] ⟨hx, hb, hml, hown, hts⟩ hK hA hAm (c_Row_cut (hr 5 (by decide)) 0 (by omega)) (cwV 1 hts gX3_clear_X5_cut rfl rfl rfl (by decide +kernel) ⟨Nat.le_of_ble_eq_true rfl, Nat.le_of_ble_eq_true rfl⟩) (nn := 9) rfl (by decide) rfl rfl (hr 5 (by decide)).hd rfl rfl rfl hl.1 (Nat.le_of_ble_eq_true rfl) dX3_clear_45 (by show _ + 0 ≤ 0; omega) (by show _ + 0 ≤ 0; omega) (fun v u6 k6 n6 hq6 => ?_)
  obtain ⟨rfl, hu6, rfl, rfl⟩ := hq6
  refine jJ_eq (g2 := F0 m 48 ls []) (cs2 := [u6, u5, u4, u3, u2, u1, [(h, .inr (2, [.ref (a 0), .ref (a 1), .ref (a 2), .ref (a 3), .ref (a 4), .ref (a 5), .ref (a 6), .ref (a 7)]))], v 6, v 7]) rfl rfl ?_
  refine jJ_of (fun H locs => lv_aload_n hx hb dX3_clear_48 rfl (lv_at hl 0 rfl)) ?_
  refine jJ_get hx hb (C := RX3) (T := TX3) (N := 8) hts uX3_in_X3_clear hown hK 6 rfl rfl 6 (by decide) (hts (.fieldLink RX3 35 "ValueBlocks$Program" "numberPlaces" "LValueBlocks$Row;") (by decide +kernel)) (fun _ h9 => h9) rfl dX3_clear_49 ?_
  refine jJ_of (fun H locs => lv_iconst (v := (nI 0)) hx hb dX3_clear_52 (by decide)) ?_
  refine jJ_callV (As := [.int (nI 0)]) (rest := []) (wc := _) (cs2 := [u6, u5, u4, u3, u2, u1, [(h, .inr (2, [.ref (a 0), .ref (a 1), .ref (a 2), .ref (a 3), .ref (a 4), .ref (a 5), .ref (a 6), .ref (a 7)]))], v 7]) (C := RX5) (T := TX5) (N := 3) (ci := 4) [7] [0, 1, 2, 3, 4, 5, 6, 8] ⟨hx, hb, hml, hown, hts⟩ hK hA hAm (c_Row_cut (hr 6 (by decide)) 0 (by omega)) (cwV 1 hts gX3_clear_X5_cut rfl rfl rfl (by decide +kernel) ⟨Nat.le_of_ble_eq_true rfl, Nat.le_of_ble_eq_true rfl⟩) (nn := 9) rfl (by decide) rfl rfl (hr 6 (by decide)).hd rfl rfl rfl hl.1 (Nat.le_of_ble_eq_true rfl) dX3_clear_53 (by show _ + 0 ≤ 0; omega) (by show _ + 0 ≤ 0; omega) (fun v u7 k7 n7 hq7 => ?_)
  obtain ⟨rfl, hu7, rfl, rfl⟩ := hq7
  refine jJ_eq (g2 := F0 m 56 ls []) (cs2 := [u7, u6, u5, u4, u3, u2, u1, [(h, .inr (2, [.ref (a 0), .ref (a 1), .ref (a 2), .ref (a 3), .ref (a 4), .ref (a 5), .ref (a 6), .ref (a 7)]))], v 7]) rfl rfl ?_
  refine jJ_of (fun H locs => lv_aload_n hx hb dX3_clear_56 rfl (lv_at hl 0 rfl)) ?_
  refine jJ_get hx hb (C := RX3) (T := TX3) (N := 8) hts uX3_in_X3_clear hown hK 7 rfl rfl 7 (by decide) (hts (.fieldLink RX3 38 "ValueBlocks$Program" "targets" "LValueBlocks$Row;") (by decide +kernel)) (fun _ h9 => h9) rfl dX3_clear_57 ?_
  refine jJ_of (fun H locs => lv_iconst (v := (nI 0)) hx hb dX3_clear_60 (by decide)) ?_
  refine jJ_callV (As := [.int (nI 0)]) (rest := []) (wc := _) (cs2 := [u7, u6, u5, u4, u3, u2, u1, [(h, .inr (2, [.ref (a 0), .ref (a 1), .ref (a 2), .ref (a 3), .ref (a 4), .ref (a 5), .ref (a 6), .ref (a 7)]))]]) (C := RX5) (T := TX5) (N := 3) (ci := 4) [8] [0, 1, 2, 3, 4, 5, 6, 7] ⟨hx, hb, hml, hown, hts⟩ hK hA hAm (c_Row_cut (hr 7 (by decide)) 0 (by omega)) (cwV 1 hts gX3_clear_X5_cut rfl rfl rfl (by decide +kernel) ⟨Nat.le_of_ble_eq_true rfl, Nat.le_of_ble_eq_true rfl⟩) (nn := 9) rfl (by decide) rfl rfl (hr 7 (by decide)).hd rfl rfl rfl hl.1 (Nat.le_of_ble_eq_true rfl) dX3_clear_61 (by show _ + 0 ≤ 0; omega) (by show _ + 0 ≤ 0; omega) (fun v u8 k8 n8 hq8 => ?_)
  obtain ⟨rfl, hu8, rfl, rfl⟩ := hq8
  refine jJ_eq (g2 := F0 m 64 ls []) (cs2 := [u8, u7, u6, u5, u4, u3, u2, u1, [(h, .inr (2, [.ref (a 0), .ref (a 1), .ref (a 2), .ref (a 3), .ref (a 4), .ref (a 5), .ref (a 6), .ref (a 7)]))]]) rfl rfl ?_
  refine jJ_perm [8, 7, 6, 5, 4, 3, 2, 1, 0] (nn := 9) rfl (by decide) (cs2 := [[(h, .inr (2, [.ref (a 0), .ref (a 1), .ref (a 2), .ref (a 3), .ref (a 4), .ref (a 5), .ref (a 6), .ref (a 7)]))], u1, u2, u3, u4, u5, u6, u7, u8]) rfl ?_
  have hR1 := jrows_upd hr 0 hu1
  have hR2 := jrows_upd hR1 1 hu2
  have hR3 := jrows_upd hR2 2 hu3
  have hR4 := jrows_upd hR3 3 hu4
  have hR5 := jrows_upd hR4 4 hu5
  have hR6 := jrows_upd hR5 5 hu6
  have hR7 := jrows_upd hR6 6 hu7
  have hR8 := jrows_upd hR7 7 hu8
  exact jJ_vret hx hb hr2 hlocks dX3_clear_64 (by show _ ≤ 0; omega) (by show _ ≤ 0; omega) ⟨rfl, ⟨a, _, _, rfl, fun i hi => by have h9 := hR8 i hi; rcases (show i = 0 ∨ i = 1 ∨ i = 2 ∨ i = 3 ∨ i = 4 ∨ i = 5 ∨ i = 6 ∨ i = 7 by omega) with rfl | rfl | rfl | rfl | rfl | rfl | rfl | rfl <;> exact h9, by rw [hP]; simp [va_up]⟩, rfl, rfl⟩
def jBegin (pr : Nat → List Int32) : Nat → List Int32 := (va_up (va_up (va_up (va_up (va_up (va_up (va_up pr 1 (pr 1 ++ [nI (pr 0).length])) 2 (pr 2 ++ [nI 0])) 3 (pr 3 ++ [iI (-1)])) 4 (pr 4 ++ [nI 0])) 5 (pr 5 ++ [iI (-1)])) 6 (pr 6 ++ [nI 0])) 7 (pr 7 ++ [nI 0]))
theorem uX3_in_X3_beginLine : ∀ w ∈ u_ws RX3 TX3 8, w ∈ wsX3_beginLine := by decide +kernel
set_option maxHeartbeats 4000000 in
set_option maxRecDepth 100000 in
/-- beginLine() -/
theorem c_Prog_beginLine {h P : Nat} {pr : Nat → List Int32} {w : va_W} (hw : jProg cI h P pr w) (hl8 : ∀ i, 1 ≤ i → i < 8 → (pr i).length < 8000) : HM l yX3_beginLine wsX3_beginLine ({ frames := 3, cells := 8, slots := 256000, locals := 140 } : Room) D G (jT cI cJ cB cZ) [.ref h] w (fun v u k n => v = none ∧ ∃ P2 : Nat, jProg cI h P2 (jBegin pr) u ∧ k + P ≤ P2 ∧ n + 128 * P ≤ 128 * P2) := by
  obtain ⟨a, q, v, rfl, hr, hP⟩ := hw
  have hlen0 := (hr 0 (by decide)).len
  have hlen1 := (hr 1 (by decide)).len
  have hlen2 := (hr 2 (by decide)).len
  have hlen3 := (hr 3 (by decide)).len
  have hlen4 := (hr 4 (by decide)).len
  have hlen5 := (hr 5 (by decide)).len
  have hlen6 := (hr 6 (by decide)).len
  have hlen7 := (hr 7 (by decide)).len
  refine HM_of (cc := cX3_beginLine) (maxL := 1) (ret := none) (lv := [(0, .ref h)]) (by decide) rfl rfl (Nat.le_of_ble_eq_true rfl) (fun p e s m args below meth c A0 ls hx hb hr2 hts hown hlocks hml hnm hK hA hAm hl => ?_)
  refine jJ_open (xs := [[(h, .inr (2, [.ref (a 0), .ref (a 1), .ref (a 2), .ref (a 3), .ref (a 4), .ref (a 5), .ref (a 6), .ref (a 7)]))], v 0, v 1, v 2, v 3, v 4, v 5, v 6, v 7]) (r := []) (cs2 := [[(h, .inr (2, [.ref (a 0), .ref (a 1), .ref (a 2), .ref (a 3), .ref (a 4), .ref (a 5), .ref (a 6), .ref (a 7)]))], v 0, v 1, v 2, v 3, v 4, v 5, v 6, v 7]) rfl ?_
  refine jJ_of (fun H locs => lv_aload_n hx hb dX3_beginLine_0 rfl (lv_at hl 0 rfl)) ?_
  refine jJ_get hx hb (C := RX3) (T := TX3) (N := 8) hts uX3_in_X3_beginLine hown hK 0 rfl rfl 1 (by decide) (hts (.fieldLink RX3 20 "ValueBlocks$Program" "starts" "LValueBlocks$Row;") (by decide +kernel)) (fun _ h9 => h9) rfl dX3_beginLine_1 ?_
  refine jJ_of (fun H locs => lv_aload_n hx hb dX3_beginLine_4 rfl (lv_at hl 0 rfl)) ?_
  refine jJ_get hx hb (C := RX3) (T := TX3) (N := 8) hts uX3_in_X3_beginLine hown hK 0 rfl rfl 0 (by decide) (hts (.fieldLink RX3 14 "ValueBlocks$Program" "code" "LValueBlocks$Row;") (by decide +kernel)) (fun _ h9 => h9) rfl dX3_beginLine_5 ?_
  refine jJ_callV (As := []) (rest := [.ref (a 1)]) (wc := _) (cs2 := [[(h, .inr (2, [.ref (a 0), .ref (a 1), .ref (a 2), .ref (a 3), .ref (a 4), .ref (a 5), .ref (a 6), .ref (a 7)]))], v 1, v 2, v 3, v 4, v 5, v 6, v 7]) (C := RX5) (T := TX5) (N := 3) (ci := 4) [1] [0, 2, 3, 4, 5, 6, 7, 8] ⟨hx, hb, hml, hown, hts⟩ hK hA hAm (c_Row_size (hr 0 (by decide))) (cwV 0 hts gX3_beginLine_X5_size rfl rfl rfl (by decide +kernel) ⟨Nat.le_of_ble_eq_true rfl, Nat.le_of_ble_eq_true rfl⟩) (nn := 9) rfl (by decide) rfl rfl (hr 0 (by decide)).hd rfl rfl rfl hl.1 (Nat.le_of_ble_eq_true rfl) dX3_beginLine_8 (by show _ + 0 ≤ 8; omega) (by show _ + 0 ≤ 256000; omega) (fun v u1 k1 n1 hq1 => ?_)
  obtain ⟨rfl, hw1, rfl, rfl⟩ := hq1
  rw [hw1]
  refine jJ_eq (g2 := F0 m 11 ls [.int (nI ((pr 0).length)), .ref (a 1)]) (cs2 := [v 0, [(h, .inr (2, [.ref (a 0), .ref (a 1), .ref (a 2), .ref (a 3), .ref (a 4), .ref (a 5), .ref (a 6), .ref (a 7)]))], v 1, v 2, v 3, v 4, v 5, v 6, v 7]) rfl rfl ?_
  refine jJ_callV (As := [.int (nI ((pr 0).length))]) (rest := []) (wc := _) (cs2 := [v 0, [(h, .inr (2, [.ref (a 0), .ref (a 1), .ref (a 2), .ref (a 3), .ref (a 4), .ref (a 5), .ref (a 6), .ref (a 7)]))], v 2, v 3, v 4, v 5, v 6, v 7]) (C := RX5) (T := TX5) (N := 3) (ci := 4) [2] [0, 1, 3, 4, 5, 6, 7, 8] ⟨hx, hb, hml, hown, hts⟩ hK hA hAm (c_Row_add (hr 1 (by decide)) (nI ((pr 0).length)) (hl8 _ (by decide) (by decide))) (cwV 1 hts gX3_beginLine_X5_add rfl rfl rfl (by decide +kernel) ⟨Nat.le_of_ble_eq_true rfl, Nat.le_of_ble_eq_true rfl⟩) (nn := 9) rfl (by decide) rfl rfl (hr 1 (by decide)).hd rfl rfl rfl hl.1 (Nat.le_of_ble_eq_true rfl) dX3_beginLine_11 (by show _ + 1 ≤ 8; omega) (by show _ + 32000 ≤ 256000; omega) (fun v u2 k2 n2 hq2 => ?_)
  obtain ⟨rfl, qq2, hqq2, hu2, hk2, hn2, hkk2, hnn2⟩ := hq2
  have hl2 := hu2.len
  refine jJ_eq (g2 := F0 m 14 ls []) (cs2 := [u2, v 0, [(h, .inr (2, [.ref (a 0), .ref (a 1), .ref (a 2), .ref (a 3), .ref (a 4), .ref (a 5), .ref (a 6), .ref (a 7)]))], v 2, v 3, v 4, v 5, v 6, v 7]) rfl rfl ?_
  refine jJ_of (fun H locs => lv_aload_n hx hb dX3_beginLine_14 rfl (lv_at hl 0 rfl)) ?_
  refine jJ_get hx hb (C := RX3) (T := TX3) (N := 8) hts uX3_in_X3_beginLine hown hK 2 rfl rfl 2 (by decide) (hts (.fieldLink RX3 23 "ValueBlocks$Program" "kinds" "LValueBlocks$Row;") (by decide +kernel)) (fun _ h9 => h9) rfl dX3_beginLine_15 ?_
  refine jJ_of (fun H locs => lv_iconst (v := (nI 0)) hx hb dX3_beginLine_18 (by decide)) ?_
  refine jJ_callV (As := [.int (nI 0)]) (rest := []) (wc := _) (cs2 := [u2, v 0, [(h, .inr (2, [.ref (a 0), .ref (a 1), .ref (a 2), .ref (a 3), .ref (a 4), .ref (a 5), .ref (a 6), .ref (a 7)]))], v 3, v 4, v 5, v 6, v 7]) (C := RX5) (T := TX5) (N := 3) (ci := 4) [3] [0, 1, 2, 4, 5, 6, 7, 8] ⟨hx, hb, hml, hown, hts⟩ hK hA hAm (c_Row_add (hr 2 (by decide)) (nI 0) (hl8 _ (by decide) (by decide))) (cwV 1 hts gX3_beginLine_X5_add rfl rfl rfl (by decide +kernel) ⟨Nat.le_of_ble_eq_true rfl, Nat.le_of_ble_eq_true rfl⟩) (nn := 9) rfl (by decide) rfl rfl (hr 2 (by decide)).hd rfl rfl rfl hl.1 (Nat.le_of_ble_eq_true rfl) dX3_beginLine_19 (by show _ + 1 ≤ 8; omega) (by show _ + 32000 ≤ 256000; omega) (fun v u3 k3 n3 hq3 => ?_)
  obtain ⟨rfl, qq3, hqq3, hu3, hk3, hn3, hkk3, hnn3⟩ := hq3
  have hl3 := hu3.len
  refine jJ_eq (g2 := F0 m 22 ls []) (cs2 := [u3, u2, v 0, [(h, .inr (2, [.ref (a 0), .ref (a 1), .ref (a 2), .ref (a 3), .ref (a 4), .ref (a 5), .ref (a 6), .ref (a 7)]))], v 3, v 4, v 5, v 6, v 7]) rfl rfl ?_
  refine jJ_of (fun H locs => lv_aload_n hx hb dX3_beginLine_22 rfl (lv_at hl 0 rfl)) ?_
  refine jJ_get hx hb (C := RX3) (T := TX3) (N := 8) hts uX3_in_X3_beginLine hown hK 3 rfl rfl 3 (by decide) (hts (.fieldLink RX3 26 "ValueBlocks$Program" "labels" "LValueBlocks$Row;") (by decide +kernel)) (fun _ h9 => h9) rfl dX3_beginLine_23 ?_
  refine jJ_of (fun H locs => lv_iconst (v := (iI (-1))) hx hb dX3_beginLine_26 (by decide)) ?_
  refine jJ_callV (As := [.int (iI (-1))]) (rest := []) (wc := _) (cs2 := [u3, u2, v 0, [(h, .inr (2, [.ref (a 0), .ref (a 1), .ref (a 2), .ref (a 3), .ref (a 4), .ref (a 5), .ref (a 6), .ref (a 7)]))], v 4, v 5, v 6, v 7]) (C := RX5) (T := TX5) (N := 3) (ci := 4) [4] [0, 1, 2, 3, 5, 6, 7, 8] ⟨hx, hb, hml, hown, hts⟩ hK hA hAm (c_Row_add (hr 3 (by decide)) (iI (-1)) (hl8 _ (by decide) (by decide))) (cwV 1 hts gX3_beginLine_X5_add rfl rfl rfl (by decide +kernel) ⟨Nat.le_of_ble_eq_true rfl, Nat.le_of_ble_eq_true rfl⟩) (nn := 9) rfl (by decide) rfl rfl (hr 3 (by decide)).hd rfl rfl rfl hl.1 (Nat.le_of_ble_eq_true rfl) dX3_beginLine_27 (by show _ + 1 ≤ 8; omega) (by show _ + 32000 ≤ 256000; omega) (fun v u4 k4 n4 hq4 => ?_)
  obtain ⟨rfl, qq4, hqq4, hu4, hk4, hn4, hkk4, hnn4⟩ := hq4
  have hl4 := hu4.len
  refine jJ_eq (g2 := F0 m 30 ls []) (cs2 := [u4, u3, u2, v 0, [(h, .inr (2, [.ref (a 0), .ref (a 1), .ref (a 2), .ref (a 3), .ref (a 4), .ref (a 5), .ref (a 6), .ref (a 7)]))], v 4, v 5, v 6, v 7]) rfl rfl ?_
  refine jJ_of (fun H locs => lv_aload_n hx hb dX3_beginLine_30 rfl (lv_at hl 0 rfl)) ?_
  refine jJ_get hx hb (C := RX3) (T := TX3) (N := 8) hts uX3_in_X3_beginLine hown hK 4 rfl rfl 4 (by decide) (hts (.fieldLink RX3 29 "ValueBlocks$Program" "labelPlaces" "LValueBlocks$Row;") (by decide +kernel)) (fun _ h9 => h9) rfl dX3_beginLine_31 ?_
  refine jJ_of (fun H locs => lv_iconst (v := (nI 0)) hx hb dX3_beginLine_34 (by decide)) ?_
  refine jJ_callV (As := [.int (nI 0)]) (rest := []) (wc := _) (cs2 := [u4, u3, u2, v 0, [(h, .inr (2, [.ref (a 0), .ref (a 1), .ref (a 2), .ref (a 3), .ref (a 4), .ref (a 5), .ref (a 6), .ref (a 7)]))], v 5, v 6, v 7]) (C := RX5) (T := TX5) (N := 3) (ci := 4) [5] [0, 1, 2, 3, 4, 6, 7, 8] ⟨hx, hb, hml, hown, hts⟩ hK hA hAm (c_Row_add (hr 4 (by decide)) (nI 0) (hl8 _ (by decide) (by decide))) (cwV 1 hts gX3_beginLine_X5_add rfl rfl rfl (by decide +kernel) ⟨Nat.le_of_ble_eq_true rfl, Nat.le_of_ble_eq_true rfl⟩) (nn := 9) rfl (by decide) rfl rfl (hr 4 (by decide)).hd rfl rfl rfl hl.1 (Nat.le_of_ble_eq_true rfl) dX3_beginLine_35 (by show _ + 1 ≤ 8; omega) (by show _ + 32000 ≤ 256000; omega) (fun v u5 k5 n5 hq5 => ?_)
  obtain ⟨rfl, qq5, hqq5, hu5, hk5, hn5, hkk5, hnn5⟩ := hq5
  have hl5 := hu5.len
  refine jJ_eq (g2 := F0 m 38 ls []) (cs2 := [u5, u4, u3, u2, v 0, [(h, .inr (2, [.ref (a 0), .ref (a 1), .ref (a 2), .ref (a 3), .ref (a 4), .ref (a 5), .ref (a 6), .ref (a 7)]))], v 5, v 6, v 7]) rfl rfl ?_
  refine jJ_of (fun H locs => lv_aload_n hx hb dX3_beginLine_38 rfl (lv_at hl 0 rfl)) ?_
  refine jJ_get hx hb (C := RX3) (T := TX3) (N := 8) hts uX3_in_X3_beginLine hown hK 5 rfl rfl 5 (by decide) (hts (.fieldLink RX3 32 "ValueBlocks$Program" "numbers" "LValueBlocks$Row;") (by decide +kernel)) (fun _ h9 => h9) rfl dX3_beginLine_39 ?_
  refine jJ_of (fun H locs => lv_iconst (v := (iI (-1))) hx hb dX3_beginLine_42 (by decide)) ?_
  refine jJ_callV (As := [.int (iI (-1))]) (rest := []) (wc := _) (cs2 := [u5, u4, u3, u2, v 0, [(h, .inr (2, [.ref (a 0), .ref (a 1), .ref (a 2), .ref (a 3), .ref (a 4), .ref (a 5), .ref (a 6), .ref (a 7)]))], v 6, v 7]) (C := RX5) (T := TX5) (N := 3) (ci := 4) [6] [0, 1, 2, 3, 4, 5, 7, 8] ⟨hx, hb, hml, hown, hts⟩ hK hA hAm (c_Row_add (hr 5 (by decide)) (iI (-1)) (hl8 _ (by decide) (by decide))) (cwV 1 hts gX3_beginLine_X5_add rfl rfl rfl (by decide +kernel) ⟨Nat.le_of_ble_eq_true rfl, Nat.le_of_ble_eq_true rfl⟩) (nn := 9) rfl (by decide) rfl rfl (hr 5 (by decide)).hd rfl rfl rfl hl.1 (Nat.le_of_ble_eq_true rfl) dX3_beginLine_43 (by show _ + 1 ≤ 8; omega) (by show _ + 32000 ≤ 256000; omega) (fun v u6 k6 n6 hq6 => ?_)
  obtain ⟨rfl, qq6, hqq6, hu6, hk6, hn6, hkk6, hnn6⟩ := hq6
  have hl6 := hu6.len
  refine jJ_eq (g2 := F0 m 46 ls []) (cs2 := [u6, u5, u4, u3, u2, v 0, [(h, .inr (2, [.ref (a 0), .ref (a 1), .ref (a 2), .ref (a 3), .ref (a 4), .ref (a 5), .ref (a 6), .ref (a 7)]))], v 6, v 7]) rfl rfl ?_
  refine jJ_of (fun H locs => lv_aload_n hx hb dX3_beginLine_46 rfl (lv_at hl 0 rfl)) ?_
  refine jJ_get hx hb (C := RX3) (T := TX3) (N := 8) hts uX3_in_X3_beginLine hown hK 6 rfl rfl 6 (by decide) (hts (.fieldLink RX3 35 "ValueBlocks$Program" "numberPlaces" "LValueBlocks$Row;") (by decide +kernel)) (fun _ h9 => h9) rfl dX3_beginLine_47 ?_
  refine jJ_of (fun H locs => lv_iconst (v := (nI 0)) hx hb dX3_beginLine_50 (by decide)) ?_
  refine jJ_callV (As := [.int (nI 0)]) (rest := []) (wc := _) (cs2 := [u6, u5, u4, u3, u2, v 0, [(h, .inr (2, [.ref (a 0), .ref (a 1), .ref (a 2), .ref (a 3), .ref (a 4), .ref (a 5), .ref (a 6), .ref (a 7)]))], v 7]) (C := RX5) (T := TX5) (N := 3) (ci := 4) [7] [0, 1, 2, 3, 4, 5, 6, 8] ⟨hx, hb, hml, hown, hts⟩ hK hA hAm (c_Row_add (hr 6 (by decide)) (nI 0) (hl8 _ (by decide) (by decide))) (cwV 1 hts gX3_beginLine_X5_add rfl rfl rfl (by decide +kernel) ⟨Nat.le_of_ble_eq_true rfl, Nat.le_of_ble_eq_true rfl⟩) (nn := 9) rfl (by decide) rfl rfl (hr 6 (by decide)).hd rfl rfl rfl hl.1 (Nat.le_of_ble_eq_true rfl) dX3_beginLine_51 (by show _ + 1 ≤ 8; omega) (by show _ + 32000 ≤ 256000; omega) (fun v u7 k7 n7 hq7 => ?_)
  obtain ⟨rfl, qq7, hqq7, hu7, hk7, hn7, hkk7, hnn7⟩ := hq7
  have hl7 := hu7.len
  refine jJ_eq (g2 := F0 m 54 ls []) (cs2 := [u7, u6, u5, u4, u3, u2, v 0, [(h, .inr (2, [.ref (a 0), .ref (a 1), .ref (a 2), .ref (a 3), .ref (a 4), .ref (a 5), .ref (a 6), .ref (a 7)]))], v 7]) rfl rfl ?_
  refine jJ_of (fun H locs => lv_aload_n hx hb dX3_beginLine_54 rfl (lv_at hl 0 rfl)) ?_
  refine jJ_get hx hb (C := RX3) (T := TX3) (N := 8) hts uX3_in_X3_beginLine hown hK 7 rfl rfl 7 (by decide) (hts (.fieldLink RX3 38 "ValueBlocks$Program" "targets" "LValueBlocks$Row;") (by decide +kernel)) (fun _ h9 => h9) rfl dX3_beginLine_55 ?_
  refine jJ_of (fun H locs => lv_iconst (v := (nI 0)) hx hb dX3_beginLine_58 (by decide)) ?_
  refine jJ_callV (As := [.int (nI 0)]) (rest := []) (wc := _) (cs2 := [u7, u6, u5, u4, u3, u2, v 0, [(h, .inr (2, [.ref (a 0), .ref (a 1), .ref (a 2), .ref (a 3), .ref (a 4), .ref (a 5), .ref (a 6), .ref (a 7)]))]]) (C := RX5) (T := TX5) (N := 3) (ci := 4) [8] [0, 1, 2, 3, 4, 5, 6, 7] ⟨hx, hb, hml, hown, hts⟩ hK hA hAm (c_Row_add (hr 7 (by decide)) (nI 0) (hl8 _ (by decide) (by decide))) (cwV 1 hts gX3_beginLine_X5_add rfl rfl rfl (by decide +kernel) ⟨Nat.le_of_ble_eq_true rfl, Nat.le_of_ble_eq_true rfl⟩) (nn := 9) rfl (by decide) rfl rfl (hr 7 (by decide)).hd rfl rfl rfl hl.1 (Nat.le_of_ble_eq_true rfl) dX3_beginLine_59 (by show _ + 1 ≤ 8; omega) (by show _ + 32000 ≤ 256000; omega) (fun v u8 k8 n8 hq8 => ?_)
  obtain ⟨rfl, qq8, hqq8, hu8, hk8, hn8, hkk8, hnn8⟩ := hq8
  have hl8 := hu8.len
  refine jJ_eq (g2 := F0 m 62 ls []) (cs2 := [u8, u7, u6, u5, u4, u3, u2, v 0, [(h, .inr (2, [.ref (a 0), .ref (a 1), .ref (a 2), .ref (a 3), .ref (a 4), .ref (a 5), .ref (a 6), .ref (a 7)]))]]) rfl rfl ?_
  refine jJ_perm [8, 7, 6, 5, 4, 3, 2, 1, 0] (nn := 9) rfl (by decide) (cs2 := [[(h, .inr (2, [.ref (a 0), .ref (a 1), .ref (a 2), .ref (a 3), .ref (a 4), .ref (a 5), .ref (a 6), .ref (a 7)]))], v 0, u2, u3, u4, u5, u6, u7, u8]) rfl ?_
  have hR1 := jrows_upd hr 1 hu2
  have hR2 := jrows_upd hR1 2 hu3
  have hR3 := jrows_upd hR2 3 hu4
  have hR4 := jrows_upd hR3 4 hu5
  have hR5 := jrows_upd hR4 5 hu6
  have hR6 := jrows_upd hR5 6 hu7
  have hR7 := jrows_upd hR6 7 hu8
  exact jJ_vret hx hb hr2 hlocks dX3_beginLine_62 (by show _ ≤ 8; omega) (by show _ ≤ 256000; omega) ⟨rfl, _, ⟨a, _, _, rfl, hR7, rfl⟩, by simp only [va_up, ite_true, ite_false, Nat.reduceEqDiff]; omega, by simp only [va_up, ite_true, ite_false, Nat.reduceEqDiff]; omega⟩
theorem uX3_in_X3_labelled : ∀ w ∈ u_ws RX3 TX3 8, w ∈ wsX3_labelled := by decide +kernel
set_option maxHeartbeats 4000000 in
set_option maxRecDepth 100000 in
/-- labelled(x, b) -/
theorem c_Prog_labelled {h P : Nat} {pr : Nat → List Int32} {w : va_W} (hw : jProg cI h P pr w) (x : Int32) (b : Nat) (hb9 : b < 2147483647) : HM l yX3_labelled wsX3_labelled ({ frames := 1, cells := 0, slots := 0, locals := 60 } : Room) D G (jT cI cJ cB cZ) [.ref h, .int x, .int (nI b)] w (fun v u k n => ∃ r : Nat, v = some (.int (nI r)) ∧ u = w ∧ r ≤ b ∧ (∀ j, j < r → ¬ (pr 3).getD j 0 = x) ∧ (r < b → (pr 3).getD r 0 = x) ∧ k = 0 ∧ n = 0) := by
  obtain ⟨a, q, v, rfl, hr, hP⟩ := hw
  refine HM_of (cc := cX3_labelled) (maxL := 4) (ret := (some .int)) (lv := [(0, .ref h), (1, .int x), (2, .int (nI b))]) (by decide) rfl rfl (Nat.le_of_ble_eq_true rfl) (fun p e s m args below meth c A0 ls hx hb hr2 hts hown hlocks hml hnm hK hA hAm hl => ?_)
  refine jJ_open (xs := [[(h, .inr (2, [.ref (a 0), .ref (a 1), .ref (a 2), .ref (a 3), .ref (a 4), .ref (a 5), .ref (a 6), .ref (a 7)]))], v 0, v 1, v 2, v 3, v 4, v 5, v 6, v 7]) (r := []) (cs2 := [[(h, .inr (2, [.ref (a 0), .ref (a 1), .ref (a 2), .ref (a 3), .ref (a 4), .ref (a 5), .ref (a 6), .ref (a 7)]))], v 0, v 1, v 2, v 3, v 4, v 5, v 6, v 7]) rfl ?_
  refine jJ_of (fun H locs => lv_iconst (v := (nI 0)) hx hb dX3_labelled_0 (by decide)) ?_
  refine jJ_ofL (fun H locs => lv_istore_n (lv' := [(3, .int (nI 0)), (0, .ref h), (1, .int x), (2, .int (nI b))]) hx hb dX3_labelled_1 rfl hl (by decide) rfl) (fun ls hl => ?_)
  suffices lp : ∀ (d i : Nat), b - i < d → i ≤ b → (∀ j, j < i → ¬ (pr 3).getD j 0 = x) → ∀ ls, lv_has ls 4 [(3, .int (nI i)), (0, .ref h), (1, .int x), (2, .int (nI b))] → jJ p l e _ s m args below meth c D A0 [[(h, .inr (2, [.ref (a 0), .ref (a 1), .ref (a 2), .ref (a 3), .ref (a 4), .ref (a 5), .ref (a 6), .ref (a 7)]))], v 0, v 1, v 2, v 3, v 4, v 5, v 6, v 7] _ _ (jEnd below D A0 _ args s _ _) (F0 m 2 ls []) from lp (b + 1) 0 (by omega) (Nat.zero_le b) (fun j hj => absurd hj (Nat.not_lt_zero j)) ls hl
  intro d
  induction d with
  | zero => intro i h9; exact absurd h9 (Nat.not_lt_zero _)
  | succ d ih =>
    intro i h9 hib hno ls hl
    refine jJ_of (fun H locs => lv_iload_n hx hb dX3_labelled_2 rfl (lv_at hl 0 rfl)) ?_
    refine jJ_of (fun H locs => lv_iload_n hx hb dX3_labelled_3 rfl (lv_at hl 3 rfl)) ?_
    refine jJ_of2 (fun H locs => jn_icmp_ge (tgt := 27) hx hb dX3_labelled_4 (by decide) (by omega) (by omega)) (fun c4 => ?_) (fun c4 => ?_)
    · refine jJ_of (fun H locs => lv_iload_n hx hb dX3_labelled_27 rfl (lv_at hl 3 rfl)) ?_
      exact jJ_iret hx hb hr2 hlocks dX3_labelled_28 (by show _ ≤ 0; omega) (by show _ ≤ 0; omega) ⟨b, rfl, rfl, Nat.le_refl b, fun j hj => hno j (by omega), fun h8 => absurd h8 (Nat.lt_irrefl b), by omega, by omega⟩
    · refine jJ_of (fun H locs => lv_aload_n hx hb dX3_labelled_7 rfl (lv_at hl 1 rfl)) ?_
      refine jJ_get hx hb (C := RX3) (T := TX3) (N := 8) hts uX3_in_X3_labelled hown hK 0 rfl rfl 3 (by decide) (hts (.fieldLink RX3 26 "ValueBlocks$Program" "labels" "LValueBlocks$Row;") (by decide +kernel)) (fun _ h9 => h9) rfl dX3_labelled_8 ?_
      refine jJ_of (fun H locs => lv_iload_n hx hb dX3_labelled_11 rfl (lv_at hl 0 rfl)) ?_
      refine jJ_callV (As := [.int (nI i)]) (rest := []) (wc := _) (cs2 := [[(h, .inr (2, [.ref (a 0), .ref (a 1), .ref (a 2), .ref (a 3), .ref (a 4), .ref (a 5), .ref (a 6), .ref (a 7)]))], v 0, v 1, v 2, v 4, v 5, v 6, v 7]) (C := RX5) (T := TX5) (N := 3) (ci := 4) [4] [0, 1, 2, 3, 5, 6, 7, 8] ⟨hx, hb, hml, hown, hts⟩ hK hA hAm (c_Row_get (hr 3 (by decide)) i (by omega)) (cwV 1 hts gX3_labelled_X5_get rfl rfl rfl (by decide +kernel) ⟨Nat.le_of_ble_eq_true rfl, Nat.le_of_ble_eq_true rfl⟩) (nn := 9) rfl (by decide) rfl rfl (hr 3 (by decide)).hd rfl rfl rfl hl.1 (Nat.le_of_ble_eq_true rfl) dX3_labelled_12 (by show _ + 0 ≤ 0; omega) (by show _ + 0 ≤ 0; omega) (fun v u1 k1 n1 hq1 => ?_)
      obtain ⟨rfl, hw1, rfl, rfl⟩ := hq1
      rw [hw1]
      refine jJ_eq (g2 := F0 m 15 ls [.int ((pr 3).getD i 0)]) (cs2 := [v 3, [(h, .inr (2, [.ref (a 0), .ref (a 1), .ref (a 2), .ref (a 3), .ref (a 4), .ref (a 5), .ref (a 6), .ref (a 7)]))], v 0, v 1, v 2, v 4, v 5, v 6, v 7]) rfl rfl ?_
      refine jJ_of (fun H locs => lv_iload_n hx hb dX3_labelled_15 rfl (lv_at hl 2 rfl)) ?_
      refine jJ_of2 (fun H locs => lv_icmp_ne (tgt := 21) hx hb dX3_labelled_16 (by decide)) (fun c16 => ?_) (fun c16 => ?_)
      · refine jJ_ofL (fun H locs => lv_iinc (v := (nI (i + 1))) (lv' := [(3, .int (nI (i + 1))), (0, .ref h), (1, .int x), (2, .int (nI b))]) hx hb dX3_labelled_21 hl (k := 0) rfl (nI_add _ _) (by decide) rfl) (fun ls hl => ?_)
        refine jJ_of (fun H locs => lv_goto (tgt := 2) hx hb dX3_labelled_24 (by decide)) ?_
        refine jJ_perm [1, 2, 3, 4, 0, 5, 6, 7, 8] (nn := 9) rfl (by decide) (cs2 := [[(h, .inr (2, [.ref (a 0), .ref (a 1), .ref (a 2), .ref (a 3), .ref (a 4), .ref (a 5), .ref (a 6), .ref (a 7)]))], v 0, v 1, v 2, v 3, v 4, v 5, v 6, v 7]) rfl ?_
        exact ih (i + 1) (by omega) (by omega) (fun j hj => by rcases Nat.lt_or_ge j i with h8 | h8; exact hno j h8; rw [show j = i by omega]; exact c16) ls hl
      · refine jJ_of (fun H locs => lv_iload_n hx hb dX3_labelled_19 rfl (lv_at hl 0 rfl)) ?_
        refine jJ_perm [1, 2, 3, 4, 0, 5, 6, 7, 8] (nn := 9) rfl (by decide) (cs2 := [[(h, .inr (2, [.ref (a 0), .ref (a 1), .ref (a 2), .ref (a 3), .ref (a 4), .ref (a 5), .ref (a 6), .ref (a 7)]))], v 0, v 1, v 2, v 3, v 4, v 5, v 6, v 7]) rfl ?_
        exact jJ_iret hx hb hr2 hlocks dX3_labelled_20 (by show _ ≤ 0; omega) (by show _ ≤ 0; omega) ⟨i, rfl, rfl, hib, hno, fun _ => c16, by omega, by omega⟩
end PROG
