/-! ValueBlocks: the tray T, the programs F1 (in use) and F2 (spare), whether there is a text, what was fed, the fault's place; the machine's variables vs, alarm al, its line an, the steps sp -/
def jVBw (h ht hk hm h1 h2 hr o a : Nat) (hasT : Bool) (fed : Nat) (fp : Int) (wk wm w1 w2 : va_W) : List va_W := [[(h, .inr (6, [.ref ht, .ref hk, .ref hr, .ref hm, .ref h1, .ref h2, .int (bI hasT), .int (nI fed), .int (iI fp)]))], wk, [(hr, .inr (3, [.ref hk, .ref o, .int (nI a)]))], wm, w1, w2]
def jVB (cI cJ : ClassId) (h Pt P1 P2 : Nat) (T : List Nat) (F1 F2 : Nat → List Int32) (hasT : Bool) (fed : Nat) (fp : Int) (vs : Nat → Int) (al an sp : Nat) (w : va_W) : Prop :=
  ∃ (ht hk hm h1 h2 hr o a nx : Nat) (tk : Nat → List Nat) (st : List Int) (wk wm w1 w2 : va_W), w = jF (jVBw h ht hk hm h1 h2 hr o a hasT fed fp wk wm w1 w2) ∧ jTok cI hk ht Pt T tk nx wk ∧ jMach cJ hm vs st al an sp wm ∧ jProg cI h1 P1 F1 w1 ∧ jProg cI h2 P2 F2 w2 ∧ fed ≤ 65536 ∧ -2 ≤ fp ∧ fp < 1000000000
theorem jVB.hd {cI cJ : ClassId} {h Pt P1 P2 fed al an sp : Nat} {T : List Nat} {F1 F2 : Nat → List Int32} {hasT : Bool} {fp : Int} {vs : Nat → Int} {w : va_W} (hw : jVB cI cJ h Pt P1 P2 T F1 F2 hasT fed fp vs al an sp w) : ∃ (i : Nat) (fs : List Value), w[i]? = some (h, .inr (6, fs)) := by
  obtain ⟨ht, hk, hm, h1, h2, hr, o, a, nx, tk, st, wk, wm, w1, w2, rfl, -⟩ := hw
  exact ⟨0, _, rfl⟩
section VB
variable {D : va_G} {G : Nat → Nat} {cI cJ cB cZ : ClassId} {l : Launch}

theorem uX8_in_X8_place : ∀ w ∈ u_ws RX8 TX8 9, w ∈ wsX8_place := by decide +kernel
set_option maxHeartbeats 4000000 in
set_option maxRecDepth 100000 in
/-- place() -/
theorem c_VB_place {h Pt P1 P2 fed al an sp : Nat} {T : List Nat} {F1 F2 : Nat → List Int32} {hasT : Bool} {fp : Int} {vs : Nat → Int} {w : va_W} (hw : jVB cI cJ h Pt P1 P2 T F1 F2 hasT fed fp vs al an sp w) : HM l yX8_place wsX8_place ({ frames := 1, cells := 0, slots := 0, locals := 40 } : Room) D G (jT cI cJ cB cZ) [.ref h] w (fun v u k n => v = some (.int (iI fp)) ∧ u = w ∧ k = 0 ∧ n = 0) := by
  obtain ⟨ht, hk, hm, h1, h2, hr, o, a, nx, tk, st, wk, wm, w1, w2, rfl, hTk, hMc, hPg1, hPg2, hfd, hf1, hf2⟩ := hw
  refine HM_of (cc := cX8_place) (maxL := 1) (ret := (some .int)) (lv := [(0, .ref h)]) (by decide) rfl rfl (Nat.le_of_ble_eq_true rfl) (fun p e s m args below meth c A0 ls hx hb hr9 hts hown hlocks hml hnm hK hA hAm hl => ?_)
  refine jJ_open (xs := [[(h, .inr (6, [.ref ht, .ref hk, .ref hr, .ref hm, .ref h1, .ref h2, .int (bI hasT), .int (nI fed), .int (iI fp)]))], wk, [(hr, .inr (3, [.ref hk, .ref o, .int (nI a)]))], wm, w1, w2]) (r := []) (cs2 := [[(h, .inr (6, [.ref ht, .ref hk, .ref hr, .ref hm, .ref h1, .ref h2, .int (bI hasT), .int (nI fed), .int (iI fp)]))], wk, [(hr, .inr (3, [.ref hk, .ref o, .int (nI a)]))], wm, w1, w2]) rfl ?_
  refine jJ_of (fun H locs => lv_aload_n hx hb dX8_place_0 rfl (lv_at hl 0 rfl)) ?_
  refine jJ_get hx hb (C := RX8) (T := TX8) (N := 9) hts uX8_in_X8_place hown hK 0 rfl rfl 8 (by decide) (hts (.fieldLink RX8 61 "ValueBlocks" "faultPlace" "I") (by decide +kernel)) (fun _ h9 => h9) rfl dX8_place_1 ?_
  exact jJ_iret hx hb hr9 hlocks dX8_place_4 (by show _ ≤ 0; omega) (by show _ ≤ 0; omega) ⟨rfl, rfl, rfl, rfl⟩
theorem uX8_in_X8_line : ∀ w ∈ u_ws RX8 TX8 9, w ∈ wsX8_line := by decide +kernel
set_option maxHeartbeats 4000000 in
set_option maxRecDepth 100000 in
/-- line() -/
theorem c_VB_line {h Pt P1 P2 fed al an sp : Nat} {T : List Nat} {F1 F2 : Nat → List Int32} {hasT : Bool} {fp : Int} {vs : Nat → Int} {w : va_W} (hw : jVB cI cJ h Pt P1 P2 T F1 F2 hasT fed fp vs al an sp w) : HM l yX8_line wsX8_line ({ frames := 1, cells := 0, slots := 0, locals := 40 } : Room) D G (jT cI cJ cB cZ) [.ref h] w (fun v u k n => v = some (.int (nI an)) ∧ u = w ∧ k = 0 ∧ n = 0) := by
  obtain ⟨ht, hk, hm, h1, h2, hr, o, a, nx, tk, st, wk, wm, w1, w2, rfl, hTk, hMc, hPg1, hPg2, hfd, hf1, hf2⟩ := hw
  refine HM_of (cc := cX8_line) (maxL := 1) (ret := (some .int)) (lv := [(0, .ref h)]) (by decide) rfl rfl (Nat.le_of_ble_eq_true rfl) (fun p e s m args below meth c A0 ls hx hb hr9 hts hown hlocks hml hnm hK hA hAm hl => ?_)
  refine jJ_open (xs := [[(h, .inr (6, [.ref ht, .ref hk, .ref hr, .ref hm, .ref h1, .ref h2, .int (bI hasT), .int (nI fed), .int (iI fp)]))], wk, [(hr, .inr (3, [.ref hk, .ref o, .int (nI a)]))], wm, w1, w2]) (r := []) (cs2 := [[(h, .inr (6, [.ref ht, .ref hk, .ref hr, .ref hm, .ref h1, .ref h2, .int (bI hasT), .int (nI fed), .int (iI fp)]))], wk, [(hr, .inr (3, [.ref hk, .ref o, .int (nI a)]))], wm, w1, w2]) rfl ?_
  refine jJ_of (fun H locs => lv_aload_n hx hb dX8_line_0 rfl (lv_at hl 0 rfl)) ?_
  refine jJ_get hx hb (C := RX8) (T := TX8) (N := 9) hts uX8_in_X8_line hown hK 0 rfl rfl 3 (by decide) (hts (.fieldLink RX8 30 "ValueBlocks" "machine" "LValueBlocks$Machine;") (by decide +kernel)) (fun _ h9 => h9) rfl dX8_line_1 ?_
  refine jJ_callV (As := []) (rest := []) (wc := _) (cs2 := [[(h, .inr (6, [.ref ht, .ref hk, .ref hr, .ref hm, .ref h1, .ref h2, .int (bI hasT), .int (nI fed), .int (iI fp)]))], wk, [(hr, .inr (3, [.ref hk, .ref o, .int (nI a)]))], w1, w2]) (C := RX2) (T := TX2) (N := 6) (ci := 1) [3] [0, 1, 2, 4, 5] ⟨hx, hb, hml, hown, hts⟩ hK hA hAm (c_Mach_alarmLine hMc  ) (cwV 0 hts gX8_line_X2_alarmLine rfl rfl rfl (by decide +kernel) ⟨Nat.le_of_ble_eq_true rfl, Nat.le_of_ble_eq_true rfl⟩) (nn := 6) rfl (by decide) rfl rfl hMc.hd rfl rfl rfl hl.1 (Nat.le_of_ble_eq_true rfl) dX8_line_4 (by show _ + 0 ≤ 0; omega) (by show _ + 0 ≤ 0; omega) (fun v u1 k1 n1 hq1 => ?_)
  obtain ⟨rfl, hw1, rfl, rfl⟩ := hq1
  rw [hw1]
  refine jJ_eq (g2 := F0 m 7 ls [.int (nI an)]) (cs2 := [wm, [(h, .inr (6, [.ref ht, .ref hk, .ref hr, .ref hm, .ref h1, .ref h2, .int (bI hasT), .int (nI fed), .int (iI fp)]))], wk, [(hr, .inr (3, [.ref hk, .ref o, .int (nI a)]))], w1, w2]) rfl rfl ?_
  refine jJ_perm [1, 2, 3, 0, 4, 5] (nn := 6) rfl (by decide) (cs2 := [[(h, .inr (6, [.ref ht, .ref hk, .ref hr, .ref hm, .ref h1, .ref h2, .int (bI hasT), .int (nI fed), .int (iI fp)]))], wk, [(hr, .inr (3, [.ref hk, .ref o, .int (nI a)]))], wm, w1, w2]) rfl ?_
  exact jJ_iret hx hb hr9 hlocks dX8_line_7 (by show _ ≤ 0; omega) (by show _ ≤ 0; omega) ⟨rfl, rfl, rfl, rfl⟩
theorem uX8_in_X8_steps : ∀ w ∈ u_ws RX8 TX8 9, w ∈ wsX8_steps := by decide +kernel
set_option maxHeartbeats 4000000 in
set_option maxRecDepth 100000 in
/-- steps() -/
theorem c_VB_steps {h Pt P1 P2 fed al an sp : Nat} {T : List Nat} {F1 F2 : Nat → List Int32} {hasT : Bool} {fp : Int} {vs : Nat → Int} {w : va_W} (hw : jVB cI cJ h Pt P1 P2 T F1 F2 hasT fed fp vs al an sp w) : HM l yX8_steps wsX8_steps ({ frames := 1, cells := 0, slots := 0, locals := 40 } : Room) D G (jT cI cJ cB cZ) [.ref h] w (fun v u k n => v = some (.int (nI sp)) ∧ u = w ∧ k = 0 ∧ n = 0) := by
  obtain ⟨ht, hk, hm, h1, h2, hr, o, a, nx, tk, st, wk, wm, w1, w2, rfl, hTk, hMc, hPg1, hPg2, hfd, hf1, hf2⟩ := hw
  refine HM_of (cc := cX8_steps) (maxL := 1) (ret := (some .int)) (lv := [(0, .ref h)]) (by decide) rfl rfl (Nat.le_of_ble_eq_true rfl) (fun p e s m args below meth c A0 ls hx hb hr9 hts hown hlocks hml hnm hK hA hAm hl => ?_)
  refine jJ_open (xs := [[(h, .inr (6, [.ref ht, .ref hk, .ref hr, .ref hm, .ref h1, .ref h2, .int (bI hasT), .int (nI fed), .int (iI fp)]))], wk, [(hr, .inr (3, [.ref hk, .ref o, .int (nI a)]))], wm, w1, w2]) (r := []) (cs2 := [[(h, .inr (6, [.ref ht, .ref hk, .ref hr, .ref hm, .ref h1, .ref h2, .int (bI hasT), .int (nI fed), .int (iI fp)]))], wk, [(hr, .inr (3, [.ref hk, .ref o, .int (nI a)]))], wm, w1, w2]) rfl ?_
  refine jJ_of (fun H locs => lv_aload_n hx hb dX8_steps_0 rfl (lv_at hl 0 rfl)) ?_
  refine jJ_get hx hb (C := RX8) (T := TX8) (N := 9) hts uX8_in_X8_steps hown hK 0 rfl rfl 3 (by decide) (hts (.fieldLink RX8 30 "ValueBlocks" "machine" "LValueBlocks$Machine;") (by decide +kernel)) (fun _ h9 => h9) rfl dX8_steps_1 ?_
  refine jJ_callV (As := []) (rest := []) (wc := _) (cs2 := [[(h, .inr (6, [.ref ht, .ref hk, .ref hr, .ref hm, .ref h1, .ref h2, .int (bI hasT), .int (nI fed), .int (iI fp)]))], wk, [(hr, .inr (3, [.ref hk, .ref o, .int (nI a)]))], w1, w2]) (C := RX2) (T := TX2) (N := 6) (ci := 1) [3] [0, 1, 2, 4, 5] ⟨hx, hb, hml, hown, hts⟩ hK hA hAm (c_Mach_stepsDone hMc  ) (cwV 0 hts gX8_steps_X2_stepsDone rfl rfl rfl (by decide +kernel) ⟨Nat.le_of_ble_eq_true rfl, Nat.le_of_ble_eq_true rfl⟩) (nn := 6) rfl (by decide) rfl rfl hMc.hd rfl rfl rfl hl.1 (Nat.le_of_ble_eq_true rfl) dX8_steps_4 (by show _ + 0 ≤ 0; omega) (by show _ + 0 ≤ 0; omega) (fun v u1 k1 n1 hq1 => ?_)
  obtain ⟨rfl, hw1, rfl, rfl⟩ := hq1
  rw [hw1]
  refine jJ_eq (g2 := F0 m 7 ls [.int (nI sp)]) (cs2 := [wm, [(h, .inr (6, [.ref ht, .ref hk, .ref hr, .ref hm, .ref h1, .ref h2, .int (bI hasT), .int (nI fed), .int (iI fp)]))], wk, [(hr, .inr (3, [.ref hk, .ref o, .int (nI a)]))], w1, w2]) rfl rfl ?_
  refine jJ_perm [1, 2, 3, 0, 4, 5] (nn := 6) rfl (by decide) (cs2 := [[(h, .inr (6, [.ref ht, .ref hk, .ref hr, .ref hm, .ref h1, .ref h2, .int (bI hasT), .int (nI fed), .int (iI fp)]))], wk, [(hr, .inr (3, [.ref hk, .ref o, .int (nI a)]))], wm, w1, w2]) rfl ?_
  exact jJ_iret hx hb hr9 hlocks dX8_steps_7 (by show _ ≤ 0; omega) (by show _ ≤ 0; omega) ⟨rfl, rfl, rfl, rfl⟩
theorem uX8_in_X8_variable : ∀ w ∈ u_ws RX8 TX8 9, w ∈ wsX8_variable := by decide +kernel
set_option maxHeartbeats 4000000 in
set_option maxRecDepth 100000 in
/-- variable(n) -/
theorem c_VB_variable {h Pt P1 P2 fed al an sp : Nat} {T : List Nat} {F1 F2 : Nat → List Int32} {hasT : Bool} {fp : Int} {vs : Nat → Int} {w : va_W} (hw : jVB cI cJ h Pt P1 P2 T F1 F2 hasT fed fp vs al an sp w) (j : Int) (hj : -2147483648 ≤ j ∧ j < 2147483648) : HM l yX8_variable wsX8_variable ({ frames := 2, cells := 0, slots := 0, locals := 100 } : Room) D G (jT cI cJ cB cZ) [.ref h, .int (iI j)] w (fun v u k n => v = some (.long (lI (mGet vs j))) ∧ u = w ∧ k = 0 ∧ n = 0) := by
  obtain ⟨ht, hk, hm, h1, h2, hr, o, a, nx, tk, st, wk, wm, w1, w2, rfl, hTk, hMc, hPg1, hPg2, hfd, hf1, hf2⟩ := hw
  refine HM_of (cc := cX8_variable) (maxL := 2) (ret := (some .long)) (lv := [(0, .ref h), (1, .int (iI j))]) (by decide) rfl rfl (Nat.le_of_ble_eq_true rfl) (fun p e s m args below meth c A0 ls hx hb hr9 hts hown hlocks hml hnm hK hA hAm hl => ?_)
  refine jJ_open (xs := [[(h, .inr (6, [.ref ht, .ref hk, .ref hr, .ref hm, .ref h1, .ref h2, .int (bI hasT), .int (nI fed), .int (iI fp)]))], wk, [(hr, .inr (3, [.ref hk, .ref o, .int (nI a)]))], wm, w1, w2]) (r := []) (cs2 := [[(h, .inr (6, [.ref ht, .ref hk, .ref hr, .ref hm, .ref h1, .ref h2, .int (bI hasT), .int (nI fed), .int (iI fp)]))], wk, [(hr, .inr (3, [.ref hk, .ref o, .int (nI a)]))], wm, w1, w2]) rfl ?_
  refine jJ_of (fun H locs => lv_aload_n hx hb dX8_variable_0 rfl (lv_at hl 0 rfl)) ?_
  refine jJ_get hx hb (C := RX8) (T := TX8) (N := 9) hts uX8_in_X8_variable hown hK 0 rfl rfl 3 (by decide) (hts (.fieldLink RX8 30 "ValueBlocks" "machine" "LValueBlocks$Machine;") (by decide +kernel)) (fun _ h9 => h9) rfl dX8_variable_1 ?_
  refine jJ_of (fun H locs => lv_iload_n hx hb dX8_variable_4 rfl (lv_at hl 1 rfl)) ?_
  refine jJ_callV (As := [.int (iI j)]) (rest := []) (wc := _) (cs2 := [[(h, .inr (6, [.ref ht, .ref hk, .ref hr, .ref hm, .ref h1, .ref h2, .int (bI hasT), .int (nI fed), .int (iI fp)]))], wk, [(hr, .inr (3, [.ref hk, .ref o, .int (nI a)]))], w1, w2]) (C := RX2) (T := TX2) (N := 6) (ci := 1) [3] [0, 1, 2, 4, 5] ⟨hx, hb, hml, hown, hts⟩ hK hA hAm (c_Mach_valueOf hMc j (by omega) (by omega)) (cwV 1 hts gX8_variable_X2_valueOf rfl rfl rfl (by decide +kernel) ⟨Nat.le_of_ble_eq_true rfl, Nat.le_of_ble_eq_true rfl⟩) (nn := 6) rfl (by decide) rfl rfl hMc.hd rfl rfl rfl hl.1 (Nat.le_of_ble_eq_true rfl) dX8_variable_5 (by show _ + 0 ≤ 0; omega) (by show _ + 0 ≤ 0; omega) (fun v u1 k1 n1 hq1 => ?_)
  obtain ⟨rfl, hw1, rfl, rfl⟩ := hq1
  rw [hw1]
  refine jJ_eq (g2 := F0 m 8 ls [.long (lI (mGet vs j))]) (cs2 := [wm, [(h, .inr (6, [.ref ht, .ref hk, .ref hr, .ref hm, .ref h1, .ref h2, .int (bI hasT), .int (nI fed), .int (iI fp)]))], wk, [(hr, .inr (3, [.ref hk, .ref o, .int (nI a)]))], w1, w2]) rfl rfl ?_
  refine jJ_perm [1, 2, 3, 0, 4, 5] (nn := 6) rfl (by decide) (cs2 := [[(h, .inr (6, [.ref ht, .ref hk, .ref hr, .ref hm, .ref h1, .ref h2, .int (bI hasT), .int (nI fed), .int (iI fp)]))], wk, [(hr, .inr (3, [.ref hk, .ref o, .int (nI a)]))], wm, w1, w2]) rfl ?_
  exact jJ_lret hx hb hr9 hlocks dX8_variable_8 (by show _ ≤ 0; omega) (by show _ ≤ 0; omega) ⟨rfl, rfl, rfl, rfl⟩
theorem uX8_in_X8_put : ∀ w ∈ u_ws RX8 TX8 9, w ∈ wsX8_put := by decide +kernel
set_option maxHeartbeats 4000000 in
set_option maxRecDepth 100000 in
/-- put(n, v) -/
theorem c_VB_put {h Pt P1 P2 fed al an sp : Nat} {T : List Nat} {F1 F2 : Nat → List Int32} {hasT : Bool} {fp : Int} {vs : Nat → Int} {w : va_W} (hw : jVB cI cJ h Pt P1 P2 T F1 F2 hasT fed fp vs al an sp w) (j z : Int) (hj : -2147483648 ≤ j ∧ j < 2147483648) (hz : -9223372036854775808 ≤ z ∧ z < 9223372036854775808) : HM l yX8_put wsX8_put ({ frames := 2, cells := 0, slots := 0, locals := 100 } : Room) D G (jT cI cJ cB cZ) [.ref h, .int (iI j), .long (lI z)] w (fun v u k n => v = some (.int (bI (isV j && !vTG z))) ∧ jVB cI cJ h Pt P1 P2 T F1 F2 hasT fed fp (mSet vs j z) al an sp u ∧ k = 0 ∧ n = 0) := by
  obtain ⟨ht, hk, hm, h1, h2, hr, o, a, nx, tk, st, wk, wm, w1, w2, rfl, hTk, hMc, hPg1, hPg2, hfd, hf1, hf2⟩ := hw
  refine HM_of (cc := cX8_put) (maxL := 4) (ret := (some .boolean)) (lv := [(0, .ref h), (1, .int (iI j)), (2, .long (lI z))]) (by decide) rfl rfl (Nat.le_of_ble_eq_true rfl) (fun p e s m args below meth c A0 ls hx hb hr9 hts hown hlocks hml hnm hK hA hAm hl => ?_)
  refine jJ_open (xs := [[(h, .inr (6, [.ref ht, .ref hk, .ref hr, .ref hm, .ref h1, .ref h2, .int (bI hasT), .int (nI fed), .int (iI fp)]))], wk, [(hr, .inr (3, [.ref hk, .ref o, .int (nI a)]))], wm, w1, w2]) (r := []) (cs2 := [[(h, .inr (6, [.ref ht, .ref hk, .ref hr, .ref hm, .ref h1, .ref h2, .int (bI hasT), .int (nI fed), .int (iI fp)]))], wk, [(hr, .inr (3, [.ref hk, .ref o, .int (nI a)]))], wm, w1, w2]) rfl ?_
  refine jJ_of (fun H locs => lv_aload_n hx hb dX8_put_0 rfl (lv_at hl 0 rfl)) ?_
  refine jJ_get hx hb (C := RX8) (T := TX8) (N := 9) hts uX8_in_X8_put hown hK 0 rfl rfl 3 (by decide) (hts (.fieldLink RX8 30 "ValueBlocks" "machine" "LValueBlocks$Machine;") (by decide +kernel)) (fun _ h9 => h9) rfl dX8_put_1 ?_
  refine jJ_of (fun H locs => lv_iload_n hx hb dX8_put_4 rfl (lv_at hl 1 rfl)) ?_
  refine jJ_of (fun H locs => lv_lload_n hx hb dX8_put_5 rfl (lv_at hl 2 rfl)) ?_
  refine jJ_callV (As := [.int (iI j), .long (lI z)]) (rest := []) (wc := _) (cs2 := [[(h, .inr (6, [.ref ht, .ref hk, .ref hr, .ref hm, .ref h1, .ref h2, .int (bI hasT), .int (nI fed), .int (iI fp)]))], wk, [(hr, .inr (3, [.ref hk, .ref o, .int (nI a)]))], w1, w2]) (C := RX2) (T := TX2) (N := 6) (ci := 1) [3] [0, 1, 2, 4, 5] ⟨hx, hb, hml, hown, hts⟩ hK hA hAm (c_Mach_setValue hMc j z (by omega) (by omega) (by omega) (by omega)) (cwV 2 hts gX8_put_X2_setValue rfl rfl rfl (by decide +kernel) ⟨Nat.le_of_ble_eq_true rfl, Nat.le_of_ble_eq_true rfl⟩) (nn := 6) rfl (by decide) rfl rfl hMc.hd rfl rfl rfl hl.1 (Nat.le_of_ble_eq_true rfl) dX8_put_6 (by show _ + 0 ≤ 0; omega) (by show _ + 0 ≤ 0; omega) (fun v u1 k1 n1 hq1 => ?_)
  obtain ⟨rfl, hu1, rfl, rfl⟩ := hq1
  refine jJ_eq (g2 := F0 m 9 ls [.int (bI (isV j && !vTG z))]) (cs2 := [u1, [(h, .inr (6, [.ref ht, .ref hk, .ref hr, .ref hm, .ref h1, .ref h2, .int (bI hasT), .int (nI fed), .int (iI fp)]))], wk, [(hr, .inr (3, [.ref hk, .ref o, .int (nI a)]))], w1, w2]) rfl rfl ?_
  refine jJ_perm [1, 2, 3, 0, 4, 5] (nn := 6) rfl (by decide) (cs2 := [[(h, .inr (6, [.ref ht, .ref hk, .ref hr, .ref hm, .ref h1, .ref h2, .int (bI hasT), .int (nI fed), .int (iI fp)]))], wk, [(hr, .inr (3, [.ref hk, .ref o, .int (nI a)]))], u1, w1, w2]) rfl ?_
  exact jJ_zret hx hb hr9 hlocks dX8_put_9 (by show _ ≤ 0; omega) (by show _ ≤ 0; omega) (bI_01 _) ⟨rfl, ⟨ht, hk, hm, h1, h2, hr, o, a, nx, tk, st, wk, _, w1, w2, rfl, hTk, hu1, hPg1, hPg2, hfd, hf1, hf2⟩, rfl, rfl⟩
theorem uX2_in_X8_init : ∀ w ∈ u_ws RX2 TX2 6, w ∈ wsX8_init := by decide +kernel
theorem uX3_in_X8_init : ∀ w ∈ u_ws RX3 TX3 8, w ∈ wsX8_init := by decide +kernel
theorem uX4_in_X8_init : ∀ w ∈ u_ws RX4 TX4 3, w ∈ wsX8_init := by decide +kernel
theorem uX5_in_X8_init : ∀ w ∈ u_ws RX5 TX5 3, w ∈ wsX8_init := by decide +kernel
theorem uX6_in_X8_init : ∀ w ∈ u_ws RX6 TX6 5, w ∈ wsX8_init := by decide +kernel
theorem uX8_in_X8_init : ∀ w ∈ u_ws RX8 TX8 9, w ∈ wsX8_init := by decide +kernel
set_option maxHeartbeats 4000000 in
set_option maxRecDepth 100000 in
/-- ValueBlocks() -/
theorem c_VB_init {h : Nat} : HM l yX8_init wsX8_init ({ frames := 4, cells := 48, slots := 1800, locals := 160 } : Room) D G (jT cI cJ cB cZ) [.ref h] ([(h, .inr (6, [.null, .null, .null, .null, .null, .null, .int (nI 0), .int (nI 0), .int (nI 0)]))]) (fun v u k n => v = none ∧ jVB cI cJ h 4 8 8 [] (fun _ => []) (fun _ => []) false 0 (-1) (fun _ => 0) 0 0 0 u ∧ k ≤ 48 ∧ n ≤ 1800) := by
  refine HM_of (cc := cX8_init) (maxL := 1) (ret := none) (lv := [(0, .ref h)]) (by decide) rfl rfl (Nat.le_of_ble_eq_true rfl) (fun p e s m args below meth c A0 ls hx hb hr9 hts hown hlocks hml hnm hK hA hAm hl => ?_)
  refine jJ_open (xs := [[(h, .inr (6, [.null, .null, .null, .null, .null, .null, .int (nI 0), .int (nI 0), .int (nI 0)]))]]) (r := []) (cs2 := [[(h, .inr (6, [.null, .null, .null, .null, .null, .null, .int (nI 0), .int (nI 0), .int (nI 0)]))]]) rfl ?_
  refine jJ_of (fun H locs => lv_aload_n hx hb dX8_init_0 rfl (lv_at hl 0 rfl)) ?_
  refine jJ_of (g2 := F0 m 4 ls []) (fun H locs kk => W.objInit hx hb hown (hts (.methodLink RX8 1 objectInit) (by decide +kernel)) (hts (.instanceMethod objectInit) (by decide +kernel)) (hts (.code objectInit ⟨#[0xb1]⟩ 1 none) (List.mem_of_getElem? (i := 3) rfl)) rfl (by rw [hml]; exact hl.1) rfl dX8_init_1 (Nat.le_of_ble_eq_true rfl) (Nat.le_of_ble_eq_true rfl) (W.eq rfl kk)) ?_
  refine jJ_of (fun H locs => lv_aload_n hx hb dX8_init_4 rfl (lv_at hl 0 rfl)) ?_
  refine jJ_new (ci := 4) (fs := [.int (nI 0), .null, .int (nI 0)]) (C := RX5) (T := TX5) (N := 3) hx hb hts uX5_in_X8_init tyX5 tyX5_ok hown (hts (.classLink RX8 7 RX5) (by decide +kernel)) (hts (.instantiable RX5 3) (by decide +kernel)) (hts (.initialized RX5) (by decide +kernel)) hK hA rfl (fun j hj => by rcases (show j = 0 ∨ j = 1 ∨ j = 2 by omega) with rfl | rfl | rfl <;> rfl) (by show _ + 1 ≤ 48; omega) (by show _ + 3 ≤ 1800; omega) dX8_init_5 (fun q5 => ?_)
  refine jJ_eq (g2 := F0 m 8 ls [.ref q5, .ref h]) (cs2 := [[(h, .inr (6, [.null, .null, .null, .null, .null, .null, .int (nI 0), .int (nI 0), .int (nI 0)]))], [(q5, .inr (4, [.int (nI 0), .null, .int (nI 0)]))]]) rfl rfl ?_
  refine jJ_of (fun H locs => lv_dup hx hb dX8_init_8 rfl) ?_
  refine jJ_of (fun H locs => lv_sipush (v := (nI 16000)) hx hb dX8_init_9 (by decide)) ?_
  refine jJ_callI (As := [.int (nI 16000)]) (rest := [.ref q5, .ref h]) (wc := _) (cs2 := [[(h, .inr (6, [.null, .null, .null, .null, .null, .null, .int (nI 0), .int (nI 0), .int (nI 0)]))]]) [1] [0] ⟨hx, hb, hml, hown, hts⟩ hK hA hAm (c_Row_init q5 16000 (by decide)) (cwI 1 hts gX8_init_X5_init rfl rfl rfl (hts (.initialized RX5) (by decide +kernel)) (hts (.methodLink RX8 11 yX5_init) (by decide +kernel)) (hts (.instanceMethod yX5_init) (by decide +kernel)) rfl (by decide +kernel) ⟨Nat.le_of_ble_eq_true rfl, Nat.le_of_ble_eq_true rfl⟩) (nn := 2) rfl (by decide) rfl rfl rfl rfl hl.1 (Nat.le_of_ble_eq_true rfl) dX8_init_12 (by show _ + 1 ≤ 48; omega) (by show _ + 64 ≤ 1800; omega) (fun v u1 k1 n1 hq1 => ?_)
  obtain ⟨rfl, hu1, hk1, hn1⟩ := hq1
  refine jJ_eq (g2 := F0 m 15 ls [.ref q5, .ref h]) (cs2 := [u1, [(h, .inr (6, [.null, .null, .null, .null, .null, .null, .int (nI 0), .int (nI 0), .int (nI 0)]))]]) rfl rfl ?_
  refine jJ_putF hx hb (C := RX8) (T := TX8) (N := 9) (ty := .object "ValueBlocks$Row") (v := .ref q5) hts uX8_in_X8_init tyX8 tyX8_ok nmX8 hown hK 1 rfl rfl 0 (by decide) (hts (.fieldLink RX8 14 "ValueBlocks" "tray" "LValueBlocks$Row;") (by decide +kernel)) (fun _ h9 => h9) rfl hnm rfl (by decide +kernel) rfl rfl (Nat.le_of_ble_eq_true rfl) dX8_init_15 (cs2 := [u1, [(h, .inr (6, [.ref q5, .null, .null, .null, .null, .null, .int (nI 0), .int (nI 0), .int (nI 0)]))]]) rfl ?_
  refine jJ_of (fun H locs => lv_aload_n hx hb dX8_init_18 rfl (lv_at hl 0 rfl)) ?_
  refine jJ_new (ci := 5) (fs := [.null, .null, .null, .null, .int (nI 0)]) (C := RX6) (T := TX6) (N := 5) hx hb hts uX6_in_X8_init tyX6 tyX6_ok hown (hts (.classLink RX8 18 RX6) (by decide +kernel)) (hts (.instantiable RX6 5) (by decide +kernel)) (hts (.initialized RX6) (by decide +kernel)) hK hA rfl (fun j hj => by rcases (show j = 0 ∨ j = 1 ∨ j = 2 ∨ j = 3 ∨ j = 4 by omega) with rfl | rfl | rfl | rfl | rfl <;> rfl) (by show _ + 1 ≤ 48; omega) (by show _ + 5 ≤ 1800; omega) dX8_init_19 (fun q19 => ?_)
  refine jJ_eq (g2 := F0 m 22 ls [.ref q19, .ref h]) (cs2 := [u1, [(h, .inr (6, [.ref q5, .null, .null, .null, .null, .null, .int (nI 0), .int (nI 0), .int (nI 0)]))], [(q19, .inr (5, [.null, .null, .null, .null, .int (nI 0)]))]]) rfl rfl ?_
  refine jJ_of (fun H locs => lv_dup hx hb dX8_init_22 rfl) ?_
  refine jJ_of (fun H locs => lv_aload_n hx hb dX8_init_23 rfl (lv_at hl 0 rfl)) ?_
  refine jJ_get hx hb (C := RX8) (T := TX8) (N := 9) hts uX8_in_X8_init hown hK 1 rfl rfl 0 (by decide) (hts (.fieldLink RX8 14 "ValueBlocks" "tray" "LValueBlocks$Row;") (by decide +kernel)) (fun _ h9 => h9) rfl dX8_init_24 ?_
  refine jJ_callI (As := [.ref q5]) (rest := [.ref q19, .ref h]) (wc := _) (cs2 := [[(h, .inr (6, [.ref q5, .null, .null, .null, .null, .null, .int (nI 0), .int (nI 0), .int (nI 0)]))]]) [2, 0] [1] ⟨hx, hb, hml, hown, hts⟩ hK hA hAm (c_Tok_init (T := []) hu1 (fun x h => absurd h List.not_mem_nil)) (cwI 1 hts gX8_init_X6_init rfl rfl rfl (hts (.initialized RX6) (by decide +kernel)) (hts (.methodLink RX8 20 yX6_init) (by decide +kernel)) (hts (.instanceMethod yX6_init) (by decide +kernel)) rfl (by decide +kernel) ⟨Nat.le_of_ble_eq_true rfl, Nat.le_of_ble_eq_true rfl⟩) (nn := 3) rfl (by decide) rfl rfl rfl rfl hl.1 (Nat.le_of_ble_eq_true rfl) dX8_init_27 (by show _ + 6 ≤ 48; omega) (by show _ + 201 ≤ 1800; omega) (fun v u2 k2 n2 hq2 => ?_)
  obtain ⟨rfl, hu2, hk2, hn2⟩ := hq2
  refine jJ_eq (g2 := F0 m 30 ls [.ref q19, .ref h]) (cs2 := [u2, [(h, .inr (6, [.ref q5, .null, .null, .null, .null, .null, .int (nI 0), .int (nI 0), .int (nI 0)]))]]) rfl rfl ?_
  refine jJ_putF hx hb (C := RX8) (T := TX8) (N := 9) (ty := .object "ValueBlocks$Tokens") (v := .ref q19) hts uX8_in_X8_init tyX8 tyX8_ok nmX8 hown hK 1 rfl rfl 1 (by decide) (hts (.fieldLink RX8 23 "ValueBlocks" "tokens" "LValueBlocks$Tokens;") (by decide +kernel)) (fun _ h9 => h9) rfl hnm rfl (by decide +kernel) rfl rfl (Nat.le_of_ble_eq_true rfl) dX8_init_30 (cs2 := [u2, [(h, .inr (6, [.ref q5, .ref q19, .null, .null, .null, .null, .int (nI 0), .int (nI 0), .int (nI 0)]))]]) rfl ?_
  refine jJ_of (fun H locs => lv_aload_n hx hb dX8_init_33 rfl (lv_at hl 0 rfl)) ?_
  refine jJ_new (ci := 1) (fs := [.null, .null, .int (nI 0), .int (nI 0), .int (nI 0), .int (nI 0)]) (C := RX2) (T := TX2) (N := 6) hx hb hts uX2_in_X8_init tyX2 tyX2_ok hown (hts (.classLink RX8 27 RX2) (by decide +kernel)) (hts (.instantiable RX2 6) (by decide +kernel)) (hts (.initialized RX2) (by decide +kernel)) hK hA rfl (fun j hj => by rcases (show j = 0 ∨ j = 1 ∨ j = 2 ∨ j = 3 ∨ j = 4 ∨ j = 5 by omega) with rfl | rfl | rfl | rfl | rfl | rfl <;> rfl) (by show _ + 1 ≤ 48; omega) (by show _ + 6 ≤ 1800; omega) dX8_init_34 (fun q34 => ?_)
  refine jJ_eq (g2 := F0 m 37 ls [.ref q34, .ref h]) (cs2 := [u2, [(h, .inr (6, [.ref q5, .ref q19, .null, .null, .null, .null, .int (nI 0), .int (nI 0), .int (nI 0)]))], [(q34, .inr (1, [.null, .null, .int (nI 0), .int (nI 0), .int (nI 0), .int (nI 0)]))]]) rfl rfl ?_
  refine jJ_of (fun H locs => lv_dup hx hb dX8_init_37 rfl) ?_
  refine jJ_callIN (As := []) (rest := [.ref q34, .ref h]) (wc := _) (cs2 := [u2, [(h, .inr (6, [.ref q5, .ref q19, .null, .null, .null, .null, .int (nI 0), .int (nI 0), .int (nI 0)]))]]) [2] [0, 1] ⟨hx, hb, hml, hown, hts⟩ hK hA hAm (c_Mach_init q34) ⟨va_cnB 0 hts gX8_init_X2_init_n29 rfl rfl rfl hAm.2.2.2.2.2.2.2.2.1 (hts (.initialized RX2) (by decide +kernel)) (by decide +kernel) ⟨Nat.le_of_ble_eq_true rfl, Nat.le_of_ble_eq_true rfl⟩, rfl, hts (.instanceMethod yX2_init) (by decide +kernel)⟩ (nn := 3) rfl (by decide) rfl rfl rfl rfl hl.1 (Nat.le_of_ble_eq_true rfl) dX8_init_38 (by show _ + 2 ≤ 48; omega) (by show _ + 280 ≤ 1800; omega) (fun v u3 k3 n3 hq3 => ?_)
  obtain ⟨rfl, hu3, hk3, hn3⟩ := hq3
  refine jJ_eq (g2 := F0 m 41 ls [.ref q34, .ref h]) (cs2 := [u3, u2, [(h, .inr (6, [.ref q5, .ref q19, .null, .null, .null, .null, .int (nI 0), .int (nI 0), .int (nI 0)]))]]) rfl rfl ?_
  refine jJ_putF hx hb (C := RX8) (T := TX8) (N := 9) (ty := .object "ValueBlocks$Machine") (v := .ref q34) hts uX8_in_X8_init tyX8 tyX8_ok nmX8 hown hK 2 rfl rfl 3 (by decide) (hts (.fieldLink RX8 30 "ValueBlocks" "machine" "LValueBlocks$Machine;") (by decide +kernel)) (fun _ h9 => h9) rfl hnm rfl (by decide +kernel) rfl rfl (Nat.le_of_ble_eq_true rfl) dX8_init_41 (cs2 := [u3, u2, [(h, .inr (6, [.ref q5, .ref q19, .null, .ref q34, .null, .null, .int (nI 0), .int (nI 0), .int (nI 0)]))]]) rfl ?_
  refine jJ_of (fun H locs => lv_aload_n hx hb dX8_init_44 rfl (lv_at hl 0 rfl)) ?_
  refine jJ_new (ci := 2) (fs := [.null, .null, .null, .null, .null, .null, .null, .null]) (C := RX3) (T := TX3) (N := 8) hx hb hts uX3_in_X8_init tyX3 tyX3_ok hown (hts (.classLink RX8 34 RX3) (by decide +kernel)) (hts (.instantiable RX3 8) (by decide +kernel)) (hts (.initialized RX3) (by decide +kernel)) hK hA rfl (fun j hj => by rcases (show j = 0 ∨ j = 1 ∨ j = 2 ∨ j = 3 ∨ j = 4 ∨ j = 5 ∨ j = 6 ∨ j = 7 by omega) with rfl | rfl | rfl | rfl | rfl | rfl | rfl | rfl <;> rfl) (by show _ + 1 ≤ 48; omega) (by show _ + 8 ≤ 1800; omega) dX8_init_45 (fun q45 => ?_)
  refine jJ_eq (g2 := F0 m 48 ls [.ref q45, .ref h]) (cs2 := [u3, u2, [(h, .inr (6, [.ref q5, .ref q19, .null, .ref q34, .null, .null, .int (nI 0), .int (nI 0), .int (nI 0)]))], [(q45, .inr (2, [.null, .null, .null, .null, .null, .null, .null, .null]))]]) rfl rfl ?_
  refine jJ_of (fun H locs => lv_dup hx hb dX8_init_48 rfl) ?_
  refine jJ_callIN (As := []) (rest := [.ref q45, .ref h]) (wc := _) (cs2 := [u3, u2, [(h, .inr (6, [.ref q5, .ref q19, .null, .ref q34, .null, .null, .int (nI 0), .int (nI 0), .int (nI 0)]))]]) [3] [0, 1, 2] ⟨hx, hb, hml, hown, hts⟩ hK hA hAm (c_Prog_init) ⟨va_cnB 0 hts gX8_init_X3_init_n36 rfl rfl rfl hAm.2.2.2.2.2.2.2.2.2.1 (hts (.initialized RX3) (by decide +kernel)) (by decide +kernel) ⟨Nat.le_of_ble_eq_true rfl, Nat.le_of_ble_eq_true rfl⟩, rfl, hts (.instanceMethod yX3_init) (by decide +kernel)⟩ (nn := 4) rfl (by decide) rfl rfl rfl rfl hl.1 (Nat.le_of_ble_eq_true rfl) dX8_init_49 (by show _ + 16 ≤ 48; omega) (by show _ + 536 ≤ 1800; omega) (fun v u4 k4 n4 hq4 => ?_)
  obtain ⟨rfl, hu4, hk4, hn4⟩ := hq4
  refine jJ_eq (g2 := F0 m 52 ls [.ref q45, .ref h]) (cs2 := [u4, u3, u2, [(h, .inr (6, [.ref q5, .ref q19, .null, .ref q34, .null, .null, .int (nI 0), .int (nI 0), .int (nI 0)]))]]) rfl rfl ?_
  refine jJ_put hx hb (C := RX8) (T := TX8) (N := 9) (ty := .object "ValueBlocks$Program") (v := .ref q45) hts uX8_in_X8_init tyX8 tyX8_ok nmX8 hown hK 3 rfl rfl 4 (by decide) (hts (.fieldLink RX8 37 "ValueBlocks" "program" "LValueBlocks$Program;") (by decide +kernel)) (fun _ h9 => h9) rfl (by decide +kernel) rfl rfl (Nat.le_of_ble_eq_true rfl) dX8_init_52 (cs2 := [u4, u3, u2, [(h, .inr (6, [.ref q5, .ref q19, .null, .ref q34, .ref q45, .null, .int (nI 0), .int (nI 0), .int (nI 0)]))]]) rfl ?_
  refine jJ_of (fun H locs => lv_aload_n hx hb dX8_init_55 rfl (lv_at hl 0 rfl)) ?_
  refine jJ_new (ci := 2) (fs := [.null, .null, .null, .null, .null, .null, .null, .null]) (C := RX3) (T := TX3) (N := 8) hx hb hts uX3_in_X8_init tyX3 tyX3_ok hown (hts (.classLink RX8 34 RX3) (by decide +kernel)) (hts (.instantiable RX3 8) (by decide +kernel)) (hts (.initialized RX3) (by decide +kernel)) hK hA rfl (fun j hj => by rcases (show j = 0 ∨ j = 1 ∨ j = 2 ∨ j = 3 ∨ j = 4 ∨ j = 5 ∨ j = 6 ∨ j = 7 by omega) with rfl | rfl | rfl | rfl | rfl | rfl | rfl | rfl <;> rfl) (by show _ + 1 ≤ 48; omega) (by show _ + 8 ≤ 1800; omega) dX8_init_56 (fun q56 => ?_)
  refine jJ_eq (g2 := F0 m 59 ls [.ref q56, .ref h]) (cs2 := [u4, u3, u2, [(h, .inr (6, [.ref q5, .ref q19, .null, .ref q34, .ref q45, .null, .int (nI 0), .int (nI 0), .int (nI 0)]))], [(q56, .inr (2, [.null, .null, .null, .null, .null, .null, .null, .null]))]]) rfl rfl ?_
  refine jJ_of (fun H locs => lv_dup hx hb dX8_init_59 rfl) ?_
  refine jJ_callIN (As := []) (rest := [.ref q56, .ref h]) (wc := _) (cs2 := [u4, u3, u2, [(h, .inr (6, [.ref q5, .ref q19, .null, .ref q34, .ref q45, .null, .int (nI 0), .int (nI 0), .int (nI 0)]))]]) [4] [0, 1, 2, 3] ⟨hx, hb, hml, hown, hts⟩ hK hA hAm (c_Prog_init) ⟨va_cnB 0 hts gX8_init_X3_init_n36 rfl rfl rfl hAm.2.2.2.2.2.2.2.2.2.1 (hts (.initialized RX3) (by decide +kernel)) (by decide +kernel) ⟨Nat.le_of_ble_eq_true rfl, Nat.le_of_ble_eq_true rfl⟩, rfl, hts (.instanceMethod yX3_init) (by decide +kernel)⟩ (nn := 5) rfl (by decide) rfl rfl rfl rfl hl.1 (Nat.le_of_ble_eq_true rfl) dX8_init_60 (by show _ + 16 ≤ 48; omega) (by show _ + 536 ≤ 1800; omega) (fun v u5 k5 n5 hq5 => ?_)
  obtain ⟨rfl, hu5, hk5, hn5⟩ := hq5
  refine jJ_eq (g2 := F0 m 63 ls [.ref q56, .ref h]) (cs2 := [u5, u4, u3, u2, [(h, .inr (6, [.ref q5, .ref q19, .null, .ref q34, .ref q45, .null, .int (nI 0), .int (nI 0), .int (nI 0)]))]]) rfl rfl ?_
  refine jJ_put hx hb (C := RX8) (T := TX8) (N := 9) (ty := .object "ValueBlocks$Program") (v := .ref q56) hts uX8_in_X8_init tyX8 tyX8_ok nmX8 hown hK 4 rfl rfl 5 (by decide) (hts (.fieldLink RX8 41 "ValueBlocks" "spare" "LValueBlocks$Program;") (by decide +kernel)) (fun _ h9 => h9) rfl (by decide +kernel) rfl rfl (Nat.le_of_ble_eq_true rfl) dX8_init_63 (cs2 := [u5, u4, u3, u2, [(h, .inr (6, [.ref q5, .ref q19, .null, .ref q34, .ref q45, .ref q56, .int (nI 0), .int (nI 0), .int (nI 0)]))]]) rfl ?_
  refine jJ_of (fun H locs => lv_aload_n hx hb dX8_init_66 rfl (lv_at hl 0 rfl)) ?_
  refine jJ_new (ci := 3) (fs := [.null, .null, .int (nI 0)]) (C := RX4) (T := TX4) (N := 3) hx hb hts uX4_in_X8_init tyX4 tyX4_ok hown (hts (.classLink RX8 44 RX4) (by decide +kernel)) (hts (.instantiable RX4 3) (by decide +kernel)) (hts (.initialized RX4) (by decide +kernel)) hK hA rfl (fun j hj => by rcases (show j = 0 ∨ j = 1 ∨ j = 2 by omega) with rfl | rfl | rfl <;> rfl) (by show _ + 1 ≤ 48; omega) (by show _ + 3 ≤ 1800; omega) dX8_init_67 (fun q67 => ?_)
  refine jJ_eq (g2 := F0 m 70 ls [.ref q67, .ref h]) (cs2 := [u5, u4, u3, u2, [(h, .inr (6, [.ref q5, .ref q19, .null, .ref q34, .ref q45, .ref q56, .int (nI 0), .int (nI 0), .int (nI 0)]))], [(q67, .inr (3, [.null, .null, .int (nI 0)]))]]) rfl rfl ?_
  refine jJ_of (fun H locs => lv_dup hx hb dX8_init_70 rfl) ?_
  refine jJ_of (fun H locs => lv_aload_n hx hb dX8_init_71 rfl (lv_at hl 0 rfl)) ?_
  refine jJ_get hx hb (C := RX8) (T := TX8) (N := 9) hts uX8_in_X8_init hown hK 4 rfl rfl 1 (by decide) (hts (.fieldLink RX8 23 "ValueBlocks" "tokens" "LValueBlocks$Tokens;") (by decide +kernel)) (fun _ h9 => h9) rfl dX8_init_72 ?_
  refine jJ_of (fun H locs => lv_aload_n hx hb dX8_init_75 rfl (lv_at hl 0 rfl)) ?_
  refine jJ_get hx hb (C := RX8) (T := TX8) (N := 9) hts uX8_in_X8_init hown hK 4 rfl rfl 5 (by decide) (hts (.fieldLink RX8 41 "ValueBlocks" "spare" "LValueBlocks$Program;") (by decide +kernel)) (fun _ h9 => h9) rfl dX8_init_76 ?_
  refine jJ_callI (As := [.ref q19, .ref q56]) (rest := [.ref q67, .ref h]) (wc := _) (cs2 := [u5, u4, u3, u2, [(h, .inr (6, [.ref q5, .ref q19, .null, .ref q34, .ref q45, .ref q56, .int (nI 0), .int (nI 0), .int (nI 0)]))]]) [5] [0, 1, 2, 3, 4] ⟨hx, hb, hml, hown, hts⟩ hK hA hAm (c_Rd_init) (cwI 2 hts gX8_init_X4_init rfl rfl rfl (hts (.initialized RX4) (by decide +kernel)) (hts (.methodLink RX8 46 yX4_init) (by decide +kernel)) (hts (.instanceMethod yX4_init) (by decide +kernel)) rfl (by decide +kernel) ⟨Nat.le_of_ble_eq_true rfl, Nat.le_of_ble_eq_true rfl⟩) (nn := 6) rfl (by decide) rfl rfl rfl rfl hl.1 (Nat.le_of_ble_eq_true rfl) dX8_init_79 (by show _ + 0 ≤ 48; omega) (by show _ + 0 ≤ 1800; omega) (fun v u6 k6 n6 hq6 => ?_)
  obtain ⟨rfl, rfl, rfl, rfl⟩ := hq6
  refine jJ_eq (g2 := F0 m 82 ls [.ref q67, .ref h]) (cs2 := [[(q67, .inr (3, [.ref q19, .ref q56, .int (nI 0)]))], u5, u4, u3, u2, [(h, .inr (6, [.ref q5, .ref q19, .null, .ref q34, .ref q45, .ref q56, .int (nI 0), .int (nI 0), .int (nI 0)]))]]) rfl rfl ?_
  refine jJ_putF hx hb (C := RX8) (T := TX8) (N := 9) (ty := .object "ValueBlocks$Reader") (v := .ref q67) hts uX8_in_X8_init tyX8 tyX8_ok nmX8 hown hK 5 rfl rfl 2 (by decide) (hts (.fieldLink RX8 49 "ValueBlocks" "reader" "LValueBlocks$Reader;") (by decide +kernel)) (fun _ h9 => h9) rfl hnm rfl (by decide +kernel) rfl rfl (Nat.le_of_ble_eq_true rfl) dX8_init_82 (cs2 := [[(q67, .inr (3, [.ref q19, .ref q56, .int (nI 0)]))], u5, u4, u3, u2, [(h, .inr (6, [.ref q5, .ref q19, .ref q67, .ref q34, .ref q45, .ref q56, .int (nI 0), .int (nI 0), .int (nI 0)]))]]) rfl ?_
  refine jJ_of (fun H locs => lv_aload_n hx hb dX8_init_85 rfl (lv_at hl 0 rfl)) ?_
  refine jJ_of (fun H locs => lv_iconst (v := (nI 0)) hx hb dX8_init_86 (by decide)) ?_
  refine jJ_put hx hb (C := RX8) (T := TX8) (N := 9) (ty := .boolean) (v := .int (nI 0)) hts uX8_in_X8_init tyX8 tyX8_ok nmX8 hown hK 5 rfl rfl 6 (by decide) (hts (.fieldLink RX8 53 "ValueBlocks" "hasText" "Z") (by decide +kernel)) (fun _ h9 => h9) rfl (by decide +kernel) rfl rfl (Nat.le_of_ble_eq_true rfl) dX8_init_87 (cs2 := [[(q67, .inr (3, [.ref q19, .ref q56, .int (nI 0)]))], u5, u4, u3, u2, [(h, .inr (6, [.ref q5, .ref q19, .ref q67, .ref q34, .ref q45, .ref q56, .int (nI 0), .int (nI 0), .int (nI 0)]))]]) rfl ?_
  refine jJ_of (fun H locs => lv_aload_n hx hb dX8_init_90 rfl (lv_at hl 0 rfl)) ?_
  refine jJ_of (fun H locs => lv_iconst (v := (nI 0)) hx hb dX8_init_91 (by decide)) ?_
  refine jJ_put hx hb (C := RX8) (T := TX8) (N := 9) (ty := .int) (v := .int (nI 0)) hts uX8_in_X8_init tyX8 tyX8_ok nmX8 hown hK 5 rfl rfl 7 (by decide) (hts (.fieldLink RX8 57 "ValueBlocks" "fed" "I") (by decide +kernel)) (fun _ h9 => h9) rfl (by decide +kernel) rfl rfl (Nat.le_of_ble_eq_true rfl) dX8_init_92 (cs2 := [[(q67, .inr (3, [.ref q19, .ref q56, .int (nI 0)]))], u5, u4, u3, u2, [(h, .inr (6, [.ref q5, .ref q19, .ref q67, .ref q34, .ref q45, .ref q56, .int (nI 0), .int (nI 0), .int (nI 0)]))]]) rfl ?_
  refine jJ_of (fun H locs => lv_aload_n hx hb dX8_init_95 rfl (lv_at hl 0 rfl)) ?_
  refine jJ_of (fun H locs => lv_iconst (v := (iI (-1))) hx hb dX8_init_96 (by decide)) ?_
  refine jJ_put hx hb (C := RX8) (T := TX8) (N := 9) (ty := .int) (v := .int (iI (-1))) hts uX8_in_X8_init tyX8 tyX8_ok nmX8 hown hK 5 rfl rfl 8 (by decide) (hts (.fieldLink RX8 61 "ValueBlocks" "faultPlace" "I") (by decide +kernel)) (fun _ h9 => h9) rfl (by decide +kernel) rfl rfl (Nat.le_of_ble_eq_true rfl) dX8_init_97 (cs2 := [[(q67, .inr (3, [.ref q19, .ref q56, .int (nI 0)]))], u5, u4, u3, u2, [(h, .inr (6, [.ref q5, .ref q19, .ref q67, .ref q34, .ref q45, .ref q56, .int (nI 0), .int (nI 0), .int (iI (-1))]))]]) rfl ?_
  refine jJ_perm [5, 4, 0, 3, 2, 1] (nn := 6) rfl (by decide) (cs2 := [[(h, .inr (6, [.ref q5, .ref q19, .ref q67, .ref q34, .ref q45, .ref q56, .int (nI 0), .int (nI 0), .int (iI (-1))]))], u2, [(q67, .inr (3, [.ref q19, .ref q56, .int (nI 0)]))], u3, u4, u5]) rfl ?_
  exact jJ_vret hx hb hr9 hlocks dX8_init_100 (by show _ ≤ 48; omega) (by show _ ≤ 1800; omega) ⟨rfl, ⟨q5, q19, q34, q45, q56, q67, _, 0, 0, _, _, _, _, _, _, rfl, hu2, hu3, hu4, hu5, by omega, by omega, by omega⟩, by omega, by omega⟩
def byB (v : Int32) (s : Nat) : Nat := (v.toUInt32.toNat >>> s) % 256
theorem byB_lt (v : Int32) (s : Nat) : byB v s < 256 := Nat.mod_lt _ (by decide)
theorem byB_aux (u : UInt32) : u.toInt32 &&& nI 255 = nI (u.toNat % 256) := by
  apply Int32.toBitVec_inj.mp
  rw [Int32.toBitVec_and]
  apply BitVec.eq_of_toNat_eq
  rw [BitVec.toNat_and]
  show u.toBitVec.toNat &&& 255 = (BitVec.ofNat 32 (u.toNat % 256)).toNat
  rw [BitVec.toNat_ofNat, Nat.mod_eq_of_lt (by omega)]
  exact Nat.and_two_pow_sub_one_eq_mod _ 8
theorem byB_eq (v : Int32) (s : Nat) (c : UInt32) (hc : (nI s).toUInt32 &&& Int32.toUInt32 31 = c) (hs : c.toNat % 32 = s) : ((v.toUInt32 >>> ((nI s).toUInt32 &&& Int32.toUInt32 31)).toInt32 &&& nI 255) = nI (byB v s) := by
  rw [hc, byB_aux, UInt32.toNat_shiftRight, hs]
  rfl
def fB (v : Int32) : List Nat := [byB v 24, byB v 16, byB v 8, byB v 0]
theorem fB_app (T : List Nat) (v : Int32) : (((T ++ [byB v 24]) ++ [byB v 16]) ++ [byB v 8]) ++ [byB v 0] = T ++ fB v := by
  rw [List.append_assoc, List.append_assoc, List.append_assoc]
  rfl
def vEnd (T : List Nat) (j : Int) : Int × List Nat := if j < 0 ∨ (T.length : Int) < j then (-1, T) else (j, T.take j.toNat)
theorem uX8_in_X8_end : ∀ w ∈ u_ws RX8 TX8 9, w ∈ wsX8_end := by decide +kernel
set_option maxHeartbeats 4000000 in
set_option maxRecDepth 100000 in
/-- end(n) -/
theorem c_VB_end {h Pt P1 P2 fed al an sp : Nat} {T : List Nat} {F1 F2 : Nat → List Int32} {hasT : Bool} {fp : Int} {vs : Nat → Int} {w : va_W} (hw : jVB cI cJ h Pt P1 P2 T F1 F2 hasT fed fp vs al an sp w) (j : Int) (hj : -2147483648 ≤ j ∧ j < 2147483648) : HM l yX8_end wsX8_end ({ frames := 2, cells := 0, slots := 0, locals := 100 } : Room) D G (jT cI cJ cB cZ) [.ref h, .int (iI j)] w (fun v u k n => v = some (.int (iI (vEnd T j).1)) ∧ ∃ Pt2 : Nat, jVB cI cJ h Pt2 P1 P2 (vEnd T j).2 F1 F2 hasT fed fp vs al an sp u ∧ k + Pt ≤ Pt2 ∧ n + 128 * Pt ≤ 128 * Pt2) := by
  obtain ⟨ht, hk, hm, h1, h2, hr, o, a, nx, tk, st, wk, wm, w1, w2, rfl, hTk, hMc, hPg1, hPg2, hfd, hf1, hf2⟩ := hw
  refine HM_of (cc := cX8_end) (maxL := 2) (ret := (some .int)) (lv := [(0, .ref h), (1, .int (iI j))]) (by decide) rfl rfl (Nat.le_of_ble_eq_true rfl) (fun p e s m args below meth c A0 ls hx hb hr9 hts hown hlocks hml hnm hK hA hAm hl => ?_)
  refine jJ_open (xs := [[(h, .inr (6, [.ref ht, .ref hk, .ref hr, .ref hm, .ref h1, .ref h2, .int (bI hasT), .int (nI fed), .int (iI fp)]))], wk, [(hr, .inr (3, [.ref hk, .ref o, .int (nI a)]))], wm, w1, w2]) (r := []) (cs2 := [[(h, .inr (6, [.ref ht, .ref hk, .ref hr, .ref hm, .ref h1, .ref h2, .int (bI hasT), .int (nI fed), .int (iI fp)]))], wk, [(hr, .inr (3, [.ref hk, .ref o, .int (nI a)]))], wm, w1, w2]) rfl ?_
  have hTl := hTk.len
  refine jJ_of (fun H locs => lv_iload_n hx hb dX8_end_0 rfl (lv_at hl 1 rfl)) ?_
  refine jJ_of2 (fun H locs => jz_if_lt (tgt := 15) hx hb dX8_end_1 (by decide) (by omega) (by omega)) (fun c1 => ?_) (fun c1 => ?_)
  · refine jJ_of (fun H locs => lv_iconst (v := (iI (-1))) hx hb dX8_end_15 (by decide)) ?_
    have he : vEnd T j = (-1, T) := if_pos (by omega)
    exact jJ_iret hx hb hr9 hlocks dX8_end_16 (by show _ ≤ 0; omega) (by show _ ≤ 0; omega) ⟨by rw [he], Pt, by rw [he]; exact ⟨ht, hk, hm, h1, h2, hr, o, a, nx, tk, st, _, wm, w1, w2, rfl, hTk, hMc, hPg1, hPg2, hfd, hf1, hf2⟩, by omega, by omega⟩
  · refine jJ_of (fun H locs => lv_iload_n hx hb dX8_end_4 rfl (lv_at hl 1 rfl)) ?_
    refine jJ_of (fun H locs => lv_aload_n hx hb dX8_end_5 rfl (lv_at hl 0 rfl)) ?_
    refine jJ_get hx hb (C := RX8) (T := TX8) (N := 9) hts uX8_in_X8_end hown hK 0 rfl rfl 0 (by decide) (hts (.fieldLink RX8 14 "ValueBlocks" "tray" "LValueBlocks$Row;") (by decide +kernel)) (fun _ h9 => h9) rfl dX8_end_6 ?_
    refine jJ_perm [1, 0, 2, 3, 4, 5] (nn := 6) rfl (by decide) (cs2 := [wk, [(h, .inr (6, [.ref ht, .ref hk, .ref hr, .ref hm, .ref h1, .ref h2, .int (bI hasT), .int (nI fed), .int (iI fp)]))], [(hr, .inr (3, [.ref hk, .ref o, .int (nI a)]))], wm, w1, w2]) rfl ?_
    have hsv1 := hTk
    obtain ⟨a1, q1, v1, qT1, wT1, rfl, hrT1, hr1, hP1, hB1, hnx1, hl11, hl21, hvb1⟩ := hsv1
    refine jJ_open (xs := jTkW hk ht a1 nx wT1 v1) (r := [[(h, .inr (6, [.ref ht, .ref hk, .ref hr, .ref hm, .ref h1, .ref h2, .int (bI hasT), .int (nI fed), .int (iI fp)]))], [(hr, .inr (3, [.ref hk, .ref o, .int (nI a)]))], wm, w1, w2]) (cs2 := [[(hk, .inr (5, [.ref ht, .ref (a1 0), .ref (a1 1), .ref (a1 2), .int (nI nx)]))], wT1, v1 0, v1 1, v1 2, [(h, .inr (6, [.ref ht, .ref hk, .ref hr, .ref hm, .ref h1, .ref h2, .int (bI hasT), .int (nI fed), .int (iI fp)]))], [(hr, .inr (3, [.ref hk, .ref o, .int (nI a)]))], wm, w1, w2]) rfl ?_
    refine jJ_callV (As := []) (rest := [.int (iI j)]) (wc := _) (cs2 := [[(hk, .inr (5, [.ref ht, .ref (a1 0), .ref (a1 1), .ref (a1 2), .int (nI nx)]))], v1 0, v1 1, v1 2, [(h, .inr (6, [.ref ht, .ref hk, .ref hr, .ref hm, .ref h1, .ref h2, .int (bI hasT), .int (nI fed), .int (iI fp)]))], [(hr, .inr (3, [.ref hk, .ref o, .int (nI a)]))], wm, w1, w2]) (C := RX5) (T := TX5) (N := 3) (ci := 4) [1] [0, 2, 3, 4, 5, 6, 7, 8, 9] ⟨hx, hb, hml, hown, hts⟩ hK hA hAm (c_Row_size hrT1) (cwV 0 hts gX8_end_X5_size rfl rfl rfl (by decide +kernel) ⟨Nat.le_of_ble_eq_true rfl, Nat.le_of_ble_eq_true rfl⟩) (nn := 10) rfl (by decide) rfl rfl hrT1.hd rfl rfl rfl hl.1 (Nat.le_of_ble_eq_true rfl) dX8_end_9 (by show _ + 0 ≤ 0; omega) (by show _ + 0 ≤ 0; omega) (fun v u2 k2 n2 hq2 => ?_)
    obtain ⟨rfl, hw2, rfl, rfl⟩ := hq2
    rw [hw2]
    rw [List.length_map]
    refine jJ_eq (g2 := F0 m 12 ls [.int (nI T.length), .int (iI j)]) (cs2 := [wT1, [(hk, .inr (5, [.ref ht, .ref (a1 0), .ref (a1 1), .ref (a1 2), .int (nI nx)]))], v1 0, v1 1, v1 2, [(h, .inr (6, [.ref ht, .ref hk, .ref hr, .ref hm, .ref h1, .ref h2, .int (bI hasT), .int (nI fed), .int (iI fp)]))], [(hr, .inr (3, [.ref hk, .ref o, .int (nI a)]))], wm, w1, w2]) rfl rfl ?_
    rw [nI_iI T.length]
    refine jJ_of2 (fun H locs => jz_icmp_le (tgt := 17) hx hb dX8_end_12 (by decide) (by omega) (by omega) (by omega) (by omega)) (fun c12 => ?_) (fun c12 => ?_)
    · obtain ⟨jn, hjn⟩ : ∃ k : Nat, j = (k : Int) := ⟨j.toNat, by omega⟩
      subst hjn
      rw [← nI_iI jn] at hl
      refine jJ_of (fun H locs => lv_aload_n hx hb dX8_end_17 rfl (lv_at hl 0 rfl)) ?_
      refine jJ_get hx hb (C := RX8) (T := TX8) (N := 9) hts uX8_in_X8_end hown hK 5 rfl rfl 0 (by decide) (hts (.fieldLink RX8 14 "ValueBlocks" "tray" "LValueBlocks$Row;") (by decide +kernel)) (fun _ h9 => h9) rfl dX8_end_18 ?_
      refine jJ_of (fun H locs => lv_iload_n hx hb dX8_end_21 rfl (lv_at hl 1 rfl)) ?_
      refine jJ_callV (As := [.int (nI jn)]) (rest := []) (wc := _) (cs2 := [[(hk, .inr (5, [.ref ht, .ref (a1 0), .ref (a1 1), .ref (a1 2), .int (nI nx)]))], v1 0, v1 1, v1 2, [(h, .inr (6, [.ref ht, .ref hk, .ref hr, .ref hm, .ref h1, .ref h2, .int (bI hasT), .int (nI fed), .int (iI fp)]))], [(hr, .inr (3, [.ref hk, .ref o, .int (nI a)]))], wm, w1, w2]) (C := RX5) (T := TX5) (N := 3) (ci := 4) [0] [1, 2, 3, 4, 5, 6, 7, 8, 9] ⟨hx, hb, hml, hown, hts⟩ hK hA hAm (c_Row_cut hrT1 jn (by omega)) (cwV 1 hts gX8_end_X5_cut rfl rfl rfl (by decide +kernel) ⟨Nat.le_of_ble_eq_true rfl, Nat.le_of_ble_eq_true rfl⟩) (nn := 10) rfl (by decide) rfl rfl hrT1.hd rfl rfl rfl hl.1 (Nat.le_of_ble_eq_true rfl) dX8_end_22 (by show _ + 0 ≤ 0; omega) (by show _ + 0 ≤ 0; omega) (fun v u3 k3 n3 hq3 => ?_)
      obtain ⟨rfl, hu3, rfl, rfl⟩ := hq3
      rw [← List.map_take] at hu3
      refine jJ_eq (g2 := F0 m 25 ls []) (cs2 := [u3, [(hk, .inr (5, [.ref ht, .ref (a1 0), .ref (a1 1), .ref (a1 2), .int (nI nx)]))], v1 0, v1 1, v1 2, [(h, .inr (6, [.ref ht, .ref hk, .ref hr, .ref hm, .ref h1, .ref h2, .int (bI hasT), .int (nI fed), .int (iI fp)]))], [(hr, .inr (3, [.ref hk, .ref o, .int (nI a)]))], wm, w1, w2]) rfl rfl ?_
      refine jJ_of (fun H locs => lv_iload_n hx hb dX8_end_25 rfl (lv_at hl 1 rfl)) ?_
      refine jJ_perm [1, 0, 2, 3, 4, 5, 6, 7, 8, 9] (nn := 10) rfl (by decide) (cs2 := [[(hk, .inr (5, [.ref ht, .ref (a1 0), .ref (a1 1), .ref (a1 2), .int (nI nx)]))], u3, v1 0, v1 1, v1 2, [(h, .inr (6, [.ref ht, .ref hk, .ref hr, .ref hm, .ref h1, .ref h2, .int (bI hasT), .int (nI fed), .int (iI fp)]))], [(hr, .inr (3, [.ref hk, .ref o, .int (nI a)]))], wm, w1, w2]) rfl ?_
      obtain ⟨P4, hPe4⟩ : ∃ z : Nat, z = qT1 + (q1 0 + q1 1 + q1 2) := ⟨_, rfl⟩
      have hwa4 : jTok cI hk ht P4 (T.take jn) tk nx (jF [[(hk, .inr (5, [.ref ht, .ref (a1 0), .ref (a1 1), .ref (a1 2), .int (nI nx)]))], u3, v1 0, v1 1, v1 2]) := ⟨a1, _, _, _, _, rfl, hu3, hr1, hPe4, (fun x hx => hB1 x (List.mem_of_mem_take hx)), by omega, hl11, hl21, hvb1⟩
      refine jJ_flat (cs2 := [jF [[(hk, .inr (5, [.ref ht, .ref (a1 0), .ref (a1 1), .ref (a1 2), .int (nI nx)]))], u3, v1 0, v1 1, v1 2], [(h, .inr (6, [.ref ht, .ref hk, .ref hr, .ref hm, .ref h1, .ref h2, .int (bI hasT), .int (nI fed), .int (iI fp)]))], [(hr, .inr (3, [.ref hk, .ref o, .int (nI a)]))], wm, w1, w2]) (by simp only [jF_cons, jF, List.append_assoc, List.append_nil]) ?_
      refine jJ_perm [1, 0, 2, 3, 4, 5] (nn := 6) rfl (by decide) (cs2 := [[(h, .inr (6, [.ref ht, .ref hk, .ref hr, .ref hm, .ref h1, .ref h2, .int (bI hasT), .int (nI fed), .int (iI fp)]))], jF [[(hk, .inr (5, [.ref ht, .ref (a1 0), .ref (a1 1), .ref (a1 2), .int (nI nx)]))], u3, v1 0, v1 1, v1 2], [(hr, .inr (3, [.ref hk, .ref o, .int (nI a)]))], wm, w1, w2]) rfl ?_
      have he : vEnd T (jn : Int) = ((jn : Int), T.take jn) := if_neg (by omega)
      exact jJ_iret hx hb hr9 hlocks dX8_end_26 (by show _ ≤ 0; omega) (by show _ ≤ 0; omega) ⟨by rw [he, nI_iI], _, by rw [he]; exact ⟨ht, hk, hm, h1, h2, hr, o, a, nx, tk, st, _, wm, w1, w2, rfl, hwa4, hMc, hPg1, hPg2, hfd, hf1, hf2⟩, by omega, by omega⟩
    · refine jJ_of (fun H locs => lv_iconst (v := (iI (-1))) hx hb dX8_end_15 (by decide)) ?_
      refine jJ_perm [1, 0, 2, 3, 4, 5, 6, 7, 8, 9] (nn := 10) rfl (by decide) (cs2 := [[(hk, .inr (5, [.ref ht, .ref (a1 0), .ref (a1 1), .ref (a1 2), .int (nI nx)]))], wT1, v1 0, v1 1, v1 2, [(h, .inr (6, [.ref ht, .ref hk, .ref hr, .ref hm, .ref h1, .ref h2, .int (bI hasT), .int (nI fed), .int (iI fp)]))], [(hr, .inr (3, [.ref hk, .ref o, .int (nI a)]))], wm, w1, w2]) rfl ?_
      refine jJ_flat (cs2 := [jF [[(hk, .inr (5, [.ref ht, .ref (a1 0), .ref (a1 1), .ref (a1 2), .int (nI nx)]))], wT1, v1 0, v1 1, v1 2], [(h, .inr (6, [.ref ht, .ref hk, .ref hr, .ref hm, .ref h1, .ref h2, .int (bI hasT), .int (nI fed), .int (iI fp)]))], [(hr, .inr (3, [.ref hk, .ref o, .int (nI a)]))], wm, w1, w2]) (by simp only [jF_cons, jF, List.append_assoc, List.append_nil]) ?_
      refine jJ_perm [1, 0, 2, 3, 4, 5] (nn := 6) rfl (by decide) (cs2 := [[(h, .inr (6, [.ref ht, .ref hk, .ref hr, .ref hm, .ref h1, .ref h2, .int (bI hasT), .int (nI fed), .int (iI fp)]))], jF [[(hk, .inr (5, [.ref ht, .ref (a1 0), .ref (a1 1), .ref (a1 2), .int (nI nx)]))], wT1, v1 0, v1 1, v1 2], [(hr, .inr (3, [.ref hk, .ref o, .int (nI a)]))], wm, w1, w2]) rfl ?_
      have he : vEnd T j = (-1, T) := if_pos (by omega)
      exact jJ_iret hx hb hr9 hlocks dX8_end_16 (by show _ ≤ 0; omega) (by show _ ≤ 0; omega) ⟨by rw [he], Pt, by rw [he]; exact ⟨ht, hk, hm, h1, h2, hr, o, a, nx, tk, st, _, wm, w1, w2, rfl, hTk, hMc, hPg1, hPg2, hfd, hf1, hf2⟩, by omega, by omega⟩
theorem uX8_in_X8_putBytes : ∀ w ∈ u_ws RX8 TX8 9, w ∈ wsX8_putBytes := by decide +kernel
set_option maxHeartbeats 4000000 in
set_option maxRecDepth 100000 in
/-- putBytes(four) -/
theorem c_VB_putBytes {h Pt P1 P2 fed al an sp : Nat} {T : List Nat} {F1 F2 : Nat → List Int32} {hasT : Bool} {fp : Int} {vs : Nat → Int} {w : va_W} (hw : jVB cI cJ h Pt P1 P2 T F1 F2 hasT fed fp vs al an sp w) (f4 : Int32) (hT4 : T.length + 4 ≤ 16000) : HM l yX8_putBytes wsX8_putBytes ({ frames := 3, cells := 4, slots := 128000, locals := 160 } : Room) D G (jT cI cJ cB cZ) [.ref h, .int f4] w (fun v u k n => v = none ∧ ∃ Pt2 : Nat, jVB cI cJ h Pt2 P1 P2 (T ++ fB f4) F1 F2 hasT fed fp vs al an sp u ∧ k + Pt ≤ Pt2 ∧ n + 128 * Pt ≤ 128 * Pt2 ∧ k ≤ 4 ∧ n ≤ 128000) := by
  obtain ⟨ht, hk, hm, h1, h2, hr, o, a, nx, tk, st, wk, wm, w1, w2, rfl, hTk, hMc, hPg1, hPg2, hfd, hf1, hf2⟩ := hw
  refine HM_of (cc := cX8_putBytes) (maxL := 3) (ret := none) (lv := [(0, .ref h), (1, .int f4)]) (by decide) rfl rfl (Nat.le_of_ble_eq_true rfl) (fun p e s m args below meth c A0 ls hx hb hr9 hts hown hlocks hml hnm hK hA hAm hl => ?_)
  refine jJ_open (xs := [[(h, .inr (6, [.ref ht, .ref hk, .ref hr, .ref hm, .ref h1, .ref h2, .int (bI hasT), .int (nI fed), .int (iI fp)]))], wk, [(hr, .inr (3, [.ref hk, .ref o, .int (nI a)]))], wm, w1, w2]) (r := []) (cs2 := [[(h, .inr (6, [.ref ht, .ref hk, .ref hr, .ref hm, .ref h1, .ref h2, .int (bI hasT), .int (nI fed), .int (iI fp)]))], wk, [(hr, .inr (3, [.ref hk, .ref o, .int (nI a)]))], wm, w1, w2]) rfl ?_
  have hTl := hTk.len
  refine jJ_of (fun H locs => lv_bipush (v := (nI 24)) hx hb dX8_putBytes_0 (by decide)) ?_
  refine jJ_ofL (fun H locs => lv_istore_n (lv' := [(2, .int (nI 24)), (0, .ref h), (1, .int f4)]) hx hb dX8_putBytes_2 rfl hl (by decide) rfl) (fun ls hl => ?_)
  refine jJ_of (fun H locs => lv_iload_n hx hb dX8_putBytes_3 rfl (lv_at hl 0 rfl)) ?_
  refine jJ_of2 (fun H locs => jn_if_lt (tgt := 27) hx hb dX8_putBytes_4 (by decide) (by omega)) (fun c4 => ?_) (fun c4 => ?_)
  · omega
  · refine jJ_of (fun H locs => lv_aload_n hx hb dX8_putBytes_7 rfl (lv_at hl 1 rfl)) ?_
    refine jJ_get hx hb (C := RX8) (T := TX8) (N := 9) hts uX8_in_X8_putBytes hown hK 0 rfl rfl 0 (by decide) (hts (.fieldLink RX8 14 "ValueBlocks" "tray" "LValueBlocks$Row;") (by decide +kernel)) (fun _ h9 => h9) rfl dX8_putBytes_8 ?_
    refine jJ_of (fun H locs => lv_iload_n hx hb dX8_putBytes_11 rfl (lv_at hl 2 rfl)) ?_
    refine jJ_of (fun H locs => lv_iload_n hx hb dX8_putBytes_12 rfl (lv_at hl 0 rfl)) ?_
    refine jJ_of (fun H locs => lv_iushr (v := (f4.toUInt32 >>> ((nI 24).toUInt32 &&& Int32.toUInt32 31)).toInt32) hx hb dX8_putBytes_13 rfl) ?_
    refine jJ_of (fun H locs => lv_sipush (v := (nI 255)) hx hb dX8_putBytes_14 (by decide)) ?_
    refine jJ_of (fun H locs => lv_iand hx hb dX8_putBytes_17) ?_
    rw [byB_eq f4 24 24 (by decide) (by decide)]
    refine jJ_perm [1, 0, 2, 3, 4, 5] (nn := 6) rfl (by decide) (cs2 := [wk, [(h, .inr (6, [.ref ht, .ref hk, .ref hr, .ref hm, .ref h1, .ref h2, .int (bI hasT), .int (nI fed), .int (iI fp)]))], [(hr, .inr (3, [.ref hk, .ref o, .int (nI a)]))], wm, w1, w2]) rfl ?_
    have hsv1 := hTk
    obtain ⟨a1, q1, v1, qT1, wT1, rfl, hrT1, hr1, hP1, hB1, hnx1, hl11, hl21, hvb1⟩ := hsv1
    refine jJ_open (xs := jTkW hk ht a1 nx wT1 v1) (r := [[(h, .inr (6, [.ref ht, .ref hk, .ref hr, .ref hm, .ref h1, .ref h2, .int (bI hasT), .int (nI fed), .int (iI fp)]))], [(hr, .inr (3, [.ref hk, .ref o, .int (nI a)]))], wm, w1, w2]) (cs2 := [[(hk, .inr (5, [.ref ht, .ref (a1 0), .ref (a1 1), .ref (a1 2), .int (nI nx)]))], wT1, v1 0, v1 1, v1 2, [(h, .inr (6, [.ref ht, .ref hk, .ref hr, .ref hm, .ref h1, .ref h2, .int (bI hasT), .int (nI fed), .int (iI fp)]))], [(hr, .inr (3, [.ref hk, .ref o, .int (nI a)]))], wm, w1, w2]) rfl ?_
    refine jJ_callV (As := [.int (nI (byB f4 24))]) (rest := []) (wc := _) (cs2 := [[(hk, .inr (5, [.ref ht, .ref (a1 0), .ref (a1 1), .ref (a1 2), .int (nI nx)]))], v1 0, v1 1, v1 2, [(h, .inr (6, [.ref ht, .ref hk, .ref hr, .ref hm, .ref h1, .ref h2, .int (bI hasT), .int (nI fed), .int (iI fp)]))], [(hr, .inr (3, [.ref hk, .ref o, .int (nI a)]))], wm, w1, w2]) (C := RX5) (T := TX5) (N := 3) (ci := 4) [1] [0, 2, 3, 4, 5, 6, 7, 8, 9] ⟨hx, hb, hml, hown, hts⟩ hK hA hAm (c_Row_add hrT1 (nI (byB f4 24)) (by rw [List.length_map]; first | omega | (simp only [List.length_append, List.length_cons, List.length_nil]; omega))) (cwV 1 hts gX8_putBytes_X5_add rfl rfl rfl (by decide +kernel) ⟨Nat.le_of_ble_eq_true rfl, Nat.le_of_ble_eq_true rfl⟩) (nn := 10) rfl (by decide) rfl rfl hrT1.hd rfl rfl rfl hl.1 (Nat.le_of_ble_eq_true rfl) dX8_putBytes_18 (by show _ + 1 ≤ 4; omega) (by show _ + 32000 ≤ 128000; omega) (fun v u2 k2 n2 hq2 => ?_)
    obtain ⟨rfl, qq2, hqq2, hu2, hk2, hn2, hkk2, hnn2⟩ := hq2
    rw [show (T.map nI) ++ [(nI (byB f4 24))] = (T ++ [byB f4 24]).map nI from by rw [List.map_append]; rfl] at hu2
    have hl2 := hu2.len
    refine jJ_eq (g2 := F0 m 21 ls []) (cs2 := [u2, [(hk, .inr (5, [.ref ht, .ref (a1 0), .ref (a1 1), .ref (a1 2), .int (nI nx)]))], v1 0, v1 1, v1 2, [(h, .inr (6, [.ref ht, .ref hk, .ref hr, .ref hm, .ref h1, .ref h2, .int (bI hasT), .int (nI fed), .int (iI fp)]))], [(hr, .inr (3, [.ref hk, .ref o, .int (nI a)]))], wm, w1, w2]) rfl rfl ?_
    refine jJ_ofL (fun H locs => lv_iinc (v := (nI 16)) (lv' := [(2, .int (nI 16)), (0, .ref h), (1, .int f4)]) hx hb dX8_putBytes_21 hl (k := 0) rfl (by decide) (by decide) rfl) (fun ls hl => ?_)
    refine jJ_of (fun H locs => lv_goto (tgt := 3) hx hb dX8_putBytes_24 (by decide)) ?_
    refine jJ_of (fun H locs => lv_iload_n hx hb dX8_putBytes_3 rfl (lv_at hl 0 rfl)) ?_
    refine jJ_of2 (fun H locs => jn_if_lt (tgt := 27) hx hb dX8_putBytes_4 (by decide) (by omega)) (fun c4 => ?_) (fun c4 => ?_)
    · omega
    · refine jJ_of (fun H locs => lv_aload_n hx hb dX8_putBytes_7 rfl (lv_at hl 1 rfl)) ?_
      refine jJ_get hx hb (C := RX8) (T := TX8) (N := 9) hts uX8_in_X8_putBytes hown hK 5 rfl rfl 0 (by decide) (hts (.fieldLink RX8 14 "ValueBlocks" "tray" "LValueBlocks$Row;") (by decide +kernel)) (fun _ h9 => h9) rfl dX8_putBytes_8 ?_
      refine jJ_of (fun H locs => lv_iload_n hx hb dX8_putBytes_11 rfl (lv_at hl 2 rfl)) ?_
      refine jJ_of (fun H locs => lv_iload_n hx hb dX8_putBytes_12 rfl (lv_at hl 0 rfl)) ?_
      refine jJ_of (fun H locs => lv_iushr (v := (f4.toUInt32 >>> ((nI 16).toUInt32 &&& Int32.toUInt32 31)).toInt32) hx hb dX8_putBytes_13 rfl) ?_
      refine jJ_of (fun H locs => lv_sipush (v := (nI 255)) hx hb dX8_putBytes_14 (by decide)) ?_
      refine jJ_of (fun H locs => lv_iand hx hb dX8_putBytes_17) ?_
      rw [byB_eq f4 16 16 (by decide) (by decide)]
      refine jJ_callV (As := [.int (nI (byB f4 16))]) (rest := []) (wc := _) (cs2 := [[(hk, .inr (5, [.ref ht, .ref (a1 0), .ref (a1 1), .ref (a1 2), .int (nI nx)]))], v1 0, v1 1, v1 2, [(h, .inr (6, [.ref ht, .ref hk, .ref hr, .ref hm, .ref h1, .ref h2, .int (bI hasT), .int (nI fed), .int (iI fp)]))], [(hr, .inr (3, [.ref hk, .ref o, .int (nI a)]))], wm, w1, w2]) (C := RX5) (T := TX5) (N := 3) (ci := 4) [0] [1, 2, 3, 4, 5, 6, 7, 8, 9] ⟨hx, hb, hml, hown, hts⟩ hK hA hAm (c_Row_add hu2 (nI (byB f4 16)) (by rw [List.length_map]; first | omega | (simp only [List.length_append, List.length_cons, List.length_nil]; omega))) (cwV 1 hts gX8_putBytes_X5_add rfl rfl rfl (by decide +kernel) ⟨Nat.le_of_ble_eq_true rfl, Nat.le_of_ble_eq_true rfl⟩) (nn := 10) rfl (by decide) rfl rfl hu2.hd rfl rfl rfl hl.1 (Nat.le_of_ble_eq_true rfl) dX8_putBytes_18 (by show _ + 1 ≤ 4; omega) (by show _ + 32000 ≤ 128000; omega) (fun v u3 k3 n3 hq3 => ?_)
      obtain ⟨rfl, qq3, hqq3, hu3, hk3, hn3, hkk3, hnn3⟩ := hq3
      rw [show ((T ++ [byB f4 24]).map nI) ++ [(nI (byB f4 16))] = ((T ++ [byB f4 24]) ++ [byB f4 16]).map nI from by simp only [List.map_append]; rfl] at hu3
      have hl3 := hu3.len
      refine jJ_eq (g2 := F0 m 21 ls []) (cs2 := [u3, [(hk, .inr (5, [.ref ht, .ref (a1 0), .ref (a1 1), .ref (a1 2), .int (nI nx)]))], v1 0, v1 1, v1 2, [(h, .inr (6, [.ref ht, .ref hk, .ref hr, .ref hm, .ref h1, .ref h2, .int (bI hasT), .int (nI fed), .int (iI fp)]))], [(hr, .inr (3, [.ref hk, .ref o, .int (nI a)]))], wm, w1, w2]) rfl rfl ?_
      refine jJ_ofL (fun H locs => lv_iinc (v := (nI 8)) (lv' := [(2, .int (nI 8)), (0, .ref h), (1, .int f4)]) hx hb dX8_putBytes_21 hl (k := 0) rfl (by decide) (by decide) rfl) (fun ls hl => ?_)
      refine jJ_of (fun H locs => lv_goto (tgt := 3) hx hb dX8_putBytes_24 (by decide)) ?_
      refine jJ_of (fun H locs => lv_iload_n hx hb dX8_putBytes_3 rfl (lv_at hl 0 rfl)) ?_
      refine jJ_of2 (fun H locs => jn_if_lt (tgt := 27) hx hb dX8_putBytes_4 (by decide) (by omega)) (fun c4 => ?_) (fun c4 => ?_)
      · omega
      · refine jJ_of (fun H locs => lv_aload_n hx hb dX8_putBytes_7 rfl (lv_at hl 1 rfl)) ?_
        refine jJ_get hx hb (C := RX8) (T := TX8) (N := 9) hts uX8_in_X8_putBytes hown hK 5 rfl rfl 0 (by decide) (hts (.fieldLink RX8 14 "ValueBlocks" "tray" "LValueBlocks$Row;") (by decide +kernel)) (fun _ h9 => h9) rfl dX8_putBytes_8 ?_
        refine jJ_of (fun H locs => lv_iload_n hx hb dX8_putBytes_11 rfl (lv_at hl 2 rfl)) ?_
        refine jJ_of (fun H locs => lv_iload_n hx hb dX8_putBytes_12 rfl (lv_at hl 0 rfl)) ?_
        refine jJ_of (fun H locs => lv_iushr (v := (f4.toUInt32 >>> ((nI 8).toUInt32 &&& Int32.toUInt32 31)).toInt32) hx hb dX8_putBytes_13 rfl) ?_
        refine jJ_of (fun H locs => lv_sipush (v := (nI 255)) hx hb dX8_putBytes_14 (by decide)) ?_
        refine jJ_of (fun H locs => lv_iand hx hb dX8_putBytes_17) ?_
        rw [byB_eq f4 8 8 (by decide) (by decide)]
        refine jJ_callV (As := [.int (nI (byB f4 8))]) (rest := []) (wc := _) (cs2 := [[(hk, .inr (5, [.ref ht, .ref (a1 0), .ref (a1 1), .ref (a1 2), .int (nI nx)]))], v1 0, v1 1, v1 2, [(h, .inr (6, [.ref ht, .ref hk, .ref hr, .ref hm, .ref h1, .ref h2, .int (bI hasT), .int (nI fed), .int (iI fp)]))], [(hr, .inr (3, [.ref hk, .ref o, .int (nI a)]))], wm, w1, w2]) (C := RX5) (T := TX5) (N := 3) (ci := 4) [0] [1, 2, 3, 4, 5, 6, 7, 8, 9] ⟨hx, hb, hml, hown, hts⟩ hK hA hAm (c_Row_add hu3 (nI (byB f4 8)) (by rw [List.length_map]; first | omega | (simp only [List.length_append, List.length_cons, List.length_nil]; omega))) (cwV 1 hts gX8_putBytes_X5_add rfl rfl rfl (by decide +kernel) ⟨Nat.le_of_ble_eq_true rfl, Nat.le_of_ble_eq_true rfl⟩) (nn := 10) rfl (by decide) rfl rfl hu3.hd rfl rfl rfl hl.1 (Nat.le_of_ble_eq_true rfl) dX8_putBytes_18 (by show _ + 1 ≤ 4; omega) (by show _ + 32000 ≤ 128000; omega) (fun v u4 k4 n4 hq4 => ?_)
        obtain ⟨rfl, qq4, hqq4, hu4, hk4, hn4, hkk4, hnn4⟩ := hq4
        rw [show (((T ++ [byB f4 24]) ++ [byB f4 16]).map nI) ++ [(nI (byB f4 8))] = (((T ++ [byB f4 24]) ++ [byB f4 16]) ++ [byB f4 8]).map nI from by simp only [List.map_append]; rfl] at hu4
        have hl4 := hu4.len
        refine jJ_eq (g2 := F0 m 21 ls []) (cs2 := [u4, [(hk, .inr (5, [.ref ht, .ref (a1 0), .ref (a1 1), .ref (a1 2), .int (nI nx)]))], v1 0, v1 1, v1 2, [(h, .inr (6, [.ref ht, .ref hk, .ref hr, .ref hm, .ref h1, .ref h2, .int (bI hasT), .int (nI fed), .int (iI fp)]))], [(hr, .inr (3, [.ref hk, .ref o, .int (nI a)]))], wm, w1, w2]) rfl rfl ?_
        refine jJ_ofL (fun H locs => lv_iinc (v := (nI 0)) (lv' := [(2, .int (nI 0)), (0, .ref h), (1, .int f4)]) hx hb dX8_putBytes_21 hl (k := 0) rfl (by decide) (by decide) rfl) (fun ls hl => ?_)
        refine jJ_of (fun H locs => lv_goto (tgt := 3) hx hb dX8_putBytes_24 (by decide)) ?_
        refine jJ_of (fun H locs => lv_iload_n hx hb dX8_putBytes_3 rfl (lv_at hl 0 rfl)) ?_
        refine jJ_of2 (fun H locs => jn_if_lt (tgt := 27) hx hb dX8_putBytes_4 (by decide) (by omega)) (fun c4 => ?_) (fun c4 => ?_)
        · omega
        · refine jJ_of (fun H locs => lv_aload_n hx hb dX8_putBytes_7 rfl (lv_at hl 1 rfl)) ?_
          refine jJ_get hx hb (C := RX8) (T := TX8) (N := 9) hts uX8_in_X8_putBytes hown hK 5 rfl rfl 0 (by decide) (hts (.fieldLink RX8 14 "ValueBlocks" "tray" "LValueBlocks$Row;") (by decide +kernel)) (fun _ h9 => h9) rfl dX8_putBytes_8 ?_
          refine jJ_of (fun H locs => lv_iload_n hx hb dX8_putBytes_11 rfl (lv_at hl 2 rfl)) ?_
          refine jJ_of (fun H locs => lv_iload_n hx hb dX8_putBytes_12 rfl (lv_at hl 0 rfl)) ?_
          refine jJ_of (fun H locs => lv_iushr (v := (f4.toUInt32 >>> ((nI 0).toUInt32 &&& Int32.toUInt32 31)).toInt32) hx hb dX8_putBytes_13 rfl) ?_
          refine jJ_of (fun H locs => lv_sipush (v := (nI 255)) hx hb dX8_putBytes_14 (by decide)) ?_
          refine jJ_of (fun H locs => lv_iand hx hb dX8_putBytes_17) ?_
          rw [byB_eq f4 0 0 (by decide) (by decide)]
          refine jJ_callV (As := [.int (nI (byB f4 0))]) (rest := []) (wc := _) (cs2 := [[(hk, .inr (5, [.ref ht, .ref (a1 0), .ref (a1 1), .ref (a1 2), .int (nI nx)]))], v1 0, v1 1, v1 2, [(h, .inr (6, [.ref ht, .ref hk, .ref hr, .ref hm, .ref h1, .ref h2, .int (bI hasT), .int (nI fed), .int (iI fp)]))], [(hr, .inr (3, [.ref hk, .ref o, .int (nI a)]))], wm, w1, w2]) (C := RX5) (T := TX5) (N := 3) (ci := 4) [0] [1, 2, 3, 4, 5, 6, 7, 8, 9] ⟨hx, hb, hml, hown, hts⟩ hK hA hAm (c_Row_add hu4 (nI (byB f4 0)) (by rw [List.length_map]; first | omega | (simp only [List.length_append, List.length_cons, List.length_nil]; omega))) (cwV 1 hts gX8_putBytes_X5_add rfl rfl rfl (by decide +kernel) ⟨Nat.le_of_ble_eq_true rfl, Nat.le_of_ble_eq_true rfl⟩) (nn := 10) rfl (by decide) rfl rfl hu4.hd rfl rfl rfl hl.1 (Nat.le_of_ble_eq_true rfl) dX8_putBytes_18 (by show _ + 1 ≤ 4; omega) (by show _ + 32000 ≤ 128000; omega) (fun v u5 k5 n5 hq5 => ?_)
          obtain ⟨rfl, qq5, hqq5, hu5, hk5, hn5, hkk5, hnn5⟩ := hq5
          rw [show ((((T ++ [byB f4 24]) ++ [byB f4 16]) ++ [byB f4 8]).map nI) ++ [(nI (byB f4 0))] = ((((T ++ [byB f4 24]) ++ [byB f4 16]) ++ [byB f4 8]) ++ [byB f4 0]).map nI from by simp only [List.map_append]; rfl] at hu5
          have hl5 := hu5.len
          refine jJ_eq (g2 := F0 m 21 ls []) (cs2 := [u5, [(hk, .inr (5, [.ref ht, .ref (a1 0), .ref (a1 1), .ref (a1 2), .int (nI nx)]))], v1 0, v1 1, v1 2, [(h, .inr (6, [.ref ht, .ref hk, .ref hr, .ref hm, .ref h1, .ref h2, .int (bI hasT), .int (nI fed), .int (iI fp)]))], [(hr, .inr (3, [.ref hk, .ref o, .int (nI a)]))], wm, w1, w2]) rfl rfl ?_
          refine jJ_ofL (fun H locs => lv_iinc (v := (iI (-8))) (lv' := [(2, .int (iI (-8))), (0, .ref h), (1, .int f4)]) hx hb dX8_putBytes_21 hl (k := 0) rfl (by decide) (by decide) rfl) (fun ls hl => ?_)
          refine jJ_of (fun H locs => lv_goto (tgt := 3) hx hb dX8_putBytes_24 (by decide)) ?_
          refine jJ_of (fun H locs => lv_iload_n hx hb dX8_putBytes_3 rfl (lv_at hl 0 rfl)) ?_
          refine jJ_of2 (fun H locs => jz_if_lt (tgt := 27) hx hb dX8_putBytes_4 (by decide) (by omega) (by omega)) (fun c4 => ?_) (fun c4 => ?_)
          · refine jJ_perm [1, 0, 2, 3, 4, 5, 6, 7, 8, 9] (nn := 10) rfl (by decide) (cs2 := [[(hk, .inr (5, [.ref ht, .ref (a1 0), .ref (a1 1), .ref (a1 2), .int (nI nx)]))], u5, v1 0, v1 1, v1 2, [(h, .inr (6, [.ref ht, .ref hk, .ref hr, .ref hm, .ref h1, .ref h2, .int (bI hasT), .int (nI fed), .int (iI fp)]))], [(hr, .inr (3, [.ref hk, .ref o, .int (nI a)]))], wm, w1, w2]) rfl ?_
            obtain ⟨P6, hPe6⟩ : ∃ z : Nat, z = qq5 + (q1 0 + q1 1 + q1 2) := ⟨_, rfl⟩
            have hwa6 : jTok cI hk ht P6 ((((T ++ [byB f4 24]) ++ [byB f4 16]) ++ [byB f4 8]) ++ [byB f4 0]) tk nx (jF [[(hk, .inr (5, [.ref ht, .ref (a1 0), .ref (a1 1), .ref (a1 2), .int (nI nx)]))], u5, v1 0, v1 1, v1 2]) := ⟨a1, _, _, _, _, rfl, hu5, hr1, hPe6, (jin_app (jin_app (jin_app (jin_app hB1 (byB_lt f4 24)) (byB_lt f4 16)) (byB_lt f4 8)) (byB_lt f4 0)), by omega, hl11, hl21, hvb1⟩
            refine jJ_flat (cs2 := [jF [[(hk, .inr (5, [.ref ht, .ref (a1 0), .ref (a1 1), .ref (a1 2), .int (nI nx)]))], u5, v1 0, v1 1, v1 2], [(h, .inr (6, [.ref ht, .ref hk, .ref hr, .ref hm, .ref h1, .ref h2, .int (bI hasT), .int (nI fed), .int (iI fp)]))], [(hr, .inr (3, [.ref hk, .ref o, .int (nI a)]))], wm, w1, w2]) (by simp only [jF_cons, jF, List.append_assoc, List.append_nil]) ?_
            refine jJ_perm [1, 0, 2, 3, 4, 5] (nn := 6) rfl (by decide) (cs2 := [[(h, .inr (6, [.ref ht, .ref hk, .ref hr, .ref hm, .ref h1, .ref h2, .int (bI hasT), .int (nI fed), .int (iI fp)]))], jF [[(hk, .inr (5, [.ref ht, .ref (a1 0), .ref (a1 1), .ref (a1 2), .int (nI nx)]))], u5, v1 0, v1 1, v1 2], [(hr, .inr (3, [.ref hk, .ref o, .int (nI a)]))], wm, w1, w2]) rfl ?_
            exact jJ_vret hx hb hr9 hlocks dX8_putBytes_27 (by show _ ≤ 4; omega) (by show _ ≤ 128000; omega) ⟨rfl, _, ⟨ht, hk, hm, h1, h2, hr, o, a, nx, tk, st, _, wm, w1, w2, rfl, by rw [← fB_app]; exact hwa6, hMc, hPg1, hPg2, hfd, hf1, hf2⟩, by omega, by omega, by omega, by omega⟩
          · omega
theorem fB_len (T : List Nat) (v : Int32) : (T ++ fB v).length = T.length + 4 := by rw [List.length_append]; rfl
def vFeed (T : List Nat) (fed : Nat) (a b c d e : Int32) : Int × List Nat × Nat := if 16000 < T.length + 20 ∨ 65536 < fed + 20 then (-1, T, fed) else (((T.length + 20 : Nat) : Int), ((((T ++ fB a) ++ fB b) ++ fB c) ++ fB d) ++ fB e, fed + 20)
theorem uX8_in_X8_feed : ∀ w ∈ u_ws RX8 TX8 9, w ∈ wsX8_feed := by decide +kernel
set_option maxHeartbeats 4000000 in
set_option maxRecDepth 100000 in
/-- feed(a, b, c, d, e) -/
theorem c_VB_feed {h Pt P1 P2 fed al an sp : Nat} {T : List Nat} {F1 F2 : Nat → List Int32} {hasT : Bool} {fp : Int} {vs : Nat → Int} {w : va_W} (hw : jVB cI cJ h Pt P1 P2 T F1 F2 hasT fed fp vs al an sp w) (fa fb fc fd fe : Int32) : HM l yX8_feed wsX8_feed ({ frames := 4, cells := 20, slots := 640000, locals := 220 } : Room) D G (jT cI cJ cB cZ) [.ref h, .int fa, .int fb, .int fc, .int fd, .int fe] w (fun v u k n => v = some (.int (iI (vFeed T fed fa fb fc fd fe).1)) ∧ ∃ Pt2 : Nat, jVB cI cJ h Pt2 P1 P2 (vFeed T fed fa fb fc fd fe).2.1 F1 F2 hasT (vFeed T fed fa fb fc fd fe).2.2 fp vs al an sp u ∧ k + Pt ≤ Pt2 ∧ n + 128 * Pt ≤ 128 * Pt2) := by
  refine HM_of (cc := cX8_feed) (maxL := 6) (ret := (some .int)) (lv := [(0, .ref h), (1, .int fa), (2, .int fb), (3, .int fc), (4, .int fd), (5, .int fe)]) (by decide) rfl rfl (Nat.le_of_ble_eq_true rfl) (fun p e s m args below meth c A0 ls hx hb hr9 hts hown hlocks hml hnm hK hA hAm hl => ?_)
  refine jJ_of (fun H locs => lv_aload_n hx hb dX8_feed_0 rfl (lv_at hl 0 rfl)) ?_
  have hsv1 := hw
  obtain ⟨ht1, hk1, hm1, hh11, hh21, hrr1, o1, a1, nx1, tk1, st1, wk1, wm1, w11, w21, rfl, hTk1, hMc1, hPg11, hPg21, hfd1, hf11, hf21⟩ := hsv1
  have hTl1 := hTk1.len
  refine jJ_open (xs := jVBw h ht1 hk1 hm1 hh11 hh21 hrr1 o1 a1 hasT fed fp wk1 wm1 w11 w21) (r := []) (cs2 := [[(h, .inr (6, [.ref ht1, .ref hk1, .ref hrr1, .ref hm1, .ref hh11, .ref hh21, .int (bI hasT), .int (nI fed), .int (iI fp)]))], wk1, [(hrr1, .inr (3, [.ref hk1, .ref o1, .int (nI a1)]))], wm1, w11, w21]) rfl ?_
  refine jJ_get hx hb (C := RX8) (T := TX8) (N := 9) hts uX8_in_X8_feed hown hK 0 rfl rfl 0 (by decide) (hts (.fieldLink RX8 14 "ValueBlocks" "tray" "LValueBlocks$Row;") (by decide +kernel)) (fun _ h9 => h9) rfl dX8_feed_1 ?_
  refine jJ_perm [1, 0, 2, 3, 4, 5] (nn := 6) rfl (by decide) (cs2 := [wk1, [(h, .inr (6, [.ref ht1, .ref hk1, .ref hrr1, .ref hm1, .ref hh11, .ref hh21, .int (bI hasT), .int (nI fed), .int (iI fp)]))], [(hrr1, .inr (3, [.ref hk1, .ref o1, .int (nI a1)]))], wm1, w11, w21]) rfl ?_
  have hsv2 := hTk1
  obtain ⟨a2, q2, v2, qT2, wT2, rfl, hrT2, hr2, hP2, hB2, hnx2, hl12, hl22, hvb2⟩ := hsv2
  refine jJ_open (xs := jTkW hk1 ht1 a2 nx1 wT2 v2) (r := [[(h, .inr (6, [.ref ht1, .ref hk1, .ref hrr1, .ref hm1, .ref hh11, .ref hh21, .int (bI hasT), .int (nI fed), .int (iI fp)]))], [(hrr1, .inr (3, [.ref hk1, .ref o1, .int (nI a1)]))], wm1, w11, w21]) (cs2 := [[(hk1, .inr (5, [.ref ht1, .ref (a2 0), .ref (a2 1), .ref (a2 2), .int (nI nx1)]))], wT2, v2 0, v2 1, v2 2, [(h, .inr (6, [.ref ht1, .ref hk1, .ref hrr1, .ref hm1, .ref hh11, .ref hh21, .int (bI hasT), .int (nI fed), .int (iI fp)]))], [(hrr1, .inr (3, [.ref hk1, .ref o1, .int (nI a1)]))], wm1, w11, w21]) rfl ?_
  refine jJ_callV (As := []) (rest := []) (wc := _) (cs2 := [[(hk1, .inr (5, [.ref ht1, .ref (a2 0), .ref (a2 1), .ref (a2 2), .int (nI nx1)]))], v2 0, v2 1, v2 2, [(h, .inr (6, [.ref ht1, .ref hk1, .ref hrr1, .ref hm1, .ref hh11, .ref hh21, .int (bI hasT), .int (nI fed), .int (iI fp)]))], [(hrr1, .inr (3, [.ref hk1, .ref o1, .int (nI a1)]))], wm1, w11, w21]) (C := RX5) (T := TX5) (N := 3) (ci := 4) [1] [0, 2, 3, 4, 5, 6, 7, 8, 9] ⟨hx, hb, hml, hown, hts⟩ hK hA hAm (c_Row_size hrT2) (cwV 0 hts gX8_feed_X5_size rfl rfl rfl (by decide +kernel) ⟨Nat.le_of_ble_eq_true rfl, Nat.le_of_ble_eq_true rfl⟩) (nn := 10) rfl (by decide) rfl rfl hrT2.hd rfl rfl rfl hl.1 (Nat.le_of_ble_eq_true rfl) dX8_feed_4 (by show _ + 0 ≤ 20; omega) (by show _ + 0 ≤ 640000; omega) (fun v u3 k3 n3 hq3 => ?_)
  obtain ⟨rfl, hw3, rfl, rfl⟩ := hq3
  rw [hw3]
  rw [List.length_map]
  refine jJ_eq (g2 := F0 m 7 ls [.int (nI T.length)]) (cs2 := [wT2, [(hk1, .inr (5, [.ref ht1, .ref (a2 0), .ref (a2 1), .ref (a2 2), .int (nI nx1)]))], v2 0, v2 1, v2 2, [(h, .inr (6, [.ref ht1, .ref hk1, .ref hrr1, .ref hm1, .ref hh11, .ref hh21, .int (bI hasT), .int (nI fed), .int (iI fp)]))], [(hrr1, .inr (3, [.ref hk1, .ref o1, .int (nI a1)]))], wm1, w11, w21]) rfl rfl ?_
  refine jJ_of (fun H locs => lv_bipush (v := (nI 20)) hx hb dX8_feed_7 (by decide)) ?_
  refine jJ_of (fun H locs => jn_iadd hx hb dX8_feed_9) ?_
  refine jJ_of (fun H locs => lv_sipush (v := (nI 16000)) hx hb dX8_feed_10 (by decide)) ?_
  refine jJ_of2 (fun H locs => jn_icmp_gt (tgt := 28) hx hb dX8_feed_13 (by decide) (by omega) (by omega)) (fun c13 => ?_) (fun c13 => ?_)
  · refine jJ_of (fun H locs => lv_iconst (v := (iI (-1))) hx hb dX8_feed_28 (by decide)) ?_
    refine jJ_perm [1, 0, 2, 3, 4, 5, 6, 7, 8, 9] (nn := 10) rfl (by decide) (cs2 := [[(hk1, .inr (5, [.ref ht1, .ref (a2 0), .ref (a2 1), .ref (a2 2), .int (nI nx1)]))], wT2, v2 0, v2 1, v2 2, [(h, .inr (6, [.ref ht1, .ref hk1, .ref hrr1, .ref hm1, .ref hh11, .ref hh21, .int (bI hasT), .int (nI fed), .int (iI fp)]))], [(hrr1, .inr (3, [.ref hk1, .ref o1, .int (nI a1)]))], wm1, w11, w21]) rfl ?_
    refine jJ_flat (cs2 := [jF [[(hk1, .inr (5, [.ref ht1, .ref (a2 0), .ref (a2 1), .ref (a2 2), .int (nI nx1)]))], wT2, v2 0, v2 1, v2 2], [(h, .inr (6, [.ref ht1, .ref hk1, .ref hrr1, .ref hm1, .ref hh11, .ref hh21, .int (bI hasT), .int (nI fed), .int (iI fp)]))], [(hrr1, .inr (3, [.ref hk1, .ref o1, .int (nI a1)]))], wm1, w11, w21]) (by simp only [jF_cons, jF, List.append_assoc, List.append_nil]) ?_
    refine jJ_perm [1, 0, 2, 3, 4, 5] (nn := 6) rfl (by decide) (cs2 := [[(h, .inr (6, [.ref ht1, .ref hk1, .ref hrr1, .ref hm1, .ref hh11, .ref hh21, .int (bI hasT), .int (nI fed), .int (iI fp)]))], jF [[(hk1, .inr (5, [.ref ht1, .ref (a2 0), .ref (a2 1), .ref (a2 2), .int (nI nx1)]))], wT2, v2 0, v2 1, v2 2], [(hrr1, .inr (3, [.ref hk1, .ref o1, .int (nI a1)]))], wm1, w11, w21]) rfl ?_
    have hvb4 : jVB cI cJ h Pt P1 P2 T F1 F2 hasT fed fp vs al an sp (jF [[(h, .inr (6, [.ref ht1, .ref hk1, .ref hrr1, .ref hm1, .ref hh11, .ref hh21, .int (bI hasT), .int (nI fed), .int (iI fp)]))], jF [[(hk1, .inr (5, [.ref ht1, .ref (a2 0), .ref (a2 1), .ref (a2 2), .int (nI nx1)]))], wT2, v2 0, v2 1, v2 2], [(hrr1, .inr (3, [.ref hk1, .ref o1, .int (nI a1)]))], wm1, w11, w21]) := ⟨_, _, _, _, _, _, _, _, _, _, _, _, _, _, _, rfl, hTk1, hMc1, hPg11, hPg21, by omega, hf11, hf21⟩
    refine jJ_flat (cs2 := [jF [[(h, .inr (6, [.ref ht1, .ref hk1, .ref hrr1, .ref hm1, .ref hh11, .ref hh21, .int (bI hasT), .int (nI fed), .int (iI fp)]))], jF [[(hk1, .inr (5, [.ref ht1, .ref (a2 0), .ref (a2 1), .ref (a2 2), .int (nI nx1)]))], wT2, v2 0, v2 1, v2 2], [(hrr1, .inr (3, [.ref hk1, .ref o1, .int (nI a1)]))], wm1, w11, w21]]) rfl ?_
    have he : vFeed T fed fa fb fc fd fe = (-1, T, fed) := if_pos (by omega)
    exact jJ_iret hx hb hr9 hlocks dX8_feed_29 (by show _ ≤ 20; omega) (by show _ ≤ 640000; omega) ⟨by rw [he], Pt, by rw [he]; exact hvb4, by omega, by omega⟩
  · refine jJ_of (fun H locs => lv_aload_n hx hb dX8_feed_16 rfl (lv_at hl 0 rfl)) ?_
    refine jJ_get hx hb (C := RX8) (T := TX8) (N := 9) hts uX8_in_X8_feed hown hK 5 rfl rfl 7 (by decide) (hts (.fieldLink RX8 57 "ValueBlocks" "fed" "I") (by decide +kernel)) (fun _ h9 => h9) rfl dX8_feed_17 ?_
    refine jJ_of (fun H locs => lv_bipush (v := (nI 20)) hx hb dX8_feed_20 (by decide)) ?_
    refine jJ_of (fun H locs => jn_iadd hx hb dX8_feed_22) ?_
    refine jJ_of (fun H locs => lv_ldc (v := (nI 65536)) hx hb hown (by rw [show (nI 65536) = (65536 : Int32) from by decide]; exact (hts (.constant RX8 68 (65536)) (by decide +kernel))) dX8_feed_23) ?_
    refine jJ_of2 (fun H locs => jn_icmp_le (tgt := 30) hx hb dX8_feed_25 (by decide) (by omega) (by omega)) (fun c25 => ?_) (fun c25 => ?_)
    · refine jJ_of (fun H locs => lv_aload_n hx hb dX8_feed_30 rfl (lv_at hl 0 rfl)) ?_
      refine jJ_of (fun H locs => lv_dup hx hb dX8_feed_31 rfl) ?_
      refine jJ_get hx hb (C := RX8) (T := TX8) (N := 9) hts uX8_in_X8_feed hown hK 5 rfl rfl 7 (by decide) (hts (.fieldLink RX8 57 "ValueBlocks" "fed" "I") (by decide +kernel)) (fun _ h9 => h9) rfl dX8_feed_32 ?_
      refine jJ_of (fun H locs => lv_bipush (v := (nI 20)) hx hb dX8_feed_35 (by decide)) ?_
      refine jJ_of (fun H locs => jn_iadd hx hb dX8_feed_37) ?_
      refine jJ_put hx hb (C := RX8) (T := TX8) (N := 9) (ty := .int) (v := .int (nI (fed + 20))) hts uX8_in_X8_feed tyX8 tyX8_ok nmX8 hown hK 5 rfl rfl 7 (by decide) (hts (.fieldLink RX8 57 "ValueBlocks" "fed" "I") (by decide +kernel)) (fun _ h9 => h9) rfl (by decide +kernel) rfl rfl (Nat.le_of_ble_eq_true rfl) dX8_feed_38 (cs2 := [wT2, [(hk1, .inr (5, [.ref ht1, .ref (a2 0), .ref (a2 1), .ref (a2 2), .int (nI nx1)]))], v2 0, v2 1, v2 2, [(h, .inr (6, [.ref ht1, .ref hk1, .ref hrr1, .ref hm1, .ref hh11, .ref hh21, .int (bI hasT), .int (nI (fed + 20)), .int (iI fp)]))], [(hrr1, .inr (3, [.ref hk1, .ref o1, .int (nI a1)]))], wm1, w11, w21]) rfl ?_
      refine jJ_of (fun H locs => lv_aload_n hx hb dX8_feed_41 rfl (lv_at hl 0 rfl)) ?_
      refine jJ_of (fun H locs => lv_iload_n hx hb dX8_feed_42 rfl (lv_at hl 1 rfl)) ?_
      refine jJ_perm [1, 0, 2, 3, 4, 5, 6, 7, 8, 9] (nn := 10) rfl (by decide) (cs2 := [[(hk1, .inr (5, [.ref ht1, .ref (a2 0), .ref (a2 1), .ref (a2 2), .int (nI nx1)]))], wT2, v2 0, v2 1, v2 2, [(h, .inr (6, [.ref ht1, .ref hk1, .ref hrr1, .ref hm1, .ref hh11, .ref hh21, .int (bI hasT), .int (nI (fed + 20)), .int (iI fp)]))], [(hrr1, .inr (3, [.ref hk1, .ref o1, .int (nI a1)]))], wm1, w11, w21]) rfl ?_
      refine jJ_flat (cs2 := [jF [[(hk1, .inr (5, [.ref ht1, .ref (a2 0), .ref (a2 1), .ref (a2 2), .int (nI nx1)]))], wT2, v2 0, v2 1, v2 2], [(h, .inr (6, [.ref ht1, .ref hk1, .ref hrr1, .ref hm1, .ref hh11, .ref hh21, .int (bI hasT), .int (nI (fed + 20)), .int (iI fp)]))], [(hrr1, .inr (3, [.ref hk1, .ref o1, .int (nI a1)]))], wm1, w11, w21]) (by simp only [jF_cons, jF, List.append_assoc, List.append_nil]) ?_
      refine jJ_perm [1, 0, 2, 3, 4, 5] (nn := 6) rfl (by decide) (cs2 := [[(h, .inr (6, [.ref ht1, .ref hk1, .ref hrr1, .ref hm1, .ref hh11, .ref hh21, .int (bI hasT), .int (nI (fed + 20)), .int (iI fp)]))], jF [[(hk1, .inr (5, [.ref ht1, .ref (a2 0), .ref (a2 1), .ref (a2 2), .int (nI nx1)]))], wT2, v2 0, v2 1, v2 2], [(hrr1, .inr (3, [.ref hk1, .ref o1, .int (nI a1)]))], wm1, w11, w21]) rfl ?_
      have hvb5 : jVB cI cJ h Pt P1 P2 T F1 F2 hasT (fed + 20) fp vs al an sp (jF [[(h, .inr (6, [.ref ht1, .ref hk1, .ref hrr1, .ref hm1, .ref hh11, .ref hh21, .int (bI hasT), .int (nI (fed + 20)), .int (iI fp)]))], jF [[(hk1, .inr (5, [.ref ht1, .ref (a2 0), .ref (a2 1), .ref (a2 2), .int (nI nx1)]))], wT2, v2 0, v2 1, v2 2], [(hrr1, .inr (3, [.ref hk1, .ref o1, .int (nI a1)]))], wm1, w11, w21]) := ⟨_, _, _, _, _, _, _, _, _, _, _, _, _, _, _, rfl, hTk1, hMc1, hPg11, hPg21, by omega, hf11, hf21⟩
      refine jJ_flat (cs2 := [jF [[(h, .inr (6, [.ref ht1, .ref hk1, .ref hrr1, .ref hm1, .ref hh11, .ref hh21, .int (bI hasT), .int (nI (fed + 20)), .int (iI fp)]))], jF [[(hk1, .inr (5, [.ref ht1, .ref (a2 0), .ref (a2 1), .ref (a2 2), .int (nI nx1)]))], wT2, v2 0, v2 1, v2 2], [(hrr1, .inr (3, [.ref hk1, .ref o1, .int (nI a1)]))], wm1, w11, w21]]) rfl ?_
      refine jJ_callV (As := [.int fa]) (rest := []) (wc := _) (cs2 := []) (C := RX8) (T := TX8) (N := 9) (ci := 6) [0] [] ⟨hx, hb, hml, hown, hts⟩ hK hA hAm (c_VB_putBytes hvb5 fa (by omega)) (cwV 1 hts gX8_feed_X8_putBytes rfl rfl rfl (by decide +kernel) ⟨Nat.le_of_ble_eq_true rfl, Nat.le_of_ble_eq_true rfl⟩) (nn := 1) rfl (by decide) rfl rfl hvb5.hd rfl rfl rfl hl.1 (Nat.le_of_ble_eq_true rfl) dX8_feed_43 (by show _ + 4 ≤ 20; omega) (by show _ + 128000 ≤ 640000; omega) (fun v u6 k6 n6 hq6 => ?_)
      obtain ⟨rfl, Pt6, hu6, hk6, hn6, hkk6, hnn6⟩ := hq6
      have hfl6 := fB_len T fa
      refine jJ_eq (g2 := F0 m 46 ls []) (cs2 := [u6]) rfl rfl ?_
      refine jJ_of (fun H locs => lv_aload_n hx hb dX8_feed_46 rfl (lv_at hl 0 rfl)) ?_
      refine jJ_of (fun H locs => lv_iload_n hx hb dX8_feed_47 rfl (lv_at hl 2 rfl)) ?_
      refine jJ_callV (As := [.int fb]) (rest := []) (wc := _) (cs2 := []) (C := RX8) (T := TX8) (N := 9) (ci := 6) [0] [] ⟨hx, hb, hml, hown, hts⟩ hK hA hAm (c_VB_putBytes hu6 fb (by omega)) (cwV 1 hts gX8_feed_X8_putBytes rfl rfl rfl (by decide +kernel) ⟨Nat.le_of_ble_eq_true rfl, Nat.le_of_ble_eq_true rfl⟩) (nn := 1) rfl (by decide) rfl rfl hu6.hd rfl rfl rfl hl.1 (Nat.le_of_ble_eq_true rfl) dX8_feed_48 (by show _ + 4 ≤ 20; omega) (by show _ + 128000 ≤ 640000; omega) (fun v u7 k7 n7 hq7 => ?_)
      obtain ⟨rfl, Pt7, hu7, hk7, hn7, hkk7, hnn7⟩ := hq7
      have hfl7 := fB_len (T ++ fB fa) fb
      refine jJ_eq (g2 := F0 m 51 ls []) (cs2 := [u7]) rfl rfl ?_
      refine jJ_of (fun H locs => lv_aload_n hx hb dX8_feed_51 rfl (lv_at hl 0 rfl)) ?_
      refine jJ_of (fun H locs => lv_iload_n hx hb dX8_feed_52 rfl (lv_at hl 3 rfl)) ?_
      refine jJ_callV (As := [.int fc]) (rest := []) (wc := _) (cs2 := []) (C := RX8) (T := TX8) (N := 9) (ci := 6) [0] [] ⟨hx, hb, hml, hown, hts⟩ hK hA hAm (c_VB_putBytes hu7 fc (by omega)) (cwV 1 hts gX8_feed_X8_putBytes rfl rfl rfl (by decide +kernel) ⟨Nat.le_of_ble_eq_true rfl, Nat.le_of_ble_eq_true rfl⟩) (nn := 1) rfl (by decide) rfl rfl hu7.hd rfl rfl rfl hl.1 (Nat.le_of_ble_eq_true rfl) dX8_feed_53 (by show _ + 4 ≤ 20; omega) (by show _ + 128000 ≤ 640000; omega) (fun v u8 k8 n8 hq8 => ?_)
      obtain ⟨rfl, Pt8, hu8, hk8, hn8, hkk8, hnn8⟩ := hq8
      have hfl8 := fB_len ((T ++ fB fa) ++ fB fb) fc
      refine jJ_eq (g2 := F0 m 56 ls []) (cs2 := [u8]) rfl rfl ?_
      refine jJ_of (fun H locs => lv_aload_n hx hb dX8_feed_56 rfl (lv_at hl 0 rfl)) ?_
      refine jJ_of (fun H locs => lv_iload hx hb dX8_feed_57 (lv_at hl 4 rfl)) ?_
      refine jJ_callV (As := [.int fd]) (rest := []) (wc := _) (cs2 := []) (C := RX8) (T := TX8) (N := 9) (ci := 6) [0] [] ⟨hx, hb, hml, hown, hts⟩ hK hA hAm (c_VB_putBytes hu8 fd (by omega)) (cwV 1 hts gX8_feed_X8_putBytes rfl rfl rfl (by decide +kernel) ⟨Nat.le_of_ble_eq_true rfl, Nat.le_of_ble_eq_true rfl⟩) (nn := 1) rfl (by decide) rfl rfl hu8.hd rfl rfl rfl hl.1 (Nat.le_of_ble_eq_true rfl) dX8_feed_59 (by show _ + 4 ≤ 20; omega) (by show _ + 128000 ≤ 640000; omega) (fun v u9 k9 n9 hq9 => ?_)
      obtain ⟨rfl, Pt9, hu9, hk9, hn9, hkk9, hnn9⟩ := hq9
      have hfl9 := fB_len (((T ++ fB fa) ++ fB fb) ++ fB fc) fd
      refine jJ_eq (g2 := F0 m 62 ls []) (cs2 := [u9]) rfl rfl ?_
      refine jJ_of (fun H locs => lv_aload_n hx hb dX8_feed_62 rfl (lv_at hl 0 rfl)) ?_
      refine jJ_of (fun H locs => lv_iload hx hb dX8_feed_63 (lv_at hl 5 rfl)) ?_
      refine jJ_callV (As := [.int fe]) (rest := []) (wc := _) (cs2 := []) (C := RX8) (T := TX8) (N := 9) (ci := 6) [0] [] ⟨hx, hb, hml, hown, hts⟩ hK hA hAm (c_VB_putBytes hu9 fe (by omega)) (cwV 1 hts gX8_feed_X8_putBytes rfl rfl rfl (by decide +kernel) ⟨Nat.le_of_ble_eq_true rfl, Nat.le_of_ble_eq_true rfl⟩) (nn := 1) rfl (by decide) rfl rfl hu9.hd rfl rfl rfl hl.1 (Nat.le_of_ble_eq_true rfl) dX8_feed_65 (by show _ + 4 ≤ 20; omega) (by show _ + 128000 ≤ 640000; omega) (fun v u10 k10 n10 hq10 => ?_)
      obtain ⟨rfl, Pt10, hu10, hk10, hn10, hkk10, hnn10⟩ := hq10
      have hfl10 := fB_len ((((T ++ fB fa) ++ fB fb) ++ fB fc) ++ fB fd) fe
      refine jJ_eq (g2 := F0 m 68 ls []) (cs2 := [u10]) rfl rfl ?_
      refine jJ_of (fun H locs => lv_aload_n hx hb dX8_feed_68 rfl (lv_at hl 0 rfl)) ?_
      have hsv11 := hu10
      obtain ⟨ht11, hk11, hm11, hh111, hh211, hrr11, o11, a11, nx11, tk11, st11, wk11, wm11, w111, w211, rfl, hTk11, hMc11, hPg111, hPg211, hfd11, hf111, hf211⟩ := hsv11
      have hTl11 := hTk11.len
      refine jJ_open (xs := jVBw h ht11 hk11 hm11 hh111 hh211 hrr11 o11 a11 hasT (fed + 20) fp wk11 wm11 w111 w211) (r := []) (cs2 := [[(h, .inr (6, [.ref ht11, .ref hk11, .ref hrr11, .ref hm11, .ref hh111, .ref hh211, .int (bI hasT), .int (nI (fed + 20)), .int (iI fp)]))], wk11, [(hrr11, .inr (3, [.ref hk11, .ref o11, .int (nI a11)]))], wm11, w111, w211]) rfl ?_
      refine jJ_get hx hb (C := RX8) (T := TX8) (N := 9) hts uX8_in_X8_feed hown hK 0 rfl rfl 0 (by decide) (hts (.fieldLink RX8 14 "ValueBlocks" "tray" "LValueBlocks$Row;") (by decide +kernel)) (fun _ h9 => h9) rfl dX8_feed_69 ?_
      refine jJ_perm [1, 0, 2, 3, 4, 5] (nn := 6) rfl (by decide) (cs2 := [wk11, [(h, .inr (6, [.ref ht11, .ref hk11, .ref hrr11, .ref hm11, .ref hh111, .ref hh211, .int (bI hasT), .int (nI (fed + 20)), .int (iI fp)]))], [(hrr11, .inr (3, [.ref hk11, .ref o11, .int (nI a11)]))], wm11, w111, w211]) rfl ?_
      have hsv12 := hTk11
      obtain ⟨a12, q12, v12, qT12, wT12, rfl, hrT12, hr12, hP12, hB12, hnx12, hl112, hl212, hvb12⟩ := hsv12
      refine jJ_open (xs := jTkW hk11 ht11 a12 nx11 wT12 v12) (r := [[(h, .inr (6, [.ref ht11, .ref hk11, .ref hrr11, .ref hm11, .ref hh111, .ref hh211, .int (bI hasT), .int (nI (fed + 20)), .int (iI fp)]))], [(hrr11, .inr (3, [.ref hk11, .ref o11, .int (nI a11)]))], wm11, w111, w211]) (cs2 := [[(hk11, .inr (5, [.ref ht11, .ref (a12 0), .ref (a12 1), .ref (a12 2), .int (nI nx11)]))], wT12, v12 0, v12 1, v12 2, [(h, .inr (6, [.ref ht11, .ref hk11, .ref hrr11, .ref hm11, .ref hh111, .ref hh211, .int (bI hasT), .int (nI (fed + 20)), .int (iI fp)]))], [(hrr11, .inr (3, [.ref hk11, .ref o11, .int (nI a11)]))], wm11, w111, w211]) rfl ?_
      refine jJ_callV (As := []) (rest := []) (wc := _) (cs2 := [[(hk11, .inr (5, [.ref ht11, .ref (a12 0), .ref (a12 1), .ref (a12 2), .int (nI nx11)]))], v12 0, v12 1, v12 2, [(h, .inr (6, [.ref ht11, .ref hk11, .ref hrr11, .ref hm11, .ref hh111, .ref hh211, .int (bI hasT), .int (nI (fed + 20)), .int (iI fp)]))], [(hrr11, .inr (3, [.ref hk11, .ref o11, .int (nI a11)]))], wm11, w111, w211]) (C := RX5) (T := TX5) (N := 3) (ci := 4) [1] [0, 2, 3, 4, 5, 6, 7, 8, 9] ⟨hx, hb, hml, hown, hts⟩ hK hA hAm (c_Row_size hrT12) (cwV 0 hts gX8_feed_X5_size rfl rfl rfl (by decide +kernel) ⟨Nat.le_of_ble_eq_true rfl, Nat.le_of_ble_eq_true rfl⟩) (nn := 10) rfl (by decide) rfl rfl hrT12.hd rfl rfl rfl hl.1 (Nat.le_of_ble_eq_true rfl) dX8_feed_72 (by show _ + 0 ≤ 20; omega) (by show _ + 0 ≤ 640000; omega) (fun v u13 k13 n13 hq13 => ?_)
      obtain ⟨rfl, hw13, rfl, rfl⟩ := hq13
      rw [hw13]
      rw [List.length_map]
      refine jJ_eq (g2 := F0 m 75 ls [.int (nI ((((((T ++ fB fa) ++ fB fb) ++ fB fc) ++ fB fd) ++ fB fe).length))]) (cs2 := [wT12, [(hk11, .inr (5, [.ref ht11, .ref (a12 0), .ref (a12 1), .ref (a12 2), .int (nI nx11)]))], v12 0, v12 1, v12 2, [(h, .inr (6, [.ref ht11, .ref hk11, .ref hrr11, .ref hm11, .ref hh111, .ref hh211, .int (bI hasT), .int (nI (fed + 20)), .int (iI fp)]))], [(hrr11, .inr (3, [.ref hk11, .ref o11, .int (nI a11)]))], wm11, w111, w211]) rfl rfl ?_
      refine jJ_perm [1, 0, 2, 3, 4, 5, 6, 7, 8, 9] (nn := 10) rfl (by decide) (cs2 := [[(hk11, .inr (5, [.ref ht11, .ref (a12 0), .ref (a12 1), .ref (a12 2), .int (nI nx11)]))], wT12, v12 0, v12 1, v12 2, [(h, .inr (6, [.ref ht11, .ref hk11, .ref hrr11, .ref hm11, .ref hh111, .ref hh211, .int (bI hasT), .int (nI (fed + 20)), .int (iI fp)]))], [(hrr11, .inr (3, [.ref hk11, .ref o11, .int (nI a11)]))], wm11, w111, w211]) rfl ?_
      refine jJ_flat (cs2 := [jF [[(hk11, .inr (5, [.ref ht11, .ref (a12 0), .ref (a12 1), .ref (a12 2), .int (nI nx11)]))], wT12, v12 0, v12 1, v12 2], [(h, .inr (6, [.ref ht11, .ref hk11, .ref hrr11, .ref hm11, .ref hh111, .ref hh211, .int (bI hasT), .int (nI (fed + 20)), .int (iI fp)]))], [(hrr11, .inr (3, [.ref hk11, .ref o11, .int (nI a11)]))], wm11, w111, w211]) (by simp only [jF_cons, jF, List.append_assoc, List.append_nil]) ?_
      refine jJ_perm [1, 0, 2, 3, 4, 5] (nn := 6) rfl (by decide) (cs2 := [[(h, .inr (6, [.ref ht11, .ref hk11, .ref hrr11, .ref hm11, .ref hh111, .ref hh211, .int (bI hasT), .int (nI (fed + 20)), .int (iI fp)]))], jF [[(hk11, .inr (5, [.ref ht11, .ref (a12 0), .ref (a12 1), .ref (a12 2), .int (nI nx11)]))], wT12, v12 0, v12 1, v12 2], [(hrr11, .inr (3, [.ref hk11, .ref o11, .int (nI a11)]))], wm11, w111, w211]) rfl ?_
      have hvb14 : jVB cI cJ h Pt10 P1 P2 (((((T ++ fB fa) ++ fB fb) ++ fB fc) ++ fB fd) ++ fB fe) F1 F2 hasT (fed + 20) fp vs al an sp (jF [[(h, .inr (6, [.ref ht11, .ref hk11, .ref hrr11, .ref hm11, .ref hh111, .ref hh211, .int (bI hasT), .int (nI (fed + 20)), .int (iI fp)]))], jF [[(hk11, .inr (5, [.ref ht11, .ref (a12 0), .ref (a12 1), .ref (a12 2), .int (nI nx11)]))], wT12, v12 0, v12 1, v12 2], [(hrr11, .inr (3, [.ref hk11, .ref o11, .int (nI a11)]))], wm11, w111, w211]) := ⟨_, _, _, _, _, _, _, _, _, _, _, _, _, _, _, rfl, hTk11, hMc11, hPg111, hPg211, by omega, hf111, hf211⟩
      refine jJ_flat (cs2 := [jF [[(h, .inr (6, [.ref ht11, .ref hk11, .ref hrr11, .ref hm11, .ref hh111, .ref hh211, .int (bI hasT), .int (nI (fed + 20)), .int (iI fp)]))], jF [[(hk11, .inr (5, [.ref ht11, .ref (a12 0), .ref (a12 1), .ref (a12 2), .int (nI nx11)]))], wT12, v12 0, v12 1, v12 2], [(hrr11, .inr (3, [.ref hk11, .ref o11, .int (nI a11)]))], wm11, w111, w211]]) rfl ?_
      have he : vFeed T fed fa fb fc fd fe = (((T.length + 20 : Nat) : Int), ((((T ++ fB fa) ++ fB fb) ++ fB fc) ++ fB fd) ++ fB fe, fed + 20) := if_neg (by omega)
      have hln : (((((T ++ fB fa) ++ fB fb) ++ fB fc) ++ fB fd) ++ fB fe).length = T.length + 20 := by omega
      exact jJ_iret hx hb hr9 hlocks dX8_feed_75 (by show _ ≤ 20; omega) (by show _ ≤ 640000; omega) ⟨by rw [he, hln, nI_iI], _, by rw [he]; exact hvb14, by omega, by omega⟩
    · refine jJ_of (fun H locs => lv_iconst (v := (iI (-1))) hx hb dX8_feed_28 (by decide)) ?_
      refine jJ_perm [1, 0, 2, 3, 4, 5, 6, 7, 8, 9] (nn := 10) rfl (by decide) (cs2 := [[(hk1, .inr (5, [.ref ht1, .ref (a2 0), .ref (a2 1), .ref (a2 2), .int (nI nx1)]))], wT2, v2 0, v2 1, v2 2, [(h, .inr (6, [.ref ht1, .ref hk1, .ref hrr1, .ref hm1, .ref hh11, .ref hh21, .int (bI hasT), .int (nI fed), .int (iI fp)]))], [(hrr1, .inr (3, [.ref hk1, .ref o1, .int (nI a1)]))], wm1, w11, w21]) rfl ?_
      refine jJ_flat (cs2 := [jF [[(hk1, .inr (5, [.ref ht1, .ref (a2 0), .ref (a2 1), .ref (a2 2), .int (nI nx1)]))], wT2, v2 0, v2 1, v2 2], [(h, .inr (6, [.ref ht1, .ref hk1, .ref hrr1, .ref hm1, .ref hh11, .ref hh21, .int (bI hasT), .int (nI fed), .int (iI fp)]))], [(hrr1, .inr (3, [.ref hk1, .ref o1, .int (nI a1)]))], wm1, w11, w21]) (by simp only [jF_cons, jF, List.append_assoc, List.append_nil]) ?_
      refine jJ_perm [1, 0, 2, 3, 4, 5] (nn := 6) rfl (by decide) (cs2 := [[(h, .inr (6, [.ref ht1, .ref hk1, .ref hrr1, .ref hm1, .ref hh11, .ref hh21, .int (bI hasT), .int (nI fed), .int (iI fp)]))], jF [[(hk1, .inr (5, [.ref ht1, .ref (a2 0), .ref (a2 1), .ref (a2 2), .int (nI nx1)]))], wT2, v2 0, v2 1, v2 2], [(hrr1, .inr (3, [.ref hk1, .ref o1, .int (nI a1)]))], wm1, w11, w21]) rfl ?_
      have hvb15 : jVB cI cJ h Pt P1 P2 T F1 F2 hasT fed fp vs al an sp (jF [[(h, .inr (6, [.ref ht1, .ref hk1, .ref hrr1, .ref hm1, .ref hh11, .ref hh21, .int (bI hasT), .int (nI fed), .int (iI fp)]))], jF [[(hk1, .inr (5, [.ref ht1, .ref (a2 0), .ref (a2 1), .ref (a2 2), .int (nI nx1)]))], wT2, v2 0, v2 1, v2 2], [(hrr1, .inr (3, [.ref hk1, .ref o1, .int (nI a1)]))], wm1, w11, w21]) := ⟨_, _, _, _, _, _, _, _, _, _, _, _, _, _, _, rfl, hTk1, hMc1, hPg11, hPg21, by omega, hf11, hf21⟩
      refine jJ_flat (cs2 := [jF [[(h, .inr (6, [.ref ht1, .ref hk1, .ref hrr1, .ref hm1, .ref hh11, .ref hh21, .int (bI hasT), .int (nI fed), .int (iI fp)]))], jF [[(hk1, .inr (5, [.ref ht1, .ref (a2 0), .ref (a2 1), .ref (a2 2), .int (nI nx1)]))], wT2, v2 0, v2 1, v2 2], [(hrr1, .inr (3, [.ref hk1, .ref o1, .int (nI a1)]))], wm1, w11, w21]]) rfl ?_
      have he : vFeed T fed fa fb fc fd fe = (-1, T, fed) := if_pos (by omega)
      exact jJ_iret hx hb hr9 hlocks dX8_feed_29 (by show _ ≤ 20; omega) (by show _ ≤ 640000; omega) ⟨by rw [he], Pt, by rw [he]; exact hvb15, by omega, by omega⟩
def vRun (hasT : Bool) (fuel : Int) (co : List Int) (ss ks ts : List Nat) (vs : Nat → Int) (al an sp : Nat) : Int × (Nat → Int) × Nat × Nat × Nat := if hasT = false ∨ fuel < 0 ∨ 30000 < fuel then (-1, vs, al, an, sp) else (((eGo co ss ks ts fuel.toNat 0 vs 0).2.1 : Int), (eGo co ss ks ts fuel.toNat 0 vs 0).1, (eGo co ss ks ts fuel.toNat 0 vs 0).2.1, (eGo co ss ks ts fuel.toNat 0 vs 0).2.2.1, (eGo co ss ks ts fuel.toNat 0 vs 0).2.2.2)
theorem jF_hd {a b : va_W} {x : Nat} {ci : Nat} (h : ∃ (i : Nat) (fs : List Value), a[i]? = some (x, .inr (ci, fs))) : ∃ (i : Nat) (fs : List Value), (jF [a, b])[i]? = some (x, .inr (ci, fs)) := by
  obtain ⟨i, fs, h⟩ := h
  refine ⟨i, fs, ?_⟩
  have hi : i < a.length := by
    rcases Nat.lt_or_ge i a.length with q | q
    · exact q
    · rw [List.getElem?_eq_none q] at h; cases h
  rw [jF_cons, List.getElem?_append_left hi]
  exact h
theorem uX8_in_X8_run : ∀ w ∈ u_ws RX8 TX8 9, w ∈ wsX8_run := by decide +kernel
set_option maxHeartbeats 4000000 in
set_option maxRecDepth 100000 in
/-- run(fuel) -/
theorem c_VB_run {h Pt P1 P2 fed al an sp : Nat} {T : List Nat} {F1 F2 : Nat → List Int32} {hasT : Bool} {fp : Int} {vs : Nat → Int} {w : va_W} (hw : jVB cI cJ h Pt P1 P2 T F1 F2 hasT fed fp vs al an sp w) (fuel : Int) (hf : -2147483648 ≤ fuel ∧ fuel < 2147483648) {co : List Int} {ss ks ts : List Nat} (hR : hasT = true → jPV F1 co ss ks ts ∧ ∀ j, j < 8001 → eSt co ss (j + 1) ≤ co.length) : HM l yX8_run wsX8_run ({ frames := 7, cells := 0, slots := 0, locals := 300 } : Room) D G (jT cI cJ cB cZ) [.ref h, .int (iI fuel)] w (fun v u k n => v = some (.int (iI (vRun hasT fuel co ss ks ts vs al an sp).1)) ∧ jVB cI cJ h Pt P1 P2 T F1 F2 hasT fed fp (vRun hasT fuel co ss ks ts vs al an sp).2.1 (vRun hasT fuel co ss ks ts vs al an sp).2.2.1 (vRun hasT fuel co ss ks ts vs al an sp).2.2.2.1 (vRun hasT fuel co ss ks ts vs al an sp).2.2.2.2 u ∧ k = 0 ∧ n = 0) := by
  refine HM_of (cc := cX8_run) (maxL := 2) (ret := (some .int)) (lv := [(0, .ref h), (1, .int (iI fuel))]) (by decide) rfl rfl (Nat.le_of_ble_eq_true rfl) (fun p e s m args below meth c A0 ls hx hb hr9 hts hown hlocks hml hnm hK hA hAm hl => ?_)
  refine jJ_of (fun H locs => lv_aload_n hx hb dX8_run_0 rfl (lv_at hl 0 rfl)) ?_
  have hsv1 := hw
  obtain ⟨ht1, hk1, hm1, hh11, hh21, hrr1, o1, a1, nx1, tk1, st1, wk1, wm1, w11, w21, rfl, hTk1, hMc1, hPg11, hPg21, hfd1, hf11, hf21⟩ := hsv1
  have hTl1 := hTk1.len
  refine jJ_open (xs := jVBw h ht1 hk1 hm1 hh11 hh21 hrr1 o1 a1 hasT fed fp wk1 wm1 w11 w21) (r := []) (cs2 := [[(h, .inr (6, [.ref ht1, .ref hk1, .ref hrr1, .ref hm1, .ref hh11, .ref hh21, .int (bI hasT), .int (nI fed), .int (iI fp)]))], wk1, [(hrr1, .inr (3, [.ref hk1, .ref o1, .int (nI a1)]))], wm1, w11, w21]) rfl ?_
  refine jJ_get hx hb (C := RX8) (T := TX8) (N := 9) hts uX8_in_X8_run hown hK 0 rfl rfl 6 (by decide) (hts (.fieldLink RX8 53 "ValueBlocks" "hasText" "Z") (by decide +kernel)) (fun _ h9 => h9) rfl dX8_run_1 ?_
  refine jJ_of2 (fun H locs => jb_if_eq (tgt := 18) hx hb dX8_run_4 (by decide)) (fun c4 => ?_) (fun c4 => ?_)
  · refine jJ_of (fun H locs => lv_iconst (v := (iI (-1))) hx hb dX8_run_18 (by decide)) ?_
    have hvb2 : jVB cI cJ h Pt P1 P2 T F1 F2 hasT fed fp vs al an sp (jF [[(h, .inr (6, [.ref ht1, .ref hk1, .ref hrr1, .ref hm1, .ref hh11, .ref hh21, .int (bI hasT), .int (nI fed), .int (iI fp)]))], wk1, [(hrr1, .inr (3, [.ref hk1, .ref o1, .int (nI a1)]))], wm1, w11, w21]) := ⟨_, _, _, _, _, _, _, _, _, _, _, _, _, _, _, rfl, hTk1, hMc1, hPg11, hPg21, by omega, hf11, hf21⟩
    refine jJ_flat (cs2 := [jF [[(h, .inr (6, [.ref ht1, .ref hk1, .ref hrr1, .ref hm1, .ref hh11, .ref hh21, .int (bI hasT), .int (nI fed), .int (iI fp)]))], wk1, [(hrr1, .inr (3, [.ref hk1, .ref o1, .int (nI a1)]))], wm1, w11, w21]]) rfl ?_
    have he : vRun hasT fuel co ss ks ts vs al an sp = (-1, vs, al, an, sp) := if_pos (Or.inl c4)
    exact jJ_iret hx hb hr9 hlocks dX8_run_19 (by show _ ≤ 0; omega) (by show _ ≤ 0; omega) ⟨by rw [he], by rw [he]; exact hvb2, rfl, rfl⟩
  · refine jJ_of (fun H locs => lv_iload_n hx hb dX8_run_7 rfl (lv_at hl 1 rfl)) ?_
    refine jJ_of2 (fun H locs => jz_if_lt (tgt := 18) hx hb dX8_run_8 (by decide) (by omega) (by omega)) (fun c8 => ?_) (fun c8 => ?_)
    · refine jJ_of (fun H locs => lv_iconst (v := (iI (-1))) hx hb dX8_run_18 (by decide)) ?_
      have hvb3 : jVB cI cJ h Pt P1 P2 T F1 F2 hasT fed fp vs al an sp (jF [[(h, .inr (6, [.ref ht1, .ref hk1, .ref hrr1, .ref hm1, .ref hh11, .ref hh21, .int (bI hasT), .int (nI fed), .int (iI fp)]))], wk1, [(hrr1, .inr (3, [.ref hk1, .ref o1, .int (nI a1)]))], wm1, w11, w21]) := ⟨_, _, _, _, _, _, _, _, _, _, _, _, _, _, _, rfl, hTk1, hMc1, hPg11, hPg21, by omega, hf11, hf21⟩
      refine jJ_flat (cs2 := [jF [[(h, .inr (6, [.ref ht1, .ref hk1, .ref hrr1, .ref hm1, .ref hh11, .ref hh21, .int (bI hasT), .int (nI fed), .int (iI fp)]))], wk1, [(hrr1, .inr (3, [.ref hk1, .ref o1, .int (nI a1)]))], wm1, w11, w21]]) rfl ?_
      have he : vRun hasT fuel co ss ks ts vs al an sp = (-1, vs, al, an, sp) := if_pos (Or.inr (by omega))
      exact jJ_iret hx hb hr9 hlocks dX8_run_19 (by show _ ≤ 0; omega) (by show _ ≤ 0; omega) ⟨by rw [he], by rw [he]; exact hvb3, rfl, rfl⟩
    · refine jJ_of (fun H locs => lv_iload_n hx hb dX8_run_11 rfl (lv_at hl 1 rfl)) ?_
      refine jJ_of (fun H locs => lv_sipush (v := (nI 30000)) hx hb dX8_run_12 (by decide)) ?_
      rw [nI_iI 30000]
      refine jJ_eq (g2 := F0 m 15 ls [.int (iI 30000), .int (iI fuel)]) (cs2 := [[(h, .inr (6, [.ref ht1, .ref hk1, .ref hrr1, .ref hm1, .ref hh11, .ref hh21, .int (bI hasT), .int (nI fed), .int (iI fp)]))], wk1, [(hrr1, .inr (3, [.ref hk1, .ref o1, .int (nI a1)]))], wm1, w11, w21]) rfl rfl ?_
      refine jJ_of2 (fun H locs => jz_icmp_le (tgt := 20) hx hb dX8_run_15 (by decide) (by omega) (by omega) (by omega) (by omega)) (fun c15 => ?_) (fun c15 => ?_)
      · obtain ⟨fn, hfn⟩ : ∃ k : Nat, fuel = (k : Int) := ⟨fuel.toNat, by omega⟩
        subst hfn
        rw [← nI_iI fn] at hl
        refine jJ_of (fun H locs => lv_aload_n hx hb dX8_run_20 rfl (lv_at hl 0 rfl)) ?_
        refine jJ_get hx hb (C := RX8) (T := TX8) (N := 9) hts uX8_in_X8_run hown hK 0 rfl rfl 3 (by decide) (hts (.fieldLink RX8 30 "ValueBlocks" "machine" "LValueBlocks$Machine;") (by decide +kernel)) (fun _ h9 => h9) rfl dX8_run_21 ?_
        refine jJ_of (fun H locs => lv_aload_n hx hb dX8_run_24 rfl (lv_at hl 0 rfl)) ?_
        refine jJ_get hx hb (C := RX8) (T := TX8) (N := 9) hts uX8_in_X8_run hown hK 0 rfl rfl 4 (by decide) (hts (.fieldLink RX8 37 "ValueBlocks" "program" "LValueBlocks$Program;") (by decide +kernel)) (fun _ h9 => h9) rfl dX8_run_25 ?_
        refine jJ_of (fun H locs => lv_iload_n hx hb dX8_run_28 rfl (lv_at hl 1 rfl)) ?_
        refine jJ_callV (As := [.ref hh11, .int (nI fn)]) (rest := []) (wc := _) (cs2 := [[(h, .inr (6, [.ref ht1, .ref hk1, .ref hrr1, .ref hm1, .ref hh11, .ref hh21, .int (bI hasT), .int (nI fed), .int (iI fp)]))], wk1, [(hrr1, .inr (3, [.ref hk1, .ref o1, .int (nI a1)]))], w21]) (C := RX2) (T := TX2) (N := 6) (ci := 1) [3, 4] [0, 1, 2, 5] ⟨hx, hb, hml, hown, hts⟩ hK hA hAm (c_Mach_perform hMc1 hPg11 (hR c4).1 fn (by omega) (hR c4).2) (cwV 2 hts gX8_run_X2_perform rfl rfl rfl (by decide +kernel) ⟨Nat.le_of_ble_eq_true rfl, Nat.le_of_ble_eq_true rfl⟩) (nn := 6) rfl (by decide) rfl rfl (jF_hd hMc1.hd) rfl rfl rfl hl.1 (Nat.le_of_ble_eq_true rfl) dX8_run_29 (by show _ + 0 ≤ 0; omega) (by show _ + 0 ≤ 0; omega) (fun v u4 k4 n4 hq4 => ?_)
        obtain ⟨rfl, st24, u14, rfl, hu4, rfl, rfl⟩ := hq4
        refine jJ_eq (g2 := F0 m 32 ls [.int (nI ((eGo co ss ks ts fn 0 vs 0).2.1))]) (cs2 := [jF [u14, w11], [(h, .inr (6, [.ref ht1, .ref hk1, .ref hrr1, .ref hm1, .ref hh11, .ref hh21, .int (bI hasT), .int (nI fed), .int (iI fp)]))], wk1, [(hrr1, .inr (3, [.ref hk1, .ref o1, .int (nI a1)]))], w21]) rfl rfl ?_
        refine jJ_open (xs := [u14, w11]) (r := [[(h, .inr (6, [.ref ht1, .ref hk1, .ref hrr1, .ref hm1, .ref hh11, .ref hh21, .int (bI hasT), .int (nI fed), .int (iI fp)]))], wk1, [(hrr1, .inr (3, [.ref hk1, .ref o1, .int (nI a1)]))], w21]) (cs2 := [u14, w11, [(h, .inr (6, [.ref ht1, .ref hk1, .ref hrr1, .ref hm1, .ref hh11, .ref hh21, .int (bI hasT), .int (nI fed), .int (iI fp)]))], wk1, [(hrr1, .inr (3, [.ref hk1, .ref o1, .int (nI a1)]))], w21]) rfl ?_
        refine jJ_perm [2, 3, 4, 0, 1, 5] (nn := 6) rfl (by decide) (cs2 := [[(h, .inr (6, [.ref ht1, .ref hk1, .ref hrr1, .ref hm1, .ref hh11, .ref hh21, .int (bI hasT), .int (nI fed), .int (iI fp)]))], wk1, [(hrr1, .inr (3, [.ref hk1, .ref o1, .int (nI a1)]))], u14, w11, w21]) rfl ?_
        have hvb5 : jVB cI cJ h Pt P1 P2 T F1 F2 hasT fed fp ((eGo co ss ks ts fn 0 vs 0).1) ((eGo co ss ks ts fn 0 vs 0).2.1) ((eGo co ss ks ts fn 0 vs 0).2.2.1) ((eGo co ss ks ts fn 0 vs 0).2.2.2) (jF [[(h, .inr (6, [.ref ht1, .ref hk1, .ref hrr1, .ref hm1, .ref hh11, .ref hh21, .int (bI hasT), .int (nI fed), .int (iI fp)]))], wk1, [(hrr1, .inr (3, [.ref hk1, .ref o1, .int (nI a1)]))], u14, w11, w21]) := ⟨_, _, _, _, _, _, _, _, _, _, _, _, _, _, _, rfl, hTk1, hu4, hPg11, hPg21, by omega, hf11, hf21⟩
        refine jJ_flat (cs2 := [jF [[(h, .inr (6, [.ref ht1, .ref hk1, .ref hrr1, .ref hm1, .ref hh11, .ref hh21, .int (bI hasT), .int (nI fed), .int (iI fp)]))], wk1, [(hrr1, .inr (3, [.ref hk1, .ref o1, .int (nI a1)]))], u14, w11, w21]]) rfl ?_
        have he : vRun hasT (fn : Int) co ss ks ts vs al an sp = ((((eGo co ss ks ts fn 0 vs 0).2.1 : Nat) : Int), (eGo co ss ks ts fn 0 vs 0).1, (eGo co ss ks ts fn 0 vs 0).2.1, (eGo co ss ks ts fn 0 vs 0).2.2.1, (eGo co ss ks ts fn 0 vs 0).2.2.2) := if_neg (by rintro (q | q | q); rw [c4] at q; exact absurd q (by decide); omega; omega)
        exact jJ_iret hx hb hr9 hlocks dX8_run_32 (by show _ ≤ 0; omega) (by show _ ≤ 0; omega) ⟨by rw [he, nI_iI], by rw [he]; exact hvb5, rfl, rfl⟩
      · refine jJ_of (fun H locs => lv_iconst (v := (iI (-1))) hx hb dX8_run_18 (by decide)) ?_
        have hvb6 : jVB cI cJ h Pt P1 P2 T F1 F2 hasT fed fp vs al an sp (jF [[(h, .inr (6, [.ref ht1, .ref hk1, .ref hrr1, .ref hm1, .ref hh11, .ref hh21, .int (bI hasT), .int (nI fed), .int (iI fp)]))], wk1, [(hrr1, .inr (3, [.ref hk1, .ref o1, .int (nI a1)]))], wm1, w11, w21]) := ⟨_, _, _, _, _, _, _, _, _, _, _, _, _, _, _, rfl, hTk1, hMc1, hPg11, hPg21, by omega, hf11, hf21⟩
        refine jJ_flat (cs2 := [jF [[(h, .inr (6, [.ref ht1, .ref hk1, .ref hrr1, .ref hm1, .ref hh11, .ref hh21, .int (bI hasT), .int (nI fed), .int (iI fp)]))], wk1, [(hrr1, .inr (3, [.ref hk1, .ref o1, .int (nI a1)]))], wm1, w11, w21]]) rfl ?_
        have he : vRun hasT fuel co ss ks ts vs al an sp = (-1, vs, al, an, sp) := if_pos (Or.inr (by omega))
        exact jJ_iret hx hb hr9 hlocks dX8_run_19 (by show _ ≤ 0; omega) (by show _ ≤ 0; omega) ⟨by rw [he], by rw [he]; exact hvb6, rfl, rfl⟩
def rowN (l : List Int32) : Prop := ∃ xs : List Nat, l = xs.map nI ∧ ∀ x ∈ xs, x < 1000000000
def rowZ (hi : Int) (l : List Int32) : Prop := ∃ xs : List Int, l = xs.map iI ∧ ∀ x ∈ xs, -1 ≤ x ∧ x ≤ hi
theorem rowN.add {l : List Int32} (h : rowN l) {x : Nat} (hx : x < 1000000000) : rowN (jAdd 8000 l (nI x)) := by
  obtain ⟨xs, rfl, hb⟩ := h
  unfold jAdd
  split
  · exact ⟨xs ++ [x], by rw [List.map_append]; rfl, jin_app hb hx⟩
  · exact ⟨xs, rfl, hb⟩
theorem rowN.set {l : List Int32} (h : rowN l) {x : Nat} (hx : x < 1000000000) (i : Nat) : rowN (l.set i (nI x)) := by
  obtain ⟨xs, rfl, hb⟩ := h
  refine ⟨xs.set i x, by rw [List.map_set], fun y hy => ?_⟩
  rcases List.mem_or_eq_of_mem_set hy with q | q
  · exact hb y q
  · rw [q]; exact hx
theorem rowZ.add {hi : Int} {l : List Int32} (h : rowZ hi l) {x : Int} (hx : -1 ≤ x ∧ x ≤ hi) : rowZ hi (jAdd 8000 l (iI x)) := by
  obtain ⟨xs, rfl, hb⟩ := h
  unfold jAdd
  split
  · refine ⟨xs ++ [x], by rw [List.map_append]; rfl, fun y hy => ?_⟩
    rcases List.mem_append.mp hy with q | q
    · exact hb y q
    · rw [List.mem_singleton.mp q]; exact hx
  · exact ⟨xs, rfl, hb⟩
theorem rowZ.set {hi : Int} {l : List Int32} (h : rowZ hi l) {x : Int} (hx : -1 ≤ x ∧ x ≤ hi) (i : Nat) : rowZ hi (l.set i (iI x)) := by
  obtain ⟨xs, rfl, hb⟩ := h
  refine ⟨xs.set i x, by rw [List.map_set], fun y hy => ?_⟩
  rcases List.mem_or_eq_of_mem_set hy with q | q
  · exact hb y q
  · rw [q]; exact hx
def pQ (F : Nat → List Int32) : Prop := rowN (F 2) ∧ rowZ 1000000000 (F 3) ∧ rowN (F 4) ∧ rowZ 1000000000 (F 5) ∧ rowN (F 6) ∧ rowZ 8001 (F 7)
theorem pQ_nil : pQ (fun _ => []) := ⟨⟨[], rfl, fun x h => absurd h List.not_mem_nil⟩, ⟨[], rfl, fun x h => absurd h List.not_mem_nil⟩, ⟨[], rfl, fun x h => absurd h List.not_mem_nil⟩, ⟨[], rfl, fun x h => absurd h List.not_mem_nil⟩, ⟨[], rfl, fun x h => absurd h List.not_mem_nil⟩, ⟨[], rfl, fun x h => absurd h List.not_mem_nil⟩⟩
theorem pQ_begin {F : Nat → List Int32} (h : pQ F) : pQ (jBeginT F) := by
  obtain ⟨h2, h3, h4, h5, h6, h7⟩ := h
  have h7' := h7.add (x := ((0 : Nat) : Int)) (by omega)
  rw [← nI_iI] at h7'
  exact ⟨h2.add (x := 0) (by omega), h3.add (x := -1) (by omega), h4.add (x := 0) (by omega), h5.add (x := -1) (by omega), h6.add (x := 0) (by omega), h7'⟩
theorem pQ_lab {F : Nat → List Int32} (h : pQ F) {x y : Nat} (hx : x < 1000000000) (hy : y < 1000000000) : pQ (pLab F (nI x) (nI y)) := by
  obtain ⟨h2, h3, h4, h5, h6, h7⟩ := h
  refine ⟨h2, ?_, h4.set hy _, h5, h6, h7⟩
  show rowZ _ ((F 3).set _ (nI x))
  rw [nI_iI]
  exact h3.set (by omega) _
theorem pQ_clo {F : Nat → List Int32} (h : pQ F) {x y z : Nat} (hx : x < 1000000000) (hy : y < 1000000000) (hz : z < 1000000000) : pQ (pClo F (nI x) (nI y) (nI z)) := by
  obtain ⟨h2, h3, h4, h5, h6, h7⟩ := h
  refine ⟨h2.set hx _, h3, h4, ?_, h6.set hz _, h7⟩
  show rowZ _ ((F 5).set _ (nI y))
  rw [nI_iI]
  exact h5.set (by omega) _
theorem pQ_code {F : Nat → List Int32} (h : pQ F) (co : List Int32) : pQ (va_up F 0 co) := h
theorem pQ_rLab {tk : Nat → List Nat} (hb : ∀ i, i < 3 → ∀ j, (tk i).getD j 0 < 1000000000) {a : Nat} {F : Nat → List Int32} (h : pQ F) : pQ (rLab tk a F).2.2 := by
  unfold rLab
  split
  · exact pQ_lab h (hb 2 (by decide) _) (hb 1 (by decide) _)
  · exact h
theorem pQ_rThenL {x : Bool × Nat × List Int32} {F : Nat → List Int32} {f : Nat → (Nat → List Int32) → Bool × Nat × (Nat → List Int32)} (h : pQ F) (hf : ∀ a F, pQ F → pQ (f a F).2.2) : pQ (rThenL x F f).2.2 := by
  unfold rThenL
  split
  · exact hf _ _ (pQ_code h _)
  · exact pQ_code h _
theorem pQ_rRest {tk : Nat → List Nat} (hb : ∀ i, i < 3 → ∀ j, (tk i).getD j 0 < 1000000000) {a : Nat} {F : Nat → List Int32} (h : pQ F) : pQ (rRest tk a F).2.2 := by
  unfold rRest
  split
  · exact pQ_rThenL h (fun a F h => h)
  · split
    · exact pQ_rThenL h (fun a F h => pQ_clo h (by omega) (hb 2 (by decide) _) (hb 1 (by decide) _))
    · split
      · exact pQ_rThenL h (fun a F h => pQ_clo h (by omega) (hb 2 (by decide) _) (hb 1 (by decide) _))
      · split
        · exact pQ_clo h (hb 0 (by decide) _) (hb 2 (by decide) _) (hb 1 (by decide) _)
        · exact h
theorem pQ_rThenF {x : Bool × Nat × (Nat → List Int32)} {f : Nat → (Nat → List Int32) → Bool × Nat × (Nat → List Int32)} (h : pQ x.2.2) (hf : ∀ a F, pQ F → pQ (f a F).2.2) : pQ (rThenF x f).2.2 := by
  unfold rThenF
  split
  · exact hf _ _ h
  · exact h
theorem pQ_rTra {tk : Nat → List Nat} (hb : ∀ i, i < 3 → ∀ j, (tk i).getD j 0 < 1000000000) : ∀ (f a : Nat) (F : Nat → List Int32), pQ F → pQ (rTra tk f a F).2.2
  | 0, a, F, h => h
  | f + 1, a, F, h => by
    show pQ (if _ then _ else _ : Bool × Nat × (Nat → List Int32)).2.2
    split
    · exact pQ_rThenF (pQ_rThenF (pQ_rThenF (pQ_rLab hb (pQ_begin h)) (fun a F h => pQ_rRest hb h)) (fun a F h => h)) (fun a F h => pQ_rTra hb f a F h)
    · exact h
theorem pQ.lk {cI : ClassId} {h P : Nat} {F : Nat → List Int32} {w : va_W} (hw : jProg cI h P F w) (hq : pQ F) : ∃ (ks lp np : List Nat) (lb nu ts : List Int), jLk cI h P (F 1).length (F 0) (F 1) ks lp np lb nu ts w := by
  obtain ⟨⟨ks, e2, b2⟩, ⟨lb, e3, b3⟩, ⟨lp, e4, b4⟩, ⟨nu, e5, b5⟩, ⟨np, e6, b6⟩, ⟨ts, e7, b7⟩⟩ := hq
  exact ⟨ks, lp, np, lb, nu, ts, F, hw, ⟨rfl, rfl, rfl⟩, e2, e3, e4, e5, e6, e7, b2, b4, b6, b3, b5, b7⟩
end VB
