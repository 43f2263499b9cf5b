/-! ValueBlocks.read -/
def lkOf (F : Nat → List Int32) (ks lp np : List Nat) (lb nu ts : List Int) : Prop := F 2 = ks.map nI ∧ F 3 = lb.map iI ∧ F 4 = lp.map nI ∧ F 5 = nu.map iI ∧ F 6 = np.map nI ∧ F 7 = ts.map iI ∧ (∀ x ∈ ks, x < 1000000000) ∧ (∀ x ∈ lp, x < 1000000000) ∧ (∀ x ∈ np, x < 1000000000) ∧ (∀ x ∈ lb, -1 ≤ x ∧ x ≤ 1000000000) ∧ (∀ x ∈ nu, -1 ≤ x ∧ x ≤ 1000000000) ∧ (∀ x ∈ ts, -1 ≤ x ∧ x ≤ 8001)
theorem pQ.lk2 {cI : ClassId} {h P : Nat} {F : Nat → List Int32} {w : va_W} (hw : jProg cI h P F w) (hq : pQ F) : ∃ (ks lp np : List Nat) (lb nu ts : List Int), lkOf F ks lp np lb nu ts ∧ jLk cI h P (F 1).length (F 0) (F 1) ks lp np lb nu ts w := by
  obtain ⟨⟨ks, e2, b2⟩, ⟨lb, e3, b3⟩, ⟨lp, e4, b4⟩, ⟨nu, e5, b5⟩, ⟨np, e6, b6⟩, ⟨ts, e7, b7⟩⟩ := hq
  exact ⟨ks, lp, np, lb, nu, ts, ⟨e2, e3, e4, e5, e6, e7, b2, b4, b6, b3, b5, b7⟩, F, hw, ⟨rfl, rfl, rfl⟩, e2, e3, e4, e5, e6, e7, b2, b4, b6, b3, b5, b7⟩
theorem jLk.prog {cI : ClassId} {h P : Nat} {F : Nat → List Int32} {w : va_W} {ks lp np : List Nat} {lb nu ts ts2 : List Int} (ho : lkOf F ks lp np lb nu ts) (hw : jLk cI h P (F 1).length (F 0) (F 1) ks lp np lb nu ts2 w) : jProg cI h P (va_up F 7 (ts2.map iI)) w := by
  obtain ⟨pr, hp, ⟨hN, h0, h1⟩, h2, h3, h4, h5, h6, h7, -⟩ := hw
  obtain ⟨o2, o3, o4, o5, o6, o7, -⟩ := ho
  refine hp.eq (fun i hi => ?_)
  rcases (show i = 0 ∨ i = 1 ∨ i = 2 ∨ i = 3 ∨ i = 4 ∨ i = 5 ∨ i = 6 ∨ i = 7 by omega) with rfl | rfl | rfl | rfl | rfl | rfl | rfl | rfl
  · exact h0
  · exact h1
  · exact h2.trans o2.symm
  · exact h3.trans o3.symm
  · exact h4.trans o4.symm
  · exact h5.trans o5.symm
  · exact h6.trans o6.symm
  · exact h7
def rAll (T : List Nat) : Bool × Nat × (Nat → List Int32) := rTra (tkAll T) 8001 0 (fun _ => [])
section VR
variable {D : va_G} {G : Nat → Nat} {cI cJ cB cZ : ClassId} {l : Launch}

theorem uX8_in_X8_read : ∀ w ∈ u_ws RX8 TX8 9, w ∈ wsX8_read := by decide +kernel
set_option maxHeartbeats 4000000 in
set_option maxRecDepth 100000 in
/-- read() -/
theorem c_VB_read {h Pt P1 P2 fed al an sp : Nat} {T : List Nat} {F1 F2 : Nat → List Int32} {hasT : Bool} {fp : Int} {vs : Nat → Int} {w : va_W} (hw : jVB cI cJ h Pt P1 P2 T F1 F2 hasT fed fp vs al an sp w) : HM l yX8_read wsX8_read ({ frames := 152, cells := 6200, slots := 1100000, locals := 5800 } : Room) D G (jT cI cJ cB cZ) [.ref h] w (fun v u k n => ∃ Pt2 P12 P22 : Nat, (((rAll T).1 = false ∧ v = some (.int (iI (-1))) ∧ jVB cI cJ h Pt2 P12 P22 [] F1 (rAll T).2.2 hasT fed (((tkAll T 1).getD (rAll T).2.1 0 : Nat) : Int) vs al an sp u) ∨ ((rAll T).1 = true ∧ ∃ (ks lp np : List Nat) (lb nu ts : List Int), lkOf (rAll T).2.2 ks lp np lb nu ts ∧ ((¬ (lkJoin ((rAll T).2.2 1).length ks lp np lb nu ts).1 = -1 ∧ v = some (.int (iI (-2))) ∧ jVB cI cJ h Pt2 P12 P22 [] F1 (va_up (rAll T).2.2 7 ((lkJoin ((rAll T).2.2 1).length ks lp np lb nu ts).2.map iI)) hasT fed (lkJoin ((rAll T).2.2 1).length ks lp np lb nu ts).1 vs al an sp u) ∨ ((lkJoin ((rAll T).2.2 1).length ks lp np lb nu ts).1 = -1 ∧ v = some (.int (nI ((rAll T).2.2 1).length)) ∧ jVB cI cJ h Pt2 P12 P22 [] (va_up (rAll T).2.2 7 ((lkJoin ((rAll T).2.2 1).length ks lp np lb nu ts).2.map iI)) F1 true fed (-1) vs al an sp u)))) ∧ k + (Pt + P1 + P2) ≤ Pt2 + P12 + P22 ∧ n + 128 * (Pt + P1 + P2) ≤ 128 * (Pt2 + P12 + P22)) := by
  refine HM_of (cc := cX8_read) (maxL := 2) (ret := (some .int)) (lv := [(0, .ref h)]) (by decide) rfl rfl (Nat.le_of_ble_eq_true rfl) (fun p e s m args below meth c A0 ls hx hb hr9 hts hown hlocks hml hnm hK hA hAm hl => ?_)
  refine jJ_of (fun H locs => lv_aload_n hx hb dX8_read_0 rfl (lv_at hl 0 rfl)) ?_
  have hsv1 := hw
  obtain ⟨ht1, hk1, hm1, hh11, hh21, hrr1, o1, a1, nx1, tk1, st1, wk1, wm1, w11, w21, rfl, hTk1, hMc1, hPg11, hPg21, hfd1, hf11, hf21⟩ := hsv1
  have hTl1 := hTk1.len
  refine jJ_open (xs := jVBw h ht1 hk1 hm1 hh11 hh21 hrr1 o1 a1 hasT fed fp wk1 wm1 w11 w21) (r := []) (cs2 := [[(h, .inr (6, [.ref ht1, .ref hk1, .ref hrr1, .ref hm1, .ref hh11, .ref hh21, .int (bI hasT), .int (nI fed), .int (iI fp)]))], wk1, [(hrr1, .inr (3, [.ref hk1, .ref o1, .int (nI a1)]))], wm1, w11, w21]) rfl ?_
  refine jJ_get hx hb (C := RX8) (T := TX8) (N := 9) hts uX8_in_X8_read hown hK 0 rfl rfl 1 (by decide) (hts (.fieldLink RX8 23 "ValueBlocks" "tokens" "LValueBlocks$Tokens;") (by decide +kernel)) (fun _ h9 => h9) rfl dX8_read_1 ?_
  refine jJ_callV (As := []) (rest := []) (wc := _) (cs2 := [[(h, .inr (6, [.ref ht1, .ref hk1, .ref hrr1, .ref hm1, .ref hh11, .ref hh21, .int (bI hasT), .int (nI fed), .int (iI fp)]))], [(hrr1, .inr (3, [.ref hk1, .ref o1, .int (nI a1)]))], wm1, w11, w21]) (C := RX6) (T := TX6) (N := 5) (ci := 5) [1] [0, 2, 3, 4, 5] ⟨hx, hb, hml, hown, hts⟩ hK hA hAm (c_Tok_split hTk1) (cwV 0 hts gX8_read_X6_split rfl rfl rfl (by decide +kernel) ⟨by show (7) + 1 ≤ 152; omega, by show 8 + (3 + 11) + (340) ≤ 5800; omega⟩) (nn := 6) rfl (by decide) rfl rfl hTk1.hd rfl rfl rfl hl.1 (Nat.le_of_ble_eq_true rfl) dX8_read_4 (by show _ + 2003 ≤ 6200; omega) (by show _ + 352000 ≤ 1100000; omega) (fun v u2 k2 n2 hq2 => ?_)
  obtain ⟨rfl, P22, nx2, hu2, hkk2, hnn2⟩ := hq2
  have hLu2 := hu2.len
  refine jJ_eq (g2 := F0 m 7 ls []) (cs2 := [u2, [(h, .inr (6, [.ref ht1, .ref hk1, .ref hrr1, .ref hm1, .ref hh11, .ref hh21, .int (bI hasT), .int (nI fed), .int (iI fp)]))], [(hrr1, .inr (3, [.ref hk1, .ref o1, .int (nI a1)]))], wm1, w11, w21]) rfl rfl ?_
  refine jJ_of (fun H locs => lv_aload_n hx hb dX8_read_7 rfl (lv_at hl 0 rfl)) ?_
  refine jJ_get hx hb (C := RX8) (T := TX8) (N := 9) hts uX8_in_X8_read hown hK 1 rfl rfl 0 (by decide) (hts (.fieldLink RX8 14 "ValueBlocks" "tray" "LValueBlocks$Row;") (by decide +kernel)) (fun _ h9 => h9) rfl dX8_read_8 ?_
  refine jJ_of (fun H locs => lv_iconst (v := (nI 0)) hx hb dX8_read_11 (by decide)) ?_
  have hsv3 := hu2
  obtain ⟨a3, q3, v3, qT3, wT3, rfl, hrT3, hr3, hP3, hB3, hnx3, hl13, hl23, hvb3⟩ := hsv3
  refine jJ_open (xs := jTkW hk1 ht1 a3 nx2 wT3 v3) (r := [[(h, .inr (6, [.ref ht1, .ref hk1, .ref hrr1, .ref hm1, .ref hh11, .ref hh21, .int (bI hasT), .int (nI fed), .int (iI fp)]))], [(hrr1, .inr (3, [.ref hk1, .ref o1, .int (nI a1)]))], wm1, w11, w21]) (cs2 := [[(hk1, .inr (5, [.ref ht1, .ref (a3 0), .ref (a3 1), .ref (a3 2), .int (nI nx2)]))], wT3, v3 0, v3 1, v3 2, [(h, .inr (6, [.ref ht1, .ref hk1, .ref hrr1, .ref hm1, .ref hh11, .ref hh21, .int (bI hasT), .int (nI fed), .int (iI fp)]))], [(hrr1, .inr (3, [.ref hk1, .ref o1, .int (nI a1)]))], wm1, w11, w21]) rfl ?_
  refine jJ_callV (As := [.int (nI 0)]) (rest := []) (wc := _) (cs2 := [[(hk1, .inr (5, [.ref ht1, .ref (a3 0), .ref (a3 1), .ref (a3 2), .int (nI nx2)]))], v3 0, v3 1, v3 2, [(h, .inr (6, [.ref ht1, .ref hk1, .ref hrr1, .ref hm1, .ref hh11, .ref hh21, .int (bI hasT), .int (nI fed), .int (iI fp)]))], [(hrr1, .inr (3, [.ref hk1, .ref o1, .int (nI a1)]))], wm1, w11, w21]) (C := RX5) (T := TX5) (N := 3) (ci := 4) [1] [0, 2, 3, 4, 5, 6, 7, 8, 9] ⟨hx, hb, hml, hown, hts⟩ hK hA hAm (c_Row_cut hrT3 0 (by omega)) (cwV 1 hts gX8_read_X5_cut rfl rfl rfl (by decide +kernel) ⟨by show (0) + 1 ≤ 152; omega, by show 8 + (2 + 11) + (0) ≤ 5800; omega⟩) (nn := 10) rfl (by decide) rfl rfl hrT3.hd rfl rfl rfl hl.1 (Nat.le_of_ble_eq_true rfl) dX8_read_12 (by show _ + 0 ≤ 6200; omega) (by show _ + 0 ≤ 1100000; omega) (fun v u4 k4 n4 hq4 => ?_)
  obtain ⟨rfl, hu4, rfl, rfl⟩ := hq4
  rw [← List.map_take] at hu4
  refine jJ_eq (g2 := F0 m 15 ls []) (cs2 := [u4, [(hk1, .inr (5, [.ref ht1, .ref (a3 0), .ref (a3 1), .ref (a3 2), .int (nI nx2)]))], v3 0, v3 1, v3 2, [(h, .inr (6, [.ref ht1, .ref hk1, .ref hrr1, .ref hm1, .ref hh11, .ref hh21, .int (bI hasT), .int (nI fed), .int (iI fp)]))], [(hrr1, .inr (3, [.ref hk1, .ref o1, .int (nI a1)]))], wm1, w11, w21]) rfl rfl ?_
  refine jJ_of (fun H locs => lv_aload_n hx hb dX8_read_15 rfl (lv_at hl 0 rfl)) ?_
  refine jJ_get hx hb (C := RX8) (T := TX8) (N := 9) hts uX8_in_X8_read hown hK 5 rfl rfl 2 (by decide) (hts (.fieldLink RX8 49 "ValueBlocks" "reader" "LValueBlocks$Reader;") (by decide +kernel)) (fun _ h9 => h9) rfl dX8_read_16 ?_
  refine jJ_of (fun H locs => lv_aload_n hx hb dX8_read_19 rfl (lv_at hl 0 rfl)) ?_
  refine jJ_get hx hb (C := RX8) (T := TX8) (N := 9) hts uX8_in_X8_read hown hK 5 rfl rfl 5 (by decide) (hts (.fieldLink RX8 41 "ValueBlocks" "spare" "LValueBlocks$Program;") (by decide +kernel)) (fun _ h9 => h9) rfl dX8_read_20 ?_
  refine jJ_perm [1, 0, 2, 3, 4, 5, 6, 7, 8, 9] (nn := 10) rfl (by decide) (cs2 := [[(hk1, .inr (5, [.ref ht1, .ref (a3 0), .ref (a3 1), .ref (a3 2), .int (nI nx2)]))], u4, v3 0, v3 1, v3 2, [(h, .inr (6, [.ref ht1, .ref hk1, .ref hrr1, .ref hm1, .ref hh11, .ref hh21, .int (bI hasT), .int (nI fed), .int (iI fp)]))], [(hrr1, .inr (3, [.ref hk1, .ref o1, .int (nI a1)]))], wm1, w11, w21]) rfl ?_
  obtain ⟨P5, hPe5⟩ : ∃ z : Nat, z = qT3 + (q3 0 + q3 1 + q3 2) := ⟨_, rfl⟩
  have hwa5 : jTok cI hk1 ht1 P5 (T.take 0) (tkAll T) nx2 (jF [[(hk1, .inr (5, [.ref ht1, .ref (a3 0), .ref (a3 1), .ref (a3 2), .int (nI nx2)]))], u4, v3 0, v3 1, v3 2]) := ⟨a3, _, _, _, _, rfl, hu4, hr3, hPe5, (fun x hx => hB3 x (List.mem_of_mem_take hx)), by omega, hl13, hl23, hvb3⟩
  refine jJ_flat (cs2 := [jF [[(hk1, .inr (5, [.ref ht1, .ref (a3 0), .ref (a3 1), .ref (a3 2), .int (nI nx2)]))], u4, v3 0, v3 1, v3 2], [(h, .inr (6, [.ref ht1, .ref hk1, .ref hrr1, .ref hm1, .ref hh11, .ref hh21, .int (bI hasT), .int (nI fed), .int (iI fp)]))], [(hrr1, .inr (3, [.ref hk1, .ref o1, .int (nI a1)]))], wm1, w11, w21]) (by simp only [jF_cons, jF, List.append_assoc, List.append_nil]) ?_
  refine jJ_callV (As := [.ref hh21]) (rest := []) (wc := _) (cs2 := [[(h, .inr (6, [.ref ht1, .ref hk1, .ref hrr1, .ref hm1, .ref hh11, .ref hh21, .int (bI hasT), .int (nI fed), .int (iI fp)]))], wm1, w11]) (C := RX4) (T := TX4) (N := 3) (ci := 3) [2, 0, 5] [1, 3, 4] ⟨hx, hb, hml, hown, hts⟩ hK hA hAm (c_Rd_translate hwa5 hPg21) (cwV 1 hts gX8_read_X4_translate rfl rfl rfl (by decide +kernel) ⟨by show (150) + 1 ≤ 152; omega, by show 8 + (3 + 11) + (5700) ≤ 5800; omega⟩) (nn := 6) rfl (by decide) rfl rfl ⟨0, _, rfl⟩ rfl rfl rfl hl.1 (Nat.le_of_ble_eq_true rfl) dX8_read_23 (by show _ + (4008 - P2) ≤ 6200; omega) (by show _ + (128 * (4000 - P2) + 256000) ≤ 1100000; omega) (fun v u6 k6 n6 hq6 => ?_)
  obtain ⟨bb6, aa6, FF6, he6⟩ : ∃ (b : Bool) (x : Nat) (o : Nat → List Int32), rTra (tkAll T) 8001 0 (fun _ => []) = (b, x, o) := ⟨(rTra (tkAll T) 8001 0 (fun _ => [])).1, (rTra (tkAll T) 8001 0 (fun _ => [])).2.1, (rTra (tkAll T) 8001 0 (fun _ => [])).2.2, rfl⟩
  have hpq6 := pQ_rTra (tk := tkAll T) (fun i hi j => hwa5.len.2.2.2.2.2.2.1 i hi j) 8001 0 (fun _ => []) pQ_nil
  rw [he6] at hq6 hpq6
  try dsimp only at hq6
  obtain ⟨rfl, PP6, hu6, hkk6, hnn6⟩ := hq6
  have hL6 := hu6.len
  refine jJ_eq (g2 := F0 m 26 ls [.int (bI bb6)]) (cs2 := [u6, [(h, .inr (6, [.ref ht1, .ref hk1, .ref hrr1, .ref hm1, .ref hh11, .ref hh21, .int (bI hasT), .int (nI fed), .int (iI fp)]))], wm1, w11]) rfl rfl ?_
  refine jJ_of2 (fun H locs => jb_if_ne (tgt := 42) hx hb dX8_read_26 (by decide)) (fun c26 => ?_) (fun c26 => ?_)
  · subst c26
    refine jJ_of (fun H locs => lv_aload_n hx hb dX8_read_42 rfl (lv_at hl 0 rfl)) ?_
    refine jJ_of (fun H locs => lv_aload_n hx hb dX8_read_43 rfl (lv_at hl 0 rfl)) ?_
    refine jJ_get hx hb (C := RX8) (T := TX8) (N := 9) hts uX8_in_X8_read hown hK 1 rfl rfl 5 (by decide) (hts (.fieldLink RX8 41 "ValueBlocks" "spare" "LValueBlocks$Program;") (by decide +kernel)) (fun _ h9 => h9) rfl dX8_read_44 ?_
    have hrs6 := hu6
    obtain ⟨wp6, rfl, hpp6, hpa6⟩ := hrs6
    refine jJ_open (xs := [[(hrr1, .inr (3, [.ref hk1, .ref hh21, .int (nI aa6)]))], jF [[(hk1, .inr (5, [.ref ht1, .ref (a3 0), .ref (a3 1), .ref (a3 2), .int (nI nx2)]))], u4, v3 0, v3 1, v3 2], wp6]) (r := [[(h, .inr (6, [.ref ht1, .ref hk1, .ref hrr1, .ref hm1, .ref hh11, .ref hh21, .int (bI hasT), .int (nI fed), .int (iI fp)]))], wm1, w11]) (cs2 := [[(hrr1, .inr (3, [.ref hk1, .ref hh21, .int (nI aa6)]))], jF [[(hk1, .inr (5, [.ref ht1, .ref (a3 0), .ref (a3 1), .ref (a3 2), .int (nI nx2)]))], u4, v3 0, v3 1, v3 2], wp6, [(h, .inr (6, [.ref ht1, .ref hk1, .ref hrr1, .ref hm1, .ref hh11, .ref hh21, .int (bI hasT), .int (nI fed), .int (iI fp)]))], wm1, w11]) rfl ?_
    obtain ⟨ks, lp, np, lb, nu, ts, hof, hlk⟩ := pQ.lk2 (jProg.full hpp6) hpq6
    have hlb := hlk.b
    have hjb := lkJoin_b (FF6 1).length ks lp np lb nu ts hlb.2.2.1 hlb.2.2.2.1
    refine jJ_callS (As := [.ref hh21]) (rest := [.ref h]) (wc := _) (cs2 := [[(hrr1, .inr (3, [.ref hk1, .ref hh21, .int (nI aa6)]))], jF [[(hk1, .inr (5, [.ref ht1, .ref (a3 0), .ref (a3 1), .ref (a3 2), .int (nI nx2)]))], u4, v3 0, v3 1, v3 2], [(h, .inr (6, [.ref ht1, .ref hk1, .ref hrr1, .ref hm1, .ref hh11, .ref hh21, .int (bI hasT), .int (nI fed), .int (iI fp)]))], wm1, w11]) [2] [0, 1, 3, 4, 5] ⟨hx, hb, hml, hown, hts⟩ hK hA hAm (c_Lk_join hlk) (va_cwS 1 hts gX8_read_X1_join rfl rfl rfl (by decide +kernel) ⟨by show (4) + 1 ≤ 152; omega, by show 8 + (2 + 11) + (260) ≤ 5800; omega⟩) (nn := 6) rfl (by decide) rfl rfl rfl rfl hl.1 (Nat.le_of_ble_eq_true rfl) dX8_read_47 (by show _ + 0 ≤ 6200; omega) (by show _ + 0 ≤ 1100000; omega) (fun v u7 k7 n7 hq7 => ?_)
    obtain ⟨rfl, hu7, rfl, rfl⟩ := hq7
    refine jJ_eq (g2 := F0 m 50 ls [.int (iI ((lkJoin (FF6 1).length ks lp np lb nu ts).1)), .ref h]) (cs2 := [u7, [(hrr1, .inr (3, [.ref hk1, .ref hh21, .int (nI aa6)]))], jF [[(hk1, .inr (5, [.ref ht1, .ref (a3 0), .ref (a3 1), .ref (a3 2), .int (nI nx2)]))], u4, v3 0, v3 1, v3 2], [(h, .inr (6, [.ref ht1, .ref hk1, .ref hrr1, .ref hm1, .ref hh11, .ref hh21, .int (bI hasT), .int (nI fed), .int (iI fp)]))], wm1, w11]) rfl rfl ?_
    refine jJ_put hx hb (C := RX8) (T := TX8) (N := 9) (ty := .int) (v := .int (iI ((lkJoin (FF6 1).length ks lp np lb nu ts).1))) hts uX8_in_X8_read tyX8 tyX8_ok nmX8 hown hK 3 rfl rfl 8 (by decide) (hts (.fieldLink RX8 61 "ValueBlocks" "faultPlace" "I") (by decide +kernel)) (fun _ h9 => h9) rfl (by decide +kernel) rfl rfl (Nat.le_of_ble_eq_true rfl) dX8_read_50 (cs2 := [u7, [(hrr1, .inr (3, [.ref hk1, .ref hh21, .int (nI aa6)]))], jF [[(hk1, .inr (5, [.ref ht1, .ref (a3 0), .ref (a3 1), .ref (a3 2), .int (nI nx2)]))], u4, v3 0, v3 1, v3 2], [(h, .inr (6, [.ref ht1, .ref hk1, .ref hrr1, .ref hm1, .ref hh11, .ref hh21, .int (bI hasT), .int (nI fed), .int (iI ((lkJoin (FF6 1).length ks lp np lb nu ts).1))]))], wm1, w11]) rfl ?_
    refine jJ_of (fun H locs => lv_aload_n hx hb dX8_read_53 rfl (lv_at hl 0 rfl)) ?_
    refine jJ_get hx hb (C := RX8) (T := TX8) (N := 9) hts uX8_in_X8_read hown hK 3 rfl rfl 8 (by decide) (hts (.fieldLink RX8 61 "ValueBlocks" "faultPlace" "I") (by decide +kernel)) (fun _ h9 => h9) rfl dX8_read_54 ?_
    refine jJ_of (fun H locs => lv_iconst (v := (iI (-1))) hx hb dX8_read_57 (by decide)) ?_
    refine jJ_of2 (fun H locs => jz_icmp_eq (tgt := 64) hx hb dX8_read_58 (by decide) (by omega) (by omega) (by omega) (by omega)) (fun c58 => ?_) (fun c58 => ?_)
    · refine jJ_of (fun H locs => lv_aload_n hx hb dX8_read_64 rfl (lv_at hl 0 rfl)) ?_
      refine jJ_get hx hb (C := RX8) (T := TX8) (N := 9) hts uX8_in_X8_read hown hK 3 rfl rfl 4 (by decide) (hts (.fieldLink RX8 37 "ValueBlocks" "program" "LValueBlocks$Program;") (by decide +kernel)) (fun _ h9 => h9) rfl dX8_read_65 ?_
      refine jJ_ofL (fun H locs => lv_astore_n (lv' := [(1, .ref hh11), (0, .ref h)]) hx hb dX8_read_68 rfl hl (by decide) rfl) (fun ls hl => ?_)
      refine jJ_of (fun H locs => lv_aload_n hx hb dX8_read_69 rfl (lv_at hl 1 rfl)) ?_
      refine jJ_of (fun H locs => lv_aload_n hx hb dX8_read_70 rfl (lv_at hl 1 rfl)) ?_
      refine jJ_get hx hb (C := RX8) (T := TX8) (N := 9) hts uX8_in_X8_read hown hK 3 rfl rfl 5 (by decide) (hts (.fieldLink RX8 41 "ValueBlocks" "spare" "LValueBlocks$Program;") (by decide +kernel)) (fun _ h9 => h9) rfl dX8_read_71 ?_
      refine jJ_put hx hb (C := RX8) (T := TX8) (N := 9) (ty := .object "ValueBlocks$Program") (v := .ref hh21) hts uX8_in_X8_read tyX8 tyX8_ok nmX8 hown hK 3 rfl rfl 4 (by decide) (hts (.fieldLink RX8 37 "ValueBlocks" "program" "LValueBlocks$Program;") (by decide +kernel)) (fun _ h9 => h9) rfl (by decide +kernel) rfl rfl (Nat.le_of_ble_eq_true rfl) dX8_read_74 (cs2 := [u7, [(hrr1, .inr (3, [.ref hk1, .ref hh21, .int (nI aa6)]))], jF [[(hk1, .inr (5, [.ref ht1, .ref (a3 0), .ref (a3 1), .ref (a3 2), .int (nI nx2)]))], u4, v3 0, v3 1, v3 2], [(h, .inr (6, [.ref ht1, .ref hk1, .ref hrr1, .ref hm1, .ref hh21, .ref hh21, .int (bI hasT), .int (nI fed), .int (iI ((lkJoin (FF6 1).length ks lp np lb nu ts).1))]))], wm1, w11]) rfl ?_
      refine jJ_of (fun H locs => lv_aload_n hx hb dX8_read_77 rfl (lv_at hl 1 rfl)) ?_
      refine jJ_of (fun H locs => lv_aload_n hx hb dX8_read_78 rfl (lv_at hl 0 rfl)) ?_
      refine jJ_put hx hb (C := RX8) (T := TX8) (N := 9) (ty := .object "ValueBlocks$Program") (v := .ref hh11) hts uX8_in_X8_read tyX8 tyX8_ok nmX8 hown hK 3 rfl rfl 5 (by decide) (hts (.fieldLink RX8 41 "ValueBlocks" "spare" "LValueBlocks$Program;") (by decide +kernel)) (fun _ h9 => h9) rfl (by decide +kernel) rfl rfl (Nat.le_of_ble_eq_true rfl) dX8_read_79 (cs2 := [u7, [(hrr1, .inr (3, [.ref hk1, .ref hh21, .int (nI aa6)]))], jF [[(hk1, .inr (5, [.ref ht1, .ref (a3 0), .ref (a3 1), .ref (a3 2), .int (nI nx2)]))], u4, v3 0, v3 1, v3 2], [(h, .inr (6, [.ref ht1, .ref hk1, .ref hrr1, .ref hm1, .ref hh21, .ref hh11, .int (bI hasT), .int (nI fed), .int (iI ((lkJoin (FF6 1).length ks lp np lb nu ts).1))]))], wm1, w11]) rfl ?_
      refine jJ_of (fun H locs => lv_aload_n hx hb dX8_read_82 rfl (lv_at hl 1 rfl)) ?_
      refine jJ_of (fun H locs => lv_iconst (v := (nI 1)) hx hb dX8_read_83 (by decide)) ?_
      refine jJ_put hx hb (C := RX8) (T := TX8) (N := 9) (ty := .boolean) (v := .int (nI 1)) hts uX8_in_X8_read tyX8 tyX8_ok nmX8 hown hK 3 rfl rfl 6 (by decide) (hts (.fieldLink RX8 53 "ValueBlocks" "hasText" "Z") (by decide +kernel)) (fun _ h9 => h9) rfl (by decide +kernel) rfl rfl (Nat.le_of_ble_eq_true rfl) dX8_read_84 (cs2 := [u7, [(hrr1, .inr (3, [.ref hk1, .ref hh21, .int (nI aa6)]))], jF [[(hk1, .inr (5, [.ref ht1, .ref (a3 0), .ref (a3 1), .ref (a3 2), .int (nI nx2)]))], u4, v3 0, v3 1, v3 2], [(h, .inr (6, [.ref ht1, .ref hk1, .ref hrr1, .ref hm1, .ref hh21, .ref hh11, .int (nI 1), .int (nI fed), .int (iI ((lkJoin (FF6 1).length ks lp np lb nu ts).1))]))], wm1, w11]) rfl ?_
      refine jJ_of (fun H locs => lv_aload_n hx hb dX8_read_87 rfl (lv_at hl 1 rfl)) ?_
      refine jJ_get hx hb (C := RX8) (T := TX8) (N := 9) hts uX8_in_X8_read hown hK 3 rfl rfl 4 (by decide) (hts (.fieldLink RX8 37 "ValueBlocks" "program" "LValueBlocks$Program;") (by decide +kernel)) (fun _ h9 => h9) rfl dX8_read_88 ?_
      refine jJ_callV (As := []) (rest := []) (wc := _) (cs2 := [[(hrr1, .inr (3, [.ref hk1, .ref hh21, .int (nI aa6)]))], jF [[(hk1, .inr (5, [.ref ht1, .ref (a3 0), .ref (a3 1), .ref (a3 2), .int (nI nx2)]))], u4, v3 0, v3 1, v3 2], [(h, .inr (6, [.ref ht1, .ref hk1, .ref hrr1, .ref hm1, .ref hh21, .ref hh11, .int (nI 1), .int (nI fed), .int (iI ((lkJoin (FF6 1).length ks lp np lb nu ts).1))]))], wm1, w11]) (C := RX3) (T := TX3) (N := 8) (ci := 2) [0] [1, 2, 3, 4, 5] ⟨hx, hb, hml, hown, hts⟩ hK hA hAm (c_Prog_size (jLk.prog hof hu7)) (cwV 0 hts gX8_read_X3_size rfl rfl rfl (by decide +kernel) ⟨by show (1) + 1 ≤ 152; omega, by show 8 + (1 + 11) + (40) ≤ 5800; omega⟩) (nn := 6) rfl (by decide) rfl rfl (jLk.prog hof hu7).hd rfl rfl rfl hl.1 (Nat.le_of_ble_eq_true rfl) dX8_read_91 (by show _ + 0 ≤ 6200; omega) (by show _ + 0 ≤ 1100000; omega) (fun v u8 k8 n8 hq8 => ?_)
      obtain ⟨rfl, hw8, rfl, rfl⟩ := hq8
      rw [hw8]
      refine jJ_eq (g2 := F0 m 94 ls [.int (nI ((FF6 1).length))]) (cs2 := [u7, [(hrr1, .inr (3, [.ref hk1, .ref hh21, .int (nI aa6)]))], jF [[(hk1, .inr (5, [.ref ht1, .ref (a3 0), .ref (a3 1), .ref (a3 2), .int (nI nx2)]))], u4, v3 0, v3 1, v3 2], [(h, .inr (6, [.ref ht1, .ref hk1, .ref hrr1, .ref hm1, .ref hh21, .ref hh11, .int (nI 1), .int (nI fed), .int (iI ((lkJoin (FF6 1).length ks lp np lb nu ts).1))]))], wm1, w11]) rfl rfl ?_
      refine jJ_perm [3, 2, 1, 4, 0, 5] (nn := 6) rfl (by decide) (cs2 := [[(h, .inr (6, [.ref ht1, .ref hk1, .ref hrr1, .ref hm1, .ref hh21, .ref hh11, .int (nI 1), .int (nI fed), .int (iI ((lkJoin (FF6 1).length ks lp np lb nu ts).1))]))], jF [[(hk1, .inr (5, [.ref ht1, .ref (a3 0), .ref (a3 1), .ref (a3 2), .int (nI nx2)]))], u4, v3 0, v3 1, v3 2], [(hrr1, .inr (3, [.ref hk1, .ref hh21, .int (nI aa6)]))], wm1, u7, w11]) rfl ?_
      have hall : rAll T = _ := he6
      have hm1 : (lkJoin (FF6 1).length ks lp np lb nu ts).1 = -1 := by omega
      exact jJ_iret hx hb hr9 hlocks dX8_read_94 (by show _ ≤ 6200; omega) (by show _ ≤ 1100000; omega) ⟨P5, PP6, P1, Or.inr ⟨by rw [hall], ks, lp, np, lb, nu, ts, by rw [hall]; exact hof, by rw [hall]; dsimp only; exact Or.inr ⟨hm1, rfl, by rw [← hm1]; exact ⟨_, _, _, _, _, _, _, _, _, _, _, _, _, _, _, rfl, hwa5, hMc1, (jLk.prog hof hu7), hPg11, by omega, by omega, by omega⟩⟩⟩, by omega, by omega⟩
    · refine jJ_of (fun H locs => lv_bipush (v := (iI (-2))) hx hb dX8_read_61 (by decide)) ?_
      refine jJ_perm [3, 2, 1, 4, 5, 0] (nn := 6) rfl (by decide) (cs2 := [[(h, .inr (6, [.ref ht1, .ref hk1, .ref hrr1, .ref hm1, .ref hh11, .ref hh21, .int (bI hasT), .int (nI fed), .int (iI ((lkJoin (FF6 1).length ks lp np lb nu ts).1))]))], jF [[(hk1, .inr (5, [.ref ht1, .ref (a3 0), .ref (a3 1), .ref (a3 2), .int (nI nx2)]))], u4, v3 0, v3 1, v3 2], [(hrr1, .inr (3, [.ref hk1, .ref hh21, .int (nI aa6)]))], wm1, w11, u7]) rfl ?_
      have hall : rAll T = _ := he6
      exact jJ_iret hx hb hr9 hlocks dX8_read_63 (by show _ ≤ 6200; omega) (by show _ ≤ 1100000; omega) ⟨P5, P1, PP6, Or.inr ⟨by rw [hall], ks, lp, np, lb, nu, ts, by rw [hall]; exact hof, by rw [hall]; dsimp only; exact Or.inl ⟨by omega, rfl, ⟨_, _, _, _, _, _, _, _, _, _, _, _, _, _, _, rfl, hwa5, hMc1, hPg11, (jLk.prog hof hu7), by omega, by omega, by omega⟩⟩⟩, by omega, by omega⟩
  · subst c26
    refine jJ_of (fun H locs => lv_aload_n hx hb dX8_read_29 rfl (lv_at hl 0 rfl)) ?_
    refine jJ_of (fun H locs => lv_aload_n hx hb dX8_read_30 rfl (lv_at hl 0 rfl)) ?_
    refine jJ_get hx hb (C := RX8) (T := TX8) (N := 9) hts uX8_in_X8_read hown hK 1 rfl rfl 2 (by decide) (hts (.fieldLink RX8 49 "ValueBlocks" "reader" "LValueBlocks$Reader;") (by decide +kernel)) (fun _ h9 => h9) rfl dX8_read_31 ?_
    refine jJ_callV (As := []) (rest := [.ref h]) (wc := _) (cs2 := [[(h, .inr (6, [.ref ht1, .ref hk1, .ref hrr1, .ref hm1, .ref hh11, .ref hh21, .int (bI hasT), .int (nI fed), .int (iI fp)]))], wm1, w11]) (C := RX4) (T := TX4) (N := 3) (ci := 3) [0] [1, 2, 3] ⟨hx, hb, hml, hown, hts⟩ hK hA hAm (c_Rd_faultPlace hwa5 hu6) (cwV 0 hts gX8_read_X4_faultPlace rfl rfl rfl (by decide +kernel) ⟨by show (3) + 1 ≤ 152; omega, by show 8 + (1 + 11) + (120) ≤ 5800; omega⟩) (nn := 4) rfl (by decide) rfl rfl hu6.hd rfl rfl rfl hl.1 (Nat.le_of_ble_eq_true rfl) dX8_read_34 (by show _ + 0 ≤ 6200; omega) (by show _ + 0 ≤ 1100000; omega) (fun v u9 k9 n9 hq9 => ?_)
    obtain ⟨rfl, hw9, rfl, rfl⟩ := hq9
    rw [hw9]
    refine jJ_eq (g2 := F0 m 37 ls [.int (nI ((tkAll T 1).getD aa6 0)), .ref h]) (cs2 := [u6, [(h, .inr (6, [.ref ht1, .ref hk1, .ref hrr1, .ref hm1, .ref hh11, .ref hh21, .int (bI hasT), .int (nI fed), .int (iI fp)]))], wm1, w11]) rfl rfl ?_
    refine jJ_put hx hb (C := RX8) (T := TX8) (N := 9) (ty := .int) (v := .int (nI ((tkAll T 1).getD aa6 0))) hts uX8_in_X8_read tyX8 tyX8_ok nmX8 hown hK 1 rfl rfl 8 (by decide) (hts (.fieldLink RX8 61 "ValueBlocks" "faultPlace" "I") (by decide +kernel)) (fun _ h9 => h9) rfl (by decide +kernel) rfl rfl (Nat.le_of_ble_eq_true rfl) dX8_read_37 (cs2 := [u6, [(h, .inr (6, [.ref ht1, .ref hk1, .ref hrr1, .ref hm1, .ref hh11, .ref hh21, .int (bI hasT), .int (nI fed), .int (nI ((tkAll T 1).getD aa6 0))]))], wm1, w11]) rfl ?_
    refine jJ_of (fun H locs => lv_iconst (v := (iI (-1))) hx hb dX8_read_40 (by decide)) ?_
    have hrs6 := hu6
    obtain ⟨wp6, rfl, hpp6, hpa6⟩ := hrs6
    refine jJ_open (xs := [[(hrr1, .inr (3, [.ref hk1, .ref hh21, .int (nI aa6)]))], jF [[(hk1, .inr (5, [.ref ht1, .ref (a3 0), .ref (a3 1), .ref (a3 2), .int (nI nx2)]))], u4, v3 0, v3 1, v3 2], wp6]) (r := [[(h, .inr (6, [.ref ht1, .ref hk1, .ref hrr1, .ref hm1, .ref hh11, .ref hh21, .int (bI hasT), .int (nI fed), .int (nI ((tkAll T 1).getD aa6 0))]))], wm1, w11]) (cs2 := [[(hrr1, .inr (3, [.ref hk1, .ref hh21, .int (nI aa6)]))], jF [[(hk1, .inr (5, [.ref ht1, .ref (a3 0), .ref (a3 1), .ref (a3 2), .int (nI nx2)]))], u4, v3 0, v3 1, v3 2], wp6, [(h, .inr (6, [.ref ht1, .ref hk1, .ref hrr1, .ref hm1, .ref hh11, .ref hh21, .int (bI hasT), .int (nI fed), .int (nI ((tkAll T 1).getD aa6 0))]))], wm1, w11]) rfl ?_
    refine jJ_perm [3, 1, 0, 4, 5, 2] (nn := 6) rfl (by decide) (cs2 := [[(h, .inr (6, [.ref ht1, .ref hk1, .ref hrr1, .ref hm1, .ref hh11, .ref hh21, .int (bI hasT), .int (nI fed), .int (nI ((tkAll T 1).getD aa6 0))]))], jF [[(hk1, .inr (5, [.ref ht1, .ref (a3 0), .ref (a3 1), .ref (a3 2), .int (nI nx2)]))], u4, v3 0, v3 1, v3 2], [(hrr1, .inr (3, [.ref hk1, .ref hh21, .int (nI aa6)]))], wm1, w11, wp6]) rfl ?_
    have hall : rAll T = _ := he6
    have hfb := hwa5.len.2.2.2.2.2.2.1 1 (by decide) aa6
    exact jJ_iret hx hb hr9 hlocks dX8_read_41 (by show _ ≤ 6200; omega) (by show _ ≤ 1100000; omega) ⟨P5, P1, PP6, Or.inl ⟨by rw [hall], rfl, by rw [hall]; dsimp only; exact ⟨_, _, _, _, _, _, _, _, _, _, _, _, _, _, _, rfl, hwa5, hMc1, hPg11, (jProg.full hpp6), by omega, by omega, by omega⟩⟩, by omega, by omega⟩
end VR
