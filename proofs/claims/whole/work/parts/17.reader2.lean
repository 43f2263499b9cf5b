/-! ValueBlocks$Reader: a line, and the lines; F holds the program's eight rows -/
def pLab (F : Nat → List Int32) (x y : Int32) : Nat → List Int32 := va_up (va_up F 3 ((F 3).set ((F 1).length - 1) x)) 4 ((F 4).set ((F 1).length - 1) y)
def pClo (F : Nat → List Int32) (x y z : Int32) : Nat → List Int32 := va_up (va_up (va_up F 2 ((F 2).set ((F 1).length - 1) x)) 5 ((F 5).set ((F 1).length - 1) y)) 6 ((F 6).set ((F 1).length - 1) z)
theorem rTake_form (tk : Nat → List Nat) (k a : Nat) (co : List Int32) : ∃ (b : Bool) (x : Nat), rTake tk k a co = (b, x, co) := by
  unfold rTake
  split
  · exact ⟨true, a + 1, rfl⟩
  · exact ⟨false, a, rfl⟩
theorem rTake_t {tk : Nat → List Nat} {k a x : Nat} {co : List Int32} (h : rTake tk k a co = (true, x, co)) : (tk 0).getD a 0 = k ∧ a + 1 = x := by
  unfold rTake at h
  split at h
  · rename_i q
    exact ⟨q, congrArg (fun z => z.2.1) h⟩
  · exact Bool.noConfusion (congrArg (fun z => z.1) h)
theorem rTake_f {tk : Nat → List Nat} {k a x : Nat} {co : List Int32} (h : rTake tk k a co = (false, x, co)) : ¬ (tk 0).getD a 0 = k ∧ a = x := by
  unfold rTake at h
  split at h
  · exact Bool.noConfusion (congrArg (fun z => z.1) h)
  · rename_i q
    exact ⟨q, congrArg (fun z => z.2.1) h⟩
def rNum (tk : Nat → List Nat) (word a : Nat) (F : Nat → List Int32) : Bool × Nat × (Nat → List Int32) := ((rTake tk 256 a (F 0)).1, (rTake tk 256 a (F 0)).2.1, pClo F (nI word) (nI ((tk 2).getD a 0)) (nI ((tk 1).getD a 0)))
def rLab (tk : Nat → List Nat) (a : Nat) (F : Nat → List Int32) : Bool × Nat × (Nat → List Int32) := if (tk 0).getD a 0 = 78 then ((rTake tk 256 (a + 1) (F 0)).1, (rTake tk 256 (a + 1) (F 0)).2.1, pLab F (nI ((tk 2).getD (a + 1) 0)) (nI ((tk 1).getD (a + 1) 0))) else (true, a, F)
def rThenL (x : Bool × Nat × List Int32) (F : Nat → List Int32) (f : Nat → (Nat → List Int32) → Bool × Nat × (Nat → List Int32)) : Bool × Nat × (Nat → List Int32) := if x.1 = true then f x.2.1 (va_up F 0 x.2.2) else (false, x.2.1, va_up F 0 x.2.2)
theorem rThenL_t (a : Nat) (co : List Int32) (F : Nat → List Int32) (f : Nat → (Nat → List Int32) → Bool × Nat × (Nat → List Int32)) : rThenL (true, a, co) F f = f a (va_up F 0 co) := rfl
theorem rThenL_f (a : Nat) (co : List Int32) (F : Nat → List Int32) (f : Nat → (Nat → List Int32) → Bool × Nat × (Nat → List Int32)) : rThenL (false, a, co) F f = (false, a, va_up F 0 co) := rfl
def rRest (tk : Nat → List Nat) (a : Nat) (F : Nat → List Int32) : Bool × Nat × (Nat → List Int32) :=
  if (tk 0).getD a 0 = 35 then rThenL (rThen (rThen (rThen (rThen (rPl tk (rBra tk 20) (a + 1) (F 0)) (rWr 3)) (rTake tk 61)) (rSum tk 20)) (rWr 4)) F (fun a F => (true, a, F))
  else if (tk 0).getD a 0 = 300 then rThenL (rThen (rBra tk 20 (a + 1) (F 0)) (rTake tk 301)) F (rNum tk 300)
  else if (tk 0).getD a 0 = 302 then rThenL (rThen (rBra tk 20 (a + 1) (F 0)) (rTake tk 303)) F (rNum tk 302)
  else if (tk 0).getD a 0 = 301 ∨ (tk 0).getD a 0 = 304 then rNum tk ((tk 0).getD a 0) (a + 1) F
  else (true, a, F)
theorem jProg.full {cI : ClassId} {h P : Nat} {F : Nat → List Int32} {w : va_W} (hw : jProg cI h P (va_up F 0 (F 0)) w) : jProg cI h P F w := by
  rw [jup_id] at hw
  exact hw
theorem jProg.fill {cI : ClassId} {h P : Nat} {F : Nat → List Int32} {w : va_W} (hw : jProg cI h P F w) : jProg cI h P (va_up F 0 (F 0)) w := by
  rw [jup_id]
  exact hw
theorem jRd.fill {cI : ClassId} {h ht hp P a : Nat} {wk w : va_W} {pr : Nat → List Int32} {co : List Int32} (hw : jRd cI h ht hp P wk pr co a w) : jRd cI h ht hp P wk (va_up pr 0 co) (va_up pr 0 co 0) a w := by
  obtain ⟨wp, h1, h2, h3⟩ := hw
  exact ⟨wp, h1, h2.fill, h3⟩
section RDL
variable {D : va_G} {G : Nat → Nat} {cI cJ cB cZ : ClassId} {l : Launch}

theorem uX4_in_X4_numberOf : ∀ w ∈ u_ws RX4 TX4 3, w ∈ wsX4_numberOf := by decide +kernel
set_option maxHeartbeats 4000000 in
set_option maxRecDepth 100000 in
/-- numberOf(word) -/
theorem c_Rd_numberOf {h ht hT hp Pk Pp nx a : Nat} {T : List Nat} {tk : Nat → List Nat} {F : Nat → List Int32} {wk w : va_W} (hk : jTok cI ht hT Pk T tk nx wk) (hw : jRd cI h ht hp Pp wk F (F 0) a w) (word : Nat) (h1 : 0 < (F 1).length) : HM l yX4_numberOf wsX4_numberOf ({ frames := 9, cells := 4001 - Pp, slots := 128 * (4000 - Pp) + 32000, locals := 300 } : Room) D G (jT cI cJ cB cZ) [.ref h, .int (nI word)] w (fun v u k n => v = some (.int (bI (rNum tk word a F).1)) ∧ ∃ P2 : Nat, jRd cI h ht hp P2 wk (rNum tk word a F).2.2 ((rNum tk word a F).2.2 0) (rNum tk word a F).2.1 u ∧ k + Pp ≤ P2 ∧ n + 128 * Pp ≤ 128 * P2) := by
  refine HM_of (cc := cX4_numberOf) (maxL := 2) (ret := (some .boolean)) (lv := [(0, .ref h), (1, .int (nI word))]) (by decide) rfl rfl (Nat.le_of_ble_eq_true rfl) (fun p e s m args below meth c A0 ls hx hb hr hts hown hlocks hml hnm hK hA hAm hl => ?_)
  have hLw := hw.len
  have hkb := hk.len
  refine jJ_of (fun H locs => lv_aload_n hx hb dX4_numberOf_0 rfl (lv_at hl 0 rfl)) ?_
  have hsv1 := hw
  obtain ⟨wp1, rfl, hp1, ha1⟩ := hsv1
  refine jJ_open (xs := [[(h, .inr (3, [.ref ht, .ref hp, .int (nI a)]))], wk, wp1]) (r := []) (cs2 := [[(h, .inr (3, [.ref ht, .ref hp, .int (nI a)]))], wk, wp1]) rfl ?_
  refine jJ_get hx hb (C := RX4) (T := TX4) (N := 3) hts uX4_in_X4_numberOf hown hK 0 rfl rfl 1 (by decide) (hts (.fieldLink RX4 13 "ValueBlocks$Reader" "out" "LValueBlocks$Program;") (by decide +kernel)) (fun _ h9 => h9) rfl dX4_numberOf_1 ?_
  refine jJ_of (fun H locs => lv_iload_n hx hb dX4_numberOf_4 rfl (lv_at hl 1 rfl)) ?_
  refine jJ_of (fun H locs => lv_aload_n hx hb dX4_numberOf_5 rfl (lv_at hl 0 rfl)) ?_
  refine jJ_get hx hb (C := RX4) (T := TX4) (N := 3) hts uX4_in_X4_numberOf hown hK 0 rfl rfl 0 (by decide) (hts (.fieldLink RX4 7 "ValueBlocks$Reader" "tokens" "LValueBlocks$Tokens;") (by decide +kernel)) (fun _ h9 => h9) rfl dX4_numberOf_6 ?_
  refine jJ_of (fun H locs => lv_aload_n hx hb dX4_numberOf_9 rfl (lv_at hl 0 rfl)) ?_
  refine jJ_get hx hb (C := RX4) (T := TX4) (N := 3) hts uX4_in_X4_numberOf hown hK 0 rfl rfl 2 (by decide) (hts (.fieldLink RX4 17 "ValueBlocks$Reader" "at" "I") (by decide +kernel)) (fun _ h9 => h9) rfl dX4_numberOf_10 ?_
  refine jJ_callV (As := [.int (nI a)]) (rest := [.int (nI word), .ref hp]) (wc := _) (cs2 := [[(h, .inr (3, [.ref ht, .ref hp, .int (nI a)]))], wp1]) (C := RX6) (T := TX6) (N := 5) (ci := 5) [1] [0, 2] ⟨hx, hb, hml, hown, hts⟩ hK hA hAm (c_Tok_worth hk a (by omega)) (cwV 1 hts gX4_numberOf_X6_worth rfl rfl rfl (by decide +kernel) ⟨Nat.le_of_ble_eq_true rfl, Nat.le_of_ble_eq_true rfl⟩) (nn := 3) rfl (by decide) rfl rfl hk.hd rfl rfl rfl hl.1 (Nat.le_of_ble_eq_true rfl) dX4_numberOf_13 (by show _ + 0 ≤ 4001 - Pp; omega) (by show _ + 0 ≤ 128 * (4000 - Pp) + 32000; omega) (fun v u2 k2 n2 hq2 => ?_)
  obtain ⟨rfl, hw2, rfl, rfl⟩ := hq2
  rw [hw2]
  refine jJ_eq (g2 := F0 m 16 ls [.int (nI ((tk 2).getD a 0)), .int (nI word), .ref hp]) (cs2 := [wk, [(h, .inr (3, [.ref ht, .ref hp, .int (nI a)]))], wp1]) rfl rfl ?_
  have hvb2 := hkb.2.2.2.2.2.2.1 2 (by decide) a
  refine jJ_of (fun H locs => lv_aload_n hx hb dX4_numberOf_16 rfl (lv_at hl 0 rfl)) ?_
  refine jJ_get hx hb (C := RX4) (T := TX4) (N := 3) hts uX4_in_X4_numberOf hown hK 1 rfl rfl 0 (by decide) (hts (.fieldLink RX4 7 "ValueBlocks$Reader" "tokens" "LValueBlocks$Tokens;") (by decide +kernel)) (fun _ h9 => h9) rfl dX4_numberOf_17 ?_
  refine jJ_of (fun H locs => lv_aload_n hx hb dX4_numberOf_20 rfl (lv_at hl 0 rfl)) ?_
  refine jJ_get hx hb (C := RX4) (T := TX4) (N := 3) hts uX4_in_X4_numberOf hown hK 1 rfl rfl 2 (by decide) (hts (.fieldLink RX4 17 "ValueBlocks$Reader" "at" "I") (by decide +kernel)) (fun _ h9 => h9) rfl dX4_numberOf_21 ?_
  refine jJ_callV (As := [.int (nI a)]) (rest := [.int (nI ((tk 2).getD a 0)), .int (nI word), .ref hp]) (wc := _) (cs2 := [[(h, .inr (3, [.ref ht, .ref hp, .int (nI a)]))], wp1]) (C := RX6) (T := TX6) (N := 5) (ci := 5) [0] [1, 2] ⟨hx, hb, hml, hown, hts⟩ hK hA hAm (c_Tok_start hk a (by omega)) (cwV 1 hts gX4_numberOf_X6_start rfl rfl rfl (by decide +kernel) ⟨Nat.le_of_ble_eq_true rfl, Nat.le_of_ble_eq_true rfl⟩) (nn := 3) rfl (by decide) rfl rfl hk.hd rfl rfl rfl hl.1 (Nat.le_of_ble_eq_true rfl) dX4_numberOf_24 (by show _ + 0 ≤ 4001 - Pp; omega) (by show _ + 0 ≤ 128 * (4000 - Pp) + 32000; omega) (fun v u3 k3 n3 hq3 => ?_)
  obtain ⟨rfl, hw3, rfl, rfl⟩ := hq3
  rw [hw3]
  refine jJ_eq (g2 := F0 m 27 ls [.int (nI ((tk 1).getD a 0)), .int (nI ((tk 2).getD a 0)), .int (nI word), .ref hp]) (cs2 := [wk, [(h, .inr (3, [.ref ht, .ref hp, .int (nI a)]))], wp1]) rfl rfl ?_
  have hvb3 := hkb.2.2.2.2.2.2.1 1 (by decide) a
  refine jJ_callV (As := [.int (nI word), .int (nI ((tk 2).getD a 0)), .int (nI ((tk 1).getD a 0))]) (rest := []) (wc := _) (cs2 := [wk, [(h, .inr (3, [.ref ht, .ref hp, .int (nI a)]))]]) (C := RX3) (T := TX3) (N := 8) (ci := 2) [2] [0, 1] ⟨hx, hb, hml, hown, hts⟩ hK hA hAm (c_Prog_closeLine (jProg.full hp1) (nI word) (nI ((tk 2).getD a 0)) (nI ((tk 1).getD a 0)) h1) (cwV 3 hts gX4_numberOf_X3_closeLine rfl rfl rfl (by decide +kernel) ⟨Nat.le_of_ble_eq_true rfl, Nat.le_of_ble_eq_true rfl⟩) (nn := 3) rfl (by decide) rfl rfl (jProg.full hp1).hd rfl rfl rfl hl.1 (Nat.le_of_ble_eq_true rfl) dX4_numberOf_27 (by show _ + 0 ≤ 4001 - Pp; omega) (by show _ + 0 ≤ 128 * (4000 - Pp) + 32000; omega) (fun v u4 k4 n4 hq4 => ?_)
  obtain ⟨rfl, hu4, rfl, rfl⟩ := hq4
  change jProg cI hp Pp (pClo F (nI word) (nI ((tk 2).getD a 0)) (nI ((tk 1).getD a 0))) u4 at hu4
  refine jJ_eq (g2 := F0 m 30 ls []) (cs2 := [u4, wk, [(h, .inr (3, [.ref ht, .ref hp, .int (nI a)]))]]) rfl rfl ?_
  refine jJ_of (fun H locs => lv_aload_n hx hb dX4_numberOf_30 rfl (lv_at hl 0 rfl)) ?_
  refine jJ_of (fun H locs => lv_sipush (v := (nI 256)) hx hb dX4_numberOf_31 (by decide)) ?_
  refine jJ_perm [2, 1, 0] (nn := 3) rfl (by decide) (cs2 := [[(h, .inr (3, [.ref ht, .ref hp, .int (nI a)]))], wk, u4]) rfl ?_
  have hrw5 : jRd cI h ht hp Pp wk (pClo F (nI word) (nI ((tk 2).getD a 0)) (nI ((tk 1).getD a 0))) ((pClo F (nI word) (nI ((tk 2).getD a 0)) (nI ((tk 1).getD a 0))) 0) a (jF [[(h, .inr (3, [.ref ht, .ref hp, .int (nI a)]))], wk, u4]) := ⟨_, rfl, (jProg.fill hu4), by omega⟩
  refine jJ_flat (cs2 := [jF [[(h, .inr (3, [.ref ht, .ref hp, .int (nI a)]))], wk, u4]]) rfl ?_
  have hLr5 := hrw5.len
  refine jJ_callV (As := [.int (nI 256)]) (rest := []) (wc := _) (cs2 := []) (C := RX4) (T := TX4) (N := 3) (ci := 3) [0] [] ⟨hx, hb, hml, hown, hts⟩ hK hA hAm (c_Rd_take hk hrw5 256 (by omega) (by omega)) (cwV 1 hts gX4_numberOf_X4_take rfl rfl rfl (by decide +kernel) ⟨Nat.le_of_ble_eq_true rfl, Nat.le_of_ble_eq_true rfl⟩) (nn := 1) rfl (by decide) rfl rfl hrw5.hd rfl rfl rfl hl.1 (Nat.le_of_ble_eq_true rfl) dX4_numberOf_34 (by show _ + (4001 - Pp) ≤ 4001 - Pp; omega) (by show _ + (128 * (4000 - Pp) + 32000) ≤ 128 * (4000 - Pp) + 32000; omega) (fun v u6 k6 n6 hq6 => ?_)
  obtain ⟨bb6, aa6, he6⟩ := rTake_form tk 256 a ((pClo F (nI word) (nI ((tk 2).getD a 0)) (nI ((tk 1).getD a 0))) 0)
  rw [he6] at hq6
  try dsimp only at hq6
  obtain ⟨rfl, PP6, hu6, hkk6, hnn6⟩ := hq6
  have hL6 := hu6.len
  refine jJ_eq (g2 := F0 m 37 ls [.int (bI bb6)]) (cs2 := [u6]) rfl rfl ?_
  have he : rNum tk word a F = (bb6, aa6, pClo F (nI word) (nI ((tk 2).getD a 0)) (nI ((tk 1).getD a 0))) := by unfold rNum; rw [show rTake tk 256 a (F 0) = _ from he6]
  exact jJ_zret hx hb hr hlocks dX4_numberOf_37 (by show _ ≤ 4001 - Pp; omega) (by show _ ≤ 128 * (4000 - Pp) + 32000; omega) (bI_01 _) ⟨by rw [he]; try rfl, PP6, by rw [he]; exact hu6, by omega, by omega⟩
theorem uX4_in_X4_label : ∀ w ∈ u_ws RX4 TX4 3, w ∈ wsX4_label := by decide +kernel
set_option maxHeartbeats 4000000 in
set_option maxRecDepth 100000 in
/-- label() -/
theorem c_Rd_label {h ht hT hp Pk Pp nx a : Nat} {T : List Nat} {tk : Nat → List Nat} {F : Nat → List Int32} {wk w : va_W} (hk : jTok cI ht hT Pk T tk nx wk) (hw : jRd cI h ht hp Pp wk F (F 0) a w) (h1 : 0 < (F 1).length) : HM l yX4_label wsX4_label ({ frames := 9, cells := 4001 - Pp, slots := 128 * (4000 - Pp) + 32000, locals := 300 } : Room) D G (jT cI cJ cB cZ) [.ref h] w (fun v u k n => v = some (.int (bI (rLab tk a F).1)) ∧ ∃ P2 : Nat, jRd cI h ht hp P2 wk (rLab tk a F).2.2 ((rLab tk a F).2.2 0) (rLab tk a F).2.1 u ∧ k + Pp ≤ P2 ∧ n + 128 * Pp ≤ 128 * P2) := by
  refine HM_of (cc := cX4_label) (maxL := 1) (ret := (some .boolean)) (lv := [(0, .ref h)]) (by decide) rfl rfl (Nat.le_of_ble_eq_true rfl) (fun p e s m args below meth c A0 ls hx hb hr hts hown hlocks hml hnm hK hA hAm hl => ?_)
  have hLw := hw.len
  have hkb := hk.len
  refine jJ_of (fun H locs => lv_aload_n hx hb dX4_label_0 rfl (lv_at hl 0 rfl)) ?_
  refine jJ_of (fun H locs => lv_bipush (v := (nI 78)) hx hb dX4_label_1 (by decide)) ?_
  refine jJ_callV (As := [.int (nI 78)]) (rest := []) (wc := _) (cs2 := []) (C := RX4) (T := TX4) (N := 3) (ci := 3) [0] [] ⟨hx, hb, hml, hown, hts⟩ hK hA hAm (c_Rd_take hk hw 78 (by omega) (by omega)) (cwV 1 hts gX4_label_X4_take rfl rfl rfl (by decide +kernel) ⟨Nat.le_of_ble_eq_true rfl, Nat.le_of_ble_eq_true rfl⟩) (nn := 1) rfl (by decide) rfl rfl hw.hd rfl rfl rfl hl.1 (Nat.le_of_ble_eq_true rfl) dX4_label_3 (by show _ + (4001 - Pp) ≤ 4001 - Pp; omega) (by show _ + (128 * (4000 - Pp) + 32000) ≤ 128 * (4000 - Pp) + 32000; omega) (fun v u1 k1 n1 hq1 => ?_)
  obtain ⟨bb1, aa1, he1⟩ := rTake_form tk 78 a (F 0)
  rw [he1] at hq1
  try dsimp only at hq1
  obtain ⟨rfl, PP1, hu1, hkk1, hnn1⟩ := hq1
  have hL1 := hu1.len
  refine jJ_eq (g2 := F0 m 6 ls [.int (bI bb1)]) (cs2 := [u1]) rfl rfl ?_
  refine jJ_of2 (fun H locs => jb_if_ne (tgt := 11) hx hb dX4_label_6 (by decide)) (fun c6 => ?_) (fun c6 => ?_)
  · subst c6
    obtain ⟨hKa, hxa⟩ := rTake_t he1
    subst hxa
    refine jJ_of (fun H locs => lv_aload_n hx hb dX4_label_11 rfl (lv_at hl 0 rfl)) ?_
    have hsv2 := hu1
    obtain ⟨wp2, rfl, hp2, ha2⟩ := hsv2
    refine jJ_open (xs := [[(h, .inr (3, [.ref ht, .ref hp, .int (nI (a + 1))]))], wk, wp2]) (r := []) (cs2 := [[(h, .inr (3, [.ref ht, .ref hp, .int (nI (a + 1))]))], wk, wp2]) rfl ?_
    refine jJ_get hx hb (C := RX4) (T := TX4) (N := 3) hts uX4_in_X4_label hown hK 0 rfl rfl 1 (by decide) (hts (.fieldLink RX4 13 "ValueBlocks$Reader" "out" "LValueBlocks$Program;") (by decide +kernel)) (fun _ h9 => h9) rfl dX4_label_12 ?_
    refine jJ_of (fun H locs => lv_aload_n hx hb dX4_label_15 rfl (lv_at hl 0 rfl)) ?_
    refine jJ_get hx hb (C := RX4) (T := TX4) (N := 3) hts uX4_in_X4_label hown hK 0 rfl rfl 0 (by decide) (hts (.fieldLink RX4 7 "ValueBlocks$Reader" "tokens" "LValueBlocks$Tokens;") (by decide +kernel)) (fun _ h9 => h9) rfl dX4_label_16 ?_
    refine jJ_of (fun H locs => lv_aload_n hx hb dX4_label_19 rfl (lv_at hl 0 rfl)) ?_
    refine jJ_get hx hb (C := RX4) (T := TX4) (N := 3) hts uX4_in_X4_label hown hK 0 rfl rfl 2 (by decide) (hts (.fieldLink RX4 17 "ValueBlocks$Reader" "at" "I") (by decide +kernel)) (fun _ h9 => h9) rfl dX4_label_20 ?_
    refine jJ_callV (As := [.int (nI (a + 1))]) (rest := [.ref hp]) (wc := _) (cs2 := [[(h, .inr (3, [.ref ht, .ref hp, .int (nI (a + 1))]))], wp2]) (C := RX6) (T := TX6) (N := 5) (ci := 5) [1] [0, 2] ⟨hx, hb, hml, hown, hts⟩ hK hA hAm (c_Tok_worth hk (a + 1) (by omega)) (cwV 1 hts gX4_label_X6_worth rfl rfl rfl (by decide +kernel) ⟨Nat.le_of_ble_eq_true rfl, Nat.le_of_ble_eq_true rfl⟩) (nn := 3) rfl (by decide) rfl rfl hk.hd rfl rfl rfl hl.1 (Nat.le_of_ble_eq_true rfl) dX4_label_23 (by show _ + 0 ≤ 4001 - Pp; omega) (by show _ + 0 ≤ 128 * (4000 - Pp) + 32000; omega) (fun v u3 k3 n3 hq3 => ?_)
    obtain ⟨rfl, hw3, rfl, rfl⟩ := hq3
    rw [hw3]
    refine jJ_eq (g2 := F0 m 26 ls [.int (nI ((tk 2).getD (a + 1) 0)), .ref hp]) (cs2 := [wk, [(h, .inr (3, [.ref ht, .ref hp, .int (nI (a + 1))]))], wp2]) rfl rfl ?_
    have hvb3 := hkb.2.2.2.2.2.2.1 2 (by decide) (a + 1)
    refine jJ_of (fun H locs => lv_aload_n hx hb dX4_label_26 rfl (lv_at hl 0 rfl)) ?_
    refine jJ_get hx hb (C := RX4) (T := TX4) (N := 3) hts uX4_in_X4_label hown hK 1 rfl rfl 0 (by decide) (hts (.fieldLink RX4 7 "ValueBlocks$Reader" "tokens" "LValueBlocks$Tokens;") (by decide +kernel)) (fun _ h9 => h9) rfl dX4_label_27 ?_
    refine jJ_of (fun H locs => lv_aload_n hx hb dX4_label_30 rfl (lv_at hl 0 rfl)) ?_
    refine jJ_get hx hb (C := RX4) (T := TX4) (N := 3) hts uX4_in_X4_label hown hK 1 rfl rfl 2 (by decide) (hts (.fieldLink RX4 17 "ValueBlocks$Reader" "at" "I") (by decide +kernel)) (fun _ h9 => h9) rfl dX4_label_31 ?_
    refine jJ_callV (As := [.int (nI (a + 1))]) (rest := [.int (nI ((tk 2).getD (a + 1) 0)), .ref hp]) (wc := _) (cs2 := [[(h, .inr (3, [.ref ht, .ref hp, .int (nI (a + 1))]))], wp2]) (C := RX6) (T := TX6) (N := 5) (ci := 5) [0] [1, 2] ⟨hx, hb, hml, hown, hts⟩ hK hA hAm (c_Tok_start hk (a + 1) (by omega)) (cwV 1 hts gX4_label_X6_start rfl rfl rfl (by decide +kernel) ⟨Nat.le_of_ble_eq_true rfl, Nat.le_of_ble_eq_true rfl⟩) (nn := 3) rfl (by decide) rfl rfl hk.hd rfl rfl rfl hl.1 (Nat.le_of_ble_eq_true rfl) dX4_label_34 (by show _ + 0 ≤ 4001 - Pp; omega) (by show _ + 0 ≤ 128 * (4000 - Pp) + 32000; omega) (fun v u4 k4 n4 hq4 => ?_)
    obtain ⟨rfl, hw4, rfl, rfl⟩ := hq4
    rw [hw4]
    refine jJ_eq (g2 := F0 m 37 ls [.int (nI ((tk 1).getD (a + 1) 0)), .int (nI ((tk 2).getD (a + 1) 0)), .ref hp]) (cs2 := [wk, [(h, .inr (3, [.ref ht, .ref hp, .int (nI (a + 1))]))], wp2]) rfl rfl ?_
    have hvb4 := hkb.2.2.2.2.2.2.1 1 (by decide) (a + 1)
    refine jJ_callV (As := [.int (nI ((tk 2).getD (a + 1) 0)), .int (nI ((tk 1).getD (a + 1) 0))]) (rest := []) (wc := _) (cs2 := [wk, [(h, .inr (3, [.ref ht, .ref hp, .int (nI (a + 1))]))]]) (C := RX3) (T := TX3) (N := 8) (ci := 2) [2] [0, 1] ⟨hx, hb, hml, hown, hts⟩ hK hA hAm (c_Prog_labelLine (jProg.full hp2) (nI ((tk 2).getD (a + 1) 0)) (nI ((tk 1).getD (a + 1) 0)) h1) (cwV 2 hts gX4_label_X3_labelLine rfl rfl rfl (by decide +kernel) ⟨Nat.le_of_ble_eq_true rfl, Nat.le_of_ble_eq_true rfl⟩) (nn := 3) rfl (by decide) rfl rfl (jProg.full hp2).hd rfl rfl rfl hl.1 (Nat.le_of_ble_eq_true rfl) dX4_label_37 (by show _ + 0 ≤ 4001 - Pp; omega) (by show _ + 0 ≤ 128 * (4000 - Pp) + 32000; omega) (fun v u5 k5 n5 hq5 => ?_)
    obtain ⟨rfl, hu5, rfl, rfl⟩ := hq5
    change jProg cI hp PP1 (pLab F (nI ((tk 2).getD (a + 1) 0)) (nI ((tk 1).getD (a + 1) 0))) u5 at hu5
    refine jJ_eq (g2 := F0 m 40 ls []) (cs2 := [u5, wk, [(h, .inr (3, [.ref ht, .ref hp, .int (nI (a + 1))]))]]) rfl rfl ?_
    refine jJ_of (fun H locs => lv_aload_n hx hb dX4_label_40 rfl (lv_at hl 0 rfl)) ?_
    refine jJ_of (fun H locs => lv_sipush (v := (nI 256)) hx hb dX4_label_41 (by decide)) ?_
    refine jJ_perm [2, 1, 0] (nn := 3) rfl (by decide) (cs2 := [[(h, .inr (3, [.ref ht, .ref hp, .int (nI (a + 1))]))], wk, u5]) rfl ?_
    have hat6 := hk.lt a (by omega)
    have hrw6 : jRd cI h ht hp PP1 wk (pLab F (nI ((tk 2).getD (a + 1) 0)) (nI ((tk 1).getD (a + 1) 0))) ((pLab F (nI ((tk 2).getD (a + 1) 0)) (nI ((tk 1).getD (a + 1) 0))) 0) (a + 1) (jF [[(h, .inr (3, [.ref ht, .ref hp, .int (nI (a + 1))]))], wk, u5]) := ⟨_, rfl, (jProg.fill hu5), by omega⟩
    refine jJ_flat (cs2 := [jF [[(h, .inr (3, [.ref ht, .ref hp, .int (nI (a + 1))]))], wk, u5]]) rfl ?_
    have hLr6 := hrw6.len
    refine jJ_callV (As := [.int (nI 256)]) (rest := []) (wc := _) (cs2 := []) (C := RX4) (T := TX4) (N := 3) (ci := 3) [0] [] ⟨hx, hb, hml, hown, hts⟩ hK hA hAm (c_Rd_take hk hrw6 256 (by omega) (by omega)) (cwV 1 hts gX4_label_X4_take rfl rfl rfl (by decide +kernel) ⟨Nat.le_of_ble_eq_true rfl, Nat.le_of_ble_eq_true rfl⟩) (nn := 1) rfl (by decide) rfl rfl hrw6.hd rfl rfl rfl hl.1 (Nat.le_of_ble_eq_true rfl) dX4_label_44 (by show _ + (4001 - PP1) ≤ 4001 - Pp; omega) (by show _ + (128 * (4000 - PP1) + 32000) ≤ 128 * (4000 - Pp) + 32000; omega) (fun v u7 k7 n7 hq7 => ?_)
    obtain ⟨bb7, aa7, he7⟩ := rTake_form tk 256 (a + 1) ((pLab F (nI ((tk 2).getD (a + 1) 0)) (nI ((tk 1).getD (a + 1) 0))) 0)
    rw [he7] at hq7
    try dsimp only at hq7
    obtain ⟨rfl, PP7, hu7, hkk7, hnn7⟩ := hq7
    have hL7 := hu7.len
    refine jJ_eq (g2 := F0 m 47 ls [.int (bI bb7)]) (cs2 := [u7]) rfl rfl ?_
    have he : rLab tk a F = (bb7, aa7, pLab F (nI ((tk 2).getD (a + 1) 0)) (nI ((tk 1).getD (a + 1) 0))) := by refine (if_pos hKa).trans ?_; rw [show rTake tk 256 (a + 1) (F 0) = _ from he7]
    exact jJ_zret hx hb hr hlocks dX4_label_47 (by show _ ≤ 4001 - Pp; omega) (by show _ ≤ 128 * (4000 - Pp) + 32000; omega) (bI_01 _) ⟨by rw [he]; try rfl, PP7, by rw [he]; exact hu7, by omega, by omega⟩
  · subst c6
    obtain ⟨hKa, hxa⟩ := rTake_f he1
    subst hxa
    refine jJ_of (fun H locs => lv_iconst (v := (nI 1)) hx hb dX4_label_9 (by decide)) ?_
    have he : rLab tk a F = (true, a, F) := by exact if_neg hKa
    exact jJ_zret hx hb hr hlocks dX4_label_10 (by show _ ≤ 4001 - Pp; omega) (by show _ ≤ 128 * (4000 - Pp) + 32000; omega) (Or.inr rfl) ⟨by rw [he]; try rfl, PP1, by rw [he]; exact hu1, by omega, by omega⟩
theorem uX4_in_X4_rest : ∀ w ∈ u_ws RX4 TX4 3, w ∈ wsX4_rest := by decide +kernel
set_option maxHeartbeats 4000000 in
set_option maxRecDepth 100000 in
/-- rest() -/
theorem c_Rd_rest {h ht hT hp Pk Pp nx a : Nat} {T : List Nat} {tk : Nat → List Nat} {F : Nat → List Int32} {wk w : va_W} (hk : jTok cI ht hT Pk T tk nx wk) (hw : jRd cI h ht hp Pp wk F (F 0) a w) (h1 : 0 < (F 1).length) : HM l yX4_rest wsX4_rest ({ frames := 140, cells := 4001 - Pp, slots := 128 * (4000 - Pp) + 32000, locals := 5400 } : Room) D G (jT cI cJ cB cZ) [.ref h] w (fun v u k n => v = some (.int (bI (rRest tk a F).1)) ∧ ∃ P2 : Nat, jRd cI h ht hp P2 wk (rRest tk a F).2.2 ((rRest tk a F).2.2 0) (rRest tk a F).2.1 u ∧ k + Pp ≤ P2 ∧ n + 128 * Pp ≤ 128 * P2) := by
  refine HM_of (cc := cX4_rest) (maxL := 2) (ret := (some .boolean)) (lv := [(0, .ref h)]) (by decide) rfl rfl (Nat.le_of_ble_eq_true rfl) (fun p e s m args below meth c A0 ls hx hb hr hts hown hlocks hml hnm hK hA hAm hl => ?_)
  have hLw := hw.len
  have hkb := hk.len
  refine jJ_of (fun H locs => lv_aload_n hx hb dX4_rest_0 rfl (lv_at hl 0 rfl)) ?_
  have hsv1 := hw
  obtain ⟨wp1, rfl, hp1, ha1⟩ := hsv1
  refine jJ_open (xs := [[(h, .inr (3, [.ref ht, .ref hp, .int (nI a)]))], wk, wp1]) (r := []) (cs2 := [[(h, .inr (3, [.ref ht, .ref hp, .int (nI a)]))], wk, wp1]) rfl ?_
  refine jJ_get hx hb (C := RX4) (T := TX4) (N := 3) hts uX4_in_X4_rest hown hK 0 rfl rfl 0 (by decide) (hts (.fieldLink RX4 7 "ValueBlocks$Reader" "tokens" "LValueBlocks$Tokens;") (by decide +kernel)) (fun _ h9 => h9) rfl dX4_rest_1 ?_
  refine jJ_of (fun H locs => lv_aload_n hx hb dX4_rest_4 rfl (lv_at hl 0 rfl)) ?_
  refine jJ_get hx hb (C := RX4) (T := TX4) (N := 3) hts uX4_in_X4_rest hown hK 0 rfl rfl 2 (by decide) (hts (.fieldLink RX4 17 "ValueBlocks$Reader" "at" "I") (by decide +kernel)) (fun _ h9 => h9) rfl dX4_rest_5 ?_
  refine jJ_callV (As := [.int (nI a)]) (rest := []) (wc := _) (cs2 := [[(h, .inr (3, [.ref ht, .ref hp, .int (nI a)]))], wp1]) (C := RX6) (T := TX6) (N := 5) (ci := 5) [1] [0, 2] ⟨hx, hb, hml, hown, hts⟩ hK hA hAm (c_Tok_kind hk a (by omega)) (cwV 1 hts gX4_rest_X6_kind rfl rfl rfl (by decide +kernel) ⟨Nat.le_of_ble_eq_true rfl, Nat.le_of_ble_eq_true rfl⟩) (nn := 3) rfl (by decide) rfl rfl hk.hd rfl rfl rfl hl.1 (Nat.le_of_ble_eq_true rfl) dX4_rest_8 (by show _ + 0 ≤ 4001 - Pp; omega) (by show _ + 0 ≤ 128 * (4000 - Pp) + 32000; omega) (fun v u2 k2 n2 hq2 => ?_)
  obtain ⟨rfl, hw2, rfl, rfl⟩ := hq2
  rw [hw2]
  refine jJ_eq (g2 := F0 m 11 ls [.int (nI ((tk 0).getD a 0))]) (cs2 := [wk, [(h, .inr (3, [.ref ht, .ref hp, .int (nI a)]))], wp1]) rfl rfl ?_
  have hvb2 := hkb.2.2.2.2.2.2.1 0 (by decide) a
  refine jJ_ofL (fun H locs => lv_istore_n (lv' := [(1, .int (nI ((tk 0).getD a 0))), (0, .ref h)]) hx hb dX4_rest_11 rfl hl (by decide) rfl) (fun ls hl => ?_)
  refine jJ_of (fun H locs => lv_iload_n hx hb dX4_rest_12 rfl (lv_at hl 0 rfl)) ?_
  obtain ⟨sw13, hsw13⟩ : ∃ z : Nat, z = (tk 0).getD a 0 := ⟨_, rfl⟩
  rw [← hsw13]
  have bsw13 : sw13 < 2147483648 := by rw [hsw13]; omega
  by_cases e13_35 : sw13 = 35
  · refine jJ_of (fun H locs => lv_lookup hx hb dX4_rest_13 (by decide) (off := 51) (tgt := 64) (by rw [e13_35]; decide) (by decide)) ?_
    refine jJ_of (fun H locs => lv_aload_n hx hb dX4_rest_64 rfl (lv_at hl 1 rfl)) ?_
    refine jJ_of (fun H locs => lv_dup hx hb dX4_rest_65 rfl) ?_
    refine jJ_get hx hb (C := RX4) (T := TX4) (N := 3) hts uX4_in_X4_rest hown hK 1 rfl rfl 2 (by decide) (hts (.fieldLink RX4 17 "ValueBlocks$Reader" "at" "I") (by decide +kernel)) (fun _ h9 => h9) rfl dX4_rest_66 ?_
    refine jJ_of (fun H locs => lv_iconst (v := (nI 1)) hx hb dX4_rest_69 (by decide)) ?_
    refine jJ_of (fun H locs => jn_iadd hx hb dX4_rest_70) ?_
    refine jJ_put hx hb (C := RX4) (T := TX4) (N := 3) (ty := .int) (v := .int (nI (a + 1))) hts uX4_in_X4_rest tyX4 tyX4_ok nmX4 hown hK 1 rfl rfl 2 (by decide) (hts (.fieldLink RX4 17 "ValueBlocks$Reader" "at" "I") (by decide +kernel)) (fun _ h9 => h9) rfl (by decide +kernel) rfl rfl (Nat.le_of_ble_eq_true rfl) dX4_rest_71 (cs2 := [wk, [(h, .inr (3, [.ref ht, .ref hp, .int (nI (a + 1))]))], wp1]) rfl ?_
    refine jJ_of (fun H locs => lv_aload_n hx hb dX4_rest_74 rfl (lv_at hl 1 rfl)) ?_
    refine jJ_of (fun H locs => lv_iconst (v := (nI 0)) hx hb dX4_rest_75 (by decide)) ?_
    refine jJ_perm [1, 0, 2] (nn := 3) rfl (by decide) (cs2 := [[(h, .inr (3, [.ref ht, .ref hp, .int (nI (a + 1))]))], wk, wp1]) rfl ?_
    have hat3 := hk.lt a (by omega)
    have hrw3 : jRd cI h ht hp Pp wk F (F 0) (a + 1) (jF [[(h, .inr (3, [.ref ht, .ref hp, .int (nI (a + 1))]))], wk, wp1]) := ⟨_, rfl, hp1, by omega⟩
    refine jJ_flat (cs2 := [jF [[(h, .inr (3, [.ref ht, .ref hp, .int (nI (a + 1))]))], wk, wp1]]) rfl ?_
    have hLr3 := hrw3.len
    refine jJ_callV (As := [.int (nI 0)]) (rest := []) (wc := _) (cs2 := []) (C := RX4) (T := TX4) (N := 3) (ci := 3) [0] [] ⟨hx, hb, hml, hown, hts⟩ hK hA hAm (w_Rd_place hk 20 0 rfl _ _ _ _ _ _ _ hrw3) (cwV 1 hts gX4_rest_X4_placePart rfl rfl rfl (by decide +kernel) ⟨by show (129) + 1 ≤ 140; omega, by show 8 + (2 + 11) + (5160) ≤ 5400; omega⟩) (nn := 1) rfl (by decide) rfl rfl hrw3.hd rfl rfl rfl hl.1 (Nat.le_of_ble_eq_true rfl) dX4_rest_76 (by show _ + (4001 - Pp) ≤ 4001 - Pp; omega) (by show _ + (128 * (4000 - Pp) + 32000) ≤ 128 * (4000 - Pp) + 32000; omega) (fun v u4 k4 n4 hq4 => ?_)
    try dsimp only at hq4
    obtain ⟨bb4, aa4, oo4, he4⟩ : ∃ (b : Bool) (x : Nat) (o : List Int32), rPl tk (rBra tk 20) (a + 1) (F 0) = (b, x, o) := ⟨(rPl tk (rBra tk 20) (a + 1) (F 0)).1, (rPl tk (rBra tk 20) (a + 1) (F 0)).2.1, (rPl tk (rBra tk 20) (a + 1) (F 0)).2.2, rfl⟩
    rw [he4] at hq4
    try dsimp only at hq4
    obtain ⟨rfl, PP4, hu4, hkk4, hnn4⟩ := hq4
    have hL4 := hu4.len
    refine jJ_eq (g2 := F0 m 79 ls [.int (bI bb4)]) (cs2 := [u4]) rfl rfl ?_
    refine jJ_of2 (fun H locs => jb_if_eq (tgt := 119) hx hb dX4_rest_79 (by decide)) (fun c79 => ?_) (fun c79 => ?_)
    · subst c79
      refine jJ_of (fun H locs => lv_iconst (v := (nI 0)) hx hb dX4_rest_119 (by decide)) ?_
      have he : rRest tk a F = (false, aa4, va_up F 0 oo4) := by unfold rRest; rw [if_pos (by omega)]; simp only [he4, rThen_t, rThen_f, rThenL_t, rThenL_f]
      exact jJ_zret hx hb hr hlocks dX4_rest_120 (by show _ ≤ 4001 - Pp; omega) (by show _ ≤ 128 * (4000 - Pp) + 32000; omega) (Or.inl rfl) ⟨by rw [he]; try rfl, PP4, by rw [he]; exact hu4.fill, by omega, by omega⟩
    · subst c79
      refine jJ_of (fun H locs => lv_aload_n hx hb dX4_rest_82 rfl (lv_at hl 1 rfl)) ?_
      refine jJ_of (fun H locs => lv_iconst (v := (nI 3)) hx hb dX4_rest_83 (by decide)) ?_
      refine jJ_callV (As := [.int (nI 3)]) (rest := []) (wc := _) (cs2 := []) (C := RX4) (T := TX4) (N := 3) (ci := 3) [0] [] ⟨hx, hb, hml, hown, hts⟩ hK hA hAm (c_Rd_write hk hu4 3 (by omega)) (cwV 1 hts gX4_rest_X4_write rfl rfl rfl (by decide +kernel) ⟨Nat.le_of_ble_eq_true rfl, Nat.le_of_ble_eq_true rfl⟩) (nn := 1) rfl (by decide) rfl rfl hu4.hd rfl rfl rfl hl.1 (Nat.le_of_ble_eq_true rfl) dX4_rest_84 (by show _ + (4001 - PP4) ≤ 4001 - Pp; omega) (by show _ + (128 * (4000 - PP4) + 32000) ≤ 128 * (4000 - Pp) + 32000; omega) (fun v u5 k5 n5 hq5 => ?_)
      try dsimp only at hq5
      obtain ⟨bb5, aa5, oo5, he5⟩ : ∃ (b : Bool) (x : Nat) (o : List Int32), rWr 3 aa4 oo4 = (b, x, o) := ⟨(rWr 3 aa4 oo4).1, (rWr 3 aa4 oo4).2.1, (rWr 3 aa4 oo4).2.2, rfl⟩
      rw [he5] at hq5
      try dsimp only at hq5
      obtain ⟨rfl, PP5, hu5, hkk5, hnn5⟩ := hq5
      have hL5 := hu5.len
      refine jJ_eq (g2 := F0 m 87 ls [.int (bI bb5)]) (cs2 := [u5]) rfl rfl ?_
      refine jJ_of2 (fun H locs => jb_if_eq (tgt := 119) hx hb dX4_rest_87 (by decide)) (fun c87 => ?_) (fun c87 => ?_)
      · subst c87
        refine jJ_of (fun H locs => lv_iconst (v := (nI 0)) hx hb dX4_rest_119 (by decide)) ?_
        have he : rRest tk a F = (false, aa5, va_up F 0 oo5) := by unfold rRest; rw [if_pos (by omega)]; simp only [he4, he5, rThen_t, rThen_f, rThenL_t, rThenL_f]
        exact jJ_zret hx hb hr hlocks dX4_rest_120 (by show _ ≤ 4001 - Pp; omega) (by show _ ≤ 128 * (4000 - Pp) + 32000; omega) (Or.inl rfl) ⟨by rw [he]; try rfl, PP5, by rw [he]; exact hu5.fill, by omega, by omega⟩
      · subst c87
        refine jJ_of (fun H locs => lv_aload_n hx hb dX4_rest_90 rfl (lv_at hl 1 rfl)) ?_
        refine jJ_of (fun H locs => lv_bipush (v := (nI 61)) hx hb dX4_rest_91 (by decide)) ?_
        refine jJ_callV (As := [.int (nI 61)]) (rest := []) (wc := _) (cs2 := []) (C := RX4) (T := TX4) (N := 3) (ci := 3) [0] [] ⟨hx, hb, hml, hown, hts⟩ hK hA hAm (c_Rd_take hk hu5 61 (by omega) (by omega)) (cwV 1 hts gX4_rest_X4_take rfl rfl rfl (by decide +kernel) ⟨Nat.le_of_ble_eq_true rfl, Nat.le_of_ble_eq_true rfl⟩) (nn := 1) rfl (by decide) rfl rfl hu5.hd rfl rfl rfl hl.1 (Nat.le_of_ble_eq_true rfl) dX4_rest_93 (by show _ + (4001 - PP5) ≤ 4001 - Pp; omega) (by show _ + (128 * (4000 - PP5) + 32000) ≤ 128 * (4000 - Pp) + 32000; omega) (fun v u6 k6 n6 hq6 => ?_)
        obtain ⟨bb6, aa6, he6⟩ := rTake_form tk 61 aa5 oo5
        rw [he6] at hq6
        try dsimp only at hq6
        obtain ⟨rfl, PP6, hu6, hkk6, hnn6⟩ := hq6
        have hL6 := hu6.len
        refine jJ_eq (g2 := F0 m 96 ls [.int (bI bb6)]) (cs2 := [u6]) rfl rfl ?_
        refine jJ_of2 (fun H locs => jb_if_eq (tgt := 119) hx hb dX4_rest_96 (by decide)) (fun c96 => ?_) (fun c96 => ?_)
        · subst c96
          refine jJ_of (fun H locs => lv_iconst (v := (nI 0)) hx hb dX4_rest_119 (by decide)) ?_
          have he : rRest tk a F = (false, aa6, va_up F 0 oo5) := by unfold rRest; rw [if_pos (by omega)]; simp only [he4, he5, he6, rThen_t, rThen_f, rThenL_t, rThenL_f]
          exact jJ_zret hx hb hr hlocks dX4_rest_120 (by show _ ≤ 4001 - Pp; omega) (by show _ ≤ 128 * (4000 - Pp) + 32000; omega) (Or.inl rfl) ⟨by rw [he]; try rfl, PP6, by rw [he]; exact hu6.fill, by omega, by omega⟩
        · subst c96
          refine jJ_of (fun H locs => lv_aload_n hx hb dX4_rest_99 rfl (lv_at hl 1 rfl)) ?_
          refine jJ_of (fun H locs => lv_iconst (v := (nI 0)) hx hb dX4_rest_100 (by decide)) ?_
          refine jJ_callV (As := [.int (nI 0)]) (rest := []) (wc := _) (cs2 := []) (C := RX4) (T := TX4) (N := 3) (ci := 3) [0] [] ⟨hx, hb, hml, hown, hts⟩ hK hA hAm (w_Rd_sum hk 20 0 rfl _ _ _ _ _ _ _ hu6) (cwV 1 hts gX4_rest_X4_sum rfl rfl rfl (by decide +kernel) ⟨by show (132) + 1 ≤ 140; omega, by show 8 + (5 + 11) + (5280) ≤ 5400; omega⟩) (nn := 1) rfl (by decide) rfl rfl hu6.hd rfl rfl rfl hl.1 (Nat.le_of_ble_eq_true rfl) dX4_rest_101 (by show _ + (4001 - PP6) ≤ 4001 - Pp; omega) (by show _ + (128 * (4000 - PP6) + 32000) ≤ 128 * (4000 - Pp) + 32000; omega) (fun v u7 k7 n7 hq7 => ?_)
          try dsimp only at hq7
          obtain ⟨bb7, aa7, oo7, he7⟩ : ∃ (b : Bool) (x : Nat) (o : List Int32), rSum tk 20 aa6 oo5 = (b, x, o) := ⟨(rSum tk 20 aa6 oo5).1, (rSum tk 20 aa6 oo5).2.1, (rSum tk 20 aa6 oo5).2.2, rfl⟩
          rw [he7] at hq7
          try dsimp only at hq7
          obtain ⟨rfl, PP7, hu7, hkk7, hnn7⟩ := hq7
          have hL7 := hu7.len
          refine jJ_eq (g2 := F0 m 104 ls [.int (bI bb7)]) (cs2 := [u7]) rfl rfl ?_
          refine jJ_of2 (fun H locs => jb_if_eq (tgt := 119) hx hb dX4_rest_104 (by decide)) (fun c104 => ?_) (fun c104 => ?_)
          · subst c104
            refine jJ_of (fun H locs => lv_iconst (v := (nI 0)) hx hb dX4_rest_119 (by decide)) ?_
            have he : rRest tk a F = (false, aa7, va_up F 0 oo7) := by unfold rRest; rw [if_pos (by omega)]; simp only [he4, he5, he6, he7, rThen_t, rThen_f, rThenL_t, rThenL_f]
            exact jJ_zret hx hb hr hlocks dX4_rest_120 (by show _ ≤ 4001 - Pp; omega) (by show _ ≤ 128 * (4000 - Pp) + 32000; omega) (Or.inl rfl) ⟨by rw [he]; try rfl, PP7, by rw [he]; exact hu7.fill, by omega, by omega⟩
          · subst c104
            refine jJ_of (fun H locs => lv_aload_n hx hb dX4_rest_107 rfl (lv_at hl 1 rfl)) ?_
            refine jJ_of (fun H locs => lv_iconst (v := (nI 4)) hx hb dX4_rest_108 (by decide)) ?_
            refine jJ_callV (As := [.int (nI 4)]) (rest := []) (wc := _) (cs2 := []) (C := RX4) (T := TX4) (N := 3) (ci := 3) [0] [] ⟨hx, hb, hml, hown, hts⟩ hK hA hAm (c_Rd_write hk hu7 4 (by omega)) (cwV 1 hts gX4_rest_X4_write rfl rfl rfl (by decide +kernel) ⟨Nat.le_of_ble_eq_true rfl, Nat.le_of_ble_eq_true rfl⟩) (nn := 1) rfl (by decide) rfl rfl hu7.hd rfl rfl rfl hl.1 (Nat.le_of_ble_eq_true rfl) dX4_rest_109 (by show _ + (4001 - PP7) ≤ 4001 - Pp; omega) (by show _ + (128 * (4000 - PP7) + 32000) ≤ 128 * (4000 - Pp) + 32000; omega) (fun v u8 k8 n8 hq8 => ?_)
            try dsimp only at hq8
            obtain ⟨bb8, aa8, oo8, he8⟩ : ∃ (b : Bool) (x : Nat) (o : List Int32), rWr 4 aa7 oo7 = (b, x, o) := ⟨(rWr 4 aa7 oo7).1, (rWr 4 aa7 oo7).2.1, (rWr 4 aa7 oo7).2.2, rfl⟩
            rw [he8] at hq8
            try dsimp only at hq8
            obtain ⟨rfl, PP8, hu8, hkk8, hnn8⟩ := hq8
            have hL8 := hu8.len
            refine jJ_eq (g2 := F0 m 112 ls [.int (bI bb8)]) (cs2 := [u8]) rfl rfl ?_
            refine jJ_of2 (fun H locs => jb_if_eq (tgt := 119) hx hb dX4_rest_112 (by decide)) (fun c112 => ?_) (fun c112 => ?_)
            · subst c112
              refine jJ_of (fun H locs => lv_iconst (v := (nI 0)) hx hb dX4_rest_119 (by decide)) ?_
              have he : rRest tk a F = (false, aa8, va_up F 0 oo8) := by unfold rRest; rw [if_pos (by omega)]; simp only [he4, he5, he6, he7, he8, rThen_t, rThen_f, rThenL_t, rThenL_f]
              exact jJ_zret hx hb hr hlocks dX4_rest_120 (by show _ ≤ 4001 - Pp; omega) (by show _ ≤ 128 * (4000 - Pp) + 32000; omega) (Or.inl rfl) ⟨by rw [he]; try rfl, PP8, by rw [he]; exact hu8.fill, by omega, by omega⟩
            · subst c112
              refine jJ_of (fun H locs => lv_iconst (v := (nI 1)) hx hb dX4_rest_115 (by decide)) ?_
              refine jJ_of (fun H locs => lv_goto (tgt := 120) hx hb dX4_rest_116 (by decide)) ?_
              have he : rRest tk a F = (true, aa8, va_up F 0 oo8) := by unfold rRest; rw [if_pos (by omega)]; simp only [he4, he5, he6, he7, he8, rThen_t, rThen_f, rThenL_t, rThenL_f]
              exact jJ_zret hx hb hr hlocks dX4_rest_120 (by show _ ≤ 4001 - Pp; omega) (by show _ ≤ 128 * (4000 - Pp) + 32000; omega) (Or.inr rfl) ⟨by rw [he]; try rfl, PP8, by rw [he]; exact hu8.fill, by omega, by omega⟩
  by_cases e13_300 : sw13 = 300
  · refine jJ_of (fun H locs => lv_lookup hx hb dX4_rest_13 (by decide) (off := 108) (tgt := 121) (by rw [e13_300]; decide) (by decide)) ?_
    refine jJ_of (fun H locs => lv_aload_n hx hb dX4_rest_121 rfl (lv_at hl 1 rfl)) ?_
    refine jJ_of (fun H locs => lv_dup hx hb dX4_rest_122 rfl) ?_
    refine jJ_get hx hb (C := RX4) (T := TX4) (N := 3) hts uX4_in_X4_rest hown hK 1 rfl rfl 2 (by decide) (hts (.fieldLink RX4 17 "ValueBlocks$Reader" "at" "I") (by decide +kernel)) (fun _ h9 => h9) rfl dX4_rest_123 ?_
    refine jJ_of (fun H locs => lv_iconst (v := (nI 1)) hx hb dX4_rest_126 (by decide)) ?_
    refine jJ_of (fun H locs => jn_iadd hx hb dX4_rest_127) ?_
    refine jJ_put hx hb (C := RX4) (T := TX4) (N := 3) (ty := .int) (v := .int (nI (a + 1))) hts uX4_in_X4_rest tyX4 tyX4_ok nmX4 hown hK 1 rfl rfl 2 (by decide) (hts (.fieldLink RX4 17 "ValueBlocks$Reader" "at" "I") (by decide +kernel)) (fun _ h9 => h9) rfl (by decide +kernel) rfl rfl (Nat.le_of_ble_eq_true rfl) dX4_rest_128 (cs2 := [wk, [(h, .inr (3, [.ref ht, .ref hp, .int (nI (a + 1))]))], wp1]) rfl ?_
    refine jJ_of (fun H locs => lv_aload_n hx hb dX4_rest_131 rfl (lv_at hl 1 rfl)) ?_
    refine jJ_of (fun H locs => lv_iconst (v := (nI 0)) hx hb dX4_rest_132 (by decide)) ?_
    refine jJ_perm [1, 0, 2] (nn := 3) rfl (by decide) (cs2 := [[(h, .inr (3, [.ref ht, .ref hp, .int (nI (a + 1))]))], wk, wp1]) rfl ?_
    have hat9 := hk.lt a (by omega)
    have hrw9 : jRd cI h ht hp Pp wk F (F 0) (a + 1) (jF [[(h, .inr (3, [.ref ht, .ref hp, .int (nI (a + 1))]))], wk, wp1]) := ⟨_, rfl, hp1, by omega⟩
    refine jJ_flat (cs2 := [jF [[(h, .inr (3, [.ref ht, .ref hp, .int (nI (a + 1))]))], wk, wp1]]) rfl ?_
    have hLr9 := hrw9.len
    refine jJ_callV (As := [.int (nI 0)]) (rest := []) (wc := _) (cs2 := []) (C := RX4) (T := TX4) (N := 3) (ci := 3) [0] [] ⟨hx, hb, hml, hown, hts⟩ hK hA hAm ((w_Rd_factor hk 20 0 rfl).2 _ _ _ _ _ _ _ hrw9) (cwV 1 hts gX4_rest_X4_bracket rfl rfl rfl (by decide +kernel) ⟨by show (128) + 1 ≤ 140; omega, by show 8 + (2 + 11) + (5120) ≤ 5400; omega⟩) (nn := 1) rfl (by decide) rfl rfl hrw9.hd rfl rfl rfl hl.1 (Nat.le_of_ble_eq_true rfl) dX4_rest_133 (by show _ + (4001 - Pp) ≤ 4001 - Pp; omega) (by show _ + (128 * (4000 - Pp) + 32000) ≤ 128 * (4000 - Pp) + 32000; omega) (fun v u10 k10 n10 hq10 => ?_)
    try dsimp only at hq10
    obtain ⟨bb10, aa10, oo10, he10⟩ : ∃ (b : Bool) (x : Nat) (o : List Int32), rBra tk 20 (a + 1) (F 0) = (b, x, o) := ⟨(rBra tk 20 (a + 1) (F 0)).1, (rBra tk 20 (a + 1) (F 0)).2.1, (rBra tk 20 (a + 1) (F 0)).2.2, rfl⟩
    rw [he10] at hq10
    try dsimp only at hq10
    obtain ⟨rfl, PP10, hu10, hkk10, hnn10⟩ := hq10
    have hL10 := hu10.len
    refine jJ_eq (g2 := F0 m 136 ls [.int (bI bb10)]) (cs2 := [u10]) rfl rfl ?_
    refine jJ_of2 (fun H locs => jb_if_eq (tgt := 161) hx hb dX4_rest_136 (by decide)) (fun c136 => ?_) (fun c136 => ?_)
    · subst c136
      refine jJ_of (fun H locs => lv_iconst (v := (nI 0)) hx hb dX4_rest_161 (by decide)) ?_
      have he : rRest tk a F = (false, aa10, va_up F 0 oo10) := by unfold rRest; rw [if_neg (by omega), if_pos (by omega)]; simp only [he10, rThen_t, rThen_f, rThenL_t, rThenL_f]
      exact jJ_zret hx hb hr hlocks dX4_rest_162 (by show _ ≤ 4001 - Pp; omega) (by show _ ≤ 128 * (4000 - Pp) + 32000; omega) (Or.inl rfl) ⟨by rw [he]; try rfl, PP10, by rw [he]; exact hu10.fill, by omega, by omega⟩
    · subst c136
      refine jJ_of (fun H locs => lv_aload_n hx hb dX4_rest_139 rfl (lv_at hl 1 rfl)) ?_
      refine jJ_of (fun H locs => lv_sipush (v := (nI 301)) hx hb dX4_rest_140 (by decide)) ?_
      refine jJ_callV (As := [.int (nI 301)]) (rest := []) (wc := _) (cs2 := []) (C := RX4) (T := TX4) (N := 3) (ci := 3) [0] [] ⟨hx, hb, hml, hown, hts⟩ hK hA hAm (c_Rd_take hk hu10 301 (by omega) (by omega)) (cwV 1 hts gX4_rest_X4_take rfl rfl rfl (by decide +kernel) ⟨Nat.le_of_ble_eq_true rfl, Nat.le_of_ble_eq_true rfl⟩) (nn := 1) rfl (by decide) rfl rfl hu10.hd rfl rfl rfl hl.1 (Nat.le_of_ble_eq_true rfl) dX4_rest_143 (by show _ + (4001 - PP10) ≤ 4001 - Pp; omega) (by show _ + (128 * (4000 - PP10) + 32000) ≤ 128 * (4000 - Pp) + 32000; omega) (fun v u11 k11 n11 hq11 => ?_)
      obtain ⟨bb11, aa11, he11⟩ := rTake_form tk 301 aa10 oo10
      rw [he11] at hq11
      try dsimp only at hq11
      obtain ⟨rfl, PP11, hu11, hkk11, hnn11⟩ := hq11
      have hL11 := hu11.len
      refine jJ_eq (g2 := F0 m 146 ls [.int (bI bb11)]) (cs2 := [u11]) rfl rfl ?_
      refine jJ_of2 (fun H locs => jb_if_eq (tgt := 161) hx hb dX4_rest_146 (by decide)) (fun c146 => ?_) (fun c146 => ?_)
      · subst c146
        refine jJ_of (fun H locs => lv_iconst (v := (nI 0)) hx hb dX4_rest_161 (by decide)) ?_
        have he : rRest tk a F = (false, aa11, va_up F 0 oo10) := by unfold rRest; rw [if_neg (by omega), if_pos (by omega)]; simp only [he10, he11, rThen_t, rThen_f, rThenL_t, rThenL_f]
        exact jJ_zret hx hb hr hlocks dX4_rest_162 (by show _ ≤ 4001 - Pp; omega) (by show _ ≤ 128 * (4000 - Pp) + 32000; omega) (Or.inl rfl) ⟨by rw [he]; try rfl, PP11, by rw [he]; exact hu11.fill, by omega, by omega⟩
      · subst c146
        have hw9 : (tk 0).getD a 0 = 300 := by omega
        rw [hw9] at hl
        refine jJ_of (fun H locs => lv_aload_n hx hb dX4_rest_149 rfl (lv_at hl 1 rfl)) ?_
        refine jJ_of (fun H locs => lv_iload_n hx hb dX4_rest_150 rfl (lv_at hl 0 rfl)) ?_
        refine jJ_callV (As := [.int (nI 300)]) (rest := []) (wc := _) (cs2 := []) (C := RX4) (T := TX4) (N := 3) (ci := 3) [0] [] ⟨hx, hb, hml, hown, hts⟩ hK hA hAm (c_Rd_numberOf hk hu11.fill 300 h1) (cwV 1 hts gX4_rest_X4_numberOf rfl rfl rfl (by decide +kernel) ⟨Nat.le_of_ble_eq_true rfl, Nat.le_of_ble_eq_true rfl⟩) (nn := 1) rfl (by decide) rfl rfl hu11.fill.hd rfl rfl rfl hl.1 (Nat.le_of_ble_eq_true rfl) dX4_rest_151 (by show _ + (4001 - PP11) ≤ 4001 - Pp; omega) (by show _ + (128 * (4000 - PP11) + 32000) ≤ 128 * (4000 - Pp) + 32000; omega) (fun v u12 k12 n12 hq12 => ?_)
        try dsimp only at hq12
        obtain ⟨bb12, aa12, FF12, he12⟩ : ∃ (b : Bool) (x : Nat) (o : Nat → List Int32), rNum tk 300 aa11 (va_up F 0 oo10) = (b, x, o) := ⟨(rNum tk 300 aa11 (va_up F 0 oo10)).1, (rNum tk 300 aa11 (va_up F 0 oo10)).2.1, (rNum tk 300 aa11 (va_up F 0 oo10)).2.2, rfl⟩
        rw [he12] at hq12
        try dsimp only at hq12
        obtain ⟨rfl, PP12, hu12, hkk12, hnn12⟩ := hq12
        have hL12 := hu12.len
        refine jJ_eq (g2 := F0 m 154 ls [.int (bI bb12)]) (cs2 := [u12]) rfl rfl ?_
        refine jJ_of2 (fun H locs => jb_if_eq (tgt := 161) hx hb dX4_rest_154 (by decide)) (fun c154 => ?_) (fun c154 => ?_)
        · subst c154
          refine jJ_of (fun H locs => lv_iconst (v := (nI 0)) hx hb dX4_rest_161 (by decide)) ?_
          have he : rRest tk a F = (false, aa12, FF12) := by unfold rRest; rw [if_neg (by omega), if_pos (by omega)]; simp only [he10, he11, he12, rThen_t, rThen_f, rThenL_t, rThenL_f]
          exact jJ_zret hx hb hr hlocks dX4_rest_162 (by show _ ≤ 4001 - Pp; omega) (by show _ ≤ 128 * (4000 - Pp) + 32000; omega) (Or.inl rfl) ⟨by rw [he]; try rfl, PP12, by rw [he]; exact hu12, by omega, by omega⟩
        · subst c154
          refine jJ_of (fun H locs => lv_iconst (v := (nI 1)) hx hb dX4_rest_157 (by decide)) ?_
          refine jJ_of (fun H locs => lv_goto (tgt := 162) hx hb dX4_rest_158 (by decide)) ?_
          have he : rRest tk a F = (true, aa12, FF12) := by unfold rRest; rw [if_neg (by omega), if_pos (by omega)]; simp only [he10, he11, he12, rThen_t, rThen_f, rThenL_t, rThenL_f]
          exact jJ_zret hx hb hr hlocks dX4_rest_162 (by show _ ≤ 4001 - Pp; omega) (by show _ ≤ 128 * (4000 - Pp) + 32000; omega) (Or.inr rfl) ⟨by rw [he]; try rfl, PP12, by rw [he]; exact hu12, by omega, by omega⟩
  by_cases e13_301 : sw13 = 301
  · refine jJ_of (fun H locs => lv_lookup hx hb dX4_rest_13 (by decide) (off := 192) (tgt := 205) (by rw [e13_301]; decide) (by decide)) ?_
    refine jJ_of (fun H locs => lv_aload_n hx hb dX4_rest_205 rfl (lv_at hl 1 rfl)) ?_
    refine jJ_of (fun H locs => lv_dup hx hb dX4_rest_206 rfl) ?_
    refine jJ_get hx hb (C := RX4) (T := TX4) (N := 3) hts uX4_in_X4_rest hown hK 1 rfl rfl 2 (by decide) (hts (.fieldLink RX4 17 "ValueBlocks$Reader" "at" "I") (by decide +kernel)) (fun _ h9 => h9) rfl dX4_rest_207 ?_
    refine jJ_of (fun H locs => lv_iconst (v := (nI 1)) hx hb dX4_rest_210 (by decide)) ?_
    refine jJ_of (fun H locs => jn_iadd hx hb dX4_rest_211) ?_
    refine jJ_put hx hb (C := RX4) (T := TX4) (N := 3) (ty := .int) (v := .int (nI (a + 1))) hts uX4_in_X4_rest tyX4 tyX4_ok nmX4 hown hK 1 rfl rfl 2 (by decide) (hts (.fieldLink RX4 17 "ValueBlocks$Reader" "at" "I") (by decide +kernel)) (fun _ h9 => h9) rfl (by decide +kernel) rfl rfl (Nat.le_of_ble_eq_true rfl) dX4_rest_212 (cs2 := [wk, [(h, .inr (3, [.ref ht, .ref hp, .int (nI (a + 1))]))], wp1]) rfl ?_
    refine jJ_of (fun H locs => lv_aload_n hx hb dX4_rest_215 rfl (lv_at hl 1 rfl)) ?_
    refine jJ_of (fun H locs => lv_iload_n hx hb dX4_rest_216 rfl (lv_at hl 0 rfl)) ?_
    refine jJ_perm [1, 0, 2] (nn := 3) rfl (by decide) (cs2 := [[(h, .inr (3, [.ref ht, .ref hp, .int (nI (a + 1))]))], wk, wp1]) rfl ?_
    have hat13 := hk.lt a (by omega)
    have hrw13 : jRd cI h ht hp Pp wk F (F 0) (a + 1) (jF [[(h, .inr (3, [.ref ht, .ref hp, .int (nI (a + 1))]))], wk, wp1]) := ⟨_, rfl, hp1, by omega⟩
    refine jJ_flat (cs2 := [jF [[(h, .inr (3, [.ref ht, .ref hp, .int (nI (a + 1))]))], wk, wp1]]) rfl ?_
    have hLr13 := hrw13.len
    refine jJ_callV (As := [.int (nI ((tk 0).getD a 0))]) (rest := []) (wc := _) (cs2 := []) (C := RX4) (T := TX4) (N := 3) (ci := 3) [0] [] ⟨hx, hb, hml, hown, hts⟩ hK hA hAm (c_Rd_numberOf hk hrw13 ((tk 0).getD a 0) h1) (cwV 1 hts gX4_rest_X4_numberOf rfl rfl rfl (by decide +kernel) ⟨Nat.le_of_ble_eq_true rfl, Nat.le_of_ble_eq_true rfl⟩) (nn := 1) rfl (by decide) rfl rfl hrw13.hd rfl rfl rfl hl.1 (Nat.le_of_ble_eq_true rfl) dX4_rest_217 (by show _ + (4001 - Pp) ≤ 4001 - Pp; omega) (by show _ + (128 * (4000 - Pp) + 32000) ≤ 128 * (4000 - Pp) + 32000; omega) (fun v u14 k14 n14 hq14 => ?_)
    try dsimp only at hq14
    obtain ⟨bb14, aa14, FF14, he14⟩ : ∃ (b : Bool) (x : Nat) (o : Nat → List Int32), rNum tk ((tk 0).getD a 0) (a + 1) F = (b, x, o) := ⟨(rNum tk ((tk 0).getD a 0) (a + 1) F).1, (rNum tk ((tk 0).getD a 0) (a + 1) F).2.1, (rNum tk ((tk 0).getD a 0) (a + 1) F).2.2, rfl⟩
    rw [he14] at hq14
    try dsimp only at hq14
    obtain ⟨rfl, PP14, hu14, hkk14, hnn14⟩ := hq14
    have hL14 := hu14.len
    refine jJ_eq (g2 := F0 m 220 ls [.int (bI bb14)]) (cs2 := [u14]) rfl rfl ?_
    have he : rRest tk a F = (bb14, aa14, FF14) := by unfold rRest; rw [if_neg (by omega), if_neg (by omega), if_neg (by omega), if_pos (by omega)]; exact he14
    exact jJ_zret hx hb hr hlocks dX4_rest_220 (by show _ ≤ 4001 - Pp; omega) (by show _ ≤ 128 * (4000 - Pp) + 32000; omega) (bI_01 _) ⟨by rw [he]; try rfl, PP14, by rw [he]; exact hu14, by omega, by omega⟩
  by_cases e13_302 : sw13 = 302
  · refine jJ_of (fun H locs => lv_lookup hx hb dX4_rest_13 (by decide) (off := 150) (tgt := 163) (by rw [e13_302]; decide) (by decide)) ?_
    refine jJ_of (fun H locs => lv_aload_n hx hb dX4_rest_163 rfl (lv_at hl 1 rfl)) ?_
    refine jJ_of (fun H locs => lv_dup hx hb dX4_rest_164 rfl) ?_
    refine jJ_get hx hb (C := RX4) (T := TX4) (N := 3) hts uX4_in_X4_rest hown hK 1 rfl rfl 2 (by decide) (hts (.fieldLink RX4 17 "ValueBlocks$Reader" "at" "I") (by decide +kernel)) (fun _ h9 => h9) rfl dX4_rest_165 ?_
    refine jJ_of (fun H locs => lv_iconst (v := (nI 1)) hx hb dX4_rest_168 (by decide)) ?_
    refine jJ_of (fun H locs => jn_iadd hx hb dX4_rest_169) ?_
    refine jJ_put hx hb (C := RX4) (T := TX4) (N := 3) (ty := .int) (v := .int (nI (a + 1))) hts uX4_in_X4_rest tyX4 tyX4_ok nmX4 hown hK 1 rfl rfl 2 (by decide) (hts (.fieldLink RX4 17 "ValueBlocks$Reader" "at" "I") (by decide +kernel)) (fun _ h9 => h9) rfl (by decide +kernel) rfl rfl (Nat.le_of_ble_eq_true rfl) dX4_rest_170 (cs2 := [wk, [(h, .inr (3, [.ref ht, .ref hp, .int (nI (a + 1))]))], wp1]) rfl ?_
    refine jJ_of (fun H locs => lv_aload_n hx hb dX4_rest_173 rfl (lv_at hl 1 rfl)) ?_
    refine jJ_of (fun H locs => lv_iconst (v := (nI 0)) hx hb dX4_rest_174 (by decide)) ?_
    refine jJ_perm [1, 0, 2] (nn := 3) rfl (by decide) (cs2 := [[(h, .inr (3, [.ref ht, .ref hp, .int (nI (a + 1))]))], wk, wp1]) rfl ?_
    have hat15 := hk.lt a (by omega)
    have hrw15 : jRd cI h ht hp Pp wk F (F 0) (a + 1) (jF [[(h, .inr (3, [.ref ht, .ref hp, .int (nI (a + 1))]))], wk, wp1]) := ⟨_, rfl, hp1, by omega⟩
    refine jJ_flat (cs2 := [jF [[(h, .inr (3, [.ref ht, .ref hp, .int (nI (a + 1))]))], wk, wp1]]) rfl ?_
    have hLr15 := hrw15.len
    refine jJ_callV (As := [.int (nI 0)]) (rest := []) (wc := _) (cs2 := []) (C := RX4) (T := TX4) (N := 3) (ci := 3) [0] [] ⟨hx, hb, hml, hown, hts⟩ hK hA hAm ((w_Rd_factor hk 20 0 rfl).2 _ _ _ _ _ _ _ hrw15) (cwV 1 hts gX4_rest_X4_bracket rfl rfl rfl (by decide +kernel) ⟨by show (128) + 1 ≤ 140; omega, by show 8 + (2 + 11) + (5120) ≤ 5400; omega⟩) (nn := 1) rfl (by decide) rfl rfl hrw15.hd rfl rfl rfl hl.1 (Nat.le_of_ble_eq_true rfl) dX4_rest_175 (by show _ + (4001 - Pp) ≤ 4001 - Pp; omega) (by show _ + (128 * (4000 - Pp) + 32000) ≤ 128 * (4000 - Pp) + 32000; omega) (fun v u16 k16 n16 hq16 => ?_)
    try dsimp only at hq16
    obtain ⟨bb16, aa16, oo16, he16⟩ : ∃ (b : Bool) (x : Nat) (o : List Int32), rBra tk 20 (a + 1) (F 0) = (b, x, o) := ⟨(rBra tk 20 (a + 1) (F 0)).1, (rBra tk 20 (a + 1) (F 0)).2.1, (rBra tk 20 (a + 1) (F 0)).2.2, rfl⟩
    rw [he16] at hq16
    try dsimp only at hq16
    obtain ⟨rfl, PP16, hu16, hkk16, hnn16⟩ := hq16
    have hL16 := hu16.len
    refine jJ_eq (g2 := F0 m 178 ls [.int (bI bb16)]) (cs2 := [u16]) rfl rfl ?_
    refine jJ_of2 (fun H locs => jb_if_eq (tgt := 203) hx hb dX4_rest_178 (by decide)) (fun c178 => ?_) (fun c178 => ?_)
    · subst c178
      refine jJ_of (fun H locs => lv_iconst (v := (nI 0)) hx hb dX4_rest_203 (by decide)) ?_
      have he : rRest tk a F = (false, aa16, va_up F 0 oo16) := by unfold rRest; rw [if_neg (by omega), if_neg (by omega), if_pos (by omega)]; simp only [he16, rThen_t, rThen_f, rThenL_t, rThenL_f]
      exact jJ_zret hx hb hr hlocks dX4_rest_204 (by show _ ≤ 4001 - Pp; omega) (by show _ ≤ 128 * (4000 - Pp) + 32000; omega) (Or.inl rfl) ⟨by rw [he]; try rfl, PP16, by rw [he]; exact hu16.fill, by omega, by omega⟩
    · subst c178
      refine jJ_of (fun H locs => lv_aload_n hx hb dX4_rest_181 rfl (lv_at hl 1 rfl)) ?_
      refine jJ_of (fun H locs => lv_sipush (v := (nI 303)) hx hb dX4_rest_182 (by decide)) ?_
      refine jJ_callV (As := [.int (nI 303)]) (rest := []) (wc := _) (cs2 := []) (C := RX4) (T := TX4) (N := 3) (ci := 3) [0] [] ⟨hx, hb, hml, hown, hts⟩ hK hA hAm (c_Rd_take hk hu16 303 (by omega) (by omega)) (cwV 1 hts gX4_rest_X4_take rfl rfl rfl (by decide +kernel) ⟨Nat.le_of_ble_eq_true rfl, Nat.le_of_ble_eq_true rfl⟩) (nn := 1) rfl (by decide) rfl rfl hu16.hd rfl rfl rfl hl.1 (Nat.le_of_ble_eq_true rfl) dX4_rest_185 (by show _ + (4001 - PP16) ≤ 4001 - Pp; omega) (by show _ + (128 * (4000 - PP16) + 32000) ≤ 128 * (4000 - Pp) + 32000; omega) (fun v u17 k17 n17 hq17 => ?_)
      obtain ⟨bb17, aa17, he17⟩ := rTake_form tk 303 aa16 oo16
      rw [he17] at hq17
      try dsimp only at hq17
      obtain ⟨rfl, PP17, hu17, hkk17, hnn17⟩ := hq17
      have hL17 := hu17.len
      refine jJ_eq (g2 := F0 m 188 ls [.int (bI bb17)]) (cs2 := [u17]) rfl rfl ?_
      refine jJ_of2 (fun H locs => jb_if_eq (tgt := 203) hx hb dX4_rest_188 (by decide)) (fun c188 => ?_) (fun c188 => ?_)
      · subst c188
        refine jJ_of (fun H locs => lv_iconst (v := (nI 0)) hx hb dX4_rest_203 (by decide)) ?_
        have he : rRest tk a F = (false, aa17, va_up F 0 oo16) := by unfold rRest; rw [if_neg (by omega), if_neg (by omega), if_pos (by omega)]; simp only [he16, he17, rThen_t, rThen_f, rThenL_t, rThenL_f]
        exact jJ_zret hx hb hr hlocks dX4_rest_204 (by show _ ≤ 4001 - Pp; omega) (by show _ ≤ 128 * (4000 - Pp) + 32000; omega) (Or.inl rfl) ⟨by rw [he]; try rfl, PP17, by rw [he]; exact hu17.fill, by omega, by omega⟩
      · subst c188
        have hw9 : (tk 0).getD a 0 = 302 := by omega
        rw [hw9] at hl
        refine jJ_of (fun H locs => lv_aload_n hx hb dX4_rest_191 rfl (lv_at hl 1 rfl)) ?_
        refine jJ_of (fun H locs => lv_iload_n hx hb dX4_rest_192 rfl (lv_at hl 0 rfl)) ?_
        refine jJ_callV (As := [.int (nI 302)]) (rest := []) (wc := _) (cs2 := []) (C := RX4) (T := TX4) (N := 3) (ci := 3) [0] [] ⟨hx, hb, hml, hown, hts⟩ hK hA hAm (c_Rd_numberOf hk hu17.fill 302 h1) (cwV 1 hts gX4_rest_X4_numberOf rfl rfl rfl (by decide +kernel) ⟨Nat.le_of_ble_eq_true rfl, Nat.le_of_ble_eq_true rfl⟩) (nn := 1) rfl (by decide) rfl rfl hu17.fill.hd rfl rfl rfl hl.1 (Nat.le_of_ble_eq_true rfl) dX4_rest_193 (by show _ + (4001 - PP17) ≤ 4001 - Pp; omega) (by show _ + (128 * (4000 - PP17) + 32000) ≤ 128 * (4000 - Pp) + 32000; omega) (fun v u18 k18 n18 hq18 => ?_)
        try dsimp only at hq18
        obtain ⟨bb18, aa18, FF18, he18⟩ : ∃ (b : Bool) (x : Nat) (o : Nat → List Int32), rNum tk 302 aa17 (va_up F 0 oo16) = (b, x, o) := ⟨(rNum tk 302 aa17 (va_up F 0 oo16)).1, (rNum tk 302 aa17 (va_up F 0 oo16)).2.1, (rNum tk 302 aa17 (va_up F 0 oo16)).2.2, rfl⟩
        rw [he18] at hq18
        try dsimp only at hq18
        obtain ⟨rfl, PP18, hu18, hkk18, hnn18⟩ := hq18
        have hL18 := hu18.len
        refine jJ_eq (g2 := F0 m 196 ls [.int (bI bb18)]) (cs2 := [u18]) rfl rfl ?_
        refine jJ_of2 (fun H locs => jb_if_eq (tgt := 203) hx hb dX4_rest_196 (by decide)) (fun c196 => ?_) (fun c196 => ?_)
        · subst c196
          refine jJ_of (fun H locs => lv_iconst (v := (nI 0)) hx hb dX4_rest_203 (by decide)) ?_
          have he : rRest tk a F = (false, aa18, FF18) := by unfold rRest; rw [if_neg (by omega), if_neg (by omega), if_pos (by omega)]; simp only [he16, he17, he18, rThen_t, rThen_f, rThenL_t, rThenL_f]
          exact jJ_zret hx hb hr hlocks dX4_rest_204 (by show _ ≤ 4001 - Pp; omega) (by show _ ≤ 128 * (4000 - Pp) + 32000; omega) (Or.inl rfl) ⟨by rw [he]; try rfl, PP18, by rw [he]; exact hu18, by omega, by omega⟩
        · subst c196
          refine jJ_of (fun H locs => lv_iconst (v := (nI 1)) hx hb dX4_rest_199 (by decide)) ?_
          refine jJ_of (fun H locs => lv_goto (tgt := 204) hx hb dX4_rest_200 (by decide)) ?_
          have he : rRest tk a F = (true, aa18, FF18) := by unfold rRest; rw [if_neg (by omega), if_neg (by omega), if_pos (by omega)]; simp only [he16, he17, he18, rThen_t, rThen_f, rThenL_t, rThenL_f]
          exact jJ_zret hx hb hr hlocks dX4_rest_204 (by show _ ≤ 4001 - Pp; omega) (by show _ ≤ 128 * (4000 - Pp) + 32000; omega) (Or.inr rfl) ⟨by rw [he]; try rfl, PP18, by rw [he]; exact hu18, by omega, by omega⟩
  by_cases e13_304 : sw13 = 304
  · refine jJ_of (fun H locs => lv_lookup hx hb dX4_rest_13 (by decide) (off := 192) (tgt := 205) (by rw [e13_304]; decide) (by decide)) ?_
    refine jJ_of (fun H locs => lv_aload_n hx hb dX4_rest_205 rfl (lv_at hl 1 rfl)) ?_
    refine jJ_of (fun H locs => lv_dup hx hb dX4_rest_206 rfl) ?_
    refine jJ_get hx hb (C := RX4) (T := TX4) (N := 3) hts uX4_in_X4_rest hown hK 1 rfl rfl 2 (by decide) (hts (.fieldLink RX4 17 "ValueBlocks$Reader" "at" "I") (by decide +kernel)) (fun _ h9 => h9) rfl dX4_rest_207 ?_
    refine jJ_of (fun H locs => lv_iconst (v := (nI 1)) hx hb dX4_rest_210 (by decide)) ?_
    refine jJ_of (fun H locs => jn_iadd hx hb dX4_rest_211) ?_
    refine jJ_put hx hb (C := RX4) (T := TX4) (N := 3) (ty := .int) (v := .int (nI (a + 1))) hts uX4_in_X4_rest tyX4 tyX4_ok nmX4 hown hK 1 rfl rfl 2 (by decide) (hts (.fieldLink RX4 17 "ValueBlocks$Reader" "at" "I") (by decide +kernel)) (fun _ h9 => h9) rfl (by decide +kernel) rfl rfl (Nat.le_of_ble_eq_true rfl) dX4_rest_212 (cs2 := [wk, [(h, .inr (3, [.ref ht, .ref hp, .int (nI (a + 1))]))], wp1]) rfl ?_
    refine jJ_of (fun H locs => lv_aload_n hx hb dX4_rest_215 rfl (lv_at hl 1 rfl)) ?_
    refine jJ_of (fun H locs => lv_iload_n hx hb dX4_rest_216 rfl (lv_at hl 0 rfl)) ?_
    refine jJ_perm [1, 0, 2] (nn := 3) rfl (by decide) (cs2 := [[(h, .inr (3, [.ref ht, .ref hp, .int (nI (a + 1))]))], wk, wp1]) rfl ?_
    have hat19 := hk.lt a (by omega)
    have hrw19 : jRd cI h ht hp Pp wk F (F 0) (a + 1) (jF [[(h, .inr (3, [.ref ht, .ref hp, .int (nI (a + 1))]))], wk, wp1]) := ⟨_, rfl, hp1, by omega⟩
    refine jJ_flat (cs2 := [jF [[(h, .inr (3, [.ref ht, .ref hp, .int (nI (a + 1))]))], wk, wp1]]) rfl ?_
    have hLr19 := hrw19.len
    refine jJ_callV (As := [.int (nI ((tk 0).getD a 0))]) (rest := []) (wc := _) (cs2 := []) (C := RX4) (T := TX4) (N := 3) (ci := 3) [0] [] ⟨hx, hb, hml, hown, hts⟩ hK hA hAm (c_Rd_numberOf hk hrw19 ((tk 0).getD a 0) h1) (cwV 1 hts gX4_rest_X4_numberOf rfl rfl rfl (by decide +kernel) ⟨Nat.le_of_ble_eq_true rfl, Nat.le_of_ble_eq_true rfl⟩) (nn := 1) rfl (by decide) rfl rfl hrw19.hd rfl rfl rfl hl.1 (Nat.le_of_ble_eq_true rfl) dX4_rest_217 (by show _ + (4001 - Pp) ≤ 4001 - Pp; omega) (by show _ + (128 * (4000 - Pp) + 32000) ≤ 128 * (4000 - Pp) + 32000; omega) (fun v u20 k20 n20 hq20 => ?_)
    try dsimp only at hq20
    obtain ⟨bb20, aa20, FF20, he20⟩ : ∃ (b : Bool) (x : Nat) (o : Nat → List Int32), rNum tk ((tk 0).getD a 0) (a + 1) F = (b, x, o) := ⟨(rNum tk ((tk 0).getD a 0) (a + 1) F).1, (rNum tk ((tk 0).getD a 0) (a + 1) F).2.1, (rNum tk ((tk 0).getD a 0) (a + 1) F).2.2, rfl⟩
    rw [he20] at hq20
    try dsimp only at hq20
    obtain ⟨rfl, PP20, hu20, hkk20, hnn20⟩ := hq20
    have hL20 := hu20.len
    refine jJ_eq (g2 := F0 m 220 ls [.int (bI bb20)]) (cs2 := [u20]) rfl rfl ?_
    have he : rRest tk a F = (bb20, aa20, FF20) := by unfold rRest; rw [if_neg (by omega), if_neg (by omega), if_neg (by omega), if_pos (by omega)]; exact he20
    exact jJ_zret hx hb hr hlocks dX4_rest_220 (by show _ ≤ 4001 - Pp; omega) (by show _ ≤ 128 * (4000 - Pp) + 32000; omega) (bI_01 _) ⟨by rw [he]; try rfl, PP20, by rw [he]; exact hu20, by omega, by omega⟩
  refine jJ_of (fun H locs => lv_lookup hx hb dX4_rest_13 (by decide) (off := 208) (tgt := 221) (by rw [nI_toInt bsw13]; show Op.lookupswitch.offset [(35, 51), (300, 108), (301, 192), (302, 150), (304, 192)] _ _ = _; rw [Op.lookupswitch.offset_cons, if_neg (by omega), Op.lookupswitch.offset_cons, if_neg (by omega), Op.lookupswitch.offset_cons, if_neg (by omega), Op.lookupswitch.offset_cons, if_neg (by omega), Op.lookupswitch.offset_cons, if_neg (by omega)]; rfl) (by decide)) ?_
  refine jJ_of (fun H locs => lv_iconst (v := (nI 1)) hx hb dX4_rest_221 (by decide)) ?_
  refine jJ_perm [1, 0, 2] (nn := 3) rfl (by decide) (cs2 := [[(h, .inr (3, [.ref ht, .ref hp, .int (nI a)]))], wk, wp1]) rfl ?_
  have hrw21 : jRd cI h ht hp Pp wk F (F 0) a (jF [[(h, .inr (3, [.ref ht, .ref hp, .int (nI a)]))], wk, wp1]) := ⟨_, rfl, hp1, by omega⟩
  refine jJ_flat (cs2 := [jF [[(h, .inr (3, [.ref ht, .ref hp, .int (nI a)]))], wk, wp1]]) rfl ?_
  have hLr21 := hrw21.len
  have he : rRest tk a F = (true, a, F) := by unfold rRest; rw [if_neg (by omega), if_neg (by omega), if_neg (by omega), if_neg (by omega)]
  exact jJ_zret hx hb hr hlocks dX4_rest_222 (by show _ ≤ 4001 - Pp; omega) (by show _ ≤ 128 * (4000 - Pp) + 32000; omega) (Or.inr rfl) ⟨by rw [he]; try rfl, Pp, by rw [he]; exact hrw21, by omega, by omega⟩

def rThenF (x : Bool × Nat × (Nat → List Int32)) (f : Nat → (Nat → List Int32) → Bool × Nat × (Nat → List Int32)) : Bool × Nat × (Nat → List Int32) := if x.1 = true then f x.2.1 x.2.2 else x
theorem rThenF_t (a : Nat) (F : Nat → List Int32) (f : Nat → (Nat → List Int32) → Bool × Nat × (Nat → List Int32)) : rThenF (true, a, F) f = f a F := rfl
theorem rThenF_f (a : Nat) (F : Nat → List Int32) (f : Nat → (Nat → List Int32) → Bool × Nat × (Nat → List Int32)) : rThenF (false, a, F) f = (false, a, F) := rfl
def rTakeF (tk : Nat → List Nat) (k a : Nat) (F : Nat → List Int32) : Bool × Nat × (Nat → List Int32) := ((rTake tk k a (F 0)).1, (rTake tk k a (F 0)).2.1, F)
def rLine (tk : Nat → List Nat) (a : Nat) (F : Nat → List Int32) : Bool × Nat × (Nat → List Int32) := rThenF (rThenF (rLab tk a (jBeginT F)) (rRest tk)) (rTakeF tk 10)
def rTra (tk : Nat → List Nat) : Nat → Nat → (Nat → List Int32) → Bool × Nat × (Nat → List Int32)
  | 0 => fun a F => (true, a, F)
  | f + 1 => fun a F => if a < (tk 0).length then rThenF (rLine tk a F) (rTra tk f) else (true, a, F)
theorem rTra_end {tk : Nat → List Nat} {f a : Nat} {F : Nat → List Int32} (h : f = 0 ∨ ¬ a < (tk 0).length) : rTra tk f a F = (true, a, F) := by
  cases f with
  | zero => rfl
  | succ f => exact if_neg (by omega)
theorem rTra_step {tk : Nat → List Nat} {f g a : Nat} {F : Nat → List Int32} (hf : f = g + 1) (h : a < (tk 0).length) : rTra tk f a F = rThenF (rLine tk a F) (rTra tk g) := by
  subst hf
  exact if_pos h
theorem jBeginT_1 (F : Nat → List Int32) : 0 < (jBeginT F 1).length := by
  show 0 < (jAdd 8000 (F 1) (nI (F 0).length)).length
  unfold jAdd
  split
  · rw [List.length_append, List.length_singleton]; omega
  · omega
theorem rLab_1 {tk : Nat → List Nat} {a x : Nat} {F F2 : Nat → List Int32} {b : Bool} (h : rLab tk a F = (b, x, F2)) (h1 : 0 < (F 1).length) : 0 < (F2 1).length := by
  unfold rLab at h
  split at h
  · have e : pLab F (nI ((tk 2).getD (a + 1) 0)) (nI ((tk 1).getD (a + 1) 0)) = F2 := congrArg (fun z => z.2.2) h
    rw [← e]
    exact h1
  · have e : F = F2 := congrArg (fun z => z.2.2) h
    rw [← e]
    exact h1

theorem uX4_in_X4_translate : ∀ w ∈ u_ws RX4 TX4 3, w ∈ wsX4_translate := by decide +kernel
set_option maxHeartbeats 4000000 in
set_option maxRecDepth 100000 in
/-- translate(into) -/
theorem c_Rd_translate {h ht hT hp o Pk Pp nx a0 : Nat} {T : List Nat} {tk : Nat → List Nat} {Fo : Nat → List Int32} {wk wp : va_W} (hk : jTok cI ht hT Pk T tk nx wk) (hp0 : jProg cI hp Pp Fo wp) : HM l yX4_translate wsX4_translate ({ frames := 150, cells := 4008 - Pp, slots := 128 * (4000 - Pp) + 256000, locals := 5700 } : Room) D G (jT cI cJ cB cZ) [.ref h, .ref hp] (jF [[(h, .inr (3, [.ref ht, .ref o, .int (nI a0)]))], wk, wp]) (fun v u k n => v = some (.int (bI (rTra tk 8001 0 (fun _ => [])).1)) ∧ ∃ P2 : Nat, jRd cI h ht hp P2 wk (rTra tk 8001 0 (fun _ => [])).2.2 ((rTra tk 8001 0 (fun _ => [])).2.2 0) (rTra tk 8001 0 (fun _ => [])).2.1 u ∧ k + Pp ≤ P2 ∧ n + 128 * Pp ≤ 128 * P2) := by
  refine HM_of (cc := cX4_translate) (maxL := 3) (ret := (some .boolean)) (lv := [(0, .ref h), (1, .ref hp)]) (by decide) rfl rfl (Nat.le_of_ble_eq_true rfl) (fun p e s m args below meth c A0 ls hx hb hr hts hown hlocks hml hnm hK hA hAm hl => ?_)
  refine jJ_open (xs := [[(h, .inr (3, [.ref ht, .ref o, .int (nI a0)]))], wk, wp]) (r := []) (cs2 := [[(h, .inr (3, [.ref ht, .ref o, .int (nI a0)]))], wk, wp]) rfl ?_
  have hLw := hp0.len
  have hkb := hk.len
  refine jJ_of (fun H locs => lv_aload_n hx hb dX4_translate_0 rfl (lv_at hl 0 rfl)) ?_
  refine jJ_of (fun H locs => lv_aload_n hx hb dX4_translate_1 rfl (lv_at hl 1 rfl)) ?_
  refine jJ_put hx hb (C := RX4) (T := TX4) (N := 3) (ty := .object "ValueBlocks$Program") (v := .ref hp) hts uX4_in_X4_translate tyX4 tyX4_ok nmX4 hown hK 0 rfl rfl 1 (by decide) (hts (.fieldLink RX4 13 "ValueBlocks$Reader" "out" "LValueBlocks$Program;") (by decide +kernel)) (fun _ h9 => h9) rfl (by decide +kernel) rfl rfl (Nat.le_of_ble_eq_true rfl) dX4_translate_2 (cs2 := [[(h, .inr (3, [.ref ht, .ref hp, .int (nI a0)]))], wk, wp]) rfl ?_
  refine jJ_of (fun H locs => lv_aload_n hx hb dX4_translate_5 rfl (lv_at hl 0 rfl)) ?_
  refine jJ_get hx hb (C := RX4) (T := TX4) (N := 3) hts uX4_in_X4_translate hown hK 0 rfl rfl 1 (by decide) (hts (.fieldLink RX4 13 "ValueBlocks$Reader" "out" "LValueBlocks$Program;") (by decide +kernel)) (fun _ h9 => h9) rfl dX4_translate_6 ?_
  refine jJ_callV (As := []) (rest := []) (wc := _) (cs2 := [[(h, .inr (3, [.ref ht, .ref hp, .int (nI a0)]))], wk]) (C := RX3) (T := TX3) (N := 8) (ci := 2) [2] [0, 1] ⟨hx, hb, hml, hown, hts⟩ hK hA hAm (c_Prog_clear (jProg.full (jProg.fill hp0))) (cwV 0 hts gX4_translate_X3_clear rfl rfl rfl (by decide +kernel) ⟨by show (1) + 1 ≤ 150; omega, by show 8 + (1 + 11) + (40) ≤ 5700; omega⟩) (nn := 3) rfl (by decide) rfl rfl (jProg.full (jProg.fill hp0)).hd rfl rfl rfl hl.1 (Nat.le_of_ble_eq_true rfl) dX4_translate_9 (by show _ + 0 ≤ 4008 - Pp; omega) (by show _ + 0 ≤ 128 * (4000 - Pp) + 256000; omega) (fun v u1 k1 n1 hq1 => ?_)
  obtain ⟨rfl, hu1, rfl, rfl⟩ := hq1
  refine jJ_eq (g2 := F0 m 12 ls []) (cs2 := [u1, [(h, .inr (3, [.ref ht, .ref hp, .int (nI a0)]))], wk]) rfl rfl ?_
  refine jJ_of (fun H locs => lv_aload_n hx hb dX4_translate_12 rfl (lv_at hl 0 rfl)) ?_
  refine jJ_of (fun H locs => lv_iconst (v := (nI 0)) hx hb dX4_translate_13 (by decide)) ?_
  refine jJ_put hx hb (C := RX4) (T := TX4) (N := 3) (ty := .int) (v := .int (nI 0)) hts uX4_in_X4_translate tyX4 tyX4_ok nmX4 hown hK 1 rfl rfl 2 (by decide) (hts (.fieldLink RX4 17 "ValueBlocks$Reader" "at" "I") (by decide +kernel)) (fun _ h9 => h9) rfl (by decide +kernel) rfl rfl (Nat.le_of_ble_eq_true rfl) dX4_translate_14 (cs2 := [u1, [(h, .inr (3, [.ref ht, .ref hp, .int (nI 0)]))], wk]) rfl ?_
  refine jJ_of (fun H locs => lv_iconst (v := (nI 0)) hx hb dX4_translate_17 (by decide)) ?_
  refine jJ_ofL (fun H locs => lv_istore_n (lv' := [(2, .int (nI 0)), (0, .ref h), (1, .ref hp)]) hx hb dX4_translate_18 rfl hl (by decide) rfl) (fun ls hl => ?_)
  refine jJ_perm [1, 2, 0] (nn := 3) rfl (by decide) (cs2 := [[(h, .inr (3, [.ref ht, .ref hp, .int (nI 0)]))], wk, u1]) rfl ?_
  have hrw2 : jRd cI h ht hp Pp wk (fun _ => []) ((fun _ => []) 0) 0 (jF [[(h, .inr (3, [.ref ht, .ref hp, .int (nI 0)]))], wk, u1]) := ⟨_, rfl, (jProg.fill (F := fun _ => []) hu1), by omega⟩
  refine jJ_flat (cs2 := [jF [[(h, .inr (3, [.ref ht, .ref hp, .int (nI 0)]))], wk, u1]]) rfl ?_
  have hLr2 := hrw2.len
  suffices lp : ∀ (f i a1 P1 k1 n1 : Nat) (F1 : Nat → List Int32) (w1 : va_W), 8001 - i < f → i ≤ 8001 → jRd cI h ht hp P1 wk F1 (F1 0) a1 w1 → k1 + Pp ≤ P1 → n1 + 128 * Pp ≤ 128 * P1 → rTra tk (8001 - i) a1 F1 = rTra tk 8001 0 (fun _ => []) → ∀ ls, lv_has ls 3 [(2, .int (nI i)), (0, .ref h)] → jJ p l e _ s m args below meth c D A0 [w1] k1 n1 (jEnd below D A0 _ args s _ _) (F0 m 19 ls []) from lp 8002 0 0 _ _ _ _ _ (by omega) (by omega) hrw2 (by omega) (by omega) rfl ls (lv_sub hl [0, 1] rfl)
  intro f
  induction f with
  | zero => intro i a1 P1 k1 n1 F1 w1 h9; exact absurd h9 (Nat.not_lt_zero _)
  | succ f ih =>
    intro i a1 P1 k1 n1 F1 w1 h9 hi9 hw1 hk1 hn1 hcl ls hl
    have hL1 := hw1.len
    refine jJ_of (fun H locs => lv_iload_n hx hb dX4_translate_19 rfl (lv_at hl 0 rfl)) ?_
    refine jJ_of (fun H locs => lv_sipush (v := (nI 8000)) hx hb dX4_translate_20 (by decide)) ?_
    refine jJ_of2 (fun H locs => jn_icmp_gt (tgt := 78) hx hb dX4_translate_23 (by decide) (by omega) (by omega)) (fun c23 => ?_) (fun c23 => ?_)
    · refine jJ_of (fun H locs => lv_iconst (v := (nI 1)) hx hb dX4_translate_78 (by decide)) ?_
      have he : rTra tk 8001 0 (fun _ => []) = (true, a1, F1) := hcl.symm.trans (rTra_end (by omega))
      exact jJ_zret hx hb hr hlocks dX4_translate_79 (by show _ ≤ 4008 - Pp; omega) (by show _ ≤ 128 * (4000 - Pp) + 256000; omega) (Or.inr rfl) ⟨by rw [he]; try rfl, P1, by rw [he]; exact hw1, by omega, by omega⟩
    · refine jJ_of (fun H locs => lv_aload_n hx hb dX4_translate_26 rfl (lv_at hl 1 rfl)) ?_
      have hsv3 := hw1
      obtain ⟨wp3, rfl, hp3, ha3⟩ := hsv3
      refine jJ_open (xs := [[(h, .inr (3, [.ref ht, .ref hp, .int (nI a1)]))], wk, wp3]) (r := []) (cs2 := [[(h, .inr (3, [.ref ht, .ref hp, .int (nI a1)]))], wk, wp3]) rfl ?_
      refine jJ_get hx hb (C := RX4) (T := TX4) (N := 3) hts uX4_in_X4_translate hown hK 0 rfl rfl 2 (by decide) (hts (.fieldLink RX4 17 "ValueBlocks$Reader" "at" "I") (by decide +kernel)) (fun _ h9 => h9) rfl dX4_translate_27 ?_
      refine jJ_of (fun H locs => lv_aload_n hx hb dX4_translate_30 rfl (lv_at hl 1 rfl)) ?_
      refine jJ_get hx hb (C := RX4) (T := TX4) (N := 3) hts uX4_in_X4_translate hown hK 0 rfl rfl 0 (by decide) (hts (.fieldLink RX4 7 "ValueBlocks$Reader" "tokens" "LValueBlocks$Tokens;") (by decide +kernel)) (fun _ h9 => h9) rfl dX4_translate_31 ?_
      refine jJ_callV (As := []) (rest := [.int (nI a1)]) (wc := _) (cs2 := [[(h, .inr (3, [.ref ht, .ref hp, .int (nI a1)]))], wp3]) (C := RX6) (T := TX6) (N := 5) (ci := 5) [1] [0, 2] ⟨hx, hb, hml, hown, hts⟩ hK hA hAm (c_Tok_size hk) (cwV 0 hts gX4_translate_X6_size rfl rfl rfl (by decide +kernel) ⟨by show (1) + 1 ≤ 150; omega, by show 8 + (1 + 11) + (40) ≤ 5700; omega⟩) (nn := 3) rfl (by decide) rfl rfl hk.hd rfl rfl rfl hl.1 (Nat.le_of_ble_eq_true rfl) dX4_translate_34 (by show _ + 0 ≤ 4008 - Pp; omega) (by show _ + 0 ≤ 128 * (4000 - Pp) + 256000; omega) (fun v u4 k4 n4 hq4 => ?_)
      obtain ⟨rfl, hw4, rfl, rfl⟩ := hq4
      rw [hw4]
      refine jJ_eq (g2 := F0 m 37 ls [.int (nI ((tk 0).length)), .int (nI a1)]) (cs2 := [wk, [(h, .inr (3, [.ref ht, .ref hp, .int (nI a1)]))], wp3]) rfl rfl ?_
      refine jJ_of2 (fun H locs => jn_icmp_ge (tgt := 78) hx hb dX4_translate_37 (by decide) (by omega) (by omega)) (fun c37 => ?_) (fun c37 => ?_)
      · refine jJ_of (fun H locs => lv_iconst (v := (nI 1)) hx hb dX4_translate_78 (by decide)) ?_
        refine jJ_perm [1, 0, 2] (nn := 3) rfl (by decide) (cs2 := [[(h, .inr (3, [.ref ht, .ref hp, .int (nI a1)]))], wk, wp3]) rfl ?_
        have hrw5 : jRd cI h ht hp P1 wk F1 (F1 0) a1 (jF [[(h, .inr (3, [.ref ht, .ref hp, .int (nI a1)]))], wk, wp3]) := ⟨_, rfl, hp3, by omega⟩
        refine jJ_flat (cs2 := [jF [[(h, .inr (3, [.ref ht, .ref hp, .int (nI a1)]))], wk, wp3]]) rfl ?_
        have hLr5 := hrw5.len
        have he : rTra tk 8001 0 (fun _ => []) = (true, a1, F1) := hcl.symm.trans (rTra_end (by omega))
        exact jJ_zret hx hb hr hlocks dX4_translate_79 (by show _ ≤ 4008 - Pp; omega) (by show _ ≤ 128 * (4000 - Pp) + 256000; omega) (Or.inr rfl) ⟨by rw [he]; try rfl, P1, by rw [he]; exact hrw5, by omega, by omega⟩
      · refine jJ_of (fun H locs => lv_aload_n hx hb dX4_translate_40 rfl (lv_at hl 1 rfl)) ?_
        refine jJ_get hx hb (C := RX4) (T := TX4) (N := 3) hts uX4_in_X4_translate hown hK 1 rfl rfl 1 (by decide) (hts (.fieldLink RX4 13 "ValueBlocks$Reader" "out" "LValueBlocks$Program;") (by decide +kernel)) (fun _ h9 => h9) rfl dX4_translate_41 ?_
        refine jJ_callV (As := []) (rest := []) (wc := _) (cs2 := [wk, [(h, .inr (3, [.ref ht, .ref hp, .int (nI a1)]))]]) (C := RX3) (T := TX3) (N := 8) (ci := 2) [2] [0, 1] ⟨hx, hb, hml, hown, hts⟩ hK hA hAm (c_Prog_beginLineT (jProg.full hp3)) (cwV 0 hts gX4_translate_X3_beginLine rfl rfl rfl (by decide +kernel) ⟨by show (3) + 1 ≤ 150; omega, by show 8 + (1 + 11) + (140) ≤ 5700; omega⟩) (nn := 3) rfl (by decide) rfl rfl (jProg.full hp3).hd rfl rfl rfl hl.1 (Nat.le_of_ble_eq_true rfl) dX4_translate_44 (by show _ + 8 ≤ 4008 - Pp; omega) (by show _ + 256000 ≤ 128 * (4000 - Pp) + 256000; omega) (fun v u6 k6 n6 hq6 => ?_)
        obtain ⟨rfl, PP6, hu6, hkk6, hnn6⟩ := hq6
        have hL6 := hu6.len
        refine jJ_eq (g2 := F0 m 47 ls []) (cs2 := [u6, wk, [(h, .inr (3, [.ref ht, .ref hp, .int (nI a1)]))]]) rfl rfl ?_
        refine jJ_of (fun H locs => lv_aload_n hx hb dX4_translate_47 rfl (lv_at hl 1 rfl)) ?_
        refine jJ_perm [2, 1, 0] (nn := 3) rfl (by decide) (cs2 := [[(h, .inr (3, [.ref ht, .ref hp, .int (nI a1)]))], wk, u6]) rfl ?_
        have hrw7 : jRd cI h ht hp PP6 wk (jBeginT F1) ((jBeginT F1) 0) a1 (jF [[(h, .inr (3, [.ref ht, .ref hp, .int (nI a1)]))], wk, u6]) := ⟨_, rfl, (jProg.fill hu6), by omega⟩
        refine jJ_flat (cs2 := [jF [[(h, .inr (3, [.ref ht, .ref hp, .int (nI a1)]))], wk, u6]]) rfl ?_
        have hLr7 := hrw7.len
        refine jJ_callV (As := []) (rest := []) (wc := _) (cs2 := []) (C := RX4) (T := TX4) (N := 3) (ci := 3) [0] [] ⟨hx, hb, hml, hown, hts⟩ hK hA hAm (c_Rd_label hk hrw7  (jBeginT_1 _)) (cwV 0 hts gX4_translate_X4_label rfl rfl rfl (by decide +kernel) ⟨by show (9) + 1 ≤ 150; omega, by show 8 + (1 + 11) + (300) ≤ 5700; omega⟩) (nn := 1) rfl (by decide) rfl rfl hrw7.hd rfl rfl rfl hl.1 (Nat.le_of_ble_eq_true rfl) dX4_translate_48 (by show _ + (4001 - PP6) ≤ 4008 - Pp; omega) (by show _ + (128 * (4000 - PP6) + 32000) ≤ 128 * (4000 - Pp) + 256000; omega) (fun v u8 k8 n8 hq8 => ?_)
        try dsimp only at hq8
        obtain ⟨bb8, aa8, FF8, he8⟩ : ∃ (b : Bool) (x : Nat) (o : Nat → List Int32), rLab tk a1 (jBeginT F1) = (b, x, o) := ⟨(rLab tk a1 (jBeginT F1)).1, (rLab tk a1 (jBeginT F1)).2.1, (rLab tk a1 (jBeginT F1)).2.2, rfl⟩
        rw [he8] at hq8
        try dsimp only at hq8
        obtain ⟨rfl, PP8, hu8, hkk8, hnn8⟩ := hq8
        have hL8 := hu8.len
        refine jJ_eq (g2 := F0 m 51 ls [.int (bI bb8)]) (cs2 := [u8]) rfl rfl ?_
        refine jJ_of2 (fun H locs => jb_if_eq (tgt := 70) hx hb dX4_translate_51 (by decide)) (fun c51 => ?_) (fun c51 => ?_)
        · subst c51
          refine jJ_of (fun H locs => lv_iconst (v := (nI 0)) hx hb dX4_translate_70 (by decide)) ?_
          have he : rTra tk 8001 0 (fun _ => []) = (false, aa8, FF8) := by rw [← hcl, rTra_step (g := 8000 - i) (by omega) (by omega)]; unfold rLine rTakeF; simp only [he8, rThenF_t, rThenF_f]
          exact jJ_zret hx hb hr hlocks dX4_translate_71 (by show _ ≤ 4008 - Pp; omega) (by show _ ≤ 128 * (4000 - Pp) + 256000; omega) (Or.inl rfl) ⟨by rw [he]; try rfl, PP8, by rw [he]; exact hu8, by omega, by omega⟩
        · subst c51
          have h1r := rLab_1 he8 (jBeginT_1 _)
          refine jJ_of (fun H locs => lv_aload_n hx hb dX4_translate_54 rfl (lv_at hl 1 rfl)) ?_
          refine jJ_callV (As := []) (rest := []) (wc := _) (cs2 := []) (C := RX4) (T := TX4) (N := 3) (ci := 3) [0] [] ⟨hx, hb, hml, hown, hts⟩ hK hA hAm (c_Rd_rest hk hu8  h1r) (cwV 0 hts gX4_translate_X4_rest rfl rfl rfl (by decide +kernel) ⟨by show (140) + 1 ≤ 150; omega, by show 8 + (2 + 11) + (5400) ≤ 5700; omega⟩) (nn := 1) rfl (by decide) rfl rfl hu8.hd rfl rfl rfl hl.1 (Nat.le_of_ble_eq_true rfl) dX4_translate_55 (by show _ + (4001 - PP8) ≤ 4008 - Pp; omega) (by show _ + (128 * (4000 - PP8) + 32000) ≤ 128 * (4000 - Pp) + 256000; omega) (fun v u9 k9 n9 hq9 => ?_)
          try dsimp only at hq9
          obtain ⟨bb9, aa9, FF9, he9⟩ : ∃ (b : Bool) (x : Nat) (o : Nat → List Int32), rRest tk aa8 FF8 = (b, x, o) := ⟨(rRest tk aa8 FF8).1, (rRest tk aa8 FF8).2.1, (rRest tk aa8 FF8).2.2, rfl⟩
          rw [he9] at hq9
          try dsimp only at hq9
          obtain ⟨rfl, PP9, hu9, hkk9, hnn9⟩ := hq9
          have hL9 := hu9.len
          refine jJ_eq (g2 := F0 m 58 ls [.int (bI bb9)]) (cs2 := [u9]) rfl rfl ?_
          refine jJ_of2 (fun H locs => jb_if_eq (tgt := 70) hx hb dX4_translate_58 (by decide)) (fun c58 => ?_) (fun c58 => ?_)
          · subst c58
            refine jJ_of (fun H locs => lv_iconst (v := (nI 0)) hx hb dX4_translate_70 (by decide)) ?_
            have he : rTra tk 8001 0 (fun _ => []) = (false, aa9, FF9) := by rw [← hcl, rTra_step (g := 8000 - i) (by omega) (by omega)]; unfold rLine rTakeF; simp only [he8, he9, rThenF_t, rThenF_f]
            exact jJ_zret hx hb hr hlocks dX4_translate_71 (by show _ ≤ 4008 - Pp; omega) (by show _ ≤ 128 * (4000 - Pp) + 256000; omega) (Or.inl rfl) ⟨by rw [he]; try rfl, PP9, by rw [he]; exact hu9, by omega, by omega⟩
          · subst c58
            refine jJ_of (fun H locs => lv_aload_n hx hb dX4_translate_61 rfl (lv_at hl 1 rfl)) ?_
            refine jJ_of (fun H locs => lv_bipush (v := (nI 10)) hx hb dX4_translate_62 (by decide)) ?_
            refine jJ_callV (As := [.int (nI 10)]) (rest := []) (wc := _) (cs2 := []) (C := RX4) (T := TX4) (N := 3) (ci := 3) [0] [] ⟨hx, hb, hml, hown, hts⟩ hK hA hAm (c_Rd_take hk hu9 10 (by omega) (by omega)) (cwV 1 hts gX4_translate_X4_take rfl rfl rfl (by decide +kernel) ⟨by show (8) + 1 ≤ 150; omega, by show 8 + (2 + 11) + (200) ≤ 5700; omega⟩) (nn := 1) rfl (by decide) rfl rfl hu9.hd rfl rfl rfl hl.1 (Nat.le_of_ble_eq_true rfl) dX4_translate_64 (by show _ + (4001 - PP9) ≤ 4008 - Pp; omega) (by show _ + (128 * (4000 - PP9) + 32000) ≤ 128 * (4000 - Pp) + 256000; omega) (fun v u10 k10 n10 hq10 => ?_)
            obtain ⟨bb10, aa10, he10⟩ := rTake_form tk 10 aa9 (FF9 0)
            rw [he10] at hq10
            try dsimp only at hq10
            obtain ⟨rfl, PP10, hu10, hkk10, hnn10⟩ := hq10
            have hL10 := hu10.len
            refine jJ_eq (g2 := F0 m 67 ls [.int (bI bb10)]) (cs2 := [u10]) rfl rfl ?_
            refine jJ_of2 (fun H locs => jb_if_ne (tgt := 72) hx hb dX4_translate_67 (by decide)) (fun c67 => ?_) (fun c67 => ?_)
            · subst c67
              refine jJ_ofL (fun H locs => lv_iinc (v := (nI (i + 1))) (lv' := [(2, .int (nI (i + 1))), (0, .ref h)]) hx hb dX4_translate_72 hl (k := 0) rfl (nI_add _ _) (by decide) rfl) (fun ls hl => ?_)
              refine jJ_of (fun H locs => lv_goto (tgt := 19) hx hb dX4_translate_75 (by decide)) ?_
              exact ih (i + 1) _ _ _ _ _ _ (by omega) (by omega) hu10 (by omega) (by omega) (by rw [← hcl, rTra_step (f := 8001 - i) (g := 8001 - (i + 1)) (by omega) (by omega)]; unfold rLine rTakeF; simp only [he8, he9, he10, rThenF_t, rThenF_f]) ls (lv_sub hl [0, 1] rfl)
            · subst c67
              refine jJ_of (fun H locs => lv_iconst (v := (nI 0)) hx hb dX4_translate_70 (by decide)) ?_
              have he : rTra tk 8001 0 (fun _ => []) = (false, aa10, FF9) := by rw [← hcl, rTra_step (g := 8000 - i) (by omega) (by omega)]; unfold rLine rTakeF; simp only [he8, he9, he10, rThenF_t, rThenF_f]
              exact jJ_zret hx hb hr hlocks dX4_translate_71 (by show _ ≤ 4008 - Pp; omega) (by show _ ≤ 128 * (4000 - Pp) + 256000; omega) (Or.inl rfl) ⟨by rw [he]; try rfl, PP10, by rw [he]; exact hu10, by omega, by omega⟩
theorem uX4_in_X4_faultPlace : ∀ w ∈ u_ws RX4 TX4 3, w ∈ wsX4_faultPlace := by decide +kernel
set_option maxHeartbeats 4000000 in
set_option maxRecDepth 100000 in
/-- faultPlace() -/
theorem c_Rd_faultPlace {h ht hT hp Pk Pp nx a : Nat} {T : List Nat} {tk : Nat → List Nat} {pr : Nat → List Int32} {co : List Int32} {wk w : va_W} (hk : jTok cI ht hT Pk T tk nx wk) (hw : jRd cI h ht hp Pp wk pr co a w) : HM l yX4_faultPlace wsX4_faultPlace ({ frames := 3, cells := 0, slots := 0, locals := 120 } : Room) D G (jT cI cJ cB cZ) [.ref h] w (fun v u k n => v = some (.int (nI ((tk 1).getD a 0))) ∧ u = w ∧ k = 0 ∧ n = 0) := by
  refine HM_of (cc := cX4_faultPlace) (maxL := 1) (ret := (some .int)) (lv := [(0, .ref h)]) (by decide) rfl rfl (Nat.le_of_ble_eq_true rfl) (fun p e s m args below meth c A0 ls hx hb hr hts hown hlocks hml hnm hK hA hAm hl => ?_)
  have hLw := hw.len
  have hkb := hk.len
  refine jJ_of (fun H locs => lv_aload_n hx hb dX4_faultPlace_0 rfl (lv_at hl 0 rfl)) ?_
  have hsv1 := hw
  obtain ⟨wp1, rfl, hp1, ha1⟩ := hsv1
  refine jJ_open (xs := [[(h, .inr (3, [.ref ht, .ref hp, .int (nI a)]))], wk, wp1]) (r := []) (cs2 := [[(h, .inr (3, [.ref ht, .ref hp, .int (nI a)]))], wk, wp1]) rfl ?_
  refine jJ_get hx hb (C := RX4) (T := TX4) (N := 3) hts uX4_in_X4_faultPlace hown hK 0 rfl rfl 0 (by decide) (hts (.fieldLink RX4 7 "ValueBlocks$Reader" "tokens" "LValueBlocks$Tokens;") (by decide +kernel)) (fun _ h9 => h9) rfl dX4_faultPlace_1 ?_
  refine jJ_of (fun H locs => lv_aload_n hx hb dX4_faultPlace_4 rfl (lv_at hl 0 rfl)) ?_
  refine jJ_get hx hb (C := RX4) (T := TX4) (N := 3) hts uX4_in_X4_faultPlace hown hK 0 rfl rfl 2 (by decide) (hts (.fieldLink RX4 17 "ValueBlocks$Reader" "at" "I") (by decide +kernel)) (fun _ h9 => h9) rfl dX4_faultPlace_5 ?_
  refine jJ_callV (As := [.int (nI a)]) (rest := []) (wc := _) (cs2 := [[(h, .inr (3, [.ref ht, .ref hp, .int (nI a)]))], wp1]) (C := RX6) (T := TX6) (N := 5) (ci := 5) [1] [0, 2] ⟨hx, hb, hml, hown, hts⟩ hK hA hAm (c_Tok_start hk a (by omega)) (cwV 1 hts gX4_faultPlace_X6_start rfl rfl rfl (by decide +kernel) ⟨Nat.le_of_ble_eq_true rfl, Nat.le_of_ble_eq_true rfl⟩) (nn := 3) rfl (by decide) rfl rfl hk.hd rfl rfl rfl hl.1 (Nat.le_of_ble_eq_true rfl) dX4_faultPlace_8 (by show _ + 0 ≤ 0; omega) (by show _ + 0 ≤ 0; omega) (fun v u2 k2 n2 hq2 => ?_)
  obtain ⟨rfl, hw2, rfl, rfl⟩ := hq2
  rw [hw2]
  refine jJ_eq (g2 := F0 m 11 ls [.int (nI ((tk 1).getD a 0))]) (cs2 := [wk, [(h, .inr (3, [.ref ht, .ref hp, .int (nI a)]))], wp1]) rfl rfl ?_
  have hvb2 := hkb.2.2.2.2.2.2.1 1 (by decide) a
  refine jJ_perm [1, 0, 2] (nn := 3) rfl (by decide) (cs2 := [[(h, .inr (3, [.ref ht, .ref hp, .int (nI a)]))], wk, wp1]) rfl ?_
  have hrw3 : jRd cI h ht hp Pp wk pr co a (jF [[(h, .inr (3, [.ref ht, .ref hp, .int (nI a)]))], wk, wp1]) := ⟨_, rfl, hp1, by omega⟩
  refine jJ_flat (cs2 := [jF [[(h, .inr (3, [.ref ht, .ref hp, .int (nI a)]))], wk, wp1]]) rfl ?_
  have hLr3 := hrw3.len
  exact jJ_iret hx hb hr hlocks dX4_faultPlace_11 (by show _ ≤ 0; omega) (by show _ ≤ 0; omega) ⟨rfl, rfl, rfl, rfl⟩
theorem uX4_in_X4_init : ∀ w ∈ u_ws RX4 TX4 3, w ∈ wsX4_init := by decide +kernel
set_option maxHeartbeats 4000000 in
set_option maxRecDepth 100000 in
/-- Reader(tokens, out) -/
theorem c_Rd_init {h ht hp : Nat} : HM l yX4_init wsX4_init ({ frames := 1, cells := 0, slots := 0, locals := 40 } : Room) D G (jT cI cJ cB cZ) [.ref h, .ref ht, .ref hp] ([(h, .inr (3, [.null, .null, .int (nI 0)]))]) (fun v u k n => v = none ∧ u = [(h, .inr (3, [.ref ht, .ref hp, .int (nI 0)]))] ∧ k = 0 ∧ n = 0) := by
  refine HM_of (cc := cX4_init) (maxL := 3) (ret := none) (lv := [(0, .ref h), (1, .ref ht), (2, .ref hp)]) (by decide) rfl rfl (Nat.le_of_ble_eq_true rfl) (fun p e s m args below meth c A0 ls hx hb hr hts hown hlocks hml hnm hK hA hAm hl => ?_)
  refine jJ_open (xs := [[(h, .inr (3, [.null, .null, .int (nI 0)]))]]) (r := []) (cs2 := [[(h, .inr (3, [.null, .null, .int (nI 0)]))]]) rfl ?_
  refine jJ_of (fun H locs => lv_aload_n hx hb dX4_init_0 rfl (lv_at hl 0 rfl)) ?_
  refine jJ_of (g2 := F0 m 4 ls []) (fun H locs kk => W.objInit hx hb hown (hts (.methodLink RX4 1 objectInit) (by decide +kernel)) (hts (.instanceMethod objectInit) (by decide +kernel)) (hts (.code objectInit ⟨#[0xb1]⟩ 1 none) (List.mem_of_getElem? (i := 3) rfl)) rfl (by rw [hml]; exact hl.1) rfl dX4_init_1 (Nat.le_of_ble_eq_true rfl) (Nat.le_of_ble_eq_true rfl) (W.eq rfl kk)) ?_
  refine jJ_of (fun H locs => lv_aload_n hx hb dX4_init_4 rfl (lv_at hl 0 rfl)) ?_
  refine jJ_of (fun H locs => lv_aload_n hx hb dX4_init_5 rfl (lv_at hl 1 rfl)) ?_
  refine jJ_putF hx hb (C := RX4) (T := TX4) (N := 3) (ty := .object "ValueBlocks$Tokens") (v := .ref ht) hts uX4_in_X4_init tyX4 tyX4_ok nmX4 hown hK 0 rfl rfl 0 (by decide) (hts (.fieldLink RX4 7 "ValueBlocks$Reader" "tokens" "LValueBlocks$Tokens;") (by decide +kernel)) (fun _ h9 => h9) rfl hnm rfl (by decide +kernel) rfl rfl (Nat.le_of_ble_eq_true rfl) dX4_init_6 (cs2 := [[(h, .inr (3, [.ref ht, .null, .int (nI 0)]))]]) rfl ?_
  refine jJ_of (fun H locs => lv_aload_n hx hb dX4_init_9 rfl (lv_at hl 0 rfl)) ?_
  refine jJ_of (fun H locs => lv_aload_n hx hb dX4_init_10 rfl (lv_at hl 2 rfl)) ?_
  refine jJ_put hx hb (C := RX4) (T := TX4) (N := 3) (ty := .object "ValueBlocks$Program") (v := .ref hp) hts uX4_in_X4_init tyX4 tyX4_ok nmX4 hown hK 0 rfl rfl 1 (by decide) (hts (.fieldLink RX4 13 "ValueBlocks$Reader" "out" "LValueBlocks$Program;") (by decide +kernel)) (fun _ h9 => h9) rfl (by decide +kernel) rfl rfl (Nat.le_of_ble_eq_true rfl) dX4_init_11 (cs2 := [[(h, .inr (3, [.ref ht, .ref hp, .int (nI 0)]))]]) rfl ?_
  exact jJ_vret hx hb hr hlocks dX4_init_14 (by show _ ≤ 0; omega) (by show _ ≤ 0; omega) ⟨rfl, rfl, rfl, rfl⟩
end RDL
