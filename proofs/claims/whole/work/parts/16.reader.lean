/-! ValueBlocks$Reader: what it reads of the tokens tk, from the place a on, with the code co so far: (there, the place after it, the code) -/
def jR : Type := Bool × Nat × List Int32
def rThen (x : Bool × Nat × List Int32) (f : Nat → List Int32 → Bool × Nat × List Int32) : Bool × Nat × List Int32 := if x.1 = true then f x.2.1 x.2.2 else x
theorem rThen_t (a : Nat) (co : List Int32) (f : Nat → List Int32 → Bool × Nat × List Int32) : rThen (true, a, co) f = f a co := rfl
theorem rThen_f (a : Nat) (co : List Int32) (f : Nat → List Int32 → Bool × Nat × List Int32) : rThen (false, a, co) f = (false, a, co) := rfl
def rTake (tk : Nat → List Nat) (k a : Nat) (co : List Int32) : Bool × Nat × List Int32 := if (tk 0).getD a 0 = k then (true, a + 1, co) else (false, a, co)
def rLit (tk : Nat → List Nat) (a : Nat) (co : List Int32) : Bool × Nat × List Int32 := (true, a + 1, jAdd 8000 co (nI ((tk 2).getD a 0)))
def rWr (act a : Nat) (co : List Int32) : Bool × Nat × List Int32 := (true, a, jAdd 8000 co (iI (-(act : Int))))
def rLoop (tk : Nat → List Nat) (jn : Nat → Bool) (part : Nat → List Int32 → Bool × Nat × List Int32) : Nat → Nat → List Int32 → Bool × Nat × List Int32
  | 0 => fun a co => (true, a, co)
  | f + 1 => fun a co => if jn ((tk 0).getD a 0) = true then rThen (rThen (part (a + 1) co) (rWr ((tk 0).getD a 0))) (rLoop tk jn part f) else (true, a, co)
def rSeq (tk : Nat → List Nat) (jn : Nat → Bool) (part : Nat → List Int32 → Bool × Nat × List Int32) (a : Nat) (co : List Int32) : Bool × Nat × List Int32 := rThen (part a co) (rLoop tk jn part 8000)
def jnP (c : Nat) : Bool := decide (c = 43 ∨ c = 45 ∨ c = 311 ∨ c = 312)
def jnF (c : Nat) : Bool := decide (c = 42 ∨ c = 47 ∨ c = 309 ∨ c = 310)
def rPl (tk : Nat → List Nat) (br : Nat → List Int32 → Bool × Nat × List Int32) (a : Nat) (co : List Int32) : Bool × Nat × List Int32 := if (tk 0).getD a 0 = 256 then rLit tk a co else br a co
def rBr (tk : Nat → List Nat) (te : Nat → List Int32 → Bool × Nat × List Int32) (a : Nat) (co : List Int32) : Bool × Nat × List Int32 := rThen (rThen (rTake tk 91 a co) te) (rTake tk 93)
def rTe (tk : Nat → List Nat) (su : Nat → List Int32 → Bool × Nat × List Int32) (a : Nat) (co : List Int32) : Bool × Nat × List Int32 := rThen (su a co) (fun a co => if 313 ≤ (tk 0).getD a 0 ∧ (tk 0).getD a 0 ≤ 318 then rThen (su (a + 1) co) (rWr ((tk 0).getD a 0)) else (true, a, co))
def rFw (tk : Nat → List Nat) (ng br : Nat → List Int32 → Bool × Nat × List Int32) (a : Nat) (co : List Int32) : Bool × Nat × List Int32 :=
  if (tk 0).getD a 0 = 45 then ng a co
  else if (tk 0).getD a 0 = 305 ∨ (tk 0).getD a 0 = 306 ∨ (tk 0).getD a 0 = 307 ∨ (tk 0).getD a 0 = 308 then rThen (br (a + 1) co) (rWr ((tk 0).getD a 0))
  else if (tk 0).getD a 0 = 35 then rThen (rPl tk br (a + 1) co) (rWr 2)
  else if (tk 0).getD a 0 = 256 ∨ (tk 0).getD a 0 = 257 then rLit tk a co
  else br a co
def rNo (a : Nat) (co : List Int32) : Bool × Nat × List Int32 := (false, a, co)
def rFac (tk : Nat → List Nat) : Nat → Nat → List Int32 → Bool × Nat × List Int32
  | 0 => rFw tk rNo rNo
  | r + 1 => rFw tk (fun a co => rThen (rFac tk r (a + 1) co) (rWr 1)) (rBr tk (rTe tk (rSeq tk jnP (rSeq tk jnF (rFac tk r)))))
def rPro (tk : Nat → List Nat) (r : Nat) : Nat → List Int32 → Bool × Nat × List Int32 := rSeq tk jnF (rFac tk r)
def rSum (tk : Nat → List Nat) (r : Nat) : Nat → List Int32 → Bool × Nat × List Int32 := rSeq tk jnP (rPro tk r)
def rTes (tk : Nat → List Nat) (r : Nat) : Nat → List Int32 → Bool × Nat × List Int32 := rTe tk (rSum tk r)
def rBra (tk : Nat → List Nat) : Nat → Nat → List Int32 → Bool × Nat × List Int32
  | 0 => rNo
  | r + 1 => rBr tk (rTes tk r)
def rNeg (tk : Nat → List Nat) : Nat → Nat → List Int32 → Bool × Nat × List Int32
  | 0 => rNo
  | r + 1 => fun a co => rThen (rFac tk r (a + 1) co) (rWr 1)
theorem rFac_eq (tk : Nat → List Nat) (r a : Nat) (co : List Int32) : rFac tk r a co = rFw tk (rNeg tk r) (rBra tk r) a co := by
  cases r <;> rfl
/-- the reader at h over the tokens' chunk wk and the program at hp, whose code is co -/
def jRd (cI : ClassId) (h ht hp P : Nat) (wk : va_W) (pr : Nat → List Int32) (co : List Int32) (a : Nat) (w : va_W) : Prop := ∃ wp, w = jF [[(h, .inr (3, [.ref ht, .ref hp, .int (nI a)]))], wk, wp] ∧ jProg cI hp P (va_up pr 0 co) wp ∧ a ≤ 8002
theorem jRd.hd {cI : ClassId} {h ht hp P a : Nat} {wk w : va_W} {pr : Nat → List Int32} {co : List Int32} (hw : jRd cI h ht hp P wk pr co a w) : ∃ (i : Nat) (fs : List Value), w[i]? = some (h, .inr (3, fs)) := by
  obtain ⟨wp, rfl, -⟩ := hw
  exact ⟨0, _, rfl⟩
theorem jRd.len {cI : ClassId} {h ht hp P a : Nat} {wk w : va_W} {pr : Nat → List Int32} {co : List Int32} (hw : jRd cI h ht hp P wk pr co a w) : 8 ≤ P ∧ P ≤ 4000 ∧ a ≤ 8002 ∧ co.length ≤ 8000 := by
  obtain ⟨wp, rfl, hp, ha⟩ := hw
  have h1 := hp.len
  exact ⟨h1.2.1, h1.2.2, ha, h1.1 0 (by decide)⟩
theorem va_up_up {α : Type} (f : Nat → α) (i : Nat) (x y : α) : va_up (va_up f i x) i y = va_up f i y := by
  funext j
  by_cases e : j = i
  · subst e; rw [va_up_self, va_up_self]
  · rw [va_up_ne _ _ e, va_up_ne _ _ e, va_up_ne _ _ e]
theorem jP_upd {q : Nat → Nat} {i x : Nat} (hi : i < 8) : va_up q i x 0 + va_up q i x 1 + va_up q i x 2 + va_up q i x 3 + va_up q i x 4 + va_up q i x 5 + va_up q i x 6 + va_up q i x 7 + q i = q 0 + q 1 + q 2 + q 3 + q 4 + q 5 + q 6 + q 7 + x := by
  rcases (show i = 0 ∨ i = 1 ∨ i = 2 ∨ i = 3 ∨ i = 4 ∨ i = 5 ∨ i = 6 ∨ i = 7 by omega) with rfl | rfl | rfl | rfl | rfl | rfl | rfl | rfl <;> simp only [va_up, ite_true, ite_false, Nat.reduceEqDiff] <;> omega
theorem jTok.lt {cI : ClassId} {h hT P nx : Nat} {T : List Nat} {tk : Nat → List Nat} {w : va_W} (hw : jTok cI h hT P T tk nx w) (j : Nat) (hj : ¬ (tk 0).getD j 0 = 0) : j + 1 ≤ 8002 := by
  have h1 := hw.len.2.1
  have h2 := getD_nz hj
  omega
section RD
variable {D : va_G} {G : Nat → Nat} {cI cJ cB cZ : ClassId} {l : Launch}
/-- the contract of one of the reader's parts -/
def cRd (D : va_G) (G : Nat → Nat) (cI cJ cB cZ : ClassId) (l : Launch) (y : MethodName) (ws : List Cond) (fr lo : Nat) (ex : List Value) (ht : Nat) (wk : va_W) (f : Nat → List Int32 → Bool × Nat × List Int32) : Prop :=
  ∀ (h hp Pp a : Nat) (pr : Nat → List Int32) (co : List Int32) (w : va_W), jRd cI h ht hp Pp wk pr co a w → HM l y ws ({ frames := fr, cells := 4001 - Pp, slots := 128 * (4000 - Pp) + 32000, locals := lo } : Room) D G (jT cI cJ cB cZ) (.ref h :: ex) w (fun v u k n => v = some (.int (bI (f a co).1)) ∧ ∃ P2 : Nat, jRd cI h ht hp P2 wk pr (f a co).2.2 (f a co).2.1 u ∧ k + Pp ≤ P2 ∧ n + 128 * Pp ≤ 128 * P2)

theorem uX4_in_X4_take : ∀ w ∈ u_ws RX4 TX4 3, w ∈ wsX4_take := by decide +kernel
set_option maxHeartbeats 4000000 in
set_option maxRecDepth 100000 in
/-- take(kd) -/
theorem c_Rd_take {h ht hT hp Pk Pp nx a : Nat} {T : List Nat} {tk : Nat → List Nat} {pr : Nat → List Int32} {co : List Int32} {wk w : va_W} (hk : jTok cI ht hT Pk T tk nx wk) (hw : jRd cI h ht hp Pp wk pr co a w) (kd : Nat) (hkd : 0 < kd) (hkd2 : kd < 1000000000) : HM l yX4_take wsX4_take ({ frames := 8, cells := 4001 - Pp, slots := 128 * (4000 - Pp) + 32000, locals := 200 } : Room) D G (jT cI cJ cB cZ) [.ref h, .int (nI kd)] w (fun v u k n => v = some (.int (bI (rTake tk kd a co).1)) ∧ ∃ P2 : Nat, jRd cI h ht hp P2 wk pr (rTake tk kd a co).2.2 (rTake tk kd a co).2.1 u ∧ k + Pp ≤ P2 ∧ n + 128 * Pp ≤ 128 * P2) := by
  refine HM_of (cc := cX4_take) (maxL := 2) (ret := (some .boolean)) (lv := [(0, .ref h), (1, .int (nI kd))]) (by decide) rfl rfl (Nat.le_of_ble_eq_true rfl) (fun p e s m args below meth c A0 ls hx hb hr hts hown hlocks hml hnm hK hA hAm hl => ?_)
  have hLw := hw.len
  have hkb := hk.len
  refine jJ_of (fun H locs => lv_aload_n hx hb dX4_take_0 rfl (lv_at hl 0 rfl)) ?_
  have hsv1 := hw
  obtain ⟨wp1, rfl, hp1, ha1⟩ := hsv1
  refine jJ_open (xs := [[(h, .inr (3, [.ref ht, .ref hp, .int (nI a)]))], wk, wp1]) (r := []) (cs2 := [[(h, .inr (3, [.ref ht, .ref hp, .int (nI a)]))], wk, wp1]) rfl ?_
  refine jJ_get hx hb (C := RX4) (T := TX4) (N := 3) hts uX4_in_X4_take hown hK 0 rfl rfl 0 (by decide) (hts (.fieldLink RX4 7 "ValueBlocks$Reader" "tokens" "LValueBlocks$Tokens;") (by decide +kernel)) (fun _ h9 => h9) rfl dX4_take_1 ?_
  refine jJ_of (fun H locs => lv_aload_n hx hb dX4_take_4 rfl (lv_at hl 0 rfl)) ?_
  refine jJ_get hx hb (C := RX4) (T := TX4) (N := 3) hts uX4_in_X4_take hown hK 0 rfl rfl 2 (by decide) (hts (.fieldLink RX4 17 "ValueBlocks$Reader" "at" "I") (by decide +kernel)) (fun _ h9 => h9) rfl dX4_take_5 ?_
  refine jJ_callV (As := [.int (nI a)]) (rest := []) (wc := _) (cs2 := [[(h, .inr (3, [.ref ht, .ref hp, .int (nI a)]))], wp1]) (C := RX6) (T := TX6) (N := 5) (ci := 5) [1] [0, 2] ⟨hx, hb, hml, hown, hts⟩ hK hA hAm (c_Tok_kind hk a (by omega)) (cwV 1 hts gX4_take_X6_kind rfl rfl rfl (by decide +kernel) ⟨Nat.le_of_ble_eq_true rfl, Nat.le_of_ble_eq_true rfl⟩) (nn := 3) rfl (by decide) rfl rfl hk.hd rfl rfl rfl hl.1 (Nat.le_of_ble_eq_true rfl) dX4_take_8 (by show _ + 0 ≤ 4001 - Pp; omega) (by show _ + 0 ≤ 128 * (4000 - Pp) + 32000; omega) (fun v u2 k2 n2 hq2 => ?_)
  obtain ⟨rfl, hw2, rfl, rfl⟩ := hq2
  rw [hw2]
  refine jJ_eq (g2 := F0 m 11 ls [.int (nI ((tk 0).getD a 0))]) (cs2 := [wk, [(h, .inr (3, [.ref ht, .ref hp, .int (nI a)]))], wp1]) rfl rfl ?_
  have hvb2 := hkb.2.2.2.2.2.2.1 0 (by decide) a
  refine jJ_of (fun H locs => lv_iload_n hx hb dX4_take_11 rfl (lv_at hl 1 rfl)) ?_
  refine jJ_of2 (fun H locs => jn_icmp_eq (tgt := 17) hx hb dX4_take_12 (by decide) (by omega) (by omega)) (fun c12 => ?_) (fun c12 => ?_)
  · refine jJ_of (fun H locs => lv_aload_n hx hb dX4_take_17 rfl (lv_at hl 0 rfl)) ?_
    refine jJ_of (fun H locs => lv_dup hx hb dX4_take_18 rfl) ?_
    refine jJ_get hx hb (C := RX4) (T := TX4) (N := 3) hts uX4_in_X4_take hown hK 1 rfl rfl 2 (by decide) (hts (.fieldLink RX4 17 "ValueBlocks$Reader" "at" "I") (by decide +kernel)) (fun _ h9 => h9) rfl dX4_take_19 ?_
    refine jJ_of (fun H locs => lv_iconst (v := (nI 1)) hx hb dX4_take_22 (by decide)) ?_
    refine jJ_of (fun H locs => jn_iadd hx hb dX4_take_23) ?_
    refine jJ_put hx hb (C := RX4) (T := TX4) (N := 3) (ty := .int) (v := .int (nI (a + 1))) hts uX4_in_X4_take tyX4 tyX4_ok nmX4 hown hK 1 rfl rfl 2 (by decide) (hts (.fieldLink RX4 17 "ValueBlocks$Reader" "at" "I") (by decide +kernel)) (fun _ h9 => h9) rfl (by decide +kernel) rfl rfl (Nat.le_of_ble_eq_true rfl) dX4_take_24 (cs2 := [wk, [(h, .inr (3, [.ref ht, .ref hp, .int (nI (a + 1))]))], wp1]) rfl ?_
    refine jJ_of (fun H locs => lv_iconst (v := (nI 1)) hx hb dX4_take_27 (by decide)) ?_
    refine jJ_perm [1, 0, 2] (nn := 3) rfl (by decide) (cs2 := [[(h, .inr (3, [.ref ht, .ref hp, .int (nI (a + 1))]))], wk, wp1]) rfl ?_
    have hat3 := hk.lt a (by omega)
    have hrw3 : jRd cI h ht hp Pp wk pr co (a + 1) (jF [[(h, .inr (3, [.ref ht, .ref hp, .int (nI (a + 1))]))], wk, wp1]) := ⟨_, rfl, hp1, by omega⟩
    refine jJ_flat (cs2 := [jF [[(h, .inr (3, [.ref ht, .ref hp, .int (nI (a + 1))]))], wk, wp1]]) rfl ?_
    have hLr3 := hrw3.len
    have he : rTake tk kd a co = (true, a + 1, co) := by exact if_pos (by omega)
    exact jJ_zret hx hb hr hlocks dX4_take_28 (by show _ ≤ 4001 - Pp; omega) (by show _ ≤ 128 * (4000 - Pp) + 32000; omega) (Or.inr rfl) ⟨by rw [he]; rfl, Pp, by rw [he]; exact hrw3, by omega, by omega⟩
  · refine jJ_of (fun H locs => lv_iconst (v := (nI 0)) hx hb dX4_take_15 (by decide)) ?_
    refine jJ_perm [1, 0, 2] (nn := 3) rfl (by decide) (cs2 := [[(h, .inr (3, [.ref ht, .ref hp, .int (nI a)]))], wk, wp1]) rfl ?_
    have hrw4 : jRd cI h ht hp Pp wk pr co a (jF [[(h, .inr (3, [.ref ht, .ref hp, .int (nI a)]))], wk, wp1]) := ⟨_, rfl, hp1, by omega⟩
    refine jJ_flat (cs2 := [jF [[(h, .inr (3, [.ref ht, .ref hp, .int (nI a)]))], wk, wp1]]) rfl ?_
    have hLr4 := hrw4.len
    have he : rTake tk kd a co = (false, a, co) := by exact if_neg (by omega)
    exact jJ_zret hx hb hr hlocks dX4_take_16 (by show _ ≤ 4001 - Pp; omega) (by show _ ≤ 128 * (4000 - Pp) + 32000; omega) (Or.inl rfl) ⟨by rw [he]; rfl, Pp, by rw [he]; exact hrw4, by omega, by omega⟩
theorem uX3_in_X4_write : ∀ w ∈ u_ws RX3 TX3 8, w ∈ wsX4_write := by decide +kernel
theorem uX4_in_X4_write : ∀ w ∈ u_ws RX4 TX4 3, w ∈ wsX4_write := by decide +kernel
set_option maxHeartbeats 4000000 in
set_option maxRecDepth 100000 in
/-- write(act) -/
theorem c_Rd_write {h ht hT hp Pk Pp nx a : Nat} {T : List Nat} {tk : Nat → List Nat} {pr : Nat → List Int32} {co : List Int32} {wk w : va_W} (hk : jTok cI ht hT Pk T tk nx wk) (hw : jRd cI h ht hp Pp wk pr co a w) (act : Nat) (hact : act < 1000000000) : HM l yX4_write wsX4_write ({ frames := 7, cells := 4001 - Pp, slots := 128 * (4000 - Pp) + 32000, locals := 200 } : Room) D G (jT cI cJ cB cZ) [.ref h, .int (nI act)] w (fun v u k n => v = some (.int (bI (rWr act a co).1)) ∧ ∃ P2 : Nat, jRd cI h ht hp P2 wk pr (rWr act a co).2.2 (rWr act a co).2.1 u ∧ k + Pp ≤ P2 ∧ n + 128 * Pp ≤ 128 * P2) := by
  refine HM_of (cc := cX4_write) (maxL := 2) (ret := (some .boolean)) (lv := [(0, .ref h), (1, .int (nI act))]) (by decide) rfl rfl (Nat.le_of_ble_eq_true rfl) (fun p e s m args below meth c A0 ls hx hb hr hts hown hlocks hml hnm hK hA hAm hl => ?_)
  have hLw := hw.len
  have hkb := hk.len
  refine jJ_of (fun H locs => lv_aload_n hx hb dX4_write_0 rfl (lv_at hl 0 rfl)) ?_
  have hsv1 := hw
  obtain ⟨wp1, rfl, hp1, ha1⟩ := hsv1
  refine jJ_open (xs := [[(h, .inr (3, [.ref ht, .ref hp, .int (nI a)]))], wk, wp1]) (r := []) (cs2 := [[(h, .inr (3, [.ref ht, .ref hp, .int (nI a)]))], wk, wp1]) rfl ?_
  refine jJ_get hx hb (C := RX4) (T := TX4) (N := 3) hts uX4_in_X4_write hown hK 0 rfl rfl 1 (by decide) (hts (.fieldLink RX4 13 "ValueBlocks$Reader" "out" "LValueBlocks$Program;") (by decide +kernel)) (fun _ h9 => h9) rfl dX4_write_1 ?_
  refine jJ_perm [2, 0, 1] (nn := 3) rfl (by decide) (cs2 := [wp1, [(h, .inr (3, [.ref ht, .ref hp, .int (nI a)]))], wk]) rfl ?_
  have hsv2 := hp1
  obtain ⟨a2, q2, v2, rfl, hr2, hP2⟩ := hsv2
  have hl02 := (hr2 0 (by decide)).len
  refine jJ_open (xs := jPw hp a2 v2) (r := [[(h, .inr (3, [.ref ht, .ref hp, .int (nI a)]))], wk]) (cs2 := [[(hp, .inr (2, [.ref (a2 0), .ref (a2 1), .ref (a2 2), .ref (a2 3), .ref (a2 4), .ref (a2 5), .ref (a2 6), .ref (a2 7)]))], v2 0, v2 1, v2 2, v2 3, v2 4, v2 5, v2 6, v2 7, [(h, .inr (3, [.ref ht, .ref hp, .int (nI a)]))], wk]) rfl ?_
  refine jJ_getN hx hb (C := RX3) (T := TX3) (N := 8) hts uX3_in_X4_write hown hK 0 rfl rfl 0 (by decide) (va_Nw.use rfl hAm.2.2.2.2.2.2.2.1) (fun _ h9 => h9) rfl dX4_write_4 ?_
  refine jJ_of (fun H locs => lv_iload_n hx hb dX4_write_7 rfl (lv_at hl 1 rfl)) ?_
  rw [nI_iI act]
  refine jJ_of (fun H locs => jz_ineg hx hb dX4_write_8) ?_
  refine jJ_callV (As := [.int (iI (-((act : Nat) : Int)))]) (rest := []) (wc := _) (cs2 := [[(hp, .inr (2, [.ref (a2 0), .ref (a2 1), .ref (a2 2), .ref (a2 3), .ref (a2 4), .ref (a2 5), .ref (a2 6), .ref (a2 7)]))], v2 1, v2 2, v2 3, v2 4, v2 5, v2 6, v2 7, [(h, .inr (3, [.ref ht, .ref hp, .int (nI a)]))], wk]) (C := RX5) (T := TX5) (N := 3) (ci := 4) [1] [0, 2, 3, 4, 5, 6, 7, 8, 9, 10] ⟨hx, hb, hml, hown, hts⟩ hK hA hAm (c_Row_addT (hr2 0 (by decide)) (iI (-((act : Nat) : Int)))) (cwV 1 hts gX4_write_X5_add rfl rfl rfl (by decide +kernel) ⟨Nat.le_of_ble_eq_true rfl, Nat.le_of_ble_eq_true rfl⟩) (nn := 11) rfl (by decide) rfl rfl (hr2 0 (by decide)).hd rfl rfl rfl hl.1 (Nat.le_of_ble_eq_true rfl) dX4_write_9 (by show _ + 1 ≤ 4001 - Pp; omega) (by show _ + 32000 ≤ 128 * (4000 - Pp) + 32000; omega) (fun v u3 k3 n3 hq3 => ?_)
  obtain ⟨rfl, qq3, hqq3, hu3, hk3, hn3, hkk3, hnn3⟩ := hq3
  have hl3 := hu3.len
  refine jJ_eq (g2 := F0 m 12 ls []) (cs2 := [u3, [(hp, .inr (2, [.ref (a2 0), .ref (a2 1), .ref (a2 2), .ref (a2 3), .ref (a2 4), .ref (a2 5), .ref (a2 6), .ref (a2 7)]))], v2 1, v2 2, v2 3, v2 4, v2 5, v2 6, v2 7, [(h, .inr (3, [.ref ht, .ref hp, .int (nI a)]))], wk]) rfl rfl ?_
  refine jJ_of (fun H locs => lv_iconst (v := (nI 1)) hx hb dX4_write_12 (by decide)) ?_
  refine jJ_perm [1, 0, 2, 3, 4, 5, 6, 7, 8, 9, 10] (nn := 11) rfl (by decide) (cs2 := [[(hp, .inr (2, [.ref (a2 0), .ref (a2 1), .ref (a2 2), .ref (a2 3), .ref (a2 4), .ref (a2 5), .ref (a2 6), .ref (a2 7)]))], u3, v2 1, v2 2, v2 3, v2 4, v2 5, v2 6, v2 7, [(h, .inr (3, [.ref ht, .ref hp, .int (nI a)]))], wk]) rfl ?_
  have hR4 := jrows_upd hr2 0 hu3
  have hPu4 := jP_upd (q := q2) (i := 0) (x := qq3) (by decide)
  obtain ⟨P4, hPe4⟩ : ∃ z : Nat, z = q2 0 + q2 1 + q2 2 + q2 3 + q2 4 + q2 5 + q2 6 + q2 7 + qq3 - q2 0 := ⟨_, rfl⟩
  have hpw4 : jProg cI hp P4 (va_up pr 0 (jAdd 8000 co ((iI (-((act : Nat) : Int)))))) (jF [[(hp, .inr (2, [.ref (a2 0), .ref (a2 1), .ref (a2 2), .ref (a2 3), .ref (a2 4), .ref (a2 5), .ref (a2 6), .ref (a2 7)]))], u3, v2 1, v2 2, v2 3, v2 4, v2 5, v2 6, v2 7]) := by rw [← va_up_up pr 0 co]; exact ⟨a2, _, _, rfl, hR4, by omega⟩
  refine jJ_flat (cs2 := [jF [[(hp, .inr (2, [.ref (a2 0), .ref (a2 1), .ref (a2 2), .ref (a2 3), .ref (a2 4), .ref (a2 5), .ref (a2 6), .ref (a2 7)]))], u3, v2 1, v2 2, v2 3, v2 4, v2 5, v2 6, v2 7], [(h, .inr (3, [.ref ht, .ref hp, .int (nI a)]))], wk]) (by simp only [jF_cons, jF, List.append_assoc, List.append_nil]) ?_
  refine jJ_perm [1, 2, 0] (nn := 3) rfl (by decide) (cs2 := [[(h, .inr (3, [.ref ht, .ref hp, .int (nI a)]))], wk, jF [[(hp, .inr (2, [.ref (a2 0), .ref (a2 1), .ref (a2 2), .ref (a2 3), .ref (a2 4), .ref (a2 5), .ref (a2 6), .ref (a2 7)]))], u3, v2 1, v2 2, v2 3, v2 4, v2 5, v2 6, v2 7]]) rfl ?_
  have hrw5 : jRd cI h ht hp P4 wk pr (jAdd 8000 co ((iI (-((act : Nat) : Int))))) a (jF [[(h, .inr (3, [.ref ht, .ref hp, .int (nI a)]))], wk, jF [[(hp, .inr (2, [.ref (a2 0), .ref (a2 1), .ref (a2 2), .ref (a2 3), .ref (a2 4), .ref (a2 5), .ref (a2 6), .ref (a2 7)]))], u3, v2 1, v2 2, v2 3, v2 4, v2 5, v2 6, v2 7]]) := ⟨_, rfl, hpw4, by omega⟩
  refine jJ_flat (cs2 := [jF [[(h, .inr (3, [.ref ht, .ref hp, .int (nI a)]))], wk, jF [[(hp, .inr (2, [.ref (a2 0), .ref (a2 1), .ref (a2 2), .ref (a2 3), .ref (a2 4), .ref (a2 5), .ref (a2 6), .ref (a2 7)]))], u3, v2 1, v2 2, v2 3, v2 4, v2 5, v2 6, v2 7]]]) rfl ?_
  have hLr5 := hrw5.len
  have he : rWr act a co = (true, a, jAdd 8000 co ((iI (-((act : Nat) : Int))))) := by rfl
  exact jJ_zret hx hb hr hlocks dX4_write_13 (by show _ ≤ 4001 - Pp; omega) (by show _ ≤ 128 * (4000 - Pp) + 32000; omega) (Or.inr rfl) ⟨by rw [he]; rfl, P4, by rw [he]; exact hrw5, by omega, by omega⟩
theorem uX3_in_X4_literal : ∀ w ∈ u_ws RX3 TX3 8, w ∈ wsX4_literal := by decide +kernel
theorem uX4_in_X4_literal : ∀ w ∈ u_ws RX4 TX4 3, w ∈ wsX4_literal := by decide +kernel
set_option maxHeartbeats 4000000 in
set_option maxRecDepth 100000 in
/-- literal() -/
theorem c_Rd_literal {h ht hT hp Pk Pp nx a : Nat} {T : List Nat} {tk : Nat → List Nat} {pr : Nat → List Int32} {co : List Int32} {wk w : va_W} (hk : jTok cI ht hT Pk T tk nx wk) (hw : jRd cI h ht hp Pp wk pr co a w) (hnz : ¬ (tk 0).getD a 0 = 0) : HM l yX4_literal wsX4_literal ({ frames := 7, cells := 4001 - Pp, slots := 128 * (4000 - Pp) + 32000, locals := 200 } : Room) D G (jT cI cJ cB cZ) [.ref h] w (fun v u k n => v = some (.int (bI (rLit tk a co).1)) ∧ ∃ P2 : Nat, jRd cI h ht hp P2 wk pr (rLit tk a co).2.2 (rLit tk a co).2.1 u ∧ k + Pp ≤ P2 ∧ n + 128 * Pp ≤ 128 * P2) := by
  refine HM_of (cc := cX4_literal) (maxL := 1) (ret := (some .boolean)) (lv := [(0, .ref h)]) (by decide) rfl rfl (Nat.le_of_ble_eq_true rfl) (fun p e s m args below meth c A0 ls hx hb hr hts hown hlocks hml hnm hK hA hAm hl => ?_)
  have hLw := hw.len
  have hkb := hk.len
  refine jJ_of (fun H locs => lv_aload_n hx hb dX4_literal_0 rfl (lv_at hl 0 rfl)) ?_
  have hsv1 := hw
  obtain ⟨wp1, rfl, hp1, ha1⟩ := hsv1
  refine jJ_open (xs := [[(h, .inr (3, [.ref ht, .ref hp, .int (nI a)]))], wk, wp1]) (r := []) (cs2 := [[(h, .inr (3, [.ref ht, .ref hp, .int (nI a)]))], wk, wp1]) rfl ?_
  refine jJ_get hx hb (C := RX4) (T := TX4) (N := 3) hts uX4_in_X4_literal hown hK 0 rfl rfl 1 (by decide) (hts (.fieldLink RX4 13 "ValueBlocks$Reader" "out" "LValueBlocks$Program;") (by decide +kernel)) (fun _ h9 => h9) rfl dX4_literal_1 ?_
  refine jJ_perm [2, 0, 1] (nn := 3) rfl (by decide) (cs2 := [wp1, [(h, .inr (3, [.ref ht, .ref hp, .int (nI a)]))], wk]) rfl ?_
  have hsv2 := hp1
  obtain ⟨a2, q2, v2, rfl, hr2, hP2⟩ := hsv2
  have hl02 := (hr2 0 (by decide)).len
  refine jJ_open (xs := jPw hp a2 v2) (r := [[(h, .inr (3, [.ref ht, .ref hp, .int (nI a)]))], wk]) (cs2 := [[(hp, .inr (2, [.ref (a2 0), .ref (a2 1), .ref (a2 2), .ref (a2 3), .ref (a2 4), .ref (a2 5), .ref (a2 6), .ref (a2 7)]))], v2 0, v2 1, v2 2, v2 3, v2 4, v2 5, v2 6, v2 7, [(h, .inr (3, [.ref ht, .ref hp, .int (nI a)]))], wk]) rfl ?_
  refine jJ_getN hx hb (C := RX3) (T := TX3) (N := 8) hts uX3_in_X4_literal hown hK 0 rfl rfl 0 (by decide) (va_Nw.use rfl hAm.2.2.2.2.2.2.2.1) (fun _ h9 => h9) rfl dX4_literal_4 ?_
  refine jJ_of (fun H locs => lv_aload_n hx hb dX4_literal_7 rfl (lv_at hl 0 rfl)) ?_
  refine jJ_get hx hb (C := RX4) (T := TX4) (N := 3) hts uX4_in_X4_literal hown hK 9 rfl rfl 0 (by decide) (hts (.fieldLink RX4 7 "ValueBlocks$Reader" "tokens" "LValueBlocks$Tokens;") (by decide +kernel)) (fun _ h9 => h9) rfl dX4_literal_8 ?_
  refine jJ_of (fun H locs => lv_aload_n hx hb dX4_literal_11 rfl (lv_at hl 0 rfl)) ?_
  refine jJ_get hx hb (C := RX4) (T := TX4) (N := 3) hts uX4_in_X4_literal hown hK 9 rfl rfl 2 (by decide) (hts (.fieldLink RX4 17 "ValueBlocks$Reader" "at" "I") (by decide +kernel)) (fun _ h9 => h9) rfl dX4_literal_12 ?_
  refine jJ_callV (As := [.int (nI a)]) (rest := [.ref (a2 0)]) (wc := _) (cs2 := [[(hp, .inr (2, [.ref (a2 0), .ref (a2 1), .ref (a2 2), .ref (a2 3), .ref (a2 4), .ref (a2 5), .ref (a2 6), .ref (a2 7)]))], v2 0, v2 1, v2 2, v2 3, v2 4, v2 5, v2 6, v2 7, [(h, .inr (3, [.ref ht, .ref hp, .int (nI a)]))]]) (C := RX6) (T := TX6) (N := 5) (ci := 5) [10] [0, 1, 2, 3, 4, 5, 6, 7, 8, 9] ⟨hx, hb, hml, hown, hts⟩ hK hA hAm (c_Tok_worth hk a (by omega)) (cwV 1 hts gX4_literal_X6_worth rfl rfl rfl (by decide +kernel) ⟨Nat.le_of_ble_eq_true rfl, Nat.le_of_ble_eq_true rfl⟩) (nn := 11) rfl (by decide) rfl rfl hk.hd rfl rfl rfl hl.1 (Nat.le_of_ble_eq_true rfl) dX4_literal_15 (by show _ + 0 ≤ 4001 - Pp; omega) (by show _ + 0 ≤ 128 * (4000 - Pp) + 32000; omega) (fun v u3 k3 n3 hq3 => ?_)
  obtain ⟨rfl, hw3, rfl, rfl⟩ := hq3
  rw [hw3]
  refine jJ_eq (g2 := F0 m 18 ls [.int (nI ((tk 2).getD a 0)), .ref (a2 0)]) (cs2 := [wk, [(hp, .inr (2, [.ref (a2 0), .ref (a2 1), .ref (a2 2), .ref (a2 3), .ref (a2 4), .ref (a2 5), .ref (a2 6), .ref (a2 7)]))], v2 0, v2 1, v2 2, v2 3, v2 4, v2 5, v2 6, v2 7, [(h, .inr (3, [.ref ht, .ref hp, .int (nI a)]))]]) rfl rfl ?_
  have hvb3 := hkb.2.2.2.2.2.2.1 2 (by decide) a
  refine jJ_callV (As := [.int (nI ((tk 2).getD a 0))]) (rest := []) (wc := _) (cs2 := [wk, [(hp, .inr (2, [.ref (a2 0), .ref (a2 1), .ref (a2 2), .ref (a2 3), .ref (a2 4), .ref (a2 5), .ref (a2 6), .ref (a2 7)]))], v2 1, v2 2, v2 3, v2 4, v2 5, v2 6, v2 7, [(h, .inr (3, [.ref ht, .ref hp, .int (nI a)]))]]) (C := RX5) (T := TX5) (N := 3) (ci := 4) [2] [0, 1, 3, 4, 5, 6, 7, 8, 9, 10] ⟨hx, hb, hml, hown, hts⟩ hK hA hAm (c_Row_addT (hr2 0 (by decide)) (nI ((tk 2).getD a 0))) (cwV 1 hts gX4_literal_X5_add rfl rfl rfl (by decide +kernel) ⟨Nat.le_of_ble_eq_true rfl, Nat.le_of_ble_eq_true rfl⟩) (nn := 11) rfl (by decide) rfl rfl (hr2 0 (by decide)).hd rfl rfl rfl hl.1 (Nat.le_of_ble_eq_true rfl) dX4_literal_18 (by show _ + 1 ≤ 4001 - Pp; omega) (by show _ + 32000 ≤ 128 * (4000 - Pp) + 32000; omega) (fun v u4 k4 n4 hq4 => ?_)
  obtain ⟨rfl, qq4, hqq4, hu4, hk4, hn4, hkk4, hnn4⟩ := hq4
  have hl4 := hu4.len
  refine jJ_eq (g2 := F0 m 21 ls []) (cs2 := [u4, wk, [(hp, .inr (2, [.ref (a2 0), .ref (a2 1), .ref (a2 2), .ref (a2 3), .ref (a2 4), .ref (a2 5), .ref (a2 6), .ref (a2 7)]))], v2 1, v2 2, v2 3, v2 4, v2 5, v2 6, v2 7, [(h, .inr (3, [.ref ht, .ref hp, .int (nI a)]))]]) rfl rfl ?_
  refine jJ_of (fun H locs => lv_aload_n hx hb dX4_literal_21 rfl (lv_at hl 0 rfl)) ?_
  refine jJ_of (fun H locs => lv_dup hx hb dX4_literal_22 rfl) ?_
  refine jJ_get hx hb (C := RX4) (T := TX4) (N := 3) hts uX4_in_X4_literal hown hK 10 rfl rfl 2 (by decide) (hts (.fieldLink RX4 17 "ValueBlocks$Reader" "at" "I") (by decide +kernel)) (fun _ h9 => h9) rfl dX4_literal_23 ?_
  refine jJ_of (fun H locs => lv_iconst (v := (nI 1)) hx hb dX4_literal_26 (by decide)) ?_
  refine jJ_of (fun H locs => jn_iadd hx hb dX4_literal_27) ?_
  refine jJ_put hx hb (C := RX4) (T := TX4) (N := 3) (ty := .int) (v := .int (nI (a + 1))) hts uX4_in_X4_literal tyX4 tyX4_ok nmX4 hown hK 10 rfl rfl 2 (by decide) (hts (.fieldLink RX4 17 "ValueBlocks$Reader" "at" "I") (by decide +kernel)) (fun _ h9 => h9) rfl (by decide +kernel) rfl rfl (Nat.le_of_ble_eq_true rfl) dX4_literal_28 (cs2 := [u4, wk, [(hp, .inr (2, [.ref (a2 0), .ref (a2 1), .ref (a2 2), .ref (a2 3), .ref (a2 4), .ref (a2 5), .ref (a2 6), .ref (a2 7)]))], v2 1, v2 2, v2 3, v2 4, v2 5, v2 6, v2 7, [(h, .inr (3, [.ref ht, .ref hp, .int (nI (a + 1))]))]]) rfl ?_
  refine jJ_of (fun H locs => lv_iconst (v := (nI 1)) hx hb dX4_literal_31 (by decide)) ?_
  refine jJ_perm [2, 0, 3, 4, 5, 6, 7, 8, 9, 1, 10] (nn := 11) rfl (by decide) (cs2 := [[(hp, .inr (2, [.ref (a2 0), .ref (a2 1), .ref (a2 2), .ref (a2 3), .ref (a2 4), .ref (a2 5), .ref (a2 6), .ref (a2 7)]))], u4, v2 1, v2 2, v2 3, v2 4, v2 5, v2 6, v2 7, wk, [(h, .inr (3, [.ref ht, .ref hp, .int (nI (a + 1))]))]]) rfl ?_
  have hR5 := jrows_upd hr2 0 hu4
  have hPu5 := jP_upd (q := q2) (i := 0) (x := qq4) (by decide)
  obtain ⟨P5, hPe5⟩ : ∃ z : Nat, z = q2 0 + q2 1 + q2 2 + q2 3 + q2 4 + q2 5 + q2 6 + q2 7 + qq4 - q2 0 := ⟨_, rfl⟩
  have hpw5 : jProg cI hp P5 (va_up pr 0 (jAdd 8000 co ((nI ((tk 2).getD a 0))))) (jF [[(hp, .inr (2, [.ref (a2 0), .ref (a2 1), .ref (a2 2), .ref (a2 3), .ref (a2 4), .ref (a2 5), .ref (a2 6), .ref (a2 7)]))], u4, v2 1, v2 2, v2 3, v2 4, v2 5, v2 6, v2 7]) := by rw [← va_up_up pr 0 co]; exact ⟨a2, _, _, rfl, hR5, by omega⟩
  refine jJ_flat (cs2 := [jF [[(hp, .inr (2, [.ref (a2 0), .ref (a2 1), .ref (a2 2), .ref (a2 3), .ref (a2 4), .ref (a2 5), .ref (a2 6), .ref (a2 7)]))], u4, v2 1, v2 2, v2 3, v2 4, v2 5, v2 6, v2 7], wk, [(h, .inr (3, [.ref ht, .ref hp, .int (nI (a + 1))]))]]) (by simp only [jF_cons, jF, List.append_assoc, List.append_nil]) ?_
  refine jJ_perm [2, 1, 0] (nn := 3) rfl (by decide) (cs2 := [[(h, .inr (3, [.ref ht, .ref hp, .int (nI (a + 1))]))], wk, jF [[(hp, .inr (2, [.ref (a2 0), .ref (a2 1), .ref (a2 2), .ref (a2 3), .ref (a2 4), .ref (a2 5), .ref (a2 6), .ref (a2 7)]))], u4, v2 1, v2 2, v2 3, v2 4, v2 5, v2 6, v2 7]]) rfl ?_
  have hat6 := hk.lt a hnz
  have hrw6 : jRd cI h ht hp P5 wk pr (jAdd 8000 co ((nI ((tk 2).getD a 0)))) (a + 1) (jF [[(h, .inr (3, [.ref ht, .ref hp, .int (nI (a + 1))]))], wk, jF [[(hp, .inr (2, [.ref (a2 0), .ref (a2 1), .ref (a2 2), .ref (a2 3), .ref (a2 4), .ref (a2 5), .ref (a2 6), .ref (a2 7)]))], u4, v2 1, v2 2, v2 3, v2 4, v2 5, v2 6, v2 7]]) := ⟨_, rfl, hpw5, by omega⟩
  refine jJ_flat (cs2 := [jF [[(h, .inr (3, [.ref ht, .ref hp, .int (nI (a + 1))]))], wk, jF [[(hp, .inr (2, [.ref (a2 0), .ref (a2 1), .ref (a2 2), .ref (a2 3), .ref (a2 4), .ref (a2 5), .ref (a2 6), .ref (a2 7)]))], u4, v2 1, v2 2, v2 3, v2 4, v2 5, v2 6, v2 7]]]) rfl ?_
  have hLr6 := hrw6.len
  have he : rLit tk a co = (true, a + 1, jAdd 8000 co ((nI ((tk 2).getD a 0)))) := by rfl
  exact jJ_zret hx hb hr hlocks dX4_literal_32 (by show _ ≤ 4001 - Pp; omega) (by show _ ≤ 128 * (4000 - Pp) + 32000; omega) (Or.inr rfl) ⟨by rw [he]; rfl, P5, by rw [he]; exact hrw6, by omega, by omega⟩
end RD
