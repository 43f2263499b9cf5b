/-! ValueBlocks$Reader: what it reads of the tokens tk, from the place a on, with the code co so far: (there, the place after it, the code) -/
def jR : Type := Bool × Nat × List Int32
def rThen (x : Bool × Nat × List Int32) (f : Nat → List Int32 → Bool × Nat × List Int32) : Bool × Nat × List Int32 := if x.1 = true then f x.2.1 x.2.2 else x
theorem rThen_t (a : Nat) (co : List Int32) (f : Nat → List Int32 → Bool × Nat × List Int32) : rThen (true, a, co) f = f a co := rfl
theorem rThen_f (a : Nat) (co : List Int32) (f : Nat → List Int32 → Bool × Nat × List Int32) : rThen (false, a, co) f = (false, a, co) := rfl
def rTake (tk : Nat → List Nat) (k a : Nat) (co : List Int32) : Bool × Nat × List Int32 := if (tk 0).getD a 0 = k then (true, a + 1, co) else (false, a, co)
def rLit (tk : Nat → List Nat) (a : Nat) (co : List Int32) : Bool × Nat × List Int32 := (true, a + 1, jAdd 8000 co (nI ((tk 2).getD a 0)))
def rWr (act a : Nat) (co : List Int32) : Bool × Nat × List Int32 := (true, a, jAdd 8000 co (iI (-(act : Int))))
def rLoop (tk : Nat → List Nat) (jn : Nat → Bool) (part : Nat → List Int32 → Bool × Nat × List Int32) : Nat → Nat → List Int32 → Bool × Nat × List Int32
  | 0 => fun a co => (true, a, co)
  | f + 1 => fun a co => if jn ((tk 0).getD a 0) = true then rThen (rThen (part (a + 1) co) (rWr ((tk 0).getD a 0))) (rLoop tk jn part f) else (true, a, co)
def rSeq (tk : Nat → List Nat) (jn : Nat → Bool) (part : Nat → List Int32 → Bool × Nat × List Int32) (a : Nat) (co : List Int32) : Bool × Nat × List Int32 := rThen (part a co) (rLoop tk jn part 8000)
def jnP (c : Nat) : Bool := decide (c = 43 ∨ c = 45 ∨ c = 311 ∨ c = 312)
def jnF (c : Nat) : Bool := decide (c = 42 ∨ c = 47 ∨ c = 309 ∨ c = 310)
theorem jnP_nz {c : Nat} (h : jnP c = true) : ¬ c = 0 := by have := of_decide_eq_true h; omega
theorem jnF_nz {c : Nat} (h : jnF c = true) : ¬ c = 0 := by have := of_decide_eq_true h; omega
def rPl (tk : Nat → List Nat) (br : Nat → List Int32 → Bool × Nat × List Int32) (a : Nat) (co : List Int32) : Bool × Nat × List Int32 := if (tk 0).getD a 0 = 256 then rLit tk a co else br a co
def rBr (tk : Nat → List Nat) (te : Nat → List Int32 → Bool × Nat × List Int32) (a : Nat) (co : List Int32) : Bool × Nat × List Int32 := rThen (rThen (rTake tk 91 a co) te) (rTake tk 93)
def rTe (tk : Nat → List Nat) (su : Nat → List Int32 → Bool × Nat × List Int32) (a : Nat) (co : List Int32) : Bool × Nat × List Int32 := rThen (su a co) (fun a co => if 313 ≤ (tk 0).getD a 0 ∧ (tk 0).getD a 0 ≤ 318 then rThen (su (a + 1) co) (rWr ((tk 0).getD a 0)) else (true, a, co))
def rFw (tk : Nat → List Nat) (ng br : Nat → List Int32 → Bool × Nat × List Int32) (a : Nat) (co : List Int32) : Bool × Nat × List Int32 :=
  if (tk 0).getD a 0 = 45 then ng a co
  else if (tk 0).getD a 0 = 305 ∨ (tk 0).getD a 0 = 306 ∨ (tk 0).getD a 0 = 307 ∨ (tk 0).getD a 0 = 308 then rThen (br (a + 1) co) (rWr ((tk 0).getD a 0))
  else if (tk 0).getD a 0 = 35 then rThen (rPl tk br (a + 1) co) (rWr 2)
  else if (tk 0).getD a 0 = 256 ∨ (tk 0).getD a 0 = 257 then rLit tk a co
  else br a co
def rNo (a : Nat) (co : List Int32) : Bool × Nat × List Int32 := (false, a, co)
def rFac (tk : Nat → List Nat) : Nat → Nat → List Int32 → Bool × Nat × List Int32
  | 0 => rFw tk rNo rNo
  | r + 1 => rFw tk (fun a co => rThen (rFac tk r (a + 1) co) (rWr 1)) (rBr tk (rTe tk (rSeq tk jnP (rSeq tk jnF (rFac tk r)))))
def rPro (tk : Nat → List Nat) (r : Nat) : Nat → List Int32 → Bool × Nat × List Int32 := rSeq tk jnF (rFac tk r)
def rSum (tk : Nat → List Nat) (r : Nat) : Nat → List Int32 → Bool × Nat × List Int32 := rSeq tk jnP (rPro tk r)
def rTes (tk : Nat → List Nat) (r : Nat) : Nat → List Int32 → Bool × Nat × List Int32 := rTe tk (rSum tk r)
def rBra (tk : Nat → List Nat) : Nat → Nat → List Int32 → Bool × Nat × List Int32
  | 0 => rNo
  | r + 1 => rBr tk (rTes tk r)
def rNeg (tk : Nat → List Nat) : Nat → Nat → List Int32 → Bool × Nat × List Int32
  | 0 => rNo
  | r + 1 => fun a co => rThen (rFac tk r (a + 1) co) (rWr 1)
theorem rFac_eq (tk : Nat → List Nat) (r a : Nat) (co : List Int32) : rFac tk r a co = rFw tk (rNeg tk r) (rBra tk r) a co := by
  cases r <;> rfl
/-- the reader at h over the tokens' chunk wk and the program at hp, whose code is co -/
def jRd (cI : ClassId) (h ht hp P : Nat) (wk : va_W) (pr : Nat → List Int32) (co : List Int32) (a : Nat) (w : va_W) : Prop := ∃ wp, w = jF [[(h, .inr (3, [.ref ht, .ref hp, .int (nI a)]))], wk, wp] ∧ jProg cI hp P (va_up pr 0 co) wp ∧ a ≤ 8002
theorem jRd.hd {cI : ClassId} {h ht hp P a : Nat} {wk w : va_W} {pr : Nat → List Int32} {co : List Int32} (hw : jRd cI h ht hp P wk pr co a w) : ∃ (i : Nat) (fs : List Value), w[i]? = some (h, .inr (3, fs)) := by
  obtain ⟨wp, rfl, -⟩ := hw
  exact ⟨0, _, rfl⟩
theorem jRd.len {cI : ClassId} {h ht hp P a : Nat} {wk w : va_W} {pr : Nat → List Int32} {co : List Int32} (hw : jRd cI h ht hp P wk pr co a w) : 8 ≤ P ∧ P ≤ 4000 ∧ a ≤ 8002 ∧ co.length ≤ 8000 := by
  obtain ⟨wp, rfl, hp, ha⟩ := hw
  have h1 := hp.len
  exact ⟨h1.2.1, h1.2.2, ha, h1.1 0 (by decide)⟩
theorem va_up_up {α : Type} (f : Nat → α) (i : Nat) (x y : α) : va_up (va_up f i x) i y = va_up f i y := by
  funext j
  by_cases e : j = i
  · subst e; rw [va_up_self, va_up_self]
  · rw [va_up_ne _ _ e, va_up_ne _ _ e, va_up_ne _ _ e]
theorem jP_upd {q : Nat → Nat} {i x : Nat} (hi : i < 8) : va_up q i x 0 + va_up q i x 1 + va_up q i x 2 + va_up q i x 3 + va_up q i x 4 + va_up q i x 5 + va_up q i x 6 + va_up q i x 7 + q i = q 0 + q 1 + q 2 + q 3 + q 4 + q 5 + q 6 + q 7 + x := by
  rcases (show i = 0 ∨ i = 1 ∨ i = 2 ∨ i = 3 ∨ i = 4 ∨ i = 5 ∨ i = 6 ∨ i = 7 by omega) with rfl | rfl | rfl | rfl | rfl | rfl | rfl | rfl <;> simp only [va_up, ite_true, ite_false, Nat.reduceEqDiff] <;> omega
theorem jTok.lt {cI : ClassId} {h hT P nx : Nat} {T : List Nat} {tk : Nat → List Nat} {w : va_W} (hw : jTok cI h hT P T tk nx w) (j : Nat) (hj : ¬ (tk 0).getD j 0 = 0) : j + 1 ≤ 8002 := by
  have h1 := hw.len.2.1
  have h2 := getD_nz hj
  omega
section RD
variable {D : va_G} {G : Nat → Nat} {cI cJ cB cZ : ClassId} {l : Launch}
/-- the contract of one of the reader's parts -/
def cRd (D : va_G) (G : Nat → Nat) (cI cJ cB cZ : ClassId) (l : Launch) (y : MethodName) (ws : List Cond) (fr lo : Nat) (ex : List Value) (ht : Nat) (wk : va_W) (f : Nat → List Int32 → Bool × Nat × List Int32) : Prop :=
  ∀ (h hp Pp a : Nat) (pr : Nat → List Int32) (co : List Int32) (w : va_W), jRd cI h ht hp Pp wk pr co a w → HM l y ws ({ frames := fr, cells := 4001 - Pp, slots := 128 * (4000 - Pp) + 32000, locals := lo } : Room) D G (jT cI cJ cB cZ) (.ref h :: ex) w (fun v u k n => v = some (.int (bI (f a co).1)) ∧ ∃ P2 : Nat, jRd cI h ht hp P2 wk pr (f a co).2.2 (f a co).2.1 u ∧ k + Pp ≤ P2 ∧ n + 128 * Pp ≤ 128 * P2)

theorem uX4_in_X4_take : ∀ w ∈ u_ws RX4 TX4 3, w ∈ wsX4_take := by decide +kernel
set_option maxHeartbeats 4000000 in
set_option maxRecDepth 100000 in
/-- take(kd) -/
theorem c_Rd_take {h ht hT hp Pk Pp nx a : Nat} {T : List Nat} {tk : Nat → List Nat} {pr : Nat → List Int32} {co : List Int32} {wk w : va_W} (hk : jTok cI ht hT Pk T tk nx wk) (hw : jRd cI h ht hp Pp wk pr co a w) (kd : Nat) (hkd : 0 < kd) (hkd2 : kd < 1000000000) : HM l yX4_take wsX4_take ({ frames := 8, cells := 4001 - Pp, slots := 128 * (4000 - Pp) + 32000, locals := 200 } : Room) D G (jT cI cJ cB cZ) [.ref h, .int (nI kd)] w (fun v u k n => v = some (.int (bI (rTake tk kd a co).1)) ∧ ∃ P2 : Nat, jRd cI h ht hp P2 wk pr (rTake tk kd a co).2.2 (rTake tk kd a co).2.1 u ∧ k + Pp ≤ P2 ∧ n + 128 * Pp ≤ 128 * P2) := by
  refine HM_of (cc := cX4_take) (maxL := 2) (ret := (some .boolean)) (lv := [(0, .ref h), (1, .int (nI kd))]) (by decide) rfl rfl (Nat.le_of_ble_eq_true rfl) (fun p e s m args below meth c A0 ls hx hb hr hts hown hlocks hml hnm hK hA hAm hl => ?_)
  have hLw := hw.len
  have hkb := hk.len
  refine jJ_of (fun H locs => lv_aload_n hx hb dX4_take_0 rfl (lv_at hl 0 rfl)) ?_
  have hsv1 := hw
  obtain ⟨wp1, rfl, hp1, ha1⟩ := hsv1
  refine jJ_open (xs := [[(h, .inr (3, [.ref ht, .ref hp, .int (nI a)]))], wk, wp1]) (r := []) (cs2 := [[(h, .inr (3, [.ref ht, .ref hp, .int (nI a)]))], wk, wp1]) rfl ?_
  refine jJ_get hx hb (C := RX4) (T := TX4) (N := 3) hts uX4_in_X4_take hown hK 0 rfl rfl 0 (by decide) (hts (.fieldLink RX4 7 "ValueBlocks$Reader" "tokens" "LValueBlocks$Tokens;") (by decide +kernel)) (fun _ h9 => h9) rfl dX4_take_1 ?_
  refine jJ_of (fun H locs => lv_aload_n hx hb dX4_take_4 rfl (lv_at hl 0 rfl)) ?_
  refine jJ_get hx hb (C := RX4) (T := TX4) (N := 3) hts uX4_in_X4_take hown hK 0 rfl rfl 2 (by decide) (hts (.fieldLink RX4 17 "ValueBlocks$Reader" "at" "I") (by decide +kernel)) (fun _ h9 => h9) rfl dX4_take_5 ?_
  refine jJ_callV (As := [.int (nI a)]) (rest := []) (wc := _) (cs2 := [[(h, .inr (3, [.ref ht, .ref hp, .int (nI a)]))], wp1]) (C := RX6) (T := TX6) (N := 5) (ci := 5) [1] [0, 2] ⟨hx, hb, hml, hown, hts⟩ hK hA hAm (c_Tok_kind hk a (by omega)) (cwV 1 hts gX4_take_X6_kind rfl rfl rfl (by decide +kernel) ⟨Nat.le_of_ble_eq_true rfl, Nat.le_of_ble_eq_true rfl⟩) (nn := 3) rfl (by decide) rfl rfl hk.hd rfl rfl rfl hl.1 (Nat.le_of_ble_eq_true rfl) dX4_take_8 (by show _ + 0 ≤ 4001 - Pp; omega) (by show _ + 0 ≤ 128 * (4000 - Pp) + 32000; omega) (fun v u2 k2 n2 hq2 => ?_)
  obtain ⟨rfl, hw2, rfl, rfl⟩ := hq2
  rw [hw2]
  refine jJ_eq (g2 := F0 m 11 ls [.int (nI ((tk 0).getD a 0))]) (cs2 := [wk, [(h, .inr (3, [.ref ht, .ref hp, .int (nI a)]))], wp1]) rfl rfl ?_
  have hvb2 := hkb.2.2.2.2.2.2.1 0 (by decide) a
  refine jJ_of (fun H locs => lv_iload_n hx hb dX4_take_11 rfl (lv_at hl 1 rfl)) ?_
  refine jJ_of2 (fun H locs => jn_icmp_eq (tgt := 17) hx hb dX4_take_12 (by decide) (by omega) (by omega)) (fun c12 => ?_) (fun c12 => ?_)
  · refine jJ_of (fun H locs => lv_aload_n hx hb dX4_take_17 rfl (lv_at hl 0 rfl)) ?_
    refine jJ_of (fun H locs => lv_dup hx hb dX4_take_18 rfl) ?_
    refine jJ_get hx hb (C := RX4) (T := TX4) (N := 3) hts uX4_in_X4_take hown hK 1 rfl rfl 2 (by decide) (hts (.fieldLink RX4 17 "ValueBlocks$Reader" "at" "I") (by decide +kernel)) (fun _ h9 => h9) rfl dX4_take_19 ?_
    refine jJ_of (fun H locs => lv_iconst (v := (nI 1)) hx hb dX4_take_22 (by decide)) ?_
    refine jJ_of (fun H locs => jn_iadd hx hb dX4_take_23) ?_
    refine jJ_put hx hb (C := RX4) (T := TX4) (N := 3) (ty := .int) (v := .int (nI (a + 1))) hts uX4_in_X4_take tyX4 tyX4_ok nmX4 hown hK 1 rfl rfl 2 (by decide) (hts (.fieldLink RX4 17 "ValueBlocks$Reader" "at" "I") (by decide +kernel)) (fun _ h9 => h9) rfl (by decide +kernel) rfl rfl (Nat.le_of_ble_eq_true rfl) dX4_take_24 (cs2 := [wk, [(h, .inr (3, [.ref ht, .ref hp, .int (nI (a + 1))]))], wp1]) rfl ?_
    refine jJ_of (fun H locs => lv_iconst (v := (nI 1)) hx hb dX4_take_27 (by decide)) ?_
    refine jJ_perm [1, 0, 2] (nn := 3) rfl (by decide) (cs2 := [[(h, .inr (3, [.ref ht, .ref hp, .int (nI (a + 1))]))], wk, wp1]) rfl ?_
    have hat3 := hk.lt a (by omega)
    have hrw3 : jRd cI h ht hp Pp wk pr co (a + 1) (jF [[(h, .inr (3, [.ref ht, .ref hp, .int (nI (a + 1))]))], wk, wp1]) := ⟨_, rfl, hp1, by omega⟩
    refine jJ_flat (cs2 := [jF [[(h, .inr (3, [.ref ht, .ref hp, .int (nI (a + 1))]))], wk, wp1]]) rfl ?_
    have hLr3 := hrw3.len
    have he : rTake tk kd a co = (true, a + 1, co) := by exact if_pos (by omega)
    exact jJ_zret hx hb hr hlocks dX4_take_28 (by show _ ≤ 4001 - Pp; omega) (by show _ ≤ 128 * (4000 - Pp) + 32000; omega) (Or.inr rfl) ⟨by rw [he]; try rfl, Pp, by rw [he]; exact hrw3, by omega, by omega⟩
  · refine jJ_of (fun H locs => lv_iconst (v := (nI 0)) hx hb dX4_take_15 (by decide)) ?_
    refine jJ_perm [1, 0, 2] (nn := 3) rfl (by decide) (cs2 := [[(h, .inr (3, [.ref ht, .ref hp, .int (nI a)]))], wk, wp1]) rfl ?_
    have hrw4 : jRd cI h ht hp Pp wk pr co a (jF [[(h, .inr (3, [.ref ht, .ref hp, .int (nI a)]))], wk, wp1]) := ⟨_, rfl, hp1, by omega⟩
    refine jJ_flat (cs2 := [jF [[(h, .inr (3, [.ref ht, .ref hp, .int (nI a)]))], wk, wp1]]) rfl ?_
    have hLr4 := hrw4.len
    have he : rTake tk kd a co = (false, a, co) := by exact if_neg (by omega)
    exact jJ_zret hx hb hr hlocks dX4_take_16 (by show _ ≤ 4001 - Pp; omega) (by show _ ≤ 128 * (4000 - Pp) + 32000; omega) (Or.inl rfl) ⟨by rw [he]; try rfl, Pp, by rw [he]; exact hrw4, by omega, by omega⟩
theorem uX3_in_X4_write : ∀ w ∈ u_ws RX3 TX3 8, w ∈ wsX4_write := by decide +kernel
theorem uX4_in_X4_write : ∀ w ∈ u_ws RX4 TX4 3, w ∈ wsX4_write := by decide +kernel
set_option maxHeartbeats 4000000 in
set_option maxRecDepth 100000 in
/-- write(act) -/
theorem c_Rd_write {h ht hT hp Pk Pp nx a : Nat} {T : List Nat} {tk : Nat → List Nat} {pr : Nat → List Int32} {co : List Int32} {wk w : va_W} (hk : jTok cI ht hT Pk T tk nx wk) (hw : jRd cI h ht hp Pp wk pr co a w) (act : Nat) (hact : act < 1000000000) : HM l yX4_write wsX4_write ({ frames := 7, cells := 4001 - Pp, slots := 128 * (4000 - Pp) + 32000, locals := 200 } : Room) D G (jT cI cJ cB cZ) [.ref h, .int (nI act)] w (fun v u k n => v = some (.int (bI (rWr act a co).1)) ∧ ∃ P2 : Nat, jRd cI h ht hp P2 wk pr (rWr act a co).2.2 (rWr act a co).2.1 u ∧ k + Pp ≤ P2 ∧ n + 128 * Pp ≤ 128 * P2) := by
  refine HM_of (cc := cX4_write) (maxL := 2) (ret := (some .boolean)) (lv := [(0, .ref h), (1, .int (nI act))]) (by decide) rfl rfl (Nat.le_of_ble_eq_true rfl) (fun p e s m args below meth c A0 ls hx hb hr hts hown hlocks hml hnm hK hA hAm hl => ?_)
  have hLw := hw.len
  have hkb := hk.len
  refine jJ_of (fun H locs => lv_aload_n hx hb dX4_write_0 rfl (lv_at hl 0 rfl)) ?_
  have hsv1 := hw
  obtain ⟨wp1, rfl, hp1, ha1⟩ := hsv1
  refine jJ_open (xs := [[(h, .inr (3, [.ref ht, .ref hp, .int (nI a)]))], wk, wp1]) (r := []) (cs2 := [[(h, .inr (3, [.ref ht, .ref hp, .int (nI a)]))], wk, wp1]) rfl ?_
  refine jJ_get hx hb (C := RX4) (T := TX4) (N := 3) hts uX4_in_X4_write hown hK 0 rfl rfl 1 (by decide) (hts (.fieldLink RX4 13 "ValueBlocks$Reader" "out" "LValueBlocks$Program;") (by decide +kernel)) (fun _ h9 => h9) rfl dX4_write_1 ?_
  refine jJ_perm [2, 0, 1] (nn := 3) rfl (by decide) (cs2 := [wp1, [(h, .inr (3, [.ref ht, .ref hp, .int (nI a)]))], wk]) rfl ?_
  have hsv2 := hp1
  obtain ⟨a2, q2, v2, rfl, hr2, hP2⟩ := hsv2
  have hl02 := (hr2 0 (by decide)).len
  refine jJ_open (xs := jPw hp a2 v2) (r := [[(h, .inr (3, [.ref ht, .ref hp, .int (nI a)]))], wk]) (cs2 := [[(hp, .inr (2, [.ref (a2 0), .ref (a2 1), .ref (a2 2), .ref (a2 3), .ref (a2 4), .ref (a2 5), .ref (a2 6), .ref (a2 7)]))], v2 0, v2 1, v2 2, v2 3, v2 4, v2 5, v2 6, v2 7, [(h, .inr (3, [.ref ht, .ref hp, .int (nI a)]))], wk]) rfl ?_
  refine jJ_getN hx hb (C := RX3) (T := TX3) (N := 8) hts uX3_in_X4_write hown hK 0 rfl rfl 0 (by decide) (va_Nw.use rfl hAm.2.2.2.2.2.2.2.1) (fun _ h9 => h9) rfl dX4_write_4 ?_
  refine jJ_of (fun H locs => lv_iload_n hx hb dX4_write_7 rfl (lv_at hl 1 rfl)) ?_
  rw [nI_iI act]
  refine jJ_of (fun H locs => jz_ineg hx hb dX4_write_8) ?_
  refine jJ_callV (As := [.int (iI (-((act : Nat) : Int)))]) (rest := []) (wc := _) (cs2 := [[(hp, .inr (2, [.ref (a2 0), .ref (a2 1), .ref (a2 2), .ref (a2 3), .ref (a2 4), .ref (a2 5), .ref (a2 6), .ref (a2 7)]))], v2 1, v2 2, v2 3, v2 4, v2 5, v2 6, v2 7, [(h, .inr (3, [.ref ht, .ref hp, .int (nI a)]))], wk]) (C := RX5) (T := TX5) (N := 3) (ci := 4) [1] [0, 2, 3, 4, 5, 6, 7, 8, 9, 10] ⟨hx, hb, hml, hown, hts⟩ hK hA hAm (c_Row_addT (hr2 0 (by decide)) (iI (-((act : Nat) : Int)))) (cwV 1 hts gX4_write_X5_add rfl rfl rfl (by decide +kernel) ⟨Nat.le_of_ble_eq_true rfl, Nat.le_of_ble_eq_true rfl⟩) (nn := 11) rfl (by decide) rfl rfl (hr2 0 (by decide)).hd rfl rfl rfl hl.1 (Nat.le_of_ble_eq_true rfl) dX4_write_9 (by show _ + 1 ≤ 4001 - Pp; omega) (by show _ + 32000 ≤ 128 * (4000 - Pp) + 32000; omega) (fun v u3 k3 n3 hq3 => ?_)
  obtain ⟨rfl, qq3, hqq3, hu3, hk3, hn3, hkk3, hnn3⟩ := hq3
  have hl3 := hu3.len
  refine jJ_eq (g2 := F0 m 12 ls []) (cs2 := [u3, [(hp, .inr (2, [.ref (a2 0), .ref (a2 1), .ref (a2 2), .ref (a2 3), .ref (a2 4), .ref (a2 5), .ref (a2 6), .ref (a2 7)]))], v2 1, v2 2, v2 3, v2 4, v2 5, v2 6, v2 7, [(h, .inr (3, [.ref ht, .ref hp, .int (nI a)]))], wk]) rfl rfl ?_
  refine jJ_of (fun H locs => lv_iconst (v := (nI 1)) hx hb dX4_write_12 (by decide)) ?_
  refine jJ_perm [1, 0, 2, 3, 4, 5, 6, 7, 8, 9, 10] (nn := 11) rfl (by decide) (cs2 := [[(hp, .inr (2, [.ref (a2 0), .ref (a2 1), .ref (a2 2), .ref (a2 3), .ref (a2 4), .ref (a2 5), .ref (a2 6), .ref (a2 7)]))], u3, v2 1, v2 2, v2 3, v2 4, v2 5, v2 6, v2 7, [(h, .inr (3, [.ref ht, .ref hp, .int (nI a)]))], wk]) rfl ?_
  have hR4 := jrows_upd hr2 0 hu3
  have hPu4 := jP_upd (q := q2) (i := 0) (x := qq3) (by decide)
  obtain ⟨P4, hPe4⟩ : ∃ z : Nat, z = q2 0 + q2 1 + q2 2 + q2 3 + q2 4 + q2 5 + q2 6 + q2 7 + qq3 - q2 0 := ⟨_, rfl⟩
  have hpw4 : jProg cI hp P4 (va_up pr 0 (jAdd 8000 co ((iI (-((act : Nat) : Int)))))) (jF [[(hp, .inr (2, [.ref (a2 0), .ref (a2 1), .ref (a2 2), .ref (a2 3), .ref (a2 4), .ref (a2 5), .ref (a2 6), .ref (a2 7)]))], u3, v2 1, v2 2, v2 3, v2 4, v2 5, v2 6, v2 7]) := by rw [← va_up_up pr 0 co]; exact ⟨a2, _, _, rfl, hR4, by omega⟩
  refine jJ_flat (cs2 := [jF [[(hp, .inr (2, [.ref (a2 0), .ref (a2 1), .ref (a2 2), .ref (a2 3), .ref (a2 4), .ref (a2 5), .ref (a2 6), .ref (a2 7)]))], u3, v2 1, v2 2, v2 3, v2 4, v2 5, v2 6, v2 7], [(h, .inr (3, [.ref ht, .ref hp, .int (nI a)]))], wk]) (by simp only [jF_cons, jF, List.append_assoc, List.append_nil]) ?_
  refine jJ_perm [1, 2, 0] (nn := 3) rfl (by decide) (cs2 := [[(h, .inr (3, [.ref ht, .ref hp, .int (nI a)]))], wk, jF [[(hp, .inr (2, [.ref (a2 0), .ref (a2 1), .ref (a2 2), .ref (a2 3), .ref (a2 4), .ref (a2 5), .ref (a2 6), .ref (a2 7)]))], u3, v2 1, v2 2, v2 3, v2 4, v2 5, v2 6, v2 7]]) rfl ?_
  have hrw5 : jRd cI h ht hp P4 wk pr (jAdd 8000 co ((iI (-((act : Nat) : Int))))) a (jF [[(h, .inr (3, [.ref ht, .ref hp, .int (nI a)]))], wk, jF [[(hp, .inr (2, [.ref (a2 0), .ref (a2 1), .ref (a2 2), .ref (a2 3), .ref (a2 4), .ref (a2 5), .ref (a2 6), .ref (a2 7)]))], u3, v2 1, v2 2, v2 3, v2 4, v2 5, v2 6, v2 7]]) := ⟨_, rfl, hpw4, by omega⟩
  refine jJ_flat (cs2 := [jF [[(h, .inr (3, [.ref ht, .ref hp, .int (nI a)]))], wk, jF [[(hp, .inr (2, [.ref (a2 0), .ref (a2 1), .ref (a2 2), .ref (a2 3), .ref (a2 4), .ref (a2 5), .ref (a2 6), .ref (a2 7)]))], u3, v2 1, v2 2, v2 3, v2 4, v2 5, v2 6, v2 7]]]) rfl ?_
  have hLr5 := hrw5.len
  have he : rWr act a co = (true, a, jAdd 8000 co ((iI (-((act : Nat) : Int))))) := by rfl
  exact jJ_zret hx hb hr hlocks dX4_write_13 (by show _ ≤ 4001 - Pp; omega) (by show _ ≤ 128 * (4000 - Pp) + 32000; omega) (Or.inr rfl) ⟨by rw [he]; try rfl, P4, by rw [he]; exact hrw5, by omega, by omega⟩
theorem uX3_in_X4_literal : ∀ w ∈ u_ws RX3 TX3 8, w ∈ wsX4_literal := by decide +kernel
theorem uX4_in_X4_literal : ∀ w ∈ u_ws RX4 TX4 3, w ∈ wsX4_literal := by decide +kernel
set_option maxHeartbeats 4000000 in
set_option maxRecDepth 100000 in
/-- literal() -/
theorem c_Rd_literal {h ht hT hp Pk Pp nx a : Nat} {T : List Nat} {tk : Nat → List Nat} {pr : Nat → List Int32} {co : List Int32} {wk w : va_W} (hk : jTok cI ht hT Pk T tk nx wk) (hw : jRd cI h ht hp Pp wk pr co a w) (hnz : ¬ (tk 0).getD a 0 = 0) : HM l yX4_literal wsX4_literal ({ frames := 7, cells := 4001 - Pp, slots := 128 * (4000 - Pp) + 32000, locals := 200 } : Room) D G (jT cI cJ cB cZ) [.ref h] w (fun v u k n => v = some (.int (bI (rLit tk a co).1)) ∧ ∃ P2 : Nat, jRd cI h ht hp P2 wk pr (rLit tk a co).2.2 (rLit tk a co).2.1 u ∧ k + Pp ≤ P2 ∧ n + 128 * Pp ≤ 128 * P2) := by
  refine HM_of (cc := cX4_literal) (maxL := 1) (ret := (some .boolean)) (lv := [(0, .ref h)]) (by decide) rfl rfl (Nat.le_of_ble_eq_true rfl) (fun p e s m args below meth c A0 ls hx hb hr hts hown hlocks hml hnm hK hA hAm hl => ?_)
  have hLw := hw.len
  have hkb := hk.len
  refine jJ_of (fun H locs => lv_aload_n hx hb dX4_literal_0 rfl (lv_at hl 0 rfl)) ?_
  have hsv1 := hw
  obtain ⟨wp1, rfl, hp1, ha1⟩ := hsv1
  refine jJ_open (xs := [[(h, .inr (3, [.ref ht, .ref hp, .int (nI a)]))], wk, wp1]) (r := []) (cs2 := [[(h, .inr (3, [.ref ht, .ref hp, .int (nI a)]))], wk, wp1]) rfl ?_
  refine jJ_get hx hb (C := RX4) (T := TX4) (N := 3) hts uX4_in_X4_literal hown hK 0 rfl rfl 1 (by decide) (hts (.fieldLink RX4 13 "ValueBlocks$Reader" "out" "LValueBlocks$Program;") (by decide +kernel)) (fun _ h9 => h9) rfl dX4_literal_1 ?_
  refine jJ_perm [2, 0, 1] (nn := 3) rfl (by decide) (cs2 := [wp1, [(h, .inr (3, [.ref ht, .ref hp, .int (nI a)]))], wk]) rfl ?_
  have hsv2 := hp1
  obtain ⟨a2, q2, v2, rfl, hr2, hP2⟩ := hsv2
  have hl02 := (hr2 0 (by decide)).len
  refine jJ_open (xs := jPw hp a2 v2) (r := [[(h, .inr (3, [.ref ht, .ref hp, .int (nI a)]))], wk]) (cs2 := [[(hp, .inr (2, [.ref (a2 0), .ref (a2 1), .ref (a2 2), .ref (a2 3), .ref (a2 4), .ref (a2 5), .ref (a2 6), .ref (a2 7)]))], v2 0, v2 1, v2 2, v2 3, v2 4, v2 5, v2 6, v2 7, [(h, .inr (3, [.ref ht, .ref hp, .int (nI a)]))], wk]) rfl ?_
  refine jJ_getN hx hb (C := RX3) (T := TX3) (N := 8) hts uX3_in_X4_literal hown hK 0 rfl rfl 0 (by decide) (va_Nw.use rfl hAm.2.2.2.2.2.2.2.1) (fun _ h9 => h9) rfl dX4_literal_4 ?_
  refine jJ_of (fun H locs => lv_aload_n hx hb dX4_literal_7 rfl (lv_at hl 0 rfl)) ?_
  refine jJ_get hx hb (C := RX4) (T := TX4) (N := 3) hts uX4_in_X4_literal hown hK 9 rfl rfl 0 (by decide) (hts (.fieldLink RX4 7 "ValueBlocks$Reader" "tokens" "LValueBlocks$Tokens;") (by decide +kernel)) (fun _ h9 => h9) rfl dX4_literal_8 ?_
  refine jJ_of (fun H locs => lv_aload_n hx hb dX4_literal_11 rfl (lv_at hl 0 rfl)) ?_
  refine jJ_get hx hb (C := RX4) (T := TX4) (N := 3) hts uX4_in_X4_literal hown hK 9 rfl rfl 2 (by decide) (hts (.fieldLink RX4 17 "ValueBlocks$Reader" "at" "I") (by decide +kernel)) (fun _ h9 => h9) rfl dX4_literal_12 ?_
  refine jJ_callV (As := [.int (nI a)]) (rest := [.ref (a2 0)]) (wc := _) (cs2 := [[(hp, .inr (2, [.ref (a2 0), .ref (a2 1), .ref (a2 2), .ref (a2 3), .ref (a2 4), .ref (a2 5), .ref (a2 6), .ref (a2 7)]))], v2 0, v2 1, v2 2, v2 3, v2 4, v2 5, v2 6, v2 7, [(h, .inr (3, [.ref ht, .ref hp, .int (nI a)]))]]) (C := RX6) (T := TX6) (N := 5) (ci := 5) [10] [0, 1, 2, 3, 4, 5, 6, 7, 8, 9] ⟨hx, hb, hml, hown, hts⟩ hK hA hAm (c_Tok_worth hk a (by omega)) (cwV 1 hts gX4_literal_X6_worth rfl rfl rfl (by decide +kernel) ⟨Nat.le_of_ble_eq_true rfl, Nat.le_of_ble_eq_true rfl⟩) (nn := 11) rfl (by decide) rfl rfl hk.hd rfl rfl rfl hl.1 (Nat.le_of_ble_eq_true rfl) dX4_literal_15 (by show _ + 0 ≤ 4001 - Pp; omega) (by show _ + 0 ≤ 128 * (4000 - Pp) + 32000; omega) (fun v u3 k3 n3 hq3 => ?_)
  obtain ⟨rfl, hw3, rfl, rfl⟩ := hq3
  rw [hw3]
  refine jJ_eq (g2 := F0 m 18 ls [.int (nI ((tk 2).getD a 0)), .ref (a2 0)]) (cs2 := [wk, [(hp, .inr (2, [.ref (a2 0), .ref (a2 1), .ref (a2 2), .ref (a2 3), .ref (a2 4), .ref (a2 5), .ref (a2 6), .ref (a2 7)]))], v2 0, v2 1, v2 2, v2 3, v2 4, v2 5, v2 6, v2 7, [(h, .inr (3, [.ref ht, .ref hp, .int (nI a)]))]]) rfl rfl ?_
  have hvb3 := hkb.2.2.2.2.2.2.1 2 (by decide) a
  refine jJ_callV (As := [.int (nI ((tk 2).getD a 0))]) (rest := []) (wc := _) (cs2 := [wk, [(hp, .inr (2, [.ref (a2 0), .ref (a2 1), .ref (a2 2), .ref (a2 3), .ref (a2 4), .ref (a2 5), .ref (a2 6), .ref (a2 7)]))], v2 1, v2 2, v2 3, v2 4, v2 5, v2 6, v2 7, [(h, .inr (3, [.ref ht, .ref hp, .int (nI a)]))]]) (C := RX5) (T := TX5) (N := 3) (ci := 4) [2] [0, 1, 3, 4, 5, 6, 7, 8, 9, 10] ⟨hx, hb, hml, hown, hts⟩ hK hA hAm (c_Row_addT (hr2 0 (by decide)) (nI ((tk 2).getD a 0))) (cwV 1 hts gX4_literal_X5_add rfl rfl rfl (by decide +kernel) ⟨Nat.le_of_ble_eq_true rfl, Nat.le_of_ble_eq_true rfl⟩) (nn := 11) rfl (by decide) rfl rfl (hr2 0 (by decide)).hd rfl rfl rfl hl.1 (Nat.le_of_ble_eq_true rfl) dX4_literal_18 (by show _ + 1 ≤ 4001 - Pp; omega) (by show _ + 32000 ≤ 128 * (4000 - Pp) + 32000; omega) (fun v u4 k4 n4 hq4 => ?_)
  obtain ⟨rfl, qq4, hqq4, hu4, hk4, hn4, hkk4, hnn4⟩ := hq4
  have hl4 := hu4.len
  refine jJ_eq (g2 := F0 m 21 ls []) (cs2 := [u4, wk, [(hp, .inr (2, [.ref (a2 0), .ref (a2 1), .ref (a2 2), .ref (a2 3), .ref (a2 4), .ref (a2 5), .ref (a2 6), .ref (a2 7)]))], v2 1, v2 2, v2 3, v2 4, v2 5, v2 6, v2 7, [(h, .inr (3, [.ref ht, .ref hp, .int (nI a)]))]]) rfl rfl ?_
  refine jJ_of (fun H locs => lv_aload_n hx hb dX4_literal_21 rfl (lv_at hl 0 rfl)) ?_
  refine jJ_of (fun H locs => lv_dup hx hb dX4_literal_22 rfl) ?_
  refine jJ_get hx hb (C := RX4) (T := TX4) (N := 3) hts uX4_in_X4_literal hown hK 10 rfl rfl 2 (by decide) (hts (.fieldLink RX4 17 "ValueBlocks$Reader" "at" "I") (by decide +kernel)) (fun _ h9 => h9) rfl dX4_literal_23 ?_
  refine jJ_of (fun H locs => lv_iconst (v := (nI 1)) hx hb dX4_literal_26 (by decide)) ?_
  refine jJ_of (fun H locs => jn_iadd hx hb dX4_literal_27) ?_
  refine jJ_put hx hb (C := RX4) (T := TX4) (N := 3) (ty := .int) (v := .int (nI (a + 1))) hts uX4_in_X4_literal tyX4 tyX4_ok nmX4 hown hK 10 rfl rfl 2 (by decide) (hts (.fieldLink RX4 17 "ValueBlocks$Reader" "at" "I") (by decide +kernel)) (fun _ h9 => h9) rfl (by decide +kernel) rfl rfl (Nat.le_of_ble_eq_true rfl) dX4_literal_28 (cs2 := [u4, wk, [(hp, .inr (2, [.ref (a2 0), .ref (a2 1), .ref (a2 2), .ref (a2 3), .ref (a2 4), .ref (a2 5), .ref (a2 6), .ref (a2 7)]))], v2 1, v2 2, v2 3, v2 4, v2 5, v2 6, v2 7, [(h, .inr (3, [.ref ht, .ref hp, .int (nI (a + 1))]))]]) rfl ?_
  refine jJ_of (fun H locs => lv_iconst (v := (nI 1)) hx hb dX4_literal_31 (by decide)) ?_
  refine jJ_perm [2, 0, 3, 4, 5, 6, 7, 8, 9, 1, 10] (nn := 11) rfl (by decide) (cs2 := [[(hp, .inr (2, [.ref (a2 0), .ref (a2 1), .ref (a2 2), .ref (a2 3), .ref (a2 4), .ref (a2 5), .ref (a2 6), .ref (a2 7)]))], u4, v2 1, v2 2, v2 3, v2 4, v2 5, v2 6, v2 7, wk, [(h, .inr (3, [.ref ht, .ref hp, .int (nI (a + 1))]))]]) rfl ?_
  have hR5 := jrows_upd hr2 0 hu4
  have hPu5 := jP_upd (q := q2) (i := 0) (x := qq4) (by decide)
  obtain ⟨P5, hPe5⟩ : ∃ z : Nat, z = q2 0 + q2 1 + q2 2 + q2 3 + q2 4 + q2 5 + q2 6 + q2 7 + qq4 - q2 0 := ⟨_, rfl⟩
  have hpw5 : jProg cI hp P5 (va_up pr 0 (jAdd 8000 co ((nI ((tk 2).getD a 0))))) (jF [[(hp, .inr (2, [.ref (a2 0), .ref (a2 1), .ref (a2 2), .ref (a2 3), .ref (a2 4), .ref (a2 5), .ref (a2 6), .ref (a2 7)]))], u4, v2 1, v2 2, v2 3, v2 4, v2 5, v2 6, v2 7]) := by rw [← va_up_up pr 0 co]; exact ⟨a2, _, _, rfl, hR5, by omega⟩
  refine jJ_flat (cs2 := [jF [[(hp, .inr (2, [.ref (a2 0), .ref (a2 1), .ref (a2 2), .ref (a2 3), .ref (a2 4), .ref (a2 5), .ref (a2 6), .ref (a2 7)]))], u4, v2 1, v2 2, v2 3, v2 4, v2 5, v2 6, v2 7], wk, [(h, .inr (3, [.ref ht, .ref hp, .int (nI (a + 1))]))]]) (by simp only [jF_cons, jF, List.append_assoc, List.append_nil]) ?_
  refine jJ_perm [2, 1, 0] (nn := 3) rfl (by decide) (cs2 := [[(h, .inr (3, [.ref ht, .ref hp, .int (nI (a + 1))]))], wk, jF [[(hp, .inr (2, [.ref (a2 0), .ref (a2 1), .ref (a2 2), .ref (a2 3), .ref (a2 4), .ref (a2 5), .ref (a2 6), .ref (a2 7)]))], u4, v2 1, v2 2, v2 3, v2 4, v2 5, v2 6, v2 7]]) rfl ?_
  have hat6 := hk.lt a hnz
  have hrw6 : jRd cI h ht hp P5 wk pr (jAdd 8000 co ((nI ((tk 2).getD a 0)))) (a + 1) (jF [[(h, .inr (3, [.ref ht, .ref hp, .int (nI (a + 1))]))], wk, jF [[(hp, .inr (2, [.ref (a2 0), .ref (a2 1), .ref (a2 2), .ref (a2 3), .ref (a2 4), .ref (a2 5), .ref (a2 6), .ref (a2 7)]))], u4, v2 1, v2 2, v2 3, v2 4, v2 5, v2 6, v2 7]]) := ⟨_, rfl, hpw5, by omega⟩
  refine jJ_flat (cs2 := [jF [[(h, .inr (3, [.ref ht, .ref hp, .int (nI (a + 1))]))], wk, jF [[(hp, .inr (2, [.ref (a2 0), .ref (a2 1), .ref (a2 2), .ref (a2 3), .ref (a2 4), .ref (a2 5), .ref (a2 6), .ref (a2 7)]))], u4, v2 1, v2 2, v2 3, v2 4, v2 5, v2 6, v2 7]]]) rfl ?_
  have hLr6 := hrw6.len
  have he : rLit tk a co = (true, a + 1, jAdd 8000 co ((nI ((tk 2).getD a 0)))) := by rfl
  exact jJ_zret hx hb hr hlocks dX4_literal_32 (by show _ ≤ 4001 - Pp; omega) (by show _ ≤ 128 * (4000 - Pp) + 32000; omega) (Or.inr rfl) ⟨by rw [he]; try rfl, P5, by rw [he]; exact hrw6, by omega, by omega⟩
set_option maxHeartbeats 4000000 in
set_option maxRecDepth 100000 in
/-- X4_joinsProducts -/
theorem c_jnP (c0 : Nat) (hc : c0 < 2147483648) : HM l yX4_joinsProducts wsX4_joinsProducts ({ frames := 0, cells := 0, slots := 0, locals := 0 } : Room) D G (jT cI cJ cB cZ) [.int (nI c0)] ([]) (fun v u k n => v = some (.int (bI (jnP c0))) ∧ u = [] ∧ k = 0 ∧ n = 0) := by
  refine HM_of (cc := cX4_joinsProducts) (maxL := 1) (ret := (some .boolean)) (lv := [(0, .int (nI c0))]) (by decide) rfl rfl (Nat.le_of_ble_eq_true rfl) (fun p e s m args below meth c A0 ls hx hb hr hts hown hlocks hml hnm hK hA hAm hl => ?_)
  refine jJ_of (fun H locs => lv_iload_n hx hb dX4_joinsProducts_0 rfl (lv_at hl 0 rfl)) ?_
  refine jJ_of (fun H locs => lv_bipush (v := (nI 43)) hx hb dX4_joinsProducts_1 (by decide)) ?_
  refine jJ_of2 (fun H locs => jn_icmp_eq (tgt := 26) hx hb dX4_joinsProducts_3 (by decide) (by omega) (by omega)) (fun c3 => ?_) (fun c3 => ?_)
  · refine jJ_of (fun H locs => lv_iconst (v := (nI 1)) hx hb dX4_joinsProducts_26 (by decide)) ?_
    refine jJ_of (fun H locs => lv_goto (tgt := 31) hx hb dX4_joinsProducts_27 (by decide)) ?_
    exact jJ_zret hx hb hr hlocks dX4_joinsProducts_31 (by show _ ≤ 0; omega) (by show _ ≤ 0; omega) (Or.inr rfl) ⟨by rw [show jnP c0 = true from by simp [jnP]; omega]; rfl, rfl, rfl, rfl⟩
  · refine jJ_of (fun H locs => lv_iload_n hx hb dX4_joinsProducts_6 rfl (lv_at hl 0 rfl)) ?_
    refine jJ_of (fun H locs => lv_bipush (v := (nI 45)) hx hb dX4_joinsProducts_7 (by decide)) ?_
    refine jJ_of2 (fun H locs => jn_icmp_eq (tgt := 26) hx hb dX4_joinsProducts_9 (by decide) (by omega) (by omega)) (fun c9 => ?_) (fun c9 => ?_)
    · refine jJ_of (fun H locs => lv_iconst (v := (nI 1)) hx hb dX4_joinsProducts_26 (by decide)) ?_
      refine jJ_of (fun H locs => lv_goto (tgt := 31) hx hb dX4_joinsProducts_27 (by decide)) ?_
      exact jJ_zret hx hb hr hlocks dX4_joinsProducts_31 (by show _ ≤ 0; omega) (by show _ ≤ 0; omega) (Or.inr rfl) ⟨by rw [show jnP c0 = true from by simp [jnP]; omega]; rfl, rfl, rfl, rfl⟩
    · refine jJ_of (fun H locs => lv_iload_n hx hb dX4_joinsProducts_12 rfl (lv_at hl 0 rfl)) ?_
      refine jJ_of (fun H locs => lv_sipush (v := (nI 311)) hx hb dX4_joinsProducts_13 (by decide)) ?_
      refine jJ_of2 (fun H locs => jn_icmp_eq (tgt := 26) hx hb dX4_joinsProducts_16 (by decide) (by omega) (by omega)) (fun c16 => ?_) (fun c16 => ?_)
      · refine jJ_of (fun H locs => lv_iconst (v := (nI 1)) hx hb dX4_joinsProducts_26 (by decide)) ?_
        refine jJ_of (fun H locs => lv_goto (tgt := 31) hx hb dX4_joinsProducts_27 (by decide)) ?_
        exact jJ_zret hx hb hr hlocks dX4_joinsProducts_31 (by show _ ≤ 0; omega) (by show _ ≤ 0; omega) (Or.inr rfl) ⟨by rw [show jnP c0 = true from by simp [jnP]; omega]; rfl, rfl, rfl, rfl⟩
      · refine jJ_of (fun H locs => lv_iload_n hx hb dX4_joinsProducts_19 rfl (lv_at hl 0 rfl)) ?_
        refine jJ_of (fun H locs => lv_sipush (v := (nI 312)) hx hb dX4_joinsProducts_20 (by decide)) ?_
        refine jJ_of2 (fun H locs => jn_icmp_ne (tgt := 30) hx hb dX4_joinsProducts_23 (by decide) (by omega) (by omega)) (fun c23 => ?_) (fun c23 => ?_)
        · refine jJ_of (fun H locs => lv_iconst (v := (nI 0)) hx hb dX4_joinsProducts_30 (by decide)) ?_
          exact jJ_zret hx hb hr hlocks dX4_joinsProducts_31 (by show _ ≤ 0; omega) (by show _ ≤ 0; omega) (Or.inl rfl) ⟨by rw [show jnP c0 = false from by simp [jnP]; omega]; rfl, rfl, rfl, rfl⟩
        · refine jJ_of (fun H locs => lv_iconst (v := (nI 1)) hx hb dX4_joinsProducts_26 (by decide)) ?_
          refine jJ_of (fun H locs => lv_goto (tgt := 31) hx hb dX4_joinsProducts_27 (by decide)) ?_
          exact jJ_zret hx hb hr hlocks dX4_joinsProducts_31 (by show _ ≤ 0; omega) (by show _ ≤ 0; omega) (Or.inr rfl) ⟨by rw [show jnP c0 = true from by simp [jnP]; omega]; rfl, rfl, rfl, rfl⟩
set_option maxHeartbeats 4000000 in
set_option maxRecDepth 100000 in
/-- X4_joinsFactors -/
theorem c_jnF (c0 : Nat) (hc : c0 < 2147483648) : HM l yX4_joinsFactors wsX4_joinsFactors ({ frames := 0, cells := 0, slots := 0, locals := 0 } : Room) D G (jT cI cJ cB cZ) [.int (nI c0)] ([]) (fun v u k n => v = some (.int (bI (jnF c0))) ∧ u = [] ∧ k = 0 ∧ n = 0) := by
  refine HM_of (cc := cX4_joinsFactors) (maxL := 1) (ret := (some .boolean)) (lv := [(0, .int (nI c0))]) (by decide) rfl rfl (Nat.le_of_ble_eq_true rfl) (fun p e s m args below meth c A0 ls hx hb hr hts hown hlocks hml hnm hK hA hAm hl => ?_)
  refine jJ_of (fun H locs => lv_iload_n hx hb dX4_joinsFactors_0 rfl (lv_at hl 0 rfl)) ?_
  refine jJ_of (fun H locs => lv_bipush (v := (nI 42)) hx hb dX4_joinsFactors_1 (by decide)) ?_
  refine jJ_of2 (fun H locs => jn_icmp_eq (tgt := 26) hx hb dX4_joinsFactors_3 (by decide) (by omega) (by omega)) (fun c3 => ?_) (fun c3 => ?_)
  · refine jJ_of (fun H locs => lv_iconst (v := (nI 1)) hx hb dX4_joinsFactors_26 (by decide)) ?_
    refine jJ_of (fun H locs => lv_goto (tgt := 31) hx hb dX4_joinsFactors_27 (by decide)) ?_
    exact jJ_zret hx hb hr hlocks dX4_joinsFactors_31 (by show _ ≤ 0; omega) (by show _ ≤ 0; omega) (Or.inr rfl) ⟨by rw [show jnF c0 = true from by simp [jnF]; omega]; rfl, rfl, rfl, rfl⟩
  · refine jJ_of (fun H locs => lv_iload_n hx hb dX4_joinsFactors_6 rfl (lv_at hl 0 rfl)) ?_
    refine jJ_of (fun H locs => lv_bipush (v := (nI 47)) hx hb dX4_joinsFactors_7 (by decide)) ?_
    refine jJ_of2 (fun H locs => jn_icmp_eq (tgt := 26) hx hb dX4_joinsFactors_9 (by decide) (by omega) (by omega)) (fun c9 => ?_) (fun c9 => ?_)
    · refine jJ_of (fun H locs => lv_iconst (v := (nI 1)) hx hb dX4_joinsFactors_26 (by decide)) ?_
      refine jJ_of (fun H locs => lv_goto (tgt := 31) hx hb dX4_joinsFactors_27 (by decide)) ?_
      exact jJ_zret hx hb hr hlocks dX4_joinsFactors_31 (by show _ ≤ 0; omega) (by show _ ≤ 0; omega) (Or.inr rfl) ⟨by rw [show jnF c0 = true from by simp [jnF]; omega]; rfl, rfl, rfl, rfl⟩
    · refine jJ_of (fun H locs => lv_iload_n hx hb dX4_joinsFactors_12 rfl (lv_at hl 0 rfl)) ?_
      refine jJ_of (fun H locs => lv_sipush (v := (nI 309)) hx hb dX4_joinsFactors_13 (by decide)) ?_
      refine jJ_of2 (fun H locs => jn_icmp_eq (tgt := 26) hx hb dX4_joinsFactors_16 (by decide) (by omega) (by omega)) (fun c16 => ?_) (fun c16 => ?_)
      · refine jJ_of (fun H locs => lv_iconst (v := (nI 1)) hx hb dX4_joinsFactors_26 (by decide)) ?_
        refine jJ_of (fun H locs => lv_goto (tgt := 31) hx hb dX4_joinsFactors_27 (by decide)) ?_
        exact jJ_zret hx hb hr hlocks dX4_joinsFactors_31 (by show _ ≤ 0; omega) (by show _ ≤ 0; omega) (Or.inr rfl) ⟨by rw [show jnF c0 = true from by simp [jnF]; omega]; rfl, rfl, rfl, rfl⟩
      · refine jJ_of (fun H locs => lv_iload_n hx hb dX4_joinsFactors_19 rfl (lv_at hl 0 rfl)) ?_
        refine jJ_of (fun H locs => lv_sipush (v := (nI 310)) hx hb dX4_joinsFactors_20 (by decide)) ?_
        refine jJ_of2 (fun H locs => jn_icmp_ne (tgt := 30) hx hb dX4_joinsFactors_23 (by decide) (by omega) (by omega)) (fun c23 => ?_) (fun c23 => ?_)
        · refine jJ_of (fun H locs => lv_iconst (v := (nI 0)) hx hb dX4_joinsFactors_30 (by decide)) ?_
          exact jJ_zret hx hb hr hlocks dX4_joinsFactors_31 (by show _ ≤ 0; omega) (by show _ ≤ 0; omega) (Or.inl rfl) ⟨by rw [show jnF c0 = false from by simp [jnF]; omega]; rfl, rfl, rfl, rfl⟩
        · refine jJ_of (fun H locs => lv_iconst (v := (nI 1)) hx hb dX4_joinsFactors_26 (by decide)) ?_
          refine jJ_of (fun H locs => lv_goto (tgt := 31) hx hb dX4_joinsFactors_27 (by decide)) ?_
          exact jJ_zret hx hb hr hlocks dX4_joinsFactors_31 (by show _ ≤ 0; omega) (by show _ ≤ 0; omega) (Or.inr rfl) ⟨by rw [show jnF c0 = true from by simp [jnF]; omega]; rfl, rfl, rfl, rfl⟩
theorem uX4_in_X4_placePart : ∀ w ∈ u_ws RX4 TX4 3, w ∈ wsX4_placePart := by decide +kernel
set_option maxHeartbeats 4000000 in
set_option maxRecDepth 100000 in
/-- placePart(d) -/
theorem c_Rd_placePart {h ht hT hp Pk Pp nx a : Nat} {T : List Nat} {tk : Nat → List Nat} {pr : Nat → List Int32} {co : List Int32} {wk w : va_W} (hk : jTok cI ht hT Pk T tk nx wk) (hw : jRd cI h ht hp Pp wk pr co a w) (r d : Nat) (hBr : cRd D G cI cJ cB cZ l yX4_bracket wsX4_bracket (6 * r + 8) (240 * r + 320) [.int (nI d)] ht wk (rBra tk r)) : HM l yX4_placePart wsX4_placePart ({ frames := 6 * r + 9, cells := 4001 - Pp, slots := 128 * (4000 - Pp) + 32000, locals := 240 * r + 360 } : Room) D G (jT cI cJ cB cZ) [.ref h, .int (nI d)] w (fun v u k n => v = some (.int (bI (rPl tk (rBra tk r) a co).1)) ∧ ∃ P2 : Nat, jRd cI h ht hp P2 wk pr (rPl tk (rBra tk r) a co).2.2 (rPl tk (rBra tk r) a co).2.1 u ∧ k + Pp ≤ P2 ∧ n + 128 * Pp ≤ 128 * P2) := by
  refine HM_of (cc := cX4_placePart) (maxL := 2) (ret := (some .boolean)) (lv := [(0, .ref h), (1, .int (nI d))]) (by decide) rfl rfl (Nat.le_of_ble_eq_true rfl) (fun p e s m args below meth c A0 ls hx hb hr hts hown hlocks hml hnm hK hA hAm hl => ?_)
  have hLw := hw.len
  have hkb := hk.len
  refine jJ_of (fun H locs => lv_aload_n hx hb dX4_placePart_0 rfl (lv_at hl 0 rfl)) ?_
  have hsv1 := hw
  obtain ⟨wp1, rfl, hp1, ha1⟩ := hsv1
  refine jJ_open (xs := [[(h, .inr (3, [.ref ht, .ref hp, .int (nI a)]))], wk, wp1]) (r := []) (cs2 := [[(h, .inr (3, [.ref ht, .ref hp, .int (nI a)]))], wk, wp1]) rfl ?_
  refine jJ_get hx hb (C := RX4) (T := TX4) (N := 3) hts uX4_in_X4_placePart hown hK 0 rfl rfl 0 (by decide) (hts (.fieldLink RX4 7 "ValueBlocks$Reader" "tokens" "LValueBlocks$Tokens;") (by decide +kernel)) (fun _ h9 => h9) rfl dX4_placePart_1 ?_
  refine jJ_of (fun H locs => lv_aload_n hx hb dX4_placePart_4 rfl (lv_at hl 0 rfl)) ?_
  refine jJ_get hx hb (C := RX4) (T := TX4) (N := 3) hts uX4_in_X4_placePart hown hK 0 rfl rfl 2 (by decide) (hts (.fieldLink RX4 17 "ValueBlocks$Reader" "at" "I") (by decide +kernel)) (fun _ h9 => h9) rfl dX4_placePart_5 ?_
  refine jJ_callV (As := [.int (nI a)]) (rest := []) (wc := _) (cs2 := [[(h, .inr (3, [.ref ht, .ref hp, .int (nI a)]))], wp1]) (C := RX6) (T := TX6) (N := 5) (ci := 5) [1] [0, 2] ⟨hx, hb, hml, hown, hts⟩ hK hA hAm (c_Tok_kind hk a (by omega)) (cwV 1 hts gX4_placePart_X6_kind rfl rfl rfl (by decide +kernel) ⟨by show (1) + 1 ≤ 6 * r + 9; omega, by show 8 + (2 + 11) + (40) ≤ 240 * r + 360; omega⟩) (nn := 3) rfl (by decide) rfl rfl hk.hd rfl rfl rfl hl.1 (Nat.le_of_ble_eq_true rfl) dX4_placePart_8 (by show _ + 0 ≤ 4001 - Pp; omega) (by show _ + 0 ≤ 128 * (4000 - Pp) + 32000; omega) (fun v u2 k2 n2 hq2 => ?_)
  obtain ⟨rfl, hw2, rfl, rfl⟩ := hq2
  rw [hw2]
  refine jJ_eq (g2 := F0 m 11 ls [.int (nI ((tk 0).getD a 0))]) (cs2 := [wk, [(h, .inr (3, [.ref ht, .ref hp, .int (nI a)]))], wp1]) rfl rfl ?_
  have hvb2 := hkb.2.2.2.2.2.2.1 0 (by decide) a
  refine jJ_of (fun H locs => lv_sipush (v := (nI 256)) hx hb dX4_placePart_11 (by decide)) ?_
  refine jJ_of2 (fun H locs => jn_icmp_ne (tgt := 24) hx hb dX4_placePart_14 (by decide) (by omega) (by omega)) (fun c14 => ?_) (fun c14 => ?_)
  · refine jJ_of (fun H locs => lv_aload_n hx hb dX4_placePart_24 rfl (lv_at hl 0 rfl)) ?_
    refine jJ_of (fun H locs => lv_iload_n hx hb dX4_placePart_25 rfl (lv_at hl 1 rfl)) ?_
    refine jJ_perm [1, 0, 2] (nn := 3) rfl (by decide) (cs2 := [[(h, .inr (3, [.ref ht, .ref hp, .int (nI a)]))], wk, wp1]) rfl ?_
    have hrw3 : jRd cI h ht hp Pp wk pr co a (jF [[(h, .inr (3, [.ref ht, .ref hp, .int (nI a)]))], wk, wp1]) := ⟨_, rfl, hp1, by omega⟩
    refine jJ_flat (cs2 := [jF [[(h, .inr (3, [.ref ht, .ref hp, .int (nI a)]))], wk, wp1]]) rfl ?_
    have hLr3 := hrw3.len
    refine jJ_callV (As := [.int (nI d)]) (rest := []) (wc := _) (cs2 := []) (C := RX4) (T := TX4) (N := 3) (ci := 3) [0] [] ⟨hx, hb, hml, hown, hts⟩ hK hA hAm (hBr _ _ _ _ _ _ _ hrw3) (cwV 1 hts gX4_placePart_X4_bracket rfl rfl rfl (by decide +kernel) ⟨by show (6 * r + 8) + 1 ≤ 6 * r + 9; omega, by show 8 + (2 + 11) + (240 * r + 320) ≤ 240 * r + 360; omega⟩) (nn := 1) rfl (by decide) rfl rfl hrw3.hd rfl rfl rfl hl.1 (Nat.le_of_ble_eq_true rfl) dX4_placePart_26 (by show _ + (4001 - Pp) ≤ 4001 - Pp; omega) (by show _ + (128 * (4000 - Pp) + 32000) ≤ 128 * (4000 - Pp) + 32000; omega) (fun v u4 k4 n4 hq4 => ?_)
    try dsimp only at hq4
    obtain ⟨bb4, aa4, oo4, he4⟩ : ∃ (b : Bool) (x : Nat) (o : List Int32), rBra tk r a co = (b, x, o) := ⟨(rBra tk r a co).1, (rBra tk r a co).2.1, (rBra tk r a co).2.2, rfl⟩
    rw [he4] at hq4
    try dsimp only at hq4
    obtain ⟨rfl, PP4, hu4, hkk4, hnn4⟩ := hq4
    have hL4 := hu4.len
    refine jJ_eq (g2 := F0 m 29 ls [.int (bI bb4)]) (cs2 := [u4]) rfl rfl ?_
    have he : rPl tk (rBra tk r) a co = (bb4, aa4, oo4) := by show (if _ then _ else _) = _; rw [if_neg (by omega), he4]
    exact jJ_zret hx hb hr hlocks dX4_placePart_29 (by show _ ≤ 4001 - Pp; omega) (by show _ ≤ 128 * (4000 - Pp) + 32000; omega) (bI_01 _) ⟨by rw [he]; try rfl, PP4, by rw [he]; exact hu4, by omega, by omega⟩
  · refine jJ_of (fun H locs => lv_aload_n hx hb dX4_placePart_17 rfl (lv_at hl 0 rfl)) ?_
    refine jJ_perm [1, 0, 2] (nn := 3) rfl (by decide) (cs2 := [[(h, .inr (3, [.ref ht, .ref hp, .int (nI a)]))], wk, wp1]) rfl ?_
    have hrw5 : jRd cI h ht hp Pp wk pr co a (jF [[(h, .inr (3, [.ref ht, .ref hp, .int (nI a)]))], wk, wp1]) := ⟨_, rfl, hp1, by omega⟩
    refine jJ_flat (cs2 := [jF [[(h, .inr (3, [.ref ht, .ref hp, .int (nI a)]))], wk, wp1]]) rfl ?_
    have hLr5 := hrw5.len
    refine jJ_callV (As := []) (rest := []) (wc := _) (cs2 := []) (C := RX4) (T := TX4) (N := 3) (ci := 3) [0] [] ⟨hx, hb, hml, hown, hts⟩ hK hA hAm (c_Rd_literal hk hrw5 (by omega)) (cwV 0 hts gX4_placePart_X4_literal rfl rfl rfl (by decide +kernel) ⟨by show (7) + 1 ≤ 6 * r + 9; omega, by show 8 + (1 + 11) + (200) ≤ 240 * r + 360; omega⟩) (nn := 1) rfl (by decide) rfl rfl hrw5.hd rfl rfl rfl hl.1 (Nat.le_of_ble_eq_true rfl) dX4_placePart_18 (by show _ + (4001 - Pp) ≤ 4001 - Pp; omega) (by show _ + (128 * (4000 - Pp) + 32000) ≤ 128 * (4000 - Pp) + 32000; omega) (fun v u6 k6 n6 hq6 => ?_)
    try dsimp only at hq6
    obtain ⟨bb6, aa6, oo6, he6⟩ : ∃ (b : Bool) (x : Nat) (o : List Int32), rLit tk a co = (b, x, o) := ⟨(rLit tk a co).1, (rLit tk a co).2.1, (rLit tk a co).2.2, rfl⟩
    rw [he6] at hq6
    try dsimp only at hq6
    obtain ⟨rfl, PP6, hu6, hkk6, hnn6⟩ := hq6
    have hL6 := hu6.len
    refine jJ_eq (g2 := F0 m 21 ls [.int (bI bb6)]) (cs2 := [u6]) rfl rfl ?_
    refine jJ_of (fun H locs => lv_goto (tgt := 29) hx hb dX4_placePart_21 (by decide)) ?_
    have he : rPl tk (rBra tk r) a co = (bb6, aa6, oo6) := by show (if _ then _ else _) = _; rw [if_pos (by omega), he6]
    exact jJ_zret hx hb hr hlocks dX4_placePart_29 (by show _ ≤ 4001 - Pp; omega) (by show _ ≤ 128 * (4000 - Pp) + 32000; omega) (bI_01 _) ⟨by rw [he]; try rfl, PP6, by rw [he]; exact hu6, by omega, by omega⟩
set_option maxHeartbeats 4000000 in
set_option maxRecDepth 100000 in
/-- bracket(d) -/
theorem c_Rd_bracket {h ht hT hp Pk Pp nx a : Nat} {T : List Nat} {tk : Nat → List Nat} {pr : Nat → List Int32} {co : List Int32} {wk w : va_W} (hk : jTok cI ht hT Pk T tk nx wk) (hw : jRd cI h ht hp Pp wk pr co a w) (r d : Nat) (hd : d + r = 20) (hTe : ∀ r2, r = r2 + 1 → cRd D G cI cJ cB cZ l yX4_test wsX4_test (6 * r2 + 13) (240 * r2 + 520) [.int (nI (d + 1))] ht wk (rTes tk r2)) : HM l yX4_bracket wsX4_bracket ({ frames := 6 * r + 8, cells := 4001 - Pp, slots := 128 * (4000 - Pp) + 32000, locals := 240 * r + 320 } : Room) D G (jT cI cJ cB cZ) [.ref h, .int (nI d)] w (fun v u k n => v = some (.int (bI (rBra tk r a co).1)) ∧ ∃ P2 : Nat, jRd cI h ht hp P2 wk pr (rBra tk r a co).2.2 (rBra tk r a co).2.1 u ∧ k + Pp ≤ P2 ∧ n + 128 * Pp ≤ 128 * P2) := by
  refine HM_of (cc := cX4_bracket) (maxL := 2) (ret := (some .boolean)) (lv := [(0, .ref h), (1, .int (nI d))]) (by decide) rfl rfl (Nat.le_of_ble_eq_true rfl) (fun p e s m args below meth c A0 ls hx hb hr hts hown hlocks hml hnm hK hA hAm hl => ?_)
  have hLw := hw.len
  have hkb := hk.len
  have hkb2 := hkb.2.1
  refine jJ_of (fun H locs => lv_iload_n hx hb dX4_bracket_0 rfl (lv_at hl 1 rfl)) ?_
  refine jJ_of (fun H locs => lv_bipush (v := (nI 20)) hx hb dX4_bracket_1 (by decide)) ?_
  refine jJ_of2 (fun H locs => jn_icmp_ge (tgt := 38) hx hb dX4_bracket_3 (by decide) (by omega) (by omega)) (fun c3 => ?_) (fun c3 => ?_)
  · refine jJ_of (fun H locs => lv_iconst (v := (nI 0)) hx hb dX4_bracket_38 (by decide)) ?_
    have he : rBra tk r a co = (false, a, co) := by rw [show r = 0 by omega]; rfl
    exact jJ_zret hx hb hr hlocks dX4_bracket_39 (by show _ ≤ 4001 - Pp; omega) (by show _ ≤ 128 * (4000 - Pp) + 32000; omega) (Or.inl rfl) ⟨by rw [he]; try rfl, Pp, by rw [he]; exact hw, by omega, by omega⟩
  · obtain ⟨r2, hr2⟩ : ∃ r2, r = r2 + 1 := ⟨r - 1, by omega⟩
    refine jJ_of (fun H locs => lv_aload_n hx hb dX4_bracket_6 rfl (lv_at hl 0 rfl)) ?_
    refine jJ_of (fun H locs => lv_bipush (v := (nI 91)) hx hb dX4_bracket_7 (by decide)) ?_
    refine jJ_callV (As := [.int (nI 91)]) (rest := []) (wc := _) (cs2 := []) (C := RX4) (T := TX4) (N := 3) (ci := 3) [0] [] ⟨hx, hb, hml, hown, hts⟩ hK hA hAm (c_Rd_take hk hw 91 (by omega) (by omega)) (cwV 1 hts gX4_bracket_X4_take rfl rfl rfl (by decide +kernel) ⟨by show (8) + 1 ≤ 6 * r + 8; omega, by show 8 + (2 + 11) + (200) ≤ 240 * r + 320; omega⟩) (nn := 1) rfl (by decide) rfl rfl hw.hd rfl rfl rfl hl.1 (Nat.le_of_ble_eq_true rfl) dX4_bracket_9 (by show _ + (4001 - Pp) ≤ 4001 - Pp; omega) (by show _ + (128 * (4000 - Pp) + 32000) ≤ 128 * (4000 - Pp) + 32000; omega) (fun v u1 k1 n1 hq1 => ?_)
    try dsimp only at hq1
    obtain ⟨bb1, aa1, oo1, he1⟩ : ∃ (b : Bool) (x : Nat) (o : List Int32), rTake tk 91 a co = (b, x, o) := ⟨(rTake tk 91 a co).1, (rTake tk 91 a co).2.1, (rTake tk 91 a co).2.2, rfl⟩
    rw [he1] at hq1
    try dsimp only at hq1
    obtain ⟨rfl, PP1, hu1, hkk1, hnn1⟩ := hq1
    have hL1 := hu1.len
    refine jJ_eq (g2 := F0 m 12 ls [.int (bI bb1)]) (cs2 := [u1]) rfl rfl ?_
    refine jJ_of2 (fun H locs => jb_if_eq (tgt := 38) hx hb dX4_bracket_12 (by decide)) (fun c12 => ?_) (fun c12 => ?_)
    · subst c12
      refine jJ_of (fun H locs => lv_iconst (v := (nI 0)) hx hb dX4_bracket_38 (by decide)) ?_
      have he : rBra tk r a co = (false, aa1, oo1) := by rw [hr2]; show rThen (rThen (rTake tk 91 a co) (rTes tk r2)) (rTake tk 93) = _; simp only [he1, rThen_t, rThen_f]
      exact jJ_zret hx hb hr hlocks dX4_bracket_39 (by show _ ≤ 4001 - Pp; omega) (by show _ ≤ 128 * (4000 - Pp) + 32000; omega) (Or.inl rfl) ⟨by rw [he]; try rfl, PP1, by rw [he]; exact hu1, by omega, by omega⟩
    · subst c12
      refine jJ_of (fun H locs => lv_aload_n hx hb dX4_bracket_15 rfl (lv_at hl 0 rfl)) ?_
      refine jJ_of (fun H locs => lv_iload_n hx hb dX4_bracket_16 rfl (lv_at hl 1 rfl)) ?_
      refine jJ_of (fun H locs => lv_iconst (v := (nI 1)) hx hb dX4_bracket_17 (by decide)) ?_
      refine jJ_of (fun H locs => jn_iadd hx hb dX4_bracket_18) ?_
      refine jJ_callV (As := [.int (nI (d + 1))]) (rest := []) (wc := _) (cs2 := []) (C := RX4) (T := TX4) (N := 3) (ci := 3) [0] [] ⟨hx, hb, hml, hown, hts⟩ hK hA hAm (hTe r2 hr2 _ _ _ _ _ _ _ hu1) (cwV 1 hts gX4_bracket_X4_test rfl rfl rfl (by decide +kernel) ⟨by show (6 * r2 + 13) + 1 ≤ 6 * r + 8; omega, by show 8 + (3 + 11) + (240 * r2 + 520) ≤ 240 * r + 320; omega⟩) (nn := 1) rfl (by decide) rfl rfl hu1.hd rfl rfl rfl hl.1 (Nat.le_of_ble_eq_true rfl) dX4_bracket_19 (by show _ + (4001 - PP1) ≤ 4001 - Pp; omega) (by show _ + (128 * (4000 - PP1) + 32000) ≤ 128 * (4000 - Pp) + 32000; omega) (fun v u2 k2 n2 hq2 => ?_)
      try dsimp only at hq2
      obtain ⟨bb2, aa2, oo2, he2⟩ : ∃ (b : Bool) (x : Nat) (o : List Int32), rTes tk r2 aa1 oo1 = (b, x, o) := ⟨(rTes tk r2 aa1 oo1).1, (rTes tk r2 aa1 oo1).2.1, (rTes tk r2 aa1 oo1).2.2, rfl⟩
      rw [he2] at hq2
      try dsimp only at hq2
      obtain ⟨rfl, PP2, hu2, hkk2, hnn2⟩ := hq2
      have hL2 := hu2.len
      refine jJ_eq (g2 := F0 m 22 ls [.int (bI bb2)]) (cs2 := [u2]) rfl rfl ?_
      refine jJ_of2 (fun H locs => jb_if_eq (tgt := 38) hx hb dX4_bracket_22 (by decide)) (fun c22 => ?_) (fun c22 => ?_)
      · subst c22
        refine jJ_of (fun H locs => lv_iconst (v := (nI 0)) hx hb dX4_bracket_38 (by decide)) ?_
        have he : rBra tk r a co = (false, aa2, oo2) := by rw [hr2]; show rThen (rThen (rTake tk 91 a co) (rTes tk r2)) (rTake tk 93) = _; simp only [he1, he2, rThen_t, rThen_f]
        exact jJ_zret hx hb hr hlocks dX4_bracket_39 (by show _ ≤ 4001 - Pp; omega) (by show _ ≤ 128 * (4000 - Pp) + 32000; omega) (Or.inl rfl) ⟨by rw [he]; try rfl, PP2, by rw [he]; exact hu2, by omega, by omega⟩
      · subst c22
        refine jJ_of (fun H locs => lv_aload_n hx hb dX4_bracket_25 rfl (lv_at hl 0 rfl)) ?_
        refine jJ_of (fun H locs => lv_bipush (v := (nI 93)) hx hb dX4_bracket_26 (by decide)) ?_
        refine jJ_callV (As := [.int (nI 93)]) (rest := []) (wc := _) (cs2 := []) (C := RX4) (T := TX4) (N := 3) (ci := 3) [0] [] ⟨hx, hb, hml, hown, hts⟩ hK hA hAm (c_Rd_take hk hu2 93 (by omega) (by omega)) (cwV 1 hts gX4_bracket_X4_take rfl rfl rfl (by decide +kernel) ⟨by show (8) + 1 ≤ 6 * r + 8; omega, by show 8 + (2 + 11) + (200) ≤ 240 * r + 320; omega⟩) (nn := 1) rfl (by decide) rfl rfl hu2.hd rfl rfl rfl hl.1 (Nat.le_of_ble_eq_true rfl) dX4_bracket_28 (by show _ + (4001 - PP2) ≤ 4001 - Pp; omega) (by show _ + (128 * (4000 - PP2) + 32000) ≤ 128 * (4000 - Pp) + 32000; omega) (fun v u3 k3 n3 hq3 => ?_)
        try dsimp only at hq3
        obtain ⟨bb3, aa3, oo3, he3⟩ : ∃ (b : Bool) (x : Nat) (o : List Int32), rTake tk 93 aa2 oo2 = (b, x, o) := ⟨(rTake tk 93 aa2 oo2).1, (rTake tk 93 aa2 oo2).2.1, (rTake tk 93 aa2 oo2).2.2, rfl⟩
        rw [he3] at hq3
        try dsimp only at hq3
        obtain ⟨rfl, PP3, hu3, hkk3, hnn3⟩ := hq3
        have hL3 := hu3.len
        refine jJ_eq (g2 := F0 m 31 ls [.int (bI bb3)]) (cs2 := [u3]) rfl rfl ?_
        refine jJ_of2 (fun H locs => jb_if_eq (tgt := 38) hx hb dX4_bracket_31 (by decide)) (fun c31 => ?_) (fun c31 => ?_)
        · subst c31
          refine jJ_of (fun H locs => lv_iconst (v := (nI 0)) hx hb dX4_bracket_38 (by decide)) ?_
          have he : rBra tk r a co = (false, aa3, oo3) := by rw [hr2]; show rThen (rThen (rTake tk 91 a co) (rTes tk r2)) (rTake tk 93) = _; simp only [he1, he2, he3, rThen_t, rThen_f]
          exact jJ_zret hx hb hr hlocks dX4_bracket_39 (by show _ ≤ 4001 - Pp; omega) (by show _ ≤ 128 * (4000 - Pp) + 32000; omega) (Or.inl rfl) ⟨by rw [he]; try rfl, PP3, by rw [he]; exact hu3, by omega, by omega⟩
        · subst c31
          refine jJ_of (fun H locs => lv_iconst (v := (nI 1)) hx hb dX4_bracket_34 (by decide)) ?_
          refine jJ_of (fun H locs => lv_goto (tgt := 39) hx hb dX4_bracket_35 (by decide)) ?_
          have he : rBra tk r a co = (true, aa3, oo3) := by rw [hr2]; show rThen (rThen (rTake tk 91 a co) (rTes tk r2)) (rTake tk 93) = _; simp only [he1, he2, he3, rThen_t, rThen_f]
          exact jJ_zret hx hb hr hlocks dX4_bracket_39 (by show _ ≤ 4001 - Pp; omega) (by show _ ≤ 128 * (4000 - Pp) + 32000; omega) (Or.inr rfl) ⟨by rw [he]; try rfl, PP3, by rw [he]; exact hu3, by omega, by omega⟩
theorem uX4_in_X4_test : ∀ w ∈ u_ws RX4 TX4 3, w ∈ wsX4_test := by decide +kernel
set_option maxHeartbeats 4000000 in
set_option maxRecDepth 100000 in
/-- test(d) -/
theorem c_Rd_test {h ht hT hp Pk Pp nx a : Nat} {T : List Nat} {tk : Nat → List Nat} {pr : Nat → List Int32} {co : List Int32} {wk w : va_W} (hk : jTok cI ht hT Pk T tk nx wk) (hw : jRd cI h ht hp Pp wk pr co a w) (r d : Nat) (hSu : cRd D G cI cJ cB cZ l yX4_sum wsX4_sum (6 * r + 12) (240 * r + 480) [.int (nI d)] ht wk (rSum tk r)) : HM l yX4_test wsX4_test ({ frames := 6 * r + 13, cells := 4001 - Pp, slots := 128 * (4000 - Pp) + 32000, locals := 240 * r + 520 } : Room) D G (jT cI cJ cB cZ) [.ref h, .int (nI d)] w (fun v u k n => v = some (.int (bI (rTes tk r a co).1)) ∧ ∃ P2 : Nat, jRd cI h ht hp P2 wk pr (rTes tk r a co).2.2 (rTes tk r a co).2.1 u ∧ k + Pp ≤ P2 ∧ n + 128 * Pp ≤ 128 * P2) := by
  refine HM_of (cc := cX4_test) (maxL := 3) (ret := (some .boolean)) (lv := [(0, .ref h), (1, .int (nI d))]) (by decide) rfl rfl (Nat.le_of_ble_eq_true rfl) (fun p e s m args below meth c A0 ls hx hb hr hts hown hlocks hml hnm hK hA hAm hl => ?_)
  have hLw := hw.len
  have hkb := hk.len
  refine jJ_of (fun H locs => lv_aload_n hx hb dX4_test_0 rfl (lv_at hl 0 rfl)) ?_
  refine jJ_of (fun H locs => lv_iload_n hx hb dX4_test_1 rfl (lv_at hl 1 rfl)) ?_
  refine jJ_callV (As := [.int (nI d)]) (rest := []) (wc := _) (cs2 := []) (C := RX4) (T := TX4) (N := 3) (ci := 3) [0] [] ⟨hx, hb, hml, hown, hts⟩ hK hA hAm (hSu _ _ _ _ _ _ _ hw) (cwV 1 hts gX4_test_X4_sum rfl rfl rfl (by decide +kernel) ⟨by show (6 * r + 12) + 1 ≤ 6 * r + 13; omega, by show 8 + (5 + 11) + (240 * r + 480) ≤ 240 * r + 520; omega⟩) (nn := 1) rfl (by decide) rfl rfl hw.hd rfl rfl rfl hl.1 (Nat.le_of_ble_eq_true rfl) dX4_test_2 (by show _ + (4001 - Pp) ≤ 4001 - Pp; omega) (by show _ + (128 * (4000 - Pp) + 32000) ≤ 128 * (4000 - Pp) + 32000; omega) (fun v u1 k1 n1 hq1 => ?_)
  try dsimp only at hq1
  obtain ⟨bb1, aa1, oo1, he1⟩ : ∃ (b : Bool) (x : Nat) (o : List Int32), rSum tk r a co = (b, x, o) := ⟨(rSum tk r a co).1, (rSum tk r a co).2.1, (rSum tk r a co).2.2, rfl⟩
  rw [he1] at hq1
  try dsimp only at hq1
  obtain ⟨rfl, PP1, hu1, hkk1, hnn1⟩ := hq1
  have hL1 := hu1.len
  refine jJ_eq (g2 := F0 m 5 ls [.int (bI bb1)]) (cs2 := [u1]) rfl rfl ?_
  refine jJ_of2 (fun H locs => jb_if_ne (tgt := 10) hx hb dX4_test_5 (by decide)) (fun c5 => ?_) (fun c5 => ?_)
  · subst c5
    refine jJ_of (fun H locs => lv_aload_n hx hb dX4_test_10 rfl (lv_at hl 0 rfl)) ?_
    have hsv2 := hu1
    obtain ⟨wp2, rfl, hp2, ha2⟩ := hsv2
    refine jJ_open (xs := [[(h, .inr (3, [.ref ht, .ref hp, .int (nI aa1)]))], wk, wp2]) (r := []) (cs2 := [[(h, .inr (3, [.ref ht, .ref hp, .int (nI aa1)]))], wk, wp2]) rfl ?_
    refine jJ_get hx hb (C := RX4) (T := TX4) (N := 3) hts uX4_in_X4_test hown hK 0 rfl rfl 0 (by decide) (hts (.fieldLink RX4 7 "ValueBlocks$Reader" "tokens" "LValueBlocks$Tokens;") (by decide +kernel)) (fun _ h9 => h9) rfl dX4_test_11 ?_
    refine jJ_of (fun H locs => lv_aload_n hx hb dX4_test_14 rfl (lv_at hl 0 rfl)) ?_
    refine jJ_get hx hb (C := RX4) (T := TX4) (N := 3) hts uX4_in_X4_test hown hK 0 rfl rfl 2 (by decide) (hts (.fieldLink RX4 17 "ValueBlocks$Reader" "at" "I") (by decide +kernel)) (fun _ h9 => h9) rfl dX4_test_15 ?_
    refine jJ_callV (As := [.int (nI aa1)]) (rest := []) (wc := _) (cs2 := [[(h, .inr (3, [.ref ht, .ref hp, .int (nI aa1)]))], wp2]) (C := RX6) (T := TX6) (N := 5) (ci := 5) [1] [0, 2] ⟨hx, hb, hml, hown, hts⟩ hK hA hAm (c_Tok_kind hk aa1 (by omega)) (cwV 1 hts gX4_test_X6_kind rfl rfl rfl (by decide +kernel) ⟨by show (1) + 1 ≤ 6 * r + 13; omega, by show 8 + (2 + 11) + (40) ≤ 240 * r + 520; omega⟩) (nn := 3) rfl (by decide) rfl rfl hk.hd rfl rfl rfl hl.1 (Nat.le_of_ble_eq_true rfl) dX4_test_18 (by show _ + 0 ≤ 4001 - Pp; omega) (by show _ + 0 ≤ 128 * (4000 - Pp) + 32000; omega) (fun v u3 k3 n3 hq3 => ?_)
    obtain ⟨rfl, hw3, rfl, rfl⟩ := hq3
    rw [hw3]
    refine jJ_eq (g2 := F0 m 21 ls [.int (nI ((tk 0).getD aa1 0))]) (cs2 := [wk, [(h, .inr (3, [.ref ht, .ref hp, .int (nI aa1)]))], wp2]) rfl rfl ?_
    have hvb3 := hkb.2.2.2.2.2.2.1 0 (by decide) aa1
    refine jJ_ofL (fun H locs => lv_istore_n (lv' := [(2, .int (nI ((tk 0).getD aa1 0))), (0, .ref h), (1, .int (nI d))]) hx hb dX4_test_21 rfl hl (by decide) rfl) (fun ls hl => ?_)
    refine jJ_of (fun H locs => lv_iload_n hx hb dX4_test_22 rfl (lv_at hl 0 rfl)) ?_
    refine jJ_of (fun H locs => lv_sipush (v := (nI 313)) hx hb dX4_test_23 (by decide)) ?_
    refine jJ_of2 (fun H locs => jn_icmp_lt (tgt := 36) hx hb dX4_test_26 (by decide) (by omega) (by omega)) (fun c26 => ?_) (fun c26 => ?_)
    · refine jJ_of (fun H locs => lv_iconst (v := (nI 1)) hx hb dX4_test_36 (by decide)) ?_
      refine jJ_perm [1, 0, 2] (nn := 3) rfl (by decide) (cs2 := [[(h, .inr (3, [.ref ht, .ref hp, .int (nI aa1)]))], wk, wp2]) rfl ?_
      have hrw4 : jRd cI h ht hp PP1 wk pr oo1 aa1 (jF [[(h, .inr (3, [.ref ht, .ref hp, .int (nI aa1)]))], wk, wp2]) := ⟨_, rfl, hp2, by omega⟩
      refine jJ_flat (cs2 := [jF [[(h, .inr (3, [.ref ht, .ref hp, .int (nI aa1)]))], wk, wp2]]) rfl ?_
      have hLr4 := hrw4.len
      have he : rTes tk r a co = (true, aa1, oo1) := by unfold rTes rTe; rw [he1, rThen_t]; exact if_neg (by omega)
      exact jJ_zret hx hb hr hlocks dX4_test_37 (by show _ ≤ 4001 - Pp; omega) (by show _ ≤ 128 * (4000 - Pp) + 32000; omega) (Or.inr rfl) ⟨by rw [he]; try rfl, PP1, by rw [he]; exact hrw4, by omega, by omega⟩
    · refine jJ_of (fun H locs => lv_iload_n hx hb dX4_test_29 rfl (lv_at hl 0 rfl)) ?_
      refine jJ_of (fun H locs => lv_sipush (v := (nI 318)) hx hb dX4_test_30 (by decide)) ?_
      refine jJ_of2 (fun H locs => jn_icmp_le (tgt := 38) hx hb dX4_test_33 (by decide) (by omega) (by omega)) (fun c33 => ?_) (fun c33 => ?_)
      · refine jJ_of (fun H locs => lv_aload_n hx hb dX4_test_38 rfl (lv_at hl 1 rfl)) ?_
        refine jJ_of (fun H locs => lv_dup hx hb dX4_test_39 rfl) ?_
        refine jJ_get hx hb (C := RX4) (T := TX4) (N := 3) hts uX4_in_X4_test hown hK 1 rfl rfl 2 (by decide) (hts (.fieldLink RX4 17 "ValueBlocks$Reader" "at" "I") (by decide +kernel)) (fun _ h9 => h9) rfl dX4_test_40 ?_
        refine jJ_of (fun H locs => lv_iconst (v := (nI 1)) hx hb dX4_test_43 (by decide)) ?_
        refine jJ_of (fun H locs => jn_iadd hx hb dX4_test_44) ?_
        refine jJ_put hx hb (C := RX4) (T := TX4) (N := 3) (ty := .int) (v := .int (nI (aa1 + 1))) hts uX4_in_X4_test tyX4 tyX4_ok nmX4 hown hK 1 rfl rfl 2 (by decide) (hts (.fieldLink RX4 17 "ValueBlocks$Reader" "at" "I") (by decide +kernel)) (fun _ h9 => h9) rfl (by decide +kernel) rfl rfl (Nat.le_of_ble_eq_true rfl) dX4_test_45 (cs2 := [wk, [(h, .inr (3, [.ref ht, .ref hp, .int (nI (aa1 + 1))]))], wp2]) rfl ?_
        refine jJ_of (fun H locs => lv_aload_n hx hb dX4_test_48 rfl (lv_at hl 1 rfl)) ?_
        refine jJ_of (fun H locs => lv_iload_n hx hb dX4_test_49 rfl (lv_at hl 2 rfl)) ?_
        refine jJ_perm [1, 0, 2] (nn := 3) rfl (by decide) (cs2 := [[(h, .inr (3, [.ref ht, .ref hp, .int (nI (aa1 + 1))]))], wk, wp2]) rfl ?_
        have hat5 := hk.lt aa1 (by omega)
        have hrw5 : jRd cI h ht hp PP1 wk pr oo1 (aa1 + 1) (jF [[(h, .inr (3, [.ref ht, .ref hp, .int (nI (aa1 + 1))]))], wk, wp2]) := ⟨_, rfl, hp2, by omega⟩
        refine jJ_flat (cs2 := [jF [[(h, .inr (3, [.ref ht, .ref hp, .int (nI (aa1 + 1))]))], wk, wp2]]) rfl ?_
        have hLr5 := hrw5.len
        refine jJ_callV (As := [.int (nI d)]) (rest := []) (wc := _) (cs2 := []) (C := RX4) (T := TX4) (N := 3) (ci := 3) [0] [] ⟨hx, hb, hml, hown, hts⟩ hK hA hAm (hSu _ _ _ _ _ _ _ hrw5) (cwV 1 hts gX4_test_X4_sum rfl rfl rfl (by decide +kernel) ⟨by show (6 * r + 12) + 1 ≤ 6 * r + 13; omega, by show 8 + (5 + 11) + (240 * r + 480) ≤ 240 * r + 520; omega⟩) (nn := 1) rfl (by decide) rfl rfl hrw5.hd rfl rfl rfl hl.1 (Nat.le_of_ble_eq_true rfl) dX4_test_50 (by show _ + (4001 - PP1) ≤ 4001 - Pp; omega) (by show _ + (128 * (4000 - PP1) + 32000) ≤ 128 * (4000 - Pp) + 32000; omega) (fun v u6 k6 n6 hq6 => ?_)
        try dsimp only at hq6
        obtain ⟨bb6, aa6, oo6, he6⟩ : ∃ (b : Bool) (x : Nat) (o : List Int32), rSum tk r (aa1 + 1) oo1 = (b, x, o) := ⟨(rSum tk r (aa1 + 1) oo1).1, (rSum tk r (aa1 + 1) oo1).2.1, (rSum tk r (aa1 + 1) oo1).2.2, rfl⟩
        rw [he6] at hq6
        try dsimp only at hq6
        obtain ⟨rfl, PP6, hu6, hkk6, hnn6⟩ := hq6
        have hL6 := hu6.len
        refine jJ_eq (g2 := F0 m 53 ls [.int (bI bb6)]) (cs2 := [u6]) rfl rfl ?_
        refine jJ_of2 (fun H locs => jb_if_eq (tgt := 68) hx hb dX4_test_53 (by decide)) (fun c53 => ?_) (fun c53 => ?_)
        · subst c53
          refine jJ_of (fun H locs => lv_iconst (v := (nI 0)) hx hb dX4_test_68 (by decide)) ?_
          have he : rTes tk r a co = (false, aa6, oo6) := by unfold rTes rTe; rw [he1, rThen_t]; refine (if_pos (by omega)).trans ?_; simp only [he1, he6, rThen_t, rThen_f]
          exact jJ_zret hx hb hr hlocks dX4_test_69 (by show _ ≤ 4001 - Pp; omega) (by show _ ≤ 128 * (4000 - Pp) + 32000; omega) (Or.inl rfl) ⟨by rw [he]; try rfl, PP6, by rw [he]; exact hu6, by omega, by omega⟩
        · subst c53
          refine jJ_of (fun H locs => lv_aload_n hx hb dX4_test_56 rfl (lv_at hl 1 rfl)) ?_
          refine jJ_of (fun H locs => lv_iload_n hx hb dX4_test_57 rfl (lv_at hl 0 rfl)) ?_
          refine jJ_callV (As := [.int (nI ((tk 0).getD aa1 0))]) (rest := []) (wc := _) (cs2 := []) (C := RX4) (T := TX4) (N := 3) (ci := 3) [0] [] ⟨hx, hb, hml, hown, hts⟩ hK hA hAm (c_Rd_write hk hu6 ((tk 0).getD aa1 0) (by omega)) (cwV 1 hts gX4_test_X4_write rfl rfl rfl (by decide +kernel) ⟨by show (7) + 1 ≤ 6 * r + 13; omega, by show 8 + (2 + 11) + (200) ≤ 240 * r + 520; omega⟩) (nn := 1) rfl (by decide) rfl rfl hu6.hd rfl rfl rfl hl.1 (Nat.le_of_ble_eq_true rfl) dX4_test_58 (by show _ + (4001 - PP6) ≤ 4001 - Pp; omega) (by show _ + (128 * (4000 - PP6) + 32000) ≤ 128 * (4000 - Pp) + 32000; omega) (fun v u7 k7 n7 hq7 => ?_)
          try dsimp only at hq7
          obtain ⟨bb7, aa7, oo7, he7⟩ : ∃ (b : Bool) (x : Nat) (o : List Int32), rWr ((tk 0).getD aa1 0) aa6 oo6 = (b, x, o) := ⟨(rWr ((tk 0).getD aa1 0) aa6 oo6).1, (rWr ((tk 0).getD aa1 0) aa6 oo6).2.1, (rWr ((tk 0).getD aa1 0) aa6 oo6).2.2, rfl⟩
          rw [he7] at hq7
          try dsimp only at hq7
          obtain ⟨rfl, PP7, hu7, hkk7, hnn7⟩ := hq7
          have hL7 := hu7.len
          refine jJ_eq (g2 := F0 m 61 ls [.int (bI bb7)]) (cs2 := [u7]) rfl rfl ?_
          refine jJ_of2 (fun H locs => jb_if_eq (tgt := 68) hx hb dX4_test_61 (by decide)) (fun c61 => ?_) (fun c61 => ?_)
          · subst c61
            refine jJ_of (fun H locs => lv_iconst (v := (nI 0)) hx hb dX4_test_68 (by decide)) ?_
            have he : rTes tk r a co = (false, aa7, oo7) := by unfold rTes rTe; rw [he1, rThen_t]; refine (if_pos (by omega)).trans ?_; simp only [he1, he6, he7, rThen_t, rThen_f]
            exact jJ_zret hx hb hr hlocks dX4_test_69 (by show _ ≤ 4001 - Pp; omega) (by show _ ≤ 128 * (4000 - Pp) + 32000; omega) (Or.inl rfl) ⟨by rw [he]; try rfl, PP7, by rw [he]; exact hu7, by omega, by omega⟩
          · subst c61
            refine jJ_of (fun H locs => lv_iconst (v := (nI 1)) hx hb dX4_test_64 (by decide)) ?_
            refine jJ_of (fun H locs => lv_goto (tgt := 69) hx hb dX4_test_65 (by decide)) ?_
            have he : rTes tk r a co = (true, aa7, oo7) := by unfold rTes rTe; rw [he1, rThen_t]; refine (if_pos (by omega)).trans ?_; simp only [he1, he6, he7, rThen_t, rThen_f]
            exact jJ_zret hx hb hr hlocks dX4_test_69 (by show _ ≤ 4001 - Pp; omega) (by show _ ≤ 128 * (4000 - Pp) + 32000; omega) (Or.inr rfl) ⟨by rw [he]; try rfl, PP7, by rw [he]; exact hu7, by omega, by omega⟩
      · refine jJ_of (fun H locs => lv_iconst (v := (nI 1)) hx hb dX4_test_36 (by decide)) ?_
        refine jJ_perm [1, 0, 2] (nn := 3) rfl (by decide) (cs2 := [[(h, .inr (3, [.ref ht, .ref hp, .int (nI aa1)]))], wk, wp2]) rfl ?_
        have hrw8 : jRd cI h ht hp PP1 wk pr oo1 aa1 (jF [[(h, .inr (3, [.ref ht, .ref hp, .int (nI aa1)]))], wk, wp2]) := ⟨_, rfl, hp2, by omega⟩
        refine jJ_flat (cs2 := [jF [[(h, .inr (3, [.ref ht, .ref hp, .int (nI aa1)]))], wk, wp2]]) rfl ?_
        have hLr8 := hrw8.len
        have he : rTes tk r a co = (true, aa1, oo1) := by unfold rTes rTe; rw [he1, rThen_t]; exact if_neg (by omega)
        exact jJ_zret hx hb hr hlocks dX4_test_37 (by show _ ≤ 4001 - Pp; omega) (by show _ ≤ 128 * (4000 - Pp) + 32000; omega) (Or.inr rfl) ⟨by rw [he]; try rfl, PP1, by rw [he]; exact hrw8, by omega, by omega⟩
  · subst c5
    refine jJ_of (fun H locs => lv_iconst (v := (nI 0)) hx hb dX4_test_8 (by decide)) ?_
    have he : rTes tk r a co = (false, aa1, oo1) := by unfold rTes rTe; simp only [he1, rThen_t, rThen_f]
    exact jJ_zret hx hb hr hlocks dX4_test_9 (by show _ ≤ 4001 - Pp; omega) (by show _ ≤ 128 * (4000 - Pp) + 32000; omega) (Or.inl rfl) ⟨by rw [he]; try rfl, PP1, by rw [he]; exact hu1, by omega, by omega⟩
theorem uX4_in_X4_product : ∀ w ∈ u_ws RX4 TX4 3, w ∈ wsX4_product := by decide +kernel
set_option maxHeartbeats 4000000 in
set_option maxRecDepth 100000 in
/-- product(d) -/
theorem c_Rd_product {h ht hT hp Pk Pp nx a : Nat} {T : List Nat} {tk : Nat → List Nat} {pr : Nat → List Int32} {co : List Int32} {wk w : va_W} (hk : jTok cI ht hT Pk T tk nx wk) (hw : jRd cI h ht hp Pp wk pr co a w) (r d : Nat) (hFa : cRd D G cI cJ cB cZ l yX4_factor wsX4_factor (6 * r + 10) (240 * r + 400) [.int (nI d)] ht wk (rFac tk r)) : HM l yX4_product wsX4_product ({ frames := 6 * r + 11, cells := 4001 - Pp, slots := 128 * (4000 - Pp) + 32000, locals := 240 * r + 440 } : Room) D G (jT cI cJ cB cZ) [.ref h, .int (nI d)] w (fun v u k n => v = some (.int (bI (rPro tk r a co).1)) ∧ ∃ P2 : Nat, jRd cI h ht hp P2 wk pr (rPro tk r a co).2.2 (rPro tk r a co).2.1 u ∧ k + Pp ≤ P2 ∧ n + 128 * Pp ≤ 128 * P2) := by
  refine HM_of (cc := cX4_product) (maxL := 5) (ret := (some .boolean)) (lv := [(0, .ref h), (1, .int (nI d))]) (by decide) rfl rfl (Nat.le_of_ble_eq_true rfl) (fun p e s m args below meth c A0 ls hx hb hr hts hown hlocks hml hnm hK hA hAm hl => ?_)
  have hLw := hw.len
  have hkb := hk.len
  refine jJ_of (fun H locs => lv_aload_n hx hb dX4_product_0 rfl (lv_at hl 0 rfl)) ?_
  refine jJ_of (fun H locs => lv_iload_n hx hb dX4_product_1 rfl (lv_at hl 1 rfl)) ?_
  refine jJ_callV (As := [.int (nI d)]) (rest := []) (wc := _) (cs2 := []) (C := RX4) (T := TX4) (N := 3) (ci := 3) [0] [] ⟨hx, hb, hml, hown, hts⟩ hK hA hAm (hFa _ _ _ _ _ _ _ hw) (cwV 1 hts gX4_product_X4_factor rfl rfl rfl (by decide +kernel) ⟨by show (6 * r + 10) + 1 ≤ 6 * r + 11; omega, by show 8 + (3 + 11) + (240 * r + 400) ≤ 240 * r + 440; omega⟩) (nn := 1) rfl (by decide) rfl rfl hw.hd rfl rfl rfl hl.1 (Nat.le_of_ble_eq_true rfl) dX4_product_2 (by show _ + (4001 - Pp) ≤ 4001 - Pp; omega) (by show _ + (128 * (4000 - Pp) + 32000) ≤ 128 * (4000 - Pp) + 32000; omega) (fun v u1 k1 n1 hq1 => ?_)
  try dsimp only at hq1
  obtain ⟨bb1, aa1, oo1, he1⟩ : ∃ (b : Bool) (x : Nat) (o : List Int32), rFac tk r a co = (b, x, o) := ⟨(rFac tk r a co).1, (rFac tk r a co).2.1, (rFac tk r a co).2.2, rfl⟩
  rw [he1] at hq1
  try dsimp only at hq1
  obtain ⟨rfl, PP1, hu1, hkk1, hnn1⟩ := hq1
  have hL1 := hu1.len
  refine jJ_eq (g2 := F0 m 5 ls [.int (bI bb1)]) (cs2 := [u1]) rfl rfl ?_
  refine jJ_ofL (fun H locs => lv_istore_n (lv' := [(2, .int (bI bb1)), (0, .ref h), (1, .int (nI d))]) hx hb dX4_product_5 rfl hl (by decide) rfl) (fun ls hl => ?_)
  refine jJ_of (fun H locs => lv_iconst (v := (nI 0)) hx hb dX4_product_6 (by decide)) ?_
  refine jJ_ofL (fun H locs => lv_istore_n (lv' := [(3, .int (nI 0)), (2, .int (bI bb1)), (0, .ref h), (1, .int (nI d))]) hx hb dX4_product_7 rfl hl (by decide) rfl) (fun ls hl => ?_)
  suffices lp : ∀ (f i : Nat) (b1 : Bool) (a1 P1 k1 n1 : Nat) (co1 : List Int32) (w1 : va_W), 8000 - i < f → i ≤ 8000 → jRd cI h ht hp P1 wk pr co1 a1 w1 → k1 + Pp ≤ P1 → n1 + 128 * Pp ≤ 128 * P1 → rThen (b1, a1, co1) (rLoop tk jnF (rFac tk r) (8000 - i)) = rPro tk r a co → ∀ ls, lv_has ls 5 [(3, .int (nI i)), (2, .int (bI b1)), (0, .ref h), (1, .int (nI d))] → jJ p l e _ s m args below meth c D A0 [w1] k1 n1 (jEnd below D A0 _ args s _ _) (F0 m 8 ls []) from lp 8001 0 bb1 _ _ _ _ _ _ (by omega) (by omega) hu1 (by omega) (by omega) (by rw [← he1]; rfl) ls (lv_sub hl [0, 1, 2, 3] rfl)
  intro f
  induction f with
  | zero => intro i b1 a1 P1 k1 n1 co1 w1 h9; exact absurd h9 (Nat.not_lt_zero _)
  | succ f ih =>
    intro i b1 a1 P1 k1 n1 co1 w1 h9 hi9 hw1 hk1 hn1 hcl ls hl
    have hL1 := hw1.len
    refine jJ_of (fun H locs => lv_iload_n hx hb dX4_product_8 rfl (lv_at hl 0 rfl)) ?_
    refine jJ_of (fun H locs => lv_sipush (v := (nI 8000)) hx hb dX4_product_9 (by decide)) ?_
    refine jJ_of2 (fun H locs => jn_icmp_ge (tgt := 88) hx hb dX4_product_12 (by decide) (by omega) (by omega)) (fun c12 => ?_) (fun c12 => ?_)
    · refine jJ_of (fun H locs => lv_iload_n hx hb dX4_product_88 rfl (lv_at hl 1 rfl)) ?_
      have he : rPro tk r a co = (b1, a1, co1) := hcl.symm.trans (by rw [show 8000 - i = 0 by omega]; cases b1 <;> rfl)
      exact jJ_zret hx hb hr hlocks dX4_product_89 (by show _ ≤ 4001 - Pp; omega) (by show _ ≤ 128 * (4000 - Pp) + 32000; omega) (bI_01 _) ⟨by rw [he]; try rfl, P1, by rw [he]; exact hw1, by omega, by omega⟩
    · refine jJ_of (fun H locs => lv_iload_n hx hb dX4_product_15 rfl (lv_at hl 1 rfl)) ?_
      refine jJ_of2 (fun H locs => jb_if_eq (tgt := 88) hx hb dX4_product_16 (by decide)) (fun c16 => ?_) (fun c16 => ?_)
      · subst c16
        refine jJ_of (fun H locs => lv_iload_n hx hb dX4_product_88 rfl (lv_at hl 1 rfl)) ?_
        have he : rPro tk r a co = (false, a1, co1) := hcl.symm
        exact jJ_zret hx hb hr hlocks dX4_product_89 (by show _ ≤ 4001 - Pp; omega) (by show _ ≤ 128 * (4000 - Pp) + 32000; omega) (Or.inl rfl) ⟨by rw [he]; try rfl, P1, by rw [he]; exact hw1, by omega, by omega⟩
      · subst c16
        refine jJ_of (fun H locs => lv_aload_n hx hb dX4_product_19 rfl (lv_at hl 2 rfl)) ?_
        have hsv2 := hw1
        obtain ⟨wp2, rfl, hp2, ha2⟩ := hsv2
        refine jJ_open (xs := [[(h, .inr (3, [.ref ht, .ref hp, .int (nI a1)]))], wk, wp2]) (r := []) (cs2 := [[(h, .inr (3, [.ref ht, .ref hp, .int (nI a1)]))], wk, wp2]) rfl ?_
        refine jJ_get hx hb (C := RX4) (T := TX4) (N := 3) hts uX4_in_X4_product hown hK 0 rfl rfl 0 (by decide) (hts (.fieldLink RX4 7 "ValueBlocks$Reader" "tokens" "LValueBlocks$Tokens;") (by decide +kernel)) (fun _ h9 => h9) rfl dX4_product_20 ?_
        refine jJ_of (fun H locs => lv_aload_n hx hb dX4_product_23 rfl (lv_at hl 2 rfl)) ?_
        refine jJ_get hx hb (C := RX4) (T := TX4) (N := 3) hts uX4_in_X4_product hown hK 0 rfl rfl 2 (by decide) (hts (.fieldLink RX4 17 "ValueBlocks$Reader" "at" "I") (by decide +kernel)) (fun _ h9 => h9) rfl dX4_product_24 ?_
        refine jJ_callV (As := [.int (nI a1)]) (rest := []) (wc := _) (cs2 := [[(h, .inr (3, [.ref ht, .ref hp, .int (nI a1)]))], wp2]) (C := RX6) (T := TX6) (N := 5) (ci := 5) [1] [0, 2] ⟨hx, hb, hml, hown, hts⟩ hK hA hAm (c_Tok_kind hk a1 (by omega)) (cwV 1 hts gX4_product_X6_kind rfl rfl rfl (by decide +kernel) ⟨by show (1) + 1 ≤ 6 * r + 11; omega, by show 8 + (2 + 11) + (40) ≤ 240 * r + 440; omega⟩) (nn := 3) rfl (by decide) rfl rfl hk.hd rfl rfl rfl hl.1 (Nat.le_of_ble_eq_true rfl) dX4_product_27 (by show _ + 0 ≤ 4001 - Pp; omega) (by show _ + 0 ≤ 128 * (4000 - Pp) + 32000; omega) (fun v u3 k3 n3 hq3 => ?_)
        obtain ⟨rfl, hw3, rfl, rfl⟩ := hq3
        rw [hw3]
        refine jJ_eq (g2 := F0 m 30 ls [.int (nI ((tk 0).getD a1 0))]) (cs2 := [wk, [(h, .inr (3, [.ref ht, .ref hp, .int (nI a1)]))], wp2]) rfl rfl ?_
        have hvb3 := hkb.2.2.2.2.2.2.1 0 (by decide) a1
        refine jJ_callS (As := [.int (nI ((tk 0).getD a1 0))]) (rest := []) (wc := _) (cs2 := [wk, [(h, .inr (3, [.ref ht, .ref hp, .int (nI a1)]))], wp2]) [] [0, 1, 2] ⟨hx, hb, hml, hown, hts⟩ hK hA hAm (c_jnF ((tk 0).getD a1 0) (by omega)) (va_cwS 1 hts gX4_product_X4_joinsFactors rfl rfl rfl (by decide +kernel) ⟨by show (0) + 1 ≤ 6 * r + 11; omega, by show 8 + (1 + 11) + (0) ≤ 240 * r + 440; omega⟩) (nn := 3) rfl (by decide) rfl rfl rfl rfl hl.1 (Nat.le_of_ble_eq_true rfl) dX4_product_30 (by show _ + 0 ≤ 4001 - Pp; omega) (by show _ + 0 ≤ 128 * (4000 - Pp) + 32000; omega) (fun v u4 k4 n4 hq4 => ?_)
        obtain ⟨rfl, rfl, rfl, rfl⟩ := hq4
        refine jJ_eq (g2 := F0 m 33 ls [.int (bI (jnF ((tk 0).getD a1 0)))]) (cs2 := [([] : va_W), wk, [(h, .inr (3, [.ref ht, .ref hp, .int (nI a1)]))], wp2]) rfl rfl ?_
        refine jJ_flat (cs2 := [wk, [(h, .inr (3, [.ref ht, .ref hp, .int (nI a1)]))], wp2]) rfl ?_
        refine jJ_of2 (fun H locs => jb_if_eq (tgt := 88) hx hb dX4_product_33 (by decide)) (fun c33 => ?_) (fun c33 => ?_)
        · refine jJ_of (fun H locs => lv_iload_n hx hb dX4_product_88 rfl (lv_at hl 1 rfl)) ?_
          refine jJ_perm [1, 0, 2] (nn := 3) rfl (by decide) (cs2 := [[(h, .inr (3, [.ref ht, .ref hp, .int (nI a1)]))], wk, wp2]) rfl ?_
          have hrw5 : jRd cI h ht hp P1 wk pr co1 a1 (jF [[(h, .inr (3, [.ref ht, .ref hp, .int (nI a1)]))], wk, wp2]) := ⟨_, rfl, hp2, by omega⟩
          refine jJ_flat (cs2 := [jF [[(h, .inr (3, [.ref ht, .ref hp, .int (nI a1)]))], wk, wp2]]) rfl ?_
          have hLr5 := hrw5.len
          have he : rPro tk r a co = (true, a1, co1) := hcl.symm.trans (by rw [rThen_t, show 8000 - i = (7999 - i) + 1 by omega]; exact if_neg (by rw [c33]; decide))
          exact jJ_zret hx hb hr hlocks dX4_product_89 (by show _ ≤ 4001 - Pp; omega) (by show _ ≤ 128 * (4000 - Pp) + 32000; omega) (Or.inr rfl) ⟨by rw [he]; try rfl, P1, by rw [he]; exact hrw5, by omega, by omega⟩
        · have hjn := jnF_nz c33
          refine jJ_of (fun H locs => lv_aload_n hx hb dX4_product_36 rfl (lv_at hl 2 rfl)) ?_
          refine jJ_get hx hb (C := RX4) (T := TX4) (N := 3) hts uX4_in_X4_product hown hK 1 rfl rfl 0 (by decide) (hts (.fieldLink RX4 7 "ValueBlocks$Reader" "tokens" "LValueBlocks$Tokens;") (by decide +kernel)) (fun _ h9 => h9) rfl dX4_product_37 ?_
          refine jJ_of (fun H locs => lv_aload_n hx hb dX4_product_40 rfl (lv_at hl 2 rfl)) ?_
          refine jJ_get hx hb (C := RX4) (T := TX4) (N := 3) hts uX4_in_X4_product hown hK 1 rfl rfl 2 (by decide) (hts (.fieldLink RX4 17 "ValueBlocks$Reader" "at" "I") (by decide +kernel)) (fun _ h9 => h9) rfl dX4_product_41 ?_
          refine jJ_callV (As := [.int (nI a1)]) (rest := []) (wc := _) (cs2 := [[(h, .inr (3, [.ref ht, .ref hp, .int (nI a1)]))], wp2]) (C := RX6) (T := TX6) (N := 5) (ci := 5) [0] [1, 2] ⟨hx, hb, hml, hown, hts⟩ hK hA hAm (c_Tok_kind hk a1 (by omega)) (cwV 1 hts gX4_product_X6_kind rfl rfl rfl (by decide +kernel) ⟨by show (1) + 1 ≤ 6 * r + 11; omega, by show 8 + (2 + 11) + (40) ≤ 240 * r + 440; omega⟩) (nn := 3) rfl (by decide) rfl rfl hk.hd rfl rfl rfl hl.1 (Nat.le_of_ble_eq_true rfl) dX4_product_44 (by show _ + 0 ≤ 4001 - Pp; omega) (by show _ + 0 ≤ 128 * (4000 - Pp) + 32000; omega) (fun v u6 k6 n6 hq6 => ?_)
          obtain ⟨rfl, hw6, rfl, rfl⟩ := hq6
          rw [hw6]
          refine jJ_eq (g2 := F0 m 47 ls [.int (nI ((tk 0).getD a1 0))]) (cs2 := [wk, [(h, .inr (3, [.ref ht, .ref hp, .int (nI a1)]))], wp2]) rfl rfl ?_
          have hvb6 := hkb.2.2.2.2.2.2.1 0 (by decide) a1
          refine jJ_ofL (fun H locs => lv_istore (lv' := [(4, .int (nI ((tk 0).getD a1 0))), (3, .int (nI i)), (2, .int (bI true)), (0, .ref h), (1, .int (nI d))]) hx hb dX4_product_47 hl (by decide) rfl) (fun ls hl => ?_)
          refine jJ_of (fun H locs => lv_aload_n hx hb dX4_product_49 rfl (lv_at hl 3 rfl)) ?_
          refine jJ_of (fun H locs => lv_dup hx hb dX4_product_50 rfl) ?_
          refine jJ_get hx hb (C := RX4) (T := TX4) (N := 3) hts uX4_in_X4_product hown hK 1 rfl rfl 2 (by decide) (hts (.fieldLink RX4 17 "ValueBlocks$Reader" "at" "I") (by decide +kernel)) (fun _ h9 => h9) rfl dX4_product_51 ?_
          refine jJ_of (fun H locs => lv_iconst (v := (nI 1)) hx hb dX4_product_54 (by decide)) ?_
          refine jJ_of (fun H locs => jn_iadd hx hb dX4_product_55) ?_
          refine jJ_put hx hb (C := RX4) (T := TX4) (N := 3) (ty := .int) (v := .int (nI (a1 + 1))) hts uX4_in_X4_product tyX4 tyX4_ok nmX4 hown hK 1 rfl rfl 2 (by decide) (hts (.fieldLink RX4 17 "ValueBlocks$Reader" "at" "I") (by decide +kernel)) (fun _ h9 => h9) rfl (by decide +kernel) rfl rfl (Nat.le_of_ble_eq_true rfl) dX4_product_56 (cs2 := [wk, [(h, .inr (3, [.ref ht, .ref hp, .int (nI (a1 + 1))]))], wp2]) rfl ?_
          refine jJ_of (fun H locs => lv_aload_n hx hb dX4_product_59 rfl (lv_at hl 3 rfl)) ?_
          refine jJ_of (fun H locs => lv_iload_n hx hb dX4_product_60 rfl (lv_at hl 4 rfl)) ?_
          refine jJ_perm [1, 0, 2] (nn := 3) rfl (by decide) (cs2 := [[(h, .inr (3, [.ref ht, .ref hp, .int (nI (a1 + 1))]))], wk, wp2]) rfl ?_
          have hat7 := hk.lt a1 (by omega)
          have hrw7 : jRd cI h ht hp P1 wk pr co1 (a1 + 1) (jF [[(h, .inr (3, [.ref ht, .ref hp, .int (nI (a1 + 1))]))], wk, wp2]) := ⟨_, rfl, hp2, by omega⟩
          refine jJ_flat (cs2 := [jF [[(h, .inr (3, [.ref ht, .ref hp, .int (nI (a1 + 1))]))], wk, wp2]]) rfl ?_
          have hLr7 := hrw7.len
          refine jJ_callV (As := [.int (nI d)]) (rest := []) (wc := _) (cs2 := []) (C := RX4) (T := TX4) (N := 3) (ci := 3) [0] [] ⟨hx, hb, hml, hown, hts⟩ hK hA hAm (hFa _ _ _ _ _ _ _ hrw7) (cwV 1 hts gX4_product_X4_factor rfl rfl rfl (by decide +kernel) ⟨by show (6 * r + 10) + 1 ≤ 6 * r + 11; omega, by show 8 + (3 + 11) + (240 * r + 400) ≤ 240 * r + 440; omega⟩) (nn := 1) rfl (by decide) rfl rfl hrw7.hd rfl rfl rfl hl.1 (Nat.le_of_ble_eq_true rfl) dX4_product_61 (by show _ + (4001 - P1) ≤ 4001 - Pp; omega) (by show _ + (128 * (4000 - P1) + 32000) ≤ 128 * (4000 - Pp) + 32000; omega) (fun v u8 k8 n8 hq8 => ?_)
          try dsimp only at hq8
          obtain ⟨bb8, aa8, oo8, he8⟩ : ∃ (b : Bool) (x : Nat) (o : List Int32), rFac tk r (a1 + 1) co1 = (b, x, o) := ⟨(rFac tk r (a1 + 1) co1).1, (rFac tk r (a1 + 1) co1).2.1, (rFac tk r (a1 + 1) co1).2.2, rfl⟩
          rw [he8] at hq8
          try dsimp only at hq8
          obtain ⟨rfl, PP8, hu8, hkk8, hnn8⟩ := hq8
          have hL8 := hu8.len
          refine jJ_eq (g2 := F0 m 64 ls [.int (bI bb8)]) (cs2 := [u8]) rfl rfl ?_
          refine jJ_of2 (fun H locs => jb_if_eq (tgt := 80) hx hb dX4_product_64 (by decide)) (fun c64 => ?_) (fun c64 => ?_)
          · subst c64
            refine jJ_of (fun H locs => lv_iconst (v := (nI 0)) hx hb dX4_product_80 (by decide)) ?_
            refine jJ_ofL (fun H locs => lv_istore_n (lv' := [(2, .int (nI 0)), (4, .int (nI ((tk 0).getD a1 0))), (3, .int (nI i)), (0, .ref h), (1, .int (nI d))]) hx hb dX4_product_81 rfl hl (by decide) rfl) (fun ls hl => ?_)
            refine jJ_ofL (fun H locs => lv_iinc (v := (nI (i + 1))) (lv' := [(3, .int (nI (i + 1))), (2, .int (nI 0)), (4, .int (nI ((tk 0).getD a1 0))), (0, .ref h), (1, .int (nI d))]) hx hb dX4_product_82 hl (k := 2) rfl (nI_add _ _) (by decide) rfl) (fun ls hl => ?_)
            refine jJ_of (fun H locs => lv_goto (tgt := 8) hx hb dX4_product_85 (by decide)) ?_
            exact ih (i + 1) false _ _ _ _ _ _ (by omega) (by omega) hu8 (by omega) (by omega) (by rw [← hcl, rThen_t, show 8000 - i = (8000 - (i + 1)) + 1 by omega]; refine Eq.trans ?_ (if_pos c33).symm; simp only [he8, rThen_t, rThen_f]) ls (lv_sub hl [0, 1, 3, 4] rfl)
          · subst c64
            refine jJ_of (fun H locs => lv_aload_n hx hb dX4_product_67 rfl (lv_at hl 3 rfl)) ?_
            refine jJ_of (fun H locs => lv_iload hx hb dX4_product_68 (lv_at hl 0 rfl)) ?_
            refine jJ_callV (As := [.int (nI ((tk 0).getD a1 0))]) (rest := []) (wc := _) (cs2 := []) (C := RX4) (T := TX4) (N := 3) (ci := 3) [0] [] ⟨hx, hb, hml, hown, hts⟩ hK hA hAm (c_Rd_write hk hu8 ((tk 0).getD a1 0) (by omega)) (cwV 1 hts gX4_product_X4_write rfl rfl rfl (by decide +kernel) ⟨by show (7) + 1 ≤ 6 * r + 11; omega, by show 8 + (2 + 11) + (200) ≤ 240 * r + 440; omega⟩) (nn := 1) rfl (by decide) rfl rfl hu8.hd rfl rfl rfl hl.1 (Nat.le_of_ble_eq_true rfl) dX4_product_70 (by show _ + (4001 - PP8) ≤ 4001 - Pp; omega) (by show _ + (128 * (4000 - PP8) + 32000) ≤ 128 * (4000 - Pp) + 32000; omega) (fun v u9 k9 n9 hq9 => ?_)
            try dsimp only at hq9
            obtain ⟨bb9, aa9, oo9, he9⟩ : ∃ (b : Bool) (x : Nat) (o : List Int32), rWr ((tk 0).getD a1 0) aa8 oo8 = (b, x, o) := ⟨(rWr ((tk 0).getD a1 0) aa8 oo8).1, (rWr ((tk 0).getD a1 0) aa8 oo8).2.1, (rWr ((tk 0).getD a1 0) aa8 oo8).2.2, rfl⟩
            rw [he9] at hq9
            try dsimp only at hq9
            obtain ⟨rfl, PP9, hu9, hkk9, hnn9⟩ := hq9
            have hL9 := hu9.len
            refine jJ_eq (g2 := F0 m 73 ls [.int (bI bb9)]) (cs2 := [u9]) rfl rfl ?_
            refine jJ_of2 (fun H locs => jb_if_eq (tgt := 80) hx hb dX4_product_73 (by decide)) (fun c73 => ?_) (fun c73 => ?_)
            · subst c73
              refine jJ_of (fun H locs => lv_iconst (v := (nI 0)) hx hb dX4_product_80 (by decide)) ?_
              refine jJ_ofL (fun H locs => lv_istore_n (lv' := [(2, .int (nI 0)), (4, .int (nI ((tk 0).getD a1 0))), (3, .int (nI i)), (0, .ref h), (1, .int (nI d))]) hx hb dX4_product_81 rfl hl (by decide) rfl) (fun ls hl => ?_)
              refine jJ_ofL (fun H locs => lv_iinc (v := (nI (i + 1))) (lv' := [(3, .int (nI (i + 1))), (2, .int (nI 0)), (4, .int (nI ((tk 0).getD a1 0))), (0, .ref h), (1, .int (nI d))]) hx hb dX4_product_82 hl (k := 2) rfl (nI_add _ _) (by decide) rfl) (fun ls hl => ?_)
              refine jJ_of (fun H locs => lv_goto (tgt := 8) hx hb dX4_product_85 (by decide)) ?_
              exact ih (i + 1) false _ _ _ _ _ _ (by omega) (by omega) hu9 (by omega) (by omega) (by rw [← hcl, rThen_t, show 8000 - i = (8000 - (i + 1)) + 1 by omega]; refine Eq.trans ?_ (if_pos c33).symm; simp only [he8, he9, rThen_t, rThen_f]) ls (lv_sub hl [0, 1, 3, 4] rfl)
            · subst c73
              refine jJ_of (fun H locs => lv_iconst (v := (nI 1)) hx hb dX4_product_76 (by decide)) ?_
              refine jJ_of (fun H locs => lv_goto (tgt := 81) hx hb dX4_product_77 (by decide)) ?_
              refine jJ_ofL (fun H locs => lv_istore_n (lv' := [(2, .int (nI 1)), (4, .int (nI ((tk 0).getD a1 0))), (3, .int (nI i)), (0, .ref h), (1, .int (nI d))]) hx hb dX4_product_81 rfl hl (by decide) rfl) (fun ls hl => ?_)
              refine jJ_ofL (fun H locs => lv_iinc (v := (nI (i + 1))) (lv' := [(3, .int (nI (i + 1))), (2, .int (nI 1)), (4, .int (nI ((tk 0).getD a1 0))), (0, .ref h), (1, .int (nI d))]) hx hb dX4_product_82 hl (k := 2) rfl (nI_add _ _) (by decide) rfl) (fun ls hl => ?_)
              refine jJ_of (fun H locs => lv_goto (tgt := 8) hx hb dX4_product_85 (by decide)) ?_
              exact ih (i + 1) true _ _ _ _ _ _ (by omega) (by omega) hu9 (by omega) (by omega) (by rw [← hcl, rThen_t, show 8000 - i = (8000 - (i + 1)) + 1 by omega]; refine Eq.trans ?_ (if_pos c33).symm; simp only [he8, he9, rThen_t, rThen_f]) ls (lv_sub hl [0, 1, 3, 4] rfl)
theorem uX4_in_X4_sum : ∀ w ∈ u_ws RX4 TX4 3, w ∈ wsX4_sum := by decide +kernel
set_option maxHeartbeats 4000000 in
set_option maxRecDepth 100000 in
/-- sum(d) -/
theorem c_Rd_sum {h ht hT hp Pk Pp nx a : Nat} {T : List Nat} {tk : Nat → List Nat} {pr : Nat → List Int32} {co : List Int32} {wk w : va_W} (hk : jTok cI ht hT Pk T tk nx wk) (hw : jRd cI h ht hp Pp wk pr co a w) (r d : Nat) (hPr : cRd D G cI cJ cB cZ l yX4_product wsX4_product (6 * r + 11) (240 * r + 440) [.int (nI d)] ht wk (rPro tk r)) : HM l yX4_sum wsX4_sum ({ frames := 6 * r + 12, cells := 4001 - Pp, slots := 128 * (4000 - Pp) + 32000, locals := 240 * r + 480 } : Room) D G (jT cI cJ cB cZ) [.ref h, .int (nI d)] w (fun v u k n => v = some (.int (bI (rSum tk r a co).1)) ∧ ∃ P2 : Nat, jRd cI h ht hp P2 wk pr (rSum tk r a co).2.2 (rSum tk r a co).2.1 u ∧ k + Pp ≤ P2 ∧ n + 128 * Pp ≤ 128 * P2) := by
  refine HM_of (cc := cX4_sum) (maxL := 5) (ret := (some .boolean)) (lv := [(0, .ref h), (1, .int (nI d))]) (by decide) rfl rfl (Nat.le_of_ble_eq_true rfl) (fun p e s m args below meth c A0 ls hx hb hr hts hown hlocks hml hnm hK hA hAm hl => ?_)
  have hLw := hw.len
  have hkb := hk.len
  refine jJ_of (fun H locs => lv_aload_n hx hb dX4_sum_0 rfl (lv_at hl 0 rfl)) ?_
  refine jJ_of (fun H locs => lv_iload_n hx hb dX4_sum_1 rfl (lv_at hl 1 rfl)) ?_
  refine jJ_callV (As := [.int (nI d)]) (rest := []) (wc := _) (cs2 := []) (C := RX4) (T := TX4) (N := 3) (ci := 3) [0] [] ⟨hx, hb, hml, hown, hts⟩ hK hA hAm (hPr _ _ _ _ _ _ _ hw) (cwV 1 hts gX4_sum_X4_product rfl rfl rfl (by decide +kernel) ⟨by show (6 * r + 11) + 1 ≤ 6 * r + 12; omega, by show 8 + (5 + 11) + (240 * r + 440) ≤ 240 * r + 480; omega⟩) (nn := 1) rfl (by decide) rfl rfl hw.hd rfl rfl rfl hl.1 (Nat.le_of_ble_eq_true rfl) dX4_sum_2 (by show _ + (4001 - Pp) ≤ 4001 - Pp; omega) (by show _ + (128 * (4000 - Pp) + 32000) ≤ 128 * (4000 - Pp) + 32000; omega) (fun v u1 k1 n1 hq1 => ?_)
  try dsimp only at hq1
  obtain ⟨bb1, aa1, oo1, he1⟩ : ∃ (b : Bool) (x : Nat) (o : List Int32), rPro tk r a co = (b, x, o) := ⟨(rPro tk r a co).1, (rPro tk r a co).2.1, (rPro tk r a co).2.2, rfl⟩
  rw [he1] at hq1
  try dsimp only at hq1
  obtain ⟨rfl, PP1, hu1, hkk1, hnn1⟩ := hq1
  have hL1 := hu1.len
  refine jJ_eq (g2 := F0 m 5 ls [.int (bI bb1)]) (cs2 := [u1]) rfl rfl ?_
  refine jJ_ofL (fun H locs => lv_istore_n (lv' := [(2, .int (bI bb1)), (0, .ref h), (1, .int (nI d))]) hx hb dX4_sum_5 rfl hl (by decide) rfl) (fun ls hl => ?_)
  refine jJ_of (fun H locs => lv_iconst (v := (nI 0)) hx hb dX4_sum_6 (by decide)) ?_
  refine jJ_ofL (fun H locs => lv_istore_n (lv' := [(3, .int (nI 0)), (2, .int (bI bb1)), (0, .ref h), (1, .int (nI d))]) hx hb dX4_sum_7 rfl hl (by decide) rfl) (fun ls hl => ?_)
  suffices lp : ∀ (f i : Nat) (b1 : Bool) (a1 P1 k1 n1 : Nat) (co1 : List Int32) (w1 : va_W), 8000 - i < f → i ≤ 8000 → jRd cI h ht hp P1 wk pr co1 a1 w1 → k1 + Pp ≤ P1 → n1 + 128 * Pp ≤ 128 * P1 → rThen (b1, a1, co1) (rLoop tk jnP (rPro tk r) (8000 - i)) = rSum tk r a co → ∀ ls, lv_has ls 5 [(3, .int (nI i)), (2, .int (bI b1)), (0, .ref h), (1, .int (nI d))] → jJ p l e _ s m args below meth c D A0 [w1] k1 n1 (jEnd below D A0 _ args s _ _) (F0 m 8 ls []) from lp 8001 0 bb1 _ _ _ _ _ _ (by omega) (by omega) hu1 (by omega) (by omega) (by rw [← he1]; rfl) ls (lv_sub hl [0, 1, 2, 3] rfl)
  intro f
  induction f with
  | zero => intro i b1 a1 P1 k1 n1 co1 w1 h9; exact absurd h9 (Nat.not_lt_zero _)
  | succ f ih =>
    intro i b1 a1 P1 k1 n1 co1 w1 h9 hi9 hw1 hk1 hn1 hcl ls hl
    have hL1 := hw1.len
    refine jJ_of (fun H locs => lv_iload_n hx hb dX4_sum_8 rfl (lv_at hl 0 rfl)) ?_
    refine jJ_of (fun H locs => lv_sipush (v := (nI 8000)) hx hb dX4_sum_9 (by decide)) ?_
    refine jJ_of2 (fun H locs => jn_icmp_ge (tgt := 88) hx hb dX4_sum_12 (by decide) (by omega) (by omega)) (fun c12 => ?_) (fun c12 => ?_)
    · refine jJ_of (fun H locs => lv_iload_n hx hb dX4_sum_88 rfl (lv_at hl 1 rfl)) ?_
      have he : rSum tk r a co = (b1, a1, co1) := hcl.symm.trans (by rw [show 8000 - i = 0 by omega]; cases b1 <;> rfl)
      exact jJ_zret hx hb hr hlocks dX4_sum_89 (by show _ ≤ 4001 - Pp; omega) (by show _ ≤ 128 * (4000 - Pp) + 32000; omega) (bI_01 _) ⟨by rw [he]; try rfl, P1, by rw [he]; exact hw1, by omega, by omega⟩
    · refine jJ_of (fun H locs => lv_iload_n hx hb dX4_sum_15 rfl (lv_at hl 1 rfl)) ?_
      refine jJ_of2 (fun H locs => jb_if_eq (tgt := 88) hx hb dX4_sum_16 (by decide)) (fun c16 => ?_) (fun c16 => ?_)
      · subst c16
        refine jJ_of (fun H locs => lv_iload_n hx hb dX4_sum_88 rfl (lv_at hl 1 rfl)) ?_
        have he : rSum tk r a co = (false, a1, co1) := hcl.symm
        exact jJ_zret hx hb hr hlocks dX4_sum_89 (by show _ ≤ 4001 - Pp; omega) (by show _ ≤ 128 * (4000 - Pp) + 32000; omega) (Or.inl rfl) ⟨by rw [he]; try rfl, P1, by rw [he]; exact hw1, by omega, by omega⟩
      · subst c16
        refine jJ_of (fun H locs => lv_aload_n hx hb dX4_sum_19 rfl (lv_at hl 2 rfl)) ?_
        have hsv2 := hw1
        obtain ⟨wp2, rfl, hp2, ha2⟩ := hsv2
        refine jJ_open (xs := [[(h, .inr (3, [.ref ht, .ref hp, .int (nI a1)]))], wk, wp2]) (r := []) (cs2 := [[(h, .inr (3, [.ref ht, .ref hp, .int (nI a1)]))], wk, wp2]) rfl ?_
        refine jJ_get hx hb (C := RX4) (T := TX4) (N := 3) hts uX4_in_X4_sum hown hK 0 rfl rfl 0 (by decide) (hts (.fieldLink RX4 7 "ValueBlocks$Reader" "tokens" "LValueBlocks$Tokens;") (by decide +kernel)) (fun _ h9 => h9) rfl dX4_sum_20 ?_
        refine jJ_of (fun H locs => lv_aload_n hx hb dX4_sum_23 rfl (lv_at hl 2 rfl)) ?_
        refine jJ_get hx hb (C := RX4) (T := TX4) (N := 3) hts uX4_in_X4_sum hown hK 0 rfl rfl 2 (by decide) (hts (.fieldLink RX4 17 "ValueBlocks$Reader" "at" "I") (by decide +kernel)) (fun _ h9 => h9) rfl dX4_sum_24 ?_
        refine jJ_callV (As := [.int (nI a1)]) (rest := []) (wc := _) (cs2 := [[(h, .inr (3, [.ref ht, .ref hp, .int (nI a1)]))], wp2]) (C := RX6) (T := TX6) (N := 5) (ci := 5) [1] [0, 2] ⟨hx, hb, hml, hown, hts⟩ hK hA hAm (c_Tok_kind hk a1 (by omega)) (cwV 1 hts gX4_sum_X6_kind rfl rfl rfl (by decide +kernel) ⟨by show (1) + 1 ≤ 6 * r + 12; omega, by show 8 + (2 + 11) + (40) ≤ 240 * r + 480; omega⟩) (nn := 3) rfl (by decide) rfl rfl hk.hd rfl rfl rfl hl.1 (Nat.le_of_ble_eq_true rfl) dX4_sum_27 (by show _ + 0 ≤ 4001 - Pp; omega) (by show _ + 0 ≤ 128 * (4000 - Pp) + 32000; omega) (fun v u3 k3 n3 hq3 => ?_)
        obtain ⟨rfl, hw3, rfl, rfl⟩ := hq3
        rw [hw3]
        refine jJ_eq (g2 := F0 m 30 ls [.int (nI ((tk 0).getD a1 0))]) (cs2 := [wk, [(h, .inr (3, [.ref ht, .ref hp, .int (nI a1)]))], wp2]) rfl rfl ?_
        have hvb3 := hkb.2.2.2.2.2.2.1 0 (by decide) a1
        refine jJ_callS (As := [.int (nI ((tk 0).getD a1 0))]) (rest := []) (wc := _) (cs2 := [wk, [(h, .inr (3, [.ref ht, .ref hp, .int (nI a1)]))], wp2]) [] [0, 1, 2] ⟨hx, hb, hml, hown, hts⟩ hK hA hAm (c_jnP ((tk 0).getD a1 0) (by omega)) (va_cwS 1 hts gX4_sum_X4_joinsProducts rfl rfl rfl (by decide +kernel) ⟨by show (0) + 1 ≤ 6 * r + 12; omega, by show 8 + (1 + 11) + (0) ≤ 240 * r + 480; omega⟩) (nn := 3) rfl (by decide) rfl rfl rfl rfl hl.1 (Nat.le_of_ble_eq_true rfl) dX4_sum_30 (by show _ + 0 ≤ 4001 - Pp; omega) (by show _ + 0 ≤ 128 * (4000 - Pp) + 32000; omega) (fun v u4 k4 n4 hq4 => ?_)
        obtain ⟨rfl, rfl, rfl, rfl⟩ := hq4
        refine jJ_eq (g2 := F0 m 33 ls [.int (bI (jnP ((tk 0).getD a1 0)))]) (cs2 := [([] : va_W), wk, [(h, .inr (3, [.ref ht, .ref hp, .int (nI a1)]))], wp2]) rfl rfl ?_
        refine jJ_flat (cs2 := [wk, [(h, .inr (3, [.ref ht, .ref hp, .int (nI a1)]))], wp2]) rfl ?_
        refine jJ_of2 (fun H locs => jb_if_eq (tgt := 88) hx hb dX4_sum_33 (by decide)) (fun c33 => ?_) (fun c33 => ?_)
        · refine jJ_of (fun H locs => lv_iload_n hx hb dX4_sum_88 rfl (lv_at hl 1 rfl)) ?_
          refine jJ_perm [1, 0, 2] (nn := 3) rfl (by decide) (cs2 := [[(h, .inr (3, [.ref ht, .ref hp, .int (nI a1)]))], wk, wp2]) rfl ?_
          have hrw5 : jRd cI h ht hp P1 wk pr co1 a1 (jF [[(h, .inr (3, [.ref ht, .ref hp, .int (nI a1)]))], wk, wp2]) := ⟨_, rfl, hp2, by omega⟩
          refine jJ_flat (cs2 := [jF [[(h, .inr (3, [.ref ht, .ref hp, .int (nI a1)]))], wk, wp2]]) rfl ?_
          have hLr5 := hrw5.len
          have he : rSum tk r a co = (true, a1, co1) := hcl.symm.trans (by rw [rThen_t, show 8000 - i = (7999 - i) + 1 by omega]; exact if_neg (by rw [c33]; decide))
          exact jJ_zret hx hb hr hlocks dX4_sum_89 (by show _ ≤ 4001 - Pp; omega) (by show _ ≤ 128 * (4000 - Pp) + 32000; omega) (Or.inr rfl) ⟨by rw [he]; try rfl, P1, by rw [he]; exact hrw5, by omega, by omega⟩
        · have hjn := jnP_nz c33
          refine jJ_of (fun H locs => lv_aload_n hx hb dX4_sum_36 rfl (lv_at hl 2 rfl)) ?_
          refine jJ_get hx hb (C := RX4) (T := TX4) (N := 3) hts uX4_in_X4_sum hown hK 1 rfl rfl 0 (by decide) (hts (.fieldLink RX4 7 "ValueBlocks$Reader" "tokens" "LValueBlocks$Tokens;") (by decide +kernel)) (fun _ h9 => h9) rfl dX4_sum_37 ?_
          refine jJ_of (fun H locs => lv_aload_n hx hb dX4_sum_40 rfl (lv_at hl 2 rfl)) ?_
          refine jJ_get hx hb (C := RX4) (T := TX4) (N := 3) hts uX4_in_X4_sum hown hK 1 rfl rfl 2 (by decide) (hts (.fieldLink RX4 17 "ValueBlocks$Reader" "at" "I") (by decide +kernel)) (fun _ h9 => h9) rfl dX4_sum_41 ?_
          refine jJ_callV (As := [.int (nI a1)]) (rest := []) (wc := _) (cs2 := [[(h, .inr (3, [.ref ht, .ref hp, .int (nI a1)]))], wp2]) (C := RX6) (T := TX6) (N := 5) (ci := 5) [0] [1, 2] ⟨hx, hb, hml, hown, hts⟩ hK hA hAm (c_Tok_kind hk a1 (by omega)) (cwV 1 hts gX4_sum_X6_kind rfl rfl rfl (by decide +kernel) ⟨by show (1) + 1 ≤ 6 * r + 12; omega, by show 8 + (2 + 11) + (40) ≤ 240 * r + 480; omega⟩) (nn := 3) rfl (by decide) rfl rfl hk.hd rfl rfl rfl hl.1 (Nat.le_of_ble_eq_true rfl) dX4_sum_44 (by show _ + 0 ≤ 4001 - Pp; omega) (by show _ + 0 ≤ 128 * (4000 - Pp) + 32000; omega) (fun v u6 k6 n6 hq6 => ?_)
          obtain ⟨rfl, hw6, rfl, rfl⟩ := hq6
          rw [hw6]
          refine jJ_eq (g2 := F0 m 47 ls [.int (nI ((tk 0).getD a1 0))]) (cs2 := [wk, [(h, .inr (3, [.ref ht, .ref hp, .int (nI a1)]))], wp2]) rfl rfl ?_
          have hvb6 := hkb.2.2.2.2.2.2.1 0 (by decide) a1
          refine jJ_ofL (fun H locs => lv_istore (lv' := [(4, .int (nI ((tk 0).getD a1 0))), (3, .int (nI i)), (2, .int (bI true)), (0, .ref h), (1, .int (nI d))]) hx hb dX4_sum_47 hl (by decide) rfl) (fun ls hl => ?_)
          refine jJ_of (fun H locs => lv_aload_n hx hb dX4_sum_49 rfl (lv_at hl 3 rfl)) ?_
          refine jJ_of (fun H locs => lv_dup hx hb dX4_sum_50 rfl) ?_
          refine jJ_get hx hb (C := RX4) (T := TX4) (N := 3) hts uX4_in_X4_sum hown hK 1 rfl rfl 2 (by decide) (hts (.fieldLink RX4 17 "ValueBlocks$Reader" "at" "I") (by decide +kernel)) (fun _ h9 => h9) rfl dX4_sum_51 ?_
          refine jJ_of (fun H locs => lv_iconst (v := (nI 1)) hx hb dX4_sum_54 (by decide)) ?_
          refine jJ_of (fun H locs => jn_iadd hx hb dX4_sum_55) ?_
          refine jJ_put hx hb (C := RX4) (T := TX4) (N := 3) (ty := .int) (v := .int (nI (a1 + 1))) hts uX4_in_X4_sum tyX4 tyX4_ok nmX4 hown hK 1 rfl rfl 2 (by decide) (hts (.fieldLink RX4 17 "ValueBlocks$Reader" "at" "I") (by decide +kernel)) (fun _ h9 => h9) rfl (by decide +kernel) rfl rfl (Nat.le_of_ble_eq_true rfl) dX4_sum_56 (cs2 := [wk, [(h, .inr (3, [.ref ht, .ref hp, .int (nI (a1 + 1))]))], wp2]) rfl ?_
          refine jJ_of (fun H locs => lv_aload_n hx hb dX4_sum_59 rfl (lv_at hl 3 rfl)) ?_
          refine jJ_of (fun H locs => lv_iload_n hx hb dX4_sum_60 rfl (lv_at hl 4 rfl)) ?_
          refine jJ_perm [1, 0, 2] (nn := 3) rfl (by decide) (cs2 := [[(h, .inr (3, [.ref ht, .ref hp, .int (nI (a1 + 1))]))], wk, wp2]) rfl ?_
          have hat7 := hk.lt a1 (by omega)
          have hrw7 : jRd cI h ht hp P1 wk pr co1 (a1 + 1) (jF [[(h, .inr (3, [.ref ht, .ref hp, .int (nI (a1 + 1))]))], wk, wp2]) := ⟨_, rfl, hp2, by omega⟩
          refine jJ_flat (cs2 := [jF [[(h, .inr (3, [.ref ht, .ref hp, .int (nI (a1 + 1))]))], wk, wp2]]) rfl ?_
          have hLr7 := hrw7.len
          refine jJ_callV (As := [.int (nI d)]) (rest := []) (wc := _) (cs2 := []) (C := RX4) (T := TX4) (N := 3) (ci := 3) [0] [] ⟨hx, hb, hml, hown, hts⟩ hK hA hAm (hPr _ _ _ _ _ _ _ hrw7) (cwV 1 hts gX4_sum_X4_product rfl rfl rfl (by decide +kernel) ⟨by show (6 * r + 11) + 1 ≤ 6 * r + 12; omega, by show 8 + (5 + 11) + (240 * r + 440) ≤ 240 * r + 480; omega⟩) (nn := 1) rfl (by decide) rfl rfl hrw7.hd rfl rfl rfl hl.1 (Nat.le_of_ble_eq_true rfl) dX4_sum_61 (by show _ + (4001 - P1) ≤ 4001 - Pp; omega) (by show _ + (128 * (4000 - P1) + 32000) ≤ 128 * (4000 - Pp) + 32000; omega) (fun v u8 k8 n8 hq8 => ?_)
          try dsimp only at hq8
          obtain ⟨bb8, aa8, oo8, he8⟩ : ∃ (b : Bool) (x : Nat) (o : List Int32), rPro tk r (a1 + 1) co1 = (b, x, o) := ⟨(rPro tk r (a1 + 1) co1).1, (rPro tk r (a1 + 1) co1).2.1, (rPro tk r (a1 + 1) co1).2.2, rfl⟩
          rw [he8] at hq8
          try dsimp only at hq8
          obtain ⟨rfl, PP8, hu8, hkk8, hnn8⟩ := hq8
          have hL8 := hu8.len
          refine jJ_eq (g2 := F0 m 64 ls [.int (bI bb8)]) (cs2 := [u8]) rfl rfl ?_
          refine jJ_of2 (fun H locs => jb_if_eq (tgt := 80) hx hb dX4_sum_64 (by decide)) (fun c64 => ?_) (fun c64 => ?_)
          · subst c64
            refine jJ_of (fun H locs => lv_iconst (v := (nI 0)) hx hb dX4_sum_80 (by decide)) ?_
            refine jJ_ofL (fun H locs => lv_istore_n (lv' := [(2, .int (nI 0)), (4, .int (nI ((tk 0).getD a1 0))), (3, .int (nI i)), (0, .ref h), (1, .int (nI d))]) hx hb dX4_sum_81 rfl hl (by decide) rfl) (fun ls hl => ?_)
            refine jJ_ofL (fun H locs => lv_iinc (v := (nI (i + 1))) (lv' := [(3, .int (nI (i + 1))), (2, .int (nI 0)), (4, .int (nI ((tk 0).getD a1 0))), (0, .ref h), (1, .int (nI d))]) hx hb dX4_sum_82 hl (k := 2) rfl (nI_add _ _) (by decide) rfl) (fun ls hl => ?_)
            refine jJ_of (fun H locs => lv_goto (tgt := 8) hx hb dX4_sum_85 (by decide)) ?_
            exact ih (i + 1) false _ _ _ _ _ _ (by omega) (by omega) hu8 (by omega) (by omega) (by rw [← hcl, rThen_t, show 8000 - i = (8000 - (i + 1)) + 1 by omega]; refine Eq.trans ?_ (if_pos c33).symm; simp only [he8, rThen_t, rThen_f]) ls (lv_sub hl [0, 1, 3, 4] rfl)
          · subst c64
            refine jJ_of (fun H locs => lv_aload_n hx hb dX4_sum_67 rfl (lv_at hl 3 rfl)) ?_
            refine jJ_of (fun H locs => lv_iload hx hb dX4_sum_68 (lv_at hl 0 rfl)) ?_
            refine jJ_callV (As := [.int (nI ((tk 0).getD a1 0))]) (rest := []) (wc := _) (cs2 := []) (C := RX4) (T := TX4) (N := 3) (ci := 3) [0] [] ⟨hx, hb, hml, hown, hts⟩ hK hA hAm (c_Rd_write hk hu8 ((tk 0).getD a1 0) (by omega)) (cwV 1 hts gX4_sum_X4_write rfl rfl rfl (by decide +kernel) ⟨by show (7) + 1 ≤ 6 * r + 12; omega, by show 8 + (2 + 11) + (200) ≤ 240 * r + 480; omega⟩) (nn := 1) rfl (by decide) rfl rfl hu8.hd rfl rfl rfl hl.1 (Nat.le_of_ble_eq_true rfl) dX4_sum_70 (by show _ + (4001 - PP8) ≤ 4001 - Pp; omega) (by show _ + (128 * (4000 - PP8) + 32000) ≤ 128 * (4000 - Pp) + 32000; omega) (fun v u9 k9 n9 hq9 => ?_)
            try dsimp only at hq9
            obtain ⟨bb9, aa9, oo9, he9⟩ : ∃ (b : Bool) (x : Nat) (o : List Int32), rWr ((tk 0).getD a1 0) aa8 oo8 = (b, x, o) := ⟨(rWr ((tk 0).getD a1 0) aa8 oo8).1, (rWr ((tk 0).getD a1 0) aa8 oo8).2.1, (rWr ((tk 0).getD a1 0) aa8 oo8).2.2, rfl⟩
            rw [he9] at hq9
            try dsimp only at hq9
            obtain ⟨rfl, PP9, hu9, hkk9, hnn9⟩ := hq9
            have hL9 := hu9.len
            refine jJ_eq (g2 := F0 m 73 ls [.int (bI bb9)]) (cs2 := [u9]) rfl rfl ?_
            refine jJ_of2 (fun H locs => jb_if_eq (tgt := 80) hx hb dX4_sum_73 (by decide)) (fun c73 => ?_) (fun c73 => ?_)
            · subst c73
              refine jJ_of (fun H locs => lv_iconst (v := (nI 0)) hx hb dX4_sum_80 (by decide)) ?_
              refine jJ_ofL (fun H locs => lv_istore_n (lv' := [(2, .int (nI 0)), (4, .int (nI ((tk 0).getD a1 0))), (3, .int (nI i)), (0, .ref h), (1, .int (nI d))]) hx hb dX4_sum_81 rfl hl (by decide) rfl) (fun ls hl => ?_)
              refine jJ_ofL (fun H locs => lv_iinc (v := (nI (i + 1))) (lv' := [(3, .int (nI (i + 1))), (2, .int (nI 0)), (4, .int (nI ((tk 0).getD a1 0))), (0, .ref h), (1, .int (nI d))]) hx hb dX4_sum_82 hl (k := 2) rfl (nI_add _ _) (by decide) rfl) (fun ls hl => ?_)
              refine jJ_of (fun H locs => lv_goto (tgt := 8) hx hb dX4_sum_85 (by decide)) ?_
              exact ih (i + 1) false _ _ _ _ _ _ (by omega) (by omega) hu9 (by omega) (by omega) (by rw [← hcl, rThen_t, show 8000 - i = (8000 - (i + 1)) + 1 by omega]; refine Eq.trans ?_ (if_pos c33).symm; simp only [he8, he9, rThen_t, rThen_f]) ls (lv_sub hl [0, 1, 3, 4] rfl)
            · subst c73
              refine jJ_of (fun H locs => lv_iconst (v := (nI 1)) hx hb dX4_sum_76 (by decide)) ?_
              refine jJ_of (fun H locs => lv_goto (tgt := 81) hx hb dX4_sum_77 (by decide)) ?_
              refine jJ_ofL (fun H locs => lv_istore_n (lv' := [(2, .int (nI 1)), (4, .int (nI ((tk 0).getD a1 0))), (3, .int (nI i)), (0, .ref h), (1, .int (nI d))]) hx hb dX4_sum_81 rfl hl (by decide) rfl) (fun ls hl => ?_)
              refine jJ_ofL (fun H locs => lv_iinc (v := (nI (i + 1))) (lv' := [(3, .int (nI (i + 1))), (2, .int (nI 1)), (4, .int (nI ((tk 0).getD a1 0))), (0, .ref h), (1, .int (nI d))]) hx hb dX4_sum_82 hl (k := 2) rfl (nI_add _ _) (by decide) rfl) (fun ls hl => ?_)
              refine jJ_of (fun H locs => lv_goto (tgt := 8) hx hb dX4_sum_85 (by decide)) ?_
              exact ih (i + 1) true _ _ _ _ _ _ (by omega) (by omega) hu9 (by omega) (by omega) (by rw [← hcl, rThen_t, show 8000 - i = (8000 - (i + 1)) + 1 by omega]; refine Eq.trans ?_ (if_pos c33).symm; simp only [he8, he9, rThen_t, rThen_f]) ls (lv_sub hl [0, 1, 3, 4] rfl)
theorem uX4_in_X4_factor : ∀ w ∈ u_ws RX4 TX4 3, w ∈ wsX4_factor := by decide +kernel
set_option maxHeartbeats 4000000 in
set_option maxRecDepth 100000 in
/-- factor(d) -/
theorem c_Rd_factor {h ht hT hp Pk Pp nx a : Nat} {T : List Nat} {tk : Nat → List Nat} {pr : Nat → List Int32} {co : List Int32} {wk w : va_W} (hk : jTok cI ht hT Pk T tk nx wk) (hw : jRd cI h ht hp Pp wk pr co a w) (r d : Nat) (hd : d + r = 20) (hBr : cRd D G cI cJ cB cZ l yX4_bracket wsX4_bracket (6 * r + 8) (240 * r + 320) [.int (nI d)] ht wk (rBra tk r)) (hPl : cRd D G cI cJ cB cZ l yX4_placePart wsX4_placePart (6 * r + 9) (240 * r + 360) [.int (nI d)] ht wk (rPl tk (rBra tk r))) (hFa : ∀ r2, r = r2 + 1 → cRd D G cI cJ cB cZ l yX4_factor wsX4_factor (6 * r2 + 10) (240 * r2 + 400) [.int (nI (d + 1))] ht wk (rFac tk r2)) : HM l yX4_factor wsX4_factor ({ frames := 6 * r + 10, cells := 4001 - Pp, slots := 128 * (4000 - Pp) + 32000, locals := 240 * r + 400 } : Room) D G (jT cI cJ cB cZ) [.ref h, .int (nI d)] w (fun v u k n => v = some (.int (bI (rFac tk r a co).1)) ∧ ∃ P2 : Nat, jRd cI h ht hp P2 wk pr (rFac tk r a co).2.2 (rFac tk r a co).2.1 u ∧ k + Pp ≤ P2 ∧ n + 128 * Pp ≤ 128 * P2) := by
  refine HM_of (cc := cX4_factor) (maxL := 3) (ret := (some .boolean)) (lv := [(0, .ref h), (1, .int (nI d))]) (by decide) rfl rfl (Nat.le_of_ble_eq_true rfl) (fun p e s m args below meth c A0 ls hx hb hr hts hown hlocks hml hnm hK hA hAm hl => ?_)
  have hLw := hw.len
  have hkb := hk.len
  refine jJ_of (fun H locs => lv_aload_n hx hb dX4_factor_0 rfl (lv_at hl 0 rfl)) ?_
  have hsv1 := hw
  obtain ⟨wp1, rfl, hp1, ha1⟩ := hsv1
  refine jJ_open (xs := [[(h, .inr (3, [.ref ht, .ref hp, .int (nI a)]))], wk, wp1]) (r := []) (cs2 := [[(h, .inr (3, [.ref ht, .ref hp, .int (nI a)]))], wk, wp1]) rfl ?_
  refine jJ_get hx hb (C := RX4) (T := TX4) (N := 3) hts uX4_in_X4_factor hown hK 0 rfl rfl 0 (by decide) (hts (.fieldLink RX4 7 "ValueBlocks$Reader" "tokens" "LValueBlocks$Tokens;") (by decide +kernel)) (fun _ h9 => h9) rfl dX4_factor_1 ?_
  refine jJ_of (fun H locs => lv_aload_n hx hb dX4_factor_4 rfl (lv_at hl 0 rfl)) ?_
  refine jJ_get hx hb (C := RX4) (T := TX4) (N := 3) hts uX4_in_X4_factor hown hK 0 rfl rfl 2 (by decide) (hts (.fieldLink RX4 17 "ValueBlocks$Reader" "at" "I") (by decide +kernel)) (fun _ h9 => h9) rfl dX4_factor_5 ?_
  refine jJ_callV (As := [.int (nI a)]) (rest := []) (wc := _) (cs2 := [[(h, .inr (3, [.ref ht, .ref hp, .int (nI a)]))], wp1]) (C := RX6) (T := TX6) (N := 5) (ci := 5) [1] [0, 2] ⟨hx, hb, hml, hown, hts⟩ hK hA hAm (c_Tok_kind hk a (by omega)) (cwV 1 hts gX4_factor_X6_kind rfl rfl rfl (by decide +kernel) ⟨by show (1) + 1 ≤ 6 * r + 10; omega, by show 8 + (2 + 11) + (40) ≤ 240 * r + 400; omega⟩) (nn := 3) rfl (by decide) rfl rfl hk.hd rfl rfl rfl hl.1 (Nat.le_of_ble_eq_true rfl) dX4_factor_8 (by show _ + 0 ≤ 4001 - Pp; omega) (by show _ + 0 ≤ 128 * (4000 - Pp) + 32000; omega) (fun v u2 k2 n2 hq2 => ?_)
  obtain ⟨rfl, hw2, rfl, rfl⟩ := hq2
  rw [hw2]
  refine jJ_eq (g2 := F0 m 11 ls [.int (nI ((tk 0).getD a 0))]) (cs2 := [wk, [(h, .inr (3, [.ref ht, .ref hp, .int (nI a)]))], wp1]) rfl rfl ?_
  have hvb2 := hkb.2.2.2.2.2.2.1 0 (by decide) a
  refine jJ_ofL (fun H locs => lv_istore_n (lv' := [(2, .int (nI ((tk 0).getD a 0))), (0, .ref h), (1, .int (nI d))]) hx hb dX4_factor_11 rfl hl (by decide) rfl) (fun ls hl => ?_)
  refine jJ_of (fun H locs => lv_iload_n hx hb dX4_factor_12 rfl (lv_at hl 0 rfl)) ?_
  obtain ⟨sw13, hsw13⟩ : ∃ z : Nat, z = (tk 0).getD a 0 := ⟨_, rfl⟩
  rw [← hsw13]
  have bsw13 : sw13 < 2147483648 := by rw [hsw13]; omega
  by_cases e13_35 : sw13 = 35
  · refine jJ_of (fun H locs => lv_lookup hx hb dX4_factor_13 (by decide) (off := 146) (tgt := 159) (by rw [e13_35]; decide) (by decide)) ?_
    refine jJ_of (fun H locs => lv_aload_n hx hb dX4_factor_159 rfl (lv_at hl 1 rfl)) ?_
    refine jJ_of (fun H locs => lv_dup hx hb dX4_factor_160 rfl) ?_
    refine jJ_get hx hb (C := RX4) (T := TX4) (N := 3) hts uX4_in_X4_factor hown hK 1 rfl rfl 2 (by decide) (hts (.fieldLink RX4 17 "ValueBlocks$Reader" "at" "I") (by decide +kernel)) (fun _ h9 => h9) rfl dX4_factor_161 ?_
    refine jJ_of (fun H locs => lv_iconst (v := (nI 1)) hx hb dX4_factor_164 (by decide)) ?_
    refine jJ_of (fun H locs => jn_iadd hx hb dX4_factor_165) ?_
    refine jJ_put hx hb (C := RX4) (T := TX4) (N := 3) (ty := .int) (v := .int (nI (a + 1))) hts uX4_in_X4_factor tyX4 tyX4_ok nmX4 hown hK 1 rfl rfl 2 (by decide) (hts (.fieldLink RX4 17 "ValueBlocks$Reader" "at" "I") (by decide +kernel)) (fun _ h9 => h9) rfl (by decide +kernel) rfl rfl (Nat.le_of_ble_eq_true rfl) dX4_factor_166 (cs2 := [wk, [(h, .inr (3, [.ref ht, .ref hp, .int (nI (a + 1))]))], wp1]) rfl ?_
    refine jJ_of (fun H locs => lv_aload_n hx hb dX4_factor_169 rfl (lv_at hl 1 rfl)) ?_
    refine jJ_of (fun H locs => lv_iload_n hx hb dX4_factor_170 rfl (lv_at hl 2 rfl)) ?_
    refine jJ_perm [1, 0, 2] (nn := 3) rfl (by decide) (cs2 := [[(h, .inr (3, [.ref ht, .ref hp, .int (nI (a + 1))]))], wk, wp1]) rfl ?_
    have hat3 := hk.lt a (by omega)
    have hrw3 : jRd cI h ht hp Pp wk pr co (a + 1) (jF [[(h, .inr (3, [.ref ht, .ref hp, .int (nI (a + 1))]))], wk, wp1]) := ⟨_, rfl, hp1, by omega⟩
    refine jJ_flat (cs2 := [jF [[(h, .inr (3, [.ref ht, .ref hp, .int (nI (a + 1))]))], wk, wp1]]) rfl ?_
    have hLr3 := hrw3.len
    refine jJ_callV (As := [.int (nI d)]) (rest := []) (wc := _) (cs2 := []) (C := RX4) (T := TX4) (N := 3) (ci := 3) [0] [] ⟨hx, hb, hml, hown, hts⟩ hK hA hAm (hPl _ _ _ _ _ _ _ hrw3) (cwV 1 hts gX4_factor_X4_placePart rfl rfl rfl (by decide +kernel) ⟨by show (6 * r + 9) + 1 ≤ 6 * r + 10; omega, by show 8 + (2 + 11) + (240 * r + 360) ≤ 240 * r + 400; omega⟩) (nn := 1) rfl (by decide) rfl rfl hrw3.hd rfl rfl rfl hl.1 (Nat.le_of_ble_eq_true rfl) dX4_factor_171 (by show _ + (4001 - Pp) ≤ 4001 - Pp; omega) (by show _ + (128 * (4000 - Pp) + 32000) ≤ 128 * (4000 - Pp) + 32000; omega) (fun v u4 k4 n4 hq4 => ?_)
    try dsimp only at hq4
    obtain ⟨bb4, aa4, oo4, he4⟩ : ∃ (b : Bool) (x : Nat) (o : List Int32), rPl tk (rBra tk r) (a + 1) co = (b, x, o) := ⟨(rPl tk (rBra tk r) (a + 1) co).1, (rPl tk (rBra tk r) (a + 1) co).2.1, (rPl tk (rBra tk r) (a + 1) co).2.2, rfl⟩
    rw [he4] at hq4
    try dsimp only at hq4
    obtain ⟨rfl, PP4, hu4, hkk4, hnn4⟩ := hq4
    have hL4 := hu4.len
    refine jJ_eq (g2 := F0 m 174 ls [.int (bI bb4)]) (cs2 := [u4]) rfl rfl ?_
    refine jJ_of2 (fun H locs => jb_if_eq (tgt := 189) hx hb dX4_factor_174 (by decide)) (fun c174 => ?_) (fun c174 => ?_)
    · subst c174
      refine jJ_of (fun H locs => lv_iconst (v := (nI 0)) hx hb dX4_factor_189 (by decide)) ?_
      have he : rFac tk r a co = (false, aa4, oo4) := by rw [rFac_eq]; unfold rFw; rw [if_neg (by omega), if_neg (by omega), if_pos (by omega)]; simp only [he4, rThen_t, rThen_f]
      exact jJ_zret hx hb hr hlocks dX4_factor_190 (by show _ ≤ 4001 - Pp; omega) (by show _ ≤ 128 * (4000 - Pp) + 32000; omega) (Or.inl rfl) ⟨by rw [he]; try rfl, PP4, by rw [he]; exact hu4, by omega, by omega⟩
    · subst c174
      refine jJ_of (fun H locs => lv_aload_n hx hb dX4_factor_177 rfl (lv_at hl 1 rfl)) ?_
      refine jJ_of (fun H locs => lv_iconst (v := (nI 2)) hx hb dX4_factor_178 (by decide)) ?_
      refine jJ_callV (As := [.int (nI 2)]) (rest := []) (wc := _) (cs2 := []) (C := RX4) (T := TX4) (N := 3) (ci := 3) [0] [] ⟨hx, hb, hml, hown, hts⟩ hK hA hAm (c_Rd_write hk hu4 2 (by omega)) (cwV 1 hts gX4_factor_X4_write rfl rfl rfl (by decide +kernel) ⟨by show (7) + 1 ≤ 6 * r + 10; omega, by show 8 + (2 + 11) + (200) ≤ 240 * r + 400; omega⟩) (nn := 1) rfl (by decide) rfl rfl hu4.hd rfl rfl rfl hl.1 (Nat.le_of_ble_eq_true rfl) dX4_factor_179 (by show _ + (4001 - PP4) ≤ 4001 - Pp; omega) (by show _ + (128 * (4000 - PP4) + 32000) ≤ 128 * (4000 - Pp) + 32000; omega) (fun v u5 k5 n5 hq5 => ?_)
      try dsimp only at hq5
      obtain ⟨bb5, aa5, oo5, he5⟩ : ∃ (b : Bool) (x : Nat) (o : List Int32), rWr 2 aa4 oo4 = (b, x, o) := ⟨(rWr 2 aa4 oo4).1, (rWr 2 aa4 oo4).2.1, (rWr 2 aa4 oo4).2.2, rfl⟩
      rw [he5] at hq5
      try dsimp only at hq5
      obtain ⟨rfl, PP5, hu5, hkk5, hnn5⟩ := hq5
      have hL5 := hu5.len
      refine jJ_eq (g2 := F0 m 182 ls [.int (bI bb5)]) (cs2 := [u5]) rfl rfl ?_
      refine jJ_of2 (fun H locs => jb_if_eq (tgt := 189) hx hb dX4_factor_182 (by decide)) (fun c182 => ?_) (fun c182 => ?_)
      · subst c182
        refine jJ_of (fun H locs => lv_iconst (v := (nI 0)) hx hb dX4_factor_189 (by decide)) ?_
        have he : rFac tk r a co = (false, aa5, oo5) := by rw [rFac_eq]; unfold rFw; rw [if_neg (by omega), if_neg (by omega), if_pos (by omega)]; simp only [he4, he5, rThen_t, rThen_f]
        exact jJ_zret hx hb hr hlocks dX4_factor_190 (by show _ ≤ 4001 - Pp; omega) (by show _ ≤ 128 * (4000 - Pp) + 32000; omega) (Or.inl rfl) ⟨by rw [he]; try rfl, PP5, by rw [he]; exact hu5, by omega, by omega⟩
      · subst c182
        refine jJ_of (fun H locs => lv_iconst (v := (nI 1)) hx hb dX4_factor_185 (by decide)) ?_
        refine jJ_of (fun H locs => lv_goto (tgt := 190) hx hb dX4_factor_186 (by decide)) ?_
        have he : rFac tk r a co = (true, aa5, oo5) := by rw [rFac_eq]; unfold rFw; rw [if_neg (by omega), if_neg (by omega), if_pos (by omega)]; simp only [he4, he5, rThen_t, rThen_f]
        exact jJ_zret hx hb hr hlocks dX4_factor_190 (by show _ ≤ 4001 - Pp; omega) (by show _ ≤ 128 * (4000 - Pp) + 32000; omega) (Or.inr rfl) ⟨by rw [he]; try rfl, PP5, by rw [he]; exact hu5, by omega, by omega⟩
  by_cases e13_45 : sw13 = 45
  · refine jJ_of (fun H locs => lv_lookup hx hb dX4_factor_13 (by decide) (off := 75) (tgt := 88) (by rw [e13_45]; decide) (by decide)) ?_
    refine jJ_of (fun H locs => lv_iload_n hx hb dX4_factor_88 rfl (lv_at hl 2 rfl)) ?_
    refine jJ_of (fun H locs => lv_bipush (v := (nI 20)) hx hb dX4_factor_89 (by decide)) ?_
    refine jJ_of2 (fun H locs => jn_icmp_ge (tgt := 125) hx hb dX4_factor_91 (by decide) (by omega) (by omega)) (fun c91 => ?_) (fun c91 => ?_)
    · refine jJ_of (fun H locs => lv_iconst (v := (nI 0)) hx hb dX4_factor_125 (by decide)) ?_
      refine jJ_perm [1, 0, 2] (nn := 3) rfl (by decide) (cs2 := [[(h, .inr (3, [.ref ht, .ref hp, .int (nI a)]))], wk, wp1]) rfl ?_
      have hrw6 : jRd cI h ht hp Pp wk pr co a (jF [[(h, .inr (3, [.ref ht, .ref hp, .int (nI a)]))], wk, wp1]) := ⟨_, rfl, hp1, by omega⟩
      refine jJ_flat (cs2 := [jF [[(h, .inr (3, [.ref ht, .ref hp, .int (nI a)]))], wk, wp1]]) rfl ?_
      have hLr6 := hrw6.len
      have he : rFac tk r a co = (false, a, co) := by rw [rFac_eq]; unfold rFw; rw [if_pos (by omega), show r = 0 by omega]; rfl
      exact jJ_zret hx hb hr hlocks dX4_factor_126 (by show _ ≤ 4001 - Pp; omega) (by show _ ≤ 128 * (4000 - Pp) + 32000; omega) (Or.inl rfl) ⟨by rw [he]; try rfl, Pp, by rw [he]; exact hrw6, by omega, by omega⟩
    · obtain ⟨r2, hr2⟩ : ∃ r2, r = r2 + 1 := ⟨r - 1, by omega⟩
      refine jJ_of (fun H locs => lv_aload_n hx hb dX4_factor_94 rfl (lv_at hl 1 rfl)) ?_
      refine jJ_of (fun H locs => lv_bipush (v := (nI 45)) hx hb dX4_factor_95 (by decide)) ?_
      refine jJ_perm [1, 0, 2] (nn := 3) rfl (by decide) (cs2 := [[(h, .inr (3, [.ref ht, .ref hp, .int (nI a)]))], wk, wp1]) rfl ?_
      have hrw7 : jRd cI h ht hp Pp wk pr co a (jF [[(h, .inr (3, [.ref ht, .ref hp, .int (nI a)]))], wk, wp1]) := ⟨_, rfl, hp1, by omega⟩
      refine jJ_flat (cs2 := [jF [[(h, .inr (3, [.ref ht, .ref hp, .int (nI a)]))], wk, wp1]]) rfl ?_
      have hLr7 := hrw7.len
      refine jJ_callV (As := [.int (nI 45)]) (rest := []) (wc := _) (cs2 := []) (C := RX4) (T := TX4) (N := 3) (ci := 3) [0] [] ⟨hx, hb, hml, hown, hts⟩ hK hA hAm (c_Rd_take hk hrw7 45 (by omega) (by omega)) (cwV 1 hts gX4_factor_X4_take rfl rfl rfl (by decide +kernel) ⟨by show (8) + 1 ≤ 6 * r + 10; omega, by show 8 + (2 + 11) + (200) ≤ 240 * r + 400; omega⟩) (nn := 1) rfl (by decide) rfl rfl hrw7.hd rfl rfl rfl hl.1 (Nat.le_of_ble_eq_true rfl) dX4_factor_97 (by show _ + (4001 - Pp) ≤ 4001 - Pp; omega) (by show _ + (128 * (4000 - Pp) + 32000) ≤ 128 * (4000 - Pp) + 32000; omega) (fun v u8 k8 n8 hq8 => ?_)
      try dsimp only at hq8
      obtain ⟨bb8, aa8, oo8, he8⟩ : ∃ (b : Bool) (x : Nat) (o : List Int32), rTake tk 45 a co = (b, x, o) := ⟨(rTake tk 45 a co).1, (rTake tk 45 a co).2.1, (rTake tk 45 a co).2.2, rfl⟩
      rw [he8] at hq8
      try dsimp only at hq8
      obtain ⟨rfl, PP8, hu8, hkk8, hnn8⟩ := hq8
      have hL8 := hu8.len
      refine jJ_eq (g2 := F0 m 100 ls [.int (bI bb8)]) (cs2 := [u8]) rfl rfl ?_
      refine jJ_of2 (fun H locs => jb_if_eq (tgt := 125) hx hb dX4_factor_100 (by decide)) (fun c100 => ?_) (fun c100 => ?_)
      · subst c100
        refine jJ_of (fun H locs => lv_iconst (v := (nI 0)) hx hb dX4_factor_125 (by decide)) ?_
        have he : rFac tk r a co = (false, aa8, oo8) := by rw [rFac_eq]; unfold rFw; rw [if_pos (by omega), hr2]; show rThen (rFac tk r2 (a + 1) co) (rWr 1) = _; have h45 := he8; unfold rTake at h45; rw [if_pos (by omega)] at h45; simp at h45
        exact jJ_zret hx hb hr hlocks dX4_factor_126 (by show _ ≤ 4001 - Pp; omega) (by show _ ≤ 128 * (4000 - Pp) + 32000; omega) (Or.inl rfl) ⟨by rw [he]; try rfl, PP8, by rw [he]; exact hu8, by omega, by omega⟩
      · subst c100
        refine jJ_of (fun H locs => lv_aload_n hx hb dX4_factor_103 rfl (lv_at hl 1 rfl)) ?_
        refine jJ_of (fun H locs => lv_iload_n hx hb dX4_factor_104 rfl (lv_at hl 2 rfl)) ?_
        refine jJ_of (fun H locs => lv_iconst (v := (nI 1)) hx hb dX4_factor_105 (by decide)) ?_
        refine jJ_of (fun H locs => jn_iadd hx hb dX4_factor_106) ?_
        refine jJ_callV (As := [.int (nI (d + 1))]) (rest := []) (wc := _) (cs2 := []) (C := RX4) (T := TX4) (N := 3) (ci := 3) [0] [] ⟨hx, hb, hml, hown, hts⟩ hK hA hAm (hFa r2 hr2 _ _ _ _ _ _ _ hu8) (cwV 1 hts gX4_factor_X4_factor rfl rfl rfl (by decide +kernel) ⟨by show (6 * r2 + 10) + 1 ≤ 6 * r + 10; omega, by show 8 + (3 + 11) + (240 * r2 + 400) ≤ 240 * r + 400; omega⟩) (nn := 1) rfl (by decide) rfl rfl hu8.hd rfl rfl rfl hl.1 (Nat.le_of_ble_eq_true rfl) dX4_factor_107 (by show _ + (4001 - PP8) ≤ 4001 - Pp; omega) (by show _ + (128 * (4000 - PP8) + 32000) ≤ 128 * (4000 - Pp) + 32000; omega) (fun v u9 k9 n9 hq9 => ?_)
        try dsimp only at hq9
        obtain ⟨bb9, aa9, oo9, he9⟩ : ∃ (b : Bool) (x : Nat) (o : List Int32), rFac tk r2 aa8 oo8 = (b, x, o) := ⟨(rFac tk r2 aa8 oo8).1, (rFac tk r2 aa8 oo8).2.1, (rFac tk r2 aa8 oo8).2.2, rfl⟩
        rw [he9] at hq9
        try dsimp only at hq9
        obtain ⟨rfl, PP9, hu9, hkk9, hnn9⟩ := hq9
        have hL9 := hu9.len
        refine jJ_eq (g2 := F0 m 110 ls [.int (bI bb9)]) (cs2 := [u9]) rfl rfl ?_
        refine jJ_of2 (fun H locs => jb_if_eq (tgt := 125) hx hb dX4_factor_110 (by decide)) (fun c110 => ?_) (fun c110 => ?_)
        · subst c110
          refine jJ_of (fun H locs => lv_iconst (v := (nI 0)) hx hb dX4_factor_125 (by decide)) ?_
          have he : rFac tk r a co = (false, aa9, oo9) := by rw [rFac_eq]; unfold rFw; rw [if_pos (by omega), hr2]; show rThen (rFac tk r2 (a + 1) co) (rWr 1) = _; have h45 := he8; unfold rTake at h45; rw [if_pos (by omega)] at h45; obtain ⟨h451, h452⟩ : a + 1 = aa8 ∧ co = oo8 := (by simpa using h45); subst h451; subst h452; simp only [he8, he9, rThen_t, rThen_f]
          exact jJ_zret hx hb hr hlocks dX4_factor_126 (by show _ ≤ 4001 - Pp; omega) (by show _ ≤ 128 * (4000 - Pp) + 32000; omega) (Or.inl rfl) ⟨by rw [he]; try rfl, PP9, by rw [he]; exact hu9, by omega, by omega⟩
        · subst c110
          refine jJ_of (fun H locs => lv_aload_n hx hb dX4_factor_113 rfl (lv_at hl 1 rfl)) ?_
          refine jJ_of (fun H locs => lv_iconst (v := (nI 1)) hx hb dX4_factor_114 (by decide)) ?_
          refine jJ_callV (As := [.int (nI 1)]) (rest := []) (wc := _) (cs2 := []) (C := RX4) (T := TX4) (N := 3) (ci := 3) [0] [] ⟨hx, hb, hml, hown, hts⟩ hK hA hAm (c_Rd_write hk hu9 1 (by omega)) (cwV 1 hts gX4_factor_X4_write rfl rfl rfl (by decide +kernel) ⟨by show (7) + 1 ≤ 6 * r + 10; omega, by show 8 + (2 + 11) + (200) ≤ 240 * r + 400; omega⟩) (nn := 1) rfl (by decide) rfl rfl hu9.hd rfl rfl rfl hl.1 (Nat.le_of_ble_eq_true rfl) dX4_factor_115 (by show _ + (4001 - PP9) ≤ 4001 - Pp; omega) (by show _ + (128 * (4000 - PP9) + 32000) ≤ 128 * (4000 - Pp) + 32000; omega) (fun v u10 k10 n10 hq10 => ?_)
          try dsimp only at hq10
          obtain ⟨bb10, aa10, oo10, he10⟩ : ∃ (b : Bool) (x : Nat) (o : List Int32), rWr 1 aa9 oo9 = (b, x, o) := ⟨(rWr 1 aa9 oo9).1, (rWr 1 aa9 oo9).2.1, (rWr 1 aa9 oo9).2.2, rfl⟩
          rw [he10] at hq10
          try dsimp only at hq10
          obtain ⟨rfl, PP10, hu10, hkk10, hnn10⟩ := hq10
          have hL10 := hu10.len
          refine jJ_eq (g2 := F0 m 118 ls [.int (bI bb10)]) (cs2 := [u10]) rfl rfl ?_
          refine jJ_of2 (fun H locs => jb_if_eq (tgt := 125) hx hb dX4_factor_118 (by decide)) (fun c118 => ?_) (fun c118 => ?_)
          · subst c118
            refine jJ_of (fun H locs => lv_iconst (v := (nI 0)) hx hb dX4_factor_125 (by decide)) ?_
            have he : rFac tk r a co = (false, aa10, oo10) := by rw [rFac_eq]; unfold rFw; rw [if_pos (by omega), hr2]; show rThen (rFac tk r2 (a + 1) co) (rWr 1) = _; have h45 := he8; unfold rTake at h45; rw [if_pos (by omega)] at h45; obtain ⟨h451, h452⟩ : a + 1 = aa8 ∧ co = oo8 := (by simpa using h45); subst h451; subst h452; simp only [he8, he9, he10, rThen_t, rThen_f]
            exact jJ_zret hx hb hr hlocks dX4_factor_126 (by show _ ≤ 4001 - Pp; omega) (by show _ ≤ 128 * (4000 - Pp) + 32000; omega) (Or.inl rfl) ⟨by rw [he]; try rfl, PP10, by rw [he]; exact hu10, by omega, by omega⟩
          · subst c118
            refine jJ_of (fun H locs => lv_iconst (v := (nI 1)) hx hb dX4_factor_121 (by decide)) ?_
            refine jJ_of (fun H locs => lv_goto (tgt := 126) hx hb dX4_factor_122 (by decide)) ?_
            have he : rFac tk r a co = (true, aa10, oo10) := by rw [rFac_eq]; unfold rFw; rw [if_pos (by omega), hr2]; show rThen (rFac tk r2 (a + 1) co) (rWr 1) = _; have h45 := he8; unfold rTake at h45; rw [if_pos (by omega)] at h45; obtain ⟨h451, h452⟩ : a + 1 = aa8 ∧ co = oo8 := (by simpa using h45); subst h451; subst h452; simp only [he8, he9, he10, rThen_t, rThen_f]
            exact jJ_zret hx hb hr hlocks dX4_factor_126 (by show _ ≤ 4001 - Pp; omega) (by show _ ≤ 128 * (4000 - Pp) + 32000; omega) (Or.inr rfl) ⟨by rw [he]; try rfl, PP10, by rw [he]; exact hu10, by omega, by omega⟩
  by_cases e13_256 : sw13 = 256
  · refine jJ_of (fun H locs => lv_lookup hx hb dX4_factor_13 (by decide) (off := 178) (tgt := 191) (by rw [e13_256]; decide) (by decide)) ?_
    refine jJ_of (fun H locs => lv_aload_n hx hb dX4_factor_191 rfl (lv_at hl 1 rfl)) ?_
    refine jJ_perm [1, 0, 2] (nn := 3) rfl (by decide) (cs2 := [[(h, .inr (3, [.ref ht, .ref hp, .int (nI a)]))], wk, wp1]) rfl ?_
    have hrw11 : jRd cI h ht hp Pp wk pr co a (jF [[(h, .inr (3, [.ref ht, .ref hp, .int (nI a)]))], wk, wp1]) := ⟨_, rfl, hp1, by omega⟩
    refine jJ_flat (cs2 := [jF [[(h, .inr (3, [.ref ht, .ref hp, .int (nI a)]))], wk, wp1]]) rfl ?_
    have hLr11 := hrw11.len
    refine jJ_callV (As := []) (rest := []) (wc := _) (cs2 := []) (C := RX4) (T := TX4) (N := 3) (ci := 3) [0] [] ⟨hx, hb, hml, hown, hts⟩ hK hA hAm (c_Rd_literal hk hrw11 (by omega)) (cwV 0 hts gX4_factor_X4_literal rfl rfl rfl (by decide +kernel) ⟨by show (7) + 1 ≤ 6 * r + 10; omega, by show 8 + (1 + 11) + (200) ≤ 240 * r + 400; omega⟩) (nn := 1) rfl (by decide) rfl rfl hrw11.hd rfl rfl rfl hl.1 (Nat.le_of_ble_eq_true rfl) dX4_factor_192 (by show _ + (4001 - Pp) ≤ 4001 - Pp; omega) (by show _ + (128 * (4000 - Pp) + 32000) ≤ 128 * (4000 - Pp) + 32000; omega) (fun v u12 k12 n12 hq12 => ?_)
    try dsimp only at hq12
    obtain ⟨bb12, aa12, oo12, he12⟩ : ∃ (b : Bool) (x : Nat) (o : List Int32), rLit tk a co = (b, x, o) := ⟨(rLit tk a co).1, (rLit tk a co).2.1, (rLit tk a co).2.2, rfl⟩
    rw [he12] at hq12
    try dsimp only at hq12
    obtain ⟨rfl, PP12, hu12, hkk12, hnn12⟩ := hq12
    have hL12 := hu12.len
    refine jJ_eq (g2 := F0 m 195 ls [.int (bI bb12)]) (cs2 := [u12]) rfl rfl ?_
    have he : rFac tk r a co = (bb12, aa12, oo12) := by rw [rFac_eq]; unfold rFw; rw [if_neg (by omega), if_neg (by omega), if_neg (by omega), if_pos (by omega), he12]
    exact jJ_zret hx hb hr hlocks dX4_factor_195 (by show _ ≤ 4001 - Pp; omega) (by show _ ≤ 128 * (4000 - Pp) + 32000; omega) (bI_01 _) ⟨by rw [he]; try rfl, PP12, by rw [he]; exact hu12, by omega, by omega⟩
  by_cases e13_257 : sw13 = 257
  · refine jJ_of (fun H locs => lv_lookup hx hb dX4_factor_13 (by decide) (off := 178) (tgt := 191) (by rw [e13_257]; decide) (by decide)) ?_
    refine jJ_of (fun H locs => lv_aload_n hx hb dX4_factor_191 rfl (lv_at hl 1 rfl)) ?_
    refine jJ_perm [1, 0, 2] (nn := 3) rfl (by decide) (cs2 := [[(h, .inr (3, [.ref ht, .ref hp, .int (nI a)]))], wk, wp1]) rfl ?_
    have hrw13 : jRd cI h ht hp Pp wk pr co a (jF [[(h, .inr (3, [.ref ht, .ref hp, .int (nI a)]))], wk, wp1]) := ⟨_, rfl, hp1, by omega⟩
    refine jJ_flat (cs2 := [jF [[(h, .inr (3, [.ref ht, .ref hp, .int (nI a)]))], wk, wp1]]) rfl ?_
    have hLr13 := hrw13.len
    refine jJ_callV (As := []) (rest := []) (wc := _) (cs2 := []) (C := RX4) (T := TX4) (N := 3) (ci := 3) [0] [] ⟨hx, hb, hml, hown, hts⟩ hK hA hAm (c_Rd_literal hk hrw13 (by omega)) (cwV 0 hts gX4_factor_X4_literal rfl rfl rfl (by decide +kernel) ⟨by show (7) + 1 ≤ 6 * r + 10; omega, by show 8 + (1 + 11) + (200) ≤ 240 * r + 400; omega⟩) (nn := 1) rfl (by decide) rfl rfl hrw13.hd rfl rfl rfl hl.1 (Nat.le_of_ble_eq_true rfl) dX4_factor_192 (by show _ + (4001 - Pp) ≤ 4001 - Pp; omega) (by show _ + (128 * (4000 - Pp) + 32000) ≤ 128 * (4000 - Pp) + 32000; omega) (fun v u14 k14 n14 hq14 => ?_)
    try dsimp only at hq14
    obtain ⟨bb14, aa14, oo14, he14⟩ : ∃ (b : Bool) (x : Nat) (o : List Int32), rLit tk a co = (b, x, o) := ⟨(rLit tk a co).1, (rLit tk a co).2.1, (rLit tk a co).2.2, rfl⟩
    rw [he14] at hq14
    try dsimp only at hq14
    obtain ⟨rfl, PP14, hu14, hkk14, hnn14⟩ := hq14
    have hL14 := hu14.len
    refine jJ_eq (g2 := F0 m 195 ls [.int (bI bb14)]) (cs2 := [u14]) rfl rfl ?_
    have he : rFac tk r a co = (bb14, aa14, oo14) := by rw [rFac_eq]; unfold rFw; rw [if_neg (by omega), if_neg (by omega), if_neg (by omega), if_pos (by omega), he14]
    exact jJ_zret hx hb hr hlocks dX4_factor_195 (by show _ ≤ 4001 - Pp; omega) (by show _ ≤ 128 * (4000 - Pp) + 32000; omega) (bI_01 _) ⟨by rw [he]; try rfl, PP14, by rw [he]; exact hu14, by omega, by omega⟩
  by_cases e13_305 : sw13 = 305
  · refine jJ_of (fun H locs => lv_lookup hx hb dX4_factor_13 (by decide) (off := 114) (tgt := 127) (by rw [e13_305]; decide) (by decide)) ?_
    refine jJ_of (fun H locs => lv_aload_n hx hb dX4_factor_127 rfl (lv_at hl 1 rfl)) ?_
    refine jJ_of (fun H locs => lv_dup hx hb dX4_factor_128 rfl) ?_
    refine jJ_get hx hb (C := RX4) (T := TX4) (N := 3) hts uX4_in_X4_factor hown hK 1 rfl rfl 2 (by decide) (hts (.fieldLink RX4 17 "ValueBlocks$Reader" "at" "I") (by decide +kernel)) (fun _ h9 => h9) rfl dX4_factor_129 ?_
    refine jJ_of (fun H locs => lv_iconst (v := (nI 1)) hx hb dX4_factor_132 (by decide)) ?_
    refine jJ_of (fun H locs => jn_iadd hx hb dX4_factor_133) ?_
    refine jJ_put hx hb (C := RX4) (T := TX4) (N := 3) (ty := .int) (v := .int (nI (a + 1))) hts uX4_in_X4_factor tyX4 tyX4_ok nmX4 hown hK 1 rfl rfl 2 (by decide) (hts (.fieldLink RX4 17 "ValueBlocks$Reader" "at" "I") (by decide +kernel)) (fun _ h9 => h9) rfl (by decide +kernel) rfl rfl (Nat.le_of_ble_eq_true rfl) dX4_factor_134 (cs2 := [wk, [(h, .inr (3, [.ref ht, .ref hp, .int (nI (a + 1))]))], wp1]) rfl ?_
    refine jJ_of (fun H locs => lv_aload_n hx hb dX4_factor_137 rfl (lv_at hl 1 rfl)) ?_
    refine jJ_of (fun H locs => lv_iload_n hx hb dX4_factor_138 rfl (lv_at hl 2 rfl)) ?_
    refine jJ_perm [1, 0, 2] (nn := 3) rfl (by decide) (cs2 := [[(h, .inr (3, [.ref ht, .ref hp, .int (nI (a + 1))]))], wk, wp1]) rfl ?_
    have hat15 := hk.lt a (by omega)
    have hrw15 : jRd cI h ht hp Pp wk pr co (a + 1) (jF [[(h, .inr (3, [.ref ht, .ref hp, .int (nI (a + 1))]))], wk, wp1]) := ⟨_, rfl, hp1, by omega⟩
    refine jJ_flat (cs2 := [jF [[(h, .inr (3, [.ref ht, .ref hp, .int (nI (a + 1))]))], wk, wp1]]) rfl ?_
    have hLr15 := hrw15.len
    refine jJ_callV (As := [.int (nI d)]) (rest := []) (wc := _) (cs2 := []) (C := RX4) (T := TX4) (N := 3) (ci := 3) [0] [] ⟨hx, hb, hml, hown, hts⟩ hK hA hAm (hBr _ _ _ _ _ _ _ hrw15) (cwV 1 hts gX4_factor_X4_bracket rfl rfl rfl (by decide +kernel) ⟨by show (6 * r + 8) + 1 ≤ 6 * r + 10; omega, by show 8 + (2 + 11) + (240 * r + 320) ≤ 240 * r + 400; omega⟩) (nn := 1) rfl (by decide) rfl rfl hrw15.hd rfl rfl rfl hl.1 (Nat.le_of_ble_eq_true rfl) dX4_factor_139 (by show _ + (4001 - Pp) ≤ 4001 - Pp; omega) (by show _ + (128 * (4000 - Pp) + 32000) ≤ 128 * (4000 - Pp) + 32000; omega) (fun v u16 k16 n16 hq16 => ?_)
    try dsimp only at hq16
    obtain ⟨bb16, aa16, oo16, he16⟩ : ∃ (b : Bool) (x : Nat) (o : List Int32), rBra tk r (a + 1) co = (b, x, o) := ⟨(rBra tk r (a + 1) co).1, (rBra tk r (a + 1) co).2.1, (rBra tk r (a + 1) co).2.2, rfl⟩
    rw [he16] at hq16
    try dsimp only at hq16
    obtain ⟨rfl, PP16, hu16, hkk16, hnn16⟩ := hq16
    have hL16 := hu16.len
    refine jJ_eq (g2 := F0 m 142 ls [.int (bI bb16)]) (cs2 := [u16]) rfl rfl ?_
    refine jJ_of2 (fun H locs => jb_if_eq (tgt := 157) hx hb dX4_factor_142 (by decide)) (fun c142 => ?_) (fun c142 => ?_)
    · subst c142
      refine jJ_of (fun H locs => lv_iconst (v := (nI 0)) hx hb dX4_factor_157 (by decide)) ?_
      have he : rFac tk r a co = (false, aa16, oo16) := by rw [rFac_eq]; unfold rFw; rw [if_neg (by omega), if_pos (by omega)]; simp only [he16, rThen_t, rThen_f]
      exact jJ_zret hx hb hr hlocks dX4_factor_158 (by show _ ≤ 4001 - Pp; omega) (by show _ ≤ 128 * (4000 - Pp) + 32000; omega) (Or.inl rfl) ⟨by rw [he]; try rfl, PP16, by rw [he]; exact hu16, by omega, by omega⟩
    · subst c142
      refine jJ_of (fun H locs => lv_aload_n hx hb dX4_factor_145 rfl (lv_at hl 1 rfl)) ?_
      refine jJ_of (fun H locs => lv_iload_n hx hb dX4_factor_146 rfl (lv_at hl 0 rfl)) ?_
      refine jJ_callV (As := [.int (nI ((tk 0).getD a 0))]) (rest := []) (wc := _) (cs2 := []) (C := RX4) (T := TX4) (N := 3) (ci := 3) [0] [] ⟨hx, hb, hml, hown, hts⟩ hK hA hAm (c_Rd_write hk hu16 ((tk 0).getD a 0) (by omega)) (cwV 1 hts gX4_factor_X4_write rfl rfl rfl (by decide +kernel) ⟨by show (7) + 1 ≤ 6 * r + 10; omega, by show 8 + (2 + 11) + (200) ≤ 240 * r + 400; omega⟩) (nn := 1) rfl (by decide) rfl rfl hu16.hd rfl rfl rfl hl.1 (Nat.le_of_ble_eq_true rfl) dX4_factor_147 (by show _ + (4001 - PP16) ≤ 4001 - Pp; omega) (by show _ + (128 * (4000 - PP16) + 32000) ≤ 128 * (4000 - Pp) + 32000; omega) (fun v u17 k17 n17 hq17 => ?_)
      try dsimp only at hq17
      obtain ⟨bb17, aa17, oo17, he17⟩ : ∃ (b : Bool) (x : Nat) (o : List Int32), rWr ((tk 0).getD a 0) aa16 oo16 = (b, x, o) := ⟨(rWr ((tk 0).getD a 0) aa16 oo16).1, (rWr ((tk 0).getD a 0) aa16 oo16).2.1, (rWr ((tk 0).getD a 0) aa16 oo16).2.2, rfl⟩
      rw [he17] at hq17
      try dsimp only at hq17
      obtain ⟨rfl, PP17, hu17, hkk17, hnn17⟩ := hq17
      have hL17 := hu17.len
      refine jJ_eq (g2 := F0 m 150 ls [.int (bI bb17)]) (cs2 := [u17]) rfl rfl ?_
      refine jJ_of2 (fun H locs => jb_if_eq (tgt := 157) hx hb dX4_factor_150 (by decide)) (fun c150 => ?_) (fun c150 => ?_)
      · subst c150
        refine jJ_of (fun H locs => lv_iconst (v := (nI 0)) hx hb dX4_factor_157 (by decide)) ?_
        have he : rFac tk r a co = (false, aa17, oo17) := by rw [rFac_eq]; unfold rFw; rw [if_neg (by omega), if_pos (by omega)]; simp only [he16, he17, rThen_t, rThen_f]
        exact jJ_zret hx hb hr hlocks dX4_factor_158 (by show _ ≤ 4001 - Pp; omega) (by show _ ≤ 128 * (4000 - Pp) + 32000; omega) (Or.inl rfl) ⟨by rw [he]; try rfl, PP17, by rw [he]; exact hu17, by omega, by omega⟩
      · subst c150
        refine jJ_of (fun H locs => lv_iconst (v := (nI 1)) hx hb dX4_factor_153 (by decide)) ?_
        refine jJ_of (fun H locs => lv_goto (tgt := 158) hx hb dX4_factor_154 (by decide)) ?_
        have he : rFac tk r a co = (true, aa17, oo17) := by rw [rFac_eq]; unfold rFw; rw [if_neg (by omega), if_pos (by omega)]; simp only [he16, he17, rThen_t, rThen_f]
        exact jJ_zret hx hb hr hlocks dX4_factor_158 (by show _ ≤ 4001 - Pp; omega) (by show _ ≤ 128 * (4000 - Pp) + 32000; omega) (Or.inr rfl) ⟨by rw [he]; try rfl, PP17, by rw [he]; exact hu17, by omega, by omega⟩
  by_cases e13_306 : sw13 = 306
  · refine jJ_of (fun H locs => lv_lookup hx hb dX4_factor_13 (by decide) (off := 114) (tgt := 127) (by rw [e13_306]; decide) (by decide)) ?_
    refine jJ_of (fun H locs => lv_aload_n hx hb dX4_factor_127 rfl (lv_at hl 1 rfl)) ?_
    refine jJ_of (fun H locs => lv_dup hx hb dX4_factor_128 rfl) ?_
    refine jJ_get hx hb (C := RX4) (T := TX4) (N := 3) hts uX4_in_X4_factor hown hK 1 rfl rfl 2 (by decide) (hts (.fieldLink RX4 17 "ValueBlocks$Reader" "at" "I") (by decide +kernel)) (fun _ h9 => h9) rfl dX4_factor_129 ?_
    refine jJ_of (fun H locs => lv_iconst (v := (nI 1)) hx hb dX4_factor_132 (by decide)) ?_
    refine jJ_of (fun H locs => jn_iadd hx hb dX4_factor_133) ?_
    refine jJ_put hx hb (C := RX4) (T := TX4) (N := 3) (ty := .int) (v := .int (nI (a + 1))) hts uX4_in_X4_factor tyX4 tyX4_ok nmX4 hown hK 1 rfl rfl 2 (by decide) (hts (.fieldLink RX4 17 "ValueBlocks$Reader" "at" "I") (by decide +kernel)) (fun _ h9 => h9) rfl (by decide +kernel) rfl rfl (Nat.le_of_ble_eq_true rfl) dX4_factor_134 (cs2 := [wk, [(h, .inr (3, [.ref ht, .ref hp, .int (nI (a + 1))]))], wp1]) rfl ?_
    refine jJ_of (fun H locs => lv_aload_n hx hb dX4_factor_137 rfl (lv_at hl 1 rfl)) ?_
    refine jJ_of (fun H locs => lv_iload_n hx hb dX4_factor_138 rfl (lv_at hl 2 rfl)) ?_
    refine jJ_perm [1, 0, 2] (nn := 3) rfl (by decide) (cs2 := [[(h, .inr (3, [.ref ht, .ref hp, .int (nI (a + 1))]))], wk, wp1]) rfl ?_
    have hat18 := hk.lt a (by omega)
    have hrw18 : jRd cI h ht hp Pp wk pr co (a + 1) (jF [[(h, .inr (3, [.ref ht, .ref hp, .int (nI (a + 1))]))], wk, wp1]) := ⟨_, rfl, hp1, by omega⟩
    refine jJ_flat (cs2 := [jF [[(h, .inr (3, [.ref ht, .ref hp, .int (nI (a + 1))]))], wk, wp1]]) rfl ?_
    have hLr18 := hrw18.len
    refine jJ_callV (As := [.int (nI d)]) (rest := []) (wc := _) (cs2 := []) (C := RX4) (T := TX4) (N := 3) (ci := 3) [0] [] ⟨hx, hb, hml, hown, hts⟩ hK hA hAm (hBr _ _ _ _ _ _ _ hrw18) (cwV 1 hts gX4_factor_X4_bracket rfl rfl rfl (by decide +kernel) ⟨by show (6 * r + 8) + 1 ≤ 6 * r + 10; omega, by show 8 + (2 + 11) + (240 * r + 320) ≤ 240 * r + 400; omega⟩) (nn := 1) rfl (by decide) rfl rfl hrw18.hd rfl rfl rfl hl.1 (Nat.le_of_ble_eq_true rfl) dX4_factor_139 (by show _ + (4001 - Pp) ≤ 4001 - Pp; omega) (by show _ + (128 * (4000 - Pp) + 32000) ≤ 128 * (4000 - Pp) + 32000; omega) (fun v u19 k19 n19 hq19 => ?_)
    try dsimp only at hq19
    obtain ⟨bb19, aa19, oo19, he19⟩ : ∃ (b : Bool) (x : Nat) (o : List Int32), rBra tk r (a + 1) co = (b, x, o) := ⟨(rBra tk r (a + 1) co).1, (rBra tk r (a + 1) co).2.1, (rBra tk r (a + 1) co).2.2, rfl⟩
    rw [he19] at hq19
    try dsimp only at hq19
    obtain ⟨rfl, PP19, hu19, hkk19, hnn19⟩ := hq19
    have hL19 := hu19.len
    refine jJ_eq (g2 := F0 m 142 ls [.int (bI bb19)]) (cs2 := [u19]) rfl rfl ?_
    refine jJ_of2 (fun H locs => jb_if_eq (tgt := 157) hx hb dX4_factor_142 (by decide)) (fun c142 => ?_) (fun c142 => ?_)
    · subst c142
      refine jJ_of (fun H locs => lv_iconst (v := (nI 0)) hx hb dX4_factor_157 (by decide)) ?_
      have he : rFac tk r a co = (false, aa19, oo19) := by rw [rFac_eq]; unfold rFw; rw [if_neg (by omega), if_pos (by omega)]; simp only [he19, rThen_t, rThen_f]
      exact jJ_zret hx hb hr hlocks dX4_factor_158 (by show _ ≤ 4001 - Pp; omega) (by show _ ≤ 128 * (4000 - Pp) + 32000; omega) (Or.inl rfl) ⟨by rw [he]; try rfl, PP19, by rw [he]; exact hu19, by omega, by omega⟩
    · subst c142
      refine jJ_of (fun H locs => lv_aload_n hx hb dX4_factor_145 rfl (lv_at hl 1 rfl)) ?_
      refine jJ_of (fun H locs => lv_iload_n hx hb dX4_factor_146 rfl (lv_at hl 0 rfl)) ?_
      refine jJ_callV (As := [.int (nI ((tk 0).getD a 0))]) (rest := []) (wc := _) (cs2 := []) (C := RX4) (T := TX4) (N := 3) (ci := 3) [0] [] ⟨hx, hb, hml, hown, hts⟩ hK hA hAm (c_Rd_write hk hu19 ((tk 0).getD a 0) (by omega)) (cwV 1 hts gX4_factor_X4_write rfl rfl rfl (by decide +kernel) ⟨by show (7) + 1 ≤ 6 * r + 10; omega, by show 8 + (2 + 11) + (200) ≤ 240 * r + 400; omega⟩) (nn := 1) rfl (by decide) rfl rfl hu19.hd rfl rfl rfl hl.1 (Nat.le_of_ble_eq_true rfl) dX4_factor_147 (by show _ + (4001 - PP19) ≤ 4001 - Pp; omega) (by show _ + (128 * (4000 - PP19) + 32000) ≤ 128 * (4000 - Pp) + 32000; omega) (fun v u20 k20 n20 hq20 => ?_)
      try dsimp only at hq20
      obtain ⟨bb20, aa20, oo20, he20⟩ : ∃ (b : Bool) (x : Nat) (o : List Int32), rWr ((tk 0).getD a 0) aa19 oo19 = (b, x, o) := ⟨(rWr ((tk 0).getD a 0) aa19 oo19).1, (rWr ((tk 0).getD a 0) aa19 oo19).2.1, (rWr ((tk 0).getD a 0) aa19 oo19).2.2, rfl⟩
      rw [he20] at hq20
      try dsimp only at hq20
      obtain ⟨rfl, PP20, hu20, hkk20, hnn20⟩ := hq20
      have hL20 := hu20.len
      refine jJ_eq (g2 := F0 m 150 ls [.int (bI bb20)]) (cs2 := [u20]) rfl rfl ?_
      refine jJ_of2 (fun H locs => jb_if_eq (tgt := 157) hx hb dX4_factor_150 (by decide)) (fun c150 => ?_) (fun c150 => ?_)
      · subst c150
        refine jJ_of (fun H locs => lv_iconst (v := (nI 0)) hx hb dX4_factor_157 (by decide)) ?_
        have he : rFac tk r a co = (false, aa20, oo20) := by rw [rFac_eq]; unfold rFw; rw [if_neg (by omega), if_pos (by omega)]; simp only [he19, he20, rThen_t, rThen_f]
        exact jJ_zret hx hb hr hlocks dX4_factor_158 (by show _ ≤ 4001 - Pp; omega) (by show _ ≤ 128 * (4000 - Pp) + 32000; omega) (Or.inl rfl) ⟨by rw [he]; try rfl, PP20, by rw [he]; exact hu20, by omega, by omega⟩
      · subst c150
        refine jJ_of (fun H locs => lv_iconst (v := (nI 1)) hx hb dX4_factor_153 (by decide)) ?_
        refine jJ_of (fun H locs => lv_goto (tgt := 158) hx hb dX4_factor_154 (by decide)) ?_
        have he : rFac tk r a co = (true, aa20, oo20) := by rw [rFac_eq]; unfold rFw; rw [if_neg (by omega), if_pos (by omega)]; simp only [he19, he20, rThen_t, rThen_f]
        exact jJ_zret hx hb hr hlocks dX4_factor_158 (by show _ ≤ 4001 - Pp; omega) (by show _ ≤ 128 * (4000 - Pp) + 32000; omega) (Or.inr rfl) ⟨by rw [he]; try rfl, PP20, by rw [he]; exact hu20, by omega, by omega⟩
  by_cases e13_307 : sw13 = 307
  · refine jJ_of (fun H locs => lv_lookup hx hb dX4_factor_13 (by decide) (off := 114) (tgt := 127) (by rw [e13_307]; decide) (by decide)) ?_
    refine jJ_of (fun H locs => lv_aload_n hx hb dX4_factor_127 rfl (lv_at hl 1 rfl)) ?_
    refine jJ_of (fun H locs => lv_dup hx hb dX4_factor_128 rfl) ?_
    refine jJ_get hx hb (C := RX4) (T := TX4) (N := 3) hts uX4_in_X4_factor hown hK 1 rfl rfl 2 (by decide) (hts (.fieldLink RX4 17 "ValueBlocks$Reader" "at" "I") (by decide +kernel)) (fun _ h9 => h9) rfl dX4_factor_129 ?_
    refine jJ_of (fun H locs => lv_iconst (v := (nI 1)) hx hb dX4_factor_132 (by decide)) ?_
    refine jJ_of (fun H locs => jn_iadd hx hb dX4_factor_133) ?_
    refine jJ_put hx hb (C := RX4) (T := TX4) (N := 3) (ty := .int) (v := .int (nI (a + 1))) hts uX4_in_X4_factor tyX4 tyX4_ok nmX4 hown hK 1 rfl rfl 2 (by decide) (hts (.fieldLink RX4 17 "ValueBlocks$Reader" "at" "I") (by decide +kernel)) (fun _ h9 => h9) rfl (by decide +kernel) rfl rfl (Nat.le_of_ble_eq_true rfl) dX4_factor_134 (cs2 := [wk, [(h, .inr (3, [.ref ht, .ref hp, .int (nI (a + 1))]))], wp1]) rfl ?_
    refine jJ_of (fun H locs => lv_aload_n hx hb dX4_factor_137 rfl (lv_at hl 1 rfl)) ?_
    refine jJ_of (fun H locs => lv_iload_n hx hb dX4_factor_138 rfl (lv_at hl 2 rfl)) ?_
    refine jJ_perm [1, 0, 2] (nn := 3) rfl (by decide) (cs2 := [[(h, .inr (3, [.ref ht, .ref hp, .int (nI (a + 1))]))], wk, wp1]) rfl ?_
    have hat21 := hk.lt a (by omega)
    have hrw21 : jRd cI h ht hp Pp wk pr co (a + 1) (jF [[(h, .inr (3, [.ref ht, .ref hp, .int (nI (a + 1))]))], wk, wp1]) := ⟨_, rfl, hp1, by omega⟩
    refine jJ_flat (cs2 := [jF [[(h, .inr (3, [.ref ht, .ref hp, .int (nI (a + 1))]))], wk, wp1]]) rfl ?_
    have hLr21 := hrw21.len
    refine jJ_callV (As := [.int (nI d)]) (rest := []) (wc := _) (cs2 := []) (C := RX4) (T := TX4) (N := 3) (ci := 3) [0] [] ⟨hx, hb, hml, hown, hts⟩ hK hA hAm (hBr _ _ _ _ _ _ _ hrw21) (cwV 1 hts gX4_factor_X4_bracket rfl rfl rfl (by decide +kernel) ⟨by show (6 * r + 8) + 1 ≤ 6 * r + 10; omega, by show 8 + (2 + 11) + (240 * r + 320) ≤ 240 * r + 400; omega⟩) (nn := 1) rfl (by decide) rfl rfl hrw21.hd rfl rfl rfl hl.1 (Nat.le_of_ble_eq_true rfl) dX4_factor_139 (by show _ + (4001 - Pp) ≤ 4001 - Pp; omega) (by show _ + (128 * (4000 - Pp) + 32000) ≤ 128 * (4000 - Pp) + 32000; omega) (fun v u22 k22 n22 hq22 => ?_)
    try dsimp only at hq22
    obtain ⟨bb22, aa22, oo22, he22⟩ : ∃ (b : Bool) (x : Nat) (o : List Int32), rBra tk r (a + 1) co = (b, x, o) := ⟨(rBra tk r (a + 1) co).1, (rBra tk r (a + 1) co).2.1, (rBra tk r (a + 1) co).2.2, rfl⟩
    rw [he22] at hq22
    try dsimp only at hq22
    obtain ⟨rfl, PP22, hu22, hkk22, hnn22⟩ := hq22
    have hL22 := hu22.len
    refine jJ_eq (g2 := F0 m 142 ls [.int (bI bb22)]) (cs2 := [u22]) rfl rfl ?_
    refine jJ_of2 (fun H locs => jb_if_eq (tgt := 157) hx hb dX4_factor_142 (by decide)) (fun c142 => ?_) (fun c142 => ?_)
    · subst c142
      refine jJ_of (fun H locs => lv_iconst (v := (nI 0)) hx hb dX4_factor_157 (by decide)) ?_
      have he : rFac tk r a co = (false, aa22, oo22) := by rw [rFac_eq]; unfold rFw; rw [if_neg (by omega), if_pos (by omega)]; simp only [he22, rThen_t, rThen_f]
      exact jJ_zret hx hb hr hlocks dX4_factor_158 (by show _ ≤ 4001 - Pp; omega) (by show _ ≤ 128 * (4000 - Pp) + 32000; omega) (Or.inl rfl) ⟨by rw [he]; try rfl, PP22, by rw [he]; exact hu22, by omega, by omega⟩
    · subst c142
      refine jJ_of (fun H locs => lv_aload_n hx hb dX4_factor_145 rfl (lv_at hl 1 rfl)) ?_
      refine jJ_of (fun H locs => lv_iload_n hx hb dX4_factor_146 rfl (lv_at hl 0 rfl)) ?_
      refine jJ_callV (As := [.int (nI ((tk 0).getD a 0))]) (rest := []) (wc := _) (cs2 := []) (C := RX4) (T := TX4) (N := 3) (ci := 3) [0] [] ⟨hx, hb, hml, hown, hts⟩ hK hA hAm (c_Rd_write hk hu22 ((tk 0).getD a 0) (by omega)) (cwV 1 hts gX4_factor_X4_write rfl rfl rfl (by decide +kernel) ⟨by show (7) + 1 ≤ 6 * r + 10; omega, by show 8 + (2 + 11) + (200) ≤ 240 * r + 400; omega⟩) (nn := 1) rfl (by decide) rfl rfl hu22.hd rfl rfl rfl hl.1 (Nat.le_of_ble_eq_true rfl) dX4_factor_147 (by show _ + (4001 - PP22) ≤ 4001 - Pp; omega) (by show _ + (128 * (4000 - PP22) + 32000) ≤ 128 * (4000 - Pp) + 32000; omega) (fun v u23 k23 n23 hq23 => ?_)
      try dsimp only at hq23
      obtain ⟨bb23, aa23, oo23, he23⟩ : ∃ (b : Bool) (x : Nat) (o : List Int32), rWr ((tk 0).getD a 0) aa22 oo22 = (b, x, o) := ⟨(rWr ((tk 0).getD a 0) aa22 oo22).1, (rWr ((tk 0).getD a 0) aa22 oo22).2.1, (rWr ((tk 0).getD a 0) aa22 oo22).2.2, rfl⟩
      rw [he23] at hq23
      try dsimp only at hq23
      obtain ⟨rfl, PP23, hu23, hkk23, hnn23⟩ := hq23
      have hL23 := hu23.len
      refine jJ_eq (g2 := F0 m 150 ls [.int (bI bb23)]) (cs2 := [u23]) rfl rfl ?_
      refine jJ_of2 (fun H locs => jb_if_eq (tgt := 157) hx hb dX4_factor_150 (by decide)) (fun c150 => ?_) (fun c150 => ?_)
      · subst c150
        refine jJ_of (fun H locs => lv_iconst (v := (nI 0)) hx hb dX4_factor_157 (by decide)) ?_
        have he : rFac tk r a co = (false, aa23, oo23) := by rw [rFac_eq]; unfold rFw; rw [if_neg (by omega), if_pos (by omega)]; simp only [he22, he23, rThen_t, rThen_f]
        exact jJ_zret hx hb hr hlocks dX4_factor_158 (by show _ ≤ 4001 - Pp; omega) (by show _ ≤ 128 * (4000 - Pp) + 32000; omega) (Or.inl rfl) ⟨by rw [he]; try rfl, PP23, by rw [he]; exact hu23, by omega, by omega⟩
      · subst c150
        refine jJ_of (fun H locs => lv_iconst (v := (nI 1)) hx hb dX4_factor_153 (by decide)) ?_
        refine jJ_of (fun H locs => lv_goto (tgt := 158) hx hb dX4_factor_154 (by decide)) ?_
        have he : rFac tk r a co = (true, aa23, oo23) := by rw [rFac_eq]; unfold rFw; rw [if_neg (by omega), if_pos (by omega)]; simp only [he22, he23, rThen_t, rThen_f]
        exact jJ_zret hx hb hr hlocks dX4_factor_158 (by show _ ≤ 4001 - Pp; omega) (by show _ ≤ 128 * (4000 - Pp) + 32000; omega) (Or.inr rfl) ⟨by rw [he]; try rfl, PP23, by rw [he]; exact hu23, by omega, by omega⟩
  by_cases e13_308 : sw13 = 308
  · refine jJ_of (fun H locs => lv_lookup hx hb dX4_factor_13 (by decide) (off := 114) (tgt := 127) (by rw [e13_308]; decide) (by decide)) ?_
    refine jJ_of (fun H locs => lv_aload_n hx hb dX4_factor_127 rfl (lv_at hl 1 rfl)) ?_
    refine jJ_of (fun H locs => lv_dup hx hb dX4_factor_128 rfl) ?_
    refine jJ_get hx hb (C := RX4) (T := TX4) (N := 3) hts uX4_in_X4_factor hown hK 1 rfl rfl 2 (by decide) (hts (.fieldLink RX4 17 "ValueBlocks$Reader" "at" "I") (by decide +kernel)) (fun _ h9 => h9) rfl dX4_factor_129 ?_
    refine jJ_of (fun H locs => lv_iconst (v := (nI 1)) hx hb dX4_factor_132 (by decide)) ?_
    refine jJ_of (fun H locs => jn_iadd hx hb dX4_factor_133) ?_
    refine jJ_put hx hb (C := RX4) (T := TX4) (N := 3) (ty := .int) (v := .int (nI (a + 1))) hts uX4_in_X4_factor tyX4 tyX4_ok nmX4 hown hK 1 rfl rfl 2 (by decide) (hts (.fieldLink RX4 17 "ValueBlocks$Reader" "at" "I") (by decide +kernel)) (fun _ h9 => h9) rfl (by decide +kernel) rfl rfl (Nat.le_of_ble_eq_true rfl) dX4_factor_134 (cs2 := [wk, [(h, .inr (3, [.ref ht, .ref hp, .int (nI (a + 1))]))], wp1]) rfl ?_
    refine jJ_of (fun H locs => lv_aload_n hx hb dX4_factor_137 rfl (lv_at hl 1 rfl)) ?_
    refine jJ_of (fun H locs => lv_iload_n hx hb dX4_factor_138 rfl (lv_at hl 2 rfl)) ?_
    refine jJ_perm [1, 0, 2] (nn := 3) rfl (by decide) (cs2 := [[(h, .inr (3, [.ref ht, .ref hp, .int (nI (a + 1))]))], wk, wp1]) rfl ?_
    have hat24 := hk.lt a (by omega)
    have hrw24 : jRd cI h ht hp Pp wk pr co (a + 1) (jF [[(h, .inr (3, [.ref ht, .ref hp, .int (nI (a + 1))]))], wk, wp1]) := ⟨_, rfl, hp1, by omega⟩
    refine jJ_flat (cs2 := [jF [[(h, .inr (3, [.ref ht, .ref hp, .int (nI (a + 1))]))], wk, wp1]]) rfl ?_
    have hLr24 := hrw24.len
    refine jJ_callV (As := [.int (nI d)]) (rest := []) (wc := _) (cs2 := []) (C := RX4) (T := TX4) (N := 3) (ci := 3) [0] [] ⟨hx, hb, hml, hown, hts⟩ hK hA hAm (hBr _ _ _ _ _ _ _ hrw24) (cwV 1 hts gX4_factor_X4_bracket rfl rfl rfl (by decide +kernel) ⟨by show (6 * r + 8) + 1 ≤ 6 * r + 10; omega, by show 8 + (2 + 11) + (240 * r + 320) ≤ 240 * r + 400; omega⟩) (nn := 1) rfl (by decide) rfl rfl hrw24.hd rfl rfl rfl hl.1 (Nat.le_of_ble_eq_true rfl) dX4_factor_139 (by show _ + (4001 - Pp) ≤ 4001 - Pp; omega) (by show _ + (128 * (4000 - Pp) + 32000) ≤ 128 * (4000 - Pp) + 32000; omega) (fun v u25 k25 n25 hq25 => ?_)
    try dsimp only at hq25
    obtain ⟨bb25, aa25, oo25, he25⟩ : ∃ (b : Bool) (x : Nat) (o : List Int32), rBra tk r (a + 1) co = (b, x, o) := ⟨(rBra tk r (a + 1) co).1, (rBra tk r (a + 1) co).2.1, (rBra tk r (a + 1) co).2.2, rfl⟩
    rw [he25] at hq25
    try dsimp only at hq25
    obtain ⟨rfl, PP25, hu25, hkk25, hnn25⟩ := hq25
    have hL25 := hu25.len
    refine jJ_eq (g2 := F0 m 142 ls [.int (bI bb25)]) (cs2 := [u25]) rfl rfl ?_
    refine jJ_of2 (fun H locs => jb_if_eq (tgt := 157) hx hb dX4_factor_142 (by decide)) (fun c142 => ?_) (fun c142 => ?_)
    · subst c142
      refine jJ_of (fun H locs => lv_iconst (v := (nI 0)) hx hb dX4_factor_157 (by decide)) ?_
      have he : rFac tk r a co = (false, aa25, oo25) := by rw [rFac_eq]; unfold rFw; rw [if_neg (by omega), if_pos (by omega)]; simp only [he25, rThen_t, rThen_f]
      exact jJ_zret hx hb hr hlocks dX4_factor_158 (by show _ ≤ 4001 - Pp; omega) (by show _ ≤ 128 * (4000 - Pp) + 32000; omega) (Or.inl rfl) ⟨by rw [he]; try rfl, PP25, by rw [he]; exact hu25, by omega, by omega⟩
    · subst c142
      refine jJ_of (fun H locs => lv_aload_n hx hb dX4_factor_145 rfl (lv_at hl 1 rfl)) ?_
      refine jJ_of (fun H locs => lv_iload_n hx hb dX4_factor_146 rfl (lv_at hl 0 rfl)) ?_
      refine jJ_callV (As := [.int (nI ((tk 0).getD a 0))]) (rest := []) (wc := _) (cs2 := []) (C := RX4) (T := TX4) (N := 3) (ci := 3) [0] [] ⟨hx, hb, hml, hown, hts⟩ hK hA hAm (c_Rd_write hk hu25 ((tk 0).getD a 0) (by omega)) (cwV 1 hts gX4_factor_X4_write rfl rfl rfl (by decide +kernel) ⟨by show (7) + 1 ≤ 6 * r + 10; omega, by show 8 + (2 + 11) + (200) ≤ 240 * r + 400; omega⟩) (nn := 1) rfl (by decide) rfl rfl hu25.hd rfl rfl rfl hl.1 (Nat.le_of_ble_eq_true rfl) dX4_factor_147 (by show _ + (4001 - PP25) ≤ 4001 - Pp; omega) (by show _ + (128 * (4000 - PP25) + 32000) ≤ 128 * (4000 - Pp) + 32000; omega) (fun v u26 k26 n26 hq26 => ?_)
      try dsimp only at hq26
      obtain ⟨bb26, aa26, oo26, he26⟩ : ∃ (b : Bool) (x : Nat) (o : List Int32), rWr ((tk 0).getD a 0) aa25 oo25 = (b, x, o) := ⟨(rWr ((tk 0).getD a 0) aa25 oo25).1, (rWr ((tk 0).getD a 0) aa25 oo25).2.1, (rWr ((tk 0).getD a 0) aa25 oo25).2.2, rfl⟩
      rw [he26] at hq26
      try dsimp only at hq26
      obtain ⟨rfl, PP26, hu26, hkk26, hnn26⟩ := hq26
      have hL26 := hu26.len
      refine jJ_eq (g2 := F0 m 150 ls [.int (bI bb26)]) (cs2 := [u26]) rfl rfl ?_
      refine jJ_of2 (fun H locs => jb_if_eq (tgt := 157) hx hb dX4_factor_150 (by decide)) (fun c150 => ?_) (fun c150 => ?_)
      · subst c150
        refine jJ_of (fun H locs => lv_iconst (v := (nI 0)) hx hb dX4_factor_157 (by decide)) ?_
        have he : rFac tk r a co = (false, aa26, oo26) := by rw [rFac_eq]; unfold rFw; rw [if_neg (by omega), if_pos (by omega)]; simp only [he25, he26, rThen_t, rThen_f]
        exact jJ_zret hx hb hr hlocks dX4_factor_158 (by show _ ≤ 4001 - Pp; omega) (by show _ ≤ 128 * (4000 - Pp) + 32000; omega) (Or.inl rfl) ⟨by rw [he]; try rfl, PP26, by rw [he]; exact hu26, by omega, by omega⟩
      · subst c150
        refine jJ_of (fun H locs => lv_iconst (v := (nI 1)) hx hb dX4_factor_153 (by decide)) ?_
        refine jJ_of (fun H locs => lv_goto (tgt := 158) hx hb dX4_factor_154 (by decide)) ?_
        have he : rFac tk r a co = (true, aa26, oo26) := by rw [rFac_eq]; unfold rFw; rw [if_neg (by omega), if_pos (by omega)]; simp only [he25, he26, rThen_t, rThen_f]
        exact jJ_zret hx hb hr hlocks dX4_factor_158 (by show _ ≤ 4001 - Pp; omega) (by show _ ≤ 128 * (4000 - Pp) + 32000; omega) (Or.inr rfl) ⟨by rw [he]; try rfl, PP26, by rw [he]; exact hu26, by omega, by omega⟩
  refine jJ_of (fun H locs => lv_lookup hx hb dX4_factor_13 (by decide) (off := 183) (tgt := 196) (by rw [nI_toInt bsw13]; show Op.lookupswitch.offset [(35, 146), (45, 75), (256, 178), (257, 178), (305, 114), (306, 114), (307, 114), (308, 114)] _ _ = _; rw [Op.lookupswitch.offset_cons, if_neg (by omega), Op.lookupswitch.offset_cons, if_neg (by omega), Op.lookupswitch.offset_cons, if_neg (by omega), Op.lookupswitch.offset_cons, if_neg (by omega), Op.lookupswitch.offset_cons, if_neg (by omega), Op.lookupswitch.offset_cons, if_neg (by omega), Op.lookupswitch.offset_cons, if_neg (by omega), Op.lookupswitch.offset_cons, if_neg (by omega)]; rfl) (by decide)) ?_
  refine jJ_of (fun H locs => lv_aload_n hx hb dX4_factor_196 rfl (lv_at hl 1 rfl)) ?_
  refine jJ_of (fun H locs => lv_iload_n hx hb dX4_factor_197 rfl (lv_at hl 2 rfl)) ?_
  refine jJ_perm [1, 0, 2] (nn := 3) rfl (by decide) (cs2 := [[(h, .inr (3, [.ref ht, .ref hp, .int (nI a)]))], wk, wp1]) rfl ?_
  have hrw27 : jRd cI h ht hp Pp wk pr co a (jF [[(h, .inr (3, [.ref ht, .ref hp, .int (nI a)]))], wk, wp1]) := ⟨_, rfl, hp1, by omega⟩
  refine jJ_flat (cs2 := [jF [[(h, .inr (3, [.ref ht, .ref hp, .int (nI a)]))], wk, wp1]]) rfl ?_
  have hLr27 := hrw27.len
  refine jJ_callV (As := [.int (nI d)]) (rest := []) (wc := _) (cs2 := []) (C := RX4) (T := TX4) (N := 3) (ci := 3) [0] [] ⟨hx, hb, hml, hown, hts⟩ hK hA hAm (hBr _ _ _ _ _ _ _ hrw27) (cwV 1 hts gX4_factor_X4_bracket rfl rfl rfl (by decide +kernel) ⟨by show (6 * r + 8) + 1 ≤ 6 * r + 10; omega, by show 8 + (2 + 11) + (240 * r + 320) ≤ 240 * r + 400; omega⟩) (nn := 1) rfl (by decide) rfl rfl hrw27.hd rfl rfl rfl hl.1 (Nat.le_of_ble_eq_true rfl) dX4_factor_198 (by show _ + (4001 - Pp) ≤ 4001 - Pp; omega) (by show _ + (128 * (4000 - Pp) + 32000) ≤ 128 * (4000 - Pp) + 32000; omega) (fun v u28 k28 n28 hq28 => ?_)
  try dsimp only at hq28
  obtain ⟨bb28, aa28, oo28, he28⟩ : ∃ (b : Bool) (x : Nat) (o : List Int32), rBra tk r a co = (b, x, o) := ⟨(rBra tk r a co).1, (rBra tk r a co).2.1, (rBra tk r a co).2.2, rfl⟩
  rw [he28] at hq28
  try dsimp only at hq28
  obtain ⟨rfl, PP28, hu28, hkk28, hnn28⟩ := hq28
  have hL28 := hu28.len
  refine jJ_eq (g2 := F0 m 201 ls [.int (bI bb28)]) (cs2 := [u28]) rfl rfl ?_
  have he : rFac tk r a co = (bb28, aa28, oo28) := by rw [rFac_eq]; unfold rFw; rw [if_neg (by omega), if_neg (by omega), if_neg (by omega), if_neg (by omega), he28]
  exact jJ_zret hx hb hr hlocks dX4_factor_201 (by show _ ≤ 4001 - Pp; omega) (by show _ ≤ 128 * (4000 - Pp) + 32000; omega) (bI_01 _) ⟨by rw [he]; try rfl, PP28, by rw [he]; exact hu28, by omega, by omega⟩

/-- the whole group, by the depth that is left -/
theorem w_Rd_factor {ht hT Pk nx : Nat} {T : List Nat} {tk : Nat → List Nat} {wk : va_W} (hk : jTok cI ht hT Pk T tk nx wk) : ∀ (r d : Nat), d + r = 20 → cRd D G cI cJ cB cZ l yX4_factor wsX4_factor (6 * r + 10) (240 * r + 400) [.int (nI d)] ht wk (rFac tk r) ∧ cRd D G cI cJ cB cZ l yX4_bracket wsX4_bracket (6 * r + 8) (240 * r + 320) [.int (nI d)] ht wk (rBra tk r)
  | 0, d, hd => by
    have hB : cRd D G cI cJ cB cZ l yX4_bracket wsX4_bracket (6 * 0 + 8) (240 * 0 + 320) [.int (nI d)] ht wk (rBra tk 0) := fun h hp Pp a pr co w hw => c_Rd_bracket hk hw 0 d hd (fun r2 h => absurd h (Nat.succ_ne_zero r2).symm)
    have hP : cRd D G cI cJ cB cZ l yX4_placePart wsX4_placePart (6 * 0 + 9) (240 * 0 + 360) [.int (nI d)] ht wk (rPl tk (rBra tk 0)) := fun h hp Pp a pr co w hw => c_Rd_placePart hk hw 0 d hB
    exact ⟨fun h hp Pp a pr co w hw => c_Rd_factor hk hw 0 d hd hB hP (fun r2 h => absurd h (Nat.succ_ne_zero r2).symm), hB⟩
  | r + 1, d, hd => by
    have hF := (w_Rd_factor hk r (d + 1) (by omega)).1
    have hPr : cRd D G cI cJ cB cZ l yX4_product wsX4_product (6 * r + 11) (240 * r + 440) [.int (nI (d + 1))] ht wk (rPro tk r) := fun h hp Pp a pr co w hw => c_Rd_product hk hw r (d + 1) hF
    have hSu : cRd D G cI cJ cB cZ l yX4_sum wsX4_sum (6 * r + 12) (240 * r + 480) [.int (nI (d + 1))] ht wk (rSum tk r) := fun h hp Pp a pr co w hw => c_Rd_sum hk hw r (d + 1) hPr
    have hTe : cRd D G cI cJ cB cZ l yX4_test wsX4_test (6 * r + 13) (240 * r + 520) [.int (nI (d + 1))] ht wk (rTes tk r) := fun h hp Pp a pr co w hw => c_Rd_test hk hw r (d + 1) hSu
    have hB : cRd D G cI cJ cB cZ l yX4_bracket wsX4_bracket (6 * (r + 1) + 8) (240 * (r + 1) + 320) [.int (nI d)] ht wk (rBra tk (r + 1)) := fun h hp Pp a pr co w hw => c_Rd_bracket hk hw (r + 1) d hd (fun r2 h => by obtain rfl : r = r2 := (by omega); exact hTe)
    have hP : cRd D G cI cJ cB cZ l yX4_placePart wsX4_placePart (6 * (r + 1) + 9) (240 * (r + 1) + 360) [.int (nI d)] ht wk (rPl tk (rBra tk (r + 1))) := fun h hp Pp a pr co w hw => c_Rd_placePart hk hw (r + 1) d hB
    exact ⟨fun h hp Pp a pr co w hw => c_Rd_factor hk hw (r + 1) d hd hB hP (fun r2 h => by obtain rfl : r = r2 := (by omega); exact hF), hB⟩
theorem w_Rd_sum {ht hT Pk nx : Nat} {T : List Nat} {tk : Nat → List Nat} {wk : va_W} (hk : jTok cI ht hT Pk T tk nx wk) (r d : Nat) (hd : d + r = 20) : cRd D G cI cJ cB cZ l yX4_sum wsX4_sum (6 * r + 12) (240 * r + 480) [.int (nI d)] ht wk (rSum tk r) := fun h hp Pp a pr co w hw => c_Rd_sum hk hw r d (fun h hp Pp a pr co w hw => c_Rd_product hk hw r d (w_Rd_factor hk r d hd).1)
theorem w_Rd_place {ht hT Pk nx : Nat} {T : List Nat} {tk : Nat → List Nat} {wk : va_W} (hk : jTok cI ht hT Pk T tk nx wk) (r d : Nat) (hd : d + r = 20) : cRd D G cI cJ cB cZ l yX4_placePart wsX4_placePart (6 * r + 9) (240 * r + 360) [.int (nI d)] ht wk (rPl tk (rBra tk r)) := fun h hp Pp a pr co w hw => c_Rd_placePart hk hw r d (w_Rd_factor hk r d hd).2

end RD
