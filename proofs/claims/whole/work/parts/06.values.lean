/-! ValueBlocks$Values, and the JDK's floorDiv and floorMod: numbers as Int -/
def vAbs (a : Int) : Int := if 0 < a then a else -a
def vTG (z : Int) : Bool := decide (1000000000000 < z ∨ z < -1000000000000)
def rtF (N : Int) : Nat → Int → Int
  | 0, r => r
  | m + 1, r => if (r + 2 ^ m) * (r + 2 ^ m) ≤ N then rtF N m (r + 2 ^ m) else rtF N m r
def vRt (N : Int) : Int := rtF N 25 0
def vMul (a b : Int) : Int := if ¬ vAbs a = 0 ∧ (1000000000000999 : Int).tdiv (vAbs a) < vAbs b then 1000000000001 else (a * b).tdiv 1000
def vHold (op : Nat) (a b : Int) : Bool :=
  if op = 310 then decide (¬ a = 0 ∧ ¬ b = 0) else if op = 311 then decide (¬ a = 0 ∨ ¬ b = 0) else if op = 312 then decide (¬ (a = 0 ↔ b = 0))
  else if op = 313 then decide (a = b) else if op = 314 then decide (¬ a = b) else if op = 315 then decide (a < b) else if op = 316 then decide (a ≤ b) else if op = 317 then decide (b < a) else decide (b ≤ a)
def vOne (op : Nat) (a : Int) : Int := if op = 305 then vAbs a else if op = 306 then Int.fdiv a 1000 * 1000 else if op = 307 then -(Int.fdiv (-a) 1000 * 1000) else if op = 308 then vRt (a * 1000) else -a
def vTwo (op : Nat) (a b : Int) : Int := if op = 42 then vMul a b else if op = 43 then a + b else if op = 45 then a - b else if op = 47 then (if b = 0 then 0 else (a * 1000).tdiv b) else if op = 309 then (if b = 0 then 0 else Int.fmod a b) else if vHold op a b then 1000 else 0
theorem lI_abs {a : Int} (h1 : -9223372036854775808 ≤ a) (h2 : a < 9223372036854775808) : (if 0 < lI a then lI a else -lI a) = lI (vAbs a) := by
  have h := lI_lt (a := 0) (b := a) (by omega) (by omega) h1 h2
  have h0 : (0 : Int64) = lI 0 := rfl
  unfold vAbs
  rw [h0]
  simp only [h]
  split
  · rfl
  · rw [lI_neg]
theorem lI_xor {a b : Int} (h1 : -9223372036854775808 ≤ a) (h2 : a < 9223372036854775808) (h3 : -9223372036854775808 ≤ b) (h4 : b < 9223372036854775808) : 0 ≤ lg_cmp (lI a ^^^ lI b) (lI 0) ↔ (a < 0 ↔ b < 0) := by
  have e1 : (lI a ^^^ lI b) < lI 0 ↔ ¬ (a < 0 ↔ b < 0) := by
    rw [Int64.lt_iff_toInt_lt]
    have k : ∀ x : Int64, x.toInt < 0 ↔ x.toBitVec.msb = true := fun x => by
      rw [← Int64.toInt_toBitVec, BitVec.msb_eq_toInt]
      simp
    have k0 : (lI 0).toInt = 0 := rfl
    rw [k0, k, Int64.toBitVec_xor, BitVec.msb_xor]
    have ka := k (lI a)
    have kb := k (lI b)
    rw [lI_toInt h1 h2] at ka
    rw [lI_toInt h3 h4] at kb
    rw [ka, kb]
    cases (lI a).toBitVec.msb <;> cases (lI b).toBitVec.msb <;> decide
  unfold lg_cmp
  by_cases g : (lI a ^^^ lI b) < lI 0
  · have g1 : ¬ (lI a ^^^ lI b) > lI 0 := fun q => by
      rw [GT.gt, Int64.lt_iff_toInt_lt] at q
      rw [Int64.lt_iff_toInt_lt] at g
      omega
    have g2 : ¬ (lI a ^^^ lI b) = lI 0 := fun q => by
      rw [q, Int64.lt_iff_toInt_lt] at g
      omega
    rw [if_neg g1, if_neg g2]
    exact ⟨fun q => absurd q (by decide), fun q => absurd q (e1.mp g)⟩
  · have g3 : (a < 0 ↔ b < 0) := Classical.byContradiction fun q => g (e1.mpr q)
    refine ⟨fun _ => g3, fun _ => ?_⟩
    split
    · decide
    · split
      · decide
      · rename_i q1 q2
        exfalso
        rw [GT.gt, Int64.lt_iff_toInt_lt] at q1
        rw [← Int64.toInt_inj] at q2
        rw [Int64.lt_iff_toInt_lt] at g
        omega
theorem vSgn {b : Int} (hb : ¬ b = 0) : b.sign = if b < 0 then -1 else 1 := by
  split
  · exact Int.sign_eq_neg_one_of_neg (by omega)
  · exact Int.sign_eq_one_of_pos (by omega)
theorem vFdiv {a b : Int} (hb : ¬ b = 0) : Int.fdiv a b = if (a < 0 ↔ b < 0) then a.tdiv b else if a.tdiv b * b = a then a.tdiv b else a.tdiv b - 1 := by
  rw [Int.fdiv_eq_tdiv]
  have hd : b ∣ a ↔ a.tdiv b * b = a := by
    rw [Int.dvd_iff_tmod_eq_zero]
    have := Int.tmod_add_mul_tdiv a b
    rw [Int.mul_comm b] at this
    omega
  by_cases h1 : b ∣ a
  · rw [if_pos h1, if_pos (hd.mp h1)]
    split <;> omega
  · have h0 : ¬ a = 0 := fun q => h1 (q ▸ Int.dvd_zero b)
    rw [if_neg h1, if_neg (fun q => h1 (hd.mpr q))]
    have hs := vSgn hb
    by_cases ha : a < 0 <;> by_cases hb2 : b < 0 <;> (simp only [ha, hb2, if_true, if_false, true_iff, iff_true, false_iff, iff_false, not_true_eq_false, not_false_eq_true] at hs ⊢) <;> (repeat' split) <;> omega
theorem vFmod {a b : Int} (hb : ¬ b = 0) : Int.fmod a b = if (a < 0 ↔ b < 0) then a.tmod b else if a.tmod b = 0 then a.tmod b else a.tmod b + b := by
  have e1 := Int.fmod_add_mul_fdiv a b
  have e2 := Int.tmod_add_mul_tdiv a b
  have hd : a.tmod b = 0 ↔ a.tdiv b * b = a := by
    rw [Int.mul_comm b] at e2
    omega
  have e3 := vFdiv (a := a) hb
  by_cases h1 : (a < 0 ↔ b < 0)
  · rw [if_pos h1] at e3 ⊢
    rw [e3] at e1
    omega
  · rw [if_neg h1] at e3 ⊢
    by_cases h2 : a.tmod b = 0
    · rw [if_pos h2]
      rw [if_pos (hd.mp h2)] at e3
      rw [e3] at e1
      omega
    · rw [if_neg h2]
      rw [if_neg (fun q => h2 (hd.mpr q))] at e3
      rw [e3, Int.mul_sub] at e1
      omega
section VAL6
variable {D : va_G} {G : Nat → Nat} {cI cJ cB cZ : ClassId} {l : Launch}

set_option maxHeartbeats 4000000 in
set_option maxRecDepth 100000 in
/-- Math.floorDiv -/
theorem c_floorDiv (x y : Int) (h1 : -9223372036854775808 < x) (h2 : x < 9223372036854775808) (h3 : -9223372036854775808 < y) (h4 : y < 9223372036854775808) (h0 : ¬ y = 0) : HM l yJ9_floorDiv_f86c9 wsJ9_floorDiv_f86c9 ({ frames := 0, cells := 0, slots := 0, locals := 0 } : Room) D G (jT cI cJ cB cZ) [.long (lI x), .long (lI y)] ([]) (fun v u k n => v = some (.long (lI (Int.fdiv x y))) ∧ u = [] ∧ k = 0 ∧ n = 0) := by
  have hq1 : (x.tdiv y).natAbs ≤ x.natAbs := by rw [Int.natAbs_tdiv]; exact Nat.div_le_self _ _
  have hq2 : (x.tdiv y * y).natAbs ≤ x.natAbs := by rw [Int.natAbs_mul, Int.natAbs_tdiv]; exact Nat.div_mul_le_self _ _
  refine HM_ofF (cc := cJ9_floorDiv_f86c9) (maxL := 6) (ret := (some .long)) (lv := [(0, .long (lI x)), (2, .long (lI y))]) (by decide +kernel) rfl rfl (Nat.le_of_ble_eq_true rfl) (fun p e s m args below meth c A0 ls hx hb hr hts hown hlocks hml hnm hK hA hAm hl => ?_)
  refine jJ_of (fun H locs => lv_lload_n hx hb dJ9_floorDiv_f86c9_0 rfl (lv_at hl 0 rfl)) ?_
  refine jJ_of (fun H locs => lv_lload_n hx hb dJ9_floorDiv_f86c9_1 rfl (lv_at hl 1 rfl)) ?_
  refine jJ_of (fun H locs => jl_ldiv hx hb dJ9_floorDiv_f86c9_2 h1 h2 (by omega) h4 h0) ?_
  refine jJ_ofL (fun H locs => lv_lstore (lv' := [(4, .long (lI (Int.tdiv x y))), (0, .long (lI x)), (2, .long (lI y))]) hx hb dJ9_floorDiv_f86c9_3 hl (by decide) rfl) (fun ls hl => ?_)
  refine jJ_of (fun H locs => lv_lload_n hx hb dJ9_floorDiv_f86c9_5 rfl (lv_at hl 1 rfl)) ?_
  refine jJ_of (fun H locs => lv_lload_n hx hb dJ9_floorDiv_f86c9_6 rfl (lv_at hl 2 rfl)) ?_
  refine jJ_of (fun H locs => lv_lxor hx hb dJ9_floorDiv_f86c9_7) ?_
  refine jJ_of (fun H locs => jn_lconst (v := 0) hx hb dJ9_floorDiv_f86c9_8 rfl) ?_
  refine jJ_of (fun H locs => W.lcmp hx hb dJ9_floorDiv_f86c9_9) ?_
  refine jJ_of2 (P1 := (x < 0 ↔ y < 0)) (P2 := ¬ (x < 0 ↔ y < 0)) (fun H locs k1 k2 => lv_if_ge (tgt := 27) hx hb dJ9_floorDiv_f86c9_10 (by decide) (fun q => k1 ((lI_xor (by omega) (by omega) (by omega) (by omega)).mp q)) (fun q => k2 (fun z => q ((lI_xor (by omega) (by omega) (by omega) (by omega)).mpr z)))) (fun c10 => ?_) (fun c10 => ?_)
  · refine jJ_of (fun H locs => lv_lload hx hb dJ9_floorDiv_f86c9_27 (lv_at hl 0 rfl)) ?_
    exact jJ_lret hx hb hr hlocks dJ9_floorDiv_f86c9_29 (by show _ ≤ 0; omega) (by show _ ≤ 0; omega) ⟨by rw [vFdiv h0]; first | rw [if_pos c10] | (rw [if_neg c10]; first | rw [if_pos (by first | exact c19 | exact c17 | omega)] | rw [if_neg (by first | exact c19 | exact c17 | omega)]), rfl, rfl, rfl⟩
  · refine jJ_of (fun H locs => lv_lload hx hb dJ9_floorDiv_f86c9_13 (lv_at hl 0 rfl)) ?_
    refine jJ_of (fun H locs => lv_lload_n hx hb dJ9_floorDiv_f86c9_15 rfl (lv_at hl 2 rfl)) ?_
    refine jJ_of (fun H locs => jl_lmul hx hb dJ9_floorDiv_f86c9_16) ?_
    refine jJ_of (fun H locs => lv_lload_n hx hb dJ9_floorDiv_f86c9_17 rfl (lv_at hl 1 rfl)) ?_
    refine jJ_of (fun H locs => W.lcmp hx hb dJ9_floorDiv_f86c9_18) ?_
    refine jJ_of2 (fun H locs => jl_if_eq (tgt := 27) hx hb dJ9_floorDiv_f86c9_19 (by decide) (by omega) (by omega) (by omega) (by omega)) (fun c19 => ?_) (fun c19 => ?_)
    · refine jJ_of (fun H locs => lv_lload hx hb dJ9_floorDiv_f86c9_27 (lv_at hl 0 rfl)) ?_
      exact jJ_lret hx hb hr hlocks dJ9_floorDiv_f86c9_29 (by show _ ≤ 0; omega) (by show _ ≤ 0; omega) ⟨by rw [vFdiv h0]; first | rw [if_pos c10] | (rw [if_neg c10]; first | rw [if_pos (by first | exact c19 | exact c17 | omega)] | rw [if_neg (by first | exact c19 | exact c17 | omega)]), rfl, rfl, rfl⟩
    · refine jJ_of (fun H locs => lv_lload hx hb dJ9_floorDiv_f86c9_22 (lv_at hl 0 rfl)) ?_
      refine jJ_of (fun H locs => jn_lconst (v := 1) hx hb dJ9_floorDiv_f86c9_24 rfl) ?_
      refine jJ_of (fun H locs => jl_lsub hx hb dJ9_floorDiv_f86c9_25) ?_
      exact jJ_lret hx hb hr hlocks dJ9_floorDiv_f86c9_26 (by show _ ≤ 0; omega) (by show _ ≤ 0; omega) ⟨by rw [vFdiv h0]; first | rw [if_pos c10] | (rw [if_neg c10]; first | rw [if_pos (by first | exact c19 | exact c17 | omega)] | rw [if_neg (by first | exact c19 | exact c17 | omega)]), rfl, rfl, rfl⟩
set_option maxHeartbeats 4000000 in
set_option maxRecDepth 100000 in
/-- Math.floorMod -/
theorem c_floorMod (x y : Int) (h1 : -9223372036854775808 < x) (h2 : x < 9223372036854775808) (h3 : -9223372036854775808 < y) (h4 : y < 9223372036854775808) (h0 : ¬ y = 0) : HM l yJ9_floorMod_f86c9 wsJ9_floorMod_f86c9 ({ frames := 0, cells := 0, slots := 0, locals := 0 } : Room) D G (jT cI cJ cB cZ) [.long (lI x), .long (lI y)] ([]) (fun v u k n => v = some (.long (lI (Int.fmod x y))) ∧ u = [] ∧ k = 0 ∧ n = 0) := by
  have hq1 : (x.tmod y).natAbs ≤ x.natAbs := by rw [Int.natAbs_tmod]; exact Nat.mod_le _ _
  refine HM_ofF (cc := cJ9_floorMod_f86c9) (maxL := 6) (ret := (some .long)) (lv := [(0, .long (lI x)), (2, .long (lI y))]) (by decide +kernel) rfl rfl (Nat.le_of_ble_eq_true rfl) (fun p e s m args below meth c A0 ls hx hb hr hts hown hlocks hml hnm hK hA hAm hl => ?_)
  refine jJ_of (fun H locs => lv_lload_n hx hb dJ9_floorMod_f86c9_0 rfl (lv_at hl 0 rfl)) ?_
  refine jJ_of (fun H locs => lv_lload_n hx hb dJ9_floorMod_f86c9_1 rfl (lv_at hl 1 rfl)) ?_
  refine jJ_of (fun H locs => jl_lrem hx hb dJ9_floorMod_f86c9_2 h1 h2 (by omega) h4 h0) ?_
  refine jJ_ofL (fun H locs => lv_lstore (lv' := [(4, .long (lI (Int.tmod x y))), (0, .long (lI x)), (2, .long (lI y))]) hx hb dJ9_floorMod_f86c9_3 hl (by decide) rfl) (fun ls hl => ?_)
  refine jJ_of (fun H locs => lv_lload_n hx hb dJ9_floorMod_f86c9_5 rfl (lv_at hl 1 rfl)) ?_
  refine jJ_of (fun H locs => lv_lload_n hx hb dJ9_floorMod_f86c9_6 rfl (lv_at hl 2 rfl)) ?_
  refine jJ_of (fun H locs => lv_lxor hx hb dJ9_floorMod_f86c9_7) ?_
  refine jJ_of (fun H locs => jn_lconst (v := 0) hx hb dJ9_floorMod_f86c9_8 rfl) ?_
  refine jJ_of (fun H locs => W.lcmp hx hb dJ9_floorMod_f86c9_9) ?_
  refine jJ_of2 (P1 := (x < 0 ↔ y < 0)) (P2 := ¬ (x < 0 ↔ y < 0)) (fun H locs k1 k2 => lv_if_ge (tgt := 25) hx hb dJ9_floorMod_f86c9_10 (by decide) (fun q => k1 ((lI_xor (by omega) (by omega) (by omega) (by omega)).mp q)) (fun q => k2 (fun z => q ((lI_xor (by omega) (by omega) (by omega) (by omega)).mpr z)))) (fun c10 => ?_) (fun c10 => ?_)
  · refine jJ_of (fun H locs => lv_lload hx hb dJ9_floorMod_f86c9_25 (lv_at hl 0 rfl)) ?_
    exact jJ_lret hx hb hr hlocks dJ9_floorMod_f86c9_27 (by show _ ≤ 0; omega) (by show _ ≤ 0; omega) ⟨by rw [vFmod h0]; first | rw [if_pos c10] | (rw [if_neg c10]; first | rw [if_pos (by first | exact c19 | exact c17 | omega)] | rw [if_neg (by first | exact c19 | exact c17 | omega)]), rfl, rfl, rfl⟩
  · refine jJ_of (fun H locs => lv_lload hx hb dJ9_floorMod_f86c9_13 (lv_at hl 0 rfl)) ?_
    refine jJ_of (fun H locs => jn_lconst (v := 0) hx hb dJ9_floorMod_f86c9_15 rfl) ?_
    refine jJ_of (fun H locs => W.lcmp hx hb dJ9_floorMod_f86c9_16) ?_
    refine jJ_of2 (fun H locs => jl_if_eq (tgt := 25) hx hb dJ9_floorMod_f86c9_17 (by decide) (by omega) (by omega) (by omega) (by omega)) (fun c17 => ?_) (fun c17 => ?_)
    · refine jJ_of (fun H locs => lv_lload hx hb dJ9_floorMod_f86c9_25 (lv_at hl 0 rfl)) ?_
      exact jJ_lret hx hb hr hlocks dJ9_floorMod_f86c9_27 (by show _ ≤ 0; omega) (by show _ ≤ 0; omega) ⟨by rw [vFmod h0]; first | rw [if_pos c10] | (rw [if_neg c10]; first | rw [if_pos (by first | exact c19 | exact c17 | omega)] | rw [if_neg (by first | exact c19 | exact c17 | omega)]), rfl, rfl, rfl⟩
    · refine jJ_of (fun H locs => lv_lload hx hb dJ9_floorMod_f86c9_20 (lv_at hl 0 rfl)) ?_
      refine jJ_of (fun H locs => lv_lload_n hx hb dJ9_floorMod_f86c9_22 rfl (lv_at hl 2 rfl)) ?_
      refine jJ_of (fun H locs => jl_ladd hx hb dJ9_floorMod_f86c9_23) ?_
      exact jJ_lret hx hb hr hlocks dJ9_floorMod_f86c9_24 (by show _ ≤ 0; omega) (by show _ ≤ 0; omega) ⟨by rw [vFmod h0]; first | rw [if_pos c10] | (rw [if_neg c10]; first | rw [if_pos (by first | exact c19 | exact c17 | omega)] | rw [if_neg (by first | exact c19 | exact c17 | omega)]), rfl, rfl, rfl⟩
set_option maxHeartbeats 4000000 in
set_option maxRecDepth 100000 in
/-- isTooGreat(z) -/
theorem c_isTooGreat (z : Int) (h1 : -9223372036854775808 ≤ z) (h2 : z < 9223372036854775808) : HM l yX7_isTooGreat wsX7_isTooGreat ({ frames := 0, cells := 0, slots := 0, locals := 0 } : Room) D G (jT cI cJ cB cZ) [.long (lI z)] ([]) (fun v u k n => v = some (.int (bI (vTG z))) ∧ u = [] ∧ k = 0 ∧ n = 0) := by
  refine HM_of (cc := cX7_isTooGreat) (maxL := 2) (ret := (some .boolean)) (lv := [(0, .long (lI z))]) (by decide) rfl rfl (Nat.le_of_ble_eq_true rfl) (fun p e s m args below meth c A0 ls hx hb hr hts hown hlocks hml hnm hK hA hAm hl => ?_)
  refine jJ_of (fun H locs => lv_lload_n hx hb dX7_isTooGreat_0 rfl (lv_at hl 0 rfl)) ?_
  refine jJ_of (fun H locs => lv_ldc2 (v := (lI 1000000000000)) hx hb hown (by rw [show (lI 1000000000000) = (1000000000000 : Int64) from by decide]; exact (hts (.constantLong RX7 9 (1000000000000)) (by decide +kernel))) dX7_isTooGreat_1) ?_
  refine jJ_of (fun H locs => W.lcmp hx hb dX7_isTooGreat_4) ?_
  refine jJ_of2 (fun H locs => jl_if_gt (tgt := 16) hx hb dX7_isTooGreat_5 (by decide) (by omega) (by omega) (by omega) (by omega)) (fun c5 => ?_) (fun c5 => ?_)
  · refine jJ_of (fun H locs => lv_iconst (v := (nI 1)) hx hb dX7_isTooGreat_16 (by decide)) ?_
    refine jJ_of (fun H locs => lv_goto (tgt := 21) hx hb dX7_isTooGreat_17 (by decide)) ?_
    exact jJ_zret hx hb hr hlocks dX7_isTooGreat_21 (by show _ ≤ 0; omega) (by show _ ≤ 0; omega) (Or.inr rfl) ⟨by rw [show vTG z = true from by simp [vTG]; omega]; rfl, rfl, rfl, rfl⟩
  · refine jJ_of (fun H locs => lv_lload_n hx hb dX7_isTooGreat_8 rfl (lv_at hl 0 rfl)) ?_
    refine jJ_of (fun H locs => lv_ldc2 (v := (lI (-1000000000000))) hx hb hown (by rw [show (lI (-1000000000000)) = (-1000000000000 : Int64) from by decide]; exact (hts (.constantLong RX7 11 (-1000000000000)) (by decide +kernel))) dX7_isTooGreat_9) ?_
    refine jJ_of (fun H locs => W.lcmp hx hb dX7_isTooGreat_12) ?_
    refine jJ_of2 (fun H locs => jl_if_ge (tgt := 20) hx hb dX7_isTooGreat_13 (by decide) (by omega) (by omega) (by omega) (by omega)) (fun c13 => ?_) (fun c13 => ?_)
    · refine jJ_of (fun H locs => lv_iconst (v := (nI 0)) hx hb dX7_isTooGreat_20 (by decide)) ?_
      exact jJ_zret hx hb hr hlocks dX7_isTooGreat_21 (by show _ ≤ 0; omega) (by show _ ≤ 0; omega) (Or.inl rfl) ⟨by rw [show vTG z = false from by simp [vTG]; omega]; rfl, rfl, rfl, rfl⟩
    · refine jJ_of (fun H locs => lv_iconst (v := (nI 1)) hx hb dX7_isTooGreat_16 (by decide)) ?_
      refine jJ_of (fun H locs => lv_goto (tgt := 21) hx hb dX7_isTooGreat_17 (by decide)) ?_
      exact jJ_zret hx hb hr hlocks dX7_isTooGreat_21 (by show _ ≤ 0; omega) (by show _ ≤ 0; omega) (Or.inr rfl) ⟨by rw [show vTG z = true from by simp [vTG]; omega]; rfl, rfl, rfl, rfl⟩
def rtP : Nat → Int
  | 0 => 0
  | m + 1 => 2 ^ m
theorem rtP_half (m : Nat) : (rtP (m + 1)).tdiv 2 = rtP m := by
  cases m with
  | zero => decide
  | succ m =>
    show ((2 : Int) ^ (m + 1)).tdiv 2 = 2 ^ m
    rw [Int.pow_succ]
    exact Int.mul_tdiv_cancel _ (by decide)
theorem rtPow (m : Nat) (h : m ≤ 24) : 1 ≤ (2 : Int) ^ m ∧ (2 : Int) ^ m ≤ 16777216 := by
  have h1 : (2 : Nat) ^ m ≤ 2 ^ 24 := Nat.pow_le_pow_right (by decide) h
  have h2 : 0 < (2 : Nat) ^ m := Nat.pow_pos (by decide)
  have h3 : ((2 ^ m : Nat) : Int) = (2 : Int) ^ m := by rw [Int.natCast_pow]; rfl
  rw [← h3]
  omega
theorem rtSq {x : Int} (h0 : 0 ≤ x) (h1 : x ≤ 33554432) : 0 ≤ x * x ∧ x * x ≤ 1125899906842624 := by
  refine ⟨Int.mul_nonneg h0 h0, ?_⟩
  exact Int.le_trans (Int.mul_le_mul_of_nonneg_left h1 h0) (by omega)

set_option maxHeartbeats 4000000 in
set_option maxRecDepth 100000 in
/-- root(a) -/
theorem c_root (a : Int) (h1 : 0 ≤ a) (h2 : a ≤ 1000000000000) : HM l yX7_root wsX7_root ({ frames := 0, cells := 0, slots := 0, locals := 0 } : Room) D G (jT cI cJ cB cZ) [.long (lI a)] ([]) (fun v u k n => v = some (.long (lI (vRt (a * 1000)))) ∧ u = [] ∧ k = 0 ∧ n = 0) := by
  refine HM_of (cc := cX7_root) (maxL := 8) (ret := (some .long)) (lv := [(0, .long (lI a))]) (by decide) rfl rfl (Nat.le_of_ble_eq_true rfl) (fun p e s m0 args below meth c A0 ls hx hb hr hts hown hlocks hml hnm hK hA hAm hl => ?_)
  refine jJ_of (fun H locs => jn_lconst (v := 0) hx hb dX7_root_0 rfl) ?_
  refine jJ_ofL (fun H locs => lv_lstore_n (lv' := [(2, .long (lI 0)), (0, .long (lI a))]) hx hb dX7_root_1 rfl hl (by decide) rfl) (fun ls hl => ?_)
  refine jJ_of (fun H locs => lv_ldc2 (v := (lI 16777216)) hx hb hown (by rw [show (lI 16777216) = (16777216 : Int64) from by decide]; exact (hts (.constantLong RX7 42 (16777216)) (by decide +kernel))) dX7_root_2) ?_
  refine jJ_ofL (fun H locs => lv_lstore (lv' := [(4, .long (lI 16777216)), (2, .long (lI 0)), (0, .long (lI a))]) hx hb dX7_root_5 hl (by decide) rfl) (fun ls hl => ?_)
  suffices lp : ∀ (m : Nat) (r : Int), m ≤ 25 → 0 ≤ r → r + 2 ^ m ≤ 33554432 → rtF (a * 1000) m r = vRt (a * 1000) → ∀ ls, lv_has ls 8 [(4, .long (lI (rtP m))), (2, .long (lI r)), (0, .long (lI a))] → jJ p l e _ s m0 args below meth c D A0 [([] : va_W)] 0 0 (jEnd below D A0 _ args s _ _) (F0 m0 7 ls []) from lp 25 0 (by omega) (by omega) (by omega) rfl ls hl
  intro m
  induction m with
  | zero =>
    intro r h9 hr0 hr1 hrt ls hl
    have hl : lv_has ls 8 [(4, .long (lI 0)), (2, .long (lI r)), (0, .long (lI a))] := hl
    have hrt : r = vRt (a * 1000) := hrt
    refine jJ_of (fun H locs => lv_lload hx hb dX7_root_7 (lv_at hl 0 rfl)) ?_
    refine jJ_of (fun H locs => jn_lconst (v := 0) hx hb dX7_root_9 rfl) ?_
    refine jJ_of (fun H locs => W.lcmp hx hb dX7_root_10) ?_
    refine jJ_of2 (fun H locs => jl_if_le (tgt := 48) hx hb dX7_root_11 (by decide) (by omega) (by omega) (by omega) (by omega)) (fun c11 => ?_) (fun c11 => ?_)
    · refine jJ_of (fun H locs => lv_lload_n hx hb dX7_root_48 rfl (lv_at hl 1 rfl)) ?_
      exact jJ_lret hx hb hr hlocks dX7_root_49 (by show _ ≤ 0; omega) (by show _ ≤ 0; omega) ⟨by rw [hrt], rfl, rfl, rfl⟩
    · omega
  | succ m ih =>
    intro r h9 hr0 hr1 hrt ls hl
    have hl : lv_has ls 8 [(4, .long (lI (2 ^ m))), (2, .long (lI r)), (0, .long (lI a))] := hl
    have hpw := rtPow m (by omega)
    have hps : (2 : Int) ^ (m + 1) = 2 ^ m * 2 := Int.pow_succ _ _
    have hsq := rtSq (x := r + 2 ^ m) (by omega) (by omega)
    have hb2 : (2 ^ m : Int).tdiv 2 = rtP m := rtP_half m
    refine jJ_of (fun H locs => lv_lload hx hb dX7_root_7 (lv_at hl 0 rfl)) ?_
    refine jJ_of (fun H locs => jn_lconst (v := 0) hx hb dX7_root_9 rfl) ?_
    refine jJ_of (fun H locs => W.lcmp hx hb dX7_root_10) ?_
    refine jJ_of2 (fun H locs => jl_if_le (tgt := 48) hx hb dX7_root_11 (by decide) (by omega) (by omega) (by omega) (by omega)) (fun c11 => ?_) (fun c11 => ?_)
    · omega
    · refine jJ_of (fun H locs => lv_lload_n hx hb dX7_root_14 rfl (lv_at hl 1 rfl)) ?_
      refine jJ_of (fun H locs => lv_lload hx hb dX7_root_15 (lv_at hl 0 rfl)) ?_
      refine jJ_of (fun H locs => jl_ladd hx hb dX7_root_17) ?_
      refine jJ_ofL (fun H locs => lv_lstore (lv' := [(6, .long (lI (r + (2 ^ m)))), (4, .long (lI (2 ^ m))), (2, .long (lI r)), (0, .long (lI a))]) hx hb dX7_root_18 hl (by decide) rfl) (fun ls hl => ?_)
      refine jJ_of (fun H locs => lv_lload hx hb dX7_root_20 (lv_at hl 0 rfl)) ?_
      refine jJ_of (fun H locs => lv_lload hx hb dX7_root_22 (lv_at hl 0 rfl)) ?_
      refine jJ_of (fun H locs => jl_lmul hx hb dX7_root_24) ?_
      refine jJ_of (fun H locs => lv_lload_n hx hb dX7_root_25 rfl (lv_at hl 3 rfl)) ?_
      refine jJ_of (fun H locs => lv_ldc2 (v := (lI 1000)) hx hb hown (by rw [show (lI 1000) = (1000 : Int64) from by decide]; exact (hts (.constantLong RX7 19 (1000)) (by decide +kernel))) dX7_root_26) ?_
      refine jJ_of (fun H locs => jl_lmul hx hb dX7_root_29) ?_
      refine jJ_of (fun H locs => W.lcmp hx hb dX7_root_30) ?_
      refine jJ_of2 (fun H locs => jl_if_gt (tgt := 37) hx hb dX7_root_31 (by decide) (by omega) (by omega) (by omega) (by omega)) (fun c31 => ?_) (fun c31 => ?_)
      · refine jJ_of (fun H locs => lv_lload hx hb dX7_root_37 (lv_at hl 1 rfl)) ?_
        refine jJ_of (fun H locs => lv_ldc2 (v := (lI 2)) hx hb hown (by rw [show (lI 2) = (2 : Int64) from by decide]; exact (hts (.constantLong RX7 44 (2)) (by decide +kernel))) dX7_root_39) ?_
        refine jJ_of (fun H locs => jl_ldiv hx hb dX7_root_42 (by omega) (by omega) (by omega) (by omega) (by omega)) ?_
        refine jJ_ofL (fun H locs => lv_lstore (lv' := [(4, .long (lI (Int.tdiv (2 ^ m) 2))), (6, .long (lI (r + (2 ^ m)))), (2, .long (lI r)), (0, .long (lI a))]) hx hb dX7_root_43 hl (by decide) rfl) (fun ls hl => ?_)
        refine jJ_of (fun H locs => lv_goto (tgt := 7) hx hb dX7_root_45 (by decide)) ?_
        rw [hb2] at hl
        exact ih r (by omega) (by omega) (by omega) (by rw [← hrt]; show _ = if _ then _ else _; rw [if_neg (by omega)]) ls (lv_sub hl [0, 2, 3] rfl)
      · refine jJ_of (fun H locs => lv_lload hx hb dX7_root_34 (lv_at hl 0 rfl)) ?_
        refine jJ_ofL (fun H locs => lv_lstore_n (lv' := [(2, .long (lI (r + (2 ^ m)))), (6, .long (lI (r + (2 ^ m)))), (4, .long (lI (2 ^ m))), (0, .long (lI a))]) hx hb dX7_root_36 rfl hl (by decide) rfl) (fun ls hl => ?_)
        refine jJ_of (fun H locs => lv_lload hx hb dX7_root_37 (lv_at hl 2 rfl)) ?_
        refine jJ_of (fun H locs => lv_ldc2 (v := (lI 2)) hx hb hown (by rw [show (lI 2) = (2 : Int64) from by decide]; exact (hts (.constantLong RX7 44 (2)) (by decide +kernel))) dX7_root_39) ?_
        refine jJ_of (fun H locs => jl_ldiv hx hb dX7_root_42 (by omega) (by omega) (by omega) (by omega) (by omega)) ?_
        refine jJ_ofL (fun H locs => lv_lstore (lv' := [(4, .long (lI (Int.tdiv (2 ^ m) 2))), (2, .long (lI (r + (2 ^ m)))), (6, .long (lI (r + (2 ^ m)))), (0, .long (lI a))]) hx hb dX7_root_43 hl (by decide) rfl) (fun ls hl => ?_)
        refine jJ_of (fun H locs => lv_goto (tgt := 7) hx hb dX7_root_45 (by decide)) ?_
        rw [hb2] at hl
        exact ih (r + 2 ^ m) (by omega) (by omega) (by omega) (by rw [← hrt]; show _ = if _ then _ else _; rw [if_pos (by omega)]) ls (lv_sub hl [0, 1, 3] rfl)
theorem vAbs_nn (a : Int) : 0 ≤ vAbs a ∧ (vAbs a = 0 ↔ a = 0) ∧ vAbs a = a.natAbs := by unfold vAbs; split <;> omega
theorem vMulB {a b : Int} (h : ¬ (¬ vAbs a = 0 ∧ (1000000000000999 : Int).tdiv (vAbs a) < vAbs b)) (h1 : -1000000000000 ≤ a) (h2 : a ≤ 1000000000000) (h3 : -1000000000000 ≤ b) (h4 : b ≤ 1000000000000) : -1000000000000999 ≤ a * b ∧ a * b ≤ 1000000000000999 := by
  have ha := vAbs_nn a
  have hb := vAbs_nn b
  by_cases h0 : vAbs a = 0
  · have : a = 0 := ha.2.1.mp h0
    subst this
    simp
  · have h5 : vAbs b ≤ (1000000000000999 : Int).tdiv (vAbs a) := by
      apply Int.not_lt.mp
      intro q
      exact h ⟨h0, q⟩
    have h6 : (1000000000000999 : Int).tdiv (vAbs a) * vAbs a ≤ 1000000000000999 := by
      rw [Int.tdiv_eq_ediv_of_nonneg (by decide)]
      exact Int.ediv_mul_le _ h0
    have h7 : vAbs b * vAbs a ≤ 1000000000000999 := Int.le_trans (Int.mul_le_mul_of_nonneg_right h5 ha.1) h6
    have h8 : (a * b).natAbs = b.natAbs * a.natAbs := by rw [Int.natAbs_mul, Nat.mul_comm]
    have h9 : ((b.natAbs * a.natAbs : Nat) : Int) = vAbs b * vAbs a := by rw [ha.2.2, hb.2.2, Int.natCast_mul]
    omega

set_option maxHeartbeats 4000000 in
set_option maxRecDepth 100000 in
/-- product(a, b) -/
theorem c_product (a b : Int) (h1 : -1000000000000 ≤ a) (h2 : a ≤ 1000000000000) (h3 : -1000000000000 ≤ b) (h4 : b ≤ 1000000000000) : HM l yX7_product wsX7_product ({ frames := 1, cells := 0, slots := 0, locals := 40 } : Room) D G (jT cI cJ cB cZ) [.long (lI a), .long (lI b)] ([]) (fun v u k n => v = some (.long (lI (vMul a b))) ∧ u = [] ∧ k = 0 ∧ n = 0) := by
  have hab := vAbs_nn a
  have hbb := vAbs_nn b
  have hqa : ((1000000000000999 : Int).tdiv (vAbs a)).natAbs ≤ 1000000000000999 := by rw [Int.natAbs_tdiv]; exact Nat.div_le_self _ _
  refine HM_of (cc := cX7_product) (maxL := 6) (ret := (some .long)) (lv := [(0, .long (lI a)), (2, .long (lI b))]) (by decide) rfl rfl (Nat.le_of_ble_eq_true rfl) (fun p e s m args below meth c A0 ls hx hb hr hts hown hlocks hml hnm hK hA hAm hl => ?_)
  refine jJ_of (fun H locs => lv_lload_n hx hb dX7_product_0 rfl (lv_at hl 0 rfl)) ?_
  refine jJ_of (g2 := F0 m 4 ls [.long (lI (vAbs a))]) (fun H locs kk => va_mabs_long hx hb (by rw [hml]; exact hl.1.symm) hown (hts (.methodLink RX7 13 Lib.MathLoose.abs_long.x) (by decide +kernel)) (hts (.static Lib.MathLoose.abs_long.x) (by decide +kernel)) (hts (.initialized "java/lang/Math") (by decide +kernel)) (hts (.code Lib.MathLoose.abs_long.x Lib.MathLoose.abs_long.code 2 (some .long)) (by decide +kernel)) (Nat.le_of_ble_eq_true rfl) (Nat.le_of_ble_eq_true rfl) (by show _ ≤ 0; omega) (by show _ ≤ 0; omega) dX7_product_1 (by rw [lI_abs (by omega) (by omega)]; exact kk)) ?_
  refine jJ_ofL (fun H locs => lv_lstore (lv' := [(4, .long (lI (vAbs a))), (0, .long (lI a)), (2, .long (lI b))]) hx hb dX7_product_4 hl (by decide) rfl) (fun ls hl => ?_)
  refine jJ_of (fun H locs => lv_lload hx hb dX7_product_6 (lv_at hl 0 rfl)) ?_
  refine jJ_of (fun H locs => jn_lconst (v := 0) hx hb dX7_product_8 rfl) ?_
  refine jJ_of (fun H locs => W.lcmp hx hb dX7_product_9) ?_
  refine jJ_of2 (fun H locs => jl_if_eq (tgt := 31) hx hb dX7_product_10 (by decide) (by omega) (by omega) (by omega) (by omega)) (fun c10 => ?_) (fun c10 => ?_)
  · have hcm : ¬ (¬ vAbs a = 0 ∧ (1000000000000999 : Int).tdiv (vAbs a) < vAbs b) := by first | (intro q; exact q.1 c10) | (intro q; omega)
    have hmb := vMulB hcm (by omega) (by omega) (by omega) (by omega)
    refine jJ_of (fun H locs => lv_lload_n hx hb dX7_product_31 rfl (lv_at hl 1 rfl)) ?_
    refine jJ_of (fun H locs => lv_lload_n hx hb dX7_product_32 rfl (lv_at hl 2 rfl)) ?_
    refine jJ_of (fun H locs => jl_lmul hx hb dX7_product_33) ?_
    refine jJ_of (fun H locs => lv_ldc2 (v := (lI 1000)) hx hb hown (by rw [show (lI 1000) = (1000 : Int64) from by decide]; exact (hts (.constantLong RX7 19 (1000)) (by decide +kernel))) dX7_product_34) ?_
    refine jJ_of (fun H locs => jl_ldiv hx hb dX7_product_37 (by omega) (by omega) (by omega) (by omega) (by omega)) ?_
    exact jJ_lret hx hb hr hlocks dX7_product_38 (by show _ ≤ 0; omega) (by show _ ≤ 0; omega) ⟨by rw [show vMul a b = (a * b).tdiv 1000 from if_neg hcm], rfl, rfl, rfl⟩
  · refine jJ_of (fun H locs => lv_lload_n hx hb dX7_product_13 rfl (lv_at hl 2 rfl)) ?_
    refine jJ_of (g2 := F0 m 17 ls [.long (lI (vAbs b))]) (fun H locs kk => va_mabs_long hx hb (by rw [hml]; exact hl.1.symm) hown (hts (.methodLink RX7 13 Lib.MathLoose.abs_long.x) (by decide +kernel)) (hts (.static Lib.MathLoose.abs_long.x) (by decide +kernel)) (hts (.initialized "java/lang/Math") (by decide +kernel)) (hts (.code Lib.MathLoose.abs_long.x Lib.MathLoose.abs_long.code 2 (some .long)) (by decide +kernel)) (Nat.le_of_ble_eq_true rfl) (Nat.le_of_ble_eq_true rfl) (by show _ ≤ 0; omega) (by show _ ≤ 0; omega) dX7_product_14 (by rw [lI_abs (by omega) (by omega)]; exact kk)) ?_
    refine jJ_of (fun H locs => lv_ldc2 (v := (lI 1000000000000999)) hx hb hown (by rw [show (lI 1000000000000999) = (1000000000000999 : Int64) from by decide]; exact (hts (.constantLong RX7 38 (1000000000000999)) (by decide +kernel))) dX7_product_17) ?_
    refine jJ_of (fun H locs => lv_lload hx hb dX7_product_20 (lv_at hl 0 rfl)) ?_
    refine jJ_of (fun H locs => jl_ldiv hx hb dX7_product_22 (by omega) (by omega) (by omega) (by omega) (by omega)) ?_
    refine jJ_of (fun H locs => W.lcmp hx hb dX7_product_23) ?_
    refine jJ_of2 (fun H locs => jl_if_le (tgt := 31) hx hb dX7_product_24 (by decide) (by omega) (by omega) (by omega) (by omega)) (fun c24 => ?_) (fun c24 => ?_)
    · have hcm : ¬ (¬ vAbs a = 0 ∧ (1000000000000999 : Int).tdiv (vAbs a) < vAbs b) := by first | (intro q; exact q.1 c10) | (intro q; omega)
      have hmb := vMulB hcm (by omega) (by omega) (by omega) (by omega)
      refine jJ_of (fun H locs => lv_lload_n hx hb dX7_product_31 rfl (lv_at hl 1 rfl)) ?_
      refine jJ_of (fun H locs => lv_lload_n hx hb dX7_product_32 rfl (lv_at hl 2 rfl)) ?_
      refine jJ_of (fun H locs => jl_lmul hx hb dX7_product_33) ?_
      refine jJ_of (fun H locs => lv_ldc2 (v := (lI 1000)) hx hb hown (by rw [show (lI 1000) = (1000 : Int64) from by decide]; exact (hts (.constantLong RX7 19 (1000)) (by decide +kernel))) dX7_product_34) ?_
      refine jJ_of (fun H locs => jl_ldiv hx hb dX7_product_37 (by omega) (by omega) (by omega) (by omega) (by omega)) ?_
      exact jJ_lret hx hb hr hlocks dX7_product_38 (by show _ ≤ 0; omega) (by show _ ≤ 0; omega) ⟨by rw [show vMul a b = (a * b).tdiv 1000 from if_neg hcm], rfl, rfl, rfl⟩
    · refine jJ_of (fun H locs => lv_ldc2 (v := (lI 1000000000001)) hx hb hown (by rw [show (lI 1000000000001) = (1000000000001 : Int64) from by decide]; exact (hts (.constantLong RX7 40 (1000000000001)) (by decide +kernel))) dX7_product_27) ?_
      exact jJ_lret hx hb hr hlocks dX7_product_30 (by show _ ≤ 0; omega) (by show _ ≤ 0; omega) ⟨by rw [show vMul a b = 1000000000001 from if_pos ⟨c10, by omega⟩], rfl, rfl, rfl⟩
set_option maxHeartbeats 4000000 in
set_option maxRecDepth 100000 in
/-- ofOne(op, a) -/
theorem c_ofOne (op : Nat) (a : Int) (hop : op < 2147483648) (h1 : -1000000000000 ≤ a) (h2 : a ≤ 1000000000000) (h3 : op = 308 → 0 ≤ a) : HM l yX7_ofOne wsX7_ofOne ({ frames := 1, cells := 0, slots := 0, locals := 60 } : Room) D G (jT cI cJ cB cZ) [.int (nI op), .long (lI a)] ([]) (fun v u k n => v = some (.long (lI (vOne op a))) ∧ u = [] ∧ k = 0 ∧ n = 0) := by
  refine HM_of (cc := cX7_ofOne) (maxL := 3) (ret := (some .long)) (lv := [(0, .int (nI op)), (1, .long (lI a))]) (by decide) rfl rfl (Nat.le_of_ble_eq_true rfl) (fun p e s m args below meth c A0 ls hx hb hr hts hown hlocks hml hnm hK hA hAm hl => ?_)
  refine jJ_of (fun H locs => lv_iload_n hx hb dX7_ofOne_0 rfl (lv_at hl 0 rfl)) ?_
  by_cases e1_305 : op = 305
  · refine jJ_of (fun H locs => lv_tableIn hx hb dX7_ofOne_1 (off := 31) (tgt := 32) (by rw [e1_305]; decide) (by rw [e1_305]; decide) (by rw [e1_305]; decide) (by decide)) ?_
    refine jJ_of (fun H locs => lv_lload_n hx hb dX7_ofOne_32 rfl (lv_at hl 1 rfl)) ?_
    refine jJ_of (g2 := F0 m 36 ls [.long (lI (vAbs a))]) (fun H locs kk => va_mabs_long hx hb (by rw [hml]; exact hl.1.symm) hown (hts (.methodLink RX7 13 Lib.MathLoose.abs_long.x) (by decide +kernel)) (hts (.static Lib.MathLoose.abs_long.x) (by decide +kernel)) (hts (.initialized "java/lang/Math") (by decide +kernel)) (hts (.code Lib.MathLoose.abs_long.x Lib.MathLoose.abs_long.code 2 (some .long)) (by decide +kernel)) (Nat.le_of_ble_eq_true rfl) (Nat.le_of_ble_eq_true rfl) (by show _ ≤ 0; omega) (by show _ ≤ 0; omega) dX7_ofOne_33 (by rw [lI_abs (by omega) (by omega)]; exact kk)) ?_
    exact jJ_lret hx hb hr hlocks dX7_ofOne_36 (by show _ ≤ 0; omega) (by show _ ≤ 0; omega) ⟨by unfold vOne; rw [if_pos e1_305], rfl, rfl, rfl⟩
  by_cases e1_306 : op = 306
  · refine jJ_of (fun H locs => lv_tableIn hx hb dX7_ofOne_1 (off := 36) (tgt := 37) (by rw [e1_306]; decide) (by rw [e1_306]; decide) (by rw [e1_306]; decide) (by decide)) ?_
    refine jJ_of (fun H locs => lv_lload_n hx hb dX7_ofOne_37 rfl (lv_at hl 1 rfl)) ?_
    refine jJ_of (fun H locs => lv_ldc2 (v := (lI 1000)) hx hb hown (by rw [show (lI 1000) = (1000 : Int64) from by decide]; exact (hts (.constantLong RX7 19 (1000)) (by decide +kernel))) dX7_ofOne_38) ?_
    refine jJ_callS (As := [.long (lI a), .long (lI 1000)]) (rest := []) (wc := _) (cs2 := [[]]) [] [0] ⟨hx, hb, hml, hown, hts⟩ hK hA hAm (c_floorDiv a 1000 (by omega) (by omega) (by omega) (by omega) (by omega)) (va_cwS 2 hts gX7_ofOne_J9_floorDiv_f86c9 rfl rfl rfl (by decide +kernel) ⟨Nat.le_of_ble_eq_true rfl, Nat.le_of_ble_eq_true rfl⟩) (nn := 1) rfl (by decide) rfl rfl rfl rfl hl.1 (Nat.le_of_ble_eq_true rfl) dX7_ofOne_41 (by show _ + 0 ≤ 0; omega) (by show _ + 0 ≤ 0; omega) (fun v u1 k1 n1 hq1 => ?_)
    obtain ⟨rfl, rfl, rfl, rfl⟩ := hq1
    refine jJ_eq (g2 := F0 m 44 ls [.long (lI (Int.fdiv a 1000))]) (cs2 := [([] : va_W), []]) rfl rfl ?_
    refine jJ_flat (cs2 := [[]]) rfl ?_
    refine jJ_of (fun H locs => lv_ldc2 (v := (lI 1000)) hx hb hown (by rw [show (lI 1000) = (1000 : Int64) from by decide]; exact (hts (.constantLong RX7 19 (1000)) (by decide +kernel))) dX7_ofOne_44) ?_
    refine jJ_of (fun H locs => jl_lmul hx hb dX7_ofOne_47) ?_
    exact jJ_lret hx hb hr hlocks dX7_ofOne_48 (by show _ ≤ 0; omega) (by show _ ≤ 0; omega) ⟨by unfold vOne; rw [if_neg e1_305, if_pos e1_306], rfl, rfl, rfl⟩
  by_cases e1_307 : op = 307
  · refine jJ_of (fun H locs => lv_tableIn hx hb dX7_ofOne_1 (off := 48) (tgt := 49) (by rw [e1_307]; decide) (by rw [e1_307]; decide) (by rw [e1_307]; decide) (by decide)) ?_
    refine jJ_of (fun H locs => lv_lload_n hx hb dX7_ofOne_49 rfl (lv_at hl 1 rfl)) ?_
    refine jJ_of (fun H locs => jl_lneg hx hb dX7_ofOne_50) ?_
    refine jJ_of (fun H locs => lv_ldc2 (v := (lI 1000)) hx hb hown (by rw [show (lI 1000) = (1000 : Int64) from by decide]; exact (hts (.constantLong RX7 19 (1000)) (by decide +kernel))) dX7_ofOne_51) ?_
    refine jJ_callS (As := [.long (lI (-a)), .long (lI 1000)]) (rest := []) (wc := _) (cs2 := [[]]) [] [0] ⟨hx, hb, hml, hown, hts⟩ hK hA hAm (c_floorDiv (-a) 1000 (by omega) (by omega) (by omega) (by omega) (by omega)) (va_cwS 2 hts gX7_ofOne_J9_floorDiv_f86c9 rfl rfl rfl (by decide +kernel) ⟨Nat.le_of_ble_eq_true rfl, Nat.le_of_ble_eq_true rfl⟩) (nn := 1) rfl (by decide) rfl rfl rfl rfl hl.1 (Nat.le_of_ble_eq_true rfl) dX7_ofOne_54 (by show _ + 0 ≤ 0; omega) (by show _ + 0 ≤ 0; omega) (fun v u2 k2 n2 hq2 => ?_)
    obtain ⟨rfl, rfl, rfl, rfl⟩ := hq2
    refine jJ_eq (g2 := F0 m 57 ls [.long (lI (Int.fdiv (-a) 1000))]) (cs2 := [([] : va_W), []]) rfl rfl ?_
    refine jJ_flat (cs2 := [[]]) rfl ?_
    refine jJ_of (fun H locs => lv_ldc2 (v := (lI 1000)) hx hb hown (by rw [show (lI 1000) = (1000 : Int64) from by decide]; exact (hts (.constantLong RX7 19 (1000)) (by decide +kernel))) dX7_ofOne_57) ?_
    refine jJ_of (fun H locs => jl_lmul hx hb dX7_ofOne_60) ?_
    refine jJ_of (fun H locs => jl_lneg hx hb dX7_ofOne_61) ?_
    exact jJ_lret hx hb hr hlocks dX7_ofOne_62 (by show _ ≤ 0; omega) (by show _ ≤ 0; omega) ⟨by unfold vOne; rw [if_neg e1_305, if_neg e1_306, if_pos e1_307], rfl, rfl, rfl⟩
  by_cases e1_308 : op = 308
  · refine jJ_of (fun H locs => lv_tableIn hx hb dX7_ofOne_1 (off := 62) (tgt := 63) (by rw [e1_308]; decide) (by rw [e1_308]; decide) (by rw [e1_308]; decide) (by decide)) ?_
    have ha0 := h3 e1_308
    refine jJ_of (fun H locs => lv_lload_n hx hb dX7_ofOne_63 rfl (lv_at hl 1 rfl)) ?_
    refine jJ_callS (As := [.long (lI a)]) (rest := []) (wc := _) (cs2 := [[]]) [] [0] ⟨hx, hb, hml, hown, hts⟩ hK hA hAm (c_root a (by omega) (by omega)) (va_cwS 1 hts gX7_ofOne_X7_root rfl rfl rfl (by decide +kernel) ⟨Nat.le_of_ble_eq_true rfl, Nat.le_of_ble_eq_true rfl⟩) (nn := 1) rfl (by decide) rfl rfl rfl rfl hl.1 (Nat.le_of_ble_eq_true rfl) dX7_ofOne_64 (by show _ + 0 ≤ 0; omega) (by show _ + 0 ≤ 0; omega) (fun v u3 k3 n3 hq3 => ?_)
    obtain ⟨rfl, rfl, rfl, rfl⟩ := hq3
    refine jJ_eq (g2 := F0 m 67 ls [.long (lI (vRt (a * 1000)))]) (cs2 := [([] : va_W), []]) rfl rfl ?_
    refine jJ_flat (cs2 := [[]]) rfl ?_
    exact jJ_lret hx hb hr hlocks dX7_ofOne_67 (by show _ ≤ 0; omega) (by show _ ≤ 0; omega) ⟨by unfold vOne; rw [if_neg e1_305, if_neg e1_306, if_neg e1_307, if_pos e1_308], rfl, rfl, rfl⟩
  refine jJ_of (fun H locs => lv_tableOut hx hb dX7_ofOne_1 (tgt := 68) (by rw [nI_toInt (by omega)]; omega) (by decide)) ?_
  refine jJ_of (fun H locs => lv_lload_n hx hb dX7_ofOne_68 rfl (lv_at hl 1 rfl)) ?_
  refine jJ_of (fun H locs => jl_lneg hx hb dX7_ofOne_69) ?_
  exact jJ_lret hx hb hr hlocks dX7_ofOne_70 (by show _ ≤ 0; omega) (by show _ ≤ 0; omega) ⟨by unfold vOne; rw [if_neg e1_305, if_neg e1_306, if_neg e1_307, if_neg e1_308], rfl, rfl, rfl⟩
set_option maxHeartbeats 4000000 in
set_option maxRecDepth 100000 in
/-- holds(op, a, b) -/
theorem c_holds (op : Nat) (a b : Int) (hop : op < 2147483648) (h1 : -1000000000000 ≤ a) (h2 : a ≤ 1000000000000) (h3 : -1000000000000 ≤ b) (h4 : b ≤ 1000000000000) : HM l yX7_holds wsX7_holds ({ frames := 0, cells := 0, slots := 0, locals := 0 } : Room) D G (jT cI cJ cB cZ) [.int (nI op), .long (lI a), .long (lI b)] ([]) (fun v u k n => v = some (.int (bI (vHold op a b))) ∧ u = [] ∧ k = 0 ∧ n = 0) := by
  refine HM_of (cc := cX7_holds) (maxL := 5) (ret := (some .boolean)) (lv := [(0, .int (nI op)), (1, .long (lI a)), (3, .long (lI b))]) (by decide) rfl rfl (Nat.le_of_ble_eq_true rfl) (fun p e s m args below meth c A0 ls hx hb hr hts hown hlocks hml hnm hK hA hAm hl => ?_)
  refine jJ_of (fun H locs => lv_iload_n hx hb dX7_holds_0 rfl (lv_at hl 0 rfl)) ?_
  by_cases e1_310 : op = 310
  · refine jJ_of (fun H locs => lv_tableIn hx hb dX7_holds_1 (off := 47) (tgt := 48) (by rw [e1_310]; decide) (by rw [e1_310]; decide) (by rw [e1_310]; decide) (by decide)) ?_
    refine jJ_of (fun H locs => lv_lload_n hx hb dX7_holds_48 rfl (lv_at hl 1 rfl)) ?_
    refine jJ_of (fun H locs => jn_lconst (v := 0) hx hb dX7_holds_49 rfl) ?_
    refine jJ_of (fun H locs => W.lcmp hx hb dX7_holds_50) ?_
    refine jJ_of2 (fun H locs => jl_if_eq (tgt := 64) hx hb dX7_holds_51 (by decide) (by omega) (by omega) (by omega) (by omega)) (fun c51 => ?_) (fun c51 => ?_)
    · refine jJ_of (fun H locs => lv_iconst (v := (nI 0)) hx hb dX7_holds_64 (by decide)) ?_
      exact jJ_zret hx hb hr hlocks dX7_holds_65 (by show _ ≤ 0; omega) (by show _ ≤ 0; omega) (Or.inl rfl) ⟨by rw [show vHold op a b = false from by unfold vHold; rw [if_pos e1_310]; rw [decide_eq_false_iff_not]; omega]; rfl, rfl, rfl, rfl⟩
    · refine jJ_of (fun H locs => lv_lload_n hx hb dX7_holds_54 rfl (lv_at hl 2 rfl)) ?_
      refine jJ_of (fun H locs => jn_lconst (v := 0) hx hb dX7_holds_55 rfl) ?_
      refine jJ_of (fun H locs => W.lcmp hx hb dX7_holds_56) ?_
      refine jJ_of2 (fun H locs => jl_if_eq (tgt := 64) hx hb dX7_holds_57 (by decide) (by omega) (by omega) (by omega) (by omega)) (fun c57 => ?_) (fun c57 => ?_)
      · refine jJ_of (fun H locs => lv_iconst (v := (nI 0)) hx hb dX7_holds_64 (by decide)) ?_
        exact jJ_zret hx hb hr hlocks dX7_holds_65 (by show _ ≤ 0; omega) (by show _ ≤ 0; omega) (Or.inl rfl) ⟨by rw [show vHold op a b = false from by unfold vHold; rw [if_pos e1_310]; rw [decide_eq_false_iff_not]; omega]; rfl, rfl, rfl, rfl⟩
      · refine jJ_of (fun H locs => lv_iconst (v := (nI 1)) hx hb dX7_holds_60 (by decide)) ?_
        refine jJ_of (fun H locs => lv_goto (tgt := 65) hx hb dX7_holds_61 (by decide)) ?_
        exact jJ_zret hx hb hr hlocks dX7_holds_65 (by show _ ≤ 0; omega) (by show _ ≤ 0; omega) (Or.inr rfl) ⟨by rw [show vHold op a b = true from by unfold vHold; rw [if_pos e1_310]; rw [decide_eq_true_eq]; omega]; rfl, rfl, rfl, rfl⟩
  by_cases e1_311 : op = 311
  · refine jJ_of (fun H locs => lv_tableIn hx hb dX7_holds_1 (off := 65) (tgt := 66) (by rw [e1_311]; decide) (by rw [e1_311]; decide) (by rw [e1_311]; decide) (by decide)) ?_
    refine jJ_of (fun H locs => lv_lload_n hx hb dX7_holds_66 rfl (lv_at hl 1 rfl)) ?_
    refine jJ_of (fun H locs => jn_lconst (v := 0) hx hb dX7_holds_67 rfl) ?_
    refine jJ_of (fun H locs => W.lcmp hx hb dX7_holds_68) ?_
    refine jJ_of2 (fun H locs => jl_if_ne (tgt := 78) hx hb dX7_holds_69 (by decide) (by omega) (by omega) (by omega) (by omega)) (fun c69 => ?_) (fun c69 => ?_)
    · refine jJ_of (fun H locs => lv_iconst (v := (nI 1)) hx hb dX7_holds_78 (by decide)) ?_
      refine jJ_of (fun H locs => lv_goto (tgt := 83) hx hb dX7_holds_79 (by decide)) ?_
      exact jJ_zret hx hb hr hlocks dX7_holds_83 (by show _ ≤ 0; omega) (by show _ ≤ 0; omega) (Or.inr rfl) ⟨by rw [show vHold op a b = true from by unfold vHold; rw [if_neg e1_310, if_pos e1_311]; rw [decide_eq_true_eq]; omega]; rfl, rfl, rfl, rfl⟩
    · refine jJ_of (fun H locs => lv_lload_n hx hb dX7_holds_72 rfl (lv_at hl 2 rfl)) ?_
      refine jJ_of (fun H locs => jn_lconst (v := 0) hx hb dX7_holds_73 rfl) ?_
      refine jJ_of (fun H locs => W.lcmp hx hb dX7_holds_74) ?_
      refine jJ_of2 (fun H locs => jl_if_eq (tgt := 82) hx hb dX7_holds_75 (by decide) (by omega) (by omega) (by omega) (by omega)) (fun c75 => ?_) (fun c75 => ?_)
      · refine jJ_of (fun H locs => lv_iconst (v := (nI 0)) hx hb dX7_holds_82 (by decide)) ?_
        exact jJ_zret hx hb hr hlocks dX7_holds_83 (by show _ ≤ 0; omega) (by show _ ≤ 0; omega) (Or.inl rfl) ⟨by rw [show vHold op a b = false from by unfold vHold; rw [if_neg e1_310, if_pos e1_311]; rw [decide_eq_false_iff_not]; omega]; rfl, rfl, rfl, rfl⟩
      · refine jJ_of (fun H locs => lv_iconst (v := (nI 1)) hx hb dX7_holds_78 (by decide)) ?_
        refine jJ_of (fun H locs => lv_goto (tgt := 83) hx hb dX7_holds_79 (by decide)) ?_
        exact jJ_zret hx hb hr hlocks dX7_holds_83 (by show _ ≤ 0; omega) (by show _ ≤ 0; omega) (Or.inr rfl) ⟨by rw [show vHold op a b = true from by unfold vHold; rw [if_neg e1_310, if_pos e1_311]; rw [decide_eq_true_eq]; omega]; rfl, rfl, rfl, rfl⟩
  by_cases e1_312 : op = 312
  · refine jJ_of (fun H locs => lv_tableIn hx hb dX7_holds_1 (off := 83) (tgt := 84) (by rw [e1_312]; decide) (by rw [e1_312]; decide) (by rw [e1_312]; decide) (by decide)) ?_
    refine jJ_of (fun H locs => lv_lload_n hx hb dX7_holds_84 rfl (lv_at hl 1 rfl)) ?_
    refine jJ_of (fun H locs => jn_lconst (v := 0) hx hb dX7_holds_85 rfl) ?_
    refine jJ_of (fun H locs => W.lcmp hx hb dX7_holds_86) ?_
    refine jJ_of2 (fun H locs => jl_if_eq (tgt := 94) hx hb dX7_holds_87 (by decide) (by omega) (by omega) (by omega) (by omega)) (fun c87 => ?_) (fun c87 => ?_)
    · refine jJ_of (fun H locs => lv_iconst (v := (nI 0)) hx hb dX7_holds_94 (by decide)) ?_
      refine jJ_of (fun H locs => lv_lload_n hx hb dX7_holds_95 rfl (lv_at hl 2 rfl)) ?_
      refine jJ_of (fun H locs => jn_lconst (v := 0) hx hb dX7_holds_96 rfl) ?_
      refine jJ_of (fun H locs => W.lcmp hx hb dX7_holds_97) ?_
      refine jJ_of2 (fun H locs => jl_if_eq (tgt := 105) hx hb dX7_holds_98 (by decide) (by omega) (by omega) (by omega) (by omega)) (fun c98 => ?_) (fun c98 => ?_)
      · refine jJ_of (fun H locs => lv_iconst (v := (nI 0)) hx hb dX7_holds_105 (by decide)) ?_
        refine jJ_of2 (fun H locs => jn_icmp_eq (tgt := 113) hx hb dX7_holds_106 (by decide) (by omega) (by omega)) (fun c106 => ?_) (fun c106 => ?_)
        · refine jJ_of (fun H locs => lv_iconst (v := (nI 0)) hx hb dX7_holds_113 (by decide)) ?_
          exact jJ_zret hx hb hr hlocks dX7_holds_114 (by show _ ≤ 0; omega) (by show _ ≤ 0; omega) (Or.inl rfl) ⟨by rw [show vHold op a b = false from by unfold vHold; rw [if_neg e1_310, if_neg e1_311, if_pos e1_312]; rw [decide_eq_false_iff_not]; omega]; rfl, rfl, rfl, rfl⟩
        · refine jJ_of (fun H locs => lv_iconst (v := (nI 1)) hx hb dX7_holds_109 (by decide)) ?_
          refine jJ_of (fun H locs => lv_goto (tgt := 114) hx hb dX7_holds_110 (by decide)) ?_
          exact jJ_zret hx hb hr hlocks dX7_holds_114 (by show _ ≤ 0; omega) (by show _ ≤ 0; omega) (Or.inr rfl) ⟨by rw [show vHold op a b = true from by unfold vHold; rw [if_neg e1_310, if_neg e1_311, if_pos e1_312]; rw [decide_eq_true_eq]; omega]; rfl, rfl, rfl, rfl⟩
      · refine jJ_of (fun H locs => lv_iconst (v := (nI 1)) hx hb dX7_holds_101 (by decide)) ?_
        refine jJ_of (fun H locs => lv_goto (tgt := 106) hx hb dX7_holds_102 (by decide)) ?_
        refine jJ_of2 (fun H locs => jn_icmp_eq (tgt := 113) hx hb dX7_holds_106 (by decide) (by omega) (by omega)) (fun c106 => ?_) (fun c106 => ?_)
        · refine jJ_of (fun H locs => lv_iconst (v := (nI 0)) hx hb dX7_holds_113 (by decide)) ?_
          exact jJ_zret hx hb hr hlocks dX7_holds_114 (by show _ ≤ 0; omega) (by show _ ≤ 0; omega) (Or.inl rfl) ⟨by rw [show vHold op a b = false from by unfold vHold; rw [if_neg e1_310, if_neg e1_311, if_pos e1_312]; rw [decide_eq_false_iff_not]; omega]; rfl, rfl, rfl, rfl⟩
        · refine jJ_of (fun H locs => lv_iconst (v := (nI 1)) hx hb dX7_holds_109 (by decide)) ?_
          refine jJ_of (fun H locs => lv_goto (tgt := 114) hx hb dX7_holds_110 (by decide)) ?_
          exact jJ_zret hx hb hr hlocks dX7_holds_114 (by show _ ≤ 0; omega) (by show _ ≤ 0; omega) (Or.inr rfl) ⟨by rw [show vHold op a b = true from by unfold vHold; rw [if_neg e1_310, if_neg e1_311, if_pos e1_312]; rw [decide_eq_true_eq]; omega]; rfl, rfl, rfl, rfl⟩
    · refine jJ_of (fun H locs => lv_iconst (v := (nI 1)) hx hb dX7_holds_90 (by decide)) ?_
      refine jJ_of (fun H locs => lv_goto (tgt := 95) hx hb dX7_holds_91 (by decide)) ?_
      refine jJ_of (fun H locs => lv_lload_n hx hb dX7_holds_95 rfl (lv_at hl 2 rfl)) ?_
      refine jJ_of (fun H locs => jn_lconst (v := 0) hx hb dX7_holds_96 rfl) ?_
      refine jJ_of (fun H locs => W.lcmp hx hb dX7_holds_97) ?_
      refine jJ_of2 (fun H locs => jl_if_eq (tgt := 105) hx hb dX7_holds_98 (by decide) (by omega) (by omega) (by omega) (by omega)) (fun c98 => ?_) (fun c98 => ?_)
      · refine jJ_of (fun H locs => lv_iconst (v := (nI 0)) hx hb dX7_holds_105 (by decide)) ?_
        refine jJ_of2 (fun H locs => jn_icmp_eq (tgt := 113) hx hb dX7_holds_106 (by decide) (by omega) (by omega)) (fun c106 => ?_) (fun c106 => ?_)
        · refine jJ_of (fun H locs => lv_iconst (v := (nI 0)) hx hb dX7_holds_113 (by decide)) ?_
          exact jJ_zret hx hb hr hlocks dX7_holds_114 (by show _ ≤ 0; omega) (by show _ ≤ 0; omega) (Or.inl rfl) ⟨by rw [show vHold op a b = false from by unfold vHold; rw [if_neg e1_310, if_neg e1_311, if_pos e1_312]; rw [decide_eq_false_iff_not]; omega]; rfl, rfl, rfl, rfl⟩
        · refine jJ_of (fun H locs => lv_iconst (v := (nI 1)) hx hb dX7_holds_109 (by decide)) ?_
          refine jJ_of (fun H locs => lv_goto (tgt := 114) hx hb dX7_holds_110 (by decide)) ?_
          exact jJ_zret hx hb hr hlocks dX7_holds_114 (by show _ ≤ 0; omega) (by show _ ≤ 0; omega) (Or.inr rfl) ⟨by rw [show vHold op a b = true from by unfold vHold; rw [if_neg e1_310, if_neg e1_311, if_pos e1_312]; rw [decide_eq_true_eq]; omega]; rfl, rfl, rfl, rfl⟩
      · refine jJ_of (fun H locs => lv_iconst (v := (nI 1)) hx hb dX7_holds_101 (by decide)) ?_
        refine jJ_of (fun H locs => lv_goto (tgt := 106) hx hb dX7_holds_102 (by decide)) ?_
        refine jJ_of2 (fun H locs => jn_icmp_eq (tgt := 113) hx hb dX7_holds_106 (by decide) (by omega) (by omega)) (fun c106 => ?_) (fun c106 => ?_)
        · refine jJ_of (fun H locs => lv_iconst (v := (nI 0)) hx hb dX7_holds_113 (by decide)) ?_
          exact jJ_zret hx hb hr hlocks dX7_holds_114 (by show _ ≤ 0; omega) (by show _ ≤ 0; omega) (Or.inl rfl) ⟨by rw [show vHold op a b = false from by unfold vHold; rw [if_neg e1_310, if_neg e1_311, if_pos e1_312]; rw [decide_eq_false_iff_not]; omega]; rfl, rfl, rfl, rfl⟩
        · refine jJ_of (fun H locs => lv_iconst (v := (nI 1)) hx hb dX7_holds_109 (by decide)) ?_
          refine jJ_of (fun H locs => lv_goto (tgt := 114) hx hb dX7_holds_110 (by decide)) ?_
          exact jJ_zret hx hb hr hlocks dX7_holds_114 (by show _ ≤ 0; omega) (by show _ ≤ 0; omega) (Or.inr rfl) ⟨by rw [show vHold op a b = true from by unfold vHold; rw [if_neg e1_310, if_neg e1_311, if_pos e1_312]; rw [decide_eq_true_eq]; omega]; rfl, rfl, rfl, rfl⟩
  by_cases e1_313 : op = 313
  · refine jJ_of (fun H locs => lv_tableIn hx hb dX7_holds_1 (off := 114) (tgt := 115) (by rw [e1_313]; decide) (by rw [e1_313]; decide) (by rw [e1_313]; decide) (by decide)) ?_
    refine jJ_of (fun H locs => lv_lload_n hx hb dX7_holds_115 rfl (lv_at hl 1 rfl)) ?_
    refine jJ_of (fun H locs => lv_lload_n hx hb dX7_holds_116 rfl (lv_at hl 2 rfl)) ?_
    refine jJ_of (fun H locs => W.lcmp hx hb dX7_holds_117) ?_
    refine jJ_of2 (fun H locs => jl_if_ne (tgt := 125) hx hb dX7_holds_118 (by decide) (by omega) (by omega) (by omega) (by omega)) (fun c118 => ?_) (fun c118 => ?_)
    · refine jJ_of (fun H locs => lv_iconst (v := (nI 0)) hx hb dX7_holds_125 (by decide)) ?_
      exact jJ_zret hx hb hr hlocks dX7_holds_126 (by show _ ≤ 0; omega) (by show _ ≤ 0; omega) (Or.inl rfl) ⟨by rw [show vHold op a b = false from by unfold vHold; rw [if_neg e1_310, if_neg e1_311, if_neg e1_312, if_pos e1_313]; rw [decide_eq_false_iff_not]; omega]; rfl, rfl, rfl, rfl⟩
    · refine jJ_of (fun H locs => lv_iconst (v := (nI 1)) hx hb dX7_holds_121 (by decide)) ?_
      refine jJ_of (fun H locs => lv_goto (tgt := 126) hx hb dX7_holds_122 (by decide)) ?_
      exact jJ_zret hx hb hr hlocks dX7_holds_126 (by show _ ≤ 0; omega) (by show _ ≤ 0; omega) (Or.inr rfl) ⟨by rw [show vHold op a b = true from by unfold vHold; rw [if_neg e1_310, if_neg e1_311, if_neg e1_312, if_pos e1_313]; rw [decide_eq_true_eq]; omega]; rfl, rfl, rfl, rfl⟩
  by_cases e1_314 : op = 314
  · refine jJ_of (fun H locs => lv_tableIn hx hb dX7_holds_1 (off := 126) (tgt := 127) (by rw [e1_314]; decide) (by rw [e1_314]; decide) (by rw [e1_314]; decide) (by decide)) ?_
    refine jJ_of (fun H locs => lv_lload_n hx hb dX7_holds_127 rfl (lv_at hl 1 rfl)) ?_
    refine jJ_of (fun H locs => lv_lload_n hx hb dX7_holds_128 rfl (lv_at hl 2 rfl)) ?_
    refine jJ_of (fun H locs => W.lcmp hx hb dX7_holds_129) ?_
    refine jJ_of2 (fun H locs => jl_if_eq (tgt := 137) hx hb dX7_holds_130 (by decide) (by omega) (by omega) (by omega) (by omega)) (fun c130 => ?_) (fun c130 => ?_)
    · refine jJ_of (fun H locs => lv_iconst (v := (nI 0)) hx hb dX7_holds_137 (by decide)) ?_
      exact jJ_zret hx hb hr hlocks dX7_holds_138 (by show _ ≤ 0; omega) (by show _ ≤ 0; omega) (Or.inl rfl) ⟨by rw [show vHold op a b = false from by unfold vHold; rw [if_neg e1_310, if_neg e1_311, if_neg e1_312, if_neg e1_313, if_pos e1_314]; rw [decide_eq_false_iff_not]; omega]; rfl, rfl, rfl, rfl⟩
    · refine jJ_of (fun H locs => lv_iconst (v := (nI 1)) hx hb dX7_holds_133 (by decide)) ?_
      refine jJ_of (fun H locs => lv_goto (tgt := 138) hx hb dX7_holds_134 (by decide)) ?_
      exact jJ_zret hx hb hr hlocks dX7_holds_138 (by show _ ≤ 0; omega) (by show _ ≤ 0; omega) (Or.inr rfl) ⟨by rw [show vHold op a b = true from by unfold vHold; rw [if_neg e1_310, if_neg e1_311, if_neg e1_312, if_neg e1_313, if_pos e1_314]; rw [decide_eq_true_eq]; omega]; rfl, rfl, rfl, rfl⟩
  by_cases e1_315 : op = 315
  · refine jJ_of (fun H locs => lv_tableIn hx hb dX7_holds_1 (off := 138) (tgt := 139) (by rw [e1_315]; decide) (by rw [e1_315]; decide) (by rw [e1_315]; decide) (by decide)) ?_
    refine jJ_of (fun H locs => lv_lload_n hx hb dX7_holds_139 rfl (lv_at hl 1 rfl)) ?_
    refine jJ_of (fun H locs => lv_lload_n hx hb dX7_holds_140 rfl (lv_at hl 2 rfl)) ?_
    refine jJ_of (fun H locs => W.lcmp hx hb dX7_holds_141) ?_
    refine jJ_of2 (fun H locs => jl_if_ge (tgt := 149) hx hb dX7_holds_142 (by decide) (by omega) (by omega) (by omega) (by omega)) (fun c142 => ?_) (fun c142 => ?_)
    · refine jJ_of (fun H locs => lv_iconst (v := (nI 0)) hx hb dX7_holds_149 (by decide)) ?_
      exact jJ_zret hx hb hr hlocks dX7_holds_150 (by show _ ≤ 0; omega) (by show _ ≤ 0; omega) (Or.inl rfl) ⟨by rw [show vHold op a b = false from by unfold vHold; rw [if_neg e1_310, if_neg e1_311, if_neg e1_312, if_neg e1_313, if_neg e1_314, if_pos e1_315]; rw [decide_eq_false_iff_not]; omega]; rfl, rfl, rfl, rfl⟩
    · refine jJ_of (fun H locs => lv_iconst (v := (nI 1)) hx hb dX7_holds_145 (by decide)) ?_
      refine jJ_of (fun H locs => lv_goto (tgt := 150) hx hb dX7_holds_146 (by decide)) ?_
      exact jJ_zret hx hb hr hlocks dX7_holds_150 (by show _ ≤ 0; omega) (by show _ ≤ 0; omega) (Or.inr rfl) ⟨by rw [show vHold op a b = true from by unfold vHold; rw [if_neg e1_310, if_neg e1_311, if_neg e1_312, if_neg e1_313, if_neg e1_314, if_pos e1_315]; rw [decide_eq_true_eq]; omega]; rfl, rfl, rfl, rfl⟩
  by_cases e1_316 : op = 316
  · refine jJ_of (fun H locs => lv_tableIn hx hb dX7_holds_1 (off := 150) (tgt := 151) (by rw [e1_316]; decide) (by rw [e1_316]; decide) (by rw [e1_316]; decide) (by decide)) ?_
    refine jJ_of (fun H locs => lv_lload_n hx hb dX7_holds_151 rfl (lv_at hl 1 rfl)) ?_
    refine jJ_of (fun H locs => lv_lload_n hx hb dX7_holds_152 rfl (lv_at hl 2 rfl)) ?_
    refine jJ_of (fun H locs => W.lcmp hx hb dX7_holds_153) ?_
    refine jJ_of2 (fun H locs => jl_if_gt (tgt := 161) hx hb dX7_holds_154 (by decide) (by omega) (by omega) (by omega) (by omega)) (fun c154 => ?_) (fun c154 => ?_)
    · refine jJ_of (fun H locs => lv_iconst (v := (nI 0)) hx hb dX7_holds_161 (by decide)) ?_
      exact jJ_zret hx hb hr hlocks dX7_holds_162 (by show _ ≤ 0; omega) (by show _ ≤ 0; omega) (Or.inl rfl) ⟨by rw [show vHold op a b = false from by unfold vHold; rw [if_neg e1_310, if_neg e1_311, if_neg e1_312, if_neg e1_313, if_neg e1_314, if_neg e1_315, if_pos e1_316]; rw [decide_eq_false_iff_not]; omega]; rfl, rfl, rfl, rfl⟩
    · refine jJ_of (fun H locs => lv_iconst (v := (nI 1)) hx hb dX7_holds_157 (by decide)) ?_
      refine jJ_of (fun H locs => lv_goto (tgt := 162) hx hb dX7_holds_158 (by decide)) ?_
      exact jJ_zret hx hb hr hlocks dX7_holds_162 (by show _ ≤ 0; omega) (by show _ ≤ 0; omega) (Or.inr rfl) ⟨by rw [show vHold op a b = true from by unfold vHold; rw [if_neg e1_310, if_neg e1_311, if_neg e1_312, if_neg e1_313, if_neg e1_314, if_neg e1_315, if_pos e1_316]; rw [decide_eq_true_eq]; omega]; rfl, rfl, rfl, rfl⟩
  by_cases e1_317 : op = 317
  · refine jJ_of (fun H locs => lv_tableIn hx hb dX7_holds_1 (off := 162) (tgt := 163) (by rw [e1_317]; decide) (by rw [e1_317]; decide) (by rw [e1_317]; decide) (by decide)) ?_
    refine jJ_of (fun H locs => lv_lload_n hx hb dX7_holds_163 rfl (lv_at hl 1 rfl)) ?_
    refine jJ_of (fun H locs => lv_lload_n hx hb dX7_holds_164 rfl (lv_at hl 2 rfl)) ?_
    refine jJ_of (fun H locs => W.lcmp hx hb dX7_holds_165) ?_
    refine jJ_of2 (fun H locs => jl_if_le (tgt := 173) hx hb dX7_holds_166 (by decide) (by omega) (by omega) (by omega) (by omega)) (fun c166 => ?_) (fun c166 => ?_)
    · refine jJ_of (fun H locs => lv_iconst (v := (nI 0)) hx hb dX7_holds_173 (by decide)) ?_
      exact jJ_zret hx hb hr hlocks dX7_holds_174 (by show _ ≤ 0; omega) (by show _ ≤ 0; omega) (Or.inl rfl) ⟨by rw [show vHold op a b = false from by unfold vHold; rw [if_neg e1_310, if_neg e1_311, if_neg e1_312, if_neg e1_313, if_neg e1_314, if_neg e1_315, if_neg e1_316, if_pos e1_317]; rw [decide_eq_false_iff_not]; omega]; rfl, rfl, rfl, rfl⟩
    · refine jJ_of (fun H locs => lv_iconst (v := (nI 1)) hx hb dX7_holds_169 (by decide)) ?_
      refine jJ_of (fun H locs => lv_goto (tgt := 174) hx hb dX7_holds_170 (by decide)) ?_
      exact jJ_zret hx hb hr hlocks dX7_holds_174 (by show _ ≤ 0; omega) (by show _ ≤ 0; omega) (Or.inr rfl) ⟨by rw [show vHold op a b = true from by unfold vHold; rw [if_neg e1_310, if_neg e1_311, if_neg e1_312, if_neg e1_313, if_neg e1_314, if_neg e1_315, if_neg e1_316, if_pos e1_317]; rw [decide_eq_true_eq]; omega]; rfl, rfl, rfl, rfl⟩
  refine jJ_of (fun H locs => lv_tableOut hx hb dX7_holds_1 (tgt := 175) (by rw [nI_toInt (by omega)]; omega) (by decide)) ?_
  refine jJ_of (fun H locs => lv_lload_n hx hb dX7_holds_175 rfl (lv_at hl 1 rfl)) ?_
  refine jJ_of (fun H locs => lv_lload_n hx hb dX7_holds_176 rfl (lv_at hl 2 rfl)) ?_
  refine jJ_of (fun H locs => W.lcmp hx hb dX7_holds_177) ?_
  refine jJ_of2 (fun H locs => jl_if_lt (tgt := 185) hx hb dX7_holds_178 (by decide) (by omega) (by omega) (by omega) (by omega)) (fun c178 => ?_) (fun c178 => ?_)
  · refine jJ_of (fun H locs => lv_iconst (v := (nI 0)) hx hb dX7_holds_185 (by decide)) ?_
    exact jJ_zret hx hb hr hlocks dX7_holds_186 (by show _ ≤ 0; omega) (by show _ ≤ 0; omega) (Or.inl rfl) ⟨by rw [show vHold op a b = false from by unfold vHold; rw [if_neg e1_310, if_neg e1_311, if_neg e1_312, if_neg e1_313, if_neg e1_314, if_neg e1_315, if_neg e1_316, if_neg e1_317]; rw [decide_eq_false_iff_not]; omega]; rfl, rfl, rfl, rfl⟩
  · refine jJ_of (fun H locs => lv_iconst (v := (nI 1)) hx hb dX7_holds_181 (by decide)) ?_
    refine jJ_of (fun H locs => lv_goto (tgt := 186) hx hb dX7_holds_182 (by decide)) ?_
    exact jJ_zret hx hb hr hlocks dX7_holds_186 (by show _ ≤ 0; omega) (by show _ ≤ 0; omega) (Or.inr rfl) ⟨by rw [show vHold op a b = true from by unfold vHold; rw [if_neg e1_310, if_neg e1_311, if_neg e1_312, if_neg e1_313, if_neg e1_314, if_neg e1_315, if_neg e1_316, if_neg e1_317]; rw [decide_eq_true_eq]; omega]; rfl, rfl, rfl, rfl⟩
set_option maxHeartbeats 4000000 in
set_option maxRecDepth 100000 in
/-- ofTwo(op, a, b) -/
theorem c_ofTwo (op : Nat) (a b : Int) (hop : op < 2147483648) (h1 : -1000000000000 ≤ a) (h2 : a ≤ 1000000000000) (h3 : -1000000000000 ≤ b) (h4 : b ≤ 1000000000000) : HM l yX7_ofTwo wsX7_ofTwo ({ frames := 2, cells := 0, slots := 0, locals := 80 } : Room) D G (jT cI cJ cB cZ) [.int (nI op), .long (lI a), .long (lI b)] ([]) (fun v u k n => v = some (.long (lI (vTwo op a b))) ∧ u = [] ∧ k = 0 ∧ n = 0) := by
  refine HM_of (cc := cX7_ofTwo) (maxL := 5) (ret := (some .long)) (lv := [(0, .int (nI op)), (1, .long (lI a)), (3, .long (lI b))]) (by decide) rfl rfl (Nat.le_of_ble_eq_true rfl) (fun p e s m args below meth c A0 ls hx hb hr hts hown hlocks hml hnm hK hA hAm hl => ?_)
  refine jJ_of (fun H locs => lv_iload_n hx hb dX7_ofTwo_0 rfl (lv_at hl 0 rfl)) ?_
  by_cases e1_42 : op = 42
  · refine jJ_of (fun H locs => lv_lookup hx hb dX7_ofTwo_1 (by decide) (off := 59) (tgt := 60) (by rw [e1_42]; decide) (by decide)) ?_
    refine jJ_of (fun H locs => lv_lload_n hx hb dX7_ofTwo_60 rfl (lv_at hl 1 rfl)) ?_
    refine jJ_of (fun H locs => lv_lload_n hx hb dX7_ofTwo_61 rfl (lv_at hl 2 rfl)) ?_
    refine jJ_callS (As := [.long (lI a), .long (lI b)]) (rest := []) (wc := _) (cs2 := [[]]) [] [0] ⟨hx, hb, hml, hown, hts⟩ hK hA hAm (c_product a b (by omega) (by omega) (by omega) (by omega)) (va_cwS 2 hts gX7_ofTwo_X7_product rfl rfl rfl (by decide +kernel) ⟨Nat.le_of_ble_eq_true rfl, Nat.le_of_ble_eq_true rfl⟩) (nn := 1) rfl (by decide) rfl rfl rfl rfl hl.1 (Nat.le_of_ble_eq_true rfl) dX7_ofTwo_62 (by show _ + 0 ≤ 0; omega) (by show _ + 0 ≤ 0; omega) (fun v u1 k1 n1 hq1 => ?_)
    obtain ⟨rfl, rfl, rfl, rfl⟩ := hq1
    refine jJ_eq (g2 := F0 m 65 ls [.long (lI (vMul a b))]) (cs2 := [([] : va_W), []]) rfl rfl ?_
    refine jJ_flat (cs2 := [[]]) rfl ?_
    exact jJ_lret hx hb hr hlocks dX7_ofTwo_65 (by show _ ≤ 0; omega) (by show _ ≤ 0; omega) ⟨by unfold vTwo; rw [if_pos e1_42], rfl, rfl, rfl⟩
  by_cases e1_43 : op = 43
  · refine jJ_of (fun H locs => lv_lookup hx hb dX7_ofTwo_1 (by decide) (off := 51) (tgt := 52) (by rw [e1_43]; decide) (by decide)) ?_
    refine jJ_of (fun H locs => lv_lload_n hx hb dX7_ofTwo_52 rfl (lv_at hl 1 rfl)) ?_
    refine jJ_of (fun H locs => lv_lload_n hx hb dX7_ofTwo_53 rfl (lv_at hl 2 rfl)) ?_
    refine jJ_of (fun H locs => jl_ladd hx hb dX7_ofTwo_54) ?_
    exact jJ_lret hx hb hr hlocks dX7_ofTwo_55 (by show _ ≤ 0; omega) (by show _ ≤ 0; omega) ⟨by unfold vTwo; rw [if_neg e1_42, if_pos e1_43], rfl, rfl, rfl⟩
  by_cases e1_45 : op = 45
  · refine jJ_of (fun H locs => lv_lookup hx hb dX7_ofTwo_1 (by decide) (off := 55) (tgt := 56) (by rw [e1_45]; decide) (by decide)) ?_
    refine jJ_of (fun H locs => lv_lload_n hx hb dX7_ofTwo_56 rfl (lv_at hl 1 rfl)) ?_
    refine jJ_of (fun H locs => lv_lload_n hx hb dX7_ofTwo_57 rfl (lv_at hl 2 rfl)) ?_
    refine jJ_of (fun H locs => jl_lsub hx hb dX7_ofTwo_58) ?_
    exact jJ_lret hx hb hr hlocks dX7_ofTwo_59 (by show _ ≤ 0; omega) (by show _ ≤ 0; omega) ⟨by unfold vTwo; rw [if_neg e1_42, if_neg e1_43, if_pos e1_45], rfl, rfl, rfl⟩
  by_cases e1_47 : op = 47
  · refine jJ_of (fun H locs => lv_lookup hx hb dX7_ofTwo_1 (by decide) (off := 65) (tgt := 66) (by rw [e1_47]; decide) (by decide)) ?_
    refine jJ_of (fun H locs => lv_lload_n hx hb dX7_ofTwo_66 rfl (lv_at hl 2 rfl)) ?_
    refine jJ_of (fun H locs => jn_lconst (v := 0) hx hb dX7_ofTwo_67 rfl) ?_
    refine jJ_of (fun H locs => W.lcmp hx hb dX7_ofTwo_68) ?_
    refine jJ_of2 (fun H locs => jl_if_ne (tgt := 76) hx hb dX7_ofTwo_69 (by decide) (by omega) (by omega) (by omega) (by omega)) (fun c69 => ?_) (fun c69 => ?_)
    · refine jJ_of (fun H locs => lv_lload_n hx hb dX7_ofTwo_76 rfl (lv_at hl 1 rfl)) ?_
      refine jJ_of (fun H locs => lv_ldc2 (v := (lI 1000)) hx hb hown (by rw [show (lI 1000) = (1000 : Int64) from by decide]; exact (hts (.constantLong RX7 19 (1000)) (by decide +kernel))) dX7_ofTwo_77) ?_
      refine jJ_of (fun H locs => jl_lmul hx hb dX7_ofTwo_80) ?_
      refine jJ_of (fun H locs => lv_lload_n hx hb dX7_ofTwo_81 rfl (lv_at hl 2 rfl)) ?_
      refine jJ_of (fun H locs => jl_ldiv hx hb dX7_ofTwo_82 (by omega) (by omega) (by omega) (by omega) (by omega)) ?_
      exact jJ_lret hx hb hr hlocks dX7_ofTwo_83 (by show _ ≤ 0; omega) (by show _ ≤ 0; omega) ⟨by unfold vTwo; rw [if_neg e1_42, if_neg e1_43, if_neg e1_45, if_pos e1_47]; first | rw [if_pos (by omega)] | rw [if_neg (by omega)], rfl, rfl, rfl⟩
    · refine jJ_of (fun H locs => jn_lconst (v := 0) hx hb dX7_ofTwo_72 rfl) ?_
      refine jJ_of (fun H locs => lv_goto (tgt := 83) hx hb dX7_ofTwo_73 (by decide)) ?_
      exact jJ_lret hx hb hr hlocks dX7_ofTwo_83 (by show _ ≤ 0; omega) (by show _ ≤ 0; omega) ⟨by unfold vTwo; rw [if_neg e1_42, if_neg e1_43, if_neg e1_45, if_pos e1_47]; first | rw [if_pos (by omega)] | rw [if_neg (by omega)], rfl, rfl, rfl⟩
  by_cases e1_309 : op = 309
  · refine jJ_of (fun H locs => lv_lookup hx hb dX7_ofTwo_1 (by decide) (off := 83) (tgt := 84) (by rw [e1_309]; decide) (by decide)) ?_
    refine jJ_of (fun H locs => lv_lload_n hx hb dX7_ofTwo_84 rfl (lv_at hl 2 rfl)) ?_
    refine jJ_of (fun H locs => jn_lconst (v := 0) hx hb dX7_ofTwo_85 rfl) ?_
    refine jJ_of (fun H locs => W.lcmp hx hb dX7_ofTwo_86) ?_
    refine jJ_of2 (fun H locs => jl_if_ne (tgt := 94) hx hb dX7_ofTwo_87 (by decide) (by omega) (by omega) (by omega) (by omega)) (fun c87 => ?_) (fun c87 => ?_)
    · refine jJ_of (fun H locs => lv_lload_n hx hb dX7_ofTwo_94 rfl (lv_at hl 1 rfl)) ?_
      refine jJ_of (fun H locs => lv_lload_n hx hb dX7_ofTwo_95 rfl (lv_at hl 2 rfl)) ?_
      refine jJ_callS (As := [.long (lI a), .long (lI b)]) (rest := []) (wc := _) (cs2 := [[]]) [] [0] ⟨hx, hb, hml, hown, hts⟩ hK hA hAm (c_floorMod a b (by omega) (by omega) (by omega) (by omega) (by omega)) (va_cwS 2 hts gX7_ofTwo_J9_floorMod_f86c9 rfl rfl rfl (by decide +kernel) ⟨Nat.le_of_ble_eq_true rfl, Nat.le_of_ble_eq_true rfl⟩) (nn := 1) rfl (by decide) rfl rfl rfl rfl hl.1 (Nat.le_of_ble_eq_true rfl) dX7_ofTwo_96 (by show _ + 0 ≤ 0; omega) (by show _ + 0 ≤ 0; omega) (fun v u2 k2 n2 hq2 => ?_)
      obtain ⟨rfl, rfl, rfl, rfl⟩ := hq2
      refine jJ_eq (g2 := F0 m 99 ls [.long (lI (Int.fmod a b))]) (cs2 := [([] : va_W), []]) rfl rfl ?_
      refine jJ_flat (cs2 := [[]]) rfl ?_
      exact jJ_lret hx hb hr hlocks dX7_ofTwo_99 (by show _ ≤ 0; omega) (by show _ ≤ 0; omega) ⟨by unfold vTwo; rw [if_neg e1_42, if_neg e1_43, if_neg e1_45, if_neg e1_47, if_pos e1_309]; first | rw [if_pos (by omega)] | rw [if_neg (by omega)], rfl, rfl, rfl⟩
    · refine jJ_of (fun H locs => jn_lconst (v := 0) hx hb dX7_ofTwo_90 rfl) ?_
      refine jJ_of (fun H locs => lv_goto (tgt := 99) hx hb dX7_ofTwo_91 (by decide)) ?_
      exact jJ_lret hx hb hr hlocks dX7_ofTwo_99 (by show _ ≤ 0; omega) (by show _ ≤ 0; omega) ⟨by unfold vTwo; rw [if_neg e1_42, if_neg e1_43, if_neg e1_45, if_neg e1_47, if_pos e1_309]; first | rw [if_pos (by omega)] | rw [if_neg (by omega)], rfl, rfl, rfl⟩
  refine jJ_of (fun H locs => lv_lookup hx hb dX7_ofTwo_1 (by decide) (off := 99) (tgt := 100) (by rw [nI_toInt (by omega)]; show Op.lookupswitch.offset [(42, 59), (43, 51), (45, 55), (47, 65), (309, 83)] _ _ = _; rw [Op.lookupswitch.offset_cons, if_neg (by omega), Op.lookupswitch.offset_cons, if_neg (by omega), Op.lookupswitch.offset_cons, if_neg (by omega), Op.lookupswitch.offset_cons, if_neg (by omega), Op.lookupswitch.offset_cons, if_neg (by omega)]; rfl) (by decide)) ?_
  refine jJ_of (fun H locs => lv_iload_n hx hb dX7_ofTwo_100 rfl (lv_at hl 0 rfl)) ?_
  refine jJ_of (fun H locs => lv_lload_n hx hb dX7_ofTwo_101 rfl (lv_at hl 1 rfl)) ?_
  refine jJ_of (fun H locs => lv_lload_n hx hb dX7_ofTwo_102 rfl (lv_at hl 2 rfl)) ?_
  refine jJ_callS (As := [.int (nI op), .long (lI a), .long (lI b)]) (rest := []) (wc := _) (cs2 := [[]]) [] [0] ⟨hx, hb, hml, hown, hts⟩ hK hA hAm (c_holds op a b (by omega) (by omega) (by omega) (by omega) (by omega)) (va_cwS 3 hts gX7_ofTwo_X7_holds rfl rfl rfl (by decide +kernel) ⟨Nat.le_of_ble_eq_true rfl, Nat.le_of_ble_eq_true rfl⟩) (nn := 1) rfl (by decide) rfl rfl rfl rfl hl.1 (Nat.le_of_ble_eq_true rfl) dX7_ofTwo_103 (by show _ + 0 ≤ 0; omega) (by show _ + 0 ≤ 0; omega) (fun v u3 k3 n3 hq3 => ?_)
  obtain ⟨rfl, rfl, rfl, rfl⟩ := hq3
  refine jJ_eq (g2 := F0 m 106 ls [.int (bI (vHold op a b))]) (cs2 := [([] : va_W), []]) rfl rfl ?_
  refine jJ_flat (cs2 := [[]]) rfl ?_
  refine jJ_of2 (fun H locs => jb_if_eq (tgt := 115) hx hb dX7_ofTwo_106 (by decide)) (fun c106 => ?_) (fun c106 => ?_)
  · refine jJ_of (fun H locs => jn_lconst (v := 0) hx hb dX7_ofTwo_115 rfl) ?_
    exact jJ_lret hx hb hr hlocks dX7_ofTwo_116 (by show _ ≤ 0; omega) (by show _ ≤ 0; omega) ⟨by unfold vTwo; rw [if_neg e1_42, if_neg e1_43, if_neg e1_45, if_neg e1_47, if_neg e1_309]; first | rw [if_pos c106] | rw [if_neg (by rw [c106]; decide)], rfl, rfl, rfl⟩
  · refine jJ_of (fun H locs => lv_ldc2 (v := (lI 1000)) hx hb hown (by rw [show (lI 1000) = (1000 : Int64) from by decide]; exact (hts (.constantLong RX7 19 (1000)) (by decide +kernel))) dX7_ofTwo_109) ?_
    refine jJ_of (fun H locs => lv_goto (tgt := 116) hx hb dX7_ofTwo_112 (by decide)) ?_
    exact jJ_lret hx hb hr hlocks dX7_ofTwo_116 (by show _ ≤ 0; omega) (by show _ ≤ 0; omega) ⟨by unfold vTwo; rw [if_neg e1_42, if_neg e1_43, if_neg e1_45, if_neg e1_47, if_neg e1_309]; first | rw [if_pos c106] | rw [if_neg (by rw [c106]; decide)], rfl, rfl, rfl⟩
end VAL6
