/-! ValueBlocks$Machine: vs the variables, st the pile (its top first), al the alarm, an its line, sp the steps -/
def vOK (z : Int) : Prop := -1000000000000 ≤ z ∧ z ≤ 1000000000000
def isV (n : Int) : Bool := decide (1 ≤ n ∧ n ≤ 199)
def cPn (x : Int) : Int := if x.tdiv 1000 * 1000 = x ∧ isV (x.tdiv 1000) = true then x.tdiv 1000 else 0
def cPa (x : Int) (al : Nat) : Nat := if x.tdiv 1000 * 1000 = x ∧ isV (x.tdiv 1000) = true then al else 2
def mGet (vs : Nat → Int) (n : Int) : Int := if isV n = true then vs n.toNat else 0
def mSet (vs : Nat → Int) (n v : Int) : Nat → Int := if isV n = true ∧ vTG v = false then va_up vs n.toNat v else vs
def mPush (st : List Int) (x : Int) : List Int := if st.length < 80 then x :: st else st
abbrev MS : Type := (Nat → Int) × List Int × Nat
def ePR (r : Int) (M : MS) : MS := if vTG r = true then (M.1, M.2.1, 4) else (M.1, mPush M.2.1 r, M.2.2)
def eOne (op : Nat) (M : MS) : MS := if op = 308 ∧ M.2.1.headD 0 < 0 then (M.1, M.2.1.tail, 1) else ePR (vOne op (M.2.1.headD 0)) (M.1, M.2.1.tail, M.2.2)
def eTwo (op : Nat) (M : MS) : MS := if M.2.1.headD 0 = 0 ∧ (op = 47 ∨ op = 309) then (M.1, M.2.1.tail.tail, 1) else ePR (vTwo op (M.2.1.tail.headD 0) (M.2.1.headD 0)) (M.1, M.2.1.tail.tail, M.2.2)
def eLoad (M : MS) : MS := (M.1, mPush M.2.1.tail (mGet M.1 (cPn (M.2.1.headD 0))), cPa (M.2.1.headD 0) M.2.2)
def eChk (M : MS) : MS := (M.1, mPush M.2.1.tail (cPn (M.2.1.headD 0)), cPa (M.2.1.headD 0) M.2.2)
def eSto (M : MS) : MS := (mSet M.1 ((M.2.1.tail.headD 0).bmod 4294967296) (M.2.1.headD 0), M.2.1.tail.tail, M.2.2)
def eNeg (op : Nat) (M : MS) : MS := if op = 1 ∨ op = 305 ∨ op = 306 ∨ op = 307 ∨ op = 308 then eOne op M else if op = 2 then eLoad M else if op = 3 then eChk M else if op = 4 then eSto M else eTwo op M
def eEnt (e : Int) (M : MS) : MS := if 0 ≤ e then (M.1, mPush M.2.1 e, M.2.2) else eNeg (-e).toNat M
def jMach (cJ : ClassId) (h : Nat) (vs : Nat → Int) (st : List Int) (al an sp : Nat) (w : va_W) : Prop := ∃ (aV aP : Nat) (f g : Nat → Int64), w = jF [[(h, .inr (1, [.ref aV, .ref aP, .int (nI st.length), .int (nI al), .int (nI an), .int (nI sp)]))], [(aV, .inl (cJ, 200, .inr (.inl f)))], [(aP, .inl (cJ, 80, .inr (.inl g)))]] ∧ (∀ i, i < 200 → f i = lI (vs i)) ∧ (∀ i (hi : i < st.length), g (st.length - 1 - i) = lI st[i]) ∧ st.length ≤ 80 ∧ (∀ i, vOK (vs i)) ∧ (∀ x ∈ st, vOK x) ∧ al < 2147483648 ∧ an < 2147483648 ∧ sp < 2147483648
theorem jMach.hd {cJ : ClassId} {h al an sp : Nat} {vs : Nat → Int} {st : List Int} {w : va_W} (hw : jMach cJ h vs st al an sp w) : ∃ (i : Nat) (fs : List Value), w[i]? = some (h, .inr (1, fs)) := by
  obtain ⟨aV, aP, f, g, rfl, -⟩ := hw
  exact ⟨0, _, rfl⟩
theorem jMach.cast {cJ : ClassId} {h al an sp al2 sp2 : Nat} {vs : Nat → Int} {st : List Int} {w : va_W} (hw : jMach cJ h vs st al an sp w) (e1 : al = al2) (e2 : sp = sp2) : jMach cJ h vs st al2 an sp2 w := by
  subst e1; subst e2; exact hw
theorem vHead {st : List Int} (h : ∀ x ∈ st, vOK x) : -1000000000000 ≤ st.headD 0 ∧ st.headD 0 ≤ 1000000000000 := by
  cases st with
  | nil => decide
  | cons x r => exact h x List.mem_cons_self
theorem vTail {st : List Int} (h : ∀ x ∈ st, vOK x) : ∀ x ∈ st.tail, vOK x := fun x hx => h x (List.mem_of_mem_tail hx)
theorem jMach.ok {cJ : ClassId} {h al an sp : Nat} {vs : Nat → Int} {st : List Int} {w : va_W} (hw : jMach cJ h vs st al an sp w) : (-1000000000000 ≤ st.headD 0 ∧ st.headD 0 ≤ 1000000000000) ∧ (-1000000000000 ≤ st.tail.headD 0 ∧ st.tail.headD 0 ≤ 1000000000000) ∧ al < 2147483648 ∧ an < 2147483648 ∧ sp < 2147483648 ∧ (∀ i, -1000000000000 ≤ vs i ∧ vs i ≤ 1000000000000) := by
  obtain ⟨aV, aP, f, g, rfl, hf, hg, hst, hvb, hsb, h1, h2, h3⟩ := hw
  exact ⟨vHead hsb, vHead (vTail hsb), h1, h2, h3, hvb⟩
theorem mPushOK {st : List Int} {x : Int} (h : ∀ x ∈ st, vOK x) (hx : vOK x) : ∀ y ∈ mPush st x, vOK y := by
  unfold mPush
  split
  · intro y hy
    rcases List.mem_cons.mp hy with e | e
    · rw [e]; exact hx
    · exact h y e
  · exact h
theorem mPop {st : List Int} {g : Nat → Int64} (hg : ∀ i (hi : i < st.length), g (st.length - 1 - i) = lI st[i]) (h0 : 0 < st.length) : g (st.length - 1) = lI (st.headD 0) ∧ ∀ i (hi : i < st.tail.length), g (st.tail.length - 1 - i) = lI st.tail[i] := by
  cases st with
  | nil => exact absurd h0 (Nat.lt_irrefl 0)
  | cons x r =>
    refine ⟨hg 0 h0, fun i hi => ?_⟩
    have hlt : i + 1 < (x :: r).length := by rw [List.length_cons]; exact Nat.succ_lt_succ hi
    have h1 : g ((x :: r).length - 1 - (i + 1)) = lI (x :: r)[i + 1] := hg (i + 1) hlt
    have e : (x :: r).length - 1 - (i + 1) = r.length - 1 - i := by rw [List.length_cons]; omega
    rw [e] at h1
    exact h1
theorem mPsh {st : List Int} {g : Nat → Int64} {x : Int} (hg : ∀ i (hi : i < st.length), g (st.length - 1 - i) = lI st[i]) : ∀ i (hi : i < (x :: st).length), vp_updL g st.length (lI x) ((x :: st).length - 1 - i) = lI (x :: st)[i] := by
  intro i hi
  rw [List.length_cons] at hi ⊢
  cases i with
  | zero => simp [vp_updL]
  | succ i =>
    rw [show st.length + 1 - 1 - (i + 1) = st.length - 1 - i by omega]
    unfold vp_updL
    rw [if_neg (by omega), hg i (by omega)]
    rfl
theorem vTG_ok {z : Int} (h : vTG z = false) : vOK z := by
  unfold vTG at h
  rw [decide_eq_false_iff_not] at h
  unfold vOK
  omega
theorem cPn_b (x : Int) : 0 ≤ cPn x ∧ cPn x ≤ 199 := by
  unfold cPn
  split
  · rename_i h
    have := h.2
    unfold isV at this
    rw [decide_eq_true_eq] at this
    omega
  · omega
theorem iI_bmod (z : Int) : iI z = iI (z.bmod 4294967296) := by
  apply Int32.toInt_inj.mp
  unfold iI
  rw [Int32.toInt_ofInt, Int32.toInt_ofInt]
  show z.bmod 4294967296 = (z.bmod 4294967296).bmod 4294967296
  rw [Int.bmod_bmod]
theorem bmod_b (z : Int) : -2147483648 ≤ z.bmod 4294967296 ∧ z.bmod 4294967296 < 2147483648 := by
  have h1 := Int.le_bmod (x := z) (m := 4294967296) (by decide)
  have h2 := Int.bmod_lt (x := z) (m := 4294967296) (by decide)
  omega
theorem iI_toNatC {n : Int} (h1 : 0 ≤ n) (h2 : n < 2147483648) : (iI n).toNatClampNeg = n.toNat := by
  obtain ⟨k, rfl⟩ := Int.eq_ofNat_of_zero_le h1
  rw [← nI_iI, nI_clamp (by omega)]
  rfl
theorem vp_in_iI {n : Int} {N : Nat} (h1 : 0 ≤ n) (h2 : n < N) (hN : N < 2147483648) : vp_in (iI n) N := by
  obtain ⟨k, rfl⟩ := Int.eq_ofNat_of_zero_le h1
  rw [← nI_iI]
  exact vp_in_nI (by omega) (by omega)
theorem vAbsB {a : Int} : vAbs a = a ∨ vAbs a = -a := by unfold vAbs; split <;> omega
theorem rtF_b (N : Int) : ∀ (m : Nat) (r : Int), 0 ≤ r → r ≤ rtF N m r ∧ rtF N m r < r + 2 ^ m := by
  intro m
  induction m with
  | zero => intro r h; unfold rtF; omega
  | succ m ih =>
    intro r h
    have hp : (2 : Int) ^ (m + 1) = 2 ^ m * 2 := Int.pow_succ _ _
    have hp0 : (0 : Int) < 2 ^ m := Int.pow_pos (by decide)
    unfold rtF
    split
    · have := ih (r + 2 ^ m) (by omega)
      omega
    · have := ih r h
      omega
theorem vRt_b (N : Int) : 0 ≤ vRt N ∧ vRt N < 33554432 := by
  have := rtF_b N 25 0 (by omega)
  unfold vRt
  omega
theorem vOne_b {op : Nat} {a : Int} (h1 : -1000000000000 ≤ a) (h2 : a ≤ 1000000000000) : -9223372036854775808 ≤ vOne op a ∧ vOne op a < 9223372036854775808 := by
  unfold vOne
  have e1 := Int.fdiv_eq_ediv_of_nonneg a (b := 1000) (by decide)
  have e2 := Int.fdiv_eq_ediv_of_nonneg (-a) (b := 1000) (by decide)
  rw [e1, e2]
  have h3 := vRt_b (a * 1000)
  rcases vAbsB (a := a) with h | h <;> (repeat' split) <;> omega
theorem vMul_b {a b : Int} (h1 : -1000000000000 ≤ a) (h2 : a ≤ 1000000000000) (h3 : -1000000000000 ≤ b) (h4 : b ≤ 1000000000000) : -9223372036854775808 ≤ vMul a b ∧ vMul a b < 9223372036854775808 := by
  unfold vMul
  split
  · omega
  · rename_i h
    have := vMulB h h1 h2 h3 h4
    have h5 : ((a * b).tdiv 1000).natAbs ≤ (a * b).natAbs := by rw [Int.natAbs_tdiv]; exact Nat.div_le_self _ _
    omega
theorem vTwo_b {op : Nat} {a b : Int} (h1 : -1000000000000 ≤ a) (h2 : a ≤ 1000000000000) (h3 : -1000000000000 ≤ b) (h4 : b ≤ 1000000000000) : -9223372036854775808 ≤ vTwo op a b ∧ vTwo op a b < 9223372036854775808 := by
  unfold vTwo
  have e1 := vMul_b h1 h2 h3 h4
  have e2 : ((a * 1000).tdiv b).natAbs ≤ (a * 1000).natAbs := by rw [Int.natAbs_tdiv]; exact Nat.div_le_self _ _
  have e3 : b = 0 ∨ (Int.fmod a b).natAbs ≤ 2 * b.natAbs := by
    by_cases h : b = 0
    · exact Or.inl h
    · right
      have q1 : (a.tmod b).natAbs ≤ b.natAbs := by
        rw [Int.natAbs_tmod]
        exact Nat.le_of_lt (Nat.mod_lt _ (by omega))
      rw [vFmod h]
      (repeat' split) <;> omega
  (repeat' split) <;> omega
section MACH
variable {D : va_G} {G : Nat → Nat} {cI cJ cB cZ : ClassId} {l : Launch}

theorem uX2_in_X2_alarmLine : ∀ w ∈ u_ws RX2 TX2 6, w ∈ wsX2_alarmLine := by decide +kernel
set_option maxHeartbeats 4000000 in
set_option maxRecDepth 100000 in
/-- c_Mach_alarmLine -/
theorem c_Mach_alarmLine {h al an sp : Nat} {vs : Nat → Int} {st : List Int} {w : va_W} (hw : jMach cJ h vs st al an sp w) : HM l yX2_alarmLine wsX2_alarmLine ({ frames := 0, cells := 0, slots := 0, locals := 0 } : Room) D G (jT cI cJ cB cZ) [.ref h] w (fun v u k n => v = some (.int (nI an)) ∧ u = w ∧ k = 0 ∧ n = 0) := by
  refine HM_of (cc := cX2_alarmLine) (maxL := 1) (ret := (some .int)) (lv := [(0, .ref h)]) (by decide) rfl rfl (Nat.le_of_ble_eq_true rfl) (fun p e s m args below meth c A0 ls hx hb hr hts hown hlocks hml hnm hK hA hAm hl => ?_)
  obtain ⟨aV, aP, f, g, rfl, hf, hg, hst, hvb, hsb, hal, han, hsp⟩ := hw
  refine jJ_open (xs := [[(h, .inr (1, [.ref aV, .ref aP, .int (nI st.length), .int (nI al), .int (nI an), .int (nI sp)]))], [(aV, .inl (cJ, 200, .inr (.inl f)))], [(aP, .inl (cJ, 80, .inr (.inl g)))]]) (r := []) (cs2 := [[(h, .inr (1, [.ref aV, .ref aP, .int (nI st.length), .int (nI al), .int (nI an), .int (nI sp)]))], [(aV, .inl (cJ, 200, .inr (.inl f)))], [(aP, .inl (cJ, 80, .inr (.inl g)))]]) rfl ?_
  refine jJ_of (fun H locs => lv_aload_n hx hb dX2_alarmLine_0 rfl (lv_at hl 0 rfl)) ?_
  refine jJ_get hx hb (C := RX2) (T := TX2) (N := 6) hts uX2_in_X2_alarmLine hown hK 0 rfl rfl 4 (by decide) (hts (.fieldLink RX2 16 "ValueBlocks$Machine" "alarmLine" "I") (by decide +kernel)) (fun _ h9 => h9) rfl dX2_alarmLine_1 ?_
  exact jJ_iret hx hb hr hlocks dX2_alarmLine_4 (by show _ ≤ 0; omega) (by show _ ≤ 0; omega) ⟨rfl, rfl, rfl, rfl⟩
theorem uX2_in_X2_stepsDone : ∀ w ∈ u_ws RX2 TX2 6, w ∈ wsX2_stepsDone := by decide +kernel
set_option maxHeartbeats 4000000 in
set_option maxRecDepth 100000 in
/-- c_Mach_stepsDone -/
theorem c_Mach_stepsDone {h al an sp : Nat} {vs : Nat → Int} {st : List Int} {w : va_W} (hw : jMach cJ h vs st al an sp w) : HM l yX2_stepsDone wsX2_stepsDone ({ frames := 0, cells := 0, slots := 0, locals := 0 } : Room) D G (jT cI cJ cB cZ) [.ref h] w (fun v u k n => v = some (.int (nI sp)) ∧ u = w ∧ k = 0 ∧ n = 0) := by
  refine HM_of (cc := cX2_stepsDone) (maxL := 1) (ret := (some .int)) (lv := [(0, .ref h)]) (by decide) rfl rfl (Nat.le_of_ble_eq_true rfl) (fun p e s m args below meth c A0 ls hx hb hr hts hown hlocks hml hnm hK hA hAm hl => ?_)
  obtain ⟨aV, aP, f, g, rfl, hf, hg, hst, hvb, hsb, hal, han, hsp⟩ := hw
  refine jJ_open (xs := [[(h, .inr (1, [.ref aV, .ref aP, .int (nI st.length), .int (nI al), .int (nI an), .int (nI sp)]))], [(aV, .inl (cJ, 200, .inr (.inl f)))], [(aP, .inl (cJ, 80, .inr (.inl g)))]]) (r := []) (cs2 := [[(h, .inr (1, [.ref aV, .ref aP, .int (nI st.length), .int (nI al), .int (nI an), .int (nI sp)]))], [(aV, .inl (cJ, 200, .inr (.inl f)))], [(aP, .inl (cJ, 80, .inr (.inl g)))]]) rfl ?_
  refine jJ_of (fun H locs => lv_aload_n hx hb dX2_stepsDone_0 rfl (lv_at hl 0 rfl)) ?_
  refine jJ_get hx hb (C := RX2) (T := TX2) (N := 6) hts uX2_in_X2_stepsDone hown hK 0 rfl rfl 5 (by decide) (hts (.fieldLink RX2 20 "ValueBlocks$Machine" "steps" "I") (by decide +kernel)) (fun _ h9 => h9) rfl dX2_stepsDone_1 ?_
  exact jJ_iret hx hb hr hlocks dX2_stepsDone_4 (by show _ ≤ 0; omega) (by show _ ≤ 0; omega) ⟨rfl, rfl, rfl, rfl⟩
theorem uX2_in_X2_isVariable : ∀ w ∈ u_ws RX2 TX2 6, w ∈ wsX2_isVariable := by decide +kernel
set_option maxHeartbeats 4000000 in
set_option maxRecDepth 100000 in
/-- isVariable(n) -/
theorem c_Mach_isV {h al an sp : Nat} {vs : Nat → Int} {st : List Int} {w : va_W} (hw : jMach cJ h vs st al an sp w) (n : Int) (hn1 : -9223372036854775808 ≤ n) (hn2 : n < 9223372036854775808) : HM l yX2_isVariable wsX2_isVariable ({ frames := 0, cells := 0, slots := 0, locals := 0 } : Room) D G (jT cI cJ cB cZ) [.ref h, .long (lI n)] w (fun v u k n_ => v = some (.int (bI (isV n))) ∧ u = w ∧ k = 0 ∧ n_ = 0) := by
  refine HM_of (cc := cX2_isVariable) (maxL := 3) (ret := (some .boolean)) (lv := [(0, .ref h), (1, .long (lI n))]) (by decide) rfl rfl (Nat.le_of_ble_eq_true rfl) (fun p e s m args below meth c A0 ls hx hb hr hts hown hlocks hml hnm hK hA hAm hl => ?_)
  obtain ⟨aV, aP, f, g, rfl, hf, hg, hst, hvb, hsb, hal, han, hsp⟩ := hw
  refine jJ_open (xs := [[(h, .inr (1, [.ref aV, .ref aP, .int (nI st.length), .int (nI al), .int (nI an), .int (nI sp)]))], [(aV, .inl (cJ, 200, .inr (.inl f)))], [(aP, .inl (cJ, 80, .inr (.inl g)))]]) (r := []) (cs2 := [[(h, .inr (1, [.ref aV, .ref aP, .int (nI st.length), .int (nI al), .int (nI an), .int (nI sp)]))], [(aV, .inl (cJ, 200, .inr (.inl f)))], [(aP, .inl (cJ, 80, .inr (.inl g)))]]) rfl ?_
  refine jJ_of (fun H locs => lv_lload_n hx hb dX2_isVariable_0 rfl (lv_at hl 1 rfl)) ?_
  refine jJ_of (fun H locs => jn_lconst (v := 1) hx hb dX2_isVariable_1 rfl) ?_
  refine jJ_of (fun H locs => W.lcmp hx hb dX2_isVariable_2) ?_
  refine jJ_of2 (fun H locs => jl_if_lt (tgt := 29) hx hb dX2_isVariable_3 (by decide) (by omega) (by omega) (by omega) (by omega)) (fun c3 => ?_) (fun c3 => ?_)
  · refine jJ_of (fun H locs => lv_iconst (v := (nI 0)) hx hb dX2_isVariable_29 (by decide)) ?_
    exact jJ_zret hx hb hr hlocks dX2_isVariable_30 (by show _ ≤ 0; omega) (by show _ ≤ 0; omega) (Or.inl rfl) ⟨by rw [show isV n = false from by simp [isV]; omega]; rfl, rfl, rfl, rfl⟩
  · refine jJ_of (fun H locs => lv_lload_n hx hb dX2_isVariable_6 rfl (lv_at hl 1 rfl)) ?_
    refine jJ_of (fun H locs => lv_ldc2 (v := (lI 199)) hx hb hown (by rw [show (lI 199) = (199 : Int64) from by decide]; exact (hts (.constantLong RX2 32 (199)) (by decide +kernel))) dX2_isVariable_7) ?_
    refine jJ_of (fun H locs => W.lcmp hx hb dX2_isVariable_10) ?_
    refine jJ_of2 (fun H locs => jl_if_gt (tgt := 29) hx hb dX2_isVariable_11 (by decide) (by omega) (by omega) (by omega) (by omega)) (fun c11 => ?_) (fun c11 => ?_)
    · refine jJ_of (fun H locs => lv_iconst (v := (nI 0)) hx hb dX2_isVariable_29 (by decide)) ?_
      exact jJ_zret hx hb hr hlocks dX2_isVariable_30 (by show _ ≤ 0; omega) (by show _ ≤ 0; omega) (Or.inl rfl) ⟨by rw [show isV n = false from by simp [isV]; omega]; rfl, rfl, rfl, rfl⟩
    · refine jJ_of (fun H locs => lv_lload_n hx hb dX2_isVariable_14 rfl (lv_at hl 1 rfl)) ?_
      refine jJ_of (fun H locs => lv_aload_n hx hb dX2_isVariable_15 rfl (lv_at hl 0 rfl)) ?_
      refine jJ_get hx hb (C := RX2) (T := TX2) (N := 6) hts uX2_in_X2_isVariable hown hK 0 rfl rfl 0 (by decide) (hts (.fieldLink RX2 9 "ValueBlocks$Machine" "variables" "[J") (by decide +kernel)) (fun _ h9 => h9) rfl dX2_isVariable_16 ?_
      refine jJ_alen hx hb hK 1 1 rfl rfl (v := nI 200) rfl dX2_isVariable_19 ?_
      refine jJ_of (fun H locs => jn_i2l hx hb dX2_isVariable_20 (by omega)) ?_
      refine jJ_of (fun H locs => W.lcmp hx hb dX2_isVariable_21) ?_
      refine jJ_of2 (fun H locs => jl_if_ge (tgt := 29) hx hb dX2_isVariable_22 (by decide) (by omega) (by omega) (by omega) (by omega)) (fun c22 => ?_) (fun c22 => ?_)
      · omega
      · refine jJ_of (fun H locs => lv_iconst (v := (nI 1)) hx hb dX2_isVariable_25 (by decide)) ?_
        refine jJ_of (fun H locs => lv_goto (tgt := 30) hx hb dX2_isVariable_26 (by decide)) ?_
        exact jJ_zret hx hb hr hlocks dX2_isVariable_30 (by show _ ≤ 0; omega) (by show _ ≤ 0; omega) (Or.inr rfl) ⟨by rw [show isV n = true from by simp [isV]; omega]; rfl, rfl, rfl, rfl⟩
theorem uX2_in_X2_valueOf : ∀ w ∈ u_ws RX2 TX2 6, w ∈ wsX2_valueOf := by decide +kernel
set_option maxHeartbeats 4000000 in
set_option maxRecDepth 100000 in
/-- valueOf(n) -/
theorem c_Mach_valueOf {h al an sp : Nat} {vs : Nat → Int} {st : List Int} {w : va_W} (hw : jMach cJ h vs st al an sp w) (n : Int) (hn1 : -2147483648 ≤ n) (hn2 : n < 2147483648) : HM l yX2_valueOf wsX2_valueOf ({ frames := 1, cells := 0, slots := 0, locals := 40 } : Room) D G (jT cI cJ cB cZ) [.ref h, .int (iI n)] w (fun v u k n_ => v = some (.long (lI (mGet vs n))) ∧ u = w ∧ k = 0 ∧ n_ = 0) := by
  refine HM_of (cc := cX2_valueOf) (maxL := 2) (ret := (some .long)) (lv := [(0, .ref h), (1, .int (iI n))]) (by decide) rfl rfl (Nat.le_of_ble_eq_true rfl) (fun p e s m args below meth c A0 ls hx hb hr hts hown hlocks hml hnm hK hA hAm hl => ?_)
  refine jJ_of (fun H locs => lv_aload_n hx hb dX2_valueOf_0 rfl (lv_at hl 0 rfl)) ?_
  refine jJ_of (fun H locs => lv_iload_n hx hb dX2_valueOf_1 rfl (lv_at hl 1 rfl)) ?_
  refine jJ_of (fun H locs => jz_i2l hx hb dX2_valueOf_2 (by omega) (by omega)) ?_
  refine jJ_callV (As := [.long (lI n)]) (rest := []) (wc := _) (cs2 := []) (C := RX2) (T := TX2) (N := 6) (ci := 1) [0] [] ⟨hx, hb, hml, hown, hts⟩ hK hA hAm (c_Mach_isV hw n (by omega) (by omega)) (cwV 1 hts gX2_valueOf_X2_isVariable rfl rfl rfl (by decide +kernel) ⟨Nat.le_of_ble_eq_true rfl, Nat.le_of_ble_eq_true rfl⟩) (nn := 1) rfl (by decide) rfl rfl hw.hd rfl rfl rfl hl.1 (Nat.le_of_ble_eq_true rfl) dX2_valueOf_3 (by show _ + 0 ≤ 0; omega) (by show _ + 0 ≤ 0; omega) (fun v u1 k1 n1 hq1 => ?_)
  obtain ⟨rfl, hw1, rfl, rfl⟩ := hq1
  rw [hw1]
  refine jJ_eq (g2 := F0 m 6 ls [.int (bI (isV n))]) (cs2 := [w]) rfl rfl ?_
  refine jJ_of2 (fun H locs => jb_if_eq (tgt := 18) hx hb dX2_valueOf_6 (by decide)) (fun c6 => ?_) (fun c6 => ?_)
  · refine jJ_of (fun H locs => jn_lconst (v := 0) hx hb dX2_valueOf_18 rfl) ?_
    exact jJ_lret hx hb hr hlocks dX2_valueOf_19 (by show _ ≤ 0; omega) (by show _ ≤ 0; omega) ⟨by rw [show mGet vs n = 0 from if_neg (by rw [c6]; decide)], rfl, rfl, rfl⟩
  · have hnb : 1 ≤ n ∧ n ≤ 199 := by simpa [isV] using c6
    obtain ⟨aV, aP, f, g, rfl, hf, hg, hst, hvb, hsb, hal, han, hsp⟩ := hw
    refine jJ_open (xs := [[(h, .inr (1, [.ref aV, .ref aP, .int (nI st.length), .int (nI al), .int (nI an), .int (nI sp)]))], [(aV, .inl (cJ, 200, .inr (.inl f)))], [(aP, .inl (cJ, 80, .inr (.inl g)))]]) (r := []) (cs2 := [[(h, .inr (1, [.ref aV, .ref aP, .int (nI st.length), .int (nI al), .int (nI an), .int (nI sp)]))], [(aV, .inl (cJ, 200, .inr (.inl f)))], [(aP, .inl (cJ, 80, .inr (.inl g)))]]) rfl ?_
    refine jJ_of (fun H locs => lv_aload_n hx hb dX2_valueOf_9 rfl (lv_at hl 0 rfl)) ?_
    refine jJ_get hx hb (C := RX2) (T := TX2) (N := 6) hts uX2_in_X2_valueOf hown hK 0 rfl rfl 0 (by decide) (hts (.fieldLink RX2 9 "ValueBlocks$Machine" "variables" "[J") (by decide +kernel)) (fun _ h9 => h9) rfl dX2_valueOf_10 ?_
    refine jJ_of (fun H locs => lv_iload_n hx hb dX2_valueOf_13 rfl (lv_at hl 1 rfl)) ?_
    refine jJ_lald hx hb hK 1 1 (f := f) rfl rfl (vp_in_iI (by omega) (by omega) (by omega)) (x := (lI (vs n.toNat))) (by rw [iI_toNatC (by omega) (by omega)]; exact hf _ (by omega)) dX2_valueOf_14 ?_
    refine jJ_of (fun H locs => lv_goto (tgt := 19) hx hb dX2_valueOf_15 (by decide)) ?_
    exact jJ_lret hx hb hr hlocks dX2_valueOf_19 (by show _ ≤ 0; omega) (by show _ ≤ 0; omega) ⟨by rw [show mGet vs n = vs n.toNat from if_pos c6], rfl, rfl, rfl⟩
theorem uX2_in_X2_setValue : ∀ w ∈ u_ws RX2 TX2 6, w ∈ wsX2_setValue := by decide +kernel
set_option maxHeartbeats 4000000 in
set_option maxRecDepth 100000 in
/-- setValue(n, z) -/
theorem c_Mach_setValue {h al an sp : Nat} {vs : Nat → Int} {st : List Int} {w : va_W} (hw : jMach cJ h vs st al an sp w) (n z : Int) (hn1 : -2147483648 ≤ n) (hn2 : n < 2147483648) (hz1 : -9223372036854775808 ≤ z) (hz2 : z < 9223372036854775808) : HM l yX2_setValue wsX2_setValue ({ frames := 1, cells := 0, slots := 0, locals := 40 } : Room) D G (jT cI cJ cB cZ) [.ref h, .int (iI n), .long (lI z)] w (fun v u k n_ => v = some (.int (bI (isV n && !vTG z))) ∧ jMach cJ h (mSet vs n z) st al an sp u ∧ k = 0 ∧ n_ = 0) := by
  refine HM_of (cc := cX2_setValue) (maxL := 4) (ret := (some .boolean)) (lv := [(0, .ref h), (1, .int (iI n)), (2, .long (lI z))]) (by decide) rfl rfl (Nat.le_of_ble_eq_true rfl) (fun p e s m args below meth c A0 ls hx hb hr hts hown hlocks hml hnm hK hA hAm hl => ?_)
  refine jJ_of (fun H locs => lv_aload_n hx hb dX2_setValue_0 rfl (lv_at hl 0 rfl)) ?_
  refine jJ_of (fun H locs => lv_iload_n hx hb dX2_setValue_1 rfl (lv_at hl 1 rfl)) ?_
  refine jJ_of (fun H locs => jz_i2l hx hb dX2_setValue_2 (by omega) (by omega)) ?_
  refine jJ_callV (As := [.long (lI n)]) (rest := []) (wc := _) (cs2 := []) (C := RX2) (T := TX2) (N := 6) (ci := 1) [0] [] ⟨hx, hb, hml, hown, hts⟩ hK hA hAm (c_Mach_isV hw n (by omega) (by omega)) (cwV 1 hts gX2_setValue_X2_isVariable rfl rfl rfl (by decide +kernel) ⟨Nat.le_of_ble_eq_true rfl, Nat.le_of_ble_eq_true rfl⟩) (nn := 1) rfl (by decide) rfl rfl hw.hd rfl rfl rfl hl.1 (Nat.le_of_ble_eq_true rfl) dX2_setValue_3 (by show _ + 0 ≤ 0; omega) (by show _ + 0 ≤ 0; omega) (fun v u1 k1 n1 hq1 => ?_)
  obtain ⟨rfl, hw1, rfl, rfl⟩ := hq1
  rw [hw1]
  refine jJ_eq (g2 := F0 m 6 ls [.int (bI (isV n))]) (cs2 := [w]) rfl rfl ?_
  refine jJ_of2 (fun H locs => jb_if_eq (tgt := 16) hx hb dX2_setValue_6 (by decide)) (fun c6 => ?_) (fun c6 => ?_)
  · have hno : (isV n && !vTG z) = false := by first | (rw [c6]; rfl) | (rw [c13]; cases isV n <;> rfl)
    have hno2 : ¬ (isV n = true ∧ vTG z = false) := by intro q; rw [q.1, q.2] at hno; exact absurd hno (by decide)
    refine jJ_of (fun H locs => lv_iconst (v := (nI 0)) hx hb dX2_setValue_16 (by decide)) ?_
    exact jJ_zret hx hb hr hlocks dX2_setValue_17 (by show _ ≤ 0; omega) (by show _ ≤ 0; omega) (Or.inl rfl) ⟨by rw [show (isV n && !vTG z) = false from hno]; rfl, by rw [show mSet vs n z = vs from if_neg hno2]; exact hw, rfl, rfl⟩
  · refine jJ_of (fun H locs => lv_lload_n hx hb dX2_setValue_9 rfl (lv_at hl 2 rfl)) ?_
    refine jJ_callS (As := [.long (lI z)]) (rest := []) (wc := _) (cs2 := [w]) [] [0] ⟨hx, hb, hml, hown, hts⟩ hK hA hAm (c_isTooGreat z (by omega) (by omega)) (va_cwS 1 hts gX2_setValue_X7_isTooGreat rfl rfl rfl (by decide +kernel) ⟨Nat.le_of_ble_eq_true rfl, Nat.le_of_ble_eq_true rfl⟩) (nn := 1) rfl (by decide) rfl rfl rfl rfl hl.1 (Nat.le_of_ble_eq_true rfl) dX2_setValue_10 (by show _ + 0 ≤ 0; omega) (by show _ + 0 ≤ 0; omega) (fun v u2 k2 n2 hq2 => ?_)
    obtain ⟨rfl, rfl, rfl, rfl⟩ := hq2
    refine jJ_eq (g2 := F0 m 13 ls [.int (bI (vTG z))]) (cs2 := [([] : va_W), w]) rfl rfl ?_
    refine jJ_flat (cs2 := [w]) rfl ?_
    refine jJ_of2 (fun H locs => jb_if_eq (tgt := 18) hx hb dX2_setValue_13 (by decide)) (fun c13 => ?_) (fun c13 => ?_)
    · have hnb : 1 ≤ n ∧ n ≤ 199 := by simpa [isV] using c6
      obtain ⟨aV, aP, f, g, rfl, hf, hg, hst, hvb, hsb, hal, han, hsp⟩ := hw
      refine jJ_open (xs := [[(h, .inr (1, [.ref aV, .ref aP, .int (nI st.length), .int (nI al), .int (nI an), .int (nI sp)]))], [(aV, .inl (cJ, 200, .inr (.inl f)))], [(aP, .inl (cJ, 80, .inr (.inl g)))]]) (r := []) (cs2 := [[(h, .inr (1, [.ref aV, .ref aP, .int (nI st.length), .int (nI al), .int (nI an), .int (nI sp)]))], [(aV, .inl (cJ, 200, .inr (.inl f)))], [(aP, .inl (cJ, 80, .inr (.inl g)))]]) rfl ?_
      refine jJ_of (fun H locs => lv_aload_n hx hb dX2_setValue_18 rfl (lv_at hl 0 rfl)) ?_
      refine jJ_get hx hb (C := RX2) (T := TX2) (N := 6) hts uX2_in_X2_setValue hown hK 0 rfl rfl 0 (by decide) (hts (.fieldLink RX2 9 "ValueBlocks$Machine" "variables" "[J") (by decide +kernel)) (fun _ h9 => h9) rfl dX2_setValue_19 ?_
      refine jJ_of (fun H locs => lv_iload_n hx hb dX2_setValue_22 rfl (lv_at hl 1 rfl)) ?_
      refine jJ_of (fun H locs => lv_lload_n hx hb dX2_setValue_23 rfl (lv_at hl 2 rfl)) ?_
      refine jJ_last hx hb hK 1 1 rfl rfl (vp_in_iI (by omega) (by omega) (by omega)) dX2_setValue_24 (cs2 := [[(h, .inr (1, [.ref aV, .ref aP, .int (nI st.length), .int (nI al), .int (nI an), .int (nI sp)]))], [(aV, .inl (cJ, 200, .inr (.inl (vp_updL f (Int32.toNatClampNeg (iI n)) (lI z)))))], [(aP, .inl (cJ, 80, .inr (.inl g)))]]) rfl ?_
      refine jJ_of (fun H locs => lv_iconst (v := (nI 1)) hx hb dX2_setValue_25 (by decide)) ?_
      exact jJ_zret hx hb hr hlocks dX2_setValue_26 (by show _ ≤ 0; omega) (by show _ ≤ 0; omega) (Or.inr rfl) ⟨by rw [c6, c13]; rfl, ⟨aV, aP, _, _, rfl, fun i hi => by rw [iI_toNatC (by omega) (by omega), show mSet vs n z = va_up vs n.toNat z from if_pos ⟨c6, c13⟩]; unfold vp_updL va_up; split; rfl; exact hf i hi, hg, hst, fun i => by rw [show mSet vs n z = va_up vs n.toNat z from if_pos ⟨c6, c13⟩]; unfold va_up; split; exact vTG_ok c13; exact hvb i, hsb, hal, han, hsp⟩, rfl, rfl⟩
    · have hno : (isV n && !vTG z) = false := by first | (rw [c6]; rfl) | (rw [c13]; cases isV n <;> rfl)
      have hno2 : ¬ (isV n = true ∧ vTG z = false) := by intro q; rw [q.1, q.2] at hno; exact absurd hno (by decide)
      refine jJ_of (fun H locs => lv_iconst (v := (nI 0)) hx hb dX2_setValue_16 (by decide)) ?_
      exact jJ_zret hx hb hr hlocks dX2_setValue_17 (by show _ ≤ 0; omega) (by show _ ≤ 0; omega) (Or.inl rfl) ⟨by rw [show (isV n && !vTG z) = false from hno]; rfl, by rw [show mSet vs n z = vs from if_neg hno2]; exact hw, rfl, rfl⟩
theorem uX2_in_X2_push : ∀ w ∈ u_ws RX2 TX2 6, w ∈ wsX2_push := by decide +kernel
set_option maxHeartbeats 4000000 in
set_option maxRecDepth 100000 in
/-- push(x) -/
theorem c_Mach_push {h al an sp : Nat} {vs : Nat → Int} {st : List Int} {w : va_W} (hw : jMach cJ h vs st al an sp w) (x : Int) (hxo : vOK x) : HM l yX2_push wsX2_push ({ frames := 0, cells := 0, slots := 0, locals := 0 } : Room) D G (jT cI cJ cB cZ) [.ref h, .long (lI x)] w (fun v u k n_ => v = none ∧ jMach cJ h vs (mPush st x) al an sp u ∧ k = 0 ∧ n_ = 0) := by
  refine HM_of (cc := cX2_push) (maxL := 3) (ret := none) (lv := [(0, .ref h), (1, .long (lI x))]) (by decide) rfl rfl (Nat.le_of_ble_eq_true rfl) (fun p e s m args below meth c A0 ls hx hb hr hts hown hlocks hml hnm hK hA hAm hl => ?_)
  obtain ⟨aV, aP, f, g, rfl, hf, hg, hst, hvb, hsb, hal, han, hsp⟩ := hw
  refine jJ_open (xs := [[(h, .inr (1, [.ref aV, .ref aP, .int (nI st.length), .int (nI al), .int (nI an), .int (nI sp)]))], [(aV, .inl (cJ, 200, .inr (.inl f)))], [(aP, .inl (cJ, 80, .inr (.inl g)))]]) (r := []) (cs2 := [[(h, .inr (1, [.ref aV, .ref aP, .int (nI st.length), .int (nI al), .int (nI an), .int (nI sp)]))], [(aV, .inl (cJ, 200, .inr (.inl f)))], [(aP, .inl (cJ, 80, .inr (.inl g)))]]) rfl ?_
  refine jJ_of (fun H locs => lv_aload_n hx hb dX2_push_0 rfl (lv_at hl 0 rfl)) ?_
  refine jJ_get hx hb (C := RX2) (T := TX2) (N := 6) hts uX2_in_X2_push hown hK 0 rfl rfl 2 (by decide) (hts (.fieldLink RX2 47 "ValueBlocks$Machine" "height" "I") (by decide +kernel)) (fun _ h9 => h9) rfl dX2_push_1 ?_
  refine jJ_of2 (fun H locs => jn_if_lt (tgt := 39) hx hb dX2_push_4 (by decide) (by omega)) (fun c4 => ?_) (fun c4 => ?_)
  · omega
  · refine jJ_of (fun H locs => lv_aload_n hx hb dX2_push_7 rfl (lv_at hl 0 rfl)) ?_
    refine jJ_get hx hb (C := RX2) (T := TX2) (N := 6) hts uX2_in_X2_push hown hK 0 rfl rfl 2 (by decide) (hts (.fieldLink RX2 47 "ValueBlocks$Machine" "height" "I") (by decide +kernel)) (fun _ h9 => h9) rfl dX2_push_8 ?_
    refine jJ_of (fun H locs => lv_aload_n hx hb dX2_push_11 rfl (lv_at hl 0 rfl)) ?_
    refine jJ_get hx hb (C := RX2) (T := TX2) (N := 6) hts uX2_in_X2_push hown hK 0 rfl rfl 1 (by decide) (hts (.fieldLink RX2 13 "ValueBlocks$Machine" "pile" "[J") (by decide +kernel)) (fun _ h9 => h9) rfl dX2_push_12 ?_
    refine jJ_alen hx hb hK 2 1 rfl rfl (v := nI 80) rfl dX2_push_15 ?_
    refine jJ_of2 (fun H locs => jn_icmp_ge (tgt := 39) hx hb dX2_push_16 (by decide) (by omega) (by omega)) (fun c16 => ?_) (fun c16 => ?_)
    · exact jJ_vret hx hb hr hlocks dX2_push_39 (by show _ ≤ 0; omega) (by show _ ≤ 0; omega) ⟨rfl, by rw [show mPush st x = st from if_neg (by omega)]; exact ⟨aV, aP, f, g, rfl, hf, hg, hst, hvb, hsb, hal, han, hsp⟩, rfl, rfl⟩
    · refine jJ_of (fun H locs => lv_aload_n hx hb dX2_push_19 rfl (lv_at hl 0 rfl)) ?_
      refine jJ_get hx hb (C := RX2) (T := TX2) (N := 6) hts uX2_in_X2_push hown hK 0 rfl rfl 1 (by decide) (hts (.fieldLink RX2 13 "ValueBlocks$Machine" "pile" "[J") (by decide +kernel)) (fun _ h9 => h9) rfl dX2_push_20 ?_
      refine jJ_of (fun H locs => lv_aload_n hx hb dX2_push_23 rfl (lv_at hl 0 rfl)) ?_
      refine jJ_get hx hb (C := RX2) (T := TX2) (N := 6) hts uX2_in_X2_push hown hK 0 rfl rfl 2 (by decide) (hts (.fieldLink RX2 47 "ValueBlocks$Machine" "height" "I") (by decide +kernel)) (fun _ h9 => h9) rfl dX2_push_24 ?_
      refine jJ_of (fun H locs => lv_lload_n hx hb dX2_push_27 rfl (lv_at hl 1 rfl)) ?_
      refine jJ_last hx hb hK 2 1 rfl rfl (vp_in_nI (by omega) (by omega)) dX2_push_28 (cs2 := [[(h, .inr (1, [.ref aV, .ref aP, .int (nI st.length), .int (nI al), .int (nI an), .int (nI sp)]))], [(aV, .inl (cJ, 200, .inr (.inl f)))], [(aP, .inl (cJ, 80, .inr (.inl (vp_updL g (Int32.toNatClampNeg (nI st.length)) (lI x)))))]]) rfl ?_
      refine jJ_of (fun H locs => lv_aload_n hx hb dX2_push_29 rfl (lv_at hl 0 rfl)) ?_
      refine jJ_of (fun H locs => lv_dup hx hb dX2_push_30 rfl) ?_
      refine jJ_get hx hb (C := RX2) (T := TX2) (N := 6) hts uX2_in_X2_push hown hK 0 rfl rfl 2 (by decide) (hts (.fieldLink RX2 47 "ValueBlocks$Machine" "height" "I") (by decide +kernel)) (fun _ h9 => h9) rfl dX2_push_31 ?_
      refine jJ_of (fun H locs => lv_iconst (v := (nI 1)) hx hb dX2_push_34 (by decide)) ?_
      refine jJ_of (fun H locs => jn_iadd hx hb dX2_push_35) ?_
      refine jJ_put hx hb (C := RX2) (T := TX2) (N := 6) (ty := .int) (v := .int (nI (st.length + 1))) hts uX2_in_X2_push tyX2 tyX2_ok nmX2 hown hK 0 rfl rfl 2 (by decide) (hts (.fieldLink RX2 47 "ValueBlocks$Machine" "height" "I") (by decide +kernel)) (fun _ h9 => h9) rfl (by decide +kernel) rfl rfl (Nat.le_of_ble_eq_true rfl) dX2_push_36 (cs2 := [[(h, .inr (1, [.ref aV, .ref aP, .int (nI (st.length + 1)), .int (nI al), .int (nI an), .int (nI sp)]))], [(aV, .inl (cJ, 200, .inr (.inl f)))], [(aP, .inl (cJ, 80, .inr (.inl (vp_updL g (Int32.toNatClampNeg (nI st.length)) (lI x)))))]]) rfl ?_
      exact jJ_vret hx hb hr hlocks dX2_push_39 (by show _ ≤ 0; omega) (by show _ ≤ 0; omega) ⟨rfl, ⟨aV, aP, _, _, by rw [show mPush st x = x :: st from if_pos (by omega)]; rfl, hf, by rw [show mPush st x = x :: st from if_pos (by omega), nI_clamp (by omega)]; exact mPsh hg, by rw [show mPush st x = x :: st from if_pos (by omega), List.length_cons]; omega, hvb, mPushOK hsb hxo, hal, han, hsp⟩, rfl, rfl⟩
theorem uX2_in_X2_pop : ∀ w ∈ u_ws RX2 TX2 6, w ∈ wsX2_pop := by decide +kernel
set_option maxHeartbeats 4000000 in
set_option maxRecDepth 100000 in
/-- pop() -/
theorem c_Mach_pop {h al an sp : Nat} {vs : Nat → Int} {st : List Int} {w : va_W} (hw : jMach cJ h vs st al an sp w) : HM l yX2_pop wsX2_pop ({ frames := 0, cells := 0, slots := 0, locals := 0 } : Room) D G (jT cI cJ cB cZ) [.ref h] w (fun v u k n_ => v = some (.long (lI (st.headD 0))) ∧ jMach cJ h vs st.tail al an sp u ∧ k = 0 ∧ n_ = 0) := by
  refine HM_of (cc := cX2_pop) (maxL := 1) (ret := (some .long)) (lv := [(0, .ref h)]) (by decide) rfl rfl (Nat.le_of_ble_eq_true rfl) (fun p e s m args below meth c A0 ls hx hb hr hts hown hlocks hml hnm hK hA hAm hl => ?_)
  obtain ⟨aV, aP, f, g, rfl, hf, hg, hst, hvb, hsb, hal, han, hsp⟩ := hw
  refine jJ_open (xs := [[(h, .inr (1, [.ref aV, .ref aP, .int (nI st.length), .int (nI al), .int (nI an), .int (nI sp)]))], [(aV, .inl (cJ, 200, .inr (.inl f)))], [(aP, .inl (cJ, 80, .inr (.inl g)))]]) (r := []) (cs2 := [[(h, .inr (1, [.ref aV, .ref aP, .int (nI st.length), .int (nI al), .int (nI an), .int (nI sp)]))], [(aV, .inl (cJ, 200, .inr (.inl f)))], [(aP, .inl (cJ, 80, .inr (.inl g)))]]) rfl ?_
  refine jJ_of (fun H locs => lv_aload_n hx hb dX2_pop_0 rfl (lv_at hl 0 rfl)) ?_
  refine jJ_get hx hb (C := RX2) (T := TX2) (N := 6) hts uX2_in_X2_pop hown hK 0 rfl rfl 2 (by decide) (hts (.fieldLink RX2 47 "ValueBlocks$Machine" "height" "I") (by decide +kernel)) (fun _ h9 => h9) rfl dX2_pop_1 ?_
  refine jJ_of2 (fun H locs => jn_if_le (tgt := 19) hx hb dX2_pop_4 (by decide) (by omega)) (fun c4 => ?_) (fun c4 => ?_)
  · refine jJ_of (fun H locs => jn_lconst (v := 0) hx hb dX2_pop_19 rfl) ?_
    exact jJ_lret hx hb hr hlocks dX2_pop_20 (by show _ ≤ 0; omega) (by show _ ≤ 0; omega) ⟨by rw [show st = [] from List.eq_nil_of_length_eq_zero (by omega)]; rfl, by rw [show st.tail = st from by rw [show st = [] from List.eq_nil_of_length_eq_zero (by omega)]; rfl]; exact ⟨aV, aP, f, g, rfl, hf, hg, hst, hvb, hsb, hal, han, hsp⟩, rfl, rfl⟩
  · refine jJ_of (fun H locs => lv_aload_n hx hb dX2_pop_7 rfl (lv_at hl 0 rfl)) ?_
    refine jJ_get hx hb (C := RX2) (T := TX2) (N := 6) hts uX2_in_X2_pop hown hK 0 rfl rfl 2 (by decide) (hts (.fieldLink RX2 47 "ValueBlocks$Machine" "height" "I") (by decide +kernel)) (fun _ h9 => h9) rfl dX2_pop_8 ?_
    refine jJ_of (fun H locs => lv_aload_n hx hb dX2_pop_11 rfl (lv_at hl 0 rfl)) ?_
    refine jJ_get hx hb (C := RX2) (T := TX2) (N := 6) hts uX2_in_X2_pop hown hK 0 rfl rfl 1 (by decide) (hts (.fieldLink RX2 13 "ValueBlocks$Machine" "pile" "[J") (by decide +kernel)) (fun _ h9 => h9) rfl dX2_pop_12 ?_
    refine jJ_alen hx hb hK 2 1 rfl rfl (v := nI 80) rfl dX2_pop_15 ?_
    refine jJ_of2 (fun H locs => jn_icmp_le (tgt := 21) hx hb dX2_pop_16 (by decide) (by omega) (by omega)) (fun c16 => ?_) (fun c16 => ?_)
    · refine jJ_of (fun H locs => lv_aload_n hx hb dX2_pop_21 rfl (lv_at hl 0 rfl)) ?_
      refine jJ_of (fun H locs => lv_dup hx hb dX2_pop_22 rfl) ?_
      refine jJ_get hx hb (C := RX2) (T := TX2) (N := 6) hts uX2_in_X2_pop hown hK 0 rfl rfl 2 (by decide) (hts (.fieldLink RX2 47 "ValueBlocks$Machine" "height" "I") (by decide +kernel)) (fun _ h9 => h9) rfl dX2_pop_23 ?_
      refine jJ_of (fun H locs => lv_iconst (v := (nI 1)) hx hb dX2_pop_26 (by decide)) ?_
      refine jJ_of (fun H locs => jn_isub hx hb dX2_pop_27 (by omega)) ?_
      refine jJ_put hx hb (C := RX2) (T := TX2) (N := 6) (ty := .int) (v := .int (nI (st.length - 1))) hts uX2_in_X2_pop tyX2 tyX2_ok nmX2 hown hK 0 rfl rfl 2 (by decide) (hts (.fieldLink RX2 47 "ValueBlocks$Machine" "height" "I") (by decide +kernel)) (fun _ h9 => h9) rfl (by decide +kernel) rfl rfl (Nat.le_of_ble_eq_true rfl) dX2_pop_28 (cs2 := [[(h, .inr (1, [.ref aV, .ref aP, .int (nI (st.length - 1)), .int (nI al), .int (nI an), .int (nI sp)]))], [(aV, .inl (cJ, 200, .inr (.inl f)))], [(aP, .inl (cJ, 80, .inr (.inl g)))]]) rfl ?_
      refine jJ_of (fun H locs => lv_aload_n hx hb dX2_pop_31 rfl (lv_at hl 0 rfl)) ?_
      refine jJ_get hx hb (C := RX2) (T := TX2) (N := 6) hts uX2_in_X2_pop hown hK 0 rfl rfl 1 (by decide) (hts (.fieldLink RX2 13 "ValueBlocks$Machine" "pile" "[J") (by decide +kernel)) (fun _ h9 => h9) rfl dX2_pop_32 ?_
      refine jJ_of (fun H locs => lv_aload_n hx hb dX2_pop_35 rfl (lv_at hl 0 rfl)) ?_
      refine jJ_get hx hb (C := RX2) (T := TX2) (N := 6) hts uX2_in_X2_pop hown hK 0 rfl rfl 2 (by decide) (hts (.fieldLink RX2 47 "ValueBlocks$Machine" "height" "I") (by decide +kernel)) (fun _ h9 => h9) rfl dX2_pop_36 ?_
      refine jJ_lald hx hb hK 2 1 (f := g) rfl rfl (vp_in_nI (by omega) (by omega)) (x := (lI (st.headD 0))) (by rw [nI_clamp (by omega)]; exact (mPop hg (by omega)).1) dX2_pop_39 ?_
      exact jJ_lret hx hb hr hlocks dX2_pop_40 (by show _ ≤ 0; omega) (by show _ ≤ 0; omega) ⟨rfl, ⟨aV, aP, f, g, by rw [List.length_tail], hf, (mPop hg (by omega)).2, by rw [List.length_tail]; omega, hvb, vTail hsb, hal, han, hsp⟩, rfl, rfl⟩
    · omega
theorem uX2_in_X2_checkedPlace : ∀ w ∈ u_ws RX2 TX2 6, w ∈ wsX2_checkedPlace := by decide +kernel
set_option maxHeartbeats 4000000 in
set_option maxRecDepth 100000 in
/-- checkedPlace(x) -/
theorem c_Mach_checkedPlace {h al an sp : Nat} {vs : Nat → Int} {st : List Int} {w : va_W} (hw : jMach cJ h vs st al an sp w) (x : Int) (hx1 : -1000000000000 ≤ x) (hx2 : x ≤ 1000000000000) : HM l yX2_checkedPlace wsX2_checkedPlace ({ frames := 1, cells := 0, slots := 0, locals := 40 } : Room) D G (jT cI cJ cB cZ) [.ref h, .long (lI x)] w (fun v u k n_ => v = some (.long (lI (cPn x))) ∧ jMach cJ h vs st (cPa x al) an sp u ∧ k = 0 ∧ n_ = 0) := by
  refine HM_of (cc := cX2_checkedPlace) (maxL := 5) (ret := (some .long)) (lv := [(0, .ref h), (1, .long (lI x))]) (by decide) rfl rfl (Nat.le_of_ble_eq_true rfl) (fun p e s m args below meth c A0 ls hx hb hr hts hown hlocks hml hnm hK hA hAm hl => ?_)
  have hq1 : (x.tdiv 1000).natAbs ≤ x.natAbs := by rw [Int.natAbs_tdiv]; exact Nat.div_le_self _ _
  refine jJ_of (fun H locs => lv_lload_n hx hb dX2_checkedPlace_0 rfl (lv_at hl 1 rfl)) ?_
  refine jJ_of (fun H locs => lv_ldc2 (v := (lI 1000)) hx hb hown (by rw [show (lI 1000) = (1000 : Int64) from by decide]; exact (hts (.constantLong RX2 91 (1000)) (by decide +kernel))) dX2_checkedPlace_1) ?_
  refine jJ_of (fun H locs => jl_ldiv hx hb dX2_checkedPlace_4 (by omega) (by omega) (by omega) (by omega) (by omega)) ?_
  refine jJ_ofL (fun H locs => lv_lstore_n (lv' := [(3, .long (lI (Int.tdiv x 1000))), (0, .ref h), (1, .long (lI x))]) hx hb dX2_checkedPlace_5 rfl hl (by decide) rfl) (fun ls hl => ?_)
  refine jJ_of (fun H locs => lv_lload_n hx hb dX2_checkedPlace_6 rfl (lv_at hl 0 rfl)) ?_
  refine jJ_of (fun H locs => lv_ldc2 (v := (lI 1000)) hx hb hown (by rw [show (lI 1000) = (1000 : Int64) from by decide]; exact (hts (.constantLong RX2 91 (1000)) (by decide +kernel))) dX2_checkedPlace_7) ?_
  refine jJ_of (fun H locs => jl_lmul hx hb dX2_checkedPlace_10) ?_
  refine jJ_of (fun H locs => lv_lload_n hx hb dX2_checkedPlace_11 rfl (lv_at hl 2 rfl)) ?_
  refine jJ_of (fun H locs => W.lcmp hx hb dX2_checkedPlace_12) ?_
  refine jJ_of2 (fun H locs => jl_if_ne (tgt := 24) hx hb dX2_checkedPlace_13 (by decide) (by omega) (by omega) (by omega) (by omega)) (fun c13 => ?_) (fun c13 => ?_)
  · have hno : ¬ (x.tdiv 1000 * 1000 = x ∧ isV (x.tdiv 1000) = true) := by first | (intro q; exact c13 q.1) | (intro q; rw [c21] at q; exact absurd q.2 (by decide))
    obtain ⟨aV, aP, f, g, rfl, hf, hg, hst, hvb, hsb, hal, han, hsp⟩ := hw
    refine jJ_open (xs := [[(h, .inr (1, [.ref aV, .ref aP, .int (nI st.length), .int (nI al), .int (nI an), .int (nI sp)]))], [(aV, .inl (cJ, 200, .inr (.inl f)))], [(aP, .inl (cJ, 80, .inr (.inl g)))]]) (r := []) (cs2 := [[(h, .inr (1, [.ref aV, .ref aP, .int (nI st.length), .int (nI al), .int (nI an), .int (nI sp)]))], [(aV, .inl (cJ, 200, .inr (.inl f)))], [(aP, .inl (cJ, 80, .inr (.inl g)))]]) rfl ?_
    refine jJ_of (fun H locs => lv_aload_n hx hb dX2_checkedPlace_24 rfl (lv_at hl 1 rfl)) ?_
    refine jJ_of (fun H locs => lv_iconst (v := (nI 2)) hx hb dX2_checkedPlace_25 (by decide)) ?_
    refine jJ_put hx hb (C := RX2) (T := TX2) (N := 6) (ty := .int) (v := .int (nI 2)) hts uX2_in_X2_checkedPlace tyX2 tyX2_ok nmX2 hown hK 0 rfl rfl 3 (by decide) (hts (.fieldLink RX2 34 "ValueBlocks$Machine" "alarm" "I") (by decide +kernel)) (fun _ h9 => h9) rfl (by decide +kernel) rfl rfl (Nat.le_of_ble_eq_true rfl) dX2_checkedPlace_26 (cs2 := [[(h, .inr (1, [.ref aV, .ref aP, .int (nI st.length), .int (nI 2), .int (nI an), .int (nI sp)]))], [(aV, .inl (cJ, 200, .inr (.inl f)))], [(aP, .inl (cJ, 80, .inr (.inl g)))]]) rfl ?_
    refine jJ_of (fun H locs => jn_lconst (v := 0) hx hb dX2_checkedPlace_29 rfl) ?_
    exact jJ_lret hx hb hr hlocks dX2_checkedPlace_30 (by show _ ≤ 0; omega) (by show _ ≤ 0; omega) ⟨by rw [show cPn x = 0 from if_neg hno], by rw [show cPa x al = 2 from if_neg hno]; exact ⟨aV, aP, f, g, rfl, hf, hg, hst, hvb, hsb, by omega, han, hsp⟩, rfl, rfl⟩
  · refine jJ_of (fun H locs => lv_aload_n hx hb dX2_checkedPlace_16 rfl (lv_at hl 1 rfl)) ?_
    refine jJ_of (fun H locs => lv_lload_n hx hb dX2_checkedPlace_17 rfl (lv_at hl 0 rfl)) ?_
    refine jJ_callV (As := [.long (lI (Int.tdiv x 1000))]) (rest := []) (wc := _) (cs2 := []) (C := RX2) (T := TX2) (N := 6) (ci := 1) [0] [] ⟨hx, hb, hml, hown, hts⟩ hK hA hAm (c_Mach_isV hw (Int.tdiv x 1000) (by omega) (by omega)) (cwV 1 hts gX2_checkedPlace_X2_isVariable rfl rfl rfl (by decide +kernel) ⟨Nat.le_of_ble_eq_true rfl, Nat.le_of_ble_eq_true rfl⟩) (nn := 1) rfl (by decide) rfl rfl hw.hd rfl rfl rfl hl.1 (Nat.le_of_ble_eq_true rfl) dX2_checkedPlace_18 (by show _ + 0 ≤ 0; omega) (by show _ + 0 ≤ 0; omega) (fun v u1 k1 n1 hq1 => ?_)
    obtain ⟨rfl, hw1, rfl, rfl⟩ := hq1
    rw [hw1]
    refine jJ_eq (g2 := F0 m 21 ls [.int (bI (isV (Int.tdiv x 1000)))]) (cs2 := [w]) rfl rfl ?_
    refine jJ_of2 (fun H locs => jb_if_ne (tgt := 31) hx hb dX2_checkedPlace_21 (by decide)) (fun c21 => ?_) (fun c21 => ?_)
    · refine jJ_of (fun H locs => lv_lload_n hx hb dX2_checkedPlace_31 rfl (lv_at hl 0 rfl)) ?_
      exact jJ_lret hx hb hr hlocks dX2_checkedPlace_32 (by show _ ≤ 0; omega) (by show _ ≤ 0; omega) ⟨by rw [show cPn x = x.tdiv 1000 from if_pos ⟨c13, c21⟩], by rw [show cPa x al = al from if_pos ⟨c13, c21⟩]; exact hw, rfl, rfl⟩
    · have hno : ¬ (x.tdiv 1000 * 1000 = x ∧ isV (x.tdiv 1000) = true) := by first | (intro q; exact c13 q.1) | (intro q; rw [c21] at q; exact absurd q.2 (by decide))
      obtain ⟨aV, aP, f, g, rfl, hf, hg, hst, hvb, hsb, hal, han, hsp⟩ := hw
      refine jJ_open (xs := [[(h, .inr (1, [.ref aV, .ref aP, .int (nI st.length), .int (nI al), .int (nI an), .int (nI sp)]))], [(aV, .inl (cJ, 200, .inr (.inl f)))], [(aP, .inl (cJ, 80, .inr (.inl g)))]]) (r := []) (cs2 := [[(h, .inr (1, [.ref aV, .ref aP, .int (nI st.length), .int (nI al), .int (nI an), .int (nI sp)]))], [(aV, .inl (cJ, 200, .inr (.inl f)))], [(aP, .inl (cJ, 80, .inr (.inl g)))]]) rfl ?_
      refine jJ_of (fun H locs => lv_aload_n hx hb dX2_checkedPlace_24 rfl (lv_at hl 1 rfl)) ?_
      refine jJ_of (fun H locs => lv_iconst (v := (nI 2)) hx hb dX2_checkedPlace_25 (by decide)) ?_
      refine jJ_put hx hb (C := RX2) (T := TX2) (N := 6) (ty := .int) (v := .int (nI 2)) hts uX2_in_X2_checkedPlace tyX2 tyX2_ok nmX2 hown hK 0 rfl rfl 3 (by decide) (hts (.fieldLink RX2 34 "ValueBlocks$Machine" "alarm" "I") (by decide +kernel)) (fun _ h9 => h9) rfl (by decide +kernel) rfl rfl (Nat.le_of_ble_eq_true rfl) dX2_checkedPlace_26 (cs2 := [[(h, .inr (1, [.ref aV, .ref aP, .int (nI st.length), .int (nI 2), .int (nI an), .int (nI sp)]))], [(aV, .inl (cJ, 200, .inr (.inl f)))], [(aP, .inl (cJ, 80, .inr (.inl g)))]]) rfl ?_
      refine jJ_of (fun H locs => jn_lconst (v := 0) hx hb dX2_checkedPlace_29 rfl) ?_
      exact jJ_lret hx hb hr hlocks dX2_checkedPlace_30 (by show _ ≤ 0; omega) (by show _ ≤ 0; omega) ⟨by rw [show cPn x = 0 from if_neg hno], by rw [show cPa x al = 2 from if_neg hno]; exact ⟨aV, aP, f, g, rfl, hf, hg, hst, hvb, hsb, by omega, han, hsp⟩, rfl, rfl⟩
set_option maxHeartbeats 4000000 in
set_option maxRecDepth 100000 in
/-- load() -/
theorem c_Mach_load {h al an sp : Nat} {vs : Nat → Int} {st : List Int} {w : va_W} (hw : jMach cJ h vs st al an sp w) : HM l yX2_load wsX2_load ({ frames := 2, cells := 0, slots := 0, locals := 80 } : Room) D G (jT cI cJ cB cZ) [.ref h] w (fun v u k n_ => v = none ∧ jMach cJ h (eLoad (vs, st, al)).1 (eLoad (vs, st, al)).2.1 (eLoad (vs, st, al)).2.2 an sp u ∧ k = 0 ∧ n_ = 0) := by
  refine HM_of (cc := cX2_load) (maxL := 2) (ret := none) (lv := [(0, .ref h)]) (by decide) rfl rfl (Nat.le_of_ble_eq_true rfl) (fun p e s m args below meth c A0 ls hx hb hr hts hown hlocks hml hnm hK hA hAm hl => ?_)
  refine jJ_of (fun H locs => lv_aload_n hx hb dX2_load_0 rfl (lv_at hl 0 rfl)) ?_
  refine jJ_of (fun H locs => lv_aload_n hx hb dX2_load_1 rfl (lv_at hl 0 rfl)) ?_
  refine jJ_callV (As := []) (rest := [.ref h]) (wc := _) (cs2 := []) (C := RX2) (T := TX2) (N := 6) (ci := 1) [0] [] ⟨hx, hb, hml, hown, hts⟩ hK hA hAm (c_Mach_pop hw) (cwV 0 hts gX2_load_X2_pop rfl rfl rfl (by decide +kernel) ⟨Nat.le_of_ble_eq_true rfl, Nat.le_of_ble_eq_true rfl⟩) (nn := 1) rfl (by decide) rfl rfl hw.hd rfl rfl rfl hl.1 (Nat.le_of_ble_eq_true rfl) dX2_load_2 (by show _ + 0 ≤ 0; omega) (by show _ + 0 ≤ 0; omega) (fun v u1 k1 n1 hq1 => ?_)
  obtain ⟨rfl, hu1, rfl, rfl⟩ := hq1
  have hok1 := hw.ok
  refine jJ_eq (g2 := F0 m 5 ls [.long (lI (st.headD 0)), .ref h]) (cs2 := [u1]) rfl rfl ?_
  refine jJ_callV (As := [.long (lI (st.headD 0))]) (rest := []) (wc := _) (cs2 := []) (C := RX2) (T := TX2) (N := 6) (ci := 1) [0] [] ⟨hx, hb, hml, hown, hts⟩ hK hA hAm (c_Mach_checkedPlace hu1 (st.headD 0) (by omega) (by omega)) (cwV 1 hts gX2_load_X2_checkedPlace rfl rfl rfl (by decide +kernel) ⟨Nat.le_of_ble_eq_true rfl, Nat.le_of_ble_eq_true rfl⟩) (nn := 1) rfl (by decide) rfl rfl hu1.hd rfl rfl rfl hl.1 (Nat.le_of_ble_eq_true rfl) dX2_load_5 (by show _ + 0 ≤ 0; omega) (by show _ + 0 ≤ 0; omega) (fun v u2 k2 n2 hq2 => ?_)
  obtain ⟨rfl, hu2, rfl, rfl⟩ := hq2
  have hcp2 := cPn_b (st.headD 0)
  refine jJ_eq (g2 := F0 m 8 ls [.long (lI (cPn (st.headD 0)))]) (cs2 := [u2]) rfl rfl ?_
  refine jJ_of (fun H locs => jl_l2i hx hb dX2_load_8) ?_
  refine jJ_ofL (fun H locs => lv_istore_n (lv' := [(1, .int (iI (cPn (st.headD 0)))), (0, .ref h)]) hx hb dX2_load_9 rfl hl (by decide) rfl) (fun ls hl => ?_)
  refine jJ_of (fun H locs => lv_aload_n hx hb dX2_load_10 rfl (lv_at hl 1 rfl)) ?_
  refine jJ_of (fun H locs => lv_aload_n hx hb dX2_load_11 rfl (lv_at hl 1 rfl)) ?_
  refine jJ_of (fun H locs => lv_iload_n hx hb dX2_load_12 rfl (lv_at hl 0 rfl)) ?_
  refine jJ_callV (As := [.int (iI (cPn (st.headD 0)))]) (rest := [.ref h]) (wc := _) (cs2 := []) (C := RX2) (T := TX2) (N := 6) (ci := 1) [0] [] ⟨hx, hb, hml, hown, hts⟩ hK hA hAm (c_Mach_valueOf hu2 (cPn (st.headD 0)) (by omega) (by omega)) (cwV 1 hts gX2_load_X2_valueOf rfl rfl rfl (by decide +kernel) ⟨Nat.le_of_ble_eq_true rfl, Nat.le_of_ble_eq_true rfl⟩) (nn := 1) rfl (by decide) rfl rfl hu2.hd rfl rfl rfl hl.1 (Nat.le_of_ble_eq_true rfl) dX2_load_13 (by show _ + 0 ≤ 0; omega) (by show _ + 0 ≤ 0; omega) (fun v u3 k3 n3 hq3 => ?_)
  obtain ⟨rfl, hw3, rfl, rfl⟩ := hq3
  rw [hw3]
  refine jJ_eq (g2 := F0 m 16 ls [.long (lI (mGet vs (cPn (st.headD 0)))), .ref h]) (cs2 := [u2]) rfl rfl ?_
  refine jJ_callV (As := [.long (lI (mGet vs (cPn (st.headD 0))))]) (rest := []) (wc := _) (cs2 := []) (C := RX2) (T := TX2) (N := 6) (ci := 1) [0] [] ⟨hx, hb, hml, hown, hts⟩ hK hA hAm (c_Mach_push hu2 (mGet vs (cPn (st.headD 0))) (by unfold mGet; split; exact hok1.2.2.2.2.2 _; exact ⟨by omega, by omega⟩)) (cwV 1 hts gX2_load_X2_push rfl rfl rfl (by decide +kernel) ⟨Nat.le_of_ble_eq_true rfl, Nat.le_of_ble_eq_true rfl⟩) (nn := 1) rfl (by decide) rfl rfl hu2.hd rfl rfl rfl hl.1 (Nat.le_of_ble_eq_true rfl) dX2_load_16 (by show _ + 0 ≤ 0; omega) (by show _ + 0 ≤ 0; omega) (fun v u4 k4 n4 hq4 => ?_)
  obtain ⟨rfl, hu4, rfl, rfl⟩ := hq4
  refine jJ_eq (g2 := F0 m 19 ls []) (cs2 := [u4]) rfl rfl ?_
  exact jJ_vret hx hb hr hlocks dX2_load_19 (by show _ ≤ 0; omega) (by show _ ≤ 0; omega) ⟨rfl, hu4, rfl, rfl⟩
set_option maxHeartbeats 4000000 in
set_option maxRecDepth 100000 in
/-- store() -/
theorem c_Mach_store {h al an sp : Nat} {vs : Nat → Int} {st : List Int} {w : va_W} (hw : jMach cJ h vs st al an sp w) : HM l yX2_store wsX2_store ({ frames := 2, cells := 0, slots := 0, locals := 80 } : Room) D G (jT cI cJ cB cZ) [.ref h] w (fun v u k n_ => v = none ∧ jMach cJ h (eSto (vs, st, al)).1 (eSto (vs, st, al)).2.1 (eSto (vs, st, al)).2.2 an sp u ∧ k = 0 ∧ n_ = 0) := by
  refine HM_of (cc := cX2_store) (maxL := 4) (ret := none) (lv := [(0, .ref h)]) (by decide) rfl rfl (Nat.le_of_ble_eq_true rfl) (fun p e s m args below meth c A0 ls hx hb hr hts hown hlocks hml hnm hK hA hAm hl => ?_)
  refine jJ_of (fun H locs => lv_aload_n hx hb dX2_store_0 rfl (lv_at hl 0 rfl)) ?_
  refine jJ_callV (As := []) (rest := []) (wc := _) (cs2 := []) (C := RX2) (T := TX2) (N := 6) (ci := 1) [0] [] ⟨hx, hb, hml, hown, hts⟩ hK hA hAm (c_Mach_pop hw) (cwV 0 hts gX2_store_X2_pop rfl rfl rfl (by decide +kernel) ⟨Nat.le_of_ble_eq_true rfl, Nat.le_of_ble_eq_true rfl⟩) (nn := 1) rfl (by decide) rfl rfl hw.hd rfl rfl rfl hl.1 (Nat.le_of_ble_eq_true rfl) dX2_store_1 (by show _ + 0 ≤ 0; omega) (by show _ + 0 ≤ 0; omega) (fun v u1 k1 n1 hq1 => ?_)
  obtain ⟨rfl, hu1, rfl, rfl⟩ := hq1
  have hok1 := hw.ok
  refine jJ_eq (g2 := F0 m 4 ls [.long (lI (st.headD 0))]) (cs2 := [u1]) rfl rfl ?_
  refine jJ_ofL (fun H locs => lv_lstore_n (lv' := [(1, .long (lI (st.headD 0))), (0, .ref h)]) hx hb dX2_store_4 rfl hl (by decide) rfl) (fun ls hl => ?_)
  refine jJ_of (fun H locs => lv_aload_n hx hb dX2_store_5 rfl (lv_at hl 1 rfl)) ?_
  refine jJ_callV (As := []) (rest := []) (wc := _) (cs2 := []) (C := RX2) (T := TX2) (N := 6) (ci := 1) [0] [] ⟨hx, hb, hml, hown, hts⟩ hK hA hAm (c_Mach_pop hu1) (cwV 0 hts gX2_store_X2_pop rfl rfl rfl (by decide +kernel) ⟨Nat.le_of_ble_eq_true rfl, Nat.le_of_ble_eq_true rfl⟩) (nn := 1) rfl (by decide) rfl rfl hu1.hd rfl rfl rfl hl.1 (Nat.le_of_ble_eq_true rfl) dX2_store_6 (by show _ + 0 ≤ 0; omega) (by show _ + 0 ≤ 0; omega) (fun v u2 k2 n2 hq2 => ?_)
  obtain ⟨rfl, hu2, rfl, rfl⟩ := hq2
  have hok2 := hu1.ok
  refine jJ_eq (g2 := F0 m 9 ls [.long (lI (st.tail.headD 0))]) (cs2 := [u2]) rfl rfl ?_
  refine jJ_of (fun H locs => jl_l2i hx hb dX2_store_9) ?_
  rw [iI_bmod]
  have hbm := bmod_b (st.tail.headD 0)
  refine jJ_ofL (fun H locs => lv_istore_n (lv' := [(3, .int (iI ((st.tail.headD 0).bmod 4294967296))), (1, .long (lI (st.headD 0))), (0, .ref h)]) hx hb dX2_store_10 rfl hl (by decide) rfl) (fun ls hl => ?_)
  refine jJ_of (fun H locs => lv_aload_n hx hb dX2_store_11 rfl (lv_at hl 2 rfl)) ?_
  refine jJ_of (fun H locs => lv_iload_n hx hb dX2_store_12 rfl (lv_at hl 0 rfl)) ?_
  refine jJ_of (fun H locs => lv_lload_n hx hb dX2_store_13 rfl (lv_at hl 1 rfl)) ?_
  refine jJ_callV (As := [.int (iI ((st.tail.headD 0).bmod 4294967296)), .long (lI (st.headD 0))]) (rest := []) (wc := _) (cs2 := []) (C := RX2) (T := TX2) (N := 6) (ci := 1) [0] [] ⟨hx, hb, hml, hown, hts⟩ hK hA hAm (c_Mach_setValue hu2 ((st.tail.headD 0).bmod 4294967296) (st.headD 0) (by omega) (by omega) (by omega) (by omega)) (cwV 2 hts gX2_store_X2_setValue rfl rfl rfl (by decide +kernel) ⟨Nat.le_of_ble_eq_true rfl, Nat.le_of_ble_eq_true rfl⟩) (nn := 1) rfl (by decide) rfl rfl hu2.hd rfl rfl rfl hl.1 (Nat.le_of_ble_eq_true rfl) dX2_store_14 (by show _ + 0 ≤ 0; omega) (by show _ + 0 ≤ 0; omega) (fun v u3 k3 n3 hq3 => ?_)
  obtain ⟨rfl, hu3, rfl, rfl⟩ := hq3
  refine jJ_eq (g2 := F0 m 17 ls [.int (bI (isV ((st.tail.headD 0).bmod 4294967296) && !vTG (st.headD 0)))]) (cs2 := [u3]) rfl rfl ?_
  refine jJ_of (fun H locs => lv_pop hx hb dX2_store_17 rfl) ?_
  exact jJ_vret hx hb hr hlocks dX2_store_18 (by show _ ≤ 0; omega) (by show _ ≤ 0; omega) ⟨rfl, hu3, rfl, rfl⟩
theorem uX2_in_X2_pushResult : ∀ w ∈ u_ws RX2 TX2 6, w ∈ wsX2_pushResult := by decide +kernel
set_option maxHeartbeats 4000000 in
set_option maxRecDepth 100000 in
/-- pushResult(x) -/
theorem c_Mach_pushResult {h al an sp : Nat} {vs : Nat → Int} {st : List Int} {w : va_W} (hw : jMach cJ h vs st al an sp w) (x : Int) (hx1 : -9223372036854775808 ≤ x) (hx2 : x < 9223372036854775808) : HM l yX2_pushResult wsX2_pushResult ({ frames := 1, cells := 0, slots := 0, locals := 40 } : Room) D G (jT cI cJ cB cZ) [.ref h, .long (lI x)] w (fun v u k n_ => v = none ∧ jMach cJ h (ePR x (vs, st, al)).1 (ePR x (vs, st, al)).2.1 (ePR x (vs, st, al)).2.2 an sp u ∧ k = 0 ∧ n_ = 0) := by
  refine HM_of (cc := cX2_pushResult) (maxL := 3) (ret := none) (lv := [(0, .ref h), (1, .long (lI x))]) (by decide) rfl rfl (Nat.le_of_ble_eq_true rfl) (fun p e s m args below meth c A0 ls hx hb hr hts hown hlocks hml hnm hK hA hAm hl => ?_)
  refine jJ_of (fun H locs => lv_lload_n hx hb dX2_pushResult_0 rfl (lv_at hl 1 rfl)) ?_
  refine jJ_callS (As := [.long (lI x)]) (rest := []) (wc := _) (cs2 := [w]) [] [0] ⟨hx, hb, hml, hown, hts⟩ hK hA hAm (c_isTooGreat x (by omega) (by omega)) (va_cwS 1 hts gX2_pushResult_X7_isTooGreat rfl rfl rfl (by decide +kernel) ⟨Nat.le_of_ble_eq_true rfl, Nat.le_of_ble_eq_true rfl⟩) (nn := 1) rfl (by decide) rfl rfl rfl rfl hl.1 (Nat.le_of_ble_eq_true rfl) dX2_pushResult_1 (by show _ + 0 ≤ 0; omega) (by show _ + 0 ≤ 0; omega) (fun v u1 k1 n1 hq1 => ?_)
  obtain ⟨rfl, rfl, rfl, rfl⟩ := hq1
  refine jJ_eq (g2 := F0 m 4 ls [.int (bI (vTG x))]) (cs2 := [([] : va_W), w]) rfl rfl ?_
  refine jJ_flat (cs2 := [w]) rfl ?_
  refine jJ_of2 (fun H locs => jb_if_eq (tgt := 15) hx hb dX2_pushResult_4 (by decide)) (fun c4 => ?_) (fun c4 => ?_)
  · refine jJ_of (fun H locs => lv_aload_n hx hb dX2_pushResult_15 rfl (lv_at hl 0 rfl)) ?_
    refine jJ_of (fun H locs => lv_lload_n hx hb dX2_pushResult_16 rfl (lv_at hl 1 rfl)) ?_
    refine jJ_callV (As := [.long (lI x)]) (rest := []) (wc := _) (cs2 := []) (C := RX2) (T := TX2) (N := 6) (ci := 1) [0] [] ⟨hx, hb, hml, hown, hts⟩ hK hA hAm (c_Mach_push hw x (vTG_ok c4)) (cwV 1 hts gX2_pushResult_X2_push rfl rfl rfl (by decide +kernel) ⟨Nat.le_of_ble_eq_true rfl, Nat.le_of_ble_eq_true rfl⟩) (nn := 1) rfl (by decide) rfl rfl hw.hd rfl rfl rfl hl.1 (Nat.le_of_ble_eq_true rfl) dX2_pushResult_17 (by show _ + 0 ≤ 0; omega) (by show _ + 0 ≤ 0; omega) (fun v u2 k2 n2 hq2 => ?_)
    obtain ⟨rfl, hu2, rfl, rfl⟩ := hq2
    refine jJ_eq (g2 := F0 m 20 ls []) (cs2 := [u2]) rfl rfl ?_
    exact jJ_vret hx hb hr hlocks dX2_pushResult_20 (by show _ ≤ 0; omega) (by show _ ≤ 0; omega) ⟨rfl, by rw [show ePR x (vs, st, al) = (vs, mPush st x, al) from if_neg (by rw [c4]; decide)]; exact hu2, rfl, rfl⟩
  · obtain ⟨aV, aP, f, g, rfl, hf, hg, hst, hvb, hsb, hal, han, hsp⟩ := hw
    refine jJ_open (xs := [[(h, .inr (1, [.ref aV, .ref aP, .int (nI st.length), .int (nI al), .int (nI an), .int (nI sp)]))], [(aV, .inl (cJ, 200, .inr (.inl f)))], [(aP, .inl (cJ, 80, .inr (.inl g)))]]) (r := []) (cs2 := [[(h, .inr (1, [.ref aV, .ref aP, .int (nI st.length), .int (nI al), .int (nI an), .int (nI sp)]))], [(aV, .inl (cJ, 200, .inr (.inl f)))], [(aP, .inl (cJ, 80, .inr (.inl g)))]]) rfl ?_
    refine jJ_of (fun H locs => lv_aload_n hx hb dX2_pushResult_7 rfl (lv_at hl 0 rfl)) ?_
    refine jJ_of (fun H locs => lv_iconst (v := (nI 4)) hx hb dX2_pushResult_8 (by decide)) ?_
    refine jJ_put hx hb (C := RX2) (T := TX2) (N := 6) (ty := .int) (v := .int (nI 4)) hts uX2_in_X2_pushResult tyX2 tyX2_ok nmX2 hown hK 0 rfl rfl 3 (by decide) (hts (.fieldLink RX2 34 "ValueBlocks$Machine" "alarm" "I") (by decide +kernel)) (fun _ h9 => h9) rfl (by decide +kernel) rfl rfl (Nat.le_of_ble_eq_true rfl) dX2_pushResult_9 (cs2 := [[(h, .inr (1, [.ref aV, .ref aP, .int (nI st.length), .int (nI 4), .int (nI an), .int (nI sp)]))], [(aV, .inl (cJ, 200, .inr (.inl f)))], [(aP, .inl (cJ, 80, .inr (.inl g)))]]) rfl ?_
    refine jJ_of (fun H locs => lv_goto (tgt := 20) hx hb dX2_pushResult_12 (by decide)) ?_
    exact jJ_vret hx hb hr hlocks dX2_pushResult_20 (by show _ ≤ 0; omega) (by show _ ≤ 0; omega) ⟨rfl, by rw [show ePR x (vs, st, al) = (vs, st, 4) from if_pos c4]; exact ⟨aV, aP, f, g, rfl, hf, hg, hst, hvb, hsb, by show 4 < _; omega, han, hsp⟩, rfl, rfl⟩
theorem uX2_in_X2_workOutOne : ∀ w ∈ u_ws RX2 TX2 6, w ∈ wsX2_workOutOne := by decide +kernel
set_option maxHeartbeats 4000000 in
set_option maxRecDepth 100000 in
/-- workOutOne(op) -/
theorem c_Mach_workOutOne {h al an sp : Nat} {vs : Nat → Int} {st : List Int} {w : va_W} (hw : jMach cJ h vs st al an sp w) (op : Nat) (hop : op < 2147483648) : HM l yX2_workOutOne wsX2_workOutOne ({ frames := 2, cells := 0, slots := 0, locals := 100 } : Room) D G (jT cI cJ cB cZ) [.ref h, .int (nI op)] w (fun v u k n_ => v = none ∧ jMach cJ h (eOne op (vs, st, al)).1 (eOne op (vs, st, al)).2.1 (eOne op (vs, st, al)).2.2 an sp u ∧ k = 0 ∧ n_ = 0) := by
  refine HM_of (cc := cX2_workOutOne) (maxL := 4) (ret := none) (lv := [(0, .ref h), (1, .int (nI op))]) (by decide) rfl rfl (Nat.le_of_ble_eq_true rfl) (fun p e s m args below meth c A0 ls hx hb hr hts hown hlocks hml hnm hK hA hAm hl => ?_)
  refine jJ_of (fun H locs => lv_aload_n hx hb dX2_workOutOne_0 rfl (lv_at hl 0 rfl)) ?_
  refine jJ_callV (As := []) (rest := []) (wc := _) (cs2 := []) (C := RX2) (T := TX2) (N := 6) (ci := 1) [0] [] ⟨hx, hb, hml, hown, hts⟩ hK hA hAm (c_Mach_pop hw) (cwV 0 hts gX2_workOutOne_X2_pop rfl rfl rfl (by decide +kernel) ⟨Nat.le_of_ble_eq_true rfl, Nat.le_of_ble_eq_true rfl⟩) (nn := 1) rfl (by decide) rfl rfl hw.hd rfl rfl rfl hl.1 (Nat.le_of_ble_eq_true rfl) dX2_workOutOne_1 (by show _ + 0 ≤ 0; omega) (by show _ + 0 ≤ 0; omega) (fun v u1 k1 n1 hq1 => ?_)
  obtain ⟨rfl, hu1, rfl, rfl⟩ := hq1
  have hok1 := hw.ok
  refine jJ_eq (g2 := F0 m 4 ls [.long (lI (st.headD 0))]) (cs2 := [u1]) rfl rfl ?_
  refine jJ_ofL (fun H locs => lv_lstore_n (lv' := [(2, .long (lI (st.headD 0))), (0, .ref h), (1, .int (nI op))]) hx hb dX2_workOutOne_4 rfl hl (by decide) rfl) (fun ls hl => ?_)
  refine jJ_of (fun H locs => lv_iload_n hx hb dX2_workOutOne_5 rfl (lv_at hl 2 rfl)) ?_
  refine jJ_of (fun H locs => lv_sipush (v := (nI 308)) hx hb dX2_workOutOne_6 (by decide)) ?_
  refine jJ_of2 (fun H locs => jn_icmp_ne (tgt := 26) hx hb dX2_workOutOne_9 (by decide) (by omega) (by omega)) (fun c9 => ?_) (fun c9 => ?_)
  · refine jJ_of (fun H locs => lv_aload_n hx hb dX2_workOutOne_26 rfl (lv_at hl 1 rfl)) ?_
    refine jJ_of (fun H locs => lv_iload_n hx hb dX2_workOutOne_27 rfl (lv_at hl 2 rfl)) ?_
    refine jJ_of (fun H locs => lv_lload_n hx hb dX2_workOutOne_28 rfl (lv_at hl 0 rfl)) ?_
    have HB := vOne_b (op := op) (a := st.headD 0) (by omega) (by omega)
    refine jJ_callS (As := [.int (nI op), .long (lI (st.headD 0))]) (rest := [.ref h]) (wc := _) (cs2 := [u1]) [] [0] ⟨hx, hb, hml, hown, hts⟩ hK hA hAm (c_ofOne op (st.headD 0) (by omega) (by omega) (by omega) (by omega)) (va_cwS 2 hts gX2_workOutOne_X7_ofOne rfl rfl rfl (by decide +kernel) ⟨Nat.le_of_ble_eq_true rfl, Nat.le_of_ble_eq_true rfl⟩) (nn := 1) rfl (by decide) rfl rfl rfl rfl hl.1 (Nat.le_of_ble_eq_true rfl) dX2_workOutOne_29 (by show _ + 0 ≤ 0; omega) (by show _ + 0 ≤ 0; omega) (fun v u2 k2 n2 hq2 => ?_)
    obtain ⟨rfl, rfl, rfl, rfl⟩ := hq2
    refine jJ_eq (g2 := F0 m 32 ls [.long (lI (vOne op (st.headD 0))), .ref h]) (cs2 := [([] : va_W), u1]) rfl rfl ?_
    refine jJ_flat (cs2 := [u1]) rfl ?_
    refine jJ_callV (As := [.long (lI (vOne op (st.headD 0)))]) (rest := []) (wc := _) (cs2 := []) (C := RX2) (T := TX2) (N := 6) (ci := 1) [0] [] ⟨hx, hb, hml, hown, hts⟩ hK hA hAm (c_Mach_pushResult hu1 (vOne op (st.headD 0)) HB.1 HB.2) (cwV 1 hts gX2_workOutOne_X2_pushResult rfl rfl rfl (by decide +kernel) ⟨Nat.le_of_ble_eq_true rfl, Nat.le_of_ble_eq_true rfl⟩) (nn := 1) rfl (by decide) rfl rfl hu1.hd rfl rfl rfl hl.1 (Nat.le_of_ble_eq_true rfl) dX2_workOutOne_32 (by show _ + 0 ≤ 0; omega) (by show _ + 0 ≤ 0; omega) (fun v u3 k3 n3 hq3 => ?_)
    obtain ⟨rfl, hu3, rfl, rfl⟩ := hq3
    refine jJ_eq (g2 := F0 m 35 ls []) (cs2 := [u3]) rfl rfl ?_
    exact jJ_vret hx hb hr hlocks dX2_workOutOne_35 (by show _ ≤ 0; omega) (by show _ ≤ 0; omega) ⟨rfl, by rw [show eOne op (vs, st, al) = ePR (vOne op (st.headD 0)) (vs, st.tail, al) from if_neg (by show ¬ (op = 308 ∧ st.headD 0 < 0); omega)]; exact hu3, rfl, rfl⟩
  · refine jJ_of (fun H locs => lv_lload_n hx hb dX2_workOutOne_12 rfl (lv_at hl 0 rfl)) ?_
    refine jJ_of (fun H locs => jn_lconst (v := 0) hx hb dX2_workOutOne_13 rfl) ?_
    refine jJ_of (fun H locs => W.lcmp hx hb dX2_workOutOne_14) ?_
    refine jJ_of2 (fun H locs => jl_if_ge (tgt := 26) hx hb dX2_workOutOne_15 (by decide) (by omega) (by omega) (by omega) (by omega)) (fun c15 => ?_) (fun c15 => ?_)
    · refine jJ_of (fun H locs => lv_aload_n hx hb dX2_workOutOne_26 rfl (lv_at hl 1 rfl)) ?_
      refine jJ_of (fun H locs => lv_iload_n hx hb dX2_workOutOne_27 rfl (lv_at hl 2 rfl)) ?_
      refine jJ_of (fun H locs => lv_lload_n hx hb dX2_workOutOne_28 rfl (lv_at hl 0 rfl)) ?_
      have HB := vOne_b (op := op) (a := st.headD 0) (by omega) (by omega)
      refine jJ_callS (As := [.int (nI op), .long (lI (st.headD 0))]) (rest := [.ref h]) (wc := _) (cs2 := [u1]) [] [0] ⟨hx, hb, hml, hown, hts⟩ hK hA hAm (c_ofOne op (st.headD 0) (by omega) (by omega) (by omega) (by omega)) (va_cwS 2 hts gX2_workOutOne_X7_ofOne rfl rfl rfl (by decide +kernel) ⟨Nat.le_of_ble_eq_true rfl, Nat.le_of_ble_eq_true rfl⟩) (nn := 1) rfl (by decide) rfl rfl rfl rfl hl.1 (Nat.le_of_ble_eq_true rfl) dX2_workOutOne_29 (by show _ + 0 ≤ 0; omega) (by show _ + 0 ≤ 0; omega) (fun v u4 k4 n4 hq4 => ?_)
      obtain ⟨rfl, rfl, rfl, rfl⟩ := hq4
      refine jJ_eq (g2 := F0 m 32 ls [.long (lI (vOne op (st.headD 0))), .ref h]) (cs2 := [([] : va_W), u1]) rfl rfl ?_
      refine jJ_flat (cs2 := [u1]) rfl ?_
      refine jJ_callV (As := [.long (lI (vOne op (st.headD 0)))]) (rest := []) (wc := _) (cs2 := []) (C := RX2) (T := TX2) (N := 6) (ci := 1) [0] [] ⟨hx, hb, hml, hown, hts⟩ hK hA hAm (c_Mach_pushResult hu1 (vOne op (st.headD 0)) HB.1 HB.2) (cwV 1 hts gX2_workOutOne_X2_pushResult rfl rfl rfl (by decide +kernel) ⟨Nat.le_of_ble_eq_true rfl, Nat.le_of_ble_eq_true rfl⟩) (nn := 1) rfl (by decide) rfl rfl hu1.hd rfl rfl rfl hl.1 (Nat.le_of_ble_eq_true rfl) dX2_workOutOne_32 (by show _ + 0 ≤ 0; omega) (by show _ + 0 ≤ 0; omega) (fun v u5 k5 n5 hq5 => ?_)
      obtain ⟨rfl, hu5, rfl, rfl⟩ := hq5
      refine jJ_eq (g2 := F0 m 35 ls []) (cs2 := [u5]) rfl rfl ?_
      exact jJ_vret hx hb hr hlocks dX2_workOutOne_35 (by show _ ≤ 0; omega) (by show _ ≤ 0; omega) ⟨rfl, by rw [show eOne op (vs, st, al) = ePR (vOne op (st.headD 0)) (vs, st.tail, al) from if_neg (by show ¬ (op = 308 ∧ st.headD 0 < 0); omega)]; exact hu5, rfl, rfl⟩
    · obtain ⟨aV, aP, f, g, rfl, hf, hg, hst, hvb, hsb, hal, han, hsp⟩ := hu1
      refine jJ_open (xs := [[(h, .inr (1, [.ref aV, .ref aP, .int (nI st.tail.length), .int (nI al), .int (nI an), .int (nI sp)]))], [(aV, .inl (cJ, 200, .inr (.inl f)))], [(aP, .inl (cJ, 80, .inr (.inl g)))]]) (r := []) (cs2 := [[(h, .inr (1, [.ref aV, .ref aP, .int (nI st.tail.length), .int (nI al), .int (nI an), .int (nI sp)]))], [(aV, .inl (cJ, 200, .inr (.inl f)))], [(aP, .inl (cJ, 80, .inr (.inl g)))]]) rfl ?_
      refine jJ_of (fun H locs => lv_aload_n hx hb dX2_workOutOne_18 rfl (lv_at hl 1 rfl)) ?_
      refine jJ_of (fun H locs => lv_iconst (v := (nI 1)) hx hb dX2_workOutOne_19 (by decide)) ?_
      refine jJ_put hx hb (C := RX2) (T := TX2) (N := 6) (ty := .int) (v := .int (nI 1)) hts uX2_in_X2_workOutOne tyX2 tyX2_ok nmX2 hown hK 0 rfl rfl 3 (by decide) (hts (.fieldLink RX2 34 "ValueBlocks$Machine" "alarm" "I") (by decide +kernel)) (fun _ h9 => h9) rfl (by decide +kernel) rfl rfl (Nat.le_of_ble_eq_true rfl) dX2_workOutOne_20 (cs2 := [[(h, .inr (1, [.ref aV, .ref aP, .int (nI st.tail.length), .int (nI 1), .int (nI an), .int (nI sp)]))], [(aV, .inl (cJ, 200, .inr (.inl f)))], [(aP, .inl (cJ, 80, .inr (.inl g)))]]) rfl ?_
      refine jJ_of (fun H locs => lv_goto (tgt := 35) hx hb dX2_workOutOne_23 (by decide)) ?_
      exact jJ_vret hx hb hr hlocks dX2_workOutOne_35 (by show _ ≤ 0; omega) (by show _ ≤ 0; omega) ⟨rfl, by rw [show eOne op (vs, st, al) = (vs, st.tail, 1) from if_pos ⟨by omega, by show st.headD 0 < 0; omega⟩]; exact ⟨aV, aP, f, g, rfl, hf, hg, hst, hvb, hsb, by show 1 < _; omega, han, hsp⟩, rfl, rfl⟩
theorem uX2_in_X2_workOutTwo : ∀ w ∈ u_ws RX2 TX2 6, w ∈ wsX2_workOutTwo := by decide +kernel
set_option maxHeartbeats 4000000 in
set_option maxRecDepth 100000 in
/-- workOutTwo(op) -/
theorem c_Mach_workOutTwo {h al an sp : Nat} {vs : Nat → Int} {st : List Int} {w : va_W} (hw : jMach cJ h vs st al an sp w) (op : Nat) (hop : op < 2147483648) : HM l yX2_workOutTwo wsX2_workOutTwo ({ frames := 3, cells := 0, slots := 0, locals := 130 } : Room) D G (jT cI cJ cB cZ) [.ref h, .int (nI op)] w (fun v u k n_ => v = none ∧ jMach cJ h (eTwo op (vs, st, al)).1 (eTwo op (vs, st, al)).2.1 (eTwo op (vs, st, al)).2.2 an sp u ∧ k = 0 ∧ n_ = 0) := by
  refine HM_of (cc := cX2_workOutTwo) (maxL := 6) (ret := none) (lv := [(0, .ref h), (1, .int (nI op))]) (by decide) rfl rfl (Nat.le_of_ble_eq_true rfl) (fun p e s m args below meth c A0 ls hx hb hr hts hown hlocks hml hnm hK hA hAm hl => ?_)
  refine jJ_of (fun H locs => lv_aload_n hx hb dX2_workOutTwo_0 rfl (lv_at hl 0 rfl)) ?_
  refine jJ_callV (As := []) (rest := []) (wc := _) (cs2 := []) (C := RX2) (T := TX2) (N := 6) (ci := 1) [0] [] ⟨hx, hb, hml, hown, hts⟩ hK hA hAm (c_Mach_pop hw) (cwV 0 hts gX2_workOutTwo_X2_pop rfl rfl rfl (by decide +kernel) ⟨Nat.le_of_ble_eq_true rfl, Nat.le_of_ble_eq_true rfl⟩) (nn := 1) rfl (by decide) rfl rfl hw.hd rfl rfl rfl hl.1 (Nat.le_of_ble_eq_true rfl) dX2_workOutTwo_1 (by show _ + 0 ≤ 0; omega) (by show _ + 0 ≤ 0; omega) (fun v u1 k1 n1 hq1 => ?_)
  obtain ⟨rfl, hu1, rfl, rfl⟩ := hq1
  have hok1 := hw.ok
  refine jJ_eq (g2 := F0 m 4 ls [.long (lI (st.headD 0))]) (cs2 := [u1]) rfl rfl ?_
  refine jJ_ofL (fun H locs => lv_lstore_n (lv' := [(2, .long (lI (st.headD 0))), (0, .ref h), (1, .int (nI op))]) hx hb dX2_workOutTwo_4 rfl hl (by decide) rfl) (fun ls hl => ?_)
  refine jJ_of (fun H locs => lv_aload_n hx hb dX2_workOutTwo_5 rfl (lv_at hl 1 rfl)) ?_
  refine jJ_callV (As := []) (rest := []) (wc := _) (cs2 := []) (C := RX2) (T := TX2) (N := 6) (ci := 1) [0] [] ⟨hx, hb, hml, hown, hts⟩ hK hA hAm (c_Mach_pop hu1) (cwV 0 hts gX2_workOutTwo_X2_pop rfl rfl rfl (by decide +kernel) ⟨Nat.le_of_ble_eq_true rfl, Nat.le_of_ble_eq_true rfl⟩) (nn := 1) rfl (by decide) rfl rfl hu1.hd rfl rfl rfl hl.1 (Nat.le_of_ble_eq_true rfl) dX2_workOutTwo_6 (by show _ + 0 ≤ 0; omega) (by show _ + 0 ≤ 0; omega) (fun v u2 k2 n2 hq2 => ?_)
  obtain ⟨rfl, hu2, rfl, rfl⟩ := hq2
  have hok2 := hu1.ok
  refine jJ_eq (g2 := F0 m 9 ls [.long (lI (st.tail.headD 0))]) (cs2 := [u2]) rfl rfl ?_
  refine jJ_ofL (fun H locs => lv_lstore (lv' := [(4, .long (lI (st.tail.headD 0))), (2, .long (lI (st.headD 0))), (0, .ref h), (1, .int (nI op))]) hx hb dX2_workOutTwo_9 hl (by decide) rfl) (fun ls hl => ?_)
  refine jJ_of (fun H locs => lv_lload_n hx hb dX2_workOutTwo_11 rfl (lv_at hl 1 rfl)) ?_
  refine jJ_of (fun H locs => jn_lconst (v := 0) hx hb dX2_workOutTwo_12 rfl) ?_
  refine jJ_of (fun H locs => W.lcmp hx hb dX2_workOutTwo_13) ?_
  refine jJ_of2 (fun H locs => jl_if_ne (tgt := 38) hx hb dX2_workOutTwo_14 (by decide) (by omega) (by omega) (by omega) (by omega)) (fun c14 => ?_) (fun c14 => ?_)
  · refine jJ_of (fun H locs => lv_aload_n hx hb dX2_workOutTwo_38 rfl (lv_at hl 2 rfl)) ?_
    refine jJ_of (fun H locs => lv_iload_n hx hb dX2_workOutTwo_39 rfl (lv_at hl 3 rfl)) ?_
    refine jJ_of (fun H locs => lv_lload hx hb dX2_workOutTwo_40 (lv_at hl 0 rfl)) ?_
    refine jJ_of (fun H locs => lv_lload_n hx hb dX2_workOutTwo_42 rfl (lv_at hl 1 rfl)) ?_
    have HB := vTwo_b (op := op) (a := st.tail.headD 0) (b := st.headD 0) (by omega) (by omega) (by omega) (by omega)
    refine jJ_callS (As := [.int (nI op), .long (lI (st.tail.headD 0)), .long (lI (st.headD 0))]) (rest := [.ref h]) (wc := _) (cs2 := [u2]) [] [0] ⟨hx, hb, hml, hown, hts⟩ hK hA hAm (c_ofTwo op (st.tail.headD 0) (st.headD 0) (by omega) (by omega) (by omega) (by omega) (by omega)) (va_cwS 3 hts gX2_workOutTwo_X7_ofTwo rfl rfl rfl (by decide +kernel) ⟨Nat.le_of_ble_eq_true rfl, Nat.le_of_ble_eq_true rfl⟩) (nn := 1) rfl (by decide) rfl rfl rfl rfl hl.1 (Nat.le_of_ble_eq_true rfl) dX2_workOutTwo_43 (by show _ + 0 ≤ 0; omega) (by show _ + 0 ≤ 0; omega) (fun v u3 k3 n3 hq3 => ?_)
    obtain ⟨rfl, rfl, rfl, rfl⟩ := hq3
    refine jJ_eq (g2 := F0 m 46 ls [.long (lI (vTwo op (st.tail.headD 0) (st.headD 0))), .ref h]) (cs2 := [([] : va_W), u2]) rfl rfl ?_
    refine jJ_flat (cs2 := [u2]) rfl ?_
    refine jJ_callV (As := [.long (lI (vTwo op (st.tail.headD 0) (st.headD 0)))]) (rest := []) (wc := _) (cs2 := []) (C := RX2) (T := TX2) (N := 6) (ci := 1) [0] [] ⟨hx, hb, hml, hown, hts⟩ hK hA hAm (c_Mach_pushResult hu2 (vTwo op (st.tail.headD 0) (st.headD 0)) HB.1 HB.2) (cwV 1 hts gX2_workOutTwo_X2_pushResult rfl rfl rfl (by decide +kernel) ⟨Nat.le_of_ble_eq_true rfl, Nat.le_of_ble_eq_true rfl⟩) (nn := 1) rfl (by decide) rfl rfl hu2.hd rfl rfl rfl hl.1 (Nat.le_of_ble_eq_true rfl) dX2_workOutTwo_46 (by show _ + 0 ≤ 0; omega) (by show _ + 0 ≤ 0; omega) (fun v u4 k4 n4 hq4 => ?_)
    obtain ⟨rfl, hu4, rfl, rfl⟩ := hq4
    refine jJ_eq (g2 := F0 m 49 ls []) (cs2 := [u4]) rfl rfl ?_
    exact jJ_vret hx hb hr hlocks dX2_workOutTwo_49 (by show _ ≤ 0; omega) (by show _ ≤ 0; omega) ⟨rfl, by rw [show eTwo op (vs, st, al) = ePR (vTwo op (st.tail.headD 0) (st.headD 0)) (vs, st.tail.tail, al) from if_neg (by show ¬ (st.headD 0 = 0 ∧ (op = 47 ∨ op = 309)); omega)]; exact hu4, rfl, rfl⟩
  · refine jJ_of (fun H locs => lv_iload_n hx hb dX2_workOutTwo_17 rfl (lv_at hl 3 rfl)) ?_
    refine jJ_of (fun H locs => lv_bipush (v := (nI 47)) hx hb dX2_workOutTwo_18 (by decide)) ?_
    refine jJ_of2 (fun H locs => jn_icmp_eq (tgt := 30) hx hb dX2_workOutTwo_20 (by decide) (by omega) (by omega)) (fun c20 => ?_) (fun c20 => ?_)
    · obtain ⟨aV, aP, f, g, rfl, hf, hg, hst, hvb, hsb, hal, han, hsp⟩ := hu2
      refine jJ_open (xs := [[(h, .inr (1, [.ref aV, .ref aP, .int (nI st.tail.tail.length), .int (nI al), .int (nI an), .int (nI sp)]))], [(aV, .inl (cJ, 200, .inr (.inl f)))], [(aP, .inl (cJ, 80, .inr (.inl g)))]]) (r := []) (cs2 := [[(h, .inr (1, [.ref aV, .ref aP, .int (nI st.tail.tail.length), .int (nI al), .int (nI an), .int (nI sp)]))], [(aV, .inl (cJ, 200, .inr (.inl f)))], [(aP, .inl (cJ, 80, .inr (.inl g)))]]) rfl ?_
      refine jJ_of (fun H locs => lv_aload_n hx hb dX2_workOutTwo_30 rfl (lv_at hl 2 rfl)) ?_
      refine jJ_of (fun H locs => lv_iconst (v := (nI 1)) hx hb dX2_workOutTwo_31 (by decide)) ?_
      refine jJ_put hx hb (C := RX2) (T := TX2) (N := 6) (ty := .int) (v := .int (nI 1)) hts uX2_in_X2_workOutTwo tyX2 tyX2_ok nmX2 hown hK 0 rfl rfl 3 (by decide) (hts (.fieldLink RX2 34 "ValueBlocks$Machine" "alarm" "I") (by decide +kernel)) (fun _ h9 => h9) rfl (by decide +kernel) rfl rfl (Nat.le_of_ble_eq_true rfl) dX2_workOutTwo_32 (cs2 := [[(h, .inr (1, [.ref aV, .ref aP, .int (nI st.tail.tail.length), .int (nI 1), .int (nI an), .int (nI sp)]))], [(aV, .inl (cJ, 200, .inr (.inl f)))], [(aP, .inl (cJ, 80, .inr (.inl g)))]]) rfl ?_
      refine jJ_of (fun H locs => lv_goto (tgt := 49) hx hb dX2_workOutTwo_35 (by decide)) ?_
      exact jJ_vret hx hb hr hlocks dX2_workOutTwo_49 (by show _ ≤ 0; omega) (by show _ ≤ 0; omega) ⟨rfl, by rw [show eTwo op (vs, st, al) = (vs, st.tail.tail, 1) from if_pos ⟨by show st.headD 0 = 0; omega, by omega⟩]; exact ⟨aV, aP, f, g, rfl, hf, hg, hst, hvb, hsb, by show 1 < _; omega, han, hsp⟩, rfl, rfl⟩
    · refine jJ_of (fun H locs => lv_iload_n hx hb dX2_workOutTwo_23 rfl (lv_at hl 3 rfl)) ?_
      refine jJ_of (fun H locs => lv_sipush (v := (nI 309)) hx hb dX2_workOutTwo_24 (by decide)) ?_
      refine jJ_of2 (fun H locs => jn_icmp_ne (tgt := 38) hx hb dX2_workOutTwo_27 (by decide) (by omega) (by omega)) (fun c27 => ?_) (fun c27 => ?_)
      · refine jJ_of (fun H locs => lv_aload_n hx hb dX2_workOutTwo_38 rfl (lv_at hl 2 rfl)) ?_
        refine jJ_of (fun H locs => lv_iload_n hx hb dX2_workOutTwo_39 rfl (lv_at hl 3 rfl)) ?_
        refine jJ_of (fun H locs => lv_lload hx hb dX2_workOutTwo_40 (lv_at hl 0 rfl)) ?_
        refine jJ_of (fun H locs => lv_lload_n hx hb dX2_workOutTwo_42 rfl (lv_at hl 1 rfl)) ?_
        have HB := vTwo_b (op := op) (a := st.tail.headD 0) (b := st.headD 0) (by omega) (by omega) (by omega) (by omega)
        refine jJ_callS (As := [.int (nI op), .long (lI (st.tail.headD 0)), .long (lI (st.headD 0))]) (rest := [.ref h]) (wc := _) (cs2 := [u2]) [] [0] ⟨hx, hb, hml, hown, hts⟩ hK hA hAm (c_ofTwo op (st.tail.headD 0) (st.headD 0) (by omega) (by omega) (by omega) (by omega) (by omega)) (va_cwS 3 hts gX2_workOutTwo_X7_ofTwo rfl rfl rfl (by decide +kernel) ⟨Nat.le_of_ble_eq_true rfl, Nat.le_of_ble_eq_true rfl⟩) (nn := 1) rfl (by decide) rfl rfl rfl rfl hl.1 (Nat.le_of_ble_eq_true rfl) dX2_workOutTwo_43 (by show _ + 0 ≤ 0; omega) (by show _ + 0 ≤ 0; omega) (fun v u5 k5 n5 hq5 => ?_)
        obtain ⟨rfl, rfl, rfl, rfl⟩ := hq5
        refine jJ_eq (g2 := F0 m 46 ls [.long (lI (vTwo op (st.tail.headD 0) (st.headD 0))), .ref h]) (cs2 := [([] : va_W), u2]) rfl rfl ?_
        refine jJ_flat (cs2 := [u2]) rfl ?_
        refine jJ_callV (As := [.long (lI (vTwo op (st.tail.headD 0) (st.headD 0)))]) (rest := []) (wc := _) (cs2 := []) (C := RX2) (T := TX2) (N := 6) (ci := 1) [0] [] ⟨hx, hb, hml, hown, hts⟩ hK hA hAm (c_Mach_pushResult hu2 (vTwo op (st.tail.headD 0) (st.headD 0)) HB.1 HB.2) (cwV 1 hts gX2_workOutTwo_X2_pushResult rfl rfl rfl (by decide +kernel) ⟨Nat.le_of_ble_eq_true rfl, Nat.le_of_ble_eq_true rfl⟩) (nn := 1) rfl (by decide) rfl rfl hu2.hd rfl rfl rfl hl.1 (Nat.le_of_ble_eq_true rfl) dX2_workOutTwo_46 (by show _ + 0 ≤ 0; omega) (by show _ + 0 ≤ 0; omega) (fun v u6 k6 n6 hq6 => ?_)
        obtain ⟨rfl, hu6, rfl, rfl⟩ := hq6
        refine jJ_eq (g2 := F0 m 49 ls []) (cs2 := [u6]) rfl rfl ?_
        exact jJ_vret hx hb hr hlocks dX2_workOutTwo_49 (by show _ ≤ 0; omega) (by show _ ≤ 0; omega) ⟨rfl, by rw [show eTwo op (vs, st, al) = ePR (vTwo op (st.tail.headD 0) (st.headD 0)) (vs, st.tail.tail, al) from if_neg (by show ¬ (st.headD 0 = 0 ∧ (op = 47 ∨ op = 309)); omega)]; exact hu6, rfl, rfl⟩
      · obtain ⟨aV, aP, f, g, rfl, hf, hg, hst, hvb, hsb, hal, han, hsp⟩ := hu2
        refine jJ_open (xs := [[(h, .inr (1, [.ref aV, .ref aP, .int (nI st.tail.tail.length), .int (nI al), .int (nI an), .int (nI sp)]))], [(aV, .inl (cJ, 200, .inr (.inl f)))], [(aP, .inl (cJ, 80, .inr (.inl g)))]]) (r := []) (cs2 := [[(h, .inr (1, [.ref aV, .ref aP, .int (nI st.tail.tail.length), .int (nI al), .int (nI an), .int (nI sp)]))], [(aV, .inl (cJ, 200, .inr (.inl f)))], [(aP, .inl (cJ, 80, .inr (.inl g)))]]) rfl ?_
        refine jJ_of (fun H locs => lv_aload_n hx hb dX2_workOutTwo_30 rfl (lv_at hl 2 rfl)) ?_
        refine jJ_of (fun H locs => lv_iconst (v := (nI 1)) hx hb dX2_workOutTwo_31 (by decide)) ?_
        refine jJ_put hx hb (C := RX2) (T := TX2) (N := 6) (ty := .int) (v := .int (nI 1)) hts uX2_in_X2_workOutTwo tyX2 tyX2_ok nmX2 hown hK 0 rfl rfl 3 (by decide) (hts (.fieldLink RX2 34 "ValueBlocks$Machine" "alarm" "I") (by decide +kernel)) (fun _ h9 => h9) rfl (by decide +kernel) rfl rfl (Nat.le_of_ble_eq_true rfl) dX2_workOutTwo_32 (cs2 := [[(h, .inr (1, [.ref aV, .ref aP, .int (nI st.tail.tail.length), .int (nI 1), .int (nI an), .int (nI sp)]))], [(aV, .inl (cJ, 200, .inr (.inl f)))], [(aP, .inl (cJ, 80, .inr (.inl g)))]]) rfl ?_
        refine jJ_of (fun H locs => lv_goto (tgt := 49) hx hb dX2_workOutTwo_35 (by decide)) ?_
        exact jJ_vret hx hb hr hlocks dX2_workOutTwo_49 (by show _ ≤ 0; omega) (by show _ ≤ 0; omega) ⟨rfl, by rw [show eTwo op (vs, st, al) = (vs, st.tail.tail, 1) from if_pos ⟨by show st.headD 0 = 0; omega, by omega⟩]; exact ⟨aV, aP, f, g, rfl, hf, hg, hst, hvb, hsb, by show 1 < _; omega, han, hsp⟩, rfl, rfl⟩
set_option maxHeartbeats 4000000 in
set_option maxRecDepth 100000 in
/-- doEntry(e0) -/
theorem c_Mach_doEntry {h al an sp : Nat} {vs : Nat → Int} {st : List Int} {w : va_W} (hw : jMach cJ h vs st al an sp w) (e0 : Int) (he1 : -2147483647 ≤ e0) (he2 : e0 ≤ 1000000000) : HM l yX2_doEntry wsX2_doEntry ({ frames := 4, cells := 0, slots := 0, locals := 160 } : Room) D G (jT cI cJ cB cZ) [.ref h, .int (iI e0)] w (fun v u k n_ => v = none ∧ jMach cJ h (eEnt e0 (vs, st, al)).1 (eEnt e0 (vs, st, al)).2.1 (eEnt e0 (vs, st, al)).2.2 an sp u ∧ k = 0 ∧ n_ = 0) := by
  refine HM_of (cc := cX2_doEntry) (maxL := 3) (ret := none) (lv := [(0, .ref h), (1, .int (iI e0))]) (by decide) rfl rfl (Nat.le_of_ble_eq_true rfl) (fun p e s m args below meth c A0 ls hx hb hr hts hown hlocks hml hnm hK hA hAm hl => ?_)
  refine jJ_of (fun H locs => lv_iload_n hx hb dX2_doEntry_0 rfl (lv_at hl 1 rfl)) ?_
  refine jJ_of2 (fun H locs => jz_if_lt (tgt := 11) hx hb dX2_doEntry_1 (by decide) (by omega) (by omega)) (fun c1 => ?_) (fun c1 => ?_)
  · obtain ⟨op, hop⟩ : ∃ op : Nat, e0 = -(op : Int) := ⟨(-e0).toNat, by omega⟩
    subst hop
    have hen : eEnt (-(op : Int)) (vs, st, al) = eNeg op (vs, st, al) := by unfold eEnt; rw [if_neg (by omega), Int.neg_neg]; rfl
    refine jJ_of (fun H locs => lv_iload_n hx hb dX2_doEntry_11 rfl (lv_at hl 1 rfl)) ?_
    refine jJ_of (fun H locs => jz_ineg hx hb dX2_doEntry_12) ?_
    rw [Int.neg_neg, ← nI_iI]
    refine jJ_ofL (fun H locs => lv_istore_n (lv' := [(2, .int (nI op)), (0, .ref h), (1, .int (iI (-(op : Int))))]) hx hb dX2_doEntry_13 rfl hl (by decide) rfl) (fun ls hl => ?_)
    refine jJ_of (fun H locs => lv_iload_n hx hb dX2_doEntry_14 rfl (lv_at hl 0 rfl)) ?_
    by_cases e15_1 : op = 1 ∨ op = 305 ∨ op = 306 ∨ op = 307 ∨ op = 308
    · refine jJ_of (fun H locs => lv_lookup hx hb dX2_doEntry_15 (by decide) (off := 102) (tgt := 117) (by rcases e15_1 with e9 | e9 | e9 | e9 | e9 <;> (rw [e9]; decide)) (by decide)) ?_
      refine jJ_of (fun H locs => lv_aload_n hx hb dX2_doEntry_117 rfl (lv_at hl 1 rfl)) ?_
      refine jJ_of (fun H locs => lv_iload_n hx hb dX2_doEntry_118 rfl (lv_at hl 0 rfl)) ?_
      refine jJ_callV (As := [.int (nI op)]) (rest := []) (wc := _) (cs2 := []) (C := RX2) (T := TX2) (N := 6) (ci := 1) [0] [] ⟨hx, hb, hml, hown, hts⟩ hK hA hAm (c_Mach_workOutOne hw op (by omega)) (cwV 1 hts gX2_doEntry_X2_workOutOne rfl rfl rfl (by decide +kernel) ⟨Nat.le_of_ble_eq_true rfl, Nat.le_of_ble_eq_true rfl⟩) (nn := 1) rfl (by decide) rfl rfl hw.hd rfl rfl rfl hl.1 (Nat.le_of_ble_eq_true rfl) dX2_doEntry_119 (by show _ + 0 ≤ 0; omega) (by show _ + 0 ≤ 0; omega) (fun v u1 k1 n1 hq1 => ?_)
      obtain ⟨rfl, hu1, rfl, rfl⟩ := hq1
      refine jJ_eq (g2 := F0 m 122 ls []) (cs2 := [u1]) rfl rfl ?_
      refine jJ_of (fun H locs => lv_goto (tgt := 130) hx hb dX2_doEntry_122 (by decide)) ?_
      exact jJ_vret hx hb hr hlocks dX2_doEntry_130 (by show _ ≤ 0; omega) (by show _ ≤ 0; omega) ⟨rfl, by rw [hen, show eNeg op (vs, st, al) = eOne op (vs, st, al) from if_pos (by omega)]; exact hu1, rfl, rfl⟩
    by_cases e15_2 : op = 2
    · refine jJ_of (fun H locs => lv_lookup hx hb dX2_doEntry_15 (by decide) (off := 88) (tgt := 103) (by rw [e15_2]; decide) (by decide)) ?_
      refine jJ_of (fun H locs => lv_aload_n hx hb dX2_doEntry_103 rfl (lv_at hl 1 rfl)) ?_
      refine jJ_callV (As := []) (rest := []) (wc := _) (cs2 := []) (C := RX2) (T := TX2) (N := 6) (ci := 1) [0] [] ⟨hx, hb, hml, hown, hts⟩ hK hA hAm (c_Mach_load hw ) (cwV 0 hts gX2_doEntry_X2_load rfl rfl rfl (by decide +kernel) ⟨Nat.le_of_ble_eq_true rfl, Nat.le_of_ble_eq_true rfl⟩) (nn := 1) rfl (by decide) rfl rfl hw.hd rfl rfl rfl hl.1 (Nat.le_of_ble_eq_true rfl) dX2_doEntry_104 (by show _ + 0 ≤ 0; omega) (by show _ + 0 ≤ 0; omega) (fun v u2 k2 n2 hq2 => ?_)
      obtain ⟨rfl, hu2, rfl, rfl⟩ := hq2
      refine jJ_eq (g2 := F0 m 107 ls []) (cs2 := [u2]) rfl rfl ?_
      refine jJ_of (fun H locs => lv_goto (tgt := 130) hx hb dX2_doEntry_107 (by decide)) ?_
      exact jJ_vret hx hb hr hlocks dX2_doEntry_130 (by show _ ≤ 0; omega) (by show _ ≤ 0; omega) ⟨rfl, by rw [hen, show eNeg op (vs, st, al) = eLoad (vs, st, al) from (if_neg (by omega)).trans (if_pos (by omega))]; exact hu2, rfl, rfl⟩
    by_cases e15_3 : op = 3
    · refine jJ_of (fun H locs => lv_lookup hx hb dX2_doEntry_15 (by decide) (off := 73) (tgt := 88) (by rw [e15_3]; decide) (by decide)) ?_
      refine jJ_of (fun H locs => lv_aload_n hx hb dX2_doEntry_88 rfl (lv_at hl 1 rfl)) ?_
      refine jJ_of (fun H locs => lv_aload_n hx hb dX2_doEntry_89 rfl (lv_at hl 1 rfl)) ?_
      refine jJ_of (fun H locs => lv_aload_n hx hb dX2_doEntry_90 rfl (lv_at hl 1 rfl)) ?_
      refine jJ_callV (As := []) (rest := [.ref h, .ref h]) (wc := _) (cs2 := []) (C := RX2) (T := TX2) (N := 6) (ci := 1) [0] [] ⟨hx, hb, hml, hown, hts⟩ hK hA hAm (c_Mach_pop hw) (cwV 0 hts gX2_doEntry_X2_pop rfl rfl rfl (by decide +kernel) ⟨Nat.le_of_ble_eq_true rfl, Nat.le_of_ble_eq_true rfl⟩) (nn := 1) rfl (by decide) rfl rfl hw.hd rfl rfl rfl hl.1 (Nat.le_of_ble_eq_true rfl) dX2_doEntry_91 (by show _ + 0 ≤ 0; omega) (by show _ + 0 ≤ 0; omega) (fun v u3 k3 n3 hq3 => ?_)
      obtain ⟨rfl, hu3, rfl, rfl⟩ := hq3
      have hok3 := hw.ok
      refine jJ_eq (g2 := F0 m 94 ls [.long (lI (st.headD 0)), .ref h, .ref h]) (cs2 := [u3]) rfl rfl ?_
      refine jJ_callV (As := [.long (lI (st.headD 0))]) (rest := [.ref h]) (wc := _) (cs2 := []) (C := RX2) (T := TX2) (N := 6) (ci := 1) [0] [] ⟨hx, hb, hml, hown, hts⟩ hK hA hAm (c_Mach_checkedPlace hu3 (st.headD 0) (by omega) (by omega)) (cwV 1 hts gX2_doEntry_X2_checkedPlace rfl rfl rfl (by decide +kernel) ⟨Nat.le_of_ble_eq_true rfl, Nat.le_of_ble_eq_true rfl⟩) (nn := 1) rfl (by decide) rfl rfl hu3.hd rfl rfl rfl hl.1 (Nat.le_of_ble_eq_true rfl) dX2_doEntry_94 (by show _ + 0 ≤ 0; omega) (by show _ + 0 ≤ 0; omega) (fun v u4 k4 n4 hq4 => ?_)
      obtain ⟨rfl, hu4, rfl, rfl⟩ := hq4
      have hcp4 := cPn_b (st.headD 0)
      refine jJ_eq (g2 := F0 m 97 ls [.long (lI (cPn (st.headD 0))), .ref h]) (cs2 := [u4]) rfl rfl ?_
      refine jJ_callV (As := [.long (lI (cPn (st.headD 0)))]) (rest := []) (wc := _) (cs2 := []) (C := RX2) (T := TX2) (N := 6) (ci := 1) [0] [] ⟨hx, hb, hml, hown, hts⟩ hK hA hAm (c_Mach_push hu4 (cPn (st.headD 0)) ⟨by omega, by omega⟩) (cwV 1 hts gX2_doEntry_X2_push rfl rfl rfl (by decide +kernel) ⟨Nat.le_of_ble_eq_true rfl, Nat.le_of_ble_eq_true rfl⟩) (nn := 1) rfl (by decide) rfl rfl hu4.hd rfl rfl rfl hl.1 (Nat.le_of_ble_eq_true rfl) dX2_doEntry_97 (by show _ + 0 ≤ 0; omega) (by show _ + 0 ≤ 0; omega) (fun v u5 k5 n5 hq5 => ?_)
      obtain ⟨rfl, hu5, rfl, rfl⟩ := hq5
      refine jJ_eq (g2 := F0 m 100 ls []) (cs2 := [u5]) rfl rfl ?_
      refine jJ_of (fun H locs => lv_goto (tgt := 130) hx hb dX2_doEntry_100 (by decide)) ?_
      exact jJ_vret hx hb hr hlocks dX2_doEntry_130 (by show _ ≤ 0; omega) (by show _ ≤ 0; omega) ⟨rfl, by rw [hen, show eNeg op (vs, st, al) = eChk (vs, st, al) from (if_neg (by omega)).trans ((if_neg (by omega)).trans (if_pos (by omega)))]; exact hu5, rfl, rfl⟩
    by_cases e15_4 : op = 4
    · refine jJ_of (fun H locs => lv_lookup hx hb dX2_doEntry_15 (by decide) (off := 95) (tgt := 110) (by rw [e15_4]; decide) (by decide)) ?_
      refine jJ_of (fun H locs => lv_aload_n hx hb dX2_doEntry_110 rfl (lv_at hl 1 rfl)) ?_
      refine jJ_callV (As := []) (rest := []) (wc := _) (cs2 := []) (C := RX2) (T := TX2) (N := 6) (ci := 1) [0] [] ⟨hx, hb, hml, hown, hts⟩ hK hA hAm (c_Mach_store hw ) (cwV 0 hts gX2_doEntry_X2_store rfl rfl rfl (by decide +kernel) ⟨Nat.le_of_ble_eq_true rfl, Nat.le_of_ble_eq_true rfl⟩) (nn := 1) rfl (by decide) rfl rfl hw.hd rfl rfl rfl hl.1 (Nat.le_of_ble_eq_true rfl) dX2_doEntry_111 (by show _ + 0 ≤ 0; omega) (by show _ + 0 ≤ 0; omega) (fun v u6 k6 n6 hq6 => ?_)
      obtain ⟨rfl, hu6, rfl, rfl⟩ := hq6
      refine jJ_eq (g2 := F0 m 114 ls []) (cs2 := [u6]) rfl rfl ?_
      refine jJ_of (fun H locs => lv_goto (tgt := 130) hx hb dX2_doEntry_114 (by decide)) ?_
      exact jJ_vret hx hb hr hlocks dX2_doEntry_130 (by show _ ≤ 0; omega) (by show _ ≤ 0; omega) ⟨rfl, by rw [hen, show eNeg op (vs, st, al) = eSto (vs, st, al) from (if_neg (by omega)).trans ((if_neg (by omega)).trans ((if_neg (by omega)).trans (if_pos (by omega))))]; exact hu6, rfl, rfl⟩
    refine jJ_of (fun H locs => lv_lookup hx hb dX2_doEntry_15 (by decide) (off := 110) (tgt := 125) (by rw [nI_toInt (by omega)]; show Op.lookupswitch.offset [(1, 102), (2, 88), (3, 73), (4, 95), (305, 102), (306, 102), (307, 102), (308, 102)] _ _ = _; rw [Op.lookupswitch.offset_cons, if_neg (by omega), Op.lookupswitch.offset_cons, if_neg (by omega), Op.lookupswitch.offset_cons, if_neg (by omega), Op.lookupswitch.offset_cons, if_neg (by omega), Op.lookupswitch.offset_cons, if_neg (by omega), Op.lookupswitch.offset_cons, if_neg (by omega), Op.lookupswitch.offset_cons, if_neg (by omega), Op.lookupswitch.offset_cons, if_neg (by omega)]; rfl) (by decide)) ?_
    refine jJ_of (fun H locs => lv_aload_n hx hb dX2_doEntry_125 rfl (lv_at hl 1 rfl)) ?_
    refine jJ_of (fun H locs => lv_iload_n hx hb dX2_doEntry_126 rfl (lv_at hl 0 rfl)) ?_
    refine jJ_callV (As := [.int (nI op)]) (rest := []) (wc := _) (cs2 := []) (C := RX2) (T := TX2) (N := 6) (ci := 1) [0] [] ⟨hx, hb, hml, hown, hts⟩ hK hA hAm (c_Mach_workOutTwo hw op (by omega)) (cwV 1 hts gX2_doEntry_X2_workOutTwo rfl rfl rfl (by decide +kernel) ⟨Nat.le_of_ble_eq_true rfl, Nat.le_of_ble_eq_true rfl⟩) (nn := 1) rfl (by decide) rfl rfl hw.hd rfl rfl rfl hl.1 (Nat.le_of_ble_eq_true rfl) dX2_doEntry_127 (by show _ + 0 ≤ 0; omega) (by show _ + 0 ≤ 0; omega) (fun v u7 k7 n7 hq7 => ?_)
    obtain ⟨rfl, hu7, rfl, rfl⟩ := hq7
    refine jJ_eq (g2 := F0 m 130 ls []) (cs2 := [u7]) rfl rfl ?_
    exact jJ_vret hx hb hr hlocks dX2_doEntry_130 (by show _ ≤ 0; omega) (by show _ ≤ 0; omega) ⟨rfl, by rw [hen, show eNeg op (vs, st, al) = eTwo op (vs, st, al) from (if_neg (by omega)).trans ((if_neg (by omega)).trans ((if_neg (by omega)).trans (if_neg (by omega))))]; exact hu7, rfl, rfl⟩
  · refine jJ_of (fun H locs => lv_aload_n hx hb dX2_doEntry_4 rfl (lv_at hl 0 rfl)) ?_
    refine jJ_of (fun H locs => lv_iload_n hx hb dX2_doEntry_5 rfl (lv_at hl 1 rfl)) ?_
    refine jJ_of (fun H locs => jz_i2l hx hb dX2_doEntry_6 (by omega) (by omega)) ?_
    refine jJ_callV (As := [.long (lI e0)]) (rest := []) (wc := _) (cs2 := []) (C := RX2) (T := TX2) (N := 6) (ci := 1) [0] [] ⟨hx, hb, hml, hown, hts⟩ hK hA hAm (c_Mach_push hw e0 ⟨by omega, by omega⟩) (cwV 1 hts gX2_doEntry_X2_push rfl rfl rfl (by decide +kernel) ⟨Nat.le_of_ble_eq_true rfl, Nat.le_of_ble_eq_true rfl⟩) (nn := 1) rfl (by decide) rfl rfl hw.hd rfl rfl rfl hl.1 (Nat.le_of_ble_eq_true rfl) dX2_doEntry_7 (by show _ + 0 ≤ 0; omega) (by show _ + 0 ≤ 0; omega) (fun v u8 k8 n8 hq8 => ?_)
    obtain ⟨rfl, hu8, rfl, rfl⟩ := hq8
    refine jJ_eq (g2 := F0 m 10 ls []) (cs2 := [u8]) rfl rfl ?_
    exact jJ_vret hx hb hr hlocks dX2_doEntry_10 (by show _ ≤ 0; omega) (by show _ ≤ 0; omega) ⟨rfl, by rw [show eEnt e0 (vs, st, al) = (vs, mPush st e0, al) from if_pos (by omega)]; exact hu8, rfl, rfl⟩
theorem uX2_in_X2_init : ∀ w ∈ u_ws RX2 TX2 6, w ∈ wsX2_init := by decide +kernel
set_option maxHeartbeats 4000000 in
set_option maxRecDepth 100000 in
/-- Machine() -/
theorem c_Mach_init (h : Nat) : HM l yX2_init wsX2_init ({ frames := 1, cells := 2, slots := 280, locals := 20 } : Room) D G (jT cI cJ cB cZ) [.ref h] ([(h, .inr (1, [.null, .null, .int (nI 0), .int (nI 0), .int (nI 0), .int (nI 0)]))]) (fun v u k n => v = none ∧ jMach cJ h (fun _ => 0) [] 0 0 0 u ∧ k ≤ 2 ∧ n ≤ 280) := by
  refine HM_of (cc := cX2_init) (maxL := 1) (ret := none) (lv := [(0, .ref h)]) (by decide) rfl rfl (Nat.le_of_ble_eq_true rfl) (fun p e s m args below meth c A0 ls hx hb hr hts hown hlocks hml hnm hK hA hAm hl => ?_)
  refine jJ_open (xs := [[(h, .inr (1, [.null, .null, .int (nI 0), .int (nI 0), .int (nI 0), .int (nI 0)]))]]) (r := []) (cs2 := [[(h, .inr (1, [.null, .null, .int (nI 0), .int (nI 0), .int (nI 0), .int (nI 0)]))]]) rfl ?_
  refine jJ_of (fun H locs => lv_aload_n hx hb dX2_init_0 rfl (lv_at hl 0 rfl)) ?_
  refine jJ_of (g2 := F0 m 4 ls []) (fun H locs kk => W.objInit hx hb hown (hts (.methodLink RX2 1 objectInit) (by decide +kernel)) (hts (.instanceMethod objectInit) (by decide +kernel)) (hts (.code objectInit ⟨#[0xb1]⟩ 1 none) (List.mem_of_getElem? (i := 3) rfl)) rfl (by rw [hml]; exact hl.1) rfl dX2_init_1 (Nat.le_of_ble_eq_true rfl) (Nat.le_of_ble_eq_true rfl) (W.eq rfl kk)) ?_
  refine jJ_of (fun H locs => lv_aload_n hx hb dX2_init_4 rfl (lv_at hl 0 rfl)) ?_
  refine jJ_of (fun H locs => lv_sipush (v := (nI 200)) hx hb dX2_init_5 (by decide)) ?_
  refine jJ_newa hx hb (atype := .long) (hts (.arrayClass .long) (by decide +kernel)) (ty := .long) rfl hK hA 1 rfl (N' := 200) (a0 := (200, .inr (.inl (fun _ => 0)))) (fun cA => by rw [vp_cell_l]; rfl) (by omega) (by decide) (by show _ + 1 ≤ 2; omega) (by show _ + 200 ≤ 280; omega) dX2_init_8 (fun q8 => ?_)
  refine jJ_eq (g2 := F0 m 10 ls [.ref q8, .ref h]) (cs2 := [[(h, .inr (1, [.null, .null, .int (nI 0), .int (nI 0), .int (nI 0), .int (nI 0)]))], [(q8, .inl (cJ, 200, .inr (.inl (fun _ => 0))))]]) rfl rfl ?_
  refine jJ_putF hx hb (C := RX2) (T := TX2) (N := 6) (ty := .array .long) (v := .ref q8) hts uX2_in_X2_init tyX2 tyX2_ok nmX2 hown hK 0 rfl rfl 0 (by decide) (hts (.fieldLink RX2 9 "ValueBlocks$Machine" "variables" "[J") (by decide +kernel)) (fun _ h9 => h9) rfl hnm rfl (by decide +kernel) rfl rfl (Nat.le_of_ble_eq_true rfl) dX2_init_10 (cs2 := [[(h, .inr (1, [.ref q8, .null, .int (nI 0), .int (nI 0), .int (nI 0), .int (nI 0)]))], [(q8, .inl (cJ, 200, .inr (.inl (fun _ => 0))))]]) rfl ?_
  refine jJ_of (fun H locs => lv_aload_n hx hb dX2_init_13 rfl (lv_at hl 0 rfl)) ?_
  refine jJ_of (fun H locs => lv_bipush (v := (nI 80)) hx hb dX2_init_14 (by decide)) ?_
  refine jJ_newa hx hb (atype := .long) (hts (.arrayClass .long) (by decide +kernel)) (ty := .long) rfl hK hA 1 rfl (N' := 80) (a0 := (80, .inr (.inl (fun _ => 0)))) (fun cA => by rw [vp_cell_l]; rfl) (by omega) (by decide) (by show _ + 1 ≤ 2; omega) (by show _ + 80 ≤ 280; omega) dX2_init_16 (fun q16 => ?_)
  refine jJ_eq (g2 := F0 m 18 ls [.ref q16, .ref h]) (cs2 := [[(h, .inr (1, [.ref q8, .null, .int (nI 0), .int (nI 0), .int (nI 0), .int (nI 0)]))], [(q8, .inl (cJ, 200, .inr (.inl (fun _ => 0))))], [(q16, .inl (cJ, 80, .inr (.inl (fun _ => 0))))]]) rfl rfl ?_
  refine jJ_putF hx hb (C := RX2) (T := TX2) (N := 6) (ty := .array .long) (v := .ref q16) hts uX2_in_X2_init tyX2 tyX2_ok nmX2 hown hK 0 rfl rfl 1 (by decide) (hts (.fieldLink RX2 13 "ValueBlocks$Machine" "pile" "[J") (by decide +kernel)) (fun _ h9 => h9) rfl hnm rfl (by decide +kernel) rfl rfl (Nat.le_of_ble_eq_true rfl) dX2_init_18 (cs2 := [[(h, .inr (1, [.ref q8, .ref q16, .int (nI 0), .int (nI 0), .int (nI 0), .int (nI 0)]))], [(q8, .inl (cJ, 200, .inr (.inl (fun _ => 0))))], [(q16, .inl (cJ, 80, .inr (.inl (fun _ => 0))))]]) rfl ?_
  exact jJ_vret hx hb hr hlocks dX2_init_21 (by show _ ≤ 2; omega) (by show _ ≤ 280; omega) ⟨rfl, ⟨_, _, _, _, rfl, fun i hi => rfl, fun i hi => absurd hi (Nat.not_lt_zero i), Nat.zero_le _, fun i => by show -1000000000000 ≤ (0 : Int) ∧ (0 : Int) ≤ 1000000000000; omega, fun x hx => absurd hx List.not_mem_nil, by omega, by omega, by omega⟩, by omega, by omega⟩

/-- a program that can run: its rows, read as numbers -/
def jPV (pr : Nat → List Int32) (co : List Int) (ss ks ts : List Nat) : Prop := pr 0 = co.map iI ∧ pr 1 = ss.map nI ∧ pr 2 = ks.map nI ∧ pr 7 = ts.map nI ∧ (∀ x ∈ co, -2147483647 ≤ x ∧ x ≤ 1000000000) ∧ (∀ x ∈ ss, x ≤ 8000) ∧ (∀ x ∈ ks, x < 1000) ∧ (∀ x ∈ ts, x ≤ 8000) ∧ co.length ≤ 8000 ∧ ss.length ≤ 8000 ∧ ks.length = ss.length ∧ ts.length = ss.length
theorem jget_n (xs : List Nat) (j : Nat) : (xs.map nI).getD j 0 = nI (xs.getD j 0) := by
  rw [List.getD_eq_getElem?_getD, List.getD_eq_getElem?_getD, List.getElem?_map]
  cases xs[j]? <;> rfl
theorem jget_z (xs : List Int) (j : Nat) : (xs.map iI).getD j 0 = iI (xs.getD j 0) := by
  rw [List.getD_eq_getElem?_getD, List.getD_eq_getElem?_getD, List.getElem?_map]
  cases xs[j]? <;> rfl
theorem jgetB {xs : List Nat} {N : Nat} (h : ∀ x ∈ xs, x ≤ N) (j : Nat) : xs.getD j 0 ≤ N := by
  rw [List.getD_eq_getElem?_getD]
  cases e : xs[j]? with
  | none => exact Nat.zero_le _
  | some x => exact h x (List.mem_of_getElem? e)
def eSt (co : List Int) (ss : List Nat) (j : Nat) : Nat := if j < ss.length then ss.getD j 0 else co.length
def eSeg : List Int → MS → MS
  | [], M => M
  | e :: r, M => if M.2.2 = 0 then eSeg r (eEnt e M) else M
def eLn (co : List Int) (ss : List Nat) (j : Nat) (vs : Nat → Int) : MS := eSeg ((co.take (eSt co ss (j + 1))).drop (eSt co ss j)) (vs, [], 0)
def eNx (ks ts : List Nat) (j : Nat) (x : Int) : Nat := if ks.getD j 0 = 301 ∨ ks.getD j 0 = 304 then ts.getD j 0 else if ks.getD j 0 = 300 then (if x = 0 then j + 1 else ts.getD j 0) else if ks.getD j 0 = 302 then (if x = 0 then ts.getD j 0 else j + 1) else j + 1
def eGo (co : List Int) (ss ks ts : List Nat) : Nat → Nat → (Nat → Int) → Nat → (Nat → Int) × Nat × Nat × Nat
  | 0, j, vs, sp => if j < ss.length then (vs, 15, j + 1, sp) else (vs, 0, 0, sp)
  | f + 1, j, vs, sp => if j < ss.length then (if (eLn co ss j vs).2.2 = 0 then eGo co ss ks ts f (eNx ks ts j ((eLn co ss j vs).2.1.headD 0)) (eLn co ss j vs).1 (sp + 1) else ((eLn co ss j vs).1, (eLn co ss j vs).2.2, j + 1, sp + 1)) else (vs, 0, 0, sp)
theorem eSeg_al {es : List Int} {M : MS} (h : ¬ M.2.2 = 0) : eSeg es M = M := by
  cases es with
  | nil => rfl
  | cons e r => exact if_neg h
theorem eSeg_nil {co : List Int} {i e : Nat} {M : MS} (h : e ≤ i) : eSeg ((co.take e).drop i) M = M := by
  rw [List.drop_eq_nil_of_le (by rw [List.length_take]; omega)]
  rfl
theorem eSeg_step {co : List Int} {i e : Nat} {M : MS} (h : i < e) (he : e ≤ co.length) (ha : M.2.2 = 0) : eSeg ((co.take e).drop i) M = eSeg ((co.take e).drop (i + 1)) (eEnt (co.getD i 0) M) := by
  have hl : i < (co.take e).length := by rw [List.length_take]; omega
  rw [List.drop_eq_getElem_cons hl]
  show (if M.2.2 = 0 then _ else _) = _
  rw [if_pos ha, List.getElem_take, List.getD_eq_getElem?_getD, List.getElem?_eq_getElem (by omega)]
  rfl
theorem ePR_al {r : Int} {M : MS} (h : M.2.2 < 100) : (ePR r M).2.2 < 100 := by unfold ePR; split; (show 4 < 100; omega); exact h
theorem eEnt_al {e : Int} {M : MS} (h : M.2.2 < 100) : (eEnt e M).2.2 < 100 := by
  unfold eEnt
  split
  · exact h
  · have h1 : ∀ op, (eOne op M).2.2 < 100 := fun op => by
      unfold eOne; split; (show 1 < 100; omega); exact ePR_al h
    have h2 : ∀ op, (eTwo op M).2.2 < 100 := fun op => by
      unfold eTwo; split; (show 1 < 100; omega); exact ePR_al h
    have h3 : ∀ x, cPa x M.2.2 < 100 := fun x => by unfold cPa; split; exact h; omega
    unfold eNeg
    (repeat' split)
    · exact h1 _
    · exact h3 _
    · exact h3 _
    · exact h
    · exact h2 _

theorem uX2_in_X2_doLine : ∀ w ∈ u_ws RX2 TX2 6, w ∈ wsX2_doLine := by decide +kernel
set_option maxHeartbeats 4000000 in
set_option maxRecDepth 100000 in
/-- doLine(program, j) -/
theorem c_Mach_doLine {h an sp : Nat} {vs : Nat → Int} {st : List Int} {w : va_W} (hw : jMach cJ h vs st 0 an sp w) {hP P : Nat} {pr : Nat → List Int32} {wP : va_W} (hpr : jProg cI hP P pr wP) {co : List Int} {ss ks ts : List Nat} (hpv : jPV pr co ss ks ts) (j : Nat) (hj : j < 8001) (hcl : eSt co ss (j + 1) ≤ co.length) : HM l yX2_doLine wsX2_doLine ({ frames := 5, cells := 0, slots := 0, locals := 200 } : Room) D G (jT cI cJ cB cZ) [.ref h, .ref hP, .int (nI j)] (jF [w, wP]) (fun v u k n_ => v = some (.int (nI (eNx ks ts j ((eLn co ss j vs).2.1.headD 0)))) ∧ ∃ (st2 : List Int) (u1 : va_W), u = jF [u1, wP] ∧ jMach cJ h (eLn co ss j vs).1 st2 (eLn co ss j vs).2.2 an sp u1 ∧ k = 0 ∧ n_ = 0) := by
  obtain ⟨hv0, hv1, hv2, hv7, hbco, hbss, hbks, hbts, hlco, hlss, hlks, hlts⟩ := hpv
  refine HM_of (cc := cX2_doLine) (maxL := 5) (ret := (some .int)) (lv := [(0, .ref h), (1, .ref hP), (2, .int (nI j))]) (by decide) rfl rfl (Nat.le_of_ble_eq_true rfl) (fun p e s m args below meth c A0 ls hx hb hr hts hown hlocks hml hnm hK hA hAm hl => ?_)
  refine jJ_open (xs := [w, wP]) (r := []) (cs2 := [w, wP]) rfl ?_
  have heb : ∀ i, -2147483647 ≤ co.getD i 0 ∧ co.getD i 0 ≤ 1000000000 := fun i => by rw [List.getD_eq_getElem?_getD]; cases he : co[i]? with | none => exact ⟨by decide, by decide⟩ | some x => exact hbco x (List.mem_of_getElem? he)
  have hsb : ∀ i, eSt co ss i ≤ 8000 := fun i => by unfold eSt; split; exact jgetB hbss i; exact hlco
  have hsb1 := hsb j
  have hsb2 := hsb (j + 1)
  have htb := jgetB hbts j
  have hkb : ks.getD j 0 < 1000 := by rw [List.getD_eq_getElem?_getD]; cases he : ks[j]? with | none => decide | some x => exact hbks x (List.mem_of_getElem? he)
  have hanb := hw.ok
  obtain ⟨aV, aP, f, g, rfl, hf, hg, hst, hvb, hsb, hal, han, hsp⟩ := hw
  refine jJ_open (xs := [[(h, .inr (1, [.ref aV, .ref aP, .int (nI st.length), .int (nI 0), .int (nI an), .int (nI sp)]))], [(aV, .inl (cJ, 200, .inr (.inl f)))], [(aP, .inl (cJ, 80, .inr (.inl g)))]]) (r := [wP]) (cs2 := [[(h, .inr (1, [.ref aV, .ref aP, .int (nI st.length), .int (nI 0), .int (nI an), .int (nI sp)]))], [(aV, .inl (cJ, 200, .inr (.inl f)))], [(aP, .inl (cJ, 80, .inr (.inl g)))], wP]) rfl ?_
  refine jJ_of (fun H locs => lv_aload_n hx hb dX2_doLine_0 rfl (lv_at hl 0 rfl)) ?_
  refine jJ_of (fun H locs => lv_iconst (v := (nI 0)) hx hb dX2_doLine_1 (by decide)) ?_
  refine jJ_put hx hb (C := RX2) (T := TX2) (N := 6) (ty := .int) (v := .int (nI 0)) hts uX2_in_X2_doLine tyX2 tyX2_ok nmX2 hown hK 0 rfl rfl 2 (by decide) (hts (.fieldLink RX2 47 "ValueBlocks$Machine" "height" "I") (by decide +kernel)) (fun _ h9 => h9) rfl (by decide +kernel) rfl rfl (Nat.le_of_ble_eq_true rfl) dX2_doLine_2 (cs2 := [[(h, .inr (1, [.ref aV, .ref aP, .int (nI 0), .int (nI 0), .int (nI an), .int (nI sp)]))], [(aV, .inl (cJ, 200, .inr (.inl f)))], [(aP, .inl (cJ, 80, .inr (.inl g)))], wP]) rfl ?_
  have hw0 : jMach cJ h vs ([]) 0 an sp (jF [[(h, .inr (1, [.ref aV, .ref aP, .int (nI 0), .int (nI 0), .int (nI an), .int (nI sp)]))], [(aV, .inl (cJ, 200, .inr (.inl f)))], [(aP, .inl (cJ, 80, .inr (.inl g)))]]) := ⟨aV, aP, _, _, rfl, hf, fun i hi => absurd hi (Nat.not_lt_zero i), Nat.zero_le _, hvb, fun x hx => absurd hx List.not_mem_nil, hal, han, hsp⟩
  refine jJ_flat (cs2 := [jF [[(h, .inr (1, [.ref aV, .ref aP, .int (nI 0), .int (nI 0), .int (nI an), .int (nI sp)]))], [(aV, .inl (cJ, 200, .inr (.inl f)))], [(aP, .inl (cJ, 80, .inr (.inl g)))]], wP]) (by simp only [jF_cons, jF, List.append_assoc, List.append_nil]) ?_
  refine jJ_of (fun H locs => lv_aload_n hx hb dX2_doLine_5 rfl (lv_at hl 1 rfl)) ?_
  refine jJ_of (fun H locs => lv_iload_n hx hb dX2_doLine_6 rfl (lv_at hl 2 rfl)) ?_
  refine jJ_of (fun H locs => lv_iconst (v := (nI 1)) hx hb dX2_doLine_7 (by decide)) ?_
  refine jJ_of (fun H locs => jn_iadd hx hb dX2_doLine_8) ?_
  refine jJ_callV (As := [.int (nI (j + 1))]) (rest := []) (wc := _) (cs2 := [jF [[(h, .inr (1, [.ref aV, .ref aP, .int (nI 0), .int (nI 0), .int (nI an), .int (nI sp)]))], [(aV, .inl (cJ, 200, .inr (.inl f)))], [(aP, .inl (cJ, 80, .inr (.inl g)))]]]) (C := RX3) (T := TX3) (N := 8) (ci := 2) [1] [0] ⟨hx, hb, hml, hown, hts⟩ hK hA hAm (c_Prog_codeStart hpr (j + 1) (by omega)) (cwV 1 hts gX2_doLine_X3_codeStart rfl rfl rfl (by decide +kernel) ⟨Nat.le_of_ble_eq_true rfl, Nat.le_of_ble_eq_true rfl⟩) (nn := 2) rfl (by decide) rfl rfl hpr.hd rfl rfl rfl hl.1 (Nat.le_of_ble_eq_true rfl) dX2_doLine_9 (by show _ + 0 ≤ 0; omega) (by show _ + 0 ≤ 0; omega) (fun v u1 k1 n1 hq1 => ?_)
  obtain ⟨rfl, hw1, rfl, rfl⟩ := hq1
  rw [hw1]
  rw [show (if j + 1 < (pr 1).length then (pr 1).getD (j + 1) 0 else nI (pr 0).length) = nI (eSt co ss (j + 1)) from by rw [hv1, hv0, jget_n, List.length_map, List.length_map]; unfold eSt; split <;> rfl]
  refine jJ_eq (g2 := F0 m 12 ls [.int (nI (eSt co ss (j + 1)))]) (cs2 := [wP, jF [[(h, .inr (1, [.ref aV, .ref aP, .int (nI 0), .int (nI 0), .int (nI an), .int (nI sp)]))], [(aV, .inl (cJ, 200, .inr (.inl f)))], [(aP, .inl (cJ, 80, .inr (.inl g)))]]]) rfl rfl ?_
  refine jJ_ofL (fun H locs => lv_istore_n (lv' := [(3, .int (nI (eSt co ss (j + 1)))), (0, .ref h), (1, .ref hP), (2, .int (nI j))]) hx hb dX2_doLine_12 rfl hl (by decide) rfl) (fun ls hl => ?_)
  refine jJ_of (fun H locs => lv_aload_n hx hb dX2_doLine_13 rfl (lv_at hl 2 rfl)) ?_
  refine jJ_of (fun H locs => lv_iload_n hx hb dX2_doLine_14 rfl (lv_at hl 3 rfl)) ?_
  refine jJ_callV (As := [.int (nI j)]) (rest := []) (wc := _) (cs2 := [jF [[(h, .inr (1, [.ref aV, .ref aP, .int (nI 0), .int (nI 0), .int (nI an), .int (nI sp)]))], [(aV, .inl (cJ, 200, .inr (.inl f)))], [(aP, .inl (cJ, 80, .inr (.inl g)))]]]) (C := RX3) (T := TX3) (N := 8) (ci := 2) [0] [1] ⟨hx, hb, hml, hown, hts⟩ hK hA hAm (c_Prog_codeStart hpr j (by omega)) (cwV 1 hts gX2_doLine_X3_codeStart rfl rfl rfl (by decide +kernel) ⟨Nat.le_of_ble_eq_true rfl, Nat.le_of_ble_eq_true rfl⟩) (nn := 2) rfl (by decide) rfl rfl hpr.hd rfl rfl rfl hl.1 (Nat.le_of_ble_eq_true rfl) dX2_doLine_15 (by show _ + 0 ≤ 0; omega) (by show _ + 0 ≤ 0; omega) (fun v u2 k2 n2 hq2 => ?_)
  obtain ⟨rfl, hw2, rfl, rfl⟩ := hq2
  rw [hw2]
  rw [show (if j < (pr 1).length then (pr 1).getD (j) 0 else nI (pr 0).length) = nI (eSt co ss (j)) from by rw [hv1, hv0, jget_n, List.length_map, List.length_map]; unfold eSt; split <;> rfl]
  refine jJ_eq (g2 := F0 m 18 ls [.int (nI (eSt co ss j))]) (cs2 := [wP, jF [[(h, .inr (1, [.ref aV, .ref aP, .int (nI 0), .int (nI 0), .int (nI an), .int (nI sp)]))], [(aV, .inl (cJ, 200, .inr (.inl f)))], [(aP, .inl (cJ, 80, .inr (.inl g)))]]]) rfl rfl ?_
  refine jJ_ofL (fun H locs => lv_istore (lv' := [(4, .int (nI (eSt co ss j))), (3, .int (nI (eSt co ss (j + 1)))), (0, .ref h), (1, .ref hP), (2, .int (nI j))]) hx hb dX2_doLine_18 hl (by decide) rfl) (fun ls hl => ?_)
  refine jJ_perm [1, 0] (nn := 2) rfl (by decide) (cs2 := [jF [[(h, .inr (1, [.ref aV, .ref aP, .int (nI 0), .int (nI 0), .int (nI an), .int (nI sp)]))], [(aV, .inl (cJ, 200, .inr (.inl f)))], [(aP, .inl (cJ, 80, .inr (.inl g)))]], wP]) rfl ?_
  suffices lp : ∀ (d i : Nat) (vs1 : Nat → Int) (st1 : List Int) (al1 : Nat) (wm : va_W), eSt co ss (j + 1) - i < d → i ≤ 8000 → al1 < 100 → jMach cJ h vs1 st1 al1 an sp wm → eSeg ((co.take (eSt co ss (j + 1))).drop i) (vs1, st1, al1) = eLn co ss j vs → ∀ ls, lv_has ls 5 [(4, .int (nI i)), (3, .int (nI (eSt co ss (j + 1)))), (0, .ref h), (1, .ref hP), (2, .int (nI j))] → jJ p l e _ s m args below meth c D A0 [wm, wP] 0 0 (jEnd below D A0 _ args s _ _) (F0 m 20 ls []) from lp 8001 _ vs [] 0 _ (by omega) (by omega) (by omega) hw0 rfl ls hl
  intro d
  induction d with
  | zero => intro i vs1 st1 al1 wm h9; exact absurd h9 (Nat.not_lt_zero _)
  | succ d ih =>
    intro i vs1 st1 al1 wm h9 hi8 hal1 hwm hseg ls hl
    have hei := heb i
    refine jJ_of (fun H locs => lv_iload hx hb dX2_doLine_20 (lv_at hl 0 rfl)) ?_
    refine jJ_of (fun H locs => lv_iload_n hx hb dX2_doLine_22 rfl (lv_at hl 1 rfl)) ?_
    refine jJ_of2 (fun H locs => jn_icmp_ge (tgt := 49) hx hb dX2_doLine_23 (by decide) (by omega) (by omega)) (fun c23 => ?_) (fun c23 => ?_)
    · have hM : eLn co ss j vs = (vs1, st1, al1) := by first | exact hseg.symm.trans (eSeg_nil (by omega)) | exact hseg.symm.trans (eSeg_al (M := (vs1, st1, al1)) (by show ¬ al1 = 0; omega))
      refine jJ_of (fun H locs => lv_aload_n hx hb dX2_doLine_49 rfl (lv_at hl 3 rfl)) ?_
      refine jJ_of (fun H locs => lv_iload_n hx hb dX2_doLine_50 rfl (lv_at hl 4 rfl)) ?_
      refine jJ_callV (As := [.int (nI j)]) (rest := []) (wc := _) (cs2 := [wm]) (C := RX3) (T := TX3) (N := 8) (ci := 2) [1] [0] ⟨hx, hb, hml, hown, hts⟩ hK hA hAm (c_Prog_kindOf hpr j (by omega)) (cwV 1 hts gX2_doLine_X3_kindOf rfl rfl rfl (by decide +kernel) ⟨Nat.le_of_ble_eq_true rfl, Nat.le_of_ble_eq_true rfl⟩) (nn := 2) rfl (by decide) rfl rfl hpr.hd rfl rfl rfl hl.1 (Nat.le_of_ble_eq_true rfl) dX2_doLine_51 (by show _ + 0 ≤ 0; omega) (by show _ + 0 ≤ 0; omega) (fun v u3 k3 n3 hq3 => ?_)
      obtain ⟨rfl, hw3, rfl, rfl⟩ := hq3
      rw [hw3]
      rw [hv2, jget_n]
      refine jJ_eq (g2 := F0 m 54 ls [.int (nI (ks.getD j 0))]) (cs2 := [wP, wm]) rfl rfl ?_
      obtain ⟨sw54, hsw54⟩ : ∃ z : Nat, z = ks.getD j 0 := ⟨_, rfl⟩
      rw [← hsw54]
      have bsw54 : sw54 < 2147483648 := by rw [hsw54]; omega
      by_cases e54_301 : sw54 = 301
      · refine jJ_of (fun H locs => lv_tableIn hx hb dX2_doLine_54 (off := 34) (tgt := 88) (by rw [e54_301]; decide) (by rw [e54_301]; decide) (by rw [e54_301]; decide) (by decide)) ?_
        have hE : ks.getD j 0 = 301 := by omega
        refine jJ_of (fun H locs => lv_aload_n hx hb dX2_doLine_88 rfl (lv_at hl 3 rfl)) ?_
        refine jJ_of (fun H locs => lv_iload_n hx hb dX2_doLine_89 rfl (lv_at hl 4 rfl)) ?_
        refine jJ_callV (As := [.int (nI j)]) (rest := []) (wc := _) (cs2 := [wm]) (C := RX3) (T := TX3) (N := 8) (ci := 2) [0] [1] ⟨hx, hb, hml, hown, hts⟩ hK hA hAm (c_Prog_target hpr j (by omega)) (cwV 1 hts gX2_doLine_X3_target rfl rfl rfl (by decide +kernel) ⟨Nat.le_of_ble_eq_true rfl, Nat.le_of_ble_eq_true rfl⟩) (nn := 2) rfl (by decide) rfl rfl hpr.hd rfl rfl rfl hl.1 (Nat.le_of_ble_eq_true rfl) dX2_doLine_90 (by show _ + 0 ≤ 0; omega) (by show _ + 0 ≤ 0; omega) (fun v u4 k4 n4 hq4 => ?_)
        obtain ⟨rfl, hw4, rfl, rfl⟩ := hq4
        rw [hw4]
        rw [hv7, jget_n]
        refine jJ_eq (g2 := F0 m 93 ls [.int (nI (ts.getD j 0))]) (cs2 := [wP, wm]) rfl rfl ?_
        refine jJ_perm [1, 0] (nn := 2) rfl (by decide) (cs2 := [wm, wP]) rfl ?_
        exact jJ_iret hx hb hr hlocks dX2_doLine_93 (by show _ ≤ 0; omega) (by show _ ≤ 0; omega) ⟨by rw [hM]; unfold eNx; rw [if_pos (Or.inl hE)], _, _, rfl, by rw [hM]; exact hwm, rfl, rfl⟩
      by_cases e54_304 : sw54 = 304
      · refine jJ_of (fun H locs => lv_tableIn hx hb dX2_doLine_54 (off := 34) (tgt := 88) (by rw [e54_304]; decide) (by rw [e54_304]; decide) (by rw [e54_304]; decide) (by decide)) ?_
        have hE : ks.getD j 0 = 304 := by omega
        refine jJ_of (fun H locs => lv_aload_n hx hb dX2_doLine_88 rfl (lv_at hl 3 rfl)) ?_
        refine jJ_of (fun H locs => lv_iload_n hx hb dX2_doLine_89 rfl (lv_at hl 4 rfl)) ?_
        refine jJ_callV (As := [.int (nI j)]) (rest := []) (wc := _) (cs2 := [wm]) (C := RX3) (T := TX3) (N := 8) (ci := 2) [0] [1] ⟨hx, hb, hml, hown, hts⟩ hK hA hAm (c_Prog_target hpr j (by omega)) (cwV 1 hts gX2_doLine_X3_target rfl rfl rfl (by decide +kernel) ⟨Nat.le_of_ble_eq_true rfl, Nat.le_of_ble_eq_true rfl⟩) (nn := 2) rfl (by decide) rfl rfl hpr.hd rfl rfl rfl hl.1 (Nat.le_of_ble_eq_true rfl) dX2_doLine_90 (by show _ + 0 ≤ 0; omega) (by show _ + 0 ≤ 0; omega) (fun v u5 k5 n5 hq5 => ?_)
        obtain ⟨rfl, hw5, rfl, rfl⟩ := hq5
        rw [hw5]
        rw [hv7, jget_n]
        refine jJ_eq (g2 := F0 m 93 ls [.int (nI (ts.getD j 0))]) (cs2 := [wP, wm]) rfl rfl ?_
        refine jJ_perm [1, 0] (nn := 2) rfl (by decide) (cs2 := [wm, wP]) rfl ?_
        exact jJ_iret hx hb hr hlocks dX2_doLine_93 (by show _ ≤ 0; omega) (by show _ ≤ 0; omega) ⟨by rw [hM]; unfold eNx; rw [if_pos (Or.inr hE)], _, _, rfl, by rw [hM]; exact hwm, rfl, rfl⟩
      by_cases e54_300 : sw54 = 300
      · refine jJ_of (fun H locs => lv_tableIn hx hb dX2_doLine_54 (off := 40) (tgt := 94) (by rw [e54_300]; decide) (by rw [e54_300]; decide) (by rw [e54_300]; decide) (by decide)) ?_
        have hE : ks.getD j 0 = 300 := by omega
        refine jJ_of (fun H locs => lv_aload_n hx hb dX2_doLine_94 rfl (lv_at hl 2 rfl)) ?_
        refine jJ_callV (As := []) (rest := []) (wc := _) (cs2 := [wP]) (C := RX2) (T := TX2) (N := 6) (ci := 1) [1] [0] ⟨hx, hb, hml, hown, hts⟩ hK hA hAm (c_Mach_pop hwm) (cwV 0 hts gX2_doLine_X2_pop rfl rfl rfl (by decide +kernel) ⟨Nat.le_of_ble_eq_true rfl, Nat.le_of_ble_eq_true rfl⟩) (nn := 2) rfl (by decide) rfl rfl hwm.hd rfl rfl rfl hl.1 (Nat.le_of_ble_eq_true rfl) dX2_doLine_95 (by show _ + 0 ≤ 0; omega) (by show _ + 0 ≤ 0; omega) (fun v u6 k6 n6 hq6 => ?_)
        obtain ⟨rfl, hu6, rfl, rfl⟩ := hq6
        have hok6 := hwm.ok
        refine jJ_eq (g2 := F0 m 98 ls [.long (lI (st1.headD 0))]) (cs2 := [u6, wP]) rfl rfl ?_
        refine jJ_of (fun H locs => jn_lconst (v := 0) hx hb dX2_doLine_98 rfl) ?_
        refine jJ_of (fun H locs => W.lcmp hx hb dX2_doLine_99) ?_
        refine jJ_of2 (fun H locs => jl_if_eq (tgt := 111) hx hb dX2_doLine_100 (by decide) (by omega) (by omega) (by omega) (by omega)) (fun c100 => ?_) (fun c100 => ?_)
        · refine jJ_of (fun H locs => lv_iload_n hx hb dX2_doLine_111 rfl (lv_at hl 4 rfl)) ?_
          refine jJ_of (fun H locs => lv_iconst (v := (nI 1)) hx hb dX2_doLine_112 (by decide)) ?_
          refine jJ_of (fun H locs => jn_iadd hx hb dX2_doLine_113) ?_
          exact jJ_iret hx hb hr hlocks dX2_doLine_114 (by show _ ≤ 0; omega) (by show _ ≤ 0; omega) ⟨by rw [hM]; unfold eNx; rw [if_neg (by omega), if_pos hE]; first | rw [if_pos (by show st1.headD 0 = 0; omega)] | rw [if_neg (by show ¬ st1.headD 0 = 0; omega)], _, _, rfl, by rw [hM]; exact hu6, rfl, rfl⟩
        · refine jJ_of (fun H locs => lv_aload_n hx hb dX2_doLine_103 rfl (lv_at hl 3 rfl)) ?_
          refine jJ_of (fun H locs => lv_iload_n hx hb dX2_doLine_104 rfl (lv_at hl 4 rfl)) ?_
          refine jJ_callV (As := [.int (nI j)]) (rest := []) (wc := _) (cs2 := [u6]) (C := RX3) (T := TX3) (N := 8) (ci := 2) [1] [0] ⟨hx, hb, hml, hown, hts⟩ hK hA hAm (c_Prog_target hpr j (by omega)) (cwV 1 hts gX2_doLine_X3_target rfl rfl rfl (by decide +kernel) ⟨Nat.le_of_ble_eq_true rfl, Nat.le_of_ble_eq_true rfl⟩) (nn := 2) rfl (by decide) rfl rfl hpr.hd rfl rfl rfl hl.1 (Nat.le_of_ble_eq_true rfl) dX2_doLine_105 (by show _ + 0 ≤ 0; omega) (by show _ + 0 ≤ 0; omega) (fun v u7 k7 n7 hq7 => ?_)
          obtain ⟨rfl, hw7, rfl, rfl⟩ := hq7
          rw [hw7]
          rw [hv7, jget_n]
          refine jJ_eq (g2 := F0 m 108 ls [.int (nI (ts.getD j 0))]) (cs2 := [wP, u6]) rfl rfl ?_
          refine jJ_of (fun H locs => lv_goto (tgt := 114) hx hb dX2_doLine_108 (by decide)) ?_
          refine jJ_perm [1, 0] (nn := 2) rfl (by decide) (cs2 := [u6, wP]) rfl ?_
          exact jJ_iret hx hb hr hlocks dX2_doLine_114 (by show _ ≤ 0; omega) (by show _ ≤ 0; omega) ⟨by rw [hM]; unfold eNx; rw [if_neg (by omega), if_pos hE]; first | rw [if_pos (by show st1.headD 0 = 0; omega)] | rw [if_neg (by show ¬ st1.headD 0 = 0; omega)], _, _, rfl, by rw [hM]; exact hu6, rfl, rfl⟩
      by_cases e54_302 : sw54 = 302
      · refine jJ_of (fun H locs => lv_tableIn hx hb dX2_doLine_54 (off := 61) (tgt := 115) (by rw [e54_302]; decide) (by rw [e54_302]; decide) (by rw [e54_302]; decide) (by decide)) ?_
        have hE : ks.getD j 0 = 302 := by omega
        refine jJ_of (fun H locs => lv_aload_n hx hb dX2_doLine_115 rfl (lv_at hl 2 rfl)) ?_
        refine jJ_callV (As := []) (rest := []) (wc := _) (cs2 := [wP]) (C := RX2) (T := TX2) (N := 6) (ci := 1) [1] [0] ⟨hx, hb, hml, hown, hts⟩ hK hA hAm (c_Mach_pop hwm) (cwV 0 hts gX2_doLine_X2_pop rfl rfl rfl (by decide +kernel) ⟨Nat.le_of_ble_eq_true rfl, Nat.le_of_ble_eq_true rfl⟩) (nn := 2) rfl (by decide) rfl rfl hwm.hd rfl rfl rfl hl.1 (Nat.le_of_ble_eq_true rfl) dX2_doLine_116 (by show _ + 0 ≤ 0; omega) (by show _ + 0 ≤ 0; omega) (fun v u8 k8 n8 hq8 => ?_)
        obtain ⟨rfl, hu8, rfl, rfl⟩ := hq8
        have hok8 := hwm.ok
        refine jJ_eq (g2 := F0 m 119 ls [.long (lI (st1.headD 0))]) (cs2 := [u8, wP]) rfl rfl ?_
        refine jJ_of (fun H locs => jn_lconst (v := 0) hx hb dX2_doLine_119 rfl) ?_
        refine jJ_of (fun H locs => W.lcmp hx hb dX2_doLine_120) ?_
        refine jJ_of2 (fun H locs => jl_if_ne (tgt := 132) hx hb dX2_doLine_121 (by decide) (by omega) (by omega) (by omega) (by omega)) (fun c121 => ?_) (fun c121 => ?_)
        · refine jJ_of (fun H locs => lv_iload_n hx hb dX2_doLine_132 rfl (lv_at hl 4 rfl)) ?_
          refine jJ_of (fun H locs => lv_iconst (v := (nI 1)) hx hb dX2_doLine_133 (by decide)) ?_
          refine jJ_of (fun H locs => jn_iadd hx hb dX2_doLine_134) ?_
          exact jJ_iret hx hb hr hlocks dX2_doLine_135 (by show _ ≤ 0; omega) (by show _ ≤ 0; omega) ⟨by rw [hM]; unfold eNx; rw [if_neg (by omega), if_neg (by omega), if_pos hE]; first | rw [if_pos (by show st1.headD 0 = 0; omega)] | rw [if_neg (by show ¬ st1.headD 0 = 0; omega)], _, _, rfl, by rw [hM]; exact hu8, rfl, rfl⟩
        · refine jJ_of (fun H locs => lv_aload_n hx hb dX2_doLine_124 rfl (lv_at hl 3 rfl)) ?_
          refine jJ_of (fun H locs => lv_iload_n hx hb dX2_doLine_125 rfl (lv_at hl 4 rfl)) ?_
          refine jJ_callV (As := [.int (nI j)]) (rest := []) (wc := _) (cs2 := [u8]) (C := RX3) (T := TX3) (N := 8) (ci := 2) [1] [0] ⟨hx, hb, hml, hown, hts⟩ hK hA hAm (c_Prog_target hpr j (by omega)) (cwV 1 hts gX2_doLine_X3_target rfl rfl rfl (by decide +kernel) ⟨Nat.le_of_ble_eq_true rfl, Nat.le_of_ble_eq_true rfl⟩) (nn := 2) rfl (by decide) rfl rfl hpr.hd rfl rfl rfl hl.1 (Nat.le_of_ble_eq_true rfl) dX2_doLine_126 (by show _ + 0 ≤ 0; omega) (by show _ + 0 ≤ 0; omega) (fun v u9 k9 n9 hq9 => ?_)
          obtain ⟨rfl, hw9, rfl, rfl⟩ := hq9
          rw [hw9]
          rw [hv7, jget_n]
          refine jJ_eq (g2 := F0 m 129 ls [.int (nI (ts.getD j 0))]) (cs2 := [wP, u8]) rfl rfl ?_
          refine jJ_of (fun H locs => lv_goto (tgt := 135) hx hb dX2_doLine_129 (by decide)) ?_
          refine jJ_perm [1, 0] (nn := 2) rfl (by decide) (cs2 := [u8, wP]) rfl ?_
          exact jJ_iret hx hb hr hlocks dX2_doLine_135 (by show _ ≤ 0; omega) (by show _ ≤ 0; omega) ⟨by rw [hM]; unfold eNx; rw [if_neg (by omega), if_neg (by omega), if_pos hE]; first | rw [if_pos (by show st1.headD 0 = 0; omega)] | rw [if_neg (by show ¬ st1.headD 0 = 0; omega)], _, _, rfl, by rw [hM]; exact hu8, rfl, rfl⟩
      by_cases e54_303 : sw54 = 303
      · refine jJ_of (fun H locs => lv_tableIn hx hb dX2_doLine_54 (off := 82) (tgt := 136) (by rw [e54_303]; decide) (by rw [e54_303]; decide) (by rw [e54_303]; decide) (by decide)) ?_
        have hE : ¬ (ks.getD j 0 = 301 ∨ ks.getD j 0 = 304 ∨ ks.getD j 0 = 300 ∨ ks.getD j 0 = 302) := by omega
        refine jJ_of (fun H locs => lv_iload_n hx hb dX2_doLine_136 rfl (lv_at hl 4 rfl)) ?_
        refine jJ_of (fun H locs => lv_iconst (v := (nI 1)) hx hb dX2_doLine_137 (by decide)) ?_
        refine jJ_of (fun H locs => jn_iadd hx hb dX2_doLine_138) ?_
        refine jJ_perm [1, 0] (nn := 2) rfl (by decide) (cs2 := [wm, wP]) rfl ?_
        exact jJ_iret hx hb hr hlocks dX2_doLine_139 (by show _ ≤ 0; omega) (by show _ ≤ 0; omega) ⟨by rw [hM]; unfold eNx; rw [if_neg (by omega), if_neg (by omega), if_neg (by omega)], _, _, rfl, by rw [hM]; exact hwm, rfl, rfl⟩
      refine jJ_of (fun H locs => lv_tableOut hx hb dX2_doLine_54 (tgt := 136) (by rw [nI_toInt bsw54]; omega) (by decide)) ?_
      have hE : ¬ (ks.getD j 0 = 301 ∨ ks.getD j 0 = 304 ∨ ks.getD j 0 = 300 ∨ ks.getD j 0 = 302) := by omega
      refine jJ_of (fun H locs => lv_iload_n hx hb dX2_doLine_136 rfl (lv_at hl 4 rfl)) ?_
      refine jJ_of (fun H locs => lv_iconst (v := (nI 1)) hx hb dX2_doLine_137 (by decide)) ?_
      refine jJ_of (fun H locs => jn_iadd hx hb dX2_doLine_138) ?_
      refine jJ_perm [1, 0] (nn := 2) rfl (by decide) (cs2 := [wm, wP]) rfl ?_
      exact jJ_iret hx hb hr hlocks dX2_doLine_139 (by show _ ≤ 0; omega) (by show _ ≤ 0; omega) ⟨by rw [hM]; unfold eNx; rw [if_neg (by omega), if_neg (by omega), if_neg (by omega)], _, _, rfl, by rw [hM]; exact hwm, rfl, rfl⟩
    · obtain ⟨aV, aP, f, g, rfl, hf, hg, hst, hvb, hsb, hal, han, hsp⟩ := hwm
      refine jJ_open (xs := [[(h, .inr (1, [.ref aV, .ref aP, .int (nI st1.length), .int (nI al1), .int (nI an), .int (nI sp)]))], [(aV, .inl (cJ, 200, .inr (.inl f)))], [(aP, .inl (cJ, 80, .inr (.inl g)))]]) (r := [wP]) (cs2 := [[(h, .inr (1, [.ref aV, .ref aP, .int (nI st1.length), .int (nI al1), .int (nI an), .int (nI sp)]))], [(aV, .inl (cJ, 200, .inr (.inl f)))], [(aP, .inl (cJ, 80, .inr (.inl g)))], wP]) rfl ?_
      refine jJ_of (fun H locs => lv_aload_n hx hb dX2_doLine_26 rfl (lv_at hl 2 rfl)) ?_
      refine jJ_get hx hb (C := RX2) (T := TX2) (N := 6) hts uX2_in_X2_doLine hown hK 0 rfl rfl 3 (by decide) (hts (.fieldLink RX2 34 "ValueBlocks$Machine" "alarm" "I") (by decide +kernel)) (fun _ h9 => h9) rfl dX2_doLine_27 ?_
      refine jJ_of2 (fun H locs => jn_if_ne (tgt := 49) hx hb dX2_doLine_30 (by decide) (by omega)) (fun c30 => ?_) (fun c30 => ?_)
      · have hwm2 : jMach cJ h vs1 st1 al1 an sp (jF [[(h, .inr (1, [.ref aV, .ref aP, .int (nI st1.length), .int (nI al1), .int (nI an), .int (nI sp)]))], [(aV, .inl (cJ, 200, .inr (.inl f)))], [(aP, .inl (cJ, 80, .inr (.inl g)))]]) := ⟨aV, aP, _, _, rfl, hf, hg, hst, hvb, hsb, hal, han, hsp⟩
        refine jJ_flat (cs2 := [jF [[(h, .inr (1, [.ref aV, .ref aP, .int (nI st1.length), .int (nI al1), .int (nI an), .int (nI sp)]))], [(aV, .inl (cJ, 200, .inr (.inl f)))], [(aP, .inl (cJ, 80, .inr (.inl g)))]], wP]) (by simp only [jF_cons, jF, List.append_assoc, List.append_nil]) ?_
        have hM : eLn co ss j vs = (vs1, st1, al1) := by first | exact hseg.symm.trans (eSeg_nil (by omega)) | exact hseg.symm.trans (eSeg_al (M := (vs1, st1, al1)) (by show ¬ al1 = 0; omega))
        refine jJ_of (fun H locs => lv_aload_n hx hb dX2_doLine_49 rfl (lv_at hl 3 rfl)) ?_
        refine jJ_of (fun H locs => lv_iload_n hx hb dX2_doLine_50 rfl (lv_at hl 4 rfl)) ?_
        refine jJ_callV (As := [.int (nI j)]) (rest := []) (wc := _) (cs2 := [jF [[(h, .inr (1, [.ref aV, .ref aP, .int (nI st1.length), .int (nI al1), .int (nI an), .int (nI sp)]))], [(aV, .inl (cJ, 200, .inr (.inl f)))], [(aP, .inl (cJ, 80, .inr (.inl g)))]]]) (C := RX3) (T := TX3) (N := 8) (ci := 2) [1] [0] ⟨hx, hb, hml, hown, hts⟩ hK hA hAm (c_Prog_kindOf hpr j (by omega)) (cwV 1 hts gX2_doLine_X3_kindOf rfl rfl rfl (by decide +kernel) ⟨Nat.le_of_ble_eq_true rfl, Nat.le_of_ble_eq_true rfl⟩) (nn := 2) rfl (by decide) rfl rfl hpr.hd rfl rfl rfl hl.1 (Nat.le_of_ble_eq_true rfl) dX2_doLine_51 (by show _ + 0 ≤ 0; omega) (by show _ + 0 ≤ 0; omega) (fun v u10 k10 n10 hq10 => ?_)
        obtain ⟨rfl, hw10, rfl, rfl⟩ := hq10
        rw [hw10]
        rw [hv2, jget_n]
        refine jJ_eq (g2 := F0 m 54 ls [.int (nI (ks.getD j 0))]) (cs2 := [wP, jF [[(h, .inr (1, [.ref aV, .ref aP, .int (nI st1.length), .int (nI al1), .int (nI an), .int (nI sp)]))], [(aV, .inl (cJ, 200, .inr (.inl f)))], [(aP, .inl (cJ, 80, .inr (.inl g)))]]]) rfl rfl ?_
        obtain ⟨sw54, hsw54⟩ : ∃ z : Nat, z = ks.getD j 0 := ⟨_, rfl⟩
        rw [← hsw54]
        have bsw54 : sw54 < 2147483648 := by rw [hsw54]; omega
        by_cases e54_301 : sw54 = 301
        · refine jJ_of (fun H locs => lv_tableIn hx hb dX2_doLine_54 (off := 34) (tgt := 88) (by rw [e54_301]; decide) (by rw [e54_301]; decide) (by rw [e54_301]; decide) (by decide)) ?_
          have hE : ks.getD j 0 = 301 := by omega
          refine jJ_of (fun H locs => lv_aload_n hx hb dX2_doLine_88 rfl (lv_at hl 3 rfl)) ?_
          refine jJ_of (fun H locs => lv_iload_n hx hb dX2_doLine_89 rfl (lv_at hl 4 rfl)) ?_
          refine jJ_callV (As := [.int (nI j)]) (rest := []) (wc := _) (cs2 := [jF [[(h, .inr (1, [.ref aV, .ref aP, .int (nI st1.length), .int (nI al1), .int (nI an), .int (nI sp)]))], [(aV, .inl (cJ, 200, .inr (.inl f)))], [(aP, .inl (cJ, 80, .inr (.inl g)))]]]) (C := RX3) (T := TX3) (N := 8) (ci := 2) [0] [1] ⟨hx, hb, hml, hown, hts⟩ hK hA hAm (c_Prog_target hpr j (by omega)) (cwV 1 hts gX2_doLine_X3_target rfl rfl rfl (by decide +kernel) ⟨Nat.le_of_ble_eq_true rfl, Nat.le_of_ble_eq_true rfl⟩) (nn := 2) rfl (by decide) rfl rfl hpr.hd rfl rfl rfl hl.1 (Nat.le_of_ble_eq_true rfl) dX2_doLine_90 (by show _ + 0 ≤ 0; omega) (by show _ + 0 ≤ 0; omega) (fun v u11 k11 n11 hq11 => ?_)
          obtain ⟨rfl, hw11, rfl, rfl⟩ := hq11
          rw [hw11]
          rw [hv7, jget_n]
          refine jJ_eq (g2 := F0 m 93 ls [.int (nI (ts.getD j 0))]) (cs2 := [wP, jF [[(h, .inr (1, [.ref aV, .ref aP, .int (nI st1.length), .int (nI al1), .int (nI an), .int (nI sp)]))], [(aV, .inl (cJ, 200, .inr (.inl f)))], [(aP, .inl (cJ, 80, .inr (.inl g)))]]]) rfl rfl ?_
          refine jJ_perm [1, 0] (nn := 2) rfl (by decide) (cs2 := [jF [[(h, .inr (1, [.ref aV, .ref aP, .int (nI st1.length), .int (nI al1), .int (nI an), .int (nI sp)]))], [(aV, .inl (cJ, 200, .inr (.inl f)))], [(aP, .inl (cJ, 80, .inr (.inl g)))]], wP]) rfl ?_
          exact jJ_iret hx hb hr hlocks dX2_doLine_93 (by show _ ≤ 0; omega) (by show _ ≤ 0; omega) ⟨by rw [hM]; unfold eNx; rw [if_pos (Or.inl hE)], _, _, rfl, by rw [hM]; exact hwm2, rfl, rfl⟩
        by_cases e54_304 : sw54 = 304
        · refine jJ_of (fun H locs => lv_tableIn hx hb dX2_doLine_54 (off := 34) (tgt := 88) (by rw [e54_304]; decide) (by rw [e54_304]; decide) (by rw [e54_304]; decide) (by decide)) ?_
          have hE : ks.getD j 0 = 304 := by omega
          refine jJ_of (fun H locs => lv_aload_n hx hb dX2_doLine_88 rfl (lv_at hl 3 rfl)) ?_
          refine jJ_of (fun H locs => lv_iload_n hx hb dX2_doLine_89 rfl (lv_at hl 4 rfl)) ?_
          refine jJ_callV (As := [.int (nI j)]) (rest := []) (wc := _) (cs2 := [jF [[(h, .inr (1, [.ref aV, .ref aP, .int (nI st1.length), .int (nI al1), .int (nI an), .int (nI sp)]))], [(aV, .inl (cJ, 200, .inr (.inl f)))], [(aP, .inl (cJ, 80, .inr (.inl g)))]]]) (C := RX3) (T := TX3) (N := 8) (ci := 2) [0] [1] ⟨hx, hb, hml, hown, hts⟩ hK hA hAm (c_Prog_target hpr j (by omega)) (cwV 1 hts gX2_doLine_X3_target rfl rfl rfl (by decide +kernel) ⟨Nat.le_of_ble_eq_true rfl, Nat.le_of_ble_eq_true rfl⟩) (nn := 2) rfl (by decide) rfl rfl hpr.hd rfl rfl rfl hl.1 (Nat.le_of_ble_eq_true rfl) dX2_doLine_90 (by show _ + 0 ≤ 0; omega) (by show _ + 0 ≤ 0; omega) (fun v u12 k12 n12 hq12 => ?_)
          obtain ⟨rfl, hw12, rfl, rfl⟩ := hq12
          rw [hw12]
          rw [hv7, jget_n]
          refine jJ_eq (g2 := F0 m 93 ls [.int (nI (ts.getD j 0))]) (cs2 := [wP, jF [[(h, .inr (1, [.ref aV, .ref aP, .int (nI st1.length), .int (nI al1), .int (nI an), .int (nI sp)]))], [(aV, .inl (cJ, 200, .inr (.inl f)))], [(aP, .inl (cJ, 80, .inr (.inl g)))]]]) rfl rfl ?_
          refine jJ_perm [1, 0] (nn := 2) rfl (by decide) (cs2 := [jF [[(h, .inr (1, [.ref aV, .ref aP, .int (nI st1.length), .int (nI al1), .int (nI an), .int (nI sp)]))], [(aV, .inl (cJ, 200, .inr (.inl f)))], [(aP, .inl (cJ, 80, .inr (.inl g)))]], wP]) rfl ?_
          exact jJ_iret hx hb hr hlocks dX2_doLine_93 (by show _ ≤ 0; omega) (by show _ ≤ 0; omega) ⟨by rw [hM]; unfold eNx; rw [if_pos (Or.inr hE)], _, _, rfl, by rw [hM]; exact hwm2, rfl, rfl⟩
        by_cases e54_300 : sw54 = 300
        · refine jJ_of (fun H locs => lv_tableIn hx hb dX2_doLine_54 (off := 40) (tgt := 94) (by rw [e54_300]; decide) (by rw [e54_300]; decide) (by rw [e54_300]; decide) (by decide)) ?_
          have hE : ks.getD j 0 = 300 := by omega
          refine jJ_of (fun H locs => lv_aload_n hx hb dX2_doLine_94 rfl (lv_at hl 2 rfl)) ?_
          refine jJ_callV (As := []) (rest := []) (wc := _) (cs2 := [wP]) (C := RX2) (T := TX2) (N := 6) (ci := 1) [1] [0] ⟨hx, hb, hml, hown, hts⟩ hK hA hAm (c_Mach_pop hwm2) (cwV 0 hts gX2_doLine_X2_pop rfl rfl rfl (by decide +kernel) ⟨Nat.le_of_ble_eq_true rfl, Nat.le_of_ble_eq_true rfl⟩) (nn := 2) rfl (by decide) rfl rfl hwm2.hd rfl rfl rfl hl.1 (Nat.le_of_ble_eq_true rfl) dX2_doLine_95 (by show _ + 0 ≤ 0; omega) (by show _ + 0 ≤ 0; omega) (fun v u13 k13 n13 hq13 => ?_)
          obtain ⟨rfl, hu13, rfl, rfl⟩ := hq13
          have hok13 := hwm2.ok
          refine jJ_eq (g2 := F0 m 98 ls [.long (lI (st1.headD 0))]) (cs2 := [u13, wP]) rfl rfl ?_
          refine jJ_of (fun H locs => jn_lconst (v := 0) hx hb dX2_doLine_98 rfl) ?_
          refine jJ_of (fun H locs => W.lcmp hx hb dX2_doLine_99) ?_
          refine jJ_of2 (fun H locs => jl_if_eq (tgt := 111) hx hb dX2_doLine_100 (by decide) (by omega) (by omega) (by omega) (by omega)) (fun c100 => ?_) (fun c100 => ?_)
          · refine jJ_of (fun H locs => lv_iload_n hx hb dX2_doLine_111 rfl (lv_at hl 4 rfl)) ?_
            refine jJ_of (fun H locs => lv_iconst (v := (nI 1)) hx hb dX2_doLine_112 (by decide)) ?_
            refine jJ_of (fun H locs => jn_iadd hx hb dX2_doLine_113) ?_
            exact jJ_iret hx hb hr hlocks dX2_doLine_114 (by show _ ≤ 0; omega) (by show _ ≤ 0; omega) ⟨by rw [hM]; unfold eNx; rw [if_neg (by omega), if_pos hE]; first | rw [if_pos (by show st1.headD 0 = 0; omega)] | rw [if_neg (by show ¬ st1.headD 0 = 0; omega)], _, _, rfl, by rw [hM]; exact hu13, rfl, rfl⟩
          · refine jJ_of (fun H locs => lv_aload_n hx hb dX2_doLine_103 rfl (lv_at hl 3 rfl)) ?_
            refine jJ_of (fun H locs => lv_iload_n hx hb dX2_doLine_104 rfl (lv_at hl 4 rfl)) ?_
            refine jJ_callV (As := [.int (nI j)]) (rest := []) (wc := _) (cs2 := [u13]) (C := RX3) (T := TX3) (N := 8) (ci := 2) [1] [0] ⟨hx, hb, hml, hown, hts⟩ hK hA hAm (c_Prog_target hpr j (by omega)) (cwV 1 hts gX2_doLine_X3_target rfl rfl rfl (by decide +kernel) ⟨Nat.le_of_ble_eq_true rfl, Nat.le_of_ble_eq_true rfl⟩) (nn := 2) rfl (by decide) rfl rfl hpr.hd rfl rfl rfl hl.1 (Nat.le_of_ble_eq_true rfl) dX2_doLine_105 (by show _ + 0 ≤ 0; omega) (by show _ + 0 ≤ 0; omega) (fun v u14 k14 n14 hq14 => ?_)
            obtain ⟨rfl, hw14, rfl, rfl⟩ := hq14
            rw [hw14]
            rw [hv7, jget_n]
            refine jJ_eq (g2 := F0 m 108 ls [.int (nI (ts.getD j 0))]) (cs2 := [wP, u13]) rfl rfl ?_
            refine jJ_of (fun H locs => lv_goto (tgt := 114) hx hb dX2_doLine_108 (by decide)) ?_
            refine jJ_perm [1, 0] (nn := 2) rfl (by decide) (cs2 := [u13, wP]) rfl ?_
            exact jJ_iret hx hb hr hlocks dX2_doLine_114 (by show _ ≤ 0; omega) (by show _ ≤ 0; omega) ⟨by rw [hM]; unfold eNx; rw [if_neg (by omega), if_pos hE]; first | rw [if_pos (by show st1.headD 0 = 0; omega)] | rw [if_neg (by show ¬ st1.headD 0 = 0; omega)], _, _, rfl, by rw [hM]; exact hu13, rfl, rfl⟩
        by_cases e54_302 : sw54 = 302
        · refine jJ_of (fun H locs => lv_tableIn hx hb dX2_doLine_54 (off := 61) (tgt := 115) (by rw [e54_302]; decide) (by rw [e54_302]; decide) (by rw [e54_302]; decide) (by decide)) ?_
          have hE : ks.getD j 0 = 302 := by omega
          refine jJ_of (fun H locs => lv_aload_n hx hb dX2_doLine_115 rfl (lv_at hl 2 rfl)) ?_
          refine jJ_callV (As := []) (rest := []) (wc := _) (cs2 := [wP]) (C := RX2) (T := TX2) (N := 6) (ci := 1) [1] [0] ⟨hx, hb, hml, hown, hts⟩ hK hA hAm (c_Mach_pop hwm2) (cwV 0 hts gX2_doLine_X2_pop rfl rfl rfl (by decide +kernel) ⟨Nat.le_of_ble_eq_true rfl, Nat.le_of_ble_eq_true rfl⟩) (nn := 2) rfl (by decide) rfl rfl hwm2.hd rfl rfl rfl hl.1 (Nat.le_of_ble_eq_true rfl) dX2_doLine_116 (by show _ + 0 ≤ 0; omega) (by show _ + 0 ≤ 0; omega) (fun v u15 k15 n15 hq15 => ?_)
          obtain ⟨rfl, hu15, rfl, rfl⟩ := hq15
          have hok15 := hwm2.ok
          refine jJ_eq (g2 := F0 m 119 ls [.long (lI (st1.headD 0))]) (cs2 := [u15, wP]) rfl rfl ?_
          refine jJ_of (fun H locs => jn_lconst (v := 0) hx hb dX2_doLine_119 rfl) ?_
          refine jJ_of (fun H locs => W.lcmp hx hb dX2_doLine_120) ?_
          refine jJ_of2 (fun H locs => jl_if_ne (tgt := 132) hx hb dX2_doLine_121 (by decide) (by omega) (by omega) (by omega) (by omega)) (fun c121 => ?_) (fun c121 => ?_)
          · refine jJ_of (fun H locs => lv_iload_n hx hb dX2_doLine_132 rfl (lv_at hl 4 rfl)) ?_
            refine jJ_of (fun H locs => lv_iconst (v := (nI 1)) hx hb dX2_doLine_133 (by decide)) ?_
            refine jJ_of (fun H locs => jn_iadd hx hb dX2_doLine_134) ?_
            exact jJ_iret hx hb hr hlocks dX2_doLine_135 (by show _ ≤ 0; omega) (by show _ ≤ 0; omega) ⟨by rw [hM]; unfold eNx; rw [if_neg (by omega), if_neg (by omega), if_pos hE]; first | rw [if_pos (by show st1.headD 0 = 0; omega)] | rw [if_neg (by show ¬ st1.headD 0 = 0; omega)], _, _, rfl, by rw [hM]; exact hu15, rfl, rfl⟩
          · refine jJ_of (fun H locs => lv_aload_n hx hb dX2_doLine_124 rfl (lv_at hl 3 rfl)) ?_
            refine jJ_of (fun H locs => lv_iload_n hx hb dX2_doLine_125 rfl (lv_at hl 4 rfl)) ?_
            refine jJ_callV (As := [.int (nI j)]) (rest := []) (wc := _) (cs2 := [u15]) (C := RX3) (T := TX3) (N := 8) (ci := 2) [1] [0] ⟨hx, hb, hml, hown, hts⟩ hK hA hAm (c_Prog_target hpr j (by omega)) (cwV 1 hts gX2_doLine_X3_target rfl rfl rfl (by decide +kernel) ⟨Nat.le_of_ble_eq_true rfl, Nat.le_of_ble_eq_true rfl⟩) (nn := 2) rfl (by decide) rfl rfl hpr.hd rfl rfl rfl hl.1 (Nat.le_of_ble_eq_true rfl) dX2_doLine_126 (by show _ + 0 ≤ 0; omega) (by show _ + 0 ≤ 0; omega) (fun v u16 k16 n16 hq16 => ?_)
            obtain ⟨rfl, hw16, rfl, rfl⟩ := hq16
            rw [hw16]
            rw [hv7, jget_n]
            refine jJ_eq (g2 := F0 m 129 ls [.int (nI (ts.getD j 0))]) (cs2 := [wP, u15]) rfl rfl ?_
            refine jJ_of (fun H locs => lv_goto (tgt := 135) hx hb dX2_doLine_129 (by decide)) ?_
            refine jJ_perm [1, 0] (nn := 2) rfl (by decide) (cs2 := [u15, wP]) rfl ?_
            exact jJ_iret hx hb hr hlocks dX2_doLine_135 (by show _ ≤ 0; omega) (by show _ ≤ 0; omega) ⟨by rw [hM]; unfold eNx; rw [if_neg (by omega), if_neg (by omega), if_pos hE]; first | rw [if_pos (by show st1.headD 0 = 0; omega)] | rw [if_neg (by show ¬ st1.headD 0 = 0; omega)], _, _, rfl, by rw [hM]; exact hu15, rfl, rfl⟩
        by_cases e54_303 : sw54 = 303
        · refine jJ_of (fun H locs => lv_tableIn hx hb dX2_doLine_54 (off := 82) (tgt := 136) (by rw [e54_303]; decide) (by rw [e54_303]; decide) (by rw [e54_303]; decide) (by decide)) ?_
          have hE : ¬ (ks.getD j 0 = 301 ∨ ks.getD j 0 = 304 ∨ ks.getD j 0 = 300 ∨ ks.getD j 0 = 302) := by omega
          refine jJ_of (fun H locs => lv_iload_n hx hb dX2_doLine_136 rfl (lv_at hl 4 rfl)) ?_
          refine jJ_of (fun H locs => lv_iconst (v := (nI 1)) hx hb dX2_doLine_137 (by decide)) ?_
          refine jJ_of (fun H locs => jn_iadd hx hb dX2_doLine_138) ?_
          refine jJ_perm [1, 0] (nn := 2) rfl (by decide) (cs2 := [jF [[(h, .inr (1, [.ref aV, .ref aP, .int (nI st1.length), .int (nI al1), .int (nI an), .int (nI sp)]))], [(aV, .inl (cJ, 200, .inr (.inl f)))], [(aP, .inl (cJ, 80, .inr (.inl g)))]], wP]) rfl ?_
          exact jJ_iret hx hb hr hlocks dX2_doLine_139 (by show _ ≤ 0; omega) (by show _ ≤ 0; omega) ⟨by rw [hM]; unfold eNx; rw [if_neg (by omega), if_neg (by omega), if_neg (by omega)], _, _, rfl, by rw [hM]; exact hwm2, rfl, rfl⟩
        refine jJ_of (fun H locs => lv_tableOut hx hb dX2_doLine_54 (tgt := 136) (by rw [nI_toInt bsw54]; omega) (by decide)) ?_
        have hE : ¬ (ks.getD j 0 = 301 ∨ ks.getD j 0 = 304 ∨ ks.getD j 0 = 300 ∨ ks.getD j 0 = 302) := by omega
        refine jJ_of (fun H locs => lv_iload_n hx hb dX2_doLine_136 rfl (lv_at hl 4 rfl)) ?_
        refine jJ_of (fun H locs => lv_iconst (v := (nI 1)) hx hb dX2_doLine_137 (by decide)) ?_
        refine jJ_of (fun H locs => jn_iadd hx hb dX2_doLine_138) ?_
        refine jJ_perm [1, 0] (nn := 2) rfl (by decide) (cs2 := [jF [[(h, .inr (1, [.ref aV, .ref aP, .int (nI st1.length), .int (nI al1), .int (nI an), .int (nI sp)]))], [(aV, .inl (cJ, 200, .inr (.inl f)))], [(aP, .inl (cJ, 80, .inr (.inl g)))]], wP]) rfl ?_
        exact jJ_iret hx hb hr hlocks dX2_doLine_139 (by show _ ≤ 0; omega) (by show _ ≤ 0; omega) ⟨by rw [hM]; unfold eNx; rw [if_neg (by omega), if_neg (by omega), if_neg (by omega)], _, _, rfl, by rw [hM]; exact hwm2, rfl, rfl⟩
      · have hwm2 : jMach cJ h vs1 st1 al1 an sp (jF [[(h, .inr (1, [.ref aV, .ref aP, .int (nI st1.length), .int (nI al1), .int (nI an), .int (nI sp)]))], [(aV, .inl (cJ, 200, .inr (.inl f)))], [(aP, .inl (cJ, 80, .inr (.inl g)))]]) := ⟨aV, aP, _, _, rfl, hf, hg, hst, hvb, hsb, hal, han, hsp⟩
        refine jJ_flat (cs2 := [jF [[(h, .inr (1, [.ref aV, .ref aP, .int (nI st1.length), .int (nI al1), .int (nI an), .int (nI sp)]))], [(aV, .inl (cJ, 200, .inr (.inl f)))], [(aP, .inl (cJ, 80, .inr (.inl g)))]], wP]) (by simp only [jF_cons, jF, List.append_assoc, List.append_nil]) ?_
        refine jJ_of (fun H locs => lv_aload_n hx hb dX2_doLine_33 rfl (lv_at hl 2 rfl)) ?_
        refine jJ_of (fun H locs => lv_aload_n hx hb dX2_doLine_34 rfl (lv_at hl 3 rfl)) ?_
        refine jJ_of (fun H locs => lv_iload hx hb dX2_doLine_35 (lv_at hl 0 rfl)) ?_
        refine jJ_callV (As := [.int (nI i)]) (rest := [.ref h]) (wc := _) (cs2 := [jF [[(h, .inr (1, [.ref aV, .ref aP, .int (nI st1.length), .int (nI al1), .int (nI an), .int (nI sp)]))], [(aV, .inl (cJ, 200, .inr (.inl f)))], [(aP, .inl (cJ, 80, .inr (.inl g)))]]]) (C := RX3) (T := TX3) (N := 8) (ci := 2) [1] [0] ⟨hx, hb, hml, hown, hts⟩ hK hA hAm (c_Prog_entry hpr i (by omega)) (cwV 1 hts gX2_doLine_X3_entry rfl rfl rfl (by decide +kernel) ⟨Nat.le_of_ble_eq_true rfl, Nat.le_of_ble_eq_true rfl⟩) (nn := 2) rfl (by decide) rfl rfl hpr.hd rfl rfl rfl hl.1 (Nat.le_of_ble_eq_true rfl) dX2_doLine_37 (by show _ + 0 ≤ 0; omega) (by show _ + 0 ≤ 0; omega) (fun v u17 k17 n17 hq17 => ?_)
        obtain ⟨rfl, hw17, rfl, rfl⟩ := hq17
        rw [hw17]
        rw [hv0, jget_z]
        refine jJ_eq (g2 := F0 m 40 ls [.int (iI (co.getD i 0)), .ref h]) (cs2 := [wP, jF [[(h, .inr (1, [.ref aV, .ref aP, .int (nI st1.length), .int (nI al1), .int (nI an), .int (nI sp)]))], [(aV, .inl (cJ, 200, .inr (.inl f)))], [(aP, .inl (cJ, 80, .inr (.inl g)))]]]) rfl rfl ?_
        refine jJ_callV (As := [.int (iI (co.getD i 0))]) (rest := []) (wc := _) (cs2 := [wP]) (C := RX2) (T := TX2) (N := 6) (ci := 1) [1] [0] ⟨hx, hb, hml, hown, hts⟩ hK hA hAm (c_Mach_doEntry hwm2 (co.getD i 0) (by omega) (by omega)) (cwV 1 hts gX2_doLine_X2_doEntry rfl rfl rfl (by decide +kernel) ⟨Nat.le_of_ble_eq_true rfl, Nat.le_of_ble_eq_true rfl⟩) (nn := 2) rfl (by decide) rfl rfl hwm2.hd rfl rfl rfl hl.1 (Nat.le_of_ble_eq_true rfl) dX2_doLine_40 (by show _ + 0 ≤ 0; omega) (by show _ + 0 ≤ 0; omega) (fun v u18 k18 n18 hq18 => ?_)
        obtain ⟨rfl, hu18, rfl, rfl⟩ := hq18
        refine jJ_eq (g2 := F0 m 43 ls []) (cs2 := [u18, wP]) rfl rfl ?_
        refine jJ_ofL (fun H locs => lv_iinc (v := (nI (i + 1))) (lv' := [(4, .int (nI (i + 1))), (3, .int (nI (eSt co ss (j + 1)))), (0, .ref h), (1, .ref hP), (2, .int (nI j))]) hx hb dX2_doLine_43 hl (k := 0) rfl (nI_add _ _) (by decide) rfl) (fun ls hl => ?_)
        refine jJ_of (fun H locs => lv_goto (tgt := 20) hx hb dX2_doLine_46 (by decide)) ?_
        exact ih (i + 1) _ _ _ _ (by omega) (by omega) (eEnt_al (M := (vs1, st1, al1)) hal1) hu18 (by rw [← hseg]; exact (eSeg_step (M := (vs1, st1, al1)) (by omega) hcl (by show al1 = 0; omega)).symm) ls hl

theorem jcat_hd {b : Nat} {ci : Nat} {w1 w2 : va_W} (h : ∃ (i : Nat) (fs : List Value), w1[i]? = some (b, .inr (ci, fs))) : ∃ (i : Nat) (fs : List Value), (jF [w1, w2])[i]? = some (b, .inr (ci, fs)) := by
  obtain ⟨i, fs, h⟩ := h
  exact ⟨i, fs, by show (w1 ++ w2)[i]? = _; rw [List.getElem?_append_left (List.getElem?_eq_some_iff.mp h).1]; exact h⟩
theorem eSeg_alb : ∀ (es : List Int) (M : MS), M.2.2 < 100 → (eSeg es M).2.2 < 100
  | [], _, h => h
  | e :: r, M, h => by
    unfold eSeg
    split
    · exact eSeg_alb r _ (eEnt_al h)
    · exact h
theorem eLn_al (co : List Int) (ss : List Nat) (j : Nat) (vs : Nat → Int) : (eLn co ss j vs).2.2 < 100 := eSeg_alb _ _ (by show 0 < 100; omega)

theorem uX2_in_X2_perform : ∀ w ∈ u_ws RX2 TX2 6, w ∈ wsX2_perform := by decide +kernel
set_option maxHeartbeats 4000000 in
set_option maxRecDepth 100000 in
/-- perform(program, fuel) -/
theorem c_Mach_perform {h al an sp : Nat} {vs : Nat → Int} {st : List Int} {w : va_W} (hw : jMach cJ h vs st al an sp w) {hP P : Nat} {pr : Nat → List Int32} {wP : va_W} (hpr : jProg cI hP P pr wP) {co : List Int} {ss ks ts : List Nat} (hpv0 : jPV pr co ss ks ts) (fuel : Nat) (hfu : fuel ≤ 30000) (hcl : ∀ j, j < 8001 → eSt co ss (j + 1) ≤ co.length) : HM l yX2_perform wsX2_perform ({ frames := 6, cells := 0, slots := 0, locals := 240 } : Room) D G (jT cI cJ cB cZ) [.ref h, .ref hP, .int (nI fuel)] (jF [w, wP]) (fun v u k n_ => v = some (.int (nI (eGo co ss ks ts fuel 0 vs 0).2.1)) ∧ ∃ (st2 : List Int) (u1 : va_W), u = jF [u1, wP] ∧ jMach cJ h (eGo co ss ks ts fuel 0 vs 0).1 st2 (eGo co ss ks ts fuel 0 vs 0).2.1 (eGo co ss ks ts fuel 0 vs 0).2.2.1 (eGo co ss ks ts fuel 0 vs 0).2.2.2 u1 ∧ k = 0 ∧ n_ = 0) := by
  refine HM_of (cc := cX2_perform) (maxL := 5) (ret := (some .int)) (lv := [(0, .ref h), (1, .ref hP), (2, .int (nI fuel))]) (by decide) rfl rfl (Nat.le_of_ble_eq_true rfl) (fun p e s m args below meth c A0 ls hx hb hr hts hown hlocks hml hnm hK hA hAm hl => ?_)
  refine jJ_open (xs := [w, wP]) (r := []) (cs2 := [w, wP]) rfl ?_
  have hpv := hpv0
  obtain ⟨hv0, hv1, hv2, hv7, hbco, hbss, hbks, hbts, hlco, hlss, hlks, hlts⟩ := hpv0
  have hanb := hw.ok
  refine jJ_of (fun H locs => lv_aload_n hx hb dX2_perform_0 rfl (lv_at hl 0 rfl)) ?_
  refine jJ_of (fun H locs => lv_iconst (v := (nI 0)) hx hb dX2_perform_1 (by decide)) ?_
  obtain ⟨aV, aP, f, g, rfl, hf, hg, hst, hvb, hsb, hal, han, hsp⟩ := hw
  refine jJ_open (xs := [[(h, .inr (1, [.ref aV, .ref aP, .int (nI st.length), .int (nI al), .int (nI an), .int (nI sp)]))], [(aV, .inl (cJ, 200, .inr (.inl f)))], [(aP, .inl (cJ, 80, .inr (.inl g)))]]) (r := [wP]) (cs2 := [[(h, .inr (1, [.ref aV, .ref aP, .int (nI st.length), .int (nI al), .int (nI an), .int (nI sp)]))], [(aV, .inl (cJ, 200, .inr (.inl f)))], [(aP, .inl (cJ, 80, .inr (.inl g)))], wP]) rfl ?_
  refine jJ_put hx hb (C := RX2) (T := TX2) (N := 6) (ty := .int) (v := .int (nI 0)) hts uX2_in_X2_perform tyX2 tyX2_ok nmX2 hown hK 0 rfl rfl 3 (by decide) (hts (.fieldLink RX2 34 "ValueBlocks$Machine" "alarm" "I") (by decide +kernel)) (fun _ h9 => h9) rfl (by decide +kernel) rfl rfl (Nat.le_of_ble_eq_true rfl) dX2_perform_2 (cs2 := [[(h, .inr (1, [.ref aV, .ref aP, .int (nI st.length), .int (nI 0), .int (nI an), .int (nI sp)]))], [(aV, .inl (cJ, 200, .inr (.inl f)))], [(aP, .inl (cJ, 80, .inr (.inl g)))], wP]) rfl ?_
  refine jJ_of (fun H locs => lv_aload_n hx hb dX2_perform_5 rfl (lv_at hl 0 rfl)) ?_
  refine jJ_of (fun H locs => lv_iconst (v := (nI 0)) hx hb dX2_perform_6 (by decide)) ?_
  refine jJ_put hx hb (C := RX2) (T := TX2) (N := 6) (ty := .int) (v := .int (nI 0)) hts uX2_in_X2_perform tyX2 tyX2_ok nmX2 hown hK 0 rfl rfl 4 (by decide) (hts (.fieldLink RX2 16 "ValueBlocks$Machine" "alarmLine" "I") (by decide +kernel)) (fun _ h9 => h9) rfl (by decide +kernel) rfl rfl (Nat.le_of_ble_eq_true rfl) dX2_perform_7 (cs2 := [[(h, .inr (1, [.ref aV, .ref aP, .int (nI st.length), .int (nI 0), .int (nI 0), .int (nI sp)]))], [(aV, .inl (cJ, 200, .inr (.inl f)))], [(aP, .inl (cJ, 80, .inr (.inl g)))], wP]) rfl ?_
  refine jJ_of (fun H locs => lv_aload_n hx hb dX2_perform_10 rfl (lv_at hl 0 rfl)) ?_
  refine jJ_of (fun H locs => lv_iconst (v := (nI 0)) hx hb dX2_perform_11 (by decide)) ?_
  refine jJ_put hx hb (C := RX2) (T := TX2) (N := 6) (ty := .int) (v := .int (nI 0)) hts uX2_in_X2_perform tyX2 tyX2_ok nmX2 hown hK 0 rfl rfl 5 (by decide) (hts (.fieldLink RX2 20 "ValueBlocks$Machine" "steps" "I") (by decide +kernel)) (fun _ h9 => h9) rfl (by decide +kernel) rfl rfl (Nat.le_of_ble_eq_true rfl) dX2_perform_12 (cs2 := [[(h, .inr (1, [.ref aV, .ref aP, .int (nI st.length), .int (nI 0), .int (nI 0), .int (nI 0)]))], [(aV, .inl (cJ, 200, .inr (.inl f)))], [(aP, .inl (cJ, 80, .inr (.inl g)))], wP]) rfl ?_
  refine jJ_of (fun H locs => lv_iconst (v := (nI 0)) hx hb dX2_perform_15 (by decide)) ?_
  refine jJ_ofL (fun H locs => lv_istore_n (lv' := [(3, .int (nI 0)), (0, .ref h), (1, .ref hP), (2, .int (nI fuel))]) hx hb dX2_perform_16 rfl hl (by decide) rfl) (fun ls hl => ?_)
  have hwa1 : jMach cJ h vs st 0 0 0 (jF [[(h, .inr (1, [.ref aV, .ref aP, .int (nI st.length), .int (nI 0), .int (nI 0), .int (nI 0)]))], [(aV, .inl (cJ, 200, .inr (.inl f)))], [(aP, .inl (cJ, 80, .inr (.inl g)))]]) := ⟨aV, aP, _, _, rfl, hf, hg, hst, hvb, hsb, by omega, by omega, by omega⟩
  refine jJ_flat (cs2 := [jF [[(h, .inr (1, [.ref aV, .ref aP, .int (nI st.length), .int (nI 0), .int (nI 0), .int (nI 0)]))], [(aV, .inl (cJ, 200, .inr (.inl f)))], [(aP, .inl (cJ, 80, .inr (.inl g)))]], wP]) (by simp only [jF_cons, jF, List.append_assoc, List.append_nil]) ?_
  suffices lp : ∀ (d i : Nat) (vs1 : Nat → Int) (st1 : List Int) (wm : va_W), d ≤ fuel → i ≤ 8001 → jMach cJ h vs1 st1 0 0 (fuel - d) wm → eGo co ss ks ts d i vs1 (fuel - d) = eGo co ss ks ts fuel 0 vs 0 → ∀ ls, lv_has ls 5 [(3, .int (nI i)), (0, .ref h), (1, .ref hP), (2, .int (nI fuel))] → jJ p l e _ s m args below meth c D A0 [wm, wP] 0 0 (jEnd below D A0 _ args s _ _) (F0 m 17 ls []) from lp fuel 0 vs st _ (Nat.le_refl _) (by omega) (by rw [Nat.sub_self]; exact hwa1) (by rw [Nat.sub_self]) ls hl
  intro d
  induction d with
  | zero =>
    intro i vs1 st1 wm hd hi8 hwm hgo ls hl
    refine jJ_of (fun H locs => lv_aload_n hx hb dX2_perform_17 rfl (lv_at hl 1 rfl)) ?_
    obtain ⟨aV, aP, f, g, rfl, hf, hg, hst, hvb, hsb, hal, han, hsp⟩ := hwm
    refine jJ_open (xs := [[(h, .inr (1, [.ref aV, .ref aP, .int (nI st1.length), .int (nI 0), .int (nI 0), .int (nI (fuel - 0))]))], [(aV, .inl (cJ, 200, .inr (.inl f)))], [(aP, .inl (cJ, 80, .inr (.inl g)))]]) (r := [wP]) (cs2 := [[(h, .inr (1, [.ref aV, .ref aP, .int (nI st1.length), .int (nI 0), .int (nI 0), .int (nI (fuel - 0))]))], [(aV, .inl (cJ, 200, .inr (.inl f)))], [(aP, .inl (cJ, 80, .inr (.inl g)))], wP]) rfl ?_
    refine jJ_get hx hb (C := RX2) (T := TX2) (N := 6) hts uX2_in_X2_perform hown hK 0 rfl rfl 5 (by decide) (hts (.fieldLink RX2 20 "ValueBlocks$Machine" "steps" "I") (by decide +kernel)) (fun _ h9 => h9) rfl dX2_perform_18 ?_
    refine jJ_of (fun H locs => lv_iload_n hx hb dX2_perform_21 rfl (lv_at hl 3 rfl)) ?_
    refine jJ_of2 (fun H locs => jn_icmp_ge (tgt := 75) hx hb dX2_perform_22 (by decide) (by omega) (by omega)) (fun c22 => ?_) (fun c22 => ?_)
    · refine jJ_of (fun H locs => lv_aload_n hx hb dX2_perform_75 rfl (lv_at hl 1 rfl)) ?_
      refine jJ_get hx hb (C := RX2) (T := TX2) (N := 6) hts uX2_in_X2_perform hown hK 0 rfl rfl 3 (by decide) (hts (.fieldLink RX2 34 "ValueBlocks$Machine" "alarm" "I") (by decide +kernel)) (fun _ h9 => h9) rfl dX2_perform_76 ?_
      refine jJ_of2 (fun H locs => jn_if_ne (tgt := 96) hx hb dX2_perform_79 (by decide) (by omega)) (fun c79 => ?_) (fun c79 => ?_)
      · omega
      · refine jJ_of (fun H locs => lv_iload_n hx hb dX2_perform_82 rfl (lv_at hl 0 rfl)) ?_
        refine jJ_of (fun H locs => lv_aload_n hx hb dX2_perform_83 rfl (lv_at hl 2 rfl)) ?_
        refine jJ_callV (As := []) (rest := [.int (nI i)]) (wc := _) (cs2 := [[(h, .inr (1, [.ref aV, .ref aP, .int (nI st1.length), .int (nI 0), .int (nI 0), .int (nI (fuel - 0))]))], [(aV, .inl (cJ, 200, .inr (.inl f)))], [(aP, .inl (cJ, 80, .inr (.inl g)))]]) (C := RX3) (T := TX3) (N := 8) (ci := 2) [3] [0, 1, 2] ⟨hx, hb, hml, hown, hts⟩ hK hA hAm (c_Prog_size hpr) (cwV 0 hts gX2_perform_X3_size rfl rfl rfl (by decide +kernel) ⟨Nat.le_of_ble_eq_true rfl, Nat.le_of_ble_eq_true rfl⟩) (nn := 4) rfl (by decide) rfl rfl hpr.hd rfl rfl rfl hl.1 (Nat.le_of_ble_eq_true rfl) dX2_perform_84 (by show _ + 0 ≤ 0; omega) (by show _ + 0 ≤ 0; omega) (fun v u2 k2 n2 hq2 => ?_)
        obtain ⟨rfl, hw2, rfl, rfl⟩ := hq2
        rw [hw2]
        rw [hv1, List.length_map]
        refine jJ_eq (g2 := F0 m 87 ls [.int (nI ss.length), .int (nI i)]) (cs2 := [wP, [(h, .inr (1, [.ref aV, .ref aP, .int (nI st1.length), .int (nI 0), .int (nI 0), .int (nI (fuel - 0))]))], [(aV, .inl (cJ, 200, .inr (.inl f)))], [(aP, .inl (cJ, 80, .inr (.inl g)))]]) rfl rfl ?_
        refine jJ_of2 (fun H locs => jn_icmp_ge (tgt := 96) hx hb dX2_perform_87 (by decide) (by omega) (by omega)) (fun c87 => ?_) (fun c87 => ?_)
        · refine jJ_of (fun H locs => lv_aload_n hx hb dX2_perform_96 rfl (lv_at hl 1 rfl)) ?_
          refine jJ_get hx hb (C := RX2) (T := TX2) (N := 6) hts uX2_in_X2_perform hown hK 1 rfl rfl 3 (by decide) (hts (.fieldLink RX2 34 "ValueBlocks$Machine" "alarm" "I") (by decide +kernel)) (fun _ h9 => h9) rfl dX2_perform_97 ?_
          refine jJ_of2 (fun H locs => jn_if_eq (tgt := 110) hx hb dX2_perform_100 (by decide) (by omega)) (fun c100 => ?_) (fun c100 => ?_)
          · refine jJ_of (fun H locs => lv_aload_n hx hb dX2_perform_110 rfl (lv_at hl 1 rfl)) ?_
            refine jJ_get hx hb (C := RX2) (T := TX2) (N := 6) hts uX2_in_X2_perform hown hK 1 rfl rfl 3 (by decide) (hts (.fieldLink RX2 34 "ValueBlocks$Machine" "alarm" "I") (by decide +kernel)) (fun _ h9 => h9) rfl dX2_perform_111 ?_
            refine jJ_perm [1, 2, 3, 0] (nn := 4) rfl (by decide) (cs2 := [[(h, .inr (1, [.ref aV, .ref aP, .int (nI st1.length), .int (nI 0), .int (nI 0), .int (nI (fuel - 0))]))], [(aV, .inl (cJ, 200, .inr (.inl f)))], [(aP, .inl (cJ, 80, .inr (.inl g)))], wP]) rfl ?_
            have hwa3 : jMach cJ h vs1 st1 0 0 (fuel - 0) (jF [[(h, .inr (1, [.ref aV, .ref aP, .int (nI st1.length), .int (nI 0), .int (nI 0), .int (nI (fuel - 0))]))], [(aV, .inl (cJ, 200, .inr (.inl f)))], [(aP, .inl (cJ, 80, .inr (.inl g)))]]) := ⟨aV, aP, _, _, rfl, hf, hg, hst, hvb, hsb, by omega, by omega, by omega⟩
            refine jJ_flat (cs2 := [jF [[(h, .inr (1, [.ref aV, .ref aP, .int (nI st1.length), .int (nI 0), .int (nI 0), .int (nI (fuel - 0))]))], [(aV, .inl (cJ, 200, .inr (.inl f)))], [(aP, .inl (cJ, 80, .inr (.inl g)))]], wP]) (by simp only [jF_cons, jF, List.append_assoc, List.append_nil]) ?_
            have hE : eGo co ss ks ts fuel 0 vs 0 = (vs1, 0, 0, fuel - 0) := by rw [← hgo]; show (if _ then _ else _) = _; first | (rw [if_neg (show ¬ i < ss.length by omega)]; done) | (rw [if_pos (show i < ss.length by omega)]; done) | (rw [if_pos (show i < ss.length by omega), if_neg (by omega)]; done)
            exact jJ_iret hx hb hr hlocks dX2_perform_114 (by show _ ≤ 0; omega) (by show _ ≤ 0; omega) ⟨by rw [hE], _, _, rfl, by rw [hE]; exact hwa3, rfl, rfl⟩
          · omega
        · refine jJ_of (fun H locs => lv_aload_n hx hb dX2_perform_90 rfl (lv_at hl 1 rfl)) ?_
          refine jJ_of (fun H locs => lv_bipush (v := (nI 15)) hx hb dX2_perform_91 (by decide)) ?_
          refine jJ_put hx hb (C := RX2) (T := TX2) (N := 6) (ty := .int) (v := .int (nI 15)) hts uX2_in_X2_perform tyX2 tyX2_ok nmX2 hown hK 1 rfl rfl 3 (by decide) (hts (.fieldLink RX2 34 "ValueBlocks$Machine" "alarm" "I") (by decide +kernel)) (fun _ h9 => h9) rfl (by decide +kernel) rfl rfl (Nat.le_of_ble_eq_true rfl) dX2_perform_93 (cs2 := [wP, [(h, .inr (1, [.ref aV, .ref aP, .int (nI st1.length), .int (nI 15), .int (nI 0), .int (nI (fuel - 0))]))], [(aV, .inl (cJ, 200, .inr (.inl f)))], [(aP, .inl (cJ, 80, .inr (.inl g)))]]) rfl ?_
          refine jJ_of (fun H locs => lv_aload_n hx hb dX2_perform_96 rfl (lv_at hl 1 rfl)) ?_
          refine jJ_get hx hb (C := RX2) (T := TX2) (N := 6) hts uX2_in_X2_perform hown hK 1 rfl rfl 3 (by decide) (hts (.fieldLink RX2 34 "ValueBlocks$Machine" "alarm" "I") (by decide +kernel)) (fun _ h9 => h9) rfl dX2_perform_97 ?_
          refine jJ_of2 (fun H locs => jn_if_eq (tgt := 110) hx hb dX2_perform_100 (by decide) (by omega)) (fun c100 => ?_) (fun c100 => ?_)
          · omega
          · refine jJ_of (fun H locs => lv_aload_n hx hb dX2_perform_103 rfl (lv_at hl 1 rfl)) ?_
            refine jJ_of (fun H locs => lv_iload_n hx hb dX2_perform_104 rfl (lv_at hl 0 rfl)) ?_
            refine jJ_of (fun H locs => lv_iconst (v := (nI 1)) hx hb dX2_perform_105 (by decide)) ?_
            refine jJ_of (fun H locs => jn_iadd hx hb dX2_perform_106) ?_
            refine jJ_put hx hb (C := RX2) (T := TX2) (N := 6) (ty := .int) (v := .int (nI (i + 1))) hts uX2_in_X2_perform tyX2 tyX2_ok nmX2 hown hK 1 rfl rfl 4 (by decide) (hts (.fieldLink RX2 16 "ValueBlocks$Machine" "alarmLine" "I") (by decide +kernel)) (fun _ h9 => h9) rfl (by decide +kernel) rfl rfl (Nat.le_of_ble_eq_true rfl) dX2_perform_107 (cs2 := [wP, [(h, .inr (1, [.ref aV, .ref aP, .int (nI st1.length), .int (nI 15), .int (nI (i + 1)), .int (nI (fuel - 0))]))], [(aV, .inl (cJ, 200, .inr (.inl f)))], [(aP, .inl (cJ, 80, .inr (.inl g)))]]) rfl ?_
            refine jJ_of (fun H locs => lv_aload_n hx hb dX2_perform_110 rfl (lv_at hl 1 rfl)) ?_
            refine jJ_get hx hb (C := RX2) (T := TX2) (N := 6) hts uX2_in_X2_perform hown hK 1 rfl rfl 3 (by decide) (hts (.fieldLink RX2 34 "ValueBlocks$Machine" "alarm" "I") (by decide +kernel)) (fun _ h9 => h9) rfl dX2_perform_111 ?_
            refine jJ_perm [1, 2, 3, 0] (nn := 4) rfl (by decide) (cs2 := [[(h, .inr (1, [.ref aV, .ref aP, .int (nI st1.length), .int (nI 15), .int (nI (i + 1)), .int (nI (fuel - 0))]))], [(aV, .inl (cJ, 200, .inr (.inl f)))], [(aP, .inl (cJ, 80, .inr (.inl g)))], wP]) rfl ?_
            have hwa4 : jMach cJ h vs1 st1 15 (i + 1) (fuel - 0) (jF [[(h, .inr (1, [.ref aV, .ref aP, .int (nI st1.length), .int (nI 15), .int (nI (i + 1)), .int (nI (fuel - 0))]))], [(aV, .inl (cJ, 200, .inr (.inl f)))], [(aP, .inl (cJ, 80, .inr (.inl g)))]]) := ⟨aV, aP, _, _, rfl, hf, hg, hst, hvb, hsb, by omega, by omega, by omega⟩
            refine jJ_flat (cs2 := [jF [[(h, .inr (1, [.ref aV, .ref aP, .int (nI st1.length), .int (nI 15), .int (nI (i + 1)), .int (nI (fuel - 0))]))], [(aV, .inl (cJ, 200, .inr (.inl f)))], [(aP, .inl (cJ, 80, .inr (.inl g)))]], wP]) (by simp only [jF_cons, jF, List.append_assoc, List.append_nil]) ?_
            have hE : eGo co ss ks ts fuel 0 vs 0 = (vs1, 15, i + 1, fuel - 0) := by rw [← hgo]; show (if _ then _ else _) = _; first | (rw [if_neg (show ¬ i < ss.length by omega)]; done) | (rw [if_pos (show i < ss.length by omega)]; done) | (rw [if_pos (show i < ss.length by omega), if_neg (by omega)]; done)
            exact jJ_iret hx hb hr hlocks dX2_perform_114 (by show _ ≤ 0; omega) (by show _ ≤ 0; omega) ⟨by rw [hE], _, _, rfl, by rw [hE]; exact hwa4, rfl, rfl⟩
    · omega
  | succ d ih =>
    intro i vs1 st1 wm hd hi8 hwm hgo ls hl
    have hLa := eLn_al co ss i vs1
    have htb := jgetB hbts i
    refine jJ_of (fun H locs => lv_aload_n hx hb dX2_perform_17 rfl (lv_at hl 1 rfl)) ?_
    obtain ⟨aV, aP, f, g, rfl, hf, hg, hst, hvb, hsb, hal, han, hsp⟩ := hwm
    refine jJ_open (xs := [[(h, .inr (1, [.ref aV, .ref aP, .int (nI st1.length), .int (nI 0), .int (nI 0), .int (nI (fuel - (d + 1)))]))], [(aV, .inl (cJ, 200, .inr (.inl f)))], [(aP, .inl (cJ, 80, .inr (.inl g)))]]) (r := [wP]) (cs2 := [[(h, .inr (1, [.ref aV, .ref aP, .int (nI st1.length), .int (nI 0), .int (nI 0), .int (nI (fuel - (d + 1)))]))], [(aV, .inl (cJ, 200, .inr (.inl f)))], [(aP, .inl (cJ, 80, .inr (.inl g)))], wP]) rfl ?_
    refine jJ_get hx hb (C := RX2) (T := TX2) (N := 6) hts uX2_in_X2_perform hown hK 0 rfl rfl 5 (by decide) (hts (.fieldLink RX2 20 "ValueBlocks$Machine" "steps" "I") (by decide +kernel)) (fun _ h9 => h9) rfl dX2_perform_18 ?_
    refine jJ_of (fun H locs => lv_iload_n hx hb dX2_perform_21 rfl (lv_at hl 3 rfl)) ?_
    refine jJ_of2 (fun H locs => jn_icmp_ge (tgt := 75) hx hb dX2_perform_22 (by decide) (by omega) (by omega)) (fun c22 => ?_) (fun c22 => ?_)
    · omega
    · refine jJ_of (fun H locs => lv_iload_n hx hb dX2_perform_25 rfl (lv_at hl 0 rfl)) ?_
      refine jJ_of (fun H locs => lv_aload_n hx hb dX2_perform_26 rfl (lv_at hl 2 rfl)) ?_
      refine jJ_callV (As := []) (rest := [.int (nI i)]) (wc := _) (cs2 := [[(h, .inr (1, [.ref aV, .ref aP, .int (nI st1.length), .int (nI 0), .int (nI 0), .int (nI (fuel - (d + 1)))]))], [(aV, .inl (cJ, 200, .inr (.inl f)))], [(aP, .inl (cJ, 80, .inr (.inl g)))]]) (C := RX3) (T := TX3) (N := 8) (ci := 2) [3] [0, 1, 2] ⟨hx, hb, hml, hown, hts⟩ hK hA hAm (c_Prog_size hpr) (cwV 0 hts gX2_perform_X3_size rfl rfl rfl (by decide +kernel) ⟨Nat.le_of_ble_eq_true rfl, Nat.le_of_ble_eq_true rfl⟩) (nn := 4) rfl (by decide) rfl rfl hpr.hd rfl rfl rfl hl.1 (Nat.le_of_ble_eq_true rfl) dX2_perform_27 (by show _ + 0 ≤ 0; omega) (by show _ + 0 ≤ 0; omega) (fun v u5 k5 n5 hq5 => ?_)
      obtain ⟨rfl, hw5, rfl, rfl⟩ := hq5
      rw [hw5]
      rw [hv1, List.length_map]
      refine jJ_eq (g2 := F0 m 30 ls [.int (nI ss.length), .int (nI i)]) (cs2 := [wP, [(h, .inr (1, [.ref aV, .ref aP, .int (nI st1.length), .int (nI 0), .int (nI 0), .int (nI (fuel - (d + 1)))]))], [(aV, .inl (cJ, 200, .inr (.inl f)))], [(aP, .inl (cJ, 80, .inr (.inl g)))]]) rfl rfl ?_
      refine jJ_of2 (fun H locs => jn_icmp_ge (tgt := 75) hx hb dX2_perform_30 (by decide) (by omega) (by omega)) (fun c30 => ?_) (fun c30 => ?_)
      · refine jJ_of (fun H locs => lv_aload_n hx hb dX2_perform_75 rfl (lv_at hl 1 rfl)) ?_
        refine jJ_get hx hb (C := RX2) (T := TX2) (N := 6) hts uX2_in_X2_perform hown hK 1 rfl rfl 3 (by decide) (hts (.fieldLink RX2 34 "ValueBlocks$Machine" "alarm" "I") (by decide +kernel)) (fun _ h9 => h9) rfl dX2_perform_76 ?_
        refine jJ_of2 (fun H locs => jn_if_ne (tgt := 96) hx hb dX2_perform_79 (by decide) (by omega)) (fun c79 => ?_) (fun c79 => ?_)
        · omega
        · refine jJ_of (fun H locs => lv_iload_n hx hb dX2_perform_82 rfl (lv_at hl 0 rfl)) ?_
          refine jJ_of (fun H locs => lv_aload_n hx hb dX2_perform_83 rfl (lv_at hl 2 rfl)) ?_
          refine jJ_callV (As := []) (rest := [.int (nI i)]) (wc := _) (cs2 := [[(h, .inr (1, [.ref aV, .ref aP, .int (nI st1.length), .int (nI 0), .int (nI 0), .int (nI (fuel - (d + 1)))]))], [(aV, .inl (cJ, 200, .inr (.inl f)))], [(aP, .inl (cJ, 80, .inr (.inl g)))]]) (C := RX3) (T := TX3) (N := 8) (ci := 2) [0] [1, 2, 3] ⟨hx, hb, hml, hown, hts⟩ hK hA hAm (c_Prog_size hpr) (cwV 0 hts gX2_perform_X3_size rfl rfl rfl (by decide +kernel) ⟨Nat.le_of_ble_eq_true rfl, Nat.le_of_ble_eq_true rfl⟩) (nn := 4) rfl (by decide) rfl rfl hpr.hd rfl rfl rfl hl.1 (Nat.le_of_ble_eq_true rfl) dX2_perform_84 (by show _ + 0 ≤ 0; omega) (by show _ + 0 ≤ 0; omega) (fun v u6 k6 n6 hq6 => ?_)
          obtain ⟨rfl, hw6, rfl, rfl⟩ := hq6
          rw [hw6]
          rw [hv1, List.length_map]
          refine jJ_eq (g2 := F0 m 87 ls [.int (nI ss.length), .int (nI i)]) (cs2 := [wP, [(h, .inr (1, [.ref aV, .ref aP, .int (nI st1.length), .int (nI 0), .int (nI 0), .int (nI (fuel - (d + 1)))]))], [(aV, .inl (cJ, 200, .inr (.inl f)))], [(aP, .inl (cJ, 80, .inr (.inl g)))]]) rfl rfl ?_
          refine jJ_of2 (fun H locs => jn_icmp_ge (tgt := 96) hx hb dX2_perform_87 (by decide) (by omega) (by omega)) (fun c87 => ?_) (fun c87 => ?_)
          · refine jJ_of (fun H locs => lv_aload_n hx hb dX2_perform_96 rfl (lv_at hl 1 rfl)) ?_
            refine jJ_get hx hb (C := RX2) (T := TX2) (N := 6) hts uX2_in_X2_perform hown hK 1 rfl rfl 3 (by decide) (hts (.fieldLink RX2 34 "ValueBlocks$Machine" "alarm" "I") (by decide +kernel)) (fun _ h9 => h9) rfl dX2_perform_97 ?_
            refine jJ_of2 (fun H locs => jn_if_eq (tgt := 110) hx hb dX2_perform_100 (by decide) (by omega)) (fun c100 => ?_) (fun c100 => ?_)
            · refine jJ_of (fun H locs => lv_aload_n hx hb dX2_perform_110 rfl (lv_at hl 1 rfl)) ?_
              refine jJ_get hx hb (C := RX2) (T := TX2) (N := 6) hts uX2_in_X2_perform hown hK 1 rfl rfl 3 (by decide) (hts (.fieldLink RX2 34 "ValueBlocks$Machine" "alarm" "I") (by decide +kernel)) (fun _ h9 => h9) rfl dX2_perform_111 ?_
              refine jJ_perm [1, 2, 3, 0] (nn := 4) rfl (by decide) (cs2 := [[(h, .inr (1, [.ref aV, .ref aP, .int (nI st1.length), .int (nI 0), .int (nI 0), .int (nI (fuel - (d + 1)))]))], [(aV, .inl (cJ, 200, .inr (.inl f)))], [(aP, .inl (cJ, 80, .inr (.inl g)))], wP]) rfl ?_
              have hwa7 : jMach cJ h vs1 st1 0 0 (fuel - (d + 1)) (jF [[(h, .inr (1, [.ref aV, .ref aP, .int (nI st1.length), .int (nI 0), .int (nI 0), .int (nI (fuel - (d + 1)))]))], [(aV, .inl (cJ, 200, .inr (.inl f)))], [(aP, .inl (cJ, 80, .inr (.inl g)))]]) := ⟨aV, aP, _, _, rfl, hf, hg, hst, hvb, hsb, by omega, by omega, by omega⟩
              refine jJ_flat (cs2 := [jF [[(h, .inr (1, [.ref aV, .ref aP, .int (nI st1.length), .int (nI 0), .int (nI 0), .int (nI (fuel - (d + 1)))]))], [(aV, .inl (cJ, 200, .inr (.inl f)))], [(aP, .inl (cJ, 80, .inr (.inl g)))]], wP]) (by simp only [jF_cons, jF, List.append_assoc, List.append_nil]) ?_
              have hE : eGo co ss ks ts fuel 0 vs 0 = (vs1, 0, 0, fuel - (d + 1)) := by rw [← hgo]; show (if _ then _ else _) = _; first | (rw [if_neg (show ¬ i < ss.length by omega)]; done) | (rw [if_pos (show i < ss.length by omega)]; done) | (rw [if_pos (show i < ss.length by omega), if_neg (by omega)]; done)
              exact jJ_iret hx hb hr hlocks dX2_perform_114 (by show _ ≤ 0; omega) (by show _ ≤ 0; omega) ⟨by rw [hE], _, _, rfl, by rw [hE]; exact hwa7, rfl, rfl⟩
            · omega
          · omega
      · refine jJ_of (fun H locs => lv_aload_n hx hb dX2_perform_33 rfl (lv_at hl 1 rfl)) ?_
        refine jJ_get hx hb (C := RX2) (T := TX2) (N := 6) hts uX2_in_X2_perform hown hK 1 rfl rfl 3 (by decide) (hts (.fieldLink RX2 34 "ValueBlocks$Machine" "alarm" "I") (by decide +kernel)) (fun _ h9 => h9) rfl dX2_perform_34 ?_
        refine jJ_of2 (fun H locs => jn_if_ne (tgt := 75) hx hb dX2_perform_37 (by decide) (by omega)) (fun c37 => ?_) (fun c37 => ?_)
        · omega
        · refine jJ_of (fun H locs => lv_aload_n hx hb dX2_perform_40 rfl (lv_at hl 1 rfl)) ?_
          refine jJ_of (fun H locs => lv_dup hx hb dX2_perform_41 rfl) ?_
          refine jJ_get hx hb (C := RX2) (T := TX2) (N := 6) hts uX2_in_X2_perform hown hK 1 rfl rfl 5 (by decide) (hts (.fieldLink RX2 20 "ValueBlocks$Machine" "steps" "I") (by decide +kernel)) (fun _ h9 => h9) rfl dX2_perform_42 ?_
          refine jJ_of (fun H locs => lv_iconst (v := (nI 1)) hx hb dX2_perform_45 (by decide)) ?_
          refine jJ_of (fun H locs => jn_iadd hx hb dX2_perform_46) ?_
          refine jJ_put hx hb (C := RX2) (T := TX2) (N := 6) (ty := .int) (v := .int (nI ((fuel - (d + 1)) + 1))) hts uX2_in_X2_perform tyX2 tyX2_ok nmX2 hown hK 1 rfl rfl 5 (by decide) (hts (.fieldLink RX2 20 "ValueBlocks$Machine" "steps" "I") (by decide +kernel)) (fun _ h9 => h9) rfl (by decide +kernel) rfl rfl (Nat.le_of_ble_eq_true rfl) dX2_perform_47 (cs2 := [wP, [(h, .inr (1, [.ref aV, .ref aP, .int (nI st1.length), .int (nI 0), .int (nI 0), .int (nI ((fuel - (d + 1)) + 1))]))], [(aV, .inl (cJ, 200, .inr (.inl f)))], [(aP, .inl (cJ, 80, .inr (.inl g)))]]) rfl ?_
          refine jJ_of (fun H locs => lv_aload_n hx hb dX2_perform_50 rfl (lv_at hl 1 rfl)) ?_
          refine jJ_of (fun H locs => lv_aload_n hx hb dX2_perform_51 rfl (lv_at hl 2 rfl)) ?_
          refine jJ_of (fun H locs => lv_iload_n hx hb dX2_perform_52 rfl (lv_at hl 0 rfl)) ?_
          refine jJ_perm [1, 2, 3, 0] (nn := 4) rfl (by decide) (cs2 := [[(h, .inr (1, [.ref aV, .ref aP, .int (nI st1.length), .int (nI 0), .int (nI 0), .int (nI ((fuel - (d + 1)) + 1))]))], [(aV, .inl (cJ, 200, .inr (.inl f)))], [(aP, .inl (cJ, 80, .inr (.inl g)))], wP]) rfl ?_
          have hwa8 : jMach cJ h vs1 st1 0 0 ((fuel - (d + 1)) + 1) (jF [[(h, .inr (1, [.ref aV, .ref aP, .int (nI st1.length), .int (nI 0), .int (nI 0), .int (nI ((fuel - (d + 1)) + 1))]))], [(aV, .inl (cJ, 200, .inr (.inl f)))], [(aP, .inl (cJ, 80, .inr (.inl g)))]]) := ⟨aV, aP, _, _, rfl, hf, hg, hst, hvb, hsb, by omega, by omega, by omega⟩
          refine jJ_flat (cs2 := [jF [[(h, .inr (1, [.ref aV, .ref aP, .int (nI st1.length), .int (nI 0), .int (nI 0), .int (nI ((fuel - (d + 1)) + 1))]))], [(aV, .inl (cJ, 200, .inr (.inl f)))], [(aP, .inl (cJ, 80, .inr (.inl g)))]], wP]) (by simp only [jF_cons, jF, List.append_assoc, List.append_nil]) ?_
          refine jJ_callV (As := [.ref hP, .int (nI i)]) (rest := []) (wc := _) (cs2 := []) (C := RX2) (T := TX2) (N := 6) (ci := 1) [0, 1] [] ⟨hx, hb, hml, hown, hts⟩ hK hA hAm (c_Mach_doLine hwa8 hpr hpv i (by omega) (hcl _ (by omega))) (cwV 2 hts gX2_perform_X2_doLine rfl rfl rfl (by decide +kernel) ⟨Nat.le_of_ble_eq_true rfl, Nat.le_of_ble_eq_true rfl⟩) (nn := 2) rfl (by decide) rfl rfl (jcat_hd hwa8.hd) rfl rfl rfl hl.1 (Nat.le_of_ble_eq_true rfl) dX2_perform_53 (by show _ + 0 ≤ 0; omega) (by show _ + 0 ≤ 0; omega) (fun v u9 k9 n9 hq9 => ?_)
          obtain ⟨rfl, st29, u19, rfl, hu9, rfl, rfl⟩ := hq9
          refine jJ_eq (g2 := F0 m 56 ls [.int (nI (eNx ks ts i ((eLn co ss i vs1).2.1.headD 0)))]) (cs2 := [jF [u19, wP]]) rfl rfl ?_
          refine jJ_open (xs := [u19, wP]) (r := []) (cs2 := [u19, wP]) rfl ?_
          refine jJ_ofL (fun H locs => lv_istore (lv' := [(4, .int (nI (eNx ks ts i ((eLn co ss i vs1).2.1.headD 0)))), (3, .int (nI i)), (0, .ref h), (1, .ref hP), (2, .int (nI fuel))]) hx hb dX2_perform_56 hl (by decide) rfl) (fun ls hl => ?_)
          refine jJ_of (fun H locs => lv_aload_n hx hb dX2_perform_58 rfl (lv_at hl 2 rfl)) ?_
          obtain ⟨aV, aP, f, g, rfl, hf, hg, hst, hvb, hsb, hal, han, hsp⟩ := hu9
          refine jJ_open (xs := [[(h, .inr (1, [.ref aV, .ref aP, .int (nI st29.length), .int (nI ((eLn co ss i vs1).2.2)), .int (nI 0), .int (nI ((fuel - (d + 1)) + 1))]))], [(aV, .inl (cJ, 200, .inr (.inl f)))], [(aP, .inl (cJ, 80, .inr (.inl g)))]]) (r := [wP]) (cs2 := [[(h, .inr (1, [.ref aV, .ref aP, .int (nI st29.length), .int (nI ((eLn co ss i vs1).2.2)), .int (nI 0), .int (nI ((fuel - (d + 1)) + 1))]))], [(aV, .inl (cJ, 200, .inr (.inl f)))], [(aP, .inl (cJ, 80, .inr (.inl g)))], wP]) rfl ?_
          refine jJ_get hx hb (C := RX2) (T := TX2) (N := 6) hts uX2_in_X2_perform hown hK 0 rfl rfl 3 (by decide) (hts (.fieldLink RX2 34 "ValueBlocks$Machine" "alarm" "I") (by decide +kernel)) (fun _ h9 => h9) rfl dX2_perform_59 ?_
          refine jJ_of2 (fun H locs => jn_if_ne (tgt := 70) hx hb dX2_perform_62 (by decide) (by omega)) (fun c62 => ?_) (fun c62 => ?_)
          · refine jJ_of (fun H locs => lv_iload_n hx hb dX2_perform_70 rfl (lv_at hl 1 rfl)) ?_
            refine jJ_ofL (fun H locs => lv_istore_n (lv' := [(3, .int (nI i)), (4, .int (nI (eNx ks ts i ((eLn co ss i vs1).2.1.headD 0)))), (0, .ref h), (1, .ref hP), (2, .int (nI fuel))]) hx hb dX2_perform_71 rfl hl (by decide) rfl) (fun ls hl => ?_)
            refine jJ_of (fun H locs => lv_goto (tgt := 17) hx hb dX2_perform_72 (by decide)) ?_
            refine jJ_of (fun H locs => lv_aload_n hx hb dX2_perform_17 rfl (lv_at hl 2 rfl)) ?_
            refine jJ_get hx hb (C := RX2) (T := TX2) (N := 6) hts uX2_in_X2_perform hown hK 0 rfl rfl 5 (by decide) (hts (.fieldLink RX2 20 "ValueBlocks$Machine" "steps" "I") (by decide +kernel)) (fun _ h9 => h9) rfl dX2_perform_18 ?_
            refine jJ_of (fun H locs => lv_iload_n hx hb dX2_perform_21 rfl (lv_at hl 4 rfl)) ?_
            refine jJ_of2 (fun H locs => jn_icmp_ge (tgt := 75) hx hb dX2_perform_22 (by decide) (by omega) (by omega)) (fun c22 => ?_) (fun c22 => ?_)
            · refine jJ_of (fun H locs => lv_aload_n hx hb dX2_perform_75 rfl (lv_at hl 2 rfl)) ?_
              refine jJ_get hx hb (C := RX2) (T := TX2) (N := 6) hts uX2_in_X2_perform hown hK 0 rfl rfl 3 (by decide) (hts (.fieldLink RX2 34 "ValueBlocks$Machine" "alarm" "I") (by decide +kernel)) (fun _ h9 => h9) rfl dX2_perform_76 ?_
              refine jJ_of2 (fun H locs => jn_if_ne (tgt := 96) hx hb dX2_perform_79 (by decide) (by omega)) (fun c79 => ?_) (fun c79 => ?_)
              · refine jJ_of (fun H locs => lv_aload_n hx hb dX2_perform_96 rfl (lv_at hl 2 rfl)) ?_
                refine jJ_get hx hb (C := RX2) (T := TX2) (N := 6) hts uX2_in_X2_perform hown hK 0 rfl rfl 3 (by decide) (hts (.fieldLink RX2 34 "ValueBlocks$Machine" "alarm" "I") (by decide +kernel)) (fun _ h9 => h9) rfl dX2_perform_97 ?_
                refine jJ_of2 (fun H locs => jn_if_eq (tgt := 110) hx hb dX2_perform_100 (by decide) (by omega)) (fun c100 => ?_) (fun c100 => ?_)
                · omega
                · refine jJ_of (fun H locs => lv_aload_n hx hb dX2_perform_103 rfl (lv_at hl 2 rfl)) ?_
                  refine jJ_of (fun H locs => lv_iload_n hx hb dX2_perform_104 rfl (lv_at hl 0 rfl)) ?_
                  refine jJ_of (fun H locs => lv_iconst (v := (nI 1)) hx hb dX2_perform_105 (by decide)) ?_
                  refine jJ_of (fun H locs => jn_iadd hx hb dX2_perform_106) ?_
                  refine jJ_put hx hb (C := RX2) (T := TX2) (N := 6) (ty := .int) (v := .int (nI (i + 1))) hts uX2_in_X2_perform tyX2 tyX2_ok nmX2 hown hK 0 rfl rfl 4 (by decide) (hts (.fieldLink RX2 16 "ValueBlocks$Machine" "alarmLine" "I") (by decide +kernel)) (fun _ h9 => h9) rfl (by decide +kernel) rfl rfl (Nat.le_of_ble_eq_true rfl) dX2_perform_107 (cs2 := [[(h, .inr (1, [.ref aV, .ref aP, .int (nI st29.length), .int (nI ((eLn co ss i vs1).2.2)), .int (nI (i + 1)), .int (nI ((fuel - (d + 1)) + 1))]))], [(aV, .inl (cJ, 200, .inr (.inl f)))], [(aP, .inl (cJ, 80, .inr (.inl g)))], wP]) rfl ?_
                  refine jJ_of (fun H locs => lv_aload_n hx hb dX2_perform_110 rfl (lv_at hl 2 rfl)) ?_
                  refine jJ_get hx hb (C := RX2) (T := TX2) (N := 6) hts uX2_in_X2_perform hown hK 0 rfl rfl 3 (by decide) (hts (.fieldLink RX2 34 "ValueBlocks$Machine" "alarm" "I") (by decide +kernel)) (fun _ h9 => h9) rfl dX2_perform_111 ?_
                  have hwa10 : jMach cJ h ((eLn co ss i vs1).1) st29 ((eLn co ss i vs1).2.2) (i + 1) ((fuel - (d + 1)) + 1) (jF [[(h, .inr (1, [.ref aV, .ref aP, .int (nI st29.length), .int (nI ((eLn co ss i vs1).2.2)), .int (nI (i + 1)), .int (nI ((fuel - (d + 1)) + 1))]))], [(aV, .inl (cJ, 200, .inr (.inl f)))], [(aP, .inl (cJ, 80, .inr (.inl g)))]]) := ⟨aV, aP, _, _, rfl, hf, hg, hst, hvb, hsb, by omega, by omega, by omega⟩
                  refine jJ_flat (cs2 := [jF [[(h, .inr (1, [.ref aV, .ref aP, .int (nI st29.length), .int (nI ((eLn co ss i vs1).2.2)), .int (nI (i + 1)), .int (nI ((fuel - (d + 1)) + 1))]))], [(aV, .inl (cJ, 200, .inr (.inl f)))], [(aP, .inl (cJ, 80, .inr (.inl g)))]], wP]) (by simp only [jF_cons, jF, List.append_assoc, List.append_nil]) ?_
                  have hE : eGo co ss ks ts fuel 0 vs 0 = ((eLn co ss i vs1).1, (eLn co ss i vs1).2.2, i + 1, (fuel - (d + 1)) + 1) := by rw [← hgo]; show (if _ then _ else _) = _; first | (rw [if_neg (show ¬ i < ss.length by omega)]; done) | (rw [if_pos (show i < ss.length by omega)]; done) | (rw [if_pos (show i < ss.length by omega), if_neg (by omega)]; done)
                  exact jJ_iret hx hb hr hlocks dX2_perform_114 (by show _ ≤ 0; omega) (by show _ ≤ 0; omega) ⟨by rw [hE], _, _, rfl, by rw [hE]; exact hwa10, rfl, rfl⟩
              · omega
            · refine jJ_of (fun H locs => lv_iload_n hx hb dX2_perform_25 rfl (lv_at hl 0 rfl)) ?_
              refine jJ_of (fun H locs => lv_aload_n hx hb dX2_perform_26 rfl (lv_at hl 3 rfl)) ?_
              refine jJ_callV (As := []) (rest := [.int (nI i)]) (wc := _) (cs2 := [[(h, .inr (1, [.ref aV, .ref aP, .int (nI st29.length), .int (nI ((eLn co ss i vs1).2.2)), .int (nI 0), .int (nI ((fuel - (d + 1)) + 1))]))], [(aV, .inl (cJ, 200, .inr (.inl f)))], [(aP, .inl (cJ, 80, .inr (.inl g)))]]) (C := RX3) (T := TX3) (N := 8) (ci := 2) [3] [0, 1, 2] ⟨hx, hb, hml, hown, hts⟩ hK hA hAm (c_Prog_size hpr) (cwV 0 hts gX2_perform_X3_size rfl rfl rfl (by decide +kernel) ⟨Nat.le_of_ble_eq_true rfl, Nat.le_of_ble_eq_true rfl⟩) (nn := 4) rfl (by decide) rfl rfl hpr.hd rfl rfl rfl hl.1 (Nat.le_of_ble_eq_true rfl) dX2_perform_27 (by show _ + 0 ≤ 0; omega) (by show _ + 0 ≤ 0; omega) (fun v u11 k11 n11 hq11 => ?_)
              obtain ⟨rfl, hw11, rfl, rfl⟩ := hq11
              rw [hw11]
              rw [hv1, List.length_map]
              refine jJ_eq (g2 := F0 m 30 ls [.int (nI ss.length), .int (nI i)]) (cs2 := [wP, [(h, .inr (1, [.ref aV, .ref aP, .int (nI st29.length), .int (nI ((eLn co ss i vs1).2.2)), .int (nI 0), .int (nI ((fuel - (d + 1)) + 1))]))], [(aV, .inl (cJ, 200, .inr (.inl f)))], [(aP, .inl (cJ, 80, .inr (.inl g)))]]) rfl rfl ?_
              refine jJ_of2 (fun H locs => jn_icmp_ge (tgt := 75) hx hb dX2_perform_30 (by decide) (by omega) (by omega)) (fun c30 => ?_) (fun c30 => ?_)
              · refine jJ_of (fun H locs => lv_aload_n hx hb dX2_perform_75 rfl (lv_at hl 2 rfl)) ?_
                refine jJ_get hx hb (C := RX2) (T := TX2) (N := 6) hts uX2_in_X2_perform hown hK 1 rfl rfl 3 (by decide) (hts (.fieldLink RX2 34 "ValueBlocks$Machine" "alarm" "I") (by decide +kernel)) (fun _ h9 => h9) rfl dX2_perform_76 ?_
                refine jJ_of2 (fun H locs => jn_if_ne (tgt := 96) hx hb dX2_perform_79 (by decide) (by omega)) (fun c79 => ?_) (fun c79 => ?_)
                · refine jJ_of (fun H locs => lv_aload_n hx hb dX2_perform_96 rfl (lv_at hl 2 rfl)) ?_
                  refine jJ_get hx hb (C := RX2) (T := TX2) (N := 6) hts uX2_in_X2_perform hown hK 1 rfl rfl 3 (by decide) (hts (.fieldLink RX2 34 "ValueBlocks$Machine" "alarm" "I") (by decide +kernel)) (fun _ h9 => h9) rfl dX2_perform_97 ?_
                  refine jJ_of2 (fun H locs => jn_if_eq (tgt := 110) hx hb dX2_perform_100 (by decide) (by omega)) (fun c100 => ?_) (fun c100 => ?_)
                  · omega
                  · refine jJ_of (fun H locs => lv_aload_n hx hb dX2_perform_103 rfl (lv_at hl 2 rfl)) ?_
                    refine jJ_of (fun H locs => lv_iload_n hx hb dX2_perform_104 rfl (lv_at hl 0 rfl)) ?_
                    refine jJ_of (fun H locs => lv_iconst (v := (nI 1)) hx hb dX2_perform_105 (by decide)) ?_
                    refine jJ_of (fun H locs => jn_iadd hx hb dX2_perform_106) ?_
                    refine jJ_put hx hb (C := RX2) (T := TX2) (N := 6) (ty := .int) (v := .int (nI (i + 1))) hts uX2_in_X2_perform tyX2 tyX2_ok nmX2 hown hK 1 rfl rfl 4 (by decide) (hts (.fieldLink RX2 16 "ValueBlocks$Machine" "alarmLine" "I") (by decide +kernel)) (fun _ h9 => h9) rfl (by decide +kernel) rfl rfl (Nat.le_of_ble_eq_true rfl) dX2_perform_107 (cs2 := [wP, [(h, .inr (1, [.ref aV, .ref aP, .int (nI st29.length), .int (nI ((eLn co ss i vs1).2.2)), .int (nI (i + 1)), .int (nI ((fuel - (d + 1)) + 1))]))], [(aV, .inl (cJ, 200, .inr (.inl f)))], [(aP, .inl (cJ, 80, .inr (.inl g)))]]) rfl ?_
                    refine jJ_of (fun H locs => lv_aload_n hx hb dX2_perform_110 rfl (lv_at hl 2 rfl)) ?_
                    refine jJ_get hx hb (C := RX2) (T := TX2) (N := 6) hts uX2_in_X2_perform hown hK 1 rfl rfl 3 (by decide) (hts (.fieldLink RX2 34 "ValueBlocks$Machine" "alarm" "I") (by decide +kernel)) (fun _ h9 => h9) rfl dX2_perform_111 ?_
                    refine jJ_perm [1, 2, 3, 0] (nn := 4) rfl (by decide) (cs2 := [[(h, .inr (1, [.ref aV, .ref aP, .int (nI st29.length), .int (nI ((eLn co ss i vs1).2.2)), .int (nI (i + 1)), .int (nI ((fuel - (d + 1)) + 1))]))], [(aV, .inl (cJ, 200, .inr (.inl f)))], [(aP, .inl (cJ, 80, .inr (.inl g)))], wP]) rfl ?_
                    have hwa12 : jMach cJ h ((eLn co ss i vs1).1) st29 ((eLn co ss i vs1).2.2) (i + 1) ((fuel - (d + 1)) + 1) (jF [[(h, .inr (1, [.ref aV, .ref aP, .int (nI st29.length), .int (nI ((eLn co ss i vs1).2.2)), .int (nI (i + 1)), .int (nI ((fuel - (d + 1)) + 1))]))], [(aV, .inl (cJ, 200, .inr (.inl f)))], [(aP, .inl (cJ, 80, .inr (.inl g)))]]) := ⟨aV, aP, _, _, rfl, hf, hg, hst, hvb, hsb, by omega, by omega, by omega⟩
                    refine jJ_flat (cs2 := [jF [[(h, .inr (1, [.ref aV, .ref aP, .int (nI st29.length), .int (nI ((eLn co ss i vs1).2.2)), .int (nI (i + 1)), .int (nI ((fuel - (d + 1)) + 1))]))], [(aV, .inl (cJ, 200, .inr (.inl f)))], [(aP, .inl (cJ, 80, .inr (.inl g)))]], wP]) (by simp only [jF_cons, jF, List.append_assoc, List.append_nil]) ?_
                    have hE : eGo co ss ks ts fuel 0 vs 0 = ((eLn co ss i vs1).1, (eLn co ss i vs1).2.2, i + 1, (fuel - (d + 1)) + 1) := by rw [← hgo]; show (if _ then _ else _) = _; first | (rw [if_neg (show ¬ i < ss.length by omega)]; done) | (rw [if_pos (show i < ss.length by omega)]; done) | (rw [if_pos (show i < ss.length by omega), if_neg (by omega)]; done)
                    exact jJ_iret hx hb hr hlocks dX2_perform_114 (by show _ ≤ 0; omega) (by show _ ≤ 0; omega) ⟨by rw [hE], _, _, rfl, by rw [hE]; exact hwa12, rfl, rfl⟩
                · omega
              · refine jJ_of (fun H locs => lv_aload_n hx hb dX2_perform_33 rfl (lv_at hl 2 rfl)) ?_
                refine jJ_get hx hb (C := RX2) (T := TX2) (N := 6) hts uX2_in_X2_perform hown hK 1 rfl rfl 3 (by decide) (hts (.fieldLink RX2 34 "ValueBlocks$Machine" "alarm" "I") (by decide +kernel)) (fun _ h9 => h9) rfl dX2_perform_34 ?_
                refine jJ_of2 (fun H locs => jn_if_ne (tgt := 75) hx hb dX2_perform_37 (by decide) (by omega)) (fun c37 => ?_) (fun c37 => ?_)
                · refine jJ_of (fun H locs => lv_aload_n hx hb dX2_perform_75 rfl (lv_at hl 2 rfl)) ?_
                  refine jJ_get hx hb (C := RX2) (T := TX2) (N := 6) hts uX2_in_X2_perform hown hK 1 rfl rfl 3 (by decide) (hts (.fieldLink RX2 34 "ValueBlocks$Machine" "alarm" "I") (by decide +kernel)) (fun _ h9 => h9) rfl dX2_perform_76 ?_
                  refine jJ_of2 (fun H locs => jn_if_ne (tgt := 96) hx hb dX2_perform_79 (by decide) (by omega)) (fun c79 => ?_) (fun c79 => ?_)
                  · refine jJ_of (fun H locs => lv_aload_n hx hb dX2_perform_96 rfl (lv_at hl 2 rfl)) ?_
                    refine jJ_get hx hb (C := RX2) (T := TX2) (N := 6) hts uX2_in_X2_perform hown hK 1 rfl rfl 3 (by decide) (hts (.fieldLink RX2 34 "ValueBlocks$Machine" "alarm" "I") (by decide +kernel)) (fun _ h9 => h9) rfl dX2_perform_97 ?_
                    refine jJ_of2 (fun H locs => jn_if_eq (tgt := 110) hx hb dX2_perform_100 (by decide) (by omega)) (fun c100 => ?_) (fun c100 => ?_)
                    · omega
                    · refine jJ_of (fun H locs => lv_aload_n hx hb dX2_perform_103 rfl (lv_at hl 2 rfl)) ?_
                      refine jJ_of (fun H locs => lv_iload_n hx hb dX2_perform_104 rfl (lv_at hl 0 rfl)) ?_
                      refine jJ_of (fun H locs => lv_iconst (v := (nI 1)) hx hb dX2_perform_105 (by decide)) ?_
                      refine jJ_of (fun H locs => jn_iadd hx hb dX2_perform_106) ?_
                      refine jJ_put hx hb (C := RX2) (T := TX2) (N := 6) (ty := .int) (v := .int (nI (i + 1))) hts uX2_in_X2_perform tyX2 tyX2_ok nmX2 hown hK 1 rfl rfl 4 (by decide) (hts (.fieldLink RX2 16 "ValueBlocks$Machine" "alarmLine" "I") (by decide +kernel)) (fun _ h9 => h9) rfl (by decide +kernel) rfl rfl (Nat.le_of_ble_eq_true rfl) dX2_perform_107 (cs2 := [wP, [(h, .inr (1, [.ref aV, .ref aP, .int (nI st29.length), .int (nI ((eLn co ss i vs1).2.2)), .int (nI (i + 1)), .int (nI ((fuel - (d + 1)) + 1))]))], [(aV, .inl (cJ, 200, .inr (.inl f)))], [(aP, .inl (cJ, 80, .inr (.inl g)))]]) rfl ?_
                      refine jJ_of (fun H locs => lv_aload_n hx hb dX2_perform_110 rfl (lv_at hl 2 rfl)) ?_
                      refine jJ_get hx hb (C := RX2) (T := TX2) (N := 6) hts uX2_in_X2_perform hown hK 1 rfl rfl 3 (by decide) (hts (.fieldLink RX2 34 "ValueBlocks$Machine" "alarm" "I") (by decide +kernel)) (fun _ h9 => h9) rfl dX2_perform_111 ?_
                      refine jJ_perm [1, 2, 3, 0] (nn := 4) rfl (by decide) (cs2 := [[(h, .inr (1, [.ref aV, .ref aP, .int (nI st29.length), .int (nI ((eLn co ss i vs1).2.2)), .int (nI (i + 1)), .int (nI ((fuel - (d + 1)) + 1))]))], [(aV, .inl (cJ, 200, .inr (.inl f)))], [(aP, .inl (cJ, 80, .inr (.inl g)))], wP]) rfl ?_
                      have hwa13 : jMach cJ h ((eLn co ss i vs1).1) st29 ((eLn co ss i vs1).2.2) (i + 1) ((fuel - (d + 1)) + 1) (jF [[(h, .inr (1, [.ref aV, .ref aP, .int (nI st29.length), .int (nI ((eLn co ss i vs1).2.2)), .int (nI (i + 1)), .int (nI ((fuel - (d + 1)) + 1))]))], [(aV, .inl (cJ, 200, .inr (.inl f)))], [(aP, .inl (cJ, 80, .inr (.inl g)))]]) := ⟨aV, aP, _, _, rfl, hf, hg, hst, hvb, hsb, by omega, by omega, by omega⟩
                      refine jJ_flat (cs2 := [jF [[(h, .inr (1, [.ref aV, .ref aP, .int (nI st29.length), .int (nI ((eLn co ss i vs1).2.2)), .int (nI (i + 1)), .int (nI ((fuel - (d + 1)) + 1))]))], [(aV, .inl (cJ, 200, .inr (.inl f)))], [(aP, .inl (cJ, 80, .inr (.inl g)))]], wP]) (by simp only [jF_cons, jF, List.append_assoc, List.append_nil]) ?_
                      have hE : eGo co ss ks ts fuel 0 vs 0 = ((eLn co ss i vs1).1, (eLn co ss i vs1).2.2, i + 1, (fuel - (d + 1)) + 1) := by rw [← hgo]; show (if _ then _ else _) = _; first | (rw [if_neg (show ¬ i < ss.length by omega)]; done) | (rw [if_pos (show i < ss.length by omega)]; done) | (rw [if_pos (show i < ss.length by omega), if_neg (by omega)]; done)
                      exact jJ_iret hx hb hr hlocks dX2_perform_114 (by show _ ≤ 0; omega) (by show _ ≤ 0; omega) ⟨by rw [hE], _, _, rfl, by rw [hE]; exact hwa13, rfl, rfl⟩
                  · omega
                · omega
          · refine jJ_of (fun H locs => lv_iload hx hb dX2_perform_65 (lv_at hl 0 rfl)) ?_
            refine jJ_of (fun H locs => lv_goto (tgt := 71) hx hb dX2_perform_67 (by decide)) ?_
            refine jJ_ofL (fun H locs => lv_istore_n (lv' := [(3, .int (nI (eNx ks ts i ((eLn co ss i vs1).2.1.headD 0)))), (4, .int (nI (eNx ks ts i ((eLn co ss i vs1).2.1.headD 0)))), (0, .ref h), (1, .ref hP), (2, .int (nI fuel))]) hx hb dX2_perform_71 rfl hl (by decide) rfl) (fun ls hl => ?_)
            refine jJ_of (fun H locs => lv_goto (tgt := 17) hx hb dX2_perform_72 (by decide)) ?_
            have hwa14 : jMach cJ h ((eLn co ss i vs1).1) st29 ((eLn co ss i vs1).2.2) 0 ((fuel - (d + 1)) + 1) (jF [[(h, .inr (1, [.ref aV, .ref aP, .int (nI st29.length), .int (nI ((eLn co ss i vs1).2.2)), .int (nI 0), .int (nI ((fuel - (d + 1)) + 1))]))], [(aV, .inl (cJ, 200, .inr (.inl f)))], [(aP, .inl (cJ, 80, .inr (.inl g)))]]) := ⟨aV, aP, _, _, rfl, hf, hg, hst, hvb, hsb, by omega, by omega, by omega⟩
            refine jJ_flat (cs2 := [jF [[(h, .inr (1, [.ref aV, .ref aP, .int (nI st29.length), .int (nI ((eLn co ss i vs1).2.2)), .int (nI 0), .int (nI ((fuel - (d + 1)) + 1))]))], [(aV, .inl (cJ, 200, .inr (.inl f)))], [(aP, .inl (cJ, 80, .inr (.inl g)))]], wP]) (by simp only [jF_cons, jF, List.append_assoc, List.append_nil]) ?_
            have hL0 : (eLn co ss i vs1).2.2 = 0 := by omega
            have hgo2 : eGo co ss ks ts d (eNx ks ts i ((eLn co ss i vs1).2.1.headD 0)) (eLn co ss i vs1).1 (fuel - (d + 1) + 1) = eGo co ss ks ts fuel 0 vs 0 := by rw [← hgo]; show _ = (if _ then _ else _); rw [if_pos (by omega), if_pos hL0]
            have hwl := hwa14.cast (al2 := 0) (sp2 := fuel - d) hL0 (by omega)
            rw [show fuel - (d + 1) + 1 = fuel - d by omega] at hgo2
            exact ih _ _ _ _ (by omega) (by unfold eNx; (repeat' split) <;> omega) hwl hgo2 ls (lv_sub hl [0, 2, 3, 4] rfl)
end MACH
