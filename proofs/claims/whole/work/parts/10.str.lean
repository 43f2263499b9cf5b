/-! String.charAt and length on the two texts of words -/
section STA
variable {p : Program} {l : Launch} {e : Env} {R : Room} {s : State} {m : MethodId} {args : Array Value} {below : List Frame} {meth : Method} {c : Code}
variable {D : va_G} {G : Nat → Nat} {A0 : Nat → Prop} {cs : List va_W} {k n : Nat} {Q : State → Prop} {tys : List (ClassId × FieldType)} {cc : ByteArray} {pc : Nat} {ls : Array Slot} {rest : List Value} {a : Nat}
theorem jJ_gets (hexec : p.tables.exec = Jvm.exec) (hb : c.code = cc) {C nm d own ref : String} {v : Value} {index : Nat} (hZ : va_Z C nm d v A0 s s.heap) (hown : s.vm.findClass own = some m.cls) (hlink : (Cond.fieldLink own index ref nm d).before args s = true) (hsame : ∀ x, s.fieldFound? C nm d = some x → s.fieldFound? ref nm d = some x) (hdg : decode cc pc = .ok (.getstatic index, 3))
    (kk : jJ p l e R s m args below meth c D A0 cs k n Q (F0 m (pc + 3) ls (v :: rest))) : jJ p l e R s m args below meth c D A0 cs k n Q (F0 m pc ls rest) :=
  fun H locs hP hD hS => va_gets hexec hb hZ hS hown hlink hsame hdg (kk H locs hP hD hS)
theorem jJ_getS (hexec : p.tables.exec = Jvm.exec) (hb : c.code = cc) {o nm d own ref : String} {index q : Nat} {v : Value} (hE : va_OF o nm d v q A0 s s.heap) (hown : s.vm.findClass own = some m.cls) (hlink : (Cond.fieldLink own index ref nm d).before args s = true) (hsame : ∀ x, s.fieldFound? o nm d = some x → s.fieldFound? ref nm d = some x) (hdg : decode cc pc = .ok (.getfield index, 3))
    (kk : jJ p l e R s m args below meth c D A0 cs k n Q (F0 m (pc + 3) ls (v :: rest))) : jJ p l e R s m args below meth c D A0 cs k n Q (F0 m pc ls (.ref q :: rest)) :=
  fun H locs hP hD hS => vk_getf hexec hb hE hS hown hlink hsame hdg (kk H locs hP hD hS)
theorem jJ_tb (hexec : p.tables.exec = Jvm.exec) (hb : c.code = cc) {t N : Nat} {f : Nat → Value} (hT : va_T .byte t N f A0 s s.heap) {i : Int32} (hin : vp_in i N) {v : Value} (hv : f i.toNatClampNeg = v) (hdg : decode cc pc = .ok (.baload, 1))
    (kk : jJ p l e R s m args below meth c D A0 cs k n Q (F0 m (pc + 1) ls (v :: rest))) : jJ p l e R s m args below meth c D A0 cs k n Q (F0 m pc ls (.int i :: .ref t :: rest)) :=
  fun H locs hP hD hS => va_tb hexec hb hT hS hin hv hdg (kk H locs hP hD hS)
theorem jJ_tlen (hexec : p.tables.exec = Jvm.exec) (hb : c.code = cc) {ty : FieldType} {t N : Nat} {f : Nat → Value} (hT : va_T ty t N f A0 s s.heap) {v : Int32} (hv : Int32.ofNat N = v) (hdg : decode cc pc = .ok (.arraylength, 1))
    (kk : jJ p l e R s m args below meth c D A0 cs k n Q (F0 m (pc + 1) ls (.int v :: rest))) : jJ p l e R s m args below meth c D A0 cs k n Q (F0 m pc ls (.ref t :: rest)) :=
  fun H locs hP hD hS => va_tlen hexec hb hT hS hv hdg (kk H locs hP hD hS)
theorem jJ_ldcS (hexec : p.tables.exec = Jvm.exec) (hb : c.code = cc) {own tx : String} {index q : Nat} (hown : s.vm.findClass own = some m.cls) (hZ : vk_R own index tx q s) (hdg : decode cc pc = .ok (.ldc index, 2))
    (kk : jJ p l e R s m args below meth c D A0 cs k n Q (F0 m (pc + 2) ls (.ref q :: rest))) : jJ p l e R s m args below meth c D A0 cs k n Q (F0 m pc ls rest) :=
  fun H locs hP hD hS => va_ldcS hexec hb hown hZ hdg (kk H locs hP hD hS)
theorem jJ_nret {Qv : Option Value → va_W → Nat → Nat → Prop} {mc ms : Nat} {v : Int32} {ty : FieldType} (hx : p.tables.exec = Jvm.exec) (hb : c.code = cc) (hr : meth.sig.returnType = some ty) (hlocks : meth.locks = false) (hdg : decode cc pc = .ok (.ireturn, 1))
    (hk : k ≤ mc) (hn : n ≤ ms) (hv : narrow ty (.int v) = .int v) (hq : Qv (some (.int v)) (jF cs) k n) : jJ p l e R s m args below meth c D A0 cs k n (jEnd below D A0 Qv args s mc ms) (F0 m pc ls [.int v]) :=
  jEnds hq hk hn (fun H locs h1 h2 => W.zret hx hb hr hv h1 h2 hdg hlocks)
end STA
/-- what is said of a text of words: its place S, its bytes at B, N of them, L -/
def jTx (G : Nat → Nat) (S B N : Nat) (L : List Nat) : Prop := N < 1000 ∧ (∀ j, L.getD j 0 < 128) ∧ ∀ (A : Nat → Prop) (U : State) (H : Heap), jAm G A U H → va_OF "java/lang/String" "coder" "B" (.int 0) S A U H ∧ va_OF "java/lang/String" "value" "[B" (.ref B) S A U H ∧ va_O "java/lang/String" S A U H ∧ va_T .byte B N (fun j => .int (nI (L.getD j 0))) A U H
theorem jGetB {L : List Nat} {b : Nat} (h : L.all (fun x => decide (x < b)) = true) (hb : 0 < b) (j : Nat) : L.getD j 0 < b := by
  rw [List.getD_eq_getElem?_getD]
  cases he : L[j]? with
  | none => exact hb
  | some x => exact of_decide_eq_true (List.all_eq_true.mp h x (List.mem_of_getElem? he))
theorem jTx1 (G : Nat → Nat) : jTx G (G 0) (G 2) 95 jW1 := ⟨by decide, jGetB (by decide +kernel) (by decide), fun A U H h => ⟨(h.2.2.1 0 (by decide)).1, (h.2.2.1 0 (by decide)).2.1, (h.2.2.1 0 (by decide)).2.2, h.2.2.2.1⟩⟩
theorem jTx2 (G : Nat → Nat) : jTx G (G 1) (G 3) 72 jW2 := ⟨by decide, jGetB (by decide +kernel) (by decide), fun A U H h => ⟨(h.2.2.1 1 (by decide)).1, (h.2.2.1 1 (by decide)).2.1, (h.2.2.1 1 (by decide)).2.2, h.2.2.2.2.1⟩⟩
section STB
variable {D : va_G} {G : Nat → Nat} {cI cJ cB cZ : ClassId} {l : Launch}

set_option maxHeartbeats 4000000 in
set_option maxRecDepth 100000 in
/-- Preconditions.checkIndex -/
theorem c_J3_checkN (j z : Nat) (h1 : j < z) (h2 : z < 2147483648) : HM l yJ3_checkIndex_8e157 wsJ3_checkIndex_8e157 ({ frames := 0, cells := 0, slots := 0, locals := 0 } : Room) D G (jT cI cJ cB cZ) [.int (nI j), .int (nI z), .null] ([]) (fun v u k n => v = some (.int (nI j)) ∧ u = [] ∧ k = 0 ∧ n = 0) := by
  refine HM_ofF (cc := cJ3_checkIndex_8e157) (maxL := 3) (ret := (some .int)) (lv := [(0, .int (nI j)), (1, .int (nI z)), (2, .null)]) (by decide +kernel) rfl rfl (Nat.le_of_ble_eq_true rfl) (fun p e s m args below meth c A0 ls hx hb hr hts hown hlocks hml hnm hK hA hAm hl => ?_)
  refine jJ_of (fun H locs => lv_iload_n hx hb dJ3_checkIndex_8e157_0 rfl (lv_at hl 0 rfl)) ?_
  refine jJ_of2 (fun H locs => jn_if_lt (tgt := 9) hx hb dJ3_checkIndex_8e157_1 (by decide) (by omega)) (fun c1 => ?_) (fun c1 => ?_)
  · omega
  · refine jJ_of (fun H locs => lv_iload_n hx hb dJ3_checkIndex_8e157_4 rfl (lv_at hl 0 rfl)) ?_
    refine jJ_of (fun H locs => lv_iload_n hx hb dJ3_checkIndex_8e157_5 rfl (lv_at hl 1 rfl)) ?_
    refine jJ_of2 (fun H locs => jn_icmp_lt (tgt := 16) hx hb dJ3_checkIndex_8e157_6 (by decide) (by omega) (by omega)) (fun c6 => ?_) (fun c6 => ?_)
    · refine jJ_of (fun H locs => lv_iload_n hx hb dJ3_checkIndex_8e157_16 rfl (lv_at hl 0 rfl)) ?_
      exact jJ_iret hx hb hr hlocks dJ3_checkIndex_8e157_17 (by show _ ≤ 0; omega) (by show _ ≤ 0; omega) ⟨rfl, rfl, rfl, rfl⟩
    · omega
set_option maxHeartbeats 4000000 in
set_option maxRecDepth 100000 in
/-- Preconditions.checkIndex -/
theorem c_J3_checkR (t9 : Nat) (j z : Nat) (h1 : j < z) (h2 : z < 2147483648) : HM l yJ3_checkIndex_8e157 wsJ3_checkIndex_8e157 ({ frames := 0, cells := 0, slots := 0, locals := 0 } : Room) D G (jT cI cJ cB cZ) [.int (nI j), .int (nI z), .ref t9] ([]) (fun v u k n => v = some (.int (nI j)) ∧ u = [] ∧ k = 0 ∧ n = 0) := by
  refine HM_ofF (cc := cJ3_checkIndex_8e157) (maxL := 3) (ret := (some .int)) (lv := [(0, .int (nI j)), (1, .int (nI z)), (2, .ref t9)]) (by decide +kernel) rfl rfl (Nat.le_of_ble_eq_true rfl) (fun p e s m args below meth c A0 ls hx hb hr hts hown hlocks hml hnm hK hA hAm hl => ?_)
  refine jJ_of (fun H locs => lv_iload_n hx hb dJ3_checkIndex_8e157_0 rfl (lv_at hl 0 rfl)) ?_
  refine jJ_of2 (fun H locs => jn_if_lt (tgt := 9) hx hb dJ3_checkIndex_8e157_1 (by decide) (by omega)) (fun c1 => ?_) (fun c1 => ?_)
  · omega
  · refine jJ_of (fun H locs => lv_iload_n hx hb dJ3_checkIndex_8e157_4 rfl (lv_at hl 0 rfl)) ?_
    refine jJ_of (fun H locs => lv_iload_n hx hb dJ3_checkIndex_8e157_5 rfl (lv_at hl 1 rfl)) ?_
    refine jJ_of2 (fun H locs => jn_icmp_lt (tgt := 16) hx hb dJ3_checkIndex_8e157_6 (by decide) (by omega) (by omega)) (fun c6 => ?_) (fun c6 => ?_)
    · refine jJ_of (fun H locs => lv_iload_n hx hb dJ3_checkIndex_8e157_16 rfl (lv_at hl 0 rfl)) ?_
      exact jJ_iret hx hb hr hlocks dJ3_checkIndex_8e157_17 (by show _ ≤ 0; omega) (by show _ ≤ 0; omega) ⟨rfl, rfl, rfl, rfl⟩
    · omega
set_option maxHeartbeats 4000000 in
set_option maxRecDepth 100000 in
/-- String.checkIndex -/
theorem c_J0_check (j z : Nat) (h1 : j < z) (h2 : z < 2147483648) : HM l yJ0_checkIndex_df160 wsJ0_checkIndex_df160 ({ frames := 1, cells := 0, slots := 0, locals := 40 } : Room) D G (jT cI cJ cB cZ) [.int (nI j), .int (nI z)] ([]) (fun v u k n => v = none ∧ u = [] ∧ k = 0 ∧ n = 0) := by
  refine HM_ofF (cc := cJ0_checkIndex_df160) (maxL := 2) (ret := none) (lv := [(0, .int (nI j)), (1, .int (nI z))]) (by decide +kernel) rfl rfl (Nat.le_of_ble_eq_true rfl) (fun p e s m args below meth c A0 ls hx hb hr hts hown hlocks hml hnm hK hA hAm hl => ?_)
  rcases hAm.2.1 with hz | ⟨t9, hz⟩
  · refine jJ_of (fun H locs => lv_iload_n hx hb dJ0_checkIndex_df160_0 rfl (lv_at hl 0 rfl)) ?_
    refine jJ_of (fun H locs => lv_iload_n hx hb dJ0_checkIndex_df160_1 rfl (lv_at hl 1 rfl)) ?_
    refine jJ_gets hx hb hz hown (hts (.fieldLink RJ0 1053 "jdk/internal/util/Preconditions" "SIOOBE_FORMATTER" "Ljava/util/function/BiFunction;") (by decide +kernel)) (fun _ h9 => h9) dJ0_checkIndex_df160_2 ?_
    refine jJ_eq (g2 := F0 m 5 ls [.null, .int (nI z), .int (nI j)]) (cs2 := [[]]) rfl rfl ?_
    refine jJ_callS (As := [.int (nI j), .int (nI z), .null]) (rest := []) (wc := _) (cs2 := [[]]) [] [0] ⟨hx, hb, hml, hown, hts⟩ hK hA hAm (c_J3_checkN j z (by omega) (by omega)) (va_cwS 3 hts gJ0_checkIndex_df160_J3_checkIndex_8e157 rfl rfl rfl (by decide +kernel) ⟨Nat.le_of_ble_eq_true rfl, Nat.le_of_ble_eq_true rfl⟩) (nn := 1) rfl (by decide) rfl rfl rfl rfl hl.1 (Nat.le_of_ble_eq_true rfl) dJ0_checkIndex_df160_5 (by show _ + 0 ≤ 0; omega) (by show _ + 0 ≤ 0; omega) (fun v u1 k1 n1 hq1 => ?_)
    obtain ⟨rfl, rfl, rfl, rfl⟩ := hq1
    refine jJ_eq (g2 := F0 m 8 ls [.int (nI j)]) (cs2 := [([] : va_W), []]) rfl rfl ?_
    refine jJ_flat (cs2 := [[]]) rfl ?_
    refine jJ_of (fun H locs => lv_pop hx hb dJ0_checkIndex_df160_8 rfl) ?_
    exact jJ_vret hx hb hr hlocks dJ0_checkIndex_df160_9 (by show _ ≤ 0; omega) (by show _ ≤ 0; omega) ⟨rfl, rfl, rfl, rfl⟩
  · refine jJ_of (fun H locs => lv_iload_n hx hb dJ0_checkIndex_df160_0 rfl (lv_at hl 0 rfl)) ?_
    refine jJ_of (fun H locs => lv_iload_n hx hb dJ0_checkIndex_df160_1 rfl (lv_at hl 1 rfl)) ?_
    refine jJ_gets hx hb hz hown (hts (.fieldLink RJ0 1053 "jdk/internal/util/Preconditions" "SIOOBE_FORMATTER" "Ljava/util/function/BiFunction;") (by decide +kernel)) (fun _ h9 => h9) dJ0_checkIndex_df160_2 ?_
    refine jJ_eq (g2 := F0 m 5 ls [.ref t9, .int (nI z), .int (nI j)]) (cs2 := [[]]) rfl rfl ?_
    refine jJ_callS (As := [.int (nI j), .int (nI z), .ref t9]) (rest := []) (wc := _) (cs2 := [[]]) [] [0] ⟨hx, hb, hml, hown, hts⟩ hK hA hAm (c_J3_checkR t9 j z (by omega) (by omega)) (va_cwS 3 hts gJ0_checkIndex_df160_J3_checkIndex_8e157 rfl rfl rfl (by decide +kernel) ⟨Nat.le_of_ble_eq_true rfl, Nat.le_of_ble_eq_true rfl⟩) (nn := 1) rfl (by decide) rfl rfl rfl rfl hl.1 (Nat.le_of_ble_eq_true rfl) dJ0_checkIndex_df160_5 (by show _ + 0 ≤ 0; omega) (by show _ + 0 ≤ 0; omega) (fun v u2 k2 n2 hq2 => ?_)
    obtain ⟨rfl, rfl, rfl, rfl⟩ := hq2
    refine jJ_eq (g2 := F0 m 8 ls [.int (nI j)]) (cs2 := [([] : va_W), []]) rfl rfl ?_
    refine jJ_flat (cs2 := [[]]) rfl ?_
    refine jJ_of (fun H locs => lv_pop hx hb dJ0_checkIndex_df160_8 rfl) ?_
    exact jJ_vret hx hb hr hlocks dJ0_checkIndex_df160_9 (by show _ ≤ 0; omega) (by show _ ≤ 0; omega) ⟨rfl, rfl, rfl, rfl⟩
set_option maxHeartbeats 4000000 in
set_option maxRecDepth 100000 in
/-- StringLatin1.charAt -/
theorem c_J1_charAt {S B N : Nat} {L : List Nat} (hTx : jTx G S B N L) (j : Nat) (hj : j < N) : HM l yJ1_charAt_3b067 wsJ1_charAt_3b067 ({ frames := 2, cells := 0, slots := 0, locals := 80 } : Room) D G (jT cI cJ cB cZ) [.ref B, .int (nI j)] ([]) (fun v u k n => v = some (.int (nI (L.getD j 0))) ∧ u = [] ∧ k = 0 ∧ n = 0) := by
  obtain ⟨hN, hL, hAll⟩ := hTx
  refine HM_ofF (cc := cJ1_charAt_3b067) (maxL := 2) (ret := (some .char)) (lv := [(0, .ref B), (1, .int (nI j))]) (by decide +kernel) rfl rfl (Nat.le_of_ble_eq_true rfl) (fun p e s m args below meth c A0 ls hx hb hr hts hown hlocks hml hnm hK hA hAm hl => ?_)
  refine jJ_of (fun H locs => lv_iload_n hx hb dJ1_charAt_3b067_0 rfl (lv_at hl 1 rfl)) ?_
  refine jJ_of (fun H locs => lv_aload_n hx hb dJ1_charAt_3b067_1 rfl (lv_at hl 0 rfl)) ?_
  refine jJ_tlen hx hb (hAll _ _ _ hAm).2.2.2 (v := nI N) rfl dJ1_charAt_3b067_2 ?_
  refine jJ_callS (As := [.int (nI j), .int (nI N)]) (rest := []) (wc := _) (cs2 := [[]]) [] [0] ⟨hx, hb, hml, hown, hts⟩ hK hA hAm (c_J0_check j N (by omega) (by omega)) (va_cwS 2 hts gJ1_charAt_3b067_J0_checkIndex_df160 rfl rfl rfl (by decide +kernel) ⟨Nat.le_of_ble_eq_true rfl, Nat.le_of_ble_eq_true rfl⟩) (nn := 1) rfl (by decide) rfl rfl rfl rfl hl.1 (Nat.le_of_ble_eq_true rfl) dJ1_charAt_3b067_3 (by show _ + 0 ≤ 0; omega) (by show _ + 0 ≤ 0; omega) (fun v u1 k1 n1 hq1 => ?_)
  obtain ⟨rfl, rfl, rfl, rfl⟩ := hq1
  refine jJ_eq (g2 := F0 m 6 ls []) (cs2 := [([] : va_W), []]) rfl rfl ?_
  refine jJ_flat (cs2 := [[]]) rfl ?_
  refine jJ_of (fun H locs => lv_aload_n hx hb dJ1_charAt_3b067_6 rfl (lv_at hl 0 rfl)) ?_
  refine jJ_of (fun H locs => lv_iload_n hx hb dJ1_charAt_3b067_7 rfl (lv_at hl 1 rfl)) ?_
  refine jJ_tb hx hb (hAll _ _ _ hAm).2.2.2 (vp_in_nI (by omega) (by omega)) (v := .int (nI (L.getD j 0))) (by rw [nI_clamp (by omega)]) dJ1_charAt_3b067_8 ?_
  have hLj := hL j
  refine jJ_of (fun H locs => lv_sipush (v := (nI 255)) hx hb dJ1_charAt_3b067_9 (by decide)) ?_
  refine jJ_of (fun H locs => lv_iand hx hb dJ1_charAt_3b067_12) ?_
  refine jJ_of (fun H locs => lv_i2c (v := (nI (L.getD j 0))) hx hb dJ1_charAt_3b067_13 (by rw [pk_andN (by omega) 8 (by decide), Nat.mod_eq_of_lt (by omega), pk_char, pk_tn (by omega), Nat.mod_eq_of_lt (by omega)])) ?_
  exact jJ_nret hx hb hr hlocks dJ1_charAt_3b067_14 (by show _ ≤ 0; omega) (by show _ ≤ 0; omega) (pk_charN (by omega)).1 ⟨rfl, rfl, rfl, rfl⟩
set_option maxHeartbeats 4000000 in
set_option maxRecDepth 100000 in
/-- String.isLatin1 -/
theorem c_J0_isLatin1 {S B N : Nat} {L : List Nat} (hTx : jTx G S B N L) : HM l yJ0_isLatin1_aae02 wsJ0_isLatin1_aae02 ({ frames := 0, cells := 0, slots := 0, locals := 0 } : Room) D G (jT cI cJ cB cZ) [.ref S] ([]) (fun v u k n => v = some (.int (nI 1)) ∧ u = [] ∧ k = 0 ∧ n = 0) := by
  obtain ⟨hN, hL, hAll⟩ := hTx
  refine HM_ofF (cc := cJ0_isLatin1_aae02) (maxL := 1) (ret := (some .boolean)) (lv := [(0, .ref S)]) (by decide +kernel) rfl rfl (Nat.le_of_ble_eq_true rfl) (fun p e s m args below meth c A0 ls hx hb hr hts hown hlocks hml hnm hK hA hAm hl => ?_)
  refine jJ_gets hx hb hAm.1 hown (hts (.fieldLink RJ0 38 "java/lang/String" "COMPACT_STRINGS" "Z") (by decide +kernel)) (fun _ h9 => h9) dJ0_isLatin1_aae02_0 ?_
  refine jJ_eq (g2 := F0 m 3 ls [.int (nI 1)]) (cs2 := [[]]) rfl rfl ?_
  refine jJ_of2 (fun H locs => jn_if_eq (tgt := 17) hx hb dJ0_isLatin1_aae02_3 (by decide) (by omega)) (fun c3 => ?_) (fun c3 => ?_)
  · omega
  · refine jJ_of (fun H locs => lv_aload_n hx hb dJ0_isLatin1_aae02_6 rfl (lv_at hl 0 rfl)) ?_
    refine jJ_getS hx hb (hAll _ _ _ hAm).1 hown (hts (.fieldLink RJ0 15 "java/lang/String" "coder" "B") (by decide +kernel)) (fun _ h9 => h9) dJ0_isLatin1_aae02_7 ?_
    refine jJ_eq (g2 := F0 m 10 ls [.int (nI 0)]) (cs2 := [[]]) rfl rfl ?_
    refine jJ_of2 (fun H locs => jn_if_ne (tgt := 17) hx hb dJ0_isLatin1_aae02_10 (by decide) (by omega)) (fun c10 => ?_) (fun c10 => ?_)
    · omega
    · refine jJ_of (fun H locs => lv_iconst (v := (nI 1)) hx hb dJ0_isLatin1_aae02_13 (by decide)) ?_
      refine jJ_of (fun H locs => lv_goto (tgt := 18) hx hb dJ0_isLatin1_aae02_14 (by decide)) ?_
      exact jJ_nret hx hb hr hlocks dJ0_isLatin1_aae02_18 (by show _ ≤ 0; omega) (by show _ ≤ 0; omega) rfl ⟨rfl, rfl, rfl, rfl⟩
set_option maxHeartbeats 4000000 in
set_option maxRecDepth 100000 in
/-- String.coder -/
theorem c_J0_coder {S B N : Nat} {L : List Nat} (hTx : jTx G S B N L) : HM l yJ0_coder_7d493 wsJ0_coder_7d493 ({ frames := 0, cells := 0, slots := 0, locals := 0 } : Room) D G (jT cI cJ cB cZ) [.ref S] ([]) (fun v u k n => v = some (.int (nI 0)) ∧ u = [] ∧ k = 0 ∧ n = 0) := by
  obtain ⟨hN, hL, hAll⟩ := hTx
  refine HM_ofF (cc := cJ0_coder_7d493) (maxL := 1) (ret := (some .byte)) (lv := [(0, .ref S)]) (by decide +kernel) rfl rfl (Nat.le_of_ble_eq_true rfl) (fun p e s m args below meth c A0 ls hx hb hr hts hown hlocks hml hnm hK hA hAm hl => ?_)
  refine jJ_gets hx hb hAm.1 hown (hts (.fieldLink RJ0 38 "java/lang/String" "COMPACT_STRINGS" "Z") (by decide +kernel)) (fun _ h9 => h9) dJ0_coder_7d493_0 ?_
  refine jJ_eq (g2 := F0 m 3 ls [.int (nI 1)]) (cs2 := [[]]) rfl rfl ?_
  refine jJ_of2 (fun H locs => jn_if_eq (tgt := 13) hx hb dJ0_coder_7d493_3 (by decide) (by omega)) (fun c3 => ?_) (fun c3 => ?_)
  · omega
  · refine jJ_of (fun H locs => lv_aload_n hx hb dJ0_coder_7d493_6 rfl (lv_at hl 0 rfl)) ?_
    refine jJ_getS hx hb (hAll _ _ _ hAm).1 hown (hts (.fieldLink RJ0 15 "java/lang/String" "coder" "B") (by decide +kernel)) (fun _ h9 => h9) dJ0_coder_7d493_7 ?_
    refine jJ_eq (g2 := F0 m 10 ls [.int (nI 0)]) (cs2 := [[]]) rfl rfl ?_
    refine jJ_of (fun H locs => lv_goto (tgt := 14) hx hb dJ0_coder_7d493_10 (by decide)) ?_
    exact jJ_nret hx hb hr hlocks dJ0_coder_7d493_14 (by show _ ≤ 0; omega) (by show _ ≤ 0; omega) rfl ⟨rfl, rfl, rfl, rfl⟩
set_option maxHeartbeats 4000000 in
set_option maxRecDepth 100000 in
/-- String.charAt -/
theorem c_charAt {S B N : Nat} {L : List Nat} (hTx : jTx G S B N L) (j : Nat) (hj : j < N) : HM l yJ0_charAt_5068e wsJ0_charAt_5068e ({ frames := 3, cells := 0, slots := 0, locals := 120 } : Room) D G (jT cI cJ cB cZ) [.ref S, .int (nI j)] ([]) (fun v u k n => v = some (.int (nI (L.getD j 0))) ∧ u = [] ∧ k = 0 ∧ n = 0) := by
  have hTx0 := hTx
  obtain ⟨hN, hL, hAll⟩ := hTx
  refine HM_ofF (cc := cJ0_charAt_5068e) (maxL := 2) (ret := (some .char)) (lv := [(0, .ref S), (1, .int (nI j))]) (by decide +kernel) rfl rfl (Nat.le_of_ble_eq_true rfl) (fun p e s m args below meth c A0 ls hx hb hr hts hown hlocks hml hnm hK hA hAm hl => ?_)
  refine jJ_of (fun H locs => lv_aload_n hx hb dJ0_charAt_5068e_0 rfl (lv_at hl 0 rfl)) ?_
  refine jJ_callVO (As := []) (rest := []) (wc := []) (cs2 := [[]]) (C := RJ0) [] [0] ⟨hx, hb, hml, hown, hts⟩ hK hA hAm (c_J0_isLatin1 hTx0) (cwV 0 hts gJ0_charAt_5068e_J0_isLatin1_aae02 rfl rfl rfl (by decide +kernel) ⟨Nat.le_of_ble_eq_true rfl, Nat.le_of_ble_eq_true rfl⟩) (nn := 1) rfl (by decide) rfl rfl (hAll _ _ _ hAm).2.2.1 rfl rfl hl.1 (Nat.le_of_ble_eq_true rfl) dJ0_charAt_5068e_1 (by show _ + 0 ≤ 0; omega) (by show _ + 0 ≤ 0; omega) (fun v u1 k1 n1 hq1 => ?_)
  obtain ⟨rfl, rfl, rfl, rfl⟩ := hq1
  refine jJ_eq (g2 := F0 m 4 ls [.int (nI 1)]) (cs2 := [([] : va_W), []]) rfl rfl ?_
  refine jJ_flat (cs2 := [[]]) rfl ?_
  refine jJ_of2 (fun H locs => jn_if_eq (tgt := 16) hx hb dJ0_charAt_5068e_4 (by decide) (by omega)) (fun c4 => ?_) (fun c4 => ?_)
  · omega
  · refine jJ_of (fun H locs => lv_aload_n hx hb dJ0_charAt_5068e_7 rfl (lv_at hl 0 rfl)) ?_
    refine jJ_getS hx hb (hAll _ _ _ hAm).2.1 hown (hts (.fieldLink RJ0 9 "java/lang/String" "value" "[B") (by decide +kernel)) (fun _ h9 => h9) dJ0_charAt_5068e_8 ?_
    refine jJ_eq (g2 := F0 m 11 ls [.ref B]) (cs2 := [[]]) rfl rfl ?_
    refine jJ_of (fun H locs => lv_iload_n hx hb dJ0_charAt_5068e_11 rfl (lv_at hl 1 rfl)) ?_
    refine jJ_callS (As := [.ref B, .int (nI j)]) (rest := []) (wc := _) (cs2 := [[]]) [] [0] ⟨hx, hb, hml, hown, hts⟩ hK hA hAm (c_J1_charAt hTx0 j hj) (va_cwS 2 hts gJ0_charAt_5068e_J1_charAt_3b067 rfl rfl rfl (by decide +kernel) ⟨Nat.le_of_ble_eq_true rfl, Nat.le_of_ble_eq_true rfl⟩) (nn := 1) rfl (by decide) rfl rfl rfl rfl hl.1 (Nat.le_of_ble_eq_true rfl) dJ0_charAt_5068e_12 (by show _ + 0 ≤ 0; omega) (by show _ + 0 ≤ 0; omega) (fun v u2 k2 n2 hq2 => ?_)
    obtain ⟨rfl, rfl, rfl, rfl⟩ := hq2
    refine jJ_eq (g2 := F0 m 15 ls [.int (nI (L.getD j 0))]) (cs2 := [([] : va_W), []]) rfl rfl ?_
    refine jJ_flat (cs2 := [[]]) rfl ?_
    exact jJ_nret hx hb hr hlocks dJ0_charAt_5068e_15 (by show _ ≤ 0; omega) (by show _ ≤ 0; omega) (pk_charN (by have := hL j; omega)).1 ⟨rfl, rfl, rfl, rfl⟩
set_option maxHeartbeats 4000000 in
set_option maxRecDepth 100000 in
/-- String.length -/
theorem c_strlen {S B N : Nat} {L : List Nat} (hTx : jTx G S B N L) : HM l yJ0_length_8abf5 wsJ0_length_8abf5 ({ frames := 1, cells := 0, slots := 0, locals := 40 } : Room) D G (jT cI cJ cB cZ) [.ref S] ([]) (fun v u k n => v = some (.int (nI N)) ∧ u = [] ∧ k = 0 ∧ n = 0) := by
  have hTx0 := hTx
  obtain ⟨hN, hL, hAll⟩ := hTx
  refine HM_ofF (cc := cJ0_length_8abf5) (maxL := 1) (ret := (some .int)) (lv := [(0, .ref S)]) (by decide +kernel) rfl rfl (Nat.le_of_ble_eq_true rfl) (fun p e s m args below meth c A0 ls hx hb hr hts hown hlocks hml hnm hK hA hAm hl => ?_)
  refine jJ_of (fun H locs => lv_aload_n hx hb dJ0_length_8abf5_0 rfl (lv_at hl 0 rfl)) ?_
  refine jJ_getS hx hb (hAll _ _ _ hAm).2.1 hown (hts (.fieldLink RJ0 9 "java/lang/String" "value" "[B") (by decide +kernel)) (fun _ h9 => h9) dJ0_length_8abf5_1 ?_
  refine jJ_eq (g2 := F0 m 4 ls [.ref B]) (cs2 := [[]]) rfl rfl ?_
  refine jJ_tlen hx hb (hAll _ _ _ hAm).2.2.2 (v := nI N) rfl dJ0_length_8abf5_4 ?_
  refine jJ_of (fun H locs => lv_aload_n hx hb dJ0_length_8abf5_5 rfl (lv_at hl 0 rfl)) ?_
  refine jJ_callVO (As := []) (rest := [.int (nI N)]) (wc := []) (cs2 := [[]]) (C := RJ0) [] [0] ⟨hx, hb, hml, hown, hts⟩ hK hA hAm (c_J0_coder hTx0) (cwV 0 hts gJ0_length_8abf5_J0_coder_7d493 rfl rfl rfl (by decide +kernel) ⟨Nat.le_of_ble_eq_true rfl, Nat.le_of_ble_eq_true rfl⟩) (nn := 1) rfl (by decide) rfl rfl (hAll _ _ _ hAm).2.2.1 rfl rfl hl.1 (Nat.le_of_ble_eq_true rfl) dJ0_length_8abf5_6 (by show _ + 0 ≤ 0; omega) (by show _ + 0 ≤ 0; omega) (fun v u1 k1 n1 hq1 => ?_)
  obtain ⟨rfl, rfl, rfl, rfl⟩ := hq1
  refine jJ_eq (g2 := F0 m 9 ls [.int (nI 0), .int (nI N)]) (cs2 := [([] : va_W), []]) rfl rfl ?_
  refine jJ_flat (cs2 := [[]]) rfl ?_
  refine jJ_of (fun H locs => lv_ishr hx hb dJ0_length_8abf5_9) ?_
  rw [show nI N >>> (nI 0 &&& 31) = nI N from sb_shr0 _]
  exact jJ_iret hx hb hr hlocks dJ0_length_8abf5_10 (by show _ ≤ 0; omega) (by show _ ≤ 0; omega) ⟨rfl, rfl, rfl, rfl⟩
end STB
