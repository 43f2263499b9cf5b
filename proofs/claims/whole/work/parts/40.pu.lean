/-! ValueBlocksModel: feed, end, place, line, steps, variable, put -/
theorem i8_and (x : Int32) : x.toInt8.toInt32 &&& nI 255 = nI (x.toBitVec.toNat % 256) := by
  have e : (nI 255) = (255 : Int32) := rfl
  rw [e, pk_and _ 8 (by decide)]
  have h : x.toInt8.toInt32.toBitVec.toNat % 2 ^ 8 = x.toBitVec.toNat % 256 := by
    rw [Int8.toBitVec_toInt32, Int32.toBitVec_toInt8]
    rw [BitVec.signExtend_eq_setWidth_of_le x.toBitVec (show 8 ≤ 32 by decide), BitVec.toNat_signExtend]
    have h1 : (BitVec.setWidth 8 x.toBitVec).toNat = x.toBitVec.toNat % 256 := by rw [BitVec.toNat_setWidth]
    rw [BitVec.toNat_setWidth, h1]
    have h2 : x.toBitVec.toNat < 4294967296 := x.toBitVec.isLt
    split <;> omega
  rw [h]
theorem sh_nat (v s : Int32) (k : Nat) (hk : k = 24 ∨ k = 16 ∨ k = 8 ∨ k = 0) (hs : (s.toBitVec.smod 32).toNat = k) : (v >>> s).toBitVec.toNat % 256 = byB v k := by
  have h1 := pk_shr v s k hs
  have h2 : (v >>> s).toInt = (v >>> s).toBitVec.toInt := rfl
  have h3 : v.toInt = v.toBitVec.toInt := rfl
  have h4 := BitVec.toInt_eq_toNat_cond (v >>> s).toBitVec
  have h5 := BitVec.toInt_eq_toNat_cond v.toBitVec
  have h6 : (v >>> s).toBitVec.toNat < 4294967296 := (v >>> s).toBitVec.isLt
  have h7 : v.toBitVec.toNat < 4294967296 := v.toBitVec.isLt
  show _ = (v.toBitVec.toNat >>> k) % 256
  rw [Nat.shiftRight_eq_div_pow]
  rw [Int.shiftRight_eq_div_pow] at h1
  rw [← h2] at h4
  rw [← h3] at h5
  generalize (v >>> s).toBitVec.toNat = a at h4 h6 ⊢
  generalize v.toBitVec.toNat = b at h5 h7 ⊢
  generalize (v >>> s).toInt = y at h1 h4
  generalize v.toInt = z at h1 h5
  clear h2 h3 hs
  rcases hk with rfl | rfl | rfl | rfl <;> (split at h4 <;> split at h5 <;> omega)
theorem tY_add {T : List Nat} {ty : Nat → Int32} (h : tY T ty) (hT : T.length < 16000) {x : Int32} {c : Nat} (hc : c < 256) (hx : x.toBitVec.toNat % 256 = c) : tY (T ++ [c]) (upd ty T.length (vp_nar .byte x.toInt8.toInt32)) := by
  refine ⟨by rw [List.length_append]; show T.length + 1 ≤ 16000; omega, fun i hi => ?_, fun i => ?_⟩
  · rw [List.length_append] at hi
    have hi2 : i < T.length + 1 := hi
    rw [getD_snoc]
    show (if i = T.length then _ else _) &&& nI 255 = _ ∧ vp_nar .byte (if i = T.length then _ else _) = (if i = T.length then _ else _)
    by_cases e : i = T.length
    · rw [if_pos e, if_pos e, pk_vb, i8_and, hx]
      exact ⟨rfl, pk_vb x⟩
    · rw [if_neg e, if_neg e]
      exact h.2.1 i (by omega)
  · rw [getD_snoc]
    split
    · exact hc
    · exact h.2.2 i
def tyW (cB : ClassId) (Z : Nat → Nat) (E : Nat → Value) (ty : Nat → Int32) (n : Nat) : List va_W := [[(Z 0, .inr (8, [E 0, E 1, E 2, E 3, E 4, E 5, .ref (Z 15), .int (nI n), E 8, E 9, E 10, E 11, E 12, E 13, E 14, E 15, E 16, E 17, E 18]))], [(Z 15, .inl (cB, 16000, .inl ty))]]
section MP
variable {D : va_G} {G : Nat → Nat} {cI cJ cB cZ : ClassId} {l : Launch}

theorem uX10_in_X10_four : ∀ w ∈ u_ws RX10 TX10 19, w ∈ wsX10_four := by decide +kernel
set_option maxHeartbeats 4000000 in
set_option maxRecDepth 100000 in
/-- four(v) -/
theorem c_Md_four {Z : Nat → Nat} {E : Nat → Value} {T : List Nat} {ty : Nat → Int32} (hY : tY T ty) (hT4 : T.length + 4 ≤ 16000) (f4 : Int32) : HM l yX10_four wsX10_four ({ frames := 0, cells := 0, slots := 0, locals := 0 } : Room) D G (jT cI cJ cB cZ) [.ref (Z 0), .int f4] (jF (tyW cB Z E ty T.length)) (fun v u k n => v = none ∧ (∃ ty2 : Nat → Int32, tY (T ++ fB f4) ty2 ∧ u = jF (tyW cB Z E ty2 ((T ++ fB f4).length))) ∧ k = 0 ∧ n = 0) := by
  refine HM_of (cc := cX10_four) (maxL := 3) (ret := none) (lv := [(0, .ref (Z 0)), (1, .int f4)]) (by decide) rfl rfl (Nat.le_of_ble_eq_true rfl) (fun p e s m args below meth c A0 ls hx hb hr hts hown hlocks hml hnm hK hA hAm hl => ?_)
  refine jJ_open (xs := [[(Z 0, .inr (8, [E 0, E 1, E 2, E 3, E 4, E 5, .ref (Z 15), .int (nI T.length), E 8, E 9, E 10, E 11, E 12, E 13, E 14, E 15, E 16, E 17, E 18]))], [(Z 15, .inl (cB, 16000, .inl ty))]]) (r := []) (cs2 := [[(Z 0, .inr (8, [E 0, E 1, E 2, E 3, E 4, E 5, .ref (Z 15), .int (nI T.length), E 8, E 9, E 10, E 11, E 12, E 13, E 14, E 15, E 16, E 17, E 18]))], [(Z 15, .inl (cB, 16000, .inl ty))]]) rfl ?_
  have hL9 := hY.1
  refine jJ_of (fun H locs => lv_iconst (v := (nI 0)) hx hb dX10_four_0 (by decide)) ?_
  refine jJ_ofL (fun H locs => lv_istore_n (lv' := [(2, .int (nI 0)), (0, .ref (Z 0)), (1, .int f4)]) hx hb dX10_four_1 rfl hl (by decide) rfl) (fun ls hl => ?_)
  refine jJ_of (fun H locs => lv_iload_n hx hb dX10_four_2 rfl (lv_at hl 0 rfl)) ?_
  refine jJ_of (fun H locs => lv_iconst (v := (nI 4)) hx hb dX10_four_3 (by decide)) ?_
  refine jJ_of2 (fun H locs => jn_icmp_ge (tgt := 42) hx hb dX10_four_4 (by decide) (by omega) (by omega)) (fun c4 => ?_) (fun c4 => ?_)
  · exfalso; omega
  · refine jJ_of (fun H locs => lv_aload_n hx hb dX10_four_7 rfl (lv_at hl 1 rfl)) ?_
    refine jJ_get hx hb (C := RX10) (T := TX10) (N := 19) hts uX10_in_X10_four hown hK 0 rfl rfl 6 (by decide) (hts (.fieldLink RX10 19 "ValueBlocksModel" "tray" "[B") (by decide +kernel)) (fun _ h9 => h9) rfl dX10_four_8 ?_
    refine jJ_of (fun H locs => lv_aload_n hx hb dX10_four_11 rfl (lv_at hl 1 rfl)) ?_
    refine jJ_get hx hb (C := RX10) (T := TX10) (N := 19) hts uX10_in_X10_four hown hK 0 rfl rfl 7 (by decide) (hts (.fieldLink RX10 42 "ValueBlocksModel" "trayed" "I") (by decide +kernel)) (fun _ h9 => h9) rfl dX10_four_12 ?_
    refine jJ_of (fun H locs => lv_iload_n hx hb dX10_four_15 rfl (lv_at hl 2 rfl)) ?_
    refine jJ_of (fun H locs => lv_bipush (v := (nI 24)) hx hb dX10_four_16 (by decide)) ?_
    refine jJ_of (fun H locs => lv_bipush (v := (nI 8)) hx hb dX10_four_18 (by decide)) ?_
    refine jJ_of (fun H locs => lv_iload_n hx hb dX10_four_20 rfl (lv_at hl 0 rfl)) ?_
    refine jJ_of (fun H locs => jn_imul hx hb dX10_four_21) ?_
    refine jJ_of (fun H locs => jn_isub hx hb dX10_four_22 (by omega)) ?_
    refine jJ_of (fun H locs => lv_ishr hx hb dX10_four_23) ?_
    refine jJ_of (fun H locs => lv_i2b (v := ((f4 >>> ((nI (24 - (8 * 0))) &&& 31)).toInt8.toInt32)) hx hb dX10_four_24 rfl) ?_
    refine jJ_bast hx hb hK 1 2 rfl rfl (vp_in_nI (by omega) (by omega)) dX10_four_25 (cs2 := [[(Z 0, .inr (8, [E 0, E 1, E 2, E 3, E 4, E 5, .ref (Z 15), .int (nI T.length), E 8, E 9, E 10, E 11, E 12, E 13, E 14, E 15, E 16, E 17, E 18]))], [(Z 15, .inl (cB, 16000, .inl (upd ty (Int32.toNatClampNeg (nI T.length)) (vp_nar .byte ((f4 >>> ((nI (24 - (8 * 0))) &&& 31)).toInt8.toInt32)))))]]) rfl ?_
    obtain ⟨T1, hTe1⟩ : ∃ t, T ++ [byB f4 24] = t := ⟨_, rfl⟩
    have hY1 := tY_add hY (by omega) (byB_lt f4 24) (sh_nat f4 (((nI (24 - (8 * 0))) &&& 31)) 24 (by decide) (by decide))
    rw [hTe1] at hY1
    have hTl1 : T1.length = T.length + 1 := by rw [← hTe1, List.length_append]; show T.length + 1 = _; omega
    obtain ⟨ty1, hty1⟩ : ∃ t, upd ty (Int32.toNatClampNeg (nI T.length)) (vp_nar .byte ((f4 >>> ((nI (24 - (8 * 0))) &&& 31)).toInt8.toInt32)) = t := ⟨_, rfl⟩
    refine jJ_eq (g2 := F0 m 26 ls []) (cs2 := [[(Z 0, .inr (8, [E 0, E 1, E 2, E 3, E 4, E 5, .ref (Z 15), .int (nI T.length), E 8, E 9, E 10, E 11, E 12, E 13, E 14, E 15, E 16, E 17, E 18]))], [(Z 15, .inl (cB, 16000, .inl ty1))]]) rfl (by rw [hty1]) ?_
    have hYc1 : tY T1 ty1 := by rw [← hty1, nI_clamp (by omega)]; exact hY1
    clear hY1
    have hY1 := hYc1
    refine jJ_of (fun H locs => lv_aload_n hx hb dX10_four_26 rfl (lv_at hl 1 rfl)) ?_
    refine jJ_of (fun H locs => lv_dup hx hb dX10_four_27 rfl) ?_
    refine jJ_get hx hb (C := RX10) (T := TX10) (N := 19) hts uX10_in_X10_four hown hK 0 rfl rfl 7 (by decide) (hts (.fieldLink RX10 42 "ValueBlocksModel" "trayed" "I") (by decide +kernel)) (fun _ h9 => h9) rfl dX10_four_28 ?_
    refine jJ_of (fun H locs => lv_iconst (v := (nI 1)) hx hb dX10_four_31 (by decide)) ?_
    refine jJ_of (fun H locs => jn_iadd hx hb dX10_four_32) ?_
    refine jJ_put hx hb (C := RX10) (T := TX10) (N := 19) (ty := .int) (v := .int (nI (T.length + 1))) hts uX10_in_X10_four tyX10 tyX10_ok nmX10 hown hK 0 rfl rfl 7 (by decide) (hts (.fieldLink RX10 42 "ValueBlocksModel" "trayed" "I") (by decide +kernel)) (fun _ h9 => h9) rfl (by decide +kernel) rfl rfl (Nat.le_of_ble_eq_true rfl) dX10_four_33 (cs2 := [[(Z 0, .inr (8, [E 0, E 1, E 2, E 3, E 4, E 5, .ref (Z 15), .int (nI (T.length + 1)), E 8, E 9, E 10, E 11, E 12, E 13, E 14, E 15, E 16, E 17, E 18]))], [(Z 15, .inl (cB, 16000, .inl ty1))]]) rfl ?_
    refine jJ_ofL (fun H locs => lv_iinc (v := (nI (0 + 1))) (lv' := [(2, .int (nI (0 + 1))), (0, .ref (Z 0)), (1, .int f4)]) hx hb dX10_four_36 hl (k := 0) rfl (nI_add _ _) (by decide) rfl) (fun ls hl => ?_)
    refine jJ_of (fun H locs => lv_goto (tgt := 2) hx hb dX10_four_39 (by decide)) ?_
    have hl9 : lv_has ls 3 [(2, .int (nI 1)), (0, .ref (Z 0)), (1, .int f4)] := hl
    clear hl
    have hl := hl9
    refine jJ_of (fun H locs => lv_iload_n hx hb dX10_four_2 rfl (lv_at hl 0 rfl)) ?_
    refine jJ_of (fun H locs => lv_iconst (v := (nI 4)) hx hb dX10_four_3 (by decide)) ?_
    refine jJ_of2 (fun H locs => jn_icmp_ge (tgt := 42) hx hb dX10_four_4 (by decide) (by omega) (by omega)) (fun c4 => ?_) (fun c4 => ?_)
    · exfalso; omega
    · refine jJ_of (fun H locs => lv_aload_n hx hb dX10_four_7 rfl (lv_at hl 1 rfl)) ?_
      refine jJ_get hx hb (C := RX10) (T := TX10) (N := 19) hts uX10_in_X10_four hown hK 0 rfl rfl 6 (by decide) (hts (.fieldLink RX10 19 "ValueBlocksModel" "tray" "[B") (by decide +kernel)) (fun _ h9 => h9) rfl dX10_four_8 ?_
      refine jJ_of (fun H locs => lv_aload_n hx hb dX10_four_11 rfl (lv_at hl 1 rfl)) ?_
      refine jJ_get hx hb (C := RX10) (T := TX10) (N := 19) hts uX10_in_X10_four hown hK 0 rfl rfl 7 (by decide) (hts (.fieldLink RX10 42 "ValueBlocksModel" "trayed" "I") (by decide +kernel)) (fun _ h9 => h9) rfl dX10_four_12 ?_
      refine jJ_of (fun H locs => lv_iload_n hx hb dX10_four_15 rfl (lv_at hl 2 rfl)) ?_
      refine jJ_of (fun H locs => lv_bipush (v := (nI 24)) hx hb dX10_four_16 (by decide)) ?_
      refine jJ_of (fun H locs => lv_bipush (v := (nI 8)) hx hb dX10_four_18 (by decide)) ?_
      refine jJ_of (fun H locs => lv_iload_n hx hb dX10_four_20 rfl (lv_at hl 0 rfl)) ?_
      refine jJ_of (fun H locs => jn_imul hx hb dX10_four_21) ?_
      refine jJ_of (fun H locs => jn_isub hx hb dX10_four_22 (by omega)) ?_
      refine jJ_of (fun H locs => lv_ishr hx hb dX10_four_23) ?_
      refine jJ_of (fun H locs => lv_i2b (v := ((f4 >>> ((nI (24 - (8 * 1))) &&& 31)).toInt8.toInt32)) hx hb dX10_four_24 rfl) ?_
      refine jJ_bast hx hb hK 1 2 rfl rfl (vp_in_nI (by omega) (by omega)) dX10_four_25 (cs2 := [[(Z 0, .inr (8, [E 0, E 1, E 2, E 3, E 4, E 5, .ref (Z 15), .int (nI (T.length + 1)), E 8, E 9, E 10, E 11, E 12, E 13, E 14, E 15, E 16, E 17, E 18]))], [(Z 15, .inl (cB, 16000, .inl (upd ty1 (Int32.toNatClampNeg (nI (T.length + 1))) (vp_nar .byte ((f4 >>> ((nI (24 - (8 * 1))) &&& 31)).toInt8.toInt32)))))]]) rfl ?_
      obtain ⟨T2, hTe2⟩ : ∃ t, T1 ++ [byB f4 16] = t := ⟨_, rfl⟩
      have hY2 := tY_add hY1 (by omega) (byB_lt f4 16) (sh_nat f4 (((nI (24 - (8 * 1))) &&& 31)) 16 (by decide) (by decide))
      rw [hTe2] at hY2
      have hTl2 : T2.length = T.length + 2 := by rw [← hTe2, List.length_append]; show T1.length + 1 = _; omega
      obtain ⟨ty2, hty2⟩ : ∃ t, upd ty1 (Int32.toNatClampNeg (nI (T.length + 1))) (vp_nar .byte ((f4 >>> ((nI (24 - (8 * 1))) &&& 31)).toInt8.toInt32)) = t := ⟨_, rfl⟩
      refine jJ_eq (g2 := F0 m 26 ls []) (cs2 := [[(Z 0, .inr (8, [E 0, E 1, E 2, E 3, E 4, E 5, .ref (Z 15), .int (nI (T.length + 1)), E 8, E 9, E 10, E 11, E 12, E 13, E 14, E 15, E 16, E 17, E 18]))], [(Z 15, .inl (cB, 16000, .inl ty2))]]) rfl (by rw [hty2]) ?_
      have hYc2 : tY T2 ty2 := by rw [← hty2, nI_clamp (by omega)]; rw [show T.length + 1 = T1.length by omega]; exact hY2
      clear hY2
      have hY2 := hYc2
      refine jJ_of (fun H locs => lv_aload_n hx hb dX10_four_26 rfl (lv_at hl 1 rfl)) ?_
      refine jJ_of (fun H locs => lv_dup hx hb dX10_four_27 rfl) ?_
      refine jJ_get hx hb (C := RX10) (T := TX10) (N := 19) hts uX10_in_X10_four hown hK 0 rfl rfl 7 (by decide) (hts (.fieldLink RX10 42 "ValueBlocksModel" "trayed" "I") (by decide +kernel)) (fun _ h9 => h9) rfl dX10_four_28 ?_
      refine jJ_of (fun H locs => lv_iconst (v := (nI 1)) hx hb dX10_four_31 (by decide)) ?_
      refine jJ_of (fun H locs => jn_iadd hx hb dX10_four_32) ?_
      refine jJ_put hx hb (C := RX10) (T := TX10) (N := 19) (ty := .int) (v := .int (nI ((T.length + 1) + 1))) hts uX10_in_X10_four tyX10 tyX10_ok nmX10 hown hK 0 rfl rfl 7 (by decide) (hts (.fieldLink RX10 42 "ValueBlocksModel" "trayed" "I") (by decide +kernel)) (fun _ h9 => h9) rfl (by decide +kernel) rfl rfl (Nat.le_of_ble_eq_true rfl) dX10_four_33 (cs2 := [[(Z 0, .inr (8, [E 0, E 1, E 2, E 3, E 4, E 5, .ref (Z 15), .int (nI ((T.length + 1) + 1)), E 8, E 9, E 10, E 11, E 12, E 13, E 14, E 15, E 16, E 17, E 18]))], [(Z 15, .inl (cB, 16000, .inl ty2))]]) rfl ?_
      refine jJ_eq (g2 := F0 m 36 ls []) (cs2 := [[(Z 0, .inr (8, [E 0, E 1, E 2, E 3, E 4, E 5, .ref (Z 15), .int (nI (T.length + 2)), E 8, E 9, E 10, E 11, E 12, E 13, E 14, E 15, E 16, E 17, E 18]))], [(Z 15, .inl (cB, 16000, .inl ty2))]]) rfl rfl ?_
      refine jJ_ofL (fun H locs => lv_iinc (v := (nI (1 + 1))) (lv' := [(2, .int (nI (1 + 1))), (0, .ref (Z 0)), (1, .int f4)]) hx hb dX10_four_36 hl (k := 0) rfl (nI_add _ _) (by decide) rfl) (fun ls hl => ?_)
      refine jJ_of (fun H locs => lv_goto (tgt := 2) hx hb dX10_four_39 (by decide)) ?_
      have hl9 : lv_has ls 3 [(2, .int (nI 2)), (0, .ref (Z 0)), (1, .int f4)] := hl
      clear hl
      have hl := hl9
      refine jJ_of (fun H locs => lv_iload_n hx hb dX10_four_2 rfl (lv_at hl 0 rfl)) ?_
      refine jJ_of (fun H locs => lv_iconst (v := (nI 4)) hx hb dX10_four_3 (by decide)) ?_
      refine jJ_of2 (fun H locs => jn_icmp_ge (tgt := 42) hx hb dX10_four_4 (by decide) (by omega) (by omega)) (fun c4 => ?_) (fun c4 => ?_)
      · exfalso; omega
      · refine jJ_of (fun H locs => lv_aload_n hx hb dX10_four_7 rfl (lv_at hl 1 rfl)) ?_
        refine jJ_get hx hb (C := RX10) (T := TX10) (N := 19) hts uX10_in_X10_four hown hK 0 rfl rfl 6 (by decide) (hts (.fieldLink RX10 19 "ValueBlocksModel" "tray" "[B") (by decide +kernel)) (fun _ h9 => h9) rfl dX10_four_8 ?_
        refine jJ_of (fun H locs => lv_aload_n hx hb dX10_four_11 rfl (lv_at hl 1 rfl)) ?_
        refine jJ_get hx hb (C := RX10) (T := TX10) (N := 19) hts uX10_in_X10_four hown hK 0 rfl rfl 7 (by decide) (hts (.fieldLink RX10 42 "ValueBlocksModel" "trayed" "I") (by decide +kernel)) (fun _ h9 => h9) rfl dX10_four_12 ?_
        refine jJ_of (fun H locs => lv_iload_n hx hb dX10_four_15 rfl (lv_at hl 2 rfl)) ?_
        refine jJ_of (fun H locs => lv_bipush (v := (nI 24)) hx hb dX10_four_16 (by decide)) ?_
        refine jJ_of (fun H locs => lv_bipush (v := (nI 8)) hx hb dX10_four_18 (by decide)) ?_
        refine jJ_of (fun H locs => lv_iload_n hx hb dX10_four_20 rfl (lv_at hl 0 rfl)) ?_
        refine jJ_of (fun H locs => jn_imul hx hb dX10_four_21) ?_
        refine jJ_of (fun H locs => jn_isub hx hb dX10_four_22 (by omega)) ?_
        refine jJ_of (fun H locs => lv_ishr hx hb dX10_four_23) ?_
        refine jJ_of (fun H locs => lv_i2b (v := ((f4 >>> ((nI (24 - (8 * 2))) &&& 31)).toInt8.toInt32)) hx hb dX10_four_24 rfl) ?_
        refine jJ_bast hx hb hK 1 2 rfl rfl (vp_in_nI (by omega) (by omega)) dX10_four_25 (cs2 := [[(Z 0, .inr (8, [E 0, E 1, E 2, E 3, E 4, E 5, .ref (Z 15), .int (nI (T.length + 2)), E 8, E 9, E 10, E 11, E 12, E 13, E 14, E 15, E 16, E 17, E 18]))], [(Z 15, .inl (cB, 16000, .inl (upd ty2 (Int32.toNatClampNeg (nI (T.length + 2))) (vp_nar .byte ((f4 >>> ((nI (24 - (8 * 2))) &&& 31)).toInt8.toInt32)))))]]) rfl ?_
        obtain ⟨T3, hTe3⟩ : ∃ t, T2 ++ [byB f4 8] = t := ⟨_, rfl⟩
        have hY3 := tY_add hY2 (by omega) (byB_lt f4 8) (sh_nat f4 (((nI (24 - (8 * 2))) &&& 31)) 8 (by decide) (by decide))
        rw [hTe3] at hY3
        have hTl3 : T3.length = T.length + 3 := by rw [← hTe3, List.length_append]; show T2.length + 1 = _; omega
        obtain ⟨ty3, hty3⟩ : ∃ t, upd ty2 (Int32.toNatClampNeg (nI (T.length + 2))) (vp_nar .byte ((f4 >>> ((nI (24 - (8 * 2))) &&& 31)).toInt8.toInt32)) = t := ⟨_, rfl⟩
        refine jJ_eq (g2 := F0 m 26 ls []) (cs2 := [[(Z 0, .inr (8, [E 0, E 1, E 2, E 3, E 4, E 5, .ref (Z 15), .int (nI (T.length + 2)), E 8, E 9, E 10, E 11, E 12, E 13, E 14, E 15, E 16, E 17, E 18]))], [(Z 15, .inl (cB, 16000, .inl ty3))]]) rfl (by rw [hty3]) ?_
        have hYc3 : tY T3 ty3 := by rw [← hty3, nI_clamp (by omega)]; rw [show T.length + 2 = T2.length by omega]; exact hY3
        clear hY3
        have hY3 := hYc3
        refine jJ_of (fun H locs => lv_aload_n hx hb dX10_four_26 rfl (lv_at hl 1 rfl)) ?_
        refine jJ_of (fun H locs => lv_dup hx hb dX10_four_27 rfl) ?_
        refine jJ_get hx hb (C := RX10) (T := TX10) (N := 19) hts uX10_in_X10_four hown hK 0 rfl rfl 7 (by decide) (hts (.fieldLink RX10 42 "ValueBlocksModel" "trayed" "I") (by decide +kernel)) (fun _ h9 => h9) rfl dX10_four_28 ?_
        refine jJ_of (fun H locs => lv_iconst (v := (nI 1)) hx hb dX10_four_31 (by decide)) ?_
        refine jJ_of (fun H locs => jn_iadd hx hb dX10_four_32) ?_
        refine jJ_put hx hb (C := RX10) (T := TX10) (N := 19) (ty := .int) (v := .int (nI ((T.length + 2) + 1))) hts uX10_in_X10_four tyX10 tyX10_ok nmX10 hown hK 0 rfl rfl 7 (by decide) (hts (.fieldLink RX10 42 "ValueBlocksModel" "trayed" "I") (by decide +kernel)) (fun _ h9 => h9) rfl (by decide +kernel) rfl rfl (Nat.le_of_ble_eq_true rfl) dX10_four_33 (cs2 := [[(Z 0, .inr (8, [E 0, E 1, E 2, E 3, E 4, E 5, .ref (Z 15), .int (nI ((T.length + 2) + 1)), E 8, E 9, E 10, E 11, E 12, E 13, E 14, E 15, E 16, E 17, E 18]))], [(Z 15, .inl (cB, 16000, .inl ty3))]]) rfl ?_
        refine jJ_eq (g2 := F0 m 36 ls []) (cs2 := [[(Z 0, .inr (8, [E 0, E 1, E 2, E 3, E 4, E 5, .ref (Z 15), .int (nI (T.length + 3)), E 8, E 9, E 10, E 11, E 12, E 13, E 14, E 15, E 16, E 17, E 18]))], [(Z 15, .inl (cB, 16000, .inl ty3))]]) rfl rfl ?_
        refine jJ_ofL (fun H locs => lv_iinc (v := (nI (2 + 1))) (lv' := [(2, .int (nI (2 + 1))), (0, .ref (Z 0)), (1, .int f4)]) hx hb dX10_four_36 hl (k := 0) rfl (nI_add _ _) (by decide) rfl) (fun ls hl => ?_)
        refine jJ_of (fun H locs => lv_goto (tgt := 2) hx hb dX10_four_39 (by decide)) ?_
        have hl9 : lv_has ls 3 [(2, .int (nI 3)), (0, .ref (Z 0)), (1, .int f4)] := hl
        clear hl
        have hl := hl9
        refine jJ_of (fun H locs => lv_iload_n hx hb dX10_four_2 rfl (lv_at hl 0 rfl)) ?_
        refine jJ_of (fun H locs => lv_iconst (v := (nI 4)) hx hb dX10_four_3 (by decide)) ?_
        refine jJ_of2 (fun H locs => jn_icmp_ge (tgt := 42) hx hb dX10_four_4 (by decide) (by omega) (by omega)) (fun c4 => ?_) (fun c4 => ?_)
        · exfalso; omega
        · refine jJ_of (fun H locs => lv_aload_n hx hb dX10_four_7 rfl (lv_at hl 1 rfl)) ?_
          refine jJ_get hx hb (C := RX10) (T := TX10) (N := 19) hts uX10_in_X10_four hown hK 0 rfl rfl 6 (by decide) (hts (.fieldLink RX10 19 "ValueBlocksModel" "tray" "[B") (by decide +kernel)) (fun _ h9 => h9) rfl dX10_four_8 ?_
          refine jJ_of (fun H locs => lv_aload_n hx hb dX10_four_11 rfl (lv_at hl 1 rfl)) ?_
          refine jJ_get hx hb (C := RX10) (T := TX10) (N := 19) hts uX10_in_X10_four hown hK 0 rfl rfl 7 (by decide) (hts (.fieldLink RX10 42 "ValueBlocksModel" "trayed" "I") (by decide +kernel)) (fun _ h9 => h9) rfl dX10_four_12 ?_
          refine jJ_of (fun H locs => lv_iload_n hx hb dX10_four_15 rfl (lv_at hl 2 rfl)) ?_
          refine jJ_of (fun H locs => lv_bipush (v := (nI 24)) hx hb dX10_four_16 (by decide)) ?_
          refine jJ_of (fun H locs => lv_bipush (v := (nI 8)) hx hb dX10_four_18 (by decide)) ?_
          refine jJ_of (fun H locs => lv_iload_n hx hb dX10_four_20 rfl (lv_at hl 0 rfl)) ?_
          refine jJ_of (fun H locs => jn_imul hx hb dX10_four_21) ?_
          refine jJ_of (fun H locs => jn_isub hx hb dX10_four_22 (by omega)) ?_
          refine jJ_of (fun H locs => lv_ishr hx hb dX10_four_23) ?_
          refine jJ_of (fun H locs => lv_i2b (v := ((f4 >>> ((nI (24 - (8 * 3))) &&& 31)).toInt8.toInt32)) hx hb dX10_four_24 rfl) ?_
          refine jJ_bast hx hb hK 1 2 rfl rfl (vp_in_nI (by omega) (by omega)) dX10_four_25 (cs2 := [[(Z 0, .inr (8, [E 0, E 1, E 2, E 3, E 4, E 5, .ref (Z 15), .int (nI (T.length + 3)), E 8, E 9, E 10, E 11, E 12, E 13, E 14, E 15, E 16, E 17, E 18]))], [(Z 15, .inl (cB, 16000, .inl (upd ty3 (Int32.toNatClampNeg (nI (T.length + 3))) (vp_nar .byte ((f4 >>> ((nI (24 - (8 * 3))) &&& 31)).toInt8.toInt32)))))]]) rfl ?_
          obtain ⟨T4, hTe4⟩ : ∃ t, T3 ++ [byB f4 0] = t := ⟨_, rfl⟩
          have hY4 := tY_add hY3 (by omega) (byB_lt f4 0) (sh_nat f4 (((nI (24 - (8 * 3))) &&& 31)) 0 (by decide) (by decide))
          rw [hTe4] at hY4
          have hTl4 : T4.length = T.length + 4 := by rw [← hTe4, List.length_append]; show T3.length + 1 = _; omega
          obtain ⟨ty4, hty4⟩ : ∃ t, upd ty3 (Int32.toNatClampNeg (nI (T.length + 3))) (vp_nar .byte ((f4 >>> ((nI (24 - (8 * 3))) &&& 31)).toInt8.toInt32)) = t := ⟨_, rfl⟩
          refine jJ_eq (g2 := F0 m 26 ls []) (cs2 := [[(Z 0, .inr (8, [E 0, E 1, E 2, E 3, E 4, E 5, .ref (Z 15), .int (nI (T.length + 3)), E 8, E 9, E 10, E 11, E 12, E 13, E 14, E 15, E 16, E 17, E 18]))], [(Z 15, .inl (cB, 16000, .inl ty4))]]) rfl (by rw [hty4]) ?_
          have hYc4 : tY T4 ty4 := by rw [← hty4, nI_clamp (by omega)]; rw [show T.length + 3 = T3.length by omega]; exact hY4
          clear hY4
          have hY4 := hYc4
          refine jJ_of (fun H locs => lv_aload_n hx hb dX10_four_26 rfl (lv_at hl 1 rfl)) ?_
          refine jJ_of (fun H locs => lv_dup hx hb dX10_four_27 rfl) ?_
          refine jJ_get hx hb (C := RX10) (T := TX10) (N := 19) hts uX10_in_X10_four hown hK 0 rfl rfl 7 (by decide) (hts (.fieldLink RX10 42 "ValueBlocksModel" "trayed" "I") (by decide +kernel)) (fun _ h9 => h9) rfl dX10_four_28 ?_
          refine jJ_of (fun H locs => lv_iconst (v := (nI 1)) hx hb dX10_four_31 (by decide)) ?_
          refine jJ_of (fun H locs => jn_iadd hx hb dX10_four_32) ?_
          refine jJ_put hx hb (C := RX10) (T := TX10) (N := 19) (ty := .int) (v := .int (nI ((T.length + 3) + 1))) hts uX10_in_X10_four tyX10 tyX10_ok nmX10 hown hK 0 rfl rfl 7 (by decide) (hts (.fieldLink RX10 42 "ValueBlocksModel" "trayed" "I") (by decide +kernel)) (fun _ h9 => h9) rfl (by decide +kernel) rfl rfl (Nat.le_of_ble_eq_true rfl) dX10_four_33 (cs2 := [[(Z 0, .inr (8, [E 0, E 1, E 2, E 3, E 4, E 5, .ref (Z 15), .int (nI ((T.length + 3) + 1)), E 8, E 9, E 10, E 11, E 12, E 13, E 14, E 15, E 16, E 17, E 18]))], [(Z 15, .inl (cB, 16000, .inl ty4))]]) rfl ?_
          refine jJ_eq (g2 := F0 m 36 ls []) (cs2 := [[(Z 0, .inr (8, [E 0, E 1, E 2, E 3, E 4, E 5, .ref (Z 15), .int (nI (T.length + 4)), E 8, E 9, E 10, E 11, E 12, E 13, E 14, E 15, E 16, E 17, E 18]))], [(Z 15, .inl (cB, 16000, .inl ty4))]]) rfl rfl ?_
          refine jJ_ofL (fun H locs => lv_iinc (v := (nI (3 + 1))) (lv' := [(2, .int (nI (3 + 1))), (0, .ref (Z 0)), (1, .int f4)]) hx hb dX10_four_36 hl (k := 0) rfl (nI_add _ _) (by decide) rfl) (fun ls hl => ?_)
          refine jJ_of (fun H locs => lv_goto (tgt := 2) hx hb dX10_four_39 (by decide)) ?_
          have hl9 : lv_has ls 3 [(2, .int (nI 4)), (0, .ref (Z 0)), (1, .int f4)] := hl
          clear hl
          have hl := hl9
          refine jJ_of (fun H locs => lv_iload_n hx hb dX10_four_2 rfl (lv_at hl 0 rfl)) ?_
          refine jJ_of (fun H locs => lv_iconst (v := (nI 4)) hx hb dX10_four_3 (by decide)) ?_
          refine jJ_of2 (fun H locs => jn_icmp_ge (tgt := 42) hx hb dX10_four_4 (by decide) (by omega) (by omega)) (fun c4 => ?_) (fun c4 => ?_)
          · have hTf : T4 = T ++ fB f4 := by rw [← hTe4, ← hTe3, ← hTe2, ← hTe1]; exact fB_app T f4
            exact jJ_vret hx hb hr hlocks dX10_four_42 (by show _ ≤ 0; omega) (by show _ ≤ 0; omega) ⟨rfl, ⟨ty4, by rw [← hTf]; exact hY4, by rw [fB_len]; rfl⟩, rfl, rfl⟩
          · exfalso; omega
end MP
