/-! ValueBlocksModel: feed, end, place, line, steps, variable, put -/
theorem i8_and (x : Int32) : x.toInt8.toInt32 &&& nI 255 = nI (x.toBitVec.toNat % 256) := by
  have e : (nI 255) = (255 : Int32) := rfl
  rw [e, pk_and _ 8 (by decide)]
  have h : x.toInt8.toInt32.toBitVec.toNat % 2 ^ 8 = x.toBitVec.toNat % 256 := by
    rw [Int8.toBitVec_toInt32, Int32.toBitVec_toInt8]
    rw [BitVec.signExtend_eq_setWidth_of_le x.toBitVec (show 8 ≤ 32 by decide), BitVec.toNat_signExtend]
    have h1 : (BitVec.setWidth 8 x.toBitVec).toNat = x.toBitVec.toNat % 256 := by rw [BitVec.toNat_setWidth]
    rw [BitVec.toNat_setWidth, h1]
    have h2 : x.toBitVec.toNat < 4294967296 := x.toBitVec.isLt
    split <;> omega
  rw [h]
theorem sh_nat (v s : Int32) (k : Nat) (hk : k = 24 ∨ k = 16 ∨ k = 8 ∨ k = 0) (hs : (s.toBitVec.smod 32).toNat = k) : (v >>> s).toBitVec.toNat % 256 = byB v k := by
  have h1 := pk_shr v s k hs
  have h2 : (v >>> s).toInt = (v >>> s).toBitVec.toInt := rfl
  have h3 : v.toInt = v.toBitVec.toInt := rfl
  have h4 := BitVec.toInt_eq_toNat_cond (v >>> s).toBitVec
  have h5 := BitVec.toInt_eq_toNat_cond v.toBitVec
  have h6 : (v >>> s).toBitVec.toNat < 4294967296 := (v >>> s).toBitVec.isLt
  have h7 : v.toBitVec.toNat < 4294967296 := v.toBitVec.isLt
  show _ = (v.toBitVec.toNat >>> k) % 256
  rw [Nat.shiftRight_eq_div_pow]
  rw [Int.shiftRight_eq_div_pow] at h1
  rw [← h2] at h4
  rw [← h3] at h5
  generalize (v >>> s).toBitVec.toNat = a at h4 h6 ⊢
  generalize v.toBitVec.toNat = b at h5 h7 ⊢
  generalize (v >>> s).toInt = y at h1 h4
  generalize v.toInt = z at h1 h5
  clear h2 h3 hs
  rcases hk with rfl | rfl | rfl | rfl <;> (split at h4 <;> split at h5 <;> omega)
theorem tY_add {T : List Nat} {ty : Nat → Int32} (h : tY T ty) (hT : T.length < 16000) {x : Int32} {c : Nat} (hc : c < 256) (hx : x.toBitVec.toNat % 256 = c) : tY (T ++ [c]) (upd ty T.length (vp_nar .byte x.toInt8.toInt32)) := by
  refine ⟨by rw [List.length_append]; show T.length + 1 ≤ 16000; omega, fun i hi => ?_, fun i => ?_⟩
  · rw [List.length_append] at hi
    have hi2 : i < T.length + 1 := hi
    rw [getD_snoc]
    show (if i = T.length then _ else _) &&& nI 255 = _ ∧ vp_nar .byte (if i = T.length then _ else _) = (if i = T.length then _ else _)
    by_cases e : i = T.length
    · rw [if_pos e, if_pos e, pk_vb, i8_and, hx]
      exact ⟨rfl, pk_vb x⟩
    · rw [if_neg e, if_neg e]
      exact h.2.1 i (by omega)
  · rw [getD_snoc]
    split
    · exact hc
    · exact h.2.2 i
def tyW (cB : ClassId) (Z : Nat → Nat) (E : Nat → Value) (ty : Nat → Int32) (n : Nat) : List va_W := [[(Z 0, .inr (8, [E 0, E 1, E 2, E 3, E 4, E 5, .ref (Z 15), .int (nI n), E 8, E 9, E 10, E 11, E 12, E 13, E 14, E 15, E 16, E 17, E 18]))], [(Z 15, .inl (cB, 16000, .inl ty))]]
section MP
variable {D : va_G} {G : Nat → Nat} {cI cJ cB cZ : ClassId} {l : Launch}

theorem uX10_in_X10_four : ∀ w ∈ u_ws RX10 TX10 19, w ∈ wsX10_four := by decide +kernel
set_option maxHeartbeats 4000000 in
set_option maxRecDepth 100000 in
/-- four(v) -/
theorem c_Md_four {Z : Nat → Nat} {E : Nat → Value} {T : List Nat} {ty : Nat → Int32} (hY : tY T ty) (hT4 : T.length + 4 ≤ 16000) (f4 : Int32) : HM l yX10_four wsX10_four ({ frames := 0, cells := 0, slots := 0, locals := 0 } : Room) D G (jT cI cJ cB cZ) [.ref (Z 0), .int f4] (jF (tyW cB Z E ty T.length)) (fun v u k n => v = none ∧ (∃ ty2 : Nat → Int32, tY (T ++ fB f4) ty2 ∧ u = jF (tyW cB Z E ty2 ((T ++ fB f4).length))) ∧ k = 0 ∧ n = 0) := by
  refine HM_of (cc := cX10_four) (maxL := 3) (ret := none) (lv := [(0, .ref (Z 0)), (1, .int f4)]) (by decide) rfl rfl (Nat.le_of_ble_eq_true rfl) (fun p e s m args below meth c A0 ls hx hb hr hts hown hlocks hml hnm hK hA hAm hl => ?_)
  refine jJ_open (xs := [[(Z 0, .inr (8, [E 0, E 1, E 2, E 3, E 4, E 5, .ref (Z 15), .int (nI T.length), E 8, E 9, E 10, E 11, E 12, E 13, E 14, E 15, E 16, E 17, E 18]))], [(Z 15, .inl (cB, 16000, .inl ty))]]) (r := []) (cs2 := [[(Z 0, .inr (8, [E 0, E 1, E 2, E 3, E 4, E 5, .ref (Z 15), .int (nI T.length), E 8, E 9, E 10, E 11, E 12, E 13, E 14, E 15, E 16, E 17, E 18]))], [(Z 15, .inl (cB, 16000, .inl ty))]]) rfl ?_
  have hL9 := hY.1
  refine jJ_of (fun H locs => lv_iconst (v := (nI 0)) hx hb dX10_four_0 (by decide)) ?_
  refine jJ_ofL (fun H locs => lv_istore_n (lv' := [(2, .int (nI 0)), (0, .ref (Z 0)), (1, .int f4)]) hx hb dX10_four_1 rfl hl (by decide) rfl) (fun ls hl => ?_)
  refine jJ_of (fun H locs => lv_iload_n hx hb dX10_four_2 rfl (lv_at hl 0 rfl)) ?_
  refine jJ_of (fun H locs => lv_iconst (v := (nI 4)) hx hb dX10_four_3 (by decide)) ?_
  refine jJ_of2 (fun H locs => jn_icmp_ge (tgt := 42) hx hb dX10_four_4 (by decide) (by omega) (by omega)) (fun c4 => ?_) (fun c4 => ?_)
  · exfalso; omega
  · refine jJ_of (fun H locs => lv_aload_n hx hb dX10_four_7 rfl (lv_at hl 1 rfl)) ?_
    refine jJ_get hx hb (C := RX10) (T := TX10) (N := 19) hts uX10_in_X10_four hown hK 0 rfl rfl 6 (by decide) (hts (.fieldLink RX10 19 "ValueBlocksModel" "tray" "[B") (by decide +kernel)) (fun _ h9 => h9) rfl dX10_four_8 ?_
    refine jJ_of (fun H locs => lv_aload_n hx hb dX10_four_11 rfl (lv_at hl 1 rfl)) ?_
    refine jJ_get hx hb (C := RX10) (T := TX10) (N := 19) hts uX10_in_X10_four hown hK 0 rfl rfl 7 (by decide) (hts (.fieldLink RX10 42 "ValueBlocksModel" "trayed" "I") (by decide +kernel)) (fun _ h9 => h9) rfl dX10_four_12 ?_
    refine jJ_of (fun H locs => lv_iload_n hx hb dX10_four_15 rfl (lv_at hl 2 rfl)) ?_
    refine jJ_of (fun H locs => lv_bipush (v := (nI 24)) hx hb dX10_four_16 (by decide)) ?_
    refine jJ_of (fun H locs => lv_bipush (v := (nI 8)) hx hb dX10_four_18 (by decide)) ?_
    refine jJ_of (fun H locs => lv_iload_n hx hb dX10_four_20 rfl (lv_at hl 0 rfl)) ?_
    refine jJ_of (fun H locs => jn_imul hx hb dX10_four_21) ?_
    refine jJ_of (fun H locs => jn_isub hx hb dX10_four_22 (by omega)) ?_
    refine jJ_of (fun H locs => lv_ishr hx hb dX10_four_23) ?_
    refine jJ_of (fun H locs => lv_i2b (v := ((f4 >>> ((nI (24 - (8 * 0))) &&& 31)).toInt8.toInt32)) hx hb dX10_four_24 rfl) ?_
    refine jJ_bast hx hb hK 1 2 rfl rfl (vp_in_nI (by omega) (by omega)) dX10_four_25 (cs2 := [[(Z 0, .inr (8, [E 0, E 1, E 2, E 3, E 4, E 5, .ref (Z 15), .int (nI T.length), E 8, E 9, E 10, E 11, E 12, E 13, E 14, E 15, E 16, E 17, E 18]))], [(Z 15, .inl (cB, 16000, .inl (upd ty (Int32.toNatClampNeg (nI T.length)) (vp_nar .byte ((f4 >>> ((nI (24 - (8 * 0))) &&& 31)).toInt8.toInt32)))))]]) rfl ?_
    obtain ⟨T1, hTe1⟩ : ∃ t, T ++ [byB f4 24] = t := ⟨_, rfl⟩
    have hY1 := tY_add hY (by omega) (byB_lt f4 24) (sh_nat f4 (((nI (24 - (8 * 0))) &&& 31)) 24 (by decide) (by decide))
    rw [hTe1] at hY1
    have hTl1 : T1.length = T.length + 1 := by rw [← hTe1, List.length_append]; show T.length + 1 = _; omega
    obtain ⟨ty1, hty1⟩ : ∃ t, upd ty (Int32.toNatClampNeg (nI T.length)) (vp_nar .byte ((f4 >>> ((nI (24 - (8 * 0))) &&& 31)).toInt8.toInt32)) = t := ⟨_, rfl⟩
    refine jJ_eq (g2 := F0 m 26 ls []) (cs2 := [[(Z 0, .inr (8, [E 0, E 1, E 2, E 3, E 4, E 5, .ref (Z 15), .int (nI T.length), E 8, E 9, E 10, E 11, E 12, E 13, E 14, E 15, E 16, E 17, E 18]))], [(Z 15, .inl (cB, 16000, .inl ty1))]]) rfl (by rw [hty1]) ?_
    have hYc1 : tY T1 ty1 := by rw [← hty1, nI_clamp (by omega)]; exact hY1
    clear hY1
    have hY1 := hYc1
    refine jJ_of (fun H locs => lv_aload_n hx hb dX10_four_26 rfl (lv_at hl 1 rfl)) ?_
    refine jJ_of (fun H locs => lv_dup hx hb dX10_four_27 rfl) ?_
    refine jJ_get hx hb (C := RX10) (T := TX10) (N := 19) hts uX10_in_X10_four hown hK 0 rfl rfl 7 (by decide) (hts (.fieldLink RX10 42 "ValueBlocksModel" "trayed" "I") (by decide +kernel)) (fun _ h9 => h9) rfl dX10_four_28 ?_
    refine jJ_of (fun H locs => lv_iconst (v := (nI 1)) hx hb dX10_four_31 (by decide)) ?_
    refine jJ_of (fun H locs => jn_iadd hx hb dX10_four_32) ?_
    refine jJ_put hx hb (C := RX10) (T := TX10) (N := 19) (ty := .int) (v := .int (nI (T.length + 1))) hts uX10_in_X10_four tyX10 tyX10_ok nmX10 hown hK 0 rfl rfl 7 (by decide) (hts (.fieldLink RX10 42 "ValueBlocksModel" "trayed" "I") (by decide +kernel)) (fun _ h9 => h9) rfl (by decide +kernel) rfl rfl (Nat.le_of_ble_eq_true rfl) dX10_four_33 (cs2 := [[(Z 0, .inr (8, [E 0, E 1, E 2, E 3, E 4, E 5, .ref (Z 15), .int (nI (T.length + 1)), E 8, E 9, E 10, E 11, E 12, E 13, E 14, E 15, E 16, E 17, E 18]))], [(Z 15, .inl (cB, 16000, .inl ty1))]]) rfl ?_
    refine jJ_ofL (fun H locs => lv_iinc (v := (nI (0 + 1))) (lv' := [(2, .int (nI (0 + 1))), (0, .ref (Z 0)), (1, .int f4)]) hx hb dX10_four_36 hl (k := 0) rfl (nI_add _ _) (by decide) rfl) (fun ls hl => ?_)
    refine jJ_of (fun H locs => lv_goto (tgt := 2) hx hb dX10_four_39 (by decide)) ?_
    have hl9 : lv_has ls 3 [(2, .int (nI 1)), (0, .ref (Z 0)), (1, .int f4)] := hl
    clear hl
    have hl := hl9
    refine jJ_of (fun H locs => lv_iload_n hx hb dX10_four_2 rfl (lv_at hl 0 rfl)) ?_
    refine jJ_of (fun H locs => lv_iconst (v := (nI 4)) hx hb dX10_four_3 (by decide)) ?_
    refine jJ_of2 (fun H locs => jn_icmp_ge (tgt := 42) hx hb dX10_four_4 (by decide) (by omega) (by omega)) (fun c4 => ?_) (fun c4 => ?_)
    · exfalso; omega
    · refine jJ_of (fun H locs => lv_aload_n hx hb dX10_four_7 rfl (lv_at hl 1 rfl)) ?_
      refine jJ_get hx hb (C := RX10) (T := TX10) (N := 19) hts uX10_in_X10_four hown hK 0 rfl rfl 6 (by decide) (hts (.fieldLink RX10 19 "ValueBlocksModel" "tray" "[B") (by decide +kernel)) (fun _ h9 => h9) rfl dX10_four_8 ?_
      refine jJ_of (fun H locs => lv_aload_n hx hb dX10_four_11 rfl (lv_at hl 1 rfl)) ?_
      refine jJ_get hx hb (C := RX10) (T := TX10) (N := 19) hts uX10_in_X10_four hown hK 0 rfl rfl 7 (by decide) (hts (.fieldLink RX10 42 "ValueBlocksModel" "trayed" "I") (by decide +kernel)) (fun _ h9 => h9) rfl dX10_four_12 ?_
      refine jJ_of (fun H locs => lv_iload_n hx hb dX10_four_15 rfl (lv_at hl 2 rfl)) ?_
      refine jJ_of (fun H locs => lv_bipush (v := (nI 24)) hx hb dX10_four_16 (by decide)) ?_
      refine jJ_of (fun H locs => lv_bipush (v := (nI 8)) hx hb dX10_four_18 (by decide)) ?_
      refine jJ_of (fun H locs => lv_iload_n hx hb dX10_four_20 rfl (lv_at hl 0 rfl)) ?_
      refine jJ_of (fun H locs => jn_imul hx hb dX10_four_21) ?_
      refine jJ_of (fun H locs => jn_isub hx hb dX10_four_22 (by omega)) ?_
      refine jJ_of (fun H locs => lv_ishr hx hb dX10_four_23) ?_
      refine jJ_of (fun H locs => lv_i2b (v := ((f4 >>> ((nI (24 - (8 * 1))) &&& 31)).toInt8.toInt32)) hx hb dX10_four_24 rfl) ?_
      refine jJ_bast hx hb hK 1 2 rfl rfl (vp_in_nI (by omega) (by omega)) dX10_four_25 (cs2 := [[(Z 0, .inr (8, [E 0, E 1, E 2, E 3, E 4, E 5, .ref (Z 15), .int (nI (T.length + 1)), E 8, E 9, E 10, E 11, E 12, E 13, E 14, E 15, E 16, E 17, E 18]))], [(Z 15, .inl (cB, 16000, .inl (upd ty1 (Int32.toNatClampNeg (nI (T.length + 1))) (vp_nar .byte ((f4 >>> ((nI (24 - (8 * 1))) &&& 31)).toInt8.toInt32)))))]]) rfl ?_
      obtain ⟨T2, hTe2⟩ : ∃ t, T1 ++ [byB f4 16] = t := ⟨_, rfl⟩
      have hY2 := tY_add hY1 (by omega) (byB_lt f4 16) (sh_nat f4 (((nI (24 - (8 * 1))) &&& 31)) 16 (by decide) (by decide))
      rw [hTe2] at hY2
      have hTl2 : T2.length = T.length + 2 := by rw [← hTe2, List.length_append]; show T1.length + 1 = _; omega
      obtain ⟨ty2, hty2⟩ : ∃ t, upd ty1 (Int32.toNatClampNeg (nI (T.length + 1))) (vp_nar .byte ((f4 >>> ((nI (24 - (8 * 1))) &&& 31)).toInt8.toInt32)) = t := ⟨_, rfl⟩
      refine jJ_eq (g2 := F0 m 26 ls []) (cs2 := [[(Z 0, .inr (8, [E 0, E 1, E 2, E 3, E 4, E 5, .ref (Z 15), .int (nI (T.length + 1)), E 8, E 9, E 10, E 11, E 12, E 13, E 14, E 15, E 16, E 17, E 18]))], [(Z 15, .inl (cB, 16000, .inl ty2))]]) rfl (by rw [hty2]) ?_
      have hYc2 : tY T2 ty2 := by rw [← hty2, nI_clamp (by omega)]; rw [show T.length + 1 = T1.length by omega]; exact hY2
      clear hY2
      have hY2 := hYc2
      refine jJ_of (fun H locs => lv_aload_n hx hb dX10_four_26 rfl (lv_at hl 1 rfl)) ?_
      refine jJ_of (fun H locs => lv_dup hx hb dX10_four_27 rfl) ?_
      refine jJ_get hx hb (C := RX10) (T := TX10) (N := 19) hts uX10_in_X10_four hown hK 0 rfl rfl 7 (by decide) (hts (.fieldLink RX10 42 "ValueBlocksModel" "trayed" "I") (by decide +kernel)) (fun _ h9 => h9) rfl dX10_four_28 ?_
      refine jJ_of (fun H locs => lv_iconst (v := (nI 1)) hx hb dX10_four_31 (by decide)) ?_
      refine jJ_of (fun H locs => jn_iadd hx hb dX10_four_32) ?_
      refine jJ_put hx hb (C := RX10) (T := TX10) (N := 19) (ty := .int) (v := .int (nI ((T.length + 1) + 1))) hts uX10_in_X10_four tyX10 tyX10_ok nmX10 hown hK 0 rfl rfl 7 (by decide) (hts (.fieldLink RX10 42 "ValueBlocksModel" "trayed" "I") (by decide +kernel)) (fun _ h9 => h9) rfl (by decide +kernel) rfl rfl (Nat.le_of_ble_eq_true rfl) dX10_four_33 (cs2 := [[(Z 0, .inr (8, [E 0, E 1, E 2, E 3, E 4, E 5, .ref (Z 15), .int (nI ((T.length + 1) + 1)), E 8, E 9, E 10, E 11, E 12, E 13, E 14, E 15, E 16, E 17, E 18]))], [(Z 15, .inl (cB, 16000, .inl ty2))]]) rfl ?_
      refine jJ_eq (g2 := F0 m 36 ls []) (cs2 := [[(Z 0, .inr (8, [E 0, E 1, E 2, E 3, E 4, E 5, .ref (Z 15), .int (nI (T.length + 2)), E 8, E 9, E 10, E 11, E 12, E 13, E 14, E 15, E 16, E 17, E 18]))], [(Z 15, .inl (cB, 16000, .inl ty2))]]) rfl rfl ?_
      refine jJ_ofL (fun H locs => lv_iinc (v := (nI (1 + 1))) (lv' := [(2, .int (nI (1 + 1))), (0, .ref (Z 0)), (1, .int f4)]) hx hb dX10_four_36 hl (k := 0) rfl (nI_add _ _) (by decide) rfl) (fun ls hl => ?_)
      refine jJ_of (fun H locs => lv_goto (tgt := 2) hx hb dX10_four_39 (by decide)) ?_
      have hl9 : lv_has ls 3 [(2, .int (nI 2)), (0, .ref (Z 0)), (1, .int f4)] := hl
      clear hl
      have hl := hl9
      refine jJ_of (fun H locs => lv_iload_n hx hb dX10_four_2 rfl (lv_at hl 0 rfl)) ?_
      refine jJ_of (fun H locs => lv_iconst (v := (nI 4)) hx hb dX10_four_3 (by decide)) ?_
      refine jJ_of2 (fun H locs => jn_icmp_ge (tgt := 42) hx hb dX10_four_4 (by decide) (by omega) (by omega)) (fun c4 => ?_) (fun c4 => ?_)
      · exfalso; omega
      · refine jJ_of (fun H locs => lv_aload_n hx hb dX10_four_7 rfl (lv_at hl 1 rfl)) ?_
        refine jJ_get hx hb (C := RX10) (T := TX10) (N := 19) hts uX10_in_X10_four hown hK 0 rfl rfl 6 (by decide) (hts (.fieldLink RX10 19 "ValueBlocksModel" "tray" "[B") (by decide +kernel)) (fun _ h9 => h9) rfl dX10_four_8 ?_
        refine jJ_of (fun H locs => lv_aload_n hx hb dX10_four_11 rfl (lv_at hl 1 rfl)) ?_
        refine jJ_get hx hb (C := RX10) (T := TX10) (N := 19) hts uX10_in_X10_four hown hK 0 rfl rfl 7 (by decide) (hts (.fieldLink RX10 42 "ValueBlocksModel" "trayed" "I") (by decide +kernel)) (fun _ h9 => h9) rfl dX10_four_12 ?_
        refine jJ_of (fun H locs => lv_iload_n hx hb dX10_four_15 rfl (lv_at hl 2 rfl)) ?_
        refine jJ_of (fun H locs => lv_bipush (v := (nI 24)) hx hb dX10_four_16 (by decide)) ?_
        refine jJ_of (fun H locs => lv_bipush (v := (nI 8)) hx hb dX10_four_18 (by decide)) ?_
        refine jJ_of (fun H locs => lv_iload_n hx hb dX10_four_20 rfl (lv_at hl 0 rfl)) ?_
        refine jJ_of (fun H locs => jn_imul hx hb dX10_four_21) ?_
        refine jJ_of (fun H locs => jn_isub hx hb dX10_four_22 (by omega)) ?_
        refine jJ_of (fun H locs => lv_ishr hx hb dX10_four_23) ?_
        refine jJ_of (fun H locs => lv_i2b (v := ((f4 >>> ((nI (24 - (8 * 2))) &&& 31)).toInt8.toInt32)) hx hb dX10_four_24 rfl) ?_
        refine jJ_bast hx hb hK 1 2 rfl rfl (vp_in_nI (by omega) (by omega)) dX10_four_25 (cs2 := [[(Z 0, .inr (8, [E 0, E 1, E 2, E 3, E 4, E 5, .ref (Z 15), .int (nI (T.length + 2)), E 8, E 9, E 10, E 11, E 12, E 13, E 14, E 15, E 16, E 17, E 18]))], [(Z 15, .inl (cB, 16000, .inl (upd ty2 (Int32.toNatClampNeg (nI (T.length + 2))) (vp_nar .byte ((f4 >>> ((nI (24 - (8 * 2))) &&& 31)).toInt8.toInt32)))))]]) rfl ?_
        obtain ⟨T3, hTe3⟩ : ∃ t, T2 ++ [byB f4 8] = t := ⟨_, rfl⟩
        have hY3 := tY_add hY2 (by omega) (byB_lt f4 8) (sh_nat f4 (((nI (24 - (8 * 2))) &&& 31)) 8 (by decide) (by decide))
        rw [hTe3] at hY3
        have hTl3 : T3.length = T.length + 3 := by rw [← hTe3, List.length_append]; show T2.length + 1 = _; omega
        obtain ⟨ty3, hty3⟩ : ∃ t, upd ty2 (Int32.toNatClampNeg (nI (T.length + 2))) (vp_nar .byte ((f4 >>> ((nI (24 - (8 * 2))) &&& 31)).toInt8.toInt32)) = t := ⟨_, rfl⟩
        refine jJ_eq (g2 := F0 m 26 ls []) (cs2 := [[(Z 0, .inr (8, [E 0, E 1, E 2, E 3, E 4, E 5, .ref (Z 15), .int (nI (T.length + 2)), E 8, E 9, E 10, E 11, E 12, E 13, E 14, E 15, E 16, E 17, E 18]))], [(Z 15, .inl (cB, 16000, .inl ty3))]]) rfl (by rw [hty3]) ?_
        have hYc3 : tY T3 ty3 := by rw [← hty3, nI_clamp (by omega)]; rw [show T.length + 2 = T2.length by omega]; exact hY3
        clear hY3
        have hY3 := hYc3
        refine jJ_of (fun H locs => lv_aload_n hx hb dX10_four_26 rfl (lv_at hl 1 rfl)) ?_
        refine jJ_of (fun H locs => lv_dup hx hb dX10_four_27 rfl) ?_
        refine jJ_get hx hb (C := RX10) (T := TX10) (N := 19) hts uX10_in_X10_four hown hK 0 rfl rfl 7 (by decide) (hts (.fieldLink RX10 42 "ValueBlocksModel" "trayed" "I") (by decide +kernel)) (fun _ h9 => h9) rfl dX10_four_28 ?_
        refine jJ_of (fun H locs => lv_iconst (v := (nI 1)) hx hb dX10_four_31 (by decide)) ?_
        refine jJ_of (fun H locs => jn_iadd hx hb dX10_four_32) ?_
        refine jJ_put hx hb (C := RX10) (T := TX10) (N := 19) (ty := .int) (v := .int (nI ((T.length + 2) + 1))) hts uX10_in_X10_four tyX10 tyX10_ok nmX10 hown hK 0 rfl rfl 7 (by decide) (hts (.fieldLink RX10 42 "ValueBlocksModel" "trayed" "I") (by decide +kernel)) (fun _ h9 => h9) rfl (by decide +kernel) rfl rfl (Nat.le_of_ble_eq_true rfl) dX10_four_33 (cs2 := [[(Z 0, .inr (8, [E 0, E 1, E 2, E 3, E 4, E 5, .ref (Z 15), .int (nI ((T.length + 2) + 1)), E 8, E 9, E 10, E 11, E 12, E 13, E 14, E 15, E 16, E 17, E 18]))], [(Z 15, .inl (cB, 16000, .inl ty3))]]) rfl ?_
        refine jJ_eq (g2 := F0 m 36 ls []) (cs2 := [[(Z 0, .inr (8, [E 0, E 1, E 2, E 3, E 4, E 5, .ref (Z 15), .int (nI (T.length + 3)), E 8, E 9, E 10, E 11, E 12, E 13, E 14, E 15, E 16, E 17, E 18]))], [(Z 15, .inl (cB, 16000, .inl ty3))]]) rfl rfl ?_
        refine jJ_ofL (fun H locs => lv_iinc (v := (nI (2 + 1))) (lv' := [(2, .int (nI (2 + 1))), (0, .ref (Z 0)), (1, .int f4)]) hx hb dX10_four_36 hl (k := 0) rfl (nI_add _ _) (by decide) rfl) (fun ls hl => ?_)
        refine jJ_of (fun H locs => lv_goto (tgt := 2) hx hb dX10_four_39 (by decide)) ?_
        have hl9 : lv_has ls 3 [(2, .int (nI 3)), (0, .ref (Z 0)), (1, .int f4)] := hl
        clear hl
        have hl := hl9
        refine jJ_of (fun H locs => lv_iload_n hx hb dX10_four_2 rfl (lv_at hl 0 rfl)) ?_
        refine jJ_of (fun H locs => lv_iconst (v := (nI 4)) hx hb dX10_four_3 (by decide)) ?_
        refine jJ_of2 (fun H locs => jn_icmp_ge (tgt := 42) hx hb dX10_four_4 (by decide) (by omega) (by omega)) (fun c4 => ?_) (fun c4 => ?_)
        · exfalso; omega
        · refine jJ_of (fun H locs => lv_aload_n hx hb dX10_four_7 rfl (lv_at hl 1 rfl)) ?_
          refine jJ_get hx hb (C := RX10) (T := TX10) (N := 19) hts uX10_in_X10_four hown hK 0 rfl rfl 6 (by decide) (hts (.fieldLink RX10 19 "ValueBlocksModel" "tray" "[B") (by decide +kernel)) (fun _ h9 => h9) rfl dX10_four_8 ?_
          refine jJ_of (fun H locs => lv_aload_n hx hb dX10_four_11 rfl (lv_at hl 1 rfl)) ?_
          refine jJ_get hx hb (C := RX10) (T := TX10) (N := 19) hts uX10_in_X10_four hown hK 0 rfl rfl 7 (by decide) (hts (.fieldLink RX10 42 "ValueBlocksModel" "trayed" "I") (by decide +kernel)) (fun _ h9 => h9) rfl dX10_four_12 ?_
          refine jJ_of (fun H locs => lv_iload_n hx hb dX10_four_15 rfl (lv_at hl 2 rfl)) ?_
          refine jJ_of (fun H locs => lv_bipush (v := (nI 24)) hx hb dX10_four_16 (by decide)) ?_
          refine jJ_of (fun H locs => lv_bipush (v := (nI 8)) hx hb dX10_four_18 (by decide)) ?_
          refine jJ_of (fun H locs => lv_iload_n hx hb dX10_four_20 rfl (lv_at hl 0 rfl)) ?_
          refine jJ_of (fun H locs => jn_imul hx hb dX10_four_21) ?_
          refine jJ_of (fun H locs => jn_isub hx hb dX10_four_22 (by omega)) ?_
          refine jJ_of (fun H locs => lv_ishr hx hb dX10_four_23) ?_
          refine jJ_of (fun H locs => lv_i2b (v := ((f4 >>> ((nI (24 - (8 * 3))) &&& 31)).toInt8.toInt32)) hx hb dX10_four_24 rfl) ?_
          refine jJ_bast hx hb hK 1 2 rfl rfl (vp_in_nI (by omega) (by omega)) dX10_four_25 (cs2 := [[(Z 0, .inr (8, [E 0, E 1, E 2, E 3, E 4, E 5, .ref (Z 15), .int (nI (T.length + 3)), E 8, E 9, E 10, E 11, E 12, E 13, E 14, E 15, E 16, E 17, E 18]))], [(Z 15, .inl (cB, 16000, .inl (upd ty3 (Int32.toNatClampNeg (nI (T.length + 3))) (vp_nar .byte ((f4 >>> ((nI (24 - (8 * 3))) &&& 31)).toInt8.toInt32)))))]]) rfl ?_
          obtain ⟨T4, hTe4⟩ : ∃ t, T3 ++ [byB f4 0] = t := ⟨_, rfl⟩
          have hY4 := tY_add hY3 (by omega) (byB_lt f4 0) (sh_nat f4 (((nI (24 - (8 * 3))) &&& 31)) 0 (by decide) (by decide))
          rw [hTe4] at hY4
          have hTl4 : T4.length = T.length + 4 := by rw [← hTe4, List.length_append]; show T3.length + 1 = _; omega
          obtain ⟨ty4, hty4⟩ : ∃ t, upd ty3 (Int32.toNatClampNeg (nI (T.length + 3))) (vp_nar .byte ((f4 >>> ((nI (24 - (8 * 3))) &&& 31)).toInt8.toInt32)) = t := ⟨_, rfl⟩
          refine jJ_eq (g2 := F0 m 26 ls []) (cs2 := [[(Z 0, .inr (8, [E 0, E 1, E 2, E 3, E 4, E 5, .ref (Z 15), .int (nI (T.length + 3)), E 8, E 9, E 10, E 11, E 12, E 13, E 14, E 15, E 16, E 17, E 18]))], [(Z 15, .inl (cB, 16000, .inl ty4))]]) rfl (by rw [hty4]) ?_
          have hYc4 : tY T4 ty4 := by rw [← hty4, nI_clamp (by omega)]; rw [show T.length + 3 = T3.length by omega]; exact hY4
          clear hY4
          have hY4 := hYc4
          refine jJ_of (fun H locs => lv_aload_n hx hb dX10_four_26 rfl (lv_at hl 1 rfl)) ?_
          refine jJ_of (fun H locs => lv_dup hx hb dX10_four_27 rfl) ?_
          refine jJ_get hx hb (C := RX10) (T := TX10) (N := 19) hts uX10_in_X10_four hown hK 0 rfl rfl 7 (by decide) (hts (.fieldLink RX10 42 "ValueBlocksModel" "trayed" "I") (by decide +kernel)) (fun _ h9 => h9) rfl dX10_four_28 ?_
          refine jJ_of (fun H locs => lv_iconst (v := (nI 1)) hx hb dX10_four_31 (by decide)) ?_
          refine jJ_of (fun H locs => jn_iadd hx hb dX10_four_32) ?_
          refine jJ_put hx hb (C := RX10) (T := TX10) (N := 19) (ty := .int) (v := .int (nI ((T.length + 3) + 1))) hts uX10_in_X10_four tyX10 tyX10_ok nmX10 hown hK 0 rfl rfl 7 (by decide) (hts (.fieldLink RX10 42 "ValueBlocksModel" "trayed" "I") (by decide +kernel)) (fun _ h9 => h9) rfl (by decide +kernel) rfl rfl (Nat.le_of_ble_eq_true rfl) dX10_four_33 (cs2 := [[(Z 0, .inr (8, [E 0, E 1, E 2, E 3, E 4, E 5, .ref (Z 15), .int (nI ((T.length + 3) + 1)), E 8, E 9, E 10, E 11, E 12, E 13, E 14, E 15, E 16, E 17, E 18]))], [(Z 15, .inl (cB, 16000, .inl ty4))]]) rfl ?_
          refine jJ_eq (g2 := F0 m 36 ls []) (cs2 := [[(Z 0, .inr (8, [E 0, E 1, E 2, E 3, E 4, E 5, .ref (Z 15), .int (nI (T.length + 4)), E 8, E 9, E 10, E 11, E 12, E 13, E 14, E 15, E 16, E 17, E 18]))], [(Z 15, .inl (cB, 16000, .inl ty4))]]) rfl rfl ?_
          refine jJ_ofL (fun H locs => lv_iinc (v := (nI (3 + 1))) (lv' := [(2, .int (nI (3 + 1))), (0, .ref (Z 0)), (1, .int f4)]) hx hb dX10_four_36 hl (k := 0) rfl (nI_add _ _) (by decide) rfl) (fun ls hl => ?_)
          refine jJ_of (fun H locs => lv_goto (tgt := 2) hx hb dX10_four_39 (by decide)) ?_
          have hl9 : lv_has ls 3 [(2, .int (nI 4)), (0, .ref (Z 0)), (1, .int f4)] := hl
          clear hl
          have hl := hl9
          refine jJ_of (fun H locs => lv_iload_n hx hb dX10_four_2 rfl (lv_at hl 0 rfl)) ?_
          refine jJ_of (fun H locs => lv_iconst (v := (nI 4)) hx hb dX10_four_3 (by decide)) ?_
          refine jJ_of2 (fun H locs => jn_icmp_ge (tgt := 42) hx hb dX10_four_4 (by decide) (by omega) (by omega)) (fun c4 => ?_) (fun c4 => ?_)
          · have hTf : T4 = T ++ fB f4 := by rw [← hTe4, ← hTe3, ← hTe2, ← hTe1]; exact fB_app T f4
            exact jJ_vret hx hb hr hlocks dX10_four_42 (by show _ ≤ 0; omega) (by show _ ≤ 0; omega) ⟨rfl, ⟨ty4, by rw [← hTf]; exact hY4, by rw [fB_len]; rfl⟩, rfl, rfl⟩
          · exfalso; omega
def feW (cB : ClassId) (Z : Nat → Nat) (E : Nat → Value) (ty : Nat → Int32) (n fed : Nat) : List va_W := [[(Z 0, .inr (8, [E 0, E 1, E 2, E 3, E 4, E 5, .ref (Z 15), .int (nI n), .int (nI fed), E 9, E 10, E 11, E 12, E 13, E 14, E 15, E 16, E 17, E 18]))], [(Z 15, .inl (cB, 16000, .inl ty))]]
theorem uX10_in_X10_feed : ∀ w ∈ u_ws RX10 TX10 19, w ∈ wsX10_feed := by decide +kernel
set_option maxHeartbeats 4000000 in
set_option maxRecDepth 100000 in
/-- feed(..) -/
theorem c_Md_feed {Z : Nat → Nat} {E : Nat → Value} {T : List Nat} {ty : Nat → Int32} {fed : Nat} (hY : tY T ty) (hfed : fed ≤ 65536) (fa fb fc fd fe : Int32) : HM l yX10_feed wsX10_feed ({ frames := 1, cells := 0, slots := 0, locals := 40 } : Room) D G (jT cI cJ cB cZ) [.ref (Z 0), .int fa, .int fb, .int fc, .int fd, .int fe] (jF (feW cB Z E ty T.length fed)) (fun v u k n => v = some (.int (iI (vFeed T fed fa fb fc fd fe).1)) ∧ (∃ ty2 : Nat → Int32, tY (vFeed T fed fa fb fc fd fe).2.1 ty2 ∧ u = jF (feW cB Z E ty2 ((vFeed T fed fa fb fc fd fe).2.1.length) ((vFeed T fed fa fb fc fd fe).2.2))) ∧ k = 0 ∧ n = 0) := by
  refine HM_of (cc := cX10_feed) (maxL := 6) (ret := (some .int)) (lv := [(0, .ref (Z 0)), (1, .int fa), (2, .int fb), (3, .int fc), (4, .int fd), (5, .int fe)]) (by decide) rfl rfl (Nat.le_of_ble_eq_true rfl) (fun p e s m args below meth c A0 ls hx hb hr hts hown hlocks hml hnm hK hA hAm hl => ?_)
  refine jJ_open (xs := [[(Z 0, .inr (8, [E 0, E 1, E 2, E 3, E 4, E 5, .ref (Z 15), .int (nI T.length), .int (nI fed), E 9, E 10, E 11, E 12, E 13, E 14, E 15, E 16, E 17, E 18]))], [(Z 15, .inl (cB, 16000, .inl ty))]]) (r := []) (cs2 := [[(Z 0, .inr (8, [E 0, E 1, E 2, E 3, E 4, E 5, .ref (Z 15), .int (nI T.length), .int (nI fed), E 9, E 10, E 11, E 12, E 13, E 14, E 15, E 16, E 17, E 18]))], [(Z 15, .inl (cB, 16000, .inl ty))]]) rfl ?_
  have hL9 := hY.1
  refine jJ_of (fun H locs => lv_aload_n hx hb dX10_feed_0 rfl (lv_at hl 0 rfl)) ?_
  refine jJ_get hx hb (C := RX10) (T := TX10) (N := 19) hts uX10_in_X10_feed hown hK 0 rfl rfl 7 (by decide) (hts (.fieldLink RX10 42 "ValueBlocksModel" "trayed" "I") (by decide +kernel)) (fun _ h9 => h9) rfl dX10_feed_1 ?_
  refine jJ_of (fun H locs => lv_bipush (v := (nI 20)) hx hb dX10_feed_4 (by decide)) ?_
  refine jJ_of (fun H locs => jn_iadd hx hb dX10_feed_6) ?_
  refine jJ_of (fun H locs => lv_sipush (v := (nI 16000)) hx hb dX10_feed_7 (by decide)) ?_
  refine jJ_of2 (fun H locs => jn_icmp_gt (tgt := 25) hx hb dX10_feed_10 (by decide) (by omega) (by omega)) (fun c10 => ?_) (fun c10 => ?_)
  · refine jJ_of (fun H locs => lv_iconst (v := (iI (-1))) hx hb dX10_feed_25 (by decide)) ?_
    have he : vFeed T fed fa fb fc fd fe = (-1, T, fed) := if_pos (by omega)
    exact jJ_iret hx hb hr hlocks dX10_feed_26 (by show _ ≤ 0; omega) (by show _ ≤ 0; omega) ⟨by rw [he], ⟨ty, by rw [he]; exact hY, by rw [he]; rfl⟩, rfl, rfl⟩
  · refine jJ_of (fun H locs => lv_aload_n hx hb dX10_feed_13 rfl (lv_at hl 0 rfl)) ?_
    refine jJ_get hx hb (C := RX10) (T := TX10) (N := 19) hts uX10_in_X10_feed hown hK 0 rfl rfl 8 (by decide) (hts (.fieldLink RX10 45 "ValueBlocksModel" "fed" "I") (by decide +kernel)) (fun _ h9 => h9) rfl dX10_feed_14 ?_
    refine jJ_of (fun H locs => lv_bipush (v := (nI 20)) hx hb dX10_feed_17 (by decide)) ?_
    refine jJ_of (fun H locs => jn_iadd hx hb dX10_feed_19) ?_
    refine jJ_of (fun H locs => lv_ldc (v := (nI 65536)) hx hb hown (by rw [show (nI 65536) = (65536 : Int32) from by decide]; exact (hts (.constant RX10 48 (65536)) (by decide +kernel))) dX10_feed_20) ?_
    refine jJ_of2 (fun H locs => jn_icmp_le (tgt := 27) hx hb dX10_feed_22 (by decide) (by omega) (by omega)) (fun c22 => ?_) (fun c22 => ?_)
    · refine jJ_of (fun H locs => lv_aload_n hx hb dX10_feed_27 rfl (lv_at hl 0 rfl)) ?_
      refine jJ_of (fun H locs => lv_iload_n hx hb dX10_feed_28 rfl (lv_at hl 1 rfl)) ?_
      obtain ⟨T1, hTe1⟩ : ∃ t, T ++ fB fa = t := ⟨_, rfl⟩
      have hTl1 : T1.length = T.length + 4 := by rw [← hTe1]; exact fB_len _ _
      refine jJ_callV (As := [.int fa]) (rest := []) (wc := jF (tyW cB Z (lsV [E 0, E 1, E 2, E 3, E 4, E 5, .null, .null, .int (nI fed), E 9, E 10, E 11, E 12, E 13, E 14, E 15, E 16, E 17, E 18]) ty T.length)) (cs2 := []) (C := RX10) (T := TX10) (N := 19) (ci := 8) [0, 1] [] ⟨hx, hb, hml, hown, hts⟩ hK hA hAm (c_Md_four (E := lsV [E 0, E 1, E 2, E 3, E 4, E 5, .null, .null, .int (nI fed), E 9, E 10, E 11, E 12, E 13, E 14, E 15, E 16, E 17, E 18]) hY (by omega) fa) (cwV 1 hts gX10_feed_X10_four rfl rfl rfl (by decide +kernel) ⟨Nat.le_of_ble_eq_true rfl, Nat.le_of_ble_eq_true rfl⟩) (nn := 2) rfl (by decide) rfl rfl ⟨0, _, rfl⟩ rfl rfl rfl hl.1 (Nat.le_of_ble_eq_true rfl) dX10_feed_29 (by show _ + 0 ≤ 0; omega) (by show _ + 0 ≤ 0; omega) (fun v u1 k1 n1 hq1 => ?_)
      obtain ⟨rfl, ⟨ty1, hY1, hw1⟩, rfl, rfl⟩ := hq1
      rw [hTe1] at hY1 hw1
      rw [hw1]
      refine jJ_open (xs := [[(Z 0, .inr (8, [E 0, E 1, E 2, E 3, E 4, E 5, .ref (Z 15), .int (nI T1.length), .int (nI fed), E 9, E 10, E 11, E 12, E 13, E 14, E 15, E 16, E 17, E 18]))], [(Z 15, .inl (cB, 16000, .inl ty1))]]) (r := []) (cs2 := [[(Z 0, .inr (8, [E 0, E 1, E 2, E 3, E 4, E 5, .ref (Z 15), .int (nI T1.length), .int (nI fed), E 9, E 10, E 11, E 12, E 13, E 14, E 15, E 16, E 17, E 18]))], [(Z 15, .inl (cB, 16000, .inl ty1))]]) rfl ?_
      refine jJ_eq (g2 := F0 m 32 ls []) (cs2 := [[(Z 0, .inr (8, [E 0, E 1, E 2, E 3, E 4, E 5, .ref (Z 15), .int (nI T1.length), .int (nI fed), E 9, E 10, E 11, E 12, E 13, E 14, E 15, E 16, E 17, E 18]))], [(Z 15, .inl (cB, 16000, .inl ty1))]]) rfl rfl ?_
      refine jJ_of (fun H locs => lv_aload_n hx hb dX10_feed_32 rfl (lv_at hl 0 rfl)) ?_
      refine jJ_of (fun H locs => lv_iload_n hx hb dX10_feed_33 rfl (lv_at hl 2 rfl)) ?_
      obtain ⟨T2, hTe2⟩ : ∃ t, T1 ++ fB fb = t := ⟨_, rfl⟩
      have hTl2 : T2.length = T1.length + 4 := by rw [← hTe2]; exact fB_len _ _
      refine jJ_callV (As := [.int fb]) (rest := []) (wc := jF (tyW cB Z (lsV [E 0, E 1, E 2, E 3, E 4, E 5, .null, .null, .int (nI fed), E 9, E 10, E 11, E 12, E 13, E 14, E 15, E 16, E 17, E 18]) ty1 T1.length)) (cs2 := []) (C := RX10) (T := TX10) (N := 19) (ci := 8) [0, 1] [] ⟨hx, hb, hml, hown, hts⟩ hK hA hAm (c_Md_four (E := lsV [E 0, E 1, E 2, E 3, E 4, E 5, .null, .null, .int (nI fed), E 9, E 10, E 11, E 12, E 13, E 14, E 15, E 16, E 17, E 18]) hY1 (by omega) fb) (cwV 1 hts gX10_feed_X10_four rfl rfl rfl (by decide +kernel) ⟨Nat.le_of_ble_eq_true rfl, Nat.le_of_ble_eq_true rfl⟩) (nn := 2) rfl (by decide) rfl rfl ⟨0, _, rfl⟩ rfl rfl rfl hl.1 (Nat.le_of_ble_eq_true rfl) dX10_feed_34 (by show _ + 0 ≤ 0; omega) (by show _ + 0 ≤ 0; omega) (fun v u2 k2 n2 hq2 => ?_)
      obtain ⟨rfl, ⟨ty2, hY2, hw2⟩, rfl, rfl⟩ := hq2
      rw [hTe2] at hY2 hw2
      rw [hw2]
      refine jJ_open (xs := [[(Z 0, .inr (8, [E 0, E 1, E 2, E 3, E 4, E 5, .ref (Z 15), .int (nI T2.length), .int (nI fed), E 9, E 10, E 11, E 12, E 13, E 14, E 15, E 16, E 17, E 18]))], [(Z 15, .inl (cB, 16000, .inl ty2))]]) (r := []) (cs2 := [[(Z 0, .inr (8, [E 0, E 1, E 2, E 3, E 4, E 5, .ref (Z 15), .int (nI T2.length), .int (nI fed), E 9, E 10, E 11, E 12, E 13, E 14, E 15, E 16, E 17, E 18]))], [(Z 15, .inl (cB, 16000, .inl ty2))]]) rfl ?_
      refine jJ_eq (g2 := F0 m 37 ls []) (cs2 := [[(Z 0, .inr (8, [E 0, E 1, E 2, E 3, E 4, E 5, .ref (Z 15), .int (nI T2.length), .int (nI fed), E 9, E 10, E 11, E 12, E 13, E 14, E 15, E 16, E 17, E 18]))], [(Z 15, .inl (cB, 16000, .inl ty2))]]) rfl rfl ?_
      refine jJ_of (fun H locs => lv_aload_n hx hb dX10_feed_37 rfl (lv_at hl 0 rfl)) ?_
      refine jJ_of (fun H locs => lv_iload_n hx hb dX10_feed_38 rfl (lv_at hl 3 rfl)) ?_
      obtain ⟨T3, hTe3⟩ : ∃ t, T2 ++ fB fc = t := ⟨_, rfl⟩
      have hTl3 : T3.length = T2.length + 4 := by rw [← hTe3]; exact fB_len _ _
      refine jJ_callV (As := [.int fc]) (rest := []) (wc := jF (tyW cB Z (lsV [E 0, E 1, E 2, E 3, E 4, E 5, .null, .null, .int (nI fed), E 9, E 10, E 11, E 12, E 13, E 14, E 15, E 16, E 17, E 18]) ty2 T2.length)) (cs2 := []) (C := RX10) (T := TX10) (N := 19) (ci := 8) [0, 1] [] ⟨hx, hb, hml, hown, hts⟩ hK hA hAm (c_Md_four (E := lsV [E 0, E 1, E 2, E 3, E 4, E 5, .null, .null, .int (nI fed), E 9, E 10, E 11, E 12, E 13, E 14, E 15, E 16, E 17, E 18]) hY2 (by omega) fc) (cwV 1 hts gX10_feed_X10_four rfl rfl rfl (by decide +kernel) ⟨Nat.le_of_ble_eq_true rfl, Nat.le_of_ble_eq_true rfl⟩) (nn := 2) rfl (by decide) rfl rfl ⟨0, _, rfl⟩ rfl rfl rfl hl.1 (Nat.le_of_ble_eq_true rfl) dX10_feed_39 (by show _ + 0 ≤ 0; omega) (by show _ + 0 ≤ 0; omega) (fun v u3 k3 n3 hq3 => ?_)
      obtain ⟨rfl, ⟨ty3, hY3, hw3⟩, rfl, rfl⟩ := hq3
      rw [hTe3] at hY3 hw3
      rw [hw3]
      refine jJ_open (xs := [[(Z 0, .inr (8, [E 0, E 1, E 2, E 3, E 4, E 5, .ref (Z 15), .int (nI T3.length), .int (nI fed), E 9, E 10, E 11, E 12, E 13, E 14, E 15, E 16, E 17, E 18]))], [(Z 15, .inl (cB, 16000, .inl ty3))]]) (r := []) (cs2 := [[(Z 0, .inr (8, [E 0, E 1, E 2, E 3, E 4, E 5, .ref (Z 15), .int (nI T3.length), .int (nI fed), E 9, E 10, E 11, E 12, E 13, E 14, E 15, E 16, E 17, E 18]))], [(Z 15, .inl (cB, 16000, .inl ty3))]]) rfl ?_
      refine jJ_eq (g2 := F0 m 42 ls []) (cs2 := [[(Z 0, .inr (8, [E 0, E 1, E 2, E 3, E 4, E 5, .ref (Z 15), .int (nI T3.length), .int (nI fed), E 9, E 10, E 11, E 12, E 13, E 14, E 15, E 16, E 17, E 18]))], [(Z 15, .inl (cB, 16000, .inl ty3))]]) rfl rfl ?_
      refine jJ_of (fun H locs => lv_aload_n hx hb dX10_feed_42 rfl (lv_at hl 0 rfl)) ?_
      refine jJ_of (fun H locs => lv_iload hx hb dX10_feed_43 (lv_at hl 4 rfl)) ?_
      obtain ⟨T4, hTe4⟩ : ∃ t, T3 ++ fB fd = t := ⟨_, rfl⟩
      have hTl4 : T4.length = T3.length + 4 := by rw [← hTe4]; exact fB_len _ _
      refine jJ_callV (As := [.int fd]) (rest := []) (wc := jF (tyW cB Z (lsV [E 0, E 1, E 2, E 3, E 4, E 5, .null, .null, .int (nI fed), E 9, E 10, E 11, E 12, E 13, E 14, E 15, E 16, E 17, E 18]) ty3 T3.length)) (cs2 := []) (C := RX10) (T := TX10) (N := 19) (ci := 8) [0, 1] [] ⟨hx, hb, hml, hown, hts⟩ hK hA hAm (c_Md_four (E := lsV [E 0, E 1, E 2, E 3, E 4, E 5, .null, .null, .int (nI fed), E 9, E 10, E 11, E 12, E 13, E 14, E 15, E 16, E 17, E 18]) hY3 (by omega) fd) (cwV 1 hts gX10_feed_X10_four rfl rfl rfl (by decide +kernel) ⟨Nat.le_of_ble_eq_true rfl, Nat.le_of_ble_eq_true rfl⟩) (nn := 2) rfl (by decide) rfl rfl ⟨0, _, rfl⟩ rfl rfl rfl hl.1 (Nat.le_of_ble_eq_true rfl) dX10_feed_45 (by show _ + 0 ≤ 0; omega) (by show _ + 0 ≤ 0; omega) (fun v u4 k4 n4 hq4 => ?_)
      obtain ⟨rfl, ⟨ty4, hY4, hw4⟩, rfl, rfl⟩ := hq4
      rw [hTe4] at hY4 hw4
      rw [hw4]
      refine jJ_open (xs := [[(Z 0, .inr (8, [E 0, E 1, E 2, E 3, E 4, E 5, .ref (Z 15), .int (nI T4.length), .int (nI fed), E 9, E 10, E 11, E 12, E 13, E 14, E 15, E 16, E 17, E 18]))], [(Z 15, .inl (cB, 16000, .inl ty4))]]) (r := []) (cs2 := [[(Z 0, .inr (8, [E 0, E 1, E 2, E 3, E 4, E 5, .ref (Z 15), .int (nI T4.length), .int (nI fed), E 9, E 10, E 11, E 12, E 13, E 14, E 15, E 16, E 17, E 18]))], [(Z 15, .inl (cB, 16000, .inl ty4))]]) rfl ?_
      refine jJ_eq (g2 := F0 m 48 ls []) (cs2 := [[(Z 0, .inr (8, [E 0, E 1, E 2, E 3, E 4, E 5, .ref (Z 15), .int (nI T4.length), .int (nI fed), E 9, E 10, E 11, E 12, E 13, E 14, E 15, E 16, E 17, E 18]))], [(Z 15, .inl (cB, 16000, .inl ty4))]]) rfl rfl ?_
      refine jJ_of (fun H locs => lv_aload_n hx hb dX10_feed_48 rfl (lv_at hl 0 rfl)) ?_
      refine jJ_of (fun H locs => lv_iload hx hb dX10_feed_49 (lv_at hl 5 rfl)) ?_
      obtain ⟨T5, hTe5⟩ : ∃ t, T4 ++ fB fe = t := ⟨_, rfl⟩
      have hTl5 : T5.length = T4.length + 4 := by rw [← hTe5]; exact fB_len _ _
      refine jJ_callV (As := [.int fe]) (rest := []) (wc := jF (tyW cB Z (lsV [E 0, E 1, E 2, E 3, E 4, E 5, .null, .null, .int (nI fed), E 9, E 10, E 11, E 12, E 13, E 14, E 15, E 16, E 17, E 18]) ty4 T4.length)) (cs2 := []) (C := RX10) (T := TX10) (N := 19) (ci := 8) [0, 1] [] ⟨hx, hb, hml, hown, hts⟩ hK hA hAm (c_Md_four (E := lsV [E 0, E 1, E 2, E 3, E 4, E 5, .null, .null, .int (nI fed), E 9, E 10, E 11, E 12, E 13, E 14, E 15, E 16, E 17, E 18]) hY4 (by omega) fe) (cwV 1 hts gX10_feed_X10_four rfl rfl rfl (by decide +kernel) ⟨Nat.le_of_ble_eq_true rfl, Nat.le_of_ble_eq_true rfl⟩) (nn := 2) rfl (by decide) rfl rfl ⟨0, _, rfl⟩ rfl rfl rfl hl.1 (Nat.le_of_ble_eq_true rfl) dX10_feed_51 (by show _ + 0 ≤ 0; omega) (by show _ + 0 ≤ 0; omega) (fun v u5 k5 n5 hq5 => ?_)
      obtain ⟨rfl, ⟨ty5, hY5, hw5⟩, rfl, rfl⟩ := hq5
      rw [hTe5] at hY5 hw5
      rw [hw5]
      refine jJ_open (xs := [[(Z 0, .inr (8, [E 0, E 1, E 2, E 3, E 4, E 5, .ref (Z 15), .int (nI T5.length), .int (nI fed), E 9, E 10, E 11, E 12, E 13, E 14, E 15, E 16, E 17, E 18]))], [(Z 15, .inl (cB, 16000, .inl ty5))]]) (r := []) (cs2 := [[(Z 0, .inr (8, [E 0, E 1, E 2, E 3, E 4, E 5, .ref (Z 15), .int (nI T5.length), .int (nI fed), E 9, E 10, E 11, E 12, E 13, E 14, E 15, E 16, E 17, E 18]))], [(Z 15, .inl (cB, 16000, .inl ty5))]]) rfl ?_
      refine jJ_eq (g2 := F0 m 54 ls []) (cs2 := [[(Z 0, .inr (8, [E 0, E 1, E 2, E 3, E 4, E 5, .ref (Z 15), .int (nI T5.length), .int (nI fed), E 9, E 10, E 11, E 12, E 13, E 14, E 15, E 16, E 17, E 18]))], [(Z 15, .inl (cB, 16000, .inl ty5))]]) rfl rfl ?_
      refine jJ_of (fun H locs => lv_aload_n hx hb dX10_feed_54 rfl (lv_at hl 0 rfl)) ?_
      refine jJ_of (fun H locs => lv_dup hx hb dX10_feed_55 rfl) ?_
      refine jJ_get hx hb (C := RX10) (T := TX10) (N := 19) hts uX10_in_X10_feed hown hK 0 rfl rfl 8 (by decide) (hts (.fieldLink RX10 45 "ValueBlocksModel" "fed" "I") (by decide +kernel)) (fun _ h9 => h9) rfl dX10_feed_56 ?_
      refine jJ_of (fun H locs => lv_bipush (v := (nI 20)) hx hb dX10_feed_59 (by decide)) ?_
      refine jJ_of (fun H locs => jn_iadd hx hb dX10_feed_61) ?_
      refine jJ_put hx hb (C := RX10) (T := TX10) (N := 19) (ty := .int) (v := .int (nI (fed + 20))) hts uX10_in_X10_feed tyX10 tyX10_ok nmX10 hown hK 0 rfl rfl 8 (by decide) (hts (.fieldLink RX10 45 "ValueBlocksModel" "fed" "I") (by decide +kernel)) (fun _ h9 => h9) rfl (by decide +kernel) rfl rfl (Nat.le_of_ble_eq_true rfl) dX10_feed_62 (cs2 := [[(Z 0, .inr (8, [E 0, E 1, E 2, E 3, E 4, E 5, .ref (Z 15), .int (nI T5.length), .int (nI (fed + 20)), E 9, E 10, E 11, E 12, E 13, E 14, E 15, E 16, E 17, E 18]))], [(Z 15, .inl (cB, 16000, .inl ty5))]]) rfl ?_
      refine jJ_of (fun H locs => lv_aload_n hx hb dX10_feed_65 rfl (lv_at hl 0 rfl)) ?_
      refine jJ_get hx hb (C := RX10) (T := TX10) (N := 19) hts uX10_in_X10_feed hown hK 0 rfl rfl 7 (by decide) (hts (.fieldLink RX10 42 "ValueBlocksModel" "trayed" "I") (by decide +kernel)) (fun _ h9 => h9) rfl dX10_feed_66 ?_
      have he : vFeed T fed fa fb fc fd fe = (((T.length + 20 : Nat) : Int), T5, fed + 20) := by
        unfold vFeed
        rw [if_neg (by omega), hTe1, hTe2, hTe3, hTe4, hTe5]
      exact jJ_iret hx hb hr hlocks dX10_feed_69 (by show _ ≤ 0; omega) (by show _ ≤ 0; omega) ⟨by rw [he, ← nI_iI, show T.length + 20 = T5.length by omega], ⟨ty5, by rw [he]; exact hY5, by rw [he]; rfl⟩, rfl, rfl⟩
    · refine jJ_of (fun H locs => lv_iconst (v := (iI (-1))) hx hb dX10_feed_25 (by decide)) ?_
      have he : vFeed T fed fa fb fc fd fe = (-1, T, fed) := if_pos (by omega)
      exact jJ_iret hx hb hr hlocks dX10_feed_26 (by show _ ≤ 0; omega) (by show _ ≤ 0; omega) ⟨by rw [he], ⟨ty, by rw [he]; exact hY, by rw [he]; rfl⟩, rfl, rfl⟩
theorem uX10_in_X10_end : ∀ w ∈ u_ws RX10 TX10 19, w ∈ wsX10_end := by decide +kernel
set_option maxHeartbeats 4000000 in
set_option maxRecDepth 100000 in
/-- end(j) -/
theorem c_Md_end {Z : Nat → Nat} {E : Nat → Value} {T : List Nat} (hT : T.length ≤ 16000) (j : Int) (hj : -2147483648 ≤ j ∧ j < 2147483648) : HM l yX10_end wsX10_end ({ frames := 0, cells := 0, slots := 0, locals := 0 } : Room) D G (jT cI cJ cB cZ) [.ref (Z 0), .int (iI j)] (jF [[(Z 0, .inr (8, [E 0, E 1, E 2, E 3, E 4, E 5, E 6, .int (nI T.length), E 8, E 9, E 10, E 11, E 12, E 13, E 14, E 15, E 16, E 17, E 18]))]]) (fun v u k n => v = some (.int (iI (vEnd T j).1)) ∧ u = jF [[(Z 0, .inr (8, [E 0, E 1, E 2, E 3, E 4, E 5, E 6, .int (nI (vEnd T j).2.length), E 8, E 9, E 10, E 11, E 12, E 13, E 14, E 15, E 16, E 17, E 18]))]] ∧ k = 0 ∧ n = 0) := by
  refine HM_of (cc := cX10_end) (maxL := 2) (ret := (some .int)) (lv := [(0, .ref (Z 0)), (1, .int (iI j))]) (by decide) rfl rfl (Nat.le_of_ble_eq_true rfl) (fun p e s m args below meth c A0 ls hx hb hr hts hown hlocks hml hnm hK hA hAm hl => ?_)
  refine jJ_open (xs := [[(Z 0, .inr (8, [E 0, E 1, E 2, E 3, E 4, E 5, E 6, .int (nI T.length), E 8, E 9, E 10, E 11, E 12, E 13, E 14, E 15, E 16, E 17, E 18]))]]) (r := []) (cs2 := [[(Z 0, .inr (8, [E 0, E 1, E 2, E 3, E 4, E 5, E 6, .int (nI T.length), E 8, E 9, E 10, E 11, E 12, E 13, E 14, E 15, E 16, E 17, E 18]))]]) rfl ?_
  refine jJ_of (fun H locs => lv_iload_n hx hb dX10_end_0 rfl (lv_at hl 1 rfl)) ?_
  refine jJ_of2 (fun H locs => jz_if_lt (tgt := 12) hx hb dX10_end_1 (by decide) (by omega) (by omega)) (fun c1 => ?_) (fun c1 => ?_)
  · refine jJ_of (fun H locs => lv_iconst (v := (iI (-1))) hx hb dX10_end_12 (by decide)) ?_
    have he : vEnd T j = (-1, T) := if_pos (by omega)
    exact jJ_iret hx hb hr hlocks dX10_end_13 (by show _ ≤ 0; omega) (by show _ ≤ 0; omega) ⟨by rw [he], by first | (rw [he]; done) | (rw [he]; show jF _ = jF _; rw [← nI_iI]), rfl, rfl⟩
  · refine jJ_of (fun H locs => lv_iload_n hx hb dX10_end_4 rfl (lv_at hl 1 rfl)) ?_
    refine jJ_of (fun H locs => lv_aload_n hx hb dX10_end_5 rfl (lv_at hl 0 rfl)) ?_
    refine jJ_get hx hb (C := RX10) (T := TX10) (N := 19) hts uX10_in_X10_end hown hK 0 rfl rfl 7 (by decide) (hts (.fieldLink RX10 42 "ValueBlocksModel" "trayed" "I") (by decide +kernel)) (fun _ h9 => h9) rfl dX10_end_6 ?_
    rw [nI_iI T.length]
    refine jJ_of2 (fun H locs => jz_icmp_le (tgt := 14) hx hb dX10_end_9 (by decide) (by omega) (by omega) (by omega) (by omega)) (fun c9 => ?_) (fun c9 => ?_)
    · refine jJ_of (fun H locs => lv_aload_n hx hb dX10_end_14 rfl (lv_at hl 0 rfl)) ?_
      refine jJ_of (fun H locs => lv_iload_n hx hb dX10_end_15 rfl (lv_at hl 1 rfl)) ?_
      have hjn : iI j = nI j.toNat := by rw [nI_iI, Int.toNat_of_nonneg (by omega)]
      rw [hjn]
      refine jJ_eq (g2 := F0 m 16 ls [.int (nI j.toNat), .ref (Z 0)]) (cs2 := [[(Z 0, .inr (8, [E 0, E 1, E 2, E 3, E 4, E 5, E 6, .int (nI T.length), E 8, E 9, E 10, E 11, E 12, E 13, E 14, E 15, E 16, E 17, E 18]))]]) rfl rfl ?_
      refine jJ_put hx hb (C := RX10) (T := TX10) (N := 19) (ty := .int) (v := .int (nI j.toNat)) hts uX10_in_X10_end tyX10 tyX10_ok nmX10 hown hK 0 rfl rfl 7 (by decide) (hts (.fieldLink RX10 42 "ValueBlocksModel" "trayed" "I") (by decide +kernel)) (fun _ h9 => h9) rfl (by decide +kernel) rfl rfl (Nat.le_of_ble_eq_true rfl) dX10_end_16 (cs2 := [[(Z 0, .inr (8, [E 0, E 1, E 2, E 3, E 4, E 5, E 6, .int (nI j.toNat), E 8, E 9, E 10, E 11, E 12, E 13, E 14, E 15, E 16, E 17, E 18]))]]) rfl ?_
      refine jJ_of (fun H locs => lv_iload_n hx hb dX10_end_19 rfl (lv_at hl 1 rfl)) ?_
      have he : vEnd T j = (j, T.take j.toNat) := if_neg (by omega)
      have hl2 : (T.take j.toNat).length = j.toNat := by rw [List.length_take]; omega
      exact jJ_iret hx hb hr hlocks dX10_end_20 (by show _ ≤ 0; omega) (by show _ ≤ 0; omega) ⟨by rw [he], by rw [he]; show _ = jF _; rw [hl2], rfl, rfl⟩
    · refine jJ_of (fun H locs => lv_iconst (v := (iI (-1))) hx hb dX10_end_12 (by decide)) ?_
      have he : vEnd T j = (-1, T) := if_pos (by omega)
      exact jJ_iret hx hb hr hlocks dX10_end_13 (by show _ ≤ 0; omega) (by show _ ≤ 0; omega) ⟨by rw [he], by first | (rw [he]; done) | (rw [he]; show jF _ = jF _; rw [← nI_iI]), rfl, rfl⟩
theorem uX10_in_X10_place : ∀ w ∈ u_ws RX10 TX10 19, w ∈ wsX10_place := by decide +kernel
set_option maxHeartbeats 4000000 in
set_option maxRecDepth 100000 in
/-- X10_place -/
theorem c_Md_place {Z : Nat → Nat} {E : Nat → Value} (pl : Int) : HM l yX10_place wsX10_place ({ frames := 0, cells := 0, slots := 0, locals := 0 } : Room) D G (jT cI cJ cB cZ) [.ref (Z 0)] (jF [[(Z 0, .inr (8, [E 0, E 1, E 2, E 3, E 4, E 5, E 6, E 7, E 8, E 9, E 10, E 11, .int (iI pl), E 13, E 14, E 15, E 16, E 17, E 18]))]]) (fun v u k n => v = some (.int (iI pl)) ∧ u = jF [[(Z 0, .inr (8, [E 0, E 1, E 2, E 3, E 4, E 5, E 6, E 7, E 8, E 9, E 10, E 11, .int (iI pl), E 13, E 14, E 15, E 16, E 17, E 18]))]] ∧ k = 0 ∧ n = 0) := by
  refine HM_of (cc := cX10_place) (maxL := 1) (ret := (some .int)) (lv := [(0, .ref (Z 0))]) (by decide) rfl rfl (Nat.le_of_ble_eq_true rfl) (fun p e s m args below meth c A0 ls hx hb hr hts hown hlocks hml hnm hK hA hAm hl => ?_)
  refine jJ_open (xs := [[(Z 0, .inr (8, [E 0, E 1, E 2, E 3, E 4, E 5, E 6, E 7, E 8, E 9, E 10, E 11, .int (iI pl), E 13, E 14, E 15, E 16, E 17, E 18]))]]) (r := []) (cs2 := [[(Z 0, .inr (8, [E 0, E 1, E 2, E 3, E 4, E 5, E 6, E 7, E 8, E 9, E 10, E 11, .int (iI pl), E 13, E 14, E 15, E 16, E 17, E 18]))]]) rfl ?_
  refine jJ_of (fun H locs => lv_aload_n hx hb dX10_place_0 rfl (lv_at hl 0 rfl)) ?_
  refine jJ_get hx hb (C := RX10) (T := TX10) (N := 19) hts uX10_in_X10_place hown hK 0 rfl rfl 12 (by decide) (hts (.fieldLink RX10 30 "ValueBlocksModel" "place" "I") (by decide +kernel)) (fun _ h9 => h9) rfl dX10_place_1 ?_
  exact jJ_iret hx hb hr hlocks dX10_place_4 (by show _ ≤ 0; omega) (by show _ ≤ 0; omega) ⟨rfl, rfl, rfl, rfl⟩
theorem uX10_in_X10_line : ∀ w ∈ u_ws RX10 TX10 19, w ∈ wsX10_line := by decide +kernel
set_option maxHeartbeats 4000000 in
set_option maxRecDepth 100000 in
/-- X10_line -/
theorem c_Md_line {Z : Nat → Nat} {E : Nat → Value} (an : Nat) : HM l yX10_line wsX10_line ({ frames := 0, cells := 0, slots := 0, locals := 0 } : Room) D G (jT cI cJ cB cZ) [.ref (Z 0)] (jF [[(Z 0, .inr (8, [E 0, E 1, E 2, E 3, E 4, E 5, E 6, E 7, E 8, E 9, E 10, E 11, E 12, E 13, E 14, E 15, E 16, E 17, .int (nI an)]))]]) (fun v u k n => v = some (.int (nI an)) ∧ u = jF [[(Z 0, .inr (8, [E 0, E 1, E 2, E 3, E 4, E 5, E 6, E 7, E 8, E 9, E 10, E 11, E 12, E 13, E 14, E 15, E 16, E 17, .int (nI an)]))]] ∧ k = 0 ∧ n = 0) := by
  refine HM_of (cc := cX10_line) (maxL := 1) (ret := (some .int)) (lv := [(0, .ref (Z 0))]) (by decide) rfl rfl (Nat.le_of_ble_eq_true rfl) (fun p e s m args below meth c A0 ls hx hb hr hts hown hlocks hml hnm hK hA hAm hl => ?_)
  refine jJ_open (xs := [[(Z 0, .inr (8, [E 0, E 1, E 2, E 3, E 4, E 5, E 6, E 7, E 8, E 9, E 10, E 11, E 12, E 13, E 14, E 15, E 16, E 17, .int (nI an)]))]]) (r := []) (cs2 := [[(Z 0, .inr (8, [E 0, E 1, E 2, E 3, E 4, E 5, E 6, E 7, E 8, E 9, E 10, E 11, E 12, E 13, E 14, E 15, E 16, E 17, .int (nI an)]))]]) rfl ?_
  refine jJ_of (fun H locs => lv_aload_n hx hb dX10_line_0 rfl (lv_at hl 0 rfl)) ?_
  refine jJ_get hx hb (C := RX10) (T := TX10) (N := 19) hts uX10_in_X10_line hown hK 0 rfl rfl 18 (by decide) (hts (.fieldLink RX10 303 "ValueBlocksModel" "alarmLine" "I") (by decide +kernel)) (fun _ h9 => h9) rfl dX10_line_1 ?_
  exact jJ_iret hx hb hr hlocks dX10_line_4 (by show _ ≤ 0; omega) (by show _ ≤ 0; omega) ⟨rfl, rfl, rfl, rfl⟩
theorem uX10_in_X10_steps : ∀ w ∈ u_ws RX10 TX10 19, w ∈ wsX10_steps := by decide +kernel
set_option maxHeartbeats 4000000 in
set_option maxRecDepth 100000 in
/-- X10_steps -/
theorem c_Md_steps {Z : Nat → Nat} {E : Nat → Value} (sp : Nat) : HM l yX10_steps wsX10_steps ({ frames := 0, cells := 0, slots := 0, locals := 0 } : Room) D G (jT cI cJ cB cZ) [.ref (Z 0)] (jF [[(Z 0, .inr (8, [E 0, E 1, E 2, E 3, E 4, E 5, E 6, E 7, E 8, E 9, E 10, E 11, E 12, E 13, E 14, E 15, E 16, .int (nI sp), E 18]))]]) (fun v u k n => v = some (.int (nI sp)) ∧ u = jF [[(Z 0, .inr (8, [E 0, E 1, E 2, E 3, E 4, E 5, E 6, E 7, E 8, E 9, E 10, E 11, E 12, E 13, E 14, E 15, E 16, .int (nI sp), E 18]))]] ∧ k = 0 ∧ n = 0) := by
  refine HM_of (cc := cX10_steps) (maxL := 1) (ret := (some .int)) (lv := [(0, .ref (Z 0))]) (by decide) rfl rfl (Nat.le_of_ble_eq_true rfl) (fun p e s m args below meth c A0 ls hx hb hr hts hown hlocks hml hnm hK hA hAm hl => ?_)
  refine jJ_open (xs := [[(Z 0, .inr (8, [E 0, E 1, E 2, E 3, E 4, E 5, E 6, E 7, E 8, E 9, E 10, E 11, E 12, E 13, E 14, E 15, E 16, .int (nI sp), E 18]))]]) (r := []) (cs2 := [[(Z 0, .inr (8, [E 0, E 1, E 2, E 3, E 4, E 5, E 6, E 7, E 8, E 9, E 10, E 11, E 12, E 13, E 14, E 15, E 16, .int (nI sp), E 18]))]]) rfl ?_
  refine jJ_of (fun H locs => lv_aload_n hx hb dX10_steps_0 rfl (lv_at hl 0 rfl)) ?_
  refine jJ_get hx hb (C := RX10) (T := TX10) (N := 19) hts uX10_in_X10_steps hown hK 0 rfl rfl 17 (by decide) (hts (.fieldLink RX10 300 "ValueBlocksModel" "stepsDone" "I") (by decide +kernel)) (fun _ h9 => h9) rfl dX10_steps_1 ?_
  exact jJ_iret hx hb hr hlocks dX10_steps_4 (by show _ ≤ 0; omega) (by show _ ≤ 0; omega) ⟨rfl, rfl, rfl, rfl⟩
def vaW (cJ : ClassId) (Z : Nat → Nat) (E : Nat → Value) (vv : Nat → Int64) : List va_W := [[(Z 0, .inr (8, [E 0, E 1, E 2, E 3, E 4, E 5, E 6, E 7, E 8, E 9, E 10, E 11, E 12, E 13, E 14, .ref (Z 7), E 16, E 17, E 18]))], [(Z 7, .inl (cJ, 200, .inr (.inl vv)))]]
theorem uX10_in_X10_variable : ∀ w ∈ u_ws RX10 TX10 19, w ∈ wsX10_variable := by decide +kernel
set_option maxHeartbeats 4000000 in
set_option maxRecDepth 100000 in
/-- variable(j) -/
theorem c_Md_variable {Z : Nat → Nat} {E : Nat → Value} {vv : Nat → Int64} {vs : Nat → Int} (hvv : ∀ i, i < 200 → vv i = lI (vs i)) (j : Int) (hj : -2147483648 ≤ j ∧ j < 2147483648) : HM l yX10_variable wsX10_variable ({ frames := 0, cells := 0, slots := 0, locals := 0 } : Room) D G (jT cI cJ cB cZ) [.ref (Z 0), .int (iI j)] (jF (vaW cJ Z E vv)) (fun v u k n => v = some (.long (lI (mGet vs j))) ∧ u = jF (vaW cJ Z E vv) ∧ k = 0 ∧ n = 0) := by
  refine HM_of (cc := cX10_variable) (maxL := 2) (ret := (some .long)) (lv := [(0, .ref (Z 0)), (1, .int (iI j))]) (by decide) rfl rfl (Nat.le_of_ble_eq_true rfl) (fun p e s m args below meth c A0 ls hx hb hr hts hown hlocks hml hnm hK hA hAm hl => ?_)
  refine jJ_open (xs := [[(Z 0, .inr (8, [E 0, E 1, E 2, E 3, E 4, E 5, E 6, E 7, E 8, E 9, E 10, E 11, E 12, E 13, E 14, .ref (Z 7), E 16, E 17, E 18]))], [(Z 7, .inl (cJ, 200, .inr (.inl vv)))]]) (r := []) (cs2 := [[(Z 0, .inr (8, [E 0, E 1, E 2, E 3, E 4, E 5, E 6, E 7, E 8, E 9, E 10, E 11, E 12, E 13, E 14, .ref (Z 7), E 16, E 17, E 18]))], [(Z 7, .inl (cJ, 200, .inr (.inl vv)))]]) rfl ?_
  refine jJ_of (fun H locs => lv_iload_n hx hb dX10_variable_0 rfl (lv_at hl 1 rfl)) ?_
  refine jJ_of (fun H locs => lv_iconst (v := (nI 1)) hx hb dX10_variable_1 (by decide)) ?_
  rw [nI_iI 1]
  refine jJ_eq (g2 := F0 m 2 ls [.int (iI 1), .int (iI j)]) (cs2 := [[(Z 0, .inr (8, [E 0, E 1, E 2, E 3, E 4, E 5, E 6, E 7, E 8, E 9, E 10, E 11, E 12, E 13, E 14, .ref (Z 7), E 16, E 17, E 18]))], [(Z 7, .inl (cJ, 200, .inr (.inl vv)))]]) rfl rfl ?_
  refine jJ_of2 (fun H locs => jz_icmp_lt (tgt := 21) hx hb dX10_variable_2 (by decide) (by omega) (by omega) (by omega) (by omega)) (fun c2 => ?_) (fun c2 => ?_)
  · refine jJ_of (fun H locs => jn_lconst (v := 0) hx hb dX10_variable_21 rfl) ?_
    have he : mGet vs j = 0 := if_neg (fun q => by have := of_decide_eq_true q; omega)
    exact jJ_lret hx hb hr hlocks dX10_variable_22 (by show _ ≤ 0; omega) (by show _ ≤ 0; omega) ⟨by rw [he], rfl, rfl, rfl⟩
  · refine jJ_of (fun H locs => lv_iload_n hx hb dX10_variable_5 rfl (lv_at hl 1 rfl)) ?_
    refine jJ_of (fun H locs => lv_sipush (v := (nI 199)) hx hb dX10_variable_6 (by decide)) ?_
    rw [nI_iI 199]
    refine jJ_eq (g2 := F0 m 9 ls [.int (iI 199), .int (iI j)]) (cs2 := [[(Z 0, .inr (8, [E 0, E 1, E 2, E 3, E 4, E 5, E 6, E 7, E 8, E 9, E 10, E 11, E 12, E 13, E 14, .ref (Z 7), E 16, E 17, E 18]))], [(Z 7, .inl (cJ, 200, .inr (.inl vv)))]]) rfl rfl ?_
    refine jJ_of2 (fun H locs => jz_icmp_gt (tgt := 21) hx hb dX10_variable_9 (by decide) (by omega) (by omega) (by omega) (by omega)) (fun c9 => ?_) (fun c9 => ?_)
    · refine jJ_of (fun H locs => jn_lconst (v := 0) hx hb dX10_variable_21 rfl) ?_
      have he : mGet vs j = 0 := if_neg (fun q => by have := of_decide_eq_true q; omega)
      exact jJ_lret hx hb hr hlocks dX10_variable_22 (by show _ ≤ 0; omega) (by show _ ≤ 0; omega) ⟨by rw [he], rfl, rfl, rfl⟩
    · refine jJ_of (fun H locs => lv_aload_n hx hb dX10_variable_12 rfl (lv_at hl 0 rfl)) ?_
      refine jJ_get hx hb (C := RX10) (T := TX10) (N := 19) hts uX10_in_X10_variable hown hK 0 rfl rfl 15 (by decide) (hts (.fieldLink RX10 38 "ValueBlocksModel" "variables" "[J") (by decide +kernel)) (fun _ h9 => h9) rfl dX10_variable_13 ?_
      refine jJ_of (fun H locs => lv_iload_n hx hb dX10_variable_16 rfl (lv_at hl 1 rfl)) ?_
      refine jJ_lald hx hb hK 1 1 (f := vv) rfl rfl (vp_in_iI (by omega) (by omega) (by omega)) (x := (lI (vs j.toNat))) (by rw [iI_toNatC (by omega) (by omega)]; exact hvv _ (by omega)) dX10_variable_17 ?_
      refine jJ_of (fun H locs => lv_goto (tgt := 22) hx hb dX10_variable_18 (by decide)) ?_
      have he : mGet vs j = vs j.toNat := if_pos (decide_eq_true (by omega))
      exact jJ_lret hx hb hr hlocks dX10_variable_22 (by show _ ≤ 0; omega) (by show _ ≤ 0; omega) ⟨by rw [he], rfl, rfl, rfl⟩
theorem uX10_in_X10_put : ∀ w ∈ u_ws RX10 TX10 19, w ∈ wsX10_put := by decide +kernel
set_option maxHeartbeats 4000000 in
set_option maxRecDepth 100000 in
/-- put(j, z) -/
theorem c_Md_put {Z : Nat → Nat} {E : Nat → Value} {vv : Nat → Int64} {vs : Nat → Int} (hvv : ∀ i, i < 200 → vv i = lI (vs i)) (j : Int) (hj : -2147483648 ≤ j ∧ j < 2147483648) (z : Int) (hz : -9223372036854775808 ≤ z ∧ z < 9223372036854775808) : HM l yX10_put wsX10_put ({ frames := 0, cells := 0, slots := 0, locals := 0 } : Room) D G (jT cI cJ cB cZ) [.ref (Z 0), .int (iI j), .long (lI z)] (jF (vaW cJ Z E vv)) (fun v u k n => v = some (.int (bI (isV j && !vTG z))) ∧ (∃ vv2 : Nat → Int64, (∀ i, i < 200 → vv2 i = lI (mSet vs j z i)) ∧ u = jF (vaW cJ Z E vv2)) ∧ k = 0 ∧ n = 0) := by
  refine HM_of (cc := cX10_put) (maxL := 4) (ret := (some .boolean)) (lv := [(0, .ref (Z 0)), (1, .int (iI j)), (2, .long (lI z))]) (by decide) rfl rfl (Nat.le_of_ble_eq_true rfl) (fun p e s m args below meth c A0 ls hx hb hr hts hown hlocks hml hnm hK hA hAm hl => ?_)
  refine jJ_open (xs := [[(Z 0, .inr (8, [E 0, E 1, E 2, E 3, E 4, E 5, E 6, E 7, E 8, E 9, E 10, E 11, E 12, E 13, E 14, .ref (Z 7), E 16, E 17, E 18]))], [(Z 7, .inl (cJ, 200, .inr (.inl vv)))]]) (r := []) (cs2 := [[(Z 0, .inr (8, [E 0, E 1, E 2, E 3, E 4, E 5, E 6, E 7, E 8, E 9, E 10, E 11, E 12, E 13, E 14, .ref (Z 7), E 16, E 17, E 18]))], [(Z 7, .inl (cJ, 200, .inr (.inl vv)))]]) rfl ?_
  refine jJ_of (fun H locs => lv_iload_n hx hb dX10_put_0 rfl (lv_at hl 1 rfl)) ?_
  refine jJ_of (fun H locs => lv_iconst (v := (nI 1)) hx hb dX10_put_1 (by decide)) ?_
  rw [nI_iI 1]
  refine jJ_eq (g2 := F0 m 2 ls [.int (iI 1), .int (iI j)]) (cs2 := [[(Z 0, .inr (8, [E 0, E 1, E 2, E 3, E 4, E 5, E 6, E 7, E 8, E 9, E 10, E 11, E 12, E 13, E 14, .ref (Z 7), E 16, E 17, E 18]))], [(Z 7, .inl (cJ, 200, .inr (.inl vv)))]]) rfl rfl ?_
  refine jJ_of2 (fun H locs => jz_icmp_lt (tgt := 28) hx hb dX10_put_2 (by decide) (by omega) (by omega) (by omega) (by omega)) (fun c2 => ?_) (fun c2 => ?_)
  · refine jJ_of (fun H locs => lv_iconst (v := (nI 0)) hx hb dX10_put_28 (by decide)) ?_
    have hno : ¬ (isV j = true ∧ vTG z = false) := fun q => by have h1 := of_decide_eq_true q.1; have h2 := of_decide_eq_false q.2; omega
    have he : mSet vs j z = vs := if_neg hno
    have hb2 : (isV j && !vTG z) = false := by cases h1 : isV j <;> cases h2 : vTG z <;> first | rfl | exact absurd ⟨h1, h2⟩ hno
    exact jJ_zret hx hb hr hlocks dX10_put_29 (by show _ ≤ 0; omega) (by show _ ≤ 0; omega) (Or.inl rfl) ⟨by rw [hb2]; rfl, ⟨vv, by rw [he]; exact hvv, rfl⟩, rfl, rfl⟩
  · refine jJ_of (fun H locs => lv_iload_n hx hb dX10_put_5 rfl (lv_at hl 1 rfl)) ?_
    refine jJ_of (fun H locs => lv_sipush (v := (nI 199)) hx hb dX10_put_6 (by decide)) ?_
    rw [nI_iI 199]
    refine jJ_eq (g2 := F0 m 9 ls [.int (iI 199), .int (iI j)]) (cs2 := [[(Z 0, .inr (8, [E 0, E 1, E 2, E 3, E 4, E 5, E 6, E 7, E 8, E 9, E 10, E 11, E 12, E 13, E 14, .ref (Z 7), E 16, E 17, E 18]))], [(Z 7, .inl (cJ, 200, .inr (.inl vv)))]]) rfl rfl ?_
    refine jJ_of2 (fun H locs => jz_icmp_gt (tgt := 28) hx hb dX10_put_9 (by decide) (by omega) (by omega) (by omega) (by omega)) (fun c9 => ?_) (fun c9 => ?_)
    · refine jJ_of (fun H locs => lv_iconst (v := (nI 0)) hx hb dX10_put_28 (by decide)) ?_
      have hno : ¬ (isV j = true ∧ vTG z = false) := fun q => by have h1 := of_decide_eq_true q.1; have h2 := of_decide_eq_false q.2; omega
      have he : mSet vs j z = vs := if_neg hno
      have hb2 : (isV j && !vTG z) = false := by cases h1 : isV j <;> cases h2 : vTG z <;> first | rfl | exact absurd ⟨h1, h2⟩ hno
      exact jJ_zret hx hb hr hlocks dX10_put_29 (by show _ ≤ 0; omega) (by show _ ≤ 0; omega) (Or.inl rfl) ⟨by rw [hb2]; rfl, ⟨vv, by rw [he]; exact hvv, rfl⟩, rfl, rfl⟩
    · refine jJ_of (fun H locs => lv_lload_n hx hb dX10_put_12 rfl (lv_at hl 2 rfl)) ?_
      refine jJ_of (fun H locs => lv_ldc2 (v := (lI 1000000000000)) hx hb hown (by rw [show (lI 1000000000000) = (1000000000000 : Int64) from by decide]; exact (hts (.constantLong RX10 250 (1000000000000)) (by decide +kernel))) dX10_put_13) ?_
      refine jJ_of (fun H locs => W.lcmp hx hb dX10_put_16) ?_
      refine jJ_of2 (fun H locs => jl_if_gt (tgt := 28) hx hb dX10_put_17 (by decide) (by omega) (by omega) (by omega) (by omega)) (fun c17 => ?_) (fun c17 => ?_)
      · refine jJ_of (fun H locs => lv_iconst (v := (nI 0)) hx hb dX10_put_28 (by decide)) ?_
        have hno : ¬ (isV j = true ∧ vTG z = false) := fun q => by have h1 := of_decide_eq_true q.1; have h2 := of_decide_eq_false q.2; omega
        have he : mSet vs j z = vs := if_neg hno
        have hb2 : (isV j && !vTG z) = false := by cases h1 : isV j <;> cases h2 : vTG z <;> first | rfl | exact absurd ⟨h1, h2⟩ hno
        exact jJ_zret hx hb hr hlocks dX10_put_29 (by show _ ≤ 0; omega) (by show _ ≤ 0; omega) (Or.inl rfl) ⟨by rw [hb2]; rfl, ⟨vv, by rw [he]; exact hvv, rfl⟩, rfl, rfl⟩
      · refine jJ_of (fun H locs => lv_lload_n hx hb dX10_put_20 rfl (lv_at hl 2 rfl)) ?_
        refine jJ_of (fun H locs => lv_ldc2 (v := (lI (-1000000000000))) hx hb hown (by rw [show (lI (-1000000000000)) = (-1000000000000 : Int64) from by decide]; exact (hts (.constantLong RX10 252 (-1000000000000)) (by decide +kernel))) dX10_put_21) ?_
        refine jJ_of (fun H locs => W.lcmp hx hb dX10_put_24) ?_
        refine jJ_of2 (fun H locs => jl_if_ge (tgt := 30) hx hb dX10_put_25 (by decide) (by omega) (by omega) (by omega) (by omega)) (fun c25 => ?_) (fun c25 => ?_)
        · refine jJ_of (fun H locs => lv_aload_n hx hb dX10_put_30 rfl (lv_at hl 0 rfl)) ?_
          refine jJ_get hx hb (C := RX10) (T := TX10) (N := 19) hts uX10_in_X10_put hown hK 0 rfl rfl 15 (by decide) (hts (.fieldLink RX10 38 "ValueBlocksModel" "variables" "[J") (by decide +kernel)) (fun _ h9 => h9) rfl dX10_put_31 ?_
          refine jJ_of (fun H locs => lv_iload_n hx hb dX10_put_34 rfl (lv_at hl 1 rfl)) ?_
          refine jJ_of (fun H locs => lv_lload_n hx hb dX10_put_35 rfl (lv_at hl 2 rfl)) ?_
          refine jJ_last hx hb hK 1 1 rfl rfl (vp_in_iI (by omega) (by omega) (by omega)) dX10_put_36 (cs2 := [[(Z 0, .inr (8, [E 0, E 1, E 2, E 3, E 4, E 5, E 6, E 7, E 8, E 9, E 10, E 11, E 12, E 13, E 14, .ref (Z 7), E 16, E 17, E 18]))], [(Z 7, .inl (cJ, 200, .inr (.inl (vp_updL vv (Int32.toNatClampNeg (iI j)) (lI z)))))]]) rfl ?_
          refine jJ_of (fun H locs => lv_iconst (v := (nI 1)) hx hb dX10_put_37 (by decide)) ?_
          have h1 : isV j = true := decide_eq_true (by omega)
          have h2 : vTG z = false := decide_eq_false (by omega)
          have he : mSet vs j z = va_up vs j.toNat z := if_pos ⟨h1, h2⟩
          have hv9 : ∀ i, i < 200 → (vp_updL vv (Int32.toNatClampNeg (iI j)) (lI z)) i = lI (mSet vs j z i) := by
            intro i hi
            rw [he]
            show vp_updL vv _ _ i = lI (va_up vs _ _ i)
            rw [iI_toNatC (by omega) (by omega)]
            show (if i = _ then _ else _) = lI (if i = _ then _ else _)
            split
            · rfl
            · exact hvv i hi
          exact jJ_zret hx hb hr hlocks dX10_put_38 (by show _ ≤ 0; omega) (by show _ ≤ 0; omega) (Or.inr rfl) ⟨by rw [h1, h2]; rfl, ⟨_, hv9, rfl⟩, rfl, rfl⟩
        · refine jJ_of (fun H locs => lv_iconst (v := (nI 0)) hx hb dX10_put_28 (by decide)) ?_
          have hno : ¬ (isV j = true ∧ vTG z = false) := fun q => by have h1 := of_decide_eq_true q.1; have h2 := of_decide_eq_false q.2; omega
          have he : mSet vs j z = vs := if_neg hno
          have hb2 : (isV j && !vTG z) = false := by cases h1 : isV j <;> cases h2 : vTG z <;> first | rfl | exact absurd ⟨h1, h2⟩ hno
          exact jJ_zret hx hb hr hlocks dX10_put_29 (by show _ ≤ 0; omega) (by show _ ≤ 0; omega) (Or.inl rfl) ⟨by rw [hb2]; rfl, ⟨vv, by rw [he]; exact hvv, rfl⟩, rfl, rfl⟩
set_option maxHeartbeats 4000000 in
set_option maxRecDepth 100000 in
/-- run(fuel): none -/
theorem c_Md_run0 {Z : Nat → Nat} {E : Nat → Value} {hasT : Bool} (j : Int) (hj : -2147483648 ≤ j ∧ j < 2147483648) (hno : hasT = false ∨ j < 0 ∨ 30000 < j) : HM l yX10_run wsX10_run ({ frames := 173, cells := 0, slots := 0, locals := 7260 } : Room) D G (jT cI cJ cB cZ) [.ref (Z 0), .int (iI j)] (jF [[(Z 0, .inr (8, [E 0, E 1, .int (bI hasT), E 3, E 4, E 5, E 6, E 7, E 8, E 9, E 10, E 11, E 12, E 13, E 14, E 15, E 16, E 17, E 18]))]]) (fun v u k n => v = some (.int (iI (-1))) ∧ u = jF [[(Z 0, .inr (8, [E 0, E 1, .int (bI hasT), E 3, E 4, E 5, E 6, E 7, E 8, E 9, E 10, E 11, E 12, E 13, E 14, E 15, E 16, E 17, E 18]))]] ∧ k = 0 ∧ n = 0) := by
  refine HM_ofT (cc := cX10_run) (maxL := 4) (ret := (some .int)) (hh := [(40, 92, 95, 23)]) (lv := [(0, .ref (Z 0)), (1, .int (iI j))]) (by decide) rfl rfl (Nat.le_of_ble_eq_true rfl) (fun p e s m args below meth c A0 ls hx hb hr hts hown hlocks hml htab hK hA hAm hl => ?_)
  refine jJ_open (xs := [[(Z 0, .inr (8, [E 0, E 1, .int (bI hasT), E 3, E 4, E 5, E 6, E 7, E 8, E 9, E 10, E 11, E 12, E 13, E 14, E 15, E 16, E 17, E 18]))]]) (r := []) (cs2 := [[(Z 0, .inr (8, [E 0, E 1, .int (bI hasT), E 3, E 4, E 5, E 6, E 7, E 8, E 9, E 10, E 11, E 12, E 13, E 14, E 15, E 16, E 17, E 18]))]]) rfl ?_
  refine jJ_of (fun H locs => lv_aload_n hx hb dX10_run_0 rfl (lv_at hl 0 rfl)) ?_
  refine jJ_get hx hb (C := RX10) (T := TX10) (N := 19) hts uX10_in_X10_run hown hK 0 rfl rfl 2 (by decide) (hts (.fieldLink RX10 239 "ValueBlocksModel" "hasText" "Z") (by decide +kernel)) (fun _ h9 => h9) rfl dX10_run_1 ?_
  refine jJ_of2 (fun H locs => jb_if_eq (tgt := 18) hx hb dX10_run_4 (by decide)) (fun c4 => ?_) (fun c4 => ?_)
  · refine jJ_of (fun H locs => lv_iconst (v := (iI (-1))) hx hb dX10_run_18 (by decide)) ?_
    exact jJ_iret hx hb hr hlocks dX10_run_19 (by show _ ≤ 0; omega) (by show _ ≤ 0; omega) ⟨rfl, rfl, rfl, rfl⟩
  · refine jJ_of (fun H locs => lv_iload_n hx hb dX10_run_7 rfl (lv_at hl 1 rfl)) ?_
    refine jJ_of2 (fun H locs => jz_if_lt (tgt := 18) hx hb dX10_run_8 (by decide) (by omega) (by omega)) (fun c8 => ?_) (fun c8 => ?_)
    · refine jJ_of (fun H locs => lv_iconst (v := (iI (-1))) hx hb dX10_run_18 (by decide)) ?_
      exact jJ_iret hx hb hr hlocks dX10_run_19 (by show _ ≤ 0; omega) (by show _ ≤ 0; omega) ⟨rfl, rfl, rfl, rfl⟩
    · refine jJ_of (fun H locs => lv_iload_n hx hb dX10_run_11 rfl (lv_at hl 1 rfl)) ?_
      refine jJ_of (fun H locs => lv_sipush (v := (nI 30000)) hx hb dX10_run_12 (by decide)) ?_
      rw [nI_iI 30000]
      refine jJ_eq (g2 := F0 m 15 ls [.int (iI 30000), .int (iI j)]) (cs2 := [[(Z 0, .inr (8, [E 0, E 1, .int (bI hasT), E 3, E 4, E 5, E 6, E 7, E 8, E 9, E 10, E 11, E 12, E 13, E 14, E 15, E 16, E 17, E 18]))]]) rfl rfl ?_
      refine jJ_of2 (fun H locs => jz_icmp_le (tgt := 20) hx hb dX10_run_15 (by decide) (by omega) (by omega) (by omega) (by omega)) (fun c15 => ?_) (fun c15 => ?_)
      · exfalso
        rcases hno with h | h | h
        · rw [h] at c4; exact absurd c4 (by decide)
        · omega
        · omega
      · refine jJ_of (fun H locs => lv_iconst (v := (iI (-1))) hx hb dX10_run_18 (by decide)) ?_
        exact jJ_iret hx hb hr hlocks dX10_run_19 (by show _ ≤ 0; omega) (by show _ ≤ 0; omega) ⟨rfl, rfl, rfl, rfl⟩
def blkW (cI cB cZ : ClassId) (b : Nat → Nat) (B : Nat → Int32) (V : Nat → Nat → Int32) (fi so : Nat → Nat) (lb pa jm : Nat → Int) (n tn ln : Nat) : List va_W :=
  [[(b 1, .inr (7, [.ref (b 8), .int (nI n), .ref (b 3), .ref (b 4), .ref (b 5), .ref (b 6), .int (nI tn), .ref (b 9), .ref (b 10), .ref (b 11), .ref (b 12), .ref (b 13), .int (nI ln)]))], [(b 8, .inl (cB, 16000, .inl B))], [(b 3, .inl (cB, 32008, .inl (V 0)))], [(b 4, .inl (cI, 32008, .inl (V 1)))], [(b 5, .inl (cI, 32008, .inl (V 2)))], [(b 6, .inl (cZ, 32008, .inl (V 3)))],
    [(b 9, .inl (cI, 16002, .inl (fun i => nI (fi i))))], [(b 10, .inl (cB, 16002, .inl (fun i => nI (so i))))], [(b 11, .inl (cI, 16002, .inl (fun i => iI (lb i))))], [(b 12, .inl (cI, 16002, .inl (fun i => iI (pa i))))], [(b 13, .inl (cI, 16002, .inl (fun i => iI (jm i))))]]
theorem uX9_in_X9_init : ∀ w ∈ u_ws RX9 TX9 13, w ∈ wsX9_init := by decide +kernel
set_option maxHeartbeats 4000000 in
set_option maxRecDepth 100000 in
/-- the text -/
theorem c_Tx_init {h : Nat} : HM l yX9_init wsX9_init ({ frames := 1, cells := 10, slots := 224042, locals := 40 } : Room) D G (jT cI cJ cB cZ) [.ref h] ([(h, .inr (7, [.null, .int (nI 0), .null, .null, .null, .null, .int (nI 0), .null, .null, .null, .null, .null, .int (nI 0)]))]) (fun v u k n => v = none ∧ (∃ b : Nat → Nat, u = jF (blkW cI cB cZ b (fun _ => 0) (fun _ _ => 0) (fun _ => 0) (fun _ => 0) (fun _ => 0) (fun _ => 0) (fun _ => 0) 0 0 0) ∧ b 1 = h) ∧ k ≤ 10 ∧ n ≤ 224042) := by
  refine HM_of (cc := cX9_init) (maxL := 1) (ret := none) (lv := [(0, .ref h)]) (by decide) rfl rfl (Nat.le_of_ble_eq_true rfl) (fun p e s m args below meth c A0 ls hx hb hr hts hown hlocks hml hnm hK hA hAm hl => ?_)
  refine jJ_open (xs := [[(h, .inr (7, [.null, .int (nI 0), .null, .null, .null, .null, .int (nI 0), .null, .null, .null, .null, .null, .int (nI 0)]))]]) (r := []) (cs2 := [[(h, .inr (7, [.null, .int (nI 0), .null, .null, .null, .null, .int (nI 0), .null, .null, .null, .null, .null, .int (nI 0)]))]]) rfl ?_
  refine jJ_of (fun H locs => lv_aload_n hx hb dX9_init_0 rfl (lv_at hl 0 rfl)) ?_
  refine jJ_of (g2 := F0 m 4 ls []) (fun H locs kk => W.objInit hx hb hown (hts (.methodLink RX9 3 objectInit) (by decide +kernel)) (hts (.instanceMethod objectInit) (by decide +kernel)) (hts (.code objectInit ⟨#[0xb1]⟩ 1 none) (List.mem_of_getElem? (i := 3) rfl)) rfl (by rw [hml]; exact hl.1) rfl dX9_init_1 (Nat.le_of_ble_eq_true rfl) (Nat.le_of_ble_eq_true rfl) (W.eq rfl kk)) ?_
  refine jJ_of (fun H locs => lv_aload_n hx hb dX9_init_4 rfl (lv_at hl 0 rfl)) ?_
  refine jJ_of (fun H locs => lv_sipush (v := (nI 16000)) hx hb dX9_init_5 (by decide)) ?_
  refine jJ_newa hx hb (atype := .byte) (hts (.arrayClass .byte) (by decide +kernel)) (ty := .byte) rfl hK hA 2 rfl (N' := 16000) (a0 := (16000, .inl (fun _ => 0))) (fun cA => by rw [vp_cell_i]; rfl) (by omega) (by decide) (by show _ + 1 ≤ 10; omega) (by show _ + 16000 ≤ 224042; omega) dX9_init_8 (fun q8 => ?_)
  refine jJ_eq (g2 := F0 m 10 ls [.ref q8, .ref h]) (cs2 := [[(h, .inr (7, [.null, .int (nI 0), .null, .null, .null, .null, .int (nI 0), .null, .null, .null, .null, .null, .int (nI 0)]))], [(q8, .inl (cB, 16000, .inl (fun _ => 0)))]]) rfl rfl ?_
  refine jJ_putF hx hb (C := RX9) (T := TX9) (N := 13) (ty := .array .byte) (v := .ref q8) hts uX9_in_X9_init tyX9 tyX9_ok nmX9 hown hK 0 rfl rfl 0 (by decide) (hts (.fieldLink RX9 9 "ValueBlocksModel$Text" "bytes" "[B") (by decide +kernel)) (fun _ h9 => h9) rfl hnm rfl (by decide +kernel) rfl rfl (Nat.le_of_ble_eq_true rfl) dX9_init_10 (cs2 := [[(h, .inr (7, [.ref q8, .int (nI 0), .null, .null, .null, .null, .int (nI 0), .null, .null, .null, .null, .null, .int (nI 0)]))], [(q8, .inl (cB, 16000, .inl (fun _ => 0)))]]) rfl ?_
  refine jJ_of (fun H locs => lv_aload_n hx hb dX9_init_13 rfl (lv_at hl 0 rfl)) ?_
  refine jJ_of (fun H locs => lv_sipush (v := (nI 32008)) hx hb dX9_init_14 (by decide)) ?_
  refine jJ_newa hx hb (atype := .byte) (hts (.arrayClass .byte) (by decide +kernel)) (ty := .byte) rfl hK hA 2 rfl (N' := 32008) (a0 := (32008, .inl (fun _ => 0))) (fun cA => by rw [vp_cell_i]; rfl) (by omega) (by decide) (by show _ + 1 ≤ 10; omega) (by show _ + 32008 ≤ 224042; omega) dX9_init_17 (fun q17 => ?_)
  refine jJ_eq (g2 := F0 m 19 ls [.ref q17, .ref h]) (cs2 := [[(h, .inr (7, [.ref q8, .int (nI 0), .null, .null, .null, .null, .int (nI 0), .null, .null, .null, .null, .null, .int (nI 0)]))], [(q8, .inl (cB, 16000, .inl (fun _ => 0)))], [(q17, .inl (cB, 32008, .inl (fun _ => 0)))]]) rfl rfl ?_
  refine jJ_putF hx hb (C := RX9) (T := TX9) (N := 13) (ty := .array .byte) (v := .ref q17) hts uX9_in_X9_init tyX9 tyX9_ok nmX9 hown hK 0 rfl rfl 2 (by decide) (hts (.fieldLink RX9 15 "ValueBlocksModel$Text" "kinds" "[B") (by decide +kernel)) (fun _ h9 => h9) rfl hnm rfl (by decide +kernel) rfl rfl (Nat.le_of_ble_eq_true rfl) dX9_init_19 (cs2 := [[(h, .inr (7, [.ref q8, .int (nI 0), .ref q17, .null, .null, .null, .int (nI 0), .null, .null, .null, .null, .null, .int (nI 0)]))], [(q8, .inl (cB, 16000, .inl (fun _ => 0)))], [(q17, .inl (cB, 32008, .inl (fun _ => 0)))]]) rfl ?_
  refine jJ_of (fun H locs => lv_aload_n hx hb dX9_init_22 rfl (lv_at hl 0 rfl)) ?_
  refine jJ_of (fun H locs => lv_sipush (v := (nI 32008)) hx hb dX9_init_23 (by decide)) ?_
  refine jJ_newa hx hb (atype := .int) (hts (.arrayClass .int) (by decide +kernel)) (ty := .int) rfl hK hA 0 rfl (N' := 32008) (a0 := (32008, .inl (fun _ => 0))) (fun cA => by rw [vp_cell_i]; rfl) (by omega) (by decide) (by show _ + 1 ≤ 10; omega) (by show _ + 32008 ≤ 224042; omega) dX9_init_26 (fun q26 => ?_)
  refine jJ_eq (g2 := F0 m 28 ls [.ref q26, .ref h]) (cs2 := [[(h, .inr (7, [.ref q8, .int (nI 0), .ref q17, .null, .null, .null, .int (nI 0), .null, .null, .null, .null, .null, .int (nI 0)]))], [(q8, .inl (cB, 16000, .inl (fun _ => 0)))], [(q17, .inl (cB, 32008, .inl (fun _ => 0)))], [(q26, .inl (cI, 32008, .inl (fun _ => 0)))]]) rfl rfl ?_
  refine jJ_putF hx hb (C := RX9) (T := TX9) (N := 13) (ty := .array .int) (v := .ref q26) hts uX9_in_X9_init tyX9 tyX9_ok nmX9 hown hK 0 rfl rfl 3 (by decide) (hts (.fieldLink RX9 18 "ValueBlocksModel$Text" "places" "[I") (by decide +kernel)) (fun _ h9 => h9) rfl hnm rfl (by decide +kernel) rfl rfl (Nat.le_of_ble_eq_true rfl) dX9_init_28 (cs2 := [[(h, .inr (7, [.ref q8, .int (nI 0), .ref q17, .ref q26, .null, .null, .int (nI 0), .null, .null, .null, .null, .null, .int (nI 0)]))], [(q8, .inl (cB, 16000, .inl (fun _ => 0)))], [(q17, .inl (cB, 32008, .inl (fun _ => 0)))], [(q26, .inl (cI, 32008, .inl (fun _ => 0)))]]) rfl ?_
  refine jJ_of (fun H locs => lv_aload_n hx hb dX9_init_31 rfl (lv_at hl 0 rfl)) ?_
  refine jJ_of (fun H locs => lv_sipush (v := (nI 32008)) hx hb dX9_init_32 (by decide)) ?_
  refine jJ_newa hx hb (atype := .int) (hts (.arrayClass .int) (by decide +kernel)) (ty := .int) rfl hK hA 0 rfl (N' := 32008) (a0 := (32008, .inl (fun _ => 0))) (fun cA => by rw [vp_cell_i]; rfl) (by omega) (by decide) (by show _ + 1 ≤ 10; omega) (by show _ + 32008 ≤ 224042; omega) dX9_init_35 (fun q35 => ?_)
  refine jJ_eq (g2 := F0 m 37 ls [.ref q35, .ref h]) (cs2 := [[(h, .inr (7, [.ref q8, .int (nI 0), .ref q17, .ref q26, .null, .null, .int (nI 0), .null, .null, .null, .null, .null, .int (nI 0)]))], [(q8, .inl (cB, 16000, .inl (fun _ => 0)))], [(q17, .inl (cB, 32008, .inl (fun _ => 0)))], [(q26, .inl (cI, 32008, .inl (fun _ => 0)))], [(q35, .inl (cI, 32008, .inl (fun _ => 0)))]]) rfl rfl ?_
  refine jJ_putF hx hb (C := RX9) (T := TX9) (N := 13) (ty := .array .int) (v := .ref q35) hts uX9_in_X9_init tyX9 tyX9_ok nmX9 hown hK 0 rfl rfl 4 (by decide) (hts (.fieldLink RX9 22 "ValueBlocksModel$Text" "worths" "[I") (by decide +kernel)) (fun _ h9 => h9) rfl hnm rfl (by decide +kernel) rfl rfl (Nat.le_of_ble_eq_true rfl) dX9_init_37 (cs2 := [[(h, .inr (7, [.ref q8, .int (nI 0), .ref q17, .ref q26, .ref q35, .null, .int (nI 0), .null, .null, .null, .null, .null, .int (nI 0)]))], [(q8, .inl (cB, 16000, .inl (fun _ => 0)))], [(q17, .inl (cB, 32008, .inl (fun _ => 0)))], [(q26, .inl (cI, 32008, .inl (fun _ => 0)))], [(q35, .inl (cI, 32008, .inl (fun _ => 0)))]]) rfl ?_
  refine jJ_of (fun H locs => lv_aload_n hx hb dX9_init_40 rfl (lv_at hl 0 rfl)) ?_
  refine jJ_of (fun H locs => lv_sipush (v := (nI 32008)) hx hb dX9_init_41 (by decide)) ?_
  refine jJ_newa hx hb (atype := .boolean) (hts (.arrayClass .boolean) (by decide +kernel)) (ty := .boolean) rfl hK hA 3 rfl (N' := 32008) (a0 := (32008, .inl (fun _ => 0))) (fun cA => by rw [vp_cell_i]; rfl) (by omega) (by decide) (by show _ + 1 ≤ 10; omega) (by show _ + 32008 ≤ 224042; omega) dX9_init_44 (fun q44 => ?_)
  refine jJ_eq (g2 := F0 m 46 ls [.ref q44, .ref h]) (cs2 := [[(h, .inr (7, [.ref q8, .int (nI 0), .ref q17, .ref q26, .ref q35, .null, .int (nI 0), .null, .null, .null, .null, .null, .int (nI 0)]))], [(q8, .inl (cB, 16000, .inl (fun _ => 0)))], [(q17, .inl (cB, 32008, .inl (fun _ => 0)))], [(q26, .inl (cI, 32008, .inl (fun _ => 0)))], [(q35, .inl (cI, 32008, .inl (fun _ => 0)))], [(q44, .inl (cZ, 32008, .inl (fun _ => 0)))]]) rfl rfl ?_
  refine jJ_putF hx hb (C := RX9) (T := TX9) (N := 13) (ty := .array .boolean) (v := .ref q44) hts uX9_in_X9_init tyX9 tyX9_ok nmX9 hown hK 0 rfl rfl 5 (by decide) (hts (.fieldLink RX9 25 "ValueBlocksModel$Text" "wholes" "[Z") (by decide +kernel)) (fun _ h9 => h9) rfl hnm rfl (by decide +kernel) rfl rfl (Nat.le_of_ble_eq_true rfl) dX9_init_46 (cs2 := [[(h, .inr (7, [.ref q8, .int (nI 0), .ref q17, .ref q26, .ref q35, .ref q44, .int (nI 0), .null, .null, .null, .null, .null, .int (nI 0)]))], [(q8, .inl (cB, 16000, .inl (fun _ => 0)))], [(q17, .inl (cB, 32008, .inl (fun _ => 0)))], [(q26, .inl (cI, 32008, .inl (fun _ => 0)))], [(q35, .inl (cI, 32008, .inl (fun _ => 0)))], [(q44, .inl (cZ, 32008, .inl (fun _ => 0)))]]) rfl ?_
  refine jJ_of (fun H locs => lv_aload_n hx hb dX9_init_49 rfl (lv_at hl 0 rfl)) ?_
  refine jJ_of (fun H locs => lv_sipush (v := (nI 16002)) hx hb dX9_init_50 (by decide)) ?_
  refine jJ_newa hx hb (atype := .int) (hts (.arrayClass .int) (by decide +kernel)) (ty := .int) rfl hK hA 0 rfl (N' := 16002) (a0 := (16002, .inl (fun _ => 0))) (fun cA => by rw [vp_cell_i]; rfl) (by omega) (by decide) (by show _ + 1 ≤ 10; omega) (by show _ + 16002 ≤ 224042; omega) dX9_init_53 (fun q53 => ?_)
  refine jJ_eq (g2 := F0 m 55 ls [.ref q53, .ref h]) (cs2 := [[(h, .inr (7, [.ref q8, .int (nI 0), .ref q17, .ref q26, .ref q35, .ref q44, .int (nI 0), .null, .null, .null, .null, .null, .int (nI 0)]))], [(q8, .inl (cB, 16000, .inl (fun _ => 0)))], [(q17, .inl (cB, 32008, .inl (fun _ => 0)))], [(q26, .inl (cI, 32008, .inl (fun _ => 0)))], [(q35, .inl (cI, 32008, .inl (fun _ => 0)))], [(q44, .inl (cZ, 32008, .inl (fun _ => 0)))], [(q53, .inl (cI, 16002, .inl (fun _ => 0)))]]) rfl rfl ?_
  refine jJ_putF hx hb (C := RX9) (T := TX9) (N := 13) (ty := .array .int) (v := .ref q53) hts uX9_in_X9_init tyX9 tyX9_ok nmX9 hown hK 0 rfl rfl 7 (by decide) (hts (.fieldLink RX9 29 "ValueBlocksModel$Text" "firsts" "[I") (by decide +kernel)) (fun _ h9 => h9) rfl hnm rfl (by decide +kernel) rfl rfl (Nat.le_of_ble_eq_true rfl) dX9_init_55 (cs2 := [[(h, .inr (7, [.ref q8, .int (nI 0), .ref q17, .ref q26, .ref q35, .ref q44, .int (nI 0), .ref q53, .null, .null, .null, .null, .int (nI 0)]))], [(q8, .inl (cB, 16000, .inl (fun _ => 0)))], [(q17, .inl (cB, 32008, .inl (fun _ => 0)))], [(q26, .inl (cI, 32008, .inl (fun _ => 0)))], [(q35, .inl (cI, 32008, .inl (fun _ => 0)))], [(q44, .inl (cZ, 32008, .inl (fun _ => 0)))], [(q53, .inl (cI, 16002, .inl (fun _ => 0)))]]) rfl ?_
  refine jJ_of (fun H locs => lv_aload_n hx hb dX9_init_58 rfl (lv_at hl 0 rfl)) ?_
  refine jJ_of (fun H locs => lv_sipush (v := (nI 16002)) hx hb dX9_init_59 (by decide)) ?_
  refine jJ_newa hx hb (atype := .byte) (hts (.arrayClass .byte) (by decide +kernel)) (ty := .byte) rfl hK hA 2 rfl (N' := 16002) (a0 := (16002, .inl (fun _ => 0))) (fun cA => by rw [vp_cell_i]; rfl) (by omega) (by decide) (by show _ + 1 ≤ 10; omega) (by show _ + 16002 ≤ 224042; omega) dX9_init_62 (fun q62 => ?_)
  refine jJ_eq (g2 := F0 m 64 ls [.ref q62, .ref h]) (cs2 := [[(h, .inr (7, [.ref q8, .int (nI 0), .ref q17, .ref q26, .ref q35, .ref q44, .int (nI 0), .ref q53, .null, .null, .null, .null, .int (nI 0)]))], [(q8, .inl (cB, 16000, .inl (fun _ => 0)))], [(q17, .inl (cB, 32008, .inl (fun _ => 0)))], [(q26, .inl (cI, 32008, .inl (fun _ => 0)))], [(q35, .inl (cI, 32008, .inl (fun _ => 0)))], [(q44, .inl (cZ, 32008, .inl (fun _ => 0)))], [(q53, .inl (cI, 16002, .inl (fun _ => 0)))], [(q62, .inl (cB, 16002, .inl (fun _ => 0)))]]) rfl rfl ?_
  refine jJ_putF hx hb (C := RX9) (T := TX9) (N := 13) (ty := .array .byte) (v := .ref q62) hts uX9_in_X9_init tyX9 tyX9_ok nmX9 hown hK 0 rfl rfl 8 (by decide) (hts (.fieldLink RX9 32 "ValueBlocksModel$Text" "sorts" "[B") (by decide +kernel)) (fun _ h9 => h9) rfl hnm rfl (by decide +kernel) rfl rfl (Nat.le_of_ble_eq_true rfl) dX9_init_64 (cs2 := [[(h, .inr (7, [.ref q8, .int (nI 0), .ref q17, .ref q26, .ref q35, .ref q44, .int (nI 0), .ref q53, .ref q62, .null, .null, .null, .int (nI 0)]))], [(q8, .inl (cB, 16000, .inl (fun _ => 0)))], [(q17, .inl (cB, 32008, .inl (fun _ => 0)))], [(q26, .inl (cI, 32008, .inl (fun _ => 0)))], [(q35, .inl (cI, 32008, .inl (fun _ => 0)))], [(q44, .inl (cZ, 32008, .inl (fun _ => 0)))], [(q53, .inl (cI, 16002, .inl (fun _ => 0)))], [(q62, .inl (cB, 16002, .inl (fun _ => 0)))]]) rfl ?_
  refine jJ_of (fun H locs => lv_aload_n hx hb dX9_init_67 rfl (lv_at hl 0 rfl)) ?_
  refine jJ_of (fun H locs => lv_sipush (v := (nI 16002)) hx hb dX9_init_68 (by decide)) ?_
  refine jJ_newa hx hb (atype := .int) (hts (.arrayClass .int) (by decide +kernel)) (ty := .int) rfl hK hA 0 rfl (N' := 16002) (a0 := (16002, .inl (fun _ => 0))) (fun cA => by rw [vp_cell_i]; rfl) (by omega) (by decide) (by show _ + 1 ≤ 10; omega) (by show _ + 16002 ≤ 224042; omega) dX9_init_71 (fun q71 => ?_)
  refine jJ_eq (g2 := F0 m 73 ls [.ref q71, .ref h]) (cs2 := [[(h, .inr (7, [.ref q8, .int (nI 0), .ref q17, .ref q26, .ref q35, .ref q44, .int (nI 0), .ref q53, .ref q62, .null, .null, .null, .int (nI 0)]))], [(q8, .inl (cB, 16000, .inl (fun _ => 0)))], [(q17, .inl (cB, 32008, .inl (fun _ => 0)))], [(q26, .inl (cI, 32008, .inl (fun _ => 0)))], [(q35, .inl (cI, 32008, .inl (fun _ => 0)))], [(q44, .inl (cZ, 32008, .inl (fun _ => 0)))], [(q53, .inl (cI, 16002, .inl (fun _ => 0)))], [(q62, .inl (cB, 16002, .inl (fun _ => 0)))], [(q71, .inl (cI, 16002, .inl (fun _ => 0)))]]) rfl rfl ?_
  refine jJ_putF hx hb (C := RX9) (T := TX9) (N := 13) (ty := .array .int) (v := .ref q71) hts uX9_in_X9_init tyX9 tyX9_ok nmX9 hown hK 0 rfl rfl 9 (by decide) (hts (.fieldLink RX9 35 "ValueBlocksModel$Text" "labels" "[I") (by decide +kernel)) (fun _ h9 => h9) rfl hnm rfl (by decide +kernel) rfl rfl (Nat.le_of_ble_eq_true rfl) dX9_init_73 (cs2 := [[(h, .inr (7, [.ref q8, .int (nI 0), .ref q17, .ref q26, .ref q35, .ref q44, .int (nI 0), .ref q53, .ref q62, .ref q71, .null, .null, .int (nI 0)]))], [(q8, .inl (cB, 16000, .inl (fun _ => 0)))], [(q17, .inl (cB, 32008, .inl (fun _ => 0)))], [(q26, .inl (cI, 32008, .inl (fun _ => 0)))], [(q35, .inl (cI, 32008, .inl (fun _ => 0)))], [(q44, .inl (cZ, 32008, .inl (fun _ => 0)))], [(q53, .inl (cI, 16002, .inl (fun _ => 0)))], [(q62, .inl (cB, 16002, .inl (fun _ => 0)))], [(q71, .inl (cI, 16002, .inl (fun _ => 0)))]]) rfl ?_
  refine jJ_of (fun H locs => lv_aload_n hx hb dX9_init_76 rfl (lv_at hl 0 rfl)) ?_
  refine jJ_of (fun H locs => lv_sipush (v := (nI 16002)) hx hb dX9_init_77 (by decide)) ?_
  refine jJ_newa hx hb (atype := .int) (hts (.arrayClass .int) (by decide +kernel)) (ty := .int) rfl hK hA 0 rfl (N' := 16002) (a0 := (16002, .inl (fun _ => 0))) (fun cA => by rw [vp_cell_i]; rfl) (by omega) (by decide) (by show _ + 1 ≤ 10; omega) (by show _ + 16002 ≤ 224042; omega) dX9_init_80 (fun q80 => ?_)
  refine jJ_eq (g2 := F0 m 82 ls [.ref q80, .ref h]) (cs2 := [[(h, .inr (7, [.ref q8, .int (nI 0), .ref q17, .ref q26, .ref q35, .ref q44, .int (nI 0), .ref q53, .ref q62, .ref q71, .null, .null, .int (nI 0)]))], [(q8, .inl (cB, 16000, .inl (fun _ => 0)))], [(q17, .inl (cB, 32008, .inl (fun _ => 0)))], [(q26, .inl (cI, 32008, .inl (fun _ => 0)))], [(q35, .inl (cI, 32008, .inl (fun _ => 0)))], [(q44, .inl (cZ, 32008, .inl (fun _ => 0)))], [(q53, .inl (cI, 16002, .inl (fun _ => 0)))], [(q62, .inl (cB, 16002, .inl (fun _ => 0)))], [(q71, .inl (cI, 16002, .inl (fun _ => 0)))], [(q80, .inl (cI, 16002, .inl (fun _ => 0)))]]) rfl rfl ?_
  refine jJ_putF hx hb (C := RX9) (T := TX9) (N := 13) (ty := .array .int) (v := .ref q80) hts uX9_in_X9_init tyX9 tyX9_ok nmX9 hown hK 0 rfl rfl 10 (by decide) (hts (.fieldLink RX9 38 "ValueBlocksModel$Text" "partners" "[I") (by decide +kernel)) (fun _ h9 => h9) rfl hnm rfl (by decide +kernel) rfl rfl (Nat.le_of_ble_eq_true rfl) dX9_init_82 (cs2 := [[(h, .inr (7, [.ref q8, .int (nI 0), .ref q17, .ref q26, .ref q35, .ref q44, .int (nI 0), .ref q53, .ref q62, .ref q71, .ref q80, .null, .int (nI 0)]))], [(q8, .inl (cB, 16000, .inl (fun _ => 0)))], [(q17, .inl (cB, 32008, .inl (fun _ => 0)))], [(q26, .inl (cI, 32008, .inl (fun _ => 0)))], [(q35, .inl (cI, 32008, .inl (fun _ => 0)))], [(q44, .inl (cZ, 32008, .inl (fun _ => 0)))], [(q53, .inl (cI, 16002, .inl (fun _ => 0)))], [(q62, .inl (cB, 16002, .inl (fun _ => 0)))], [(q71, .inl (cI, 16002, .inl (fun _ => 0)))], [(q80, .inl (cI, 16002, .inl (fun _ => 0)))]]) rfl ?_
  refine jJ_of (fun H locs => lv_aload_n hx hb dX9_init_85 rfl (lv_at hl 0 rfl)) ?_
  refine jJ_of (fun H locs => lv_sipush (v := (nI 16002)) hx hb dX9_init_86 (by decide)) ?_
  refine jJ_newa hx hb (atype := .int) (hts (.arrayClass .int) (by decide +kernel)) (ty := .int) rfl hK hA 0 rfl (N' := 16002) (a0 := (16002, .inl (fun _ => 0))) (fun cA => by rw [vp_cell_i]; rfl) (by omega) (by decide) (by show _ + 1 ≤ 10; omega) (by show _ + 16002 ≤ 224042; omega) dX9_init_89 (fun q89 => ?_)
  refine jJ_eq (g2 := F0 m 91 ls [.ref q89, .ref h]) (cs2 := [[(h, .inr (7, [.ref q8, .int (nI 0), .ref q17, .ref q26, .ref q35, .ref q44, .int (nI 0), .ref q53, .ref q62, .ref q71, .ref q80, .null, .int (nI 0)]))], [(q8, .inl (cB, 16000, .inl (fun _ => 0)))], [(q17, .inl (cB, 32008, .inl (fun _ => 0)))], [(q26, .inl (cI, 32008, .inl (fun _ => 0)))], [(q35, .inl (cI, 32008, .inl (fun _ => 0)))], [(q44, .inl (cZ, 32008, .inl (fun _ => 0)))], [(q53, .inl (cI, 16002, .inl (fun _ => 0)))], [(q62, .inl (cB, 16002, .inl (fun _ => 0)))], [(q71, .inl (cI, 16002, .inl (fun _ => 0)))], [(q80, .inl (cI, 16002, .inl (fun _ => 0)))], [(q89, .inl (cI, 16002, .inl (fun _ => 0)))]]) rfl rfl ?_
  refine jJ_putF hx hb (C := RX9) (T := TX9) (N := 13) (ty := .array .int) (v := .ref q89) hts uX9_in_X9_init tyX9 tyX9_ok nmX9 hown hK 0 rfl rfl 11 (by decide) (hts (.fieldLink RX9 41 "ValueBlocksModel$Text" "jumps" "[I") (by decide +kernel)) (fun _ h9 => h9) rfl hnm rfl (by decide +kernel) rfl rfl (Nat.le_of_ble_eq_true rfl) dX9_init_91 (cs2 := [[(h, .inr (7, [.ref q8, .int (nI 0), .ref q17, .ref q26, .ref q35, .ref q44, .int (nI 0), .ref q53, .ref q62, .ref q71, .ref q80, .ref q89, .int (nI 0)]))], [(q8, .inl (cB, 16000, .inl (fun _ => 0)))], [(q17, .inl (cB, 32008, .inl (fun _ => 0)))], [(q26, .inl (cI, 32008, .inl (fun _ => 0)))], [(q35, .inl (cI, 32008, .inl (fun _ => 0)))], [(q44, .inl (cZ, 32008, .inl (fun _ => 0)))], [(q53, .inl (cI, 16002, .inl (fun _ => 0)))], [(q62, .inl (cB, 16002, .inl (fun _ => 0)))], [(q71, .inl (cI, 16002, .inl (fun _ => 0)))], [(q80, .inl (cI, 16002, .inl (fun _ => 0)))], [(q89, .inl (cI, 16002, .inl (fun _ => 0)))]]) rfl ?_
  exact jJ_vret hx hb hr hlocks dX9_init_94 (by show _ ≤ 10; omega) (by show _ ≤ 224042; omega) ⟨rfl, ⟨fun i => if i = 8 then q8 else if i = 3 then q17 else if i = 4 then q26 else if i = 5 then q35 else if i = 6 then q44 else if i = 9 then q53 else if i = 10 then q62 else if i = 11 then q71 else if i = 12 then q80 else if i = 13 then q89 else h, rfl, rfl⟩, by omega, by omega⟩
end MP
