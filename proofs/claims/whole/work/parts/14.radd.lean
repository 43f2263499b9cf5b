/-! Row.add and Program.beginLine for every length: a full row stays as it is -/
def jAdd (lim : Nat) (xs : List Int32) (x : Int32) : List Int32 := if xs.length < lim then xs ++ [x] else xs
theorem jAdd_len (lim : Nat) (xs : List Int32) (x : Int32) : (jAdd lim xs x).length ≤ xs.length + 1 := by
  unfold jAdd
  split
  · rw [List.length_append]; exact Nat.le_refl _
  · exact Nat.le_succ _
section RADD
variable {D : va_G} {G : Nat → Nat} {cI cJ cB cZ : ClassId} {l : Launch}

set_option maxHeartbeats 4000000 in
set_option maxRecDepth 100000 in
/-- add(x), for every length -/
theorem c_Row_addT {h lim q : Nat} {xs : List Int32} {w : va_W} (hw : jRow cI h lim q xs w) (x : Int32) : HM l yX5_add wsX5_add ({ frames := 2, cells := 1, slots := 32000, locals := 100 } : Room) D G (jT cI cJ cB cZ) [.ref h, .int x] w (fun v u k n => v = none ∧ ∃ q2 : Nat, q ≤ q2 ∧ jRow cI h lim q2 (jAdd lim xs x) u ∧ k + q ≤ q2 ∧ n + 128 * q ≤ 128 * q2 ∧ k ≤ 1 ∧ n ≤ 32000) := by
  obtain ⟨a, f, cap, rfl, hc, hf, h1, h2, h3, h4, h5⟩ := hw
  refine HM_of (cc := cX5_add) (maxL := 2) (ret := none) (lv := [(0, .ref h), (1, .int x)]) (by decide) rfl rfl (Nat.le_of_ble_eq_true rfl) (fun p e s m args below meth c A0 ls hx hb hr hts hown hlocks hml hnm hK hA hAm hl => ?_)
  refine jJ_open (xs := [[(h, .inr (4, [.int (nI lim), .ref a, .int (nI xs.length)]))], [(a, .inl (cI, cap, .inl f))]]) (r := []) (cs2 := [[(h, .inr (4, [.int (nI lim), .ref a, .int (nI xs.length)]))], [(a, .inl (cI, cap, .inl f))]]) rfl ?_
  refine jJ_of (fun H locs => lv_aload_n hx hb dX5_add_0 rfl (lv_at hl 0 rfl)) ?_
  refine jJ_get hx hb (C := RX5) (T := TX5) (N := 3) hts uX5_in_X5_add hown hK 0 rfl rfl 2 (by decide) (hts (.fieldLink RX5 17 "ValueBlocks$Row" "size" "I") (by decide +kernel)) (fun _ h9 => h9) rfl dX5_add_1 ?_
  refine jJ_of (fun H locs => lv_aload_n hx hb dX5_add_4 rfl (lv_at hl 0 rfl)) ?_
  refine jJ_get hx hb (C := RX5) (T := TX5) (N := 3) hts uX5_in_X5_add hown hK 0 rfl rfl 0 (by decide) (hts (.fieldLink RX5 7 "ValueBlocks$Row" "limit" "I") (by decide +kernel)) (fun _ h9 => h9) rfl dX5_add_5 ?_
  refine jJ_of2 (fun H locs => jn_icmp_lt (tgt := 12) hx hb dX5_add_8 (by decide) (by omega) (by omega)) (fun c8 => ?_) (fun c8 => ?_)
  · refine jJ_of (fun H locs => lv_aload_n hx hb dX5_add_12 rfl (lv_at hl 0 rfl)) ?_
    refine jJ_get hx hb (C := RX5) (T := TX5) (N := 3) hts uX5_in_X5_add hown hK 0 rfl rfl 2 (by decide) (hts (.fieldLink RX5 17 "ValueBlocks$Row" "size" "I") (by decide +kernel)) (fun _ h9 => h9) rfl dX5_add_13 ?_
    refine jJ_of (fun H locs => lv_aload_n hx hb dX5_add_16 rfl (lv_at hl 0 rfl)) ?_
    refine jJ_get hx hb (C := RX5) (T := TX5) (N := 3) hts uX5_in_X5_add hown hK 0 rfl rfl 1 (by decide) (hts (.fieldLink RX5 13 "ValueBlocks$Row" "items" "[I") (by decide +kernel)) (fun _ h9 => h9) rfl dX5_add_17 ?_
    refine jJ_alen hx hb hK 1 0 rfl rfl (v := nI cap) rfl dX5_add_20 ?_
    refine jJ_of2 (fun H locs => jn_icmp_lt (tgt := 42) hx hb dX5_add_21 (by decide) (by omega) (by omega)) (fun c21 => ?_) (fun c21 => ?_)
    · refine jJ_of (fun H locs => lv_aload_n hx hb dX5_add_42 rfl (lv_at hl 0 rfl)) ?_
      refine jJ_get hx hb (C := RX5) (T := TX5) (N := 3) hts uX5_in_X5_add hown hK 0 rfl rfl 2 (by decide) (hts (.fieldLink RX5 17 "ValueBlocks$Row" "size" "I") (by decide +kernel)) (fun _ h9 => h9) rfl dX5_add_43 ?_
      refine jJ_of2 (fun H locs => jn_if_lt (tgt := 81) hx hb dX5_add_46 (by decide) (by omega)) (fun c46 => ?_) (fun c46 => ?_)
      · omega
      · refine jJ_of (fun H locs => lv_aload_n hx hb dX5_add_49 rfl (lv_at hl 0 rfl)) ?_
        refine jJ_get hx hb (C := RX5) (T := TX5) (N := 3) hts uX5_in_X5_add hown hK 0 rfl rfl 2 (by decide) (hts (.fieldLink RX5 17 "ValueBlocks$Row" "size" "I") (by decide +kernel)) (fun _ h9 => h9) rfl dX5_add_50 ?_
        refine jJ_of (fun H locs => lv_aload_n hx hb dX5_add_53 rfl (lv_at hl 0 rfl)) ?_
        refine jJ_get hx hb (C := RX5) (T := TX5) (N := 3) hts uX5_in_X5_add hown hK 0 rfl rfl 1 (by decide) (hts (.fieldLink RX5 13 "ValueBlocks$Row" "items" "[I") (by decide +kernel)) (fun _ h9 => h9) rfl dX5_add_54 ?_
        refine jJ_alen hx hb hK 1 0 rfl rfl (v := nI cap) rfl dX5_add_57 ?_
        refine jJ_of2 (fun H locs => jn_icmp_ge (tgt := 81) hx hb dX5_add_58 (by decide) (by omega) (by omega)) (fun c58 => ?_) (fun c58 => ?_)
        · omega
        · refine jJ_of (fun H locs => lv_aload_n hx hb dX5_add_61 rfl (lv_at hl 0 rfl)) ?_
          refine jJ_get hx hb (C := RX5) (T := TX5) (N := 3) hts uX5_in_X5_add hown hK 0 rfl rfl 1 (by decide) (hts (.fieldLink RX5 13 "ValueBlocks$Row" "items" "[I") (by decide +kernel)) (fun _ h9 => h9) rfl dX5_add_62 ?_
          refine jJ_of (fun H locs => lv_aload_n hx hb dX5_add_65 rfl (lv_at hl 0 rfl)) ?_
          refine jJ_get hx hb (C := RX5) (T := TX5) (N := 3) hts uX5_in_X5_add hown hK 0 rfl rfl 2 (by decide) (hts (.fieldLink RX5 17 "ValueBlocks$Row" "size" "I") (by decide +kernel)) (fun _ h9 => h9) rfl dX5_add_66 ?_
          refine jJ_of (fun H locs => lv_iload_n hx hb dX5_add_69 rfl (lv_at hl 1 rfl)) ?_
          refine jJ_iast hx hb hK 1 0 rfl rfl (vp_in_nI (by omega) (by omega)) dX5_add_70 (cs2 := [[(h, .inr (4, [.int (nI lim), .ref a, .int (nI xs.length)]))], [(a, .inl (cI, cap, .inl (upd f (Int32.toNatClampNeg (nI xs.length)) x)))]]) rfl ?_
          refine jJ_of (fun H locs => lv_aload_n hx hb dX5_add_71 rfl (lv_at hl 0 rfl)) ?_
          refine jJ_of (fun H locs => lv_dup hx hb dX5_add_72 rfl) ?_
          refine jJ_get hx hb (C := RX5) (T := TX5) (N := 3) hts uX5_in_X5_add hown hK 0 rfl rfl 2 (by decide) (hts (.fieldLink RX5 17 "ValueBlocks$Row" "size" "I") (by decide +kernel)) (fun _ h9 => h9) rfl dX5_add_73 ?_
          refine jJ_of (fun H locs => lv_iconst (v := (nI 1)) hx hb dX5_add_76 (by decide)) ?_
          refine jJ_of (fun H locs => jn_iadd hx hb dX5_add_77) ?_
          refine jJ_put hx hb (C := RX5) (T := TX5) (N := 3) (ty := .int) (v := .int (nI (xs.length + 1))) hts uX5_in_X5_add tyX5 tyX5_ok nmX5 hown hK 0 rfl rfl 2 (by decide) (hts (.fieldLink RX5 17 "ValueBlocks$Row" "size" "I") (by decide +kernel)) (fun _ h9 => h9) rfl (by decide +kernel) rfl rfl (Nat.le_of_ble_eq_true rfl) dX5_add_78 (cs2 := [[(h, .inr (4, [.int (nI lim), .ref a, .int (nI (xs.length + 1))]))], [(a, .inl (cI, cap, .inl (upd f (Int32.toNatClampNeg (nI xs.length)) x)))]]) rfl ?_
          exact jJ_vret hx hb hr hlocks dX5_add_81 (by show _ ≤ 1; omega) (by show _ ≤ 32000; omega) ⟨rfl, q, by omega, by rw [show jAdd lim xs x = xs ++ [x] from if_pos (by omega)]; exact ⟨a, _, cap, by rw [List.length_append, List.length_singleton], by omega, fun i hi => by rw [nI_clamp (by omega)]; exact jel_app hf i hi, by rw [List.length_append, List.length_singleton]; omega, by rw [List.length_append, List.length_singleton]; omega, by omega, h4, by omega⟩, by omega, by omega, by omega, by omega⟩
    · refine jJ_of (fun H locs => lv_aload_n hx hb dX5_add_24 rfl (lv_at hl 0 rfl)) ?_
      refine jJ_of (fun H locs => lv_aload_n hx hb dX5_add_25 rfl (lv_at hl 0 rfl)) ?_
      refine jJ_get hx hb (C := RX5) (T := TX5) (N := 3) hts uX5_in_X5_add hown hK 0 rfl rfl 1 (by decide) (hts (.fieldLink RX5 13 "ValueBlocks$Row" "items" "[I") (by decide +kernel)) (fun _ h9 => h9) rfl dX5_add_26 ?_
      refine jJ_of (fun H locs => lv_aload_n hx hb dX5_add_29 rfl (lv_at hl 0 rfl)) ?_
      refine jJ_get hx hb (C := RX5) (T := TX5) (N := 3) hts uX5_in_X5_add hown hK 0 rfl rfl 1 (by decide) (hts (.fieldLink RX5 13 "ValueBlocks$Row" "items" "[I") (by decide +kernel)) (fun _ h9 => h9) rfl dX5_add_30 ?_
      refine jJ_alen hx hb hK 1 0 rfl rfl (v := nI cap) rfl dX5_add_33 ?_
      refine jJ_of (fun H locs => lv_iconst (v := (nI 2)) hx hb dX5_add_34 (by decide)) ?_
      refine jJ_of (fun H locs => jn_imul hx hb dX5_add_35) ?_
      refine jJ_callS (As := [.ref a, .int (nI (cap * 2))]) (rest := [.ref h]) (wc := _) (cs2 := [[(h, .inr (4, [.int (nI lim), .ref a, .int (nI xs.length)]))]]) [1] [0] ⟨hx, hb, hml, hown, hts⟩ hK hA hAm (c_copyOf a cap (cap * 2) f (by omega) (by omega)) (va_cwS 2 hts gX5_add_J7_copyOf_59c91 rfl rfl rfl (by decide +kernel) ⟨Nat.le_of_ble_eq_true rfl, Nat.le_of_ble_eq_true rfl⟩) (nn := 2) rfl (by decide) rfl rfl rfl rfl hl.1 (Nat.le_of_ble_eq_true rfl) dX5_add_36 (by show _ + 1 ≤ 1; omega) (by show _ + 32000 ≤ 32000; omega) (fun v u1 k1 n1 hq1 => ?_)
      obtain ⟨a2, g, rfl, rfl, hg, hk1, hn1⟩ := hq1
      refine jJ_eq (g2 := F0 m 39 ls [.ref a2, .ref h]) (cs2 := [jF [[(a, .inl (cI, cap, .inl f))], [(a2, .inl (cI, cap * 2, .inl g))]], [(h, .inr (4, [.int (nI lim), .ref a, .int (nI xs.length)]))]]) rfl rfl ?_
      refine jJ_open (cs2 := [[(a, .inl (cI, cap, .inl f))], [(a2, .inl (cI, cap * 2, .inl g))], [(h, .inr (4, [.int (nI lim), .ref a, .int (nI xs.length)]))]]) rfl ?_
      refine jJ_put hx hb (C := RX5) (T := TX5) (N := 3) (ty := .array .int) (v := .ref a2) hts uX5_in_X5_add tyX5 tyX5_ok nmX5 hown hK 2 rfl rfl 1 (by decide) (hts (.fieldLink RX5 13 "ValueBlocks$Row" "items" "[I") (by decide +kernel)) (fun _ h9 => h9) rfl (by decide +kernel) rfl rfl (Nat.le_of_ble_eq_true rfl) dX5_add_39 (cs2 := [[(a, .inl (cI, cap, .inl f))], [(a2, .inl (cI, cap * 2, .inl g))], [(h, .inr (4, [.int (nI lim), .ref a2, .int (nI xs.length)]))]]) rfl ?_
      refine jJ_of (fun H locs => lv_aload_n hx hb dX5_add_42 rfl (lv_at hl 0 rfl)) ?_
      refine jJ_get hx hb (C := RX5) (T := TX5) (N := 3) hts uX5_in_X5_add hown hK 2 rfl rfl 2 (by decide) (hts (.fieldLink RX5 17 "ValueBlocks$Row" "size" "I") (by decide +kernel)) (fun _ h9 => h9) rfl dX5_add_43 ?_
      refine jJ_of2 (fun H locs => jn_if_lt (tgt := 81) hx hb dX5_add_46 (by decide) (by omega)) (fun c46 => ?_) (fun c46 => ?_)
      · omega
      · refine jJ_of (fun H locs => lv_aload_n hx hb dX5_add_49 rfl (lv_at hl 0 rfl)) ?_
        refine jJ_get hx hb (C := RX5) (T := TX5) (N := 3) hts uX5_in_X5_add hown hK 2 rfl rfl 2 (by decide) (hts (.fieldLink RX5 17 "ValueBlocks$Row" "size" "I") (by decide +kernel)) (fun _ h9 => h9) rfl dX5_add_50 ?_
        refine jJ_of (fun H locs => lv_aload_n hx hb dX5_add_53 rfl (lv_at hl 0 rfl)) ?_
        refine jJ_get hx hb (C := RX5) (T := TX5) (N := 3) hts uX5_in_X5_add hown hK 2 rfl rfl 1 (by decide) (hts (.fieldLink RX5 13 "ValueBlocks$Row" "items" "[I") (by decide +kernel)) (fun _ h9 => h9) rfl dX5_add_54 ?_
        refine jJ_alen hx hb hK 1 0 rfl rfl (v := nI (cap * 2)) rfl dX5_add_57 ?_
        refine jJ_of2 (fun H locs => jn_icmp_ge (tgt := 81) hx hb dX5_add_58 (by decide) (by omega) (by omega)) (fun c58 => ?_) (fun c58 => ?_)
        · omega
        · refine jJ_of (fun H locs => lv_aload_n hx hb dX5_add_61 rfl (lv_at hl 0 rfl)) ?_
          refine jJ_get hx hb (C := RX5) (T := TX5) (N := 3) hts uX5_in_X5_add hown hK 2 rfl rfl 1 (by decide) (hts (.fieldLink RX5 13 "ValueBlocks$Row" "items" "[I") (by decide +kernel)) (fun _ h9 => h9) rfl dX5_add_62 ?_
          refine jJ_of (fun H locs => lv_aload_n hx hb dX5_add_65 rfl (lv_at hl 0 rfl)) ?_
          refine jJ_get hx hb (C := RX5) (T := TX5) (N := 3) hts uX5_in_X5_add hown hK 2 rfl rfl 2 (by decide) (hts (.fieldLink RX5 17 "ValueBlocks$Row" "size" "I") (by decide +kernel)) (fun _ h9 => h9) rfl dX5_add_66 ?_
          refine jJ_of (fun H locs => lv_iload_n hx hb dX5_add_69 rfl (lv_at hl 1 rfl)) ?_
          refine jJ_iast hx hb hK 1 0 rfl rfl (vp_in_nI (by omega) (by omega)) dX5_add_70 (cs2 := [[(a, .inl (cI, cap, .inl f))], [(a2, .inl (cI, cap * 2, .inl (upd g (Int32.toNatClampNeg (nI xs.length)) x)))], [(h, .inr (4, [.int (nI lim), .ref a2, .int (nI xs.length)]))]]) rfl ?_
          refine jJ_of (fun H locs => lv_aload_n hx hb dX5_add_71 rfl (lv_at hl 0 rfl)) ?_
          refine jJ_of (fun H locs => lv_dup hx hb dX5_add_72 rfl) ?_
          refine jJ_get hx hb (C := RX5) (T := TX5) (N := 3) hts uX5_in_X5_add hown hK 2 rfl rfl 2 (by decide) (hts (.fieldLink RX5 17 "ValueBlocks$Row" "size" "I") (by decide +kernel)) (fun _ h9 => h9) rfl dX5_add_73 ?_
          refine jJ_of (fun H locs => lv_iconst (v := (nI 1)) hx hb dX5_add_76 (by decide)) ?_
          refine jJ_of (fun H locs => jn_iadd hx hb dX5_add_77) ?_
          refine jJ_put hx hb (C := RX5) (T := TX5) (N := 3) (ty := .int) (v := .int (nI (xs.length + 1))) hts uX5_in_X5_add tyX5 tyX5_ok nmX5 hown hK 2 rfl rfl 2 (by decide) (hts (.fieldLink RX5 17 "ValueBlocks$Row" "size" "I") (by decide +kernel)) (fun _ h9 => h9) rfl (by decide +kernel) rfl rfl (Nat.le_of_ble_eq_true rfl) dX5_add_78 (cs2 := [[(a, .inl (cI, cap, .inl f))], [(a2, .inl (cI, cap * 2, .inl (upd g (Int32.toNatClampNeg (nI xs.length)) x)))], [(h, .inr (4, [.int (nI lim), .ref a2, .int (nI (xs.length + 1))]))]]) rfl ?_
          refine jJ_drop [2, 1] [0] (nn := 3) rfl (by decide) (cs2 := [[(h, .inr (4, [.int (nI lim), .ref a2, .int (nI (xs.length + 1))]))], [(a2, .inl (cI, cap * 2, .inl (upd g (Int32.toNatClampNeg (nI xs.length)) x)))]]) rfl ?_
          exact jJ_vret hx hb hr hlocks dX5_add_81 (by show _ ≤ 1; omega) (by show _ ≤ 32000; omega) ⟨rfl, q * 2, by omega, by rw [show jAdd lim xs x = xs ++ [x] from if_pos (by omega)]; exact ⟨a2, _, cap * 2, by rw [List.length_append, List.length_singleton], by omega, fun i hi => by rw [nI_clamp (by omega)]; exact jel_app (fun i hi => (hg i (by omega)).trans (hf i hi)) i hi, by rw [List.length_append, List.length_singleton]; omega, by rw [List.length_append, List.length_singleton]; omega, by omega, h4, by omega⟩, by omega, by omega, by omega, by omega⟩
  · exact jJ_vret hx hb hr hlocks dX5_add_11 (by show _ ≤ 1; omega) (by show _ ≤ 32000; omega) ⟨rfl, q, by omega, by rw [show jAdd lim xs x = xs from if_neg (by omega)]; exact ⟨a, f, cap, rfl, hc, hf, h1, h2, h3, h4, h5⟩, by omega, by omega, by omega, by omega⟩
def jBeginT (pr : Nat → List Int32) : Nat → List Int32 := (va_up (va_up (va_up (va_up (va_up (va_up (va_up pr 1 (jAdd 8000 (pr 1) (nI (pr 0).length))) 2 (jAdd 8000 (pr 2) (nI 0))) 3 (jAdd 8000 (pr 3) (iI (-1)))) 4 (jAdd 8000 (pr 4) (nI 0))) 5 (jAdd 8000 (pr 5) (iI (-1)))) 6 (jAdd 8000 (pr 6) (nI 0))) 7 (jAdd 8000 (pr 7) (nI 0)))
set_option maxHeartbeats 4000000 in
set_option maxRecDepth 100000 in
/-- beginLine(), for every length -/
theorem c_Prog_beginLineT {h P : Nat} {pr : Nat → List Int32} {w : va_W} (hw : jProg cI h P pr w) : HM l yX3_beginLine wsX3_beginLine ({ frames := 3, cells := 8, slots := 256000, locals := 140 } : Room) D G (jT cI cJ cB cZ) [.ref h] w (fun v u k n => v = none ∧ ∃ P2 : Nat, jProg cI h P2 (jBeginT pr) u ∧ k + P ≤ P2 ∧ n + 128 * P ≤ 128 * P2) := by
  obtain ⟨a, q, v, rfl, hr, hP⟩ := hw
  have hlen0 := (hr 0 (by decide)).len
  have hlen1 := (hr 1 (by decide)).len
  have hlen2 := (hr 2 (by decide)).len
  have hlen3 := (hr 3 (by decide)).len
  have hlen4 := (hr 4 (by decide)).len
  have hlen5 := (hr 5 (by decide)).len
  have hlen6 := (hr 6 (by decide)).len
  have hlen7 := (hr 7 (by decide)).len
  refine HM_of (cc := cX3_beginLine) (maxL := 1) (ret := none) (lv := [(0, .ref h)]) (by decide) rfl rfl (Nat.le_of_ble_eq_true rfl) (fun p e s m args below meth c A0 ls hx hb hr2 hts hown hlocks hml hnm hK hA hAm hl => ?_)
  refine jJ_open (xs := [[(h, .inr (2, [.ref (a 0), .ref (a 1), .ref (a 2), .ref (a 3), .ref (a 4), .ref (a 5), .ref (a 6), .ref (a 7)]))], v 0, v 1, v 2, v 3, v 4, v 5, v 6, v 7]) (r := []) (cs2 := [[(h, .inr (2, [.ref (a 0), .ref (a 1), .ref (a 2), .ref (a 3), .ref (a 4), .ref (a 5), .ref (a 6), .ref (a 7)]))], v 0, v 1, v 2, v 3, v 4, v 5, v 6, v 7]) rfl ?_
  refine jJ_of (fun H locs => lv_aload_n hx hb dX3_beginLine_0 rfl (lv_at hl 0 rfl)) ?_
  refine jJ_get hx hb (C := RX3) (T := TX3) (N := 8) hts uX3_in_X3_beginLine hown hK 0 rfl rfl 1 (by decide) (hts (.fieldLink RX3 20 "ValueBlocks$Program" "starts" "LValueBlocks$Row;") (by decide +kernel)) (fun _ h9 => h9) rfl dX3_beginLine_1 ?_
  refine jJ_of (fun H locs => lv_aload_n hx hb dX3_beginLine_4 rfl (lv_at hl 0 rfl)) ?_
  refine jJ_get hx hb (C := RX3) (T := TX3) (N := 8) hts uX3_in_X3_beginLine hown hK 0 rfl rfl 0 (by decide) (hts (.fieldLink RX3 14 "ValueBlocks$Program" "code" "LValueBlocks$Row;") (by decide +kernel)) (fun _ h9 => h9) rfl dX3_beginLine_5 ?_
  refine jJ_callV (As := []) (rest := [.ref (a 1)]) (wc := _) (cs2 := [[(h, .inr (2, [.ref (a 0), .ref (a 1), .ref (a 2), .ref (a 3), .ref (a 4), .ref (a 5), .ref (a 6), .ref (a 7)]))], v 1, v 2, v 3, v 4, v 5, v 6, v 7]) (C := RX5) (T := TX5) (N := 3) (ci := 4) [1] [0, 2, 3, 4, 5, 6, 7, 8] ⟨hx, hb, hml, hown, hts⟩ hK hA hAm (c_Row_size (hr 0 (by decide))) (cwV 0 hts gX3_beginLine_X5_size rfl rfl rfl (by decide +kernel) ⟨Nat.le_of_ble_eq_true rfl, Nat.le_of_ble_eq_true rfl⟩) (nn := 9) rfl (by decide) rfl rfl (hr 0 (by decide)).hd rfl rfl rfl hl.1 (Nat.le_of_ble_eq_true rfl) dX3_beginLine_8 (by show _ + 0 ≤ 8; omega) (by show _ + 0 ≤ 256000; omega) (fun v u1 k1 n1 hq1 => ?_)
  obtain ⟨rfl, hw1, rfl, rfl⟩ := hq1
  rw [hw1]
  refine jJ_eq (g2 := F0 m 11 ls [.int (nI ((pr 0).length)), .ref (a 1)]) (cs2 := [v 0, [(h, .inr (2, [.ref (a 0), .ref (a 1), .ref (a 2), .ref (a 3), .ref (a 4), .ref (a 5), .ref (a 6), .ref (a 7)]))], v 1, v 2, v 3, v 4, v 5, v 6, v 7]) rfl rfl ?_
  refine jJ_callV (As := [.int (nI ((pr 0).length))]) (rest := []) (wc := _) (cs2 := [v 0, [(h, .inr (2, [.ref (a 0), .ref (a 1), .ref (a 2), .ref (a 3), .ref (a 4), .ref (a 5), .ref (a 6), .ref (a 7)]))], v 2, v 3, v 4, v 5, v 6, v 7]) (C := RX5) (T := TX5) (N := 3) (ci := 4) [2] [0, 1, 3, 4, 5, 6, 7, 8] ⟨hx, hb, hml, hown, hts⟩ hK hA hAm (c_Row_addT (hr 1 (by decide)) (nI ((pr 0).length))) (cwV 1 hts gX3_beginLine_X5_add rfl rfl rfl (by decide +kernel) ⟨Nat.le_of_ble_eq_true rfl, Nat.le_of_ble_eq_true rfl⟩) (nn := 9) rfl (by decide) rfl rfl (hr 1 (by decide)).hd rfl rfl rfl hl.1 (Nat.le_of_ble_eq_true rfl) dX3_beginLine_11 (by show _ + 1 ≤ 8; omega) (by show _ + 32000 ≤ 256000; omega) (fun v u2 k2 n2 hq2 => ?_)
  obtain ⟨rfl, qq2, hqq2, hu2, hk2, hn2, hkk2, hnn2⟩ := hq2
  have hl2 := hu2.len
  refine jJ_eq (g2 := F0 m 14 ls []) (cs2 := [u2, v 0, [(h, .inr (2, [.ref (a 0), .ref (a 1), .ref (a 2), .ref (a 3), .ref (a 4), .ref (a 5), .ref (a 6), .ref (a 7)]))], v 2, v 3, v 4, v 5, v 6, v 7]) rfl rfl ?_
  refine jJ_of (fun H locs => lv_aload_n hx hb dX3_beginLine_14 rfl (lv_at hl 0 rfl)) ?_
  refine jJ_get hx hb (C := RX3) (T := TX3) (N := 8) hts uX3_in_X3_beginLine hown hK 2 rfl rfl 2 (by decide) (hts (.fieldLink RX3 23 "ValueBlocks$Program" "kinds" "LValueBlocks$Row;") (by decide +kernel)) (fun _ h9 => h9) rfl dX3_beginLine_15 ?_
  refine jJ_of (fun H locs => lv_iconst (v := (nI 0)) hx hb dX3_beginLine_18 (by decide)) ?_
  refine jJ_callV (As := [.int (nI 0)]) (rest := []) (wc := _) (cs2 := [u2, v 0, [(h, .inr (2, [.ref (a 0), .ref (a 1), .ref (a 2), .ref (a 3), .ref (a 4), .ref (a 5), .ref (a 6), .ref (a 7)]))], v 3, v 4, v 5, v 6, v 7]) (C := RX5) (T := TX5) (N := 3) (ci := 4) [3] [0, 1, 2, 4, 5, 6, 7, 8] ⟨hx, hb, hml, hown, hts⟩ hK hA hAm (c_Row_addT (hr 2 (by decide)) (nI 0)) (cwV 1 hts gX3_beginLine_X5_add rfl rfl rfl (by decide +kernel) ⟨Nat.le_of_ble_eq_true rfl, Nat.le_of_ble_eq_true rfl⟩) (nn := 9) rfl (by decide) rfl rfl (hr 2 (by decide)).hd rfl rfl rfl hl.1 (Nat.le_of_ble_eq_true rfl) dX3_beginLine_19 (by show _ + 1 ≤ 8; omega) (by show _ + 32000 ≤ 256000; omega) (fun v u3 k3 n3 hq3 => ?_)
  obtain ⟨rfl, qq3, hqq3, hu3, hk3, hn3, hkk3, hnn3⟩ := hq3
  have hl3 := hu3.len
  refine jJ_eq (g2 := F0 m 22 ls []) (cs2 := [u3, u2, v 0, [(h, .inr (2, [.ref (a 0), .ref (a 1), .ref (a 2), .ref (a 3), .ref (a 4), .ref (a 5), .ref (a 6), .ref (a 7)]))], v 3, v 4, v 5, v 6, v 7]) rfl rfl ?_
  refine jJ_of (fun H locs => lv_aload_n hx hb dX3_beginLine_22 rfl (lv_at hl 0 rfl)) ?_
  refine jJ_get hx hb (C := RX3) (T := TX3) (N := 8) hts uX3_in_X3_beginLine hown hK 3 rfl rfl 3 (by decide) (hts (.fieldLink RX3 26 "ValueBlocks$Program" "labels" "LValueBlocks$Row;") (by decide +kernel)) (fun _ h9 => h9) rfl dX3_beginLine_23 ?_
  refine jJ_of (fun H locs => lv_iconst (v := (iI (-1))) hx hb dX3_beginLine_26 (by decide)) ?_
  refine jJ_callV (As := [.int (iI (-1))]) (rest := []) (wc := _) (cs2 := [u3, u2, v 0, [(h, .inr (2, [.ref (a 0), .ref (a 1), .ref (a 2), .ref (a 3), .ref (a 4), .ref (a 5), .ref (a 6), .ref (a 7)]))], v 4, v 5, v 6, v 7]) (C := RX5) (T := TX5) (N := 3) (ci := 4) [4] [0, 1, 2, 3, 5, 6, 7, 8] ⟨hx, hb, hml, hown, hts⟩ hK hA hAm (c_Row_addT (hr 3 (by decide)) (iI (-1))) (cwV 1 hts gX3_beginLine_X5_add rfl rfl rfl (by decide +kernel) ⟨Nat.le_of_ble_eq_true rfl, Nat.le_of_ble_eq_true rfl⟩) (nn := 9) rfl (by decide) rfl rfl (hr 3 (by decide)).hd rfl rfl rfl hl.1 (Nat.le_of_ble_eq_true rfl) dX3_beginLine_27 (by show _ + 1 ≤ 8; omega) (by show _ + 32000 ≤ 256000; omega) (fun v u4 k4 n4 hq4 => ?_)
  obtain ⟨rfl, qq4, hqq4, hu4, hk4, hn4, hkk4, hnn4⟩ := hq4
  have hl4 := hu4.len
  refine jJ_eq (g2 := F0 m 30 ls []) (cs2 := [u4, u3, u2, v 0, [(h, .inr (2, [.ref (a 0), .ref (a 1), .ref (a 2), .ref (a 3), .ref (a 4), .ref (a 5), .ref (a 6), .ref (a 7)]))], v 4, v 5, v 6, v 7]) rfl rfl ?_
  refine jJ_of (fun H locs => lv_aload_n hx hb dX3_beginLine_30 rfl (lv_at hl 0 rfl)) ?_
  refine jJ_get hx hb (C := RX3) (T := TX3) (N := 8) hts uX3_in_X3_beginLine hown hK 4 rfl rfl 4 (by decide) (hts (.fieldLink RX3 29 "ValueBlocks$Program" "labelPlaces" "LValueBlocks$Row;") (by decide +kernel)) (fun _ h9 => h9) rfl dX3_beginLine_31 ?_
  refine jJ_of (fun H locs => lv_iconst (v := (nI 0)) hx hb dX3_beginLine_34 (by decide)) ?_
  refine jJ_callV (As := [.int (nI 0)]) (rest := []) (wc := _) (cs2 := [u4, u3, u2, v 0, [(h, .inr (2, [.ref (a 0), .ref (a 1), .ref (a 2), .ref (a 3), .ref (a 4), .ref (a 5), .ref (a 6), .ref (a 7)]))], v 5, v 6, v 7]) (C := RX5) (T := TX5) (N := 3) (ci := 4) [5] [0, 1, 2, 3, 4, 6, 7, 8] ⟨hx, hb, hml, hown, hts⟩ hK hA hAm (c_Row_addT (hr 4 (by decide)) (nI 0)) (cwV 1 hts gX3_beginLine_X5_add rfl rfl rfl (by decide +kernel) ⟨Nat.le_of_ble_eq_true rfl, Nat.le_of_ble_eq_true rfl⟩) (nn := 9) rfl (by decide) rfl rfl (hr 4 (by decide)).hd rfl rfl rfl hl.1 (Nat.le_of_ble_eq_true rfl) dX3_beginLine_35 (by show _ + 1 ≤ 8; omega) (by show _ + 32000 ≤ 256000; omega) (fun v u5 k5 n5 hq5 => ?_)
  obtain ⟨rfl, qq5, hqq5, hu5, hk5, hn5, hkk5, hnn5⟩ := hq5
  have hl5 := hu5.len
  refine jJ_eq (g2 := F0 m 38 ls []) (cs2 := [u5, u4, u3, u2, v 0, [(h, .inr (2, [.ref (a 0), .ref (a 1), .ref (a 2), .ref (a 3), .ref (a 4), .ref (a 5), .ref (a 6), .ref (a 7)]))], v 5, v 6, v 7]) rfl rfl ?_
  refine jJ_of (fun H locs => lv_aload_n hx hb dX3_beginLine_38 rfl (lv_at hl 0 rfl)) ?_
  refine jJ_get hx hb (C := RX3) (T := TX3) (N := 8) hts uX3_in_X3_beginLine hown hK 5 rfl rfl 5 (by decide) (hts (.fieldLink RX3 32 "ValueBlocks$Program" "numbers" "LValueBlocks$Row;") (by decide +kernel)) (fun _ h9 => h9) rfl dX3_beginLine_39 ?_
  refine jJ_of (fun H locs => lv_iconst (v := (iI (-1))) hx hb dX3_beginLine_42 (by decide)) ?_
  refine jJ_callV (As := [.int (iI (-1))]) (rest := []) (wc := _) (cs2 := [u5, u4, u3, u2, v 0, [(h, .inr (2, [.ref (a 0), .ref (a 1), .ref (a 2), .ref (a 3), .ref (a 4), .ref (a 5), .ref (a 6), .ref (a 7)]))], v 6, v 7]) (C := RX5) (T := TX5) (N := 3) (ci := 4) [6] [0, 1, 2, 3, 4, 5, 7, 8] ⟨hx, hb, hml, hown, hts⟩ hK hA hAm (c_Row_addT (hr 5 (by decide)) (iI (-1))) (cwV 1 hts gX3_beginLine_X5_add rfl rfl rfl (by decide +kernel) ⟨Nat.le_of_ble_eq_true rfl, Nat.le_of_ble_eq_true rfl⟩) (nn := 9) rfl (by decide) rfl rfl (hr 5 (by decide)).hd rfl rfl rfl hl.1 (Nat.le_of_ble_eq_true rfl) dX3_beginLine_43 (by show _ + 1 ≤ 8; omega) (by show _ + 32000 ≤ 256000; omega) (fun v u6 k6 n6 hq6 => ?_)
  obtain ⟨rfl, qq6, hqq6, hu6, hk6, hn6, hkk6, hnn6⟩ := hq6
  have hl6 := hu6.len
  refine jJ_eq (g2 := F0 m 46 ls []) (cs2 := [u6, u5, u4, u3, u2, v 0, [(h, .inr (2, [.ref (a 0), .ref (a 1), .ref (a 2), .ref (a 3), .ref (a 4), .ref (a 5), .ref (a 6), .ref (a 7)]))], v 6, v 7]) rfl rfl ?_
  refine jJ_of (fun H locs => lv_aload_n hx hb dX3_beginLine_46 rfl (lv_at hl 0 rfl)) ?_
  refine jJ_get hx hb (C := RX3) (T := TX3) (N := 8) hts uX3_in_X3_beginLine hown hK 6 rfl rfl 6 (by decide) (hts (.fieldLink RX3 35 "ValueBlocks$Program" "numberPlaces" "LValueBlocks$Row;") (by decide +kernel)) (fun _ h9 => h9) rfl dX3_beginLine_47 ?_
  refine jJ_of (fun H locs => lv_iconst (v := (nI 0)) hx hb dX3_beginLine_50 (by decide)) ?_
  refine jJ_callV (As := [.int (nI 0)]) (rest := []) (wc := _) (cs2 := [u6, u5, u4, u3, u2, v 0, [(h, .inr (2, [.ref (a 0), .ref (a 1), .ref (a 2), .ref (a 3), .ref (a 4), .ref (a 5), .ref (a 6), .ref (a 7)]))], v 7]) (C := RX5) (T := TX5) (N := 3) (ci := 4) [7] [0, 1, 2, 3, 4, 5, 6, 8] ⟨hx, hb, hml, hown, hts⟩ hK hA hAm (c_Row_addT (hr 6 (by decide)) (nI 0)) (cwV 1 hts gX3_beginLine_X5_add rfl rfl rfl (by decide +kernel) ⟨Nat.le_of_ble_eq_true rfl, Nat.le_of_ble_eq_true rfl⟩) (nn := 9) rfl (by decide) rfl rfl (hr 6 (by decide)).hd rfl rfl rfl hl.1 (Nat.le_of_ble_eq_true rfl) dX3_beginLine_51 (by show _ + 1 ≤ 8; omega) (by show _ + 32000 ≤ 256000; omega) (fun v u7 k7 n7 hq7 => ?_)
  obtain ⟨rfl, qq7, hqq7, hu7, hk7, hn7, hkk7, hnn7⟩ := hq7
  have hl7 := hu7.len
  refine jJ_eq (g2 := F0 m 54 ls []) (cs2 := [u7, u6, u5, u4, u3, u2, v 0, [(h, .inr (2, [.ref (a 0), .ref (a 1), .ref (a 2), .ref (a 3), .ref (a 4), .ref (a 5), .ref (a 6), .ref (a 7)]))], v 7]) rfl rfl ?_
  refine jJ_of (fun H locs => lv_aload_n hx hb dX3_beginLine_54 rfl (lv_at hl 0 rfl)) ?_
  refine jJ_get hx hb (C := RX3) (T := TX3) (N := 8) hts uX3_in_X3_beginLine hown hK 7 rfl rfl 7 (by decide) (hts (.fieldLink RX3 38 "ValueBlocks$Program" "targets" "LValueBlocks$Row;") (by decide +kernel)) (fun _ h9 => h9) rfl dX3_beginLine_55 ?_
  refine jJ_of (fun H locs => lv_iconst (v := (nI 0)) hx hb dX3_beginLine_58 (by decide)) ?_
  refine jJ_callV (As := [.int (nI 0)]) (rest := []) (wc := _) (cs2 := [u7, u6, u5, u4, u3, u2, v 0, [(h, .inr (2, [.ref (a 0), .ref (a 1), .ref (a 2), .ref (a 3), .ref (a 4), .ref (a 5), .ref (a 6), .ref (a 7)]))]]) (C := RX5) (T := TX5) (N := 3) (ci := 4) [8] [0, 1, 2, 3, 4, 5, 6, 7] ⟨hx, hb, hml, hown, hts⟩ hK hA hAm (c_Row_addT (hr 7 (by decide)) (nI 0)) (cwV 1 hts gX3_beginLine_X5_add rfl rfl rfl (by decide +kernel) ⟨Nat.le_of_ble_eq_true rfl, Nat.le_of_ble_eq_true rfl⟩) (nn := 9) rfl (by decide) rfl rfl (hr 7 (by decide)).hd rfl rfl rfl hl.1 (Nat.le_of_ble_eq_true rfl) dX3_beginLine_59 (by show _ + 1 ≤ 8; omega) (by show _ + 32000 ≤ 256000; omega) (fun v u8 k8 n8 hq8 => ?_)
  obtain ⟨rfl, qq8, hqq8, hu8, hk8, hn8, hkk8, hnn8⟩ := hq8
  have hl8 := hu8.len
  refine jJ_eq (g2 := F0 m 62 ls []) (cs2 := [u8, u7, u6, u5, u4, u3, u2, v 0, [(h, .inr (2, [.ref (a 0), .ref (a 1), .ref (a 2), .ref (a 3), .ref (a 4), .ref (a 5), .ref (a 6), .ref (a 7)]))]]) rfl rfl ?_
  refine jJ_perm [8, 7, 6, 5, 4, 3, 2, 1, 0] (nn := 9) rfl (by decide) (cs2 := [[(h, .inr (2, [.ref (a 0), .ref (a 1), .ref (a 2), .ref (a 3), .ref (a 4), .ref (a 5), .ref (a 6), .ref (a 7)]))], v 0, u2, u3, u4, u5, u6, u7, u8]) rfl ?_
  have hR1 := jrows_upd hr 1 hu2
  have hR2 := jrows_upd hR1 2 hu3
  have hR3 := jrows_upd hR2 3 hu4
  have hR4 := jrows_upd hR3 4 hu5
  have hR5 := jrows_upd hR4 5 hu6
  have hR6 := jrows_upd hR5 6 hu7
  have hR7 := jrows_upd hR6 7 hu8
  exact jJ_vret hx hb hr2 hlocks dX3_beginLine_62 (by show _ ≤ 8; omega) (by show _ ≤ 256000; omega) ⟨rfl, _, ⟨a, _, _, rfl, hR7, rfl⟩, by simp only [va_up, ite_true, ite_false, Nat.reduceEqDiff]; omega, by simp only [va_up, ite_true, ite_false, Nat.reduceEqDiff]; omega⟩
end RADD
