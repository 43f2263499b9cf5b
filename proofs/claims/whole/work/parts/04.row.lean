/-! ValueBlocks$Row: a row of ints; jRow h lim q xs w: the chunk w is the row at h, with limit lim, an array of 64 q, holding xs -/
theorem jFitZ {v : Int32} (h : v = 0 ∨ v = 1) : fits .boolean (.int v) = true := by rcases h with rfl | rfl <;> rfl
def jRow (cI : ClassId) (h lim q : Nat) (xs : List Int32) (w : va_W) : Prop := ∃ (a : Nat) (f : Nat → Int32) (cap : Nat), w = jF [[(h, .inr (4, [.int (nI lim), .ref a, .int (nI xs.length)]))], [(a, .inl (cI, cap, .inl f))]] ∧ cap = 64 * q ∧ (∀ i (hi : i < xs.length), f i = xs[i]) ∧ xs.length ≤ cap ∧ xs.length ≤ lim ∧ 1 ≤ q ∧ lim ≤ 16000 ∧ q ≤ 500
theorem jRow.hd {cI : ClassId} {h lim q : Nat} {xs : List Int32} {w : va_W} (hw : jRow cI h lim q xs w) : ∃ (i : Nat) (fs : List Value), w[i]? = some (h, .inr (4, fs)) := by
  obtain ⟨a, f, cap, rfl, -⟩ := hw
  exact ⟨0, _, rfl⟩
theorem jRow.len {cI : ClassId} {h lim q : Nat} {xs : List Int32} {w : va_W} (hw : jRow cI h lim q xs w) : xs.length ≤ lim ∧ lim ≤ 16000 ∧ 1 ≤ q ∧ q ≤ 500 := by
  obtain ⟨a, f, cap, rfl, hc, hf, h1, h2, h3, h4, h5⟩ := hw
  exact ⟨h2, h4, h3, h5⟩
theorem jel_app {xs : List Int32} {x : Int32} {f : Nat → Int32} (h : ∀ i (hi : i < xs.length), f i = xs[i]) (i : Nat) (hi : i < (xs ++ [x]).length) : upd f xs.length x i = (xs ++ [x])[i] := by
  unfold upd
  rcases Nat.lt_or_ge i xs.length with hlt | hge
  · rw [if_neg (by omega), List.getElem_append_left hlt]
    exact h i hlt
  · rw [List.length_append, List.length_singleton] at hi
    rw [if_pos (by omega), List.getElem_append_right hge]
    simp
theorem jel_set {xs : List Int32} {x : Int32} {j : Nat} {f : Nat → Int32} (h : ∀ i (hi : i < xs.length), f i = xs[i]) (i : Nat) (hi : i < (xs.set j x).length) : upd f j x i = (xs.set j x)[i] := by
  rw [List.length_set] at hi
  unfold upd
  rw [List.getElem_set]
  by_cases e : i = j
  · rw [if_pos e, if_pos e.symm]
  · rw [if_neg e, if_neg (fun q => e q.symm)]
    exact h i hi
section ROW
variable {D : va_G} {G : Nat → Nat} {cI cJ cB cZ : ClassId} {l : Launch}

theorem uX5_in_X5_size : ∀ w ∈ u_ws RX5 TX5 3, w ∈ wsX5_size := by decide +kernel
set_option maxHeartbeats 4000000 in
set_option maxRecDepth 100000 in
/-- size() -/
theorem c_Row_size {h lim q : Nat} {xs : List Int32} {w : va_W} (hw : jRow cI h lim q xs w) : HM l yX5_size wsX5_size ({ frames := 0, cells := 0, slots := 0, locals := 0 } : Room) D G (jT cI cJ cB cZ) [.ref h] w (fun v u k n => v = some (.int (nI xs.length)) ∧ u = w ∧ k = 0 ∧ n = 0) := by
  obtain ⟨a, f, cap, rfl, hc, hf, h1, h2, h3, h4, h5⟩ := hw
  refine HM_of (cc := cX5_size) (maxL := 1) (ret := (some .int)) (lv := [(0, .ref h)]) (by decide) rfl rfl (Nat.le_of_ble_eq_true rfl) (fun p e s m args below meth c A0 ls hx hb hr hts hown hlocks hml hnm hK hA hAm hl => ?_)
  refine jJ_open (xs := [[(h, .inr (4, [.int (nI lim), .ref a, .int (nI xs.length)]))], [(a, .inl (cI, cap, .inl f))]]) (r := []) (cs2 := [[(h, .inr (4, [.int (nI lim), .ref a, .int (nI xs.length)]))], [(a, .inl (cI, cap, .inl f))]]) rfl ?_
  refine jJ_of (fun H locs => lv_aload_n hx hb dX5_size_0 rfl (lv_at hl 0 rfl)) ?_
  refine jJ_get hx hb (C := RX5) (T := TX5) (N := 3) hts uX5_in_X5_size hown hK 0 rfl rfl 2 (by decide) (hts (.fieldLink RX5 17 "ValueBlocks$Row" "size" "I") (by decide +kernel)) (fun _ h9 => h9) rfl dX5_size_1 ?_
  exact jJ_iret hx hb hr hlocks dX5_size_4 (by show _ ≤ 0; omega) (by show _ ≤ 0; omega) ⟨rfl, rfl, rfl, rfl⟩
theorem uX5_in_X5_get : ∀ w ∈ u_ws RX5 TX5 3, w ∈ wsX5_get := by decide +kernel
set_option maxHeartbeats 4000000 in
set_option maxRecDepth 100000 in
/-- get(j) -/
theorem c_Row_get {h lim q : Nat} {xs : List Int32} {w : va_W} (hw : jRow cI h lim q xs w) (j : Nat) (hj : j < 2147483648) : HM l yX5_get wsX5_get ({ frames := 0, cells := 0, slots := 0, locals := 0 } : Room) D G (jT cI cJ cB cZ) [.ref h, .int (nI j)] w (fun v u k n => v = some (.int (xs.getD j 0)) ∧ u = w ∧ k = 0 ∧ n = 0) := by
  obtain ⟨a, f, cap, rfl, hc, hf, h1, h2, h3, h4, h5⟩ := hw
  refine HM_of (cc := cX5_get) (maxL := 2) (ret := (some .int)) (lv := [(0, .ref h), (1, .int (nI j))]) (by decide) rfl rfl (Nat.le_of_ble_eq_true rfl) (fun p e s m args below meth c A0 ls hx hb hr hts hown hlocks hml hnm hK hA hAm hl => ?_)
  refine jJ_open (xs := [[(h, .inr (4, [.int (nI lim), .ref a, .int (nI xs.length)]))], [(a, .inl (cI, cap, .inl f))]]) (r := []) (cs2 := [[(h, .inr (4, [.int (nI lim), .ref a, .int (nI xs.length)]))], [(a, .inl (cI, cap, .inl f))]]) rfl ?_
  refine jJ_of (fun H locs => lv_iload_n hx hb dX5_get_0 rfl (lv_at hl 1 rfl)) ?_
  refine jJ_of2 (fun H locs => jn_if_lt (tgt := 21) hx hb dX5_get_1 (by decide) (by omega)) (fun c1 => ?_) (fun c1 => ?_)
  · omega
  · refine jJ_of (fun H locs => lv_iload_n hx hb dX5_get_4 rfl (lv_at hl 1 rfl)) ?_
    refine jJ_of (fun H locs => lv_aload_n hx hb dX5_get_5 rfl (lv_at hl 0 rfl)) ?_
    refine jJ_get hx hb (C := RX5) (T := TX5) (N := 3) hts uX5_in_X5_get hown hK 0 rfl rfl 2 (by decide) (hts (.fieldLink RX5 17 "ValueBlocks$Row" "size" "I") (by decide +kernel)) (fun _ h9 => h9) rfl dX5_get_6 ?_
    refine jJ_of2 (fun H locs => jn_icmp_ge (tgt := 21) hx hb dX5_get_9 (by decide) (by omega) (by omega)) (fun c9 => ?_) (fun c9 => ?_)
    · refine jJ_of (fun H locs => lv_iconst (v := (nI 0)) hx hb dX5_get_21 (by decide)) ?_
      exact jJ_iret hx hb hr hlocks dX5_get_22 (by show _ ≤ 0; omega) (by show _ ≤ 0; omega) ⟨by rw [show xs.getD j 0 = 0 from by simp [List.getD_eq_getElem?_getD, List.getElem?_eq_none (show xs.length ≤ j by omega)]]; rfl, rfl, rfl, rfl⟩
    · refine jJ_of (fun H locs => lv_iload_n hx hb dX5_get_12 rfl (lv_at hl 1 rfl)) ?_
      refine jJ_of (fun H locs => lv_aload_n hx hb dX5_get_13 rfl (lv_at hl 0 rfl)) ?_
      refine jJ_get hx hb (C := RX5) (T := TX5) (N := 3) hts uX5_in_X5_get hown hK 0 rfl rfl 1 (by decide) (hts (.fieldLink RX5 13 "ValueBlocks$Row" "items" "[I") (by decide +kernel)) (fun _ h9 => h9) rfl dX5_get_14 ?_
      refine jJ_alen hx hb hK 1 0 rfl rfl (v := nI cap) rfl dX5_get_17 ?_
      refine jJ_of2 (fun H locs => jn_icmp_lt (tgt := 23) hx hb dX5_get_18 (by decide) (by omega) (by omega)) (fun c18 => ?_) (fun c18 => ?_)
      · refine jJ_of (fun H locs => lv_aload_n hx hb dX5_get_23 rfl (lv_at hl 0 rfl)) ?_
        refine jJ_get hx hb (C := RX5) (T := TX5) (N := 3) hts uX5_in_X5_get hown hK 0 rfl rfl 1 (by decide) (hts (.fieldLink RX5 13 "ValueBlocks$Row" "items" "[I") (by decide +kernel)) (fun _ h9 => h9) rfl dX5_get_24 ?_
        refine jJ_of (fun H locs => lv_iload_n hx hb dX5_get_27 rfl (lv_at hl 1 rfl)) ?_
        refine jJ_iald hx hb hK 1 0 (f := f) rfl rfl (vp_in_nI (by omega) (by omega)) (x := (xs.getD j 0)) (by rw [nI_clamp (by omega), hf j (by omega)]; simp [List.getD_eq_getElem?_getD, List.getElem?_eq_getElem (show j < xs.length by omega)]) dX5_get_28 ?_
        exact jJ_iret hx hb hr hlocks dX5_get_29 (by show _ ≤ 0; omega) (by show _ ≤ 0; omega) ⟨rfl, rfl, rfl, rfl⟩
      · omega
theorem uX5_in_X5_set : ∀ w ∈ u_ws RX5 TX5 3, w ∈ wsX5_set := by decide +kernel
set_option maxHeartbeats 4000000 in
set_option maxRecDepth 100000 in
/-- set(j, x) -/
theorem c_Row_set {h lim q : Nat} {xs : List Int32} {w : va_W} (hw : jRow cI h lim q xs w) (j : Nat) (x : Int32) (hj : j < 2147483648) : HM l yX5_set wsX5_set ({ frames := 0, cells := 0, slots := 0, locals := 0 } : Room) D G (jT cI cJ cB cZ) [.ref h, .int (nI j), .int x] w (fun v u k n => v = none ∧ jRow cI h lim q (xs.set j x) u ∧ k = 0 ∧ n = 0) := by
  obtain ⟨a, f, cap, rfl, hc, hf, h1, h2, h3, h4, h5⟩ := hw
  refine HM_of (cc := cX5_set) (maxL := 3) (ret := none) (lv := [(0, .ref h), (1, .int (nI j)), (2, .int x)]) (by decide) rfl rfl (Nat.le_of_ble_eq_true rfl) (fun p e s m args below meth c A0 ls hx hb hr hts hown hlocks hml hnm hK hA hAm hl => ?_)
  refine jJ_open (xs := [[(h, .inr (4, [.int (nI lim), .ref a, .int (nI xs.length)]))], [(a, .inl (cI, cap, .inl f))]]) (r := []) (cs2 := [[(h, .inr (4, [.int (nI lim), .ref a, .int (nI xs.length)]))], [(a, .inl (cI, cap, .inl f))]]) rfl ?_
  refine jJ_of (fun H locs => lv_iload_n hx hb dX5_set_0 rfl (lv_at hl 1 rfl)) ?_
  refine jJ_of2 (fun H locs => jn_if_lt (tgt := 28) hx hb dX5_set_1 (by decide) (by omega)) (fun c1 => ?_) (fun c1 => ?_)
  · omega
  · refine jJ_of (fun H locs => lv_iload_n hx hb dX5_set_4 rfl (lv_at hl 1 rfl)) ?_
    refine jJ_of (fun H locs => lv_aload_n hx hb dX5_set_5 rfl (lv_at hl 0 rfl)) ?_
    refine jJ_get hx hb (C := RX5) (T := TX5) (N := 3) hts uX5_in_X5_set hown hK 0 rfl rfl 2 (by decide) (hts (.fieldLink RX5 17 "ValueBlocks$Row" "size" "I") (by decide +kernel)) (fun _ h9 => h9) rfl dX5_set_6 ?_
    refine jJ_of2 (fun H locs => jn_icmp_ge (tgt := 28) hx hb dX5_set_9 (by decide) (by omega) (by omega)) (fun c9 => ?_) (fun c9 => ?_)
    · exact jJ_vret hx hb hr hlocks dX5_set_28 (by show _ ≤ 0; omega) (by show _ ≤ 0; omega) ⟨rfl, by rw [List.set_eq_of_length_le (by omega)]; exact ⟨a, f, cap, rfl, hc, hf, h1, h2, h3, h4, h5⟩, rfl, rfl⟩
    · refine jJ_of (fun H locs => lv_iload_n hx hb dX5_set_12 rfl (lv_at hl 1 rfl)) ?_
      refine jJ_of (fun H locs => lv_aload_n hx hb dX5_set_13 rfl (lv_at hl 0 rfl)) ?_
      refine jJ_get hx hb (C := RX5) (T := TX5) (N := 3) hts uX5_in_X5_set hown hK 0 rfl rfl 1 (by decide) (hts (.fieldLink RX5 13 "ValueBlocks$Row" "items" "[I") (by decide +kernel)) (fun _ h9 => h9) rfl dX5_set_14 ?_
      refine jJ_alen hx hb hK 1 0 rfl rfl (v := nI cap) rfl dX5_set_17 ?_
      refine jJ_of2 (fun H locs => jn_icmp_ge (tgt := 28) hx hb dX5_set_18 (by decide) (by omega) (by omega)) (fun c18 => ?_) (fun c18 => ?_)
      · omega
      · refine jJ_of (fun H locs => lv_aload_n hx hb dX5_set_21 rfl (lv_at hl 0 rfl)) ?_
        refine jJ_get hx hb (C := RX5) (T := TX5) (N := 3) hts uX5_in_X5_set hown hK 0 rfl rfl 1 (by decide) (hts (.fieldLink RX5 13 "ValueBlocks$Row" "items" "[I") (by decide +kernel)) (fun _ h9 => h9) rfl dX5_set_22 ?_
        refine jJ_of (fun H locs => lv_iload_n hx hb dX5_set_25 rfl (lv_at hl 1 rfl)) ?_
        refine jJ_of (fun H locs => lv_iload_n hx hb dX5_set_26 rfl (lv_at hl 2 rfl)) ?_
        refine jJ_iast hx hb hK 1 0 rfl rfl (vp_in_nI (by omega) (by omega)) dX5_set_27 (cs2 := [[(h, .inr (4, [.int (nI lim), .ref a, .int (nI xs.length)]))], [(a, .inl (cI, cap, .inl (upd f (Int32.toNatClampNeg (nI j)) x)))]]) rfl ?_
        exact jJ_vret hx hb hr hlocks dX5_set_28 (by show _ ≤ 0; omega) (by show _ ≤ 0; omega) ⟨rfl, ⟨a, _, cap, by rw [List.length_set], hc, fun i hi => by rw [nI_clamp (by omega)]; exact jel_set hf i hi, by rw [List.length_set]; exact h1, by rw [List.length_set]; exact h2, h3, h4, h5⟩, rfl, rfl⟩
theorem uX5_in_X5_cut : ∀ w ∈ u_ws RX5 TX5 3, w ∈ wsX5_cut := by decide +kernel
set_option maxHeartbeats 4000000 in
set_option maxRecDepth 100000 in
/-- cut(j) -/
theorem c_Row_cut {h lim q : Nat} {xs : List Int32} {w : va_W} (hw : jRow cI h lim q xs w) (j : Nat) (hj : j < 2147483648) : HM l yX5_cut wsX5_cut ({ frames := 0, cells := 0, slots := 0, locals := 0 } : Room) D G (jT cI cJ cB cZ) [.ref h, .int (nI j)] w (fun v u k n => v = none ∧ jRow cI h lim q (xs.take j) u ∧ k = 0 ∧ n = 0) := by
  obtain ⟨a, f, cap, rfl, hc, hf, h1, h2, h3, h4, h5⟩ := hw
  refine HM_of (cc := cX5_cut) (maxL := 2) (ret := none) (lv := [(0, .ref h), (1, .int (nI j))]) (by decide) rfl rfl (Nat.le_of_ble_eq_true rfl) (fun p e s m args below meth c A0 ls hx hb hr hts hown hlocks hml hnm hK hA hAm hl => ?_)
  refine jJ_open (xs := [[(h, .inr (4, [.int (nI lim), .ref a, .int (nI xs.length)]))], [(a, .inl (cI, cap, .inl f))]]) (r := []) (cs2 := [[(h, .inr (4, [.int (nI lim), .ref a, .int (nI xs.length)]))], [(a, .inl (cI, cap, .inl f))]]) rfl ?_
  refine jJ_of (fun H locs => lv_iload_n hx hb dX5_cut_0 rfl (lv_at hl 1 rfl)) ?_
  refine jJ_of2 (fun H locs => jn_if_lt (tgt := 17) hx hb dX5_cut_1 (by decide) (by omega)) (fun c1 => ?_) (fun c1 => ?_)
  · omega
  · refine jJ_of (fun H locs => lv_iload_n hx hb dX5_cut_4 rfl (lv_at hl 1 rfl)) ?_
    refine jJ_of (fun H locs => lv_aload_n hx hb dX5_cut_5 rfl (lv_at hl 0 rfl)) ?_
    refine jJ_get hx hb (C := RX5) (T := TX5) (N := 3) hts uX5_in_X5_cut hown hK 0 rfl rfl 2 (by decide) (hts (.fieldLink RX5 17 "ValueBlocks$Row" "size" "I") (by decide +kernel)) (fun _ h9 => h9) rfl dX5_cut_6 ?_
    refine jJ_of2 (fun H locs => jn_icmp_ge (tgt := 17) hx hb dX5_cut_9 (by decide) (by omega) (by omega)) (fun c9 => ?_) (fun c9 => ?_)
    · exact jJ_vret hx hb hr hlocks dX5_cut_17 (by show _ ≤ 0; omega) (by show _ ≤ 0; omega) ⟨rfl, by rw [List.take_of_length_le (by omega)]; exact ⟨a, f, cap, rfl, hc, hf, h1, h2, h3, h4, h5⟩, rfl, rfl⟩
    · refine jJ_of (fun H locs => lv_aload_n hx hb dX5_cut_12 rfl (lv_at hl 0 rfl)) ?_
      refine jJ_of (fun H locs => lv_iload_n hx hb dX5_cut_13 rfl (lv_at hl 1 rfl)) ?_
      refine jJ_put hx hb (C := RX5) (T := TX5) (N := 3) (ty := .int) (v := .int (nI j)) hts uX5_in_X5_cut tyX5 tyX5_ok nmX5 hown hK 0 rfl rfl 2 (by decide) (hts (.fieldLink RX5 17 "ValueBlocks$Row" "size" "I") (by decide +kernel)) (fun _ h9 => h9) rfl (by decide +kernel) rfl rfl (Nat.le_of_ble_eq_true rfl) dX5_cut_14 (cs2 := [[(h, .inr (4, [.int (nI lim), .ref a, .int (nI j)]))], [(a, .inl (cI, cap, .inl f))]]) rfl ?_
      exact jJ_vret hx hb hr hlocks dX5_cut_17 (by show _ ≤ 0; omega) (by show _ ≤ 0; omega) ⟨rfl, ⟨a, f, cap, by rw [List.length_take, Nat.min_eq_left (by omega)], hc, fun i hi => by rw [List.getElem_take]; exact hf i (by rw [List.length_take] at hi; omega), by rw [List.length_take]; omega, by rw [List.length_take]; omega, h3, h4, h5⟩, rfl, rfl⟩
set_option maxHeartbeats 4000000 in
set_option maxRecDepth 100000 in
/-- Arrays.copyOf to a longer one -/
theorem c_copyOf (a z z2 : Nat) (f : Nat → Int32) (hz : z < z2) (hz2 : z2 ≤ 32000) : HM l yJ7_copyOf_59c91 wsJ7_copyOf_59c91 ({ frames := 1, cells := 1, slots := 32000, locals := 60 } : Room) D G (jT cI cJ cB cZ) [.ref a, .int (nI z2)] ([(a, .inl (cI, z, .inl f))]) (fun v u k n => ∃ (a2 : Nat) (g : Nat → Int32), v = some (.ref a2) ∧ u = jF [[(a, .inl (cI, z, .inl f))], [(a2, .inl (cI, z2, .inl g))]] ∧ (∀ i, i < z → g i = f i) ∧ k ≤ 1 ∧ n ≤ z2) := by
  refine HM_ofF (cc := cJ7_copyOf_59c91) (maxL := 3) (ret := (some (.array .int))) (lv := [(0, .ref a), (1, .int (nI z2))]) (by decide +kernel) rfl rfl (Nat.le_of_ble_eq_true rfl) (fun p e s m args below meth c A0 ls hx hb hr hts hown hlocks hml hnm hK hA hAm hl => ?_)
  refine jJ_open (xs := [[(a, .inl (cI, z, .inl f))]]) (r := []) (cs2 := [[(a, .inl (cI, z, .inl f))]]) rfl ?_
  refine jJ_of (fun H locs => lv_iload_n hx hb dJ7_copyOf_59c91_0 rfl (lv_at hl 1 rfl)) ?_
  refine jJ_of (fun H locs => lv_aload_n hx hb dJ7_copyOf_59c91_1 rfl (lv_at hl 0 rfl)) ?_
  refine jJ_alen hx hb hK 0 0 rfl rfl (v := nI z) rfl dJ7_copyOf_59c91_2 ?_
  refine jJ_of2 (fun H locs => jn_icmp_ne (tgt := 14) hx hb dJ7_copyOf_59c91_3 (by decide) (by omega) (by omega)) (fun c3 => ?_) (fun c3 => ?_)
  · refine jJ_of (fun H locs => lv_iload_n hx hb dJ7_copyOf_59c91_14 rfl (lv_at hl 1 rfl)) ?_
    refine jJ_newa hx hb (atype := .int) (hts (.arrayClass .int) (by decide +kernel)) (ty := .int) rfl hK hA 0 rfl (N' := z2) (a0 := (z2, .inl (fun _ => 0))) (fun cA => by rw [vp_cell_i]; rfl) (by omega) (by decide) (by show _ + 1 ≤ 1; omega) (by show _ + z2 ≤ 32000; omega) dJ7_copyOf_59c91_15 (fun q15 => ?_)
    refine jJ_eq (g2 := F0 m 17 ls [.ref q15]) (cs2 := [[(a, .inl (cI, z, .inl f))], [(q15, .inl (cI, z2, .inl (fun _ => 0)))]]) rfl rfl ?_
    refine jJ_ofL (fun H locs => lv_astore_n (lv' := [(2, .ref q15), (0, .ref a), (1, .int (nI z2))]) hx hb dJ7_copyOf_59c91_17 rfl hl (by decide) rfl) (fun ls hl => ?_)
    refine jJ_of (fun H locs => lv_aload_n hx hb dJ7_copyOf_59c91_18 rfl (lv_at hl 1 rfl)) ?_
    refine jJ_of (fun H locs => lv_iconst (v := (nI 0)) hx hb dJ7_copyOf_59c91_19 (by decide)) ?_
    refine jJ_of (fun H locs => lv_aload_n hx hb dJ7_copyOf_59c91_20 rfl (lv_at hl 0 rfl)) ?_
    refine jJ_of (fun H locs => lv_iconst (v := (nI 0)) hx hb dJ7_copyOf_59c91_21 (by decide)) ?_
    refine jJ_of (fun H locs => lv_aload_n hx hb dJ7_copyOf_59c91_22 rfl (lv_at hl 1 rfl)) ?_
    refine jJ_alen hx hb hK 0 0 rfl rfl (v := nI z) rfl dJ7_copyOf_59c91_23 ?_
    refine jJ_of (fun H locs => lv_iload_n hx hb dJ7_copyOf_59c91_24 rfl (lv_at hl 2 rfl)) ?_
    refine jJ_of (g2 := F0 m 28 ls [.int (nI z), .int (nI 0), .ref q15, .int (nI 0), .ref a]) (fun H locs kk => va_mmin hx hb (by rw [hml]; exact hl.1.symm) hown (hts (.methodLink RJ7 304 Lib.Math.min.name) (by decide +kernel)) (hts (.static Lib.Math.min.name) (by decide +kernel)) (hts (.initialized "java/lang/Math") (by decide +kernel)) (hts (.code Lib.Math.min.name Lib.Math.min.code 2 (some .int)) (by decide +kernel)) (Nat.le_of_ble_eq_true rfl) (Nat.le_of_ble_eq_true rfl) (by show _ ≤ 1; omega) (by show _ ≤ 32000; omega) dJ7_copyOf_59c91_25 (by rw [if_neg (nI_nlt (by omega) (by omega))]; exact kk)) ?_
    refine jJ_copyi hx hb (by rw [hml]; exact hl.1.symm) hown (hts (.methodLink RJ7 150 arraycopyName) (by decide +kernel)) (hts (.native arraycopyName) (by decide +kernel)) (hts (.static arraycopyName) (by decide +kernel)) (hts (.initialized "java/lang/System") (by decide +kernel)) hK 0 1 0 0 rfl rfl rfl rfl (sp := 0) (dp := 0) (N := z) (by omega) (by omega) (by omega) (by omega) (by omega) (Nat.le_of_ble_eq_true rfl) (by decide) dJ7_copyOf_59c91_28 (cs2 := [[(a, .inl (cI, z, .inl f))], [(q15, .inl (cI, z2, .inl (va_cpy f (fun _ => 0) 0 0 z)))]]) rfl ?_
    refine jJ_of (fun H locs => lv_aload_n hx hb dJ7_copyOf_59c91_31 rfl (lv_at hl 0 rfl)) ?_
    exact jJ_aret hx hb hr (Or.inr ⟨_, rfl⟩) hlocks dJ7_copyOf_59c91_32 (by show _ ≤ 1; omega) (by show _ ≤ 32000; omega) ⟨q15, _, rfl, rfl, fun i hi => by rw [pk_cpy_in (Nat.zero_le i) (by omega)]; simp, by omega, by omega⟩
  · omega
theorem uX5_in_X5_add : ∀ w ∈ u_ws RX5 TX5 3, w ∈ wsX5_add := by decide +kernel
set_option maxHeartbeats 4000000 in
set_option maxRecDepth 100000 in
/-- add(x) -/
theorem c_Row_add {h lim q : Nat} {xs : List Int32} {w : va_W} (hw : jRow cI h lim q xs w) (x : Int32) (hlt : xs.length < lim) : HM l yX5_add wsX5_add ({ frames := 2, cells := 1, slots := 32000, locals := 100 } : Room) D G (jT cI cJ cB cZ) [.ref h, .int x] w (fun v u k n => v = none ∧ ∃ q2 : Nat, q ≤ q2 ∧ jRow cI h lim q2 (xs ++ [x]) u ∧ k + q ≤ q2 ∧ n + 128 * q ≤ 128 * q2 ∧ k ≤ 1 ∧ n ≤ 32000) := by
  obtain ⟨a, f, cap, rfl, hc, hf, h1, h2, h3, h4, h5⟩ := hw
  refine HM_of (cc := cX5_add) (maxL := 2) (ret := none) (lv := [(0, .ref h), (1, .int x)]) (by decide) rfl rfl (Nat.le_of_ble_eq_true rfl) (fun p e s m args below meth c A0 ls hx hb hr hts hown hlocks hml hnm hK hA hAm hl => ?_)
  refine jJ_open (xs := [[(h, .inr (4, [.int (nI lim), .ref a, .int (nI xs.length)]))], [(a, .inl (cI, cap, .inl f))]]) (r := []) (cs2 := [[(h, .inr (4, [.int (nI lim), .ref a, .int (nI xs.length)]))], [(a, .inl (cI, cap, .inl f))]]) rfl ?_
  refine jJ_of (fun H locs => lv_aload_n hx hb dX5_add_0 rfl (lv_at hl 0 rfl)) ?_
  refine jJ_get hx hb (C := RX5) (T := TX5) (N := 3) hts uX5_in_X5_add hown hK 0 rfl rfl 2 (by decide) (hts (.fieldLink RX5 17 "ValueBlocks$Row" "size" "I") (by decide +kernel)) (fun _ h9 => h9) rfl dX5_add_1 ?_
  refine jJ_of (fun H locs => lv_aload_n hx hb dX5_add_4 rfl (lv_at hl 0 rfl)) ?_
  refine jJ_get hx hb (C := RX5) (T := TX5) (N := 3) hts uX5_in_X5_add hown hK 0 rfl rfl 0 (by decide) (hts (.fieldLink RX5 7 "ValueBlocks$Row" "limit" "I") (by decide +kernel)) (fun _ h9 => h9) rfl dX5_add_5 ?_
  refine jJ_of2 (fun H locs => jn_icmp_lt (tgt := 12) hx hb dX5_add_8 (by decide) (by omega) (by omega)) (fun c8 => ?_) (fun c8 => ?_)
  · refine jJ_of (fun H locs => lv_aload_n hx hb dX5_add_12 rfl (lv_at hl 0 rfl)) ?_
    refine jJ_get hx hb (C := RX5) (T := TX5) (N := 3) hts uX5_in_X5_add hown hK 0 rfl rfl 2 (by decide) (hts (.fieldLink RX5 17 "ValueBlocks$Row" "size" "I") (by decide +kernel)) (fun _ h9 => h9) rfl dX5_add_13 ?_
    refine jJ_of (fun H locs => lv_aload_n hx hb dX5_add_16 rfl (lv_at hl 0 rfl)) ?_
    refine jJ_get hx hb (C := RX5) (T := TX5) (N := 3) hts uX5_in_X5_add hown hK 0 rfl rfl 1 (by decide) (hts (.fieldLink RX5 13 "ValueBlocks$Row" "items" "[I") (by decide +kernel)) (fun _ h9 => h9) rfl dX5_add_17 ?_
    refine jJ_alen hx hb hK 1 0 rfl rfl (v := nI cap) rfl dX5_add_20 ?_
    refine jJ_of2 (fun H locs => jn_icmp_lt (tgt := 42) hx hb dX5_add_21 (by decide) (by omega) (by omega)) (fun c21 => ?_) (fun c21 => ?_)
    · refine jJ_of (fun H locs => lv_aload_n hx hb dX5_add_42 rfl (lv_at hl 0 rfl)) ?_
      refine jJ_get hx hb (C := RX5) (T := TX5) (N := 3) hts uX5_in_X5_add hown hK 0 rfl rfl 2 (by decide) (hts (.fieldLink RX5 17 "ValueBlocks$Row" "size" "I") (by decide +kernel)) (fun _ h9 => h9) rfl dX5_add_43 ?_
      refine jJ_of2 (fun H locs => jn_if_lt (tgt := 81) hx hb dX5_add_46 (by decide) (by omega)) (fun c46 => ?_) (fun c46 => ?_)
      · omega
      · refine jJ_of (fun H locs => lv_aload_n hx hb dX5_add_49 rfl (lv_at hl 0 rfl)) ?_
        refine jJ_get hx hb (C := RX5) (T := TX5) (N := 3) hts uX5_in_X5_add hown hK 0 rfl rfl 2 (by decide) (hts (.fieldLink RX5 17 "ValueBlocks$Row" "size" "I") (by decide +kernel)) (fun _ h9 => h9) rfl dX5_add_50 ?_
        refine jJ_of (fun H locs => lv_aload_n hx hb dX5_add_53 rfl (lv_at hl 0 rfl)) ?_
        refine jJ_get hx hb (C := RX5) (T := TX5) (N := 3) hts uX5_in_X5_add hown hK 0 rfl rfl 1 (by decide) (hts (.fieldLink RX5 13 "ValueBlocks$Row" "items" "[I") (by decide +kernel)) (fun _ h9 => h9) rfl dX5_add_54 ?_
        refine jJ_alen hx hb hK 1 0 rfl rfl (v := nI cap) rfl dX5_add_57 ?_
        refine jJ_of2 (fun H locs => jn_icmp_ge (tgt := 81) hx hb dX5_add_58 (by decide) (by omega) (by omega)) (fun c58 => ?_) (fun c58 => ?_)
        · omega
        · refine jJ_of (fun H locs => lv_aload_n hx hb dX5_add_61 rfl (lv_at hl 0 rfl)) ?_
          refine jJ_get hx hb (C := RX5) (T := TX5) (N := 3) hts uX5_in_X5_add hown hK 0 rfl rfl 1 (by decide) (hts (.fieldLink RX5 13 "ValueBlocks$Row" "items" "[I") (by decide +kernel)) (fun _ h9 => h9) rfl dX5_add_62 ?_
          refine jJ_of (fun H locs => lv_aload_n hx hb dX5_add_65 rfl (lv_at hl 0 rfl)) ?_
          refine jJ_get hx hb (C := RX5) (T := TX5) (N := 3) hts uX5_in_X5_add hown hK 0 rfl rfl 2 (by decide) (hts (.fieldLink RX5 17 "ValueBlocks$Row" "size" "I") (by decide +kernel)) (fun _ h9 => h9) rfl dX5_add_66 ?_
          refine jJ_of (fun H locs => lv_iload_n hx hb dX5_add_69 rfl (lv_at hl 1 rfl)) ?_
          refine jJ_iast hx hb hK 1 0 rfl rfl (vp_in_nI (by omega) (by omega)) dX5_add_70 (cs2 := [[(h, .inr (4, [.int (nI lim), .ref a, .int (nI xs.length)]))], [(a, .inl (cI, cap, .inl (upd f (Int32.toNatClampNeg (nI xs.length)) x)))]]) rfl ?_
          refine jJ_of (fun H locs => lv_aload_n hx hb dX5_add_71 rfl (lv_at hl 0 rfl)) ?_
          refine jJ_of (fun H locs => lv_dup hx hb dX5_add_72 rfl) ?_
          refine jJ_get hx hb (C := RX5) (T := TX5) (N := 3) hts uX5_in_X5_add hown hK 0 rfl rfl 2 (by decide) (hts (.fieldLink RX5 17 "ValueBlocks$Row" "size" "I") (by decide +kernel)) (fun _ h9 => h9) rfl dX5_add_73 ?_
          refine jJ_of (fun H locs => lv_iconst (v := (nI 1)) hx hb dX5_add_76 (by decide)) ?_
          refine jJ_of (fun H locs => jn_iadd hx hb dX5_add_77) ?_
          refine jJ_put hx hb (C := RX5) (T := TX5) (N := 3) (ty := .int) (v := .int (nI (xs.length + 1))) hts uX5_in_X5_add tyX5 tyX5_ok nmX5 hown hK 0 rfl rfl 2 (by decide) (hts (.fieldLink RX5 17 "ValueBlocks$Row" "size" "I") (by decide +kernel)) (fun _ h9 => h9) rfl (by decide +kernel) rfl rfl (Nat.le_of_ble_eq_true rfl) dX5_add_78 (cs2 := [[(h, .inr (4, [.int (nI lim), .ref a, .int (nI (xs.length + 1))]))], [(a, .inl (cI, cap, .inl (upd f (Int32.toNatClampNeg (nI xs.length)) x)))]]) rfl ?_
          exact jJ_vret hx hb hr hlocks dX5_add_81 (by show _ ≤ 1; omega) (by show _ ≤ 32000; omega) ⟨rfl, q, by omega, ⟨a, _, cap, by rw [List.length_append, List.length_singleton], by omega, fun i hi => by rw [nI_clamp (by omega)]; exact jel_app hf i hi, by rw [List.length_append, List.length_singleton]; omega, by rw [List.length_append, List.length_singleton]; omega, by omega, h4, by omega⟩, by omega, by omega, by omega, by omega⟩
    · refine jJ_of (fun H locs => lv_aload_n hx hb dX5_add_24 rfl (lv_at hl 0 rfl)) ?_
      refine jJ_of (fun H locs => lv_aload_n hx hb dX5_add_25 rfl (lv_at hl 0 rfl)) ?_
      refine jJ_get hx hb (C := RX5) (T := TX5) (N := 3) hts uX5_in_X5_add hown hK 0 rfl rfl 1 (by decide) (hts (.fieldLink RX5 13 "ValueBlocks$Row" "items" "[I") (by decide +kernel)) (fun _ h9 => h9) rfl dX5_add_26 ?_
      refine jJ_of (fun H locs => lv_aload_n hx hb dX5_add_29 rfl (lv_at hl 0 rfl)) ?_
      refine jJ_get hx hb (C := RX5) (T := TX5) (N := 3) hts uX5_in_X5_add hown hK 0 rfl rfl 1 (by decide) (hts (.fieldLink RX5 13 "ValueBlocks$Row" "items" "[I") (by decide +kernel)) (fun _ h9 => h9) rfl dX5_add_30 ?_
      refine jJ_alen hx hb hK 1 0 rfl rfl (v := nI cap) rfl dX5_add_33 ?_
      refine jJ_of (fun H locs => lv_iconst (v := (nI 2)) hx hb dX5_add_34 (by decide)) ?_
      refine jJ_of (fun H locs => jn_imul hx hb dX5_add_35) ?_
      refine jJ_callS (As := [.ref a, .int (nI (cap * 2))]) (rest := [.ref h]) (wc := _) (cs2 := [[(h, .inr (4, [.int (nI lim), .ref a, .int (nI xs.length)]))]]) [1] [0] ⟨hx, hb, hml, hown, hts⟩ hK hA hAm (c_copyOf a cap (cap * 2) f (by omega) (by omega)) (va_cwS 2 hts gX5_add_J7_copyOf_59c91 rfl rfl rfl (by decide +kernel) ⟨Nat.le_of_ble_eq_true rfl, Nat.le_of_ble_eq_true rfl⟩) (nn := 2) rfl (by decide) rfl rfl rfl rfl hl.1 (Nat.le_of_ble_eq_true rfl) dX5_add_36 (by show _ + 1 ≤ 1; omega) (by show _ + 32000 ≤ 32000; omega) (fun v u1 k1 n1 hq1 => ?_)
      obtain ⟨a2, g, rfl, rfl, hg, hk1, hn1⟩ := hq1
      refine jJ_eq (g2 := F0 m 39 ls [.ref a2, .ref h]) (cs2 := [jF [[(a, .inl (cI, cap, .inl f))], [(a2, .inl (cI, cap * 2, .inl g))]], [(h, .inr (4, [.int (nI lim), .ref a, .int (nI xs.length)]))]]) rfl rfl ?_
      refine jJ_open (cs2 := [[(a, .inl (cI, cap, .inl f))], [(a2, .inl (cI, cap * 2, .inl g))], [(h, .inr (4, [.int (nI lim), .ref a, .int (nI xs.length)]))]]) rfl ?_
      refine jJ_put hx hb (C := RX5) (T := TX5) (N := 3) (ty := .array .int) (v := .ref a2) hts uX5_in_X5_add tyX5 tyX5_ok nmX5 hown hK 2 rfl rfl 1 (by decide) (hts (.fieldLink RX5 13 "ValueBlocks$Row" "items" "[I") (by decide +kernel)) (fun _ h9 => h9) rfl (by decide +kernel) rfl rfl (Nat.le_of_ble_eq_true rfl) dX5_add_39 (cs2 := [[(a, .inl (cI, cap, .inl f))], [(a2, .inl (cI, cap * 2, .inl g))], [(h, .inr (4, [.int (nI lim), .ref a2, .int (nI xs.length)]))]]) rfl ?_
      refine jJ_of (fun H locs => lv_aload_n hx hb dX5_add_42 rfl (lv_at hl 0 rfl)) ?_
      refine jJ_get hx hb (C := RX5) (T := TX5) (N := 3) hts uX5_in_X5_add hown hK 2 rfl rfl 2 (by decide) (hts (.fieldLink RX5 17 "ValueBlocks$Row" "size" "I") (by decide +kernel)) (fun _ h9 => h9) rfl dX5_add_43 ?_
      refine jJ_of2 (fun H locs => jn_if_lt (tgt := 81) hx hb dX5_add_46 (by decide) (by omega)) (fun c46 => ?_) (fun c46 => ?_)
      · omega
      · refine jJ_of (fun H locs => lv_aload_n hx hb dX5_add_49 rfl (lv_at hl 0 rfl)) ?_
        refine jJ_get hx hb (C := RX5) (T := TX5) (N := 3) hts uX5_in_X5_add hown hK 2 rfl rfl 2 (by decide) (hts (.fieldLink RX5 17 "ValueBlocks$Row" "size" "I") (by decide +kernel)) (fun _ h9 => h9) rfl dX5_add_50 ?_
        refine jJ_of (fun H locs => lv_aload_n hx hb dX5_add_53 rfl (lv_at hl 0 rfl)) ?_
        refine jJ_get hx hb (C := RX5) (T := TX5) (N := 3) hts uX5_in_X5_add hown hK 2 rfl rfl 1 (by decide) (hts (.fieldLink RX5 13 "ValueBlocks$Row" "items" "[I") (by decide +kernel)) (fun _ h9 => h9) rfl dX5_add_54 ?_
        refine jJ_alen hx hb hK 1 0 rfl rfl (v := nI (cap * 2)) rfl dX5_add_57 ?_
        refine jJ_of2 (fun H locs => jn_icmp_ge (tgt := 81) hx hb dX5_add_58 (by decide) (by omega) (by omega)) (fun c58 => ?_) (fun c58 => ?_)
        · omega
        · refine jJ_of (fun H locs => lv_aload_n hx hb dX5_add_61 rfl (lv_at hl 0 rfl)) ?_
          refine jJ_get hx hb (C := RX5) (T := TX5) (N := 3) hts uX5_in_X5_add hown hK 2 rfl rfl 1 (by decide) (hts (.fieldLink RX5 13 "ValueBlocks$Row" "items" "[I") (by decide +kernel)) (fun _ h9 => h9) rfl dX5_add_62 ?_
          refine jJ_of (fun H locs => lv_aload_n hx hb dX5_add_65 rfl (lv_at hl 0 rfl)) ?_
          refine jJ_get hx hb (C := RX5) (T := TX5) (N := 3) hts uX5_in_X5_add hown hK 2 rfl rfl 2 (by decide) (hts (.fieldLink RX5 17 "ValueBlocks$Row" "size" "I") (by decide +kernel)) (fun _ h9 => h9) rfl dX5_add_66 ?_
          refine jJ_of (fun H locs => lv_iload_n hx hb dX5_add_69 rfl (lv_at hl 1 rfl)) ?_
          refine jJ_iast hx hb hK 1 0 rfl rfl (vp_in_nI (by omega) (by omega)) dX5_add_70 (cs2 := [[(a, .inl (cI, cap, .inl f))], [(a2, .inl (cI, cap * 2, .inl (upd g (Int32.toNatClampNeg (nI xs.length)) x)))], [(h, .inr (4, [.int (nI lim), .ref a2, .int (nI xs.length)]))]]) rfl ?_
          refine jJ_of (fun H locs => lv_aload_n hx hb dX5_add_71 rfl (lv_at hl 0 rfl)) ?_
          refine jJ_of (fun H locs => lv_dup hx hb dX5_add_72 rfl) ?_
          refine jJ_get hx hb (C := RX5) (T := TX5) (N := 3) hts uX5_in_X5_add hown hK 2 rfl rfl 2 (by decide) (hts (.fieldLink RX5 17 "ValueBlocks$Row" "size" "I") (by decide +kernel)) (fun _ h9 => h9) rfl dX5_add_73 ?_
          refine jJ_of (fun H locs => lv_iconst (v := (nI 1)) hx hb dX5_add_76 (by decide)) ?_
          refine jJ_of (fun H locs => jn_iadd hx hb dX5_add_77) ?_
          refine jJ_put hx hb (C := RX5) (T := TX5) (N := 3) (ty := .int) (v := .int (nI (xs.length + 1))) hts uX5_in_X5_add tyX5 tyX5_ok nmX5 hown hK 2 rfl rfl 2 (by decide) (hts (.fieldLink RX5 17 "ValueBlocks$Row" "size" "I") (by decide +kernel)) (fun _ h9 => h9) rfl (by decide +kernel) rfl rfl (Nat.le_of_ble_eq_true rfl) dX5_add_78 (cs2 := [[(a, .inl (cI, cap, .inl f))], [(a2, .inl (cI, cap * 2, .inl (upd g (Int32.toNatClampNeg (nI xs.length)) x)))], [(h, .inr (4, [.int (nI lim), .ref a2, .int (nI (xs.length + 1))]))]]) rfl ?_
          refine jJ_drop [2, 1] [0] (nn := 3) rfl (by decide) (cs2 := [[(h, .inr (4, [.int (nI lim), .ref a2, .int (nI (xs.length + 1))]))], [(a2, .inl (cI, cap * 2, .inl (upd g (Int32.toNatClampNeg (nI xs.length)) x)))]]) rfl ?_
          exact jJ_vret hx hb hr hlocks dX5_add_81 (by show _ ≤ 1; omega) (by show _ ≤ 32000; omega) ⟨rfl, q * 2, by omega, ⟨a2, _, cap * 2, by rw [List.length_append, List.length_singleton], by omega, fun i hi => by rw [nI_clamp (by omega)]; exact jel_app (fun i hi => (hg i (by omega)).trans (hf i hi)) i hi, by rw [List.length_append, List.length_singleton]; omega, by rw [List.length_append, List.length_singleton]; omega, by omega, h4, by omega⟩, by omega, by omega, by omega, by omega⟩
  · omega
theorem uX5_in_X5_init : ∀ w ∈ u_ws RX5 TX5 3, w ∈ wsX5_init := by decide +kernel
set_option maxHeartbeats 4000000 in
set_option maxRecDepth 100000 in
/-- Row(lim) -/
theorem c_Row_init (h lim : Nat) (hl16 : lim ≤ 16000) : HM l yX5_init wsX5_init ({ frames := 1, cells := 1, slots := 64, locals := 20 } : Room) D G (jT cI cJ cB cZ) [.ref h, .int (nI lim)] ([(h, .inr (4, [.int (nI 0), .null, .int (nI 0)]))]) (fun v u k n => v = none ∧ jRow cI h lim 1 [] u ∧ k ≤ 1 ∧ n ≤ 64) := by
  refine HM_of (cc := cX5_init) (maxL := 2) (ret := none) (lv := [(0, .ref h), (1, .int (nI lim))]) (by decide) rfl rfl (Nat.le_of_ble_eq_true rfl) (fun p e s m args below meth c A0 ls hx hb hr hts hown hlocks hml hnm hK hA hAm hl => ?_)
  refine jJ_open (xs := [[(h, .inr (4, [.int (nI 0), .null, .int (nI 0)]))]]) (r := []) (cs2 := [[(h, .inr (4, [.int (nI 0), .null, .int (nI 0)]))]]) rfl ?_
  refine jJ_of (fun H locs => lv_aload_n hx hb dX5_init_0 rfl (lv_at hl 0 rfl)) ?_
  refine jJ_of (g2 := F0 m 4 ls []) (fun H locs kk => W.objInit hx hb hown (hts (.methodLink RX5 1 objectInit) (by decide +kernel)) (hts (.instanceMethod objectInit) (by decide +kernel)) (hts (.code objectInit ⟨#[0xb1]⟩ 1 none) (List.mem_of_getElem? (i := 3) rfl)) rfl (by rw [hml]; exact hl.1) rfl dX5_init_1 (Nat.le_of_ble_eq_true rfl) (Nat.le_of_ble_eq_true rfl) (W.eq rfl kk)) ?_
  refine jJ_of (fun H locs => lv_aload_n hx hb dX5_init_4 rfl (lv_at hl 0 rfl)) ?_
  refine jJ_of (fun H locs => lv_iload_n hx hb dX5_init_5 rfl (lv_at hl 1 rfl)) ?_
  refine jJ_putF hx hb (C := RX5) (T := TX5) (N := 3) (ty := .int) (v := .int (nI lim)) hts uX5_in_X5_init tyX5 tyX5_ok nmX5 hown hK 0 rfl rfl 0 (by decide) (hts (.fieldLink RX5 7 "ValueBlocks$Row" "limit" "I") (by decide +kernel)) (fun _ h9 => h9) rfl hnm rfl (by decide +kernel) rfl rfl (Nat.le_of_ble_eq_true rfl) dX5_init_6 (cs2 := [[(h, .inr (4, [.int (nI lim), .null, .int (nI 0)]))]]) rfl ?_
  refine jJ_of (fun H locs => lv_aload_n hx hb dX5_init_9 rfl (lv_at hl 0 rfl)) ?_
  refine jJ_of (fun H locs => lv_bipush (v := (nI 64)) hx hb dX5_init_10 (by decide)) ?_
  refine jJ_newa hx hb (atype := .int) (hts (.arrayClass .int) (by decide +kernel)) (ty := .int) rfl hK hA 0 rfl (N' := 64) (a0 := (64, .inl (fun _ => 0))) (fun cA => by rw [vp_cell_i]; rfl) (by omega) (by decide) (by show _ + 1 ≤ 1; omega) (by show _ + 64 ≤ 64; omega) dX5_init_12 (fun q12 => ?_)
  refine jJ_eq (g2 := F0 m 14 ls [.ref q12, .ref h]) (cs2 := [[(h, .inr (4, [.int (nI lim), .null, .int (nI 0)]))], [(q12, .inl (cI, 64, .inl (fun _ => 0)))]]) rfl rfl ?_
  refine jJ_put hx hb (C := RX5) (T := TX5) (N := 3) (ty := .array .int) (v := .ref q12) hts uX5_in_X5_init tyX5 tyX5_ok nmX5 hown hK 0 rfl rfl 1 (by decide) (hts (.fieldLink RX5 13 "ValueBlocks$Row" "items" "[I") (by decide +kernel)) (fun _ h9 => h9) rfl (by decide +kernel) rfl rfl (Nat.le_of_ble_eq_true rfl) dX5_init_14 (cs2 := [[(h, .inr (4, [.int (nI lim), .ref q12, .int (nI 0)]))], [(q12, .inl (cI, 64, .inl (fun _ => 0)))]]) rfl ?_
  refine jJ_of (fun H locs => lv_aload_n hx hb dX5_init_17 rfl (lv_at hl 0 rfl)) ?_
  refine jJ_of (fun H locs => lv_iconst (v := (nI 0)) hx hb dX5_init_18 (by decide)) ?_
  refine jJ_put hx hb (C := RX5) (T := TX5) (N := 3) (ty := .int) (v := .int (nI 0)) hts uX5_in_X5_init tyX5 tyX5_ok nmX5 hown hK 0 rfl rfl 2 (by decide) (hts (.fieldLink RX5 17 "ValueBlocks$Row" "size" "I") (by decide +kernel)) (fun _ h9 => h9) rfl (by decide +kernel) rfl rfl (Nat.le_of_ble_eq_true rfl) dX5_init_19 (cs2 := [[(h, .inr (4, [.int (nI lim), .ref q12, .int (nI 0)]))], [(q12, .inl (cI, 64, .inl (fun _ => 0)))]]) rfl ?_
  exact jJ_vret hx hb hr hlocks dX5_init_22 (by show _ ≤ 1; omega) (by show _ ≤ 64; omega) ⟨rfl, ⟨_, _, 64, rfl, rfl, fun i hi => absurd hi (Nat.not_lt_zero i), Nat.zero_le _, Nat.zero_le _, by omega, hl16, by omega⟩, by omega, by omega⟩
end ROW
