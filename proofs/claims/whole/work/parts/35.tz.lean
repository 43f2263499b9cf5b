/-! ValueBlocksModel: a text's bytes T, and how it is cut into tokens -/
def lk (T : List Nat) (k : Nat) : Int := if k < T.length then ((T.getD k 0 : Nat) : Int) else -1
theorem lk_c (T : List Nat) (k : Nat) : (k < T.length ∧ lk T k = ((T.getD k 0 : Nat) : Int)) ∨ (T.length ≤ k ∧ lk T k = -1) := by
  unfold lk
  split
  · exact Or.inl ⟨by assumption, rfl⟩
  · exact Or.inr ⟨by omega, rfl⟩
def tB (T : List Nat) (B : Nat → Int32) : Prop := T.length ≤ 16000 ∧ (∀ i, i < T.length → B i &&& nI 255 = nI (T.getD i 0)) ∧ (∀ j, T.getD j 0 < 256)
theorem pdF_st (T : List Nat) : ∀ (f i : Nat), T.length < f + i → pdF T f i < T.length → ¬ isDg (T.getD (pdF T f i) 0) = true
  | 0, i, h1, h2 => by
    have : pdF T 0 i = T.length := rfl
    omega
  | f + 1, i, h1, h2 => by
    unfold pdF at h2 ⊢
    split
    · rename_i q; rw [if_pos q] at h2; omega
    · rename_i q
      rw [if_neg q] at h2
      split
      · rename_i q2; rw [if_pos q2] at h2; exact pdF_st T f (i + 1) (by omega) h2
      · rename_i q2; exact q2
theorem pd_c {T : List Nat} {s e : Nat} (h1 : s ≤ e) (h2 : e ≤ pd T s) : (e < pd T s ∧ e < T.length ∧ 48 ≤ T.getD e 0 ∧ T.getD e 0 ≤ 57) ∨ (e = pd T s ∧ (T.length ≤ e ∨ T.getD e 0 < 48 ∨ 57 < T.getD e 0)) := by
  have h3 := (pdF_b T (T.length + 1) s).1
  have h4 : pd T s = pdF T (T.length + 1) s := rfl
  rcases Nat.lt_or_ge e (pd T s) with q | q
  · left
    have := of_decide_eq_true (pd_dg h1 q)
    exact ⟨q, by omega, this⟩
  · right
    refine ⟨by omega, ?_⟩
    rcases Nat.lt_or_ge e T.length with q2 | q2
    · have h5 := pdF_st T (T.length + 1) s (by omega) (by omega)
      rw [← h4, show pd T s = e by omega] at h5
      have h6 : ¬ (48 ≤ T.getD e 0 ∧ T.getD e 0 ≤ 57) := fun z => h5 (decide_eq_true z)
      omega
    · exact Or.inl q2
theorem nvF_end (T : List Nat) (e v : Nat) : ∀ d : Nat, nvF T e d e v = v
  | 0 => rfl
  | _ + 1 => if_pos (Nat.le_refl e)
def tL (tk : Nat → List Nat) : Prop := (tk 1).length = (tk 0).length ∧ (tk 2).length = (tk 0).length
theorem tL_add {tk : Nat → List Nat} (h : tL tk) (k s w : Nat) : tL (tkAdd tk k s w) := by
  constructor
  · show (tk 1 ++ [s]).length = (tk 0 ++ [k]).length
    rw [List.length_append, List.length_append, h.1]; rfl
  · show (tk 2 ++ [w]).length = (tk 0 ++ [k]).length
    rw [List.length_append, List.length_append, h.2]; rfl
theorem tkAdd_l (tk : Nat → List Nat) (k s w : Nat) : (tkAdd tk k s w 0).length = (tk 0).length + 1 := by
  show (tk 0 ++ [k]).length = _
  rw [List.length_append]; rfl
theorem getD_snoc (l : List Nat) (x i : Nat) : (l ++ [x]).getD i 0 = if i = l.length then x else l.getD i 0 := by
  rw [List.getD_eq_getElem?_getD, List.getD_eq_getElem?_getD]
  split
  · rename_i q; subst q; rw [List.getElem?_append_right (Nat.le_refl _), Nat.sub_self]; rfl
  · rename_i q
    rcases Nat.lt_or_ge i l.length with h | h
    · rw [List.getElem?_append_left h]
    · rw [List.getElem?_eq_none (by rw [List.length_append]; show l.length + 1 ≤ i; omega), List.getElem?_eq_none h]
theorem tV_add {tk : Nat → List Nat} {V V2 : Nat → Nat → Int32} (hT : tV tk V) (hl : tL tk) (hlt : (tk 0).length < 32008) {kd s w : Nat} (hk : kd < 1000) (hs : s < 1000000000) (hw : w < 1000000000)
    (h0 : V2 0 = upd (V 0) (tk 0).length (nI (kC kd))) (h1 : V2 1 = upd (V 1) (tk 0).length (nI s)) (h2 : V2 2 = upd (V 2) (tk 0).length (nI (kW kd w))) (h3 : V2 3 = upd (V 3) (tk 0).length (bI (decide (kd = 256)))) : tV (tkAdd tk kd s w) V2 := by
  have e0 : ∀ i, (tkAdd tk kd s w 0).getD i 0 = if i = (tk 0).length then kd else (tk 0).getD i 0 := fun i => getD_snoc (tk 0) kd i
  have e1 : ∀ i, (tkAdd tk kd s w 1).getD i 0 = if i = (tk 0).length then s else (tk 1).getD i 0 := fun i => by rw [← hl.1]; exact getD_snoc (tk 1) s i
  have e2 : ∀ i, (tkAdd tk kd s w 2).getD i 0 = if i = (tk 0).length then w else (tk 2).getD i 0 := fun i => by rw [← hl.2]; exact getD_snoc (tk 2) w i
  refine ⟨by rw [tkAdd_l]; omega, fun i hi => ?_, fun i => ?_⟩
  · rw [tkAdd_l] at hi
    rw [e0, e1, e2, h0, h1, h2, h3]
    show (if _ then _ else _) = _ ∧ (if _ then _ else _) = _ ∧ (if _ then _ else _) = _ ∧ (if _ then _ else _) = _
    by_cases q : i = (tk 0).length
    · simp only [if_pos q, and_self]
    · simp only [if_neg q]
      exact hT.2.1 i (by omega)
  · rw [e0, e1, e2]
    have := hT.2.2 i
    split <;> omega
theorem nar_z (b : Bool) : bI b &&& 1 = bI b := by cases b <;> decide
theorem nar_b {k : Nat} (h : k ≤ 5) : vp_nar .byte (nI k) = nI k := by
  rcases (show k = 0 ∨ k = 1 ∨ k = 2 ∨ k = 3 ∨ k = 4 ∨ k = 5 by omega) with rfl | rfl | rfl | rfl | rfl | rfl <;> decide
theorem i2b_s {k : Nat} (h : k ≤ 5) : (nI k).toInt8.toInt32 = nI k := by
  rcases (show k = 0 ∨ k = 1 ∨ k = 2 ∨ k = 3 ∨ k = 4 ∨ k = 5 by omega) with rfl | rfl | rfl | rfl | rfl | rfl <;> decide
def bWd (cB : ClassId) (Z : Nat → Nat) (E X : Nat → Value) (B : Nat → Int32) (n : Nat) : List va_W :=
  [[(Z 0, .inr (8, [E 0, E 1, E 2, .ref (Z 1), E 4, E 5, E 6, E 7, E 8, E 9, E 10, E 11, E 12, E 13, E 14, E 15, E 16, E 17, E 18]))], [(Z 1, .inr (7, [.ref (Z 8), .int (nI n), X 2, X 3, X 4, X 5, X 6, X 7, X 8, X 9, X 10, X 11, X 12]))], [(Z 8, .inl (cB, 16000, .inl B))]]
def tWd (cI cB cZ : ClassId) (Z : Nat → Nat) (E X : Nat → Value) (V : Nat → Nat → Int32) (tn : Nat) : List va_W :=
  [[(Z 0, .inr (8, [E 0, E 1, E 2, .ref (Z 1), E 4, E 5, E 6, E 7, E 8, E 9, E 10, E 11, E 12, E 13, E 14, E 15, E 16, E 17, E 18]))], [(Z 1, .inr (7, [X 0, X 1, .ref (Z 3), .ref (Z 4), .ref (Z 5), .ref (Z 6), .int (nI tn), X 7, X 8, X 9, X 10, X 11, X 12]))], [(Z 3, .inl (cB, 32008, .inl (V 0)))], [(Z 4, .inl (cI, 32008, .inl (V 1)))], [(Z 5, .inl (cI, 32008, .inl (V 2)))], [(Z 6, .inl (cZ, 32008, .inl (V 3)))]]
def zW (cI cB cZ : ClassId) (Z : Nat → Nat) (E X : Nat → Value) (B : Nat → Int32) (V : Nat → Nat → Int32) (n tn : Nat) : List va_W :=
  [[(Z 0, .inr (8, [E 0, E 1, E 2, .ref (Z 1), E 4, E 5, E 6, E 7, E 8, E 9, E 10, E 11, E 12, E 13, E 14, E 15, E 16, E 17, E 18]))], [(Z 1, .inr (7, [.ref (Z 8), .int (nI n), .ref (Z 3), .ref (Z 4), .ref (Z 5), .ref (Z 6), .int (nI tn), X 7, X 8, X 9, X 10, X 11, X 12]))], [(Z 8, .inl (cB, 16000, .inl B))], [(Z 3, .inl (cB, 32008, .inl (V 0)))], [(Z 4, .inl (cI, 32008, .inl (V 1)))], [(Z 5, .inl (cI, 32008, .inl (V 2)))], [(Z 6, .inl (cZ, 32008, .inl (V 3)))]]
def vRow4 (a b c d : Nat → Int32) : Nat → Nat → Int32 := fun i => if i = 0 then a else if i = 1 then b else if i = 2 then c else d
section MZ
variable {D : va_G} {G : Nat → Nat} {cI cJ cB cZ : ClassId} {l : Launch}

theorem uX10_in_X10_look : ∀ w ∈ u_ws RX10 TX10 19, w ∈ wsX10_look := by decide +kernel
theorem uX9_in_X10_look : ∀ w ∈ u_ws RX9 TX9 13, w ∈ wsX10_look := by decide +kernel
set_option maxHeartbeats 4000000 in
set_option maxRecDepth 100000 in
/-- look(k) -/
theorem c_Md_look {Z : Nat → Nat} {E X : Nat → Value} {B : Nat → Int32} {T : List Nat} (hB : tB T B) (k : Nat) (hk : k < 100000) : HM l yX10_look wsX10_look ({ frames := 0, cells := 0, slots := 0, locals := 0 } : Room) D G (jT cI cJ cB cZ) [.ref (Z 0), .int (nI k)] (jF (bWd cB Z E X B T.length)) (fun v u k9 n9 => v = some (.int (iI (lk T k))) ∧ u = jF (bWd cB Z E X B T.length) ∧ k9 = 0 ∧ n9 = 0) := by
  refine HM_of (cc := cX10_look) (maxL := 2) (ret := (some .int)) (lv := [(0, .ref (Z 0)), (1, .int (nI k))]) (by decide) rfl rfl (Nat.le_of_ble_eq_true rfl) (fun p e s m args below meth c A0 ls hx hb hr hts hown hlocks hml hnm hK hA hAm hl => ?_)
  refine jJ_open (xs := [[(Z 0, .inr (8, [E 0, E 1, E 2, .ref (Z 1), E 4, E 5, E 6, E 7, E 8, E 9, E 10, E 11, E 12, E 13, E 14, E 15, E 16, E 17, E 18]))], [(Z 1, .inr (7, [.ref (Z 8), .int (nI T.length), X 2, X 3, X 4, X 5, X 6, X 7, X 8, X 9, X 10, X 11, X 12]))], [(Z 8, .inl (cB, 16000, .inl B))]]) (r := []) (cs2 := [[(Z 0, .inr (8, [E 0, E 1, E 2, .ref (Z 1), E 4, E 5, E 6, E 7, E 8, E 9, E 10, E 11, E 12, E 13, E 14, E 15, E 16, E 17, E 18]))], [(Z 1, .inr (7, [.ref (Z 8), .int (nI T.length), X 2, X 3, X 4, X 5, X 6, X 7, X 8, X 9, X 10, X 11, X 12]))], [(Z 8, .inl (cB, 16000, .inl B))]]) rfl ?_
  have hL9 := hB.1
  refine jJ_of (fun H locs => lv_iload_n hx hb dX10_look_0 rfl (lv_at hl 1 rfl)) ?_
  refine jJ_of (fun H locs => lv_aload_n hx hb dX10_look_1 rfl (lv_at hl 0 rfl)) ?_
  refine jJ_get hx hb (C := RX10) (T := TX10) (N := 19) hts uX10_in_X10_look hown hK 0 rfl rfl 3 (by decide) (hts (.fieldLink RX10 53 "ValueBlocksModel" "t" "LValueBlocksModel$Text;") (by decide +kernel)) (fun _ h9 => h9) rfl dX10_look_2 ?_
  refine jJ_get hx hb (C := RX9) (T := TX9) (N := 13) hts uX9_in_X10_look hown hK 1 rfl rfl 1 (by decide) (hts (.fieldLink RX10 56 "ValueBlocksModel$Text" "size" "I") (by decide +kernel)) (fun _ h9 => h9) rfl dX10_look_5 ?_
  refine jJ_of2 (fun H locs => jn_icmp_ge (tgt := 27) hx hb dX10_look_8 (by decide) (by omega) (by omega)) (fun c8 => ?_) (fun c8 => ?_)
  · refine jJ_of (fun H locs => lv_iconst (v := (iI (-1))) hx hb dX10_look_27 (by decide)) ?_
    exact jJ_iret hx hb hr hlocks dX10_look_28 (by show _ ≤ 0; omega) (by show _ ≤ 0; omega) ⟨by rw [show lk T k = -1 from if_neg (by omega)], rfl, rfl, rfl⟩
  · refine jJ_of (fun H locs => lv_aload_n hx hb dX10_look_11 rfl (lv_at hl 0 rfl)) ?_
    refine jJ_get hx hb (C := RX10) (T := TX10) (N := 19) hts uX10_in_X10_look hown hK 0 rfl rfl 3 (by decide) (hts (.fieldLink RX10 53 "ValueBlocksModel" "t" "LValueBlocksModel$Text;") (by decide +kernel)) (fun _ h9 => h9) rfl dX10_look_12 ?_
    refine jJ_get hx hb (C := RX9) (T := TX9) (N := 13) hts uX9_in_X10_look hown hK 1 rfl rfl 0 (by decide) (hts (.fieldLink RX10 59 "ValueBlocksModel$Text" "bytes" "[B") (by decide +kernel)) (fun _ h9 => h9) rfl dX10_look_15 ?_
    refine jJ_of (fun H locs => lv_iload_n hx hb dX10_look_18 rfl (lv_at hl 1 rfl)) ?_
    refine jJ_bald hx hb hK 2 2 (f := B) rfl rfl (vp_in_nI (by omega) (by omega)) (x := (B k)) (by rw [nI_clamp (by omega)]) dX10_look_19 ?_
    refine jJ_of (fun H locs => lv_sipush (v := (nI 255)) hx hb dX10_look_20 (by decide)) ?_
    refine jJ_of (fun H locs => lv_iand hx hb dX10_look_23) ?_
    refine jJ_of (fun H locs => lv_goto (tgt := 28) hx hb dX10_look_24 (by decide)) ?_
    exact jJ_iret hx hb hr hlocks dX10_look_28 (by show _ ≤ 0; omega) (by show _ ≤ 0; omega) ⟨by rw [hB.2.1 k (by omega), nI_iI, show lk T k = ((T.getD k 0 : Nat) : Int) from if_pos (by omega)], rfl, rfl, rfl⟩
set_option maxHeartbeats 4000000 in
set_option maxRecDepth 100000 in
/-- X10_isDigit -/
theorem c_Md_isDigit (z : Int) (h1 : -10 ≤ z) (h2 : z < 1000) : HM l yX10_isDigit wsX10_isDigit ({ frames := 0, cells := 0, slots := 0, locals := 0 } : Room) D G (jT cI cJ cB cZ) [.int (iI z)] ([]) (fun v u k n => v = some (.int (bI (decide (48 ≤ z ∧ z ≤ 57)))) ∧ u = [] ∧ k = 0 ∧ n = 0) := by
  refine HM_of (cc := cX10_isDigit) (maxL := 1) (ret := (some .boolean)) (lv := [(0, .int (iI z))]) (by decide) rfl rfl (Nat.le_of_ble_eq_true rfl) (fun p e s m args below meth c A0 ls hx hb hr hts hown hlocks hml hnm hK hA hAm hl => ?_)
  refine jJ_of (fun H locs => lv_iload_n hx hb dX10_isDigit_0 rfl (lv_at hl 0 rfl)) ?_
  refine jJ_of (fun H locs => lv_bipush (v := (nI 48)) hx hb dX10_isDigit_1 (by decide)) ?_
  rw [nI_iI 48]
  refine jJ_eq (g2 := F0 m 3 ls [.int (iI 48), .int (iI z)]) (cs2 := [[]]) rfl rfl ?_
  refine jJ_of2 (fun H locs => jz_icmp_lt (tgt := 16) hx hb dX10_isDigit_3 (by decide) (by omega) (by omega) (by omega) (by omega)) (fun c3 => ?_) (fun c3 => ?_)
  · refine jJ_of (fun H locs => lv_iconst (v := (nI 0)) hx hb dX10_isDigit_16 (by decide)) ?_
    exact jJ_zret hx hb hr hlocks dX10_isDigit_17 (by show _ ≤ 0; omega) (by show _ ≤ 0; omega) (Or.inl rfl) ⟨by rw [show decide (48 ≤ z ∧ z ≤ 57) = false from decide_eq_false (by omega)]; rfl, rfl, rfl, rfl⟩
  · refine jJ_of (fun H locs => lv_iload_n hx hb dX10_isDigit_6 rfl (lv_at hl 0 rfl)) ?_
    refine jJ_of (fun H locs => lv_bipush (v := (nI 57)) hx hb dX10_isDigit_7 (by decide)) ?_
    rw [nI_iI 57]
    refine jJ_eq (g2 := F0 m 9 ls [.int (iI 57), .int (iI z)]) (cs2 := [[]]) rfl rfl ?_
    refine jJ_of2 (fun H locs => jz_icmp_gt (tgt := 16) hx hb dX10_isDigit_9 (by decide) (by omega) (by omega) (by omega) (by omega)) (fun c9 => ?_) (fun c9 => ?_)
    · refine jJ_of (fun H locs => lv_iconst (v := (nI 0)) hx hb dX10_isDigit_16 (by decide)) ?_
      exact jJ_zret hx hb hr hlocks dX10_isDigit_17 (by show _ ≤ 0; omega) (by show _ ≤ 0; omega) (Or.inl rfl) ⟨by rw [show decide (48 ≤ z ∧ z ≤ 57) = false from decide_eq_false (by omega)]; rfl, rfl, rfl, rfl⟩
    · refine jJ_of (fun H locs => lv_iconst (v := (nI 1)) hx hb dX10_isDigit_12 (by decide)) ?_
      refine jJ_of (fun H locs => lv_goto (tgt := 17) hx hb dX10_isDigit_13 (by decide)) ?_
      exact jJ_zret hx hb hr hlocks dX10_isDigit_17 (by show _ ≤ 0; omega) (by show _ ≤ 0; omega) (Or.inr rfl) ⟨by rw [show decide (48 ≤ z ∧ z ≤ 57) = true from decide_eq_true (by omega)]; rfl, rfl, rfl, rfl⟩
set_option maxHeartbeats 4000000 in
set_option maxRecDepth 100000 in
/-- X10_isCapital -/
theorem c_Md_isCapital (z : Int) (h1 : -10 ≤ z) (h2 : z < 1000) : HM l yX10_isCapital wsX10_isCapital ({ frames := 0, cells := 0, slots := 0, locals := 0 } : Room) D G (jT cI cJ cB cZ) [.int (iI z)] ([]) (fun v u k n => v = some (.int (bI (decide (65 ≤ z ∧ z ≤ 90)))) ∧ u = [] ∧ k = 0 ∧ n = 0) := by
  refine HM_of (cc := cX10_isCapital) (maxL := 1) (ret := (some .boolean)) (lv := [(0, .int (iI z))]) (by decide) rfl rfl (Nat.le_of_ble_eq_true rfl) (fun p e s m args below meth c A0 ls hx hb hr hts hown hlocks hml hnm hK hA hAm hl => ?_)
  refine jJ_of (fun H locs => lv_iload_n hx hb dX10_isCapital_0 rfl (lv_at hl 0 rfl)) ?_
  refine jJ_of (fun H locs => lv_bipush (v := (nI 65)) hx hb dX10_isCapital_1 (by decide)) ?_
  rw [nI_iI 65]
  refine jJ_eq (g2 := F0 m 3 ls [.int (iI 65), .int (iI z)]) (cs2 := [[]]) rfl rfl ?_
  refine jJ_of2 (fun H locs => jz_icmp_lt (tgt := 16) hx hb dX10_isCapital_3 (by decide) (by omega) (by omega) (by omega) (by omega)) (fun c3 => ?_) (fun c3 => ?_)
  · refine jJ_of (fun H locs => lv_iconst (v := (nI 0)) hx hb dX10_isCapital_16 (by decide)) ?_
    exact jJ_zret hx hb hr hlocks dX10_isCapital_17 (by show _ ≤ 0; omega) (by show _ ≤ 0; omega) (Or.inl rfl) ⟨by rw [show decide (65 ≤ z ∧ z ≤ 90) = false from decide_eq_false (by omega)]; rfl, rfl, rfl, rfl⟩
  · refine jJ_of (fun H locs => lv_iload_n hx hb dX10_isCapital_6 rfl (lv_at hl 0 rfl)) ?_
    refine jJ_of (fun H locs => lv_bipush (v := (nI 90)) hx hb dX10_isCapital_7 (by decide)) ?_
    rw [nI_iI 90]
    refine jJ_eq (g2 := F0 m 9 ls [.int (iI 90), .int (iI z)]) (cs2 := [[]]) rfl rfl ?_
    refine jJ_of2 (fun H locs => jz_icmp_gt (tgt := 16) hx hb dX10_isCapital_9 (by decide) (by omega) (by omega) (by omega) (by omega)) (fun c9 => ?_) (fun c9 => ?_)
    · refine jJ_of (fun H locs => lv_iconst (v := (nI 0)) hx hb dX10_isCapital_16 (by decide)) ?_
      exact jJ_zret hx hb hr hlocks dX10_isCapital_17 (by show _ ≤ 0; omega) (by show _ ≤ 0; omega) (Or.inl rfl) ⟨by rw [show decide (65 ≤ z ∧ z ≤ 90) = false from decide_eq_false (by omega)]; rfl, rfl, rfl, rfl⟩
    · refine jJ_of (fun H locs => lv_iconst (v := (nI 1)) hx hb dX10_isCapital_12 (by decide)) ?_
      refine jJ_of (fun H locs => lv_goto (tgt := 17) hx hb dX10_isCapital_13 (by decide)) ?_
      exact jJ_zret hx hb hr hlocks dX10_isCapital_17 (by show _ ≤ 0; omega) (by show _ ≤ 0; omega) (Or.inr rfl) ⟨by rw [show decide (65 ≤ z ∧ z ≤ 90) = true from decide_eq_true (by omega)]; rfl, rfl, rfl, rfl⟩
theorem uX10_in_X10_token : ∀ w ∈ u_ws RX10 TX10 19, w ∈ wsX10_token := by decide +kernel
theorem uX9_in_X10_token : ∀ w ∈ u_ws RX9 TX9 13, w ∈ wsX10_token := by decide +kernel
set_option maxHeartbeats 4000000 in
set_option maxRecDepth 100000 in
/-- token(..) -/
theorem c_Md_token {Z : Nat → Nat} {E X : Nat → Value} {V : Nat → Nat → Int32} {tk : Nat → List Nat} (hT : tV tk V) (hl9 : tL tk) (hlt : (tk 0).length < 32008) (kd s9 w9 : Nat) (hkd : kd < 1000) (hs : s9 < 1000000000) (hw : w9 < 1000000000) : HM l yX10_token wsX10_token ({ frames := 0, cells := 0, slots := 0, locals := 0 } : Room) D G (jT cI cJ cB cZ) [.ref (Z 0), .int (nI (kC kd)), .int (nI s9), .int (nI (kW kd w9)), .int (bI (decide (kd = 256)))] (jF (tWd cI cB cZ Z E X V ((tk 0).length))) (fun v u k n => v = none ∧ ∃ V2 : Nat → Nat → Int32, tV (tkAdd tk kd s9 w9) V2 ∧ u = jF (tWd cI cB cZ Z E X V2 ((tk 0).length + 1)) ∧ k = 0 ∧ n = 0) := by
  refine HM_of (cc := cX10_token) (maxL := 5) (ret := none) (lv := [(0, .ref (Z 0)), (1, .int (nI (kC kd))), (2, .int (nI s9)), (3, .int (nI (kW kd w9))), (4, .int (bI (decide (kd = 256))))]) (by decide) rfl rfl (Nat.le_of_ble_eq_true rfl) (fun p e s m args below meth c A0 ls hx hb hr hts hown hlocks hml hnm hK hA hAm hl => ?_)
  refine jJ_open (xs := [[(Z 0, .inr (8, [E 0, E 1, E 2, .ref (Z 1), E 4, E 5, E 6, E 7, E 8, E 9, E 10, E 11, E 12, E 13, E 14, E 15, E 16, E 17, E 18]))], [(Z 1, .inr (7, [X 0, X 1, .ref (Z 3), .ref (Z 4), .ref (Z 5), .ref (Z 6), .int (nI ((tk 0).length)), X 7, X 8, X 9, X 10, X 11, X 12]))], [(Z 3, .inl (cB, 32008, .inl (V 0)))], [(Z 4, .inl (cI, 32008, .inl (V 1)))], [(Z 5, .inl (cI, 32008, .inl (V 2)))], [(Z 6, .inl (cZ, 32008, .inl (V 3)))]]) (r := []) (cs2 := [[(Z 0, .inr (8, [E 0, E 1, E 2, .ref (Z 1), E 4, E 5, E 6, E 7, E 8, E 9, E 10, E 11, E 12, E 13, E 14, E 15, E 16, E 17, E 18]))], [(Z 1, .inr (7, [X 0, X 1, .ref (Z 3), .ref (Z 4), .ref (Z 5), .ref (Z 6), .int (nI ((tk 0).length)), X 7, X 8, X 9, X 10, X 11, X 12]))], [(Z 3, .inl (cB, 32008, .inl (V 0)))], [(Z 4, .inl (cI, 32008, .inl (V 1)))], [(Z 5, .inl (cI, 32008, .inl (V 2)))], [(Z 6, .inl (cZ, 32008, .inl (V 3)))]]) rfl ?_
  have hL9 := hT.1
  have hkc := kC_le kd
  refine jJ_of (fun H locs => lv_aload_n hx hb dX10_token_0 rfl (lv_at hl 0 rfl)) ?_
  refine jJ_get hx hb (C := RX10) (T := TX10) (N := 19) hts uX10_in_X10_token hown hK 0 rfl rfl 3 (by decide) (hts (.fieldLink RX10 53 "ValueBlocksModel" "t" "LValueBlocksModel$Text;") (by decide +kernel)) (fun _ h9 => h9) rfl dX10_token_1 ?_
  refine jJ_get hx hb (C := RX9) (T := TX9) (N := 13) hts uX9_in_X10_token hown hK 1 rfl rfl 2 (by decide) (hts (.fieldLink RX10 62 "ValueBlocksModel$Text" "kinds" "[B") (by decide +kernel)) (fun _ h9 => h9) rfl dX10_token_4 ?_
  refine jJ_of (fun H locs => lv_aload_n hx hb dX10_token_7 rfl (lv_at hl 0 rfl)) ?_
  refine jJ_get hx hb (C := RX10) (T := TX10) (N := 19) hts uX10_in_X10_token hown hK 0 rfl rfl 3 (by decide) (hts (.fieldLink RX10 53 "ValueBlocksModel" "t" "LValueBlocksModel$Text;") (by decide +kernel)) (fun _ h9 => h9) rfl dX10_token_8 ?_
  refine jJ_get hx hb (C := RX9) (T := TX9) (N := 13) hts uX9_in_X10_token hown hK 1 rfl rfl 6 (by decide) (hts (.fieldLink RX10 65 "ValueBlocksModel$Text" "tokens" "I") (by decide +kernel)) (fun _ h9 => h9) rfl dX10_token_11 ?_
  refine jJ_of (fun H locs => lv_iload_n hx hb dX10_token_14 rfl (lv_at hl 1 rfl)) ?_
  refine jJ_of (fun H locs => lv_i2b (v := (nI (kC kd))) hx hb dX10_token_15 (i2b_s hkc)) ?_
  refine jJ_bast hx hb hK 2 2 rfl rfl (vp_in_nI (by omega) (by omega)) dX10_token_16 (cs2 := [[(Z 0, .inr (8, [E 0, E 1, E 2, .ref (Z 1), E 4, E 5, E 6, E 7, E 8, E 9, E 10, E 11, E 12, E 13, E 14, E 15, E 16, E 17, E 18]))], [(Z 1, .inr (7, [X 0, X 1, .ref (Z 3), .ref (Z 4), .ref (Z 5), .ref (Z 6), .int (nI ((tk 0).length)), X 7, X 8, X 9, X 10, X 11, X 12]))], [(Z 3, .inl (cB, 32008, .inl (upd (V 0) (Int32.toNatClampNeg (nI ((tk 0).length))) (vp_nar .byte (nI (kC kd))))))], [(Z 4, .inl (cI, 32008, .inl (V 1)))], [(Z 5, .inl (cI, 32008, .inl (V 2)))], [(Z 6, .inl (cZ, 32008, .inl (V 3)))]]) rfl ?_
  refine jJ_of (fun H locs => lv_aload_n hx hb dX10_token_17 rfl (lv_at hl 0 rfl)) ?_
  refine jJ_get hx hb (C := RX10) (T := TX10) (N := 19) hts uX10_in_X10_token hown hK 0 rfl rfl 3 (by decide) (hts (.fieldLink RX10 53 "ValueBlocksModel" "t" "LValueBlocksModel$Text;") (by decide +kernel)) (fun _ h9 => h9) rfl dX10_token_18 ?_
  refine jJ_get hx hb (C := RX9) (T := TX9) (N := 13) hts uX9_in_X10_token hown hK 1 rfl rfl 3 (by decide) (hts (.fieldLink RX10 68 "ValueBlocksModel$Text" "places" "[I") (by decide +kernel)) (fun _ h9 => h9) rfl dX10_token_21 ?_
  refine jJ_of (fun H locs => lv_aload_n hx hb dX10_token_24 rfl (lv_at hl 0 rfl)) ?_
  refine jJ_get hx hb (C := RX10) (T := TX10) (N := 19) hts uX10_in_X10_token hown hK 0 rfl rfl 3 (by decide) (hts (.fieldLink RX10 53 "ValueBlocksModel" "t" "LValueBlocksModel$Text;") (by decide +kernel)) (fun _ h9 => h9) rfl dX10_token_25 ?_
  refine jJ_get hx hb (C := RX9) (T := TX9) (N := 13) hts uX9_in_X10_token hown hK 1 rfl rfl 6 (by decide) (hts (.fieldLink RX10 65 "ValueBlocksModel$Text" "tokens" "I") (by decide +kernel)) (fun _ h9 => h9) rfl dX10_token_28 ?_
  refine jJ_of (fun H locs => lv_iload_n hx hb dX10_token_31 rfl (lv_at hl 2 rfl)) ?_
  refine jJ_iast hx hb hK 3 0 rfl rfl (vp_in_nI (by omega) (by omega)) dX10_token_32 (cs2 := [[(Z 0, .inr (8, [E 0, E 1, E 2, .ref (Z 1), E 4, E 5, E 6, E 7, E 8, E 9, E 10, E 11, E 12, E 13, E 14, E 15, E 16, E 17, E 18]))], [(Z 1, .inr (7, [X 0, X 1, .ref (Z 3), .ref (Z 4), .ref (Z 5), .ref (Z 6), .int (nI ((tk 0).length)), X 7, X 8, X 9, X 10, X 11, X 12]))], [(Z 3, .inl (cB, 32008, .inl (upd (V 0) (Int32.toNatClampNeg (nI ((tk 0).length))) (vp_nar .byte (nI (kC kd))))))], [(Z 4, .inl (cI, 32008, .inl (upd (V 1) (Int32.toNatClampNeg (nI ((tk 0).length))) (nI s9))))], [(Z 5, .inl (cI, 32008, .inl (V 2)))], [(Z 6, .inl (cZ, 32008, .inl (V 3)))]]) rfl ?_
  refine jJ_of (fun H locs => lv_aload_n hx hb dX10_token_33 rfl (lv_at hl 0 rfl)) ?_
  refine jJ_get hx hb (C := RX10) (T := TX10) (N := 19) hts uX10_in_X10_token hown hK 0 rfl rfl 3 (by decide) (hts (.fieldLink RX10 53 "ValueBlocksModel" "t" "LValueBlocksModel$Text;") (by decide +kernel)) (fun _ h9 => h9) rfl dX10_token_34 ?_
  refine jJ_get hx hb (C := RX9) (T := TX9) (N := 13) hts uX9_in_X10_token hown hK 1 rfl rfl 4 (by decide) (hts (.fieldLink RX10 71 "ValueBlocksModel$Text" "worths" "[I") (by decide +kernel)) (fun _ h9 => h9) rfl dX10_token_37 ?_
  refine jJ_of (fun H locs => lv_aload_n hx hb dX10_token_40 rfl (lv_at hl 0 rfl)) ?_
  refine jJ_get hx hb (C := RX10) (T := TX10) (N := 19) hts uX10_in_X10_token hown hK 0 rfl rfl 3 (by decide) (hts (.fieldLink RX10 53 "ValueBlocksModel" "t" "LValueBlocksModel$Text;") (by decide +kernel)) (fun _ h9 => h9) rfl dX10_token_41 ?_
  refine jJ_get hx hb (C := RX9) (T := TX9) (N := 13) hts uX9_in_X10_token hown hK 1 rfl rfl 6 (by decide) (hts (.fieldLink RX10 65 "ValueBlocksModel$Text" "tokens" "I") (by decide +kernel)) (fun _ h9 => h9) rfl dX10_token_44 ?_
  refine jJ_of (fun H locs => lv_iload_n hx hb dX10_token_47 rfl (lv_at hl 3 rfl)) ?_
  refine jJ_iast hx hb hK 4 0 rfl rfl (vp_in_nI (by omega) (by omega)) dX10_token_48 (cs2 := [[(Z 0, .inr (8, [E 0, E 1, E 2, .ref (Z 1), E 4, E 5, E 6, E 7, E 8, E 9, E 10, E 11, E 12, E 13, E 14, E 15, E 16, E 17, E 18]))], [(Z 1, .inr (7, [X 0, X 1, .ref (Z 3), .ref (Z 4), .ref (Z 5), .ref (Z 6), .int (nI ((tk 0).length)), X 7, X 8, X 9, X 10, X 11, X 12]))], [(Z 3, .inl (cB, 32008, .inl (upd (V 0) (Int32.toNatClampNeg (nI ((tk 0).length))) (vp_nar .byte (nI (kC kd))))))], [(Z 4, .inl (cI, 32008, .inl (upd (V 1) (Int32.toNatClampNeg (nI ((tk 0).length))) (nI s9))))], [(Z 5, .inl (cI, 32008, .inl (upd (V 2) (Int32.toNatClampNeg (nI ((tk 0).length))) (nI (kW kd w9)))))], [(Z 6, .inl (cZ, 32008, .inl (V 3)))]]) rfl ?_
  refine jJ_of (fun H locs => lv_aload_n hx hb dX10_token_49 rfl (lv_at hl 0 rfl)) ?_
  refine jJ_get hx hb (C := RX10) (T := TX10) (N := 19) hts uX10_in_X10_token hown hK 0 rfl rfl 3 (by decide) (hts (.fieldLink RX10 53 "ValueBlocksModel" "t" "LValueBlocksModel$Text;") (by decide +kernel)) (fun _ h9 => h9) rfl dX10_token_50 ?_
  refine jJ_get hx hb (C := RX9) (T := TX9) (N := 13) hts uX9_in_X10_token hown hK 1 rfl rfl 5 (by decide) (hts (.fieldLink RX10 74 "ValueBlocksModel$Text" "wholes" "[Z") (by decide +kernel)) (fun _ h9 => h9) rfl dX10_token_53 ?_
  refine jJ_of (fun H locs => lv_aload_n hx hb dX10_token_56 rfl (lv_at hl 0 rfl)) ?_
  refine jJ_get hx hb (C := RX10) (T := TX10) (N := 19) hts uX10_in_X10_token hown hK 0 rfl rfl 3 (by decide) (hts (.fieldLink RX10 53 "ValueBlocksModel" "t" "LValueBlocksModel$Text;") (by decide +kernel)) (fun _ h9 => h9) rfl dX10_token_57 ?_
  refine jJ_get hx hb (C := RX9) (T := TX9) (N := 13) hts uX9_in_X10_token hown hK 1 rfl rfl 6 (by decide) (hts (.fieldLink RX10 65 "ValueBlocksModel$Text" "tokens" "I") (by decide +kernel)) (fun _ h9 => h9) rfl dX10_token_60 ?_
  refine jJ_of (fun H locs => lv_iload hx hb dX10_token_63 (lv_at hl 4 rfl)) ?_
  refine jJ_zast hx hb hK 5 3 rfl rfl (vp_in_nI (by omega) (by omega)) dX10_token_65 (cs2 := [[(Z 0, .inr (8, [E 0, E 1, E 2, .ref (Z 1), E 4, E 5, E 6, E 7, E 8, E 9, E 10, E 11, E 12, E 13, E 14, E 15, E 16, E 17, E 18]))], [(Z 1, .inr (7, [X 0, X 1, .ref (Z 3), .ref (Z 4), .ref (Z 5), .ref (Z 6), .int (nI ((tk 0).length)), X 7, X 8, X 9, X 10, X 11, X 12]))], [(Z 3, .inl (cB, 32008, .inl (upd (V 0) (Int32.toNatClampNeg (nI ((tk 0).length))) (vp_nar .byte (nI (kC kd))))))], [(Z 4, .inl (cI, 32008, .inl (upd (V 1) (Int32.toNatClampNeg (nI ((tk 0).length))) (nI s9))))], [(Z 5, .inl (cI, 32008, .inl (upd (V 2) (Int32.toNatClampNeg (nI ((tk 0).length))) (nI (kW kd w9)))))], [(Z 6, .inl (cZ, 32008, .inl (upd (V 3) (Int32.toNatClampNeg (nI ((tk 0).length))) ((bI (decide (kd = 256))) &&& 1))))]]) rfl ?_
  refine jJ_of (fun H locs => lv_aload_n hx hb dX10_token_66 rfl (lv_at hl 0 rfl)) ?_
  refine jJ_get hx hb (C := RX10) (T := TX10) (N := 19) hts uX10_in_X10_token hown hK 0 rfl rfl 3 (by decide) (hts (.fieldLink RX10 53 "ValueBlocksModel" "t" "LValueBlocksModel$Text;") (by decide +kernel)) (fun _ h9 => h9) rfl dX10_token_67 ?_
  refine jJ_of (fun H locs => lv_dup hx hb dX10_token_70 rfl) ?_
  refine jJ_get hx hb (C := RX9) (T := TX9) (N := 13) hts uX9_in_X10_token hown hK 1 rfl rfl 6 (by decide) (hts (.fieldLink RX10 65 "ValueBlocksModel$Text" "tokens" "I") (by decide +kernel)) (fun _ h9 => h9) rfl dX10_token_71 ?_
  refine jJ_of (fun H locs => lv_iconst (v := (nI 1)) hx hb dX10_token_74 (by decide)) ?_
  refine jJ_of (fun H locs => jn_iadd hx hb dX10_token_75) ?_
  refine jJ_put hx hb (C := RX9) (T := TX9) (N := 13) (ty := .int) (v := .int (nI (((tk 0).length) + 1))) hts uX9_in_X10_token tyX9 tyX9_ok nmX9 hown hK 1 rfl rfl 6 (by decide) (hts (.fieldLink RX10 65 "ValueBlocksModel$Text" "tokens" "I") (by decide +kernel)) (fun _ h9 => h9) rfl (by decide +kernel) rfl rfl (Nat.le_of_ble_eq_true rfl) dX10_token_76 (cs2 := [[(Z 0, .inr (8, [E 0, E 1, E 2, .ref (Z 1), E 4, E 5, E 6, E 7, E 8, E 9, E 10, E 11, E 12, E 13, E 14, E 15, E 16, E 17, E 18]))], [(Z 1, .inr (7, [X 0, X 1, .ref (Z 3), .ref (Z 4), .ref (Z 5), .ref (Z 6), .int (nI (((tk 0).length) + 1)), X 7, X 8, X 9, X 10, X 11, X 12]))], [(Z 3, .inl (cB, 32008, .inl (upd (V 0) (Int32.toNatClampNeg (nI ((tk 0).length))) (vp_nar .byte (nI (kC kd))))))], [(Z 4, .inl (cI, 32008, .inl (upd (V 1) (Int32.toNatClampNeg (nI ((tk 0).length))) (nI s9))))], [(Z 5, .inl (cI, 32008, .inl (upd (V 2) (Int32.toNatClampNeg (nI ((tk 0).length))) (nI (kW kd w9)))))], [(Z 6, .inl (cZ, 32008, .inl (upd (V 3) (Int32.toNatClampNeg (nI ((tk 0).length))) ((bI (decide (kd = 256))) &&& 1))))]]) rfl ?_
  refine jJ_vret hx hb hr hlocks dX10_token_79 (by show _ ≤ 0; omega) (by show _ ≤ 0; omega) ⟨rfl, vRow4 (upd (V 0) (Int32.toNatClampNeg (nI ((tk 0).length))) (vp_nar .byte (nI (kC kd)))) (upd (V 1) (Int32.toNatClampNeg (nI ((tk 0).length))) (nI s9)) (upd (V 2) (Int32.toNatClampNeg (nI ((tk 0).length))) (nI (kW kd w9))) (upd (V 3) (Int32.toNatClampNeg (nI ((tk 0).length))) ((bI (decide (kd = 256))) &&& 1)), ?_, rfl, rfl, rfl⟩
  exact tV_add hT hl9 hlt hkd hs hw (by show upd (V 0) _ (vp_nar .byte (nI (kC kd))) = _; rw [nI_clamp (by omega), nar_b hkc]) (by show upd (V 1) _ _ = _; rw [nI_clamp (by omega)]) (by show upd (V 2) _ _ = _; rw [nI_clamp (by omega)]) (by show upd (V 3) _ (bI (decide (kd = 256)) &&& 1) = _; rw [nI_clamp (by omega), nar_z])
set_option maxHeartbeats 4000000 in
set_option maxRecDepth 100000 in
/-- behindBlanks(i) -/
theorem c_Md_blanks {Z : Nat → Nat} {E X : Nat → Value} {B : Nat → Int32} {T : List Nat} (hB : tB T B) (i : Nat) (hi : i ≤ T.length) : HM l yX10_behindBlanks wsX10_behindBlanks ({ frames := 1, cells := 0, slots := 0, locals := 40 } : Room) D G (jT cI cJ cB cZ) [.ref (Z 0), .int (nI i)] (jF (bWd cB Z E X B T.length)) (fun v u k9 n9 => v = some (.int (nI (pb T i))) ∧ u = jF (bWd cB Z E X B T.length) ∧ k9 = 0 ∧ n9 = 0) := by
  refine HM_of (cc := cX10_behindBlanks) (maxL := 5) (ret := (some .int)) (lv := [(0, .ref (Z 0)), (1, .int (nI i))]) (by decide) rfl rfl (Nat.le_of_ble_eq_true rfl) (fun p e s m args below meth c A0 ls hx hb hr hts hown hlocks hml hnm hK hA hAm hl => ?_)
  refine jJ_open (xs := [[(Z 0, .inr (8, [E 0, E 1, E 2, .ref (Z 1), E 4, E 5, E 6, E 7, E 8, E 9, E 10, E 11, E 12, E 13, E 14, E 15, E 16, E 17, E 18]))], [(Z 1, .inr (7, [.ref (Z 8), .int (nI T.length), X 2, X 3, X 4, X 5, X 6, X 7, X 8, X 9, X 10, X 11, X 12]))], [(Z 8, .inl (cB, 16000, .inl B))]]) (r := []) (cs2 := [[(Z 0, .inr (8, [E 0, E 1, E 2, .ref (Z 1), E 4, E 5, E 6, E 7, E 8, E 9, E 10, E 11, E 12, E 13, E 14, E 15, E 16, E 17, E 18]))], [(Z 1, .inr (7, [.ref (Z 8), .int (nI T.length), X 2, X 3, X 4, X 5, X 6, X 7, X 8, X 9, X 10, X 11, X 12]))], [(Z 8, .inl (cB, 16000, .inl B))]]) rfl ?_
  have hL9 := hB.1
  refine jJ_of (fun H locs => lv_iload_n hx hb dX10_behindBlanks_0 rfl (lv_at hl 1 rfl)) ?_
  refine jJ_ofL (fun H locs => lv_istore_n (lv' := [(2, .int (nI i)), (0, .ref (Z 0)), (1, .int (nI i))]) hx hb dX10_behindBlanks_1 rfl hl (by decide) rfl) (fun ls hl => ?_)
  suffices lp : ∀ (f k : Nat), T.length < f + k → k ≤ T.length → pbF T f k = pb T i → ∀ ls, lv_has ls 5 [(2, .int (nI k)), (0, .ref (Z 0))] → jJ p l e _ s m args below meth c D A0 [[(Z 0, .inr (8, [E 0, E 1, E 2, .ref (Z 1), E 4, E 5, E 6, E 7, E 8, E 9, E 10, E 11, E 12, E 13, E 14, E 15, E 16, E 17, E 18]))], [(Z 1, .inr (7, [.ref (Z 8), .int (nI T.length), X 2, X 3, X 4, X 5, X 6, X 7, X 8, X 9, X 10, X 11, X 12]))], [(Z 8, .inl (cB, 16000, .inl B))]] 0 0 (jEnd below D A0 _ args s _ _) (F0 m 2 ls []) from lp (T.length + 1) i (by omega) hi rfl ls (lv_sub hl [0, 1] rfl)
  intro f
  induction f with
  | zero =>
    intro k h9 h8; omega
  | succ f ih =>
    intro k h9 hk hcl ls hl
    refine jJ_of (fun H locs => lv_aload_n hx hb dX10_behindBlanks_2 rfl (lv_at hl 1 rfl)) ?_
    refine jJ_of (fun H locs => lv_iload_n hx hb dX10_behindBlanks_3 rfl (lv_at hl 0 rfl)) ?_
    refine jJ_callV (As := [.int (nI k)]) (rest := []) (wc := jF (bWd cB Z (lsV [E 0, E 1, E 2, .null, E 4, E 5, E 6, E 7, E 8, E 9, E 10, E 11, E 12, E 13, E 14, E 15, E 16, E 17, E 18]) (lsV [.null, .null, X 2, X 3, X 4, X 5, X 6, X 7, X 8, X 9, X 10, X 11, X 12]) B T.length)) (cs2 := []) (C := RX10) (T := TX10) (N := 19) (ci := 8) [0, 1, 2] [] ⟨hx, hb, hml, hown, hts⟩ hK hA hAm (c_Md_look (E := lsV [E 0, E 1, E 2, .null, E 4, E 5, E 6, E 7, E 8, E 9, E 10, E 11, E 12, E 13, E 14, E 15, E 16, E 17, E 18]) (X := lsV [.null, .null, X 2, X 3, X 4, X 5, X 6, X 7, X 8, X 9, X 10, X 11, X 12]) hB k (by omega)) (cwV 1 hts gX10_behindBlanks_X10_look rfl rfl rfl (by decide +kernel) ⟨Nat.le_of_ble_eq_true rfl, Nat.le_of_ble_eq_true rfl⟩) (nn := 3) rfl (by decide) rfl rfl ⟨0, _, rfl⟩ rfl rfl rfl hl.1 (Nat.le_of_ble_eq_true rfl) dX10_behindBlanks_4 (by show _ + 0 ≤ 0; omega) (by show _ + 0 ≤ 0; omega) (fun v u1 k1 n1 hq1 => ?_)
    obtain ⟨hv1, hw1, rfl, rfl⟩ := hq1
    subst hv1
    rw [hw1]
    refine jJ_open (xs := [[(Z 0, .inr (8, [E 0, E 1, E 2, .ref (Z 1), E 4, E 5, E 6, E 7, E 8, E 9, E 10, E 11, E 12, E 13, E 14, E 15, E 16, E 17, E 18]))], [(Z 1, .inr (7, [.ref (Z 8), .int (nI T.length), X 2, X 3, X 4, X 5, X 6, X 7, X 8, X 9, X 10, X 11, X 12]))], [(Z 8, .inl (cB, 16000, .inl B))]]) (r := []) (cs2 := [[(Z 0, .inr (8, [E 0, E 1, E 2, .ref (Z 1), E 4, E 5, E 6, E 7, E 8, E 9, E 10, E 11, E 12, E 13, E 14, E 15, E 16, E 17, E 18]))], [(Z 1, .inr (7, [.ref (Z 8), .int (nI T.length), X 2, X 3, X 4, X 5, X 6, X 7, X 8, X 9, X 10, X 11, X 12]))], [(Z 8, .inl (cB, 16000, .inl B))]]) rfl ?_
    refine jJ_eq (g2 := F0 m 7 ls [.int (iI (lk T k))]) (cs2 := [[(Z 0, .inr (8, [E 0, E 1, E 2, .ref (Z 1), E 4, E 5, E 6, E 7, E 8, E 9, E 10, E 11, E 12, E 13, E 14, E 15, E 16, E 17, E 18]))], [(Z 1, .inr (7, [.ref (Z 8), .int (nI T.length), X 2, X 3, X 4, X 5, X 6, X 7, X 8, X 9, X 10, X 11, X 12]))], [(Z 8, .inl (cB, 16000, .inl B))]]) rfl rfl ?_
    have hlk1_7 := lk_c T k
    have hl256_1_7 := hB.2.2 k
    refine jJ_ofL (fun H locs => lv_istore_n (lv' := [(3, .int (iI (lk T k))), (2, .int (nI k)), (0, .ref (Z 0))]) hx hb dX10_behindBlanks_7 rfl hl (by decide) rfl) (fun ls hl => ?_)
    refine jJ_of (fun H locs => lv_iload_n hx hb dX10_behindBlanks_8 rfl (lv_at hl 0 rfl)) ?_
    refine jJ_of (fun H locs => lv_bipush (v := (nI 9)) hx hb dX10_behindBlanks_9 (by decide)) ?_
    rw [nI_iI 9]
    refine jJ_eq (g2 := F0 m 11 ls [.int (iI 9), .int (iI (lk T k))]) (cs2 := [[(Z 0, .inr (8, [E 0, E 1, E 2, .ref (Z 1), E 4, E 5, E 6, E 7, E 8, E 9, E 10, E 11, E 12, E 13, E 14, E 15, E 16, E 17, E 18]))], [(Z 1, .inr (7, [.ref (Z 8), .int (nI T.length), X 2, X 3, X 4, X 5, X 6, X 7, X 8, X 9, X 10, X 11, X 12]))], [(Z 8, .inl (cB, 16000, .inl B))]]) rfl rfl ?_
    refine jJ_of2 (fun H locs => jz_icmp_eq (tgt := 26) hx hb dX10_behindBlanks_11 (by decide) (by omega) (by omega) (by omega) (by omega)) (fun c11 => ?_) (fun c11 => ?_)
    · refine jJ_ofL (fun H locs => lv_iinc (v := (nI (k + 1))) (lv' := [(2, .int (nI (k + 1))), (3, .int (iI (lk T k))), (0, .ref (Z 0))]) hx hb dX10_behindBlanks_26 hl (k := 1) rfl (nI_add _ _) (by decide) rfl) (fun ls hl => ?_)
      refine jJ_of (fun H locs => lv_goto (tgt := 105) hx hb dX10_behindBlanks_29 (by decide)) ?_
      refine jJ_of (fun H locs => lv_goto (tgt := 2) hx hb dX10_behindBlanks_105 (by decide)) ?_
      exact ih (k + 1) (by omega) (by omega) (by rw [← hcl]; show _ = (if _ then _ else _); rw [if_neg (by omega), if_neg (by omega), if_pos (by omega)]) ls (lv_sub hl [0, 2] rfl)
    · refine jJ_of (fun H locs => lv_iload_n hx hb dX10_behindBlanks_14 rfl (lv_at hl 0 rfl)) ?_
      refine jJ_of (fun H locs => lv_bipush (v := (nI 13)) hx hb dX10_behindBlanks_15 (by decide)) ?_
      rw [nI_iI 13]
      refine jJ_eq (g2 := F0 m 17 ls [.int (iI 13), .int (iI (lk T k))]) (cs2 := [[(Z 0, .inr (8, [E 0, E 1, E 2, .ref (Z 1), E 4, E 5, E 6, E 7, E 8, E 9, E 10, E 11, E 12, E 13, E 14, E 15, E 16, E 17, E 18]))], [(Z 1, .inr (7, [.ref (Z 8), .int (nI T.length), X 2, X 3, X 4, X 5, X 6, X 7, X 8, X 9, X 10, X 11, X 12]))], [(Z 8, .inl (cB, 16000, .inl B))]]) rfl rfl ?_
      refine jJ_of2 (fun H locs => jz_icmp_eq (tgt := 26) hx hb dX10_behindBlanks_17 (by decide) (by omega) (by omega) (by omega) (by omega)) (fun c17 => ?_) (fun c17 => ?_)
      · refine jJ_ofL (fun H locs => lv_iinc (v := (nI (k + 1))) (lv' := [(2, .int (nI (k + 1))), (3, .int (iI (lk T k))), (0, .ref (Z 0))]) hx hb dX10_behindBlanks_26 hl (k := 1) rfl (nI_add _ _) (by decide) rfl) (fun ls hl => ?_)
        refine jJ_of (fun H locs => lv_goto (tgt := 105) hx hb dX10_behindBlanks_29 (by decide)) ?_
        refine jJ_of (fun H locs => lv_goto (tgt := 2) hx hb dX10_behindBlanks_105 (by decide)) ?_
        exact ih (k + 1) (by omega) (by omega) (by rw [← hcl]; show _ = (if _ then _ else _); rw [if_neg (by omega), if_neg (by omega), if_pos (by omega)]) ls (lv_sub hl [0, 2] rfl)
      · refine jJ_of (fun H locs => lv_iload_n hx hb dX10_behindBlanks_20 rfl (lv_at hl 0 rfl)) ?_
        refine jJ_of (fun H locs => lv_bipush (v := (nI 32)) hx hb dX10_behindBlanks_21 (by decide)) ?_
        rw [nI_iI 32]
        refine jJ_eq (g2 := F0 m 23 ls [.int (iI 32), .int (iI (lk T k))]) (cs2 := [[(Z 0, .inr (8, [E 0, E 1, E 2, .ref (Z 1), E 4, E 5, E 6, E 7, E 8, E 9, E 10, E 11, E 12, E 13, E 14, E 15, E 16, E 17, E 18]))], [(Z 1, .inr (7, [.ref (Z 8), .int (nI T.length), X 2, X 3, X 4, X 5, X 6, X 7, X 8, X 9, X 10, X 11, X 12]))], [(Z 8, .inl (cB, 16000, .inl B))]]) rfl rfl ?_
        refine jJ_of2 (fun H locs => jz_icmp_ne (tgt := 32) hx hb dX10_behindBlanks_23 (by decide) (by omega) (by omega) (by omega) (by omega)) (fun c23 => ?_) (fun c23 => ?_)
        · refine jJ_of (fun H locs => lv_iload_n hx hb dX10_behindBlanks_32 rfl (lv_at hl 0 rfl)) ?_
          refine jJ_of (fun H locs => lv_bipush (v := (nI 40)) hx hb dX10_behindBlanks_33 (by decide)) ?_
          rw [nI_iI 40]
          refine jJ_eq (g2 := F0 m 35 ls [.int (iI 40), .int (iI (lk T k))]) (cs2 := [[(Z 0, .inr (8, [E 0, E 1, E 2, .ref (Z 1), E 4, E 5, E 6, E 7, E 8, E 9, E 10, E 11, E 12, E 13, E 14, E 15, E 16, E 17, E 18]))], [(Z 1, .inr (7, [.ref (Z 8), .int (nI T.length), X 2, X 3, X 4, X 5, X 6, X 7, X 8, X 9, X 10, X 11, X 12]))], [(Z 8, .inl (cB, 16000, .inl B))]]) rfl rfl ?_
          refine jJ_of2 (fun H locs => jz_icmp_ne (tgt := 103) hx hb dX10_behindBlanks_35 (by decide) (by omega) (by omega) (by omega) (by omega)) (fun c35 => ?_) (fun c35 => ?_)
          · refine jJ_of (fun H locs => lv_iload_n hx hb dX10_behindBlanks_103 rfl (lv_at hl 1 rfl)) ?_
            have he : nI k = nI (pb T i) := by
              rw [← hcl]
              show nI k = nI (if _ then _ else _)
              by_cases q : T.length ≤ k
              · rw [if_pos q, show k = T.length by omega]
              · rw [if_neg q, if_neg (by omega), if_neg (by omega)]
            exact jJ_iret hx hb hr hlocks dX10_behindBlanks_104 (by show _ ≤ 0; omega) (by show _ ≤ 0; omega) ⟨by rw [he], rfl, rfl, rfl⟩
          · refine jJ_of (fun H locs => lv_iload_n hx hb dX10_behindBlanks_38 rfl (lv_at hl 1 rfl)) ?_
            refine jJ_of (fun H locs => lv_iconst (v := (nI 1)) hx hb dX10_behindBlanks_39 (by decide)) ?_
            refine jJ_of (fun H locs => jn_iadd hx hb dX10_behindBlanks_40) ?_
            refine jJ_ofL (fun H locs => lv_istore (lv' := [(4, .int (nI (k + 1))), (3, .int (iI (lk T k))), (2, .int (nI k)), (0, .ref (Z 0))]) hx hb dX10_behindBlanks_41 hl (by decide) rfl) (fun ls hl => ?_)
            suffices lp2 : ∀ (f2 e9 : Nat), T.length < f2 + e9 → k < e9 → e9 ≤ T.length → clF T f2 e9 = clo T k → ∀ ls, lv_has ls 5 [(4, .int (nI e9)), (2, .int (nI k)), (0, .ref (Z 0))] → jJ p l e _ s m args below meth c D A0 [[(Z 0, .inr (8, [E 0, E 1, E 2, .ref (Z 1), E 4, E 5, E 6, E 7, E 8, E 9, E 10, E 11, E 12, E 13, E 14, E 15, E 16, E 17, E 18]))], [(Z 1, .inr (7, [.ref (Z 8), .int (nI T.length), X 2, X 3, X 4, X 5, X 6, X 7, X 8, X 9, X 10, X 11, X 12]))], [(Z 8, .inl (cB, 16000, .inl B))]] 0 0 (jEnd below D A0 _ args s _ _) (F0 m 43 ls []) from lp2 (T.length + 1) (k + 1) (by omega) (by omega) (by omega) rfl ls (lv_sub hl [0, 2, 3] rfl)
            intro f2
            induction f2 with
            | zero =>
              intro e9 h9 h7 h8; omega
            | succ f2 ih2 =>
              intro e9 h7 hke he9 hcl2 ls hl
              refine jJ_of (fun H locs => lv_aload_n hx hb dX10_behindBlanks_43 rfl (lv_at hl 2 rfl)) ?_
              refine jJ_of (fun H locs => lv_iload hx hb dX10_behindBlanks_44 (lv_at hl 0 rfl)) ?_
              refine jJ_callV (As := [.int (nI e9)]) (rest := []) (wc := jF (bWd cB Z (lsV [E 0, E 1, E 2, .null, E 4, E 5, E 6, E 7, E 8, E 9, E 10, E 11, E 12, E 13, E 14, E 15, E 16, E 17, E 18]) (lsV [.null, .null, X 2, X 3, X 4, X 5, X 6, X 7, X 8, X 9, X 10, X 11, X 12]) B T.length)) (cs2 := []) (C := RX10) (T := TX10) (N := 19) (ci := 8) [0, 1, 2] [] ⟨hx, hb, hml, hown, hts⟩ hK hA hAm (c_Md_look (E := lsV [E 0, E 1, E 2, .null, E 4, E 5, E 6, E 7, E 8, E 9, E 10, E 11, E 12, E 13, E 14, E 15, E 16, E 17, E 18]) (X := lsV [.null, .null, X 2, X 3, X 4, X 5, X 6, X 7, X 8, X 9, X 10, X 11, X 12]) hB e9 (by omega)) (cwV 1 hts gX10_behindBlanks_X10_look rfl rfl rfl (by decide +kernel) ⟨Nat.le_of_ble_eq_true rfl, Nat.le_of_ble_eq_true rfl⟩) (nn := 3) rfl (by decide) rfl rfl ⟨0, _, rfl⟩ rfl rfl rfl hl.1 (Nat.le_of_ble_eq_true rfl) dX10_behindBlanks_46 (by show _ + 0 ≤ 0; omega) (by show _ + 0 ≤ 0; omega) (fun v u2 k2 n2 hq2 => ?_)
              obtain ⟨hv2, hw2, rfl, rfl⟩ := hq2
              subst hv2
              rw [hw2]
              refine jJ_open (xs := [[(Z 0, .inr (8, [E 0, E 1, E 2, .ref (Z 1), E 4, E 5, E 6, E 7, E 8, E 9, E 10, E 11, E 12, E 13, E 14, E 15, E 16, E 17, E 18]))], [(Z 1, .inr (7, [.ref (Z 8), .int (nI T.length), X 2, X 3, X 4, X 5, X 6, X 7, X 8, X 9, X 10, X 11, X 12]))], [(Z 8, .inl (cB, 16000, .inl B))]]) (r := []) (cs2 := [[(Z 0, .inr (8, [E 0, E 1, E 2, .ref (Z 1), E 4, E 5, E 6, E 7, E 8, E 9, E 10, E 11, E 12, E 13, E 14, E 15, E 16, E 17, E 18]))], [(Z 1, .inr (7, [.ref (Z 8), .int (nI T.length), X 2, X 3, X 4, X 5, X 6, X 7, X 8, X 9, X 10, X 11, X 12]))], [(Z 8, .inl (cB, 16000, .inl B))]]) rfl ?_
              refine jJ_eq (g2 := F0 m 49 ls [.int (iI (lk T e9))]) (cs2 := [[(Z 0, .inr (8, [E 0, E 1, E 2, .ref (Z 1), E 4, E 5, E 6, E 7, E 8, E 9, E 10, E 11, E 12, E 13, E 14, E 15, E 16, E 17, E 18]))], [(Z 1, .inr (7, [.ref (Z 8), .int (nI T.length), X 2, X 3, X 4, X 5, X 6, X 7, X 8, X 9, X 10, X 11, X 12]))], [(Z 8, .inl (cB, 16000, .inl B))]]) rfl rfl ?_
              have hlk2_49 := lk_c T e9
              have hl256_2_49 := hB.2.2 e9
              refine jJ_of (fun H locs => lv_bipush (v := (nI 32)) hx hb dX10_behindBlanks_49 (by decide)) ?_
              rw [nI_iI 32]
              refine jJ_eq (g2 := F0 m 51 ls [.int (iI 32), .int (iI (lk T e9))]) (cs2 := [[(Z 0, .inr (8, [E 0, E 1, E 2, .ref (Z 1), E 4, E 5, E 6, E 7, E 8, E 9, E 10, E 11, E 12, E 13, E 14, E 15, E 16, E 17, E 18]))], [(Z 1, .inr (7, [.ref (Z 8), .int (nI T.length), X 2, X 3, X 4, X 5, X 6, X 7, X 8, X 9, X 10, X 11, X 12]))], [(Z 8, .inl (cB, 16000, .inl B))]]) rfl rfl ?_
              refine jJ_of2 (fun H locs => jz_icmp_lt (tgt := 82) hx hb dX10_behindBlanks_51 (by decide) (by omega) (by omega) (by omega) (by omega)) (fun c51 => ?_) (fun c51 => ?_)
              · refine jJ_of (fun H locs => lv_aload_n hx hb dX10_behindBlanks_82 rfl (lv_at hl 2 rfl)) ?_
                refine jJ_of (fun H locs => lv_iload hx hb dX10_behindBlanks_83 (lv_at hl 0 rfl)) ?_
                refine jJ_callV (As := [.int (nI e9)]) (rest := []) (wc := jF (bWd cB Z (lsV [E 0, E 1, E 2, .null, E 4, E 5, E 6, E 7, E 8, E 9, E 10, E 11, E 12, E 13, E 14, E 15, E 16, E 17, E 18]) (lsV [.null, .null, X 2, X 3, X 4, X 5, X 6, X 7, X 8, X 9, X 10, X 11, X 12]) B T.length)) (cs2 := []) (C := RX10) (T := TX10) (N := 19) (ci := 8) [0, 1, 2] [] ⟨hx, hb, hml, hown, hts⟩ hK hA hAm (c_Md_look (E := lsV [E 0, E 1, E 2, .null, E 4, E 5, E 6, E 7, E 8, E 9, E 10, E 11, E 12, E 13, E 14, E 15, E 16, E 17, E 18]) (X := lsV [.null, .null, X 2, X 3, X 4, X 5, X 6, X 7, X 8, X 9, X 10, X 11, X 12]) hB e9 (by omega)) (cwV 1 hts gX10_behindBlanks_X10_look rfl rfl rfl (by decide +kernel) ⟨Nat.le_of_ble_eq_true rfl, Nat.le_of_ble_eq_true rfl⟩) (nn := 3) rfl (by decide) rfl rfl ⟨0, _, rfl⟩ rfl rfl rfl hl.1 (Nat.le_of_ble_eq_true rfl) dX10_behindBlanks_85 (by show _ + 0 ≤ 0; omega) (by show _ + 0 ≤ 0; omega) (fun v u3 k3 n3 hq3 => ?_)
                obtain ⟨hv3, hw3, rfl, rfl⟩ := hq3
                subst hv3
                rw [hw3]
                refine jJ_open (xs := [[(Z 0, .inr (8, [E 0, E 1, E 2, .ref (Z 1), E 4, E 5, E 6, E 7, E 8, E 9, E 10, E 11, E 12, E 13, E 14, E 15, E 16, E 17, E 18]))], [(Z 1, .inr (7, [.ref (Z 8), .int (nI T.length), X 2, X 3, X 4, X 5, X 6, X 7, X 8, X 9, X 10, X 11, X 12]))], [(Z 8, .inl (cB, 16000, .inl B))]]) (r := []) (cs2 := [[(Z 0, .inr (8, [E 0, E 1, E 2, .ref (Z 1), E 4, E 5, E 6, E 7, E 8, E 9, E 10, E 11, E 12, E 13, E 14, E 15, E 16, E 17, E 18]))], [(Z 1, .inr (7, [.ref (Z 8), .int (nI T.length), X 2, X 3, X 4, X 5, X 6, X 7, X 8, X 9, X 10, X 11, X 12]))], [(Z 8, .inl (cB, 16000, .inl B))]]) rfl ?_
                refine jJ_eq (g2 := F0 m 88 ls [.int (iI (lk T e9))]) (cs2 := [[(Z 0, .inr (8, [E 0, E 1, E 2, .ref (Z 1), E 4, E 5, E 6, E 7, E 8, E 9, E 10, E 11, E 12, E 13, E 14, E 15, E 16, E 17, E 18]))], [(Z 1, .inr (7, [.ref (Z 8), .int (nI T.length), X 2, X 3, X 4, X 5, X 6, X 7, X 8, X 9, X 10, X 11, X 12]))], [(Z 8, .inl (cB, 16000, .inl B))]]) rfl rfl ?_
                have hlk3_88 := lk_c T e9
                have hl256_3_88 := hB.2.2 e9
                refine jJ_of (fun H locs => lv_bipush (v := (nI 41)) hx hb dX10_behindBlanks_88 (by decide)) ?_
                rw [nI_iI 41]
                refine jJ_eq (g2 := F0 m 90 ls [.int (iI 41), .int (iI (lk T e9))]) (cs2 := [[(Z 0, .inr (8, [E 0, E 1, E 2, .ref (Z 1), E 4, E 5, E 6, E 7, E 8, E 9, E 10, E 11, E 12, E 13, E 14, E 15, E 16, E 17, E 18]))], [(Z 1, .inr (7, [.ref (Z 8), .int (nI T.length), X 2, X 3, X 4, X 5, X 6, X 7, X 8, X 9, X 10, X 11, X 12]))], [(Z 8, .inl (cB, 16000, .inl B))]]) rfl rfl ?_
                refine jJ_of2 (fun H locs => jz_icmp_eq (tgt := 95) hx hb dX10_behindBlanks_90 (by decide) (by omega) (by omega) (by omega) (by omega)) (fun c90 => ?_) (fun c90 => ?_)
                · have hclo : clo T k = (e9 : Int) := by rw [← hcl2]; show (if _ then _ else _) = _; rw [if_neg (by omega), if_pos (by omega)]
                  refine jJ_of (fun H locs => lv_iload hx hb dX10_behindBlanks_95 (lv_at hl 0 rfl)) ?_
                  refine jJ_of (fun H locs => lv_iconst (v := (nI 1)) hx hb dX10_behindBlanks_97 (by decide)) ?_
                  refine jJ_of (fun H locs => jn_iadd hx hb dX10_behindBlanks_98) ?_
                  refine jJ_ofL (fun H locs => lv_istore_n (lv' := [(2, .int (nI (e9 + 1))), (4, .int (nI e9)), (0, .ref (Z 0))]) hx hb dX10_behindBlanks_99 rfl hl (by decide) rfl) (fun ls hl => ?_)
                  refine jJ_of (fun H locs => lv_goto (tgt := 105) hx hb dX10_behindBlanks_100 (by decide)) ?_
                  refine jJ_of (fun H locs => lv_goto (tgt := 2) hx hb dX10_behindBlanks_105 (by decide)) ?_
                  exact ih (e9 + 1) (by omega) (by omega) (by rw [← hcl]; show _ = (if _ then _ else _); rw [if_neg (by omega), if_pos (by omega), if_neg (by omega), hclo]; rfl) ls (lv_sub hl [0, 2] rfl)
                · have hclo : clo T k = -1 := by
                    rw [← hcl2]
                    show (if _ then _ else _) = _
                    by_cases q : T.length ≤ e9
                    · rw [if_pos q]
                    · rw [if_neg q, if_neg (by omega), if_pos (by omega)]
                  refine jJ_of (fun H locs => lv_iload_n hx hb dX10_behindBlanks_93 rfl (lv_at hl 1 rfl)) ?_
                  have he : nI k = nI (pb T i) := by
                    rw [← hcl]; show nI k = nI (if _ then _ else _); rw [if_neg (by omega), if_pos (by omega), if_pos (by omega)]
                  exact jJ_iret hx hb hr hlocks dX10_behindBlanks_94 (by show _ ≤ 0; omega) (by show _ ≤ 0; omega) ⟨by rw [he], rfl, rfl, rfl⟩
              · refine jJ_of (fun H locs => lv_aload_n hx hb dX10_behindBlanks_54 rfl (lv_at hl 2 rfl)) ?_
                refine jJ_of (fun H locs => lv_iload hx hb dX10_behindBlanks_55 (lv_at hl 0 rfl)) ?_
                refine jJ_callV (As := [.int (nI e9)]) (rest := []) (wc := jF (bWd cB Z (lsV [E 0, E 1, E 2, .null, E 4, E 5, E 6, E 7, E 8, E 9, E 10, E 11, E 12, E 13, E 14, E 15, E 16, E 17, E 18]) (lsV [.null, .null, X 2, X 3, X 4, X 5, X 6, X 7, X 8, X 9, X 10, X 11, X 12]) B T.length)) (cs2 := []) (C := RX10) (T := TX10) (N := 19) (ci := 8) [0, 1, 2] [] ⟨hx, hb, hml, hown, hts⟩ hK hA hAm (c_Md_look (E := lsV [E 0, E 1, E 2, .null, E 4, E 5, E 6, E 7, E 8, E 9, E 10, E 11, E 12, E 13, E 14, E 15, E 16, E 17, E 18]) (X := lsV [.null, .null, X 2, X 3, X 4, X 5, X 6, X 7, X 8, X 9, X 10, X 11, X 12]) hB e9 (by omega)) (cwV 1 hts gX10_behindBlanks_X10_look rfl rfl rfl (by decide +kernel) ⟨Nat.le_of_ble_eq_true rfl, Nat.le_of_ble_eq_true rfl⟩) (nn := 3) rfl (by decide) rfl rfl ⟨0, _, rfl⟩ rfl rfl rfl hl.1 (Nat.le_of_ble_eq_true rfl) dX10_behindBlanks_57 (by show _ + 0 ≤ 0; omega) (by show _ + 0 ≤ 0; omega) (fun v u4 k4 n4 hq4 => ?_)
                obtain ⟨hv4, hw4, rfl, rfl⟩ := hq4
                subst hv4
                rw [hw4]
                refine jJ_open (xs := [[(Z 0, .inr (8, [E 0, E 1, E 2, .ref (Z 1), E 4, E 5, E 6, E 7, E 8, E 9, E 10, E 11, E 12, E 13, E 14, E 15, E 16, E 17, E 18]))], [(Z 1, .inr (7, [.ref (Z 8), .int (nI T.length), X 2, X 3, X 4, X 5, X 6, X 7, X 8, X 9, X 10, X 11, X 12]))], [(Z 8, .inl (cB, 16000, .inl B))]]) (r := []) (cs2 := [[(Z 0, .inr (8, [E 0, E 1, E 2, .ref (Z 1), E 4, E 5, E 6, E 7, E 8, E 9, E 10, E 11, E 12, E 13, E 14, E 15, E 16, E 17, E 18]))], [(Z 1, .inr (7, [.ref (Z 8), .int (nI T.length), X 2, X 3, X 4, X 5, X 6, X 7, X 8, X 9, X 10, X 11, X 12]))], [(Z 8, .inl (cB, 16000, .inl B))]]) rfl ?_
                refine jJ_eq (g2 := F0 m 60 ls [.int (iI (lk T e9))]) (cs2 := [[(Z 0, .inr (8, [E 0, E 1, E 2, .ref (Z 1), E 4, E 5, E 6, E 7, E 8, E 9, E 10, E 11, E 12, E 13, E 14, E 15, E 16, E 17, E 18]))], [(Z 1, .inr (7, [.ref (Z 8), .int (nI T.length), X 2, X 3, X 4, X 5, X 6, X 7, X 8, X 9, X 10, X 11, X 12]))], [(Z 8, .inl (cB, 16000, .inl B))]]) rfl rfl ?_
                have hlk4_60 := lk_c T e9
                have hl256_4_60 := hB.2.2 e9
                refine jJ_of (fun H locs => lv_bipush (v := (nI 126)) hx hb dX10_behindBlanks_60 (by decide)) ?_
                rw [nI_iI 126]
                refine jJ_eq (g2 := F0 m 62 ls [.int (iI 126), .int (iI (lk T e9))]) (cs2 := [[(Z 0, .inr (8, [E 0, E 1, E 2, .ref (Z 1), E 4, E 5, E 6, E 7, E 8, E 9, E 10, E 11, E 12, E 13, E 14, E 15, E 16, E 17, E 18]))], [(Z 1, .inr (7, [.ref (Z 8), .int (nI T.length), X 2, X 3, X 4, X 5, X 6, X 7, X 8, X 9, X 10, X 11, X 12]))], [(Z 8, .inl (cB, 16000, .inl B))]]) rfl rfl ?_
                refine jJ_of2 (fun H locs => jz_icmp_gt (tgt := 82) hx hb dX10_behindBlanks_62 (by decide) (by omega) (by omega) (by omega) (by omega)) (fun c62 => ?_) (fun c62 => ?_)
                · refine jJ_of (fun H locs => lv_aload_n hx hb dX10_behindBlanks_82 rfl (lv_at hl 2 rfl)) ?_
                  refine jJ_of (fun H locs => lv_iload hx hb dX10_behindBlanks_83 (lv_at hl 0 rfl)) ?_
                  refine jJ_callV (As := [.int (nI e9)]) (rest := []) (wc := jF (bWd cB Z (lsV [E 0, E 1, E 2, .null, E 4, E 5, E 6, E 7, E 8, E 9, E 10, E 11, E 12, E 13, E 14, E 15, E 16, E 17, E 18]) (lsV [.null, .null, X 2, X 3, X 4, X 5, X 6, X 7, X 8, X 9, X 10, X 11, X 12]) B T.length)) (cs2 := []) (C := RX10) (T := TX10) (N := 19) (ci := 8) [0, 1, 2] [] ⟨hx, hb, hml, hown, hts⟩ hK hA hAm (c_Md_look (E := lsV [E 0, E 1, E 2, .null, E 4, E 5, E 6, E 7, E 8, E 9, E 10, E 11, E 12, E 13, E 14, E 15, E 16, E 17, E 18]) (X := lsV [.null, .null, X 2, X 3, X 4, X 5, X 6, X 7, X 8, X 9, X 10, X 11, X 12]) hB e9 (by omega)) (cwV 1 hts gX10_behindBlanks_X10_look rfl rfl rfl (by decide +kernel) ⟨Nat.le_of_ble_eq_true rfl, Nat.le_of_ble_eq_true rfl⟩) (nn := 3) rfl (by decide) rfl rfl ⟨0, _, rfl⟩ rfl rfl rfl hl.1 (Nat.le_of_ble_eq_true rfl) dX10_behindBlanks_85 (by show _ + 0 ≤ 0; omega) (by show _ + 0 ≤ 0; omega) (fun v u5 k5 n5 hq5 => ?_)
                  obtain ⟨hv5, hw5, rfl, rfl⟩ := hq5
                  subst hv5
                  rw [hw5]
                  refine jJ_open (xs := [[(Z 0, .inr (8, [E 0, E 1, E 2, .ref (Z 1), E 4, E 5, E 6, E 7, E 8, E 9, E 10, E 11, E 12, E 13, E 14, E 15, E 16, E 17, E 18]))], [(Z 1, .inr (7, [.ref (Z 8), .int (nI T.length), X 2, X 3, X 4, X 5, X 6, X 7, X 8, X 9, X 10, X 11, X 12]))], [(Z 8, .inl (cB, 16000, .inl B))]]) (r := []) (cs2 := [[(Z 0, .inr (8, [E 0, E 1, E 2, .ref (Z 1), E 4, E 5, E 6, E 7, E 8, E 9, E 10, E 11, E 12, E 13, E 14, E 15, E 16, E 17, E 18]))], [(Z 1, .inr (7, [.ref (Z 8), .int (nI T.length), X 2, X 3, X 4, X 5, X 6, X 7, X 8, X 9, X 10, X 11, X 12]))], [(Z 8, .inl (cB, 16000, .inl B))]]) rfl ?_
                  refine jJ_eq (g2 := F0 m 88 ls [.int (iI (lk T e9))]) (cs2 := [[(Z 0, .inr (8, [E 0, E 1, E 2, .ref (Z 1), E 4, E 5, E 6, E 7, E 8, E 9, E 10, E 11, E 12, E 13, E 14, E 15, E 16, E 17, E 18]))], [(Z 1, .inr (7, [.ref (Z 8), .int (nI T.length), X 2, X 3, X 4, X 5, X 6, X 7, X 8, X 9, X 10, X 11, X 12]))], [(Z 8, .inl (cB, 16000, .inl B))]]) rfl rfl ?_
                  have hlk5_88 := lk_c T e9
                  have hl256_5_88 := hB.2.2 e9
                  refine jJ_of (fun H locs => lv_bipush (v := (nI 41)) hx hb dX10_behindBlanks_88 (by decide)) ?_
                  rw [nI_iI 41]
                  refine jJ_eq (g2 := F0 m 90 ls [.int (iI 41), .int (iI (lk T e9))]) (cs2 := [[(Z 0, .inr (8, [E 0, E 1, E 2, .ref (Z 1), E 4, E 5, E 6, E 7, E 8, E 9, E 10, E 11, E 12, E 13, E 14, E 15, E 16, E 17, E 18]))], [(Z 1, .inr (7, [.ref (Z 8), .int (nI T.length), X 2, X 3, X 4, X 5, X 6, X 7, X 8, X 9, X 10, X 11, X 12]))], [(Z 8, .inl (cB, 16000, .inl B))]]) rfl rfl ?_
                  refine jJ_of2 (fun H locs => jz_icmp_eq (tgt := 95) hx hb dX10_behindBlanks_90 (by decide) (by omega) (by omega) (by omega) (by omega)) (fun c90 => ?_) (fun c90 => ?_)
                  · have hclo : clo T k = (e9 : Int) := by rw [← hcl2]; show (if _ then _ else _) = _; rw [if_neg (by omega), if_pos (by omega)]
                    refine jJ_of (fun H locs => lv_iload hx hb dX10_behindBlanks_95 (lv_at hl 0 rfl)) ?_
                    refine jJ_of (fun H locs => lv_iconst (v := (nI 1)) hx hb dX10_behindBlanks_97 (by decide)) ?_
                    refine jJ_of (fun H locs => jn_iadd hx hb dX10_behindBlanks_98) ?_
                    refine jJ_ofL (fun H locs => lv_istore_n (lv' := [(2, .int (nI (e9 + 1))), (4, .int (nI e9)), (0, .ref (Z 0))]) hx hb dX10_behindBlanks_99 rfl hl (by decide) rfl) (fun ls hl => ?_)
                    refine jJ_of (fun H locs => lv_goto (tgt := 105) hx hb dX10_behindBlanks_100 (by decide)) ?_
                    refine jJ_of (fun H locs => lv_goto (tgt := 2) hx hb dX10_behindBlanks_105 (by decide)) ?_
                    exact ih (e9 + 1) (by omega) (by omega) (by rw [← hcl]; show _ = (if _ then _ else _); rw [if_neg (by omega), if_pos (by omega), if_neg (by omega), hclo]; rfl) ls (lv_sub hl [0, 2] rfl)
                  · have hclo : clo T k = -1 := by
                      rw [← hcl2]
                      show (if _ then _ else _) = _
                      by_cases q : T.length ≤ e9
                      · rw [if_pos q]
                      · rw [if_neg q, if_neg (by omega), if_pos (by omega)]
                    refine jJ_of (fun H locs => lv_iload_n hx hb dX10_behindBlanks_93 rfl (lv_at hl 1 rfl)) ?_
                    have he : nI k = nI (pb T i) := by
                      rw [← hcl]; show nI k = nI (if _ then _ else _); rw [if_neg (by omega), if_pos (by omega), if_pos (by omega)]
                    exact jJ_iret hx hb hr hlocks dX10_behindBlanks_94 (by show _ ≤ 0; omega) (by show _ ≤ 0; omega) ⟨by rw [he], rfl, rfl, rfl⟩
                · refine jJ_of (fun H locs => lv_aload_n hx hb dX10_behindBlanks_65 rfl (lv_at hl 2 rfl)) ?_
                  refine jJ_of (fun H locs => lv_iload hx hb dX10_behindBlanks_66 (lv_at hl 0 rfl)) ?_
                  refine jJ_callV (As := [.int (nI e9)]) (rest := []) (wc := jF (bWd cB Z (lsV [E 0, E 1, E 2, .null, E 4, E 5, E 6, E 7, E 8, E 9, E 10, E 11, E 12, E 13, E 14, E 15, E 16, E 17, E 18]) (lsV [.null, .null, X 2, X 3, X 4, X 5, X 6, X 7, X 8, X 9, X 10, X 11, X 12]) B T.length)) (cs2 := []) (C := RX10) (T := TX10) (N := 19) (ci := 8) [0, 1, 2] [] ⟨hx, hb, hml, hown, hts⟩ hK hA hAm (c_Md_look (E := lsV [E 0, E 1, E 2, .null, E 4, E 5, E 6, E 7, E 8, E 9, E 10, E 11, E 12, E 13, E 14, E 15, E 16, E 17, E 18]) (X := lsV [.null, .null, X 2, X 3, X 4, X 5, X 6, X 7, X 8, X 9, X 10, X 11, X 12]) hB e9 (by omega)) (cwV 1 hts gX10_behindBlanks_X10_look rfl rfl rfl (by decide +kernel) ⟨Nat.le_of_ble_eq_true rfl, Nat.le_of_ble_eq_true rfl⟩) (nn := 3) rfl (by decide) rfl rfl ⟨0, _, rfl⟩ rfl rfl rfl hl.1 (Nat.le_of_ble_eq_true rfl) dX10_behindBlanks_68 (by show _ + 0 ≤ 0; omega) (by show _ + 0 ≤ 0; omega) (fun v u6 k6 n6 hq6 => ?_)
                  obtain ⟨hv6, hw6, rfl, rfl⟩ := hq6
                  subst hv6
                  rw [hw6]
                  refine jJ_open (xs := [[(Z 0, .inr (8, [E 0, E 1, E 2, .ref (Z 1), E 4, E 5, E 6, E 7, E 8, E 9, E 10, E 11, E 12, E 13, E 14, E 15, E 16, E 17, E 18]))], [(Z 1, .inr (7, [.ref (Z 8), .int (nI T.length), X 2, X 3, X 4, X 5, X 6, X 7, X 8, X 9, X 10, X 11, X 12]))], [(Z 8, .inl (cB, 16000, .inl B))]]) (r := []) (cs2 := [[(Z 0, .inr (8, [E 0, E 1, E 2, .ref (Z 1), E 4, E 5, E 6, E 7, E 8, E 9, E 10, E 11, E 12, E 13, E 14, E 15, E 16, E 17, E 18]))], [(Z 1, .inr (7, [.ref (Z 8), .int (nI T.length), X 2, X 3, X 4, X 5, X 6, X 7, X 8, X 9, X 10, X 11, X 12]))], [(Z 8, .inl (cB, 16000, .inl B))]]) rfl ?_
                  refine jJ_eq (g2 := F0 m 71 ls [.int (iI (lk T e9))]) (cs2 := [[(Z 0, .inr (8, [E 0, E 1, E 2, .ref (Z 1), E 4, E 5, E 6, E 7, E 8, E 9, E 10, E 11, E 12, E 13, E 14, E 15, E 16, E 17, E 18]))], [(Z 1, .inr (7, [.ref (Z 8), .int (nI T.length), X 2, X 3, X 4, X 5, X 6, X 7, X 8, X 9, X 10, X 11, X 12]))], [(Z 8, .inl (cB, 16000, .inl B))]]) rfl rfl ?_
                  have hlk6_71 := lk_c T e9
                  have hl256_6_71 := hB.2.2 e9
                  refine jJ_of (fun H locs => lv_bipush (v := (nI 41)) hx hb dX10_behindBlanks_71 (by decide)) ?_
                  rw [nI_iI 41]
                  refine jJ_eq (g2 := F0 m 73 ls [.int (iI 41), .int (iI (lk T e9))]) (cs2 := [[(Z 0, .inr (8, [E 0, E 1, E 2, .ref (Z 1), E 4, E 5, E 6, E 7, E 8, E 9, E 10, E 11, E 12, E 13, E 14, E 15, E 16, E 17, E 18]))], [(Z 1, .inr (7, [.ref (Z 8), .int (nI T.length), X 2, X 3, X 4, X 5, X 6, X 7, X 8, X 9, X 10, X 11, X 12]))], [(Z 8, .inl (cB, 16000, .inl B))]]) rfl rfl ?_
                  refine jJ_of2 (fun H locs => jz_icmp_eq (tgt := 82) hx hb dX10_behindBlanks_73 (by decide) (by omega) (by omega) (by omega) (by omega)) (fun c73 => ?_) (fun c73 => ?_)
                  · refine jJ_of (fun H locs => lv_aload_n hx hb dX10_behindBlanks_82 rfl (lv_at hl 2 rfl)) ?_
                    refine jJ_of (fun H locs => lv_iload hx hb dX10_behindBlanks_83 (lv_at hl 0 rfl)) ?_
                    refine jJ_callV (As := [.int (nI e9)]) (rest := []) (wc := jF (bWd cB Z (lsV [E 0, E 1, E 2, .null, E 4, E 5, E 6, E 7, E 8, E 9, E 10, E 11, E 12, E 13, E 14, E 15, E 16, E 17, E 18]) (lsV [.null, .null, X 2, X 3, X 4, X 5, X 6, X 7, X 8, X 9, X 10, X 11, X 12]) B T.length)) (cs2 := []) (C := RX10) (T := TX10) (N := 19) (ci := 8) [0, 1, 2] [] ⟨hx, hb, hml, hown, hts⟩ hK hA hAm (c_Md_look (E := lsV [E 0, E 1, E 2, .null, E 4, E 5, E 6, E 7, E 8, E 9, E 10, E 11, E 12, E 13, E 14, E 15, E 16, E 17, E 18]) (X := lsV [.null, .null, X 2, X 3, X 4, X 5, X 6, X 7, X 8, X 9, X 10, X 11, X 12]) hB e9 (by omega)) (cwV 1 hts gX10_behindBlanks_X10_look rfl rfl rfl (by decide +kernel) ⟨Nat.le_of_ble_eq_true rfl, Nat.le_of_ble_eq_true rfl⟩) (nn := 3) rfl (by decide) rfl rfl ⟨0, _, rfl⟩ rfl rfl rfl hl.1 (Nat.le_of_ble_eq_true rfl) dX10_behindBlanks_85 (by show _ + 0 ≤ 0; omega) (by show _ + 0 ≤ 0; omega) (fun v u7 k7 n7 hq7 => ?_)
                    obtain ⟨hv7, hw7, rfl, rfl⟩ := hq7
                    subst hv7
                    rw [hw7]
                    refine jJ_open (xs := [[(Z 0, .inr (8, [E 0, E 1, E 2, .ref (Z 1), E 4, E 5, E 6, E 7, E 8, E 9, E 10, E 11, E 12, E 13, E 14, E 15, E 16, E 17, E 18]))], [(Z 1, .inr (7, [.ref (Z 8), .int (nI T.length), X 2, X 3, X 4, X 5, X 6, X 7, X 8, X 9, X 10, X 11, X 12]))], [(Z 8, .inl (cB, 16000, .inl B))]]) (r := []) (cs2 := [[(Z 0, .inr (8, [E 0, E 1, E 2, .ref (Z 1), E 4, E 5, E 6, E 7, E 8, E 9, E 10, E 11, E 12, E 13, E 14, E 15, E 16, E 17, E 18]))], [(Z 1, .inr (7, [.ref (Z 8), .int (nI T.length), X 2, X 3, X 4, X 5, X 6, X 7, X 8, X 9, X 10, X 11, X 12]))], [(Z 8, .inl (cB, 16000, .inl B))]]) rfl ?_
                    refine jJ_eq (g2 := F0 m 88 ls [.int (iI (lk T e9))]) (cs2 := [[(Z 0, .inr (8, [E 0, E 1, E 2, .ref (Z 1), E 4, E 5, E 6, E 7, E 8, E 9, E 10, E 11, E 12, E 13, E 14, E 15, E 16, E 17, E 18]))], [(Z 1, .inr (7, [.ref (Z 8), .int (nI T.length), X 2, X 3, X 4, X 5, X 6, X 7, X 8, X 9, X 10, X 11, X 12]))], [(Z 8, .inl (cB, 16000, .inl B))]]) rfl rfl ?_
                    have hlk7_88 := lk_c T e9
                    have hl256_7_88 := hB.2.2 e9
                    refine jJ_of (fun H locs => lv_bipush (v := (nI 41)) hx hb dX10_behindBlanks_88 (by decide)) ?_
                    rw [nI_iI 41]
                    refine jJ_eq (g2 := F0 m 90 ls [.int (iI 41), .int (iI (lk T e9))]) (cs2 := [[(Z 0, .inr (8, [E 0, E 1, E 2, .ref (Z 1), E 4, E 5, E 6, E 7, E 8, E 9, E 10, E 11, E 12, E 13, E 14, E 15, E 16, E 17, E 18]))], [(Z 1, .inr (7, [.ref (Z 8), .int (nI T.length), X 2, X 3, X 4, X 5, X 6, X 7, X 8, X 9, X 10, X 11, X 12]))], [(Z 8, .inl (cB, 16000, .inl B))]]) rfl rfl ?_
                    refine jJ_of2 (fun H locs => jz_icmp_eq (tgt := 95) hx hb dX10_behindBlanks_90 (by decide) (by omega) (by omega) (by omega) (by omega)) (fun c90 => ?_) (fun c90 => ?_)
                    · have hclo : clo T k = (e9 : Int) := by rw [← hcl2]; show (if _ then _ else _) = _; rw [if_neg (by omega), if_pos (by omega)]
                      refine jJ_of (fun H locs => lv_iload hx hb dX10_behindBlanks_95 (lv_at hl 0 rfl)) ?_
                      refine jJ_of (fun H locs => lv_iconst (v := (nI 1)) hx hb dX10_behindBlanks_97 (by decide)) ?_
                      refine jJ_of (fun H locs => jn_iadd hx hb dX10_behindBlanks_98) ?_
                      refine jJ_ofL (fun H locs => lv_istore_n (lv' := [(2, .int (nI (e9 + 1))), (4, .int (nI e9)), (0, .ref (Z 0))]) hx hb dX10_behindBlanks_99 rfl hl (by decide) rfl) (fun ls hl => ?_)
                      refine jJ_of (fun H locs => lv_goto (tgt := 105) hx hb dX10_behindBlanks_100 (by decide)) ?_
                      refine jJ_of (fun H locs => lv_goto (tgt := 2) hx hb dX10_behindBlanks_105 (by decide)) ?_
                      exact ih (e9 + 1) (by omega) (by omega) (by rw [← hcl]; show _ = (if _ then _ else _); rw [if_neg (by omega), if_pos (by omega), if_neg (by omega), hclo]; rfl) ls (lv_sub hl [0, 2] rfl)
                    · have hclo : clo T k = -1 := by
                        rw [← hcl2]
                        show (if _ then _ else _) = _
                        by_cases q : T.length ≤ e9
                        · rw [if_pos q]
                        · rw [if_neg q, if_neg (by omega), if_pos (by omega)]
                      refine jJ_of (fun H locs => lv_iload_n hx hb dX10_behindBlanks_93 rfl (lv_at hl 1 rfl)) ?_
                      have he : nI k = nI (pb T i) := by
                        rw [← hcl]; show nI k = nI (if _ then _ else _); rw [if_neg (by omega), if_pos (by omega), if_pos (by omega)]
                      exact jJ_iret hx hb hr hlocks dX10_behindBlanks_94 (by show _ ≤ 0; omega) (by show _ ≤ 0; omega) ⟨by rw [he], rfl, rfl, rfl⟩
                  · refine jJ_ofL (fun H locs => lv_iinc (v := (nI (e9 + 1))) (lv' := [(4, .int (nI (e9 + 1))), (2, .int (nI k)), (0, .ref (Z 0))]) hx hb dX10_behindBlanks_76 hl (k := 0) rfl (nI_add _ _) (by decide) rfl) (fun ls hl => ?_)
                    refine jJ_of (fun H locs => lv_goto (tgt := 43) hx hb dX10_behindBlanks_79 (by decide)) ?_
                    exact ih2 (e9 + 1) (by omega) (by omega) (by omega) (by rw [← hcl2]; show _ = (if _ then _ else _); rw [if_neg (by omega), if_neg (by omega), if_neg (by omega)]) ls (lv_sub hl [0, 1, 2] rfl)
        · refine jJ_ofL (fun H locs => lv_iinc (v := (nI (k + 1))) (lv' := [(2, .int (nI (k + 1))), (3, .int (iI (lk T k))), (0, .ref (Z 0))]) hx hb dX10_behindBlanks_26 hl (k := 1) rfl (nI_add _ _) (by decide) rfl) (fun ls hl => ?_)
          refine jJ_of (fun H locs => lv_goto (tgt := 105) hx hb dX10_behindBlanks_29 (by decide)) ?_
          refine jJ_of (fun H locs => lv_goto (tgt := 2) hx hb dX10_behindBlanks_105 (by decide)) ?_
          exact ih (k + 1) (by omega) (by omega) (by rw [← hcl]; show _ = (if _ then _ else _); rw [if_neg (by omega), if_neg (by omega), if_pos (by omega)]) ls (lv_sub hl [0, 2] rfl)
def iaF (T : List Nat) (k a : Nat) : Nat → Nat → Bool
  | 0, _ => true
  | f + 1, j => if lk T (k + j - a) = ((jW2.getD j 0 : Nat) : Int) then iaF T k a f (j + 1) else false
def iAt (T : List Nat) (k a b : Nat) : Bool := iaF T k a (b - a) a
set_option maxHeartbeats 4000000 in
set_option maxRecDepth 100000 in
/-- isAt(k, a, b) -/
theorem c_Md_isAt {Z : Nat → Nat} {E X : Nat → Value} {B : Nat → Int32} {T : List Nat} (hB : tB T B) (k a b9 : Nat) (hk : k < 50000) (hab : a ≤ b9) (hb9 : b9 ≤ 72) : HM l yX10_isAt wsX10_isAt ({ frames := 4, cells := 0, slots := 0, locals := 180 } : Room) D G (jT cI cJ cB cZ) [.ref (Z 0), .int (nI k), .int (nI a), .int (nI b9)] (jF (bWd cB Z E X B T.length)) (fun v u k9 n9 => v = some (.int (bI (iAt T k a b9))) ∧ u = jF (bWd cB Z E X B T.length) ∧ k9 = 0 ∧ n9 = 0) := by
  refine HM_of (cc := cX10_isAt) (maxL := 5) (ret := (some .boolean)) (lv := [(0, .ref (Z 0)), (1, .int (nI k)), (2, .int (nI a)), (3, .int (nI b9))]) (by decide) rfl rfl (Nat.le_of_ble_eq_true rfl) (fun p e s m args below meth c A0 ls hx hb hr hts hown hlocks hml hnm hK hA hAm hl => ?_)
  refine jJ_open (xs := [[(Z 0, .inr (8, [E 0, E 1, E 2, .ref (Z 1), E 4, E 5, E 6, E 7, E 8, E 9, E 10, E 11, E 12, E 13, E 14, E 15, E 16, E 17, E 18]))], [(Z 1, .inr (7, [.ref (Z 8), .int (nI T.length), X 2, X 3, X 4, X 5, X 6, X 7, X 8, X 9, X 10, X 11, X 12]))], [(Z 8, .inl (cB, 16000, .inl B))]]) (r := []) (cs2 := [[(Z 0, .inr (8, [E 0, E 1, E 2, .ref (Z 1), E 4, E 5, E 6, E 7, E 8, E 9, E 10, E 11, E 12, E 13, E 14, E 15, E 16, E 17, E 18]))], [(Z 1, .inr (7, [.ref (Z 8), .int (nI T.length), X 2, X 3, X 4, X 5, X 6, X 7, X 8, X 9, X 10, X 11, X 12]))], [(Z 8, .inl (cB, 16000, .inl B))]]) rfl ?_
  have hL9 := hB.1
  refine jJ_of (fun H locs => lv_iload_n hx hb dX10_isAt_0 rfl (lv_at hl 2 rfl)) ?_
  refine jJ_ofL (fun H locs => lv_istore (lv' := [(4, .int (nI a)), (0, .ref (Z 0)), (1, .int (nI k)), (2, .int (nI a)), (3, .int (nI b9))]) hx hb dX10_isAt_1 hl (by decide) rfl) (fun ls hl => ?_)
  suffices lp : ∀ (f j : Nat), f + j = b9 → a ≤ j → iaF T k a f j = iAt T k a b9 → ∀ ls, lv_has ls 5 [(4, .int (nI j)), (0, .ref (Z 0)), (1, .int (nI k)), (2, .int (nI a)), (3, .int (nI b9))] → jJ p l e _ s m args below meth c D A0 [[(Z 0, .inr (8, [E 0, E 1, E 2, .ref (Z 1), E 4, E 5, E 6, E 7, E 8, E 9, E 10, E 11, E 12, E 13, E 14, E 15, E 16, E 17, E 18]))], [(Z 1, .inr (7, [.ref (Z 8), .int (nI T.length), X 2, X 3, X 4, X 5, X 6, X 7, X 8, X 9, X 10, X 11, X 12]))], [(Z 8, .inl (cB, 16000, .inl B))]] 0 0 (jEnd below D A0 _ args s _ _) (F0 m 3 ls []) from lp (b9 - a) a (by omega) (by omega) rfl ls (lv_sub hl [0, 1, 2, 3, 4] rfl)
  intro f
  induction f with
  | zero =>
    intro j h9 haj hcl ls hl
    refine jJ_of (fun H locs => lv_iload hx hb dX10_isAt_3 (lv_at hl 0 rfl)) ?_
    refine jJ_of (fun H locs => lv_iload_n hx hb dX10_isAt_5 rfl (lv_at hl 4 rfl)) ?_
    refine jJ_of2 (fun H locs => jn_icmp_ge (tgt := 37) hx hb dX10_isAt_6 (by decide) (by omega) (by omega)) (fun c6 => ?_) (fun c6 => ?_)
    · refine jJ_of (fun H locs => lv_iconst (v := (nI 1)) hx hb dX10_isAt_37 (by decide)) ?_
      have he : iAt T k a b9 = true := hcl.symm.trans rfl
      exact jJ_zret hx hb hr hlocks dX10_isAt_38 (by show _ ≤ 0; omega) (by show _ ≤ 0; omega) (Or.inr rfl) ⟨by rw [he]; rfl, rfl, rfl, rfl⟩
    · exfalso; omega
  | succ f ih =>
    intro j h9 haj hcl ls hl
    refine jJ_of (fun H locs => lv_iload hx hb dX10_isAt_3 (lv_at hl 0 rfl)) ?_
    refine jJ_of (fun H locs => lv_iload_n hx hb dX10_isAt_5 rfl (lv_at hl 4 rfl)) ?_
    refine jJ_of2 (fun H locs => jn_icmp_ge (tgt := 37) hx hb dX10_isAt_6 (by decide) (by omega) (by omega)) (fun c6 => ?_) (fun c6 => ?_)
    · exfalso; omega
    · refine jJ_of (fun H locs => lv_aload_n hx hb dX10_isAt_9 rfl (lv_at hl 1 rfl)) ?_
      refine jJ_of (fun H locs => lv_iload_n hx hb dX10_isAt_10 rfl (lv_at hl 2 rfl)) ?_
      refine jJ_of (fun H locs => lv_iload hx hb dX10_isAt_11 (lv_at hl 0 rfl)) ?_
      refine jJ_of (fun H locs => jn_iadd hx hb dX10_isAt_13) ?_
      refine jJ_of (fun H locs => lv_iload_n hx hb dX10_isAt_14 rfl (lv_at hl 3 rfl)) ?_
      refine jJ_of (fun H locs => jn_isub hx hb dX10_isAt_15 (by omega)) ?_
      refine jJ_callV (As := [.int (nI ((k + j) - a))]) (rest := []) (wc := jF (bWd cB Z (lsV [E 0, E 1, E 2, .null, E 4, E 5, E 6, E 7, E 8, E 9, E 10, E 11, E 12, E 13, E 14, E 15, E 16, E 17, E 18]) (lsV [.null, .null, X 2, X 3, X 4, X 5, X 6, X 7, X 8, X 9, X 10, X 11, X 12]) B T.length)) (cs2 := []) (C := RX10) (T := TX10) (N := 19) (ci := 8) [0, 1, 2] [] ⟨hx, hb, hml, hown, hts⟩ hK hA hAm (c_Md_look (E := lsV [E 0, E 1, E 2, .null, E 4, E 5, E 6, E 7, E 8, E 9, E 10, E 11, E 12, E 13, E 14, E 15, E 16, E 17, E 18]) (X := lsV [.null, .null, X 2, X 3, X 4, X 5, X 6, X 7, X 8, X 9, X 10, X 11, X 12]) hB ((k + j) - a) (by omega)) (cwV 1 hts gX10_isAt_X10_look rfl rfl rfl (by decide +kernel) ⟨Nat.le_of_ble_eq_true rfl, Nat.le_of_ble_eq_true rfl⟩) (nn := 3) rfl (by decide) rfl rfl ⟨0, _, rfl⟩ rfl rfl rfl hl.1 (Nat.le_of_ble_eq_true rfl) dX10_isAt_16 (by show _ + 0 ≤ 0; omega) (by show _ + 0 ≤ 0; omega) (fun v u1 k1 n1 hq1 => ?_)
      obtain ⟨hv1, hw1, rfl, rfl⟩ := hq1
      subst hv1
      rw [hw1]
      refine jJ_open (xs := [[(Z 0, .inr (8, [E 0, E 1, E 2, .ref (Z 1), E 4, E 5, E 6, E 7, E 8, E 9, E 10, E 11, E 12, E 13, E 14, E 15, E 16, E 17, E 18]))], [(Z 1, .inr (7, [.ref (Z 8), .int (nI T.length), X 2, X 3, X 4, X 5, X 6, X 7, X 8, X 9, X 10, X 11, X 12]))], [(Z 8, .inl (cB, 16000, .inl B))]]) (r := []) (cs2 := [[(Z 0, .inr (8, [E 0, E 1, E 2, .ref (Z 1), E 4, E 5, E 6, E 7, E 8, E 9, E 10, E 11, E 12, E 13, E 14, E 15, E 16, E 17, E 18]))], [(Z 1, .inr (7, [.ref (Z 8), .int (nI T.length), X 2, X 3, X 4, X 5, X 6, X 7, X 8, X 9, X 10, X 11, X 12]))], [(Z 8, .inl (cB, 16000, .inl B))]]) rfl ?_
      refine jJ_eq (g2 := F0 m 19 ls [.int (iI (lk T ((k + j) - a)))]) (cs2 := [[(Z 0, .inr (8, [E 0, E 1, E 2, .ref (Z 1), E 4, E 5, E 6, E 7, E 8, E 9, E 10, E 11, E 12, E 13, E 14, E 15, E 16, E 17, E 18]))], [(Z 1, .inr (7, [.ref (Z 8), .int (nI T.length), X 2, X 3, X 4, X 5, X 6, X 7, X 8, X 9, X 10, X 11, X 12]))], [(Z 8, .inl (cB, 16000, .inl B))]]) rfl rfl ?_
      have hlk1_19 := lk_c T ((k + j) - a)
      have hl256_1_19 := hB.2.2 ((k + j) - a)
      refine jJ_ldcS hx hb hown hAm.2.2.2.2.2.2.1 dX10_isAt_19 ?_
      refine jJ_of (fun H locs => lv_iload hx hb dX10_isAt_21 (lv_at hl 0 rfl)) ?_
      refine jJ_callVO (As := [.int (nI j)]) (rest := [.int (iI (lk T ((k + j) - a)))]) (wc := []) (cs2 := [[(Z 0, .inr (8, [E 0, E 1, E 2, .ref (Z 1), E 4, E 5, E 6, E 7, E 8, E 9, E 10, E 11, E 12, E 13, E 14, E 15, E 16, E 17, E 18]))], [(Z 1, .inr (7, [.ref (Z 8), .int (nI T.length), X 2, X 3, X 4, X 5, X 6, X 7, X 8, X 9, X 10, X 11, X 12]))], [(Z 8, .inl (cB, 16000, .inl B))]]) (C := RJ0) [] [0, 1, 2] ⟨hx, hb, hml, hown, hts⟩ hK hA hAm (c_charAt (jTx2 G) j (by omega)) (cwV 1 hts gX10_isAt_J0_charAt_5068e rfl rfl rfl (by decide +kernel) ⟨Nat.le_of_ble_eq_true rfl, Nat.le_of_ble_eq_true rfl⟩) (nn := 3) rfl (by decide) rfl rfl (hAm.2.2.1 1 (by decide)).2.2 rfl rfl hl.1 (Nat.le_of_ble_eq_true rfl) dX10_isAt_23 (by show _ + 0 ≤ 0; omega) (by show _ + 0 ≤ 0; omega) (fun v u2 k2 n2 hq2 => ?_)
      obtain ⟨rfl, rfl, rfl, rfl⟩ := hq2
      refine jJ_eq (g2 := F0 m 26 ls [.int (nI (jW2.getD j 0)), .int (iI (lk T ((k + j) - a)))]) (cs2 := [([] : va_W), [(Z 0, .inr (8, [E 0, E 1, E 2, .ref (Z 1), E 4, E 5, E 6, E 7, E 8, E 9, E 10, E 11, E 12, E 13, E 14, E 15, E 16, E 17, E 18]))], [(Z 1, .inr (7, [.ref (Z 8), .int (nI T.length), X 2, X 3, X 4, X 5, X 6, X 7, X 8, X 9, X 10, X 11, X 12]))], [(Z 8, .inl (cB, 16000, .inl B))]]) rfl rfl ?_
      refine jJ_flat (cs2 := [[(Z 0, .inr (8, [E 0, E 1, E 2, .ref (Z 1), E 4, E 5, E 6, E 7, E 8, E 9, E 10, E 11, E 12, E 13, E 14, E 15, E 16, E 17, E 18]))], [(Z 1, .inr (7, [.ref (Z 8), .int (nI T.length), X 2, X 3, X 4, X 5, X 6, X 7, X 8, X 9, X 10, X 11, X 12]))], [(Z 8, .inl (cB, 16000, .inl B))]]) rfl ?_
      have hw2_2 := (jTx2 G).2.1 j
      rw [nI_iI (jW2.getD j 0)]
      refine jJ_of2 (fun H locs => jz_icmp_eq (tgt := 31) hx hb dX10_isAt_26 (by decide) (by omega) (by omega) (by omega) (by omega)) (fun c26 => ?_) (fun c26 => ?_)
      · refine jJ_ofL (fun H locs => lv_iinc (v := (nI (j + 1))) (lv' := [(4, .int (nI (j + 1))), (0, .ref (Z 0)), (1, .int (nI k)), (2, .int (nI a)), (3, .int (nI b9))]) hx hb dX10_isAt_31 hl (k := 0) rfl (nI_add _ _) (by decide) rfl) (fun ls hl => ?_)
        refine jJ_of (fun H locs => lv_goto (tgt := 3) hx hb dX10_isAt_34 (by decide)) ?_
        exact ih (j + 1) (by omega) (by omega) (by rw [← hcl]; show _ = (if _ then _ else _); rw [if_pos (by omega)]) ls (lv_sub hl [0, 1, 2, 3, 4] rfl)
      · refine jJ_of (fun H locs => lv_iconst (v := (nI 0)) hx hb dX10_isAt_29 (by decide)) ?_
        have he : iAt T k a b9 = false := hcl.symm.trans (if_neg (by omega))
        exact jJ_zret hx hb hr hlocks dX10_isAt_30 (by show _ ≤ 0; omega) (by show _ ≤ 0; omega) (Or.inl rfl) ⟨by rw [he]; rfl, rfl, rfl, rfl⟩
def wA : List Nat := [1, 4, 9, 15, 18, 22, 26, 30, 34, 39, 43, 47, 50, 54, 57, 60, 63, 66, 69]
def wB : List Nat := [3, 8, 14, 17, 21, 25, 29, 33, 38, 42, 46, 49, 53, 56, 59, 62, 65, 68, 71]
def wdS (T : List Nat) (k : Nat) : Nat → Nat × Int
  | 0 => (0, -1)
  | n + 1 => if (wdS T k n).1 < wB.getD n 0 - wA.getD n 0 ∧ iAt T k (wA.getD n 0) (wB.getD n 0) = true then (wB.getD n 0 - wA.getD n 0, (n : Int)) else wdS T k n
theorem wAB : ∀ n, n < 19 → 1 ≤ wA.getD n 0 ∧ wA.getD n 0 < wB.getD n 0 ∧ wB.getD n 0 < 72 ∧ wB.getD n 0 ≤ wA.getD n 0 + 5 ∧ wA.getD (n + 1) 72 = wB.getD n 0 + 1 ∧ wA.getD n 72 = wA.getD n 0 ∧ jW2.getD (wB.getD n 0) 0 = 32 := by decide
theorem wABi : ∀ n, n < 19 → ∀ j, j < 72 → wA.getD n 0 ≤ j → j < wB.getD n 0 → ¬ jW2.getD j 0 = 32 := by decide +kernel
theorem wdS_b (T : List Nat) (k : Nat) : ∀ n, n ≤ 19 → (wdS T k n).1 ≤ 5 ∧ -1 ≤ (wdS T k n).2 ∧ (wdS T k n).2 < (n : Int) ∧ ((wdS T k n).2 = -1 → (wdS T k n).1 = 0)
  | 0, _ => ⟨Nat.zero_le _, by show (-1 : Int) ≤ -1; omega, by show (-1 : Int) < 0; omega, fun _ => rfl⟩
  | n + 1, h => by
    have h1 := wdS_b T k n (by omega)
    have h2 := wAB n (by omega)
    unfold wdS
    split
    · exact ⟨by show wB.getD n 0 - wA.getD n 0 ≤ 5; omega, by show (-1 : Int) ≤ (n : Int); omega, by show (n : Int) < ((n + 1 : Nat) : Int); omega, fun q => by have q2 : (n : Int) = -1 := q; omega⟩
    · exact ⟨h1.1, h1.2.1, by omega, h1.2.2.2⟩
def wTok (T : List Nat) (k : Nat) : Nat × Nat := if 0 ≤ (wdS T k 19).2 then (300 + (wdS T k 19).2.toNat, k + (wdS T k 19).1) else (T.getD k 0, k + 1)
set_option maxHeartbeats 4000000 in
set_option maxRecDepth 100000 in
/-- word(k) -/
theorem c_Md_word {Z : Nat → Nat} {E X : Nat → Value} {B : Nat → Int32} {V : Nat → Nat → Int32} {T : List Nat} {tk : Nat → List Nat} (hB : tB T B) (hT : tV tk V) (hl9 : tL tk) (hlt : (tk 0).length < 32008) (k : Nat) (hk : k < T.length) (hc : 65 ≤ T.getD k 0 ∧ T.getD k 0 ≤ 90) : HM l yX10_word wsX10_word ({ frames := 5, cells := 0, slots := 0, locals := 220 } : Room) D G (jT cI cJ cB cZ) [.ref (Z 0), .int (nI k)] (jF (zW cI cB cZ Z E X B V T.length ((tk 0).length))) (fun v u k9 n9 => v = some (.int (nI (wTok T k).2)) ∧ (∃ V2 : Nat → Nat → Int32, tV (tkAdd tk (wTok T k).1 k 0) V2 ∧ u = jF (zW cI cB cZ Z E X B V2 T.length ((tkAdd tk (wTok T k).1 k 0 0).length))) ∧ k9 = 0 ∧ n9 = 0) := by
  refine HM_of (cc := cX10_word) (maxL := 7) (ret := (some .int)) (lv := [(0, .ref (Z 0)), (1, .int (nI k))]) (by decide) rfl rfl (Nat.le_of_ble_eq_true rfl) (fun p e s m args below meth c A0 ls hx hb hr hts hown hlocks hml hnm hK hA hAm hl => ?_)
  refine jJ_open (xs := [[(Z 0, .inr (8, [E 0, E 1, E 2, .ref (Z 1), E 4, E 5, E 6, E 7, E 8, E 9, E 10, E 11, E 12, E 13, E 14, E 15, E 16, E 17, E 18]))], [(Z 1, .inr (7, [.ref (Z 8), .int (nI T.length), .ref (Z 3), .ref (Z 4), .ref (Z 5), .ref (Z 6), .int (nI ((tk 0).length)), X 7, X 8, X 9, X 10, X 11, X 12]))], [(Z 8, .inl (cB, 16000, .inl B))], [(Z 3, .inl (cB, 32008, .inl (V 0)))], [(Z 4, .inl (cI, 32008, .inl (V 1)))], [(Z 5, .inl (cI, 32008, .inl (V 2)))], [(Z 6, .inl (cZ, 32008, .inl (V 3)))]]) (r := []) (cs2 := [[(Z 0, .inr (8, [E 0, E 1, E 2, .ref (Z 1), E 4, E 5, E 6, E 7, E 8, E 9, E 10, E 11, E 12, E 13, E 14, E 15, E 16, E 17, E 18]))], [(Z 1, .inr (7, [.ref (Z 8), .int (nI T.length), .ref (Z 3), .ref (Z 4), .ref (Z 5), .ref (Z 6), .int (nI ((tk 0).length)), X 7, X 8, X 9, X 10, X 11, X 12]))], [(Z 8, .inl (cB, 16000, .inl B))], [(Z 3, .inl (cB, 32008, .inl (V 0)))], [(Z 4, .inl (cI, 32008, .inl (V 1)))], [(Z 5, .inl (cI, 32008, .inl (V 2)))], [(Z 6, .inl (cZ, 32008, .inl (V 3)))]]) rfl ?_
  have hL9 := hB.1
  have hL8 := hT.1
  refine jJ_of (fun H locs => lv_iconst (v := (nI 0)) hx hb dX10_word_0 (by decide)) ?_
  refine jJ_ofL (fun H locs => lv_istore_n (lv' := [(2, .int (nI 0)), (0, .ref (Z 0)), (1, .int (nI k))]) hx hb dX10_word_1 rfl hl (by decide) rfl) (fun ls hl => ?_)
  refine jJ_of (fun H locs => lv_iconst (v := (iI (-1))) hx hb dX10_word_2 (by decide)) ?_
  refine jJ_ofL (fun H locs => lv_istore_n (lv' := [(3, .int (iI (-1))), (2, .int (nI 0)), (0, .ref (Z 0)), (1, .int (nI k))]) hx hb dX10_word_3 rfl hl (by decide) rfl) (fun ls hl => ?_)
  refine jJ_of (fun H locs => lv_iconst (v := (nI 1)) hx hb dX10_word_4 (by decide)) ?_
  refine jJ_ofL (fun H locs => lv_istore (lv' := [(4, .int (nI 1)), (3, .int (iI (-1))), (2, .int (nI 0)), (0, .ref (Z 0)), (1, .int (nI k))]) hx hb dX10_word_5 hl (by decide) rfl) (fun ls hl => ?_)
  refine jJ_of (fun H locs => lv_iconst (v := (nI 0)) hx hb dX10_word_7 (by decide)) ?_
  refine jJ_ofL (fun H locs => lv_istore (lv' := [(5, .int (nI 0)), (4, .int (nI 1)), (3, .int (iI (-1))), (2, .int (nI 0)), (0, .ref (Z 0)), (1, .int (nI k))]) hx hb dX10_word_8 hl (by decide) rfl) (fun ls hl => ?_)
  suffices lp : ∀ (f n9 a9 be : Nat) (nu : Int), f + n9 = 20 → n9 ≤ 19 → a9 = wA.getD n9 72 → wdS T k n9 = (be, nu) → ∀ ls, lv_has ls 7 [(4, .int (nI a9)), (5, .int (nI n9)), (2, .int (nI be)), (3, .int (iI nu)), (0, .ref (Z 0)), (1, .int (nI k))] → jJ p l e _ s m args below meth c D A0 [[(Z 0, .inr (8, [E 0, E 1, E 2, .ref (Z 1), E 4, E 5, E 6, E 7, E 8, E 9, E 10, E 11, E 12, E 13, E 14, E 15, E 16, E 17, E 18]))], [(Z 1, .inr (7, [.ref (Z 8), .int (nI T.length), .ref (Z 3), .ref (Z 4), .ref (Z 5), .ref (Z 6), .int (nI ((tk 0).length)), X 7, X 8, X 9, X 10, X 11, X 12]))], [(Z 8, .inl (cB, 16000, .inl B))], [(Z 3, .inl (cB, 32008, .inl (V 0)))], [(Z 4, .inl (cI, 32008, .inl (V 1)))], [(Z 5, .inl (cI, 32008, .inl (V 2)))], [(Z 6, .inl (cZ, 32008, .inl (V 3)))]] 0 0 (jEnd below D A0 _ args s _ _) (F0 m 10 ls []) from lp 20 0 1 0 (-1) rfl (by decide) rfl rfl ls (lv_sub hl [1, 0, 3, 2, 4, 5] rfl)
  intro f
  induction f with
  | zero =>
    intro n9 a9 be nu h9 h8; omega
  | succ f ih =>
    intro n9 a9 be nu h9 h8 ha9 hws ls hl
    have hwb := wdS_b T k n9 h8
    rw [hws] at hwb
    dsimp only at hwb
    have hn9 : (n9 = 19 ∧ a9 = 72) ∨ (n9 < 19 ∧ a9 < 72) := by
      rcases Nat.lt_or_ge n9 19 with q | q
      · have := wAB n9 q; right; omega
      · obtain rfl : n9 = 19 := (by omega)
        left; exact ⟨rfl, ha9⟩
    refine jJ_of (fun H locs => lv_iload hx hb dX10_word_10 (lv_at hl 0 rfl)) ?_
    refine jJ_ldcS hx hb hown hAm.2.2.2.2.2.2.1 dX10_word_12 ?_
    refine jJ_callVO (As := []) (rest := [.int (nI a9)]) (wc := []) (cs2 := [[(Z 0, .inr (8, [E 0, E 1, E 2, .ref (Z 1), E 4, E 5, E 6, E 7, E 8, E 9, E 10, E 11, E 12, E 13, E 14, E 15, E 16, E 17, E 18]))], [(Z 1, .inr (7, [.ref (Z 8), .int (nI T.length), .ref (Z 3), .ref (Z 4), .ref (Z 5), .ref (Z 6), .int (nI ((tk 0).length)), X 7, X 8, X 9, X 10, X 11, X 12]))], [(Z 8, .inl (cB, 16000, .inl B))], [(Z 3, .inl (cB, 32008, .inl (V 0)))], [(Z 4, .inl (cI, 32008, .inl (V 1)))], [(Z 5, .inl (cI, 32008, .inl (V 2)))], [(Z 6, .inl (cZ, 32008, .inl (V 3)))]]) (C := RJ0) [] [0, 1, 2, 3, 4, 5, 6] ⟨hx, hb, hml, hown, hts⟩ hK hA hAm (c_strlen (jTx2 G)) (cwV 0 hts gX10_word_J0_length_8abf5 rfl rfl rfl (by decide +kernel) ⟨Nat.le_of_ble_eq_true rfl, Nat.le_of_ble_eq_true rfl⟩) (nn := 7) rfl (by decide) rfl rfl (hAm.2.2.1 1 (by decide)).2.2 rfl rfl hl.1 (Nat.le_of_ble_eq_true rfl) dX10_word_14 (by show _ + 0 ≤ 0; omega) (by show _ + 0 ≤ 0; omega) (fun v u1 k1 n1 hq1 => ?_)
    obtain ⟨rfl, rfl, rfl, rfl⟩ := hq1
    refine jJ_eq (g2 := F0 m 17 ls [.int (nI 72), .int (nI a9)]) (cs2 := [([] : va_W), [(Z 0, .inr (8, [E 0, E 1, E 2, .ref (Z 1), E 4, E 5, E 6, E 7, E 8, E 9, E 10, E 11, E 12, E 13, E 14, E 15, E 16, E 17, E 18]))], [(Z 1, .inr (7, [.ref (Z 8), .int (nI T.length), .ref (Z 3), .ref (Z 4), .ref (Z 5), .ref (Z 6), .int (nI ((tk 0).length)), X 7, X 8, X 9, X 10, X 11, X 12]))], [(Z 8, .inl (cB, 16000, .inl B))], [(Z 3, .inl (cB, 32008, .inl (V 0)))], [(Z 4, .inl (cI, 32008, .inl (V 1)))], [(Z 5, .inl (cI, 32008, .inl (V 2)))], [(Z 6, .inl (cZ, 32008, .inl (V 3)))]]) rfl rfl ?_
    refine jJ_flat (cs2 := [[(Z 0, .inr (8, [E 0, E 1, E 2, .ref (Z 1), E 4, E 5, E 6, E 7, E 8, E 9, E 10, E 11, E 12, E 13, E 14, E 15, E 16, E 17, E 18]))], [(Z 1, .inr (7, [.ref (Z 8), .int (nI T.length), .ref (Z 3), .ref (Z 4), .ref (Z 5), .ref (Z 6), .int (nI ((tk 0).length)), X 7, X 8, X 9, X 10, X 11, X 12]))], [(Z 8, .inl (cB, 16000, .inl B))], [(Z 3, .inl (cB, 32008, .inl (V 0)))], [(Z 4, .inl (cI, 32008, .inl (V 1)))], [(Z 5, .inl (cI, 32008, .inl (V 2)))], [(Z 6, .inl (cZ, 32008, .inl (V 3)))]]) rfl ?_
    refine jJ_of2 (fun H locs => jn_icmp_ge (tgt := 84) hx hb dX10_word_17 (by decide) (by omega) (by omega)) (fun c17 => ?_) (fun c17 => ?_)
    · refine jJ_of (fun H locs => lv_iload_n hx hb dX10_word_84 rfl (lv_at hl 3 rfl)) ?_
      refine jJ_of2 (fun H locs => jz_if_lt (tgt := 99) hx hb dX10_word_85 (by decide) (by omega) (by omega)) (fun c85 => ?_) (fun c85 => ?_)
      · refine jJ_of (fun H locs => lv_aload_n hx hb dX10_word_99 rfl (lv_at hl 4 rfl)) ?_
        refine jJ_of (fun H locs => lv_iconst (v := (nI 2)) hx hb dX10_word_100 (by decide)) ?_
        refine jJ_of (fun H locs => lv_iload_n hx hb dX10_word_101 rfl (lv_at hl 5 rfl)) ?_
        refine jJ_of (fun H locs => lv_aload_n hx hb dX10_word_102 rfl (lv_at hl 4 rfl)) ?_
        refine jJ_of (fun H locs => lv_iload_n hx hb dX10_word_103 rfl (lv_at hl 5 rfl)) ?_
        refine jJ_callV (As := [.int (nI k)]) (rest := [.int (nI k), .int (nI 2), .ref (Z 0)]) (wc := jF (bWd cB Z (lsV [E 0, E 1, E 2, .null, E 4, E 5, E 6, E 7, E 8, E 9, E 10, E 11, E 12, E 13, E 14, E 15, E 16, E 17, E 18]) (lsV [.null, .null, .ref (Z 3), .ref (Z 4), .ref (Z 5), .ref (Z 6), .int (nI ((tk 0).length)), X 7, X 8, X 9, X 10, X 11, X 12]) B T.length)) (cs2 := [[(Z 3, .inl (cB, 32008, .inl (V 0)))], [(Z 4, .inl (cI, 32008, .inl (V 1)))], [(Z 5, .inl (cI, 32008, .inl (V 2)))], [(Z 6, .inl (cZ, 32008, .inl (V 3)))]]) (C := RX10) (T := TX10) (N := 19) (ci := 8) [0, 1, 2] [3, 4, 5, 6] ⟨hx, hb, hml, hown, hts⟩ hK hA hAm (c_Md_look (E := lsV [E 0, E 1, E 2, .null, E 4, E 5, E 6, E 7, E 8, E 9, E 10, E 11, E 12, E 13, E 14, E 15, E 16, E 17, E 18]) (X := lsV [.null, .null, .ref (Z 3), .ref (Z 4), .ref (Z 5), .ref (Z 6), .int (nI ((tk 0).length)), X 7, X 8, X 9, X 10, X 11, X 12]) hB k (by omega)) (cwV 1 hts gX10_word_X10_look rfl rfl rfl (by decide +kernel) ⟨Nat.le_of_ble_eq_true rfl, Nat.le_of_ble_eq_true rfl⟩) (nn := 7) rfl (by decide) rfl rfl ⟨0, _, rfl⟩ rfl rfl rfl hl.1 (Nat.le_of_ble_eq_true rfl) dX10_word_104 (by show _ + 0 ≤ 0; omega) (by show _ + 0 ≤ 0; omega) (fun v u2 k2 n2 hq2 => ?_)
        obtain ⟨hv2, hw2, rfl, rfl⟩ := hq2
        subst hv2
        rw [hw2]
        refine jJ_open (xs := [[(Z 0, .inr (8, [E 0, E 1, E 2, .ref (Z 1), E 4, E 5, E 6, E 7, E 8, E 9, E 10, E 11, E 12, E 13, E 14, E 15, E 16, E 17, E 18]))], [(Z 1, .inr (7, [.ref (Z 8), .int (nI T.length), .ref (Z 3), .ref (Z 4), .ref (Z 5), .ref (Z 6), .int (nI ((tk 0).length)), X 7, X 8, X 9, X 10, X 11, X 12]))], [(Z 8, .inl (cB, 16000, .inl B))]]) (r := [[(Z 3, .inl (cB, 32008, .inl (V 0)))], [(Z 4, .inl (cI, 32008, .inl (V 1)))], [(Z 5, .inl (cI, 32008, .inl (V 2)))], [(Z 6, .inl (cZ, 32008, .inl (V 3)))]]) (cs2 := [[(Z 0, .inr (8, [E 0, E 1, E 2, .ref (Z 1), E 4, E 5, E 6, E 7, E 8, E 9, E 10, E 11, E 12, E 13, E 14, E 15, E 16, E 17, E 18]))], [(Z 1, .inr (7, [.ref (Z 8), .int (nI T.length), .ref (Z 3), .ref (Z 4), .ref (Z 5), .ref (Z 6), .int (nI ((tk 0).length)), X 7, X 8, X 9, X 10, X 11, X 12]))], [(Z 8, .inl (cB, 16000, .inl B))], [(Z 3, .inl (cB, 32008, .inl (V 0)))], [(Z 4, .inl (cI, 32008, .inl (V 1)))], [(Z 5, .inl (cI, 32008, .inl (V 2)))], [(Z 6, .inl (cZ, 32008, .inl (V 3)))]]) rfl ?_
        refine jJ_eq (g2 := F0 m 107 ls [.int (iI (lk T k)), .int (nI k), .int (nI 2), .ref (Z 0)]) (cs2 := [[(Z 0, .inr (8, [E 0, E 1, E 2, .ref (Z 1), E 4, E 5, E 6, E 7, E 8, E 9, E 10, E 11, E 12, E 13, E 14, E 15, E 16, E 17, E 18]))], [(Z 1, .inr (7, [.ref (Z 8), .int (nI T.length), .ref (Z 3), .ref (Z 4), .ref (Z 5), .ref (Z 6), .int (nI ((tk 0).length)), X 7, X 8, X 9, X 10, X 11, X 12]))], [(Z 8, .inl (cB, 16000, .inl B))], [(Z 3, .inl (cB, 32008, .inl (V 0)))], [(Z 4, .inl (cI, 32008, .inl (V 1)))], [(Z 5, .inl (cI, 32008, .inl (V 2)))], [(Z 6, .inl (cZ, 32008, .inl (V 3)))]]) rfl rfl ?_
        have hlk2_107 := lk_c T k
        have hl256_2_107 := hB.2.2 k
        refine jJ_of (fun H locs => lv_iconst (v := (nI 0)) hx hb dX10_word_107 (by decide)) ?_
        have hk9 : kC (T.getD k 0) = 2 := by unfold kC; (repeat' split) <;> omega
        have hw9 : kW (T.getD k 0) 0 = T.getD k 0 := by unfold kW; (repeat' split) <;> omega
        have hd9 : decide (T.getD k 0 = 256) = false := decide_eq_false (by omega)
        have hi9 : iI (lk T k) = nI (T.getD k 0) := by rw [nI_iI]; congr 1; omega
        refine jJ_eq (g2 := F0 m 108 ls [.int (bI (decide (T.getD k 0 = 256))), .int (nI (kW (T.getD k 0) 0)), .int (nI k), .int (nI (kC (T.getD k 0))), .ref (Z 0)]) (cs2 := [[(Z 0, .inr (8, [E 0, E 1, E 2, .ref (Z 1), E 4, E 5, E 6, E 7, E 8, E 9, E 10, E 11, E 12, E 13, E 14, E 15, E 16, E 17, E 18]))], [(Z 1, .inr (7, [.ref (Z 8), .int (nI T.length), .ref (Z 3), .ref (Z 4), .ref (Z 5), .ref (Z 6), .int (nI ((tk 0).length)), X 7, X 8, X 9, X 10, X 11, X 12]))], [(Z 8, .inl (cB, 16000, .inl B))], [(Z 3, .inl (cB, 32008, .inl (V 0)))], [(Z 4, .inl (cI, 32008, .inl (V 1)))], [(Z 5, .inl (cI, 32008, .inl (V 2)))], [(Z 6, .inl (cZ, 32008, .inl (V 3)))]]) (by rw [hk9, hw9, hd9, ← hi9]; rfl) rfl ?_
        refine jJ_callV (As := [.int (nI (kC (T.getD k 0))), .int (nI k), .int (nI (kW (T.getD k 0) 0)), .int (bI (decide (T.getD k 0 = 256)))]) (rest := []) (wc := jF (tWd cI cB cZ Z (lsV [E 0, E 1, E 2, .null, E 4, E 5, E 6, E 7, E 8, E 9, E 10, E 11, E 12, E 13, E 14, E 15, E 16, E 17, E 18]) (lsV [.ref (Z 8), .int (nI T.length), .null, .null, .null, .null, .null, X 7, X 8, X 9, X 10, X 11, X 12]) V ((tk 0).length))) (cs2 := [[(Z 8, .inl (cB, 16000, .inl B))]]) (C := RX10) (T := TX10) (N := 19) (ci := 8) [0, 1, 3, 4, 5, 6] [2] ⟨hx, hb, hml, hown, hts⟩ hK hA hAm (c_Md_token (E := lsV [E 0, E 1, E 2, .null, E 4, E 5, E 6, E 7, E 8, E 9, E 10, E 11, E 12, E 13, E 14, E 15, E 16, E 17, E 18]) (X := lsV [.ref (Z 8), .int (nI T.length), .null, .null, .null, .null, .null, X 7, X 8, X 9, X 10, X 11, X 12]) hT hl9 (by omega) (T.getD k 0) k 0 (by omega) (by omega) (by omega)) (cwV 4 hts gX10_word_X10_token rfl rfl rfl (by decide +kernel) ⟨Nat.le_of_ble_eq_true rfl, Nat.le_of_ble_eq_true rfl⟩) (nn := 7) rfl (by decide) rfl rfl ⟨0, _, rfl⟩ rfl rfl rfl hl.1 (Nat.le_of_ble_eq_true rfl) dX10_word_108 (by show _ + 0 ≤ 0; omega) (by show _ + 0 ≤ 0; omega) (fun v u3 k3 n3 hq3 => ?_)
        obtain ⟨rfl, V3, hT3, hw3, rfl, rfl⟩ := hq3
        rw [hw3]
        refine jJ_open (xs := [[(Z 0, .inr (8, [E 0, E 1, E 2, .ref (Z 1), E 4, E 5, E 6, E 7, E 8, E 9, E 10, E 11, E 12, E 13, E 14, E 15, E 16, E 17, E 18]))], [(Z 1, .inr (7, [.ref (Z 8), .int (nI T.length), .ref (Z 3), .ref (Z 4), .ref (Z 5), .ref (Z 6), .int (nI ((tk 0).length + 1)), X 7, X 8, X 9, X 10, X 11, X 12]))], [(Z 3, .inl (cB, 32008, .inl (V3 0)))], [(Z 4, .inl (cI, 32008, .inl (V3 1)))], [(Z 5, .inl (cI, 32008, .inl (V3 2)))], [(Z 6, .inl (cZ, 32008, .inl (V3 3)))]]) (r := [[(Z 8, .inl (cB, 16000, .inl B))]]) (cs2 := [[(Z 0, .inr (8, [E 0, E 1, E 2, .ref (Z 1), E 4, E 5, E 6, E 7, E 8, E 9, E 10, E 11, E 12, E 13, E 14, E 15, E 16, E 17, E 18]))], [(Z 1, .inr (7, [.ref (Z 8), .int (nI T.length), .ref (Z 3), .ref (Z 4), .ref (Z 5), .ref (Z 6), .int (nI ((tk 0).length + 1)), X 7, X 8, X 9, X 10, X 11, X 12]))], [(Z 3, .inl (cB, 32008, .inl (V3 0)))], [(Z 4, .inl (cI, 32008, .inl (V3 1)))], [(Z 5, .inl (cI, 32008, .inl (V3 2)))], [(Z 6, .inl (cZ, 32008, .inl (V3 3)))], [(Z 8, .inl (cB, 16000, .inl B))]]) rfl ?_
        refine jJ_eq (g2 := F0 m 111 ls []) (cs2 := [[(Z 0, .inr (8, [E 0, E 1, E 2, .ref (Z 1), E 4, E 5, E 6, E 7, E 8, E 9, E 10, E 11, E 12, E 13, E 14, E 15, E 16, E 17, E 18]))], [(Z 1, .inr (7, [.ref (Z 8), .int (nI T.length), .ref (Z 3), .ref (Z 4), .ref (Z 5), .ref (Z 6), .int (nI ((tk 0).length + 1)), X 7, X 8, X 9, X 10, X 11, X 12]))], [(Z 3, .inl (cB, 32008, .inl (V3 0)))], [(Z 4, .inl (cI, 32008, .inl (V3 1)))], [(Z 5, .inl (cI, 32008, .inl (V3 2)))], [(Z 6, .inl (cZ, 32008, .inl (V3 3)))], [(Z 8, .inl (cB, 16000, .inl B))]]) rfl rfl ?_
        refine jJ_of (fun H locs => lv_iload_n hx hb dX10_word_111 rfl (lv_at hl 3 rfl)) ?_
        refine jJ_of2 (fun H locs => jz_if_lt (tgt := 121) hx hb dX10_word_112 (by decide) (by omega) (by omega)) (fun c112 => ?_) (fun c112 => ?_)
        · refine jJ_of (fun H locs => lv_iload_n hx hb dX10_word_121 rfl (lv_at hl 5 rfl)) ?_
          refine jJ_of (fun H locs => lv_iconst (v := (nI 1)) hx hb dX10_word_122 (by decide)) ?_
          refine jJ_of (fun H locs => jn_iadd hx hb dX10_word_123) ?_
          refine jJ_perm [0, 1, 6, 2, 3, 4, 5] (nn := 7) rfl (by decide) (cs2 := [[(Z 0, .inr (8, [E 0, E 1, E 2, .ref (Z 1), E 4, E 5, E 6, E 7, E 8, E 9, E 10, E 11, E 12, E 13, E 14, E 15, E 16, E 17, E 18]))], [(Z 1, .inr (7, [.ref (Z 8), .int (nI T.length), .ref (Z 3), .ref (Z 4), .ref (Z 5), .ref (Z 6), .int (nI ((tk 0).length + 1)), X 7, X 8, X 9, X 10, X 11, X 12]))], [(Z 8, .inl (cB, 16000, .inl B))], [(Z 3, .inl (cB, 32008, .inl (V3 0)))], [(Z 4, .inl (cI, 32008, .inl (V3 1)))], [(Z 5, .inl (cI, 32008, .inl (V3 2)))], [(Z 6, .inl (cZ, 32008, .inl (V3 3)))]]) rfl ?_
          have he : wTok T k = (T.getD k 0, k + 1) := by unfold wTok; rw [show wdS T k 19 = (be, nu) from by rw [← hws, show n9 = 19 by omega]]; exact if_neg (by show ¬ (0 : Int) ≤ nu; omega)
          exact jJ_iret hx hb hr hlocks dX10_word_124 (by show _ ≤ 0; omega) (by show _ ≤ 0; omega) ⟨by rw [he], by rw [he]; exact ⟨V3, hT3, by rw [tkAdd_l]; rfl⟩, rfl, rfl⟩
        · exfalso; omega
      · refine jJ_of (fun H locs => lv_aload_n hx hb dX10_word_88 rfl (lv_at hl 4 rfl)) ?_
        refine jJ_of (fun H locs => lv_iconst (v := (nI 3)) hx hb dX10_word_89 (by decide)) ?_
        refine jJ_of (fun H locs => lv_iload_n hx hb dX10_word_90 rfl (lv_at hl 5 rfl)) ?_
        refine jJ_of (fun H locs => lv_iload_n hx hb dX10_word_91 rfl (lv_at hl 3 rfl)) ?_
        refine jJ_of (fun H locs => lv_iconst (v := (nI 0)) hx hb dX10_word_92 (by decide)) ?_
        have hk9 : kC (300 + nu.toNat) = 3 := by unfold kC; (repeat' split) <;> omega
        have hw9 : kW (300 + nu.toNat) 0 = nu.toNat := by unfold kW; (repeat' split) <;> omega
        have hd9 : decide (300 + nu.toNat = 256) = false := decide_eq_false (by omega)
        have hi9 : nI nu.toNat = iI nu := by rw [nI_iI]; congr 1; omega
        refine jJ_eq (g2 := F0 m 93 ls [.int (bI (decide (300 + nu.toNat = 256))), .int (nI (kW (300 + nu.toNat) 0)), .int (nI k), .int (nI (kC (300 + nu.toNat))), .ref (Z 0)]) (cs2 := [[(Z 0, .inr (8, [E 0, E 1, E 2, .ref (Z 1), E 4, E 5, E 6, E 7, E 8, E 9, E 10, E 11, E 12, E 13, E 14, E 15, E 16, E 17, E 18]))], [(Z 1, .inr (7, [.ref (Z 8), .int (nI T.length), .ref (Z 3), .ref (Z 4), .ref (Z 5), .ref (Z 6), .int (nI ((tk 0).length)), X 7, X 8, X 9, X 10, X 11, X 12]))], [(Z 8, .inl (cB, 16000, .inl B))], [(Z 3, .inl (cB, 32008, .inl (V 0)))], [(Z 4, .inl (cI, 32008, .inl (V 1)))], [(Z 5, .inl (cI, 32008, .inl (V 2)))], [(Z 6, .inl (cZ, 32008, .inl (V 3)))]]) (by rw [hk9, hw9, hd9, hi9]; rfl) rfl ?_
        refine jJ_callV (As := [.int (nI (kC (300 + nu.toNat))), .int (nI k), .int (nI (kW (300 + nu.toNat) 0)), .int (bI (decide (300 + nu.toNat = 256)))]) (rest := []) (wc := jF (tWd cI cB cZ Z (lsV [E 0, E 1, E 2, .null, E 4, E 5, E 6, E 7, E 8, E 9, E 10, E 11, E 12, E 13, E 14, E 15, E 16, E 17, E 18]) (lsV [.ref (Z 8), .int (nI T.length), .null, .null, .null, .null, .null, X 7, X 8, X 9, X 10, X 11, X 12]) V ((tk 0).length))) (cs2 := [[(Z 8, .inl (cB, 16000, .inl B))]]) (C := RX10) (T := TX10) (N := 19) (ci := 8) [0, 1, 3, 4, 5, 6] [2] ⟨hx, hb, hml, hown, hts⟩ hK hA hAm (c_Md_token (E := lsV [E 0, E 1, E 2, .null, E 4, E 5, E 6, E 7, E 8, E 9, E 10, E 11, E 12, E 13, E 14, E 15, E 16, E 17, E 18]) (X := lsV [.ref (Z 8), .int (nI T.length), .null, .null, .null, .null, .null, X 7, X 8, X 9, X 10, X 11, X 12]) hT hl9 (by omega) (300 + nu.toNat) k 0 (by omega) (by omega) (by omega)) (cwV 4 hts gX10_word_X10_token rfl rfl rfl (by decide +kernel) ⟨Nat.le_of_ble_eq_true rfl, Nat.le_of_ble_eq_true rfl⟩) (nn := 7) rfl (by decide) rfl rfl ⟨0, _, rfl⟩ rfl rfl rfl hl.1 (Nat.le_of_ble_eq_true rfl) dX10_word_93 (by show _ + 0 ≤ 0; omega) (by show _ + 0 ≤ 0; omega) (fun v u4 k4 n4 hq4 => ?_)
        obtain ⟨rfl, V4, hT4, hw4, rfl, rfl⟩ := hq4
        rw [hw4]
        refine jJ_open (xs := [[(Z 0, .inr (8, [E 0, E 1, E 2, .ref (Z 1), E 4, E 5, E 6, E 7, E 8, E 9, E 10, E 11, E 12, E 13, E 14, E 15, E 16, E 17, E 18]))], [(Z 1, .inr (7, [.ref (Z 8), .int (nI T.length), .ref (Z 3), .ref (Z 4), .ref (Z 5), .ref (Z 6), .int (nI ((tk 0).length + 1)), X 7, X 8, X 9, X 10, X 11, X 12]))], [(Z 3, .inl (cB, 32008, .inl (V4 0)))], [(Z 4, .inl (cI, 32008, .inl (V4 1)))], [(Z 5, .inl (cI, 32008, .inl (V4 2)))], [(Z 6, .inl (cZ, 32008, .inl (V4 3)))]]) (r := [[(Z 8, .inl (cB, 16000, .inl B))]]) (cs2 := [[(Z 0, .inr (8, [E 0, E 1, E 2, .ref (Z 1), E 4, E 5, E 6, E 7, E 8, E 9, E 10, E 11, E 12, E 13, E 14, E 15, E 16, E 17, E 18]))], [(Z 1, .inr (7, [.ref (Z 8), .int (nI T.length), .ref (Z 3), .ref (Z 4), .ref (Z 5), .ref (Z 6), .int (nI ((tk 0).length + 1)), X 7, X 8, X 9, X 10, X 11, X 12]))], [(Z 3, .inl (cB, 32008, .inl (V4 0)))], [(Z 4, .inl (cI, 32008, .inl (V4 1)))], [(Z 5, .inl (cI, 32008, .inl (V4 2)))], [(Z 6, .inl (cZ, 32008, .inl (V4 3)))], [(Z 8, .inl (cB, 16000, .inl B))]]) rfl ?_
        refine jJ_eq (g2 := F0 m 96 ls []) (cs2 := [[(Z 0, .inr (8, [E 0, E 1, E 2, .ref (Z 1), E 4, E 5, E 6, E 7, E 8, E 9, E 10, E 11, E 12, E 13, E 14, E 15, E 16, E 17, E 18]))], [(Z 1, .inr (7, [.ref (Z 8), .int (nI T.length), .ref (Z 3), .ref (Z 4), .ref (Z 5), .ref (Z 6), .int (nI ((tk 0).length + 1)), X 7, X 8, X 9, X 10, X 11, X 12]))], [(Z 3, .inl (cB, 32008, .inl (V4 0)))], [(Z 4, .inl (cI, 32008, .inl (V4 1)))], [(Z 5, .inl (cI, 32008, .inl (V4 2)))], [(Z 6, .inl (cZ, 32008, .inl (V4 3)))], [(Z 8, .inl (cB, 16000, .inl B))]]) rfl rfl ?_
        refine jJ_of (fun H locs => lv_goto (tgt := 111) hx hb dX10_word_96 (by decide)) ?_
        refine jJ_of (fun H locs => lv_iload_n hx hb dX10_word_111 rfl (lv_at hl 3 rfl)) ?_
        refine jJ_of2 (fun H locs => jz_if_lt (tgt := 121) hx hb dX10_word_112 (by decide) (by omega) (by omega)) (fun c112 => ?_) (fun c112 => ?_)
        · exfalso; omega
        · refine jJ_of (fun H locs => lv_iload_n hx hb dX10_word_115 rfl (lv_at hl 5 rfl)) ?_
          refine jJ_of (fun H locs => lv_iload_n hx hb dX10_word_116 rfl (lv_at hl 2 rfl)) ?_
          refine jJ_of (fun H locs => jn_iadd hx hb dX10_word_117) ?_
          refine jJ_of (fun H locs => lv_goto (tgt := 124) hx hb dX10_word_118 (by decide)) ?_
          refine jJ_perm [0, 1, 6, 2, 3, 4, 5] (nn := 7) rfl (by decide) (cs2 := [[(Z 0, .inr (8, [E 0, E 1, E 2, .ref (Z 1), E 4, E 5, E 6, E 7, E 8, E 9, E 10, E 11, E 12, E 13, E 14, E 15, E 16, E 17, E 18]))], [(Z 1, .inr (7, [.ref (Z 8), .int (nI T.length), .ref (Z 3), .ref (Z 4), .ref (Z 5), .ref (Z 6), .int (nI ((tk 0).length + 1)), X 7, X 8, X 9, X 10, X 11, X 12]))], [(Z 8, .inl (cB, 16000, .inl B))], [(Z 3, .inl (cB, 32008, .inl (V4 0)))], [(Z 4, .inl (cI, 32008, .inl (V4 1)))], [(Z 5, .inl (cI, 32008, .inl (V4 2)))], [(Z 6, .inl (cZ, 32008, .inl (V4 3)))]]) rfl ?_
          have he : wTok T k = (300 + nu.toNat, k + be) := by unfold wTok; rw [show wdS T k 19 = (be, nu) from by rw [← hws, show n9 = 19 by omega]]; exact if_pos (by show (0 : Int) ≤ nu; omega)
          exact jJ_iret hx hb hr hlocks dX10_word_124 (by show _ ≤ 0; omega) (by show _ ≤ 0; omega) ⟨by rw [he], by rw [he]; exact ⟨V4, hT4, by rw [tkAdd_l]; rfl⟩, rfl, rfl⟩
    · have hab := wAB n9 (by omega)
      have habi := wABi n9 (by omega)
      refine jJ_of (fun H locs => lv_iload hx hb dX10_word_20 (lv_at hl 0 rfl)) ?_
      refine jJ_ofL (fun H locs => lv_istore (lv' := [(6, .int (nI a9)), (4, .int (nI a9)), (5, .int (nI n9)), (2, .int (nI be)), (3, .int (iI nu)), (0, .ref (Z 0)), (1, .int (nI k))]) hx hb dX10_word_22 hl (by decide) rfl) (fun ls hl => ?_)
      suffices lp2 : ∀ (d b9 : Nat), d + b9 = wB.getD n9 0 → wA.getD n9 0 ≤ b9 → ∀ ls, lv_has ls 7 [(6, .int (nI b9)), (4, .int (nI a9)), (5, .int (nI n9)), (2, .int (nI be)), (3, .int (iI nu)), (0, .ref (Z 0)), (1, .int (nI k))] → jJ p l e _ s m args below meth c D A0 [[(Z 0, .inr (8, [E 0, E 1, E 2, .ref (Z 1), E 4, E 5, E 6, E 7, E 8, E 9, E 10, E 11, E 12, E 13, E 14, E 15, E 16, E 17, E 18]))], [(Z 1, .inr (7, [.ref (Z 8), .int (nI T.length), .ref (Z 3), .ref (Z 4), .ref (Z 5), .ref (Z 6), .int (nI ((tk 0).length)), X 7, X 8, X 9, X 10, X 11, X 12]))], [(Z 8, .inl (cB, 16000, .inl B))], [(Z 3, .inl (cB, 32008, .inl (V 0)))], [(Z 4, .inl (cI, 32008, .inl (V 1)))], [(Z 5, .inl (cI, 32008, .inl (V 2)))], [(Z 6, .inl (cZ, 32008, .inl (V 3)))]] 0 0 (jEnd below D A0 _ args s _ _) (F0 m 24 ls []) from lp2 (wB.getD n9 0 - wA.getD n9 0) a9 (by omega) (by omega) ls (lv_sub hl [0, 1, 2, 3, 4, 5, 6] rfl)
      intro d
      induction d with
      | zero =>
        intro b9 h7 h6 ls hl
        have hb9 : b9 = wB.getD n9 0 := by omega
        have hw32 : jW2.getD b9 0 = 32 := by rw [hb9]; exact hab.2.2.2.2.2.2
        have ha9b : a9 = wA.getD n9 0 := by omega
        refine jJ_ldcS hx hb hown hAm.2.2.2.2.2.2.1 dX10_word_24 ?_
        refine jJ_of (fun H locs => lv_iload hx hb dX10_word_26 (lv_at hl 0 rfl)) ?_
        refine jJ_callVO (As := [.int (nI b9)]) (rest := []) (wc := []) (cs2 := [[(Z 0, .inr (8, [E 0, E 1, E 2, .ref (Z 1), E 4, E 5, E 6, E 7, E 8, E 9, E 10, E 11, E 12, E 13, E 14, E 15, E 16, E 17, E 18]))], [(Z 1, .inr (7, [.ref (Z 8), .int (nI T.length), .ref (Z 3), .ref (Z 4), .ref (Z 5), .ref (Z 6), .int (nI ((tk 0).length)), X 7, X 8, X 9, X 10, X 11, X 12]))], [(Z 8, .inl (cB, 16000, .inl B))], [(Z 3, .inl (cB, 32008, .inl (V 0)))], [(Z 4, .inl (cI, 32008, .inl (V 1)))], [(Z 5, .inl (cI, 32008, .inl (V 2)))], [(Z 6, .inl (cZ, 32008, .inl (V 3)))]]) (C := RJ0) [] [0, 1, 2, 3, 4, 5, 6] ⟨hx, hb, hml, hown, hts⟩ hK hA hAm (c_charAt (jTx2 G) b9 (by omega)) (cwV 1 hts gX10_word_J0_charAt_5068e rfl rfl rfl (by decide +kernel) ⟨Nat.le_of_ble_eq_true rfl, Nat.le_of_ble_eq_true rfl⟩) (nn := 7) rfl (by decide) rfl rfl (hAm.2.2.1 1 (by decide)).2.2 rfl rfl hl.1 (Nat.le_of_ble_eq_true rfl) dX10_word_28 (by show _ + 0 ≤ 0; omega) (by show _ + 0 ≤ 0; omega) (fun v u5 k5 n5 hq5 => ?_)
        obtain ⟨rfl, rfl, rfl, rfl⟩ := hq5
        refine jJ_eq (g2 := F0 m 31 ls [.int (nI (jW2.getD b9 0))]) (cs2 := [([] : va_W), [(Z 0, .inr (8, [E 0, E 1, E 2, .ref (Z 1), E 4, E 5, E 6, E 7, E 8, E 9, E 10, E 11, E 12, E 13, E 14, E 15, E 16, E 17, E 18]))], [(Z 1, .inr (7, [.ref (Z 8), .int (nI T.length), .ref (Z 3), .ref (Z 4), .ref (Z 5), .ref (Z 6), .int (nI ((tk 0).length)), X 7, X 8, X 9, X 10, X 11, X 12]))], [(Z 8, .inl (cB, 16000, .inl B))], [(Z 3, .inl (cB, 32008, .inl (V 0)))], [(Z 4, .inl (cI, 32008, .inl (V 1)))], [(Z 5, .inl (cI, 32008, .inl (V 2)))], [(Z 6, .inl (cZ, 32008, .inl (V 3)))]]) rfl rfl ?_
        refine jJ_flat (cs2 := [[(Z 0, .inr (8, [E 0, E 1, E 2, .ref (Z 1), E 4, E 5, E 6, E 7, E 8, E 9, E 10, E 11, E 12, E 13, E 14, E 15, E 16, E 17, E 18]))], [(Z 1, .inr (7, [.ref (Z 8), .int (nI T.length), .ref (Z 3), .ref (Z 4), .ref (Z 5), .ref (Z 6), .int (nI ((tk 0).length)), X 7, X 8, X 9, X 10, X 11, X 12]))], [(Z 8, .inl (cB, 16000, .inl B))], [(Z 3, .inl (cB, 32008, .inl (V 0)))], [(Z 4, .inl (cI, 32008, .inl (V 1)))], [(Z 5, .inl (cI, 32008, .inl (V 2)))], [(Z 6, .inl (cZ, 32008, .inl (V 3)))]]) rfl ?_
        have hw2_5 := (jTx2 G).2.1 b9
        refine jJ_of (fun H locs => lv_bipush (v := (nI 32)) hx hb dX10_word_31 (by decide)) ?_
        refine jJ_of2 (fun H locs => jn_icmp_eq (tgt := 42) hx hb dX10_word_33 (by decide) (by omega) (by omega)) (fun c33 => ?_) (fun c33 => ?_)
        · refine jJ_of (fun H locs => lv_iload hx hb dX10_word_42 (lv_at hl 0 rfl)) ?_
          refine jJ_of (fun H locs => lv_iload hx hb dX10_word_44 (lv_at hl 1 rfl)) ?_
          refine jJ_of (fun H locs => jn_isub hx hb dX10_word_46 (by omega)) ?_
          refine jJ_of (fun H locs => lv_iload_n hx hb dX10_word_47 rfl (lv_at hl 3 rfl)) ?_
          refine jJ_of2 (fun H locs => jn_icmp_le (tgt := 72) hx hb dX10_word_48 (by decide) (by omega) (by omega)) (fun c48 => ?_) (fun c48 => ?_)
          · have hno : ¬ ((be, nu).1 < wB.getD n9 0 - wA.getD n9 0 ∧ iAt T k (wA.getD n9 0) (wB.getD n9 0) = true) := by dsimp only; omega
            refine jJ_ofL (fun H locs => lv_iinc (v := (nI (n9 + 1))) (lv' := [(5, .int (nI (n9 + 1))), (6, .int (nI b9)), (4, .int (nI a9)), (2, .int (nI be)), (3, .int (iI nu)), (0, .ref (Z 0)), (1, .int (nI k))]) hx hb dX10_word_72 hl (k := 2) rfl (nI_add _ _) (by decide) rfl) (fun ls hl => ?_)
            refine jJ_of (fun H locs => lv_iload hx hb dX10_word_75 (lv_at hl 1 rfl)) ?_
            refine jJ_of (fun H locs => lv_iconst (v := (nI 1)) hx hb dX10_word_77 (by decide)) ?_
            refine jJ_of (fun H locs => jn_iadd hx hb dX10_word_78) ?_
            refine jJ_ofL (fun H locs => lv_istore (lv' := [(4, .int (nI (b9 + 1))), (5, .int (nI (n9 + 1))), (6, .int (nI b9)), (2, .int (nI be)), (3, .int (iI nu)), (0, .ref (Z 0)), (1, .int (nI k))]) hx hb dX10_word_79 hl (by decide) rfl) (fun ls hl => ?_)
            refine jJ_of (fun H locs => lv_goto (tgt := 10) hx hb dX10_word_81 (by decide)) ?_
            exact ih (n9 + 1) (b9 + 1) be nu (by omega) (by omega) (by omega) (by show (if _ then _ else _) = _; rw [hws]; exact if_neg hno) ls (lv_sub hl [0, 1, 3, 4, 5, 6] rfl)
          · refine jJ_of (fun H locs => lv_aload_n hx hb dX10_word_51 rfl (lv_at hl 5 rfl)) ?_
            refine jJ_of (fun H locs => lv_iload_n hx hb dX10_word_52 rfl (lv_at hl 6 rfl)) ?_
            refine jJ_of (fun H locs => lv_iload hx hb dX10_word_53 (lv_at hl 1 rfl)) ?_
            refine jJ_of (fun H locs => lv_iload hx hb dX10_word_55 (lv_at hl 0 rfl)) ?_
            refine jJ_callV (As := [.int (nI k), .int (nI a9), .int (nI b9)]) (rest := []) (wc := jF (bWd cB Z (lsV [E 0, E 1, E 2, .null, E 4, E 5, E 6, E 7, E 8, E 9, E 10, E 11, E 12, E 13, E 14, E 15, E 16, E 17, E 18]) (lsV [.null, .null, .ref (Z 3), .ref (Z 4), .ref (Z 5), .ref (Z 6), .int (nI ((tk 0).length)), X 7, X 8, X 9, X 10, X 11, X 12]) B T.length)) (cs2 := [[(Z 3, .inl (cB, 32008, .inl (V 0)))], [(Z 4, .inl (cI, 32008, .inl (V 1)))], [(Z 5, .inl (cI, 32008, .inl (V 2)))], [(Z 6, .inl (cZ, 32008, .inl (V 3)))]]) (C := RX10) (T := TX10) (N := 19) (ci := 8) [0, 1, 2] [3, 4, 5, 6] ⟨hx, hb, hml, hown, hts⟩ hK hA hAm (c_Md_isAt (E := lsV [E 0, E 1, E 2, .null, E 4, E 5, E 6, E 7, E 8, E 9, E 10, E 11, E 12, E 13, E 14, E 15, E 16, E 17, E 18]) (X := lsV [.null, .null, .ref (Z 3), .ref (Z 4), .ref (Z 5), .ref (Z 6), .int (nI ((tk 0).length)), X 7, X 8, X 9, X 10, X 11, X 12]) hB k a9 b9 (by omega) (by omega) (by omega)) (cwV 3 hts gX10_word_X10_isAt rfl rfl rfl (by decide +kernel) ⟨Nat.le_of_ble_eq_true rfl, Nat.le_of_ble_eq_true rfl⟩) (nn := 7) rfl (by decide) rfl rfl ⟨0, _, rfl⟩ rfl rfl rfl hl.1 (Nat.le_of_ble_eq_true rfl) dX10_word_57 (by show _ + 0 ≤ 0; omega) (by show _ + 0 ≤ 0; omega) (fun v u6 k6 n6 hq6 => ?_)
            obtain ⟨hv6, hw6, rfl, rfl⟩ := hq6
            subst hv6
            rw [hw6]
            refine jJ_open (xs := [[(Z 0, .inr (8, [E 0, E 1, E 2, .ref (Z 1), E 4, E 5, E 6, E 7, E 8, E 9, E 10, E 11, E 12, E 13, E 14, E 15, E 16, E 17, E 18]))], [(Z 1, .inr (7, [.ref (Z 8), .int (nI T.length), .ref (Z 3), .ref (Z 4), .ref (Z 5), .ref (Z 6), .int (nI ((tk 0).length)), X 7, X 8, X 9, X 10, X 11, X 12]))], [(Z 8, .inl (cB, 16000, .inl B))]]) (r := [[(Z 3, .inl (cB, 32008, .inl (V 0)))], [(Z 4, .inl (cI, 32008, .inl (V 1)))], [(Z 5, .inl (cI, 32008, .inl (V 2)))], [(Z 6, .inl (cZ, 32008, .inl (V 3)))]]) (cs2 := [[(Z 0, .inr (8, [E 0, E 1, E 2, .ref (Z 1), E 4, E 5, E 6, E 7, E 8, E 9, E 10, E 11, E 12, E 13, E 14, E 15, E 16, E 17, E 18]))], [(Z 1, .inr (7, [.ref (Z 8), .int (nI T.length), .ref (Z 3), .ref (Z 4), .ref (Z 5), .ref (Z 6), .int (nI ((tk 0).length)), X 7, X 8, X 9, X 10, X 11, X 12]))], [(Z 8, .inl (cB, 16000, .inl B))], [(Z 3, .inl (cB, 32008, .inl (V 0)))], [(Z 4, .inl (cI, 32008, .inl (V 1)))], [(Z 5, .inl (cI, 32008, .inl (V 2)))], [(Z 6, .inl (cZ, 32008, .inl (V 3)))]]) rfl ?_
            refine jJ_eq (g2 := F0 m 60 ls [.int (bI (iAt T k a9 b9))]) (cs2 := [[(Z 0, .inr (8, [E 0, E 1, E 2, .ref (Z 1), E 4, E 5, E 6, E 7, E 8, E 9, E 10, E 11, E 12, E 13, E 14, E 15, E 16, E 17, E 18]))], [(Z 1, .inr (7, [.ref (Z 8), .int (nI T.length), .ref (Z 3), .ref (Z 4), .ref (Z 5), .ref (Z 6), .int (nI ((tk 0).length)), X 7, X 8, X 9, X 10, X 11, X 12]))], [(Z 8, .inl (cB, 16000, .inl B))], [(Z 3, .inl (cB, 32008, .inl (V 0)))], [(Z 4, .inl (cI, 32008, .inl (V 1)))], [(Z 5, .inl (cI, 32008, .inl (V 2)))], [(Z 6, .inl (cZ, 32008, .inl (V 3)))]]) rfl rfl ?_
            refine jJ_of2 (fun H locs => jb_if_eq (tgt := 72) hx hb dX10_word_60 (by decide)) (fun c60 => ?_) (fun c60 => ?_)
            · have hno : ¬ ((be, nu).1 < wB.getD n9 0 - wA.getD n9 0 ∧ iAt T k (wA.getD n9 0) (wB.getD n9 0) = true) := by
                rw [ha9b, hb9] at c60
                rw [c60]
                exact fun q => Bool.false_ne_true q.2
              refine jJ_ofL (fun H locs => lv_iinc (v := (nI (n9 + 1))) (lv' := [(5, .int (nI (n9 + 1))), (6, .int (nI b9)), (4, .int (nI a9)), (2, .int (nI be)), (3, .int (iI nu)), (0, .ref (Z 0)), (1, .int (nI k))]) hx hb dX10_word_72 hl (k := 2) rfl (nI_add _ _) (by decide) rfl) (fun ls hl => ?_)
              refine jJ_of (fun H locs => lv_iload hx hb dX10_word_75 (lv_at hl 1 rfl)) ?_
              refine jJ_of (fun H locs => lv_iconst (v := (nI 1)) hx hb dX10_word_77 (by decide)) ?_
              refine jJ_of (fun H locs => jn_iadd hx hb dX10_word_78) ?_
              refine jJ_ofL (fun H locs => lv_istore (lv' := [(4, .int (nI (b9 + 1))), (5, .int (nI (n9 + 1))), (6, .int (nI b9)), (2, .int (nI be)), (3, .int (iI nu)), (0, .ref (Z 0)), (1, .int (nI k))]) hx hb dX10_word_79 hl (by decide) rfl) (fun ls hl => ?_)
              refine jJ_of (fun H locs => lv_goto (tgt := 10) hx hb dX10_word_81 (by decide)) ?_
              exact ih (n9 + 1) (b9 + 1) be nu (by omega) (by omega) (by omega) (by show (if _ then _ else _) = _; rw [hws]; exact if_neg hno) ls (lv_sub hl [0, 1, 3, 4, 5, 6] rfl)
            · refine jJ_of (fun H locs => lv_iload hx hb dX10_word_63 (lv_at hl 0 rfl)) ?_
              refine jJ_of (fun H locs => lv_iload hx hb dX10_word_65 (lv_at hl 1 rfl)) ?_
              refine jJ_of (fun H locs => jn_isub hx hb dX10_word_67 (by omega)) ?_
              refine jJ_ofL (fun H locs => lv_istore_n (lv' := [(2, .int (nI (b9 - a9))), (6, .int (nI b9)), (4, .int (nI a9)), (5, .int (nI n9)), (3, .int (iI nu)), (0, .ref (Z 0)), (1, .int (nI k))]) hx hb dX10_word_68 rfl hl (by decide) rfl) (fun ls hl => ?_)
              refine jJ_of (fun H locs => lv_iload hx hb dX10_word_69 (lv_at hl 3 rfl)) ?_
              rw [nI_iI n9]
              refine jJ_ofL (fun H locs => lv_istore_n (lv' := [(3, .int (iI ((n9 : Nat) : Int))), (2, .int (nI (b9 - a9))), (6, .int (nI b9)), (4, .int (nI a9)), (5, .int (nI n9)), (0, .ref (Z 0)), (1, .int (nI k))]) hx hb dX10_word_71 rfl hl (by decide) rfl) (fun ls hl => ?_)
              refine jJ_ofL (fun H locs => lv_iinc (v := (nI (n9 + 1))) (lv' := [(5, .int (nI (n9 + 1))), (3, .int (iI ((n9 : Nat) : Int))), (2, .int (nI (b9 - a9))), (6, .int (nI b9)), (4, .int (nI a9)), (0, .ref (Z 0)), (1, .int (nI k))]) hx hb dX10_word_72 hl (k := 4) rfl (nI_add _ _) (by decide) rfl) (fun ls hl => ?_)
              refine jJ_of (fun H locs => lv_iload hx hb dX10_word_75 (lv_at hl 3 rfl)) ?_
              refine jJ_of (fun H locs => lv_iconst (v := (nI 1)) hx hb dX10_word_77 (by decide)) ?_
              refine jJ_of (fun H locs => jn_iadd hx hb dX10_word_78) ?_
              refine jJ_ofL (fun H locs => lv_istore (lv' := [(4, .int (nI (b9 + 1))), (5, .int (nI (n9 + 1))), (3, .int (iI ((n9 : Nat) : Int))), (2, .int (nI (b9 - a9))), (6, .int (nI b9)), (0, .ref (Z 0)), (1, .int (nI k))]) hx hb dX10_word_79 hl (by decide) rfl) (fun ls hl => ?_)
              refine jJ_of (fun H locs => lv_goto (tgt := 10) hx hb dX10_word_81 (by decide)) ?_
              exact ih (n9 + 1) (b9 + 1) (b9 - a9) ((n9 : Nat) : Int) (by omega) (by omega) (by omega) (by show (if _ then _ else _) = _; rw [hws, if_pos ⟨by dsimp only; omega, by rw [ha9b, hb9] at c60; exact c60⟩, ha9b, hb9]) ls (lv_sub hl [0, 1, 3, 2, 5, 6] rfl)
        · exfalso; omega
      | succ d ih2 =>
        intro b9 h7 h6 ls hl
        have hnb := habi b9 (by omega) (by omega) (by omega)
        refine jJ_ldcS hx hb hown hAm.2.2.2.2.2.2.1 dX10_word_24 ?_
        refine jJ_of (fun H locs => lv_iload hx hb dX10_word_26 (lv_at hl 0 rfl)) ?_
        refine jJ_callVO (As := [.int (nI b9)]) (rest := []) (wc := []) (cs2 := [[(Z 0, .inr (8, [E 0, E 1, E 2, .ref (Z 1), E 4, E 5, E 6, E 7, E 8, E 9, E 10, E 11, E 12, E 13, E 14, E 15, E 16, E 17, E 18]))], [(Z 1, .inr (7, [.ref (Z 8), .int (nI T.length), .ref (Z 3), .ref (Z 4), .ref (Z 5), .ref (Z 6), .int (nI ((tk 0).length)), X 7, X 8, X 9, X 10, X 11, X 12]))], [(Z 8, .inl (cB, 16000, .inl B))], [(Z 3, .inl (cB, 32008, .inl (V 0)))], [(Z 4, .inl (cI, 32008, .inl (V 1)))], [(Z 5, .inl (cI, 32008, .inl (V 2)))], [(Z 6, .inl (cZ, 32008, .inl (V 3)))]]) (C := RJ0) [] [0, 1, 2, 3, 4, 5, 6] ⟨hx, hb, hml, hown, hts⟩ hK hA hAm (c_charAt (jTx2 G) b9 (by omega)) (cwV 1 hts gX10_word_J0_charAt_5068e rfl rfl rfl (by decide +kernel) ⟨Nat.le_of_ble_eq_true rfl, Nat.le_of_ble_eq_true rfl⟩) (nn := 7) rfl (by decide) rfl rfl (hAm.2.2.1 1 (by decide)).2.2 rfl rfl hl.1 (Nat.le_of_ble_eq_true rfl) dX10_word_28 (by show _ + 0 ≤ 0; omega) (by show _ + 0 ≤ 0; omega) (fun v u7 k7 n7 hq7 => ?_)
        obtain ⟨rfl, rfl, rfl, rfl⟩ := hq7
        refine jJ_eq (g2 := F0 m 31 ls [.int (nI (jW2.getD b9 0))]) (cs2 := [([] : va_W), [(Z 0, .inr (8, [E 0, E 1, E 2, .ref (Z 1), E 4, E 5, E 6, E 7, E 8, E 9, E 10, E 11, E 12, E 13, E 14, E 15, E 16, E 17, E 18]))], [(Z 1, .inr (7, [.ref (Z 8), .int (nI T.length), .ref (Z 3), .ref (Z 4), .ref (Z 5), .ref (Z 6), .int (nI ((tk 0).length)), X 7, X 8, X 9, X 10, X 11, X 12]))], [(Z 8, .inl (cB, 16000, .inl B))], [(Z 3, .inl (cB, 32008, .inl (V 0)))], [(Z 4, .inl (cI, 32008, .inl (V 1)))], [(Z 5, .inl (cI, 32008, .inl (V 2)))], [(Z 6, .inl (cZ, 32008, .inl (V 3)))]]) rfl rfl ?_
        refine jJ_flat (cs2 := [[(Z 0, .inr (8, [E 0, E 1, E 2, .ref (Z 1), E 4, E 5, E 6, E 7, E 8, E 9, E 10, E 11, E 12, E 13, E 14, E 15, E 16, E 17, E 18]))], [(Z 1, .inr (7, [.ref (Z 8), .int (nI T.length), .ref (Z 3), .ref (Z 4), .ref (Z 5), .ref (Z 6), .int (nI ((tk 0).length)), X 7, X 8, X 9, X 10, X 11, X 12]))], [(Z 8, .inl (cB, 16000, .inl B))], [(Z 3, .inl (cB, 32008, .inl (V 0)))], [(Z 4, .inl (cI, 32008, .inl (V 1)))], [(Z 5, .inl (cI, 32008, .inl (V 2)))], [(Z 6, .inl (cZ, 32008, .inl (V 3)))]]) rfl ?_
        have hw2_7 := (jTx2 G).2.1 b9
        refine jJ_of (fun H locs => lv_bipush (v := (nI 32)) hx hb dX10_word_31 (by decide)) ?_
        refine jJ_of2 (fun H locs => jn_icmp_eq (tgt := 42) hx hb dX10_word_33 (by decide) (by omega) (by omega)) (fun c33 => ?_) (fun c33 => ?_)
        · exfalso; omega
        · refine jJ_ofL (fun H locs => lv_iinc (v := (nI (b9 + 1))) (lv' := [(6, .int (nI (b9 + 1))), (4, .int (nI a9)), (5, .int (nI n9)), (2, .int (nI be)), (3, .int (iI nu)), (0, .ref (Z 0)), (1, .int (nI k))]) hx hb dX10_word_36 hl (k := 0) rfl (nI_add _ _) (by decide) rfl) (fun ls hl => ?_)
          refine jJ_of (fun H locs => lv_goto (tgt := 24) hx hb dX10_word_39 (by decide)) ?_
          exact ih2 (b9 + 1) (by omega) (by omega) ls (lv_sub hl [0, 1, 2, 3, 4, 5, 6] rfl)
def nR (T : List Nat) (k : Nat) : Int := if nK T k = 0 then -1 else ((nE T k : Nat) : Int)
def nTk (T : List Nat) (tk : Nat → List Nat) (k : Nat) : Nat → List Nat := if nK T k = 0 then tk else tkAdd tk (nK T k) k (nW T k)
set_option maxHeartbeats 4000000 in
set_option maxRecDepth 100000 in
/-- numberEnd(k) -/
theorem c_Md_number {Z : Nat → Nat} {E X : Nat → Value} {B : Nat → Int32} {V : Nat → Nat → Int32} {T : List Nat} {tk : Nat → List Nat} (hB : tB T B) (hT : tV tk V) (hl9 : tL tk) (hlt : (tk 0).length < 32008) (k : Nat) (hk : k < T.length) (hc : 48 ≤ T.getD k 0 ∧ T.getD k 0 ≤ 57) : HM l yX10_numberEnd wsX10_numberEnd ({ frames := 3, cells := 0, slots := 0, locals := 120 } : Room) D G (jT cI cJ cB cZ) [.ref (Z 0), .int (nI k)] (jF (zW cI cB cZ Z E X B V T.length ((tk 0).length))) (fun v u k9 n9 => v = some (.int (iI (nR T k))) ∧ (∃ V2 : Nat → Nat → Int32, tV (nTk T tk k) V2 ∧ u = jF (zW cI cB cZ Z E X B V2 T.length ((nTk T tk k 0).length))) ∧ k9 = 0 ∧ n9 = 0) := by
  refine HM_of (cc := cX10_numberEnd) (maxL := 7) (ret := (some .int)) (lv := [(0, .ref (Z 0)), (1, .int (nI k))]) (by decide) rfl rfl (Nat.le_of_ble_eq_true rfl) (fun p e s m args below meth c A0 ls hx hb hr hts hown hlocks hml hnm hK hA hAm hl => ?_)
  refine jJ_open (xs := [[(Z 0, .inr (8, [E 0, E 1, E 2, .ref (Z 1), E 4, E 5, E 6, E 7, E 8, E 9, E 10, E 11, E 12, E 13, E 14, E 15, E 16, E 17, E 18]))], [(Z 1, .inr (7, [.ref (Z 8), .int (nI T.length), .ref (Z 3), .ref (Z 4), .ref (Z 5), .ref (Z 6), .int (nI ((tk 0).length)), X 7, X 8, X 9, X 10, X 11, X 12]))], [(Z 8, .inl (cB, 16000, .inl B))], [(Z 3, .inl (cB, 32008, .inl (V 0)))], [(Z 4, .inl (cI, 32008, .inl (V 1)))], [(Z 5, .inl (cI, 32008, .inl (V 2)))], [(Z 6, .inl (cZ, 32008, .inl (V 3)))]]) (r := []) (cs2 := [[(Z 0, .inr (8, [E 0, E 1, E 2, .ref (Z 1), E 4, E 5, E 6, E 7, E 8, E 9, E 10, E 11, E 12, E 13, E 14, E 15, E 16, E 17, E 18]))], [(Z 1, .inr (7, [.ref (Z 8), .int (nI T.length), .ref (Z 3), .ref (Z 4), .ref (Z 5), .ref (Z 6), .int (nI ((tk 0).length)), X 7, X 8, X 9, X 10, X 11, X 12]))], [(Z 8, .inl (cB, 16000, .inl B))], [(Z 3, .inl (cB, 32008, .inl (V 0)))], [(Z 4, .inl (cI, 32008, .inl (V 1)))], [(Z 5, .inl (cI, 32008, .inl (V 2)))], [(Z 6, .inl (cZ, 32008, .inl (V 3)))]]) rfl ?_
  have hL9 := hB.1
  have hL8 := hT.1
  have hp := pd_b (T := T) (s := k) (by omega)
  refine jJ_of (fun H locs => lv_iload_n hx hb dX10_numberEnd_0 rfl (lv_at hl 1 rfl)) ?_
  refine jJ_ofL (fun H locs => lv_istore_n (lv' := [(2, .int (nI k)), (0, .ref (Z 0)), (1, .int (nI k))]) hx hb dX10_numberEnd_1 rfl hl (by decide) rfl) (fun ls hl => ?_)
  refine jJ_of (fun H locs => lv_iconst (v := (nI 0)) hx hb dX10_numberEnd_2 (by decide)) ?_
  refine jJ_ofL (fun H locs => lv_istore_n (lv' := [(3, .int (nI 0)), (2, .int (nI k)), (0, .ref (Z 0)), (1, .int (nI k))]) hx hb dX10_numberEnd_3 rfl hl (by decide) rfl) (fun ls hl => ?_)
  suffices lp : ∀ (d e9 v9 : Nat), d + e9 = k + 7 → k ≤ e9 → e9 ≤ k + 6 → e9 ≤ pd T k → nvF T (pd T k) d e9 v9 = nvF T (pd T k) 7 k 0 → ∀ ls, lv_has ls 7 [(2, .int (nI e9)), (3, .int (nI v9)), (0, .ref (Z 0)), (1, .int (nI k))] → jJ p l e _ s m args below meth c D A0 [[(Z 0, .inr (8, [E 0, E 1, E 2, .ref (Z 1), E 4, E 5, E 6, E 7, E 8, E 9, E 10, E 11, E 12, E 13, E 14, E 15, E 16, E 17, E 18]))], [(Z 1, .inr (7, [.ref (Z 8), .int (nI T.length), .ref (Z 3), .ref (Z 4), .ref (Z 5), .ref (Z 6), .int (nI ((tk 0).length)), X 7, X 8, X 9, X 10, X 11, X 12]))], [(Z 8, .inl (cB, 16000, .inl B))], [(Z 3, .inl (cB, 32008, .inl (V 0)))], [(Z 4, .inl (cI, 32008, .inl (V 1)))], [(Z 5, .inl (cI, 32008, .inl (V 2)))], [(Z 6, .inl (cZ, 32008, .inl (V 3)))]] 0 0 (jEnd below D A0 _ args s _ _) (F0 m 4 ls []) from lp 7 k 0 (by omega) (by omega) (by omega) (by omega) rfl ls (lv_sub hl [1, 0, 2, 3] rfl)
  intro d
  induction d with
  | zero =>
    intro e9 v9 h9 h8 h7; omega
  | succ d ih =>
    intro e9 v9 h9 h8 h7 h6 hcl ls hl
    have hpd := pd_c (T := T) (s := k) h8 h6
    have hpt := hB.2.2 (pd T k)
    refine jJ_of (fun H locs => lv_aload_n hx hb dX10_numberEnd_4 rfl (lv_at hl 2 rfl)) ?_
    refine jJ_of (fun H locs => lv_iload_n hx hb dX10_numberEnd_5 rfl (lv_at hl 0 rfl)) ?_
    refine jJ_callV (As := [.int (nI e9)]) (rest := []) (wc := jF (bWd cB Z (lsV [E 0, E 1, E 2, .null, E 4, E 5, E 6, E 7, E 8, E 9, E 10, E 11, E 12, E 13, E 14, E 15, E 16, E 17, E 18]) (lsV [.null, .null, .ref (Z 3), .ref (Z 4), .ref (Z 5), .ref (Z 6), .int (nI ((tk 0).length)), X 7, X 8, X 9, X 10, X 11, X 12]) B T.length)) (cs2 := [[(Z 3, .inl (cB, 32008, .inl (V 0)))], [(Z 4, .inl (cI, 32008, .inl (V 1)))], [(Z 5, .inl (cI, 32008, .inl (V 2)))], [(Z 6, .inl (cZ, 32008, .inl (V 3)))]]) (C := RX10) (T := TX10) (N := 19) (ci := 8) [0, 1, 2] [3, 4, 5, 6] ⟨hx, hb, hml, hown, hts⟩ hK hA hAm (c_Md_look (E := lsV [E 0, E 1, E 2, .null, E 4, E 5, E 6, E 7, E 8, E 9, E 10, E 11, E 12, E 13, E 14, E 15, E 16, E 17, E 18]) (X := lsV [.null, .null, .ref (Z 3), .ref (Z 4), .ref (Z 5), .ref (Z 6), .int (nI ((tk 0).length)), X 7, X 8, X 9, X 10, X 11, X 12]) hB e9 (by omega)) (cwV 1 hts gX10_numberEnd_X10_look rfl rfl rfl (by decide +kernel) ⟨Nat.le_of_ble_eq_true rfl, Nat.le_of_ble_eq_true rfl⟩) (nn := 7) rfl (by decide) rfl rfl ⟨0, _, rfl⟩ rfl rfl rfl hl.1 (Nat.le_of_ble_eq_true rfl) dX10_numberEnd_6 (by show _ + 0 ≤ 0; omega) (by show _ + 0 ≤ 0; omega) (fun v u1 k1 n1 hq1 => ?_)
    obtain ⟨hv1, hw1, rfl, rfl⟩ := hq1
    subst hv1
    rw [hw1]
    refine jJ_open (xs := [[(Z 0, .inr (8, [E 0, E 1, E 2, .ref (Z 1), E 4, E 5, E 6, E 7, E 8, E 9, E 10, E 11, E 12, E 13, E 14, E 15, E 16, E 17, E 18]))], [(Z 1, .inr (7, [.ref (Z 8), .int (nI T.length), .ref (Z 3), .ref (Z 4), .ref (Z 5), .ref (Z 6), .int (nI ((tk 0).length)), X 7, X 8, X 9, X 10, X 11, X 12]))], [(Z 8, .inl (cB, 16000, .inl B))]]) (r := [[(Z 3, .inl (cB, 32008, .inl (V 0)))], [(Z 4, .inl (cI, 32008, .inl (V 1)))], [(Z 5, .inl (cI, 32008, .inl (V 2)))], [(Z 6, .inl (cZ, 32008, .inl (V 3)))]]) (cs2 := [[(Z 0, .inr (8, [E 0, E 1, E 2, .ref (Z 1), E 4, E 5, E 6, E 7, E 8, E 9, E 10, E 11, E 12, E 13, E 14, E 15, E 16, E 17, E 18]))], [(Z 1, .inr (7, [.ref (Z 8), .int (nI T.length), .ref (Z 3), .ref (Z 4), .ref (Z 5), .ref (Z 6), .int (nI ((tk 0).length)), X 7, X 8, X 9, X 10, X 11, X 12]))], [(Z 8, .inl (cB, 16000, .inl B))], [(Z 3, .inl (cB, 32008, .inl (V 0)))], [(Z 4, .inl (cI, 32008, .inl (V 1)))], [(Z 5, .inl (cI, 32008, .inl (V 2)))], [(Z 6, .inl (cZ, 32008, .inl (V 3)))]]) rfl ?_
    refine jJ_eq (g2 := F0 m 9 ls [.int (iI (lk T e9))]) (cs2 := [[(Z 0, .inr (8, [E 0, E 1, E 2, .ref (Z 1), E 4, E 5, E 6, E 7, E 8, E 9, E 10, E 11, E 12, E 13, E 14, E 15, E 16, E 17, E 18]))], [(Z 1, .inr (7, [.ref (Z 8), .int (nI T.length), .ref (Z 3), .ref (Z 4), .ref (Z 5), .ref (Z 6), .int (nI ((tk 0).length)), X 7, X 8, X 9, X 10, X 11, X 12]))], [(Z 8, .inl (cB, 16000, .inl B))], [(Z 3, .inl (cB, 32008, .inl (V 0)))], [(Z 4, .inl (cI, 32008, .inl (V 1)))], [(Z 5, .inl (cI, 32008, .inl (V 2)))], [(Z 6, .inl (cZ, 32008, .inl (V 3)))]]) rfl rfl ?_
    have hlk1_9 := lk_c T e9
    have hl256_1_9 := hB.2.2 e9
    refine jJ_callS (As := [.int (iI (lk T e9))]) (rest := []) (wc := _) (cs2 := [[(Z 0, .inr (8, [E 0, E 1, E 2, .ref (Z 1), E 4, E 5, E 6, E 7, E 8, E 9, E 10, E 11, E 12, E 13, E 14, E 15, E 16, E 17, E 18]))], [(Z 1, .inr (7, [.ref (Z 8), .int (nI T.length), .ref (Z 3), .ref (Z 4), .ref (Z 5), .ref (Z 6), .int (nI ((tk 0).length)), X 7, X 8, X 9, X 10, X 11, X 12]))], [(Z 8, .inl (cB, 16000, .inl B))], [(Z 3, .inl (cB, 32008, .inl (V 0)))], [(Z 4, .inl (cI, 32008, .inl (V 1)))], [(Z 5, .inl (cI, 32008, .inl (V 2)))], [(Z 6, .inl (cZ, 32008, .inl (V 3)))]]) [] [0, 1, 2, 3, 4, 5, 6] ⟨hx, hb, hml, hown, hts⟩ hK hA hAm (c_Md_isDigit (lk T e9) (by omega) (by omega)) (va_cwS 1 hts gX10_numberEnd_X10_isDigit rfl rfl rfl (by decide +kernel) ⟨Nat.le_of_ble_eq_true rfl, Nat.le_of_ble_eq_true rfl⟩) (nn := 7) rfl (by decide) rfl rfl rfl rfl hl.1 (Nat.le_of_ble_eq_true rfl) dX10_numberEnd_9 (by show _ + 0 ≤ 0; omega) (by show _ + 0 ≤ 0; omega) (fun v u2 k2 n2 hq2 => ?_)
    obtain ⟨rfl, rfl, rfl, rfl⟩ := hq2
    refine jJ_eq (g2 := F0 m 12 ls [.int (bI (decide (48 ≤ lk T e9 ∧ lk T e9 ≤ 57)))]) (cs2 := [([] : va_W), [(Z 0, .inr (8, [E 0, E 1, E 2, .ref (Z 1), E 4, E 5, E 6, E 7, E 8, E 9, E 10, E 11, E 12, E 13, E 14, E 15, E 16, E 17, E 18]))], [(Z 1, .inr (7, [.ref (Z 8), .int (nI T.length), .ref (Z 3), .ref (Z 4), .ref (Z 5), .ref (Z 6), .int (nI ((tk 0).length)), X 7, X 8, X 9, X 10, X 11, X 12]))], [(Z 8, .inl (cB, 16000, .inl B))], [(Z 3, .inl (cB, 32008, .inl (V 0)))], [(Z 4, .inl (cI, 32008, .inl (V 1)))], [(Z 5, .inl (cI, 32008, .inl (V 2)))], [(Z 6, .inl (cZ, 32008, .inl (V 3)))]]) rfl rfl ?_
    refine jJ_flat (cs2 := [[(Z 0, .inr (8, [E 0, E 1, E 2, .ref (Z 1), E 4, E 5, E 6, E 7, E 8, E 9, E 10, E 11, E 12, E 13, E 14, E 15, E 16, E 17, E 18]))], [(Z 1, .inr (7, [.ref (Z 8), .int (nI T.length), .ref (Z 3), .ref (Z 4), .ref (Z 5), .ref (Z 6), .int (nI ((tk 0).length)), X 7, X 8, X 9, X 10, X 11, X 12]))], [(Z 8, .inl (cB, 16000, .inl B))], [(Z 3, .inl (cB, 32008, .inl (V 0)))], [(Z 4, .inl (cI, 32008, .inl (V 1)))], [(Z 5, .inl (cI, 32008, .inl (V 2)))], [(Z 6, .inl (cZ, 32008, .inl (V 3)))]]) rfl ?_
    refine jJ_of2 (fun H locs => jb_if_eq (tgt := 45) hx hb dX10_numberEnd_12 (by decide)) (fun c12 => ?_) (fun c12 => ?_)
    · simp only [decide_eq_true_eq, decide_eq_false_iff_not] at c12
      have he9 : e9 = pd T k := by omega
      have hv9 : nvF T (pd T k) 7 k 0 = v9 := by rw [← hcl, he9]; exact nvF_end T (pd T k) v9 (d + 1)
      refine jJ_of (fun H locs => lv_aload_n hx hb dX10_numberEnd_45 rfl (lv_at hl 2 rfl)) ?_
      refine jJ_of (fun H locs => lv_iload_n hx hb dX10_numberEnd_46 rfl (lv_at hl 0 rfl)) ?_
      refine jJ_callV (As := [.int (nI e9)]) (rest := []) (wc := jF (bWd cB Z (lsV [E 0, E 1, E 2, .null, E 4, E 5, E 6, E 7, E 8, E 9, E 10, E 11, E 12, E 13, E 14, E 15, E 16, E 17, E 18]) (lsV [.null, .null, .ref (Z 3), .ref (Z 4), .ref (Z 5), .ref (Z 6), .int (nI ((tk 0).length)), X 7, X 8, X 9, X 10, X 11, X 12]) B T.length)) (cs2 := [[(Z 3, .inl (cB, 32008, .inl (V 0)))], [(Z 4, .inl (cI, 32008, .inl (V 1)))], [(Z 5, .inl (cI, 32008, .inl (V 2)))], [(Z 6, .inl (cZ, 32008, .inl (V 3)))]]) (C := RX10) (T := TX10) (N := 19) (ci := 8) [0, 1, 2] [3, 4, 5, 6] ⟨hx, hb, hml, hown, hts⟩ hK hA hAm (c_Md_look (E := lsV [E 0, E 1, E 2, .null, E 4, E 5, E 6, E 7, E 8, E 9, E 10, E 11, E 12, E 13, E 14, E 15, E 16, E 17, E 18]) (X := lsV [.null, .null, .ref (Z 3), .ref (Z 4), .ref (Z 5), .ref (Z 6), .int (nI ((tk 0).length)), X 7, X 8, X 9, X 10, X 11, X 12]) hB e9 (by omega)) (cwV 1 hts gX10_numberEnd_X10_look rfl rfl rfl (by decide +kernel) ⟨Nat.le_of_ble_eq_true rfl, Nat.le_of_ble_eq_true rfl⟩) (nn := 7) rfl (by decide) rfl rfl ⟨0, _, rfl⟩ rfl rfl rfl hl.1 (Nat.le_of_ble_eq_true rfl) dX10_numberEnd_47 (by show _ + 0 ≤ 0; omega) (by show _ + 0 ≤ 0; omega) (fun v u3 k3 n3 hq3 => ?_)
      obtain ⟨hv3, hw3, rfl, rfl⟩ := hq3
      subst hv3
      rw [hw3]
      refine jJ_open (xs := [[(Z 0, .inr (8, [E 0, E 1, E 2, .ref (Z 1), E 4, E 5, E 6, E 7, E 8, E 9, E 10, E 11, E 12, E 13, E 14, E 15, E 16, E 17, E 18]))], [(Z 1, .inr (7, [.ref (Z 8), .int (nI T.length), .ref (Z 3), .ref (Z 4), .ref (Z 5), .ref (Z 6), .int (nI ((tk 0).length)), X 7, X 8, X 9, X 10, X 11, X 12]))], [(Z 8, .inl (cB, 16000, .inl B))]]) (r := [[(Z 3, .inl (cB, 32008, .inl (V 0)))], [(Z 4, .inl (cI, 32008, .inl (V 1)))], [(Z 5, .inl (cI, 32008, .inl (V 2)))], [(Z 6, .inl (cZ, 32008, .inl (V 3)))]]) (cs2 := [[(Z 0, .inr (8, [E 0, E 1, E 2, .ref (Z 1), E 4, E 5, E 6, E 7, E 8, E 9, E 10, E 11, E 12, E 13, E 14, E 15, E 16, E 17, E 18]))], [(Z 1, .inr (7, [.ref (Z 8), .int (nI T.length), .ref (Z 3), .ref (Z 4), .ref (Z 5), .ref (Z 6), .int (nI ((tk 0).length)), X 7, X 8, X 9, X 10, X 11, X 12]))], [(Z 8, .inl (cB, 16000, .inl B))], [(Z 3, .inl (cB, 32008, .inl (V 0)))], [(Z 4, .inl (cI, 32008, .inl (V 1)))], [(Z 5, .inl (cI, 32008, .inl (V 2)))], [(Z 6, .inl (cZ, 32008, .inl (V 3)))]]) rfl ?_
      refine jJ_eq (g2 := F0 m 50 ls [.int (iI (lk T e9))]) (cs2 := [[(Z 0, .inr (8, [E 0, E 1, E 2, .ref (Z 1), E 4, E 5, E 6, E 7, E 8, E 9, E 10, E 11, E 12, E 13, E 14, E 15, E 16, E 17, E 18]))], [(Z 1, .inr (7, [.ref (Z 8), .int (nI T.length), .ref (Z 3), .ref (Z 4), .ref (Z 5), .ref (Z 6), .int (nI ((tk 0).length)), X 7, X 8, X 9, X 10, X 11, X 12]))], [(Z 8, .inl (cB, 16000, .inl B))], [(Z 3, .inl (cB, 32008, .inl (V 0)))], [(Z 4, .inl (cI, 32008, .inl (V 1)))], [(Z 5, .inl (cI, 32008, .inl (V 2)))], [(Z 6, .inl (cZ, 32008, .inl (V 3)))]]) rfl rfl ?_
      have hlk3_50 := lk_c T e9
      have hl256_3_50 := hB.2.2 e9
      refine jJ_of (fun H locs => lv_bipush (v := (nI 46)) hx hb dX10_numberEnd_50 (by decide)) ?_
      rw [nI_iI 46]
      refine jJ_eq (g2 := F0 m 52 ls [.int (iI 46), .int (iI (lk T e9))]) (cs2 := [[(Z 0, .inr (8, [E 0, E 1, E 2, .ref (Z 1), E 4, E 5, E 6, E 7, E 8, E 9, E 10, E 11, E 12, E 13, E 14, E 15, E 16, E 17, E 18]))], [(Z 1, .inr (7, [.ref (Z 8), .int (nI T.length), .ref (Z 3), .ref (Z 4), .ref (Z 5), .ref (Z 6), .int (nI ((tk 0).length)), X 7, X 8, X 9, X 10, X 11, X 12]))], [(Z 8, .inl (cB, 16000, .inl B))], [(Z 3, .inl (cB, 32008, .inl (V 0)))], [(Z 4, .inl (cI, 32008, .inl (V 1)))], [(Z 5, .inl (cI, 32008, .inl (V 2)))], [(Z 6, .inl (cZ, 32008, .inl (V 3)))]]) rfl rfl ?_
      refine jJ_of2 (fun H locs => jz_icmp_eq (tgt := 59) hx hb dX10_numberEnd_52 (by decide) (by omega) (by omega) (by omega) (by omega)) (fun c52 => ?_) (fun c52 => ?_)
      · have h46 : T.getD (pd T k) 0 = 46 := by rw [← he9]; omega
        have hS : nS T k = pd T k + 1 := if_pos h46
        have hE : nE T k = pd T (pd T k + 1) := if_pos h46
        have hp2 := pd_b (T := T) (s := pd T k + 1) (by omega)
        have hVd : nV T k = nwF T (nE T k) (nS T k + 3) 4 (nS T k) v9 := by unfold nV; rw [hv9]
        refine jJ_of (fun H locs => lv_iconst (v := (nI 0)) hx hb dX10_numberEnd_59 (by decide)) ?_
        refine jJ_ofL (fun H locs => lv_istore (lv' := [(4, .int (nI 0)), (2, .int (nI e9)), (3, .int (nI v9)), (0, .ref (Z 0)), (1, .int (nI k))]) hx hb dX10_numberEnd_60 hl (by decide) rfl) (fun ls hl => ?_)
        refine jJ_of (fun H locs => lv_iconst (v := (nI 0)) hx hb dX10_numberEnd_62 (by decide)) ?_
        refine jJ_ofL (fun H locs => lv_istore (lv' := [(5, .int (nI 0)), (4, .int (nI 0)), (2, .int (nI e9)), (3, .int (nI v9)), (0, .ref (Z 0)), (1, .int (nI k))]) hx hb dX10_numberEnd_63 hl (by decide) rfl) (fun ls hl => ?_)
        refine jJ_of (fun H locs => lv_iload hx hb dX10_numberEnd_65 (lv_at hl 1 rfl)) ?_
        refine jJ_of2 (fun H locs => jn_if_ne (tgt := 73) hx hb dX10_numberEnd_67 (by decide) (by omega)) (fun c67 => ?_) (fun c67 => ?_)
        · exfalso; omega
        · refine jJ_ofL (fun H locs => lv_iinc (v := (nI (e9 + 1))) (lv' := [(2, .int (nI (e9 + 1))), (5, .int (nI 0)), (4, .int (nI 0)), (3, .int (nI v9)), (0, .ref (Z 0)), (1, .int (nI k))]) hx hb dX10_numberEnd_70 hl (k := 2) rfl (nI_add _ _) (by decide) rfl) (fun ls hl => ?_)
          suffices lp2 : ∀ (d2 e8 v8 bh : Nat), d2 + bh = 4 → bh ≤ 3 → e8 = pd T k + 1 + bh → e8 ≤ nE T k → nwF T (nE T k) (nS T k + 3) (4 - bh) e8 v8 = nV T k → ∀ ls, lv_has ls 7 [(2, .int (nI e8)), (3, .int (nI v8)), (5, .int (nI bh)), (4, .int (nI 0)), (0, .ref (Z 0)), (1, .int (nI k))] → jJ p l e _ s m args below meth c D A0 [[(Z 0, .inr (8, [E 0, E 1, E 2, .ref (Z 1), E 4, E 5, E 6, E 7, E 8, E 9, E 10, E 11, E 12, E 13, E 14, E 15, E 16, E 17, E 18]))], [(Z 1, .inr (7, [.ref (Z 8), .int (nI T.length), .ref (Z 3), .ref (Z 4), .ref (Z 5), .ref (Z 6), .int (nI ((tk 0).length)), X 7, X 8, X 9, X 10, X 11, X 12]))], [(Z 8, .inl (cB, 16000, .inl B))], [(Z 3, .inl (cB, 32008, .inl (V 0)))], [(Z 4, .inl (cI, 32008, .inl (V 1)))], [(Z 5, .inl (cI, 32008, .inl (V 2)))], [(Z 6, .inl (cZ, 32008, .inl (V 3)))]] 0 0 (jEnd below D A0 _ args s _ _) (F0 m 73 ls []) from lp2 4 (e9 + 1) v9 0 rfl (by omega) (by omega) (by omega) (by rw [hVd, hS, he9]) ls (lv_sub hl [0, 3, 1, 2, 4, 5] rfl)
          intro d2
          induction d2 with
          | zero =>
            intro e8 v8 bh h5 h4; omega
          | succ d2 ih2 =>
            intro e8 v8 bh h5 h4 h3 h2 hcl2 ls hl
            have hpd2 := pd_c (T := T) (s := pd T k + 1) (e := e8) (by omega) (by omega)
            refine jJ_of (fun H locs => lv_iload hx hb dX10_numberEnd_73 (lv_at hl 3 rfl)) ?_
            refine jJ_of2 (fun H locs => jn_if_ne (tgt := 120) hx hb dX10_numberEnd_75 (by decide) (by omega)) (fun c75 => ?_) (fun c75 => ?_)
            · exfalso; omega
            · refine jJ_of (fun H locs => lv_aload_n hx hb dX10_numberEnd_78 rfl (lv_at hl 4 rfl)) ?_
              refine jJ_of (fun H locs => lv_iload_n hx hb dX10_numberEnd_79 rfl (lv_at hl 0 rfl)) ?_
              refine jJ_callV (As := [.int (nI e8)]) (rest := []) (wc := jF (bWd cB Z (lsV [E 0, E 1, E 2, .null, E 4, E 5, E 6, E 7, E 8, E 9, E 10, E 11, E 12, E 13, E 14, E 15, E 16, E 17, E 18]) (lsV [.null, .null, .ref (Z 3), .ref (Z 4), .ref (Z 5), .ref (Z 6), .int (nI ((tk 0).length)), X 7, X 8, X 9, X 10, X 11, X 12]) B T.length)) (cs2 := [[(Z 3, .inl (cB, 32008, .inl (V 0)))], [(Z 4, .inl (cI, 32008, .inl (V 1)))], [(Z 5, .inl (cI, 32008, .inl (V 2)))], [(Z 6, .inl (cZ, 32008, .inl (V 3)))]]) (C := RX10) (T := TX10) (N := 19) (ci := 8) [0, 1, 2] [3, 4, 5, 6] ⟨hx, hb, hml, hown, hts⟩ hK hA hAm (c_Md_look (E := lsV [E 0, E 1, E 2, .null, E 4, E 5, E 6, E 7, E 8, E 9, E 10, E 11, E 12, E 13, E 14, E 15, E 16, E 17, E 18]) (X := lsV [.null, .null, .ref (Z 3), .ref (Z 4), .ref (Z 5), .ref (Z 6), .int (nI ((tk 0).length)), X 7, X 8, X 9, X 10, X 11, X 12]) hB e8 (by omega)) (cwV 1 hts gX10_numberEnd_X10_look rfl rfl rfl (by decide +kernel) ⟨Nat.le_of_ble_eq_true rfl, Nat.le_of_ble_eq_true rfl⟩) (nn := 7) rfl (by decide) rfl rfl ⟨0, _, rfl⟩ rfl rfl rfl hl.1 (Nat.le_of_ble_eq_true rfl) dX10_numberEnd_80 (by show _ + 0 ≤ 0; omega) (by show _ + 0 ≤ 0; omega) (fun v u4 k4 n4 hq4 => ?_)
              obtain ⟨hv4, hw4, rfl, rfl⟩ := hq4
              subst hv4
              rw [hw4]
              refine jJ_open (xs := [[(Z 0, .inr (8, [E 0, E 1, E 2, .ref (Z 1), E 4, E 5, E 6, E 7, E 8, E 9, E 10, E 11, E 12, E 13, E 14, E 15, E 16, E 17, E 18]))], [(Z 1, .inr (7, [.ref (Z 8), .int (nI T.length), .ref (Z 3), .ref (Z 4), .ref (Z 5), .ref (Z 6), .int (nI ((tk 0).length)), X 7, X 8, X 9, X 10, X 11, X 12]))], [(Z 8, .inl (cB, 16000, .inl B))]]) (r := [[(Z 3, .inl (cB, 32008, .inl (V 0)))], [(Z 4, .inl (cI, 32008, .inl (V 1)))], [(Z 5, .inl (cI, 32008, .inl (V 2)))], [(Z 6, .inl (cZ, 32008, .inl (V 3)))]]) (cs2 := [[(Z 0, .inr (8, [E 0, E 1, E 2, .ref (Z 1), E 4, E 5, E 6, E 7, E 8, E 9, E 10, E 11, E 12, E 13, E 14, E 15, E 16, E 17, E 18]))], [(Z 1, .inr (7, [.ref (Z 8), .int (nI T.length), .ref (Z 3), .ref (Z 4), .ref (Z 5), .ref (Z 6), .int (nI ((tk 0).length)), X 7, X 8, X 9, X 10, X 11, X 12]))], [(Z 8, .inl (cB, 16000, .inl B))], [(Z 3, .inl (cB, 32008, .inl (V 0)))], [(Z 4, .inl (cI, 32008, .inl (V 1)))], [(Z 5, .inl (cI, 32008, .inl (V 2)))], [(Z 6, .inl (cZ, 32008, .inl (V 3)))]]) rfl ?_
              refine jJ_eq (g2 := F0 m 83 ls [.int (iI (lk T e8))]) (cs2 := [[(Z 0, .inr (8, [E 0, E 1, E 2, .ref (Z 1), E 4, E 5, E 6, E 7, E 8, E 9, E 10, E 11, E 12, E 13, E 14, E 15, E 16, E 17, E 18]))], [(Z 1, .inr (7, [.ref (Z 8), .int (nI T.length), .ref (Z 3), .ref (Z 4), .ref (Z 5), .ref (Z 6), .int (nI ((tk 0).length)), X 7, X 8, X 9, X 10, X 11, X 12]))], [(Z 8, .inl (cB, 16000, .inl B))], [(Z 3, .inl (cB, 32008, .inl (V 0)))], [(Z 4, .inl (cI, 32008, .inl (V 1)))], [(Z 5, .inl (cI, 32008, .inl (V 2)))], [(Z 6, .inl (cZ, 32008, .inl (V 3)))]]) rfl rfl ?_
              have hlk4_83 := lk_c T e8
              have hl256_4_83 := hB.2.2 e8
              refine jJ_callS (As := [.int (iI (lk T e8))]) (rest := []) (wc := _) (cs2 := [[(Z 0, .inr (8, [E 0, E 1, E 2, .ref (Z 1), E 4, E 5, E 6, E 7, E 8, E 9, E 10, E 11, E 12, E 13, E 14, E 15, E 16, E 17, E 18]))], [(Z 1, .inr (7, [.ref (Z 8), .int (nI T.length), .ref (Z 3), .ref (Z 4), .ref (Z 5), .ref (Z 6), .int (nI ((tk 0).length)), X 7, X 8, X 9, X 10, X 11, X 12]))], [(Z 8, .inl (cB, 16000, .inl B))], [(Z 3, .inl (cB, 32008, .inl (V 0)))], [(Z 4, .inl (cI, 32008, .inl (V 1)))], [(Z 5, .inl (cI, 32008, .inl (V 2)))], [(Z 6, .inl (cZ, 32008, .inl (V 3)))]]) [] [0, 1, 2, 3, 4, 5, 6] ⟨hx, hb, hml, hown, hts⟩ hK hA hAm (c_Md_isDigit (lk T e8) (by omega) (by omega)) (va_cwS 1 hts gX10_numberEnd_X10_isDigit rfl rfl rfl (by decide +kernel) ⟨Nat.le_of_ble_eq_true rfl, Nat.le_of_ble_eq_true rfl⟩) (nn := 7) rfl (by decide) rfl rfl rfl rfl hl.1 (Nat.le_of_ble_eq_true rfl) dX10_numberEnd_83 (by show _ + 0 ≤ 0; omega) (by show _ + 0 ≤ 0; omega) (fun v u5 k5 n5 hq5 => ?_)
              obtain ⟨rfl, rfl, rfl, rfl⟩ := hq5
              refine jJ_eq (g2 := F0 m 86 ls [.int (bI (decide (48 ≤ lk T e8 ∧ lk T e8 ≤ 57)))]) (cs2 := [([] : va_W), [(Z 0, .inr (8, [E 0, E 1, E 2, .ref (Z 1), E 4, E 5, E 6, E 7, E 8, E 9, E 10, E 11, E 12, E 13, E 14, E 15, E 16, E 17, E 18]))], [(Z 1, .inr (7, [.ref (Z 8), .int (nI T.length), .ref (Z 3), .ref (Z 4), .ref (Z 5), .ref (Z 6), .int (nI ((tk 0).length)), X 7, X 8, X 9, X 10, X 11, X 12]))], [(Z 8, .inl (cB, 16000, .inl B))], [(Z 3, .inl (cB, 32008, .inl (V 0)))], [(Z 4, .inl (cI, 32008, .inl (V 1)))], [(Z 5, .inl (cI, 32008, .inl (V 2)))], [(Z 6, .inl (cZ, 32008, .inl (V 3)))]]) rfl rfl ?_
              refine jJ_flat (cs2 := [[(Z 0, .inr (8, [E 0, E 1, E 2, .ref (Z 1), E 4, E 5, E 6, E 7, E 8, E 9, E 10, E 11, E 12, E 13, E 14, E 15, E 16, E 17, E 18]))], [(Z 1, .inr (7, [.ref (Z 8), .int (nI T.length), .ref (Z 3), .ref (Z 4), .ref (Z 5), .ref (Z 6), .int (nI ((tk 0).length)), X 7, X 8, X 9, X 10, X 11, X 12]))], [(Z 8, .inl (cB, 16000, .inl B))], [(Z 3, .inl (cB, 32008, .inl (V 0)))], [(Z 4, .inl (cI, 32008, .inl (V 1)))], [(Z 5, .inl (cI, 32008, .inl (V 2)))], [(Z 6, .inl (cZ, 32008, .inl (V 3)))]]) rfl ?_
              refine jJ_of2 (fun H locs => jb_if_eq (tgt := 120) hx hb dX10_numberEnd_86 (by decide)) (fun c86 => ?_) (fun c86 => ?_)
              · simp only [decide_eq_true_eq, decide_eq_false_iff_not] at c86
                have he8 : e8 = nE T k := by omega
                refine jJ_of (fun H locs => lv_iload hx hb dX10_numberEnd_120 (lv_at hl 2 rfl)) ?_
                refine jJ_ofL (fun H locs => lv_istore (lv' := [(6, .int (nI bh)), (2, .int (nI e8)), (3, .int (nI v8)), (5, .int (nI bh)), (4, .int (nI 0)), (0, .ref (Z 0)), (1, .int (nI k))]) hx hb dX10_numberEnd_122 hl (by decide) rfl) (fun ls hl => ?_)
                suffices lp3 : ∀ (d3 nn v7 : Nat), d3 + nn = 4 → nn ≤ 3 → nE T k ≤ nS T k + nn → nwF T (nE T k) (nS T k + 3) (4 - nn) (nS T k + nn) v7 = nV T k → ∀ ls, lv_has ls 7 [(6, .int (nI nn)), (3, .int (nI v7)), (2, .int (nI e8)), (4, .int (nI 0)), (0, .ref (Z 0)), (1, .int (nI k))] → jJ p l e _ s m args below meth c D A0 [[(Z 0, .inr (8, [E 0, E 1, E 2, .ref (Z 1), E 4, E 5, E 6, E 7, E 8, E 9, E 10, E 11, E 12, E 13, E 14, E 15, E 16, E 17, E 18]))], [(Z 1, .inr (7, [.ref (Z 8), .int (nI T.length), .ref (Z 3), .ref (Z 4), .ref (Z 5), .ref (Z 6), .int (nI ((tk 0).length)), X 7, X 8, X 9, X 10, X 11, X 12]))], [(Z 8, .inl (cB, 16000, .inl B))], [(Z 3, .inl (cB, 32008, .inl (V 0)))], [(Z 4, .inl (cI, 32008, .inl (V 1)))], [(Z 5, .inl (cI, 32008, .inl (V 2)))], [(Z 6, .inl (cZ, 32008, .inl (V 3)))]] 0 0 (jEnd below D A0 _ args s _ _) (F0 m 124 ls []) from lp3 (4 - bh) bh v8 (by omega) (by omega) (by omega) (by rw [← hcl2]; congr 1; omega) ls (lv_sub hl [0, 2, 1, 4, 5, 6] rfl)
                intro d3
                induction d3 with
                | zero =>
                  intro nn v7 h1 h0; omega
                | succ d3 ih3 =>
                  intro nn v7 h1 h0 hnn hcl3 ls hl
                  refine jJ_of (fun H locs => lv_iload hx hb dX10_numberEnd_124 (lv_at hl 0 rfl)) ?_
                  refine jJ_of (fun H locs => lv_iconst (v := (nI 3)) hx hb dX10_numberEnd_126 (by decide)) ?_
                  refine jJ_of2 (fun H locs => jn_icmp_ge (tgt := 141) hx hb dX10_numberEnd_127 (by decide) (by omega) (by omega)) (fun c127 => ?_) (fun c127 => ?_)
                  · have h6b : pd T k - k ≤ 6 := by omega
                    have h3b : nE T k - nS T k ≤ 3 := by omega
                    have hvv : nV T k = v7 := by rw [← hcl3, show 4 - nn = (3 - nn) + 1 by omega]; exact if_pos (by omega)
                    have hvb := nV_b (T := T) (s := k) (by omega) h6b
                    have hNK : nK T k = 257 := by unfold nK; rw [if_neg (by omega), if_pos h46]
                    have hW : nW T k = v7 := by unfold nW; rw [if_neg (by omega), hvv]
                    refine jJ_of (fun H locs => lv_aload_n hx hb dX10_numberEnd_141 rfl (lv_at hl 4 rfl)) ?_
                    refine jJ_of (fun H locs => lv_iconst (v := (nI 1)) hx hb dX10_numberEnd_142 (by decide)) ?_
                    refine jJ_of (fun H locs => lv_iload_n hx hb dX10_numberEnd_143 rfl (lv_at hl 5 rfl)) ?_
                    refine jJ_of (fun H locs => lv_iload_n hx hb dX10_numberEnd_144 rfl (lv_at hl 1 rfl)) ?_
                    refine jJ_of (fun H locs => lv_iload hx hb dX10_numberEnd_145 (lv_at hl 3 rfl)) ?_
                    have hk9 : kC (nK T k) = 1 := by rw [hNK]; rfl
                    have hw9 : kW (nK T k) (nW T k) = v7 := by rw [hNK, hW]; rfl
                    have hd9 : decide (nK T k = 256) = false := by rw [hNK]; rfl
                    have hkb : nK T k < 1000 := by rw [hNK]; decide
                    have hwb9 : nW T k < 1000000000 := by rw [hW, ← hvv]; exact hvb
                    refine jJ_eq (g2 := F0 m 147 ls [.int (bI (decide (nK T k = 256))), .int (nI (kW (nK T k) (nW T k))), .int (nI k), .int (nI (kC (nK T k))), .ref (Z 0)]) (cs2 := [[(Z 0, .inr (8, [E 0, E 1, E 2, .ref (Z 1), E 4, E 5, E 6, E 7, E 8, E 9, E 10, E 11, E 12, E 13, E 14, E 15, E 16, E 17, E 18]))], [(Z 1, .inr (7, [.ref (Z 8), .int (nI T.length), .ref (Z 3), .ref (Z 4), .ref (Z 5), .ref (Z 6), .int (nI ((tk 0).length)), X 7, X 8, X 9, X 10, X 11, X 12]))], [(Z 8, .inl (cB, 16000, .inl B))], [(Z 3, .inl (cB, 32008, .inl (V 0)))], [(Z 4, .inl (cI, 32008, .inl (V 1)))], [(Z 5, .inl (cI, 32008, .inl (V 2)))], [(Z 6, .inl (cZ, 32008, .inl (V 3)))]]) (by rw [hk9, hw9, hd9]; rfl) rfl ?_
                    refine jJ_callV (As := [.int (nI (kC (nK T k))), .int (nI k), .int (nI (kW (nK T k) (nW T k))), .int (bI (decide (nK T k = 256)))]) (rest := []) (wc := jF (tWd cI cB cZ Z (lsV [E 0, E 1, E 2, .null, E 4, E 5, E 6, E 7, E 8, E 9, E 10, E 11, E 12, E 13, E 14, E 15, E 16, E 17, E 18]) (lsV [.ref (Z 8), .int (nI T.length), .null, .null, .null, .null, .null, X 7, X 8, X 9, X 10, X 11, X 12]) V ((tk 0).length))) (cs2 := [[(Z 8, .inl (cB, 16000, .inl B))]]) (C := RX10) (T := TX10) (N := 19) (ci := 8) [0, 1, 3, 4, 5, 6] [2] ⟨hx, hb, hml, hown, hts⟩ hK hA hAm (c_Md_token (E := lsV [E 0, E 1, E 2, .null, E 4, E 5, E 6, E 7, E 8, E 9, E 10, E 11, E 12, E 13, E 14, E 15, E 16, E 17, E 18]) (X := lsV [.ref (Z 8), .int (nI T.length), .null, .null, .null, .null, .null, X 7, X 8, X 9, X 10, X 11, X 12]) hT hl9 (by omega) (nK T k) k (nW T k) (by omega) (by omega) (by omega)) (cwV 4 hts gX10_numberEnd_X10_token rfl rfl rfl (by decide +kernel) ⟨Nat.le_of_ble_eq_true rfl, Nat.le_of_ble_eq_true rfl⟩) (nn := 7) rfl (by decide) rfl rfl ⟨0, _, rfl⟩ rfl rfl rfl hl.1 (Nat.le_of_ble_eq_true rfl) dX10_numberEnd_147 (by show _ + 0 ≤ 0; omega) (by show _ + 0 ≤ 0; omega) (fun v u6 k6 n6 hq6 => ?_)
                    obtain ⟨rfl, V6, hT6, hw6, rfl, rfl⟩ := hq6
                    rw [hw6]
                    refine jJ_open (xs := [[(Z 0, .inr (8, [E 0, E 1, E 2, .ref (Z 1), E 4, E 5, E 6, E 7, E 8, E 9, E 10, E 11, E 12, E 13, E 14, E 15, E 16, E 17, E 18]))], [(Z 1, .inr (7, [.ref (Z 8), .int (nI T.length), .ref (Z 3), .ref (Z 4), .ref (Z 5), .ref (Z 6), .int (nI ((tk 0).length + 1)), X 7, X 8, X 9, X 10, X 11, X 12]))], [(Z 3, .inl (cB, 32008, .inl (V6 0)))], [(Z 4, .inl (cI, 32008, .inl (V6 1)))], [(Z 5, .inl (cI, 32008, .inl (V6 2)))], [(Z 6, .inl (cZ, 32008, .inl (V6 3)))]]) (r := [[(Z 8, .inl (cB, 16000, .inl B))]]) (cs2 := [[(Z 0, .inr (8, [E 0, E 1, E 2, .ref (Z 1), E 4, E 5, E 6, E 7, E 8, E 9, E 10, E 11, E 12, E 13, E 14, E 15, E 16, E 17, E 18]))], [(Z 1, .inr (7, [.ref (Z 8), .int (nI T.length), .ref (Z 3), .ref (Z 4), .ref (Z 5), .ref (Z 6), .int (nI ((tk 0).length + 1)), X 7, X 8, X 9, X 10, X 11, X 12]))], [(Z 3, .inl (cB, 32008, .inl (V6 0)))], [(Z 4, .inl (cI, 32008, .inl (V6 1)))], [(Z 5, .inl (cI, 32008, .inl (V6 2)))], [(Z 6, .inl (cZ, 32008, .inl (V6 3)))], [(Z 8, .inl (cB, 16000, .inl B))]]) rfl ?_
                    refine jJ_eq (g2 := F0 m 150 ls []) (cs2 := [[(Z 0, .inr (8, [E 0, E 1, E 2, .ref (Z 1), E 4, E 5, E 6, E 7, E 8, E 9, E 10, E 11, E 12, E 13, E 14, E 15, E 16, E 17, E 18]))], [(Z 1, .inr (7, [.ref (Z 8), .int (nI T.length), .ref (Z 3), .ref (Z 4), .ref (Z 5), .ref (Z 6), .int (nI ((tk 0).length + 1)), X 7, X 8, X 9, X 10, X 11, X 12]))], [(Z 3, .inl (cB, 32008, .inl (V6 0)))], [(Z 4, .inl (cI, 32008, .inl (V6 1)))], [(Z 5, .inl (cI, 32008, .inl (V6 2)))], [(Z 6, .inl (cZ, 32008, .inl (V6 3)))], [(Z 8, .inl (cB, 16000, .inl B))]]) rfl rfl ?_
                    refine jJ_of (fun H locs => lv_iload_n hx hb dX10_numberEnd_150 rfl (lv_at hl 2 rfl)) ?_
                    refine jJ_perm [0, 1, 6, 2, 3, 4, 5] (nn := 7) rfl (by decide) (cs2 := [[(Z 0, .inr (8, [E 0, E 1, E 2, .ref (Z 1), E 4, E 5, E 6, E 7, E 8, E 9, E 10, E 11, E 12, E 13, E 14, E 15, E 16, E 17, E 18]))], [(Z 1, .inr (7, [.ref (Z 8), .int (nI T.length), .ref (Z 3), .ref (Z 4), .ref (Z 5), .ref (Z 6), .int (nI ((tk 0).length + 1)), X 7, X 8, X 9, X 10, X 11, X 12]))], [(Z 8, .inl (cB, 16000, .inl B))], [(Z 3, .inl (cB, 32008, .inl (V6 0)))], [(Z 4, .inl (cI, 32008, .inl (V6 1)))], [(Z 5, .inl (cI, 32008, .inl (V6 2)))], [(Z 6, .inl (cZ, 32008, .inl (V6 3)))]]) rfl ?_
                    have hKn : ¬ nK T k = 0 := by rw [hNK]; decide
                    have hTk : nTk T tk k = tkAdd tk (nK T k) k (nW T k) := if_neg hKn
                    exact jJ_iret hx hb hr hlocks dX10_numberEnd_151 (by show _ ≤ 0; omega) (by show _ ≤ 0; omega) ⟨by rw [show nR T k = ((nE T k : Nat) : Int) from if_neg hKn, ← nI_iI, he8], ⟨V6, by rw [hTk]; exact hT6, by rw [hTk, tkAdd_l]; rfl⟩, rfl, rfl⟩
                  · refine jJ_of (fun H locs => lv_iload_n hx hb dX10_numberEnd_130 rfl (lv_at hl 1 rfl)) ?_
                    refine jJ_of (fun H locs => lv_bipush (v := (nI 10)) hx hb dX10_numberEnd_131 (by decide)) ?_
                    refine jJ_of (fun H locs => jn_imul hx hb dX10_numberEnd_133) ?_
                    refine jJ_ofL (fun H locs => lv_istore_n (lv' := [(3, .int (nI (v7 * 10))), (6, .int (nI nn)), (2, .int (nI e8)), (4, .int (nI 0)), (0, .ref (Z 0)), (1, .int (nI k))]) hx hb dX10_numberEnd_134 rfl hl (by decide) rfl) (fun ls hl => ?_)
                    refine jJ_ofL (fun H locs => lv_iinc (v := (nI (nn + 1))) (lv' := [(6, .int (nI (nn + 1))), (3, .int (nI (v7 * 10))), (2, .int (nI e8)), (4, .int (nI 0)), (0, .ref (Z 0)), (1, .int (nI k))]) hx hb dX10_numberEnd_135 hl (k := 1) rfl (nI_add _ _) (by decide) rfl) (fun ls hl => ?_)
                    refine jJ_of (fun H locs => lv_goto (tgt := 124) hx hb dX10_numberEnd_138 (by decide)) ?_
                    exact ih3 (nn + 1) (v7 * 10) (by omega) (by omega) (by omega) (by rw [← hcl3, show 4 - nn = (4 - (nn + 1)) + 1 by omega]; show _ = (if _ then _ else _); rw [if_neg (by omega), if_neg (by omega)]; rfl) ls (lv_sub hl [0, 1, 2, 3, 4, 5] rfl)
              · simp only [decide_eq_true_eq, decide_eq_false_iff_not] at c86
                refine jJ_of (fun H locs => lv_iload hx hb dX10_numberEnd_89 (lv_at hl 2 rfl)) ?_
                refine jJ_of (fun H locs => lv_iconst (v := (nI 3)) hx hb dX10_numberEnd_91 (by decide)) ?_
                refine jJ_of2 (fun H locs => jn_icmp_ne (tgt := 97) hx hb dX10_numberEnd_92 (by decide) (by omega) (by omega)) (fun c92 => ?_) (fun c92 => ?_)
                · refine jJ_of (fun H locs => lv_bipush (v := (nI 10)) hx hb dX10_numberEnd_97 (by decide)) ?_
                  refine jJ_of (fun H locs => lv_iload_n hx hb dX10_numberEnd_99 rfl (lv_at hl 1 rfl)) ?_
                  refine jJ_of (fun H locs => jn_imul hx hb dX10_numberEnd_100) ?_
                  refine jJ_of (fun H locs => lv_aload_n hx hb dX10_numberEnd_101 rfl (lv_at hl 4 rfl)) ?_
                  refine jJ_of (fun H locs => lv_iload_n hx hb dX10_numberEnd_102 rfl (lv_at hl 0 rfl)) ?_
                  refine jJ_callV (As := [.int (nI e8)]) (rest := [.int (nI (10 * v8))]) (wc := jF (bWd cB Z (lsV [E 0, E 1, E 2, .null, E 4, E 5, E 6, E 7, E 8, E 9, E 10, E 11, E 12, E 13, E 14, E 15, E 16, E 17, E 18]) (lsV [.null, .null, .ref (Z 3), .ref (Z 4), .ref (Z 5), .ref (Z 6), .int (nI ((tk 0).length)), X 7, X 8, X 9, X 10, X 11, X 12]) B T.length)) (cs2 := [[(Z 3, .inl (cB, 32008, .inl (V 0)))], [(Z 4, .inl (cI, 32008, .inl (V 1)))], [(Z 5, .inl (cI, 32008, .inl (V 2)))], [(Z 6, .inl (cZ, 32008, .inl (V 3)))]]) (C := RX10) (T := TX10) (N := 19) (ci := 8) [0, 1, 2] [3, 4, 5, 6] ⟨hx, hb, hml, hown, hts⟩ hK hA hAm (c_Md_look (E := lsV [E 0, E 1, E 2, .null, E 4, E 5, E 6, E 7, E 8, E 9, E 10, E 11, E 12, E 13, E 14, E 15, E 16, E 17, E 18]) (X := lsV [.null, .null, .ref (Z 3), .ref (Z 4), .ref (Z 5), .ref (Z 6), .int (nI ((tk 0).length)), X 7, X 8, X 9, X 10, X 11, X 12]) hB e8 (by omega)) (cwV 1 hts gX10_numberEnd_X10_look rfl rfl rfl (by decide +kernel) ⟨Nat.le_of_ble_eq_true rfl, Nat.le_of_ble_eq_true rfl⟩) (nn := 7) rfl (by decide) rfl rfl ⟨0, _, rfl⟩ rfl rfl rfl hl.1 (Nat.le_of_ble_eq_true rfl) dX10_numberEnd_103 (by show _ + 0 ≤ 0; omega) (by show _ + 0 ≤ 0; omega) (fun v u7 k7 n7 hq7 => ?_)
                  obtain ⟨hv7, hw7, rfl, rfl⟩ := hq7
                  subst hv7
                  rw [hw7]
                  refine jJ_open (xs := [[(Z 0, .inr (8, [E 0, E 1, E 2, .ref (Z 1), E 4, E 5, E 6, E 7, E 8, E 9, E 10, E 11, E 12, E 13, E 14, E 15, E 16, E 17, E 18]))], [(Z 1, .inr (7, [.ref (Z 8), .int (nI T.length), .ref (Z 3), .ref (Z 4), .ref (Z 5), .ref (Z 6), .int (nI ((tk 0).length)), X 7, X 8, X 9, X 10, X 11, X 12]))], [(Z 8, .inl (cB, 16000, .inl B))]]) (r := [[(Z 3, .inl (cB, 32008, .inl (V 0)))], [(Z 4, .inl (cI, 32008, .inl (V 1)))], [(Z 5, .inl (cI, 32008, .inl (V 2)))], [(Z 6, .inl (cZ, 32008, .inl (V 3)))]]) (cs2 := [[(Z 0, .inr (8, [E 0, E 1, E 2, .ref (Z 1), E 4, E 5, E 6, E 7, E 8, E 9, E 10, E 11, E 12, E 13, E 14, E 15, E 16, E 17, E 18]))], [(Z 1, .inr (7, [.ref (Z 8), .int (nI T.length), .ref (Z 3), .ref (Z 4), .ref (Z 5), .ref (Z 6), .int (nI ((tk 0).length)), X 7, X 8, X 9, X 10, X 11, X 12]))], [(Z 8, .inl (cB, 16000, .inl B))], [(Z 3, .inl (cB, 32008, .inl (V 0)))], [(Z 4, .inl (cI, 32008, .inl (V 1)))], [(Z 5, .inl (cI, 32008, .inl (V 2)))], [(Z 6, .inl (cZ, 32008, .inl (V 3)))]]) rfl ?_
                  refine jJ_eq (g2 := F0 m 106 ls [.int (iI (lk T e8)), .int (nI (10 * v8))]) (cs2 := [[(Z 0, .inr (8, [E 0, E 1, E 2, .ref (Z 1), E 4, E 5, E 6, E 7, E 8, E 9, E 10, E 11, E 12, E 13, E 14, E 15, E 16, E 17, E 18]))], [(Z 1, .inr (7, [.ref (Z 8), .int (nI T.length), .ref (Z 3), .ref (Z 4), .ref (Z 5), .ref (Z 6), .int (nI ((tk 0).length)), X 7, X 8, X 9, X 10, X 11, X 12]))], [(Z 8, .inl (cB, 16000, .inl B))], [(Z 3, .inl (cB, 32008, .inl (V 0)))], [(Z 4, .inl (cI, 32008, .inl (V 1)))], [(Z 5, .inl (cI, 32008, .inl (V 2)))], [(Z 6, .inl (cZ, 32008, .inl (V 3)))]]) rfl rfl ?_
                  have hlk7_106 := lk_c T e8
                  have hl256_7_106 := hB.2.2 e8
                  rw [nI_iI (10 * v8)]
                  refine jJ_of (fun H locs => jz_iadd hx hb dX10_numberEnd_106) ?_
                  refine jJ_of (fun H locs => lv_bipush (v := (nI 48)) hx hb dX10_numberEnd_107 (by decide)) ?_
                  rw [nI_iI 48]
                  refine jJ_eq (g2 := F0 m 109 ls [.int (iI 48), .int (iI (((10 * v8 : Nat) : Int) + (lk T e8)))]) (cs2 := [[(Z 0, .inr (8, [E 0, E 1, E 2, .ref (Z 1), E 4, E 5, E 6, E 7, E 8, E 9, E 10, E 11, E 12, E 13, E 14, E 15, E 16, E 17, E 18]))], [(Z 1, .inr (7, [.ref (Z 8), .int (nI T.length), .ref (Z 3), .ref (Z 4), .ref (Z 5), .ref (Z 6), .int (nI ((tk 0).length)), X 7, X 8, X 9, X 10, X 11, X 12]))], [(Z 8, .inl (cB, 16000, .inl B))], [(Z 3, .inl (cB, 32008, .inl (V 0)))], [(Z 4, .inl (cI, 32008, .inl (V 1)))], [(Z 5, .inl (cI, 32008, .inl (V 2)))], [(Z 6, .inl (cZ, 32008, .inl (V 3)))]]) rfl rfl ?_
                  refine jJ_of (fun H locs => jz_isub hx hb dX10_numberEnd_109) ?_
                  have hcv : ((v8 * 10 + (T.getD e8 0 - 48) : Nat) : Int) = (((10 * v8 : Nat) : Int) + (lk T e8)) - 48 := by omega
                  refine jJ_eq (g2 := F0 m 110 ls [.int (nI (v8 * 10 + (T.getD e8 0 - 48)))]) (cs2 := [[(Z 0, .inr (8, [E 0, E 1, E 2, .ref (Z 1), E 4, E 5, E 6, E 7, E 8, E 9, E 10, E 11, E 12, E 13, E 14, E 15, E 16, E 17, E 18]))], [(Z 1, .inr (7, [.ref (Z 8), .int (nI T.length), .ref (Z 3), .ref (Z 4), .ref (Z 5), .ref (Z 6), .int (nI ((tk 0).length)), X 7, X 8, X 9, X 10, X 11, X 12]))], [(Z 8, .inl (cB, 16000, .inl B))], [(Z 3, .inl (cB, 32008, .inl (V 0)))], [(Z 4, .inl (cI, 32008, .inl (V 1)))], [(Z 5, .inl (cI, 32008, .inl (V 2)))], [(Z 6, .inl (cZ, 32008, .inl (V 3)))]]) (by rw [nI_iI (v8 * 10 + (T.getD e8 0 - 48)), hcv]) rfl ?_
                  refine jJ_ofL (fun H locs => lv_istore_n (lv' := [(3, .int (nI (v8 * 10 + (T.getD e8 0 - 48)))), (2, .int (nI e8)), (5, .int (nI bh)), (4, .int (nI 0)), (0, .ref (Z 0)), (1, .int (nI k))]) hx hb dX10_numberEnd_110 rfl hl (by decide) rfl) (fun ls hl => ?_)
                  refine jJ_ofL (fun H locs => lv_iinc (v := (nI (bh + 1))) (lv' := [(5, .int (nI (bh + 1))), (3, .int (nI (v8 * 10 + (T.getD e8 0 - 48)))), (2, .int (nI e8)), (4, .int (nI 0)), (0, .ref (Z 0)), (1, .int (nI k))]) hx hb dX10_numberEnd_111 hl (k := 2) rfl (nI_add _ _) (by decide) rfl) (fun ls hl => ?_)
                  refine jJ_ofL (fun H locs => lv_iinc (v := (nI (e8 + 1))) (lv' := [(2, .int (nI (e8 + 1))), (5, .int (nI (bh + 1))), (3, .int (nI (v8 * 10 + (T.getD e8 0 - 48)))), (4, .int (nI 0)), (0, .ref (Z 0)), (1, .int (nI k))]) hx hb dX10_numberEnd_114 hl (k := 2) rfl (nI_add _ _) (by decide) rfl) (fun ls hl => ?_)
                  refine jJ_of (fun H locs => lv_goto (tgt := 73) hx hb dX10_numberEnd_117 (by decide)) ?_
                  exact ih2 (e8 + 1) (v8 * 10 + (T.getD e8 0 - 48)) (bh + 1) (by omega) (by omega) (by omega) (by omega) (by rw [← hcl2, show 4 - bh = (4 - (bh + 1)) + 1 by omega]; show _ = (if _ then _ else _); rw [if_neg (by omega), if_pos (by omega)]) ls (lv_sub hl [0, 2, 1, 3, 4, 5] rfl)
                · refine jJ_of (fun H locs => lv_iconst (v := (iI (-1))) hx hb dX10_numberEnd_95 (by decide)) ?_
                  have hNK : nK T k = 0 := if_pos (Or.inr (by omega))
                  exact jJ_iret hx hb hr hlocks dX10_numberEnd_96 (by show _ ≤ 0; omega) (by show _ ≤ 0; omega) ⟨by rw [show nR T k = -1 from if_pos hNK], ⟨V, by rw [show nTk T tk k = tk from if_pos hNK]; exact hT, by rw [show nTk T tk k = tk from if_pos hNK]; rfl⟩, rfl, rfl⟩
      · have h46 : ¬ T.getD (pd T k) 0 = 46 := by
          rw [← he9]
          rcases Nat.lt_or_ge e9 T.length with q | q
          · omega
          · rw [List.getD_eq_getElem?_getD, List.getElem?_eq_none q]; decide
        have hS : nS T k = pd T k := if_neg h46
        have hE : nE T k = pd T k := if_neg h46
        have hVd : nV T k = nwF T (nE T k) (nS T k + 3) 4 (nS T k) v9 := by unfold nV; rw [hv9]
        refine jJ_of (fun H locs => lv_iconst (v := (nI 1)) hx hb dX10_numberEnd_55 (by decide)) ?_
        refine jJ_of (fun H locs => lv_goto (tgt := 60) hx hb dX10_numberEnd_56 (by decide)) ?_
        refine jJ_ofL (fun H locs => lv_istore (lv' := [(4, .int (nI 1)), (2, .int (nI e9)), (3, .int (nI v9)), (0, .ref (Z 0)), (1, .int (nI k))]) hx hb dX10_numberEnd_60 hl (by decide) rfl) (fun ls hl => ?_)
        refine jJ_of (fun H locs => lv_iconst (v := (nI 0)) hx hb dX10_numberEnd_62 (by decide)) ?_
        refine jJ_ofL (fun H locs => lv_istore (lv' := [(5, .int (nI 0)), (4, .int (nI 1)), (2, .int (nI e9)), (3, .int (nI v9)), (0, .ref (Z 0)), (1, .int (nI k))]) hx hb dX10_numberEnd_63 hl (by decide) rfl) (fun ls hl => ?_)
        refine jJ_of (fun H locs => lv_iload hx hb dX10_numberEnd_65 (lv_at hl 1 rfl)) ?_
        refine jJ_of2 (fun H locs => jn_if_ne (tgt := 73) hx hb dX10_numberEnd_67 (by decide) (by omega)) (fun c67 => ?_) (fun c67 => ?_)
        · refine jJ_of (fun H locs => lv_iload hx hb dX10_numberEnd_73 (lv_at hl 1 rfl)) ?_
          refine jJ_of2 (fun H locs => jn_if_ne (tgt := 120) hx hb dX10_numberEnd_75 (by decide) (by omega)) (fun c75 => ?_) (fun c75 => ?_)
          · have he8 : e9 = nE T k := by omega
            refine jJ_of (fun H locs => lv_iload hx hb dX10_numberEnd_120 (lv_at hl 0 rfl)) ?_
            refine jJ_ofL (fun H locs => lv_istore (lv' := [(6, .int (nI 0)), (5, .int (nI 0)), (4, .int (nI 1)), (2, .int (nI e9)), (3, .int (nI v9)), (0, .ref (Z 0)), (1, .int (nI k))]) hx hb dX10_numberEnd_122 hl (by decide) rfl) (fun ls hl => ?_)
            suffices lp3 : ∀ (d3 nn v7 : Nat), d3 + nn = 4 → nn ≤ 3 → nE T k ≤ nS T k + nn → nwF T (nE T k) (nS T k + 3) (4 - nn) (nS T k + nn) v7 = nV T k → ∀ ls, lv_has ls 7 [(6, .int (nI nn)), (3, .int (nI v7)), (2, .int (nI e9)), (4, .int (nI 1)), (0, .ref (Z 0)), (1, .int (nI k))] → jJ p l e _ s m args below meth c D A0 [[(Z 0, .inr (8, [E 0, E 1, E 2, .ref (Z 1), E 4, E 5, E 6, E 7, E 8, E 9, E 10, E 11, E 12, E 13, E 14, E 15, E 16, E 17, E 18]))], [(Z 1, .inr (7, [.ref (Z 8), .int (nI T.length), .ref (Z 3), .ref (Z 4), .ref (Z 5), .ref (Z 6), .int (nI ((tk 0).length)), X 7, X 8, X 9, X 10, X 11, X 12]))], [(Z 8, .inl (cB, 16000, .inl B))], [(Z 3, .inl (cB, 32008, .inl (V 0)))], [(Z 4, .inl (cI, 32008, .inl (V 1)))], [(Z 5, .inl (cI, 32008, .inl (V 2)))], [(Z 6, .inl (cZ, 32008, .inl (V 3)))]] 0 0 (jEnd below D A0 _ args s _ _) (F0 m 124 ls []) from lp3 (4 - 0) 0 v9 (by omega) (by omega) (by omega) (by rw [hVd]; rfl) ls (lv_sub hl [0, 4, 3, 2, 5, 6] rfl)
            intro d3
            induction d3 with
            | zero =>
              intro nn v7 h1 h0; omega
            | succ d3 ih3 =>
              intro nn v7 h1 h0 hnn hcl3 ls hl
              refine jJ_of (fun H locs => lv_iload hx hb dX10_numberEnd_124 (lv_at hl 0 rfl)) ?_
              refine jJ_of (fun H locs => lv_iconst (v := (nI 3)) hx hb dX10_numberEnd_126 (by decide)) ?_
              refine jJ_of2 (fun H locs => jn_icmp_ge (tgt := 141) hx hb dX10_numberEnd_127 (by decide) (by omega) (by omega)) (fun c127 => ?_) (fun c127 => ?_)
              · have h6b : pd T k - k ≤ 6 := by omega
                have h3b : nE T k - nS T k ≤ 3 := by omega
                have hvv : nV T k = v7 := by rw [← hcl3, show 4 - nn = (3 - nn) + 1 by omega]; exact if_pos (by omega)
                have hvb := nV_b (T := T) (s := k) (by omega) h6b
                have hNK : nK T k = 256 := by unfold nK; rw [if_neg (by omega), if_neg h46]
                have hW : nW T k = v7 := by unfold nW; rw [if_neg (by omega), hvv]
                refine jJ_of (fun H locs => lv_aload_n hx hb dX10_numberEnd_141 rfl (lv_at hl 4 rfl)) ?_
                refine jJ_of (fun H locs => lv_iconst (v := (nI 1)) hx hb dX10_numberEnd_142 (by decide)) ?_
                refine jJ_of (fun H locs => lv_iload_n hx hb dX10_numberEnd_143 rfl (lv_at hl 5 rfl)) ?_
                refine jJ_of (fun H locs => lv_iload_n hx hb dX10_numberEnd_144 rfl (lv_at hl 1 rfl)) ?_
                refine jJ_of (fun H locs => lv_iload hx hb dX10_numberEnd_145 (lv_at hl 3 rfl)) ?_
                have hk9 : kC (nK T k) = 1 := by rw [hNK]; rfl
                have hw9 : kW (nK T k) (nW T k) = v7 := by rw [hNK, hW]; rfl
                have hd9 : decide (nK T k = 256) = true := by rw [hNK]; rfl
                have hkb : nK T k < 1000 := by rw [hNK]; decide
                have hwb9 : nW T k < 1000000000 := by rw [hW, ← hvv]; exact hvb
                refine jJ_eq (g2 := F0 m 147 ls [.int (bI (decide (nK T k = 256))), .int (nI (kW (nK T k) (nW T k))), .int (nI k), .int (nI (kC (nK T k))), .ref (Z 0)]) (cs2 := [[(Z 0, .inr (8, [E 0, E 1, E 2, .ref (Z 1), E 4, E 5, E 6, E 7, E 8, E 9, E 10, E 11, E 12, E 13, E 14, E 15, E 16, E 17, E 18]))], [(Z 1, .inr (7, [.ref (Z 8), .int (nI T.length), .ref (Z 3), .ref (Z 4), .ref (Z 5), .ref (Z 6), .int (nI ((tk 0).length)), X 7, X 8, X 9, X 10, X 11, X 12]))], [(Z 8, .inl (cB, 16000, .inl B))], [(Z 3, .inl (cB, 32008, .inl (V 0)))], [(Z 4, .inl (cI, 32008, .inl (V 1)))], [(Z 5, .inl (cI, 32008, .inl (V 2)))], [(Z 6, .inl (cZ, 32008, .inl (V 3)))]]) (by rw [hk9, hw9, hd9]; rfl) rfl ?_
                refine jJ_callV (As := [.int (nI (kC (nK T k))), .int (nI k), .int (nI (kW (nK T k) (nW T k))), .int (bI (decide (nK T k = 256)))]) (rest := []) (wc := jF (tWd cI cB cZ Z (lsV [E 0, E 1, E 2, .null, E 4, E 5, E 6, E 7, E 8, E 9, E 10, E 11, E 12, E 13, E 14, E 15, E 16, E 17, E 18]) (lsV [.ref (Z 8), .int (nI T.length), .null, .null, .null, .null, .null, X 7, X 8, X 9, X 10, X 11, X 12]) V ((tk 0).length))) (cs2 := [[(Z 8, .inl (cB, 16000, .inl B))]]) (C := RX10) (T := TX10) (N := 19) (ci := 8) [0, 1, 3, 4, 5, 6] [2] ⟨hx, hb, hml, hown, hts⟩ hK hA hAm (c_Md_token (E := lsV [E 0, E 1, E 2, .null, E 4, E 5, E 6, E 7, E 8, E 9, E 10, E 11, E 12, E 13, E 14, E 15, E 16, E 17, E 18]) (X := lsV [.ref (Z 8), .int (nI T.length), .null, .null, .null, .null, .null, X 7, X 8, X 9, X 10, X 11, X 12]) hT hl9 (by omega) (nK T k) k (nW T k) (by omega) (by omega) (by omega)) (cwV 4 hts gX10_numberEnd_X10_token rfl rfl rfl (by decide +kernel) ⟨Nat.le_of_ble_eq_true rfl, Nat.le_of_ble_eq_true rfl⟩) (nn := 7) rfl (by decide) rfl rfl ⟨0, _, rfl⟩ rfl rfl rfl hl.1 (Nat.le_of_ble_eq_true rfl) dX10_numberEnd_147 (by show _ + 0 ≤ 0; omega) (by show _ + 0 ≤ 0; omega) (fun v u8 k8 n8 hq8 => ?_)
                obtain ⟨rfl, V8, hT8, hw8, rfl, rfl⟩ := hq8
                rw [hw8]
                refine jJ_open (xs := [[(Z 0, .inr (8, [E 0, E 1, E 2, .ref (Z 1), E 4, E 5, E 6, E 7, E 8, E 9, E 10, E 11, E 12, E 13, E 14, E 15, E 16, E 17, E 18]))], [(Z 1, .inr (7, [.ref (Z 8), .int (nI T.length), .ref (Z 3), .ref (Z 4), .ref (Z 5), .ref (Z 6), .int (nI ((tk 0).length + 1)), X 7, X 8, X 9, X 10, X 11, X 12]))], [(Z 3, .inl (cB, 32008, .inl (V8 0)))], [(Z 4, .inl (cI, 32008, .inl (V8 1)))], [(Z 5, .inl (cI, 32008, .inl (V8 2)))], [(Z 6, .inl (cZ, 32008, .inl (V8 3)))]]) (r := [[(Z 8, .inl (cB, 16000, .inl B))]]) (cs2 := [[(Z 0, .inr (8, [E 0, E 1, E 2, .ref (Z 1), E 4, E 5, E 6, E 7, E 8, E 9, E 10, E 11, E 12, E 13, E 14, E 15, E 16, E 17, E 18]))], [(Z 1, .inr (7, [.ref (Z 8), .int (nI T.length), .ref (Z 3), .ref (Z 4), .ref (Z 5), .ref (Z 6), .int (nI ((tk 0).length + 1)), X 7, X 8, X 9, X 10, X 11, X 12]))], [(Z 3, .inl (cB, 32008, .inl (V8 0)))], [(Z 4, .inl (cI, 32008, .inl (V8 1)))], [(Z 5, .inl (cI, 32008, .inl (V8 2)))], [(Z 6, .inl (cZ, 32008, .inl (V8 3)))], [(Z 8, .inl (cB, 16000, .inl B))]]) rfl ?_
                refine jJ_eq (g2 := F0 m 150 ls []) (cs2 := [[(Z 0, .inr (8, [E 0, E 1, E 2, .ref (Z 1), E 4, E 5, E 6, E 7, E 8, E 9, E 10, E 11, E 12, E 13, E 14, E 15, E 16, E 17, E 18]))], [(Z 1, .inr (7, [.ref (Z 8), .int (nI T.length), .ref (Z 3), .ref (Z 4), .ref (Z 5), .ref (Z 6), .int (nI ((tk 0).length + 1)), X 7, X 8, X 9, X 10, X 11, X 12]))], [(Z 3, .inl (cB, 32008, .inl (V8 0)))], [(Z 4, .inl (cI, 32008, .inl (V8 1)))], [(Z 5, .inl (cI, 32008, .inl (V8 2)))], [(Z 6, .inl (cZ, 32008, .inl (V8 3)))], [(Z 8, .inl (cB, 16000, .inl B))]]) rfl rfl ?_
                refine jJ_of (fun H locs => lv_iload_n hx hb dX10_numberEnd_150 rfl (lv_at hl 2 rfl)) ?_
                refine jJ_perm [0, 1, 6, 2, 3, 4, 5] (nn := 7) rfl (by decide) (cs2 := [[(Z 0, .inr (8, [E 0, E 1, E 2, .ref (Z 1), E 4, E 5, E 6, E 7, E 8, E 9, E 10, E 11, E 12, E 13, E 14, E 15, E 16, E 17, E 18]))], [(Z 1, .inr (7, [.ref (Z 8), .int (nI T.length), .ref (Z 3), .ref (Z 4), .ref (Z 5), .ref (Z 6), .int (nI ((tk 0).length + 1)), X 7, X 8, X 9, X 10, X 11, X 12]))], [(Z 8, .inl (cB, 16000, .inl B))], [(Z 3, .inl (cB, 32008, .inl (V8 0)))], [(Z 4, .inl (cI, 32008, .inl (V8 1)))], [(Z 5, .inl (cI, 32008, .inl (V8 2)))], [(Z 6, .inl (cZ, 32008, .inl (V8 3)))]]) rfl ?_
                have hKn : ¬ nK T k = 0 := by rw [hNK]; decide
                have hTk : nTk T tk k = tkAdd tk (nK T k) k (nW T k) := if_neg hKn
                exact jJ_iret hx hb hr hlocks dX10_numberEnd_151 (by show _ ≤ 0; omega) (by show _ ≤ 0; omega) ⟨by rw [show nR T k = ((nE T k : Nat) : Int) from if_neg hKn, ← nI_iI, he8], ⟨V8, by rw [hTk]; exact hT8, by rw [hTk, tkAdd_l]; rfl⟩, rfl, rfl⟩
              · refine jJ_of (fun H locs => lv_iload_n hx hb dX10_numberEnd_130 rfl (lv_at hl 1 rfl)) ?_
                refine jJ_of (fun H locs => lv_bipush (v := (nI 10)) hx hb dX10_numberEnd_131 (by decide)) ?_
                refine jJ_of (fun H locs => jn_imul hx hb dX10_numberEnd_133) ?_
                refine jJ_ofL (fun H locs => lv_istore_n (lv' := [(3, .int (nI (v7 * 10))), (6, .int (nI nn)), (2, .int (nI e9)), (4, .int (nI 1)), (0, .ref (Z 0)), (1, .int (nI k))]) hx hb dX10_numberEnd_134 rfl hl (by decide) rfl) (fun ls hl => ?_)
                refine jJ_ofL (fun H locs => lv_iinc (v := (nI (nn + 1))) (lv' := [(6, .int (nI (nn + 1))), (3, .int (nI (v7 * 10))), (2, .int (nI e9)), (4, .int (nI 1)), (0, .ref (Z 0)), (1, .int (nI k))]) hx hb dX10_numberEnd_135 hl (k := 1) rfl (nI_add _ _) (by decide) rfl) (fun ls hl => ?_)
                refine jJ_of (fun H locs => lv_goto (tgt := 124) hx hb dX10_numberEnd_138 (by decide)) ?_
                exact ih3 (nn + 1) (v7 * 10) (by omega) (by omega) (by omega) (by rw [← hcl3, show 4 - nn = (4 - (nn + 1)) + 1 by omega]; show _ = (if _ then _ else _); rw [if_neg (by omega), if_neg (by omega)]; rfl) ls (lv_sub hl [0, 1, 2, 3, 4, 5] rfl)
          · exfalso; omega
        · exfalso; omega
    · simp only [decide_eq_true_eq, decide_eq_false_iff_not] at c12
      refine jJ_of (fun H locs => lv_iload_n hx hb dX10_numberEnd_15 rfl (lv_at hl 0 rfl)) ?_
      refine jJ_of (fun H locs => lv_iload_n hx hb dX10_numberEnd_16 rfl (lv_at hl 3 rfl)) ?_
      refine jJ_of (fun H locs => jn_isub hx hb dX10_numberEnd_17 (by omega)) ?_
      refine jJ_of (fun H locs => lv_bipush (v := (nI 6)) hx hb dX10_numberEnd_18 (by decide)) ?_
      refine jJ_of2 (fun H locs => jn_icmp_ne (tgt := 25) hx hb dX10_numberEnd_20 (by decide) (by omega) (by omega)) (fun c20 => ?_) (fun c20 => ?_)
      · refine jJ_of (fun H locs => lv_bipush (v := (nI 10)) hx hb dX10_numberEnd_25 (by decide)) ?_
        refine jJ_of (fun H locs => lv_iload_n hx hb dX10_numberEnd_27 rfl (lv_at hl 1 rfl)) ?_
        refine jJ_of (fun H locs => jn_imul hx hb dX10_numberEnd_28) ?_
        refine jJ_of (fun H locs => lv_aload_n hx hb dX10_numberEnd_29 rfl (lv_at hl 2 rfl)) ?_
        refine jJ_of (fun H locs => lv_iload_n hx hb dX10_numberEnd_30 rfl (lv_at hl 0 rfl)) ?_
        refine jJ_callV (As := [.int (nI e9)]) (rest := [.int (nI (10 * v9))]) (wc := jF (bWd cB Z (lsV [E 0, E 1, E 2, .null, E 4, E 5, E 6, E 7, E 8, E 9, E 10, E 11, E 12, E 13, E 14, E 15, E 16, E 17, E 18]) (lsV [.null, .null, .ref (Z 3), .ref (Z 4), .ref (Z 5), .ref (Z 6), .int (nI ((tk 0).length)), X 7, X 8, X 9, X 10, X 11, X 12]) B T.length)) (cs2 := [[(Z 3, .inl (cB, 32008, .inl (V 0)))], [(Z 4, .inl (cI, 32008, .inl (V 1)))], [(Z 5, .inl (cI, 32008, .inl (V 2)))], [(Z 6, .inl (cZ, 32008, .inl (V 3)))]]) (C := RX10) (T := TX10) (N := 19) (ci := 8) [0, 1, 2] [3, 4, 5, 6] ⟨hx, hb, hml, hown, hts⟩ hK hA hAm (c_Md_look (E := lsV [E 0, E 1, E 2, .null, E 4, E 5, E 6, E 7, E 8, E 9, E 10, E 11, E 12, E 13, E 14, E 15, E 16, E 17, E 18]) (X := lsV [.null, .null, .ref (Z 3), .ref (Z 4), .ref (Z 5), .ref (Z 6), .int (nI ((tk 0).length)), X 7, X 8, X 9, X 10, X 11, X 12]) hB e9 (by omega)) (cwV 1 hts gX10_numberEnd_X10_look rfl rfl rfl (by decide +kernel) ⟨Nat.le_of_ble_eq_true rfl, Nat.le_of_ble_eq_true rfl⟩) (nn := 7) rfl (by decide) rfl rfl ⟨0, _, rfl⟩ rfl rfl rfl hl.1 (Nat.le_of_ble_eq_true rfl) dX10_numberEnd_31 (by show _ + 0 ≤ 0; omega) (by show _ + 0 ≤ 0; omega) (fun v u9 k9 n9 hq9 => ?_)
        obtain ⟨hv9, hw9, rfl, rfl⟩ := hq9
        subst hv9
        rw [hw9]
        refine jJ_open (xs := [[(Z 0, .inr (8, [E 0, E 1, E 2, .ref (Z 1), E 4, E 5, E 6, E 7, E 8, E 9, E 10, E 11, E 12, E 13, E 14, E 15, E 16, E 17, E 18]))], [(Z 1, .inr (7, [.ref (Z 8), .int (nI T.length), .ref (Z 3), .ref (Z 4), .ref (Z 5), .ref (Z 6), .int (nI ((tk 0).length)), X 7, X 8, X 9, X 10, X 11, X 12]))], [(Z 8, .inl (cB, 16000, .inl B))]]) (r := [[(Z 3, .inl (cB, 32008, .inl (V 0)))], [(Z 4, .inl (cI, 32008, .inl (V 1)))], [(Z 5, .inl (cI, 32008, .inl (V 2)))], [(Z 6, .inl (cZ, 32008, .inl (V 3)))]]) (cs2 := [[(Z 0, .inr (8, [E 0, E 1, E 2, .ref (Z 1), E 4, E 5, E 6, E 7, E 8, E 9, E 10, E 11, E 12, E 13, E 14, E 15, E 16, E 17, E 18]))], [(Z 1, .inr (7, [.ref (Z 8), .int (nI T.length), .ref (Z 3), .ref (Z 4), .ref (Z 5), .ref (Z 6), .int (nI ((tk 0).length)), X 7, X 8, X 9, X 10, X 11, X 12]))], [(Z 8, .inl (cB, 16000, .inl B))], [(Z 3, .inl (cB, 32008, .inl (V 0)))], [(Z 4, .inl (cI, 32008, .inl (V 1)))], [(Z 5, .inl (cI, 32008, .inl (V 2)))], [(Z 6, .inl (cZ, 32008, .inl (V 3)))]]) rfl ?_
        refine jJ_eq (g2 := F0 m 34 ls [.int (iI (lk T e9)), .int (nI (10 * v9))]) (cs2 := [[(Z 0, .inr (8, [E 0, E 1, E 2, .ref (Z 1), E 4, E 5, E 6, E 7, E 8, E 9, E 10, E 11, E 12, E 13, E 14, E 15, E 16, E 17, E 18]))], [(Z 1, .inr (7, [.ref (Z 8), .int (nI T.length), .ref (Z 3), .ref (Z 4), .ref (Z 5), .ref (Z 6), .int (nI ((tk 0).length)), X 7, X 8, X 9, X 10, X 11, X 12]))], [(Z 8, .inl (cB, 16000, .inl B))], [(Z 3, .inl (cB, 32008, .inl (V 0)))], [(Z 4, .inl (cI, 32008, .inl (V 1)))], [(Z 5, .inl (cI, 32008, .inl (V 2)))], [(Z 6, .inl (cZ, 32008, .inl (V 3)))]]) rfl rfl ?_
        have hlk9_34 := lk_c T e9
        have hl256_9_34 := hB.2.2 e9
        rw [nI_iI (10 * v9)]
        refine jJ_of (fun H locs => jz_iadd hx hb dX10_numberEnd_34) ?_
        refine jJ_of (fun H locs => lv_bipush (v := (nI 48)) hx hb dX10_numberEnd_35 (by decide)) ?_
        rw [nI_iI 48]
        refine jJ_eq (g2 := F0 m 37 ls [.int (iI 48), .int (iI (((10 * v9 : Nat) : Int) + (lk T e9)))]) (cs2 := [[(Z 0, .inr (8, [E 0, E 1, E 2, .ref (Z 1), E 4, E 5, E 6, E 7, E 8, E 9, E 10, E 11, E 12, E 13, E 14, E 15, E 16, E 17, E 18]))], [(Z 1, .inr (7, [.ref (Z 8), .int (nI T.length), .ref (Z 3), .ref (Z 4), .ref (Z 5), .ref (Z 6), .int (nI ((tk 0).length)), X 7, X 8, X 9, X 10, X 11, X 12]))], [(Z 8, .inl (cB, 16000, .inl B))], [(Z 3, .inl (cB, 32008, .inl (V 0)))], [(Z 4, .inl (cI, 32008, .inl (V 1)))], [(Z 5, .inl (cI, 32008, .inl (V 2)))], [(Z 6, .inl (cZ, 32008, .inl (V 3)))]]) rfl rfl ?_
        refine jJ_of (fun H locs => jz_isub hx hb dX10_numberEnd_37) ?_
        have hcv : ((v9 * 10 + T.getD e9 0 - 48 : Nat) : Int) = (((10 * v9 : Nat) : Int) + (lk T e9)) - 48 := by omega
        refine jJ_eq (g2 := F0 m 38 ls [.int (nI (v9 * 10 + T.getD e9 0 - 48))]) (cs2 := [[(Z 0, .inr (8, [E 0, E 1, E 2, .ref (Z 1), E 4, E 5, E 6, E 7, E 8, E 9, E 10, E 11, E 12, E 13, E 14, E 15, E 16, E 17, E 18]))], [(Z 1, .inr (7, [.ref (Z 8), .int (nI T.length), .ref (Z 3), .ref (Z 4), .ref (Z 5), .ref (Z 6), .int (nI ((tk 0).length)), X 7, X 8, X 9, X 10, X 11, X 12]))], [(Z 8, .inl (cB, 16000, .inl B))], [(Z 3, .inl (cB, 32008, .inl (V 0)))], [(Z 4, .inl (cI, 32008, .inl (V 1)))], [(Z 5, .inl (cI, 32008, .inl (V 2)))], [(Z 6, .inl (cZ, 32008, .inl (V 3)))]]) (by rw [nI_iI (v9 * 10 + T.getD e9 0 - 48), hcv]) rfl ?_
        refine jJ_ofL (fun H locs => lv_istore_n (lv' := [(3, .int (nI (v9 * 10 + T.getD e9 0 - 48))), (2, .int (nI e9)), (0, .ref (Z 0)), (1, .int (nI k))]) hx hb dX10_numberEnd_38 rfl hl (by decide) rfl) (fun ls hl => ?_)
        refine jJ_ofL (fun H locs => lv_iinc (v := (nI (e9 + 1))) (lv' := [(2, .int (nI (e9 + 1))), (3, .int (nI (v9 * 10 + T.getD e9 0 - 48))), (0, .ref (Z 0)), (1, .int (nI k))]) hx hb dX10_numberEnd_39 hl (k := 1) rfl (nI_add _ _) (by decide) rfl) (fun ls hl => ?_)
        refine jJ_of (fun H locs => lv_goto (tgt := 4) hx hb dX10_numberEnd_42 (by decide)) ?_
        exact ih (e9 + 1) (v9 * 10 + T.getD e9 0 - 48) (by omega) (by omega) (by omega) (by omega) (by rw [← hcl]; show _ = (if _ then _ else _); rw [if_neg (by omega)]) ls (lv_sub hl [0, 1, 2, 3] rfl)
      · refine jJ_of (fun H locs => lv_iconst (v := (iI (-1))) hx hb dX10_numberEnd_23 (by decide)) ?_
        have hNK : nK T k = 0 := if_pos (Or.inl (by omega))
        exact jJ_iret hx hb hr hlocks dX10_numberEnd_24 (by show _ ≤ 0; omega) (by show _ ≤ 0; omega) ⟨by rw [show nR T k = -1 from if_pos hNK], ⟨V, by rw [show nTk T tk k = tk from if_pos hNK]; exact hT, by rw [show nTk T tk k = tk from if_pos hNK]; rfl⟩, rfl, rfl⟩
def oT (T : List Nat) (k : Nat) : Nat × Nat × Nat × Nat := if isDg (T.getD k 0) = true then (nK T k, k, nW T k, nE T k) else if 65 ≤ T.getD k 0 ∧ T.getD k 0 ≤ 90 then ((wTok T k).1, k, 0, (wTok T k).2) else (if isSg (T.getD k 0) = true then T.getD k 0 else 0, k, 0, k + 1)
def oR (T : List Nat) (k : Nat) : Int := if (oT T k).1 = 0 then -1 else (((oT T k).2.2.2 : Nat) : Int)
def oTk (T : List Nat) (tk : Nat → List Nat) (k : Nat) : Nat → List Nat := if (oT T k).1 = 0 then tk else tkAdd tk (oT T k).1 (oT T k).2.1 (oT T k).2.2.1
theorem oT_d {T : List Nat} {k : Nat} (h : 48 ≤ T.getD k 0 ∧ T.getD k 0 ≤ 57) : oT T k = (nK T k, k, nW T k, nE T k) := if_pos (decide_eq_true h)
theorem oT_w {T : List Nat} {k : Nat} (h : 65 ≤ T.getD k 0 ∧ T.getD k 0 ≤ 90) : oT T k = ((wTok T k).1, k, 0, (wTok T k).2) := by
  unfold oT
  rw [if_neg (show ¬ isDg (T.getD k 0) = true from fun q => by have := of_decide_eq_true q; omega), if_pos h]
theorem oT_s {T : List Nat} {k : Nat} (h1 : ¬ (48 ≤ T.getD k 0 ∧ T.getD k 0 ≤ 57)) (h2 : ¬ (65 ≤ T.getD k 0 ∧ T.getD k 0 ≤ 90)) : oT T k = (if isSg (T.getD k 0) = true then T.getD k 0 else 0, k, 0, k + 1) := by
  unfold oT
  rw [if_neg (show ¬ isDg (T.getD k 0) = true from fun q => h1 (of_decide_eq_true q)), if_neg h2]
theorem wTok_b {T : List Nat} {k : Nat} (h : T.getD k 0 < 256) (h0 : 0 < T.getD k 0) : 0 < (wTok T k).1 ∧ (wTok T k).1 < 1000 := by
  have h1 := wdS_b T k 19 (Nat.le_refl _)
  unfold wTok
  split
  · exact ⟨by show 0 < 300 + _; omega, by show 300 + (wdS T k 19).2.toNat < 1000; omega⟩
  · exact ⟨h0, by show T.getD k 0 < 1000; omega⟩
theorem iaF_t {T : List Nat} {k a : Nat} : ∀ (f j m : Nat), iaF T k a f j = true → j ≤ m → m < j + f → lk T (k + m - a) = ((jW2.getD m 0 : Nat) : Int)
  | 0, j, m, _, h1, h2 => by omega
  | f + 1, j, m, h, h1, h2 => by
    unfold iaF at h
    split at h
    · rename_i q
      rcases Nat.eq_or_lt_of_le h1 with e | e
      · subst e; exact q
      · exact iaF_t f (j + 1) m h e (by omega)
    · exact absurd h Bool.false_ne_true
theorem iAt_len {T : List Nat} {k a b : Nat} (h : iAt T k a b = true) (hab : a < b) : k + (b - a) ≤ T.length := by
  have h1 := iaF_t (b - a) a (b - 1) h (by omega) (by omega)
  rcases lk_c T (k + (b - 1) - a) with q | q
  · omega
  · rw [q.2] at h1; omega
theorem wdS_len {T : List Nat} {k : Nat} (hk : k < T.length) : ∀ n, n ≤ 19 → k + (wdS T k n).1 ≤ T.length ∧ (0 ≤ (wdS T k n).2 → 1 ≤ (wdS T k n).1)
  | 0, _ => ⟨by show k + 0 ≤ _; omega, fun h => by have h2 : (0 : Int) ≤ -1 := h; omega⟩
  | n + 1, h => by
    have h1 := wdS_len hk n (by omega)
    have h2 := wAB n (by omega)
    unfold wdS
    split
    · rename_i q
      have := iAt_len q.2 (by omega)
      exact ⟨this, fun _ => by show 1 ≤ wB.getD n 0 - wA.getD n 0; omega⟩
    · exact h1
theorem wTok_n {T : List Nat} {k : Nat} (hk : k < T.length) : k + 1 ≤ (wTok T k).2 ∧ (wTok T k).2 ≤ T.length := by
  have h1 := wdS_len hk 19 (Nat.le_refl _)
  unfold wTok
  split
  · rename_i q
    have := h1.2 q
    exact ⟨by show k + 1 ≤ k + (wdS T k 19).1; omega, h1.1⟩
  · exact ⟨Nat.le_refl _, hk⟩
theorem oT_n {T : List Nat} {k : Nat} (hk : k < T.length) : k + 1 ≤ (oT T k).2.2.2 ∧ (oT T k).2.2.2 ≤ T.length ∧ (oT T k).2.1 = k := by
  unfold oT
  split
  · rename_i q
    have h1 := pdF_pos hk q
    have h2 := nS_b (T := T) (s := k) (by omega)
    refine ⟨?_, ?_, rfl⟩
    · show k + 1 ≤ nE T k
      omega
    · show nE T k ≤ T.length
      omega
  · split
    · dsimp only
      exact ⟨(wTok_n hk).1, (wTok_n hk).2, rfl⟩
    · exact ⟨Nat.le_refl _, hk, rfl⟩
theorem oR_b {T : List Nat} {k : Nat} (hk : k < T.length) : -1 ≤ oR T k ∧ oR T k ≤ (T.length : Int) := by
  have h := oT_n hk
  unfold oR
  split
  · omega
  · omega
theorem oR_w {T : List Nat} {k : Nat} (h : 65 ≤ T.getD k 0 ∧ T.getD k 0 ≤ 90) (h9 : ¬ (wTok T k).1 = 0) : oR T k = (((wTok T k).2 : Nat) : Int) := by
  unfold oR
  rw [oT_w h]
  generalize wTok T k = x at h9
  exact if_neg h9
theorem oTk_w {T : List Nat} {tk : Nat → List Nat} {k : Nat} (h : 65 ≤ T.getD k 0 ∧ T.getD k 0 ≤ 90) (h9 : ¬ (wTok T k).1 = 0) : oTk T tk k = tkAdd tk (wTok T k).1 k 0 := by
  unfold oTk
  rw [oT_w h]
  generalize wTok T k = x at h9
  exact if_neg h9
def uTok (T : List Nat) (i : Nat) : Nat × Nat × Nat × Nat := if T.length ≤ pb T i then (10, T.length, 0, T.length + 1) else oT T (pb T i)
def cuF (T : List Nat) : Nat → (Nat → List Nat) → Nat → (Nat → List Nat) × Nat
  | 0, tk, i => (tk, i)
  | f + 1, tk, i => if (uTok T i).1 = 0 then (tkAdd tk 0 (uTok T i).2.1 0, T.length) else if (uTok T i).1 = 10 then (tkAdd tk 10 (uTok T i).2.1 0, (uTok T i).2.2.2) else cuF T f (tkAdd tk (uTok T i).1 (uTok T i).2.1 (uTok T i).2.2.1) (uTok T i).2.2.2
set_option maxHeartbeats 4000000 in
set_option maxRecDepth 100000 in
/-- one(k) -/
theorem c_Md_one {Z : Nat → Nat} {E X : Nat → Value} {B : Nat → Int32} {V : Nat → Nat → Int32} {T : List Nat} {tk : Nat → List Nat} (hB : tB T B) (hT : tV tk V) (hl9 : tL tk) (hlt : (tk 0).length < 32008) (k : Nat) (hk : k < T.length) (hc : ¬ T.getD k 0 = 10) : HM l yX10_one wsX10_one ({ frames := 6, cells := 0, slots := 0, locals := 260 } : Room) D G (jT cI cJ cB cZ) [.ref (Z 0), .int (nI k)] (jF (zW cI cB cZ Z E X B V T.length ((tk 0).length))) (fun v u k9 n9 => v = some (.int (iI (oR T k))) ∧ (∃ V2 : Nat → Nat → Int32, tV (oTk T tk k) V2 ∧ u = jF (zW cI cB cZ Z E X B V2 T.length ((oTk T tk k 0).length))) ∧ k9 = 0 ∧ n9 = 0) := by
  refine HM_of (cc := cX10_one) (maxL := 4) (ret := (some .int)) (lv := [(0, .ref (Z 0)), (1, .int (nI k))]) (by decide) rfl rfl (Nat.le_of_ble_eq_true rfl) (fun p e s m args below meth c A0 ls hx hb hr hts hown hlocks hml hnm hK hA hAm hl => ?_)
  refine jJ_open (xs := [[(Z 0, .inr (8, [E 0, E 1, E 2, .ref (Z 1), E 4, E 5, E 6, E 7, E 8, E 9, E 10, E 11, E 12, E 13, E 14, E 15, E 16, E 17, E 18]))], [(Z 1, .inr (7, [.ref (Z 8), .int (nI T.length), .ref (Z 3), .ref (Z 4), .ref (Z 5), .ref (Z 6), .int (nI ((tk 0).length)), X 7, X 8, X 9, X 10, X 11, X 12]))], [(Z 8, .inl (cB, 16000, .inl B))], [(Z 3, .inl (cB, 32008, .inl (V 0)))], [(Z 4, .inl (cI, 32008, .inl (V 1)))], [(Z 5, .inl (cI, 32008, .inl (V 2)))], [(Z 6, .inl (cZ, 32008, .inl (V 3)))]]) (r := []) (cs2 := [[(Z 0, .inr (8, [E 0, E 1, E 2, .ref (Z 1), E 4, E 5, E 6, E 7, E 8, E 9, E 10, E 11, E 12, E 13, E 14, E 15, E 16, E 17, E 18]))], [(Z 1, .inr (7, [.ref (Z 8), .int (nI T.length), .ref (Z 3), .ref (Z 4), .ref (Z 5), .ref (Z 6), .int (nI ((tk 0).length)), X 7, X 8, X 9, X 10, X 11, X 12]))], [(Z 8, .inl (cB, 16000, .inl B))], [(Z 3, .inl (cB, 32008, .inl (V 0)))], [(Z 4, .inl (cI, 32008, .inl (V 1)))], [(Z 5, .inl (cI, 32008, .inl (V 2)))], [(Z 6, .inl (cZ, 32008, .inl (V 3)))]]) rfl ?_
  have hL9 := hB.1
  have hL8 := hT.1
  refine jJ_of (fun H locs => lv_aload_n hx hb dX10_one_0 rfl (lv_at hl 0 rfl)) ?_
  refine jJ_of (fun H locs => lv_iload_n hx hb dX10_one_1 rfl (lv_at hl 1 rfl)) ?_
  refine jJ_callV (As := [.int (nI k)]) (rest := []) (wc := jF (bWd cB Z (lsV [E 0, E 1, E 2, .null, E 4, E 5, E 6, E 7, E 8, E 9, E 10, E 11, E 12, E 13, E 14, E 15, E 16, E 17, E 18]) (lsV [.null, .null, .ref (Z 3), .ref (Z 4), .ref (Z 5), .ref (Z 6), .int (nI ((tk 0).length)), X 7, X 8, X 9, X 10, X 11, X 12]) B T.length)) (cs2 := [[(Z 3, .inl (cB, 32008, .inl (V 0)))], [(Z 4, .inl (cI, 32008, .inl (V 1)))], [(Z 5, .inl (cI, 32008, .inl (V 2)))], [(Z 6, .inl (cZ, 32008, .inl (V 3)))]]) (C := RX10) (T := TX10) (N := 19) (ci := 8) [0, 1, 2] [3, 4, 5, 6] ⟨hx, hb, hml, hown, hts⟩ hK hA hAm (c_Md_look (E := lsV [E 0, E 1, E 2, .null, E 4, E 5, E 6, E 7, E 8, E 9, E 10, E 11, E 12, E 13, E 14, E 15, E 16, E 17, E 18]) (X := lsV [.null, .null, .ref (Z 3), .ref (Z 4), .ref (Z 5), .ref (Z 6), .int (nI ((tk 0).length)), X 7, X 8, X 9, X 10, X 11, X 12]) hB k (by omega)) (cwV 1 hts gX10_one_X10_look rfl rfl rfl (by decide +kernel) ⟨Nat.le_of_ble_eq_true rfl, Nat.le_of_ble_eq_true rfl⟩) (nn := 7) rfl (by decide) rfl rfl ⟨0, _, rfl⟩ rfl rfl rfl hl.1 (Nat.le_of_ble_eq_true rfl) dX10_one_2 (by show _ + 0 ≤ 0; omega) (by show _ + 0 ≤ 0; omega) (fun v u1 k1 n1 hq1 => ?_)
  obtain ⟨hv1, hw1, rfl, rfl⟩ := hq1
  subst hv1
  rw [hw1]
  refine jJ_open (xs := [[(Z 0, .inr (8, [E 0, E 1, E 2, .ref (Z 1), E 4, E 5, E 6, E 7, E 8, E 9, E 10, E 11, E 12, E 13, E 14, E 15, E 16, E 17, E 18]))], [(Z 1, .inr (7, [.ref (Z 8), .int (nI T.length), .ref (Z 3), .ref (Z 4), .ref (Z 5), .ref (Z 6), .int (nI ((tk 0).length)), X 7, X 8, X 9, X 10, X 11, X 12]))], [(Z 8, .inl (cB, 16000, .inl B))]]) (r := [[(Z 3, .inl (cB, 32008, .inl (V 0)))], [(Z 4, .inl (cI, 32008, .inl (V 1)))], [(Z 5, .inl (cI, 32008, .inl (V 2)))], [(Z 6, .inl (cZ, 32008, .inl (V 3)))]]) (cs2 := [[(Z 0, .inr (8, [E 0, E 1, E 2, .ref (Z 1), E 4, E 5, E 6, E 7, E 8, E 9, E 10, E 11, E 12, E 13, E 14, E 15, E 16, E 17, E 18]))], [(Z 1, .inr (7, [.ref (Z 8), .int (nI T.length), .ref (Z 3), .ref (Z 4), .ref (Z 5), .ref (Z 6), .int (nI ((tk 0).length)), X 7, X 8, X 9, X 10, X 11, X 12]))], [(Z 8, .inl (cB, 16000, .inl B))], [(Z 3, .inl (cB, 32008, .inl (V 0)))], [(Z 4, .inl (cI, 32008, .inl (V 1)))], [(Z 5, .inl (cI, 32008, .inl (V 2)))], [(Z 6, .inl (cZ, 32008, .inl (V 3)))]]) rfl ?_
  refine jJ_eq (g2 := F0 m 5 ls [.int (iI (lk T k))]) (cs2 := [[(Z 0, .inr (8, [E 0, E 1, E 2, .ref (Z 1), E 4, E 5, E 6, E 7, E 8, E 9, E 10, E 11, E 12, E 13, E 14, E 15, E 16, E 17, E 18]))], [(Z 1, .inr (7, [.ref (Z 8), .int (nI T.length), .ref (Z 3), .ref (Z 4), .ref (Z 5), .ref (Z 6), .int (nI ((tk 0).length)), X 7, X 8, X 9, X 10, X 11, X 12]))], [(Z 8, .inl (cB, 16000, .inl B))], [(Z 3, .inl (cB, 32008, .inl (V 0)))], [(Z 4, .inl (cI, 32008, .inl (V 1)))], [(Z 5, .inl (cI, 32008, .inl (V 2)))], [(Z 6, .inl (cZ, 32008, .inl (V 3)))]]) rfl rfl ?_
  have hlk1_5 := lk_c T k
  have hl256_1_5 := hB.2.2 k
  refine jJ_ofL (fun H locs => lv_istore_n (lv' := [(2, .int (iI (lk T k))), (0, .ref (Z 0)), (1, .int (nI k))]) hx hb dX10_one_5 rfl hl (by decide) rfl) (fun ls hl => ?_)
  refine jJ_of (fun H locs => lv_iload_n hx hb dX10_one_6 rfl (lv_at hl 0 rfl)) ?_
  refine jJ_callS (As := [.int (iI (lk T k))]) (rest := []) (wc := _) (cs2 := [[(Z 0, .inr (8, [E 0, E 1, E 2, .ref (Z 1), E 4, E 5, E 6, E 7, E 8, E 9, E 10, E 11, E 12, E 13, E 14, E 15, E 16, E 17, E 18]))], [(Z 1, .inr (7, [.ref (Z 8), .int (nI T.length), .ref (Z 3), .ref (Z 4), .ref (Z 5), .ref (Z 6), .int (nI ((tk 0).length)), X 7, X 8, X 9, X 10, X 11, X 12]))], [(Z 8, .inl (cB, 16000, .inl B))], [(Z 3, .inl (cB, 32008, .inl (V 0)))], [(Z 4, .inl (cI, 32008, .inl (V 1)))], [(Z 5, .inl (cI, 32008, .inl (V 2)))], [(Z 6, .inl (cZ, 32008, .inl (V 3)))]]) [] [0, 1, 2, 3, 4, 5, 6] ⟨hx, hb, hml, hown, hts⟩ hK hA hAm (c_Md_isDigit (lk T k) (by omega) (by omega)) (va_cwS 1 hts gX10_one_X10_isDigit rfl rfl rfl (by decide +kernel) ⟨Nat.le_of_ble_eq_true rfl, Nat.le_of_ble_eq_true rfl⟩) (nn := 7) rfl (by decide) rfl rfl rfl rfl hl.1 (Nat.le_of_ble_eq_true rfl) dX10_one_7 (by show _ + 0 ≤ 0; omega) (by show _ + 0 ≤ 0; omega) (fun v u2 k2 n2 hq2 => ?_)
  obtain ⟨rfl, rfl, rfl, rfl⟩ := hq2
  refine jJ_eq (g2 := F0 m 10 ls [.int (bI (decide (48 ≤ lk T k ∧ lk T k ≤ 57)))]) (cs2 := [([] : va_W), [(Z 0, .inr (8, [E 0, E 1, E 2, .ref (Z 1), E 4, E 5, E 6, E 7, E 8, E 9, E 10, E 11, E 12, E 13, E 14, E 15, E 16, E 17, E 18]))], [(Z 1, .inr (7, [.ref (Z 8), .int (nI T.length), .ref (Z 3), .ref (Z 4), .ref (Z 5), .ref (Z 6), .int (nI ((tk 0).length)), X 7, X 8, X 9, X 10, X 11, X 12]))], [(Z 8, .inl (cB, 16000, .inl B))], [(Z 3, .inl (cB, 32008, .inl (V 0)))], [(Z 4, .inl (cI, 32008, .inl (V 1)))], [(Z 5, .inl (cI, 32008, .inl (V 2)))], [(Z 6, .inl (cZ, 32008, .inl (V 3)))]]) rfl rfl ?_
  refine jJ_flat (cs2 := [[(Z 0, .inr (8, [E 0, E 1, E 2, .ref (Z 1), E 4, E 5, E 6, E 7, E 8, E 9, E 10, E 11, E 12, E 13, E 14, E 15, E 16, E 17, E 18]))], [(Z 1, .inr (7, [.ref (Z 8), .int (nI T.length), .ref (Z 3), .ref (Z 4), .ref (Z 5), .ref (Z 6), .int (nI ((tk 0).length)), X 7, X 8, X 9, X 10, X 11, X 12]))], [(Z 8, .inl (cB, 16000, .inl B))], [(Z 3, .inl (cB, 32008, .inl (V 0)))], [(Z 4, .inl (cI, 32008, .inl (V 1)))], [(Z 5, .inl (cI, 32008, .inl (V 2)))], [(Z 6, .inl (cZ, 32008, .inl (V 3)))]]) rfl ?_
  refine jJ_of2 (fun H locs => jb_if_eq (tgt := 19) hx hb dX10_one_10 (by decide)) (fun c10 => ?_) (fun c10 => ?_)
  · simp only [decide_eq_true_eq, decide_eq_false_iff_not] at c10
    refine jJ_of (fun H locs => lv_iload_n hx hb dX10_one_19 rfl (lv_at hl 0 rfl)) ?_
    refine jJ_callS (As := [.int (iI (lk T k))]) (rest := []) (wc := _) (cs2 := [[(Z 0, .inr (8, [E 0, E 1, E 2, .ref (Z 1), E 4, E 5, E 6, E 7, E 8, E 9, E 10, E 11, E 12, E 13, E 14, E 15, E 16, E 17, E 18]))], [(Z 1, .inr (7, [.ref (Z 8), .int (nI T.length), .ref (Z 3), .ref (Z 4), .ref (Z 5), .ref (Z 6), .int (nI ((tk 0).length)), X 7, X 8, X 9, X 10, X 11, X 12]))], [(Z 8, .inl (cB, 16000, .inl B))], [(Z 3, .inl (cB, 32008, .inl (V 0)))], [(Z 4, .inl (cI, 32008, .inl (V 1)))], [(Z 5, .inl (cI, 32008, .inl (V 2)))], [(Z 6, .inl (cZ, 32008, .inl (V 3)))]]) [] [0, 1, 2, 3, 4, 5, 6] ⟨hx, hb, hml, hown, hts⟩ hK hA hAm (c_Md_isCapital (lk T k) (by omega) (by omega)) (va_cwS 1 hts gX10_one_X10_isCapital rfl rfl rfl (by decide +kernel) ⟨Nat.le_of_ble_eq_true rfl, Nat.le_of_ble_eq_true rfl⟩) (nn := 7) rfl (by decide) rfl rfl rfl rfl hl.1 (Nat.le_of_ble_eq_true rfl) dX10_one_20 (by show _ + 0 ≤ 0; omega) (by show _ + 0 ≤ 0; omega) (fun v u3 k3 n3 hq3 => ?_)
    obtain ⟨rfl, rfl, rfl, rfl⟩ := hq3
    refine jJ_eq (g2 := F0 m 23 ls [.int (bI (decide (65 ≤ lk T k ∧ lk T k ≤ 90)))]) (cs2 := [([] : va_W), [(Z 0, .inr (8, [E 0, E 1, E 2, .ref (Z 1), E 4, E 5, E 6, E 7, E 8, E 9, E 10, E 11, E 12, E 13, E 14, E 15, E 16, E 17, E 18]))], [(Z 1, .inr (7, [.ref (Z 8), .int (nI T.length), .ref (Z 3), .ref (Z 4), .ref (Z 5), .ref (Z 6), .int (nI ((tk 0).length)), X 7, X 8, X 9, X 10, X 11, X 12]))], [(Z 8, .inl (cB, 16000, .inl B))], [(Z 3, .inl (cB, 32008, .inl (V 0)))], [(Z 4, .inl (cI, 32008, .inl (V 1)))], [(Z 5, .inl (cI, 32008, .inl (V 2)))], [(Z 6, .inl (cZ, 32008, .inl (V 3)))]]) rfl rfl ?_
    refine jJ_flat (cs2 := [[(Z 0, .inr (8, [E 0, E 1, E 2, .ref (Z 1), E 4, E 5, E 6, E 7, E 8, E 9, E 10, E 11, E 12, E 13, E 14, E 15, E 16, E 17, E 18]))], [(Z 1, .inr (7, [.ref (Z 8), .int (nI T.length), .ref (Z 3), .ref (Z 4), .ref (Z 5), .ref (Z 6), .int (nI ((tk 0).length)), X 7, X 8, X 9, X 10, X 11, X 12]))], [(Z 8, .inl (cB, 16000, .inl B))], [(Z 3, .inl (cB, 32008, .inl (V 0)))], [(Z 4, .inl (cI, 32008, .inl (V 1)))], [(Z 5, .inl (cI, 32008, .inl (V 2)))], [(Z 6, .inl (cZ, 32008, .inl (V 3)))]]) rfl ?_
    refine jJ_of2 (fun H locs => jb_if_eq (tgt := 32) hx hb dX10_one_23 (by decide)) (fun c23 => ?_) (fun c23 => ?_)
    · simp only [decide_eq_true_eq, decide_eq_false_iff_not] at c23
      refine jJ_of (fun H locs => lv_iload_n hx hb dX10_one_32 rfl (lv_at hl 0 rfl)) ?_
      refine jJ_of (fun H locs => lv_bipush (v := (nI 35)) hx hb dX10_one_33 (by decide)) ?_
      rw [nI_iI 35]
      refine jJ_eq (g2 := F0 m 35 ls [.int (iI 35), .int (iI (lk T k))]) (cs2 := [[(Z 0, .inr (8, [E 0, E 1, E 2, .ref (Z 1), E 4, E 5, E 6, E 7, E 8, E 9, E 10, E 11, E 12, E 13, E 14, E 15, E 16, E 17, E 18]))], [(Z 1, .inr (7, [.ref (Z 8), .int (nI T.length), .ref (Z 3), .ref (Z 4), .ref (Z 5), .ref (Z 6), .int (nI ((tk 0).length)), X 7, X 8, X 9, X 10, X 11, X 12]))], [(Z 8, .inl (cB, 16000, .inl B))], [(Z 3, .inl (cB, 32008, .inl (V 0)))], [(Z 4, .inl (cI, 32008, .inl (V 1)))], [(Z 5, .inl (cI, 32008, .inl (V 2)))], [(Z 6, .inl (cZ, 32008, .inl (V 3)))]]) rfl rfl ?_
      refine jJ_of2 (fun H locs => jz_icmp_eq (tgt := 80) hx hb dX10_one_35 (by decide) (by omega) (by omega) (by omega) (by omega)) (fun c35 => ?_) (fun c35 => ?_)
      · refine jJ_of (fun H locs => lv_iconst (v := (nI 1)) hx hb dX10_one_80 (by decide)) ?_
        refine jJ_of (fun H locs => lv_goto (tgt := 85) hx hb dX10_one_81 (by decide)) ?_
        refine jJ_ofL (fun H locs => lv_istore_n (lv' := [(3, .int (nI 1)), (2, .int (iI (lk T k))), (0, .ref (Z 0)), (1, .int (nI k))]) hx hb dX10_one_85 rfl hl (by decide) rfl) (fun ls hl => ?_)
        refine jJ_of (fun H locs => lv_iload_n hx hb dX10_one_86 rfl (lv_at hl 0 rfl)) ?_
        refine jJ_of2 (fun H locs => jn_if_ne (tgt := 92) hx hb dX10_one_87 (by decide) (by omega)) (fun c87 => ?_) (fun c87 => ?_)
        · refine jJ_of (fun H locs => lv_aload_n hx hb dX10_one_92 rfl (lv_at hl 2 rfl)) ?_
          refine jJ_of (fun H locs => lv_iconst (v := (nI 4)) hx hb dX10_one_93 (by decide)) ?_
          refine jJ_of (fun H locs => lv_iload_n hx hb dX10_one_94 rfl (lv_at hl 3 rfl)) ?_
          refine jJ_of (fun H locs => lv_iload_n hx hb dX10_one_95 rfl (lv_at hl 1 rfl)) ?_
          refine jJ_of (fun H locs => lv_iconst (v := (nI 0)) hx hb dX10_one_96 (by decide)) ?_
          have hsg : T.getD k 0 = 35 ∨ T.getD k 0 = 61 ∨ T.getD k 0 = 91 ∨ T.getD k 0 = 93 ∨ T.getD k 0 = 43 ∨ T.getD k 0 = 45 ∨ T.getD k 0 = 42 ∨ T.getD k 0 = 47 := by omega
          have hk9 : kC (T.getD k 0) = 4 := by unfold kC; (repeat' split) <;> omega
          have hw9 : kW (T.getD k 0) 0 = T.getD k 0 := by unfold kW; (repeat' split) <;> omega
          have hd9 : decide (T.getD k 0 = 256) = false := decide_eq_false (by omega)
          have hi9 : iI (lk T k) = nI (T.getD k 0) := by rw [nI_iI]; congr 1; omega
          refine jJ_eq (g2 := F0 m 97 ls [.int (bI (decide (T.getD k 0 = 256))), .int (nI (kW (T.getD k 0) 0)), .int (nI k), .int (nI (kC (T.getD k 0))), .ref (Z 0)]) (cs2 := [[(Z 0, .inr (8, [E 0, E 1, E 2, .ref (Z 1), E 4, E 5, E 6, E 7, E 8, E 9, E 10, E 11, E 12, E 13, E 14, E 15, E 16, E 17, E 18]))], [(Z 1, .inr (7, [.ref (Z 8), .int (nI T.length), .ref (Z 3), .ref (Z 4), .ref (Z 5), .ref (Z 6), .int (nI ((tk 0).length)), X 7, X 8, X 9, X 10, X 11, X 12]))], [(Z 8, .inl (cB, 16000, .inl B))], [(Z 3, .inl (cB, 32008, .inl (V 0)))], [(Z 4, .inl (cI, 32008, .inl (V 1)))], [(Z 5, .inl (cI, 32008, .inl (V 2)))], [(Z 6, .inl (cZ, 32008, .inl (V 3)))]]) (by rw [hk9, hw9, hd9, ← hi9]; rfl) rfl ?_
          refine jJ_callV (As := [.int (nI (kC (T.getD k 0))), .int (nI k), .int (nI (kW (T.getD k 0) 0)), .int (bI (decide (T.getD k 0 = 256)))]) (rest := []) (wc := jF (tWd cI cB cZ Z (lsV [E 0, E 1, E 2, .null, E 4, E 5, E 6, E 7, E 8, E 9, E 10, E 11, E 12, E 13, E 14, E 15, E 16, E 17, E 18]) (lsV [.ref (Z 8), .int (nI T.length), .null, .null, .null, .null, .null, X 7, X 8, X 9, X 10, X 11, X 12]) V ((tk 0).length))) (cs2 := [[(Z 8, .inl (cB, 16000, .inl B))]]) (C := RX10) (T := TX10) (N := 19) (ci := 8) [0, 1, 3, 4, 5, 6] [2] ⟨hx, hb, hml, hown, hts⟩ hK hA hAm (c_Md_token (E := lsV [E 0, E 1, E 2, .null, E 4, E 5, E 6, E 7, E 8, E 9, E 10, E 11, E 12, E 13, E 14, E 15, E 16, E 17, E 18]) (X := lsV [.ref (Z 8), .int (nI T.length), .null, .null, .null, .null, .null, X 7, X 8, X 9, X 10, X 11, X 12]) hT hl9 (by omega) (T.getD k 0) k 0 (by omega) (by omega) (by omega)) (cwV 4 hts gX10_one_X10_token rfl rfl rfl (by decide +kernel) ⟨Nat.le_of_ble_eq_true rfl, Nat.le_of_ble_eq_true rfl⟩) (nn := 7) rfl (by decide) rfl rfl ⟨0, _, rfl⟩ rfl rfl rfl hl.1 (Nat.le_of_ble_eq_true rfl) dX10_one_97 (by show _ + 0 ≤ 0; omega) (by show _ + 0 ≤ 0; omega) (fun v u4 k4 n4 hq4 => ?_)
          obtain ⟨rfl, V4, hT4, hw4, rfl, rfl⟩ := hq4
          rw [hw4]
          refine jJ_open (xs := [[(Z 0, .inr (8, [E 0, E 1, E 2, .ref (Z 1), E 4, E 5, E 6, E 7, E 8, E 9, E 10, E 11, E 12, E 13, E 14, E 15, E 16, E 17, E 18]))], [(Z 1, .inr (7, [.ref (Z 8), .int (nI T.length), .ref (Z 3), .ref (Z 4), .ref (Z 5), .ref (Z 6), .int (nI ((tk 0).length + 1)), X 7, X 8, X 9, X 10, X 11, X 12]))], [(Z 3, .inl (cB, 32008, .inl (V4 0)))], [(Z 4, .inl (cI, 32008, .inl (V4 1)))], [(Z 5, .inl (cI, 32008, .inl (V4 2)))], [(Z 6, .inl (cZ, 32008, .inl (V4 3)))]]) (r := [[(Z 8, .inl (cB, 16000, .inl B))]]) (cs2 := [[(Z 0, .inr (8, [E 0, E 1, E 2, .ref (Z 1), E 4, E 5, E 6, E 7, E 8, E 9, E 10, E 11, E 12, E 13, E 14, E 15, E 16, E 17, E 18]))], [(Z 1, .inr (7, [.ref (Z 8), .int (nI T.length), .ref (Z 3), .ref (Z 4), .ref (Z 5), .ref (Z 6), .int (nI ((tk 0).length + 1)), X 7, X 8, X 9, X 10, X 11, X 12]))], [(Z 3, .inl (cB, 32008, .inl (V4 0)))], [(Z 4, .inl (cI, 32008, .inl (V4 1)))], [(Z 5, .inl (cI, 32008, .inl (V4 2)))], [(Z 6, .inl (cZ, 32008, .inl (V4 3)))], [(Z 8, .inl (cB, 16000, .inl B))]]) rfl ?_
          refine jJ_eq (g2 := F0 m 100 ls []) (cs2 := [[(Z 0, .inr (8, [E 0, E 1, E 2, .ref (Z 1), E 4, E 5, E 6, E 7, E 8, E 9, E 10, E 11, E 12, E 13, E 14, E 15, E 16, E 17, E 18]))], [(Z 1, .inr (7, [.ref (Z 8), .int (nI T.length), .ref (Z 3), .ref (Z 4), .ref (Z 5), .ref (Z 6), .int (nI ((tk 0).length + 1)), X 7, X 8, X 9, X 10, X 11, X 12]))], [(Z 3, .inl (cB, 32008, .inl (V4 0)))], [(Z 4, .inl (cI, 32008, .inl (V4 1)))], [(Z 5, .inl (cI, 32008, .inl (V4 2)))], [(Z 6, .inl (cZ, 32008, .inl (V4 3)))], [(Z 8, .inl (cB, 16000, .inl B))]]) rfl rfl ?_
          refine jJ_of (fun H locs => lv_iload_n hx hb dX10_one_100 rfl (lv_at hl 3 rfl)) ?_
          refine jJ_of (fun H locs => lv_iconst (v := (nI 1)) hx hb dX10_one_101 (by decide)) ?_
          refine jJ_of (fun H locs => jn_iadd hx hb dX10_one_102) ?_
          refine jJ_perm [0, 1, 6, 2, 3, 4, 5] (nn := 7) rfl (by decide) (cs2 := [[(Z 0, .inr (8, [E 0, E 1, E 2, .ref (Z 1), E 4, E 5, E 6, E 7, E 8, E 9, E 10, E 11, E 12, E 13, E 14, E 15, E 16, E 17, E 18]))], [(Z 1, .inr (7, [.ref (Z 8), .int (nI T.length), .ref (Z 3), .ref (Z 4), .ref (Z 5), .ref (Z 6), .int (nI ((tk 0).length + 1)), X 7, X 8, X 9, X 10, X 11, X 12]))], [(Z 8, .inl (cB, 16000, .inl B))], [(Z 3, .inl (cB, 32008, .inl (V4 0)))], [(Z 4, .inl (cI, 32008, .inl (V4 1)))], [(Z 5, .inl (cI, 32008, .inl (V4 2)))], [(Z 6, .inl (cZ, 32008, .inl (V4 3)))]]) rfl ?_
          have hsg2 : isSg (T.getD k 0) = true := decide_eq_true (by omega)
          have hO : oT T k = (T.getD k 0, k, 0, k + 1) := by rw [oT_s (by omega) (by omega), if_pos hsg2]
          have hR : oR T k = ((k + 1 : Nat) : Int) := by unfold oR; rw [hO]; exact if_neg (by show ¬ T.getD k 0 = 0; omega)
          have hTk : oTk T tk k = tkAdd tk (T.getD k 0) k 0 := by unfold oTk; rw [hO]; exact if_neg (by show ¬ T.getD k 0 = 0; omega)
          exact jJ_iret hx hb hr hlocks dX10_one_103 (by show _ ≤ 0; omega) (by show _ ≤ 0; omega) ⟨by rw [hR, ← nI_iI], ⟨V4, by rw [hTk]; exact hT4, by rw [hTk, tkAdd_l]; rfl⟩, rfl, rfl⟩
        · exfalso; omega
      · refine jJ_of (fun H locs => lv_iload_n hx hb dX10_one_38 rfl (lv_at hl 0 rfl)) ?_
        refine jJ_of (fun H locs => lv_bipush (v := (nI 61)) hx hb dX10_one_39 (by decide)) ?_
        rw [nI_iI 61]
        refine jJ_eq (g2 := F0 m 41 ls [.int (iI 61), .int (iI (lk T k))]) (cs2 := [[(Z 0, .inr (8, [E 0, E 1, E 2, .ref (Z 1), E 4, E 5, E 6, E 7, E 8, E 9, E 10, E 11, E 12, E 13, E 14, E 15, E 16, E 17, E 18]))], [(Z 1, .inr (7, [.ref (Z 8), .int (nI T.length), .ref (Z 3), .ref (Z 4), .ref (Z 5), .ref (Z 6), .int (nI ((tk 0).length)), X 7, X 8, X 9, X 10, X 11, X 12]))], [(Z 8, .inl (cB, 16000, .inl B))], [(Z 3, .inl (cB, 32008, .inl (V 0)))], [(Z 4, .inl (cI, 32008, .inl (V 1)))], [(Z 5, .inl (cI, 32008, .inl (V 2)))], [(Z 6, .inl (cZ, 32008, .inl (V 3)))]]) rfl rfl ?_
        refine jJ_of2 (fun H locs => jz_icmp_eq (tgt := 80) hx hb dX10_one_41 (by decide) (by omega) (by omega) (by omega) (by omega)) (fun c41 => ?_) (fun c41 => ?_)
        · refine jJ_of (fun H locs => lv_iconst (v := (nI 1)) hx hb dX10_one_80 (by decide)) ?_
          refine jJ_of (fun H locs => lv_goto (tgt := 85) hx hb dX10_one_81 (by decide)) ?_
          refine jJ_ofL (fun H locs => lv_istore_n (lv' := [(3, .int (nI 1)), (2, .int (iI (lk T k))), (0, .ref (Z 0)), (1, .int (nI k))]) hx hb dX10_one_85 rfl hl (by decide) rfl) (fun ls hl => ?_)
          refine jJ_of (fun H locs => lv_iload_n hx hb dX10_one_86 rfl (lv_at hl 0 rfl)) ?_
          refine jJ_of2 (fun H locs => jn_if_ne (tgt := 92) hx hb dX10_one_87 (by decide) (by omega)) (fun c87 => ?_) (fun c87 => ?_)
          · refine jJ_of (fun H locs => lv_aload_n hx hb dX10_one_92 rfl (lv_at hl 2 rfl)) ?_
            refine jJ_of (fun H locs => lv_iconst (v := (nI 4)) hx hb dX10_one_93 (by decide)) ?_
            refine jJ_of (fun H locs => lv_iload_n hx hb dX10_one_94 rfl (lv_at hl 3 rfl)) ?_
            refine jJ_of (fun H locs => lv_iload_n hx hb dX10_one_95 rfl (lv_at hl 1 rfl)) ?_
            refine jJ_of (fun H locs => lv_iconst (v := (nI 0)) hx hb dX10_one_96 (by decide)) ?_
            have hsg : T.getD k 0 = 35 ∨ T.getD k 0 = 61 ∨ T.getD k 0 = 91 ∨ T.getD k 0 = 93 ∨ T.getD k 0 = 43 ∨ T.getD k 0 = 45 ∨ T.getD k 0 = 42 ∨ T.getD k 0 = 47 := by omega
            have hk9 : kC (T.getD k 0) = 4 := by unfold kC; (repeat' split) <;> omega
            have hw9 : kW (T.getD k 0) 0 = T.getD k 0 := by unfold kW; (repeat' split) <;> omega
            have hd9 : decide (T.getD k 0 = 256) = false := decide_eq_false (by omega)
            have hi9 : iI (lk T k) = nI (T.getD k 0) := by rw [nI_iI]; congr 1; omega
            refine jJ_eq (g2 := F0 m 97 ls [.int (bI (decide (T.getD k 0 = 256))), .int (nI (kW (T.getD k 0) 0)), .int (nI k), .int (nI (kC (T.getD k 0))), .ref (Z 0)]) (cs2 := [[(Z 0, .inr (8, [E 0, E 1, E 2, .ref (Z 1), E 4, E 5, E 6, E 7, E 8, E 9, E 10, E 11, E 12, E 13, E 14, E 15, E 16, E 17, E 18]))], [(Z 1, .inr (7, [.ref (Z 8), .int (nI T.length), .ref (Z 3), .ref (Z 4), .ref (Z 5), .ref (Z 6), .int (nI ((tk 0).length)), X 7, X 8, X 9, X 10, X 11, X 12]))], [(Z 8, .inl (cB, 16000, .inl B))], [(Z 3, .inl (cB, 32008, .inl (V 0)))], [(Z 4, .inl (cI, 32008, .inl (V 1)))], [(Z 5, .inl (cI, 32008, .inl (V 2)))], [(Z 6, .inl (cZ, 32008, .inl (V 3)))]]) (by rw [hk9, hw9, hd9, ← hi9]; rfl) rfl ?_
            refine jJ_callV (As := [.int (nI (kC (T.getD k 0))), .int (nI k), .int (nI (kW (T.getD k 0) 0)), .int (bI (decide (T.getD k 0 = 256)))]) (rest := []) (wc := jF (tWd cI cB cZ Z (lsV [E 0, E 1, E 2, .null, E 4, E 5, E 6, E 7, E 8, E 9, E 10, E 11, E 12, E 13, E 14, E 15, E 16, E 17, E 18]) (lsV [.ref (Z 8), .int (nI T.length), .null, .null, .null, .null, .null, X 7, X 8, X 9, X 10, X 11, X 12]) V ((tk 0).length))) (cs2 := [[(Z 8, .inl (cB, 16000, .inl B))]]) (C := RX10) (T := TX10) (N := 19) (ci := 8) [0, 1, 3, 4, 5, 6] [2] ⟨hx, hb, hml, hown, hts⟩ hK hA hAm (c_Md_token (E := lsV [E 0, E 1, E 2, .null, E 4, E 5, E 6, E 7, E 8, E 9, E 10, E 11, E 12, E 13, E 14, E 15, E 16, E 17, E 18]) (X := lsV [.ref (Z 8), .int (nI T.length), .null, .null, .null, .null, .null, X 7, X 8, X 9, X 10, X 11, X 12]) hT hl9 (by omega) (T.getD k 0) k 0 (by omega) (by omega) (by omega)) (cwV 4 hts gX10_one_X10_token rfl rfl rfl (by decide +kernel) ⟨Nat.le_of_ble_eq_true rfl, Nat.le_of_ble_eq_true rfl⟩) (nn := 7) rfl (by decide) rfl rfl ⟨0, _, rfl⟩ rfl rfl rfl hl.1 (Nat.le_of_ble_eq_true rfl) dX10_one_97 (by show _ + 0 ≤ 0; omega) (by show _ + 0 ≤ 0; omega) (fun v u5 k5 n5 hq5 => ?_)
            obtain ⟨rfl, V5, hT5, hw5, rfl, rfl⟩ := hq5
            rw [hw5]
            refine jJ_open (xs := [[(Z 0, .inr (8, [E 0, E 1, E 2, .ref (Z 1), E 4, E 5, E 6, E 7, E 8, E 9, E 10, E 11, E 12, E 13, E 14, E 15, E 16, E 17, E 18]))], [(Z 1, .inr (7, [.ref (Z 8), .int (nI T.length), .ref (Z 3), .ref (Z 4), .ref (Z 5), .ref (Z 6), .int (nI ((tk 0).length + 1)), X 7, X 8, X 9, X 10, X 11, X 12]))], [(Z 3, .inl (cB, 32008, .inl (V5 0)))], [(Z 4, .inl (cI, 32008, .inl (V5 1)))], [(Z 5, .inl (cI, 32008, .inl (V5 2)))], [(Z 6, .inl (cZ, 32008, .inl (V5 3)))]]) (r := [[(Z 8, .inl (cB, 16000, .inl B))]]) (cs2 := [[(Z 0, .inr (8, [E 0, E 1, E 2, .ref (Z 1), E 4, E 5, E 6, E 7, E 8, E 9, E 10, E 11, E 12, E 13, E 14, E 15, E 16, E 17, E 18]))], [(Z 1, .inr (7, [.ref (Z 8), .int (nI T.length), .ref (Z 3), .ref (Z 4), .ref (Z 5), .ref (Z 6), .int (nI ((tk 0).length + 1)), X 7, X 8, X 9, X 10, X 11, X 12]))], [(Z 3, .inl (cB, 32008, .inl (V5 0)))], [(Z 4, .inl (cI, 32008, .inl (V5 1)))], [(Z 5, .inl (cI, 32008, .inl (V5 2)))], [(Z 6, .inl (cZ, 32008, .inl (V5 3)))], [(Z 8, .inl (cB, 16000, .inl B))]]) rfl ?_
            refine jJ_eq (g2 := F0 m 100 ls []) (cs2 := [[(Z 0, .inr (8, [E 0, E 1, E 2, .ref (Z 1), E 4, E 5, E 6, E 7, E 8, E 9, E 10, E 11, E 12, E 13, E 14, E 15, E 16, E 17, E 18]))], [(Z 1, .inr (7, [.ref (Z 8), .int (nI T.length), .ref (Z 3), .ref (Z 4), .ref (Z 5), .ref (Z 6), .int (nI ((tk 0).length + 1)), X 7, X 8, X 9, X 10, X 11, X 12]))], [(Z 3, .inl (cB, 32008, .inl (V5 0)))], [(Z 4, .inl (cI, 32008, .inl (V5 1)))], [(Z 5, .inl (cI, 32008, .inl (V5 2)))], [(Z 6, .inl (cZ, 32008, .inl (V5 3)))], [(Z 8, .inl (cB, 16000, .inl B))]]) rfl rfl ?_
            refine jJ_of (fun H locs => lv_iload_n hx hb dX10_one_100 rfl (lv_at hl 3 rfl)) ?_
            refine jJ_of (fun H locs => lv_iconst (v := (nI 1)) hx hb dX10_one_101 (by decide)) ?_
            refine jJ_of (fun H locs => jn_iadd hx hb dX10_one_102) ?_
            refine jJ_perm [0, 1, 6, 2, 3, 4, 5] (nn := 7) rfl (by decide) (cs2 := [[(Z 0, .inr (8, [E 0, E 1, E 2, .ref (Z 1), E 4, E 5, E 6, E 7, E 8, E 9, E 10, E 11, E 12, E 13, E 14, E 15, E 16, E 17, E 18]))], [(Z 1, .inr (7, [.ref (Z 8), .int (nI T.length), .ref (Z 3), .ref (Z 4), .ref (Z 5), .ref (Z 6), .int (nI ((tk 0).length + 1)), X 7, X 8, X 9, X 10, X 11, X 12]))], [(Z 8, .inl (cB, 16000, .inl B))], [(Z 3, .inl (cB, 32008, .inl (V5 0)))], [(Z 4, .inl (cI, 32008, .inl (V5 1)))], [(Z 5, .inl (cI, 32008, .inl (V5 2)))], [(Z 6, .inl (cZ, 32008, .inl (V5 3)))]]) rfl ?_
            have hsg2 : isSg (T.getD k 0) = true := decide_eq_true (by omega)
            have hO : oT T k = (T.getD k 0, k, 0, k + 1) := by rw [oT_s (by omega) (by omega), if_pos hsg2]
            have hR : oR T k = ((k + 1 : Nat) : Int) := by unfold oR; rw [hO]; exact if_neg (by show ¬ T.getD k 0 = 0; omega)
            have hTk : oTk T tk k = tkAdd tk (T.getD k 0) k 0 := by unfold oTk; rw [hO]; exact if_neg (by show ¬ T.getD k 0 = 0; omega)
            exact jJ_iret hx hb hr hlocks dX10_one_103 (by show _ ≤ 0; omega) (by show _ ≤ 0; omega) ⟨by rw [hR, ← nI_iI], ⟨V5, by rw [hTk]; exact hT5, by rw [hTk, tkAdd_l]; rfl⟩, rfl, rfl⟩
          · exfalso; omega
        · refine jJ_of (fun H locs => lv_iload_n hx hb dX10_one_44 rfl (lv_at hl 0 rfl)) ?_
          refine jJ_of (fun H locs => lv_bipush (v := (nI 91)) hx hb dX10_one_45 (by decide)) ?_
          rw [nI_iI 91]
          refine jJ_eq (g2 := F0 m 47 ls [.int (iI 91), .int (iI (lk T k))]) (cs2 := [[(Z 0, .inr (8, [E 0, E 1, E 2, .ref (Z 1), E 4, E 5, E 6, E 7, E 8, E 9, E 10, E 11, E 12, E 13, E 14, E 15, E 16, E 17, E 18]))], [(Z 1, .inr (7, [.ref (Z 8), .int (nI T.length), .ref (Z 3), .ref (Z 4), .ref (Z 5), .ref (Z 6), .int (nI ((tk 0).length)), X 7, X 8, X 9, X 10, X 11, X 12]))], [(Z 8, .inl (cB, 16000, .inl B))], [(Z 3, .inl (cB, 32008, .inl (V 0)))], [(Z 4, .inl (cI, 32008, .inl (V 1)))], [(Z 5, .inl (cI, 32008, .inl (V 2)))], [(Z 6, .inl (cZ, 32008, .inl (V 3)))]]) rfl rfl ?_
          refine jJ_of2 (fun H locs => jz_icmp_eq (tgt := 80) hx hb dX10_one_47 (by decide) (by omega) (by omega) (by omega) (by omega)) (fun c47 => ?_) (fun c47 => ?_)
          · refine jJ_of (fun H locs => lv_iconst (v := (nI 1)) hx hb dX10_one_80 (by decide)) ?_
            refine jJ_of (fun H locs => lv_goto (tgt := 85) hx hb dX10_one_81 (by decide)) ?_
            refine jJ_ofL (fun H locs => lv_istore_n (lv' := [(3, .int (nI 1)), (2, .int (iI (lk T k))), (0, .ref (Z 0)), (1, .int (nI k))]) hx hb dX10_one_85 rfl hl (by decide) rfl) (fun ls hl => ?_)
            refine jJ_of (fun H locs => lv_iload_n hx hb dX10_one_86 rfl (lv_at hl 0 rfl)) ?_
            refine jJ_of2 (fun H locs => jn_if_ne (tgt := 92) hx hb dX10_one_87 (by decide) (by omega)) (fun c87 => ?_) (fun c87 => ?_)
            · refine jJ_of (fun H locs => lv_aload_n hx hb dX10_one_92 rfl (lv_at hl 2 rfl)) ?_
              refine jJ_of (fun H locs => lv_iconst (v := (nI 4)) hx hb dX10_one_93 (by decide)) ?_
              refine jJ_of (fun H locs => lv_iload_n hx hb dX10_one_94 rfl (lv_at hl 3 rfl)) ?_
              refine jJ_of (fun H locs => lv_iload_n hx hb dX10_one_95 rfl (lv_at hl 1 rfl)) ?_
              refine jJ_of (fun H locs => lv_iconst (v := (nI 0)) hx hb dX10_one_96 (by decide)) ?_
              have hsg : T.getD k 0 = 35 ∨ T.getD k 0 = 61 ∨ T.getD k 0 = 91 ∨ T.getD k 0 = 93 ∨ T.getD k 0 = 43 ∨ T.getD k 0 = 45 ∨ T.getD k 0 = 42 ∨ T.getD k 0 = 47 := by omega
              have hk9 : kC (T.getD k 0) = 4 := by unfold kC; (repeat' split) <;> omega
              have hw9 : kW (T.getD k 0) 0 = T.getD k 0 := by unfold kW; (repeat' split) <;> omega
              have hd9 : decide (T.getD k 0 = 256) = false := decide_eq_false (by omega)
              have hi9 : iI (lk T k) = nI (T.getD k 0) := by rw [nI_iI]; congr 1; omega
              refine jJ_eq (g2 := F0 m 97 ls [.int (bI (decide (T.getD k 0 = 256))), .int (nI (kW (T.getD k 0) 0)), .int (nI k), .int (nI (kC (T.getD k 0))), .ref (Z 0)]) (cs2 := [[(Z 0, .inr (8, [E 0, E 1, E 2, .ref (Z 1), E 4, E 5, E 6, E 7, E 8, E 9, E 10, E 11, E 12, E 13, E 14, E 15, E 16, E 17, E 18]))], [(Z 1, .inr (7, [.ref (Z 8), .int (nI T.length), .ref (Z 3), .ref (Z 4), .ref (Z 5), .ref (Z 6), .int (nI ((tk 0).length)), X 7, X 8, X 9, X 10, X 11, X 12]))], [(Z 8, .inl (cB, 16000, .inl B))], [(Z 3, .inl (cB, 32008, .inl (V 0)))], [(Z 4, .inl (cI, 32008, .inl (V 1)))], [(Z 5, .inl (cI, 32008, .inl (V 2)))], [(Z 6, .inl (cZ, 32008, .inl (V 3)))]]) (by rw [hk9, hw9, hd9, ← hi9]; rfl) rfl ?_
              refine jJ_callV (As := [.int (nI (kC (T.getD k 0))), .int (nI k), .int (nI (kW (T.getD k 0) 0)), .int (bI (decide (T.getD k 0 = 256)))]) (rest := []) (wc := jF (tWd cI cB cZ Z (lsV [E 0, E 1, E 2, .null, E 4, E 5, E 6, E 7, E 8, E 9, E 10, E 11, E 12, E 13, E 14, E 15, E 16, E 17, E 18]) (lsV [.ref (Z 8), .int (nI T.length), .null, .null, .null, .null, .null, X 7, X 8, X 9, X 10, X 11, X 12]) V ((tk 0).length))) (cs2 := [[(Z 8, .inl (cB, 16000, .inl B))]]) (C := RX10) (T := TX10) (N := 19) (ci := 8) [0, 1, 3, 4, 5, 6] [2] ⟨hx, hb, hml, hown, hts⟩ hK hA hAm (c_Md_token (E := lsV [E 0, E 1, E 2, .null, E 4, E 5, E 6, E 7, E 8, E 9, E 10, E 11, E 12, E 13, E 14, E 15, E 16, E 17, E 18]) (X := lsV [.ref (Z 8), .int (nI T.length), .null, .null, .null, .null, .null, X 7, X 8, X 9, X 10, X 11, X 12]) hT hl9 (by omega) (T.getD k 0) k 0 (by omega) (by omega) (by omega)) (cwV 4 hts gX10_one_X10_token rfl rfl rfl (by decide +kernel) ⟨Nat.le_of_ble_eq_true rfl, Nat.le_of_ble_eq_true rfl⟩) (nn := 7) rfl (by decide) rfl rfl ⟨0, _, rfl⟩ rfl rfl rfl hl.1 (Nat.le_of_ble_eq_true rfl) dX10_one_97 (by show _ + 0 ≤ 0; omega) (by show _ + 0 ≤ 0; omega) (fun v u6 k6 n6 hq6 => ?_)
              obtain ⟨rfl, V6, hT6, hw6, rfl, rfl⟩ := hq6
              rw [hw6]
              refine jJ_open (xs := [[(Z 0, .inr (8, [E 0, E 1, E 2, .ref (Z 1), E 4, E 5, E 6, E 7, E 8, E 9, E 10, E 11, E 12, E 13, E 14, E 15, E 16, E 17, E 18]))], [(Z 1, .inr (7, [.ref (Z 8), .int (nI T.length), .ref (Z 3), .ref (Z 4), .ref (Z 5), .ref (Z 6), .int (nI ((tk 0).length + 1)), X 7, X 8, X 9, X 10, X 11, X 12]))], [(Z 3, .inl (cB, 32008, .inl (V6 0)))], [(Z 4, .inl (cI, 32008, .inl (V6 1)))], [(Z 5, .inl (cI, 32008, .inl (V6 2)))], [(Z 6, .inl (cZ, 32008, .inl (V6 3)))]]) (r := [[(Z 8, .inl (cB, 16000, .inl B))]]) (cs2 := [[(Z 0, .inr (8, [E 0, E 1, E 2, .ref (Z 1), E 4, E 5, E 6, E 7, E 8, E 9, E 10, E 11, E 12, E 13, E 14, E 15, E 16, E 17, E 18]))], [(Z 1, .inr (7, [.ref (Z 8), .int (nI T.length), .ref (Z 3), .ref (Z 4), .ref (Z 5), .ref (Z 6), .int (nI ((tk 0).length + 1)), X 7, X 8, X 9, X 10, X 11, X 12]))], [(Z 3, .inl (cB, 32008, .inl (V6 0)))], [(Z 4, .inl (cI, 32008, .inl (V6 1)))], [(Z 5, .inl (cI, 32008, .inl (V6 2)))], [(Z 6, .inl (cZ, 32008, .inl (V6 3)))], [(Z 8, .inl (cB, 16000, .inl B))]]) rfl ?_
              refine jJ_eq (g2 := F0 m 100 ls []) (cs2 := [[(Z 0, .inr (8, [E 0, E 1, E 2, .ref (Z 1), E 4, E 5, E 6, E 7, E 8, E 9, E 10, E 11, E 12, E 13, E 14, E 15, E 16, E 17, E 18]))], [(Z 1, .inr (7, [.ref (Z 8), .int (nI T.length), .ref (Z 3), .ref (Z 4), .ref (Z 5), .ref (Z 6), .int (nI ((tk 0).length + 1)), X 7, X 8, X 9, X 10, X 11, X 12]))], [(Z 3, .inl (cB, 32008, .inl (V6 0)))], [(Z 4, .inl (cI, 32008, .inl (V6 1)))], [(Z 5, .inl (cI, 32008, .inl (V6 2)))], [(Z 6, .inl (cZ, 32008, .inl (V6 3)))], [(Z 8, .inl (cB, 16000, .inl B))]]) rfl rfl ?_
              refine jJ_of (fun H locs => lv_iload_n hx hb dX10_one_100 rfl (lv_at hl 3 rfl)) ?_
              refine jJ_of (fun H locs => lv_iconst (v := (nI 1)) hx hb dX10_one_101 (by decide)) ?_
              refine jJ_of (fun H locs => jn_iadd hx hb dX10_one_102) ?_
              refine jJ_perm [0, 1, 6, 2, 3, 4, 5] (nn := 7) rfl (by decide) (cs2 := [[(Z 0, .inr (8, [E 0, E 1, E 2, .ref (Z 1), E 4, E 5, E 6, E 7, E 8, E 9, E 10, E 11, E 12, E 13, E 14, E 15, E 16, E 17, E 18]))], [(Z 1, .inr (7, [.ref (Z 8), .int (nI T.length), .ref (Z 3), .ref (Z 4), .ref (Z 5), .ref (Z 6), .int (nI ((tk 0).length + 1)), X 7, X 8, X 9, X 10, X 11, X 12]))], [(Z 8, .inl (cB, 16000, .inl B))], [(Z 3, .inl (cB, 32008, .inl (V6 0)))], [(Z 4, .inl (cI, 32008, .inl (V6 1)))], [(Z 5, .inl (cI, 32008, .inl (V6 2)))], [(Z 6, .inl (cZ, 32008, .inl (V6 3)))]]) rfl ?_
              have hsg2 : isSg (T.getD k 0) = true := decide_eq_true (by omega)
              have hO : oT T k = (T.getD k 0, k, 0, k + 1) := by rw [oT_s (by omega) (by omega), if_pos hsg2]
              have hR : oR T k = ((k + 1 : Nat) : Int) := by unfold oR; rw [hO]; exact if_neg (by show ¬ T.getD k 0 = 0; omega)
              have hTk : oTk T tk k = tkAdd tk (T.getD k 0) k 0 := by unfold oTk; rw [hO]; exact if_neg (by show ¬ T.getD k 0 = 0; omega)
              exact jJ_iret hx hb hr hlocks dX10_one_103 (by show _ ≤ 0; omega) (by show _ ≤ 0; omega) ⟨by rw [hR, ← nI_iI], ⟨V6, by rw [hTk]; exact hT6, by rw [hTk, tkAdd_l]; rfl⟩, rfl, rfl⟩
            · exfalso; omega
          · refine jJ_of (fun H locs => lv_iload_n hx hb dX10_one_50 rfl (lv_at hl 0 rfl)) ?_
            refine jJ_of (fun H locs => lv_bipush (v := (nI 93)) hx hb dX10_one_51 (by decide)) ?_
            rw [nI_iI 93]
            refine jJ_eq (g2 := F0 m 53 ls [.int (iI 93), .int (iI (lk T k))]) (cs2 := [[(Z 0, .inr (8, [E 0, E 1, E 2, .ref (Z 1), E 4, E 5, E 6, E 7, E 8, E 9, E 10, E 11, E 12, E 13, E 14, E 15, E 16, E 17, E 18]))], [(Z 1, .inr (7, [.ref (Z 8), .int (nI T.length), .ref (Z 3), .ref (Z 4), .ref (Z 5), .ref (Z 6), .int (nI ((tk 0).length)), X 7, X 8, X 9, X 10, X 11, X 12]))], [(Z 8, .inl (cB, 16000, .inl B))], [(Z 3, .inl (cB, 32008, .inl (V 0)))], [(Z 4, .inl (cI, 32008, .inl (V 1)))], [(Z 5, .inl (cI, 32008, .inl (V 2)))], [(Z 6, .inl (cZ, 32008, .inl (V 3)))]]) rfl rfl ?_
            refine jJ_of2 (fun H locs => jz_icmp_eq (tgt := 80) hx hb dX10_one_53 (by decide) (by omega) (by omega) (by omega) (by omega)) (fun c53 => ?_) (fun c53 => ?_)
            · refine jJ_of (fun H locs => lv_iconst (v := (nI 1)) hx hb dX10_one_80 (by decide)) ?_
              refine jJ_of (fun H locs => lv_goto (tgt := 85) hx hb dX10_one_81 (by decide)) ?_
              refine jJ_ofL (fun H locs => lv_istore_n (lv' := [(3, .int (nI 1)), (2, .int (iI (lk T k))), (0, .ref (Z 0)), (1, .int (nI k))]) hx hb dX10_one_85 rfl hl (by decide) rfl) (fun ls hl => ?_)
              refine jJ_of (fun H locs => lv_iload_n hx hb dX10_one_86 rfl (lv_at hl 0 rfl)) ?_
              refine jJ_of2 (fun H locs => jn_if_ne (tgt := 92) hx hb dX10_one_87 (by decide) (by omega)) (fun c87 => ?_) (fun c87 => ?_)
              · refine jJ_of (fun H locs => lv_aload_n hx hb dX10_one_92 rfl (lv_at hl 2 rfl)) ?_
                refine jJ_of (fun H locs => lv_iconst (v := (nI 4)) hx hb dX10_one_93 (by decide)) ?_
                refine jJ_of (fun H locs => lv_iload_n hx hb dX10_one_94 rfl (lv_at hl 3 rfl)) ?_
                refine jJ_of (fun H locs => lv_iload_n hx hb dX10_one_95 rfl (lv_at hl 1 rfl)) ?_
                refine jJ_of (fun H locs => lv_iconst (v := (nI 0)) hx hb dX10_one_96 (by decide)) ?_
                have hsg : T.getD k 0 = 35 ∨ T.getD k 0 = 61 ∨ T.getD k 0 = 91 ∨ T.getD k 0 = 93 ∨ T.getD k 0 = 43 ∨ T.getD k 0 = 45 ∨ T.getD k 0 = 42 ∨ T.getD k 0 = 47 := by omega
                have hk9 : kC (T.getD k 0) = 4 := by unfold kC; (repeat' split) <;> omega
                have hw9 : kW (T.getD k 0) 0 = T.getD k 0 := by unfold kW; (repeat' split) <;> omega
                have hd9 : decide (T.getD k 0 = 256) = false := decide_eq_false (by omega)
                have hi9 : iI (lk T k) = nI (T.getD k 0) := by rw [nI_iI]; congr 1; omega
                refine jJ_eq (g2 := F0 m 97 ls [.int (bI (decide (T.getD k 0 = 256))), .int (nI (kW (T.getD k 0) 0)), .int (nI k), .int (nI (kC (T.getD k 0))), .ref (Z 0)]) (cs2 := [[(Z 0, .inr (8, [E 0, E 1, E 2, .ref (Z 1), E 4, E 5, E 6, E 7, E 8, E 9, E 10, E 11, E 12, E 13, E 14, E 15, E 16, E 17, E 18]))], [(Z 1, .inr (7, [.ref (Z 8), .int (nI T.length), .ref (Z 3), .ref (Z 4), .ref (Z 5), .ref (Z 6), .int (nI ((tk 0).length)), X 7, X 8, X 9, X 10, X 11, X 12]))], [(Z 8, .inl (cB, 16000, .inl B))], [(Z 3, .inl (cB, 32008, .inl (V 0)))], [(Z 4, .inl (cI, 32008, .inl (V 1)))], [(Z 5, .inl (cI, 32008, .inl (V 2)))], [(Z 6, .inl (cZ, 32008, .inl (V 3)))]]) (by rw [hk9, hw9, hd9, ← hi9]; rfl) rfl ?_
                refine jJ_callV (As := [.int (nI (kC (T.getD k 0))), .int (nI k), .int (nI (kW (T.getD k 0) 0)), .int (bI (decide (T.getD k 0 = 256)))]) (rest := []) (wc := jF (tWd cI cB cZ Z (lsV [E 0, E 1, E 2, .null, E 4, E 5, E 6, E 7, E 8, E 9, E 10, E 11, E 12, E 13, E 14, E 15, E 16, E 17, E 18]) (lsV [.ref (Z 8), .int (nI T.length), .null, .null, .null, .null, .null, X 7, X 8, X 9, X 10, X 11, X 12]) V ((tk 0).length))) (cs2 := [[(Z 8, .inl (cB, 16000, .inl B))]]) (C := RX10) (T := TX10) (N := 19) (ci := 8) [0, 1, 3, 4, 5, 6] [2] ⟨hx, hb, hml, hown, hts⟩ hK hA hAm (c_Md_token (E := lsV [E 0, E 1, E 2, .null, E 4, E 5, E 6, E 7, E 8, E 9, E 10, E 11, E 12, E 13, E 14, E 15, E 16, E 17, E 18]) (X := lsV [.ref (Z 8), .int (nI T.length), .null, .null, .null, .null, .null, X 7, X 8, X 9, X 10, X 11, X 12]) hT hl9 (by omega) (T.getD k 0) k 0 (by omega) (by omega) (by omega)) (cwV 4 hts gX10_one_X10_token rfl rfl rfl (by decide +kernel) ⟨Nat.le_of_ble_eq_true rfl, Nat.le_of_ble_eq_true rfl⟩) (nn := 7) rfl (by decide) rfl rfl ⟨0, _, rfl⟩ rfl rfl rfl hl.1 (Nat.le_of_ble_eq_true rfl) dX10_one_97 (by show _ + 0 ≤ 0; omega) (by show _ + 0 ≤ 0; omega) (fun v u7 k7 n7 hq7 => ?_)
                obtain ⟨rfl, V7, hT7, hw7, rfl, rfl⟩ := hq7
                rw [hw7]
                refine jJ_open (xs := [[(Z 0, .inr (8, [E 0, E 1, E 2, .ref (Z 1), E 4, E 5, E 6, E 7, E 8, E 9, E 10, E 11, E 12, E 13, E 14, E 15, E 16, E 17, E 18]))], [(Z 1, .inr (7, [.ref (Z 8), .int (nI T.length), .ref (Z 3), .ref (Z 4), .ref (Z 5), .ref (Z 6), .int (nI ((tk 0).length + 1)), X 7, X 8, X 9, X 10, X 11, X 12]))], [(Z 3, .inl (cB, 32008, .inl (V7 0)))], [(Z 4, .inl (cI, 32008, .inl (V7 1)))], [(Z 5, .inl (cI, 32008, .inl (V7 2)))], [(Z 6, .inl (cZ, 32008, .inl (V7 3)))]]) (r := [[(Z 8, .inl (cB, 16000, .inl B))]]) (cs2 := [[(Z 0, .inr (8, [E 0, E 1, E 2, .ref (Z 1), E 4, E 5, E 6, E 7, E 8, E 9, E 10, E 11, E 12, E 13, E 14, E 15, E 16, E 17, E 18]))], [(Z 1, .inr (7, [.ref (Z 8), .int (nI T.length), .ref (Z 3), .ref (Z 4), .ref (Z 5), .ref (Z 6), .int (nI ((tk 0).length + 1)), X 7, X 8, X 9, X 10, X 11, X 12]))], [(Z 3, .inl (cB, 32008, .inl (V7 0)))], [(Z 4, .inl (cI, 32008, .inl (V7 1)))], [(Z 5, .inl (cI, 32008, .inl (V7 2)))], [(Z 6, .inl (cZ, 32008, .inl (V7 3)))], [(Z 8, .inl (cB, 16000, .inl B))]]) rfl ?_
                refine jJ_eq (g2 := F0 m 100 ls []) (cs2 := [[(Z 0, .inr (8, [E 0, E 1, E 2, .ref (Z 1), E 4, E 5, E 6, E 7, E 8, E 9, E 10, E 11, E 12, E 13, E 14, E 15, E 16, E 17, E 18]))], [(Z 1, .inr (7, [.ref (Z 8), .int (nI T.length), .ref (Z 3), .ref (Z 4), .ref (Z 5), .ref (Z 6), .int (nI ((tk 0).length + 1)), X 7, X 8, X 9, X 10, X 11, X 12]))], [(Z 3, .inl (cB, 32008, .inl (V7 0)))], [(Z 4, .inl (cI, 32008, .inl (V7 1)))], [(Z 5, .inl (cI, 32008, .inl (V7 2)))], [(Z 6, .inl (cZ, 32008, .inl (V7 3)))], [(Z 8, .inl (cB, 16000, .inl B))]]) rfl rfl ?_
                refine jJ_of (fun H locs => lv_iload_n hx hb dX10_one_100 rfl (lv_at hl 3 rfl)) ?_
                refine jJ_of (fun H locs => lv_iconst (v := (nI 1)) hx hb dX10_one_101 (by decide)) ?_
                refine jJ_of (fun H locs => jn_iadd hx hb dX10_one_102) ?_
                refine jJ_perm [0, 1, 6, 2, 3, 4, 5] (nn := 7) rfl (by decide) (cs2 := [[(Z 0, .inr (8, [E 0, E 1, E 2, .ref (Z 1), E 4, E 5, E 6, E 7, E 8, E 9, E 10, E 11, E 12, E 13, E 14, E 15, E 16, E 17, E 18]))], [(Z 1, .inr (7, [.ref (Z 8), .int (nI T.length), .ref (Z 3), .ref (Z 4), .ref (Z 5), .ref (Z 6), .int (nI ((tk 0).length + 1)), X 7, X 8, X 9, X 10, X 11, X 12]))], [(Z 8, .inl (cB, 16000, .inl B))], [(Z 3, .inl (cB, 32008, .inl (V7 0)))], [(Z 4, .inl (cI, 32008, .inl (V7 1)))], [(Z 5, .inl (cI, 32008, .inl (V7 2)))], [(Z 6, .inl (cZ, 32008, .inl (V7 3)))]]) rfl ?_
                have hsg2 : isSg (T.getD k 0) = true := decide_eq_true (by omega)
                have hO : oT T k = (T.getD k 0, k, 0, k + 1) := by rw [oT_s (by omega) (by omega), if_pos hsg2]
                have hR : oR T k = ((k + 1 : Nat) : Int) := by unfold oR; rw [hO]; exact if_neg (by show ¬ T.getD k 0 = 0; omega)
                have hTk : oTk T tk k = tkAdd tk (T.getD k 0) k 0 := by unfold oTk; rw [hO]; exact if_neg (by show ¬ T.getD k 0 = 0; omega)
                exact jJ_iret hx hb hr hlocks dX10_one_103 (by show _ ≤ 0; omega) (by show _ ≤ 0; omega) ⟨by rw [hR, ← nI_iI], ⟨V7, by rw [hTk]; exact hT7, by rw [hTk, tkAdd_l]; rfl⟩, rfl, rfl⟩
              · exfalso; omega
            · refine jJ_of (fun H locs => lv_iload_n hx hb dX10_one_56 rfl (lv_at hl 0 rfl)) ?_
              refine jJ_of (fun H locs => lv_bipush (v := (nI 43)) hx hb dX10_one_57 (by decide)) ?_
              rw [nI_iI 43]
              refine jJ_eq (g2 := F0 m 59 ls [.int (iI 43), .int (iI (lk T k))]) (cs2 := [[(Z 0, .inr (8, [E 0, E 1, E 2, .ref (Z 1), E 4, E 5, E 6, E 7, E 8, E 9, E 10, E 11, E 12, E 13, E 14, E 15, E 16, E 17, E 18]))], [(Z 1, .inr (7, [.ref (Z 8), .int (nI T.length), .ref (Z 3), .ref (Z 4), .ref (Z 5), .ref (Z 6), .int (nI ((tk 0).length)), X 7, X 8, X 9, X 10, X 11, X 12]))], [(Z 8, .inl (cB, 16000, .inl B))], [(Z 3, .inl (cB, 32008, .inl (V 0)))], [(Z 4, .inl (cI, 32008, .inl (V 1)))], [(Z 5, .inl (cI, 32008, .inl (V 2)))], [(Z 6, .inl (cZ, 32008, .inl (V 3)))]]) rfl rfl ?_
              refine jJ_of2 (fun H locs => jz_icmp_eq (tgt := 80) hx hb dX10_one_59 (by decide) (by omega) (by omega) (by omega) (by omega)) (fun c59 => ?_) (fun c59 => ?_)
              · refine jJ_of (fun H locs => lv_iconst (v := (nI 1)) hx hb dX10_one_80 (by decide)) ?_
                refine jJ_of (fun H locs => lv_goto (tgt := 85) hx hb dX10_one_81 (by decide)) ?_
                refine jJ_ofL (fun H locs => lv_istore_n (lv' := [(3, .int (nI 1)), (2, .int (iI (lk T k))), (0, .ref (Z 0)), (1, .int (nI k))]) hx hb dX10_one_85 rfl hl (by decide) rfl) (fun ls hl => ?_)
                refine jJ_of (fun H locs => lv_iload_n hx hb dX10_one_86 rfl (lv_at hl 0 rfl)) ?_
                refine jJ_of2 (fun H locs => jn_if_ne (tgt := 92) hx hb dX10_one_87 (by decide) (by omega)) (fun c87 => ?_) (fun c87 => ?_)
                · refine jJ_of (fun H locs => lv_aload_n hx hb dX10_one_92 rfl (lv_at hl 2 rfl)) ?_
                  refine jJ_of (fun H locs => lv_iconst (v := (nI 4)) hx hb dX10_one_93 (by decide)) ?_
                  refine jJ_of (fun H locs => lv_iload_n hx hb dX10_one_94 rfl (lv_at hl 3 rfl)) ?_
                  refine jJ_of (fun H locs => lv_iload_n hx hb dX10_one_95 rfl (lv_at hl 1 rfl)) ?_
                  refine jJ_of (fun H locs => lv_iconst (v := (nI 0)) hx hb dX10_one_96 (by decide)) ?_
                  have hsg : T.getD k 0 = 35 ∨ T.getD k 0 = 61 ∨ T.getD k 0 = 91 ∨ T.getD k 0 = 93 ∨ T.getD k 0 = 43 ∨ T.getD k 0 = 45 ∨ T.getD k 0 = 42 ∨ T.getD k 0 = 47 := by omega
                  have hk9 : kC (T.getD k 0) = 4 := by unfold kC; (repeat' split) <;> omega
                  have hw9 : kW (T.getD k 0) 0 = T.getD k 0 := by unfold kW; (repeat' split) <;> omega
                  have hd9 : decide (T.getD k 0 = 256) = false := decide_eq_false (by omega)
                  have hi9 : iI (lk T k) = nI (T.getD k 0) := by rw [nI_iI]; congr 1; omega
                  refine jJ_eq (g2 := F0 m 97 ls [.int (bI (decide (T.getD k 0 = 256))), .int (nI (kW (T.getD k 0) 0)), .int (nI k), .int (nI (kC (T.getD k 0))), .ref (Z 0)]) (cs2 := [[(Z 0, .inr (8, [E 0, E 1, E 2, .ref (Z 1), E 4, E 5, E 6, E 7, E 8, E 9, E 10, E 11, E 12, E 13, E 14, E 15, E 16, E 17, E 18]))], [(Z 1, .inr (7, [.ref (Z 8), .int (nI T.length), .ref (Z 3), .ref (Z 4), .ref (Z 5), .ref (Z 6), .int (nI ((tk 0).length)), X 7, X 8, X 9, X 10, X 11, X 12]))], [(Z 8, .inl (cB, 16000, .inl B))], [(Z 3, .inl (cB, 32008, .inl (V 0)))], [(Z 4, .inl (cI, 32008, .inl (V 1)))], [(Z 5, .inl (cI, 32008, .inl (V 2)))], [(Z 6, .inl (cZ, 32008, .inl (V 3)))]]) (by rw [hk9, hw9, hd9, ← hi9]; rfl) rfl ?_
                  refine jJ_callV (As := [.int (nI (kC (T.getD k 0))), .int (nI k), .int (nI (kW (T.getD k 0) 0)), .int (bI (decide (T.getD k 0 = 256)))]) (rest := []) (wc := jF (tWd cI cB cZ Z (lsV [E 0, E 1, E 2, .null, E 4, E 5, E 6, E 7, E 8, E 9, E 10, E 11, E 12, E 13, E 14, E 15, E 16, E 17, E 18]) (lsV [.ref (Z 8), .int (nI T.length), .null, .null, .null, .null, .null, X 7, X 8, X 9, X 10, X 11, X 12]) V ((tk 0).length))) (cs2 := [[(Z 8, .inl (cB, 16000, .inl B))]]) (C := RX10) (T := TX10) (N := 19) (ci := 8) [0, 1, 3, 4, 5, 6] [2] ⟨hx, hb, hml, hown, hts⟩ hK hA hAm (c_Md_token (E := lsV [E 0, E 1, E 2, .null, E 4, E 5, E 6, E 7, E 8, E 9, E 10, E 11, E 12, E 13, E 14, E 15, E 16, E 17, E 18]) (X := lsV [.ref (Z 8), .int (nI T.length), .null, .null, .null, .null, .null, X 7, X 8, X 9, X 10, X 11, X 12]) hT hl9 (by omega) (T.getD k 0) k 0 (by omega) (by omega) (by omega)) (cwV 4 hts gX10_one_X10_token rfl rfl rfl (by decide +kernel) ⟨Nat.le_of_ble_eq_true rfl, Nat.le_of_ble_eq_true rfl⟩) (nn := 7) rfl (by decide) rfl rfl ⟨0, _, rfl⟩ rfl rfl rfl hl.1 (Nat.le_of_ble_eq_true rfl) dX10_one_97 (by show _ + 0 ≤ 0; omega) (by show _ + 0 ≤ 0; omega) (fun v u8 k8 n8 hq8 => ?_)
                  obtain ⟨rfl, V8, hT8, hw8, rfl, rfl⟩ := hq8
                  rw [hw8]
                  refine jJ_open (xs := [[(Z 0, .inr (8, [E 0, E 1, E 2, .ref (Z 1), E 4, E 5, E 6, E 7, E 8, E 9, E 10, E 11, E 12, E 13, E 14, E 15, E 16, E 17, E 18]))], [(Z 1, .inr (7, [.ref (Z 8), .int (nI T.length), .ref (Z 3), .ref (Z 4), .ref (Z 5), .ref (Z 6), .int (nI ((tk 0).length + 1)), X 7, X 8, X 9, X 10, X 11, X 12]))], [(Z 3, .inl (cB, 32008, .inl (V8 0)))], [(Z 4, .inl (cI, 32008, .inl (V8 1)))], [(Z 5, .inl (cI, 32008, .inl (V8 2)))], [(Z 6, .inl (cZ, 32008, .inl (V8 3)))]]) (r := [[(Z 8, .inl (cB, 16000, .inl B))]]) (cs2 := [[(Z 0, .inr (8, [E 0, E 1, E 2, .ref (Z 1), E 4, E 5, E 6, E 7, E 8, E 9, E 10, E 11, E 12, E 13, E 14, E 15, E 16, E 17, E 18]))], [(Z 1, .inr (7, [.ref (Z 8), .int (nI T.length), .ref (Z 3), .ref (Z 4), .ref (Z 5), .ref (Z 6), .int (nI ((tk 0).length + 1)), X 7, X 8, X 9, X 10, X 11, X 12]))], [(Z 3, .inl (cB, 32008, .inl (V8 0)))], [(Z 4, .inl (cI, 32008, .inl (V8 1)))], [(Z 5, .inl (cI, 32008, .inl (V8 2)))], [(Z 6, .inl (cZ, 32008, .inl (V8 3)))], [(Z 8, .inl (cB, 16000, .inl B))]]) rfl ?_
                  refine jJ_eq (g2 := F0 m 100 ls []) (cs2 := [[(Z 0, .inr (8, [E 0, E 1, E 2, .ref (Z 1), E 4, E 5, E 6, E 7, E 8, E 9, E 10, E 11, E 12, E 13, E 14, E 15, E 16, E 17, E 18]))], [(Z 1, .inr (7, [.ref (Z 8), .int (nI T.length), .ref (Z 3), .ref (Z 4), .ref (Z 5), .ref (Z 6), .int (nI ((tk 0).length + 1)), X 7, X 8, X 9, X 10, X 11, X 12]))], [(Z 3, .inl (cB, 32008, .inl (V8 0)))], [(Z 4, .inl (cI, 32008, .inl (V8 1)))], [(Z 5, .inl (cI, 32008, .inl (V8 2)))], [(Z 6, .inl (cZ, 32008, .inl (V8 3)))], [(Z 8, .inl (cB, 16000, .inl B))]]) rfl rfl ?_
                  refine jJ_of (fun H locs => lv_iload_n hx hb dX10_one_100 rfl (lv_at hl 3 rfl)) ?_
                  refine jJ_of (fun H locs => lv_iconst (v := (nI 1)) hx hb dX10_one_101 (by decide)) ?_
                  refine jJ_of (fun H locs => jn_iadd hx hb dX10_one_102) ?_
                  refine jJ_perm [0, 1, 6, 2, 3, 4, 5] (nn := 7) rfl (by decide) (cs2 := [[(Z 0, .inr (8, [E 0, E 1, E 2, .ref (Z 1), E 4, E 5, E 6, E 7, E 8, E 9, E 10, E 11, E 12, E 13, E 14, E 15, E 16, E 17, E 18]))], [(Z 1, .inr (7, [.ref (Z 8), .int (nI T.length), .ref (Z 3), .ref (Z 4), .ref (Z 5), .ref (Z 6), .int (nI ((tk 0).length + 1)), X 7, X 8, X 9, X 10, X 11, X 12]))], [(Z 8, .inl (cB, 16000, .inl B))], [(Z 3, .inl (cB, 32008, .inl (V8 0)))], [(Z 4, .inl (cI, 32008, .inl (V8 1)))], [(Z 5, .inl (cI, 32008, .inl (V8 2)))], [(Z 6, .inl (cZ, 32008, .inl (V8 3)))]]) rfl ?_
                  have hsg2 : isSg (T.getD k 0) = true := decide_eq_true (by omega)
                  have hO : oT T k = (T.getD k 0, k, 0, k + 1) := by rw [oT_s (by omega) (by omega), if_pos hsg2]
                  have hR : oR T k = ((k + 1 : Nat) : Int) := by unfold oR; rw [hO]; exact if_neg (by show ¬ T.getD k 0 = 0; omega)
                  have hTk : oTk T tk k = tkAdd tk (T.getD k 0) k 0 := by unfold oTk; rw [hO]; exact if_neg (by show ¬ T.getD k 0 = 0; omega)
                  exact jJ_iret hx hb hr hlocks dX10_one_103 (by show _ ≤ 0; omega) (by show _ ≤ 0; omega) ⟨by rw [hR, ← nI_iI], ⟨V8, by rw [hTk]; exact hT8, by rw [hTk, tkAdd_l]; rfl⟩, rfl, rfl⟩
                · exfalso; omega
              · refine jJ_of (fun H locs => lv_iload_n hx hb dX10_one_62 rfl (lv_at hl 0 rfl)) ?_
                refine jJ_of (fun H locs => lv_bipush (v := (nI 45)) hx hb dX10_one_63 (by decide)) ?_
                rw [nI_iI 45]
                refine jJ_eq (g2 := F0 m 65 ls [.int (iI 45), .int (iI (lk T k))]) (cs2 := [[(Z 0, .inr (8, [E 0, E 1, E 2, .ref (Z 1), E 4, E 5, E 6, E 7, E 8, E 9, E 10, E 11, E 12, E 13, E 14, E 15, E 16, E 17, E 18]))], [(Z 1, .inr (7, [.ref (Z 8), .int (nI T.length), .ref (Z 3), .ref (Z 4), .ref (Z 5), .ref (Z 6), .int (nI ((tk 0).length)), X 7, X 8, X 9, X 10, X 11, X 12]))], [(Z 8, .inl (cB, 16000, .inl B))], [(Z 3, .inl (cB, 32008, .inl (V 0)))], [(Z 4, .inl (cI, 32008, .inl (V 1)))], [(Z 5, .inl (cI, 32008, .inl (V 2)))], [(Z 6, .inl (cZ, 32008, .inl (V 3)))]]) rfl rfl ?_
                refine jJ_of2 (fun H locs => jz_icmp_eq (tgt := 80) hx hb dX10_one_65 (by decide) (by omega) (by omega) (by omega) (by omega)) (fun c65 => ?_) (fun c65 => ?_)
                · refine jJ_of (fun H locs => lv_iconst (v := (nI 1)) hx hb dX10_one_80 (by decide)) ?_
                  refine jJ_of (fun H locs => lv_goto (tgt := 85) hx hb dX10_one_81 (by decide)) ?_
                  refine jJ_ofL (fun H locs => lv_istore_n (lv' := [(3, .int (nI 1)), (2, .int (iI (lk T k))), (0, .ref (Z 0)), (1, .int (nI k))]) hx hb dX10_one_85 rfl hl (by decide) rfl) (fun ls hl => ?_)
                  refine jJ_of (fun H locs => lv_iload_n hx hb dX10_one_86 rfl (lv_at hl 0 rfl)) ?_
                  refine jJ_of2 (fun H locs => jn_if_ne (tgt := 92) hx hb dX10_one_87 (by decide) (by omega)) (fun c87 => ?_) (fun c87 => ?_)
                  · refine jJ_of (fun H locs => lv_aload_n hx hb dX10_one_92 rfl (lv_at hl 2 rfl)) ?_
                    refine jJ_of (fun H locs => lv_iconst (v := (nI 4)) hx hb dX10_one_93 (by decide)) ?_
                    refine jJ_of (fun H locs => lv_iload_n hx hb dX10_one_94 rfl (lv_at hl 3 rfl)) ?_
                    refine jJ_of (fun H locs => lv_iload_n hx hb dX10_one_95 rfl (lv_at hl 1 rfl)) ?_
                    refine jJ_of (fun H locs => lv_iconst (v := (nI 0)) hx hb dX10_one_96 (by decide)) ?_
                    have hsg : T.getD k 0 = 35 ∨ T.getD k 0 = 61 ∨ T.getD k 0 = 91 ∨ T.getD k 0 = 93 ∨ T.getD k 0 = 43 ∨ T.getD k 0 = 45 ∨ T.getD k 0 = 42 ∨ T.getD k 0 = 47 := by omega
                    have hk9 : kC (T.getD k 0) = 4 := by unfold kC; (repeat' split) <;> omega
                    have hw9 : kW (T.getD k 0) 0 = T.getD k 0 := by unfold kW; (repeat' split) <;> omega
                    have hd9 : decide (T.getD k 0 = 256) = false := decide_eq_false (by omega)
                    have hi9 : iI (lk T k) = nI (T.getD k 0) := by rw [nI_iI]; congr 1; omega
                    refine jJ_eq (g2 := F0 m 97 ls [.int (bI (decide (T.getD k 0 = 256))), .int (nI (kW (T.getD k 0) 0)), .int (nI k), .int (nI (kC (T.getD k 0))), .ref (Z 0)]) (cs2 := [[(Z 0, .inr (8, [E 0, E 1, E 2, .ref (Z 1), E 4, E 5, E 6, E 7, E 8, E 9, E 10, E 11, E 12, E 13, E 14, E 15, E 16, E 17, E 18]))], [(Z 1, .inr (7, [.ref (Z 8), .int (nI T.length), .ref (Z 3), .ref (Z 4), .ref (Z 5), .ref (Z 6), .int (nI ((tk 0).length)), X 7, X 8, X 9, X 10, X 11, X 12]))], [(Z 8, .inl (cB, 16000, .inl B))], [(Z 3, .inl (cB, 32008, .inl (V 0)))], [(Z 4, .inl (cI, 32008, .inl (V 1)))], [(Z 5, .inl (cI, 32008, .inl (V 2)))], [(Z 6, .inl (cZ, 32008, .inl (V 3)))]]) (by rw [hk9, hw9, hd9, ← hi9]; rfl) rfl ?_
                    refine jJ_callV (As := [.int (nI (kC (T.getD k 0))), .int (nI k), .int (nI (kW (T.getD k 0) 0)), .int (bI (decide (T.getD k 0 = 256)))]) (rest := []) (wc := jF (tWd cI cB cZ Z (lsV [E 0, E 1, E 2, .null, E 4, E 5, E 6, E 7, E 8, E 9, E 10, E 11, E 12, E 13, E 14, E 15, E 16, E 17, E 18]) (lsV [.ref (Z 8), .int (nI T.length), .null, .null, .null, .null, .null, X 7, X 8, X 9, X 10, X 11, X 12]) V ((tk 0).length))) (cs2 := [[(Z 8, .inl (cB, 16000, .inl B))]]) (C := RX10) (T := TX10) (N := 19) (ci := 8) [0, 1, 3, 4, 5, 6] [2] ⟨hx, hb, hml, hown, hts⟩ hK hA hAm (c_Md_token (E := lsV [E 0, E 1, E 2, .null, E 4, E 5, E 6, E 7, E 8, E 9, E 10, E 11, E 12, E 13, E 14, E 15, E 16, E 17, E 18]) (X := lsV [.ref (Z 8), .int (nI T.length), .null, .null, .null, .null, .null, X 7, X 8, X 9, X 10, X 11, X 12]) hT hl9 (by omega) (T.getD k 0) k 0 (by omega) (by omega) (by omega)) (cwV 4 hts gX10_one_X10_token rfl rfl rfl (by decide +kernel) ⟨Nat.le_of_ble_eq_true rfl, Nat.le_of_ble_eq_true rfl⟩) (nn := 7) rfl (by decide) rfl rfl ⟨0, _, rfl⟩ rfl rfl rfl hl.1 (Nat.le_of_ble_eq_true rfl) dX10_one_97 (by show _ + 0 ≤ 0; omega) (by show _ + 0 ≤ 0; omega) (fun v u9 k9 n9 hq9 => ?_)
                    obtain ⟨rfl, V9, hT9, hw9, rfl, rfl⟩ := hq9
                    rw [hw9]
                    refine jJ_open (xs := [[(Z 0, .inr (8, [E 0, E 1, E 2, .ref (Z 1), E 4, E 5, E 6, E 7, E 8, E 9, E 10, E 11, E 12, E 13, E 14, E 15, E 16, E 17, E 18]))], [(Z 1, .inr (7, [.ref (Z 8), .int (nI T.length), .ref (Z 3), .ref (Z 4), .ref (Z 5), .ref (Z 6), .int (nI ((tk 0).length + 1)), X 7, X 8, X 9, X 10, X 11, X 12]))], [(Z 3, .inl (cB, 32008, .inl (V9 0)))], [(Z 4, .inl (cI, 32008, .inl (V9 1)))], [(Z 5, .inl (cI, 32008, .inl (V9 2)))], [(Z 6, .inl (cZ, 32008, .inl (V9 3)))]]) (r := [[(Z 8, .inl (cB, 16000, .inl B))]]) (cs2 := [[(Z 0, .inr (8, [E 0, E 1, E 2, .ref (Z 1), E 4, E 5, E 6, E 7, E 8, E 9, E 10, E 11, E 12, E 13, E 14, E 15, E 16, E 17, E 18]))], [(Z 1, .inr (7, [.ref (Z 8), .int (nI T.length), .ref (Z 3), .ref (Z 4), .ref (Z 5), .ref (Z 6), .int (nI ((tk 0).length + 1)), X 7, X 8, X 9, X 10, X 11, X 12]))], [(Z 3, .inl (cB, 32008, .inl (V9 0)))], [(Z 4, .inl (cI, 32008, .inl (V9 1)))], [(Z 5, .inl (cI, 32008, .inl (V9 2)))], [(Z 6, .inl (cZ, 32008, .inl (V9 3)))], [(Z 8, .inl (cB, 16000, .inl B))]]) rfl ?_
                    refine jJ_eq (g2 := F0 m 100 ls []) (cs2 := [[(Z 0, .inr (8, [E 0, E 1, E 2, .ref (Z 1), E 4, E 5, E 6, E 7, E 8, E 9, E 10, E 11, E 12, E 13, E 14, E 15, E 16, E 17, E 18]))], [(Z 1, .inr (7, [.ref (Z 8), .int (nI T.length), .ref (Z 3), .ref (Z 4), .ref (Z 5), .ref (Z 6), .int (nI ((tk 0).length + 1)), X 7, X 8, X 9, X 10, X 11, X 12]))], [(Z 3, .inl (cB, 32008, .inl (V9 0)))], [(Z 4, .inl (cI, 32008, .inl (V9 1)))], [(Z 5, .inl (cI, 32008, .inl (V9 2)))], [(Z 6, .inl (cZ, 32008, .inl (V9 3)))], [(Z 8, .inl (cB, 16000, .inl B))]]) rfl rfl ?_
                    refine jJ_of (fun H locs => lv_iload_n hx hb dX10_one_100 rfl (lv_at hl 3 rfl)) ?_
                    refine jJ_of (fun H locs => lv_iconst (v := (nI 1)) hx hb dX10_one_101 (by decide)) ?_
                    refine jJ_of (fun H locs => jn_iadd hx hb dX10_one_102) ?_
                    refine jJ_perm [0, 1, 6, 2, 3, 4, 5] (nn := 7) rfl (by decide) (cs2 := [[(Z 0, .inr (8, [E 0, E 1, E 2, .ref (Z 1), E 4, E 5, E 6, E 7, E 8, E 9, E 10, E 11, E 12, E 13, E 14, E 15, E 16, E 17, E 18]))], [(Z 1, .inr (7, [.ref (Z 8), .int (nI T.length), .ref (Z 3), .ref (Z 4), .ref (Z 5), .ref (Z 6), .int (nI ((tk 0).length + 1)), X 7, X 8, X 9, X 10, X 11, X 12]))], [(Z 8, .inl (cB, 16000, .inl B))], [(Z 3, .inl (cB, 32008, .inl (V9 0)))], [(Z 4, .inl (cI, 32008, .inl (V9 1)))], [(Z 5, .inl (cI, 32008, .inl (V9 2)))], [(Z 6, .inl (cZ, 32008, .inl (V9 3)))]]) rfl ?_
                    have hsg2 : isSg (T.getD k 0) = true := decide_eq_true (by omega)
                    have hO : oT T k = (T.getD k 0, k, 0, k + 1) := by rw [oT_s (by omega) (by omega), if_pos hsg2]
                    have hR : oR T k = ((k + 1 : Nat) : Int) := by unfold oR; rw [hO]; exact if_neg (by show ¬ T.getD k 0 = 0; omega)
                    have hTk : oTk T tk k = tkAdd tk (T.getD k 0) k 0 := by unfold oTk; rw [hO]; exact if_neg (by show ¬ T.getD k 0 = 0; omega)
                    exact jJ_iret hx hb hr hlocks dX10_one_103 (by show _ ≤ 0; omega) (by show _ ≤ 0; omega) ⟨by rw [hR, ← nI_iI], ⟨V9, by rw [hTk]; exact hT9, by rw [hTk, tkAdd_l]; rfl⟩, rfl, rfl⟩
                  · exfalso; omega
                · refine jJ_of (fun H locs => lv_iload_n hx hb dX10_one_68 rfl (lv_at hl 0 rfl)) ?_
                  refine jJ_of (fun H locs => lv_bipush (v := (nI 42)) hx hb dX10_one_69 (by decide)) ?_
                  rw [nI_iI 42]
                  refine jJ_eq (g2 := F0 m 71 ls [.int (iI 42), .int (iI (lk T k))]) (cs2 := [[(Z 0, .inr (8, [E 0, E 1, E 2, .ref (Z 1), E 4, E 5, E 6, E 7, E 8, E 9, E 10, E 11, E 12, E 13, E 14, E 15, E 16, E 17, E 18]))], [(Z 1, .inr (7, [.ref (Z 8), .int (nI T.length), .ref (Z 3), .ref (Z 4), .ref (Z 5), .ref (Z 6), .int (nI ((tk 0).length)), X 7, X 8, X 9, X 10, X 11, X 12]))], [(Z 8, .inl (cB, 16000, .inl B))], [(Z 3, .inl (cB, 32008, .inl (V 0)))], [(Z 4, .inl (cI, 32008, .inl (V 1)))], [(Z 5, .inl (cI, 32008, .inl (V 2)))], [(Z 6, .inl (cZ, 32008, .inl (V 3)))]]) rfl rfl ?_
                  refine jJ_of2 (fun H locs => jz_icmp_eq (tgt := 80) hx hb dX10_one_71 (by decide) (by omega) (by omega) (by omega) (by omega)) (fun c71 => ?_) (fun c71 => ?_)
                  · refine jJ_of (fun H locs => lv_iconst (v := (nI 1)) hx hb dX10_one_80 (by decide)) ?_
                    refine jJ_of (fun H locs => lv_goto (tgt := 85) hx hb dX10_one_81 (by decide)) ?_
                    refine jJ_ofL (fun H locs => lv_istore_n (lv' := [(3, .int (nI 1)), (2, .int (iI (lk T k))), (0, .ref (Z 0)), (1, .int (nI k))]) hx hb dX10_one_85 rfl hl (by decide) rfl) (fun ls hl => ?_)
                    refine jJ_of (fun H locs => lv_iload_n hx hb dX10_one_86 rfl (lv_at hl 0 rfl)) ?_
                    refine jJ_of2 (fun H locs => jn_if_ne (tgt := 92) hx hb dX10_one_87 (by decide) (by omega)) (fun c87 => ?_) (fun c87 => ?_)
                    · refine jJ_of (fun H locs => lv_aload_n hx hb dX10_one_92 rfl (lv_at hl 2 rfl)) ?_
                      refine jJ_of (fun H locs => lv_iconst (v := (nI 4)) hx hb dX10_one_93 (by decide)) ?_
                      refine jJ_of (fun H locs => lv_iload_n hx hb dX10_one_94 rfl (lv_at hl 3 rfl)) ?_
                      refine jJ_of (fun H locs => lv_iload_n hx hb dX10_one_95 rfl (lv_at hl 1 rfl)) ?_
                      refine jJ_of (fun H locs => lv_iconst (v := (nI 0)) hx hb dX10_one_96 (by decide)) ?_
                      have hsg : T.getD k 0 = 35 ∨ T.getD k 0 = 61 ∨ T.getD k 0 = 91 ∨ T.getD k 0 = 93 ∨ T.getD k 0 = 43 ∨ T.getD k 0 = 45 ∨ T.getD k 0 = 42 ∨ T.getD k 0 = 47 := by omega
                      have hk9 : kC (T.getD k 0) = 4 := by unfold kC; (repeat' split) <;> omega
                      have hw9 : kW (T.getD k 0) 0 = T.getD k 0 := by unfold kW; (repeat' split) <;> omega
                      have hd9 : decide (T.getD k 0 = 256) = false := decide_eq_false (by omega)
                      have hi9 : iI (lk T k) = nI (T.getD k 0) := by rw [nI_iI]; congr 1; omega
                      refine jJ_eq (g2 := F0 m 97 ls [.int (bI (decide (T.getD k 0 = 256))), .int (nI (kW (T.getD k 0) 0)), .int (nI k), .int (nI (kC (T.getD k 0))), .ref (Z 0)]) (cs2 := [[(Z 0, .inr (8, [E 0, E 1, E 2, .ref (Z 1), E 4, E 5, E 6, E 7, E 8, E 9, E 10, E 11, E 12, E 13, E 14, E 15, E 16, E 17, E 18]))], [(Z 1, .inr (7, [.ref (Z 8), .int (nI T.length), .ref (Z 3), .ref (Z 4), .ref (Z 5), .ref (Z 6), .int (nI ((tk 0).length)), X 7, X 8, X 9, X 10, X 11, X 12]))], [(Z 8, .inl (cB, 16000, .inl B))], [(Z 3, .inl (cB, 32008, .inl (V 0)))], [(Z 4, .inl (cI, 32008, .inl (V 1)))], [(Z 5, .inl (cI, 32008, .inl (V 2)))], [(Z 6, .inl (cZ, 32008, .inl (V 3)))]]) (by rw [hk9, hw9, hd9, ← hi9]; rfl) rfl ?_
                      refine jJ_callV (As := [.int (nI (kC (T.getD k 0))), .int (nI k), .int (nI (kW (T.getD k 0) 0)), .int (bI (decide (T.getD k 0 = 256)))]) (rest := []) (wc := jF (tWd cI cB cZ Z (lsV [E 0, E 1, E 2, .null, E 4, E 5, E 6, E 7, E 8, E 9, E 10, E 11, E 12, E 13, E 14, E 15, E 16, E 17, E 18]) (lsV [.ref (Z 8), .int (nI T.length), .null, .null, .null, .null, .null, X 7, X 8, X 9, X 10, X 11, X 12]) V ((tk 0).length))) (cs2 := [[(Z 8, .inl (cB, 16000, .inl B))]]) (C := RX10) (T := TX10) (N := 19) (ci := 8) [0, 1, 3, 4, 5, 6] [2] ⟨hx, hb, hml, hown, hts⟩ hK hA hAm (c_Md_token (E := lsV [E 0, E 1, E 2, .null, E 4, E 5, E 6, E 7, E 8, E 9, E 10, E 11, E 12, E 13, E 14, E 15, E 16, E 17, E 18]) (X := lsV [.ref (Z 8), .int (nI T.length), .null, .null, .null, .null, .null, X 7, X 8, X 9, X 10, X 11, X 12]) hT hl9 (by omega) (T.getD k 0) k 0 (by omega) (by omega) (by omega)) (cwV 4 hts gX10_one_X10_token rfl rfl rfl (by decide +kernel) ⟨Nat.le_of_ble_eq_true rfl, Nat.le_of_ble_eq_true rfl⟩) (nn := 7) rfl (by decide) rfl rfl ⟨0, _, rfl⟩ rfl rfl rfl hl.1 (Nat.le_of_ble_eq_true rfl) dX10_one_97 (by show _ + 0 ≤ 0; omega) (by show _ + 0 ≤ 0; omega) (fun v u10 k10 n10 hq10 => ?_)
                      obtain ⟨rfl, V10, hT10, hw10, rfl, rfl⟩ := hq10
                      rw [hw10]
                      refine jJ_open (xs := [[(Z 0, .inr (8, [E 0, E 1, E 2, .ref (Z 1), E 4, E 5, E 6, E 7, E 8, E 9, E 10, E 11, E 12, E 13, E 14, E 15, E 16, E 17, E 18]))], [(Z 1, .inr (7, [.ref (Z 8), .int (nI T.length), .ref (Z 3), .ref (Z 4), .ref (Z 5), .ref (Z 6), .int (nI ((tk 0).length + 1)), X 7, X 8, X 9, X 10, X 11, X 12]))], [(Z 3, .inl (cB, 32008, .inl (V10 0)))], [(Z 4, .inl (cI, 32008, .inl (V10 1)))], [(Z 5, .inl (cI, 32008, .inl (V10 2)))], [(Z 6, .inl (cZ, 32008, .inl (V10 3)))]]) (r := [[(Z 8, .inl (cB, 16000, .inl B))]]) (cs2 := [[(Z 0, .inr (8, [E 0, E 1, E 2, .ref (Z 1), E 4, E 5, E 6, E 7, E 8, E 9, E 10, E 11, E 12, E 13, E 14, E 15, E 16, E 17, E 18]))], [(Z 1, .inr (7, [.ref (Z 8), .int (nI T.length), .ref (Z 3), .ref (Z 4), .ref (Z 5), .ref (Z 6), .int (nI ((tk 0).length + 1)), X 7, X 8, X 9, X 10, X 11, X 12]))], [(Z 3, .inl (cB, 32008, .inl (V10 0)))], [(Z 4, .inl (cI, 32008, .inl (V10 1)))], [(Z 5, .inl (cI, 32008, .inl (V10 2)))], [(Z 6, .inl (cZ, 32008, .inl (V10 3)))], [(Z 8, .inl (cB, 16000, .inl B))]]) rfl ?_
                      refine jJ_eq (g2 := F0 m 100 ls []) (cs2 := [[(Z 0, .inr (8, [E 0, E 1, E 2, .ref (Z 1), E 4, E 5, E 6, E 7, E 8, E 9, E 10, E 11, E 12, E 13, E 14, E 15, E 16, E 17, E 18]))], [(Z 1, .inr (7, [.ref (Z 8), .int (nI T.length), .ref (Z 3), .ref (Z 4), .ref (Z 5), .ref (Z 6), .int (nI ((tk 0).length + 1)), X 7, X 8, X 9, X 10, X 11, X 12]))], [(Z 3, .inl (cB, 32008, .inl (V10 0)))], [(Z 4, .inl (cI, 32008, .inl (V10 1)))], [(Z 5, .inl (cI, 32008, .inl (V10 2)))], [(Z 6, .inl (cZ, 32008, .inl (V10 3)))], [(Z 8, .inl (cB, 16000, .inl B))]]) rfl rfl ?_
                      refine jJ_of (fun H locs => lv_iload_n hx hb dX10_one_100 rfl (lv_at hl 3 rfl)) ?_
                      refine jJ_of (fun H locs => lv_iconst (v := (nI 1)) hx hb dX10_one_101 (by decide)) ?_
                      refine jJ_of (fun H locs => jn_iadd hx hb dX10_one_102) ?_
                      refine jJ_perm [0, 1, 6, 2, 3, 4, 5] (nn := 7) rfl (by decide) (cs2 := [[(Z 0, .inr (8, [E 0, E 1, E 2, .ref (Z 1), E 4, E 5, E 6, E 7, E 8, E 9, E 10, E 11, E 12, E 13, E 14, E 15, E 16, E 17, E 18]))], [(Z 1, .inr (7, [.ref (Z 8), .int (nI T.length), .ref (Z 3), .ref (Z 4), .ref (Z 5), .ref (Z 6), .int (nI ((tk 0).length + 1)), X 7, X 8, X 9, X 10, X 11, X 12]))], [(Z 8, .inl (cB, 16000, .inl B))], [(Z 3, .inl (cB, 32008, .inl (V10 0)))], [(Z 4, .inl (cI, 32008, .inl (V10 1)))], [(Z 5, .inl (cI, 32008, .inl (V10 2)))], [(Z 6, .inl (cZ, 32008, .inl (V10 3)))]]) rfl ?_
                      have hsg2 : isSg (T.getD k 0) = true := decide_eq_true (by omega)
                      have hO : oT T k = (T.getD k 0, k, 0, k + 1) := by rw [oT_s (by omega) (by omega), if_pos hsg2]
                      have hR : oR T k = ((k + 1 : Nat) : Int) := by unfold oR; rw [hO]; exact if_neg (by show ¬ T.getD k 0 = 0; omega)
                      have hTk : oTk T tk k = tkAdd tk (T.getD k 0) k 0 := by unfold oTk; rw [hO]; exact if_neg (by show ¬ T.getD k 0 = 0; omega)
                      exact jJ_iret hx hb hr hlocks dX10_one_103 (by show _ ≤ 0; omega) (by show _ ≤ 0; omega) ⟨by rw [hR, ← nI_iI], ⟨V10, by rw [hTk]; exact hT10, by rw [hTk, tkAdd_l]; rfl⟩, rfl, rfl⟩
                    · exfalso; omega
                  · refine jJ_of (fun H locs => lv_iload_n hx hb dX10_one_74 rfl (lv_at hl 0 rfl)) ?_
                    refine jJ_of (fun H locs => lv_bipush (v := (nI 47)) hx hb dX10_one_75 (by decide)) ?_
                    rw [nI_iI 47]
                    refine jJ_eq (g2 := F0 m 77 ls [.int (iI 47), .int (iI (lk T k))]) (cs2 := [[(Z 0, .inr (8, [E 0, E 1, E 2, .ref (Z 1), E 4, E 5, E 6, E 7, E 8, E 9, E 10, E 11, E 12, E 13, E 14, E 15, E 16, E 17, E 18]))], [(Z 1, .inr (7, [.ref (Z 8), .int (nI T.length), .ref (Z 3), .ref (Z 4), .ref (Z 5), .ref (Z 6), .int (nI ((tk 0).length)), X 7, X 8, X 9, X 10, X 11, X 12]))], [(Z 8, .inl (cB, 16000, .inl B))], [(Z 3, .inl (cB, 32008, .inl (V 0)))], [(Z 4, .inl (cI, 32008, .inl (V 1)))], [(Z 5, .inl (cI, 32008, .inl (V 2)))], [(Z 6, .inl (cZ, 32008, .inl (V 3)))]]) rfl rfl ?_
                    refine jJ_of2 (fun H locs => jz_icmp_ne (tgt := 84) hx hb dX10_one_77 (by decide) (by omega) (by omega) (by omega) (by omega)) (fun c77 => ?_) (fun c77 => ?_)
                    · refine jJ_of (fun H locs => lv_iconst (v := (nI 0)) hx hb dX10_one_84 (by decide)) ?_
                      refine jJ_ofL (fun H locs => lv_istore_n (lv' := [(3, .int (nI 0)), (2, .int (iI (lk T k))), (0, .ref (Z 0)), (1, .int (nI k))]) hx hb dX10_one_85 rfl hl (by decide) rfl) (fun ls hl => ?_)
                      refine jJ_of (fun H locs => lv_iload_n hx hb dX10_one_86 rfl (lv_at hl 0 rfl)) ?_
                      refine jJ_of2 (fun H locs => jn_if_ne (tgt := 92) hx hb dX10_one_87 (by decide) (by omega)) (fun c87 => ?_) (fun c87 => ?_)
                      · exfalso; omega
                      · refine jJ_of (fun H locs => lv_iconst (v := (iI (-1))) hx hb dX10_one_90 (by decide)) ?_
                        have hsg : isSg (T.getD k 0) = false := decide_eq_false (by omega)
                        have hO : (oT T k).1 = 0 := by rw [oT_s (by omega) (by omega), hsg]; rfl
                        exact jJ_iret hx hb hr hlocks dX10_one_91 (by show _ ≤ 0; omega) (by show _ ≤ 0; omega) ⟨by rw [show oR T k = -1 from if_pos hO], ⟨V, by rw [show oTk T tk k = tk from if_pos hO]; exact hT, by rw [show oTk T tk k = tk from if_pos hO]; rfl⟩, rfl, rfl⟩
                    · refine jJ_of (fun H locs => lv_iconst (v := (nI 1)) hx hb dX10_one_80 (by decide)) ?_
                      refine jJ_of (fun H locs => lv_goto (tgt := 85) hx hb dX10_one_81 (by decide)) ?_
                      refine jJ_ofL (fun H locs => lv_istore_n (lv' := [(3, .int (nI 1)), (2, .int (iI (lk T k))), (0, .ref (Z 0)), (1, .int (nI k))]) hx hb dX10_one_85 rfl hl (by decide) rfl) (fun ls hl => ?_)
                      refine jJ_of (fun H locs => lv_iload_n hx hb dX10_one_86 rfl (lv_at hl 0 rfl)) ?_
                      refine jJ_of2 (fun H locs => jn_if_ne (tgt := 92) hx hb dX10_one_87 (by decide) (by omega)) (fun c87 => ?_) (fun c87 => ?_)
                      · refine jJ_of (fun H locs => lv_aload_n hx hb dX10_one_92 rfl (lv_at hl 2 rfl)) ?_
                        refine jJ_of (fun H locs => lv_iconst (v := (nI 4)) hx hb dX10_one_93 (by decide)) ?_
                        refine jJ_of (fun H locs => lv_iload_n hx hb dX10_one_94 rfl (lv_at hl 3 rfl)) ?_
                        refine jJ_of (fun H locs => lv_iload_n hx hb dX10_one_95 rfl (lv_at hl 1 rfl)) ?_
                        refine jJ_of (fun H locs => lv_iconst (v := (nI 0)) hx hb dX10_one_96 (by decide)) ?_
                        have hsg : T.getD k 0 = 35 ∨ T.getD k 0 = 61 ∨ T.getD k 0 = 91 ∨ T.getD k 0 = 93 ∨ T.getD k 0 = 43 ∨ T.getD k 0 = 45 ∨ T.getD k 0 = 42 ∨ T.getD k 0 = 47 := by omega
                        have hk9 : kC (T.getD k 0) = 4 := by unfold kC; (repeat' split) <;> omega
                        have hw9 : kW (T.getD k 0) 0 = T.getD k 0 := by unfold kW; (repeat' split) <;> omega
                        have hd9 : decide (T.getD k 0 = 256) = false := decide_eq_false (by omega)
                        have hi9 : iI (lk T k) = nI (T.getD k 0) := by rw [nI_iI]; congr 1; omega
                        refine jJ_eq (g2 := F0 m 97 ls [.int (bI (decide (T.getD k 0 = 256))), .int (nI (kW (T.getD k 0) 0)), .int (nI k), .int (nI (kC (T.getD k 0))), .ref (Z 0)]) (cs2 := [[(Z 0, .inr (8, [E 0, E 1, E 2, .ref (Z 1), E 4, E 5, E 6, E 7, E 8, E 9, E 10, E 11, E 12, E 13, E 14, E 15, E 16, E 17, E 18]))], [(Z 1, .inr (7, [.ref (Z 8), .int (nI T.length), .ref (Z 3), .ref (Z 4), .ref (Z 5), .ref (Z 6), .int (nI ((tk 0).length)), X 7, X 8, X 9, X 10, X 11, X 12]))], [(Z 8, .inl (cB, 16000, .inl B))], [(Z 3, .inl (cB, 32008, .inl (V 0)))], [(Z 4, .inl (cI, 32008, .inl (V 1)))], [(Z 5, .inl (cI, 32008, .inl (V 2)))], [(Z 6, .inl (cZ, 32008, .inl (V 3)))]]) (by rw [hk9, hw9, hd9, ← hi9]; rfl) rfl ?_
                        refine jJ_callV (As := [.int (nI (kC (T.getD k 0))), .int (nI k), .int (nI (kW (T.getD k 0) 0)), .int (bI (decide (T.getD k 0 = 256)))]) (rest := []) (wc := jF (tWd cI cB cZ Z (lsV [E 0, E 1, E 2, .null, E 4, E 5, E 6, E 7, E 8, E 9, E 10, E 11, E 12, E 13, E 14, E 15, E 16, E 17, E 18]) (lsV [.ref (Z 8), .int (nI T.length), .null, .null, .null, .null, .null, X 7, X 8, X 9, X 10, X 11, X 12]) V ((tk 0).length))) (cs2 := [[(Z 8, .inl (cB, 16000, .inl B))]]) (C := RX10) (T := TX10) (N := 19) (ci := 8) [0, 1, 3, 4, 5, 6] [2] ⟨hx, hb, hml, hown, hts⟩ hK hA hAm (c_Md_token (E := lsV [E 0, E 1, E 2, .null, E 4, E 5, E 6, E 7, E 8, E 9, E 10, E 11, E 12, E 13, E 14, E 15, E 16, E 17, E 18]) (X := lsV [.ref (Z 8), .int (nI T.length), .null, .null, .null, .null, .null, X 7, X 8, X 9, X 10, X 11, X 12]) hT hl9 (by omega) (T.getD k 0) k 0 (by omega) (by omega) (by omega)) (cwV 4 hts gX10_one_X10_token rfl rfl rfl (by decide +kernel) ⟨Nat.le_of_ble_eq_true rfl, Nat.le_of_ble_eq_true rfl⟩) (nn := 7) rfl (by decide) rfl rfl ⟨0, _, rfl⟩ rfl rfl rfl hl.1 (Nat.le_of_ble_eq_true rfl) dX10_one_97 (by show _ + 0 ≤ 0; omega) (by show _ + 0 ≤ 0; omega) (fun v u11 k11 n11 hq11 => ?_)
                        obtain ⟨rfl, V11, hT11, hw11, rfl, rfl⟩ := hq11
                        rw [hw11]
                        refine jJ_open (xs := [[(Z 0, .inr (8, [E 0, E 1, E 2, .ref (Z 1), E 4, E 5, E 6, E 7, E 8, E 9, E 10, E 11, E 12, E 13, E 14, E 15, E 16, E 17, E 18]))], [(Z 1, .inr (7, [.ref (Z 8), .int (nI T.length), .ref (Z 3), .ref (Z 4), .ref (Z 5), .ref (Z 6), .int (nI ((tk 0).length + 1)), X 7, X 8, X 9, X 10, X 11, X 12]))], [(Z 3, .inl (cB, 32008, .inl (V11 0)))], [(Z 4, .inl (cI, 32008, .inl (V11 1)))], [(Z 5, .inl (cI, 32008, .inl (V11 2)))], [(Z 6, .inl (cZ, 32008, .inl (V11 3)))]]) (r := [[(Z 8, .inl (cB, 16000, .inl B))]]) (cs2 := [[(Z 0, .inr (8, [E 0, E 1, E 2, .ref (Z 1), E 4, E 5, E 6, E 7, E 8, E 9, E 10, E 11, E 12, E 13, E 14, E 15, E 16, E 17, E 18]))], [(Z 1, .inr (7, [.ref (Z 8), .int (nI T.length), .ref (Z 3), .ref (Z 4), .ref (Z 5), .ref (Z 6), .int (nI ((tk 0).length + 1)), X 7, X 8, X 9, X 10, X 11, X 12]))], [(Z 3, .inl (cB, 32008, .inl (V11 0)))], [(Z 4, .inl (cI, 32008, .inl (V11 1)))], [(Z 5, .inl (cI, 32008, .inl (V11 2)))], [(Z 6, .inl (cZ, 32008, .inl (V11 3)))], [(Z 8, .inl (cB, 16000, .inl B))]]) rfl ?_
                        refine jJ_eq (g2 := F0 m 100 ls []) (cs2 := [[(Z 0, .inr (8, [E 0, E 1, E 2, .ref (Z 1), E 4, E 5, E 6, E 7, E 8, E 9, E 10, E 11, E 12, E 13, E 14, E 15, E 16, E 17, E 18]))], [(Z 1, .inr (7, [.ref (Z 8), .int (nI T.length), .ref (Z 3), .ref (Z 4), .ref (Z 5), .ref (Z 6), .int (nI ((tk 0).length + 1)), X 7, X 8, X 9, X 10, X 11, X 12]))], [(Z 3, .inl (cB, 32008, .inl (V11 0)))], [(Z 4, .inl (cI, 32008, .inl (V11 1)))], [(Z 5, .inl (cI, 32008, .inl (V11 2)))], [(Z 6, .inl (cZ, 32008, .inl (V11 3)))], [(Z 8, .inl (cB, 16000, .inl B))]]) rfl rfl ?_
                        refine jJ_of (fun H locs => lv_iload_n hx hb dX10_one_100 rfl (lv_at hl 3 rfl)) ?_
                        refine jJ_of (fun H locs => lv_iconst (v := (nI 1)) hx hb dX10_one_101 (by decide)) ?_
                        refine jJ_of (fun H locs => jn_iadd hx hb dX10_one_102) ?_
                        refine jJ_perm [0, 1, 6, 2, 3, 4, 5] (nn := 7) rfl (by decide) (cs2 := [[(Z 0, .inr (8, [E 0, E 1, E 2, .ref (Z 1), E 4, E 5, E 6, E 7, E 8, E 9, E 10, E 11, E 12, E 13, E 14, E 15, E 16, E 17, E 18]))], [(Z 1, .inr (7, [.ref (Z 8), .int (nI T.length), .ref (Z 3), .ref (Z 4), .ref (Z 5), .ref (Z 6), .int (nI ((tk 0).length + 1)), X 7, X 8, X 9, X 10, X 11, X 12]))], [(Z 8, .inl (cB, 16000, .inl B))], [(Z 3, .inl (cB, 32008, .inl (V11 0)))], [(Z 4, .inl (cI, 32008, .inl (V11 1)))], [(Z 5, .inl (cI, 32008, .inl (V11 2)))], [(Z 6, .inl (cZ, 32008, .inl (V11 3)))]]) rfl ?_
                        have hsg2 : isSg (T.getD k 0) = true := decide_eq_true (by omega)
                        have hO : oT T k = (T.getD k 0, k, 0, k + 1) := by rw [oT_s (by omega) (by omega), if_pos hsg2]
                        have hR : oR T k = ((k + 1 : Nat) : Int) := by unfold oR; rw [hO]; exact if_neg (by show ¬ T.getD k 0 = 0; omega)
                        have hTk : oTk T tk k = tkAdd tk (T.getD k 0) k 0 := by unfold oTk; rw [hO]; exact if_neg (by show ¬ T.getD k 0 = 0; omega)
                        exact jJ_iret hx hb hr hlocks dX10_one_103 (by show _ ≤ 0; omega) (by show _ ≤ 0; omega) ⟨by rw [hR, ← nI_iI], ⟨V11, by rw [hTk]; exact hT11, by rw [hTk, tkAdd_l]; rfl⟩, rfl, rfl⟩
                      · exfalso; omega
    · simp only [decide_eq_true_eq, decide_eq_false_iff_not] at c23
      refine jJ_of (fun H locs => lv_aload_n hx hb dX10_one_26 rfl (lv_at hl 1 rfl)) ?_
      refine jJ_of (fun H locs => lv_iload_n hx hb dX10_one_27 rfl (lv_at hl 2 rfl)) ?_
      refine jJ_callV (As := [.int (nI k)]) (rest := []) (wc := jF (zW cI cB cZ Z (lsV [E 0, E 1, E 2, .null, E 4, E 5, E 6, E 7, E 8, E 9, E 10, E 11, E 12, E 13, E 14, E 15, E 16, E 17, E 18]) (lsV [.null, .null, .null, .null, .null, .null, .null, X 7, X 8, X 9, X 10, X 11, X 12]) B V T.length ((tk 0).length))) (cs2 := []) (C := RX10) (T := TX10) (N := 19) (ci := 8) [0, 1, 2, 3, 4, 5, 6] [] ⟨hx, hb, hml, hown, hts⟩ hK hA hAm (c_Md_word (E := lsV [E 0, E 1, E 2, .null, E 4, E 5, E 6, E 7, E 8, E 9, E 10, E 11, E 12, E 13, E 14, E 15, E 16, E 17, E 18]) (X := lsV [.null, .null, .null, .null, .null, .null, .null, X 7, X 8, X 9, X 10, X 11, X 12]) hB hT hl9 (by omega) k (by omega) (by omega)) (cwV 1 hts gX10_one_X10_word rfl rfl rfl (by decide +kernel) ⟨Nat.le_of_ble_eq_true rfl, Nat.le_of_ble_eq_true rfl⟩) (nn := 7) rfl (by decide) rfl rfl ⟨0, _, rfl⟩ rfl rfl rfl hl.1 (Nat.le_of_ble_eq_true rfl) dX10_one_28 (by show _ + 0 ≤ 0; omega) (by show _ + 0 ≤ 0; omega) (fun v u12 k12 n12 hq12 => ?_)
      obtain ⟨hv12, ⟨V12, hT12, hw12⟩, rfl, rfl⟩ := hq12
      subst hv12
      rw [hw12]
      refine jJ_open (xs := [[(Z 0, .inr (8, [E 0, E 1, E 2, .ref (Z 1), E 4, E 5, E 6, E 7, E 8, E 9, E 10, E 11, E 12, E 13, E 14, E 15, E 16, E 17, E 18]))], [(Z 1, .inr (7, [.ref (Z 8), .int (nI T.length), .ref (Z 3), .ref (Z 4), .ref (Z 5), .ref (Z 6), .int (nI (((tkAdd tk (wTok T k).1 k 0) 0).length)), X 7, X 8, X 9, X 10, X 11, X 12]))], [(Z 8, .inl (cB, 16000, .inl B))], [(Z 3, .inl (cB, 32008, .inl (V12 0)))], [(Z 4, .inl (cI, 32008, .inl (V12 1)))], [(Z 5, .inl (cI, 32008, .inl (V12 2)))], [(Z 6, .inl (cZ, 32008, .inl (V12 3)))]]) (r := []) (cs2 := [[(Z 0, .inr (8, [E 0, E 1, E 2, .ref (Z 1), E 4, E 5, E 6, E 7, E 8, E 9, E 10, E 11, E 12, E 13, E 14, E 15, E 16, E 17, E 18]))], [(Z 1, .inr (7, [.ref (Z 8), .int (nI T.length), .ref (Z 3), .ref (Z 4), .ref (Z 5), .ref (Z 6), .int (nI (((tkAdd tk (wTok T k).1 k 0) 0).length)), X 7, X 8, X 9, X 10, X 11, X 12]))], [(Z 8, .inl (cB, 16000, .inl B))], [(Z 3, .inl (cB, 32008, .inl (V12 0)))], [(Z 4, .inl (cI, 32008, .inl (V12 1)))], [(Z 5, .inl (cI, 32008, .inl (V12 2)))], [(Z 6, .inl (cZ, 32008, .inl (V12 3)))]]) rfl ?_
      refine jJ_eq (g2 := F0 m 31 ls [.int (nI ((wTok T k).2))]) (cs2 := [[(Z 0, .inr (8, [E 0, E 1, E 2, .ref (Z 1), E 4, E 5, E 6, E 7, E 8, E 9, E 10, E 11, E 12, E 13, E 14, E 15, E 16, E 17, E 18]))], [(Z 1, .inr (7, [.ref (Z 8), .int (nI T.length), .ref (Z 3), .ref (Z 4), .ref (Z 5), .ref (Z 6), .int (nI (((tkAdd tk (wTok T k).1 k 0) 0).length)), X 7, X 8, X 9, X 10, X 11, X 12]))], [(Z 8, .inl (cB, 16000, .inl B))], [(Z 3, .inl (cB, 32008, .inl (V12 0)))], [(Z 4, .inl (cI, 32008, .inl (V12 1)))], [(Z 5, .inl (cI, 32008, .inl (V12 2)))], [(Z 6, .inl (cZ, 32008, .inl (V12 3)))]]) rfl rfl ?_
      have hwb := wTok_b (T := T) (k := k) (by omega) (by omega)
      have hw0 : ¬ (wTok T k).1 = 0 := by omega
      have hR := oR_w (T := T) (k := k) (by omega) hw0
      have hTk := oTk_w (T := T) (tk := tk) (k := k) (by omega) hw0
      exact jJ_iret hx hb hr hlocks dX10_one_31 (by show _ ≤ 0; omega) (by show _ ≤ 0; omega) ⟨by rw [hR, ← nI_iI], ⟨V12, by rw [hTk]; exact hT12, by rw [hTk]; rfl⟩, rfl, rfl⟩
  · simp only [decide_eq_true_eq, decide_eq_false_iff_not] at c10
    refine jJ_of (fun H locs => lv_aload_n hx hb dX10_one_13 rfl (lv_at hl 1 rfl)) ?_
    refine jJ_of (fun H locs => lv_iload_n hx hb dX10_one_14 rfl (lv_at hl 2 rfl)) ?_
    refine jJ_callV (As := [.int (nI k)]) (rest := []) (wc := jF (zW cI cB cZ Z (lsV [E 0, E 1, E 2, .null, E 4, E 5, E 6, E 7, E 8, E 9, E 10, E 11, E 12, E 13, E 14, E 15, E 16, E 17, E 18]) (lsV [.null, .null, .null, .null, .null, .null, .null, X 7, X 8, X 9, X 10, X 11, X 12]) B V T.length ((tk 0).length))) (cs2 := []) (C := RX10) (T := TX10) (N := 19) (ci := 8) [0, 1, 2, 3, 4, 5, 6] [] ⟨hx, hb, hml, hown, hts⟩ hK hA hAm (c_Md_number (E := lsV [E 0, E 1, E 2, .null, E 4, E 5, E 6, E 7, E 8, E 9, E 10, E 11, E 12, E 13, E 14, E 15, E 16, E 17, E 18]) (X := lsV [.null, .null, .null, .null, .null, .null, .null, X 7, X 8, X 9, X 10, X 11, X 12]) hB hT hl9 (by omega) k (by omega) (by omega)) (cwV 1 hts gX10_one_X10_numberEnd rfl rfl rfl (by decide +kernel) ⟨Nat.le_of_ble_eq_true rfl, Nat.le_of_ble_eq_true rfl⟩) (nn := 7) rfl (by decide) rfl rfl ⟨0, _, rfl⟩ rfl rfl rfl hl.1 (Nat.le_of_ble_eq_true rfl) dX10_one_15 (by show _ + 0 ≤ 0; omega) (by show _ + 0 ≤ 0; omega) (fun v u13 k13 n13 hq13 => ?_)
    obtain ⟨hv13, ⟨V13, hT13, hw13⟩, rfl, rfl⟩ := hq13
    subst hv13
    rw [hw13]
    refine jJ_open (xs := [[(Z 0, .inr (8, [E 0, E 1, E 2, .ref (Z 1), E 4, E 5, E 6, E 7, E 8, E 9, E 10, E 11, E 12, E 13, E 14, E 15, E 16, E 17, E 18]))], [(Z 1, .inr (7, [.ref (Z 8), .int (nI T.length), .ref (Z 3), .ref (Z 4), .ref (Z 5), .ref (Z 6), .int (nI (((nTk T tk k) 0).length)), X 7, X 8, X 9, X 10, X 11, X 12]))], [(Z 8, .inl (cB, 16000, .inl B))], [(Z 3, .inl (cB, 32008, .inl (V13 0)))], [(Z 4, .inl (cI, 32008, .inl (V13 1)))], [(Z 5, .inl (cI, 32008, .inl (V13 2)))], [(Z 6, .inl (cZ, 32008, .inl (V13 3)))]]) (r := []) (cs2 := [[(Z 0, .inr (8, [E 0, E 1, E 2, .ref (Z 1), E 4, E 5, E 6, E 7, E 8, E 9, E 10, E 11, E 12, E 13, E 14, E 15, E 16, E 17, E 18]))], [(Z 1, .inr (7, [.ref (Z 8), .int (nI T.length), .ref (Z 3), .ref (Z 4), .ref (Z 5), .ref (Z 6), .int (nI (((nTk T tk k) 0).length)), X 7, X 8, X 9, X 10, X 11, X 12]))], [(Z 8, .inl (cB, 16000, .inl B))], [(Z 3, .inl (cB, 32008, .inl (V13 0)))], [(Z 4, .inl (cI, 32008, .inl (V13 1)))], [(Z 5, .inl (cI, 32008, .inl (V13 2)))], [(Z 6, .inl (cZ, 32008, .inl (V13 3)))]]) rfl ?_
    refine jJ_eq (g2 := F0 m 18 ls [.int (iI (nR T k))]) (cs2 := [[(Z 0, .inr (8, [E 0, E 1, E 2, .ref (Z 1), E 4, E 5, E 6, E 7, E 8, E 9, E 10, E 11, E 12, E 13, E 14, E 15, E 16, E 17, E 18]))], [(Z 1, .inr (7, [.ref (Z 8), .int (nI T.length), .ref (Z 3), .ref (Z 4), .ref (Z 5), .ref (Z 6), .int (nI (((nTk T tk k) 0).length)), X 7, X 8, X 9, X 10, X 11, X 12]))], [(Z 8, .inl (cB, 16000, .inl B))], [(Z 3, .inl (cB, 32008, .inl (V13 0)))], [(Z 4, .inl (cI, 32008, .inl (V13 1)))], [(Z 5, .inl (cI, 32008, .inl (V13 2)))], [(Z 6, .inl (cZ, 32008, .inl (V13 3)))]]) rfl rfl ?_
    have hR : oR T k = nR T k := by unfold oR nR; rw [oT_d (by omega)]
    have hTk : oTk T tk k = nTk T tk k := by unfold oTk nTk; rw [oT_d (by omega)]
    exact jJ_iret hx hb hr hlocks dX10_one_18 (by show _ ≤ 0; omega) (by show _ ≤ 0; omega) ⟨by rw [hR], ⟨V13, by rw [hTk]; exact hT13, by rw [hTk]; rfl⟩, rfl, rfl⟩
theorem oT_10 {T : List Nat} {k : Nat} (h : ¬ T.getD k 0 = 10) : ¬ (oT T k).1 = 10 := by
  unfold oT
  split
  · show ¬ nK T k = 10
    unfold nK
    (repeat' split) <;> omega
  · split
    · dsimp only
      unfold wTok
      split
      · show ¬ 300 + _ = 10; omega
      · exact h
    · show ¬ (if isSg (T.getD k 0) = true then T.getD k 0 else 0) = 10
      split
      · exact h
      · omega
theorem uX10_in_X10_cutLine : ∀ w ∈ u_ws RX10 TX10 19, w ∈ wsX10_cutLine := by decide +kernel
theorem uX9_in_X10_cutLine : ∀ w ∈ u_ws RX9 TX9 13, w ∈ wsX10_cutLine := by decide +kernel
set_option maxHeartbeats 4000000 in
set_option maxRecDepth 100000 in
/-- cutLine(i) -/
theorem c_Md_cutLine {Z : Nat → Nat} {E X : Nat → Value} {B : Nat → Int32} {V0 : Nat → Nat → Int32} {T : List Nat} {tk0 : Nat → List Nat} (hB : tB T B) (hT : tV tk0 V0) (hl9 : tL tk0) (i0 : Nat) (hi : i0 ≤ T.length) (hlt : (tk0 0).length ≤ i0) : HM l yX10_cutLine wsX10_cutLine ({ frames := 7, cells := 0, slots := 0, locals := 300 } : Room) D G (jT cI cJ cB cZ) [.ref (Z 0), .int (nI i0)] (jF (zW cI cB cZ Z E X B V0 T.length (tk0 0).length)) (fun v u k9 n9 => v = some (.int (nI (cuF T (T.length + 1) tk0 i0).2)) ∧ (∃ V2 : Nat → Nat → Int32, tV (cuF T (T.length + 1) tk0 i0).1 V2 ∧ u = jF (zW cI cB cZ Z E X B V2 T.length (((cuF T (T.length + 1) tk0 i0).1 0).length))) ∧ k9 = 0 ∧ n9 = 0) := by
  refine HM_of (cc := cX10_cutLine) (maxL := 4) (ret := (some .int)) (lv := [(0, .ref (Z 0)), (1, .int (nI i0))]) (by decide) rfl rfl (Nat.le_of_ble_eq_true rfl) (fun p e s m args below meth c A0 ls hx hb hr hts hown hlocks hml hnm hK hA hAm hl => ?_)
  refine jJ_open (xs := [[(Z 0, .inr (8, [E 0, E 1, E 2, .ref (Z 1), E 4, E 5, E 6, E 7, E 8, E 9, E 10, E 11, E 12, E 13, E 14, E 15, E 16, E 17, E 18]))], [(Z 1, .inr (7, [.ref (Z 8), .int (nI T.length), .ref (Z 3), .ref (Z 4), .ref (Z 5), .ref (Z 6), .int (nI ((tk0 0).length)), X 7, X 8, X 9, X 10, X 11, X 12]))], [(Z 8, .inl (cB, 16000, .inl B))], [(Z 3, .inl (cB, 32008, .inl (V0 0)))], [(Z 4, .inl (cI, 32008, .inl (V0 1)))], [(Z 5, .inl (cI, 32008, .inl (V0 2)))], [(Z 6, .inl (cZ, 32008, .inl (V0 3)))]]) (r := []) (cs2 := [[(Z 0, .inr (8, [E 0, E 1, E 2, .ref (Z 1), E 4, E 5, E 6, E 7, E 8, E 9, E 10, E 11, E 12, E 13, E 14, E 15, E 16, E 17, E 18]))], [(Z 1, .inr (7, [.ref (Z 8), .int (nI T.length), .ref (Z 3), .ref (Z 4), .ref (Z 5), .ref (Z 6), .int (nI ((tk0 0).length)), X 7, X 8, X 9, X 10, X 11, X 12]))], [(Z 8, .inl (cB, 16000, .inl B))], [(Z 3, .inl (cB, 32008, .inl (V0 0)))], [(Z 4, .inl (cI, 32008, .inl (V0 1)))], [(Z 5, .inl (cI, 32008, .inl (V0 2)))], [(Z 6, .inl (cZ, 32008, .inl (V0 3)))]]) rfl ?_
  have hL9 := hB.1
  have hL8 := hT.1
  refine jJ_of (fun H locs => lv_aload_n hx hb dX10_cutLine_0 rfl (lv_at hl 0 rfl)) ?_
  refine jJ_of (fun H locs => lv_iload_n hx hb dX10_cutLine_1 rfl (lv_at hl 1 rfl)) ?_
  refine jJ_callV (As := [.int (nI i0)]) (rest := []) (wc := jF (bWd cB Z (lsV [E 0, E 1, E 2, .null, E 4, E 5, E 6, E 7, E 8, E 9, E 10, E 11, E 12, E 13, E 14, E 15, E 16, E 17, E 18]) (lsV [.null, .null, .ref (Z 3), .ref (Z 4), .ref (Z 5), .ref (Z 6), .int (nI ((tk0 0).length)), X 7, X 8, X 9, X 10, X 11, X 12]) B T.length)) (cs2 := [[(Z 3, .inl (cB, 32008, .inl (V0 0)))], [(Z 4, .inl (cI, 32008, .inl (V0 1)))], [(Z 5, .inl (cI, 32008, .inl (V0 2)))], [(Z 6, .inl (cZ, 32008, .inl (V0 3)))]]) (C := RX10) (T := TX10) (N := 19) (ci := 8) [0, 1, 2] [3, 4, 5, 6] ⟨hx, hb, hml, hown, hts⟩ hK hA hAm (c_Md_blanks (E := lsV [E 0, E 1, E 2, .null, E 4, E 5, E 6, E 7, E 8, E 9, E 10, E 11, E 12, E 13, E 14, E 15, E 16, E 17, E 18]) (X := lsV [.null, .null, .ref (Z 3), .ref (Z 4), .ref (Z 5), .ref (Z 6), .int (nI ((tk0 0).length)), X 7, X 8, X 9, X 10, X 11, X 12]) hB i0 (by omega)) (cwV 1 hts gX10_cutLine_X10_behindBlanks rfl rfl rfl (by decide +kernel) ⟨Nat.le_of_ble_eq_true rfl, Nat.le_of_ble_eq_true rfl⟩) (nn := 7) rfl (by decide) rfl rfl ⟨0, _, rfl⟩ rfl rfl rfl hl.1 (Nat.le_of_ble_eq_true rfl) dX10_cutLine_2 (by show _ + 0 ≤ 0; omega) (by show _ + 0 ≤ 0; omega) (fun v u1 k1 n1 hq1 => ?_)
  obtain ⟨hv1, hw1, rfl, rfl⟩ := hq1
  subst hv1
  rw [hw1]
  have hpb1 := pbF_b T (T.length + 1) i0
  have hpq1 : pb T i0 = pbF T (T.length + 1) i0 := rfl
  refine jJ_open (xs := [[(Z 0, .inr (8, [E 0, E 1, E 2, .ref (Z 1), E 4, E 5, E 6, E 7, E 8, E 9, E 10, E 11, E 12, E 13, E 14, E 15, E 16, E 17, E 18]))], [(Z 1, .inr (7, [.ref (Z 8), .int (nI T.length), .ref (Z 3), .ref (Z 4), .ref (Z 5), .ref (Z 6), .int (nI ((tk0 0).length)), X 7, X 8, X 9, X 10, X 11, X 12]))], [(Z 8, .inl (cB, 16000, .inl B))]]) (r := [[(Z 3, .inl (cB, 32008, .inl (V0 0)))], [(Z 4, .inl (cI, 32008, .inl (V0 1)))], [(Z 5, .inl (cI, 32008, .inl (V0 2)))], [(Z 6, .inl (cZ, 32008, .inl (V0 3)))]]) (cs2 := [[(Z 0, .inr (8, [E 0, E 1, E 2, .ref (Z 1), E 4, E 5, E 6, E 7, E 8, E 9, E 10, E 11, E 12, E 13, E 14, E 15, E 16, E 17, E 18]))], [(Z 1, .inr (7, [.ref (Z 8), .int (nI T.length), .ref (Z 3), .ref (Z 4), .ref (Z 5), .ref (Z 6), .int (nI ((tk0 0).length)), X 7, X 8, X 9, X 10, X 11, X 12]))], [(Z 8, .inl (cB, 16000, .inl B))], [(Z 3, .inl (cB, 32008, .inl (V0 0)))], [(Z 4, .inl (cI, 32008, .inl (V0 1)))], [(Z 5, .inl (cI, 32008, .inl (V0 2)))], [(Z 6, .inl (cZ, 32008, .inl (V0 3)))]]) rfl ?_
  refine jJ_eq (g2 := F0 m 5 ls [.int (nI (pb T i0))]) (cs2 := [[(Z 0, .inr (8, [E 0, E 1, E 2, .ref (Z 1), E 4, E 5, E 6, E 7, E 8, E 9, E 10, E 11, E 12, E 13, E 14, E 15, E 16, E 17, E 18]))], [(Z 1, .inr (7, [.ref (Z 8), .int (nI T.length), .ref (Z 3), .ref (Z 4), .ref (Z 5), .ref (Z 6), .int (nI ((tk0 0).length)), X 7, X 8, X 9, X 10, X 11, X 12]))], [(Z 8, .inl (cB, 16000, .inl B))], [(Z 3, .inl (cB, 32008, .inl (V0 0)))], [(Z 4, .inl (cI, 32008, .inl (V0 1)))], [(Z 5, .inl (cI, 32008, .inl (V0 2)))], [(Z 6, .inl (cZ, 32008, .inl (V0 3)))]]) rfl rfl ?_
  refine jJ_ofL (fun H locs => lv_istore_n (lv' := [(2, .int (nI (pb T i0))), (0, .ref (Z 0)), (1, .int (nI i0))]) hx hb dX10_cutLine_5 rfl hl (by decide) rfl) (fun ls hl => ?_)
  suffices lp : ∀ (f i : Nat) (tk : Nat → List Nat) (V : Nat → Nat → Int32), T.length < f + i → i ≤ T.length → (tk 0).length ≤ i → tV tk V → tL tk → cuF T f tk i = cuF T (T.length + 1) tk0 i0 → ∀ ls, lv_has ls 4 [(2, .int (nI (pb T i))), (0, .ref (Z 0))] → jJ p l e _ s m args below meth c D A0 [[(Z 0, .inr (8, [E 0, E 1, E 2, .ref (Z 1), E 4, E 5, E 6, E 7, E 8, E 9, E 10, E 11, E 12, E 13, E 14, E 15, E 16, E 17, E 18]))], [(Z 1, .inr (7, [.ref (Z 8), .int (nI T.length), .ref (Z 3), .ref (Z 4), .ref (Z 5), .ref (Z 6), .int (nI ((tk 0).length)), X 7, X 8, X 9, X 10, X 11, X 12]))], [(Z 8, .inl (cB, 16000, .inl B))], [(Z 3, .inl (cB, 32008, .inl (V 0)))], [(Z 4, .inl (cI, 32008, .inl (V 1)))], [(Z 5, .inl (cI, 32008, .inl (V 2)))], [(Z 6, .inl (cZ, 32008, .inl (V 3)))]] 0 0 (jEnd below D A0 _ args s _ _) (F0 m 6 ls []) from lp (T.length + 1) i0 tk0 V0 (by omega) hi hlt hT hl9 rfl ls (lv_sub hl [0, 1] rfl)
  clear hT hl9 hlt hi
  intro f
  induction f with
  | zero =>
    intro i tk V h9 h8; omega
  | succ f ih =>
    intro i tk V h9 h8 hlt hT hl9 hcl ls hl
    have hL7 := hT.1
    have hpb := pbF_b T (T.length + 1) i
    have hpq : pb T i = pbF T (T.length + 1) i := rfl
    refine jJ_of (fun H locs => lv_aload_n hx hb dX10_cutLine_6 rfl (lv_at hl 1 rfl)) ?_
    refine jJ_of (fun H locs => lv_iload_n hx hb dX10_cutLine_7 rfl (lv_at hl 0 rfl)) ?_
    refine jJ_callV (As := [.int (nI (pb T i))]) (rest := []) (wc := jF (bWd cB Z (lsV [E 0, E 1, E 2, .null, E 4, E 5, E 6, E 7, E 8, E 9, E 10, E 11, E 12, E 13, E 14, E 15, E 16, E 17, E 18]) (lsV [.null, .null, .ref (Z 3), .ref (Z 4), .ref (Z 5), .ref (Z 6), .int (nI ((tk 0).length)), X 7, X 8, X 9, X 10, X 11, X 12]) B T.length)) (cs2 := [[(Z 3, .inl (cB, 32008, .inl (V 0)))], [(Z 4, .inl (cI, 32008, .inl (V 1)))], [(Z 5, .inl (cI, 32008, .inl (V 2)))], [(Z 6, .inl (cZ, 32008, .inl (V 3)))]]) (C := RX10) (T := TX10) (N := 19) (ci := 8) [0, 1, 2] [3, 4, 5, 6] ⟨hx, hb, hml, hown, hts⟩ hK hA hAm (c_Md_look (E := lsV [E 0, E 1, E 2, .null, E 4, E 5, E 6, E 7, E 8, E 9, E 10, E 11, E 12, E 13, E 14, E 15, E 16, E 17, E 18]) (X := lsV [.null, .null, .ref (Z 3), .ref (Z 4), .ref (Z 5), .ref (Z 6), .int (nI ((tk 0).length)), X 7, X 8, X 9, X 10, X 11, X 12]) hB (pb T i) (by omega)) (cwV 1 hts gX10_cutLine_X10_look rfl rfl rfl (by decide +kernel) ⟨Nat.le_of_ble_eq_true rfl, Nat.le_of_ble_eq_true rfl⟩) (nn := 7) rfl (by decide) rfl rfl ⟨0, _, rfl⟩ rfl rfl rfl hl.1 (Nat.le_of_ble_eq_true rfl) dX10_cutLine_8 (by show _ + 0 ≤ 0; omega) (by show _ + 0 ≤ 0; omega) (fun v u2 k2 n2 hq2 => ?_)
    obtain ⟨hv2, hw2, rfl, rfl⟩ := hq2
    subst hv2
    rw [hw2]
    refine jJ_open (xs := [[(Z 0, .inr (8, [E 0, E 1, E 2, .ref (Z 1), E 4, E 5, E 6, E 7, E 8, E 9, E 10, E 11, E 12, E 13, E 14, E 15, E 16, E 17, E 18]))], [(Z 1, .inr (7, [.ref (Z 8), .int (nI T.length), .ref (Z 3), .ref (Z 4), .ref (Z 5), .ref (Z 6), .int (nI ((tk 0).length)), X 7, X 8, X 9, X 10, X 11, X 12]))], [(Z 8, .inl (cB, 16000, .inl B))]]) (r := [[(Z 3, .inl (cB, 32008, .inl (V 0)))], [(Z 4, .inl (cI, 32008, .inl (V 1)))], [(Z 5, .inl (cI, 32008, .inl (V 2)))], [(Z 6, .inl (cZ, 32008, .inl (V 3)))]]) (cs2 := [[(Z 0, .inr (8, [E 0, E 1, E 2, .ref (Z 1), E 4, E 5, E 6, E 7, E 8, E 9, E 10, E 11, E 12, E 13, E 14, E 15, E 16, E 17, E 18]))], [(Z 1, .inr (7, [.ref (Z 8), .int (nI T.length), .ref (Z 3), .ref (Z 4), .ref (Z 5), .ref (Z 6), .int (nI ((tk 0).length)), X 7, X 8, X 9, X 10, X 11, X 12]))], [(Z 8, .inl (cB, 16000, .inl B))], [(Z 3, .inl (cB, 32008, .inl (V 0)))], [(Z 4, .inl (cI, 32008, .inl (V 1)))], [(Z 5, .inl (cI, 32008, .inl (V 2)))], [(Z 6, .inl (cZ, 32008, .inl (V 3)))]]) rfl ?_
    refine jJ_eq (g2 := F0 m 11 ls [.int (iI (lk T (pb T i)))]) (cs2 := [[(Z 0, .inr (8, [E 0, E 1, E 2, .ref (Z 1), E 4, E 5, E 6, E 7, E 8, E 9, E 10, E 11, E 12, E 13, E 14, E 15, E 16, E 17, E 18]))], [(Z 1, .inr (7, [.ref (Z 8), .int (nI T.length), .ref (Z 3), .ref (Z 4), .ref (Z 5), .ref (Z 6), .int (nI ((tk 0).length)), X 7, X 8, X 9, X 10, X 11, X 12]))], [(Z 8, .inl (cB, 16000, .inl B))], [(Z 3, .inl (cB, 32008, .inl (V 0)))], [(Z 4, .inl (cI, 32008, .inl (V 1)))], [(Z 5, .inl (cI, 32008, .inl (V 2)))], [(Z 6, .inl (cZ, 32008, .inl (V 3)))]]) rfl rfl ?_
    have hlk2_11 := lk_c T (pb T i)
    have hl256_2_11 := hB.2.2 (pb T i)
    refine jJ_of2 (fun H locs => jz_if_lt (tgt := 59) hx hb dX10_cutLine_11 (by decide) (by omega) (by omega)) (fun c11 => ?_) (fun c11 => ?_)
    · refine jJ_of (fun H locs => lv_aload_n hx hb dX10_cutLine_59 rfl (lv_at hl 1 rfl)) ?_
      refine jJ_of (fun H locs => lv_iconst (v := (nI 0)) hx hb dX10_cutLine_60 (by decide)) ?_
      refine jJ_of (fun H locs => lv_iload_n hx hb dX10_cutLine_61 rfl (lv_at hl 0 rfl)) ?_
      refine jJ_of (fun H locs => lv_iconst (v := (nI 0)) hx hb dX10_cutLine_62 (by decide)) ?_
      refine jJ_of (fun H locs => lv_iconst (v := (nI 0)) hx hb dX10_cutLine_63 (by decide)) ?_
      have hk9 : kC 10 = 0 := rfl
      have hw9 : kW 10 0 = 0 := rfl
      have hd9 : decide ((10 : Nat) = 256) = false := rfl
      refine jJ_eq (g2 := F0 m 64 ls [.int (bI (decide (10 = 256))), .int (nI (kW 10 0)), .int (nI (pb T i)), .int (nI (kC 10)), .ref (Z 0)]) (cs2 := [[(Z 0, .inr (8, [E 0, E 1, E 2, .ref (Z 1), E 4, E 5, E 6, E 7, E 8, E 9, E 10, E 11, E 12, E 13, E 14, E 15, E 16, E 17, E 18]))], [(Z 1, .inr (7, [.ref (Z 8), .int (nI T.length), .ref (Z 3), .ref (Z 4), .ref (Z 5), .ref (Z 6), .int (nI ((tk 0).length)), X 7, X 8, X 9, X 10, X 11, X 12]))], [(Z 8, .inl (cB, 16000, .inl B))], [(Z 3, .inl (cB, 32008, .inl (V 0)))], [(Z 4, .inl (cI, 32008, .inl (V 1)))], [(Z 5, .inl (cI, 32008, .inl (V 2)))], [(Z 6, .inl (cZ, 32008, .inl (V 3)))]]) (by rw [hk9, hw9, hd9]; rfl) rfl ?_
      refine jJ_callV (As := [.int (nI (kC 10)), .int (nI (pb T i)), .int (nI (kW 10 0)), .int (bI (decide (10 = 256)))]) (rest := []) (wc := jF (tWd cI cB cZ Z (lsV [E 0, E 1, E 2, .null, E 4, E 5, E 6, E 7, E 8, E 9, E 10, E 11, E 12, E 13, E 14, E 15, E 16, E 17, E 18]) (lsV [.ref (Z 8), .int (nI T.length), .null, .null, .null, .null, .null, X 7, X 8, X 9, X 10, X 11, X 12]) V ((tk 0).length))) (cs2 := [[(Z 8, .inl (cB, 16000, .inl B))]]) (C := RX10) (T := TX10) (N := 19) (ci := 8) [0, 1, 3, 4, 5, 6] [2] ⟨hx, hb, hml, hown, hts⟩ hK hA hAm (c_Md_token (E := lsV [E 0, E 1, E 2, .null, E 4, E 5, E 6, E 7, E 8, E 9, E 10, E 11, E 12, E 13, E 14, E 15, E 16, E 17, E 18]) (X := lsV [.ref (Z 8), .int (nI T.length), .null, .null, .null, .null, .null, X 7, X 8, X 9, X 10, X 11, X 12]) hT hl9 (by omega) 10 (pb T i) 0 (by omega) (by omega) (by omega)) (cwV 4 hts gX10_cutLine_X10_token rfl rfl rfl (by decide +kernel) ⟨Nat.le_of_ble_eq_true rfl, Nat.le_of_ble_eq_true rfl⟩) (nn := 7) rfl (by decide) rfl rfl ⟨0, _, rfl⟩ rfl rfl rfl hl.1 (Nat.le_of_ble_eq_true rfl) dX10_cutLine_64 (by show _ + 0 ≤ 0; omega) (by show _ + 0 ≤ 0; omega) (fun v u3 k3 n3 hq3 => ?_)
      obtain ⟨rfl, V3, hT3, hw3, rfl, rfl⟩ := hq3
      rw [hw3]
      refine jJ_open (xs := [[(Z 0, .inr (8, [E 0, E 1, E 2, .ref (Z 1), E 4, E 5, E 6, E 7, E 8, E 9, E 10, E 11, E 12, E 13, E 14, E 15, E 16, E 17, E 18]))], [(Z 1, .inr (7, [.ref (Z 8), .int (nI T.length), .ref (Z 3), .ref (Z 4), .ref (Z 5), .ref (Z 6), .int (nI ((tk 0).length + 1)), X 7, X 8, X 9, X 10, X 11, X 12]))], [(Z 3, .inl (cB, 32008, .inl (V3 0)))], [(Z 4, .inl (cI, 32008, .inl (V3 1)))], [(Z 5, .inl (cI, 32008, .inl (V3 2)))], [(Z 6, .inl (cZ, 32008, .inl (V3 3)))]]) (r := [[(Z 8, .inl (cB, 16000, .inl B))]]) (cs2 := [[(Z 0, .inr (8, [E 0, E 1, E 2, .ref (Z 1), E 4, E 5, E 6, E 7, E 8, E 9, E 10, E 11, E 12, E 13, E 14, E 15, E 16, E 17, E 18]))], [(Z 1, .inr (7, [.ref (Z 8), .int (nI T.length), .ref (Z 3), .ref (Z 4), .ref (Z 5), .ref (Z 6), .int (nI ((tk 0).length + 1)), X 7, X 8, X 9, X 10, X 11, X 12]))], [(Z 3, .inl (cB, 32008, .inl (V3 0)))], [(Z 4, .inl (cI, 32008, .inl (V3 1)))], [(Z 5, .inl (cI, 32008, .inl (V3 2)))], [(Z 6, .inl (cZ, 32008, .inl (V3 3)))], [(Z 8, .inl (cB, 16000, .inl B))]]) rfl ?_
      refine jJ_eq (g2 := F0 m 67 ls []) (cs2 := [[(Z 0, .inr (8, [E 0, E 1, E 2, .ref (Z 1), E 4, E 5, E 6, E 7, E 8, E 9, E 10, E 11, E 12, E 13, E 14, E 15, E 16, E 17, E 18]))], [(Z 1, .inr (7, [.ref (Z 8), .int (nI T.length), .ref (Z 3), .ref (Z 4), .ref (Z 5), .ref (Z 6), .int (nI ((tk 0).length + 1)), X 7, X 8, X 9, X 10, X 11, X 12]))], [(Z 3, .inl (cB, 32008, .inl (V3 0)))], [(Z 4, .inl (cI, 32008, .inl (V3 1)))], [(Z 5, .inl (cI, 32008, .inl (V3 2)))], [(Z 6, .inl (cZ, 32008, .inl (V3 3)))], [(Z 8, .inl (cB, 16000, .inl B))]]) rfl rfl ?_
      refine jJ_of (fun H locs => lv_iload_n hx hb dX10_cutLine_67 rfl (lv_at hl 0 rfl)) ?_
      refine jJ_of (fun H locs => lv_iconst (v := (nI 1)) hx hb dX10_cutLine_68 (by decide)) ?_
      refine jJ_of (fun H locs => jn_iadd hx hb dX10_cutLine_69) ?_
      refine jJ_perm [0, 1, 6, 2, 3, 4, 5] (nn := 7) rfl (by decide) (cs2 := [[(Z 0, .inr (8, [E 0, E 1, E 2, .ref (Z 1), E 4, E 5, E 6, E 7, E 8, E 9, E 10, E 11, E 12, E 13, E 14, E 15, E 16, E 17, E 18]))], [(Z 1, .inr (7, [.ref (Z 8), .int (nI T.length), .ref (Z 3), .ref (Z 4), .ref (Z 5), .ref (Z 6), .int (nI ((tk 0).length + 1)), X 7, X 8, X 9, X 10, X 11, X 12]))], [(Z 8, .inl (cB, 16000, .inl B))], [(Z 3, .inl (cB, 32008, .inl (V3 0)))], [(Z 4, .inl (cI, 32008, .inl (V3 1)))], [(Z 5, .inl (cI, 32008, .inl (V3 2)))], [(Z 6, .inl (cZ, 32008, .inl (V3 3)))]]) rfl ?_
      have hU : uTok T i = (10, pb T i, 0, pb T i + 1) := by
        unfold uTok
        split
        · rw [show pb T i = T.length by omega]
        · rw [oT_s (by omega) (by omega), show T.getD (pb T i) 0 = 10 by omega]; rfl
      have he : cuF T (T.length + 1) tk0 i0 = (tkAdd tk 10 (pb T i) 0, pb T i + 1) := by rw [← hcl]; show (if _ then _ else _) = _; rw [hU]; rfl
      exact jJ_iret hx hb hr hlocks dX10_cutLine_70 (by show _ ≤ 0; omega) (by show _ ≤ 0; omega) ⟨by rw [he], ⟨V3, by rw [he]; exact hT3, by rw [he, tkAdd_l]; rfl⟩, rfl, rfl⟩
    · refine jJ_of (fun H locs => lv_aload_n hx hb dX10_cutLine_14 rfl (lv_at hl 1 rfl)) ?_
      refine jJ_of (fun H locs => lv_iload_n hx hb dX10_cutLine_15 rfl (lv_at hl 0 rfl)) ?_
      refine jJ_callV (As := [.int (nI (pb T i))]) (rest := []) (wc := jF (bWd cB Z (lsV [E 0, E 1, E 2, .null, E 4, E 5, E 6, E 7, E 8, E 9, E 10, E 11, E 12, E 13, E 14, E 15, E 16, E 17, E 18]) (lsV [.null, .null, .ref (Z 3), .ref (Z 4), .ref (Z 5), .ref (Z 6), .int (nI ((tk 0).length)), X 7, X 8, X 9, X 10, X 11, X 12]) B T.length)) (cs2 := [[(Z 3, .inl (cB, 32008, .inl (V 0)))], [(Z 4, .inl (cI, 32008, .inl (V 1)))], [(Z 5, .inl (cI, 32008, .inl (V 2)))], [(Z 6, .inl (cZ, 32008, .inl (V 3)))]]) (C := RX10) (T := TX10) (N := 19) (ci := 8) [0, 1, 2] [3, 4, 5, 6] ⟨hx, hb, hml, hown, hts⟩ hK hA hAm (c_Md_look (E := lsV [E 0, E 1, E 2, .null, E 4, E 5, E 6, E 7, E 8, E 9, E 10, E 11, E 12, E 13, E 14, E 15, E 16, E 17, E 18]) (X := lsV [.null, .null, .ref (Z 3), .ref (Z 4), .ref (Z 5), .ref (Z 6), .int (nI ((tk 0).length)), X 7, X 8, X 9, X 10, X 11, X 12]) hB (pb T i) (by omega)) (cwV 1 hts gX10_cutLine_X10_look rfl rfl rfl (by decide +kernel) ⟨Nat.le_of_ble_eq_true rfl, Nat.le_of_ble_eq_true rfl⟩) (nn := 7) rfl (by decide) rfl rfl ⟨0, _, rfl⟩ rfl rfl rfl hl.1 (Nat.le_of_ble_eq_true rfl) dX10_cutLine_16 (by show _ + 0 ≤ 0; omega) (by show _ + 0 ≤ 0; omega) (fun v u4 k4 n4 hq4 => ?_)
      obtain ⟨hv4, hw4, rfl, rfl⟩ := hq4
      subst hv4
      rw [hw4]
      refine jJ_open (xs := [[(Z 0, .inr (8, [E 0, E 1, E 2, .ref (Z 1), E 4, E 5, E 6, E 7, E 8, E 9, E 10, E 11, E 12, E 13, E 14, E 15, E 16, E 17, E 18]))], [(Z 1, .inr (7, [.ref (Z 8), .int (nI T.length), .ref (Z 3), .ref (Z 4), .ref (Z 5), .ref (Z 6), .int (nI ((tk 0).length)), X 7, X 8, X 9, X 10, X 11, X 12]))], [(Z 8, .inl (cB, 16000, .inl B))]]) (r := [[(Z 3, .inl (cB, 32008, .inl (V 0)))], [(Z 4, .inl (cI, 32008, .inl (V 1)))], [(Z 5, .inl (cI, 32008, .inl (V 2)))], [(Z 6, .inl (cZ, 32008, .inl (V 3)))]]) (cs2 := [[(Z 0, .inr (8, [E 0, E 1, E 2, .ref (Z 1), E 4, E 5, E 6, E 7, E 8, E 9, E 10, E 11, E 12, E 13, E 14, E 15, E 16, E 17, E 18]))], [(Z 1, .inr (7, [.ref (Z 8), .int (nI T.length), .ref (Z 3), .ref (Z 4), .ref (Z 5), .ref (Z 6), .int (nI ((tk 0).length)), X 7, X 8, X 9, X 10, X 11, X 12]))], [(Z 8, .inl (cB, 16000, .inl B))], [(Z 3, .inl (cB, 32008, .inl (V 0)))], [(Z 4, .inl (cI, 32008, .inl (V 1)))], [(Z 5, .inl (cI, 32008, .inl (V 2)))], [(Z 6, .inl (cZ, 32008, .inl (V 3)))]]) rfl ?_
      refine jJ_eq (g2 := F0 m 19 ls [.int (iI (lk T (pb T i)))]) (cs2 := [[(Z 0, .inr (8, [E 0, E 1, E 2, .ref (Z 1), E 4, E 5, E 6, E 7, E 8, E 9, E 10, E 11, E 12, E 13, E 14, E 15, E 16, E 17, E 18]))], [(Z 1, .inr (7, [.ref (Z 8), .int (nI T.length), .ref (Z 3), .ref (Z 4), .ref (Z 5), .ref (Z 6), .int (nI ((tk 0).length)), X 7, X 8, X 9, X 10, X 11, X 12]))], [(Z 8, .inl (cB, 16000, .inl B))], [(Z 3, .inl (cB, 32008, .inl (V 0)))], [(Z 4, .inl (cI, 32008, .inl (V 1)))], [(Z 5, .inl (cI, 32008, .inl (V 2)))], [(Z 6, .inl (cZ, 32008, .inl (V 3)))]]) rfl rfl ?_
      have hlk4_19 := lk_c T (pb T i)
      have hl256_4_19 := hB.2.2 (pb T i)
      refine jJ_of (fun H locs => lv_bipush (v := (nI 10)) hx hb dX10_cutLine_19 (by decide)) ?_
      rw [nI_iI 10]
      refine jJ_eq (g2 := F0 m 21 ls [.int (iI 10), .int (iI (lk T (pb T i)))]) (cs2 := [[(Z 0, .inr (8, [E 0, E 1, E 2, .ref (Z 1), E 4, E 5, E 6, E 7, E 8, E 9, E 10, E 11, E 12, E 13, E 14, E 15, E 16, E 17, E 18]))], [(Z 1, .inr (7, [.ref (Z 8), .int (nI T.length), .ref (Z 3), .ref (Z 4), .ref (Z 5), .ref (Z 6), .int (nI ((tk 0).length)), X 7, X 8, X 9, X 10, X 11, X 12]))], [(Z 8, .inl (cB, 16000, .inl B))], [(Z 3, .inl (cB, 32008, .inl (V 0)))], [(Z 4, .inl (cI, 32008, .inl (V 1)))], [(Z 5, .inl (cI, 32008, .inl (V 2)))], [(Z 6, .inl (cZ, 32008, .inl (V 3)))]]) rfl rfl ?_
      refine jJ_of2 (fun H locs => jz_icmp_eq (tgt := 59) hx hb dX10_cutLine_21 (by decide) (by omega) (by omega) (by omega) (by omega)) (fun c21 => ?_) (fun c21 => ?_)
      · refine jJ_of (fun H locs => lv_aload_n hx hb dX10_cutLine_59 rfl (lv_at hl 1 rfl)) ?_
        refine jJ_of (fun H locs => lv_iconst (v := (nI 0)) hx hb dX10_cutLine_60 (by decide)) ?_
        refine jJ_of (fun H locs => lv_iload_n hx hb dX10_cutLine_61 rfl (lv_at hl 0 rfl)) ?_
        refine jJ_of (fun H locs => lv_iconst (v := (nI 0)) hx hb dX10_cutLine_62 (by decide)) ?_
        refine jJ_of (fun H locs => lv_iconst (v := (nI 0)) hx hb dX10_cutLine_63 (by decide)) ?_
        have hk9 : kC 10 = 0 := rfl
        have hw9 : kW 10 0 = 0 := rfl
        have hd9 : decide ((10 : Nat) = 256) = false := rfl
        refine jJ_eq (g2 := F0 m 64 ls [.int (bI (decide (10 = 256))), .int (nI (kW 10 0)), .int (nI (pb T i)), .int (nI (kC 10)), .ref (Z 0)]) (cs2 := [[(Z 0, .inr (8, [E 0, E 1, E 2, .ref (Z 1), E 4, E 5, E 6, E 7, E 8, E 9, E 10, E 11, E 12, E 13, E 14, E 15, E 16, E 17, E 18]))], [(Z 1, .inr (7, [.ref (Z 8), .int (nI T.length), .ref (Z 3), .ref (Z 4), .ref (Z 5), .ref (Z 6), .int (nI ((tk 0).length)), X 7, X 8, X 9, X 10, X 11, X 12]))], [(Z 8, .inl (cB, 16000, .inl B))], [(Z 3, .inl (cB, 32008, .inl (V 0)))], [(Z 4, .inl (cI, 32008, .inl (V 1)))], [(Z 5, .inl (cI, 32008, .inl (V 2)))], [(Z 6, .inl (cZ, 32008, .inl (V 3)))]]) (by rw [hk9, hw9, hd9]; rfl) rfl ?_
        refine jJ_callV (As := [.int (nI (kC 10)), .int (nI (pb T i)), .int (nI (kW 10 0)), .int (bI (decide (10 = 256)))]) (rest := []) (wc := jF (tWd cI cB cZ Z (lsV [E 0, E 1, E 2, .null, E 4, E 5, E 6, E 7, E 8, E 9, E 10, E 11, E 12, E 13, E 14, E 15, E 16, E 17, E 18]) (lsV [.ref (Z 8), .int (nI T.length), .null, .null, .null, .null, .null, X 7, X 8, X 9, X 10, X 11, X 12]) V ((tk 0).length))) (cs2 := [[(Z 8, .inl (cB, 16000, .inl B))]]) (C := RX10) (T := TX10) (N := 19) (ci := 8) [0, 1, 3, 4, 5, 6] [2] ⟨hx, hb, hml, hown, hts⟩ hK hA hAm (c_Md_token (E := lsV [E 0, E 1, E 2, .null, E 4, E 5, E 6, E 7, E 8, E 9, E 10, E 11, E 12, E 13, E 14, E 15, E 16, E 17, E 18]) (X := lsV [.ref (Z 8), .int (nI T.length), .null, .null, .null, .null, .null, X 7, X 8, X 9, X 10, X 11, X 12]) hT hl9 (by omega) 10 (pb T i) 0 (by omega) (by omega) (by omega)) (cwV 4 hts gX10_cutLine_X10_token rfl rfl rfl (by decide +kernel) ⟨Nat.le_of_ble_eq_true rfl, Nat.le_of_ble_eq_true rfl⟩) (nn := 7) rfl (by decide) rfl rfl ⟨0, _, rfl⟩ rfl rfl rfl hl.1 (Nat.le_of_ble_eq_true rfl) dX10_cutLine_64 (by show _ + 0 ≤ 0; omega) (by show _ + 0 ≤ 0; omega) (fun v u5 k5 n5 hq5 => ?_)
        obtain ⟨rfl, V5, hT5, hw5, rfl, rfl⟩ := hq5
        rw [hw5]
        refine jJ_open (xs := [[(Z 0, .inr (8, [E 0, E 1, E 2, .ref (Z 1), E 4, E 5, E 6, E 7, E 8, E 9, E 10, E 11, E 12, E 13, E 14, E 15, E 16, E 17, E 18]))], [(Z 1, .inr (7, [.ref (Z 8), .int (nI T.length), .ref (Z 3), .ref (Z 4), .ref (Z 5), .ref (Z 6), .int (nI ((tk 0).length + 1)), X 7, X 8, X 9, X 10, X 11, X 12]))], [(Z 3, .inl (cB, 32008, .inl (V5 0)))], [(Z 4, .inl (cI, 32008, .inl (V5 1)))], [(Z 5, .inl (cI, 32008, .inl (V5 2)))], [(Z 6, .inl (cZ, 32008, .inl (V5 3)))]]) (r := [[(Z 8, .inl (cB, 16000, .inl B))]]) (cs2 := [[(Z 0, .inr (8, [E 0, E 1, E 2, .ref (Z 1), E 4, E 5, E 6, E 7, E 8, E 9, E 10, E 11, E 12, E 13, E 14, E 15, E 16, E 17, E 18]))], [(Z 1, .inr (7, [.ref (Z 8), .int (nI T.length), .ref (Z 3), .ref (Z 4), .ref (Z 5), .ref (Z 6), .int (nI ((tk 0).length + 1)), X 7, X 8, X 9, X 10, X 11, X 12]))], [(Z 3, .inl (cB, 32008, .inl (V5 0)))], [(Z 4, .inl (cI, 32008, .inl (V5 1)))], [(Z 5, .inl (cI, 32008, .inl (V5 2)))], [(Z 6, .inl (cZ, 32008, .inl (V5 3)))], [(Z 8, .inl (cB, 16000, .inl B))]]) rfl ?_
        refine jJ_eq (g2 := F0 m 67 ls []) (cs2 := [[(Z 0, .inr (8, [E 0, E 1, E 2, .ref (Z 1), E 4, E 5, E 6, E 7, E 8, E 9, E 10, E 11, E 12, E 13, E 14, E 15, E 16, E 17, E 18]))], [(Z 1, .inr (7, [.ref (Z 8), .int (nI T.length), .ref (Z 3), .ref (Z 4), .ref (Z 5), .ref (Z 6), .int (nI ((tk 0).length + 1)), X 7, X 8, X 9, X 10, X 11, X 12]))], [(Z 3, .inl (cB, 32008, .inl (V5 0)))], [(Z 4, .inl (cI, 32008, .inl (V5 1)))], [(Z 5, .inl (cI, 32008, .inl (V5 2)))], [(Z 6, .inl (cZ, 32008, .inl (V5 3)))], [(Z 8, .inl (cB, 16000, .inl B))]]) rfl rfl ?_
        refine jJ_of (fun H locs => lv_iload_n hx hb dX10_cutLine_67 rfl (lv_at hl 0 rfl)) ?_
        refine jJ_of (fun H locs => lv_iconst (v := (nI 1)) hx hb dX10_cutLine_68 (by decide)) ?_
        refine jJ_of (fun H locs => jn_iadd hx hb dX10_cutLine_69) ?_
        refine jJ_perm [0, 1, 6, 2, 3, 4, 5] (nn := 7) rfl (by decide) (cs2 := [[(Z 0, .inr (8, [E 0, E 1, E 2, .ref (Z 1), E 4, E 5, E 6, E 7, E 8, E 9, E 10, E 11, E 12, E 13, E 14, E 15, E 16, E 17, E 18]))], [(Z 1, .inr (7, [.ref (Z 8), .int (nI T.length), .ref (Z 3), .ref (Z 4), .ref (Z 5), .ref (Z 6), .int (nI ((tk 0).length + 1)), X 7, X 8, X 9, X 10, X 11, X 12]))], [(Z 8, .inl (cB, 16000, .inl B))], [(Z 3, .inl (cB, 32008, .inl (V5 0)))], [(Z 4, .inl (cI, 32008, .inl (V5 1)))], [(Z 5, .inl (cI, 32008, .inl (V5 2)))], [(Z 6, .inl (cZ, 32008, .inl (V5 3)))]]) rfl ?_
        have hU : uTok T i = (10, pb T i, 0, pb T i + 1) := by
          unfold uTok
          split
          · rw [show pb T i = T.length by omega]
          · rw [oT_s (by omega) (by omega), show T.getD (pb T i) 0 = 10 by omega]; rfl
        have he : cuF T (T.length + 1) tk0 i0 = (tkAdd tk 10 (pb T i) 0, pb T i + 1) := by rw [← hcl]; show (if _ then _ else _) = _; rw [hU]; rfl
        exact jJ_iret hx hb hr hlocks dX10_cutLine_70 (by show _ ≤ 0; omega) (by show _ ≤ 0; omega) ⟨by rw [he], ⟨V5, by rw [he]; exact hT5, by rw [he, tkAdd_l]; rfl⟩, rfl, rfl⟩
      · refine jJ_of (fun H locs => lv_aload_n hx hb dX10_cutLine_24 rfl (lv_at hl 1 rfl)) ?_
        refine jJ_of (fun H locs => lv_iload_n hx hb dX10_cutLine_25 rfl (lv_at hl 0 rfl)) ?_
        refine jJ_callV (As := [.int (nI (pb T i))]) (rest := []) (wc := jF (zW cI cB cZ Z (lsV [E 0, E 1, E 2, .null, E 4, E 5, E 6, E 7, E 8, E 9, E 10, E 11, E 12, E 13, E 14, E 15, E 16, E 17, E 18]) (lsV [.null, .null, .null, .null, .null, .null, .null, X 7, X 8, X 9, X 10, X 11, X 12]) B V T.length ((tk 0).length))) (cs2 := []) (C := RX10) (T := TX10) (N := 19) (ci := 8) [0, 1, 2, 3, 4, 5, 6] [] ⟨hx, hb, hml, hown, hts⟩ hK hA hAm (c_Md_one (E := lsV [E 0, E 1, E 2, .null, E 4, E 5, E 6, E 7, E 8, E 9, E 10, E 11, E 12, E 13, E 14, E 15, E 16, E 17, E 18]) (X := lsV [.null, .null, .null, .null, .null, .null, .null, X 7, X 8, X 9, X 10, X 11, X 12]) hB hT hl9 (by omega) (pb T i) (by omega) (by omega)) (cwV 1 hts gX10_cutLine_X10_one rfl rfl rfl (by decide +kernel) ⟨Nat.le_of_ble_eq_true rfl, Nat.le_of_ble_eq_true rfl⟩) (nn := 7) rfl (by decide) rfl rfl ⟨0, _, rfl⟩ rfl rfl rfl hl.1 (Nat.le_of_ble_eq_true rfl) dX10_cutLine_26 (by show _ + 0 ≤ 0; omega) (by show _ + 0 ≤ 0; omega) (fun v u6 k6 n6 hq6 => ?_)
        obtain ⟨hv6, ⟨V6, hT6, hw6⟩, rfl, rfl⟩ := hq6
        subst hv6
        rw [hw6]
        refine jJ_open (xs := [[(Z 0, .inr (8, [E 0, E 1, E 2, .ref (Z 1), E 4, E 5, E 6, E 7, E 8, E 9, E 10, E 11, E 12, E 13, E 14, E 15, E 16, E 17, E 18]))], [(Z 1, .inr (7, [.ref (Z 8), .int (nI T.length), .ref (Z 3), .ref (Z 4), .ref (Z 5), .ref (Z 6), .int (nI (((oTk T tk (pb T i)) 0).length)), X 7, X 8, X 9, X 10, X 11, X 12]))], [(Z 8, .inl (cB, 16000, .inl B))], [(Z 3, .inl (cB, 32008, .inl (V6 0)))], [(Z 4, .inl (cI, 32008, .inl (V6 1)))], [(Z 5, .inl (cI, 32008, .inl (V6 2)))], [(Z 6, .inl (cZ, 32008, .inl (V6 3)))]]) (r := []) (cs2 := [[(Z 0, .inr (8, [E 0, E 1, E 2, .ref (Z 1), E 4, E 5, E 6, E 7, E 8, E 9, E 10, E 11, E 12, E 13, E 14, E 15, E 16, E 17, E 18]))], [(Z 1, .inr (7, [.ref (Z 8), .int (nI T.length), .ref (Z 3), .ref (Z 4), .ref (Z 5), .ref (Z 6), .int (nI (((oTk T tk (pb T i)) 0).length)), X 7, X 8, X 9, X 10, X 11, X 12]))], [(Z 8, .inl (cB, 16000, .inl B))], [(Z 3, .inl (cB, 32008, .inl (V6 0)))], [(Z 4, .inl (cI, 32008, .inl (V6 1)))], [(Z 5, .inl (cI, 32008, .inl (V6 2)))], [(Z 6, .inl (cZ, 32008, .inl (V6 3)))]]) rfl ?_
        refine jJ_eq (g2 := F0 m 29 ls [.int (iI (oR T (pb T i)))]) (cs2 := [[(Z 0, .inr (8, [E 0, E 1, E 2, .ref (Z 1), E 4, E 5, E 6, E 7, E 8, E 9, E 10, E 11, E 12, E 13, E 14, E 15, E 16, E 17, E 18]))], [(Z 1, .inr (7, [.ref (Z 8), .int (nI T.length), .ref (Z 3), .ref (Z 4), .ref (Z 5), .ref (Z 6), .int (nI (((oTk T tk (pb T i)) 0).length)), X 7, X 8, X 9, X 10, X 11, X 12]))], [(Z 8, .inl (cB, 16000, .inl B))], [(Z 3, .inl (cB, 32008, .inl (V6 0)))], [(Z 4, .inl (cI, 32008, .inl (V6 1)))], [(Z 5, .inl (cI, 32008, .inl (V6 2)))], [(Z 6, .inl (cZ, 32008, .inl (V6 3)))]]) rfl rfl ?_
        have hob6 := oR_b (T := T) (k := pb T i) (by omega)
        refine jJ_ofL (fun H locs => lv_istore_n (lv' := [(3, .int (iI (oR T (pb T i)))), (2, .int (nI (pb T i))), (0, .ref (Z 0))]) hx hb dX10_cutLine_29 rfl hl (by decide) rfl) (fun ls hl => ?_)
        refine jJ_of (fun H locs => lv_iload_n hx hb dX10_cutLine_30 rfl (lv_at hl 0 rfl)) ?_
        refine jJ_of2 (fun H locs => jz_if_ge (tgt := 50) hx hb dX10_cutLine_31 (by decide) (by omega) (by omega)) (fun c31 => ?_) (fun c31 => ?_)
        · have hO : ¬ (oT T (pb T i)).1 = 0 := by
            intro q
            have h2 : oR T (pb T i) = -1 := if_pos q
            omega
          have hOR : oR T (pb T i) = (((oT T (pb T i)).2.2.2 : Nat) : Int) := if_neg hO
          have hOn := oT_n (T := T) (k := pb T i) (by omega)
          have hTk1 : oTk T tk (pb T i) = tkAdd tk (oT T (pb T i)).1 (oT T (pb T i)).2.1 (oT T (pb T i)).2.2.1 := if_neg hO
          have hU : uTok T i = oT T (pb T i) := if_neg (by omega)
          have hO10 : ¬ (oT T (pb T i)).1 = 10 := oT_10 (by omega)
          refine jJ_of (fun H locs => lv_aload_n hx hb dX10_cutLine_50 rfl (lv_at hl 2 rfl)) ?_
          refine jJ_of (fun H locs => lv_iload_n hx hb dX10_cutLine_51 rfl (lv_at hl 0 rfl)) ?_
          rw [hOR, ← nI_iI]
          refine jJ_eq (g2 := F0 m 52 ls [.int (nI ((oT T (pb T i)).2.2.2)), .ref (Z 0)]) (cs2 := [[(Z 0, .inr (8, [E 0, E 1, E 2, .ref (Z 1), E 4, E 5, E 6, E 7, E 8, E 9, E 10, E 11, E 12, E 13, E 14, E 15, E 16, E 17, E 18]))], [(Z 1, .inr (7, [.ref (Z 8), .int (nI T.length), .ref (Z 3), .ref (Z 4), .ref (Z 5), .ref (Z 6), .int (nI (((oTk T tk (pb T i)) 0).length)), X 7, X 8, X 9, X 10, X 11, X 12]))], [(Z 8, .inl (cB, 16000, .inl B))], [(Z 3, .inl (cB, 32008, .inl (V6 0)))], [(Z 4, .inl (cI, 32008, .inl (V6 1)))], [(Z 5, .inl (cI, 32008, .inl (V6 2)))], [(Z 6, .inl (cZ, 32008, .inl (V6 3)))]]) rfl rfl ?_
          refine jJ_callV (As := [.int (nI ((oT T (pb T i)).2.2.2))]) (rest := []) (wc := jF (bWd cB Z (lsV [E 0, E 1, E 2, .null, E 4, E 5, E 6, E 7, E 8, E 9, E 10, E 11, E 12, E 13, E 14, E 15, E 16, E 17, E 18]) (lsV [.null, .null, .ref (Z 3), .ref (Z 4), .ref (Z 5), .ref (Z 6), .int (nI (((oTk T tk (pb T i)) 0).length)), X 7, X 8, X 9, X 10, X 11, X 12]) B T.length)) (cs2 := [[(Z 3, .inl (cB, 32008, .inl (V6 0)))], [(Z 4, .inl (cI, 32008, .inl (V6 1)))], [(Z 5, .inl (cI, 32008, .inl (V6 2)))], [(Z 6, .inl (cZ, 32008, .inl (V6 3)))]]) (C := RX10) (T := TX10) (N := 19) (ci := 8) [0, 1, 2] [3, 4, 5, 6] ⟨hx, hb, hml, hown, hts⟩ hK hA hAm (c_Md_blanks (E := lsV [E 0, E 1, E 2, .null, E 4, E 5, E 6, E 7, E 8, E 9, E 10, E 11, E 12, E 13, E 14, E 15, E 16, E 17, E 18]) (X := lsV [.null, .null, .ref (Z 3), .ref (Z 4), .ref (Z 5), .ref (Z 6), .int (nI (((oTk T tk (pb T i)) 0).length)), X 7, X 8, X 9, X 10, X 11, X 12]) hB ((oT T (pb T i)).2.2.2) (by omega)) (cwV 1 hts gX10_cutLine_X10_behindBlanks rfl rfl rfl (by decide +kernel) ⟨Nat.le_of_ble_eq_true rfl, Nat.le_of_ble_eq_true rfl⟩) (nn := 7) rfl (by decide) rfl rfl ⟨0, _, rfl⟩ rfl rfl rfl hl.1 (Nat.le_of_ble_eq_true rfl) dX10_cutLine_52 (by show _ + 0 ≤ 0; omega) (by show _ + 0 ≤ 0; omega) (fun v u7 k7 n7 hq7 => ?_)
          obtain ⟨hv7, hw7, rfl, rfl⟩ := hq7
          subst hv7
          rw [hw7]
          have hpb7 := pbF_b T (T.length + 1) ((oT T (pb T i)).2.2.2)
          have hpq7 : pb T ((oT T (pb T i)).2.2.2) = pbF T (T.length + 1) ((oT T (pb T i)).2.2.2) := rfl
          refine jJ_open (xs := [[(Z 0, .inr (8, [E 0, E 1, E 2, .ref (Z 1), E 4, E 5, E 6, E 7, E 8, E 9, E 10, E 11, E 12, E 13, E 14, E 15, E 16, E 17, E 18]))], [(Z 1, .inr (7, [.ref (Z 8), .int (nI T.length), .ref (Z 3), .ref (Z 4), .ref (Z 5), .ref (Z 6), .int (nI (((oTk T tk (pb T i)) 0).length)), X 7, X 8, X 9, X 10, X 11, X 12]))], [(Z 8, .inl (cB, 16000, .inl B))]]) (r := [[(Z 3, .inl (cB, 32008, .inl (V6 0)))], [(Z 4, .inl (cI, 32008, .inl (V6 1)))], [(Z 5, .inl (cI, 32008, .inl (V6 2)))], [(Z 6, .inl (cZ, 32008, .inl (V6 3)))]]) (cs2 := [[(Z 0, .inr (8, [E 0, E 1, E 2, .ref (Z 1), E 4, E 5, E 6, E 7, E 8, E 9, E 10, E 11, E 12, E 13, E 14, E 15, E 16, E 17, E 18]))], [(Z 1, .inr (7, [.ref (Z 8), .int (nI T.length), .ref (Z 3), .ref (Z 4), .ref (Z 5), .ref (Z 6), .int (nI (((oTk T tk (pb T i)) 0).length)), X 7, X 8, X 9, X 10, X 11, X 12]))], [(Z 8, .inl (cB, 16000, .inl B))], [(Z 3, .inl (cB, 32008, .inl (V6 0)))], [(Z 4, .inl (cI, 32008, .inl (V6 1)))], [(Z 5, .inl (cI, 32008, .inl (V6 2)))], [(Z 6, .inl (cZ, 32008, .inl (V6 3)))]]) rfl ?_
          refine jJ_eq (g2 := F0 m 55 ls [.int (nI (pb T ((oT T (pb T i)).2.2.2)))]) (cs2 := [[(Z 0, .inr (8, [E 0, E 1, E 2, .ref (Z 1), E 4, E 5, E 6, E 7, E 8, E 9, E 10, E 11, E 12, E 13, E 14, E 15, E 16, E 17, E 18]))], [(Z 1, .inr (7, [.ref (Z 8), .int (nI T.length), .ref (Z 3), .ref (Z 4), .ref (Z 5), .ref (Z 6), .int (nI (((oTk T tk (pb T i)) 0).length)), X 7, X 8, X 9, X 10, X 11, X 12]))], [(Z 8, .inl (cB, 16000, .inl B))], [(Z 3, .inl (cB, 32008, .inl (V6 0)))], [(Z 4, .inl (cI, 32008, .inl (V6 1)))], [(Z 5, .inl (cI, 32008, .inl (V6 2)))], [(Z 6, .inl (cZ, 32008, .inl (V6 3)))]]) rfl rfl ?_
          refine jJ_ofL (fun H locs => lv_istore_n (lv' := [(2, .int (nI (pb T ((oT T (pb T i)).2.2.2)))), (3, .int (iI (oR T (pb T i)))), (0, .ref (Z 0))]) hx hb dX10_cutLine_55 rfl hl (by decide) rfl) (fun ls hl => ?_)
          refine jJ_of (fun H locs => lv_goto (tgt := 6) hx hb dX10_cutLine_56 (by decide)) ?_
          rw [hTk1] at hT6
          refine jJ_eq (g2 := F0 m 6 ls []) (cs2 := [[(Z 0, .inr (8, [E 0, E 1, E 2, .ref (Z 1), E 4, E 5, E 6, E 7, E 8, E 9, E 10, E 11, E 12, E 13, E 14, E 15, E 16, E 17, E 18]))], [(Z 1, .inr (7, [.ref (Z 8), .int (nI T.length), .ref (Z 3), .ref (Z 4), .ref (Z 5), .ref (Z 6), .int (nI ((tkAdd tk (oT T (pb T i)).1 (oT T (pb T i)).2.1 (oT T (pb T i)).2.2.1 0).length)), X 7, X 8, X 9, X 10, X 11, X 12]))], [(Z 8, .inl (cB, 16000, .inl B))], [(Z 3, .inl (cB, 32008, .inl (V6 0)))], [(Z 4, .inl (cI, 32008, .inl (V6 1)))], [(Z 5, .inl (cI, 32008, .inl (V6 2)))], [(Z 6, .inl (cZ, 32008, .inl (V6 3)))]]) rfl (by rw [hTk1]) ?_
          exact ih (oT T (pb T i)).2.2.2 (tkAdd tk (oT T (pb T i)).1 (oT T (pb T i)).2.1 (oT T (pb T i)).2.2.1) V6 (by omega) (by omega) (by rw [tkAdd_l]; omega) hT6 (tL_add hl9 _ _ _) (by rw [← hcl]; show _ = (if _ then _ else _); rw [hU, if_neg hO, if_neg hO10]) ls (lv_sub hl [0, 2] rfl)
        · have hO : (oT T (pb T i)).1 = 0 := by
            apply Classical.byContradiction
            intro q
            have h2 : oR T (pb T i) = (((oT T (pb T i)).2.2.2 : Nat) : Int) := if_neg q
            omega
          have hTk0 : oTk T tk (pb T i) = tk := if_pos hO
          rw [hTk0] at hT6
          refine jJ_eq (g2 := F0 m 34 ls []) (cs2 := [[(Z 0, .inr (8, [E 0, E 1, E 2, .ref (Z 1), E 4, E 5, E 6, E 7, E 8, E 9, E 10, E 11, E 12, E 13, E 14, E 15, E 16, E 17, E 18]))], [(Z 1, .inr (7, [.ref (Z 8), .int (nI T.length), .ref (Z 3), .ref (Z 4), .ref (Z 5), .ref (Z 6), .int (nI ((tk 0).length)), X 7, X 8, X 9, X 10, X 11, X 12]))], [(Z 8, .inl (cB, 16000, .inl B))], [(Z 3, .inl (cB, 32008, .inl (V6 0)))], [(Z 4, .inl (cI, 32008, .inl (V6 1)))], [(Z 5, .inl (cI, 32008, .inl (V6 2)))], [(Z 6, .inl (cZ, 32008, .inl (V6 3)))]]) rfl (by rw [hTk0]) ?_
          refine jJ_of (fun H locs => lv_aload_n hx hb dX10_cutLine_34 rfl (lv_at hl 2 rfl)) ?_
          refine jJ_of (fun H locs => lv_iconst (v := (nI 5)) hx hb dX10_cutLine_35 (by decide)) ?_
          refine jJ_of (fun H locs => lv_iload_n hx hb dX10_cutLine_36 rfl (lv_at hl 1 rfl)) ?_
          refine jJ_of (fun H locs => lv_iconst (v := (nI 0)) hx hb dX10_cutLine_37 (by decide)) ?_
          refine jJ_of (fun H locs => lv_iconst (v := (nI 0)) hx hb dX10_cutLine_38 (by decide)) ?_
          have hk9 : kC 0 = 5 := rfl
          have hw9 : kW 0 0 = 0 := rfl
          have hd9 : decide ((0 : Nat) = 256) = false := rfl
          refine jJ_eq (g2 := F0 m 39 ls [.int (bI (decide (0 = 256))), .int (nI (kW 0 0)), .int (nI (pb T i)), .int (nI (kC 0)), .ref (Z 0)]) (cs2 := [[(Z 0, .inr (8, [E 0, E 1, E 2, .ref (Z 1), E 4, E 5, E 6, E 7, E 8, E 9, E 10, E 11, E 12, E 13, E 14, E 15, E 16, E 17, E 18]))], [(Z 1, .inr (7, [.ref (Z 8), .int (nI T.length), .ref (Z 3), .ref (Z 4), .ref (Z 5), .ref (Z 6), .int (nI ((tk 0).length)), X 7, X 8, X 9, X 10, X 11, X 12]))], [(Z 8, .inl (cB, 16000, .inl B))], [(Z 3, .inl (cB, 32008, .inl (V6 0)))], [(Z 4, .inl (cI, 32008, .inl (V6 1)))], [(Z 5, .inl (cI, 32008, .inl (V6 2)))], [(Z 6, .inl (cZ, 32008, .inl (V6 3)))]]) (by rw [hk9, hw9, hd9]; rfl) rfl ?_
          refine jJ_callV (As := [.int (nI (kC 0)), .int (nI (pb T i)), .int (nI (kW 0 0)), .int (bI (decide (0 = 256)))]) (rest := []) (wc := jF (tWd cI cB cZ Z (lsV [E 0, E 1, E 2, .null, E 4, E 5, E 6, E 7, E 8, E 9, E 10, E 11, E 12, E 13, E 14, E 15, E 16, E 17, E 18]) (lsV [.ref (Z 8), .int (nI T.length), .null, .null, .null, .null, .null, X 7, X 8, X 9, X 10, X 11, X 12]) V6 ((tk 0).length))) (cs2 := [[(Z 8, .inl (cB, 16000, .inl B))]]) (C := RX10) (T := TX10) (N := 19) (ci := 8) [0, 1, 3, 4, 5, 6] [2] ⟨hx, hb, hml, hown, hts⟩ hK hA hAm (c_Md_token (E := lsV [E 0, E 1, E 2, .null, E 4, E 5, E 6, E 7, E 8, E 9, E 10, E 11, E 12, E 13, E 14, E 15, E 16, E 17, E 18]) (X := lsV [.ref (Z 8), .int (nI T.length), .null, .null, .null, .null, .null, X 7, X 8, X 9, X 10, X 11, X 12]) hT6 hl9 (by omega) 0 (pb T i) 0 (by omega) (by omega) (by omega)) (cwV 4 hts gX10_cutLine_X10_token rfl rfl rfl (by decide +kernel) ⟨Nat.le_of_ble_eq_true rfl, Nat.le_of_ble_eq_true rfl⟩) (nn := 7) rfl (by decide) rfl rfl ⟨0, _, rfl⟩ rfl rfl rfl hl.1 (Nat.le_of_ble_eq_true rfl) dX10_cutLine_39 (by show _ + 0 ≤ 0; omega) (by show _ + 0 ≤ 0; omega) (fun v u8 k8 n8 hq8 => ?_)
          obtain ⟨rfl, V8, hT8, hw8, rfl, rfl⟩ := hq8
          rw [hw8]
          refine jJ_open (xs := [[(Z 0, .inr (8, [E 0, E 1, E 2, .ref (Z 1), E 4, E 5, E 6, E 7, E 8, E 9, E 10, E 11, E 12, E 13, E 14, E 15, E 16, E 17, E 18]))], [(Z 1, .inr (7, [.ref (Z 8), .int (nI T.length), .ref (Z 3), .ref (Z 4), .ref (Z 5), .ref (Z 6), .int (nI ((tk 0).length + 1)), X 7, X 8, X 9, X 10, X 11, X 12]))], [(Z 3, .inl (cB, 32008, .inl (V8 0)))], [(Z 4, .inl (cI, 32008, .inl (V8 1)))], [(Z 5, .inl (cI, 32008, .inl (V8 2)))], [(Z 6, .inl (cZ, 32008, .inl (V8 3)))]]) (r := [[(Z 8, .inl (cB, 16000, .inl B))]]) (cs2 := [[(Z 0, .inr (8, [E 0, E 1, E 2, .ref (Z 1), E 4, E 5, E 6, E 7, E 8, E 9, E 10, E 11, E 12, E 13, E 14, E 15, E 16, E 17, E 18]))], [(Z 1, .inr (7, [.ref (Z 8), .int (nI T.length), .ref (Z 3), .ref (Z 4), .ref (Z 5), .ref (Z 6), .int (nI ((tk 0).length + 1)), X 7, X 8, X 9, X 10, X 11, X 12]))], [(Z 3, .inl (cB, 32008, .inl (V8 0)))], [(Z 4, .inl (cI, 32008, .inl (V8 1)))], [(Z 5, .inl (cI, 32008, .inl (V8 2)))], [(Z 6, .inl (cZ, 32008, .inl (V8 3)))], [(Z 8, .inl (cB, 16000, .inl B))]]) rfl ?_
          refine jJ_eq (g2 := F0 m 42 ls []) (cs2 := [[(Z 0, .inr (8, [E 0, E 1, E 2, .ref (Z 1), E 4, E 5, E 6, E 7, E 8, E 9, E 10, E 11, E 12, E 13, E 14, E 15, E 16, E 17, E 18]))], [(Z 1, .inr (7, [.ref (Z 8), .int (nI T.length), .ref (Z 3), .ref (Z 4), .ref (Z 5), .ref (Z 6), .int (nI ((tk 0).length + 1)), X 7, X 8, X 9, X 10, X 11, X 12]))], [(Z 3, .inl (cB, 32008, .inl (V8 0)))], [(Z 4, .inl (cI, 32008, .inl (V8 1)))], [(Z 5, .inl (cI, 32008, .inl (V8 2)))], [(Z 6, .inl (cZ, 32008, .inl (V8 3)))], [(Z 8, .inl (cB, 16000, .inl B))]]) rfl rfl ?_
          refine jJ_of (fun H locs => lv_aload_n hx hb dX10_cutLine_42 rfl (lv_at hl 2 rfl)) ?_
          refine jJ_get hx hb (C := RX10) (T := TX10) (N := 19) hts uX10_in_X10_cutLine hown hK 0 rfl rfl 3 (by decide) (hts (.fieldLink RX10 53 "ValueBlocksModel" "t" "LValueBlocksModel$Text;") (by decide +kernel)) (fun _ h9 => h9) rfl dX10_cutLine_43 ?_
          refine jJ_get hx hb (C := RX9) (T := TX9) (N := 13) hts uX9_in_X10_cutLine hown hK 1 rfl rfl 1 (by decide) (hts (.fieldLink RX10 56 "ValueBlocksModel$Text" "size" "I") (by decide +kernel)) (fun _ h9 => h9) rfl dX10_cutLine_46 ?_
          refine jJ_perm [0, 1, 6, 2, 3, 4, 5] (nn := 7) rfl (by decide) (cs2 := [[(Z 0, .inr (8, [E 0, E 1, E 2, .ref (Z 1), E 4, E 5, E 6, E 7, E 8, E 9, E 10, E 11, E 12, E 13, E 14, E 15, E 16, E 17, E 18]))], [(Z 1, .inr (7, [.ref (Z 8), .int (nI T.length), .ref (Z 3), .ref (Z 4), .ref (Z 5), .ref (Z 6), .int (nI ((tk 0).length + 1)), X 7, X 8, X 9, X 10, X 11, X 12]))], [(Z 8, .inl (cB, 16000, .inl B))], [(Z 3, .inl (cB, 32008, .inl (V8 0)))], [(Z 4, .inl (cI, 32008, .inl (V8 1)))], [(Z 5, .inl (cI, 32008, .inl (V8 2)))], [(Z 6, .inl (cZ, 32008, .inl (V8 3)))]]) rfl ?_
          have hU : uTok T i = oT T (pb T i) := if_neg (by omega)
          have hOs := (oT_n (T := T) (k := pb T i) (by omega)).2.2
          have he : cuF T (T.length + 1) tk0 i0 = (tkAdd tk 0 (pb T i) 0, T.length) := by rw [← hcl]; show (if _ then _ else _) = _; rw [hU, if_pos hO, hOs]
          exact jJ_iret hx hb hr hlocks dX10_cutLine_49 (by show _ ≤ 0; omega) (by show _ ≤ 0; omega) ⟨by rw [he], ⟨V8, by rw [he]; exact hT8, by rw [he, tkAdd_l]; rfl⟩, rfl, rfl⟩
end MZ
