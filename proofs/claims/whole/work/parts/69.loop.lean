/-! the law: its loop -/
section LAW
variable {p : Program} {l : Launch} {e : Env} {s : State} {m : MethodId} {below : List Frame} {meth : Method} {c : Code} {b L : Nat} {xs : Nat → Int32} {D : va_G} {G : Nat → Nat} {cI cJ cB cZ : ClassId}

theorem jSt.kn {ax am : Nat} {cs : List va_W} {k n : Nat} (h : jSt cI cJ cB cZ ax am cs k n) : k ≤ 10080 ∧ n ≤ 1760000 := by
  obtain ⟨wx, Pt, P1, P2, fed, alx, T, F1, F2, hasT, pl, vs, an, sp, b1, b2, qs, qt, qo, qv, t3, a, d, oc, al, fp, lp, ty, op, vv, B1, B2, V1, V2, fi1, fi2, so1, so2, lb1, lb2, pa1, pa2, jm1, jm2, n1, n2, tn1, tn2, ln1, ln2, rfl, hwx, hY, hvv, hvs, hU, hk0, hn0⟩ := h
  have hbx := hwx.b
  omega
theorem law_next (F : lwF p s m meth c b L xs D G cI cJ cB cZ) {ax am i : Nat} (hi : i < 10000) (IH : ∀ (cs : List va_W) (k n : Nat), jSt cI cJ cB cZ ax am cs k n → ∀ ls, lv_has ls 4 [(3, .int (nI (i + 6))), (2, .ref am), (1, .ref ax), (0, .ref b)] → lJ p l e s m below meth c b D cs k n (F0 m 18 ls [])) : ∀ (cs : List va_W) (k n : Nat), jSt cI cJ cB cZ ax am cs k n → ∀ ls, lv_has ls 4 [(3, .int (nI i)), (2, .ref am), (1, .ref ax), (0, .ref b)] → lJ p l e s m below meth c b D cs k n (F0 m 332 ls []) := by
  intro cs k n hS ls hl
  obtain ⟨ex, hb, -⟩ := F
  have h6 : nI i + Int32.ofInt 6 = nI (i + 6) := by
    rw [nI_iI i, nI_iI (i + 6)]
    exact (iI_add (i : Int) 6).trans (congrArg iI (by omega))
  refine jJ_ofL (fun H locs => lv_iinc (v := nI (i + 6)) (lv' := [(3, .int (nI (i + 6))), (2, .ref am), (1, .ref ax), (0, .ref b)]) ex hb dL_law_332 hl (k := 0) rfl h6 (by decide) rfl) (fun ls hl => ?_)
  refine jJ_of (fun H locs => lv_goto (tgt := 18) ex hb dL_law_335 (by decide)) ?_
  exact IH cs k n hS ls hl
set_option maxHeartbeats 4000000 in
/-- one turn of the loop -/
theorem law_turn (F : lwF p s m meth c b L xs D G cI cJ cB cZ) {ax am i : Nat} (hi : i < 10000) (N9 : i + 6 ≤ L → ∀ (cs : List va_W) (k n : Nat), jSt cI cJ cB cZ ax am cs k n → ∀ ls, lv_has ls 4 [(3, .int (nI i)), (2, .ref am), (1, .ref ax), (0, .ref b)] → lJ p l e s m below meth c b D cs k n (F0 m 332 ls [])) {cs : List va_W} {k n : Nat} (hS : jSt cI cJ cB cZ ax am cs k n) {ls : Array Slot} (hl : lv_has ls 4 [(3, .int (nI i)), (2, .ref am), (1, .ref ax), (0, .ref b)]) : lJ p l e s m below meth c b D cs k n (F0 m 18 ls []) := by
  obtain ⟨ex, hb, hml, hown, hts, hX, hbl, hK, hAm, hL, hr, hlocks⟩ := id F
  have hA : ∀ q : Nat, s.heap.size ≤ q → (fun q : Nat => s.heap.size ≤ q) q := fun _ h => h
  have hbA : ¬ (fun q : Nat => s.heap.size ≤ q) b := Nat.not_le.mpr hbl
  refine jJ_of (fun H locs => lv_iload_n ex hb dL_law_18 rfl (lv_at hl 0 rfl)) ?_
  refine jJ_of (fun H locs => lv_aload_n ex hb dL_law_19 rfl (lv_at hl 3 rfl)) ?_
  refine jJ_slen ex hb hX hbl hbA dL_law_20 ?_
  refine jJ_of (fun H locs => lv_bipush (v := iI 6) ex hb dL_law_21 (by decide)) ?_
  refine jJ_eq (g2 := F0 m 23 ls [.int (iI 6), .int (iI (L : Int)), .int (iI (i : Int))]) (cs2 := cs) (by rw [nI_iI L, nI_iI i]) rfl ?_
  refine jJ_of (fun H locs => jz_isub ex hb dL_law_23) ?_
  refine jJ_of2 (fun H locs => jz_icmp_gt (tgt := 338) ex hb dL_law_24 (by decide) (by omega) (by omega) (by omega) (by omega)) (fun c24 => ?_) (fun c24 => ?_)
  · refine jJ_of (fun H locs => lv_iconst (v := 1) ex hb dL_law_338 (by decide)) ?_
    intro H locs hP hD hS9
    have hkn := hS.kn
    exact va_forget hS9.2.2 (W.widen (k := 601024) (n := 7293034) (by omega) (by omega) (lw_ret ex hb hr hlocks dL_law_339))
  · have hi6 : i + 6 ≤ L := by omega
    have N9 := N9 hi6
    refine jJ_of (fun H locs => lv_aload_n ex hb dL_law_27 rfl (lv_at hl 3 rfl)) ?_
    refine jJ_of (fun H locs => lv_iload_n ex hb dL_law_28 rfl (lv_at hl 0 rfl)) ?_
    refine jJ_sld ex hb hX hbl hbA (by omega) (by omega) dL_law_29 ?_
    refine jJ_of (fun H locs => lv_bipush (v := nI 15) ex hb dL_law_30 (by decide)) ?_
    refine jJ_of (fun H locs => lv_iand ex hb dL_law_32) ?_
    generalize xs i &&& nI 15 = y
    rcases (show y.toInt = 0 ∨ y.toInt = 1 ∨ y.toInt = 2 ∨ y.toInt = 3 ∨ y.toInt = 4 ∨ y.toInt = 5 ∨ y.toInt = 6 ∨ y.toInt = 7 ∨ y.toInt = 8 ∨ (y.toInt < 0 ∨ 8 < y.toInt) by omega) with q | q | q | q | q | q | q | q | q | q
    · refine jJ_of (fun H locs => lv_tableIn (off := 51) (tgt := 84) ex hb dL_law_33 (by rw [q]; decide) (by rw [q]; decide) (by rw [q]; rfl) (by decide)) ?_
      exact law_c0 F hi6 N9 hS hl
    · refine jJ_of (fun H locs => lv_tableIn (off := 114) (tgt := 147) ex hb dL_law_33 (by rw [q]; decide) (by rw [q]; decide) (by rw [q]; rfl) (by decide)) ?_
      exact law_c1 F hi6 N9 hS hl
    · refine jJ_of (fun H locs => lv_tableIn (off := 137) (tgt := 170) ex hb dL_law_33 (by rw [q]; decide) (by rw [q]; decide) (by rw [q]; rfl) (by decide)) ?_
      exact law_c2 F hi6 N9 hS hl
    · refine jJ_of (fun H locs => lv_tableIn (off := 150) (tgt := 183) ex hb dL_law_33 (by rw [q]; decide) (by rw [q]; decide) (by rw [q]; rfl) (by decide)) ?_
      exact law_c3 F hi6 N9 hS hl
    · refine jJ_of (fun H locs => lv_tableIn (off := 163) (tgt := 196) ex hb dL_law_33 (by rw [q]; decide) (by rw [q]; decide) (by rw [q]; rfl) (by decide)) ?_
      exact law_c4 F hi6 N9 hS hl
    · refine jJ_of (fun H locs => lv_tableIn (off := 186) (tgt := 219) ex hb dL_law_33 (by rw [q]; decide) (by rw [q]; decide) (by rw [q]; rfl) (by decide)) ?_
      exact law_c5 F hi6 N9 hS hl
    · refine jJ_of (fun H locs => lv_tableIn (off := 199) (tgt := 232) ex hb dL_law_33 (by rw [q]; decide) (by rw [q]; decide) (by rw [q]; rfl) (by decide)) ?_
      exact law_c6 F hi6 N9 hS hl
    · refine jJ_of (fun H locs => lv_tableIn (off := 212) (tgt := 245) ex hb dL_law_33 (by rw [q]; decide) (by rw [q]; decide) (by rw [q]; rfl) (by decide)) ?_
      exact law_c7 F hi6 N9 hS hl
    · refine jJ_of (fun H locs => lv_tableIn (off := 236) (tgt := 269) ex hb dL_law_33 (by rw [q]; decide) (by rw [q]; decide) (by rw [q]; rfl) (by decide)) ?_
      exact law_c8 F hi6 N9 hS hl
    · refine jJ_of (fun H locs => lv_tableOut (tgt := 332) ex hb dL_law_33 q (by decide)) ?_
      exact N9 cs k n hS ls hl
/-- the loop -/
theorem law_loop (F : lwF p s m meth c b L xs D G cI cJ cB cZ) {ax am : Nat} : ∀ (f i : Nat), L < f + i → i < 9000 → ∀ (cs : List va_W) (k n : Nat), jSt cI cJ cB cZ ax am cs k n → ∀ ls, lv_has ls 4 [(3, .int (nI i)), (2, .ref am), (1, .ref ax), (0, .ref b)] → lJ p l e s m below meth c b D cs k n (F0 m 18 ls [])
  | 0, i, h, h2, cs, k, n, hS, ls, hl => law_turn F (by omega) (fun h6 => by omega) hS hl
  | f + 1, i, h, h2, cs, k, n, hS, ls, hl => law_turn F (by omega) (fun h6 => law_next F (by omega) (fun cs k n hS ls hl => law_loop F f (i + 6) (by omega) (by
      have := F.2.2.2.2.2.2.2.2.2.1
      omega) cs k n hS ls hl)) hS hl
end LAW
