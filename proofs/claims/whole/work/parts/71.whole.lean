/-! the law: from its entry to its loop -/
theorem inlX8 : ∀ w ∈ wsX80, w ∈ wsL_law := fun _ h => List.mem_append_left _ (List.mem_append_left _ (List.mem_append_left _ (List.mem_append_left _ (List.mem_append_left _ (List.mem_append_left _ (List.mem_append_left _ (List.mem_append_left _ (List.mem_append_left _ (List.mem_append_left _ (List.mem_append_right _ h))))))))))
theorem inlX10 : ∀ w ∈ wsX100, w ∈ wsL_law := fun _ h => List.mem_append_left _ (List.mem_append_left _ (List.mem_append_left _ (List.mem_append_left _ (List.mem_append_left _ (List.mem_append_left _ (List.mem_append_left _ (List.mem_append_left _ (List.mem_append_left _ (List.mem_append_right _ h)))))))))
section CZ
variable {p : Program} {l : Launch} {e : Env} {R : Room} {s : State} {m : MethodId} {args : Array Value} {below : List Frame} {meth : Method} {c : Code}
variable {D : va_G} {G : Nat → Nat} {A0 : Nat → Prop} {cs : List va_W} {k n : Nat} {Q : State → Prop} {tys : List (ClassId × FieldType)}
/-- the call of a constructor that makes an exception -/
theorem jJ_callIZ {y : MethodName} {bytes cc : ByteArray} {maxL nL na index : Nat} {ws : List Cond} {rm : Room} {Ts : List Cond} {own : String} {b : Addr} {As rest st0 : List Value} {pc : Nat} {ls : Array Slot} {wc : va_W} {cs2 : List va_W} {Qv : Option Value → va_W → Nat → Nat → Prop} (is js : List Nat)
    (S : CallFix p m c cc nL s args Ts own) (hK : va_K D vwCl tys s) (hA : ∀ q, s.heap.size ≤ q → A0 q) (hAm : jAm G A0 s s.heap) (hZ : jZ A0 s)
    (hM : HZ l y ws rm D G tys (.ref b :: As) wc Qv) (cw : CallB R s args own index y bytes maxL none ws rm rm.cells rm.slots na ∧ y.name = "<init>" ∧ (Cond.instanceMethod y).before args s = true)
    {nn : Nat} (hnn : cs.length = nn) (hp : (is ++ js).Perm (List.range nn)) (hwc : jF (jPick cs is) = wc) (hc2 : jPick cs js = cs2)
    (hst : st0 = As.reverse ++ .ref b :: rest) (hn : As.length = na) (hsz : ls.size = nL) (hroom : (rest.map fun v => v.category).sum ≤ 8)
    (hdg : decode cc pc = .ok (.invokespecial index, 3)) (hf1 : k + rm.cells ≤ R.cells) (hf2 : n + rm.slots ≤ R.slots)
    (kk : ∀ (v : Option Value) (u : va_W) (k' n' : Nat), Qv v u k' n' → jJ p l e R s m args below meth c D A0 (u :: cs2) (k + k') (n + n') Q (F0 m (pc + 3) ls (v.toList ++ rest))) : jJ p l e R s m args below meth c D A0 cs k n Q (F0 m pc ls st0) := by
  subst hst; subst hwc; subst hc2; subst hnn
  intro H locs hP hD hS T hT X
  have hsp := jF_split hp
  have hP' := jP_perm hsp hP
  have hD' := jD_perm hsp hD
  have hF := jA_free hD' hS hA
  have hPc := jP_left hP'
  have hDc := (jD_left hD').weaken (B := fun _ => True) (fun _ _ _ _ => trivial)
  have hr : va_Run p l e R s m args below meth c H locs k n rm.cells rm.slots (F0 m pc ls (As.reverse ++ .ref b :: rest)) rest (jQ D (va_A (jF (jPick cs is)) H.size) Qv (Value.ref b :: As).toArray) (va_A (jF (jPick cs is)) H.size) :=
    va_runI S (hM H.size) cw ⟨jPcZ_blind, fun U hU hW => ⟨rfl, ⟨by rw [hU], by rw [hU]; exact hPc, jK_alike hK hW, hDc, hAm.go hS hF hU hW⟩, hZ.go hS hF hU hW⟩⟩ rfl hn hsz rfl (lv_room hroom) hdg ⟨hf1, hf2⟩
  obtain ⟨v, st₀, t, T', L, h0, X', hL, e1, e2, ⟨⟨v', u, k', n', hv, hq, hPu, hDu, hz, hss⟩, hF2⟩, st⟩ := hr T hT X
  cases hv
  obtain ⟨k1, k2, k3⟩ := vx_keep h0 e1 hS (fun q _ h => hF q h) hF hL hF2
  obtain ⟨g1, g2⟩ := jGrowth X
  rw [hT] at g1 g2
  rw [h0, ← e1] at hz hss
  have X2 := jTight X' (k' := k + k') (n' := n + n') (by omega) (by omega)
  rw [← e1] at hPu
  obtain ⟨j1, j2⟩ := jJoin hP' hD' k2 hF hPu hDu
  rw [← jF_cons] at j1 j2
  obtain ⟨t2, a1, b1⟩ := kk v u k' n' hq T'.heap (locs ++ L) j1 j2 k3 T' rfl X2
  exact ⟨t2, st t2 a1, b1⟩
end CZ
section LAW
variable {p : Program} {l : Launch} {e : Env} {s : State} {m : MethodId} {below : List Frame} {meth : Method} {c : Code} {b L : Nat} {xs : Nat → Int32} {D : va_G} {G : Nat → Nat} {cI cJ cB cZ : ClassId}
set_option maxHeartbeats 4000000 in
set_option maxRecDepth 100000 in
theorem law_start (F : lwF p s m meth c b L xs D G cI cJ cB cZ) (hl9 : l.stackTraces = false) (hZ : jZ (fun q => s.heap.size ≤ q) s) {ls : Array Slot} (hl : lv_has ls 4 [(0, .ref b)]) : lJ p l e s m below meth c b D [] 0 0 (F0 m 0 ls []) := by
  obtain ⟨ex, hb, hml, hown, hts, hX, hbl, hK, hAm, hL, -, -⟩ := id F
  have hA : ∀ q : Nat, s.heap.size ≤ q → (fun q : Nat => s.heap.size ≤ q) q := fun _ h => h
  refine jJ_new (ci := 6) (fs := [.null, .null, .null, .null, .null, .null, .int (nI 0), .int (nI 0), .int (nI 0)]) (C := RX8) (T := TX8) (N := 9) ex hb hts inlX8 tyX8 tyX8_ok hown (hts (.classLink RL 7 RX8) (by decide +kernel)) (hts (.instantiable RX8 9) (by decide +kernel)) (hts (.initialized RX8) (by decide +kernel)) hK hA rfl (fun j hj => by rcases (show j = 0 ∨ j = 1 ∨ j = 2 ∨ j = 3 ∨ j = 4 ∨ j = 5 ∨ j = 6 ∨ j = 7 ∨ j = 8 by omega) with rfl | rfl | rfl | rfl | rfl | rfl | rfl | rfl | rfl <;> rfl) (by show _ + 1 ≤ 601024; omega) (by show _ + 9 ≤ 7293034; omega) dL_law_0 (fun ax => ?_)
  refine jJ_eq (g2 := F0 m 3 ls [.ref ax]) (cs2 := [[(ax, .inr (6, [.null, .null, .null, .null, .null, .null, .int (nI 0), .int (nI 0), .int (nI 0)]))]]) rfl rfl ?_
  refine jJ_of (fun H locs => lv_dup ex hb dL_law_3 rfl) ?_
  refine jJ_callI (As := []) (rest := [.ref ax]) (wc := _) (cs2 := []) [0] [] ⟨ex, hb, hml, hown, hts⟩ hK hA hAm (c_VB_init) (cwI 0 hts gL_law_X8_init rfl rfl rfl (hts (.initialized RX8) (by decide +kernel)) (hts (.methodLink RL 9 yX8_init) (by decide +kernel)) (hts (.instanceMethod yX8_init) (by decide +kernel)) rfl (by decide +kernel) ⟨Nat.le_of_ble_eq_true rfl, Nat.le_of_ble_eq_true rfl⟩) (nn := 1) rfl (by decide) rfl rfl rfl rfl hl.1 (Nat.le_of_ble_eq_true rfl) dL_law_4 (by show _ + 48 ≤ 601024; omega) (by show _ + 1800 ≤ 7293034; omega) (fun v u1 kq1 nq1 hq1 => ?_)
  obtain ⟨rfl, hwx, hk1, hn1⟩ := hq1
  refine jJ_eq (g2 := F0 m 7 ls [.ref ax]) (cs2 := [u1]) rfl rfl ?_
  refine jJ_ofL (fun H locs => lv_astore_n (lv' := [(1, .ref ax), (0, .ref b)]) ex hb dL_law_7 rfl hl (by decide) rfl) (fun ls hl => ?_)
  refine jJ_new (ci := 8) (fs := [.null, .null, .int (nI 0), .null, .int (nI 0), .int (nI 0), .null, .int (nI 0), .int (nI 0), .null, .int (nI 0), .int (nI 0), .int (nI 0), .int (nI 0), .null, .null, .int (nI 0), .int (nI 0), .int (nI 0)]) (C := RX10) (T := TX10) (N := 19) ex hb hts inlX10 tyX10 tyX10_ok hown (hts (.classLink RL 10 RX10) (by decide +kernel)) (hts (.instantiable RX10 19) (by decide +kernel)) (hts (.initialized RX10) (by decide +kernel)) hK hA rfl (fun j hj => by rcases (show j = 0 ∨ j = 1 ∨ j = 2 ∨ j = 3 ∨ j = 4 ∨ j = 5 ∨ j = 6 ∨ j = 7 ∨ j = 8 ∨ j = 9 ∨ j = 10 ∨ j = 11 ∨ j = 12 ∨ j = 13 ∨ j = 14 ∨ j = 15 ∨ j = 16 ∨ j = 17 ∨ j = 18 by omega) with rfl | rfl | rfl | rfl | rfl | rfl | rfl | rfl | rfl | rfl | rfl | rfl | rfl | rfl | rfl | rfl | rfl | rfl | rfl <;> rfl) (by show _ + 1 ≤ 601024; omega) (by show _ + 19 ≤ 7293034; omega) dL_law_8 (fun am => ?_)
  refine jJ_eq (g2 := F0 m 11 ls [.ref am]) (cs2 := [u1, [(am, .inr (8, [.null, .null, .int (nI 0), .null, .int (nI 0), .int (nI 0), .null, .int (nI 0), .int (nI 0), .null, .int (nI 0), .int (nI 0), .int (nI 0), .int (nI 0), .null, .null, .int (nI 0), .int (nI 0), .int (nI 0)]))]]) rfl rfl ?_
  refine jJ_of (fun H locs => lv_dup ex hb dL_law_11 rfl) ?_
  refine jJ_callIZ (As := []) (rest := [.ref am]) (wc := _) (cs2 := [u1]) [1] [0] ⟨ex, hb, hml, hown, hts⟩ hK hA hAm hZ (c_Md_init hl9) (cwI 0 hts gL_law_X10_init rfl rfl rfl (hts (.initialized RX10) (by decide +kernel)) (hts (.methodLink RL 12 yX10_init) (by decide +kernel)) (hts (.instanceMethod yX10_init) (by decide +kernel)) rfl (by decide +kernel) ⟨Nat.le_of_ble_eq_true rfl, Nat.le_of_ble_eq_true rfl⟩) (nn := 2) rfl (by decide) rfl rfl rfl rfl hl.1 (Nat.le_of_ble_eq_true rfl) dL_law_12 (by show _ + 26 ≤ 601024; omega) (by show _ + 464320 ≤ 7293034; omega) (fun v u2 kq2 nq2 hq2 => ?_)
  obtain ⟨rfl, ⟨b1, b2, qs, qt, qo, qv, rfl⟩, hk2, hn2⟩ := hq2
  refine jJ_eq (g2 := F0 m 15 ls [.ref am]) (cs2 := [jF [mdF am qs qt qo qv (b1 1) (b2 1) false .null 0 0 0 0 0 0 (-1) 0 0 0 0, jF (blkW cI cB cZ b1 (fun _ => 0) (fun _ _ => 0) (fun _ => 0) (fun _ => 0) (fun _ => 0) (fun _ => 0) (fun _ => 0) 0 0 0), jF (blkW cI cB cZ b2 (fun _ => 0) (fun _ _ => 0) (fun _ => 0) (fun _ => 0) (fun _ => 0) (fun _ => 0) (fun _ => 0) 0 0 0), [(qs, .inr (0, []))], [(qt, .inl (cB, 16000, .inl (fun _ => 0)))], [(qo, .inl (cI, 4, .inl (fun _ => 0)))], [(qv, .inl (cJ, 200, .inr (.inl (fun _ => 0))))]], u1]) rfl rfl ?_
  refine jJ_open (xs := [mdF am qs qt qo qv (b1 1) (b2 1) false .null 0 0 0 0 0 0 (-1) 0 0 0 0, jF (blkW cI cB cZ b1 (fun _ => 0) (fun _ _ => 0) (fun _ => 0) (fun _ => 0) (fun _ => 0) (fun _ => 0) (fun _ => 0) 0 0 0), jF (blkW cI cB cZ b2 (fun _ => 0) (fun _ _ => 0) (fun _ => 0) (fun _ => 0) (fun _ => 0) (fun _ => 0) (fun _ => 0) 0 0 0), [(qs, .inr (0, []))], [(qt, .inl (cB, 16000, .inl (fun _ => 0)))], [(qo, .inl (cI, 4, .inl (fun _ => 0)))], [(qv, .inl (cJ, 200, .inr (.inl (fun _ => 0))))]]) (r := [u1]) (cs2 := [mdF am qs qt qo qv (b1 1) (b2 1) false .null 0 0 0 0 0 0 (-1) 0 0 0 0, jF (blkW cI cB cZ b1 (fun _ => 0) (fun _ _ => 0) (fun _ => 0) (fun _ => 0) (fun _ => 0) (fun _ => 0) (fun _ => 0) 0 0 0), jF (blkW cI cB cZ b2 (fun _ => 0) (fun _ _ => 0) (fun _ => 0) (fun _ => 0) (fun _ => 0) (fun _ => 0) (fun _ => 0) 0 0 0), [(qs, .inr (0, []))], [(qt, .inl (cB, 16000, .inl (fun _ => 0)))], [(qo, .inl (cI, 4, .inl (fun _ => 0)))], [(qv, .inl (cJ, 200, .inr (.inl (fun _ => 0))))], u1]) rfl ?_
  refine jJ_perm [7, 0, 1, 2, 3, 4, 5, 6] (nn := 8) rfl (by decide) (cs2 := u1 :: [mdF am qs qt qo qv (b1 1) (b2 1) false .null 0 0 0 0 0 0 (-1) 0 0 0 0, jF (blkW cI cB cZ b1 (fun _ => 0) (fun _ _ => 0) (fun _ => 0) (fun _ => 0) (fun _ => 0) (fun _ => 0) (fun _ => 0) 0 0 0), jF (blkW cI cB cZ b2 (fun _ => 0) (fun _ _ => 0) (fun _ => 0) (fun _ => 0) (fun _ => 0) (fun _ => 0) (fun _ => 0) 0 0 0), [(qs, .inr (0, []))], [(qt, .inl (cB, 16000, .inl (fun _ => 0)))], [(qo, .inl (cI, 4, .inl (fun _ => 0)))], [(qv, .inl (cJ, 200, .inr (.inl (fun _ => 0))))]]) rfl ?_
  refine jJ_ofL (fun H locs => lv_astore_n (lv' := [(2, .ref am), (1, .ref ax), (0, .ref b)]) ex hb dL_law_15 rfl hl (by decide) rfl) (fun ls hl => ?_)
  refine jJ_of (fun H locs => lv_iconst (v := (nI 0)) ex hb dL_law_16 (by decide)) ?_
  refine jJ_ofL (fun H locs => lv_istore_n (lv' := [(3, .int (nI 0)), (2, .ref am), (1, .ref ax), (0, .ref b)]) ex hb dL_law_17 rfl hl (by decide) rfl) (fun ls hl => ?_)
  refine law_loop F (L + 1) 0 (by omega) (by omega) _ _ _ ⟨u1, 4, 8, 8, 0, 0, [], (fun _ => []), (fun _ => []), false, -1, (fun _ => 0), 0, 0, b1, b2, qs, qt, qo, qv, .null, 0, 0, 0, 0, 0, 0, (fun _ => 0), (fun _ => 0), (fun _ => 0), (fun _ => 0), (fun _ => 0), (fun _ _ => 0), (fun _ _ => 0), (fun _ => 0), (fun _ => 0), (fun _ => 0), (fun _ => 0), (fun _ => 0), (fun _ => 0), (fun _ => 0), (fun _ => 0), (fun _ => 0), (fun _ => 0), 0, 0, 0, 0, 0, 0, rfl, hwx, tY_nil _, fun i _ => rfl, fun i _ => ?_, fun h => absurd h (by decide), by omega, by omega⟩ ls hl
  show vOK 0
  unfold vOK
  omega
end LAW
/-- from the entry, for every script of at most 3072 ints, the law comes to its end with true -/
theorem whole_start {p : Program} {e : Env} {s : State} {m : MethodId} {below : List Frame} {meth : Method} {c : Code} (l : Launch) (hflags : l.flags = flags0) {b L : Nat} {xs : Nat → Int32} (hL : L ≤ 3072) (C0 : lw_At p s m meth c b L xs) : W p l e room_1 s m #[Value.ref b] below meth c s.heap [] 0 0 (lw_Z below #[Value.ref b] s) (entryFrame m ([Value.ref b] : List Value).toArray 4) := by
  obtain ⟨hx, hb, hr, hml, hown, hts, hX, hbl, hlocks, hgv⟩ := C0
  obtain ⟨G, hAm⟩ := lw_am hts hgv
  have hZ := lw_jZ hts hgv
  obtain ⟨D, cI, cJ, cB, cZ, hK⟩ := lw_K hts
  have F : lwF p s m meth c b L xs D G cI cJ cB cZ := ⟨hx, hb, hml, hown, fun w hw => hts w (wsL_law_in w hw), hX, hbl, hK, hAm, hL, hr, hlocks⟩
  have hst : l.stackTraces = false := by
    unfold Launch.stackTraces
    rw [hflags]
    decide +kernel
  have hl := lv_entry ([.ref b]) (n := 4) (Nat.le_of_ble_eq_true rfl)
  rw [lg_entry_eq]
  generalize (lg_sl ([.ref b]) ++ List.replicate (4 - (lg_sl ([.ref b])).length) Slot.unset).toArray = ls at hl ⊢
  have hl : lv_has ls 4 [(0, .ref b)] := hl
  exact law_start F hst hZ hl s.heap [] (fun k q h => by simp [jF] at h) ⟨fun i j p q h => by simp [jF] at h, fun k q h => by simp [jF] at h⟩ va_S.rf
