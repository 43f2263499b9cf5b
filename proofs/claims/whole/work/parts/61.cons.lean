/-! ValueBlocksModel(): with what a throw needs of the start -/
def jZ (A : Nat → Prop) (U : State) : Prop := vx_Zq Bundle.tN "UNASSIGNED_STACK" Bundle.steD A U U.heap ∧ vx_Zq Bundle.tN "SUPPRESSED_SENTINEL" Bundle.listD A U U.heap ∧ va_Nw (.declares (Bundle.init0 "java/lang/RuntimeException")) U ∧ va_Nw (.declares (Bundle.init0 "java/lang/Exception")) U ∧ va_Nw (.declares (Bundle.init0 Bundle.tN)) U
theorem jZ.go {A A' : Nat → Prop} {s U : State} {H : Heap} {locs : List Loc} (h : jZ A s) (hS : va_S A s.heap H locs) (hA : ∀ q, A' q → A q) (hU : U.heap = H) (hW : s.WarmedH U.vm) : jZ A' U := by
  obtain ⟨h1, h2, h3, h4, h5⟩ := h
  have hk : ∀ a : Nat, a < s.heap.size → ¬ A a → U.heap[a]? = s.heap[a]? := fun a e1 e2 => by rw [hU]; exact hS.2.1 a e1 e2
  exact ⟨((h1.moved hW.alike).kept hk).narrow hA, ((h2.moved hW.alike).kept hk).narrow hA, h3.warmD hW, h4.warmD hW, h5.warmD hW⟩
theorem jZ.calling {A : Nat → Prop} {U : State} {g : JFrame} {mk : MethodId} {a : Array Value} (h : jZ A U) : jZ A (U.calling g mk a) := by
  obtain ⟨h1, h2, h3, h4, h5⟩ := h
  have hv : U.vm.Alike (U.calling g mk a).vm := Vm.Alike.refl U.vm
  exact ⟨h1.moved hv, h2.moved hv, h3.same rfl rfl, h4.same rfl rfl, h5.same rfl rfl⟩
def jPcZ (D : va_G) (G : Nat → Nat) (tys : List (ClassId × FieldType)) (av : List Value) (w : va_W) (sz : Nat) : Array Value → State → Prop :=
  va_Pc av (fun U => (U.heap.size = sz ∧ va_P D vwCl w U.heap ∧ va_K D vwCl tys U ∧ va_D (fun _ => True) w ∧ jAm G (va_A w sz) U U.heap) ∧ jZ (va_A w sz) U)
theorem jPcZ_blind {D : va_G} {G : Nat → Nat} {tys : List (ClassId × FieldType)} {av : List Value} {w : va_W} {sz : Nat} : FrameBlind (jPcZ D G tys av w sz) := by
  intro a U g mk h
  obtain ⟨q0, ⟨q1, qP, qK, qD, qM⟩, qZ⟩ := h
  exact ⟨q0, ⟨q1, qP, va_K.moved (u := U) (U := U.calling g mk a) (Vm.Alike.refl U.vm) qK, qD, qM.calling⟩, qZ.calling⟩
/-- a contract that wants the throw's statics too -/
def HZ (l : Launch) (y : MethodName) (ws : List Cond) (rm : Room) (D : va_G) (G : Nat → Nat) (tys : List (ClassId × FieldType)) (av : List Value) (w : va_W) (Qv : Option Value → va_W → Nat → Nat → Prop) : Prop :=
  ∀ sz : Nat, Met l y ws rm (jPcZ D G tys av w sz) (jQ D (va_A w sz) Qv) rm.cells rm.slots (va_A w sz)
theorem jNoSt {D : va_G} {w : va_W} {H : Heap} (hP : va_P D vwCl w H) : ∀ q, va_A w H.size q → ∀ cell, H[q]? = some cell → cell.vm.isStatics = false := by
  intro q hq cell hc
  rcases hq with ⟨k, e, hk⟩ | hq
  · have h := hP k _ hk
    cases e with
    | inl x =>
      have h2 : H[q]? = some (vp_cell x.1 x.2) := h
      rw [h2] at hc
      cases hc
      obtain ⟨cA, z, x⟩ := x
      rcases x with f | f | f | f | f <;> rfl
    | inr o =>
      obtain ⟨r, -, cell2, e1, -, e3, -⟩ := h
      rw [e1] at hc
      cases hc
      rw [e3]
      rfl
  · have := (Array.getElem?_eq_some_iff.mp hc).1
    omega
section HZS
variable {D : va_G} {G : Nat → Nat} {tys : List (ClassId × FieldType)} {l : Launch} {cc : ByteArray}
theorem HZ_of {y : MethodName} {ws ws' : List Cond} {rm : Room} {av : List Value} {w : va_W} {Qv : Option Value → va_W → Nat → Nat → Prop} {maxL : Nat} {ret : Option FieldType} {lv : List (Nat × Value)}
    (hy : plainName y.cls = true) (hw : ws = Cond.code y cc maxL ret :: ws') (hlv : lv_args 0 av = lv) (hln : (lg_sl av).length ≤ maxL)
    (body : ∀ (p : Program) (e : Env) (s : State) (m : MethodId) (args : Array Value) (below : List Frame) (meth : Method) (c : Code) (A0 : Nat → Prop) (ls : Array Slot),
      p.tables.exec = Jvm.exec → c.code = cc → meth.sig.returnType = ret → (∀ w ∈ ws, w.before args s = true) → s.vm.findClass y.cls = some m.cls → meth.locks = false → c.maxLocals = maxL → meth.name = y.name → va_K D vwCl tys s → (∀ q : Nat, s.heap.size ≤ q → A0 q) → jAm G A0 s s.heap → jZ A0 s → (∀ q, A0 q → ∀ cell, s.heap[q]? = some cell → cell.vm.isStatics = false) → lv_has ls maxL lv →
      jJ p l e rm s m args below meth c D A0 [w] 0 0 (jEnd below D A0 Qv args s rm.cells rm.slots) (F0 m 0 ls [])) : HZ l y ws rm D G tys av w Qv := by
  intro sz
  refine Met.ofW (cc := cc) (maxL := maxL) (ret := ret) hy hw ?_
  intro p e s m args below meth c s₁ B hml hv
  obtain ⟨rfl, ⟨hsz, hP, hK, hD0, hM9⟩, hZ⟩ := hv
  subst hsz
  have hl := lv_entry av (n := maxL) hln
  rw [lg_entry_eq]
  generalize (lg_sl av ++ List.replicate (maxL - (lg_sl av).length) Slot.unset).toArray = ls at hl ⊢
  rw [hlv] at hl
  exact body p e s m av.toArray below meth c (va_A w s.heap.size) ls B.exec B.bytes B.returns (atoms_spec (ws := ws) B.pre) (findClass_of_methodNamed B.named) B.notSynchronized hml (name_of_methodNamed B.named B.method).1 hK (fun q h => Or.inr h) hM9 hZ (jNoSt hP) hl s.heap [] hP hD0.self va_S.rf
end HZS
def jEx : List String := ["java/lang/RuntimeException", "java/lang/Exception"]
theorem jEx_words {A : Nat → Prop} {s : State} {args : Array Value} {D : va_G} {tys : List (ClassId × FieldType)} (hts : ∀ w ∈ wsX10_init, w.before args s = true) (hK : va_K D vwCl tys s) (hZ : jZ A s) : ∀ w ∈ Bundle.ownAtoms0 RX10 25 "java/lang/IllegalStateException" jEx, w.before args s = true := by
  have hc : s.vm.findClass "java/lang/IllegalStateException" = some (D.1 0) := (hK.1 0 _ rfl).2.1
  refine vx_own ?_ (vx_isRefq hZ.1.1) (vx_isRefq hZ.2.1.1) hZ.1.2.word hZ.2.1.2.word
  exact vx_hat (B := [.declares (Bundle.init0 "java/lang/RuntimeException"), .declares (Bundle.init0 "java/lang/Exception"), .declares (Bundle.init0 Bundle.tN), .castable "java/lang/IllegalStateException" "java/lang/IllegalStateException"]) (fun w hw => hts w (List.mem_cons_of_mem _ (List.mem_append_right _ hw))) (by decide +kernel) (vx_c (hZ.2.2.1.use rfl) (vx_c (hZ.2.2.2.1.use rfl) (vx_c (hZ.2.2.2.2.use rfl) (vx_c (jCastable hc) vx_n))))
def mdF (h qs qt qo qv z0 z1 : Nat) (hasT : Bool) (t3 : Value) (a d n fed : Nat) (fp : Int32) (lp pl : Int) (oc al sp an : Nat) : va_W := [(h, .inr (8, [.ref z0, .ref z1, .int (bI hasT), t3, .int (nI a), .int (nI d), .ref qt, .int (nI n), .int (nI fed), .ref qs, .int fp, .int (iI lp), .int (iI pl), .int (nI oc), .ref qo, .ref qv, .int (nI al), .int (nI sp), .int (nI an)]))]
theorem uX10_in_X10_init : ∀ w ∈ u_ws RX10 TX10 19, w ∈ wsX10_init := by decide +kernel
theorem uX9_in_X10_init : ∀ w ∈ u_ws RX9 TX9 13, w ∈ wsX10_init := by decide +kernel
section MC
variable {D : va_G} {G : Nat → Nat} {cI cJ cB cZ : ClassId} {l : Launch}
set_option maxHeartbeats 4000000 in
set_option maxRecDepth 100000 in
/-- ValueBlocksModel() -/
theorem c_Md_init (hl9 : l.stackTraces = false) {h : Nat} : HZ l yX10_init wsX10_init ({ frames := 8, cells := 26, slots := 464320, locals := 160 } : Room) D G (jT cI cJ cB cZ) [.ref h] ([(h, .inr (8, [.null, .null, .int (nI 0), .null, .int (nI 0), .int (nI 0), .null, .int (nI 0), .int (nI 0), .null, .int (nI 0), .int (nI 0), .int (nI 0), .int (nI 0), .null, .null, .int (nI 0), .int (nI 0), .int (nI 0)]))]) (fun v u k n => v = none ∧ (∃ (b1 b2 : Nat → Nat) (qs qt qo qv : Nat), u = jF [mdF h qs qt qo qv (b1 1) (b2 1) false .null 0 0 0 0 0 0 (-1) 0 0 0 0, jF (blkW cI cB cZ b1 (fun _ => 0) (fun _ _ => 0) (fun _ => 0) (fun _ => 0) (fun _ => 0) (fun _ => 0) (fun _ => 0) 0 0 0), jF (blkW cI cB cZ b2 (fun _ => 0) (fun _ _ => 0) (fun _ => 0) (fun _ => 0) (fun _ => 0) (fun _ => 0) (fun _ => 0) 0 0 0), [(qs, .inr (0, []))], [(qt, .inl (cB, 16000, .inl (fun _ => 0)))], [(qo, .inl (cI, 4, .inl (fun _ => 0)))], [(qv, .inl (cJ, 200, .inr (.inl (fun _ => 0))))]]) ∧ k ≤ 26 ∧ n ≤ 464320) := by
  refine HZ_of (cc := cX10_init) (maxL := 1) (ret := none) (lv := [(0, .ref h)]) (by decide) rfl rfl (Nat.le_of_ble_eq_true rfl) (fun p e s m args below meth c A0 ls hx hb hr hts hown hlocks hml hnm hK hA hAm hZ hst hl => ?_)
  refine jJ_open (xs := [[(h, .inr (8, [.null, .null, .int (nI 0), .null, .int (nI 0), .int (nI 0), .null, .int (nI 0), .int (nI 0), .null, .int (nI 0), .int (nI 0), .int (nI 0), .int (nI 0), .null, .null, .int (nI 0), .int (nI 0), .int (nI 0)]))]]) (r := []) (cs2 := [[(h, .inr (8, [.null, .null, .int (nI 0), .null, .int (nI 0), .int (nI 0), .null, .int (nI 0), .int (nI 0), .null, .int (nI 0), .int (nI 0), .int (nI 0), .int (nI 0), .null, .null, .int (nI 0), .int (nI 0), .int (nI 0)]))]]) rfl ?_
  refine jJ_of (fun H locs => lv_aload_n hx hb dX10_init_0 rfl (lv_at hl 0 rfl)) ?_
  refine jJ_of (g2 := F0 m 4 ls []) (fun H locs kk => W.objInit hx hb hown (hts (.methodLink RX10 1 objectInit) (by decide +kernel)) (hts (.instanceMethod objectInit) (by decide +kernel)) (hts (.code objectInit ⟨#[0xb1]⟩ 1 none) (by decide +kernel)) rfl (by rw [hml]; exact hl.1) rfl dX10_init_1 (Nat.le_of_ble_eq_true rfl) (Nat.le_of_ble_eq_true rfl) (W.eq rfl kk)) ?_
  refine jJ_of (fun H locs => lv_aload_n hx hb dX10_init_4 rfl (lv_at hl 0 rfl)) ?_
  refine jJ_new (ci := 7) (fs := [.null, .int (nI 0), .null, .null, .null, .null, .int (nI 0), .null, .null, .null, .null, .null, .int (nI 0)]) (C := RX9) (T := TX9) (N := 13) hx hb hts uX9_in_X10_init tyX9 tyX9_ok hown (hts (.classLink RX10 7 RX9) (by decide +kernel)) (hts (.instantiable RX9 13) (by decide +kernel)) (hts (.initialized RX9) (by decide +kernel)) hK hA rfl (fun j hj => by rcases (show j = 0 ∨ j = 1 ∨ j = 2 ∨ j = 3 ∨ j = 4 ∨ j = 5 ∨ j = 6 ∨ j = 7 ∨ j = 8 ∨ j = 9 ∨ j = 10 ∨ j = 11 ∨ j = 12 by omega) with rfl | rfl | rfl | rfl | rfl | rfl | rfl | rfl | rfl | rfl | rfl | rfl | rfl <;> rfl) (by show _ + 1 ≤ 26; omega) (by show _ + 13 ≤ 464320; omega) dX10_init_5 (fun q5 => ?_)
  refine jJ_eq (g2 := F0 m 8 ls [.ref q5, .ref h]) (cs2 := [[(h, .inr (8, [.null, .null, .int (nI 0), .null, .int (nI 0), .int (nI 0), .null, .int (nI 0), .int (nI 0), .null, .int (nI 0), .int (nI 0), .int (nI 0), .int (nI 0), .null, .null, .int (nI 0), .int (nI 0), .int (nI 0)]))], [(q5, .inr (7, [.null, .int (nI 0), .null, .null, .null, .null, .int (nI 0), .null, .null, .null, .null, .null, .int (nI 0)]))]]) rfl rfl ?_
  refine jJ_of (fun H locs => lv_dup hx hb dX10_init_8 rfl) ?_
  refine jJ_callIN (As := []) (rest := [.ref q5, .ref h]) (wc := _) (cs2 := [[(h, .inr (8, [.null, .null, .int (nI 0), .null, .int (nI 0), .int (nI 0), .null, .int (nI 0), .int (nI 0), .null, .int (nI 0), .int (nI 0), .int (nI 0), .int (nI 0), .null, .null, .int (nI 0), .int (nI 0), .int (nI 0)]))]]) [1] [0] ⟨hx, hb, hml, hown, hts⟩ hK hA hAm (c_Tx_init) ⟨va_cnB 0 hts gX10_init_X9_init_n9 rfl rfl rfl hAm.2.2.2.2.2.2.2.2.2.2 (hts (.initialized RX9) (by decide +kernel)) (by decide +kernel) ⟨Nat.le_of_ble_eq_true rfl, Nat.le_of_ble_eq_true rfl⟩, rfl, hts (.instanceMethod yX9_init) (by decide +kernel)⟩ (nn := 2) rfl (by decide) rfl rfl rfl rfl hl.1 (Nat.le_of_ble_eq_true rfl) dX10_init_9 (by show _ + 10 ≤ 26; omega) (by show _ + 224042 ≤ 464320; omega) (fun v u5 k5 n5 hq5 => ?_)
  obtain ⟨rfl, ⟨b1, hu5, hb5⟩, hk5, hn5⟩ := hq5
  refine jJ_eq (g2 := F0 m 12 ls [.ref q5, .ref h]) (cs2 := [u5, [(h, .inr (8, [.null, .null, .int (nI 0), .null, .int (nI 0), .int (nI 0), .null, .int (nI 0), .int (nI 0), .null, .int (nI 0), .int (nI 0), .int (nI 0), .int (nI 0), .null, .null, .int (nI 0), .int (nI 0), .int (nI 0)]))]]) rfl rfl ?_
  refine jJ_put hx hb (C := RX10) (T := TX10) (N := 19) (ty := .object "ValueBlocksModel$Text") (v := .ref q5) hts uX10_in_X10_init tyX10 tyX10_ok nmX10 hown hK 1 rfl rfl 0 (by decide) (hts (.fieldLink RX10 10 "ValueBlocksModel" "text" "LValueBlocksModel$Text;") (by decide +kernel)) (fun _ h9 => h9) rfl (by decide +kernel) rfl rfl (Nat.le_of_ble_eq_true rfl) dX10_init_12 (cs2 := [u5, [(h, .inr (8, [.ref q5, .null, .int (nI 0), .null, .int (nI 0), .int (nI 0), .null, .int (nI 0), .int (nI 0), .null, .int (nI 0), .int (nI 0), .int (nI 0), .int (nI 0), .null, .null, .int (nI 0), .int (nI 0), .int (nI 0)]))]]) rfl ?_
  refine jJ_of (fun H locs => lv_aload_n hx hb dX10_init_15 rfl (lv_at hl 0 rfl)) ?_
  refine jJ_new (ci := 7) (fs := [.null, .int (nI 0), .null, .null, .null, .null, .int (nI 0), .null, .null, .null, .null, .null, .int (nI 0)]) (C := RX9) (T := TX9) (N := 13) hx hb hts uX9_in_X10_init tyX9 tyX9_ok hown (hts (.classLink RX10 7 RX9) (by decide +kernel)) (hts (.instantiable RX9 13) (by decide +kernel)) (hts (.initialized RX9) (by decide +kernel)) hK hA rfl (fun j hj => by rcases (show j = 0 ∨ j = 1 ∨ j = 2 ∨ j = 3 ∨ j = 4 ∨ j = 5 ∨ j = 6 ∨ j = 7 ∨ j = 8 ∨ j = 9 ∨ j = 10 ∨ j = 11 ∨ j = 12 by omega) with rfl | rfl | rfl | rfl | rfl | rfl | rfl | rfl | rfl | rfl | rfl | rfl | rfl <;> rfl) (by show _ + 1 ≤ 26; omega) (by show _ + 13 ≤ 464320; omega) dX10_init_16 (fun q16 => ?_)
  refine jJ_eq (g2 := F0 m 19 ls [.ref q16, .ref h]) (cs2 := [u5, [(h, .inr (8, [.ref q5, .null, .int (nI 0), .null, .int (nI 0), .int (nI 0), .null, .int (nI 0), .int (nI 0), .null, .int (nI 0), .int (nI 0), .int (nI 0), .int (nI 0), .null, .null, .int (nI 0), .int (nI 0), .int (nI 0)]))], [(q16, .inr (7, [.null, .int (nI 0), .null, .null, .null, .null, .int (nI 0), .null, .null, .null, .null, .null, .int (nI 0)]))]]) rfl rfl ?_
  refine jJ_of (fun H locs => lv_dup hx hb dX10_init_19 rfl) ?_
  refine jJ_callIN (As := []) (rest := [.ref q16, .ref h]) (wc := _) (cs2 := [u5, [(h, .inr (8, [.ref q5, .null, .int (nI 0), .null, .int (nI 0), .int (nI 0), .null, .int (nI 0), .int (nI 0), .null, .int (nI 0), .int (nI 0), .int (nI 0), .int (nI 0), .null, .null, .int (nI 0), .int (nI 0), .int (nI 0)]))]]) [2] [0, 1] ⟨hx, hb, hml, hown, hts⟩ hK hA hAm (c_Tx_init) ⟨va_cnB 0 hts gX10_init_X9_init_n9 rfl rfl rfl hAm.2.2.2.2.2.2.2.2.2.2 (hts (.initialized RX9) (by decide +kernel)) (by decide +kernel) ⟨Nat.le_of_ble_eq_true rfl, Nat.le_of_ble_eq_true rfl⟩, rfl, hts (.instanceMethod yX9_init) (by decide +kernel)⟩ (nn := 3) rfl (by decide) rfl rfl rfl rfl hl.1 (Nat.le_of_ble_eq_true rfl) dX10_init_20 (by show _ + 10 ≤ 26; omega) (by show _ + 224042 ≤ 464320; omega) (fun v u16 k16 n16 hq16 => ?_)
  obtain ⟨rfl, ⟨b2, hu16, hb16⟩, hk16, hn16⟩ := hq16
  refine jJ_eq (g2 := F0 m 23 ls [.ref q16, .ref h]) (cs2 := [u16, u5, [(h, .inr (8, [.ref q5, .null, .int (nI 0), .null, .int (nI 0), .int (nI 0), .null, .int (nI 0), .int (nI 0), .null, .int (nI 0), .int (nI 0), .int (nI 0), .int (nI 0), .null, .null, .int (nI 0), .int (nI 0), .int (nI 0)]))]]) rfl rfl ?_
  refine jJ_put hx hb (C := RX10) (T := TX10) (N := 19) (ty := .object "ValueBlocksModel$Text") (v := .ref q16) hts uX10_in_X10_init tyX10 tyX10_ok nmX10 hown hK 2 rfl rfl 1 (by decide) (hts (.fieldLink RX10 16 "ValueBlocksModel" "spare" "LValueBlocksModel$Text;") (by decide +kernel)) (fun _ h9 => h9) rfl (by decide +kernel) rfl rfl (Nat.le_of_ble_eq_true rfl) dX10_init_23 (cs2 := [u16, u5, [(h, .inr (8, [.ref q5, .ref q16, .int (nI 0), .null, .int (nI 0), .int (nI 0), .null, .int (nI 0), .int (nI 0), .null, .int (nI 0), .int (nI 0), .int (nI 0), .int (nI 0), .null, .null, .int (nI 0), .int (nI 0), .int (nI 0)]))]]) rfl ?_
  refine jJ_of (fun H locs => lv_aload_n hx hb dX10_init_26 rfl (lv_at hl 0 rfl)) ?_
  refine jJ_of (fun H locs => lv_sipush (v := (nI 16000)) hx hb dX10_init_27 (by decide)) ?_
  refine jJ_newa hx hb (atype := .byte) (hts (.arrayClass .byte) (by decide +kernel)) (ty := .byte) rfl hK hA 2 rfl (N' := 16000) (a0 := (16000, .inl (fun _ => 0))) (fun cA => by rw [vp_cell_i]; rfl) (by omega) (by decide) (by show _ + 1 ≤ 26; omega) (by show _ + 16000 ≤ 464320; omega) dX10_init_30 (fun q30 => ?_)
  refine jJ_eq (g2 := F0 m 32 ls [.ref q30, .ref h]) (cs2 := [u16, u5, [(h, .inr (8, [.ref q5, .ref q16, .int (nI 0), .null, .int (nI 0), .int (nI 0), .null, .int (nI 0), .int (nI 0), .null, .int (nI 0), .int (nI 0), .int (nI 0), .int (nI 0), .null, .null, .int (nI 0), .int (nI 0), .int (nI 0)]))], [(q30, .inl (cB, 16000, .inl (fun _ => 0)))]]) rfl rfl ?_
  refine jJ_putF hx hb (C := RX10) (T := TX10) (N := 19) (ty := .array .byte) (v := .ref q30) hts uX10_in_X10_init tyX10 tyX10_ok nmX10 hown hK 2 rfl rfl 6 (by decide) (hts (.fieldLink RX10 19 "ValueBlocksModel" "tray" "[B") (by decide +kernel)) (fun _ h9 => h9) rfl hnm rfl (by decide +kernel) rfl rfl (Nat.le_of_ble_eq_true rfl) dX10_init_32 (cs2 := [u16, u5, [(h, .inr (8, [.ref q5, .ref q16, .int (nI 0), .null, .int (nI 0), .int (nI 0), .ref q30, .int (nI 0), .int (nI 0), .null, .int (nI 0), .int (nI 0), .int (nI 0), .int (nI 0), .null, .null, .int (nI 0), .int (nI 0), .int (nI 0)]))], [(q30, .inl (cB, 16000, .inl (fun _ => 0)))]]) rfl ?_
  refine jJ_of (fun H locs => lv_aload_n hx hb dX10_init_35 rfl (lv_at hl 0 rfl)) ?_
  refine jJ_newExc hx hb hl9 (names := jEx) (ik := 23) (ic := 25) (ci := 0) (TT := TJxb5711) (own := RX10) (cls := "java/lang/IllegalStateException") hown (by decide +kernel) (by decide +kernel) (hts (.classLink RX10 23 "java/lang/IllegalStateException") (by decide +kernel)) (hts (.initialized "java/lang/IllegalStateException") (by decide +kernel)) (jEx_words hts hK hZ) hK rfl hA hst (by rw [hml]; exact hl.1) dX10_init_36 dX10_init_39 dX10_init_40 (by show 2 + 3 < 8; omega) (by show 1 + 0 + (13 * (2 + 1) + 42) ≤ 160; omega) (by show _ + 1 ≤ 26; omega) (by show _ + 6 ≤ 464320; omega) (fun q36 => ?_)
  refine jJ_eq (g2 := F0 m 43 ls [.ref q36, .ref h]) (cs2 := [u16, u5, [(h, .inr (8, [.ref q5, .ref q16, .int (nI 0), .null, .int (nI 0), .int (nI 0), .ref q30, .int (nI 0), .int (nI 0), .null, .int (nI 0), .int (nI 0), .int (nI 0), .int (nI 0), .null, .null, .int (nI 0), .int (nI 0), .int (nI 0)]))], [(q30, .inl (cB, 16000, .inl (fun _ => 0)))], [(q36, .inr (0, []))]]) rfl rfl ?_
  refine jJ_putF hx hb (C := RX10) (T := TX10) (N := 19) (ty := .object "java/lang/IllegalStateException") (v := .ref q36) hts uX10_in_X10_init tyX10 tyX10_ok nmX10 hown hK 2 rfl rfl 9 (by decide) (hts (.fieldLink RX10 26 "ValueBlocksModel" "stop" "Ljava/lang/IllegalStateException;") (by decide +kernel)) (fun _ h9 => h9) rfl hnm rfl (by decide +kernel) rfl rfl (Nat.le_of_ble_eq_true rfl) dX10_init_43 (cs2 := [u16, u5, [(h, .inr (8, [.ref q5, .ref q16, .int (nI 0), .null, .int (nI 0), .int (nI 0), .ref q30, .int (nI 0), .int (nI 0), .ref q36, .int (nI 0), .int (nI 0), .int (nI 0), .int (nI 0), .null, .null, .int (nI 0), .int (nI 0), .int (nI 0)]))], [(q30, .inl (cB, 16000, .inl (fun _ => 0)))], [(q36, .inr (0, []))]]) rfl ?_
  refine jJ_of (fun H locs => lv_aload_n hx hb dX10_init_46 rfl (lv_at hl 0 rfl)) ?_
  refine jJ_of (fun H locs => lv_iconst (v := (iI (-1))) hx hb dX10_init_47 (by decide)) ?_
  refine jJ_put hx hb (C := RX10) (T := TX10) (N := 19) (ty := .int) (v := .int (iI (-1))) hts uX10_in_X10_init tyX10 tyX10_ok nmX10 hown hK 2 rfl rfl 12 (by decide) (hts (.fieldLink RX10 30 "ValueBlocksModel" "place" "I") (by decide +kernel)) (fun _ h9 => h9) rfl (by decide +kernel) rfl rfl (Nat.le_of_ble_eq_true rfl) dX10_init_48 (cs2 := [u16, u5, [(h, .inr (8, [.ref q5, .ref q16, .int (nI 0), .null, .int (nI 0), .int (nI 0), .ref q30, .int (nI 0), .int (nI 0), .ref q36, .int (nI 0), .int (nI 0), .int (iI (-1)), .int (nI 0), .null, .null, .int (nI 0), .int (nI 0), .int (nI 0)]))], [(q30, .inl (cB, 16000, .inl (fun _ => 0)))], [(q36, .inr (0, []))]]) rfl ?_
  refine jJ_of (fun H locs => lv_aload_n hx hb dX10_init_51 rfl (lv_at hl 0 rfl)) ?_
  refine jJ_of (fun H locs => lv_iconst (v := (nI 4)) hx hb dX10_init_52 (by decide)) ?_
  refine jJ_newa hx hb (atype := .int) (hts (.arrayClass .int) (by decide +kernel)) (ty := .int) rfl hK hA 0 rfl (N' := 4) (a0 := (4, .inl (fun _ => 0))) (fun cA => by rw [vp_cell_i]; rfl) (by omega) (by decide) (by show _ + 1 ≤ 26; omega) (by show _ + 4 ≤ 464320; omega) dX10_init_53 (fun q53 => ?_)
  refine jJ_eq (g2 := F0 m 55 ls [.ref q53, .ref h]) (cs2 := [u16, u5, [(h, .inr (8, [.ref q5, .ref q16, .int (nI 0), .null, .int (nI 0), .int (nI 0), .ref q30, .int (nI 0), .int (nI 0), .ref q36, .int (nI 0), .int (nI 0), .int (iI (-1)), .int (nI 0), .null, .null, .int (nI 0), .int (nI 0), .int (nI 0)]))], [(q30, .inl (cB, 16000, .inl (fun _ => 0)))], [(q36, .inr (0, []))], [(q53, .inl (cI, 4, .inl (fun _ => 0)))]]) rfl rfl ?_
  refine jJ_putF hx hb (C := RX10) (T := TX10) (N := 19) (ty := .array .int) (v := .ref q53) hts uX10_in_X10_init tyX10 tyX10_ok nmX10 hown hK 2 rfl rfl 14 (by decide) (hts (.fieldLink RX10 34 "ValueBlocksModel" "opens" "[I") (by decide +kernel)) (fun _ h9 => h9) rfl hnm rfl (by decide +kernel) rfl rfl (Nat.le_of_ble_eq_true rfl) dX10_init_55 (cs2 := [u16, u5, [(h, .inr (8, [.ref q5, .ref q16, .int (nI 0), .null, .int (nI 0), .int (nI 0), .ref q30, .int (nI 0), .int (nI 0), .ref q36, .int (nI 0), .int (nI 0), .int (iI (-1)), .int (nI 0), .ref q53, .null, .int (nI 0), .int (nI 0), .int (nI 0)]))], [(q30, .inl (cB, 16000, .inl (fun _ => 0)))], [(q36, .inr (0, []))], [(q53, .inl (cI, 4, .inl (fun _ => 0)))]]) rfl ?_
  refine jJ_of (fun H locs => lv_aload_n hx hb dX10_init_58 rfl (lv_at hl 0 rfl)) ?_
  refine jJ_of (fun H locs => lv_sipush (v := (nI 200)) hx hb dX10_init_59 (by decide)) ?_
  refine jJ_newa hx hb (atype := .long) (hts (.arrayClass .long) (by decide +kernel)) (ty := .long) rfl hK hA 1 rfl (N' := 200) (a0 := (200, .inr (.inl (fun _ => 0)))) (fun cA => by rw [vp_cell_l]; rfl) (by omega) (by decide) (by show _ + 1 ≤ 26; omega) (by show _ + 200 ≤ 464320; omega) dX10_init_62 (fun q62 => ?_)
  refine jJ_eq (g2 := F0 m 64 ls [.ref q62, .ref h]) (cs2 := [u16, u5, [(h, .inr (8, [.ref q5, .ref q16, .int (nI 0), .null, .int (nI 0), .int (nI 0), .ref q30, .int (nI 0), .int (nI 0), .ref q36, .int (nI 0), .int (nI 0), .int (iI (-1)), .int (nI 0), .ref q53, .null, .int (nI 0), .int (nI 0), .int (nI 0)]))], [(q30, .inl (cB, 16000, .inl (fun _ => 0)))], [(q36, .inr (0, []))], [(q53, .inl (cI, 4, .inl (fun _ => 0)))], [(q62, .inl (cJ, 200, .inr (.inl (fun _ => 0))))]]) rfl rfl ?_
  refine jJ_putF hx hb (C := RX10) (T := TX10) (N := 19) (ty := .array .long) (v := .ref q62) hts uX10_in_X10_init tyX10 tyX10_ok nmX10 hown hK 2 rfl rfl 15 (by decide) (hts (.fieldLink RX10 38 "ValueBlocksModel" "variables" "[J") (by decide +kernel)) (fun _ h9 => h9) rfl hnm rfl (by decide +kernel) rfl rfl (Nat.le_of_ble_eq_true rfl) dX10_init_64 (cs2 := [u16, u5, [(h, .inr (8, [.ref q5, .ref q16, .int (nI 0), .null, .int (nI 0), .int (nI 0), .ref q30, .int (nI 0), .int (nI 0), .ref q36, .int (nI 0), .int (nI 0), .int (iI (-1)), .int (nI 0), .ref q53, .ref q62, .int (nI 0), .int (nI 0), .int (nI 0)]))], [(q30, .inl (cB, 16000, .inl (fun _ => 0)))], [(q36, .inr (0, []))], [(q53, .inl (cI, 4, .inl (fun _ => 0)))], [(q62, .inl (cJ, 200, .inr (.inl (fun _ => 0))))]]) rfl ?_
  refine jJ_perm [2, 1, 0, 4, 3, 5, 6] (nn := 7) rfl (by decide) (cs2 := [[(h, .inr (8, [.ref q5, .ref q16, .int (nI 0), .null, .int (nI 0), .int (nI 0), .ref q30, .int (nI 0), .int (nI 0), .ref q36, .int (nI 0), .int (nI 0), .int (iI (-1)), .int (nI 0), .ref q53, .ref q62, .int (nI 0), .int (nI 0), .int (nI 0)]))], u5, u16, [(q36, .inr (0, []))], [(q30, .inl (cB, 16000, .inl (fun _ => 0)))], [(q53, .inl (cI, 4, .inl (fun _ => 0)))], [(q62, .inl (cJ, 200, .inr (.inl (fun _ => 0))))]]) rfl ?_
  subst hu5 hu16 hb5 hb16
  exact jJ_vret hx hb hr hlocks dX10_init_67 (by show _ ≤ 26; omega) (by show _ ≤ 464320; omega) ⟨rfl, ⟨b1, b2, q36, q30, q53, q62, rfl⟩, by omega, by omega⟩
end MC
