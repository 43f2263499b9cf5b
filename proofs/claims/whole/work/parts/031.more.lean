/-! The layer, more: new cells, copies, methods that throw the one prepared object. -/
section JMA
variable {p : Program} {l : Launch} {e : Env} {R : Room} {s : State} {m : MethodId} {args : Array Value} {below : List Frame} {meth : Method} {c : Code}
variable {D : va_G} {G : Nat → Nat} {A0 : Nat → Prop} {cs : List va_W} {k n : Nat} {Q : State → Prop} {tys : List (ClassId × FieldType)} {cc : ByteArray} {pc : Nat} {ls : Array Slot} {rest : List Value} {a : Nat}
theorem jJ_zast (hexec : p.tables.exec = Jvm.exec) (hb : c.code = cc) (hK : va_K D vwCl tys s) (q0 t0 : Nat) {cA : ClassId} {z : Nat} {f : Nat → Int32} (ha : cs[q0]? = some [(a, .inl (cA, z, .inl f))]) (ht : tys[t0]? = some (cA, .boolean)) {i x : Int32} (hin : vp_in i z) (hdg : decode cc pc = .ok (.bastore, 1))
    {cs2 : List va_W} (hc2 : cs.set q0 [(a, .inl (cA, z, .inl (upd f i.toNatClampNeg (x &&& 1))))] = cs2) (kk : jJ p l e R s m args below meth c D A0 cs2 k n Q (F0 m (pc + 1) ls rest)) : jJ p l e R s m args below meth c D A0 cs k n Q (F0 m pc ls (.int x :: .int i :: .ref a :: rest)) := by
  subst hc2
  intro H locs hP hD hS
  obtain ⟨j, hi, hset⟩ := jF_set ha
  refine va_zast hexec hb hK hP hD hS j t0 hi ht hin hdg (fun H1 locs1 hP1 hD1 hS1 => ?_)
  rw [hset] at hP1 hD1
  exact kk H1 locs1 hP1 hD1 hS1
theorem jF_snoc (cs : List va_W) (x : Nat × va_E) : jF (cs ++ [[x]]) = jF cs ++ [x] := by rw [jF_app]; rfl
theorem jJ_new (hexec : p.tables.exec = Jvm.exec) (hb : c.code = cc) {own C : String} {T : u_T} {N ci index : Nat} {Ts : List Cond} (hts : ∀ w ∈ Ts, w.before args s = true) (hin : ∀ w ∈ u_ws C T N, w ∈ Ts) (ty : Nat → FieldType) (hty : ∀ k, k < N → parseFieldDescriptor (T k).2.2.1 = some (ty k)) (hown : s.vm.findClass own = some m.cls) (hcl : (Cond.classLink own index C).before args s = true) (hinst : (Cond.instantiable C N).before args s = true) (hini : (Cond.initialized C).before args s = true)
    (hK : va_K D vwCl tys s) (hA : ∀ q, s.heap.size ≤ q → A0 q) (hc : vwCl[ci]? = some (C, T, N)) {fs : List Value} (hfs : ∀ j, j < N → defaultValue (ty j) = vp_V fs j) (hcells : k + 1 ≤ R.cells) (hslots : n + N ≤ R.slots) (hdg : decode cc pc = .ok (.new index, 3))
    (kk : ∀ q : Nat, jJ p l e R s m args below meth c D A0 (cs ++ [[(q, .inr (ci, fs))]]) (k + 1) (n + N) Q (F0 m (pc + 3) ls (.ref q :: rest))) : jJ p l e R s m args below meth c D A0 cs k n Q (F0 m pc ls rest) := by
  intro H locs hP hD hS
  refine va_new hexec hb hts hin ty hty hown hcl hinst hini hK hP hD hS hA hc hfs hcells hslots hdg (fun q H1 hP1 hD1 hS1 => ?_)
  rw [← jF_snoc] at hP1 hD1
  exact kk q H1 locs hP1 hD1 hS1
theorem jRA_find {U : State} {cA : ClassId} {ty : FieldType} (h : va_RA U cA ty) : U.vm.findClass ("[" ++ ty.toString) = some cA := by
  cases ty with
  | object C =>
    obtain ⟨_, _, _, _, _, e⟩ := h
    exact e
  | _ => exact h
theorem jK_cls {t0 : Nat} {cA cB : ClassId} {ty : FieldType} (hK : va_K D vwCl tys s) (ht : tys[t0]? = some (cA, ty)) (hK2 : va_K D vwCl (tys ++ [(cB, ty)]) s) : cB = cA := by
  have h1 := jRA_find (hK.2 t0 _ ht).2
  have h2 := jRA_find (hK2.2 tys.length (cB, ty) (by rw [List.getElem?_append_right (Nat.le_refl _)]; simp)).2
  exact Option.some.inj (h2.symm.trans h1)
theorem jJ_newa (hexec : p.tables.exec = Jvm.exec) (hb : c.code = cc) {atype : ArrayType} (harr : (Cond.arrayClass (newarray.typeOf atype)).before args s = true) {ty : FieldType} (hty : newarray.typeOf atype = ty) (hK : va_K D vwCl tys s) (hA : ∀ q, s.heap.size ≤ q → A0 q) (t0 : Nat) {cA : ClassId} (ht : tys[t0]? = some (cA, ty))
    {N' : Nat} {a0 : vp_A} (ha : ∀ cA : ClassId, vp_cell cA a0 = arrV cA N' (fun _ => defaultValue ty)) (hN : N' < 33554432) (hcomp : componentBytes ty ≤ 8) (hcells : k + 1 ≤ R.cells) (hslots : n + N' ≤ R.slots) (hdg : decode cc pc = .ok (.newarray atype, 2))
    (kk : ∀ q : Nat, jJ p l e R s m args below meth c D A0 (cs ++ [[(q, .inl (cA, a0))]]) (k + 1) (n + N') Q (F0 m (pc + 2) ls (.ref q :: rest))) : jJ p l e R s m args below meth c D A0 cs k n Q (F0 m pc ls (.int (nI N') :: rest)) := by
  intro H locs hP hD hS
  have hb5 : N' * componentBytes ty ≤ 536870912 := by
    have h1 : N' * componentBytes ty ≤ N' * 8 := Nat.mul_le_mul_left _ hcomp
    omega
  refine va_newa hexec hb harr hty hK hP hD hS hA ha (nI_pos (by omega)) (nI_clamp (by omega)) hb5 hcells hslots hdg (fun q cB H1 hK1 hP1 hD1 hS1 => ?_)
  have e := jK_cls hK ht hK1
  subst e
  rw [← jF_snoc] at hP1 hD1
  exact kk q H1 locs hP1 hD1 hS1
theorem jJ_copyi (hexec : p.tables.exec = Jvm.exec) (hb : c.code = cc) (hml : c.maxLocals = ls.size) {own : String} {index : Nat} (hown : s.vm.findClass own = some m.cls) (hlink : (Cond.methodLink own index arraycopyName).before args s = true) (hnat : (Cond.native arraycopyName).before args s = true) (hstat : (Cond.static arraycopyName).before args s = true) (hini : (Cond.initialized "java/lang/System").before args s = true)
    (hK : va_K D vwCl tys s) (q0 q1 t0 t1 : Nat) {a0 : Nat} {c0 c1 : ClassId} {n0 n1 : Nat} {f g : Nat → Int32} (ha0 : cs[q0]? = some [(a0, .inl (c0, n0, .inl f))]) (ha1 : cs[q1]? = some [(a, .inl (c1, n1, .inl g))]) (ht0 : tys[t0]? = some (c0, .int)) (ht1 : tys[t1]? = some (c1, .int))
    {sp dp N : Nat} (h1 : sp < 2147483648) (h2 : dp < 2147483648) (h3 : N < 2147483648) (h4 : sp + N ≤ n0) (h5 : dp + N ≤ n1)
    (hframes : 1 ≤ R.frames) (hlocals : (rest.map fun v => v.category).sum + (nativeFrameWords "java/lang/System" "arraycopy" 5 + 11) ≤ R.locals) (hdg : decode cc pc = .ok (.invokestatic index, 3))
    {cs2 : List va_W} (hc2 : cs.set q1 [(a, .inl (c1, n1, .inl (va_cpy f g sp dp N)))] = cs2) (kk : jJ p l e R s m args below meth c D A0 cs2 k n Q (F0 m (pc + 3) ls rest)) : jJ p l e R s m args below meth c D A0 cs k n Q (F0 m pc ls (.int (nI N) :: .int (nI dp) :: .ref a :: .int (nI sp) :: .ref a0 :: rest)) := by
  subst hc2
  intro H locs hP hD hS
  obtain ⟨i, hi, -⟩ := jF_set ha0
  obtain ⟨j, hj, hset⟩ := jF_set ha1
  refine va_copyi hexec hb hml hown hlink hnat hstat hini hK hP hD hS i j t0 t1 hi hj ht0 ht1 rfl (nI_pos h1) (nI_pos h2) (nI_pos h3) (by rw [nI_clamp h1, nI_clamp h3]; exact h4) (by rw [nI_clamp h2, nI_clamp h3]; exact h5) (fun _ _ => rfl) hframes hlocals hdg (fun H1 locs1 hP1 hD1 hS1 => ?_)
  rw [nI_clamp h1, nI_clamp h2, nI_clamp h3, hset] at hP1 hD1
  exact kk H1 locs1 hP1 hD1 hS1
end JMA
section JMX
variable {p : Program} {l : Launch} {e : Env} {R : Room} {s : State} {m : MethodId} {args : Array Value} {below : List Frame} {meth : Method} {c : Code}
variable {D : va_G} {G : Nat → Nat} {A0 : Nat → Prop} {cs : List va_W} {k n : Nat} {Q : State → Prop} {tys : List (ClassId × FieldType)} {cc : ByteArray} {pc : Nat} {ls : Array Slot} {rest : List Value}
def jX (D : va_G) (A : Nat → Prop) (Xv : va_W → Nat → Nat → Prop) : String → State → State → Prop := fun E st t =>
  E = RJxb5711 ∧ (∃ (u : va_W) (k n : Nat), Xv u k n ∧ va_P D vwCl u t.heap ∧ va_D A u ∧ t.heap.size ≤ st.heap.size + k ∧ jTS t.heap ≤ jTS st.heap + n) ∧ va_F A st t
/-- a contract of a method that returns, or throws the prepared object -/
def HX (l : Launch) (y : MethodName) (ws : List Cond) (rm : Room) (D : va_G) (G : Nat → Nat) (tys : List (ClassId × FieldType)) (av : List Value) (w : va_W) (Qv : Option Value → va_W → Nat → Nat → Prop) (Xv : va_W → Nat → Nat → Prop) : Prop :=
  ∀ sz : Nat, vx_Met l y ws rm (jPc D G tys av w sz) (jQ D (va_A w sz) Qv) (jX D (va_A w sz) Xv) rm.cells rm.slots (va_A w sz)
def jEndX (below : List Frame) (D : va_G) (A0 : Nat → Prop) (Qv : Option Value → va_W → Nat → Nat → Prop) (Xv : va_W → Nat → Nat → Prop) (args : Array Value) (s : State) (mc ms : Nat) : State → Prop := vx_MQ below (jQ D A0 Qv) (jX D A0 Xv) args s mc ms A0
theorem jJ_toX {Qv : Option Value → va_W → Nat → Nat → Prop} {Xv : va_W → Nat → Nat → Prop} {mc ms : Nat} {g : JFrame} (kk : jJ p l e R s m args below meth c D A0 cs k n (jEnd below D A0 Qv args s mc ms) g) : jJ p l e R s m args below meth c D A0 cs k n (jEndX below D A0 Qv Xv args s mc ms) g := by
  intro H locs a b d
  intro T hT X
  obtain ⟨t, a1, o, b1, b2, b3, b4⟩ := kk H locs a b d T hT X
  exact ⟨t, a1, o, b1, b2, Or.inl ⟨b3, b4⟩⟩
/-- the frame g with q thrown over it -/
def jJx (p : Program) (l : Launch) (e : Env) (R : Room) (s : State) (m : MethodId) (args : Array Value) (below : List Frame) (meth : Method) (c : Code) (D : va_G) (A0 : Nat → Prop) (cs : List va_W) (k n : Nat) (Q : State → Prop) (g : JFrame) (q : Nat) : Prop :=
  ∀ (H : Heap) (locs : List Loc) (ce : Cell), va_P D vwCl (jF cs) H → va_D A0 (jF cs) → va_S A0 s.heap H locs → H[q]? = some ce → ce.vm = .none → s.vm.findClass RJxb5711 = some ce.cls → vx_W p l e R s m args below meth c H locs k n Q g q
theorem jJ_athrow (hexec : p.tables.exec = Jvm.exec) (hb : c.code = cc) (hK : va_K D vwCl tys s) {q : Nat} (q0 : Nat) {fs : List Value} (he : cs[q0]? = some [(q, .inr (0, fs))]) (hdg : decode cc pc = .ok (.athrow, 1))
    (kk : jJx p l e R s m args below meth c D A0 cs k n Q (F0 m pc ls rest) q) : jJ p l e R s m args below meth c D A0 cs k n Q (F0 m pc ls (.ref q :: rest)) := by
  intro H locs hP hD hS T hT X
  obtain ⟨r, h1, ce, q1, q2, q3, -⟩ := jP_at hP he 0 _ rfl
  have hcl : s.vm.findClass RJxb5711 = some ce.cls := by rw [q2]; exact (hK.1 0 _ rfl).2.1
  obtain ⟨t, st, hq⟩ := kk H locs ce hP hD hS q1 q3 hcl T hT X
  refine ⟨t, ?_, hq⟩
  have hdg' : decode c.code pc = .ok (.athrow, 1) := by rw [hb]; exact hdg
  jvm_step X.here [X.here.top, hexec, hdg', athrow.wp_sem]
  exact st
theorem jJx_out {Qv : Option Value → va_W → Nat → Nat → Prop} {Xv : va_W → Nat → Nat → Prop} {mc ms : Nat} {q : Nat} (hno : ∀ x ∈ c.exceptionTable.toList, False) (hlocks : meth.locks = false) (hk : k ≤ mc) (hn : n ≤ ms) (hx : Xv (jF cs) k n) :
    jJx p l e R s m args below meth c D A0 cs k n (jEndX below D A0 Qv Xv args s mc ms) (F0 m pc ls rest) q := by
  intro H locs ce hP hD hS h1 h2 h3 T hT X
  obtain ⟨g1, g2⟩ := jGrowth X
  rw [hT] at g1 g2
  exact vx_out (fun x hx => (hno x hx).elim) hlocks h1 h2 h3 (fun t ht hW => ⟨rfl, ⟨jF cs, k, n, hx, by rw [ht]; exact hP, hD, by rw [ht]; exact g1, by rw [ht]; exact g2⟩, hS.F ht⟩) hS.2.2 hk hn T hT X
theorem jX_callG {st0 : List Value} {a : Array Value} {mc ms : Nat} {wc : va_W} {cs2 : List va_W} {Qv : Option Value → va_W → Nat → Nat → Prop} {Xv : va_W → Nat → Nat → Prop} (is js : List Nat)
    (hA : ∀ q, s.heap.size ≤ q → A0 q) (hAm : jAm G A0 s s.heap) {nn : Nat} (hnn : cs.length = nn) (hp : (is ++ js).Perm (List.range nn)) (hwc : jF (jPick cs is) = wc) (hc2 : jPick cs js = cs2)
    (hr : ∀ (H : Heap) (locs : List Loc), va_P D vwCl wc H → va_D (fun _ => True) wc → (∀ U : State, U.heap = H → s.WarmedH U.vm → jAm G (va_A wc H.size) U U.heap) → va_S A0 s.heap H locs → vx_Run p l e R s m args below meth c H locs k n mc ms (F0 m pc ls st0) rest (jQ D (va_A wc H.size) Qv a) (jX D (va_A wc H.size) Xv) (va_A wc H.size))
    (kx : ∀ (u : va_W) (k' n' q : Nat), Xv u k' n' → jJx p l e R s m args below meth c D A0 (u :: cs2) (k + k') (n + n') Q (F0 m pc ls rest) q)
    (kk : ∀ (v : Option Value) (u : va_W) (k' n' : Nat), Qv v u k' n' → jJ p l e R s m args below meth c D A0 (u :: cs2) (k + k') (n + n') Q (F0 m (pc + 3) ls (v.toList ++ rest))) : jJ p l e R s m args below meth c D A0 cs k n Q (F0 m pc ls st0) := by
  subst hwc; subst hc2; subst hnn
  intro H locs hP hD hS T hT X
  have hsp := jF_split hp
  have hP' := jP_perm hsp hP
  have hD' := jD_perm hsp hD
  have hF := jA_free hD' hS hA
  obtain ⟨g1, g2⟩ := jGrowth X
  rw [hT] at g1 g2
  rcases hr H locs (jP_left hP') ((jD_left hD').weaken (fun _ _ _ _ => trivial)) (fun U hU hW => hAm.go hS hF hU hW) hS T hT X with ⟨v, st₀, t, T', L, h0, X', hL, e1, e2, ⟨⟨v', u, k', n', hv, hq, hPu, hDu, hz, hss⟩, hF2⟩, st⟩ | ⟨q, st₀, t, T', L, E, ce, h0, X', hL, e1, e2, ⟨hE, ⟨u, k', n', hq, hPu, hDu, hz, hss⟩, hF2⟩, hce, hcv, hcl, st⟩
  · cases hv
    obtain ⟨k1, k2, k3⟩ := vx_keep h0 e1 hS (fun q _ h => hF q h) hF hL hF2
    rw [h0, ← e1] at hz hss
    have X2 := jTight X' (k' := k + k') (n' := n + n') (by omega) (by omega)
    rw [← e1] at hPu
    obtain ⟨j1, j2⟩ := jJoin hP' hD' k2 hF hPu hDu
    rw [← jF_cons] at j1 j2
    obtain ⟨t2, a1, b1⟩ := kk v u k' n' hq T'.heap (locs ++ L) j1 j2 k3 T' rfl X2
    exact ⟨t2, st t2 a1, b1⟩
  · subst hE
    obtain ⟨k1, k2, k3⟩ := vx_keep h0 e1 hS (fun q _ h => hF q h) hF hL hF2
    rw [h0, ← e1] at hz hss
    have X2 := jTight X' (k' := k + k') (n' := n + n') (by omega) (by omega)
    rw [← e1] at hPu hce
    obtain ⟨j1, j2⟩ := jJoin hP' hD' k2 hF hPu hDu
    rw [← jF_cons] at j1 j2
    obtain ⟨t2, a1, b1⟩ := kx u k' n' q hq T'.heap (locs ++ L) ce j1 j2 k3 hce hcv hcl T' rfl X2
    exact ⟨t2, st.trans a1, b1⟩
theorem jX_callV {y : MethodName} {bytes : ByteArray} {maxL nL na index ci : Nat} {ret : Option FieldType} {ws : List Cond} {rm : Room} {Ts : List Cond} {own C : String} {T : u_T} {N : Nat} {b : Addr} {As st0 : List Value} {wc : va_W} {cs2 : List va_W} {Qv : Option Value → va_W → Nat → Nat → Prop} {Xv : va_W → Nat → Nat → Prop} (is js : List Nat)
    (S : CallFix p m c cc nL s args Ts own) (hK : va_K D vwCl tys s) (hA : ∀ q, s.heap.size ≤ q → A0 q) (hAm : jAm G A0 s s.heap)
    (hM : HX l y ws rm D G tys (.ref b :: As) wc Qv Xv) (cw : CallW R s args own C index y bytes maxL ret ws rm rm.cells rm.slots na)
    {nn : Nat} (hnn : cs.length = nn) (hp : (is ++ js).Perm (List.range nn)) (hwc : jF (jPick cs is) = wc) (hc2 : jPick cs js = cs2)
    (hrc : ∃ (i : Nat) (fs : List Value), wc[i]? = some (b, .inr (ci, fs))) (hcl : vwCl[ci]? = some (C, T, N)) (hst : st0 = As.reverse ++ .ref b :: rest) (hn : As.length = na) (hsz : ls.size = nL) (hroom : (rest.map fun v => v.category).sum ≤ 8)
    (hdg : decode cc pc = .ok (.invokevirtual index, 3)) (hf1 : k + rm.cells ≤ R.cells) (hf2 : n + rm.slots ≤ R.slots)
    (kx : ∀ (u : va_W) (k' n' q : Nat), Xv u k' n' → jJx p l e R s m args below meth c D A0 (u :: cs2) (k + k') (n + n') Q (F0 m pc ls rest) q)
    (kk : ∀ (v : Option Value) (u : va_W) (k' n' : Nat), Qv v u k' n' → jJ p l e R s m args below meth c D A0 (u :: cs2) (k + k') (n + n') Q (F0 m (pc + 3) ls (v.toList ++ rest))) : jJ p l e R s m args below meth c D A0 cs k n Q (F0 m pc ls st0) := by
  subst hst
  refine jX_callG (mc := rm.cells) (ms := rm.slots) (a := (Value.ref b :: As).toArray) is js hA hAm hnn hp hwc hc2 (fun H locs hP hD hM9 hS9 => ?_) kx kk
  obtain ⟨i, fs, hi⟩ := hrc
  exact vx_runV S (hM H.size) cw ⟨jPc_blind, va_recv hK hP (ci := ci) (q0 := i) hcl hi, fun U hU hW => ⟨rfl, by rw [hU], by rw [hU]; exact hP, jK_alike hK hW, hD, by have h9 := hM9 U hU hW; rw [hU] at h9 ⊢; exact h9⟩⟩ rfl hn hsz rfl (lv_room hroom) hdg ⟨hf1, hf2⟩
theorem HX_of {y : MethodName} {ws ws' : List Cond} {rm : Room} {av : List Value} {w : va_W} {Qv : Option Value → va_W → Nat → Nat → Prop} {Xv : va_W → Nat → Nat → Prop} {maxL : Nat} {ret : Option FieldType} {lv : List (Nat × Value)}
    (hy : plainName y.cls = true) (hw : ws = Cond.code y cc maxL ret :: ws') (hlv : lv_args 0 av = lv) (hln : (lg_sl av).length ≤ maxL)
    (body : ∀ (p : Program) (e : Env) (s : State) (m : MethodId) (args : Array Value) (below : List Frame) (meth : Method) (c : Code) (A0 : Nat → Prop) (ls : Array Slot),
      p.tables.exec = Jvm.exec → c.code = cc → meth.sig.returnType = ret → (∀ w ∈ ws, w.before args s = true) → s.vm.findClass y.cls = some m.cls → meth.locks = false → c.maxLocals = maxL → (∀ x ∈ c.exceptionTable.toList, False) → va_K D vwCl tys s → (∀ q : Nat, s.heap.size ≤ q → A0 q) → jAm G A0 s s.heap → lv_has ls maxL lv →
      jJ p l e rm s m args below meth c D A0 [w] 0 0 (jEndX below D A0 Qv Xv args s rm.cells rm.slots) (F0 m 0 ls [])) : HX l y ws rm D G tys av w Qv Xv := by
  intro sz
  refine vx_ofW (cc := cc) (maxL := maxL) (ret := ret) hy hw ?_
  intro p e s m args below meth c s₁ B hml hno hv
  obtain ⟨rfl, hsz, hP, hK, hD0, hM9⟩ := hv
  subst hsz
  have hl := lv_entry av (n := maxL) hln
  rw [lg_entry_eq]
  generalize (lg_sl av ++ List.replicate (maxL - (lg_sl av).length) Slot.unset).toArray = ls at hl ⊢
  rw [hlv] at hl
  exact body p e s m av.toArray below meth c (va_A w s.heap.size) ls B.exec B.bytes B.returns (atoms_spec (ws := ws) B.pre) (findClass_of_methodNamed B.named) B.notSynchronized hml hno hK (fun q h => Or.inr h) hM9 hl s.heap [] hP hD0.self va_S.rf
end JMX
