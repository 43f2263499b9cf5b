/-! the law: its world, and what it reads of the script -/
def R_law : String := "ValueBlocksLaw"
def lw_P (b : Addr) (xs : List Int32) (args : Array Value) (s : State) : Prop := args = #[.ref b] ∧ s.IntsAt b xs ∧ xs.length ≤ 3072 ∧ (Jvm.Cond.and given_1 narrow_1).before args s = true
def lw_Q (_ : Array Value) (s : State) (o : Outcome) (t : State) : Prop := o = .returned (some (.int 1)) ∧ Framed s o t [] 601024 7293034
def lw_Z (below : List Frame) (a : Array Value) (s : State) : State → Prop := fun t => ∃ o, t.status = .running ∧ Ended t below o ∧ lw_Q a s o t
/-- the law's own end, with 1 on the stack, nothing written that was there before, its room as the claim has it -/
theorem lw_ret {p : Program} {l : Launch} {e : Env} {s : State} {m : MethodId} {below : List Frame} {meth : Method} {c : Code} {b : Nat} (hx : p.tables.exec = Jvm.exec) (hb : c.code = code) (hr : meth.sig.returnType = ret) (hlocks : meth.locks = false) {pc : Nat} {H : Heap} {ls : Array Slot} (hdg : decode code pc = .ok (.ireturn, 1)) : W p l e room_1 s m #[Value.ref b] below meth c H [] 601024 7293034 (lw_Z below #[Value.ref b] s) (F0 m pc ls [.int 1]) := by
  intro T hT X
  obtain ⟨fs, hret, hrun, hended, hW, hframe⟩ := X.leave (v := some (.int 1)) (hlocks := hlocks) (fun h => by rw [hr] at h; cases h)
  have hmeth' : T.vm.method? m = some meth := X.method'
  refine ⟨T.setFrames fs, ?_, .returned (some (.int 1)), hrun, hended, rfl, ⟨_, rfl⟩, hW, hframe⟩
  jvm_step X.here [X.here.top, hx, hb, hdg, hmeth', hr, ret, narrow_b1]
  (try refine ⟨rfl, ?_⟩); (try refine ⟨rfl, ?_⟩)
  first | (intro acts; rw [hret _ acts rfl rfl rfl]) | rw [hret _ _ rfl rfl rfl]
  exact Steps.refl _
/-- what holds at the law's entry -/
def lw_At (p : Program) (s : State) (m : MethodId) (meth : Method) (c : Code) (b L : Nat) (xs : Nat → Int32) : Prop :=
  p.tables.exec = Jvm.exec ∧ c.code = code ∧ meth.sig.returnType = ret ∧ c.maxLocals = 4 ∧ s.vm.findClass R_law = some m.cls ∧ (∀ w ∈ lw_tbl, w.before #[Value.ref b] s = true) ∧ va_X b L xs s s.heap ∧ b < s.heap.size ∧ meth.locks = false ∧ (Jvm.Cond.and given_1 narrow_1).before #[Value.ref b] s = true
/-- what the law's body needs of its entry -/
def lwF (p : Program) (s : State) (m : MethodId) (meth : Method) (c : Code) (b L : Nat) (xs : Nat → Int32) (D : va_G) (G : Nat → Nat) (cI cJ cB cZ : ClassId) : Prop :=
  p.tables.exec = Jvm.exec ∧ c.code = cL_law ∧ c.maxLocals = 4 ∧ s.vm.findClass RL = some m.cls ∧ (∀ w ∈ wsL_law, w.before #[Value.ref b] s = true) ∧ va_X b L xs s s.heap ∧ b < s.heap.size ∧ va_K D vwCl (jT cI cJ cB cZ) s ∧ jAm G (fun q => s.heap.size ≤ q) s s.heap ∧ L ≤ 3072 ∧ meth.sig.returnType = ret ∧ meth.locks = false
abbrev lJ (p : Program) (l : Launch) (e : Env) (s : State) (m : MethodId) (below : List Frame) (meth : Method) (c : Code) (b : Nat) (D : va_G) (cs : List va_W) (k n : Nat) (g : JFrame) : Prop :=
  jJ p l e room_1 s m #[Value.ref b] below meth c D (fun q => s.heap.size ≤ q) cs k n (lw_Z below #[Value.ref b] s) g
def lzV (zs : List Nat) (i : Nat) : Nat := zs.getD i 0
section LS
variable {p : Program} {l : Launch} {e : Env} {R : Room} {s : State} {m : MethodId} {args : Array Value} {below : List Frame} {meth : Method} {c : Code}
variable {D : va_G} {A0 : Nat → Prop} {cs : List va_W} {k n : Nat} {Q : State → Prop} {cc : ByteArray} {pc : Nat} {ls : Array Slot} {rest : List Value}
theorem jJ_sld (hexec : p.tables.exec = Jvm.exec) (hb : c.code = cc) {b L : Nat} {xs : Nat → Int32} (hX : va_X b L xs s s.heap) (hbl : b < s.heap.size) (hbA : ¬ A0 b) {i : Nat} (hi : i < L) (hL : L < 2147483648) (hdg : decode cc pc = .ok (.iaload, 1))
    (kk : jJ p l e R s m args below meth c D A0 cs k n Q (F0 m (pc + 1) ls (.int (xs i) :: rest))) : jJ p l e R s m args below meth c D A0 cs k n Q (F0 m pc ls (.int (nI i) :: .ref b :: rest)) :=
  fun H locs hP hD hS => va_sld hexec hb hX hbl hbA hS (vp_in_nI hi hL) hdg (by rw [nI_clamp (by omega)]; exact kk H locs hP hD hS)
theorem jJ_slen (hexec : p.tables.exec = Jvm.exec) (hb : c.code = cc) {b L : Nat} {xs : Nat → Int32} (hX : va_X b L xs s s.heap) (hbl : b < s.heap.size) (hbA : ¬ A0 b) (hdg : decode cc pc = .ok (.arraylength, 1))
    (kk : jJ p l e R s m args below meth c D A0 cs k n Q (F0 m (pc + 1) ls (.int (nI L) :: rest))) : jJ p l e R s m args below meth c D A0 cs k n Q (F0 m pc ls (.ref b :: rest)) :=
  fun H locs hP hD hS => va_slen hexec hb hX hbl hbA hS hdg (kk H locs hP hD hS)
/-- chunks put together -/
theorem jJ_shut {g : JFrame} {xs r : List va_W} (h : cs = xs ++ r) (kk : jJ p l e R s m args below meth c D A0 (jF xs :: r) k n Q g) : jJ p l e R s m args below meth c D A0 cs k n Q g :=
  jJ_flat (by rw [h, jF_app, jF_cons]) kk
end LS
theorem jVB.b {cI cJ : ClassId} {h Pt P1 P2 fed al an sp : Nat} {T : List Nat} {F1 F2 : Nat → List Int32} {hasT : Bool} {fp : Int} {vs : Nat → Int} {w : va_W} (hw : jVB cI cJ h Pt P1 P2 T F1 F2 hasT fed fp vs al an sp w) : Pt ≤ 2000 ∧ P1 ≤ 4000 ∧ P2 ≤ 4000 ∧ T.length ≤ 16000 ∧ (∀ j, T.getD j 0 < 256) ∧ fed ≤ 65536 ∧ (F1 0).length ≤ 8000 ∧ (F2 0).length ≤ 8000 := by
  obtain ⟨ht, hk, hm, h1, h2, hr, o, a, nx, tk, st, wk, wm, w1, w2, rfl, hTk, hMc, hPg1, hPg2, hfd, hf1, hf2⟩ := hw
  have a1 := hTk.len
  have a2 := hPg1.len
  have a3 := hPg2.len
  exact ⟨a1.2.2.2.1, a2.2.2, a3.2.2, a1.1, a1.2.2.2.2.2.1, hfd, a2.1 0 (by decide), a3.1 0 (by decide)⟩
/-- both objects, between two calls -/
def jSt (cI cJ cB cZ : ClassId) (ax am : Nat) (cs : List va_W) (k n : Nat) : Prop :=
  ∃ (wx : va_W) (Pt P1 P2 fed alx : Nat) (T : List Nat) (F1 F2 : Nat → List Int32) (hasT : Bool) (pl : Int) (vs : Nat → Int) (an sp : Nat)
    (b1 b2 : Nat → Nat) (qs qt qo qv : Nat) (t3 : Value) (a d oc al : Nat) (fp : Int32) (lp : Int) (ty : Nat → Int32) (op : Nat → Nat) (vv : Nat → Int64)
    (B1 B2 : Nat → Int32) (V1 V2 : Nat → Nat → Int32) (fi1 fi2 so1 so2 : Nat → Nat) (lb1 lb2 pa1 pa2 jm1 jm2 : Nat → Int) (n1 n2 tn1 tn2 ln1 ln2 : Nat),
    cs = [wx, mdF am qs qt qo qv (b1 1) (b2 1) hasT t3 a d T.length fed fp lp pl oc al sp an, jF (blkW cI cB cZ b1 B1 V1 fi1 so1 lb1 pa1 jm1 n1 tn1 ln1), jF (blkW cI cB cZ b2 B2 V2 fi2 so2 lb2 pa2 jm2 n2 tn2 ln2), [(qs, .inr (0, []))], [(qt, .inl (cB, 16000, .inl ty))], [(qo, .inl (cI, 4, .inl (fun i => nI (op i))))], [(qv, .inl (cJ, 200, .inr (.inl vv)))]] ∧
    jVB cI cJ ax Pt P1 P2 T F1 F2 hasT fed pl vs alx an sp wx ∧ tY T ty ∧ (∀ i, i < 200 → vv i = lI (vs i)) ∧ (∀ i, i < 200 → vOK (vs i)) ∧
    (hasT = true → ∃ tk : Nat → List Nat, tV tk V1 ∧ jUse 32008 tk ln1 fi1 so1 lb1 pa1 jm1 F1) ∧ k ≤ 80 + (Pt + P1 + P2) ∧ n ≤ 480000 + 128 * (Pt + P1 + P2)
theorem i32_iI (x : Int32) : x = iI x.toInt := (Int32.ofInt_toInt x).symm
theorem i32_b (x : Int32) : -2147483648 ≤ x.toInt ∧ x.toInt < 2147483648 := ⟨Int32.le_toInt x, Int32.toInt_lt x⟩
theorem i64_lI (x : Int64) : x = lI x.toInt := (Int64.ofInt_toInt x).symm
theorem i64_b (x : Int64) : -9223372036854775808 ≤ x.toInt ∧ x.toInt < 9223372036854775808 := ⟨Int64.le_toInt x, Int64.toInt_lt x⟩
theorem lg_self (x : Int64) : lg_cmp x x = 0 := by
  unfold lg_cmp
  rw [if_neg (fun h => absurd h (Int64.lt_irrefl)), if_pos rfl]
theorem tY_take {T : List Nat} {ty : Nat → Int32} (h : tY T ty) (j : Nat) : tY (T.take j) ty := by
  have hl : (T.take j).length ≤ T.length := by rw [List.length_take]; omega
  have hg : ∀ i, i < (T.take j).length → (T.take j).getD i 0 = T.getD i 0 := fun i hi => by
    rw [List.getD_eq_getElem?_getD, List.getD_eq_getElem?_getD, List.getElem?_take_of_lt (by rw [List.length_take] at hi; omega)]
  refine ⟨by have := h.1; omega, fun i hi => ?_, fun i => ?_⟩
  · rw [hg i hi]
    exact h.2.1 i (by omega)
  · by_cases q : i < (T.take j).length
    · rw [hg i q]
      exact h.2.2 i
    · rw [getD_gt (by omega)]
      decide
theorem tY_nil (ty : Nat → Int32) : tY [] ty := ⟨Nat.zero_le _, fun i hi => absurd hi (Nat.not_lt_zero i), fun i => by show 0 < 256; decide⟩
theorem vEnd_tY {T : List Nat} {ty : Nat → Int32} (h : tY T ty) (j : Int) : tY (vEnd T j).2 ty := by
  unfold vEnd
  split
  · exact h
  · exact tY_take h _
theorem mSet_ok {vs : Nat → Int} (h : ∀ i, i < 200 → vOK (vs i)) (j z : Int) : ∀ i, i < 200 → vOK (mSet vs j z i) := by
  intro i hi
  unfold mSet
  split
  · rename_i q
    by_cases e : i = j.toNat
    · rw [e, va_up_self]
      have q2 := q.2
      unfold vTG at q2
      have := of_decide_eq_false q2
      unfold vOK
      omega
    · rw [va_up_ne _ _ e]
      exact h i hi
  · exact h i hi
