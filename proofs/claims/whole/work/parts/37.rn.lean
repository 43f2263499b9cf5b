/-! ValueBlocksModel: what is thrown is caught; a line done, a text run -/
section JCT
variable {p : Program} {l : Launch} {e : Env} {R : Room} {s : State} {m : MethodId} {args : Array Value} {below : List Frame} {meth : Method} {c : Code}
variable {D : va_G} {G : Nat → Nat} {A0 : Nat → Prop} {cs : List va_W} {k n : Nat} {Q : State → Prop} {tys : List (ClassId × FieldType)} {cc : ByteArray} {pc : Nat} {ls : Array Slot} {rest : List Value}
theorem jCastable {E : String} {cl : ClassId} (h : s.vm.findClass E = some cl) : (Cond.castable E E).before args s = true := by
  have ha : s.vm.assignable cl cl = true := by
    unfold Vm.assignable
    rw [show (256 : Nat) = 255 + 1 from rfl]
    unfold Vm.assignableAux
    simp
  simp [Cond.before, Cond.holds, Cond.value, h, ha]
theorem jJx_catch {own : String} {q : Nat} (x : ExceptionTableEntry) (hown : s.vm.findClass own = some m.cls) (htab : c.exceptionTable.toList = [x]) (hcov : covers x pc = true) (h0 : x.catchType ≠ 0) (hlink : (Cond.classLink own x.catchType RJxb5711).before args s = true)
    (kk : jJ p l e R s m args below meth c D A0 cs k n Q (F0 m x.handlerPc ls [.ref q])) : jJx p l e R s m args below meth c D A0 cs k n Q (F0 m pc ls rest) q :=
  fun H locs _ hP hD hS h1 h2 h3 => vx_catch hown [] x [] htab (fun _ hz => absurd hz List.not_mem_nil) hcov h0 hlink (jCastable h3) h1 h2 h3 (kk H locs hP hD hS)
theorem HM_ofT {y : MethodName} {ws ws' : List Cond} {rm : Room} {av : List Value} {w : va_W} {Qv : Option Value → va_W → Nat → Nat → Prop} {maxL : Nat} {ret : Option FieldType} {lv : List (Nat × Value)} {hh : List (Nat × Nat × Nat × Nat)}
    (hy : plainName y.cls = true) (hw : ws = Cond.codeWith y cc maxL ret hh :: ws') (hlv : lv_args 0 av = lv) (hln : (lg_sl av).length ≤ maxL)
    (body : ∀ (p : Program) (e : Env) (s : State) (m : MethodId) (args : Array Value) (below : List Frame) (meth : Method) (c : Code) (A0 : Nat → Prop) (ls : Array Slot),
      p.tables.exec = Jvm.exec → c.code = cc → meth.sig.returnType = ret → (∀ w ∈ ws, w.before args s = true) → s.vm.findClass y.cls = some m.cls → meth.locks = false → c.maxLocals = maxL → c.exceptionTable.toList = tableOf hh → va_K D vwCl tys s → (∀ q : Nat, s.heap.size ≤ q → A0 q) → jAm G A0 s s.heap → lv_has ls maxL lv →
      jJ p l e rm s m args below meth c D A0 [w] 0 0 (jEnd below D A0 Qv args s rm.cells rm.slots) (F0 m 0 ls [])) : HM l y ws rm D G tys av w Qv := by
  intro sz
  refine va_MetW (cc := cc) (maxL := maxL) (ret := ret) (hh := hh) hy hw ?_
  intro p e s m args below meth c s₁ B hml hv
  obtain ⟨rfl, hsz, hP, hK, hD0, hM9⟩ := hv
  subst hsz
  have hl := lv_entry av (n := maxL) hln
  rw [lg_entry_eq]
  generalize (lg_sl av ++ List.replicate (maxL - (lg_sl av).length) Slot.unset).toArray = ls at hl ⊢
  rw [hlv] at hl
  have hts := atoms_spec (ws := ws) B.pre
  have htab : c.exceptionTable.toList = tableOf hh := vx_table (x := y) B (hts _ (by rw [hw]; exact List.mem_cons_self))
  exact body p e s m av.toArray below meth c (va_A w s.heap.size) ls B.exec B.bytes B.returns hts (findClass_of_methodNamed B.named) B.notSynchronized hml htab hK (fun q h => Or.inr h) hM9 hl s.heap [] hP hD0.self va_S.rf
/-- a virtual call of a method with a table -/
theorem jJ_callVW {y : MethodName} {bytes cc : ByteArray} {maxL nL na index ci : Nat} {ret : Option FieldType} {ws : List Cond} {rm : Room} {Ts : List Cond} {own C : String} {T : u_T} {N : Nat} {b : Addr} {As rest st0 : List Value} {pc : Nat} {ls : Array Slot} {wc : va_W} {cs2 : List va_W} {Qv : Option Value → va_W → Nat → Nat → Prop} {hh : List (Nat × Nat × Nat × Nat)} (is js : List Nat)
    (S : CallFix p m c cc nL s args Ts own) (hK : va_K D vwCl tys s) (hA : ∀ q, s.heap.size ≤ q → A0 q) (hAm : jAm G A0 s s.heap)
    (hM : HM l y ws rm D G tys (.ref b :: As) wc Qv) (cw : vx_CVW R s args own C index y bytes maxL ret hh ws rm rm.cells rm.slots na)
    {nn : Nat} (hnn : cs.length = nn) (hp : (is ++ js).Perm (List.range nn)) (hwc : jF (jPick cs is) = wc) (hc2 : jPick cs js = cs2)
    (hrc : ∃ (i : Nat) (fs : List Value), wc[i]? = some (b, .inr (ci, fs))) (hcl : vwCl[ci]? = some (C, T, N)) (hst : st0 = As.reverse ++ .ref b :: rest) (hn : As.length = na) (hsz : ls.size = nL) (hroom : (rest.map fun v => v.category).sum ≤ 8)
    (hdg : decode cc pc = .ok (.invokevirtual index, 3)) (hf1 : k + rm.cells ≤ R.cells) (hf2 : n + rm.slots ≤ R.slots)
    (kk : ∀ (v : Option Value) (u : va_W) (k' n' : Nat), Qv v u k' n' → jJ p l e R s m args below meth c D A0 (u :: cs2) (k + k') (n + n') Q (F0 m (pc + 3) ls (v.toList ++ rest))) : jJ p l e R s m args below meth c D A0 cs k n Q (F0 m pc ls st0) := by
  subst hst
  refine jJ_callG (mc := rm.cells) (ms := rm.slots) (a := (Value.ref b :: As).toArray) is js hA hAm hnn hp hwc hc2 (fun H locs hP hD hM9 hS9 => ?_) kk
  obtain ⟨i, fs, hi⟩ := hrc
  exact vx_runVW S (hM H.size) cw ⟨jPc_blind, va_recv hK hP (ci := ci) (q0 := i) hcl hi, fun U hU hW => ⟨rfl, by rw [hU], by rw [hU]; exact hP, jK_alike hK hW, hD, by have h9 := hM9 U hU hW; rw [hU] at h9 ⊢; exact h9⟩⟩ rfl hn hsz rfl (lv_room hroom) hdg ⟨hf1, hf2⟩
end JCT
theorem xP_ex (x : Nat × Int) : ∃ i j, x = (i, j) := ⟨x.1, x.2, rfl⟩
/-- the first line with the label x, from k on; -1 -/
def loF (lb : Nat → Int) (x : Int) : Nat → Nat → Int
  | 0, _ => -1
  | f + 1, k => if lb k = x then (k : Int) else loF lb x f (k + 1)
def lo (lb : Nat → Int) (x : Int) (n : Nat) : Int := loF lb x n 0
theorem loF_b (lb : Nat → Int) (x : Int) : ∀ (f k : Nat), loF lb x f k = -1 ∨ ((k : Int) ≤ loF lb x f k ∧ loF lb x f k < ((f + k : Nat) : Int))
  | 0, _ => Or.inl rfl
  | f + 1, k => by
    have := loF_b lb x f (k + 1)
    unfold loF
    split
    · right; omega
    · omega
theorem lo_b (lb : Nat → Int) (x : Int) (n : Nat) : -1 ≤ lo lb x n ∧ lo lb x n < 2147483648 ∨ 2147483648 ≤ n := by
  have := loF_b lb x n 0
  unfold lo
  omega
def loW (cI : ClassId) (Z : Nat → Nat) (E X : Nat → Value) (lb : Nat → Int) (ln : Nat) : List va_W :=
  [[(Z 0, .inr (8, [E 0, E 1, E 2, .ref (Z 1), E 4, E 5, E 6, E 7, E 8, E 9, E 10, E 11, E 12, E 13, E 14, E 15, E 16, E 17, E 18]))], [(Z 1, .inr (7, [X 0, X 1, X 2, X 3, X 4, X 5, X 6, X 7, X 8, .ref (Z 11), X 10, X 11, .int (nI ln)]))], [(Z 11, .inl (cI, 16002, .inl (fun i => iI (lb i))))]]
section MR
variable {D : va_G} {G : Nat → Nat} {cI cJ cB cZ : ClassId} {l : Launch}

theorem uX10_in_X10_lineOf : ∀ w ∈ u_ws RX10 TX10 19, w ∈ wsX10_lineOf := by decide +kernel
theorem uX9_in_X10_lineOf : ∀ w ∈ u_ws RX9 TX9 13, w ∈ wsX10_lineOf := by decide +kernel
set_option maxHeartbeats 4000000 in
set_option maxRecDepth 100000 in
/-- lineOf(x) -/
theorem c_Md_lineOf {Z : Nat → Nat} {E X : Nat → Value} {lb : Nat → Int} {ln : Nat} (x9 : Int) (hx : -2147483648 ≤ x9 ∧ x9 < 2147483648) (hln : ln ≤ 16001) (hlb : ∀ k, k < ln → -2147483648 ≤ lb k ∧ lb k < 2147483648) : HM l yX10_lineOf wsX10_lineOf ({ frames := 0, cells := 0, slots := 0, locals := 0 } : Room) D G (jT cI cJ cB cZ) [.ref (Z 0), .int (iI x9)] (jF (loW cI Z E X lb ln)) (fun v u k n => v = some (.int (iI (lo lb x9 ln))) ∧ u = jF (loW cI Z E X lb ln) ∧ k = 0 ∧ n = 0) := by
  refine HM_of (cc := cX10_lineOf) (maxL := 3) (ret := (some .int)) (lv := [(0, .ref (Z 0)), (1, .int (iI x9))]) (by decide) rfl rfl (Nat.le_of_ble_eq_true rfl) (fun p e s m args below meth c A0 ls hx hb hr hts hown hlocks hml hnm hK hA hAm hl => ?_)
  refine jJ_open (xs := [[(Z 0, .inr (8, [E 0, E 1, E 2, .ref (Z 1), E 4, E 5, E 6, E 7, E 8, E 9, E 10, E 11, E 12, E 13, E 14, E 15, E 16, E 17, E 18]))], [(Z 1, .inr (7, [X 0, X 1, X 2, X 3, X 4, X 5, X 6, X 7, X 8, .ref (Z 11), X 10, X 11, .int (nI ln)]))], [(Z 11, .inl (cI, 16002, .inl (fun i => iI (lb i))))]]) (r := []) (cs2 := [[(Z 0, .inr (8, [E 0, E 1, E 2, .ref (Z 1), E 4, E 5, E 6, E 7, E 8, E 9, E 10, E 11, E 12, E 13, E 14, E 15, E 16, E 17, E 18]))], [(Z 1, .inr (7, [X 0, X 1, X 2, X 3, X 4, X 5, X 6, X 7, X 8, .ref (Z 11), X 10, X 11, .int (nI ln)]))], [(Z 11, .inl (cI, 16002, .inl (fun i => iI (lb i))))]]) rfl ?_
  refine jJ_of (fun H locs => lv_iconst (v := (nI 0)) hx hb dX10_lineOf_0 (by decide)) ?_
  refine jJ_ofL (fun H locs => lv_istore_n (lv' := [(2, .int (nI 0)), (0, .ref (Z 0)), (1, .int (iI x9))]) hx hb dX10_lineOf_1 rfl hl (by decide) rfl) (fun ls hl => ?_)
  suffices lp : ∀ (f k9 : Nat), f + k9 = ln → loF lb x9 f k9 = lo lb x9 ln → ∀ ls, lv_has ls 3 [(2, .int (nI k9)), (0, .ref (Z 0)), (1, .int (iI x9))] → jJ p l e _ s m args below meth c D A0 [[(Z 0, .inr (8, [E 0, E 1, E 2, .ref (Z 1), E 4, E 5, E 6, E 7, E 8, E 9, E 10, E 11, E 12, E 13, E 14, E 15, E 16, E 17, E 18]))], [(Z 1, .inr (7, [X 0, X 1, X 2, X 3, X 4, X 5, X 6, X 7, X 8, .ref (Z 11), X 10, X 11, .int (nI ln)]))], [(Z 11, .inl (cI, 16002, .inl (fun i => iI (lb i))))]] 0 0 (jEnd below D A0 _ args s _ _) (F0 m 2 ls []) from lp ln 0 (by omega) rfl ls (lv_sub hl [0, 1, 2] rfl)
  intro f
  induction f with
  | zero =>
    intro k9 h9 hcl ls hl
    refine jJ_of (fun H locs => lv_iload_n hx hb dX10_lineOf_2 rfl (lv_at hl 0 rfl)) ?_
    refine jJ_of (fun H locs => lv_aload_n hx hb dX10_lineOf_3 rfl (lv_at hl 1 rfl)) ?_
    refine jJ_get hx hb (C := RX10) (T := TX10) (N := 19) hts uX10_in_X10_lineOf hown hK 0 rfl rfl 3 (by decide) (hts (.fieldLink RX10 53 "ValueBlocksModel" "t" "LValueBlocksModel$Text;") (by decide +kernel)) (fun _ h9 => h9) rfl dX10_lineOf_4 ?_
    refine jJ_get hx hb (C := RX9) (T := TX9) (N := 13) hts uX9_in_X10_lineOf hown hK 1 rfl rfl 12 (by decide) (hts (.fieldLink RX10 215 "ValueBlocksModel$Text" "lines" "I") (by decide +kernel)) (fun _ h9 => h9) rfl dX10_lineOf_7 ?_
    refine jJ_of2 (fun H locs => jn_icmp_ge (tgt := 34) hx hb dX10_lineOf_10 (by decide) (by omega) (by omega)) (fun c10 => ?_) (fun c10 => ?_)
    · refine jJ_of (fun H locs => lv_iconst (v := (iI (-1))) hx hb dX10_lineOf_34 (by decide)) ?_
      have he : lo lb x9 ln = -1 := hcl.symm
      exact jJ_iret hx hb hr hlocks dX10_lineOf_35 (by show _ ≤ 0; omega) (by show _ ≤ 0; omega) ⟨by rw [he], rfl, rfl, rfl⟩
    · exfalso; omega
  | succ f ih =>
    intro k9 h9 hcl ls hl
    have hlk := hlb k9 (by omega)
    refine jJ_of (fun H locs => lv_iload_n hx hb dX10_lineOf_2 rfl (lv_at hl 0 rfl)) ?_
    refine jJ_of (fun H locs => lv_aload_n hx hb dX10_lineOf_3 rfl (lv_at hl 1 rfl)) ?_
    refine jJ_get hx hb (C := RX10) (T := TX10) (N := 19) hts uX10_in_X10_lineOf hown hK 0 rfl rfl 3 (by decide) (hts (.fieldLink RX10 53 "ValueBlocksModel" "t" "LValueBlocksModel$Text;") (by decide +kernel)) (fun _ h9 => h9) rfl dX10_lineOf_4 ?_
    refine jJ_get hx hb (C := RX9) (T := TX9) (N := 13) hts uX9_in_X10_lineOf hown hK 1 rfl rfl 12 (by decide) (hts (.fieldLink RX10 215 "ValueBlocksModel$Text" "lines" "I") (by decide +kernel)) (fun _ h9 => h9) rfl dX10_lineOf_7 ?_
    refine jJ_of2 (fun H locs => jn_icmp_ge (tgt := 34) hx hb dX10_lineOf_10 (by decide) (by omega) (by omega)) (fun c10 => ?_) (fun c10 => ?_)
    · exfalso; omega
    · refine jJ_of (fun H locs => lv_aload_n hx hb dX10_lineOf_13 rfl (lv_at hl 1 rfl)) ?_
      refine jJ_get hx hb (C := RX10) (T := TX10) (N := 19) hts uX10_in_X10_lineOf hown hK 0 rfl rfl 3 (by decide) (hts (.fieldLink RX10 53 "ValueBlocksModel" "t" "LValueBlocksModel$Text;") (by decide +kernel)) (fun _ h9 => h9) rfl dX10_lineOf_14 ?_
      refine jJ_get hx hb (C := RX9) (T := TX9) (N := 13) hts uX9_in_X10_lineOf hown hK 1 rfl rfl 9 (by decide) (hts (.fieldLink RX10 184 "ValueBlocksModel$Text" "labels" "[I") (by decide +kernel)) (fun _ h9 => h9) rfl dX10_lineOf_17 ?_
      refine jJ_of (fun H locs => lv_iload_n hx hb dX10_lineOf_20 rfl (lv_at hl 0 rfl)) ?_
      refine jJ_iald hx hb hK 2 0 (f := fun i => iI (lb i)) rfl rfl (vp_in_nI (by omega) (by omega)) (x := (iI (lb k9))) (by rw [nI_clamp (by omega)]) dX10_lineOf_21 ?_
      refine jJ_of (fun H locs => lv_iload_n hx hb dX10_lineOf_22 rfl (lv_at hl 2 rfl)) ?_
      refine jJ_of2 (fun H locs => jz_icmp_ne (tgt := 28) hx hb dX10_lineOf_23 (by decide) (by omega) (by omega) (by omega) (by omega)) (fun c23 => ?_) (fun c23 => ?_)
      · refine jJ_ofL (fun H locs => lv_iinc (v := (nI (k9 + 1))) (lv' := [(2, .int (nI (k9 + 1))), (0, .ref (Z 0)), (1, .int (iI x9))]) hx hb dX10_lineOf_28 hl (k := 0) rfl (nI_add _ _) (by decide) rfl) (fun ls hl => ?_)
        refine jJ_of (fun H locs => lv_goto (tgt := 2) hx hb dX10_lineOf_31 (by decide)) ?_
        exact ih (k9 + 1) (by omega) (by rw [← hcl]; exact (if_neg c23).symm) ls (lv_sub hl [0, 1, 2] rfl)
      · refine jJ_of (fun H locs => lv_iload_n hx hb dX10_lineOf_26 rfl (lv_at hl 0 rfl)) ?_
        have he : lo lb x9 ln = (k9 : Int) := by rw [← hcl]; exact if_pos c23
        exact jJ_iret hx hb hr hlocks dX10_lineOf_27 (by show _ ≤ 0; omega) (by show _ ≤ 0; omega) ⟨by rw [he, nI_iI], rfl, rfl, rfl⟩

/-- the sort of a line that begins with the token c -/
def soK (c : Nat) : Nat := if c = 35 then 2 else if c = 300 then 3 else if c = 301 then 4 else if c = 302 then 5 else if c = 304 then 6 else 0
theorem soK_i (c : Nat) : (soK c = 2 ↔ c = 35) ∧ (soK c = 3 ↔ c = 300) ∧ (soK c = 4 ↔ c = 301) ∧ (soK c = 5 ↔ c = 302) ∧ (soK c = 6 ↔ c = 304) ∧ soK c ≤ 6 := by unfold soK; (repeat' split) <;> omega
abbrev DnR : Type := Nat × (Nat → Int) × Int
/-- a line done: the alarm, the variables, the line that follows -/
def dnF (tk : Nat → List Nat) (N ln : Nat) (lb pa jm : Nat → Int) (vs : Nat → Int) (j b : Nat) : DnR :=
  if (tk 0).getD b 0 = 35 then (if (xVa tk N vs 20 b).1 = 0 then (if (xSum tk N vs 20 ((qVa tk N 20 b).2 + 1)).1 = 0 then (0, va_up vs (xVa tk N vs 20 b).2.toNat (xSum tk N vs 20 ((qVa tk N 20 b).2 + 1)).2, ((j + 1 : Nat) : Int)) else ((xSum tk N vs 20 ((qVa tk N 20 b).2 + 1)).1, vs, 0)) else ((xVa tk N vs 20 b).1, vs, 0))
  else if (tk 0).getD b 0 = 300 then (if (xBra tk N vs 20 (b + 1)).1 = 0 then (0, vs, if (xBra tk N vs 20 (b + 1)).2 = 0 then ((j + 1 : Nat) : Int) else lo lb ((wj tk jm j : Nat) : Int) ln) else ((xBra tk N vs 20 (b + 1)).1, vs, 0))
  else if (tk 0).getD b 0 = 301 then (0, vs, lo lb ((wj tk jm j : Nat) : Int) ln)
  else if (tk 0).getD b 0 = 302 then (if (xBra tk N vs 20 (b + 1)).1 = 0 then (0, vs, if (xBra tk N vs 20 (b + 1)).2 = 0 then pa j + 1 else ((j + 1 : Nat) : Int)) else ((xBra tk N vs 20 (b + 1)).1, vs, 0))
  else if (tk 0).getD b 0 = 304 then (0, vs, pa j)
  else (0, vs, ((j + 1 : Nat) : Int))
def dnW (cI cJ cB : ClassId) (Z : Nat → Nat) (E X : Nat → Value) (V : Nat → Nat → Int32) (vv : Nat → Int64) (a al ln : Nat) (fi so : Nat → Nat) (lb pa jm : Nat → Int) : List va_W :=
  [[(Z 0, .inr (8, [E 0, E 1, E 2, .ref (Z 1), .int (nI a), E 5, E 6, E 7, E 8, .ref (Z 2), E 10, E 11, E 12, E 13, E 14, .ref (Z 7), .int (nI al), E 17, E 18]))], [(Z 2, .inr (0, []))], [(Z 1, .inr (7, [X 0, X 1, .ref (Z 3), X 3, .ref (Z 5), X 5, X 6, .ref (Z 9), .ref (Z 10), .ref (Z 11), .ref (Z 12), .ref (Z 13), .int (nI ln)]))], [(Z 3, .inl (cB, 32008, .inl (V 0)))], [(Z 5, .inl (cI, 32008, .inl (V 2)))], [(Z 7, .inl (cJ, 200, .inr (.inl vv)))],
    [(Z 9, .inl (cI, 16002, .inl (fun i => nI (fi i))))], [(Z 10, .inl (cB, 16002, .inl (fun i => nI (so i))))], [(Z 11, .inl (cI, 16002, .inl (fun i => iI (lb i))))], [(Z 12, .inl (cI, 16002, .inl (fun i => iI (pa i))))], [(Z 13, .inl (cI, 16002, .inl (fun i => iI (jm i))))]]
theorem qRest_35 {tk : Nat → List Nat} {N b : Nat} (h : (qRest tk N b).1 = true) (hc : (tk 0).getD b 0 = 35) : (qVa tk N 20 b).1 = true ∧ (tk 0).getD (qVa tk N 20 b).2 0 = 61 ∧ (qSum tk N 20 ((qVa tk N 20 b).2 + 1)).1 = true := by
  unfold qRest at h
  rw [if_pos hc] at h
  obtain ⟨h1, h2, -⟩ := qThen_ok h
  obtain ⟨h3, h4, h5⟩ := qThen_ok h1
  have h6 : qPlc tk N 20 b = qVa tk N 20 b := qPlc_y hc
  rw [h6] at h3 h4 h5
  obtain ⟨h7, h8⟩ := qTake_t (tk := tk) (k := 61) (a := (qVa tk N 20 b).2) (x := (qTake tk 61 (qVa tk N 20 b).2).2) (Prod.ext h4 rfl)
  refine ⟨h3, h7, ?_⟩
  rw [h6, h5, h8] at h2
  exact h2
theorem qRest_if {tk : Nat → List Nat} {N b : Nat} (h : (qRest tk N b).1 = true) (hc : (tk 0).getD b 0 = 300 ∨ (tk 0).getD b 0 = 302) : (qBra tk N 20 (b + 1)).1 = true := by
  unfold qRest at h
  rcases hc with hc | hc
  · rw [if_neg (by omega), if_pos hc] at h
    exact (qThen_ok (qThen_ok h).1).1
  · rw [if_neg (by omega), if_neg (by omega), if_neg (by omega), if_pos hc] at h
    exact (qThen_ok (qThen_ok h).1).1
/-- what is known of a text that may be run -/
def rOK (tk : Nat → List Nat) (N ln : Nat) (fi so : Nat → Nat) (lb pa jm : Nat → Int) : Prop := ∀ j, j < ln → (qRest tk N (lnB tk (fi j))).1 = true ∧ lnB tk (fi j) + 1 ≤ (tk 0).length ∧ so j = soK ((tk 0).getD (lnB tk (fi j)) 0) ∧ (so j = 3 ∨ so j = 4 → 0 ≤ jm j ∧ (jm j).toNat + 1 ≤ (tk 0).length ∧ (tk 0).getD (jm j).toNat 0 = 256 ∧ 0 ≤ lo lb ((wj tk jm j : Nat) : Int) ln) ∧ (so j = 5 ∨ so j = 6 → 0 ≤ pa j ∧ pa j < 20000) ∧ -2147483648 ≤ lb j ∧ lb j < 2147483648
theorem uX10_in_X10_done : ∀ w ∈ u_ws RX10 TX10 19, w ∈ wsX10_done := by decide +kernel
theorem uX9_in_X10_done : ∀ w ∈ u_ws RX9 TX9 13, w ∈ wsX10_done := by decide +kernel
set_option maxHeartbeats 4000000 in
set_option maxRecDepth 100000 in
/-- done(j) -/
theorem c_Md_done {Z : Nat → Nat} {E X : Nat → Value} {V : Nat → Nat → Int32} {vv : Nat → Int64} {tk : Nat → List Nat} {vs : Nat → Int} {a al ln N : Nat} {fi so : Nat → Nat} {lb pa jm : Nat → Int} (hT : tV tk V) (hE : tE tk) (hN : (tk 0).length ≤ N) (hvv : ∀ i, i < 200 → vv i = lI (vs i)) (hvs : ∀ i, i < 200 → vOK (vs i)) (hln : ln ≤ 16001) (hR : rOK tk N ln fi so lb pa jm) (j : Nat) (hj : j < ln) : HX l yX10_done wsX10_done ({ frames := 172, cells := 0, slots := 0, locals := 7200 } : Room) D G (jT cI cJ cB cZ) [.ref (Z 0), .int (nI j)] (jF (dnW cI cJ cB Z E X V vv a al ln fi so lb pa jm)) (fun v u k n => (dnF tk N ln lb pa jm vs j (lnB tk (fi j))).1 = 0 ∧ v = some (.int (iI (dnF tk N ln lb pa jm vs j (lnB tk (fi j))).2.2)) ∧ (∃ (vv2 : Nat → Int64) (a2 : Nat), (∀ i, i < 200 → vv2 i = lI ((dnF tk N ln lb pa jm vs j (lnB tk (fi j))).2.1 i)) ∧ u = jF (dnW cI cJ cB Z E X V vv2 a2 al ln fi so lb pa jm)) ∧ k = 0 ∧ n = 0) (fun u k n => ¬ (dnF tk N ln lb pa jm vs j (lnB tk (fi j))).1 = 0 ∧ (∃ a2 : Nat, u = jF (dnW cI cJ cB Z E X V vv a2 ((dnF tk N ln lb pa jm vs j (lnB tk (fi j))).1) ln fi so lb pa jm)) ∧ k = 0 ∧ n = 0) := by
  refine HX_of (cc := cX10_done) (maxL := 3) (ret := (some .int)) (lv := [(0, .ref (Z 0)), (1, .int (nI j))]) (by decide) rfl rfl (Nat.le_of_ble_eq_true rfl) (fun p e s m args below meth c A0 ls hx hb hr hts hown hlocks hml hno hK hA hAm hl => ?_)
  refine jJ_open (xs := [[(Z 0, .inr (8, [E 0, E 1, E 2, .ref (Z 1), .int (nI a), E 5, E 6, E 7, E 8, .ref (Z 2), E 10, E 11, E 12, E 13, E 14, .ref (Z 7), .int (nI al), E 17, E 18]))], [(Z 2, .inr (0, []))], [(Z 1, .inr (7, [X 0, X 1, .ref (Z 3), X 3, .ref (Z 5), X 5, X 6, .ref (Z 9), .ref (Z 10), .ref (Z 11), .ref (Z 12), .ref (Z 13), .int (nI ln)]))], [(Z 3, .inl (cB, 32008, .inl (V 0)))], [(Z 5, .inl (cI, 32008, .inl (V 2)))], [(Z 7, .inl (cJ, 200, .inr (.inl vv)))], [(Z 9, .inl (cI, 16002, .inl (fun i => nI (fi i))))], [(Z 10, .inl (cB, 16002, .inl (fun i => nI (so i))))], [(Z 11, .inl (cI, 16002, .inl (fun i => iI (lb i))))], [(Z 12, .inl (cI, 16002, .inl (fun i => iI (pa i))))], [(Z 13, .inl (cI, 16002, .inl (fun i => iI (jm i))))]]) (r := []) (cs2 := [[(Z 0, .inr (8, [E 0, E 1, E 2, .ref (Z 1), .int (nI a), E 5, E 6, E 7, E 8, .ref (Z 2), E 10, E 11, E 12, E 13, E 14, .ref (Z 7), .int (nI al), E 17, E 18]))], [(Z 2, .inr (0, []))], [(Z 1, .inr (7, [X 0, X 1, .ref (Z 3), X 3, .ref (Z 5), X 5, X 6, .ref (Z 9), .ref (Z 10), .ref (Z 11), .ref (Z 12), .ref (Z 13), .int (nI ln)]))], [(Z 3, .inl (cB, 32008, .inl (V 0)))], [(Z 5, .inl (cI, 32008, .inl (V 2)))], [(Z 7, .inl (cJ, 200, .inr (.inl vv)))], [(Z 9, .inl (cI, 16002, .inl (fun i => nI (fi i))))], [(Z 10, .inl (cB, 16002, .inl (fun i => nI (so i))))], [(Z 11, .inl (cI, 16002, .inl (fun i => iI (lb i))))], [(Z 12, .inl (cI, 16002, .inl (fun i => iI (pa i))))], [(Z 13, .inl (cI, 16002, .inl (fun i => iI (jm i))))]]) rfl ?_
  have hL9 := hT.1
  have hB2a := fun i => (hT.2.2 i).2.2
  obtain ⟨hq1, hq2, hq3, hq4, hq5, hq6⟩ := hR j hj
  have hsk := soK_i ((tk 0).getD (lnB tk (fi j)) 0)
  have hfl0 : lnB tk (fi j) = fi j ∨ lnB tk (fi j) = fi j + 2 := by unfold lnB; split <;> omega
  have hfl : fi j + 1 ≤ (tk 0).length := by omega
  refine jJ_of (fun H locs => lv_aload_n hx hb dX10_done_0 rfl (lv_at hl 0 rfl)) ?_
  refine jJ_of (fun H locs => lv_aload_n hx hb dX10_done_1 rfl (lv_at hl 0 rfl)) ?_
  refine jJ_get hx hb (C := RX10) (T := TX10) (N := 19) hts uX10_in_X10_done hown hK 0 rfl rfl 3 (by decide) (hts (.fieldLink RX10 53 "ValueBlocksModel" "t" "LValueBlocksModel$Text;") (by decide +kernel)) (fun _ h9 => h9) rfl dX10_done_2 ?_
  refine jJ_get hx hb (C := RX9) (T := TX9) (N := 13) hts uX9_in_X10_done hown hK 2 rfl rfl 7 (by decide) (hts (.fieldLink RX10 221 "ValueBlocksModel$Text" "firsts" "[I") (by decide +kernel)) (fun _ h9 => h9) rfl dX10_done_5 ?_
  refine jJ_of (fun H locs => lv_iload_n hx hb dX10_done_8 rfl (lv_at hl 1 rfl)) ?_
  refine jJ_iald hx hb hK 6 0 (f := fun i => nI (fi i)) rfl rfl (vp_in_nI (by omega) (by omega)) (x := (nI (fi j))) (by rw [nI_clamp (by omega)]) dX10_done_9 ?_
  refine jJ_put hx hb (C := RX10) (T := TX10) (N := 19) (ty := .int) (v := .int (nI (fi j))) hts uX10_in_X10_done tyX10 tyX10_ok nmX10 hown hK 0 rfl rfl 4 (by decide) (hts (.fieldLink RX10 121 "ValueBlocksModel" "at" "I") (by decide +kernel)) (fun _ h9 => h9) rfl (by decide +kernel) rfl rfl (Nat.le_of_ble_eq_true rfl) dX10_done_10 (cs2 := [[(Z 0, .inr (8, [E 0, E 1, E 2, .ref (Z 1), .int (nI (fi j)), E 5, E 6, E 7, E 8, .ref (Z 2), E 10, E 11, E 12, E 13, E 14, .ref (Z 7), .int (nI al), E 17, E 18]))], [(Z 2, .inr (0, []))], [(Z 1, .inr (7, [X 0, X 1, .ref (Z 3), X 3, .ref (Z 5), X 5, X 6, .ref (Z 9), .ref (Z 10), .ref (Z 11), .ref (Z 12), .ref (Z 13), .int (nI ln)]))], [(Z 3, .inl (cB, 32008, .inl (V 0)))], [(Z 5, .inl (cI, 32008, .inl (V 2)))], [(Z 7, .inl (cJ, 200, .inr (.inl vv)))], [(Z 9, .inl (cI, 16002, .inl (fun i => nI (fi i))))], [(Z 10, .inl (cB, 16002, .inl (fun i => nI (so i))))], [(Z 11, .inl (cI, 16002, .inl (fun i => iI (lb i))))], [(Z 12, .inl (cI, 16002, .inl (fun i => iI (pa i))))], [(Z 13, .inl (cI, 16002, .inl (fun i => iI (jm i))))]]) rfl ?_
  refine jJ_of (fun H locs => lv_aload_n hx hb dX10_done_13 rfl (lv_at hl 0 rfl)) ?_
  refine jJ_of (fun H locs => lv_bipush (v := (nI 78)) hx hb dX10_done_14 (by decide)) ?_
  refine jJ_callV (As := [.int (nI 78)]) (rest := []) (wc := jF (kWd cI cB Z (lsV [E 0, E 1, E 2, .null, .null, E 5, E 6, E 7, E 8, .ref (Z 2), E 10, E 11, E 12, E 13, E 14, .ref (Z 7), .int (nI al), E 17, E 18]) (lsV [X 0, X 1, .null, X 3, .null, X 5, X 6, .ref (Z 9), .ref (Z 10), .ref (Z 11), .ref (Z 12), .ref (Z 13), .int (nI ln)]) V (fi j))) (cs2 := [[(Z 2, .inr (0, []))], [(Z 7, .inl (cJ, 200, .inr (.inl vv)))], [(Z 9, .inl (cI, 16002, .inl (fun i => nI (fi i))))], [(Z 10, .inl (cB, 16002, .inl (fun i => nI (so i))))], [(Z 11, .inl (cI, 16002, .inl (fun i => iI (lb i))))], [(Z 12, .inl (cI, 16002, .inl (fun i => iI (pa i))))], [(Z 13, .inl (cI, 16002, .inl (fun i => iI (jm i))))]]) (C := RX10) (T := TX10) (N := 19) (ci := 8) [0, 2, 3, 4] [1, 5, 6, 7, 8, 9, 10] ⟨hx, hb, hml, hown, hts⟩ hK hA hAm (c_Md_isLetter (E := lsV [E 0, E 1, E 2, .null, .null, E 5, E 6, E 7, E 8, .ref (Z 2), E 10, E 11, E 12, E 13, E 14, .ref (Z 7), .int (nI al), E 17, E 18]) (X := lsV [X 0, X 1, .null, X 3, .null, X 5, X 6, .ref (Z 9), .ref (Z 10), .ref (Z 11), .ref (Z 12), .ref (Z 13), .int (nI ln)]) (a := fi j) hT (by omega) 78 (by decide)) (cwV 1 hts gX10_done_X10_isLetter rfl rfl rfl (by decide +kernel) ⟨Nat.le_of_ble_eq_true rfl, Nat.le_of_ble_eq_true rfl⟩) (nn := 11) rfl (by decide) rfl rfl ⟨0, _, rfl⟩ rfl rfl rfl hl.1 (Nat.le_of_ble_eq_true rfl) dX10_done_16 (by show _ + 0 ≤ 0; omega) (by show _ + 0 ≤ 0; omega) (fun v u1 k1 n1 hq1 => ?_)
  obtain ⟨rfl, hw1, rfl, rfl⟩ := hq1
  rw [hw1]
  refine jJ_open (xs := [[(Z 0, .inr (8, [E 0, E 1, E 2, .ref (Z 1), .int (nI (fi j)), E 5, E 6, E 7, E 8, .ref (Z 2), E 10, E 11, E 12, E 13, E 14, .ref (Z 7), .int (nI al), E 17, E 18]))], [(Z 1, .inr (7, [X 0, X 1, .ref (Z 3), X 3, .ref (Z 5), X 5, X 6, .ref (Z 9), .ref (Z 10), .ref (Z 11), .ref (Z 12), .ref (Z 13), .int (nI ln)]))], [(Z 3, .inl (cB, 32008, .inl (V 0)))], [(Z 5, .inl (cI, 32008, .inl (V 2)))]]) (r := [[(Z 2, .inr (0, []))], [(Z 7, .inl (cJ, 200, .inr (.inl vv)))], [(Z 9, .inl (cI, 16002, .inl (fun i => nI (fi i))))], [(Z 10, .inl (cB, 16002, .inl (fun i => nI (so i))))], [(Z 11, .inl (cI, 16002, .inl (fun i => iI (lb i))))], [(Z 12, .inl (cI, 16002, .inl (fun i => iI (pa i))))], [(Z 13, .inl (cI, 16002, .inl (fun i => iI (jm i))))]]) (cs2 := [[(Z 0, .inr (8, [E 0, E 1, E 2, .ref (Z 1), .int (nI (fi j)), E 5, E 6, E 7, E 8, .ref (Z 2), E 10, E 11, E 12, E 13, E 14, .ref (Z 7), .int (nI al), E 17, E 18]))], [(Z 1, .inr (7, [X 0, X 1, .ref (Z 3), X 3, .ref (Z 5), X 5, X 6, .ref (Z 9), .ref (Z 10), .ref (Z 11), .ref (Z 12), .ref (Z 13), .int (nI ln)]))], [(Z 3, .inl (cB, 32008, .inl (V 0)))], [(Z 5, .inl (cI, 32008, .inl (V 2)))], [(Z 2, .inr (0, []))], [(Z 7, .inl (cJ, 200, .inr (.inl vv)))], [(Z 9, .inl (cI, 16002, .inl (fun i => nI (fi i))))], [(Z 10, .inl (cB, 16002, .inl (fun i => nI (so i))))], [(Z 11, .inl (cI, 16002, .inl (fun i => iI (lb i))))], [(Z 12, .inl (cI, 16002, .inl (fun i => iI (pa i))))], [(Z 13, .inl (cI, 16002, .inl (fun i => iI (jm i))))]]) rfl ?_
  refine jJ_eq (g2 := F0 m 19 ls [.int (bI (decide ((tk 0).getD (fi j) 0 = 78)))]) (cs2 := [[(Z 0, .inr (8, [E 0, E 1, E 2, .ref (Z 1), .int (nI (fi j)), E 5, E 6, E 7, E 8, .ref (Z 2), E 10, E 11, E 12, E 13, E 14, .ref (Z 7), .int (nI al), E 17, E 18]))], [(Z 1, .inr (7, [X 0, X 1, .ref (Z 3), X 3, .ref (Z 5), X 5, X 6, .ref (Z 9), .ref (Z 10), .ref (Z 11), .ref (Z 12), .ref (Z 13), .int (nI ln)]))], [(Z 3, .inl (cB, 32008, .inl (V 0)))], [(Z 5, .inl (cI, 32008, .inl (V 2)))], [(Z 2, .inr (0, []))], [(Z 7, .inl (cJ, 200, .inr (.inl vv)))], [(Z 9, .inl (cI, 16002, .inl (fun i => nI (fi i))))], [(Z 10, .inl (cB, 16002, .inl (fun i => nI (so i))))], [(Z 11, .inl (cI, 16002, .inl (fun i => iI (lb i))))], [(Z 12, .inl (cI, 16002, .inl (fun i => iI (pa i))))], [(Z 13, .inl (cI, 16002, .inl (fun i => iI (jm i))))]]) rfl rfl ?_
  refine jJ_of2 (fun H locs => jb_if_eq (tgt := 32) hx hb dX10_done_19 (by decide)) (fun c19 => ?_) (fun c19 => ?_)
  · simp only [decide_eq_true_eq, decide_eq_false_iff_not] at c19
    have hbn : lnB tk (fi j) = fi j := if_neg (by omega)
    refine jJ_eq (g2 := F0 m 32 ls []) (cs2 := [[(Z 0, .inr (8, [E 0, E 1, E 2, .ref (Z 1), .int (nI (lnB tk (fi j))), E 5, E 6, E 7, E 8, .ref (Z 2), E 10, E 11, E 12, E 13, E 14, .ref (Z 7), .int (nI al), E 17, E 18]))], [(Z 1, .inr (7, [X 0, X 1, .ref (Z 3), X 3, .ref (Z 5), X 5, X 6, .ref (Z 9), .ref (Z 10), .ref (Z 11), .ref (Z 12), .ref (Z 13), .int (nI ln)]))], [(Z 3, .inl (cB, 32008, .inl (V 0)))], [(Z 5, .inl (cI, 32008, .inl (V 2)))], [(Z 2, .inr (0, []))], [(Z 7, .inl (cJ, 200, .inr (.inl vv)))], [(Z 9, .inl (cI, 16002, .inl (fun i => nI (fi i))))], [(Z 10, .inl (cB, 16002, .inl (fun i => nI (so i))))], [(Z 11, .inl (cI, 16002, .inl (fun i => iI (lb i))))], [(Z 12, .inl (cI, 16002, .inl (fun i => iI (pa i))))], [(Z 13, .inl (cI, 16002, .inl (fun i => iI (jm i))))]]) rfl (by rw [hbn]) ?_
    refine jJ_of (fun H locs => lv_aload_n hx hb dX10_done_32 rfl (lv_at hl 0 rfl)) ?_
    refine jJ_get hx hb (C := RX10) (T := TX10) (N := 19) hts uX10_in_X10_done hown hK 0 rfl rfl 3 (by decide) (hts (.fieldLink RX10 53 "ValueBlocksModel" "t" "LValueBlocksModel$Text;") (by decide +kernel)) (fun _ h9 => h9) rfl dX10_done_33 ?_
    refine jJ_get hx hb (C := RX9) (T := TX9) (N := 13) hts uX9_in_X10_done hown hK 1 rfl rfl 8 (by decide) (hts (.fieldLink RX10 193 "ValueBlocksModel$Text" "sorts" "[B") (by decide +kernel)) (fun _ h9 => h9) rfl dX10_done_36 ?_
    refine jJ_of (fun H locs => lv_iload_n hx hb dX10_done_39 rfl (lv_at hl 1 rfl)) ?_
    refine jJ_bald hx hb hK 7 2 (f := fun i => nI (so i)) rfl rfl (vp_in_nI (by omega) (by omega)) (x := (nI (so j))) (by rw [nI_clamp (by omega)]) dX10_done_40 ?_
    obtain ⟨sw41, hsw41⟩ : ∃ z : Nat, z = so j := ⟨_, rfl⟩
    rw [← hsw41]
    have bsw41 : sw41 < 2147483648 := by rw [hsw41]; omega
    by_cases e41_2 : sw41 = 2
    · refine jJ_of (fun H locs => lv_tableIn hx hb dX10_done_41 (off := 35) (tgt := 76) (by rw [e41_2]; decide) (by rw [e41_2]; decide) (by rw [e41_2]; decide) (by decide)) ?_
      have hc : (tk 0).getD (lnB tk (fi j)) 0 = 35 := by omega
      have hL8 := hE.lt (a := lnB tk (fi j)) (by omega) (by omega)
      obtain ⟨k1, k2, k3⟩ := qRest_35 hq1 hc
      refine jJ_of (fun H locs => lv_aload_n hx hb dX10_done_76 rfl (lv_at hl 0 rfl)) ?_
      have hokq2 : (qVa tk N 20 (lnB tk (fi j))).1 = true := k1
      have hqb2 : (lnB tk (fi j)) ≤ (qVa tk N 20 (lnB tk (fi j))).2 ∧ (qVa tk N 20 (lnB tk (fi j))).2 + 1 ≤ (tk 0).length := qb_va hE N 20 (qVa_ok hE hokq2)
      obtain ⟨aa2, haa2⟩ : ∃ i9 : Nat, (qVa tk N 20 (lnB tk (fi j))).2 = i9 := ⟨_, rfl⟩
      rw [haa2] at hqb2
      obtain ⟨xa2, xv2, hxe2⟩ : ∃ (i9 : Nat) (j9 : Int), xVa tk N vs 20 (lnB tk (fi j)) = (i9, j9) := xP_ex _
      have hxb2 : xa2 = 0 → 1 ≤ xv2 ∧ xv2 ≤ 199 := fun h => by have h2 := xVa_b (tk := tk) (N := N) (vs := vs) (r := 20) (a := lnB tk (fi j)) (by rw [hxe2]; exact h); rw [hxe2] at h2; exact h2
      refine jX_callV (As := []) (rest := []) (wc := jF (eW cI cJ cB Z (lsV [E 0, E 1, E 2, .null, .null, E 5, E 6, E 7, E 8, .null, E 10, E 11, E 12, E 13, E 14, .null, .null, E 17, E 18]) (lsV [X 0, X 1, .null, X 3, .null, X 5, X 6, .ref (Z 9), .ref (Z 10), .ref (Z 11), .ref (Z 12), .ref (Z 13), .int (nI ln)]) V vv (lnB tk (fi j)) al)) (cs2 := [[(Z 9, .inl (cI, 16002, .inl (fun i => nI (fi i))))], [(Z 10, .inl (cB, 16002, .inl (fun i => nI (so i))))], [(Z 11, .inl (cI, 16002, .inl (fun i => iI (lb i))))], [(Z 12, .inl (cI, 16002, .inl (fun i => iI (pa i))))], [(Z 13, .inl (cI, 16002, .inl (fun i => iI (jm i))))]]) (C := RX10) (T := TX10) (N := 19) (ci := 8) [0, 4, 1, 2, 3, 5] [6, 7, 8, 9, 10] ⟨hx, hb, hml, hown, hts⟩ hK hA hAm ((w_Md_eplace (E := lsV [E 0, E 1, E 2, .null, .null, E 5, E 6, E 7, E 8, .null, E 10, E 11, E 12, E 13, E 14, .null, .null, E 17, E 18]) (X := lsV [X 0, X 1, .null, X 3, .null, X 5, X 6, .ref (Z 9), .ref (Z 10), .ref (Z 11), .ref (Z 12), .ref (Z 13), .int (nI ln)]) hT hE hvv hvs hN 20) (lnB tk (fi j)) al (by omega) hokq2 (by omega)) (cwV 0 hts gX10_done_X10_variableAt rfl rfl rfl (by decide +kernel) ⟨by show (8 * 20 + 7) + 1 ≤ 172; omega, by show 8 + (3 + 11) + (320 * 20 + 320) ≤ 7200; omega⟩) (nn := 11) rfl (by decide) rfl rfl ⟨0, _, rfl⟩ rfl rfl rfl hl.1 (Nat.le_of_ble_eq_true rfl) dX10_done_77 (by show _ + 0 ≤ 0; omega) (by show _ + 0 ≤ 0; omega) (fun u2 k2 n2 q2 hx2 => ?_) (fun v u2 k2 n2 hq2 => ?_)
      · rw [hxe2] at hx2
        dsimp only at hx2
        obtain ⟨hnz2, ⟨a2_2, hu2⟩, rfl, rfl⟩ := hx2
        rw [hu2]
        have he : dnF tk N ln lb pa jm vs j (lnB tk (fi j)) = (xa2, vs, 0) := by unfold dnF; rw [if_pos (by omega)]; rw [hxe2]; exact if_neg hnz2
        exact jJx_out hno hlocks (by show _ ≤ 0; omega) (by show _ ≤ 0; omega) ⟨by rw [he]; exact hnz2, ⟨_, by rw [he]; rfl⟩, rfl, rfl⟩
      rw [hxe2, haa2] at hq2
      dsimp only at hq2
      obtain ⟨hz2, rfl, hw2, rfl, rfl⟩ := hq2
      subst hz2
      rw [hw2]
      have hxb2b := hxb2 rfl
      refine jJ_open (xs := [[(Z 0, .inr (8, [E 0, E 1, E 2, .ref (Z 1), .int (nI aa2), E 5, E 6, E 7, E 8, .ref (Z 2), E 10, E 11, E 12, E 13, E 14, .ref (Z 7), .int (nI al), E 17, E 18]))], [(Z 2, .inr (0, []))], [(Z 1, .inr (7, [X 0, X 1, .ref (Z 3), X 3, .ref (Z 5), X 5, X 6, .ref (Z 9), .ref (Z 10), .ref (Z 11), .ref (Z 12), .ref (Z 13), .int (nI ln)]))], [(Z 3, .inl (cB, 32008, .inl (V 0)))], [(Z 5, .inl (cI, 32008, .inl (V 2)))], [(Z 7, .inl (cJ, 200, .inr (.inl vv)))]]) (r := [[(Z 9, .inl (cI, 16002, .inl (fun i => nI (fi i))))], [(Z 10, .inl (cB, 16002, .inl (fun i => nI (so i))))], [(Z 11, .inl (cI, 16002, .inl (fun i => iI (lb i))))], [(Z 12, .inl (cI, 16002, .inl (fun i => iI (pa i))))], [(Z 13, .inl (cI, 16002, .inl (fun i => iI (jm i))))]]) (cs2 := [[(Z 0, .inr (8, [E 0, E 1, E 2, .ref (Z 1), .int (nI aa2), E 5, E 6, E 7, E 8, .ref (Z 2), E 10, E 11, E 12, E 13, E 14, .ref (Z 7), .int (nI al), E 17, E 18]))], [(Z 2, .inr (0, []))], [(Z 1, .inr (7, [X 0, X 1, .ref (Z 3), X 3, .ref (Z 5), X 5, X 6, .ref (Z 9), .ref (Z 10), .ref (Z 11), .ref (Z 12), .ref (Z 13), .int (nI ln)]))], [(Z 3, .inl (cB, 32008, .inl (V 0)))], [(Z 5, .inl (cI, 32008, .inl (V 2)))], [(Z 7, .inl (cJ, 200, .inr (.inl vv)))], [(Z 9, .inl (cI, 16002, .inl (fun i => nI (fi i))))], [(Z 10, .inl (cB, 16002, .inl (fun i => nI (so i))))], [(Z 11, .inl (cI, 16002, .inl (fun i => iI (lb i))))], [(Z 12, .inl (cI, 16002, .inl (fun i => iI (pa i))))], [(Z 13, .inl (cI, 16002, .inl (fun i => iI (jm i))))]]) rfl ?_
      refine jJ_eq (g2 := F0 m 80 ls [.int (iI xv2)]) (cs2 := [[(Z 0, .inr (8, [E 0, E 1, E 2, .ref (Z 1), .int (nI aa2), E 5, E 6, E 7, E 8, .ref (Z 2), E 10, E 11, E 12, E 13, E 14, .ref (Z 7), .int (nI al), E 17, E 18]))], [(Z 2, .inr (0, []))], [(Z 1, .inr (7, [X 0, X 1, .ref (Z 3), X 3, .ref (Z 5), X 5, X 6, .ref (Z 9), .ref (Z 10), .ref (Z 11), .ref (Z 12), .ref (Z 13), .int (nI ln)]))], [(Z 3, .inl (cB, 32008, .inl (V 0)))], [(Z 5, .inl (cI, 32008, .inl (V 2)))], [(Z 7, .inl (cJ, 200, .inr (.inl vv)))], [(Z 9, .inl (cI, 16002, .inl (fun i => nI (fi i))))], [(Z 10, .inl (cB, 16002, .inl (fun i => nI (so i))))], [(Z 11, .inl (cI, 16002, .inl (fun i => iI (lb i))))], [(Z 12, .inl (cI, 16002, .inl (fun i => iI (pa i))))], [(Z 13, .inl (cI, 16002, .inl (fun i => iI (jm i))))]]) rfl rfl ?_
      refine jJ_ofL (fun H locs => lv_istore_n (lv' := [(2, .int (iI xv2)), (0, .ref (Z 0)), (1, .int (nI j))]) hx hb dX10_done_80 rfl hl (by decide) rfl) (fun ls hl => ?_)
      rw [haa2] at k2 k3
      have hL7 := hE.lt (a := aa2) (by omega) (by omega)
      refine jJ_of (fun H locs => lv_aload_n hx hb dX10_done_81 rfl (lv_at hl 1 rfl)) ?_
      refine jJ_of (fun H locs => lv_dup hx hb dX10_done_82 rfl) ?_
      refine jJ_get hx hb (C := RX10) (T := TX10) (N := 19) hts uX10_in_X10_done hown hK 0 rfl rfl 4 (by decide) (hts (.fieldLink RX10 121 "ValueBlocksModel" "at" "I") (by decide +kernel)) (fun _ h9 => h9) rfl dX10_done_83 ?_
      refine jJ_of (fun H locs => lv_iconst (v := (nI 1)) hx hb dX10_done_86 (by decide)) ?_
      refine jJ_of (fun H locs => jn_iadd hx hb dX10_done_87) ?_
      refine jJ_put hx hb (C := RX10) (T := TX10) (N := 19) (ty := .int) (v := .int (nI (aa2 + 1))) hts uX10_in_X10_done tyX10 tyX10_ok nmX10 hown hK 0 rfl rfl 4 (by decide) (hts (.fieldLink RX10 121 "ValueBlocksModel" "at" "I") (by decide +kernel)) (fun _ h9 => h9) rfl (by decide +kernel) rfl rfl (Nat.le_of_ble_eq_true rfl) dX10_done_88 (cs2 := [[(Z 0, .inr (8, [E 0, E 1, E 2, .ref (Z 1), .int (nI (aa2 + 1)), E 5, E 6, E 7, E 8, .ref (Z 2), E 10, E 11, E 12, E 13, E 14, .ref (Z 7), .int (nI al), E 17, E 18]))], [(Z 2, .inr (0, []))], [(Z 1, .inr (7, [X 0, X 1, .ref (Z 3), X 3, .ref (Z 5), X 5, X 6, .ref (Z 9), .ref (Z 10), .ref (Z 11), .ref (Z 12), .ref (Z 13), .int (nI ln)]))], [(Z 3, .inl (cB, 32008, .inl (V 0)))], [(Z 5, .inl (cI, 32008, .inl (V 2)))], [(Z 7, .inl (cJ, 200, .inr (.inl vv)))], [(Z 9, .inl (cI, 16002, .inl (fun i => nI (fi i))))], [(Z 10, .inl (cB, 16002, .inl (fun i => nI (so i))))], [(Z 11, .inl (cI, 16002, .inl (fun i => iI (lb i))))], [(Z 12, .inl (cI, 16002, .inl (fun i => iI (pa i))))], [(Z 13, .inl (cI, 16002, .inl (fun i => iI (jm i))))]]) rfl ?_
      refine jJ_of (fun H locs => lv_aload_n hx hb dX10_done_91 rfl (lv_at hl 1 rfl)) ?_
      refine jJ_get hx hb (C := RX10) (T := TX10) (N := 19) hts uX10_in_X10_done hown hK 0 rfl rfl 15 (by decide) (hts (.fieldLink RX10 38 "ValueBlocksModel" "variables" "[J") (by decide +kernel)) (fun _ h9 => h9) rfl dX10_done_92 ?_
      refine jJ_of (fun H locs => lv_iload_n hx hb dX10_done_95 rfl (lv_at hl 0 rfl)) ?_
      refine jJ_of (fun H locs => lv_aload_n hx hb dX10_done_96 rfl (lv_at hl 1 rfl)) ?_
      have hokq3 : (qSum tk N 20 (aa2 + 1)).1 = true := k3
      have hqb3 : (aa2 + 1) ≤ (qSum tk N 20 (aa2 + 1)).2 ∧ (qSum tk N 20 (aa2 + 1)).2 + 1 ≤ (tk 0).length := qb_sum hE N 20 (aa2 + 1) (by omega)
      obtain ⟨aa3, haa3⟩ : ∃ i9 : Nat, (qSum tk N 20 (aa2 + 1)).2 = i9 := ⟨_, rfl⟩
      rw [haa3] at hqb3
      obtain ⟨xa3, xv3, hxe3⟩ : ∃ (i9 : Nat) (j9 : Int), xSum tk N vs 20 (aa2 + 1) = (i9, j9) := xP_ex _
      have hxb3 : xa3 = 0 → vOK xv3 := fun h => by have h2 := xv_sum N hB2a hvs 20 (aa2 + 1) (by rw [hxe3]; exact h); rw [hxe3] at h2; exact h2
      refine jX_callV (As := []) (rest := [.int (iI xv2), .ref (Z 7)]) (wc := jF (eW cI cJ cB Z (lsV [E 0, E 1, E 2, .null, .null, E 5, E 6, E 7, E 8, .null, E 10, E 11, E 12, E 13, E 14, .null, .null, E 17, E 18]) (lsV [X 0, X 1, .null, X 3, .null, X 5, X 6, .ref (Z 9), .ref (Z 10), .ref (Z 11), .ref (Z 12), .ref (Z 13), .int (nI ln)]) V vv (aa2 + 1) al)) (cs2 := [[(Z 9, .inl (cI, 16002, .inl (fun i => nI (fi i))))], [(Z 10, .inl (cB, 16002, .inl (fun i => nI (so i))))], [(Z 11, .inl (cI, 16002, .inl (fun i => iI (lb i))))], [(Z 12, .inl (cI, 16002, .inl (fun i => iI (pa i))))], [(Z 13, .inl (cI, 16002, .inl (fun i => iI (jm i))))]]) (C := RX10) (T := TX10) (N := 19) (ci := 8) [0, 1, 2, 3, 4, 5] [6, 7, 8, 9, 10] ⟨hx, hb, hml, hown, hts⟩ hK hA hAm ((w_Md_esum (E := lsV [E 0, E 1, E 2, .null, .null, E 5, E 6, E 7, E 8, .null, E 10, E 11, E 12, E 13, E 14, .null, .null, E 17, E 18]) (X := lsV [X 0, X 1, .null, X 3, .null, X 5, X 6, .ref (Z 9), .ref (Z 10), .ref (Z 11), .ref (Z 12), .ref (Z 13), .int (nI ln)]) hT hE hvv hvs hN 20) (aa2 + 1) al (by omega) hokq3) (cwV 0 hts gX10_done_X10_sum rfl rfl rfl (by decide +kernel) ⟨by show (8 * 20 + 11) + 1 ≤ 172; omega, by show 8 + (6 + 11) + (320 * 20 + 480) ≤ 7200; omega⟩) (nn := 11) rfl (by decide) rfl rfl ⟨0, _, rfl⟩ rfl rfl rfl hl.1 (Nat.le_of_ble_eq_true rfl) dX10_done_97 (by show _ + 0 ≤ 0; omega) (by show _ + 0 ≤ 0; omega) (fun u3 k3 n3 q3 hx3 => ?_) (fun v u3 k3 n3 hq3 => ?_)
      · rw [hxe3] at hx3
        dsimp only at hx3
        obtain ⟨hnz3, ⟨a2_3, hu3⟩, rfl, rfl⟩ := hx3
        rw [hu3]
        have he : dnF tk N ln lb pa jm vs j (lnB tk (fi j)) = (xa3, vs, 0) := by unfold dnF; rw [if_pos (by omega)]; rw [hxe2]; dsimp only; rw [if_pos rfl, haa2, hxe3]; exact if_neg hnz3
        exact jJx_out hno hlocks (by show _ ≤ 0; omega) (by show _ ≤ 0; omega) ⟨by rw [he]; exact hnz3, ⟨_, by rw [he]; rfl⟩, rfl, rfl⟩
      rw [hxe3, haa3] at hq3
      dsimp only at hq3
      obtain ⟨hz3, rfl, hw3, rfl, rfl⟩ := hq3
      subst hz3
      rw [hw3]
      have hxb3b := hxb3 rfl
      refine jJ_open (xs := [[(Z 0, .inr (8, [E 0, E 1, E 2, .ref (Z 1), .int (nI aa3), E 5, E 6, E 7, E 8, .ref (Z 2), E 10, E 11, E 12, E 13, E 14, .ref (Z 7), .int (nI al), E 17, E 18]))], [(Z 2, .inr (0, []))], [(Z 1, .inr (7, [X 0, X 1, .ref (Z 3), X 3, .ref (Z 5), X 5, X 6, .ref (Z 9), .ref (Z 10), .ref (Z 11), .ref (Z 12), .ref (Z 13), .int (nI ln)]))], [(Z 3, .inl (cB, 32008, .inl (V 0)))], [(Z 5, .inl (cI, 32008, .inl (V 2)))], [(Z 7, .inl (cJ, 200, .inr (.inl vv)))]]) (r := [[(Z 9, .inl (cI, 16002, .inl (fun i => nI (fi i))))], [(Z 10, .inl (cB, 16002, .inl (fun i => nI (so i))))], [(Z 11, .inl (cI, 16002, .inl (fun i => iI (lb i))))], [(Z 12, .inl (cI, 16002, .inl (fun i => iI (pa i))))], [(Z 13, .inl (cI, 16002, .inl (fun i => iI (jm i))))]]) (cs2 := [[(Z 0, .inr (8, [E 0, E 1, E 2, .ref (Z 1), .int (nI aa3), E 5, E 6, E 7, E 8, .ref (Z 2), E 10, E 11, E 12, E 13, E 14, .ref (Z 7), .int (nI al), E 17, E 18]))], [(Z 2, .inr (0, []))], [(Z 1, .inr (7, [X 0, X 1, .ref (Z 3), X 3, .ref (Z 5), X 5, X 6, .ref (Z 9), .ref (Z 10), .ref (Z 11), .ref (Z 12), .ref (Z 13), .int (nI ln)]))], [(Z 3, .inl (cB, 32008, .inl (V 0)))], [(Z 5, .inl (cI, 32008, .inl (V 2)))], [(Z 7, .inl (cJ, 200, .inr (.inl vv)))], [(Z 9, .inl (cI, 16002, .inl (fun i => nI (fi i))))], [(Z 10, .inl (cB, 16002, .inl (fun i => nI (so i))))], [(Z 11, .inl (cI, 16002, .inl (fun i => iI (lb i))))], [(Z 12, .inl (cI, 16002, .inl (fun i => iI (pa i))))], [(Z 13, .inl (cI, 16002, .inl (fun i => iI (jm i))))]]) rfl ?_
      unfold vOK at hxb3b
      refine jJ_eq (g2 := F0 m 100 ls [.long (lI xv3), .int (iI xv2), .ref (Z 7)]) (cs2 := [[(Z 0, .inr (8, [E 0, E 1, E 2, .ref (Z 1), .int (nI aa3), E 5, E 6, E 7, E 8, .ref (Z 2), E 10, E 11, E 12, E 13, E 14, .ref (Z 7), .int (nI al), E 17, E 18]))], [(Z 2, .inr (0, []))], [(Z 1, .inr (7, [X 0, X 1, .ref (Z 3), X 3, .ref (Z 5), X 5, X 6, .ref (Z 9), .ref (Z 10), .ref (Z 11), .ref (Z 12), .ref (Z 13), .int (nI ln)]))], [(Z 3, .inl (cB, 32008, .inl (V 0)))], [(Z 5, .inl (cI, 32008, .inl (V 2)))], [(Z 7, .inl (cJ, 200, .inr (.inl vv)))], [(Z 9, .inl (cI, 16002, .inl (fun i => nI (fi i))))], [(Z 10, .inl (cB, 16002, .inl (fun i => nI (so i))))], [(Z 11, .inl (cI, 16002, .inl (fun i => iI (lb i))))], [(Z 12, .inl (cI, 16002, .inl (fun i => iI (pa i))))], [(Z 13, .inl (cI, 16002, .inl (fun i => iI (jm i))))]]) rfl rfl ?_
      refine jJ_last hx hb hK 5 1 rfl rfl (vp_in_iI (by omega) (by omega) (by omega)) dX10_done_100 (cs2 := [[(Z 0, .inr (8, [E 0, E 1, E 2, .ref (Z 1), .int (nI aa3), E 5, E 6, E 7, E 8, .ref (Z 2), E 10, E 11, E 12, E 13, E 14, .ref (Z 7), .int (nI al), E 17, E 18]))], [(Z 2, .inr (0, []))], [(Z 1, .inr (7, [X 0, X 1, .ref (Z 3), X 3, .ref (Z 5), X 5, X 6, .ref (Z 9), .ref (Z 10), .ref (Z 11), .ref (Z 12), .ref (Z 13), .int (nI ln)]))], [(Z 3, .inl (cB, 32008, .inl (V 0)))], [(Z 5, .inl (cI, 32008, .inl (V 2)))], [(Z 7, .inl (cJ, 200, .inr (.inl (vp_updL vv (Int32.toNatClampNeg (iI xv2)) (lI xv3)))))], [(Z 9, .inl (cI, 16002, .inl (fun i => nI (fi i))))], [(Z 10, .inl (cB, 16002, .inl (fun i => nI (so i))))], [(Z 11, .inl (cI, 16002, .inl (fun i => iI (lb i))))], [(Z 12, .inl (cI, 16002, .inl (fun i => iI (pa i))))], [(Z 13, .inl (cI, 16002, .inl (fun i => iI (jm i))))]]) rfl ?_
      refine jJ_of (fun H locs => lv_iload_n hx hb dX10_done_101 rfl (lv_at hl 2 rfl)) ?_
      refine jJ_of (fun H locs => lv_iconst (v := (nI 1)) hx hb dX10_done_102 (by decide)) ?_
      refine jJ_of (fun H locs => jn_iadd hx hb dX10_done_103) ?_
      have he : dnF tk N ln lb pa jm vs j (lnB tk (fi j)) = (0, va_up vs xv2.toNat xv3, ((j + 1 : Nat) : Int)) := by unfold dnF; rw [if_pos (by omega)]; rw [hxe2]; dsimp only; rw [if_pos rfl, haa2, hxe3]; exact if_pos rfl
      have hv9 : ∀ i, i < 200 → (vp_updL vv (Int32.toNatClampNeg (iI xv2)) (lI xv3)) i = lI ((dnF tk N ln lb pa jm vs j (lnB tk (fi j))).2.1 i) := by
        rw [he]
        intro i hi
        show vp_updL vv _ _ i = lI (va_up vs _ _ i)
        rw [iI_toNatC (by omega) (by omega)]
        show (if i = _ then _ else _) = lI (if i = _ then _ else _)
        split
        · rfl
        · exact hvv i hi
      exact jJ_toX (jJ_iret hx hb hr hlocks dX10_done_104 (by show _ ≤ 0; omega) (by show _ ≤ 0; omega) ⟨by rw [he], by rw [he, nI_iI], ⟨vp_updL vv (Int32.toNatClampNeg (iI xv2)) (lI xv3), _, hv9, rfl⟩, rfl, rfl⟩)
    by_cases e41_3 : sw41 = 3
    · refine jJ_of (fun H locs => lv_tableIn hx hb dX10_done_41 (off := 64) (tgt := 105) (by rw [e41_3]; decide) (by rw [e41_3]; decide) (by rw [e41_3]; decide) (by decide)) ?_
      have hc : (tk 0).getD (lnB tk (fi j)) 0 = 300 := by omega
      have hL8 := hE.lt (a := lnB tk (fi j)) (by omega) (by omega)
      have k1 := qRest_if hq1 (by omega)
      have h4 := hq4 (by omega)
      have hwj : V 2 (jm j).toNat = nI (wj tk jm j) := by rw [(hT.2.1 _ (by omega)).2.2.1, h4.2.2.1]; rfl
      have hwjb : wj tk jm j < 1000000000 := hB2a _
      refine jJ_of (fun H locs => lv_aload_n hx hb dX10_done_105 rfl (lv_at hl 0 rfl)) ?_
      refine jJ_of (fun H locs => lv_dup hx hb dX10_done_106 rfl) ?_
      refine jJ_get hx hb (C := RX10) (T := TX10) (N := 19) hts uX10_in_X10_done hown hK 0 rfl rfl 4 (by decide) (hts (.fieldLink RX10 121 "ValueBlocksModel" "at" "I") (by decide +kernel)) (fun _ h9 => h9) rfl dX10_done_107 ?_
      refine jJ_of (fun H locs => lv_iconst (v := (nI 1)) hx hb dX10_done_110 (by decide)) ?_
      refine jJ_of (fun H locs => jn_iadd hx hb dX10_done_111) ?_
      refine jJ_put hx hb (C := RX10) (T := TX10) (N := 19) (ty := .int) (v := .int (nI ((lnB tk (fi j)) + 1))) hts uX10_in_X10_done tyX10 tyX10_ok nmX10 hown hK 0 rfl rfl 4 (by decide) (hts (.fieldLink RX10 121 "ValueBlocksModel" "at" "I") (by decide +kernel)) (fun _ h9 => h9) rfl (by decide +kernel) rfl rfl (Nat.le_of_ble_eq_true rfl) dX10_done_112 (cs2 := [[(Z 0, .inr (8, [E 0, E 1, E 2, .ref (Z 1), .int (nI ((lnB tk (fi j)) + 1)), E 5, E 6, E 7, E 8, .ref (Z 2), E 10, E 11, E 12, E 13, E 14, .ref (Z 7), .int (nI al), E 17, E 18]))], [(Z 1, .inr (7, [X 0, X 1, .ref (Z 3), X 3, .ref (Z 5), X 5, X 6, .ref (Z 9), .ref (Z 10), .ref (Z 11), .ref (Z 12), .ref (Z 13), .int (nI ln)]))], [(Z 3, .inl (cB, 32008, .inl (V 0)))], [(Z 5, .inl (cI, 32008, .inl (V 2)))], [(Z 2, .inr (0, []))], [(Z 7, .inl (cJ, 200, .inr (.inl vv)))], [(Z 9, .inl (cI, 16002, .inl (fun i => nI (fi i))))], [(Z 10, .inl (cB, 16002, .inl (fun i => nI (so i))))], [(Z 11, .inl (cI, 16002, .inl (fun i => iI (lb i))))], [(Z 12, .inl (cI, 16002, .inl (fun i => iI (pa i))))], [(Z 13, .inl (cI, 16002, .inl (fun i => iI (jm i))))]]) rfl ?_
      refine jJ_of (fun H locs => lv_aload_n hx hb dX10_done_115 rfl (lv_at hl 0 rfl)) ?_
      have hokq4 : (qBra tk N 20 ((lnB tk (fi j)) + 1)).1 = true := k1
      have hqb4 : ((lnB tk (fi j)) + 1) ≤ (qBra tk N 20 ((lnB tk (fi j)) + 1)).2 ∧ (qBra tk N 20 ((lnB tk (fi j)) + 1)).2 + 1 ≤ (tk 0).length := qb_bra hE N 20 ((lnB tk (fi j)) + 1) (by omega)
      obtain ⟨aa4, haa4⟩ : ∃ i9 : Nat, (qBra tk N 20 ((lnB tk (fi j)) + 1)).2 = i9 := ⟨_, rfl⟩
      rw [haa4] at hqb4
      obtain ⟨xa4, xv4, hxe4⟩ : ∃ (i9 : Nat) (j9 : Int), xBra tk N vs 20 ((lnB tk (fi j)) + 1) = (i9, j9) := xP_ex _
      have hxb4 : xa4 = 0 → vOK xv4 := fun h => by have h2 := xv_bra N hB2a hvs 20 ((lnB tk (fi j)) + 1) (by rw [hxe4]; exact h); rw [hxe4] at h2; exact h2
      refine jX_callV (As := []) (rest := []) (wc := jF (eW cI cJ cB Z (lsV [E 0, E 1, E 2, .null, .null, E 5, E 6, E 7, E 8, .null, E 10, E 11, E 12, E 13, E 14, .null, .null, E 17, E 18]) (lsV [X 0, X 1, .null, X 3, .null, X 5, X 6, .ref (Z 9), .ref (Z 10), .ref (Z 11), .ref (Z 12), .ref (Z 13), .int (nI ln)]) V vv ((lnB tk (fi j)) + 1) al)) (cs2 := [[(Z 9, .inl (cI, 16002, .inl (fun i => nI (fi i))))], [(Z 10, .inl (cB, 16002, .inl (fun i => nI (so i))))], [(Z 11, .inl (cI, 16002, .inl (fun i => iI (lb i))))], [(Z 12, .inl (cI, 16002, .inl (fun i => iI (pa i))))], [(Z 13, .inl (cI, 16002, .inl (fun i => iI (jm i))))]]) (C := RX10) (T := TX10) (N := 19) (ci := 8) [0, 4, 1, 2, 3, 5] [6, 7, 8, 9, 10] ⟨hx, hb, hml, hown, hts⟩ hK hA hAm ((w_Md_val (E := lsV [E 0, E 1, E 2, .null, .null, E 5, E 6, E 7, E 8, .null, E 10, E 11, E 12, E 13, E 14, .null, .null, E 17, E 18]) (X := lsV [X 0, X 1, .null, X 3, .null, X 5, X 6, .ref (Z 9), .ref (Z 10), .ref (Z 11), .ref (Z 12), .ref (Z 13), .int (nI ln)]) hT hE hvv hvs hN 20).2 ((lnB tk (fi j)) + 1) al (by omega) hokq4) (cwV 0 hts gX10_done_X10_bracketed rfl rfl rfl (by decide +kernel) ⟨by show (8 * 20 + 6) + 1 ≤ 172; omega, by show 8 + (3 + 11) + (320 * 20 + 280) ≤ 7200; omega⟩) (nn := 11) rfl (by decide) rfl rfl ⟨0, _, rfl⟩ rfl rfl rfl hl.1 (Nat.le_of_ble_eq_true rfl) dX10_done_116 (by show _ + 0 ≤ 0; omega) (by show _ + 0 ≤ 0; omega) (fun u4 k4 n4 q4 hx4 => ?_) (fun v u4 k4 n4 hq4 => ?_)
      · rw [hxe4] at hx4
        dsimp only at hx4
        obtain ⟨hnz4, ⟨a2_4, hu4⟩, rfl, rfl⟩ := hx4
        rw [hu4]
        have he : dnF tk N ln lb pa jm vs j (lnB tk (fi j)) = (xa4, vs, 0) := by unfold dnF; rw [if_neg (by omega), if_pos (by omega)]; rw [hxe4]; exact if_neg hnz4
        exact jJx_out hno hlocks (by show _ ≤ 0; omega) (by show _ ≤ 0; omega) ⟨by rw [he]; exact hnz4, ⟨_, by rw [he]; rfl⟩, rfl, rfl⟩
      rw [hxe4, haa4] at hq4
      dsimp only at hq4
      obtain ⟨hz4, rfl, hw4, rfl, rfl⟩ := hq4
      subst hz4
      rw [hw4]
      have hxb4b := hxb4 rfl
      refine jJ_open (xs := [[(Z 0, .inr (8, [E 0, E 1, E 2, .ref (Z 1), .int (nI aa4), E 5, E 6, E 7, E 8, .ref (Z 2), E 10, E 11, E 12, E 13, E 14, .ref (Z 7), .int (nI al), E 17, E 18]))], [(Z 2, .inr (0, []))], [(Z 1, .inr (7, [X 0, X 1, .ref (Z 3), X 3, .ref (Z 5), X 5, X 6, .ref (Z 9), .ref (Z 10), .ref (Z 11), .ref (Z 12), .ref (Z 13), .int (nI ln)]))], [(Z 3, .inl (cB, 32008, .inl (V 0)))], [(Z 5, .inl (cI, 32008, .inl (V 2)))], [(Z 7, .inl (cJ, 200, .inr (.inl vv)))]]) (r := [[(Z 9, .inl (cI, 16002, .inl (fun i => nI (fi i))))], [(Z 10, .inl (cB, 16002, .inl (fun i => nI (so i))))], [(Z 11, .inl (cI, 16002, .inl (fun i => iI (lb i))))], [(Z 12, .inl (cI, 16002, .inl (fun i => iI (pa i))))], [(Z 13, .inl (cI, 16002, .inl (fun i => iI (jm i))))]]) (cs2 := [[(Z 0, .inr (8, [E 0, E 1, E 2, .ref (Z 1), .int (nI aa4), E 5, E 6, E 7, E 8, .ref (Z 2), E 10, E 11, E 12, E 13, E 14, .ref (Z 7), .int (nI al), E 17, E 18]))], [(Z 2, .inr (0, []))], [(Z 1, .inr (7, [X 0, X 1, .ref (Z 3), X 3, .ref (Z 5), X 5, X 6, .ref (Z 9), .ref (Z 10), .ref (Z 11), .ref (Z 12), .ref (Z 13), .int (nI ln)]))], [(Z 3, .inl (cB, 32008, .inl (V 0)))], [(Z 5, .inl (cI, 32008, .inl (V 2)))], [(Z 7, .inl (cJ, 200, .inr (.inl vv)))], [(Z 9, .inl (cI, 16002, .inl (fun i => nI (fi i))))], [(Z 10, .inl (cB, 16002, .inl (fun i => nI (so i))))], [(Z 11, .inl (cI, 16002, .inl (fun i => iI (lb i))))], [(Z 12, .inl (cI, 16002, .inl (fun i => iI (pa i))))], [(Z 13, .inl (cI, 16002, .inl (fun i => iI (jm i))))]]) rfl ?_
      unfold vOK at hxb4b
      refine jJ_eq (g2 := F0 m 119 ls [.long (lI xv4)]) (cs2 := [[(Z 0, .inr (8, [E 0, E 1, E 2, .ref (Z 1), .int (nI aa4), E 5, E 6, E 7, E 8, .ref (Z 2), E 10, E 11, E 12, E 13, E 14, .ref (Z 7), .int (nI al), E 17, E 18]))], [(Z 2, .inr (0, []))], [(Z 1, .inr (7, [X 0, X 1, .ref (Z 3), X 3, .ref (Z 5), X 5, X 6, .ref (Z 9), .ref (Z 10), .ref (Z 11), .ref (Z 12), .ref (Z 13), .int (nI ln)]))], [(Z 3, .inl (cB, 32008, .inl (V 0)))], [(Z 5, .inl (cI, 32008, .inl (V 2)))], [(Z 7, .inl (cJ, 200, .inr (.inl vv)))], [(Z 9, .inl (cI, 16002, .inl (fun i => nI (fi i))))], [(Z 10, .inl (cB, 16002, .inl (fun i => nI (so i))))], [(Z 11, .inl (cI, 16002, .inl (fun i => iI (lb i))))], [(Z 12, .inl (cI, 16002, .inl (fun i => iI (pa i))))], [(Z 13, .inl (cI, 16002, .inl (fun i => iI (jm i))))]]) rfl rfl ?_
      refine jJ_of (fun H locs => jn_lconst (v := 0) hx hb dX10_done_119 rfl) ?_
      refine jJ_of (fun H locs => W.lcmp hx hb dX10_done_120) ?_
      refine jJ_of2 (fun H locs => jl_if_eq (tgt := 148) hx hb dX10_done_121 (by decide) (by omega) (by omega) (by omega) (by omega)) (fun c121 => ?_) (fun c121 => ?_)
      · refine jJ_of (fun H locs => lv_iload_n hx hb dX10_done_148 rfl (lv_at hl 1 rfl)) ?_
        refine jJ_of (fun H locs => lv_iconst (v := (nI 1)) hx hb dX10_done_149 (by decide)) ?_
        refine jJ_of (fun H locs => jn_iadd hx hb dX10_done_150) ?_
        have he : dnF tk N ln lb pa jm vs j (lnB tk (fi j)) = (0, vs, ((j + 1 : Nat) : Int)) := by unfold dnF; rw [if_neg (by omega), if_pos (by omega)]; rw [hxe4]; dsimp only; rw [if_pos rfl, if_pos c121]
        have hv9 : ∀ i, i < 200 → (vv) i = lI ((dnF tk N ln lb pa jm vs j (lnB tk (fi j))).2.1 i) := by
          rw [he]
          exact hvv
        exact jJ_toX (jJ_iret hx hb hr hlocks dX10_done_151 (by show _ ≤ 0; omega) (by show _ ≤ 0; omega) ⟨by rw [he], by rw [he, nI_iI], ⟨vv, _, hv9, rfl⟩, rfl, rfl⟩)
      · refine jJ_of (fun H locs => lv_aload_n hx hb dX10_done_124 rfl (lv_at hl 0 rfl)) ?_
        refine jJ_of (fun H locs => lv_aload_n hx hb dX10_done_125 rfl (lv_at hl 0 rfl)) ?_
        refine jJ_get hx hb (C := RX10) (T := TX10) (N := 19) hts uX10_in_X10_done hown hK 0 rfl rfl 3 (by decide) (hts (.fieldLink RX10 53 "ValueBlocksModel" "t" "LValueBlocksModel$Text;") (by decide +kernel)) (fun _ h9 => h9) rfl dX10_done_126 ?_
        refine jJ_get hx hb (C := RX9) (T := TX9) (N := 13) hts uX9_in_X10_done hown hK 2 rfl rfl 4 (by decide) (hts (.fieldLink RX10 71 "ValueBlocksModel$Text" "worths" "[I") (by decide +kernel)) (fun _ h9 => h9) rfl dX10_done_129 ?_
        refine jJ_of (fun H locs => lv_aload_n hx hb dX10_done_132 rfl (lv_at hl 0 rfl)) ?_
        refine jJ_get hx hb (C := RX10) (T := TX10) (N := 19) hts uX10_in_X10_done hown hK 0 rfl rfl 3 (by decide) (hts (.fieldLink RX10 53 "ValueBlocksModel" "t" "LValueBlocksModel$Text;") (by decide +kernel)) (fun _ h9 => h9) rfl dX10_done_133 ?_
        refine jJ_get hx hb (C := RX9) (T := TX9) (N := 13) hts uX9_in_X10_done hown hK 2 rfl rfl 11 (by decide) (hts (.fieldLink RX10 190 "ValueBlocksModel$Text" "jumps" "[I") (by decide +kernel)) (fun _ h9 => h9) rfl dX10_done_136 ?_
        refine jJ_of (fun H locs => lv_iload_n hx hb dX10_done_139 rfl (lv_at hl 1 rfl)) ?_
        refine jJ_iald hx hb hK 10 0 (f := fun i => iI (jm i)) rfl rfl (vp_in_nI (by omega) (by omega)) (x := (iI (jm j))) (by rw [nI_clamp (by omega)]) dX10_done_140 ?_
        refine jJ_iald hx hb hK 4 0 (f := V 2) rfl rfl (vp_in_iI (by omega) (by omega) (by omega)) (x := (nI (wj tk jm j))) (by rw [iI_toNatC (by omega) (by omega)]; exact hwj) dX10_done_141 ?_
        rw [nI_iI (wj tk jm j)]
        refine jJ_callV (As := [.int (iI ((wj tk jm j : Nat) : Int))]) (rest := []) (wc := jF (loW cI Z (lsV [E 0, E 1, E 2, .null, .int (nI aa4), E 5, E 6, E 7, E 8, .ref (Z 2), E 10, E 11, E 12, E 13, E 14, .ref (Z 7), .int (nI al), E 17, E 18]) (lsV [X 0, X 1, .ref (Z 3), X 3, .ref (Z 5), X 5, X 6, .ref (Z 9), .ref (Z 10), .null, .ref (Z 12), .ref (Z 13), .null]) lb ln)) (cs2 := [[(Z 2, .inr (0, []))], [(Z 3, .inl (cB, 32008, .inl (V 0)))], [(Z 5, .inl (cI, 32008, .inl (V 2)))], [(Z 7, .inl (cJ, 200, .inr (.inl vv)))], [(Z 9, .inl (cI, 16002, .inl (fun i => nI (fi i))))], [(Z 10, .inl (cB, 16002, .inl (fun i => nI (so i))))], [(Z 12, .inl (cI, 16002, .inl (fun i => iI (pa i))))], [(Z 13, .inl (cI, 16002, .inl (fun i => iI (jm i))))]]) (C := RX10) (T := TX10) (N := 19) (ci := 8) [0, 2, 8] [1, 3, 4, 5, 6, 7, 9, 10] ⟨hx, hb, hml, hown, hts⟩ hK hA hAm (c_Md_lineOf (E := lsV [E 0, E 1, E 2, .null, .int (nI aa4), E 5, E 6, E 7, E 8, .ref (Z 2), E 10, E 11, E 12, E 13, E 14, .ref (Z 7), .int (nI al), E 17, E 18]) (X := lsV [X 0, X 1, .ref (Z 3), X 3, .ref (Z 5), X 5, X 6, .ref (Z 9), .ref (Z 10), .null, .ref (Z 12), .ref (Z 13), .null]) (lb := lb) (ln := ln) ((wj tk jm j : Nat) : Int) (by omega) (by omega) (fun k hk => ⟨(hR k hk).2.2.2.2.2.1, (hR k hk).2.2.2.2.2.2⟩)) (cwV 1 hts gX10_done_X10_lineOf rfl rfl rfl (by decide +kernel) ⟨Nat.le_of_ble_eq_true rfl, Nat.le_of_ble_eq_true rfl⟩) (nn := 11) rfl (by decide) rfl rfl ⟨0, _, rfl⟩ rfl rfl rfl hl.1 (Nat.le_of_ble_eq_true rfl) dX10_done_142 (by show _ + 0 ≤ 0; omega) (by show _ + 0 ≤ 0; omega) (fun v u5 k5 n5 hq5 => ?_)
        obtain ⟨hv5, hw5, rfl, rfl⟩ := hq5
        subst hv5
        rw [hw5]
        have hlo5 := lo_b lb ((wj tk jm j : Nat) : Int) ln
        refine jJ_open (xs := [[(Z 0, .inr (8, [E 0, E 1, E 2, .ref (Z 1), .int (nI aa4), E 5, E 6, E 7, E 8, .ref (Z 2), E 10, E 11, E 12, E 13, E 14, .ref (Z 7), .int (nI al), E 17, E 18]))], [(Z 1, .inr (7, [X 0, X 1, .ref (Z 3), X 3, .ref (Z 5), X 5, X 6, .ref (Z 9), .ref (Z 10), .ref (Z 11), .ref (Z 12), .ref (Z 13), .int (nI ln)]))], [(Z 11, .inl (cI, 16002, .inl (fun i => iI (lb i))))]]) (r := [[(Z 2, .inr (0, []))], [(Z 3, .inl (cB, 32008, .inl (V 0)))], [(Z 5, .inl (cI, 32008, .inl (V 2)))], [(Z 7, .inl (cJ, 200, .inr (.inl vv)))], [(Z 9, .inl (cI, 16002, .inl (fun i => nI (fi i))))], [(Z 10, .inl (cB, 16002, .inl (fun i => nI (so i))))], [(Z 12, .inl (cI, 16002, .inl (fun i => iI (pa i))))], [(Z 13, .inl (cI, 16002, .inl (fun i => iI (jm i))))]]) (cs2 := [[(Z 0, .inr (8, [E 0, E 1, E 2, .ref (Z 1), .int (nI aa4), E 5, E 6, E 7, E 8, .ref (Z 2), E 10, E 11, E 12, E 13, E 14, .ref (Z 7), .int (nI al), E 17, E 18]))], [(Z 1, .inr (7, [X 0, X 1, .ref (Z 3), X 3, .ref (Z 5), X 5, X 6, .ref (Z 9), .ref (Z 10), .ref (Z 11), .ref (Z 12), .ref (Z 13), .int (nI ln)]))], [(Z 11, .inl (cI, 16002, .inl (fun i => iI (lb i))))], [(Z 2, .inr (0, []))], [(Z 3, .inl (cB, 32008, .inl (V 0)))], [(Z 5, .inl (cI, 32008, .inl (V 2)))], [(Z 7, .inl (cJ, 200, .inr (.inl vv)))], [(Z 9, .inl (cI, 16002, .inl (fun i => nI (fi i))))], [(Z 10, .inl (cB, 16002, .inl (fun i => nI (so i))))], [(Z 12, .inl (cI, 16002, .inl (fun i => iI (pa i))))], [(Z 13, .inl (cI, 16002, .inl (fun i => iI (jm i))))]]) rfl ?_
        refine jJ_eq (g2 := F0 m 145 ls [.int (iI (lo lb ((wj tk jm j : Nat) : Int) ln))]) (cs2 := [[(Z 0, .inr (8, [E 0, E 1, E 2, .ref (Z 1), .int (nI aa4), E 5, E 6, E 7, E 8, .ref (Z 2), E 10, E 11, E 12, E 13, E 14, .ref (Z 7), .int (nI al), E 17, E 18]))], [(Z 1, .inr (7, [X 0, X 1, .ref (Z 3), X 3, .ref (Z 5), X 5, X 6, .ref (Z 9), .ref (Z 10), .ref (Z 11), .ref (Z 12), .ref (Z 13), .int (nI ln)]))], [(Z 11, .inl (cI, 16002, .inl (fun i => iI (lb i))))], [(Z 2, .inr (0, []))], [(Z 3, .inl (cB, 32008, .inl (V 0)))], [(Z 5, .inl (cI, 32008, .inl (V 2)))], [(Z 7, .inl (cJ, 200, .inr (.inl vv)))], [(Z 9, .inl (cI, 16002, .inl (fun i => nI (fi i))))], [(Z 10, .inl (cB, 16002, .inl (fun i => nI (so i))))], [(Z 12, .inl (cI, 16002, .inl (fun i => iI (pa i))))], [(Z 13, .inl (cI, 16002, .inl (fun i => iI (jm i))))]]) rfl rfl ?_
        refine jJ_of (fun H locs => lv_goto (tgt := 151) hx hb dX10_done_145 (by decide)) ?_
        refine jJ_perm [0, 3, 1, 4, 5, 6, 7, 8, 2, 9, 10] (nn := 11) rfl (by decide) (cs2 := [[(Z 0, .inr (8, [E 0, E 1, E 2, .ref (Z 1), .int (nI aa4), E 5, E 6, E 7, E 8, .ref (Z 2), E 10, E 11, E 12, E 13, E 14, .ref (Z 7), .int (nI al), E 17, E 18]))], [(Z 2, .inr (0, []))], [(Z 1, .inr (7, [X 0, X 1, .ref (Z 3), X 3, .ref (Z 5), X 5, X 6, .ref (Z 9), .ref (Z 10), .ref (Z 11), .ref (Z 12), .ref (Z 13), .int (nI ln)]))], [(Z 3, .inl (cB, 32008, .inl (V 0)))], [(Z 5, .inl (cI, 32008, .inl (V 2)))], [(Z 7, .inl (cJ, 200, .inr (.inl vv)))], [(Z 9, .inl (cI, 16002, .inl (fun i => nI (fi i))))], [(Z 10, .inl (cB, 16002, .inl (fun i => nI (so i))))], [(Z 11, .inl (cI, 16002, .inl (fun i => iI (lb i))))], [(Z 12, .inl (cI, 16002, .inl (fun i => iI (pa i))))], [(Z 13, .inl (cI, 16002, .inl (fun i => iI (jm i))))]]) rfl ?_
        have he : dnF tk N ln lb pa jm vs j (lnB tk (fi j)) = (0, vs, lo lb ((wj tk jm j : Nat) : Int) ln) := by unfold dnF; rw [if_neg (by omega), if_pos (by omega)]; rw [hxe4]; dsimp only; rw [if_pos rfl, if_neg c121]
        have hv9 : ∀ i, i < 200 → (vv) i = lI ((dnF tk N ln lb pa jm vs j (lnB tk (fi j))).2.1 i) := by
          rw [he]
          exact hvv
        exact jJ_toX (jJ_iret hx hb hr hlocks dX10_done_151 (by show _ ≤ 0; omega) (by show _ ≤ 0; omega) ⟨by rw [he], by rw [he], ⟨vv, _, hv9, rfl⟩, rfl, rfl⟩)
    by_cases e41_4 : sw41 = 4
    · refine jJ_of (fun H locs => lv_tableIn hx hb dX10_done_41 (off := 111) (tgt := 152) (by rw [e41_4]; decide) (by rw [e41_4]; decide) (by rw [e41_4]; decide) (by decide)) ?_
      have hc : (tk 0).getD (lnB tk (fi j)) 0 = 301 := by omega
      have hL8 := hE.lt (a := lnB tk (fi j)) (by omega) (by omega)
      have h4 := hq4 (by omega)
      have hwj : V 2 (jm j).toNat = nI (wj tk jm j) := by rw [(hT.2.1 _ (by omega)).2.2.1, h4.2.2.1]; rfl
      have hwjb : wj tk jm j < 1000000000 := hB2a _
      refine jJ_of (fun H locs => lv_aload_n hx hb dX10_done_152 rfl (lv_at hl 0 rfl)) ?_
      refine jJ_of (fun H locs => lv_aload_n hx hb dX10_done_153 rfl (lv_at hl 0 rfl)) ?_
      refine jJ_get hx hb (C := RX10) (T := TX10) (N := 19) hts uX10_in_X10_done hown hK 0 rfl rfl 3 (by decide) (hts (.fieldLink RX10 53 "ValueBlocksModel" "t" "LValueBlocksModel$Text;") (by decide +kernel)) (fun _ h9 => h9) rfl dX10_done_154 ?_
      refine jJ_get hx hb (C := RX9) (T := TX9) (N := 13) hts uX9_in_X10_done hown hK 1 rfl rfl 4 (by decide) (hts (.fieldLink RX10 71 "ValueBlocksModel$Text" "worths" "[I") (by decide +kernel)) (fun _ h9 => h9) rfl dX10_done_157 ?_
      refine jJ_of (fun H locs => lv_aload_n hx hb dX10_done_160 rfl (lv_at hl 0 rfl)) ?_
      refine jJ_get hx hb (C := RX10) (T := TX10) (N := 19) hts uX10_in_X10_done hown hK 0 rfl rfl 3 (by decide) (hts (.fieldLink RX10 53 "ValueBlocksModel" "t" "LValueBlocksModel$Text;") (by decide +kernel)) (fun _ h9 => h9) rfl dX10_done_161 ?_
      refine jJ_get hx hb (C := RX9) (T := TX9) (N := 13) hts uX9_in_X10_done hown hK 1 rfl rfl 11 (by decide) (hts (.fieldLink RX10 190 "ValueBlocksModel$Text" "jumps" "[I") (by decide +kernel)) (fun _ h9 => h9) rfl dX10_done_164 ?_
      refine jJ_of (fun H locs => lv_iload_n hx hb dX10_done_167 rfl (lv_at hl 1 rfl)) ?_
      refine jJ_iald hx hb hK 10 0 (f := fun i => iI (jm i)) rfl rfl (vp_in_nI (by omega) (by omega)) (x := (iI (jm j))) (by rw [nI_clamp (by omega)]) dX10_done_168 ?_
      refine jJ_iald hx hb hK 3 0 (f := V 2) rfl rfl (vp_in_iI (by omega) (by omega) (by omega)) (x := (nI (wj tk jm j))) (by rw [iI_toNatC (by omega) (by omega)]; exact hwj) dX10_done_169 ?_
      rw [nI_iI (wj tk jm j)]
      refine jJ_callV (As := [.int (iI ((wj tk jm j : Nat) : Int))]) (rest := []) (wc := jF (loW cI Z (lsV [E 0, E 1, E 2, .null, .int (nI (lnB tk (fi j))), E 5, E 6, E 7, E 8, .ref (Z 2), E 10, E 11, E 12, E 13, E 14, .ref (Z 7), .int (nI al), E 17, E 18]) (lsV [X 0, X 1, .ref (Z 3), X 3, .ref (Z 5), X 5, X 6, .ref (Z 9), .ref (Z 10), .null, .ref (Z 12), .ref (Z 13), .null]) lb ln)) (cs2 := [[(Z 3, .inl (cB, 32008, .inl (V 0)))], [(Z 5, .inl (cI, 32008, .inl (V 2)))], [(Z 2, .inr (0, []))], [(Z 7, .inl (cJ, 200, .inr (.inl vv)))], [(Z 9, .inl (cI, 16002, .inl (fun i => nI (fi i))))], [(Z 10, .inl (cB, 16002, .inl (fun i => nI (so i))))], [(Z 12, .inl (cI, 16002, .inl (fun i => iI (pa i))))], [(Z 13, .inl (cI, 16002, .inl (fun i => iI (jm i))))]]) (C := RX10) (T := TX10) (N := 19) (ci := 8) [0, 1, 8] [2, 3, 4, 5, 6, 7, 9, 10] ⟨hx, hb, hml, hown, hts⟩ hK hA hAm (c_Md_lineOf (E := lsV [E 0, E 1, E 2, .null, .int (nI (lnB tk (fi j))), E 5, E 6, E 7, E 8, .ref (Z 2), E 10, E 11, E 12, E 13, E 14, .ref (Z 7), .int (nI al), E 17, E 18]) (X := lsV [X 0, X 1, .ref (Z 3), X 3, .ref (Z 5), X 5, X 6, .ref (Z 9), .ref (Z 10), .null, .ref (Z 12), .ref (Z 13), .null]) (lb := lb) (ln := ln) ((wj tk jm j : Nat) : Int) (by omega) (by omega) (fun k hk => ⟨(hR k hk).2.2.2.2.2.1, (hR k hk).2.2.2.2.2.2⟩)) (cwV 1 hts gX10_done_X10_lineOf rfl rfl rfl (by decide +kernel) ⟨Nat.le_of_ble_eq_true rfl, Nat.le_of_ble_eq_true rfl⟩) (nn := 11) rfl (by decide) rfl rfl ⟨0, _, rfl⟩ rfl rfl rfl hl.1 (Nat.le_of_ble_eq_true rfl) dX10_done_170 (by show _ + 0 ≤ 0; omega) (by show _ + 0 ≤ 0; omega) (fun v u6 k6 n6 hq6 => ?_)
      obtain ⟨hv6, hw6, rfl, rfl⟩ := hq6
      subst hv6
      rw [hw6]
      have hlo6 := lo_b lb ((wj tk jm j : Nat) : Int) ln
      refine jJ_open (xs := [[(Z 0, .inr (8, [E 0, E 1, E 2, .ref (Z 1), .int (nI (lnB tk (fi j))), E 5, E 6, E 7, E 8, .ref (Z 2), E 10, E 11, E 12, E 13, E 14, .ref (Z 7), .int (nI al), E 17, E 18]))], [(Z 1, .inr (7, [X 0, X 1, .ref (Z 3), X 3, .ref (Z 5), X 5, X 6, .ref (Z 9), .ref (Z 10), .ref (Z 11), .ref (Z 12), .ref (Z 13), .int (nI ln)]))], [(Z 11, .inl (cI, 16002, .inl (fun i => iI (lb i))))]]) (r := [[(Z 3, .inl (cB, 32008, .inl (V 0)))], [(Z 5, .inl (cI, 32008, .inl (V 2)))], [(Z 2, .inr (0, []))], [(Z 7, .inl (cJ, 200, .inr (.inl vv)))], [(Z 9, .inl (cI, 16002, .inl (fun i => nI (fi i))))], [(Z 10, .inl (cB, 16002, .inl (fun i => nI (so i))))], [(Z 12, .inl (cI, 16002, .inl (fun i => iI (pa i))))], [(Z 13, .inl (cI, 16002, .inl (fun i => iI (jm i))))]]) (cs2 := [[(Z 0, .inr (8, [E 0, E 1, E 2, .ref (Z 1), .int (nI (lnB tk (fi j))), E 5, E 6, E 7, E 8, .ref (Z 2), E 10, E 11, E 12, E 13, E 14, .ref (Z 7), .int (nI al), E 17, E 18]))], [(Z 1, .inr (7, [X 0, X 1, .ref (Z 3), X 3, .ref (Z 5), X 5, X 6, .ref (Z 9), .ref (Z 10), .ref (Z 11), .ref (Z 12), .ref (Z 13), .int (nI ln)]))], [(Z 11, .inl (cI, 16002, .inl (fun i => iI (lb i))))], [(Z 3, .inl (cB, 32008, .inl (V 0)))], [(Z 5, .inl (cI, 32008, .inl (V 2)))], [(Z 2, .inr (0, []))], [(Z 7, .inl (cJ, 200, .inr (.inl vv)))], [(Z 9, .inl (cI, 16002, .inl (fun i => nI (fi i))))], [(Z 10, .inl (cB, 16002, .inl (fun i => nI (so i))))], [(Z 12, .inl (cI, 16002, .inl (fun i => iI (pa i))))], [(Z 13, .inl (cI, 16002, .inl (fun i => iI (jm i))))]]) rfl ?_
      refine jJ_eq (g2 := F0 m 173 ls [.int (iI (lo lb ((wj tk jm j : Nat) : Int) ln))]) (cs2 := [[(Z 0, .inr (8, [E 0, E 1, E 2, .ref (Z 1), .int (nI (lnB tk (fi j))), E 5, E 6, E 7, E 8, .ref (Z 2), E 10, E 11, E 12, E 13, E 14, .ref (Z 7), .int (nI al), E 17, E 18]))], [(Z 1, .inr (7, [X 0, X 1, .ref (Z 3), X 3, .ref (Z 5), X 5, X 6, .ref (Z 9), .ref (Z 10), .ref (Z 11), .ref (Z 12), .ref (Z 13), .int (nI ln)]))], [(Z 11, .inl (cI, 16002, .inl (fun i => iI (lb i))))], [(Z 3, .inl (cB, 32008, .inl (V 0)))], [(Z 5, .inl (cI, 32008, .inl (V 2)))], [(Z 2, .inr (0, []))], [(Z 7, .inl (cJ, 200, .inr (.inl vv)))], [(Z 9, .inl (cI, 16002, .inl (fun i => nI (fi i))))], [(Z 10, .inl (cB, 16002, .inl (fun i => nI (so i))))], [(Z 12, .inl (cI, 16002, .inl (fun i => iI (pa i))))], [(Z 13, .inl (cI, 16002, .inl (fun i => iI (jm i))))]]) rfl rfl ?_
      refine jJ_perm [0, 5, 1, 3, 4, 6, 7, 8, 2, 9, 10] (nn := 11) rfl (by decide) (cs2 := [[(Z 0, .inr (8, [E 0, E 1, E 2, .ref (Z 1), .int (nI (lnB tk (fi j))), E 5, E 6, E 7, E 8, .ref (Z 2), E 10, E 11, E 12, E 13, E 14, .ref (Z 7), .int (nI al), E 17, E 18]))], [(Z 2, .inr (0, []))], [(Z 1, .inr (7, [X 0, X 1, .ref (Z 3), X 3, .ref (Z 5), X 5, X 6, .ref (Z 9), .ref (Z 10), .ref (Z 11), .ref (Z 12), .ref (Z 13), .int (nI ln)]))], [(Z 3, .inl (cB, 32008, .inl (V 0)))], [(Z 5, .inl (cI, 32008, .inl (V 2)))], [(Z 7, .inl (cJ, 200, .inr (.inl vv)))], [(Z 9, .inl (cI, 16002, .inl (fun i => nI (fi i))))], [(Z 10, .inl (cB, 16002, .inl (fun i => nI (so i))))], [(Z 11, .inl (cI, 16002, .inl (fun i => iI (lb i))))], [(Z 12, .inl (cI, 16002, .inl (fun i => iI (pa i))))], [(Z 13, .inl (cI, 16002, .inl (fun i => iI (jm i))))]]) rfl ?_
      have he : dnF tk N ln lb pa jm vs j (lnB tk (fi j)) = (0, vs, lo lb ((wj tk jm j : Nat) : Int) ln) := by unfold dnF; rw [if_neg (by omega), if_neg (by omega), if_pos (by omega)]
      have hv9 : ∀ i, i < 200 → (vv) i = lI ((dnF tk N ln lb pa jm vs j (lnB tk (fi j))).2.1 i) := by
        rw [he]
        exact hvv
      exact jJ_toX (jJ_iret hx hb hr hlocks dX10_done_173 (by show _ ≤ 0; omega) (by show _ ≤ 0; omega) ⟨by rw [he], by rw [he], ⟨vv, _, hv9, rfl⟩, rfl, rfl⟩)
    by_cases e41_5 : sw41 = 5
    · refine jJ_of (fun H locs => lv_tableIn hx hb dX10_done_41 (off := 133) (tgt := 174) (by rw [e41_5]; decide) (by rw [e41_5]; decide) (by rw [e41_5]; decide) (by decide)) ?_
      have hc : (tk 0).getD (lnB tk (fi j)) 0 = 302 := by omega
      have hL8 := hE.lt (a := lnB tk (fi j)) (by omega) (by omega)
      have k1 := qRest_if hq1 (by omega)
      have h5 := hq5 (by omega)
      refine jJ_of (fun H locs => lv_aload_n hx hb dX10_done_174 rfl (lv_at hl 0 rfl)) ?_
      refine jJ_of (fun H locs => lv_dup hx hb dX10_done_175 rfl) ?_
      refine jJ_get hx hb (C := RX10) (T := TX10) (N := 19) hts uX10_in_X10_done hown hK 0 rfl rfl 4 (by decide) (hts (.fieldLink RX10 121 "ValueBlocksModel" "at" "I") (by decide +kernel)) (fun _ h9 => h9) rfl dX10_done_176 ?_
      refine jJ_of (fun H locs => lv_iconst (v := (nI 1)) hx hb dX10_done_179 (by decide)) ?_
      refine jJ_of (fun H locs => jn_iadd hx hb dX10_done_180) ?_
      refine jJ_put hx hb (C := RX10) (T := TX10) (N := 19) (ty := .int) (v := .int (nI ((lnB tk (fi j)) + 1))) hts uX10_in_X10_done tyX10 tyX10_ok nmX10 hown hK 0 rfl rfl 4 (by decide) (hts (.fieldLink RX10 121 "ValueBlocksModel" "at" "I") (by decide +kernel)) (fun _ h9 => h9) rfl (by decide +kernel) rfl rfl (Nat.le_of_ble_eq_true rfl) dX10_done_181 (cs2 := [[(Z 0, .inr (8, [E 0, E 1, E 2, .ref (Z 1), .int (nI ((lnB tk (fi j)) + 1)), E 5, E 6, E 7, E 8, .ref (Z 2), E 10, E 11, E 12, E 13, E 14, .ref (Z 7), .int (nI al), E 17, E 18]))], [(Z 1, .inr (7, [X 0, X 1, .ref (Z 3), X 3, .ref (Z 5), X 5, X 6, .ref (Z 9), .ref (Z 10), .ref (Z 11), .ref (Z 12), .ref (Z 13), .int (nI ln)]))], [(Z 3, .inl (cB, 32008, .inl (V 0)))], [(Z 5, .inl (cI, 32008, .inl (V 2)))], [(Z 2, .inr (0, []))], [(Z 7, .inl (cJ, 200, .inr (.inl vv)))], [(Z 9, .inl (cI, 16002, .inl (fun i => nI (fi i))))], [(Z 10, .inl (cB, 16002, .inl (fun i => nI (so i))))], [(Z 11, .inl (cI, 16002, .inl (fun i => iI (lb i))))], [(Z 12, .inl (cI, 16002, .inl (fun i => iI (pa i))))], [(Z 13, .inl (cI, 16002, .inl (fun i => iI (jm i))))]]) rfl ?_
      refine jJ_of (fun H locs => lv_aload_n hx hb dX10_done_184 rfl (lv_at hl 0 rfl)) ?_
      have hokq7 : (qBra tk N 20 ((lnB tk (fi j)) + 1)).1 = true := k1
      have hqb7 : ((lnB tk (fi j)) + 1) ≤ (qBra tk N 20 ((lnB tk (fi j)) + 1)).2 ∧ (qBra tk N 20 ((lnB tk (fi j)) + 1)).2 + 1 ≤ (tk 0).length := qb_bra hE N 20 ((lnB tk (fi j)) + 1) (by omega)
      obtain ⟨aa7, haa7⟩ : ∃ i9 : Nat, (qBra tk N 20 ((lnB tk (fi j)) + 1)).2 = i9 := ⟨_, rfl⟩
      rw [haa7] at hqb7
      obtain ⟨xa7, xv7, hxe7⟩ : ∃ (i9 : Nat) (j9 : Int), xBra tk N vs 20 ((lnB tk (fi j)) + 1) = (i9, j9) := xP_ex _
      have hxb7 : xa7 = 0 → vOK xv7 := fun h => by have h2 := xv_bra N hB2a hvs 20 ((lnB tk (fi j)) + 1) (by rw [hxe7]; exact h); rw [hxe7] at h2; exact h2
      refine jX_callV (As := []) (rest := []) (wc := jF (eW cI cJ cB Z (lsV [E 0, E 1, E 2, .null, .null, E 5, E 6, E 7, E 8, .null, E 10, E 11, E 12, E 13, E 14, .null, .null, E 17, E 18]) (lsV [X 0, X 1, .null, X 3, .null, X 5, X 6, .ref (Z 9), .ref (Z 10), .ref (Z 11), .ref (Z 12), .ref (Z 13), .int (nI ln)]) V vv ((lnB tk (fi j)) + 1) al)) (cs2 := [[(Z 9, .inl (cI, 16002, .inl (fun i => nI (fi i))))], [(Z 10, .inl (cB, 16002, .inl (fun i => nI (so i))))], [(Z 11, .inl (cI, 16002, .inl (fun i => iI (lb i))))], [(Z 12, .inl (cI, 16002, .inl (fun i => iI (pa i))))], [(Z 13, .inl (cI, 16002, .inl (fun i => iI (jm i))))]]) (C := RX10) (T := TX10) (N := 19) (ci := 8) [0, 4, 1, 2, 3, 5] [6, 7, 8, 9, 10] ⟨hx, hb, hml, hown, hts⟩ hK hA hAm ((w_Md_val (E := lsV [E 0, E 1, E 2, .null, .null, E 5, E 6, E 7, E 8, .null, E 10, E 11, E 12, E 13, E 14, .null, .null, E 17, E 18]) (X := lsV [X 0, X 1, .null, X 3, .null, X 5, X 6, .ref (Z 9), .ref (Z 10), .ref (Z 11), .ref (Z 12), .ref (Z 13), .int (nI ln)]) hT hE hvv hvs hN 20).2 ((lnB tk (fi j)) + 1) al (by omega) hokq7) (cwV 0 hts gX10_done_X10_bracketed rfl rfl rfl (by decide +kernel) ⟨by show (8 * 20 + 6) + 1 ≤ 172; omega, by show 8 + (3 + 11) + (320 * 20 + 280) ≤ 7200; omega⟩) (nn := 11) rfl (by decide) rfl rfl ⟨0, _, rfl⟩ rfl rfl rfl hl.1 (Nat.le_of_ble_eq_true rfl) dX10_done_185 (by show _ + 0 ≤ 0; omega) (by show _ + 0 ≤ 0; omega) (fun u7 k7 n7 q7 hx7 => ?_) (fun v u7 k7 n7 hq7 => ?_)
      · rw [hxe7] at hx7
        dsimp only at hx7
        obtain ⟨hnz7, ⟨a2_7, hu7⟩, rfl, rfl⟩ := hx7
        rw [hu7]
        have he : dnF tk N ln lb pa jm vs j (lnB tk (fi j)) = (xa7, vs, 0) := by unfold dnF; rw [if_neg (by omega), if_neg (by omega), if_neg (by omega), if_pos (by omega)]; rw [hxe7]; exact if_neg hnz7
        exact jJx_out hno hlocks (by show _ ≤ 0; omega) (by show _ ≤ 0; omega) ⟨by rw [he]; exact hnz7, ⟨_, by rw [he]; rfl⟩, rfl, rfl⟩
      rw [hxe7, haa7] at hq7
      dsimp only at hq7
      obtain ⟨hz7, rfl, hw7, rfl, rfl⟩ := hq7
      subst hz7
      rw [hw7]
      have hxb7b := hxb7 rfl
      refine jJ_open (xs := [[(Z 0, .inr (8, [E 0, E 1, E 2, .ref (Z 1), .int (nI aa7), E 5, E 6, E 7, E 8, .ref (Z 2), E 10, E 11, E 12, E 13, E 14, .ref (Z 7), .int (nI al), E 17, E 18]))], [(Z 2, .inr (0, []))], [(Z 1, .inr (7, [X 0, X 1, .ref (Z 3), X 3, .ref (Z 5), X 5, X 6, .ref (Z 9), .ref (Z 10), .ref (Z 11), .ref (Z 12), .ref (Z 13), .int (nI ln)]))], [(Z 3, .inl (cB, 32008, .inl (V 0)))], [(Z 5, .inl (cI, 32008, .inl (V 2)))], [(Z 7, .inl (cJ, 200, .inr (.inl vv)))]]) (r := [[(Z 9, .inl (cI, 16002, .inl (fun i => nI (fi i))))], [(Z 10, .inl (cB, 16002, .inl (fun i => nI (so i))))], [(Z 11, .inl (cI, 16002, .inl (fun i => iI (lb i))))], [(Z 12, .inl (cI, 16002, .inl (fun i => iI (pa i))))], [(Z 13, .inl (cI, 16002, .inl (fun i => iI (jm i))))]]) (cs2 := [[(Z 0, .inr (8, [E 0, E 1, E 2, .ref (Z 1), .int (nI aa7), E 5, E 6, E 7, E 8, .ref (Z 2), E 10, E 11, E 12, E 13, E 14, .ref (Z 7), .int (nI al), E 17, E 18]))], [(Z 2, .inr (0, []))], [(Z 1, .inr (7, [X 0, X 1, .ref (Z 3), X 3, .ref (Z 5), X 5, X 6, .ref (Z 9), .ref (Z 10), .ref (Z 11), .ref (Z 12), .ref (Z 13), .int (nI ln)]))], [(Z 3, .inl (cB, 32008, .inl (V 0)))], [(Z 5, .inl (cI, 32008, .inl (V 2)))], [(Z 7, .inl (cJ, 200, .inr (.inl vv)))], [(Z 9, .inl (cI, 16002, .inl (fun i => nI (fi i))))], [(Z 10, .inl (cB, 16002, .inl (fun i => nI (so i))))], [(Z 11, .inl (cI, 16002, .inl (fun i => iI (lb i))))], [(Z 12, .inl (cI, 16002, .inl (fun i => iI (pa i))))], [(Z 13, .inl (cI, 16002, .inl (fun i => iI (jm i))))]]) rfl ?_
      unfold vOK at hxb7b
      refine jJ_eq (g2 := F0 m 188 ls [.long (lI xv7)]) (cs2 := [[(Z 0, .inr (8, [E 0, E 1, E 2, .ref (Z 1), .int (nI aa7), E 5, E 6, E 7, E 8, .ref (Z 2), E 10, E 11, E 12, E 13, E 14, .ref (Z 7), .int (nI al), E 17, E 18]))], [(Z 2, .inr (0, []))], [(Z 1, .inr (7, [X 0, X 1, .ref (Z 3), X 3, .ref (Z 5), X 5, X 6, .ref (Z 9), .ref (Z 10), .ref (Z 11), .ref (Z 12), .ref (Z 13), .int (nI ln)]))], [(Z 3, .inl (cB, 32008, .inl (V 0)))], [(Z 5, .inl (cI, 32008, .inl (V 2)))], [(Z 7, .inl (cJ, 200, .inr (.inl vv)))], [(Z 9, .inl (cI, 16002, .inl (fun i => nI (fi i))))], [(Z 10, .inl (cB, 16002, .inl (fun i => nI (so i))))], [(Z 11, .inl (cI, 16002, .inl (fun i => iI (lb i))))], [(Z 12, .inl (cI, 16002, .inl (fun i => iI (pa i))))], [(Z 13, .inl (cI, 16002, .inl (fun i => iI (jm i))))]]) rfl rfl ?_
      refine jJ_of (fun H locs => jn_lconst (v := 0) hx hb dX10_done_188 rfl) ?_
      refine jJ_of (fun H locs => W.lcmp hx hb dX10_done_189) ?_
      refine jJ_of2 (fun H locs => jl_if_ne (tgt := 207) hx hb dX10_done_190 (by decide) (by omega) (by omega) (by omega) (by omega)) (fun c190 => ?_) (fun c190 => ?_)
      · refine jJ_of (fun H locs => lv_iload_n hx hb dX10_done_207 rfl (lv_at hl 1 rfl)) ?_
        refine jJ_of (fun H locs => lv_iconst (v := (nI 1)) hx hb dX10_done_208 (by decide)) ?_
        refine jJ_of (fun H locs => jn_iadd hx hb dX10_done_209) ?_
        have he : dnF tk N ln lb pa jm vs j (lnB tk (fi j)) = (0, vs, ((j + 1 : Nat) : Int)) := by unfold dnF; rw [if_neg (by omega), if_neg (by omega), if_neg (by omega), if_pos (by omega)]; rw [hxe7]; dsimp only; rw [if_pos rfl, if_neg c190]
        have hv9 : ∀ i, i < 200 → (vv) i = lI ((dnF tk N ln lb pa jm vs j (lnB tk (fi j))).2.1 i) := by
          rw [he]
          exact hvv
        exact jJ_toX (jJ_iret hx hb hr hlocks dX10_done_210 (by show _ ≤ 0; omega) (by show _ ≤ 0; omega) ⟨by rw [he], by rw [he, nI_iI], ⟨vv, _, hv9, rfl⟩, rfl, rfl⟩)
      · refine jJ_of (fun H locs => lv_aload_n hx hb dX10_done_193 rfl (lv_at hl 0 rfl)) ?_
        refine jJ_get hx hb (C := RX10) (T := TX10) (N := 19) hts uX10_in_X10_done hown hK 0 rfl rfl 3 (by decide) (hts (.fieldLink RX10 53 "ValueBlocksModel" "t" "LValueBlocksModel$Text;") (by decide +kernel)) (fun _ h9 => h9) rfl dX10_done_194 ?_
        refine jJ_get hx hb (C := RX9) (T := TX9) (N := 13) hts uX9_in_X10_done hown hK 2 rfl rfl 10 (by decide) (hts (.fieldLink RX10 187 "ValueBlocksModel$Text" "partners" "[I") (by decide +kernel)) (fun _ h9 => h9) rfl dX10_done_197 ?_
        refine jJ_of (fun H locs => lv_iload_n hx hb dX10_done_200 rfl (lv_at hl 1 rfl)) ?_
        refine jJ_iald hx hb hK 9 0 (f := fun i => iI (pa i)) rfl rfl (vp_in_nI (by omega) (by omega)) (x := (iI (pa j))) (by rw [nI_clamp (by omega)]) dX10_done_201 ?_
        refine jJ_of (fun H locs => lv_iconst (v := (nI 1)) hx hb dX10_done_202 (by decide)) ?_
        rw [nI_iI 1]
        refine jJ_eq (g2 := F0 m 203 ls [.int (iI 1), .int (iI (pa j))]) (cs2 := [[(Z 0, .inr (8, [E 0, E 1, E 2, .ref (Z 1), .int (nI aa7), E 5, E 6, E 7, E 8, .ref (Z 2), E 10, E 11, E 12, E 13, E 14, .ref (Z 7), .int (nI al), E 17, E 18]))], [(Z 2, .inr (0, []))], [(Z 1, .inr (7, [X 0, X 1, .ref (Z 3), X 3, .ref (Z 5), X 5, X 6, .ref (Z 9), .ref (Z 10), .ref (Z 11), .ref (Z 12), .ref (Z 13), .int (nI ln)]))], [(Z 3, .inl (cB, 32008, .inl (V 0)))], [(Z 5, .inl (cI, 32008, .inl (V 2)))], [(Z 7, .inl (cJ, 200, .inr (.inl vv)))], [(Z 9, .inl (cI, 16002, .inl (fun i => nI (fi i))))], [(Z 10, .inl (cB, 16002, .inl (fun i => nI (so i))))], [(Z 11, .inl (cI, 16002, .inl (fun i => iI (lb i))))], [(Z 12, .inl (cI, 16002, .inl (fun i => iI (pa i))))], [(Z 13, .inl (cI, 16002, .inl (fun i => iI (jm i))))]]) rfl rfl ?_
        refine jJ_of (fun H locs => jz_iadd hx hb dX10_done_203) ?_
        refine jJ_of (fun H locs => lv_goto (tgt := 210) hx hb dX10_done_204 (by decide)) ?_
        have he : dnF tk N ln lb pa jm vs j (lnB tk (fi j)) = (0, vs, (pa j) + 1) := by unfold dnF; rw [if_neg (by omega), if_neg (by omega), if_neg (by omega), if_pos (by omega)]; rw [hxe7]; dsimp only; rw [if_pos rfl, if_pos c190]
        have hv9 : ∀ i, i < 200 → (vv) i = lI ((dnF tk N ln lb pa jm vs j (lnB tk (fi j))).2.1 i) := by
          rw [he]
          exact hvv
        exact jJ_toX (jJ_iret hx hb hr hlocks dX10_done_210 (by show _ ≤ 0; omega) (by show _ ≤ 0; omega) ⟨by rw [he], by rw [he], ⟨vv, _, hv9, rfl⟩, rfl, rfl⟩)
    by_cases e41_6 : sw41 = 6
    · refine jJ_of (fun H locs => lv_tableIn hx hb dX10_done_41 (off := 170) (tgt := 211) (by rw [e41_6]; decide) (by rw [e41_6]; decide) (by rw [e41_6]; decide) (by decide)) ?_
      have hc : (tk 0).getD (lnB tk (fi j)) 0 = 304 := by omega
      have hL8 := hE.lt (a := lnB tk (fi j)) (by omega) (by omega)
      have h5 := hq5 (by omega)
      refine jJ_of (fun H locs => lv_aload_n hx hb dX10_done_211 rfl (lv_at hl 0 rfl)) ?_
      refine jJ_get hx hb (C := RX10) (T := TX10) (N := 19) hts uX10_in_X10_done hown hK 0 rfl rfl 3 (by decide) (hts (.fieldLink RX10 53 "ValueBlocksModel" "t" "LValueBlocksModel$Text;") (by decide +kernel)) (fun _ h9 => h9) rfl dX10_done_212 ?_
      refine jJ_get hx hb (C := RX9) (T := TX9) (N := 13) hts uX9_in_X10_done hown hK 1 rfl rfl 10 (by decide) (hts (.fieldLink RX10 187 "ValueBlocksModel$Text" "partners" "[I") (by decide +kernel)) (fun _ h9 => h9) rfl dX10_done_215 ?_
      refine jJ_of (fun H locs => lv_iload_n hx hb dX10_done_218 rfl (lv_at hl 1 rfl)) ?_
      refine jJ_iald hx hb hK 9 0 (f := fun i => iI (pa i)) rfl rfl (vp_in_nI (by omega) (by omega)) (x := (iI (pa j))) (by rw [nI_clamp (by omega)]) dX10_done_219 ?_
      refine jJ_perm [0, 4, 1, 2, 3, 5, 6, 7, 8, 9, 10] (nn := 11) rfl (by decide) (cs2 := [[(Z 0, .inr (8, [E 0, E 1, E 2, .ref (Z 1), .int (nI (lnB tk (fi j))), E 5, E 6, E 7, E 8, .ref (Z 2), E 10, E 11, E 12, E 13, E 14, .ref (Z 7), .int (nI al), E 17, E 18]))], [(Z 2, .inr (0, []))], [(Z 1, .inr (7, [X 0, X 1, .ref (Z 3), X 3, .ref (Z 5), X 5, X 6, .ref (Z 9), .ref (Z 10), .ref (Z 11), .ref (Z 12), .ref (Z 13), .int (nI ln)]))], [(Z 3, .inl (cB, 32008, .inl (V 0)))], [(Z 5, .inl (cI, 32008, .inl (V 2)))], [(Z 7, .inl (cJ, 200, .inr (.inl vv)))], [(Z 9, .inl (cI, 16002, .inl (fun i => nI (fi i))))], [(Z 10, .inl (cB, 16002, .inl (fun i => nI (so i))))], [(Z 11, .inl (cI, 16002, .inl (fun i => iI (lb i))))], [(Z 12, .inl (cI, 16002, .inl (fun i => iI (pa i))))], [(Z 13, .inl (cI, 16002, .inl (fun i => iI (jm i))))]]) rfl ?_
      have he : dnF tk N ln lb pa jm vs j (lnB tk (fi j)) = (0, vs, pa j) := by unfold dnF; rw [if_neg (by omega), if_neg (by omega), if_neg (by omega), if_neg (by omega), if_pos (by omega)]
      have hv9 : ∀ i, i < 200 → (vv) i = lI ((dnF tk N ln lb pa jm vs j (lnB tk (fi j))).2.1 i) := by
        rw [he]
        exact hvv
      exact jJ_toX (jJ_iret hx hb hr hlocks dX10_done_220 (by show _ ≤ 0; omega) (by show _ ≤ 0; omega) ⟨by rw [he], by rw [he], ⟨vv, _, hv9, rfl⟩, rfl, rfl⟩)
    refine jJ_of (fun H locs => lv_tableOut hx hb dX10_done_41 (tgt := 221) (by rw [nI_toInt bsw41]; omega) (by decide)) ?_
    refine jJ_of (fun H locs => lv_iload_n hx hb dX10_done_221 rfl (lv_at hl 1 rfl)) ?_
    refine jJ_of (fun H locs => lv_iconst (v := (nI 1)) hx hb dX10_done_222 (by decide)) ?_
    refine jJ_of (fun H locs => jn_iadd hx hb dX10_done_223) ?_
    refine jJ_perm [0, 4, 1, 2, 3, 5, 6, 7, 8, 9, 10] (nn := 11) rfl (by decide) (cs2 := [[(Z 0, .inr (8, [E 0, E 1, E 2, .ref (Z 1), .int (nI (lnB tk (fi j))), E 5, E 6, E 7, E 8, .ref (Z 2), E 10, E 11, E 12, E 13, E 14, .ref (Z 7), .int (nI al), E 17, E 18]))], [(Z 2, .inr (0, []))], [(Z 1, .inr (7, [X 0, X 1, .ref (Z 3), X 3, .ref (Z 5), X 5, X 6, .ref (Z 9), .ref (Z 10), .ref (Z 11), .ref (Z 12), .ref (Z 13), .int (nI ln)]))], [(Z 3, .inl (cB, 32008, .inl (V 0)))], [(Z 5, .inl (cI, 32008, .inl (V 2)))], [(Z 7, .inl (cJ, 200, .inr (.inl vv)))], [(Z 9, .inl (cI, 16002, .inl (fun i => nI (fi i))))], [(Z 10, .inl (cB, 16002, .inl (fun i => nI (so i))))], [(Z 11, .inl (cI, 16002, .inl (fun i => iI (lb i))))], [(Z 12, .inl (cI, 16002, .inl (fun i => iI (pa i))))], [(Z 13, .inl (cI, 16002, .inl (fun i => iI (jm i))))]]) rfl ?_
    have he : dnF tk N ln lb pa jm vs j (lnB tk (fi j)) = (0, vs, ((j + 1 : Nat) : Int)) := by unfold dnF; rw [if_neg (by omega), if_neg (by omega), if_neg (by omega), if_neg (by omega), if_neg (by omega)]
    have hv9 : ∀ i, i < 200 → (vv) i = lI ((dnF tk N ln lb pa jm vs j (lnB tk (fi j))).2.1 i) := by
      rw [he]
      exact hvv
    exact jJ_toX (jJ_iret hx hb hr hlocks dX10_done_224 (by show _ ≤ 0; omega) (by show _ ≤ 0; omega) ⟨by rw [he], by rw [he, nI_iI], ⟨vv, _, hv9, rfl⟩, rfl, rfl⟩)
  · simp only [decide_eq_true_eq, decide_eq_false_iff_not] at c19
    have hbn : lnB tk (fi j) = fi j + 2 := if_pos (by omega)
    refine jJ_of (fun H locs => lv_aload_n hx hb dX10_done_22 rfl (lv_at hl 0 rfl)) ?_
    refine jJ_of (fun H locs => lv_dup hx hb dX10_done_23 rfl) ?_
    refine jJ_get hx hb (C := RX10) (T := TX10) (N := 19) hts uX10_in_X10_done hown hK 0 rfl rfl 4 (by decide) (hts (.fieldLink RX10 121 "ValueBlocksModel" "at" "I") (by decide +kernel)) (fun _ h9 => h9) rfl dX10_done_24 ?_
    refine jJ_of (fun H locs => lv_iconst (v := (nI 2)) hx hb dX10_done_27 (by decide)) ?_
    refine jJ_of (fun H locs => jn_iadd hx hb dX10_done_28) ?_
    refine jJ_put hx hb (C := RX10) (T := TX10) (N := 19) (ty := .int) (v := .int (nI ((fi j) + 2))) hts uX10_in_X10_done tyX10 tyX10_ok nmX10 hown hK 0 rfl rfl 4 (by decide) (hts (.fieldLink RX10 121 "ValueBlocksModel" "at" "I") (by decide +kernel)) (fun _ h9 => h9) rfl (by decide +kernel) rfl rfl (Nat.le_of_ble_eq_true rfl) dX10_done_29 (cs2 := [[(Z 0, .inr (8, [E 0, E 1, E 2, .ref (Z 1), .int (nI ((fi j) + 2)), E 5, E 6, E 7, E 8, .ref (Z 2), E 10, E 11, E 12, E 13, E 14, .ref (Z 7), .int (nI al), E 17, E 18]))], [(Z 1, .inr (7, [X 0, X 1, .ref (Z 3), X 3, .ref (Z 5), X 5, X 6, .ref (Z 9), .ref (Z 10), .ref (Z 11), .ref (Z 12), .ref (Z 13), .int (nI ln)]))], [(Z 3, .inl (cB, 32008, .inl (V 0)))], [(Z 5, .inl (cI, 32008, .inl (V 2)))], [(Z 2, .inr (0, []))], [(Z 7, .inl (cJ, 200, .inr (.inl vv)))], [(Z 9, .inl (cI, 16002, .inl (fun i => nI (fi i))))], [(Z 10, .inl (cB, 16002, .inl (fun i => nI (so i))))], [(Z 11, .inl (cI, 16002, .inl (fun i => iI (lb i))))], [(Z 12, .inl (cI, 16002, .inl (fun i => iI (pa i))))], [(Z 13, .inl (cI, 16002, .inl (fun i => iI (jm i))))]]) rfl ?_
    refine jJ_eq (g2 := F0 m 32 ls []) (cs2 := [[(Z 0, .inr (8, [E 0, E 1, E 2, .ref (Z 1), .int (nI (lnB tk (fi j))), E 5, E 6, E 7, E 8, .ref (Z 2), E 10, E 11, E 12, E 13, E 14, .ref (Z 7), .int (nI al), E 17, E 18]))], [(Z 1, .inr (7, [X 0, X 1, .ref (Z 3), X 3, .ref (Z 5), X 5, X 6, .ref (Z 9), .ref (Z 10), .ref (Z 11), .ref (Z 12), .ref (Z 13), .int (nI ln)]))], [(Z 3, .inl (cB, 32008, .inl (V 0)))], [(Z 5, .inl (cI, 32008, .inl (V 2)))], [(Z 2, .inr (0, []))], [(Z 7, .inl (cJ, 200, .inr (.inl vv)))], [(Z 9, .inl (cI, 16002, .inl (fun i => nI (fi i))))], [(Z 10, .inl (cB, 16002, .inl (fun i => nI (so i))))], [(Z 11, .inl (cI, 16002, .inl (fun i => iI (lb i))))], [(Z 12, .inl (cI, 16002, .inl (fun i => iI (pa i))))], [(Z 13, .inl (cI, 16002, .inl (fun i => iI (jm i))))]]) rfl (by rw [hbn]) ?_
    refine jJ_of (fun H locs => lv_aload_n hx hb dX10_done_32 rfl (lv_at hl 0 rfl)) ?_
    refine jJ_get hx hb (C := RX10) (T := TX10) (N := 19) hts uX10_in_X10_done hown hK 0 rfl rfl 3 (by decide) (hts (.fieldLink RX10 53 "ValueBlocksModel" "t" "LValueBlocksModel$Text;") (by decide +kernel)) (fun _ h9 => h9) rfl dX10_done_33 ?_
    refine jJ_get hx hb (C := RX9) (T := TX9) (N := 13) hts uX9_in_X10_done hown hK 1 rfl rfl 8 (by decide) (hts (.fieldLink RX10 193 "ValueBlocksModel$Text" "sorts" "[B") (by decide +kernel)) (fun _ h9 => h9) rfl dX10_done_36 ?_
    refine jJ_of (fun H locs => lv_iload_n hx hb dX10_done_39 rfl (lv_at hl 1 rfl)) ?_
    refine jJ_bald hx hb hK 7 2 (f := fun i => nI (so i)) rfl rfl (vp_in_nI (by omega) (by omega)) (x := (nI (so j))) (by rw [nI_clamp (by omega)]) dX10_done_40 ?_
    obtain ⟨sw41, hsw41⟩ : ∃ z : Nat, z = so j := ⟨_, rfl⟩
    rw [← hsw41]
    have bsw41 : sw41 < 2147483648 := by rw [hsw41]; omega
    by_cases e41_2 : sw41 = 2
    · refine jJ_of (fun H locs => lv_tableIn hx hb dX10_done_41 (off := 35) (tgt := 76) (by rw [e41_2]; decide) (by rw [e41_2]; decide) (by rw [e41_2]; decide) (by decide)) ?_
      have hc : (tk 0).getD (lnB tk (fi j)) 0 = 35 := by omega
      have hL8 := hE.lt (a := lnB tk (fi j)) (by omega) (by omega)
      obtain ⟨k1, k2, k3⟩ := qRest_35 hq1 hc
      refine jJ_of (fun H locs => lv_aload_n hx hb dX10_done_76 rfl (lv_at hl 0 rfl)) ?_
      have hokq8 : (qVa tk N 20 (lnB tk (fi j))).1 = true := k1
      have hqb8 : (lnB tk (fi j)) ≤ (qVa tk N 20 (lnB tk (fi j))).2 ∧ (qVa tk N 20 (lnB tk (fi j))).2 + 1 ≤ (tk 0).length := qb_va hE N 20 (qVa_ok hE hokq8)
      obtain ⟨aa8, haa8⟩ : ∃ i9 : Nat, (qVa tk N 20 (lnB tk (fi j))).2 = i9 := ⟨_, rfl⟩
      rw [haa8] at hqb8
      obtain ⟨xa8, xv8, hxe8⟩ : ∃ (i9 : Nat) (j9 : Int), xVa tk N vs 20 (lnB tk (fi j)) = (i9, j9) := xP_ex _
      have hxb8 : xa8 = 0 → 1 ≤ xv8 ∧ xv8 ≤ 199 := fun h => by have h2 := xVa_b (tk := tk) (N := N) (vs := vs) (r := 20) (a := lnB tk (fi j)) (by rw [hxe8]; exact h); rw [hxe8] at h2; exact h2
      refine jX_callV (As := []) (rest := []) (wc := jF (eW cI cJ cB Z (lsV [E 0, E 1, E 2, .null, .null, E 5, E 6, E 7, E 8, .null, E 10, E 11, E 12, E 13, E 14, .null, .null, E 17, E 18]) (lsV [X 0, X 1, .null, X 3, .null, X 5, X 6, .ref (Z 9), .ref (Z 10), .ref (Z 11), .ref (Z 12), .ref (Z 13), .int (nI ln)]) V vv (lnB tk (fi j)) al)) (cs2 := [[(Z 9, .inl (cI, 16002, .inl (fun i => nI (fi i))))], [(Z 10, .inl (cB, 16002, .inl (fun i => nI (so i))))], [(Z 11, .inl (cI, 16002, .inl (fun i => iI (lb i))))], [(Z 12, .inl (cI, 16002, .inl (fun i => iI (pa i))))], [(Z 13, .inl (cI, 16002, .inl (fun i => iI (jm i))))]]) (C := RX10) (T := TX10) (N := 19) (ci := 8) [0, 4, 1, 2, 3, 5] [6, 7, 8, 9, 10] ⟨hx, hb, hml, hown, hts⟩ hK hA hAm ((w_Md_eplace (E := lsV [E 0, E 1, E 2, .null, .null, E 5, E 6, E 7, E 8, .null, E 10, E 11, E 12, E 13, E 14, .null, .null, E 17, E 18]) (X := lsV [X 0, X 1, .null, X 3, .null, X 5, X 6, .ref (Z 9), .ref (Z 10), .ref (Z 11), .ref (Z 12), .ref (Z 13), .int (nI ln)]) hT hE hvv hvs hN 20) (lnB tk (fi j)) al (by omega) hokq8 (by omega)) (cwV 0 hts gX10_done_X10_variableAt rfl rfl rfl (by decide +kernel) ⟨by show (8 * 20 + 7) + 1 ≤ 172; omega, by show 8 + (3 + 11) + (320 * 20 + 320) ≤ 7200; omega⟩) (nn := 11) rfl (by decide) rfl rfl ⟨0, _, rfl⟩ rfl rfl rfl hl.1 (Nat.le_of_ble_eq_true rfl) dX10_done_77 (by show _ + 0 ≤ 0; omega) (by show _ + 0 ≤ 0; omega) (fun u8 k8 n8 q8 hx8 => ?_) (fun v u8 k8 n8 hq8 => ?_)
      · rw [hxe8] at hx8
        dsimp only at hx8
        obtain ⟨hnz8, ⟨a2_8, hu8⟩, rfl, rfl⟩ := hx8
        rw [hu8]
        have he : dnF tk N ln lb pa jm vs j (lnB tk (fi j)) = (xa8, vs, 0) := by unfold dnF; rw [if_pos (by omega)]; rw [hxe8]; exact if_neg hnz8
        exact jJx_out hno hlocks (by show _ ≤ 0; omega) (by show _ ≤ 0; omega) ⟨by rw [he]; exact hnz8, ⟨_, by rw [he]; rfl⟩, rfl, rfl⟩
      rw [hxe8, haa8] at hq8
      dsimp only at hq8
      obtain ⟨hz8, rfl, hw8, rfl, rfl⟩ := hq8
      subst hz8
      rw [hw8]
      have hxb8b := hxb8 rfl
      refine jJ_open (xs := [[(Z 0, .inr (8, [E 0, E 1, E 2, .ref (Z 1), .int (nI aa8), E 5, E 6, E 7, E 8, .ref (Z 2), E 10, E 11, E 12, E 13, E 14, .ref (Z 7), .int (nI al), E 17, E 18]))], [(Z 2, .inr (0, []))], [(Z 1, .inr (7, [X 0, X 1, .ref (Z 3), X 3, .ref (Z 5), X 5, X 6, .ref (Z 9), .ref (Z 10), .ref (Z 11), .ref (Z 12), .ref (Z 13), .int (nI ln)]))], [(Z 3, .inl (cB, 32008, .inl (V 0)))], [(Z 5, .inl (cI, 32008, .inl (V 2)))], [(Z 7, .inl (cJ, 200, .inr (.inl vv)))]]) (r := [[(Z 9, .inl (cI, 16002, .inl (fun i => nI (fi i))))], [(Z 10, .inl (cB, 16002, .inl (fun i => nI (so i))))], [(Z 11, .inl (cI, 16002, .inl (fun i => iI (lb i))))], [(Z 12, .inl (cI, 16002, .inl (fun i => iI (pa i))))], [(Z 13, .inl (cI, 16002, .inl (fun i => iI (jm i))))]]) (cs2 := [[(Z 0, .inr (8, [E 0, E 1, E 2, .ref (Z 1), .int (nI aa8), E 5, E 6, E 7, E 8, .ref (Z 2), E 10, E 11, E 12, E 13, E 14, .ref (Z 7), .int (nI al), E 17, E 18]))], [(Z 2, .inr (0, []))], [(Z 1, .inr (7, [X 0, X 1, .ref (Z 3), X 3, .ref (Z 5), X 5, X 6, .ref (Z 9), .ref (Z 10), .ref (Z 11), .ref (Z 12), .ref (Z 13), .int (nI ln)]))], [(Z 3, .inl (cB, 32008, .inl (V 0)))], [(Z 5, .inl (cI, 32008, .inl (V 2)))], [(Z 7, .inl (cJ, 200, .inr (.inl vv)))], [(Z 9, .inl (cI, 16002, .inl (fun i => nI (fi i))))], [(Z 10, .inl (cB, 16002, .inl (fun i => nI (so i))))], [(Z 11, .inl (cI, 16002, .inl (fun i => iI (lb i))))], [(Z 12, .inl (cI, 16002, .inl (fun i => iI (pa i))))], [(Z 13, .inl (cI, 16002, .inl (fun i => iI (jm i))))]]) rfl ?_
      refine jJ_eq (g2 := F0 m 80 ls [.int (iI xv8)]) (cs2 := [[(Z 0, .inr (8, [E 0, E 1, E 2, .ref (Z 1), .int (nI aa8), E 5, E 6, E 7, E 8, .ref (Z 2), E 10, E 11, E 12, E 13, E 14, .ref (Z 7), .int (nI al), E 17, E 18]))], [(Z 2, .inr (0, []))], [(Z 1, .inr (7, [X 0, X 1, .ref (Z 3), X 3, .ref (Z 5), X 5, X 6, .ref (Z 9), .ref (Z 10), .ref (Z 11), .ref (Z 12), .ref (Z 13), .int (nI ln)]))], [(Z 3, .inl (cB, 32008, .inl (V 0)))], [(Z 5, .inl (cI, 32008, .inl (V 2)))], [(Z 7, .inl (cJ, 200, .inr (.inl vv)))], [(Z 9, .inl (cI, 16002, .inl (fun i => nI (fi i))))], [(Z 10, .inl (cB, 16002, .inl (fun i => nI (so i))))], [(Z 11, .inl (cI, 16002, .inl (fun i => iI (lb i))))], [(Z 12, .inl (cI, 16002, .inl (fun i => iI (pa i))))], [(Z 13, .inl (cI, 16002, .inl (fun i => iI (jm i))))]]) rfl rfl ?_
      refine jJ_ofL (fun H locs => lv_istore_n (lv' := [(2, .int (iI xv8)), (0, .ref (Z 0)), (1, .int (nI j))]) hx hb dX10_done_80 rfl hl (by decide) rfl) (fun ls hl => ?_)
      rw [haa8] at k2 k3
      have hL7 := hE.lt (a := aa8) (by omega) (by omega)
      refine jJ_of (fun H locs => lv_aload_n hx hb dX10_done_81 rfl (lv_at hl 1 rfl)) ?_
      refine jJ_of (fun H locs => lv_dup hx hb dX10_done_82 rfl) ?_
      refine jJ_get hx hb (C := RX10) (T := TX10) (N := 19) hts uX10_in_X10_done hown hK 0 rfl rfl 4 (by decide) (hts (.fieldLink RX10 121 "ValueBlocksModel" "at" "I") (by decide +kernel)) (fun _ h9 => h9) rfl dX10_done_83 ?_
      refine jJ_of (fun H locs => lv_iconst (v := (nI 1)) hx hb dX10_done_86 (by decide)) ?_
      refine jJ_of (fun H locs => jn_iadd hx hb dX10_done_87) ?_
      refine jJ_put hx hb (C := RX10) (T := TX10) (N := 19) (ty := .int) (v := .int (nI (aa8 + 1))) hts uX10_in_X10_done tyX10 tyX10_ok nmX10 hown hK 0 rfl rfl 4 (by decide) (hts (.fieldLink RX10 121 "ValueBlocksModel" "at" "I") (by decide +kernel)) (fun _ h9 => h9) rfl (by decide +kernel) rfl rfl (Nat.le_of_ble_eq_true rfl) dX10_done_88 (cs2 := [[(Z 0, .inr (8, [E 0, E 1, E 2, .ref (Z 1), .int (nI (aa8 + 1)), E 5, E 6, E 7, E 8, .ref (Z 2), E 10, E 11, E 12, E 13, E 14, .ref (Z 7), .int (nI al), E 17, E 18]))], [(Z 2, .inr (0, []))], [(Z 1, .inr (7, [X 0, X 1, .ref (Z 3), X 3, .ref (Z 5), X 5, X 6, .ref (Z 9), .ref (Z 10), .ref (Z 11), .ref (Z 12), .ref (Z 13), .int (nI ln)]))], [(Z 3, .inl (cB, 32008, .inl (V 0)))], [(Z 5, .inl (cI, 32008, .inl (V 2)))], [(Z 7, .inl (cJ, 200, .inr (.inl vv)))], [(Z 9, .inl (cI, 16002, .inl (fun i => nI (fi i))))], [(Z 10, .inl (cB, 16002, .inl (fun i => nI (so i))))], [(Z 11, .inl (cI, 16002, .inl (fun i => iI (lb i))))], [(Z 12, .inl (cI, 16002, .inl (fun i => iI (pa i))))], [(Z 13, .inl (cI, 16002, .inl (fun i => iI (jm i))))]]) rfl ?_
      refine jJ_of (fun H locs => lv_aload_n hx hb dX10_done_91 rfl (lv_at hl 1 rfl)) ?_
      refine jJ_get hx hb (C := RX10) (T := TX10) (N := 19) hts uX10_in_X10_done hown hK 0 rfl rfl 15 (by decide) (hts (.fieldLink RX10 38 "ValueBlocksModel" "variables" "[J") (by decide +kernel)) (fun _ h9 => h9) rfl dX10_done_92 ?_
      refine jJ_of (fun H locs => lv_iload_n hx hb dX10_done_95 rfl (lv_at hl 0 rfl)) ?_
      refine jJ_of (fun H locs => lv_aload_n hx hb dX10_done_96 rfl (lv_at hl 1 rfl)) ?_
      have hokq9 : (qSum tk N 20 (aa8 + 1)).1 = true := k3
      have hqb9 : (aa8 + 1) ≤ (qSum tk N 20 (aa8 + 1)).2 ∧ (qSum tk N 20 (aa8 + 1)).2 + 1 ≤ (tk 0).length := qb_sum hE N 20 (aa8 + 1) (by omega)
      obtain ⟨aa9, haa9⟩ : ∃ i9 : Nat, (qSum tk N 20 (aa8 + 1)).2 = i9 := ⟨_, rfl⟩
      rw [haa9] at hqb9
      obtain ⟨xa9, xv9, hxe9⟩ : ∃ (i9 : Nat) (j9 : Int), xSum tk N vs 20 (aa8 + 1) = (i9, j9) := xP_ex _
      have hxb9 : xa9 = 0 → vOK xv9 := fun h => by have h2 := xv_sum N hB2a hvs 20 (aa8 + 1) (by rw [hxe9]; exact h); rw [hxe9] at h2; exact h2
      refine jX_callV (As := []) (rest := [.int (iI xv8), .ref (Z 7)]) (wc := jF (eW cI cJ cB Z (lsV [E 0, E 1, E 2, .null, .null, E 5, E 6, E 7, E 8, .null, E 10, E 11, E 12, E 13, E 14, .null, .null, E 17, E 18]) (lsV [X 0, X 1, .null, X 3, .null, X 5, X 6, .ref (Z 9), .ref (Z 10), .ref (Z 11), .ref (Z 12), .ref (Z 13), .int (nI ln)]) V vv (aa8 + 1) al)) (cs2 := [[(Z 9, .inl (cI, 16002, .inl (fun i => nI (fi i))))], [(Z 10, .inl (cB, 16002, .inl (fun i => nI (so i))))], [(Z 11, .inl (cI, 16002, .inl (fun i => iI (lb i))))], [(Z 12, .inl (cI, 16002, .inl (fun i => iI (pa i))))], [(Z 13, .inl (cI, 16002, .inl (fun i => iI (jm i))))]]) (C := RX10) (T := TX10) (N := 19) (ci := 8) [0, 1, 2, 3, 4, 5] [6, 7, 8, 9, 10] ⟨hx, hb, hml, hown, hts⟩ hK hA hAm ((w_Md_esum (E := lsV [E 0, E 1, E 2, .null, .null, E 5, E 6, E 7, E 8, .null, E 10, E 11, E 12, E 13, E 14, .null, .null, E 17, E 18]) (X := lsV [X 0, X 1, .null, X 3, .null, X 5, X 6, .ref (Z 9), .ref (Z 10), .ref (Z 11), .ref (Z 12), .ref (Z 13), .int (nI ln)]) hT hE hvv hvs hN 20) (aa8 + 1) al (by omega) hokq9) (cwV 0 hts gX10_done_X10_sum rfl rfl rfl (by decide +kernel) ⟨by show (8 * 20 + 11) + 1 ≤ 172; omega, by show 8 + (6 + 11) + (320 * 20 + 480) ≤ 7200; omega⟩) (nn := 11) rfl (by decide) rfl rfl ⟨0, _, rfl⟩ rfl rfl rfl hl.1 (Nat.le_of_ble_eq_true rfl) dX10_done_97 (by show _ + 0 ≤ 0; omega) (by show _ + 0 ≤ 0; omega) (fun u9 k9 n9 q9 hx9 => ?_) (fun v u9 k9 n9 hq9 => ?_)
      · rw [hxe9] at hx9
        dsimp only at hx9
        obtain ⟨hnz9, ⟨a2_9, hu9⟩, rfl, rfl⟩ := hx9
        rw [hu9]
        have he : dnF tk N ln lb pa jm vs j (lnB tk (fi j)) = (xa9, vs, 0) := by unfold dnF; rw [if_pos (by omega)]; rw [hxe8]; dsimp only; rw [if_pos rfl, haa8, hxe9]; exact if_neg hnz9
        exact jJx_out hno hlocks (by show _ ≤ 0; omega) (by show _ ≤ 0; omega) ⟨by rw [he]; exact hnz9, ⟨_, by rw [he]; rfl⟩, rfl, rfl⟩
      rw [hxe9, haa9] at hq9
      dsimp only at hq9
      obtain ⟨hz9, rfl, hw9, rfl, rfl⟩ := hq9
      subst hz9
      rw [hw9]
      have hxb9b := hxb9 rfl
      refine jJ_open (xs := [[(Z 0, .inr (8, [E 0, E 1, E 2, .ref (Z 1), .int (nI aa9), E 5, E 6, E 7, E 8, .ref (Z 2), E 10, E 11, E 12, E 13, E 14, .ref (Z 7), .int (nI al), E 17, E 18]))], [(Z 2, .inr (0, []))], [(Z 1, .inr (7, [X 0, X 1, .ref (Z 3), X 3, .ref (Z 5), X 5, X 6, .ref (Z 9), .ref (Z 10), .ref (Z 11), .ref (Z 12), .ref (Z 13), .int (nI ln)]))], [(Z 3, .inl (cB, 32008, .inl (V 0)))], [(Z 5, .inl (cI, 32008, .inl (V 2)))], [(Z 7, .inl (cJ, 200, .inr (.inl vv)))]]) (r := [[(Z 9, .inl (cI, 16002, .inl (fun i => nI (fi i))))], [(Z 10, .inl (cB, 16002, .inl (fun i => nI (so i))))], [(Z 11, .inl (cI, 16002, .inl (fun i => iI (lb i))))], [(Z 12, .inl (cI, 16002, .inl (fun i => iI (pa i))))], [(Z 13, .inl (cI, 16002, .inl (fun i => iI (jm i))))]]) (cs2 := [[(Z 0, .inr (8, [E 0, E 1, E 2, .ref (Z 1), .int (nI aa9), E 5, E 6, E 7, E 8, .ref (Z 2), E 10, E 11, E 12, E 13, E 14, .ref (Z 7), .int (nI al), E 17, E 18]))], [(Z 2, .inr (0, []))], [(Z 1, .inr (7, [X 0, X 1, .ref (Z 3), X 3, .ref (Z 5), X 5, X 6, .ref (Z 9), .ref (Z 10), .ref (Z 11), .ref (Z 12), .ref (Z 13), .int (nI ln)]))], [(Z 3, .inl (cB, 32008, .inl (V 0)))], [(Z 5, .inl (cI, 32008, .inl (V 2)))], [(Z 7, .inl (cJ, 200, .inr (.inl vv)))], [(Z 9, .inl (cI, 16002, .inl (fun i => nI (fi i))))], [(Z 10, .inl (cB, 16002, .inl (fun i => nI (so i))))], [(Z 11, .inl (cI, 16002, .inl (fun i => iI (lb i))))], [(Z 12, .inl (cI, 16002, .inl (fun i => iI (pa i))))], [(Z 13, .inl (cI, 16002, .inl (fun i => iI (jm i))))]]) rfl ?_
      unfold vOK at hxb9b
      refine jJ_eq (g2 := F0 m 100 ls [.long (lI xv9), .int (iI xv8), .ref (Z 7)]) (cs2 := [[(Z 0, .inr (8, [E 0, E 1, E 2, .ref (Z 1), .int (nI aa9), E 5, E 6, E 7, E 8, .ref (Z 2), E 10, E 11, E 12, E 13, E 14, .ref (Z 7), .int (nI al), E 17, E 18]))], [(Z 2, .inr (0, []))], [(Z 1, .inr (7, [X 0, X 1, .ref (Z 3), X 3, .ref (Z 5), X 5, X 6, .ref (Z 9), .ref (Z 10), .ref (Z 11), .ref (Z 12), .ref (Z 13), .int (nI ln)]))], [(Z 3, .inl (cB, 32008, .inl (V 0)))], [(Z 5, .inl (cI, 32008, .inl (V 2)))], [(Z 7, .inl (cJ, 200, .inr (.inl vv)))], [(Z 9, .inl (cI, 16002, .inl (fun i => nI (fi i))))], [(Z 10, .inl (cB, 16002, .inl (fun i => nI (so i))))], [(Z 11, .inl (cI, 16002, .inl (fun i => iI (lb i))))], [(Z 12, .inl (cI, 16002, .inl (fun i => iI (pa i))))], [(Z 13, .inl (cI, 16002, .inl (fun i => iI (jm i))))]]) rfl rfl ?_
      refine jJ_last hx hb hK 5 1 rfl rfl (vp_in_iI (by omega) (by omega) (by omega)) dX10_done_100 (cs2 := [[(Z 0, .inr (8, [E 0, E 1, E 2, .ref (Z 1), .int (nI aa9), E 5, E 6, E 7, E 8, .ref (Z 2), E 10, E 11, E 12, E 13, E 14, .ref (Z 7), .int (nI al), E 17, E 18]))], [(Z 2, .inr (0, []))], [(Z 1, .inr (7, [X 0, X 1, .ref (Z 3), X 3, .ref (Z 5), X 5, X 6, .ref (Z 9), .ref (Z 10), .ref (Z 11), .ref (Z 12), .ref (Z 13), .int (nI ln)]))], [(Z 3, .inl (cB, 32008, .inl (V 0)))], [(Z 5, .inl (cI, 32008, .inl (V 2)))], [(Z 7, .inl (cJ, 200, .inr (.inl (vp_updL vv (Int32.toNatClampNeg (iI xv8)) (lI xv9)))))], [(Z 9, .inl (cI, 16002, .inl (fun i => nI (fi i))))], [(Z 10, .inl (cB, 16002, .inl (fun i => nI (so i))))], [(Z 11, .inl (cI, 16002, .inl (fun i => iI (lb i))))], [(Z 12, .inl (cI, 16002, .inl (fun i => iI (pa i))))], [(Z 13, .inl (cI, 16002, .inl (fun i => iI (jm i))))]]) rfl ?_
      refine jJ_of (fun H locs => lv_iload_n hx hb dX10_done_101 rfl (lv_at hl 2 rfl)) ?_
      refine jJ_of (fun H locs => lv_iconst (v := (nI 1)) hx hb dX10_done_102 (by decide)) ?_
      refine jJ_of (fun H locs => jn_iadd hx hb dX10_done_103) ?_
      have he : dnF tk N ln lb pa jm vs j (lnB tk (fi j)) = (0, va_up vs xv8.toNat xv9, ((j + 1 : Nat) : Int)) := by unfold dnF; rw [if_pos (by omega)]; rw [hxe8]; dsimp only; rw [if_pos rfl, haa8, hxe9]; exact if_pos rfl
      have hv9 : ∀ i, i < 200 → (vp_updL vv (Int32.toNatClampNeg (iI xv8)) (lI xv9)) i = lI ((dnF tk N ln lb pa jm vs j (lnB tk (fi j))).2.1 i) := by
        rw [he]
        intro i hi
        show vp_updL vv _ _ i = lI (va_up vs _ _ i)
        rw [iI_toNatC (by omega) (by omega)]
        show (if i = _ then _ else _) = lI (if i = _ then _ else _)
        split
        · rfl
        · exact hvv i hi
      exact jJ_toX (jJ_iret hx hb hr hlocks dX10_done_104 (by show _ ≤ 0; omega) (by show _ ≤ 0; omega) ⟨by rw [he], by rw [he, nI_iI], ⟨vp_updL vv (Int32.toNatClampNeg (iI xv8)) (lI xv9), _, hv9, rfl⟩, rfl, rfl⟩)
    by_cases e41_3 : sw41 = 3
    · refine jJ_of (fun H locs => lv_tableIn hx hb dX10_done_41 (off := 64) (tgt := 105) (by rw [e41_3]; decide) (by rw [e41_3]; decide) (by rw [e41_3]; decide) (by decide)) ?_
      have hc : (tk 0).getD (lnB tk (fi j)) 0 = 300 := by omega
      have hL8 := hE.lt (a := lnB tk (fi j)) (by omega) (by omega)
      have k1 := qRest_if hq1 (by omega)
      have h4 := hq4 (by omega)
      have hwj : V 2 (jm j).toNat = nI (wj tk jm j) := by rw [(hT.2.1 _ (by omega)).2.2.1, h4.2.2.1]; rfl
      have hwjb : wj tk jm j < 1000000000 := hB2a _
      refine jJ_of (fun H locs => lv_aload_n hx hb dX10_done_105 rfl (lv_at hl 0 rfl)) ?_
      refine jJ_of (fun H locs => lv_dup hx hb dX10_done_106 rfl) ?_
      refine jJ_get hx hb (C := RX10) (T := TX10) (N := 19) hts uX10_in_X10_done hown hK 0 rfl rfl 4 (by decide) (hts (.fieldLink RX10 121 "ValueBlocksModel" "at" "I") (by decide +kernel)) (fun _ h9 => h9) rfl dX10_done_107 ?_
      refine jJ_of (fun H locs => lv_iconst (v := (nI 1)) hx hb dX10_done_110 (by decide)) ?_
      refine jJ_of (fun H locs => jn_iadd hx hb dX10_done_111) ?_
      refine jJ_put hx hb (C := RX10) (T := TX10) (N := 19) (ty := .int) (v := .int (nI ((lnB tk (fi j)) + 1))) hts uX10_in_X10_done tyX10 tyX10_ok nmX10 hown hK 0 rfl rfl 4 (by decide) (hts (.fieldLink RX10 121 "ValueBlocksModel" "at" "I") (by decide +kernel)) (fun _ h9 => h9) rfl (by decide +kernel) rfl rfl (Nat.le_of_ble_eq_true rfl) dX10_done_112 (cs2 := [[(Z 0, .inr (8, [E 0, E 1, E 2, .ref (Z 1), .int (nI ((lnB tk (fi j)) + 1)), E 5, E 6, E 7, E 8, .ref (Z 2), E 10, E 11, E 12, E 13, E 14, .ref (Z 7), .int (nI al), E 17, E 18]))], [(Z 1, .inr (7, [X 0, X 1, .ref (Z 3), X 3, .ref (Z 5), X 5, X 6, .ref (Z 9), .ref (Z 10), .ref (Z 11), .ref (Z 12), .ref (Z 13), .int (nI ln)]))], [(Z 3, .inl (cB, 32008, .inl (V 0)))], [(Z 5, .inl (cI, 32008, .inl (V 2)))], [(Z 2, .inr (0, []))], [(Z 7, .inl (cJ, 200, .inr (.inl vv)))], [(Z 9, .inl (cI, 16002, .inl (fun i => nI (fi i))))], [(Z 10, .inl (cB, 16002, .inl (fun i => nI (so i))))], [(Z 11, .inl (cI, 16002, .inl (fun i => iI (lb i))))], [(Z 12, .inl (cI, 16002, .inl (fun i => iI (pa i))))], [(Z 13, .inl (cI, 16002, .inl (fun i => iI (jm i))))]]) rfl ?_
      refine jJ_of (fun H locs => lv_aload_n hx hb dX10_done_115 rfl (lv_at hl 0 rfl)) ?_
      have hokq10 : (qBra tk N 20 ((lnB tk (fi j)) + 1)).1 = true := k1
      have hqb10 : ((lnB tk (fi j)) + 1) ≤ (qBra tk N 20 ((lnB tk (fi j)) + 1)).2 ∧ (qBra tk N 20 ((lnB tk (fi j)) + 1)).2 + 1 ≤ (tk 0).length := qb_bra hE N 20 ((lnB tk (fi j)) + 1) (by omega)
      obtain ⟨aa10, haa10⟩ : ∃ i9 : Nat, (qBra tk N 20 ((lnB tk (fi j)) + 1)).2 = i9 := ⟨_, rfl⟩
      rw [haa10] at hqb10
      obtain ⟨xa10, xv10, hxe10⟩ : ∃ (i9 : Nat) (j9 : Int), xBra tk N vs 20 ((lnB tk (fi j)) + 1) = (i9, j9) := xP_ex _
      have hxb10 : xa10 = 0 → vOK xv10 := fun h => by have h2 := xv_bra N hB2a hvs 20 ((lnB tk (fi j)) + 1) (by rw [hxe10]; exact h); rw [hxe10] at h2; exact h2
      refine jX_callV (As := []) (rest := []) (wc := jF (eW cI cJ cB Z (lsV [E 0, E 1, E 2, .null, .null, E 5, E 6, E 7, E 8, .null, E 10, E 11, E 12, E 13, E 14, .null, .null, E 17, E 18]) (lsV [X 0, X 1, .null, X 3, .null, X 5, X 6, .ref (Z 9), .ref (Z 10), .ref (Z 11), .ref (Z 12), .ref (Z 13), .int (nI ln)]) V vv ((lnB tk (fi j)) + 1) al)) (cs2 := [[(Z 9, .inl (cI, 16002, .inl (fun i => nI (fi i))))], [(Z 10, .inl (cB, 16002, .inl (fun i => nI (so i))))], [(Z 11, .inl (cI, 16002, .inl (fun i => iI (lb i))))], [(Z 12, .inl (cI, 16002, .inl (fun i => iI (pa i))))], [(Z 13, .inl (cI, 16002, .inl (fun i => iI (jm i))))]]) (C := RX10) (T := TX10) (N := 19) (ci := 8) [0, 4, 1, 2, 3, 5] [6, 7, 8, 9, 10] ⟨hx, hb, hml, hown, hts⟩ hK hA hAm ((w_Md_val (E := lsV [E 0, E 1, E 2, .null, .null, E 5, E 6, E 7, E 8, .null, E 10, E 11, E 12, E 13, E 14, .null, .null, E 17, E 18]) (X := lsV [X 0, X 1, .null, X 3, .null, X 5, X 6, .ref (Z 9), .ref (Z 10), .ref (Z 11), .ref (Z 12), .ref (Z 13), .int (nI ln)]) hT hE hvv hvs hN 20).2 ((lnB tk (fi j)) + 1) al (by omega) hokq10) (cwV 0 hts gX10_done_X10_bracketed rfl rfl rfl (by decide +kernel) ⟨by show (8 * 20 + 6) + 1 ≤ 172; omega, by show 8 + (3 + 11) + (320 * 20 + 280) ≤ 7200; omega⟩) (nn := 11) rfl (by decide) rfl rfl ⟨0, _, rfl⟩ rfl rfl rfl hl.1 (Nat.le_of_ble_eq_true rfl) dX10_done_116 (by show _ + 0 ≤ 0; omega) (by show _ + 0 ≤ 0; omega) (fun u10 k10 n10 q10 hx10 => ?_) (fun v u10 k10 n10 hq10 => ?_)
      · rw [hxe10] at hx10
        dsimp only at hx10
        obtain ⟨hnz10, ⟨a2_10, hu10⟩, rfl, rfl⟩ := hx10
        rw [hu10]
        have he : dnF tk N ln lb pa jm vs j (lnB tk (fi j)) = (xa10, vs, 0) := by unfold dnF; rw [if_neg (by omega), if_pos (by omega)]; rw [hxe10]; exact if_neg hnz10
        exact jJx_out hno hlocks (by show _ ≤ 0; omega) (by show _ ≤ 0; omega) ⟨by rw [he]; exact hnz10, ⟨_, by rw [he]; rfl⟩, rfl, rfl⟩
      rw [hxe10, haa10] at hq10
      dsimp only at hq10
      obtain ⟨hz10, rfl, hw10, rfl, rfl⟩ := hq10
      subst hz10
      rw [hw10]
      have hxb10b := hxb10 rfl
      refine jJ_open (xs := [[(Z 0, .inr (8, [E 0, E 1, E 2, .ref (Z 1), .int (nI aa10), E 5, E 6, E 7, E 8, .ref (Z 2), E 10, E 11, E 12, E 13, E 14, .ref (Z 7), .int (nI al), E 17, E 18]))], [(Z 2, .inr (0, []))], [(Z 1, .inr (7, [X 0, X 1, .ref (Z 3), X 3, .ref (Z 5), X 5, X 6, .ref (Z 9), .ref (Z 10), .ref (Z 11), .ref (Z 12), .ref (Z 13), .int (nI ln)]))], [(Z 3, .inl (cB, 32008, .inl (V 0)))], [(Z 5, .inl (cI, 32008, .inl (V 2)))], [(Z 7, .inl (cJ, 200, .inr (.inl vv)))]]) (r := [[(Z 9, .inl (cI, 16002, .inl (fun i => nI (fi i))))], [(Z 10, .inl (cB, 16002, .inl (fun i => nI (so i))))], [(Z 11, .inl (cI, 16002, .inl (fun i => iI (lb i))))], [(Z 12, .inl (cI, 16002, .inl (fun i => iI (pa i))))], [(Z 13, .inl (cI, 16002, .inl (fun i => iI (jm i))))]]) (cs2 := [[(Z 0, .inr (8, [E 0, E 1, E 2, .ref (Z 1), .int (nI aa10), E 5, E 6, E 7, E 8, .ref (Z 2), E 10, E 11, E 12, E 13, E 14, .ref (Z 7), .int (nI al), E 17, E 18]))], [(Z 2, .inr (0, []))], [(Z 1, .inr (7, [X 0, X 1, .ref (Z 3), X 3, .ref (Z 5), X 5, X 6, .ref (Z 9), .ref (Z 10), .ref (Z 11), .ref (Z 12), .ref (Z 13), .int (nI ln)]))], [(Z 3, .inl (cB, 32008, .inl (V 0)))], [(Z 5, .inl (cI, 32008, .inl (V 2)))], [(Z 7, .inl (cJ, 200, .inr (.inl vv)))], [(Z 9, .inl (cI, 16002, .inl (fun i => nI (fi i))))], [(Z 10, .inl (cB, 16002, .inl (fun i => nI (so i))))], [(Z 11, .inl (cI, 16002, .inl (fun i => iI (lb i))))], [(Z 12, .inl (cI, 16002, .inl (fun i => iI (pa i))))], [(Z 13, .inl (cI, 16002, .inl (fun i => iI (jm i))))]]) rfl ?_
      unfold vOK at hxb10b
      refine jJ_eq (g2 := F0 m 119 ls [.long (lI xv10)]) (cs2 := [[(Z 0, .inr (8, [E 0, E 1, E 2, .ref (Z 1), .int (nI aa10), E 5, E 6, E 7, E 8, .ref (Z 2), E 10, E 11, E 12, E 13, E 14, .ref (Z 7), .int (nI al), E 17, E 18]))], [(Z 2, .inr (0, []))], [(Z 1, .inr (7, [X 0, X 1, .ref (Z 3), X 3, .ref (Z 5), X 5, X 6, .ref (Z 9), .ref (Z 10), .ref (Z 11), .ref (Z 12), .ref (Z 13), .int (nI ln)]))], [(Z 3, .inl (cB, 32008, .inl (V 0)))], [(Z 5, .inl (cI, 32008, .inl (V 2)))], [(Z 7, .inl (cJ, 200, .inr (.inl vv)))], [(Z 9, .inl (cI, 16002, .inl (fun i => nI (fi i))))], [(Z 10, .inl (cB, 16002, .inl (fun i => nI (so i))))], [(Z 11, .inl (cI, 16002, .inl (fun i => iI (lb i))))], [(Z 12, .inl (cI, 16002, .inl (fun i => iI (pa i))))], [(Z 13, .inl (cI, 16002, .inl (fun i => iI (jm i))))]]) rfl rfl ?_
      refine jJ_of (fun H locs => jn_lconst (v := 0) hx hb dX10_done_119 rfl) ?_
      refine jJ_of (fun H locs => W.lcmp hx hb dX10_done_120) ?_
      refine jJ_of2 (fun H locs => jl_if_eq (tgt := 148) hx hb dX10_done_121 (by decide) (by omega) (by omega) (by omega) (by omega)) (fun c121 => ?_) (fun c121 => ?_)
      · refine jJ_of (fun H locs => lv_iload_n hx hb dX10_done_148 rfl (lv_at hl 1 rfl)) ?_
        refine jJ_of (fun H locs => lv_iconst (v := (nI 1)) hx hb dX10_done_149 (by decide)) ?_
        refine jJ_of (fun H locs => jn_iadd hx hb dX10_done_150) ?_
        have he : dnF tk N ln lb pa jm vs j (lnB tk (fi j)) = (0, vs, ((j + 1 : Nat) : Int)) := by unfold dnF; rw [if_neg (by omega), if_pos (by omega)]; rw [hxe10]; dsimp only; rw [if_pos rfl, if_pos c121]
        have hv9 : ∀ i, i < 200 → (vv) i = lI ((dnF tk N ln lb pa jm vs j (lnB tk (fi j))).2.1 i) := by
          rw [he]
          exact hvv
        exact jJ_toX (jJ_iret hx hb hr hlocks dX10_done_151 (by show _ ≤ 0; omega) (by show _ ≤ 0; omega) ⟨by rw [he], by rw [he, nI_iI], ⟨vv, _, hv9, rfl⟩, rfl, rfl⟩)
      · refine jJ_of (fun H locs => lv_aload_n hx hb dX10_done_124 rfl (lv_at hl 0 rfl)) ?_
        refine jJ_of (fun H locs => lv_aload_n hx hb dX10_done_125 rfl (lv_at hl 0 rfl)) ?_
        refine jJ_get hx hb (C := RX10) (T := TX10) (N := 19) hts uX10_in_X10_done hown hK 0 rfl rfl 3 (by decide) (hts (.fieldLink RX10 53 "ValueBlocksModel" "t" "LValueBlocksModel$Text;") (by decide +kernel)) (fun _ h9 => h9) rfl dX10_done_126 ?_
        refine jJ_get hx hb (C := RX9) (T := TX9) (N := 13) hts uX9_in_X10_done hown hK 2 rfl rfl 4 (by decide) (hts (.fieldLink RX10 71 "ValueBlocksModel$Text" "worths" "[I") (by decide +kernel)) (fun _ h9 => h9) rfl dX10_done_129 ?_
        refine jJ_of (fun H locs => lv_aload_n hx hb dX10_done_132 rfl (lv_at hl 0 rfl)) ?_
        refine jJ_get hx hb (C := RX10) (T := TX10) (N := 19) hts uX10_in_X10_done hown hK 0 rfl rfl 3 (by decide) (hts (.fieldLink RX10 53 "ValueBlocksModel" "t" "LValueBlocksModel$Text;") (by decide +kernel)) (fun _ h9 => h9) rfl dX10_done_133 ?_
        refine jJ_get hx hb (C := RX9) (T := TX9) (N := 13) hts uX9_in_X10_done hown hK 2 rfl rfl 11 (by decide) (hts (.fieldLink RX10 190 "ValueBlocksModel$Text" "jumps" "[I") (by decide +kernel)) (fun _ h9 => h9) rfl dX10_done_136 ?_
        refine jJ_of (fun H locs => lv_iload_n hx hb dX10_done_139 rfl (lv_at hl 1 rfl)) ?_
        refine jJ_iald hx hb hK 10 0 (f := fun i => iI (jm i)) rfl rfl (vp_in_nI (by omega) (by omega)) (x := (iI (jm j))) (by rw [nI_clamp (by omega)]) dX10_done_140 ?_
        refine jJ_iald hx hb hK 4 0 (f := V 2) rfl rfl (vp_in_iI (by omega) (by omega) (by omega)) (x := (nI (wj tk jm j))) (by rw [iI_toNatC (by omega) (by omega)]; exact hwj) dX10_done_141 ?_
        rw [nI_iI (wj tk jm j)]
        refine jJ_callV (As := [.int (iI ((wj tk jm j : Nat) : Int))]) (rest := []) (wc := jF (loW cI Z (lsV [E 0, E 1, E 2, .null, .int (nI aa10), E 5, E 6, E 7, E 8, .ref (Z 2), E 10, E 11, E 12, E 13, E 14, .ref (Z 7), .int (nI al), E 17, E 18]) (lsV [X 0, X 1, .ref (Z 3), X 3, .ref (Z 5), X 5, X 6, .ref (Z 9), .ref (Z 10), .null, .ref (Z 12), .ref (Z 13), .null]) lb ln)) (cs2 := [[(Z 2, .inr (0, []))], [(Z 3, .inl (cB, 32008, .inl (V 0)))], [(Z 5, .inl (cI, 32008, .inl (V 2)))], [(Z 7, .inl (cJ, 200, .inr (.inl vv)))], [(Z 9, .inl (cI, 16002, .inl (fun i => nI (fi i))))], [(Z 10, .inl (cB, 16002, .inl (fun i => nI (so i))))], [(Z 12, .inl (cI, 16002, .inl (fun i => iI (pa i))))], [(Z 13, .inl (cI, 16002, .inl (fun i => iI (jm i))))]]) (C := RX10) (T := TX10) (N := 19) (ci := 8) [0, 2, 8] [1, 3, 4, 5, 6, 7, 9, 10] ⟨hx, hb, hml, hown, hts⟩ hK hA hAm (c_Md_lineOf (E := lsV [E 0, E 1, E 2, .null, .int (nI aa10), E 5, E 6, E 7, E 8, .ref (Z 2), E 10, E 11, E 12, E 13, E 14, .ref (Z 7), .int (nI al), E 17, E 18]) (X := lsV [X 0, X 1, .ref (Z 3), X 3, .ref (Z 5), X 5, X 6, .ref (Z 9), .ref (Z 10), .null, .ref (Z 12), .ref (Z 13), .null]) (lb := lb) (ln := ln) ((wj tk jm j : Nat) : Int) (by omega) (by omega) (fun k hk => ⟨(hR k hk).2.2.2.2.2.1, (hR k hk).2.2.2.2.2.2⟩)) (cwV 1 hts gX10_done_X10_lineOf rfl rfl rfl (by decide +kernel) ⟨Nat.le_of_ble_eq_true rfl, Nat.le_of_ble_eq_true rfl⟩) (nn := 11) rfl (by decide) rfl rfl ⟨0, _, rfl⟩ rfl rfl rfl hl.1 (Nat.le_of_ble_eq_true rfl) dX10_done_142 (by show _ + 0 ≤ 0; omega) (by show _ + 0 ≤ 0; omega) (fun v u11 k11 n11 hq11 => ?_)
        obtain ⟨hv11, hw11, rfl, rfl⟩ := hq11
        subst hv11
        rw [hw11]
        have hlo11 := lo_b lb ((wj tk jm j : Nat) : Int) ln
        refine jJ_open (xs := [[(Z 0, .inr (8, [E 0, E 1, E 2, .ref (Z 1), .int (nI aa10), E 5, E 6, E 7, E 8, .ref (Z 2), E 10, E 11, E 12, E 13, E 14, .ref (Z 7), .int (nI al), E 17, E 18]))], [(Z 1, .inr (7, [X 0, X 1, .ref (Z 3), X 3, .ref (Z 5), X 5, X 6, .ref (Z 9), .ref (Z 10), .ref (Z 11), .ref (Z 12), .ref (Z 13), .int (nI ln)]))], [(Z 11, .inl (cI, 16002, .inl (fun i => iI (lb i))))]]) (r := [[(Z 2, .inr (0, []))], [(Z 3, .inl (cB, 32008, .inl (V 0)))], [(Z 5, .inl (cI, 32008, .inl (V 2)))], [(Z 7, .inl (cJ, 200, .inr (.inl vv)))], [(Z 9, .inl (cI, 16002, .inl (fun i => nI (fi i))))], [(Z 10, .inl (cB, 16002, .inl (fun i => nI (so i))))], [(Z 12, .inl (cI, 16002, .inl (fun i => iI (pa i))))], [(Z 13, .inl (cI, 16002, .inl (fun i => iI (jm i))))]]) (cs2 := [[(Z 0, .inr (8, [E 0, E 1, E 2, .ref (Z 1), .int (nI aa10), E 5, E 6, E 7, E 8, .ref (Z 2), E 10, E 11, E 12, E 13, E 14, .ref (Z 7), .int (nI al), E 17, E 18]))], [(Z 1, .inr (7, [X 0, X 1, .ref (Z 3), X 3, .ref (Z 5), X 5, X 6, .ref (Z 9), .ref (Z 10), .ref (Z 11), .ref (Z 12), .ref (Z 13), .int (nI ln)]))], [(Z 11, .inl (cI, 16002, .inl (fun i => iI (lb i))))], [(Z 2, .inr (0, []))], [(Z 3, .inl (cB, 32008, .inl (V 0)))], [(Z 5, .inl (cI, 32008, .inl (V 2)))], [(Z 7, .inl (cJ, 200, .inr (.inl vv)))], [(Z 9, .inl (cI, 16002, .inl (fun i => nI (fi i))))], [(Z 10, .inl (cB, 16002, .inl (fun i => nI (so i))))], [(Z 12, .inl (cI, 16002, .inl (fun i => iI (pa i))))], [(Z 13, .inl (cI, 16002, .inl (fun i => iI (jm i))))]]) rfl ?_
        refine jJ_eq (g2 := F0 m 145 ls [.int (iI (lo lb ((wj tk jm j : Nat) : Int) ln))]) (cs2 := [[(Z 0, .inr (8, [E 0, E 1, E 2, .ref (Z 1), .int (nI aa10), E 5, E 6, E 7, E 8, .ref (Z 2), E 10, E 11, E 12, E 13, E 14, .ref (Z 7), .int (nI al), E 17, E 18]))], [(Z 1, .inr (7, [X 0, X 1, .ref (Z 3), X 3, .ref (Z 5), X 5, X 6, .ref (Z 9), .ref (Z 10), .ref (Z 11), .ref (Z 12), .ref (Z 13), .int (nI ln)]))], [(Z 11, .inl (cI, 16002, .inl (fun i => iI (lb i))))], [(Z 2, .inr (0, []))], [(Z 3, .inl (cB, 32008, .inl (V 0)))], [(Z 5, .inl (cI, 32008, .inl (V 2)))], [(Z 7, .inl (cJ, 200, .inr (.inl vv)))], [(Z 9, .inl (cI, 16002, .inl (fun i => nI (fi i))))], [(Z 10, .inl (cB, 16002, .inl (fun i => nI (so i))))], [(Z 12, .inl (cI, 16002, .inl (fun i => iI (pa i))))], [(Z 13, .inl (cI, 16002, .inl (fun i => iI (jm i))))]]) rfl rfl ?_
        refine jJ_of (fun H locs => lv_goto (tgt := 151) hx hb dX10_done_145 (by decide)) ?_
        refine jJ_perm [0, 3, 1, 4, 5, 6, 7, 8, 2, 9, 10] (nn := 11) rfl (by decide) (cs2 := [[(Z 0, .inr (8, [E 0, E 1, E 2, .ref (Z 1), .int (nI aa10), E 5, E 6, E 7, E 8, .ref (Z 2), E 10, E 11, E 12, E 13, E 14, .ref (Z 7), .int (nI al), E 17, E 18]))], [(Z 2, .inr (0, []))], [(Z 1, .inr (7, [X 0, X 1, .ref (Z 3), X 3, .ref (Z 5), X 5, X 6, .ref (Z 9), .ref (Z 10), .ref (Z 11), .ref (Z 12), .ref (Z 13), .int (nI ln)]))], [(Z 3, .inl (cB, 32008, .inl (V 0)))], [(Z 5, .inl (cI, 32008, .inl (V 2)))], [(Z 7, .inl (cJ, 200, .inr (.inl vv)))], [(Z 9, .inl (cI, 16002, .inl (fun i => nI (fi i))))], [(Z 10, .inl (cB, 16002, .inl (fun i => nI (so i))))], [(Z 11, .inl (cI, 16002, .inl (fun i => iI (lb i))))], [(Z 12, .inl (cI, 16002, .inl (fun i => iI (pa i))))], [(Z 13, .inl (cI, 16002, .inl (fun i => iI (jm i))))]]) rfl ?_
        have he : dnF tk N ln lb pa jm vs j (lnB tk (fi j)) = (0, vs, lo lb ((wj tk jm j : Nat) : Int) ln) := by unfold dnF; rw [if_neg (by omega), if_pos (by omega)]; rw [hxe10]; dsimp only; rw [if_pos rfl, if_neg c121]
        have hv9 : ∀ i, i < 200 → (vv) i = lI ((dnF tk N ln lb pa jm vs j (lnB tk (fi j))).2.1 i) := by
          rw [he]
          exact hvv
        exact jJ_toX (jJ_iret hx hb hr hlocks dX10_done_151 (by show _ ≤ 0; omega) (by show _ ≤ 0; omega) ⟨by rw [he], by rw [he], ⟨vv, _, hv9, rfl⟩, rfl, rfl⟩)
    by_cases e41_4 : sw41 = 4
    · refine jJ_of (fun H locs => lv_tableIn hx hb dX10_done_41 (off := 111) (tgt := 152) (by rw [e41_4]; decide) (by rw [e41_4]; decide) (by rw [e41_4]; decide) (by decide)) ?_
      have hc : (tk 0).getD (lnB tk (fi j)) 0 = 301 := by omega
      have hL8 := hE.lt (a := lnB tk (fi j)) (by omega) (by omega)
      have h4 := hq4 (by omega)
      have hwj : V 2 (jm j).toNat = nI (wj tk jm j) := by rw [(hT.2.1 _ (by omega)).2.2.1, h4.2.2.1]; rfl
      have hwjb : wj tk jm j < 1000000000 := hB2a _
      refine jJ_of (fun H locs => lv_aload_n hx hb dX10_done_152 rfl (lv_at hl 0 rfl)) ?_
      refine jJ_of (fun H locs => lv_aload_n hx hb dX10_done_153 rfl (lv_at hl 0 rfl)) ?_
      refine jJ_get hx hb (C := RX10) (T := TX10) (N := 19) hts uX10_in_X10_done hown hK 0 rfl rfl 3 (by decide) (hts (.fieldLink RX10 53 "ValueBlocksModel" "t" "LValueBlocksModel$Text;") (by decide +kernel)) (fun _ h9 => h9) rfl dX10_done_154 ?_
      refine jJ_get hx hb (C := RX9) (T := TX9) (N := 13) hts uX9_in_X10_done hown hK 1 rfl rfl 4 (by decide) (hts (.fieldLink RX10 71 "ValueBlocksModel$Text" "worths" "[I") (by decide +kernel)) (fun _ h9 => h9) rfl dX10_done_157 ?_
      refine jJ_of (fun H locs => lv_aload_n hx hb dX10_done_160 rfl (lv_at hl 0 rfl)) ?_
      refine jJ_get hx hb (C := RX10) (T := TX10) (N := 19) hts uX10_in_X10_done hown hK 0 rfl rfl 3 (by decide) (hts (.fieldLink RX10 53 "ValueBlocksModel" "t" "LValueBlocksModel$Text;") (by decide +kernel)) (fun _ h9 => h9) rfl dX10_done_161 ?_
      refine jJ_get hx hb (C := RX9) (T := TX9) (N := 13) hts uX9_in_X10_done hown hK 1 rfl rfl 11 (by decide) (hts (.fieldLink RX10 190 "ValueBlocksModel$Text" "jumps" "[I") (by decide +kernel)) (fun _ h9 => h9) rfl dX10_done_164 ?_
      refine jJ_of (fun H locs => lv_iload_n hx hb dX10_done_167 rfl (lv_at hl 1 rfl)) ?_
      refine jJ_iald hx hb hK 10 0 (f := fun i => iI (jm i)) rfl rfl (vp_in_nI (by omega) (by omega)) (x := (iI (jm j))) (by rw [nI_clamp (by omega)]) dX10_done_168 ?_
      refine jJ_iald hx hb hK 3 0 (f := V 2) rfl rfl (vp_in_iI (by omega) (by omega) (by omega)) (x := (nI (wj tk jm j))) (by rw [iI_toNatC (by omega) (by omega)]; exact hwj) dX10_done_169 ?_
      rw [nI_iI (wj tk jm j)]
      refine jJ_callV (As := [.int (iI ((wj tk jm j : Nat) : Int))]) (rest := []) (wc := jF (loW cI Z (lsV [E 0, E 1, E 2, .null, .int (nI (lnB tk (fi j))), E 5, E 6, E 7, E 8, .ref (Z 2), E 10, E 11, E 12, E 13, E 14, .ref (Z 7), .int (nI al), E 17, E 18]) (lsV [X 0, X 1, .ref (Z 3), X 3, .ref (Z 5), X 5, X 6, .ref (Z 9), .ref (Z 10), .null, .ref (Z 12), .ref (Z 13), .null]) lb ln)) (cs2 := [[(Z 3, .inl (cB, 32008, .inl (V 0)))], [(Z 5, .inl (cI, 32008, .inl (V 2)))], [(Z 2, .inr (0, []))], [(Z 7, .inl (cJ, 200, .inr (.inl vv)))], [(Z 9, .inl (cI, 16002, .inl (fun i => nI (fi i))))], [(Z 10, .inl (cB, 16002, .inl (fun i => nI (so i))))], [(Z 12, .inl (cI, 16002, .inl (fun i => iI (pa i))))], [(Z 13, .inl (cI, 16002, .inl (fun i => iI (jm i))))]]) (C := RX10) (T := TX10) (N := 19) (ci := 8) [0, 1, 8] [2, 3, 4, 5, 6, 7, 9, 10] ⟨hx, hb, hml, hown, hts⟩ hK hA hAm (c_Md_lineOf (E := lsV [E 0, E 1, E 2, .null, .int (nI (lnB tk (fi j))), E 5, E 6, E 7, E 8, .ref (Z 2), E 10, E 11, E 12, E 13, E 14, .ref (Z 7), .int (nI al), E 17, E 18]) (X := lsV [X 0, X 1, .ref (Z 3), X 3, .ref (Z 5), X 5, X 6, .ref (Z 9), .ref (Z 10), .null, .ref (Z 12), .ref (Z 13), .null]) (lb := lb) (ln := ln) ((wj tk jm j : Nat) : Int) (by omega) (by omega) (fun k hk => ⟨(hR k hk).2.2.2.2.2.1, (hR k hk).2.2.2.2.2.2⟩)) (cwV 1 hts gX10_done_X10_lineOf rfl rfl rfl (by decide +kernel) ⟨Nat.le_of_ble_eq_true rfl, Nat.le_of_ble_eq_true rfl⟩) (nn := 11) rfl (by decide) rfl rfl ⟨0, _, rfl⟩ rfl rfl rfl hl.1 (Nat.le_of_ble_eq_true rfl) dX10_done_170 (by show _ + 0 ≤ 0; omega) (by show _ + 0 ≤ 0; omega) (fun v u12 k12 n12 hq12 => ?_)
      obtain ⟨hv12, hw12, rfl, rfl⟩ := hq12
      subst hv12
      rw [hw12]
      have hlo12 := lo_b lb ((wj tk jm j : Nat) : Int) ln
      refine jJ_open (xs := [[(Z 0, .inr (8, [E 0, E 1, E 2, .ref (Z 1), .int (nI (lnB tk (fi j))), E 5, E 6, E 7, E 8, .ref (Z 2), E 10, E 11, E 12, E 13, E 14, .ref (Z 7), .int (nI al), E 17, E 18]))], [(Z 1, .inr (7, [X 0, X 1, .ref (Z 3), X 3, .ref (Z 5), X 5, X 6, .ref (Z 9), .ref (Z 10), .ref (Z 11), .ref (Z 12), .ref (Z 13), .int (nI ln)]))], [(Z 11, .inl (cI, 16002, .inl (fun i => iI (lb i))))]]) (r := [[(Z 3, .inl (cB, 32008, .inl (V 0)))], [(Z 5, .inl (cI, 32008, .inl (V 2)))], [(Z 2, .inr (0, []))], [(Z 7, .inl (cJ, 200, .inr (.inl vv)))], [(Z 9, .inl (cI, 16002, .inl (fun i => nI (fi i))))], [(Z 10, .inl (cB, 16002, .inl (fun i => nI (so i))))], [(Z 12, .inl (cI, 16002, .inl (fun i => iI (pa i))))], [(Z 13, .inl (cI, 16002, .inl (fun i => iI (jm i))))]]) (cs2 := [[(Z 0, .inr (8, [E 0, E 1, E 2, .ref (Z 1), .int (nI (lnB tk (fi j))), E 5, E 6, E 7, E 8, .ref (Z 2), E 10, E 11, E 12, E 13, E 14, .ref (Z 7), .int (nI al), E 17, E 18]))], [(Z 1, .inr (7, [X 0, X 1, .ref (Z 3), X 3, .ref (Z 5), X 5, X 6, .ref (Z 9), .ref (Z 10), .ref (Z 11), .ref (Z 12), .ref (Z 13), .int (nI ln)]))], [(Z 11, .inl (cI, 16002, .inl (fun i => iI (lb i))))], [(Z 3, .inl (cB, 32008, .inl (V 0)))], [(Z 5, .inl (cI, 32008, .inl (V 2)))], [(Z 2, .inr (0, []))], [(Z 7, .inl (cJ, 200, .inr (.inl vv)))], [(Z 9, .inl (cI, 16002, .inl (fun i => nI (fi i))))], [(Z 10, .inl (cB, 16002, .inl (fun i => nI (so i))))], [(Z 12, .inl (cI, 16002, .inl (fun i => iI (pa i))))], [(Z 13, .inl (cI, 16002, .inl (fun i => iI (jm i))))]]) rfl ?_
      refine jJ_eq (g2 := F0 m 173 ls [.int (iI (lo lb ((wj tk jm j : Nat) : Int) ln))]) (cs2 := [[(Z 0, .inr (8, [E 0, E 1, E 2, .ref (Z 1), .int (nI (lnB tk (fi j))), E 5, E 6, E 7, E 8, .ref (Z 2), E 10, E 11, E 12, E 13, E 14, .ref (Z 7), .int (nI al), E 17, E 18]))], [(Z 1, .inr (7, [X 0, X 1, .ref (Z 3), X 3, .ref (Z 5), X 5, X 6, .ref (Z 9), .ref (Z 10), .ref (Z 11), .ref (Z 12), .ref (Z 13), .int (nI ln)]))], [(Z 11, .inl (cI, 16002, .inl (fun i => iI (lb i))))], [(Z 3, .inl (cB, 32008, .inl (V 0)))], [(Z 5, .inl (cI, 32008, .inl (V 2)))], [(Z 2, .inr (0, []))], [(Z 7, .inl (cJ, 200, .inr (.inl vv)))], [(Z 9, .inl (cI, 16002, .inl (fun i => nI (fi i))))], [(Z 10, .inl (cB, 16002, .inl (fun i => nI (so i))))], [(Z 12, .inl (cI, 16002, .inl (fun i => iI (pa i))))], [(Z 13, .inl (cI, 16002, .inl (fun i => iI (jm i))))]]) rfl rfl ?_
      refine jJ_perm [0, 5, 1, 3, 4, 6, 7, 8, 2, 9, 10] (nn := 11) rfl (by decide) (cs2 := [[(Z 0, .inr (8, [E 0, E 1, E 2, .ref (Z 1), .int (nI (lnB tk (fi j))), E 5, E 6, E 7, E 8, .ref (Z 2), E 10, E 11, E 12, E 13, E 14, .ref (Z 7), .int (nI al), E 17, E 18]))], [(Z 2, .inr (0, []))], [(Z 1, .inr (7, [X 0, X 1, .ref (Z 3), X 3, .ref (Z 5), X 5, X 6, .ref (Z 9), .ref (Z 10), .ref (Z 11), .ref (Z 12), .ref (Z 13), .int (nI ln)]))], [(Z 3, .inl (cB, 32008, .inl (V 0)))], [(Z 5, .inl (cI, 32008, .inl (V 2)))], [(Z 7, .inl (cJ, 200, .inr (.inl vv)))], [(Z 9, .inl (cI, 16002, .inl (fun i => nI (fi i))))], [(Z 10, .inl (cB, 16002, .inl (fun i => nI (so i))))], [(Z 11, .inl (cI, 16002, .inl (fun i => iI (lb i))))], [(Z 12, .inl (cI, 16002, .inl (fun i => iI (pa i))))], [(Z 13, .inl (cI, 16002, .inl (fun i => iI (jm i))))]]) rfl ?_
      have he : dnF tk N ln lb pa jm vs j (lnB tk (fi j)) = (0, vs, lo lb ((wj tk jm j : Nat) : Int) ln) := by unfold dnF; rw [if_neg (by omega), if_neg (by omega), if_pos (by omega)]
      have hv9 : ∀ i, i < 200 → (vv) i = lI ((dnF tk N ln lb pa jm vs j (lnB tk (fi j))).2.1 i) := by
        rw [he]
        exact hvv
      exact jJ_toX (jJ_iret hx hb hr hlocks dX10_done_173 (by show _ ≤ 0; omega) (by show _ ≤ 0; omega) ⟨by rw [he], by rw [he], ⟨vv, _, hv9, rfl⟩, rfl, rfl⟩)
    by_cases e41_5 : sw41 = 5
    · refine jJ_of (fun H locs => lv_tableIn hx hb dX10_done_41 (off := 133) (tgt := 174) (by rw [e41_5]; decide) (by rw [e41_5]; decide) (by rw [e41_5]; decide) (by decide)) ?_
      have hc : (tk 0).getD (lnB tk (fi j)) 0 = 302 := by omega
      have hL8 := hE.lt (a := lnB tk (fi j)) (by omega) (by omega)
      have k1 := qRest_if hq1 (by omega)
      have h5 := hq5 (by omega)
      refine jJ_of (fun H locs => lv_aload_n hx hb dX10_done_174 rfl (lv_at hl 0 rfl)) ?_
      refine jJ_of (fun H locs => lv_dup hx hb dX10_done_175 rfl) ?_
      refine jJ_get hx hb (C := RX10) (T := TX10) (N := 19) hts uX10_in_X10_done hown hK 0 rfl rfl 4 (by decide) (hts (.fieldLink RX10 121 "ValueBlocksModel" "at" "I") (by decide +kernel)) (fun _ h9 => h9) rfl dX10_done_176 ?_
      refine jJ_of (fun H locs => lv_iconst (v := (nI 1)) hx hb dX10_done_179 (by decide)) ?_
      refine jJ_of (fun H locs => jn_iadd hx hb dX10_done_180) ?_
      refine jJ_put hx hb (C := RX10) (T := TX10) (N := 19) (ty := .int) (v := .int (nI ((lnB tk (fi j)) + 1))) hts uX10_in_X10_done tyX10 tyX10_ok nmX10 hown hK 0 rfl rfl 4 (by decide) (hts (.fieldLink RX10 121 "ValueBlocksModel" "at" "I") (by decide +kernel)) (fun _ h9 => h9) rfl (by decide +kernel) rfl rfl (Nat.le_of_ble_eq_true rfl) dX10_done_181 (cs2 := [[(Z 0, .inr (8, [E 0, E 1, E 2, .ref (Z 1), .int (nI ((lnB tk (fi j)) + 1)), E 5, E 6, E 7, E 8, .ref (Z 2), E 10, E 11, E 12, E 13, E 14, .ref (Z 7), .int (nI al), E 17, E 18]))], [(Z 1, .inr (7, [X 0, X 1, .ref (Z 3), X 3, .ref (Z 5), X 5, X 6, .ref (Z 9), .ref (Z 10), .ref (Z 11), .ref (Z 12), .ref (Z 13), .int (nI ln)]))], [(Z 3, .inl (cB, 32008, .inl (V 0)))], [(Z 5, .inl (cI, 32008, .inl (V 2)))], [(Z 2, .inr (0, []))], [(Z 7, .inl (cJ, 200, .inr (.inl vv)))], [(Z 9, .inl (cI, 16002, .inl (fun i => nI (fi i))))], [(Z 10, .inl (cB, 16002, .inl (fun i => nI (so i))))], [(Z 11, .inl (cI, 16002, .inl (fun i => iI (lb i))))], [(Z 12, .inl (cI, 16002, .inl (fun i => iI (pa i))))], [(Z 13, .inl (cI, 16002, .inl (fun i => iI (jm i))))]]) rfl ?_
      refine jJ_of (fun H locs => lv_aload_n hx hb dX10_done_184 rfl (lv_at hl 0 rfl)) ?_
      have hokq13 : (qBra tk N 20 ((lnB tk (fi j)) + 1)).1 = true := k1
      have hqb13 : ((lnB tk (fi j)) + 1) ≤ (qBra tk N 20 ((lnB tk (fi j)) + 1)).2 ∧ (qBra tk N 20 ((lnB tk (fi j)) + 1)).2 + 1 ≤ (tk 0).length := qb_bra hE N 20 ((lnB tk (fi j)) + 1) (by omega)
      obtain ⟨aa13, haa13⟩ : ∃ i9 : Nat, (qBra tk N 20 ((lnB tk (fi j)) + 1)).2 = i9 := ⟨_, rfl⟩
      rw [haa13] at hqb13
      obtain ⟨xa13, xv13, hxe13⟩ : ∃ (i9 : Nat) (j9 : Int), xBra tk N vs 20 ((lnB tk (fi j)) + 1) = (i9, j9) := xP_ex _
      have hxb13 : xa13 = 0 → vOK xv13 := fun h => by have h2 := xv_bra N hB2a hvs 20 ((lnB tk (fi j)) + 1) (by rw [hxe13]; exact h); rw [hxe13] at h2; exact h2
      refine jX_callV (As := []) (rest := []) (wc := jF (eW cI cJ cB Z (lsV [E 0, E 1, E 2, .null, .null, E 5, E 6, E 7, E 8, .null, E 10, E 11, E 12, E 13, E 14, .null, .null, E 17, E 18]) (lsV [X 0, X 1, .null, X 3, .null, X 5, X 6, .ref (Z 9), .ref (Z 10), .ref (Z 11), .ref (Z 12), .ref (Z 13), .int (nI ln)]) V vv ((lnB tk (fi j)) + 1) al)) (cs2 := [[(Z 9, .inl (cI, 16002, .inl (fun i => nI (fi i))))], [(Z 10, .inl (cB, 16002, .inl (fun i => nI (so i))))], [(Z 11, .inl (cI, 16002, .inl (fun i => iI (lb i))))], [(Z 12, .inl (cI, 16002, .inl (fun i => iI (pa i))))], [(Z 13, .inl (cI, 16002, .inl (fun i => iI (jm i))))]]) (C := RX10) (T := TX10) (N := 19) (ci := 8) [0, 4, 1, 2, 3, 5] [6, 7, 8, 9, 10] ⟨hx, hb, hml, hown, hts⟩ hK hA hAm ((w_Md_val (E := lsV [E 0, E 1, E 2, .null, .null, E 5, E 6, E 7, E 8, .null, E 10, E 11, E 12, E 13, E 14, .null, .null, E 17, E 18]) (X := lsV [X 0, X 1, .null, X 3, .null, X 5, X 6, .ref (Z 9), .ref (Z 10), .ref (Z 11), .ref (Z 12), .ref (Z 13), .int (nI ln)]) hT hE hvv hvs hN 20).2 ((lnB tk (fi j)) + 1) al (by omega) hokq13) (cwV 0 hts gX10_done_X10_bracketed rfl rfl rfl (by decide +kernel) ⟨by show (8 * 20 + 6) + 1 ≤ 172; omega, by show 8 + (3 + 11) + (320 * 20 + 280) ≤ 7200; omega⟩) (nn := 11) rfl (by decide) rfl rfl ⟨0, _, rfl⟩ rfl rfl rfl hl.1 (Nat.le_of_ble_eq_true rfl) dX10_done_185 (by show _ + 0 ≤ 0; omega) (by show _ + 0 ≤ 0; omega) (fun u13 k13 n13 q13 hx13 => ?_) (fun v u13 k13 n13 hq13 => ?_)
      · rw [hxe13] at hx13
        dsimp only at hx13
        obtain ⟨hnz13, ⟨a2_13, hu13⟩, rfl, rfl⟩ := hx13
        rw [hu13]
        have he : dnF tk N ln lb pa jm vs j (lnB tk (fi j)) = (xa13, vs, 0) := by unfold dnF; rw [if_neg (by omega), if_neg (by omega), if_neg (by omega), if_pos (by omega)]; rw [hxe13]; exact if_neg hnz13
        exact jJx_out hno hlocks (by show _ ≤ 0; omega) (by show _ ≤ 0; omega) ⟨by rw [he]; exact hnz13, ⟨_, by rw [he]; rfl⟩, rfl, rfl⟩
      rw [hxe13, haa13] at hq13
      dsimp only at hq13
      obtain ⟨hz13, rfl, hw13, rfl, rfl⟩ := hq13
      subst hz13
      rw [hw13]
      have hxb13b := hxb13 rfl
      refine jJ_open (xs := [[(Z 0, .inr (8, [E 0, E 1, E 2, .ref (Z 1), .int (nI aa13), E 5, E 6, E 7, E 8, .ref (Z 2), E 10, E 11, E 12, E 13, E 14, .ref (Z 7), .int (nI al), E 17, E 18]))], [(Z 2, .inr (0, []))], [(Z 1, .inr (7, [X 0, X 1, .ref (Z 3), X 3, .ref (Z 5), X 5, X 6, .ref (Z 9), .ref (Z 10), .ref (Z 11), .ref (Z 12), .ref (Z 13), .int (nI ln)]))], [(Z 3, .inl (cB, 32008, .inl (V 0)))], [(Z 5, .inl (cI, 32008, .inl (V 2)))], [(Z 7, .inl (cJ, 200, .inr (.inl vv)))]]) (r := [[(Z 9, .inl (cI, 16002, .inl (fun i => nI (fi i))))], [(Z 10, .inl (cB, 16002, .inl (fun i => nI (so i))))], [(Z 11, .inl (cI, 16002, .inl (fun i => iI (lb i))))], [(Z 12, .inl (cI, 16002, .inl (fun i => iI (pa i))))], [(Z 13, .inl (cI, 16002, .inl (fun i => iI (jm i))))]]) (cs2 := [[(Z 0, .inr (8, [E 0, E 1, E 2, .ref (Z 1), .int (nI aa13), E 5, E 6, E 7, E 8, .ref (Z 2), E 10, E 11, E 12, E 13, E 14, .ref (Z 7), .int (nI al), E 17, E 18]))], [(Z 2, .inr (0, []))], [(Z 1, .inr (7, [X 0, X 1, .ref (Z 3), X 3, .ref (Z 5), X 5, X 6, .ref (Z 9), .ref (Z 10), .ref (Z 11), .ref (Z 12), .ref (Z 13), .int (nI ln)]))], [(Z 3, .inl (cB, 32008, .inl (V 0)))], [(Z 5, .inl (cI, 32008, .inl (V 2)))], [(Z 7, .inl (cJ, 200, .inr (.inl vv)))], [(Z 9, .inl (cI, 16002, .inl (fun i => nI (fi i))))], [(Z 10, .inl (cB, 16002, .inl (fun i => nI (so i))))], [(Z 11, .inl (cI, 16002, .inl (fun i => iI (lb i))))], [(Z 12, .inl (cI, 16002, .inl (fun i => iI (pa i))))], [(Z 13, .inl (cI, 16002, .inl (fun i => iI (jm i))))]]) rfl ?_
      unfold vOK at hxb13b
      refine jJ_eq (g2 := F0 m 188 ls [.long (lI xv13)]) (cs2 := [[(Z 0, .inr (8, [E 0, E 1, E 2, .ref (Z 1), .int (nI aa13), E 5, E 6, E 7, E 8, .ref (Z 2), E 10, E 11, E 12, E 13, E 14, .ref (Z 7), .int (nI al), E 17, E 18]))], [(Z 2, .inr (0, []))], [(Z 1, .inr (7, [X 0, X 1, .ref (Z 3), X 3, .ref (Z 5), X 5, X 6, .ref (Z 9), .ref (Z 10), .ref (Z 11), .ref (Z 12), .ref (Z 13), .int (nI ln)]))], [(Z 3, .inl (cB, 32008, .inl (V 0)))], [(Z 5, .inl (cI, 32008, .inl (V 2)))], [(Z 7, .inl (cJ, 200, .inr (.inl vv)))], [(Z 9, .inl (cI, 16002, .inl (fun i => nI (fi i))))], [(Z 10, .inl (cB, 16002, .inl (fun i => nI (so i))))], [(Z 11, .inl (cI, 16002, .inl (fun i => iI (lb i))))], [(Z 12, .inl (cI, 16002, .inl (fun i => iI (pa i))))], [(Z 13, .inl (cI, 16002, .inl (fun i => iI (jm i))))]]) rfl rfl ?_
      refine jJ_of (fun H locs => jn_lconst (v := 0) hx hb dX10_done_188 rfl) ?_
      refine jJ_of (fun H locs => W.lcmp hx hb dX10_done_189) ?_
      refine jJ_of2 (fun H locs => jl_if_ne (tgt := 207) hx hb dX10_done_190 (by decide) (by omega) (by omega) (by omega) (by omega)) (fun c190 => ?_) (fun c190 => ?_)
      · refine jJ_of (fun H locs => lv_iload_n hx hb dX10_done_207 rfl (lv_at hl 1 rfl)) ?_
        refine jJ_of (fun H locs => lv_iconst (v := (nI 1)) hx hb dX10_done_208 (by decide)) ?_
        refine jJ_of (fun H locs => jn_iadd hx hb dX10_done_209) ?_
        have he : dnF tk N ln lb pa jm vs j (lnB tk (fi j)) = (0, vs, ((j + 1 : Nat) : Int)) := by unfold dnF; rw [if_neg (by omega), if_neg (by omega), if_neg (by omega), if_pos (by omega)]; rw [hxe13]; dsimp only; rw [if_pos rfl, if_neg c190]
        have hv9 : ∀ i, i < 200 → (vv) i = lI ((dnF tk N ln lb pa jm vs j (lnB tk (fi j))).2.1 i) := by
          rw [he]
          exact hvv
        exact jJ_toX (jJ_iret hx hb hr hlocks dX10_done_210 (by show _ ≤ 0; omega) (by show _ ≤ 0; omega) ⟨by rw [he], by rw [he, nI_iI], ⟨vv, _, hv9, rfl⟩, rfl, rfl⟩)
      · refine jJ_of (fun H locs => lv_aload_n hx hb dX10_done_193 rfl (lv_at hl 0 rfl)) ?_
        refine jJ_get hx hb (C := RX10) (T := TX10) (N := 19) hts uX10_in_X10_done hown hK 0 rfl rfl 3 (by decide) (hts (.fieldLink RX10 53 "ValueBlocksModel" "t" "LValueBlocksModel$Text;") (by decide +kernel)) (fun _ h9 => h9) rfl dX10_done_194 ?_
        refine jJ_get hx hb (C := RX9) (T := TX9) (N := 13) hts uX9_in_X10_done hown hK 2 rfl rfl 10 (by decide) (hts (.fieldLink RX10 187 "ValueBlocksModel$Text" "partners" "[I") (by decide +kernel)) (fun _ h9 => h9) rfl dX10_done_197 ?_
        refine jJ_of (fun H locs => lv_iload_n hx hb dX10_done_200 rfl (lv_at hl 1 rfl)) ?_
        refine jJ_iald hx hb hK 9 0 (f := fun i => iI (pa i)) rfl rfl (vp_in_nI (by omega) (by omega)) (x := (iI (pa j))) (by rw [nI_clamp (by omega)]) dX10_done_201 ?_
        refine jJ_of (fun H locs => lv_iconst (v := (nI 1)) hx hb dX10_done_202 (by decide)) ?_
        rw [nI_iI 1]
        refine jJ_eq (g2 := F0 m 203 ls [.int (iI 1), .int (iI (pa j))]) (cs2 := [[(Z 0, .inr (8, [E 0, E 1, E 2, .ref (Z 1), .int (nI aa13), E 5, E 6, E 7, E 8, .ref (Z 2), E 10, E 11, E 12, E 13, E 14, .ref (Z 7), .int (nI al), E 17, E 18]))], [(Z 2, .inr (0, []))], [(Z 1, .inr (7, [X 0, X 1, .ref (Z 3), X 3, .ref (Z 5), X 5, X 6, .ref (Z 9), .ref (Z 10), .ref (Z 11), .ref (Z 12), .ref (Z 13), .int (nI ln)]))], [(Z 3, .inl (cB, 32008, .inl (V 0)))], [(Z 5, .inl (cI, 32008, .inl (V 2)))], [(Z 7, .inl (cJ, 200, .inr (.inl vv)))], [(Z 9, .inl (cI, 16002, .inl (fun i => nI (fi i))))], [(Z 10, .inl (cB, 16002, .inl (fun i => nI (so i))))], [(Z 11, .inl (cI, 16002, .inl (fun i => iI (lb i))))], [(Z 12, .inl (cI, 16002, .inl (fun i => iI (pa i))))], [(Z 13, .inl (cI, 16002, .inl (fun i => iI (jm i))))]]) rfl rfl ?_
        refine jJ_of (fun H locs => jz_iadd hx hb dX10_done_203) ?_
        refine jJ_of (fun H locs => lv_goto (tgt := 210) hx hb dX10_done_204 (by decide)) ?_
        have he : dnF tk N ln lb pa jm vs j (lnB tk (fi j)) = (0, vs, (pa j) + 1) := by unfold dnF; rw [if_neg (by omega), if_neg (by omega), if_neg (by omega), if_pos (by omega)]; rw [hxe13]; dsimp only; rw [if_pos rfl, if_pos c190]
        have hv9 : ∀ i, i < 200 → (vv) i = lI ((dnF tk N ln lb pa jm vs j (lnB tk (fi j))).2.1 i) := by
          rw [he]
          exact hvv
        exact jJ_toX (jJ_iret hx hb hr hlocks dX10_done_210 (by show _ ≤ 0; omega) (by show _ ≤ 0; omega) ⟨by rw [he], by rw [he], ⟨vv, _, hv9, rfl⟩, rfl, rfl⟩)
    by_cases e41_6 : sw41 = 6
    · refine jJ_of (fun H locs => lv_tableIn hx hb dX10_done_41 (off := 170) (tgt := 211) (by rw [e41_6]; decide) (by rw [e41_6]; decide) (by rw [e41_6]; decide) (by decide)) ?_
      have hc : (tk 0).getD (lnB tk (fi j)) 0 = 304 := by omega
      have hL8 := hE.lt (a := lnB tk (fi j)) (by omega) (by omega)
      have h5 := hq5 (by omega)
      refine jJ_of (fun H locs => lv_aload_n hx hb dX10_done_211 rfl (lv_at hl 0 rfl)) ?_
      refine jJ_get hx hb (C := RX10) (T := TX10) (N := 19) hts uX10_in_X10_done hown hK 0 rfl rfl 3 (by decide) (hts (.fieldLink RX10 53 "ValueBlocksModel" "t" "LValueBlocksModel$Text;") (by decide +kernel)) (fun _ h9 => h9) rfl dX10_done_212 ?_
      refine jJ_get hx hb (C := RX9) (T := TX9) (N := 13) hts uX9_in_X10_done hown hK 1 rfl rfl 10 (by decide) (hts (.fieldLink RX10 187 "ValueBlocksModel$Text" "partners" "[I") (by decide +kernel)) (fun _ h9 => h9) rfl dX10_done_215 ?_
      refine jJ_of (fun H locs => lv_iload_n hx hb dX10_done_218 rfl (lv_at hl 1 rfl)) ?_
      refine jJ_iald hx hb hK 9 0 (f := fun i => iI (pa i)) rfl rfl (vp_in_nI (by omega) (by omega)) (x := (iI (pa j))) (by rw [nI_clamp (by omega)]) dX10_done_219 ?_
      refine jJ_perm [0, 4, 1, 2, 3, 5, 6, 7, 8, 9, 10] (nn := 11) rfl (by decide) (cs2 := [[(Z 0, .inr (8, [E 0, E 1, E 2, .ref (Z 1), .int (nI (lnB tk (fi j))), E 5, E 6, E 7, E 8, .ref (Z 2), E 10, E 11, E 12, E 13, E 14, .ref (Z 7), .int (nI al), E 17, E 18]))], [(Z 2, .inr (0, []))], [(Z 1, .inr (7, [X 0, X 1, .ref (Z 3), X 3, .ref (Z 5), X 5, X 6, .ref (Z 9), .ref (Z 10), .ref (Z 11), .ref (Z 12), .ref (Z 13), .int (nI ln)]))], [(Z 3, .inl (cB, 32008, .inl (V 0)))], [(Z 5, .inl (cI, 32008, .inl (V 2)))], [(Z 7, .inl (cJ, 200, .inr (.inl vv)))], [(Z 9, .inl (cI, 16002, .inl (fun i => nI (fi i))))], [(Z 10, .inl (cB, 16002, .inl (fun i => nI (so i))))], [(Z 11, .inl (cI, 16002, .inl (fun i => iI (lb i))))], [(Z 12, .inl (cI, 16002, .inl (fun i => iI (pa i))))], [(Z 13, .inl (cI, 16002, .inl (fun i => iI (jm i))))]]) rfl ?_
      have he : dnF tk N ln lb pa jm vs j (lnB tk (fi j)) = (0, vs, pa j) := by unfold dnF; rw [if_neg (by omega), if_neg (by omega), if_neg (by omega), if_neg (by omega), if_pos (by omega)]
      have hv9 : ∀ i, i < 200 → (vv) i = lI ((dnF tk N ln lb pa jm vs j (lnB tk (fi j))).2.1 i) := by
        rw [he]
        exact hvv
      exact jJ_toX (jJ_iret hx hb hr hlocks dX10_done_220 (by show _ ≤ 0; omega) (by show _ ≤ 0; omega) ⟨by rw [he], by rw [he], ⟨vv, _, hv9, rfl⟩, rfl, rfl⟩)
    refine jJ_of (fun H locs => lv_tableOut hx hb dX10_done_41 (tgt := 221) (by rw [nI_toInt bsw41]; omega) (by decide)) ?_
    refine jJ_of (fun H locs => lv_iload_n hx hb dX10_done_221 rfl (lv_at hl 1 rfl)) ?_
    refine jJ_of (fun H locs => lv_iconst (v := (nI 1)) hx hb dX10_done_222 (by decide)) ?_
    refine jJ_of (fun H locs => jn_iadd hx hb dX10_done_223) ?_
    refine jJ_perm [0, 4, 1, 2, 3, 5, 6, 7, 8, 9, 10] (nn := 11) rfl (by decide) (cs2 := [[(Z 0, .inr (8, [E 0, E 1, E 2, .ref (Z 1), .int (nI (lnB tk (fi j))), E 5, E 6, E 7, E 8, .ref (Z 2), E 10, E 11, E 12, E 13, E 14, .ref (Z 7), .int (nI al), E 17, E 18]))], [(Z 2, .inr (0, []))], [(Z 1, .inr (7, [X 0, X 1, .ref (Z 3), X 3, .ref (Z 5), X 5, X 6, .ref (Z 9), .ref (Z 10), .ref (Z 11), .ref (Z 12), .ref (Z 13), .int (nI ln)]))], [(Z 3, .inl (cB, 32008, .inl (V 0)))], [(Z 5, .inl (cI, 32008, .inl (V 2)))], [(Z 7, .inl (cJ, 200, .inr (.inl vv)))], [(Z 9, .inl (cI, 16002, .inl (fun i => nI (fi i))))], [(Z 10, .inl (cB, 16002, .inl (fun i => nI (so i))))], [(Z 11, .inl (cI, 16002, .inl (fun i => iI (lb i))))], [(Z 12, .inl (cI, 16002, .inl (fun i => iI (pa i))))], [(Z 13, .inl (cI, 16002, .inl (fun i => iI (jm i))))]]) rfl ?_
    have he : dnF tk N ln lb pa jm vs j (lnB tk (fi j)) = (0, vs, ((j + 1 : Nat) : Int)) := by unfold dnF; rw [if_neg (by omega), if_neg (by omega), if_neg (by omega), if_neg (by omega), if_neg (by omega)]
    have hv9 : ∀ i, i < 200 → (vv) i = lI ((dnF tk N ln lb pa jm vs j (lnB tk (fi j))).2.1 i) := by
      rw [he]
      exact hvv
    exact jJ_toX (jJ_iret hx hb hr hlocks dX10_done_224 (by show _ ≤ 0; omega) (by show _ ≤ 0; omega) ⟨by rw [he], by rw [he, nI_iI], ⟨vv, _, hv9, rfl⟩, rfl, rfl⟩)
theorem dnF_b {tk : Nat → List Nat} {N ln : Nat} {fi so : Nat → Nat} {lb pa jm : Nat → Int} {vs : Nat → Int} (hB2a : ∀ i, (tk 2).getD i 0 < 1000000000) (hvs : ∀ i, i < 200 → vOK (vs i)) (hln : ln ≤ 16001) (hR : rOK tk N ln fi so lb pa jm) {j : Nat} (hj : j < ln) (h : (dnF tk N ln lb pa jm vs j (lnB tk (fi j))).1 = 0) :
    0 ≤ (dnF tk N ln lb pa jm vs j (lnB tk (fi j))).2.2 ∧ (dnF tk N ln lb pa jm vs j (lnB tk (fi j))).2.2 < 30000 ∧ ∀ i, i < 200 → vOK ((dnF tk N ln lb pa jm vs j (lnB tk (fi j))).2.1 i) := by
  obtain ⟨-, -, hq3, hq4, hq5, -⟩ := hR j hj
  have hsk := soK_i ((tk 0).getD (lnB tk (fi j)) 0)
  generalize hb : lnB tk (fi j) = b at *
  have hlo := lo_b lb ((wj tk jm j : Nat) : Int) ln
  have hlo2 := loF_b lb ((wj tk jm j : Nat) : Int) ln 0
  have hlo3 : lo lb ((wj tk jm j : Nat) : Int) ln = loF lb ((wj tk jm j : Nat) : Int) ln 0 := rfl
  unfold dnF at h ⊢
  by_cases c1 : (tk 0).getD b 0 = 35
  · rw [if_pos c1] at h ⊢
    by_cases e1 : (xVa tk N vs 20 b).1 = 0
    · rw [if_pos e1] at h ⊢
      by_cases e2 : (xSum tk N vs 20 ((qVa tk N 20 b).2 + 1)).1 = 0
      · rw [if_pos e2] at h ⊢
        have hb1 := xVa_b e1
        have hb2 := xv_sum N hB2a hvs 20 _ e2
        refine ⟨by show (0 : Int) ≤ ((j + 1 : Nat) : Int); omega, by show ((j + 1 : Nat) : Int) < 30000; omega, fun i hi => ?_⟩
        show vOK (if i = _ then _ else _)
        split
        · exact hb2
        · exact hvs i hi
      · rw [if_neg e2] at h; exact absurd h e2
    · rw [if_neg e1] at h; exact absurd h e1
  · rw [if_neg c1] at h ⊢
    by_cases c2 : (tk 0).getD b 0 = 300
    · rw [if_pos c2] at h ⊢
      have h4 := hq4 (by omega)
      by_cases e1 : (xBra tk N vs 20 (b + 1)).1 = 0
      · rw [if_pos e1] at h ⊢
        dsimp only
        refine ⟨?_, ?_, hvs⟩
        · split <;> omega
        · split <;> omega
      · rw [if_neg e1] at h; exact absurd h e1
    · rw [if_neg c2] at h ⊢
      by_cases c3 : (tk 0).getD b 0 = 301
      · rw [if_pos c3] at h ⊢
        have h4 := hq4 (by omega)
        exact ⟨by dsimp only; omega, by dsimp only; omega, hvs⟩
      · rw [if_neg c3] at h ⊢
        by_cases c4 : (tk 0).getD b 0 = 302
        · rw [if_pos c4] at h ⊢
          have h5 := hq5 (by omega)
          by_cases e1 : (xBra tk N vs 20 (b + 1)).1 = 0
          · rw [if_pos e1] at h ⊢
            dsimp only
            refine ⟨?_, ?_, hvs⟩
            · split <;> omega
            · split <;> omega
          · rw [if_neg e1] at h; exact absurd h e1
        · rw [if_neg c4] at h ⊢
          by_cases c5 : (tk 0).getD b 0 = 304
          · rw [if_pos c5] at h ⊢
            have h5 := hq5 (by omega)
            exact ⟨by dsimp only; omega, by dsimp only; omega, hvs⟩
          · rw [if_neg c5] at h ⊢
            exact ⟨by dsimp only; omega, by dsimp only; omega, hvs⟩
abbrev RnR : Type := (Nat → Int) × Nat × Nat × Nat
/-- a run: the variables, the alarm, its line, the steps -/
def rnF (tk : Nat → List Nat) (N ln : Nat) (lb pa jm : Nat → Int) (fi : Nat → Nat) : Nat → Nat → (Nat → Int) → Nat → RnR
  | 0, now, vs, st => if now < ln then (vs, 15, now + 1, st) else (vs, 0, 0, st)
  | f + 1, now, vs, st => if now < ln then (if (dnF tk N ln lb pa jm vs now (lnB tk (fi now))).1 = 0 then rnF tk N ln lb pa jm fi f (dnF tk N ln lb pa jm vs now (lnB tk (fi now))).2.2.toNat (dnF tk N ln lb pa jm vs now (lnB tk (fi now))).2.1 (st + 1) else (vs, (dnF tk N ln lb pa jm vs now (lnB tk (fi now))).1, now + 1, st + 1)) else (vs, 0, 0, st)
theorem rnF_vs {tk : Nat → List Nat} {N ln : Nat} {fi so : Nat → Nat} {lb pa jm : Nat → Int} (hB2a : ∀ i, (tk 2).getD i 0 < 1000000000) (hln : ln ≤ 16001) (hR : rOK tk N ln fi so lb pa jm) : ∀ (f now : Nat) (vs : Nat → Int) (st : Nat), (∀ i, i < 200 → vOK (vs i)) → (∀ i, i < 200 → vOK ((rnF tk N ln lb pa jm fi f now vs st).1 i)) ∧ (rnF tk N ln lb pa jm fi f now vs st).2.2.2 ≤ f + st
  | 0, now, vs, st, h => by
    unfold rnF
    split
    · exact ⟨h, by show st ≤ 0 + st; omega⟩
    · exact ⟨h, by show st ≤ 0 + st; omega⟩
  | f + 1, now, vs, st, h => by
    unfold rnF
    split
    · rename_i q
      split
      · rename_i q2
        have := rnF_vs hB2a hln hR f (dnF tk N ln lb pa jm vs now (lnB tk (fi now))).2.2.toNat (dnF tk N ln lb pa jm vs now (lnB tk (fi now))).2.1 (st + 1) (dnF_b hB2a h hln hR q q2).2.2
        exact ⟨this.1, by omega⟩
      · exact ⟨h, by show st + 1 ≤ f + 1 + st; omega⟩
    · exact ⟨h, by show st ≤ f + 1 + st; omega⟩
def rnW (cI cJ cB : ClassId) (Z : Nat → Nat) (E X : Nat → Value) (V : Nat → Nat → Int32) (vv : Nat → Int64) (t3 : Value) (a al st an ln : Nat) (fi so : Nat → Nat) (lb pa jm : Nat → Int) : List va_W :=
  [[(Z 0, .inr (8, [.ref (Z 1), E 1, .int (bI true), t3, .int (nI a), E 5, E 6, E 7, E 8, .ref (Z 2), E 10, E 11, E 12, E 13, E 14, .ref (Z 7), .int (nI al), .int (nI st), .int (nI an)]))], [(Z 2, .inr (0, []))], [(Z 1, .inr (7, [X 0, X 1, .ref (Z 3), X 3, .ref (Z 5), X 5, X 6, .ref (Z 9), .ref (Z 10), .ref (Z 11), .ref (Z 12), .ref (Z 13), .int (nI ln)]))], [(Z 3, .inl (cB, 32008, .inl (V 0)))], [(Z 5, .inl (cI, 32008, .inl (V 2)))], [(Z 7, .inl (cJ, 200, .inr (.inl vv)))],
    [(Z 9, .inl (cI, 16002, .inl (fun i => nI (fi i))))], [(Z 10, .inl (cB, 16002, .inl (fun i => nI (so i))))], [(Z 11, .inl (cI, 16002, .inl (fun i => iI (lb i))))], [(Z 12, .inl (cI, 16002, .inl (fun i => iI (pa i))))], [(Z 13, .inl (cI, 16002, .inl (fun i => iI (jm i))))]]
theorem uX10_in_X10_run : ∀ w ∈ u_ws RX10 TX10 19, w ∈ wsX10_run := by decide +kernel
theorem uX9_in_X10_run : ∀ w ∈ u_ws RX9 TX9 13, w ∈ wsX10_run := by decide +kernel
set_option maxHeartbeats 4000000 in
set_option maxRecDepth 100000 in
/-- run(fuel) -/
theorem c_Md_run {Z : Nat → Nat} {E X : Nat → Value} {V : Nat → Nat → Int32} {vv : Nat → Int64} {tk : Nat → List Nat} {vs : Nat → Int} {a al st an ln N : Nat} {t3 : Value} {fi so : Nat → Nat} {lb pa jm : Nat → Int} (hT : tV tk V) (hE : tE tk) (hN : (tk 0).length ≤ N) (hvv : ∀ i, i < 200 → vv i = lI (vs i)) (hvs : ∀ i, i < 200 → vOK (vs i)) (hln : ln ≤ 16001) (hR : rOK tk N ln fi so lb pa jm) (fu : Nat) (hfu : fu ≤ 30000) : HM l yX10_run wsX10_run ({ frames := 173, cells := 0, slots := 0, locals := 7260 } : Room) D G (jT cI cJ cB cZ) [.ref (Z 0), .int (nI fu)] (jF (rnW cI cJ cB Z E X V vv t3 a al st an ln fi so lb pa jm)) (fun v u k n => v = some (.int (nI (rnF tk N ln lb pa jm fi fu 0 vs 0).2.1)) ∧ (∃ (vv2 : Nat → Int64) (t2 : Value) (a2 al2 : Nat), (∀ i, i < 200 → vv2 i = lI ((rnF tk N ln lb pa jm fi fu 0 vs 0).1 i)) ∧ u = jF (rnW cI cJ cB Z E X V vv2 t2 a2 al2 ((rnF tk N ln lb pa jm fi fu 0 vs 0).2.2.2) ((rnF tk N ln lb pa jm fi fu 0 vs 0).2.2.1) ln fi so lb pa jm)) ∧ k = 0 ∧ n = 0) := by
  refine HM_ofT (cc := cX10_run) (maxL := 4) (ret := (some .int)) (hh := [(40, 92, 95, 23)]) (lv := [(0, .ref (Z 0)), (1, .int (nI fu))]) (by decide) rfl rfl (Nat.le_of_ble_eq_true rfl) (fun p e s m args below meth c A0 ls hx hb hr hts hown hlocks hml htab hK hA hAm hl => ?_)
  refine jJ_open (xs := [[(Z 0, .inr (8, [.ref (Z 1), E 1, .int (bI true), t3, .int (nI a), E 5, E 6, E 7, E 8, .ref (Z 2), E 10, E 11, E 12, E 13, E 14, .ref (Z 7), .int (nI al), .int (nI st), .int (nI an)]))], [(Z 2, .inr (0, []))], [(Z 1, .inr (7, [X 0, X 1, .ref (Z 3), X 3, .ref (Z 5), X 5, X 6, .ref (Z 9), .ref (Z 10), .ref (Z 11), .ref (Z 12), .ref (Z 13), .int (nI ln)]))], [(Z 3, .inl (cB, 32008, .inl (V 0)))], [(Z 5, .inl (cI, 32008, .inl (V 2)))], [(Z 7, .inl (cJ, 200, .inr (.inl vv)))], [(Z 9, .inl (cI, 16002, .inl (fun i => nI (fi i))))], [(Z 10, .inl (cB, 16002, .inl (fun i => nI (so i))))], [(Z 11, .inl (cI, 16002, .inl (fun i => iI (lb i))))], [(Z 12, .inl (cI, 16002, .inl (fun i => iI (pa i))))], [(Z 13, .inl (cI, 16002, .inl (fun i => iI (jm i))))]]) (r := []) (cs2 := [[(Z 0, .inr (8, [.ref (Z 1), E 1, .int (bI true), t3, .int (nI a), E 5, E 6, E 7, E 8, .ref (Z 2), E 10, E 11, E 12, E 13, E 14, .ref (Z 7), .int (nI al), .int (nI st), .int (nI an)]))], [(Z 2, .inr (0, []))], [(Z 1, .inr (7, [X 0, X 1, .ref (Z 3), X 3, .ref (Z 5), X 5, X 6, .ref (Z 9), .ref (Z 10), .ref (Z 11), .ref (Z 12), .ref (Z 13), .int (nI ln)]))], [(Z 3, .inl (cB, 32008, .inl (V 0)))], [(Z 5, .inl (cI, 32008, .inl (V 2)))], [(Z 7, .inl (cJ, 200, .inr (.inl vv)))], [(Z 9, .inl (cI, 16002, .inl (fun i => nI (fi i))))], [(Z 10, .inl (cB, 16002, .inl (fun i => nI (so i))))], [(Z 11, .inl (cI, 16002, .inl (fun i => iI (lb i))))], [(Z 12, .inl (cI, 16002, .inl (fun i => iI (pa i))))], [(Z 13, .inl (cI, 16002, .inl (fun i => iI (jm i))))]]) rfl ?_
  have hL9 := hT.1
  have hB2a := fun i => (hT.2.2 i).2.2
  refine jJ_of (fun H locs => lv_aload_n hx hb dX10_run_0 rfl (lv_at hl 0 rfl)) ?_
  refine jJ_get hx hb (C := RX10) (T := TX10) (N := 19) hts uX10_in_X10_run hown hK 0 rfl rfl 2 (by decide) (hts (.fieldLink RX10 239 "ValueBlocksModel" "hasText" "Z") (by decide +kernel)) (fun _ h9 => h9) rfl dX10_run_1 ?_
  refine jJ_of2 (fun H locs => jb_if_eq (tgt := 18) hx hb dX10_run_4 (by decide)) (fun c4 => ?_) (fun c4 => ?_)
  · exact absurd c4 (by decide)
  · refine jJ_of (fun H locs => lv_iload_n hx hb dX10_run_7 rfl (lv_at hl 1 rfl)) ?_
    refine jJ_of2 (fun H locs => jn_if_lt (tgt := 18) hx hb dX10_run_8 (by decide) (by omega)) (fun c8 => ?_) (fun c8 => ?_)
    · exfalso; omega
    · refine jJ_of (fun H locs => lv_iload_n hx hb dX10_run_11 rfl (lv_at hl 1 rfl)) ?_
      refine jJ_of (fun H locs => lv_sipush (v := (nI 30000)) hx hb dX10_run_12 (by decide)) ?_
      refine jJ_of2 (fun H locs => jn_icmp_le (tgt := 20) hx hb dX10_run_15 (by decide) (by omega) (by omega)) (fun c15 => ?_) (fun c15 => ?_)
      · refine jJ_of (fun H locs => lv_aload_n hx hb dX10_run_20 rfl (lv_at hl 0 rfl)) ?_
        refine jJ_of (fun H locs => lv_aload_n hx hb dX10_run_21 rfl (lv_at hl 0 rfl)) ?_
        refine jJ_get hx hb (C := RX10) (T := TX10) (N := 19) hts uX10_in_X10_run hown hK 0 rfl rfl 0 (by decide) (hts (.fieldLink RX10 10 "ValueBlocksModel" "text" "LValueBlocksModel$Text;") (by decide +kernel)) (fun _ h9 => h9) rfl dX10_run_22 ?_
        refine jJ_put hx hb (C := RX10) (T := TX10) (N := 19) (ty := .object "ValueBlocksModel$Text") (v := .ref (Z 1)) hts uX10_in_X10_run tyX10 tyX10_ok nmX10 hown hK 0 rfl rfl 3 (by decide) (hts (.fieldLink RX10 53 "ValueBlocksModel" "t" "LValueBlocksModel$Text;") (by decide +kernel)) (fun _ h9 => h9) rfl (by decide +kernel) rfl rfl (Nat.le_of_ble_eq_true rfl) dX10_run_25 (cs2 := [[(Z 0, .inr (8, [.ref (Z 1), E 1, .int (bI true), .ref (Z 1), .int (nI a), E 5, E 6, E 7, E 8, .ref (Z 2), E 10, E 11, E 12, E 13, E 14, .ref (Z 7), .int (nI al), .int (nI st), .int (nI an)]))], [(Z 2, .inr (0, []))], [(Z 1, .inr (7, [X 0, X 1, .ref (Z 3), X 3, .ref (Z 5), X 5, X 6, .ref (Z 9), .ref (Z 10), .ref (Z 11), .ref (Z 12), .ref (Z 13), .int (nI ln)]))], [(Z 3, .inl (cB, 32008, .inl (V 0)))], [(Z 5, .inl (cI, 32008, .inl (V 2)))], [(Z 7, .inl (cJ, 200, .inr (.inl vv)))], [(Z 9, .inl (cI, 16002, .inl (fun i => nI (fi i))))], [(Z 10, .inl (cB, 16002, .inl (fun i => nI (so i))))], [(Z 11, .inl (cI, 16002, .inl (fun i => iI (lb i))))], [(Z 12, .inl (cI, 16002, .inl (fun i => iI (pa i))))], [(Z 13, .inl (cI, 16002, .inl (fun i => iI (jm i))))]]) rfl ?_
        refine jJ_of (fun H locs => lv_aload_n hx hb dX10_run_28 rfl (lv_at hl 0 rfl)) ?_
        refine jJ_of (fun H locs => lv_iconst (v := (nI 0)) hx hb dX10_run_29 (by decide)) ?_
        refine jJ_put hx hb (C := RX10) (T := TX10) (N := 19) (ty := .int) (v := .int (nI 0)) hts uX10_in_X10_run tyX10 tyX10_ok nmX10 hown hK 0 rfl rfl 17 (by decide) (hts (.fieldLink RX10 300 "ValueBlocksModel" "stepsDone" "I") (by decide +kernel)) (fun _ h9 => h9) rfl (by decide +kernel) rfl rfl (Nat.le_of_ble_eq_true rfl) dX10_run_30 (cs2 := [[(Z 0, .inr (8, [.ref (Z 1), E 1, .int (bI true), .ref (Z 1), .int (nI a), E 5, E 6, E 7, E 8, .ref (Z 2), E 10, E 11, E 12, E 13, E 14, .ref (Z 7), .int (nI al), .int (nI 0), .int (nI an)]))], [(Z 2, .inr (0, []))], [(Z 1, .inr (7, [X 0, X 1, .ref (Z 3), X 3, .ref (Z 5), X 5, X 6, .ref (Z 9), .ref (Z 10), .ref (Z 11), .ref (Z 12), .ref (Z 13), .int (nI ln)]))], [(Z 3, .inl (cB, 32008, .inl (V 0)))], [(Z 5, .inl (cI, 32008, .inl (V 2)))], [(Z 7, .inl (cJ, 200, .inr (.inl vv)))], [(Z 9, .inl (cI, 16002, .inl (fun i => nI (fi i))))], [(Z 10, .inl (cB, 16002, .inl (fun i => nI (so i))))], [(Z 11, .inl (cI, 16002, .inl (fun i => iI (lb i))))], [(Z 12, .inl (cI, 16002, .inl (fun i => iI (pa i))))], [(Z 13, .inl (cI, 16002, .inl (fun i => iI (jm i))))]]) rfl ?_
        refine jJ_of (fun H locs => lv_aload_n hx hb dX10_run_33 rfl (lv_at hl 0 rfl)) ?_
        refine jJ_of (fun H locs => lv_iconst (v := (nI 0)) hx hb dX10_run_34 (by decide)) ?_
        refine jJ_put hx hb (C := RX10) (T := TX10) (N := 19) (ty := .int) (v := .int (nI 0)) hts uX10_in_X10_run tyX10 tyX10_ok nmX10 hown hK 0 rfl rfl 18 (by decide) (hts (.fieldLink RX10 303 "ValueBlocksModel" "alarmLine" "I") (by decide +kernel)) (fun _ h9 => h9) rfl (by decide +kernel) rfl rfl (Nat.le_of_ble_eq_true rfl) dX10_run_35 (cs2 := [[(Z 0, .inr (8, [.ref (Z 1), E 1, .int (bI true), .ref (Z 1), .int (nI a), E 5, E 6, E 7, E 8, .ref (Z 2), E 10, E 11, E 12, E 13, E 14, .ref (Z 7), .int (nI al), .int (nI 0), .int (nI 0)]))], [(Z 2, .inr (0, []))], [(Z 1, .inr (7, [X 0, X 1, .ref (Z 3), X 3, .ref (Z 5), X 5, X 6, .ref (Z 9), .ref (Z 10), .ref (Z 11), .ref (Z 12), .ref (Z 13), .int (nI ln)]))], [(Z 3, .inl (cB, 32008, .inl (V 0)))], [(Z 5, .inl (cI, 32008, .inl (V 2)))], [(Z 7, .inl (cJ, 200, .inr (.inl vv)))], [(Z 9, .inl (cI, 16002, .inl (fun i => nI (fi i))))], [(Z 10, .inl (cB, 16002, .inl (fun i => nI (so i))))], [(Z 11, .inl (cI, 16002, .inl (fun i => iI (lb i))))], [(Z 12, .inl (cI, 16002, .inl (fun i => iI (pa i))))], [(Z 13, .inl (cI, 16002, .inl (fun i => iI (jm i))))]]) rfl ?_
        refine jJ_of (fun H locs => lv_iconst (v := (nI 0)) hx hb dX10_run_38 (by decide)) ?_
        refine jJ_ofL (fun H locs => lv_istore_n (lv' := [(2, .int (nI 0)), (0, .ref (Z 0)), (1, .int (nI fu))]) hx hb dX10_run_39 rfl hl (by decide) rfl) (fun ls hl => ?_)
        suffices lp9 : ∀ (f now : Nat) (vs1 : Nat → Int) (vv1 : Nat → Int64) (a1 al1 st1 an1 : Nat), f + st1 = fu → now < 40000 → (∀ i, i < 200 → vv1 i = lI (vs1 i)) → (∀ i, i < 200 → vOK (vs1 i)) → rnF tk N ln lb pa jm fi f now vs1 st1 = rnF tk N ln lb pa jm fi fu 0 vs 0 → ∀ ls, lv_has ls 4 [(2, .int (nI now)), (0, .ref (Z 0)), (1, .int (nI fu))] → jJ p l e _ s m args below meth c D A0 [[(Z 0, .inr (8, [.ref (Z 1), E 1, .int (bI true), .ref (Z 1), .int (nI a1), E 5, E 6, E 7, E 8, .ref (Z 2), E 10, E 11, E 12, E 13, E 14, .ref (Z 7), .int (nI al1), .int (nI st1), .int (nI an1)]))], [(Z 2, .inr (0, []))], [(Z 1, .inr (7, [X 0, X 1, .ref (Z 3), X 3, .ref (Z 5), X 5, X 6, .ref (Z 9), .ref (Z 10), .ref (Z 11), .ref (Z 12), .ref (Z 13), .int (nI ln)]))], [(Z 3, .inl (cB, 32008, .inl (V 0)))], [(Z 5, .inl (cI, 32008, .inl (V 2)))], [(Z 7, .inl (cJ, 200, .inr (.inl vv1)))], [(Z 9, .inl (cI, 16002, .inl (fun i => nI (fi i))))], [(Z 10, .inl (cB, 16002, .inl (fun i => nI (so i))))], [(Z 11, .inl (cI, 16002, .inl (fun i => iI (lb i))))], [(Z 12, .inl (cI, 16002, .inl (fun i => iI (pa i))))], [(Z 13, .inl (cI, 16002, .inl (fun i => iI (jm i))))]] 0 0 (jEnd below D A0 _ args s _ _) (F0 m 40 ls []) from lp9 fu 0 vs vv a al 0 0 rfl (by omega) hvv hvs rfl ls (lv_sub hl [0, 1, 2] rfl)
        intro f
        induction f with
        | zero =>
          intro now vs1 vv1 a1 al1 st1 an1 h9 hnow hvv1 hvs1 hcl ls hl
          refine jJ_of (fun H locs => lv_iload_n hx hb dX10_run_40 rfl (lv_at hl 0 rfl)) ?_
          refine jJ_of (fun H locs => lv_aload_n hx hb dX10_run_41 rfl (lv_at hl 1 rfl)) ?_
          refine jJ_get hx hb (C := RX10) (T := TX10) (N := 19) hts uX10_in_X10_run hown hK 0 rfl rfl 3 (by decide) (hts (.fieldLink RX10 53 "ValueBlocksModel" "t" "LValueBlocksModel$Text;") (by decide +kernel)) (fun _ h9 => h9) rfl dX10_run_42 ?_
          refine jJ_get hx hb (C := RX9) (T := TX9) (N := 13) hts uX9_in_X10_run hown hK 2 rfl rfl 12 (by decide) (hts (.fieldLink RX10 215 "ValueBlocksModel$Text" "lines" "I") (by decide +kernel)) (fun _ h9 => h9) rfl dX10_run_45 ?_
          refine jJ_of2 (fun H locs => jn_icmp_ge (tgt := 92) hx hb dX10_run_48 (by decide) (by omega) (by omega)) (fun c48 => ?_) (fun c48 => ?_)
          · refine jJ_of (fun H locs => lv_goto (tgt := 101) hx hb dX10_run_92 (by decide)) ?_
            refine jJ_of (fun H locs => lv_aload_n hx hb dX10_run_101 rfl (lv_at hl 1 rfl)) ?_
            refine jJ_of (fun H locs => lv_iconst (v := (nI 0)) hx hb dX10_run_102 (by decide)) ?_
            refine jJ_put hx hb (C := RX10) (T := TX10) (N := 19) (ty := .int) (v := .int (nI 0)) hts uX10_in_X10_run tyX10 tyX10_ok nmX10 hown hK 0 rfl rfl 18 (by decide) (hts (.fieldLink RX10 303 "ValueBlocksModel" "alarmLine" "I") (by decide +kernel)) (fun _ h9 => h9) rfl (by decide +kernel) rfl rfl (Nat.le_of_ble_eq_true rfl) dX10_run_103 (cs2 := [[(Z 0, .inr (8, [.ref (Z 1), E 1, .int (bI true), .ref (Z 1), .int (nI a1), E 5, E 6, E 7, E 8, .ref (Z 2), E 10, E 11, E 12, E 13, E 14, .ref (Z 7), .int (nI al1), .int (nI st1), .int (nI 0)]))], [(Z 2, .inr (0, []))], [(Z 1, .inr (7, [X 0, X 1, .ref (Z 3), X 3, .ref (Z 5), X 5, X 6, .ref (Z 9), .ref (Z 10), .ref (Z 11), .ref (Z 12), .ref (Z 13), .int (nI ln)]))], [(Z 3, .inl (cB, 32008, .inl (V 0)))], [(Z 5, .inl (cI, 32008, .inl (V 2)))], [(Z 7, .inl (cJ, 200, .inr (.inl vv1)))], [(Z 9, .inl (cI, 16002, .inl (fun i => nI (fi i))))], [(Z 10, .inl (cB, 16002, .inl (fun i => nI (so i))))], [(Z 11, .inl (cI, 16002, .inl (fun i => iI (lb i))))], [(Z 12, .inl (cI, 16002, .inl (fun i => iI (pa i))))], [(Z 13, .inl (cI, 16002, .inl (fun i => iI (jm i))))]]) rfl ?_
            refine jJ_of (fun H locs => lv_iconst (v := (nI 0)) hx hb dX10_run_106 (by decide)) ?_
            have he : rnF tk N ln lb pa jm fi fu 0 vs 0 = (vs1, 0, 0, st1) := by rw [← hcl]; exact if_neg (by omega)
            exact jJ_iret hx hb hr hlocks dX10_run_107 (by show _ ≤ 0; omega) (by show _ ≤ 0; omega) ⟨by rw [he], ⟨vv1, _, _, _, by rw [he]; exact hvv1, by rw [he]; rfl⟩, rfl, rfl⟩
          · refine jJ_of (fun H locs => lv_aload_n hx hb dX10_run_51 rfl (lv_at hl 1 rfl)) ?_
            refine jJ_of (fun H locs => lv_iload_n hx hb dX10_run_52 rfl (lv_at hl 0 rfl)) ?_
            refine jJ_of (fun H locs => lv_iconst (v := (nI 1)) hx hb dX10_run_53 (by decide)) ?_
            refine jJ_of (fun H locs => jn_iadd hx hb dX10_run_54) ?_
            refine jJ_put hx hb (C := RX10) (T := TX10) (N := 19) (ty := .int) (v := .int (nI (now + 1))) hts uX10_in_X10_run tyX10 tyX10_ok nmX10 hown hK 0 rfl rfl 18 (by decide) (hts (.fieldLink RX10 303 "ValueBlocksModel" "alarmLine" "I") (by decide +kernel)) (fun _ h9 => h9) rfl (by decide +kernel) rfl rfl (Nat.le_of_ble_eq_true rfl) dX10_run_55 (cs2 := [[(Z 0, .inr (8, [.ref (Z 1), E 1, .int (bI true), .ref (Z 1), .int (nI a1), E 5, E 6, E 7, E 8, .ref (Z 2), E 10, E 11, E 12, E 13, E 14, .ref (Z 7), .int (nI al1), .int (nI st1), .int (nI (now + 1))]))], [(Z 2, .inr (0, []))], [(Z 1, .inr (7, [X 0, X 1, .ref (Z 3), X 3, .ref (Z 5), X 5, X 6, .ref (Z 9), .ref (Z 10), .ref (Z 11), .ref (Z 12), .ref (Z 13), .int (nI ln)]))], [(Z 3, .inl (cB, 32008, .inl (V 0)))], [(Z 5, .inl (cI, 32008, .inl (V 2)))], [(Z 7, .inl (cJ, 200, .inr (.inl vv1)))], [(Z 9, .inl (cI, 16002, .inl (fun i => nI (fi i))))], [(Z 10, .inl (cB, 16002, .inl (fun i => nI (so i))))], [(Z 11, .inl (cI, 16002, .inl (fun i => iI (lb i))))], [(Z 12, .inl (cI, 16002, .inl (fun i => iI (pa i))))], [(Z 13, .inl (cI, 16002, .inl (fun i => iI (jm i))))]]) rfl ?_
            refine jJ_of (fun H locs => lv_aload_n hx hb dX10_run_58 rfl (lv_at hl 1 rfl)) ?_
            refine jJ_get hx hb (C := RX10) (T := TX10) (N := 19) hts uX10_in_X10_run hown hK 0 rfl rfl 17 (by decide) (hts (.fieldLink RX10 300 "ValueBlocksModel" "stepsDone" "I") (by decide +kernel)) (fun _ h9 => h9) rfl dX10_run_59 ?_
            refine jJ_of (fun H locs => lv_iload_n hx hb dX10_run_62 rfl (lv_at hl 2 rfl)) ?_
            refine jJ_of2 (fun H locs => jn_icmp_ne (tgt := 73) hx hb dX10_run_63 (by decide) (by omega) (by omega)) (fun c63 => ?_) (fun c63 => ?_)
            · exfalso; omega
            · refine jJ_of (fun H locs => lv_aload_n hx hb dX10_run_66 rfl (lv_at hl 1 rfl)) ?_
              refine jJ_of (fun H locs => lv_bipush (v := (nI 15)) hx hb dX10_run_67 (by decide)) ?_
              refine jJ_callV (As := [.int (nI 15)]) (rest := []) (wc := jF (aWd Z (lsV [.ref (Z 1), E 1, .int (bI true), .ref (Z 1), .int (nI a1), E 5, E 6, E 7, E 8, .null, E 10, E 11, E 12, E 13, E 14, .ref (Z 7), .null, .int (nI st1), .int (nI (now + 1))]) al1)) (cs2 := [[(Z 1, .inr (7, [X 0, X 1, .ref (Z 3), X 3, .ref (Z 5), X 5, X 6, .ref (Z 9), .ref (Z 10), .ref (Z 11), .ref (Z 12), .ref (Z 13), .int (nI ln)]))], [(Z 3, .inl (cB, 32008, .inl (V 0)))], [(Z 5, .inl (cI, 32008, .inl (V 2)))], [(Z 7, .inl (cJ, 200, .inr (.inl vv1)))], [(Z 9, .inl (cI, 16002, .inl (fun i => nI (fi i))))], [(Z 10, .inl (cB, 16002, .inl (fun i => nI (so i))))], [(Z 11, .inl (cI, 16002, .inl (fun i => iI (lb i))))], [(Z 12, .inl (cI, 16002, .inl (fun i => iI (pa i))))], [(Z 13, .inl (cI, 16002, .inl (fun i => iI (jm i))))]]) (C := RX10) (T := TX10) (N := 19) (ci := 8) [0, 1] [2, 3, 4, 5, 6, 7, 8, 9, 10] ⟨hx, hb, hml, hown, hts⟩ hK hA hAm (c_Md_alarmed (E := lsV [.ref (Z 1), E 1, .int (bI true), .ref (Z 1), .int (nI a1), E 5, E 6, E 7, E 8, .null, E 10, E 11, E 12, E 13, E 14, .ref (Z 7), .null, .int (nI st1), .int (nI (now + 1))]) (al := al1) 15) (cwV 1 hts gX10_run_X10_alarmed rfl rfl rfl (by decide +kernel) ⟨Nat.le_of_ble_eq_true rfl, Nat.le_of_ble_eq_true rfl⟩) (nn := 11) rfl (by decide) rfl rfl ⟨0, _, rfl⟩ rfl rfl rfl hl.1 (Nat.le_of_ble_eq_true rfl) dX10_run_69 (by show _ + 0 ≤ 0; omega) (by show _ + 0 ≤ 0; omega) (fun v u1 k1 n1 hq1 => ?_)
              obtain ⟨rfl, hw1, rfl, rfl⟩ := hq1
              rw [hw1]
              refine jJ_open (xs := [[(Z 0, .inr (8, [.ref (Z 1), E 1, .int (bI true), .ref (Z 1), .int (nI a1), E 5, E 6, E 7, E 8, .ref (Z 2), E 10, E 11, E 12, E 13, E 14, .ref (Z 7), .int (nI 15), .int (nI st1), .int (nI (now + 1))]))], [(Z 2, .inr (0, []))]]) (r := [[(Z 1, .inr (7, [X 0, X 1, .ref (Z 3), X 3, .ref (Z 5), X 5, X 6, .ref (Z 9), .ref (Z 10), .ref (Z 11), .ref (Z 12), .ref (Z 13), .int (nI ln)]))], [(Z 3, .inl (cB, 32008, .inl (V 0)))], [(Z 5, .inl (cI, 32008, .inl (V 2)))], [(Z 7, .inl (cJ, 200, .inr (.inl vv1)))], [(Z 9, .inl (cI, 16002, .inl (fun i => nI (fi i))))], [(Z 10, .inl (cB, 16002, .inl (fun i => nI (so i))))], [(Z 11, .inl (cI, 16002, .inl (fun i => iI (lb i))))], [(Z 12, .inl (cI, 16002, .inl (fun i => iI (pa i))))], [(Z 13, .inl (cI, 16002, .inl (fun i => iI (jm i))))]]) (cs2 := [[(Z 0, .inr (8, [.ref (Z 1), E 1, .int (bI true), .ref (Z 1), .int (nI a1), E 5, E 6, E 7, E 8, .ref (Z 2), E 10, E 11, E 12, E 13, E 14, .ref (Z 7), .int (nI 15), .int (nI st1), .int (nI (now + 1))]))], [(Z 2, .inr (0, []))], [(Z 1, .inr (7, [X 0, X 1, .ref (Z 3), X 3, .ref (Z 5), X 5, X 6, .ref (Z 9), .ref (Z 10), .ref (Z 11), .ref (Z 12), .ref (Z 13), .int (nI ln)]))], [(Z 3, .inl (cB, 32008, .inl (V 0)))], [(Z 5, .inl (cI, 32008, .inl (V 2)))], [(Z 7, .inl (cJ, 200, .inr (.inl vv1)))], [(Z 9, .inl (cI, 16002, .inl (fun i => nI (fi i))))], [(Z 10, .inl (cB, 16002, .inl (fun i => nI (so i))))], [(Z 11, .inl (cI, 16002, .inl (fun i => iI (lb i))))], [(Z 12, .inl (cI, 16002, .inl (fun i => iI (pa i))))], [(Z 13, .inl (cI, 16002, .inl (fun i => iI (jm i))))]]) rfl ?_
              refine jJ_eq (g2 := F0 m 72 ls [.ref (Z 2)]) (cs2 := [[(Z 0, .inr (8, [.ref (Z 1), E 1, .int (bI true), .ref (Z 1), .int (nI a1), E 5, E 6, E 7, E 8, .ref (Z 2), E 10, E 11, E 12, E 13, E 14, .ref (Z 7), .int (nI 15), .int (nI st1), .int (nI (now + 1))]))], [(Z 2, .inr (0, []))], [(Z 1, .inr (7, [X 0, X 1, .ref (Z 3), X 3, .ref (Z 5), X 5, X 6, .ref (Z 9), .ref (Z 10), .ref (Z 11), .ref (Z 12), .ref (Z 13), .int (nI ln)]))], [(Z 3, .inl (cB, 32008, .inl (V 0)))], [(Z 5, .inl (cI, 32008, .inl (V 2)))], [(Z 7, .inl (cJ, 200, .inr (.inl vv1)))], [(Z 9, .inl (cI, 16002, .inl (fun i => nI (fi i))))], [(Z 10, .inl (cB, 16002, .inl (fun i => nI (so i))))], [(Z 11, .inl (cI, 16002, .inl (fun i => iI (lb i))))], [(Z 12, .inl (cI, 16002, .inl (fun i => iI (pa i))))], [(Z 13, .inl (cI, 16002, .inl (fun i => iI (jm i))))]]) rfl rfl ?_
              refine jJ_athrow hx hb hK 1 rfl dX10_run_72 ?_
              refine jJx_catch ⟨40, 92, 95, 23⟩ hown htab (by decide) (by decide) (hts (.classLink RX10 23 RJxb5711) (by decide +kernel)) ?_
              refine jJ_eq (g2 := F0 m 95 ls [.ref (Z 2)]) (cs2 := [[(Z 0, .inr (8, [.ref (Z 1), E 1, .int (bI true), .ref (Z 1), .int (nI a1), E 5, E 6, E 7, E 8, .ref (Z 2), E 10, E 11, E 12, E 13, E 14, .ref (Z 7), .int (nI 15), .int (nI st1), .int (nI (now + 1))]))], [(Z 2, .inr (0, []))], [(Z 1, .inr (7, [X 0, X 1, .ref (Z 3), X 3, .ref (Z 5), X 5, X 6, .ref (Z 9), .ref (Z 10), .ref (Z 11), .ref (Z 12), .ref (Z 13), .int (nI ln)]))], [(Z 3, .inl (cB, 32008, .inl (V 0)))], [(Z 5, .inl (cI, 32008, .inl (V 2)))], [(Z 7, .inl (cJ, 200, .inr (.inl vv1)))], [(Z 9, .inl (cI, 16002, .inl (fun i => nI (fi i))))], [(Z 10, .inl (cB, 16002, .inl (fun i => nI (so i))))], [(Z 11, .inl (cI, 16002, .inl (fun i => iI (lb i))))], [(Z 12, .inl (cI, 16002, .inl (fun i => iI (pa i))))], [(Z 13, .inl (cI, 16002, .inl (fun i => iI (jm i))))]]) rfl rfl ?_
              refine jJ_ofL (fun H locs => lv_astore_n (lv' := [(3, .ref (Z 2)), (2, .int (nI now)), (0, .ref (Z 0)), (1, .int (nI fu))]) hx hb dX10_run_95 rfl hl (by decide) rfl) (fun ls hl => ?_)
              refine jJ_of (fun H locs => lv_aload_n hx hb dX10_run_96 rfl (lv_at hl 2 rfl)) ?_
              refine jJ_get hx hb (C := RX10) (T := TX10) (N := 19) hts uX10_in_X10_run hown hK 0 rfl rfl 16 (by decide) (hts (.fieldLink RX10 247 "ValueBlocksModel" "alarm" "I") (by decide +kernel)) (fun _ h9 => h9) rfl dX10_run_97 ?_
              have he : rnF tk N ln lb pa jm fi fu 0 vs 0 = (vs1, 15, now + 1, st1) := by rw [← hcl]; exact if_pos (by omega)
              exact jJ_iret hx hb hr hlocks dX10_run_100 (by show _ ≤ 0; omega) (by show _ ≤ 0; omega) ⟨by rw [he], ⟨vv1, _, _, _, by rw [he]; exact hvv1, by rw [he]; rfl⟩, rfl, rfl⟩
        | succ f ih =>
          intro now vs1 vv1 a1 al1 st1 an1 h9 hnow hvv1 hvs1 hcl ls hl
          refine jJ_of (fun H locs => lv_iload_n hx hb dX10_run_40 rfl (lv_at hl 0 rfl)) ?_
          refine jJ_of (fun H locs => lv_aload_n hx hb dX10_run_41 rfl (lv_at hl 1 rfl)) ?_
          refine jJ_get hx hb (C := RX10) (T := TX10) (N := 19) hts uX10_in_X10_run hown hK 0 rfl rfl 3 (by decide) (hts (.fieldLink RX10 53 "ValueBlocksModel" "t" "LValueBlocksModel$Text;") (by decide +kernel)) (fun _ h9 => h9) rfl dX10_run_42 ?_
          refine jJ_get hx hb (C := RX9) (T := TX9) (N := 13) hts uX9_in_X10_run hown hK 2 rfl rfl 12 (by decide) (hts (.fieldLink RX10 215 "ValueBlocksModel$Text" "lines" "I") (by decide +kernel)) (fun _ h9 => h9) rfl dX10_run_45 ?_
          refine jJ_of2 (fun H locs => jn_icmp_ge (tgt := 92) hx hb dX10_run_48 (by decide) (by omega) (by omega)) (fun c48 => ?_) (fun c48 => ?_)
          · refine jJ_of (fun H locs => lv_goto (tgt := 101) hx hb dX10_run_92 (by decide)) ?_
            refine jJ_of (fun H locs => lv_aload_n hx hb dX10_run_101 rfl (lv_at hl 1 rfl)) ?_
            refine jJ_of (fun H locs => lv_iconst (v := (nI 0)) hx hb dX10_run_102 (by decide)) ?_
            refine jJ_put hx hb (C := RX10) (T := TX10) (N := 19) (ty := .int) (v := .int (nI 0)) hts uX10_in_X10_run tyX10 tyX10_ok nmX10 hown hK 0 rfl rfl 18 (by decide) (hts (.fieldLink RX10 303 "ValueBlocksModel" "alarmLine" "I") (by decide +kernel)) (fun _ h9 => h9) rfl (by decide +kernel) rfl rfl (Nat.le_of_ble_eq_true rfl) dX10_run_103 (cs2 := [[(Z 0, .inr (8, [.ref (Z 1), E 1, .int (bI true), .ref (Z 1), .int (nI a1), E 5, E 6, E 7, E 8, .ref (Z 2), E 10, E 11, E 12, E 13, E 14, .ref (Z 7), .int (nI al1), .int (nI st1), .int (nI 0)]))], [(Z 2, .inr (0, []))], [(Z 1, .inr (7, [X 0, X 1, .ref (Z 3), X 3, .ref (Z 5), X 5, X 6, .ref (Z 9), .ref (Z 10), .ref (Z 11), .ref (Z 12), .ref (Z 13), .int (nI ln)]))], [(Z 3, .inl (cB, 32008, .inl (V 0)))], [(Z 5, .inl (cI, 32008, .inl (V 2)))], [(Z 7, .inl (cJ, 200, .inr (.inl vv1)))], [(Z 9, .inl (cI, 16002, .inl (fun i => nI (fi i))))], [(Z 10, .inl (cB, 16002, .inl (fun i => nI (so i))))], [(Z 11, .inl (cI, 16002, .inl (fun i => iI (lb i))))], [(Z 12, .inl (cI, 16002, .inl (fun i => iI (pa i))))], [(Z 13, .inl (cI, 16002, .inl (fun i => iI (jm i))))]]) rfl ?_
            refine jJ_of (fun H locs => lv_iconst (v := (nI 0)) hx hb dX10_run_106 (by decide)) ?_
            have he : rnF tk N ln lb pa jm fi fu 0 vs 0 = (vs1, 0, 0, st1) := by rw [← hcl]; exact if_neg (by omega)
            exact jJ_iret hx hb hr hlocks dX10_run_107 (by show _ ≤ 0; omega) (by show _ ≤ 0; omega) ⟨by rw [he], ⟨vv1, _, _, _, by rw [he]; exact hvv1, by rw [he]; rfl⟩, rfl, rfl⟩
          · refine jJ_of (fun H locs => lv_aload_n hx hb dX10_run_51 rfl (lv_at hl 1 rfl)) ?_
            refine jJ_of (fun H locs => lv_iload_n hx hb dX10_run_52 rfl (lv_at hl 0 rfl)) ?_
            refine jJ_of (fun H locs => lv_iconst (v := (nI 1)) hx hb dX10_run_53 (by decide)) ?_
            refine jJ_of (fun H locs => jn_iadd hx hb dX10_run_54) ?_
            refine jJ_put hx hb (C := RX10) (T := TX10) (N := 19) (ty := .int) (v := .int (nI (now + 1))) hts uX10_in_X10_run tyX10 tyX10_ok nmX10 hown hK 0 rfl rfl 18 (by decide) (hts (.fieldLink RX10 303 "ValueBlocksModel" "alarmLine" "I") (by decide +kernel)) (fun _ h9 => h9) rfl (by decide +kernel) rfl rfl (Nat.le_of_ble_eq_true rfl) dX10_run_55 (cs2 := [[(Z 0, .inr (8, [.ref (Z 1), E 1, .int (bI true), .ref (Z 1), .int (nI a1), E 5, E 6, E 7, E 8, .ref (Z 2), E 10, E 11, E 12, E 13, E 14, .ref (Z 7), .int (nI al1), .int (nI st1), .int (nI (now + 1))]))], [(Z 2, .inr (0, []))], [(Z 1, .inr (7, [X 0, X 1, .ref (Z 3), X 3, .ref (Z 5), X 5, X 6, .ref (Z 9), .ref (Z 10), .ref (Z 11), .ref (Z 12), .ref (Z 13), .int (nI ln)]))], [(Z 3, .inl (cB, 32008, .inl (V 0)))], [(Z 5, .inl (cI, 32008, .inl (V 2)))], [(Z 7, .inl (cJ, 200, .inr (.inl vv1)))], [(Z 9, .inl (cI, 16002, .inl (fun i => nI (fi i))))], [(Z 10, .inl (cB, 16002, .inl (fun i => nI (so i))))], [(Z 11, .inl (cI, 16002, .inl (fun i => iI (lb i))))], [(Z 12, .inl (cI, 16002, .inl (fun i => iI (pa i))))], [(Z 13, .inl (cI, 16002, .inl (fun i => iI (jm i))))]]) rfl ?_
            refine jJ_of (fun H locs => lv_aload_n hx hb dX10_run_58 rfl (lv_at hl 1 rfl)) ?_
            refine jJ_get hx hb (C := RX10) (T := TX10) (N := 19) hts uX10_in_X10_run hown hK 0 rfl rfl 17 (by decide) (hts (.fieldLink RX10 300 "ValueBlocksModel" "stepsDone" "I") (by decide +kernel)) (fun _ h9 => h9) rfl dX10_run_59 ?_
            refine jJ_of (fun H locs => lv_iload_n hx hb dX10_run_62 rfl (lv_at hl 2 rfl)) ?_
            refine jJ_of2 (fun H locs => jn_icmp_ne (tgt := 73) hx hb dX10_run_63 (by decide) (by omega) (by omega)) (fun c63 => ?_) (fun c63 => ?_)
            · refine jJ_of (fun H locs => lv_aload_n hx hb dX10_run_73 rfl (lv_at hl 1 rfl)) ?_
              refine jJ_of (fun H locs => lv_dup hx hb dX10_run_74 rfl) ?_
              refine jJ_get hx hb (C := RX10) (T := TX10) (N := 19) hts uX10_in_X10_run hown hK 0 rfl rfl 17 (by decide) (hts (.fieldLink RX10 300 "ValueBlocksModel" "stepsDone" "I") (by decide +kernel)) (fun _ h9 => h9) rfl dX10_run_75 ?_
              refine jJ_of (fun H locs => lv_iconst (v := (nI 1)) hx hb dX10_run_78 (by decide)) ?_
              refine jJ_of (fun H locs => jn_iadd hx hb dX10_run_79) ?_
              refine jJ_put hx hb (C := RX10) (T := TX10) (N := 19) (ty := .int) (v := .int (nI (st1 + 1))) hts uX10_in_X10_run tyX10 tyX10_ok nmX10 hown hK 0 rfl rfl 17 (by decide) (hts (.fieldLink RX10 300 "ValueBlocksModel" "stepsDone" "I") (by decide +kernel)) (fun _ h9 => h9) rfl (by decide +kernel) rfl rfl (Nat.le_of_ble_eq_true rfl) dX10_run_80 (cs2 := [[(Z 0, .inr (8, [.ref (Z 1), E 1, .int (bI true), .ref (Z 1), .int (nI a1), E 5, E 6, E 7, E 8, .ref (Z 2), E 10, E 11, E 12, E 13, E 14, .ref (Z 7), .int (nI al1), .int (nI (st1 + 1)), .int (nI (now + 1))]))], [(Z 2, .inr (0, []))], [(Z 1, .inr (7, [X 0, X 1, .ref (Z 3), X 3, .ref (Z 5), X 5, X 6, .ref (Z 9), .ref (Z 10), .ref (Z 11), .ref (Z 12), .ref (Z 13), .int (nI ln)]))], [(Z 3, .inl (cB, 32008, .inl (V 0)))], [(Z 5, .inl (cI, 32008, .inl (V 2)))], [(Z 7, .inl (cJ, 200, .inr (.inl vv1)))], [(Z 9, .inl (cI, 16002, .inl (fun i => nI (fi i))))], [(Z 10, .inl (cB, 16002, .inl (fun i => nI (so i))))], [(Z 11, .inl (cI, 16002, .inl (fun i => iI (lb i))))], [(Z 12, .inl (cI, 16002, .inl (fun i => iI (pa i))))], [(Z 13, .inl (cI, 16002, .inl (fun i => iI (jm i))))]]) rfl ?_
              refine jJ_of (fun H locs => lv_aload_n hx hb dX10_run_83 rfl (lv_at hl 1 rfl)) ?_
              refine jJ_of (fun H locs => lv_iload_n hx hb dX10_run_84 rfl (lv_at hl 0 rfl)) ?_
              obtain ⟨ra2, rv2, rn2, hr2⟩ : ∃ (x1 : Nat) (x2 : Nat → Int) (x3 : Int), dnF tk N ln lb pa jm vs1 now (lnB tk (fi now)) = (x1, x2, x3) := ⟨_, _, _, rfl⟩
              have hdb2 := dnF_b (vs := vs1) hB2a hvs1 hln hR (j := now) (by omega)
              rw [hr2] at hdb2
              dsimp only at hdb2
              refine jX_callV (As := [.int (nI now)]) (rest := []) (wc := jF (dnW cI cJ cB Z (lsV [.ref (Z 1), E 1, .int (bI true), .null, .null, E 5, E 6, E 7, E 8, .null, E 10, E 11, E 12, E 13, E 14, .null, .null, .int (nI (st1 + 1)), .int (nI (now + 1))]) (lsV [X 0, X 1, .null, X 3, .null, X 5, X 6, .null, .null, .null, .null, .null, .null]) V vv1 a1 al1 ln fi so lb pa jm)) (cs2 := []) (C := RX10) (T := TX10) (N := 19) (ci := 8) [0, 1, 2, 3, 4, 5, 6, 7, 8, 9, 10] [] ⟨hx, hb, hml, hown, hts⟩ hK hA hAm (c_Md_done (E := lsV [.ref (Z 1), E 1, .int (bI true), .null, .null, E 5, E 6, E 7, E 8, .null, E 10, E 11, E 12, E 13, E 14, .null, .null, .int (nI (st1 + 1)), .int (nI (now + 1))]) (X := lsV [X 0, X 1, .null, X 3, .null, X 5, X 6, .null, .null, .null, .null, .null, .null]) (V := V) (a := a1) (al := al1) hT hE hN hvv1 hvs1 hln hR now (by omega)) (cwV 1 hts gX10_run_X10_done rfl rfl rfl (by decide +kernel) ⟨Nat.le_of_ble_eq_true rfl, Nat.le_of_ble_eq_true rfl⟩) (nn := 11) rfl (by decide) rfl rfl ⟨0, _, rfl⟩ rfl rfl rfl hl.1 (Nat.le_of_ble_eq_true rfl) dX10_run_85 (by show _ + 0 ≤ 0; omega) (by show _ + 0 ≤ 0; omega) (fun u2 k2 n2 q2 hx2 => ?_) (fun v u2 k2 n2 hq2 => ?_)
              · rw [hr2] at hx2
                dsimp only at hx2
                obtain ⟨hnz2, ⟨ab2, hu2⟩, rfl, rfl⟩ := hx2
                rw [hu2]
                refine jJx_catch ⟨40, 92, 95, 23⟩ hown htab (by decide) (by decide) (hts (.classLink RX10 23 RJxb5711) (by decide +kernel)) ?_
                refine jJ_open (xs := [[(Z 0, .inr (8, [.ref (Z 1), E 1, .int (bI true), .ref (Z 1), .int (nI ab2), E 5, E 6, E 7, E 8, .ref (Z 2), E 10, E 11, E 12, E 13, E 14, .ref (Z 7), .int (nI ra2), .int (nI (st1 + 1)), .int (nI (now + 1))]))], [(Z 2, .inr (0, []))], [(Z 1, .inr (7, [X 0, X 1, .ref (Z 3), X 3, .ref (Z 5), X 5, X 6, .ref (Z 9), .ref (Z 10), .ref (Z 11), .ref (Z 12), .ref (Z 13), .int (nI ln)]))], [(Z 3, .inl (cB, 32008, .inl (V 0)))], [(Z 5, .inl (cI, 32008, .inl (V 2)))], [(Z 7, .inl (cJ, 200, .inr (.inl vv1)))], [(Z 9, .inl (cI, 16002, .inl (fun i => nI (fi i))))], [(Z 10, .inl (cB, 16002, .inl (fun i => nI (so i))))], [(Z 11, .inl (cI, 16002, .inl (fun i => iI (lb i))))], [(Z 12, .inl (cI, 16002, .inl (fun i => iI (pa i))))], [(Z 13, .inl (cI, 16002, .inl (fun i => iI (jm i))))]]) (r := []) (cs2 := [[(Z 0, .inr (8, [.ref (Z 1), E 1, .int (bI true), .ref (Z 1), .int (nI ab2), E 5, E 6, E 7, E 8, .ref (Z 2), E 10, E 11, E 12, E 13, E 14, .ref (Z 7), .int (nI ra2), .int (nI (st1 + 1)), .int (nI (now + 1))]))], [(Z 2, .inr (0, []))], [(Z 1, .inr (7, [X 0, X 1, .ref (Z 3), X 3, .ref (Z 5), X 5, X 6, .ref (Z 9), .ref (Z 10), .ref (Z 11), .ref (Z 12), .ref (Z 13), .int (nI ln)]))], [(Z 3, .inl (cB, 32008, .inl (V 0)))], [(Z 5, .inl (cI, 32008, .inl (V 2)))], [(Z 7, .inl (cJ, 200, .inr (.inl vv1)))], [(Z 9, .inl (cI, 16002, .inl (fun i => nI (fi i))))], [(Z 10, .inl (cB, 16002, .inl (fun i => nI (so i))))], [(Z 11, .inl (cI, 16002, .inl (fun i => iI (lb i))))], [(Z 12, .inl (cI, 16002, .inl (fun i => iI (pa i))))], [(Z 13, .inl (cI, 16002, .inl (fun i => iI (jm i))))]]) rfl ?_
                refine jJ_eq (g2 := F0 m 95 ls [.ref q2]) (cs2 := [[(Z 0, .inr (8, [.ref (Z 1), E 1, .int (bI true), .ref (Z 1), .int (nI ab2), E 5, E 6, E 7, E 8, .ref (Z 2), E 10, E 11, E 12, E 13, E 14, .ref (Z 7), .int (nI ra2), .int (nI (st1 + 1)), .int (nI (now + 1))]))], [(Z 2, .inr (0, []))], [(Z 1, .inr (7, [X 0, X 1, .ref (Z 3), X 3, .ref (Z 5), X 5, X 6, .ref (Z 9), .ref (Z 10), .ref (Z 11), .ref (Z 12), .ref (Z 13), .int (nI ln)]))], [(Z 3, .inl (cB, 32008, .inl (V 0)))], [(Z 5, .inl (cI, 32008, .inl (V 2)))], [(Z 7, .inl (cJ, 200, .inr (.inl vv1)))], [(Z 9, .inl (cI, 16002, .inl (fun i => nI (fi i))))], [(Z 10, .inl (cB, 16002, .inl (fun i => nI (so i))))], [(Z 11, .inl (cI, 16002, .inl (fun i => iI (lb i))))], [(Z 12, .inl (cI, 16002, .inl (fun i => iI (pa i))))], [(Z 13, .inl (cI, 16002, .inl (fun i => iI (jm i))))]]) rfl rfl ?_
                refine jJ_ofL (fun H locs => lv_astore_n (lv' := [(3, .ref q2), (2, .int (nI now)), (0, .ref (Z 0)), (1, .int (nI fu))]) hx hb dX10_run_95 rfl hl (by decide) rfl) (fun ls hl => ?_)
                refine jJ_of (fun H locs => lv_aload_n hx hb dX10_run_96 rfl (lv_at hl 2 rfl)) ?_
                refine jJ_get hx hb (C := RX10) (T := TX10) (N := 19) hts uX10_in_X10_run hown hK 0 rfl rfl 16 (by decide) (hts (.fieldLink RX10 247 "ValueBlocksModel" "alarm" "I") (by decide +kernel)) (fun _ h9 => h9) rfl dX10_run_97 ?_
                have he : rnF tk N ln lb pa jm fi fu 0 vs 0 = (vs1, ra2, now + 1, st1 + 1) := by rw [← hcl]; unfold rnF; rw [if_pos (by omega), hr2]; exact if_neg hnz2
                exact jJ_iret hx hb hr hlocks dX10_run_100 (by show _ ≤ 0; omega) (by show _ ≤ 0; omega) ⟨by rw [he], ⟨vv1, _, _, _, by rw [he]; exact hvv1, by rw [he]; rfl⟩, rfl, rfl⟩
              rw [hr2] at hq2
              dsimp only at hq2
              obtain ⟨hz2, rfl, ⟨vw2, ab2, hvw2, hw2⟩, rfl, rfl⟩ := hq2
              subst hz2
              have hdc2 := hdb2 rfl
              rw [hw2]
              refine jJ_open (xs := [[(Z 0, .inr (8, [.ref (Z 1), E 1, .int (bI true), .ref (Z 1), .int (nI ab2), E 5, E 6, E 7, E 8, .ref (Z 2), E 10, E 11, E 12, E 13, E 14, .ref (Z 7), .int (nI al1), .int (nI (st1 + 1)), .int (nI (now + 1))]))], [(Z 2, .inr (0, []))], [(Z 1, .inr (7, [X 0, X 1, .ref (Z 3), X 3, .ref (Z 5), X 5, X 6, .ref (Z 9), .ref (Z 10), .ref (Z 11), .ref (Z 12), .ref (Z 13), .int (nI ln)]))], [(Z 3, .inl (cB, 32008, .inl (V 0)))], [(Z 5, .inl (cI, 32008, .inl (V 2)))], [(Z 7, .inl (cJ, 200, .inr (.inl vw2)))], [(Z 9, .inl (cI, 16002, .inl (fun i => nI (fi i))))], [(Z 10, .inl (cB, 16002, .inl (fun i => nI (so i))))], [(Z 11, .inl (cI, 16002, .inl (fun i => iI (lb i))))], [(Z 12, .inl (cI, 16002, .inl (fun i => iI (pa i))))], [(Z 13, .inl (cI, 16002, .inl (fun i => iI (jm i))))]]) (r := []) (cs2 := [[(Z 0, .inr (8, [.ref (Z 1), E 1, .int (bI true), .ref (Z 1), .int (nI ab2), E 5, E 6, E 7, E 8, .ref (Z 2), E 10, E 11, E 12, E 13, E 14, .ref (Z 7), .int (nI al1), .int (nI (st1 + 1)), .int (nI (now + 1))]))], [(Z 2, .inr (0, []))], [(Z 1, .inr (7, [X 0, X 1, .ref (Z 3), X 3, .ref (Z 5), X 5, X 6, .ref (Z 9), .ref (Z 10), .ref (Z 11), .ref (Z 12), .ref (Z 13), .int (nI ln)]))], [(Z 3, .inl (cB, 32008, .inl (V 0)))], [(Z 5, .inl (cI, 32008, .inl (V 2)))], [(Z 7, .inl (cJ, 200, .inr (.inl vw2)))], [(Z 9, .inl (cI, 16002, .inl (fun i => nI (fi i))))], [(Z 10, .inl (cB, 16002, .inl (fun i => nI (so i))))], [(Z 11, .inl (cI, 16002, .inl (fun i => iI (lb i))))], [(Z 12, .inl (cI, 16002, .inl (fun i => iI (pa i))))], [(Z 13, .inl (cI, 16002, .inl (fun i => iI (jm i))))]]) rfl ?_
              refine jJ_eq (g2 := F0 m 88 ls [.int (iI rn2)]) (cs2 := [[(Z 0, .inr (8, [.ref (Z 1), E 1, .int (bI true), .ref (Z 1), .int (nI ab2), E 5, E 6, E 7, E 8, .ref (Z 2), E 10, E 11, E 12, E 13, E 14, .ref (Z 7), .int (nI al1), .int (nI (st1 + 1)), .int (nI (now + 1))]))], [(Z 2, .inr (0, []))], [(Z 1, .inr (7, [X 0, X 1, .ref (Z 3), X 3, .ref (Z 5), X 5, X 6, .ref (Z 9), .ref (Z 10), .ref (Z 11), .ref (Z 12), .ref (Z 13), .int (nI ln)]))], [(Z 3, .inl (cB, 32008, .inl (V 0)))], [(Z 5, .inl (cI, 32008, .inl (V 2)))], [(Z 7, .inl (cJ, 200, .inr (.inl vw2)))], [(Z 9, .inl (cI, 16002, .inl (fun i => nI (fi i))))], [(Z 10, .inl (cB, 16002, .inl (fun i => nI (so i))))], [(Z 11, .inl (cI, 16002, .inl (fun i => iI (lb i))))], [(Z 12, .inl (cI, 16002, .inl (fun i => iI (pa i))))], [(Z 13, .inl (cI, 16002, .inl (fun i => iI (jm i))))]]) rfl rfl ?_
              have hrn : iI rn2 = nI rn2.toNat := by rw [nI_iI, Int.toNat_of_nonneg hdc2.1]
              rw [hrn]
              refine jJ_eq (g2 := F0 m 88 ls [.int (nI rn2.toNat)]) (cs2 := [[(Z 0, .inr (8, [.ref (Z 1), E 1, .int (bI true), .ref (Z 1), .int (nI ab2), E 5, E 6, E 7, E 8, .ref (Z 2), E 10, E 11, E 12, E 13, E 14, .ref (Z 7), .int (nI al1), .int (nI (st1 + 1)), .int (nI (now + 1))]))], [(Z 2, .inr (0, []))], [(Z 1, .inr (7, [X 0, X 1, .ref (Z 3), X 3, .ref (Z 5), X 5, X 6, .ref (Z 9), .ref (Z 10), .ref (Z 11), .ref (Z 12), .ref (Z 13), .int (nI ln)]))], [(Z 3, .inl (cB, 32008, .inl (V 0)))], [(Z 5, .inl (cI, 32008, .inl (V 2)))], [(Z 7, .inl (cJ, 200, .inr (.inl vw2)))], [(Z 9, .inl (cI, 16002, .inl (fun i => nI (fi i))))], [(Z 10, .inl (cB, 16002, .inl (fun i => nI (so i))))], [(Z 11, .inl (cI, 16002, .inl (fun i => iI (lb i))))], [(Z 12, .inl (cI, 16002, .inl (fun i => iI (pa i))))], [(Z 13, .inl (cI, 16002, .inl (fun i => iI (jm i))))]]) rfl rfl ?_
              refine jJ_ofL (fun H locs => lv_istore_n (lv' := [(2, .int (nI rn2.toNat)), (0, .ref (Z 0)), (1, .int (nI fu))]) hx hb dX10_run_88 rfl hl (by decide) rfl) (fun ls hl => ?_)
              refine jJ_of (fun H locs => lv_goto (tgt := 40) hx hb dX10_run_89 (by decide)) ?_
              exact ih rn2.toNat rv2 vw2 ab2 al1 (st1 + 1) (now + 1) (by omega) (by omega) hvw2 hdc2.2.2 (by rw [← hcl]; show _ = (if _ then _ else _); rw [if_pos (by omega), hr2]; rfl) ls (lv_sub hl [0, 1, 2] rfl)
            · exfalso; omega
      · exfalso; omega
theorem jRun0 : True := trivial
end MR
