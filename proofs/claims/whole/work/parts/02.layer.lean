/-! The layer: a world is a list of chunks; growth is measured by the heap itself. -/
section JLA
def jT (cI cJ cB cZ : ClassId) : List (ClassId × FieldType) := [(cI, .int), (cJ, .long), (cB, .byte), (cZ, .boolean)]
/-- the slots of all cells -/
def jTS (H : Heap) : Nat := H.foldl (fun n c => n + c.slots.size) 0
def jF : List va_W → va_W
  | [] => []
  | [x] => x
  | x :: y :: r => x ++ jF (y :: r)
theorem jF_cons (x : va_W) (r : List va_W) : jF (x :: r) = x ++ jF r := by
  cases r with
  | nil => simp [jF]
  | cons y r => rfl
theorem jF_app (a b : List va_W) : jF (a ++ b) = jF a ++ jF b := by
  induction a with
  | nil => rfl
  | cons x a ih => rw [List.cons_append, jF_cons, jF_cons, ih, List.append_assoc]
theorem jF_perm {a b : List va_W} (h : a.Perm b) : (jF a).Perm (jF b) := by
  induction h with
  | nil => exact List.Perm.refl _
  | cons x _ ih => rw [jF_cons, jF_cons]; exact ih.append_left x
  | swap x y l =>
    rw [jF_cons, jF_cons, jF_cons, jF_cons, ← List.append_assoc, ← List.append_assoc]
    exact List.perm_append_comm.append_right _
  | trans _ _ h1 h2 => exact h1.trans h2
theorem jP_iff {D : va_G} {cl : List vw_C} {ws : va_W} {H : Heap} : va_P D cl ws H ↔ ∀ q ∈ ws, va_at D cl q H := by
  refine ⟨fun h q hq => ?_, fun h k q hk => h q (List.mem_of_getElem? hk)⟩
  obtain ⟨i, hi⟩ := List.getElem?_of_mem hq
  exact h i q hi
theorem jP_perm {D : va_G} {cl : List vw_C} {w1 w2 : va_W} {H : Heap} (h : w1.Perm w2) (hP : va_P D cl w1 H) : va_P D cl w2 H :=
  jP_iff.mpr fun q hq => jP_iff.mp hP q (h.mem_iff.mpr hq)
theorem jD_iff {A : Nat → Prop} {ws : va_W} : va_D A ws ↔ (ws.map (fun q => q.1)).Nodup ∧ ∀ q ∈ ws, A q.1 := by
  constructor
  · intro h
    refine ⟨List.pairwise_iff_getElem.mpr fun i j hi hj hij e => ?_, fun q hq => ?_⟩
    · rw [List.length_map] at hi hj
      rw [List.getElem_map, List.getElem_map] at e
      have h3 := h.1 i j _ _ (List.getElem?_eq_getElem hi) (List.getElem?_eq_getElem hj) e
      omega
    · obtain ⟨i, hi⟩ := List.getElem?_of_mem hq
      exact h.2 i q hi
  · intro ⟨h1, h2⟩
    refine ⟨fun i j p q hi hj hpq => ?_, fun k q hk => h2 q (List.mem_of_getElem? hk)⟩
    obtain ⟨hli, ei⟩ := List.getElem?_eq_some_iff.mp hi
    obtain ⟨hlj, ej⟩ := List.getElem?_eq_some_iff.mp hj
    have key := List.pairwise_iff_getElem.mp h1
    rcases Nat.lt_trichotomy i j with h | h | h
    · exact absurd (by rw [List.getElem_map, List.getElem_map, ei, ej]; exact hpq) (key i j (by rw [List.length_map]; exact hli) (by rw [List.length_map]; exact hlj) h)
    · exact h
    · exact absurd (by rw [List.getElem_map, List.getElem_map, ei, ej]; exact hpq.symm) (key j i (by rw [List.length_map]; exact hlj) (by rw [List.length_map]; exact hli) h)
theorem jD_perm {A : Nat → Prop} {w1 w2 : va_W} (h : w1.Perm w2) (hD : va_D A w1) : va_D A w2 := by
  obtain ⟨a, b⟩ := jD_iff.mp hD
  exact jD_iff.mpr ⟨(h.map _).nodup_iff.mp a, fun q hq => b q (h.mem_iff.mpr hq)⟩
theorem jD_left {A : Nat → Prop} {w1 w2 : va_W} (hD : va_D A (w1 ++ w2)) : va_D A w1 := by
  obtain ⟨a, b⟩ := jD_iff.mp hD
  rw [List.map_append] at a
  exact jD_iff.mpr ⟨(List.nodup_append.mp a).1, fun q hq => b q (List.mem_append_left _ hq)⟩
theorem jD_right {A : Nat → Prop} {w1 w2 : va_W} (hD : va_D A (w1 ++ w2)) : va_D A w2 := by
  obtain ⟨a, b⟩ := jD_iff.mp hD
  rw [List.map_append] at a
  exact jD_iff.mpr ⟨(List.nodup_append.mp a).2.1, fun q hq => b q (List.mem_append_right _ hq)⟩
theorem jP_left {D : va_G} {cl : List vw_C} {w1 w2 : va_W} {H : Heap} (hP : va_P D cl (w1 ++ w2) H) : va_P D cl w1 H := jP_iff.mpr fun q hq => jP_iff.mp hP q (List.mem_append_left _ hq)
theorem jP_right {D : va_G} {cl : List vw_C} {w1 w2 : va_W} {H : Heap} (hP : va_P D cl (w1 ++ w2) H) : va_P D cl w2 H := jP_iff.mpr fun q hq => jP_iff.mp hP q (List.mem_append_right _ hq)
theorem jA_free {A0 : Nat → Prop} {w1 w2 : va_W} {H0 H : Heap} {locs : List Loc} (hD : va_D A0 (w1 ++ w2)) (hS : va_S A0 H0 H locs) (hA : ∀ q, H0.size ≤ q → A0 q) : ∀ q, va_A w1 H.size q → A0 q := by
  intro q h
  rcases h with ⟨k, e, h⟩ | h
  · exact (jD_iff.mp (jD_left hD)).2 (q, e) (List.mem_of_getElem? h)
  · exact hA q (Nat.le_trans hS.1 h)
/-- behind a call: the callee's new world, the caller's other cells -/
theorem jJoin {A0 : Nat → Prop} {D : va_G} {cl : List vw_C} {wc wr u : va_W} {H H1 : Heap} (hP : va_P D cl (wc ++ wr) H) (hD : va_D A0 (wc ++ wr))
    (hk : ∀ q : Nat, q < H.size → ¬ va_A wc H.size q → H1[q]? = H[q]?) (hF : ∀ q, va_A wc H.size q → A0 q) (hPu : va_P D cl u H1) (hDu : va_D (va_A wc H.size) u) : va_P D cl (u ++ wr) H1 ∧ va_D A0 (u ++ wr) := by
  have hd := jD_iff.mp hD
  rw [List.map_append] at hd
  have apart : ∀ q ∈ wr, q.1 < H.size ∧ ¬ va_A wc H.size q.1 := by
    intro q hq
    have hl := (jP_iff.mp hP q (List.mem_append_right _ hq)).lt
    refine ⟨hl, fun h => ?_⟩
    rcases h with ⟨k, e, h⟩ | h
    · exact (List.nodup_append.mp hd.1).2.2 q.1 (List.mem_map.mpr ⟨(q.1, e), List.mem_of_getElem? h, rfl⟩) q.1 (List.mem_map.mpr ⟨q, hq, rfl⟩) rfl
    · omega
  have hu := jD_iff.mp hDu
  refine ⟨jP_iff.mpr fun q hq => ?_, jD_iff.mpr ⟨?_, fun q hq => ?_⟩⟩
  · rcases List.mem_append.mp hq with h | h
    · exact jP_iff.mp hPu q h
    · exact (jP_iff.mp hP q (List.mem_append_right _ h)).kept (hk q.1 (apart q h).1 (apart q h).2)
  · rw [List.map_append]
    refine List.nodup_append.mpr ⟨hu.1, (List.nodup_append.mp hd.1).2.1, ?_⟩
    intro a ha b hb e
    obtain ⟨x, hx, ex⟩ := List.mem_map.mp ha
    obtain ⟨y, hy, ey⟩ := List.mem_map.mp hb
    refine (apart y hy).2 ?_
    rw [ey, ← e, ← ex]
    exact hu.2 x hx
  · rcases List.mem_append.mp hq with h | h
    · exact hF _ (hu.2 q h)
    · exact hd.2 q (List.mem_append_right _ h)
def jPick (cs : List va_W) (is : List Nat) : List va_W := is.filterMap (fun i => cs[i]?)
theorem jPick_range (cs : List va_W) : jPick cs (List.range cs.length) = cs := by
  unfold jPick
  induction cs with
  | nil => rfl
  | cons x cs ih =>
    rw [List.length_cons, List.range_succ_eq_map, List.filterMap_cons]
    simp only [List.getElem?_cons_zero, List.filterMap_map, Function.comp_def, List.getElem?_cons_succ]
    rw [ih]
theorem jPick_perm {cs : List va_W} {is : List Nat} (h : is.Perm (List.range cs.length)) : (jPick cs is).Perm cs := by
  have h1 : (jPick cs is).Perm (jPick cs (List.range cs.length)) := h.filterMap _
  rwa [jPick_range] at h1
theorem jPick_app (cs : List va_W) (is js : List Nat) : jPick cs (is ++ js) = jPick cs is ++ jPick cs js := List.filterMap_append
theorem jF_split {cs : List va_W} {is js : List Nat} (h : (is ++ js).Perm (List.range cs.length)) : (jF cs).Perm (jF (jPick cs is) ++ jF (jPick cs js)) := by
  rw [← jF_app, ← jPick_app]
  exact jF_perm (jPick_perm h).symm
/-- a chunk of one cell, changed -/
theorem jF_set {x : Nat × va_E} : ∀ {cs : List va_W} {q0 : Nat}, cs[q0]? = some [x] → ∃ i, (jF cs)[i]? = some x ∧ ∀ y, (jF cs).set i y = jF (cs.set q0 [y])
  | [], q0, h => by simp at h
  | z :: cs, 0, h => by
    simp at h
    subst h
    refine ⟨0, by rw [jF_cons]; rfl, fun y => by rw [jF_cons, List.set_cons_zero, jF_cons]; rfl⟩
  | z :: cs, q0 + 1, h => by
    simp at h
    obtain ⟨i, h1, h2⟩ := jF_set h
    refine ⟨z.length + i, ?_, fun y => ?_⟩
    · rw [jF_cons, List.getElem?_append_right (by omega), show z.length + i - z.length = i by omega]
      exact h1
    · rw [jF_cons, List.set_cons_succ, jF_cons, ← h2, List.set_append, if_neg (by omega), show z.length + i - z.length = i by omega]
end JLA
section JLB
variable {p : Program} {l : Launch} {e : Env} {R : Room} {s : State} {m : MethodId} {args : Array Value} {below : List Frame} {meth : Method} {c : Code}
theorem jBook {T : State} (h : T.slotsTrue = true) : T.slotsUsed = jTS T.heap := by
  unfold State.slotsTrue at h
  exact beq_iff_eq.mp h
theorem jStartBook {T : State} {locs : List Loc} {k n : Nat} (X : Stand p l e R s m args below meth c T locs k n) : s.slotsUsed = jTS s.heap := by
  have h := X.room
  simp only [State.hasRoom, Bool.and_eq_true] at h
  exact jBook h.2
theorem jGrowth {T : State} {locs : List Loc} {k n : Nat} (X : Stand p l e R s m args below meth c T locs k n) : T.heap.size ≤ s.heap.size + k ∧ jTS T.heap ≤ jTS s.heap + n := by
  refine ⟨X.heapSize, ?_⟩
  rw [← jBook X.book, ← jStartBook X]
  exact X.used
theorem jTight {T : State} {locs : List Loc} {k n k' n' : Nat} (X : Stand p l e R s m args below meth c T locs k n) (h1 : T.heap.size ≤ s.heap.size + k') (h2 : jTS T.heap ≤ jTS s.heap + n') : Stand p l e R s m args below meth c T locs k' n' := by
  refine { X with same := ?_ }
  obtain ⟨a, b, _, d, _, f⟩ := X.same
  refine ⟨a, b, h1, d, ?_, f⟩
  have e1 : T.slotsUsed = s.slotsUsed + _ := d
  have e2 := jBook X.book
  have e3 := jStartBook X
  rw [e2, e3] at e1
  have e4 := h2
  rw [e1] at e4
  exact Nat.le_of_add_le_add_left e4
/-- the two texts of words, and the statics that charAt looks at: they lie outside what changes -/
def jW1 : List Nat := [73, 70, 32, 32, 32, 71, 79, 84, 79, 32, 87, 72, 73, 76, 69, 68, 79, 32, 32, 32, 69, 78, 68, 32, 32, 65, 66, 83, 32, 32, 70, 73, 88, 32, 32, 70, 85, 80, 32, 32, 82, 79, 79, 84, 32, 77, 79, 68, 32, 32, 65, 78, 68, 32, 32, 79, 82, 32, 32, 32, 88, 79, 82, 32, 32, 69, 81, 32, 32, 32, 78, 69, 32, 32, 32, 76, 84, 32, 32, 32, 76, 69, 32, 32, 32, 71, 84, 32, 32, 32, 71, 69, 32, 32, 32]
def jW2 : List Nat := [32, 73, 70, 32, 71, 79, 84, 79, 32, 87, 72, 73, 76, 69, 32, 68, 79, 32, 69, 78, 68, 32, 65, 66, 83, 32, 70, 73, 88, 32, 70, 85, 80, 32, 82, 79, 79, 84, 32, 77, 79, 68, 32, 65, 78, 68, 32, 79, 82, 32, 88, 79, 82, 32, 69, 81, 32, 78, 69, 32, 76, 84, 32, 76, 69, 32, 71, 84, 32, 71, 69, 32]
/-- the links to private members of a nest mate -/
def jNe (U : State) : Prop :=
  va_Nw (.fieldLinkNest RX4 81 "ValueBlocks$Program" "code" "LValueBlocks$Row;" "ValueBlocks") U ∧ va_Nw (.methodLinkNest RX8 29 yX2_init "ValueBlocks") U ∧ va_Nw (.methodLinkNest RX8 36 yX3_init "ValueBlocks") U ∧ va_Nw (.methodLinkNest RX10 9 yX9_init "ValueBlocksModel") U
theorem jNe.warm {s U : State} (h : jNe s) (hW : s.WarmedH U.vm) : jNe U := ⟨h.1.warmF hW, h.2.1.warmM hW, h.2.2.1.warmM hW, h.2.2.2.warmM hW⟩
theorem jNe.same {s U : State} (h : jNe s) (hv : s.vm = U.vm) : jNe U := ⟨h.1.same rfl hv, h.2.1.same rfl hv, h.2.2.1.same rfl hv, h.2.2.2.same rfl hv⟩
def jAm (G : Nat → Nat) (A : Nat → Prop) (U : State) (H : Heap) : Prop :=
  va_Z "java/lang/String" "COMPACT_STRINGS" "Z" (.int 1) A U H ∧ va_Zq "jdk/internal/util/Preconditions" "SIOOBE_FORMATTER" "Ljava/util/function/BiFunction;" A U H ∧
  (∀ i, i < 2 → va_OF "java/lang/String" "coder" "B" (.int 0) (G i) A U H ∧ va_OF "java/lang/String" "value" "[B" (.ref (G (2 + i))) (G i) A U H ∧ va_O "java/lang/String" (G i) A U H) ∧
  va_T .byte (G 2) 95 (fun j => .int (nI (jW1.getD j 0))) A U H ∧ va_T .byte (G 3) 72 (fun j => .int (nI (jW2.getD j 0))) A U H ∧
  vk_R "ValueBlocks$Tokens" 76 "IF   GOTO WHILEDO   END  ABS  FIX  FUP  ROOT MOD  AND  OR   XOR  EQ   NE   LT   LE   GT   GE   " (G 0) U ∧ vk_R "ValueBlocksModel" 105 " IF GOTO WHILE DO END ABS FIX FUP ROOT MOD AND OR XOR EQ NE LT LE GT GE " (G 1) U ∧ jNe U
theorem jAm.go {G : Nat → Nat} {A A' : Nat → Prop} {s U : State} {H : Heap} {locs : List Loc} (h : jAm G A s s.heap) (hS : va_S A s.heap H locs) (hA : ∀ q, A' q → A q) (hU : U.heap = H) (hW : s.WarmedH U.vm) : jAm G A' U U.heap := by
  obtain ⟨h1, h2, h3, h4, h5, h6, h7, h8⟩ := h
  have hk : ∀ a : Nat, a < s.heap.size → ¬ A a → U.heap[a]? = s.heap[a]? := fun a e1 e2 => by rw [hU]; exact hS.2.1 a e1 e2
  exact ⟨((h1.moved hW.alike).kept hk).narrow hA, ((h2.moved hW.alike).kept hk).narrow hA, fun i hi => ⟨(((h3 i hi).1.moved hW.alike).kept hk).narrow hA, (((h3 i hi).2.1.moved hW.alike).kept hk).narrow hA, (((h3 i hi).2.2.moved hW.alike).kept hk).narrow hA⟩, ((h4.moved hW.alike).kept hk).narrow hA, ((h5.moved hW.alike).kept hk).narrow hA, h6.warm hW, h7.warm hW, h8.warm hW⟩
theorem jAm.calling {G : Nat → Nat} {A : Nat → Prop} {U : State} {g : JFrame} {mk : MethodId} {a : Array Value} (h : jAm G A U U.heap) : jAm G A (U.calling g mk a) (U.calling g mk a).heap := by
  obtain ⟨h1, h2, h3, h4, h5, h6, h7, h8⟩ := h
  have hv : U.vm.Alike (U.calling g mk a).vm := Vm.Alike.refl U.vm
  exact ⟨h1.moved hv, h2.moved hv, fun i hi => ⟨(h3 i hi).1.moved hv, (h3 i hi).2.1.moved hv, (h3 i hi).2.2.moved hv⟩, h4.moved hv, h5.moved hv, h6.same rfl, h7.same rfl, h8.same rfl⟩
def jQ (D : va_G) (A : Nat → Prop) (Qv : Option Value → va_W → Nat → Nat → Prop) : Array Value → State → Outcome → State → Prop := fun _ st oc t =>
  (∃ (v : Option Value) (u : va_W) (k n : Nat), oc = .returned v ∧ Qv v u k n ∧ va_P D vwCl u t.heap ∧ va_D A u ∧ t.heap.size ≤ st.heap.size + k ∧ jTS t.heap ≤ jTS st.heap + n) ∧ va_F A st t
def jPc (D : va_G) (G : Nat → Nat) (tys : List (ClassId × FieldType)) (av : List Value) (w : va_W) (sz : Nat) : Array Value → State → Prop :=
  va_Pc av (fun U => U.heap.size = sz ∧ va_P D vwCl w U.heap ∧ va_K D vwCl tys U ∧ va_D (fun _ => True) w ∧ jAm G (va_A w sz) U U.heap)
/-- a contract of a method that returns -/
def HM (l : Launch) (y : MethodName) (ws : List Cond) (rm : Room) (D : va_G) (G : Nat → Nat) (tys : List (ClassId × FieldType)) (av : List Value) (w : va_W) (Qv : Option Value → va_W → Nat → Nat → Prop) : Prop :=
  ∀ sz : Nat, Met l y ws rm (jPc D G tys av w sz) (jQ D (va_A w sz) Qv) rm.cells rm.slots (va_A w sz)
def jJ (p : Program) (l : Launch) (e : Env) (R : Room) (s : State) (m : MethodId) (args : Array Value) (below : List Frame) (meth : Method) (c : Code) (D : va_G) (A0 : Nat → Prop) (cs : List va_W) (k n : Nat) (Q : State → Prop) (g : JFrame) : Prop :=
  ∀ (H : Heap) (locs : List Loc), va_P D vwCl (jF cs) H → va_D A0 (jF cs) → va_S A0 s.heap H locs → W p l e R s m args below meth c H locs k n Q g
theorem jPc_blind {D : va_G} {G : Nat → Nat} {tys : List (ClassId × FieldType)} {av : List Value} {w : va_W} {sz : Nat} : FrameBlind (jPc D G tys av w sz) := by
  intro a U g mk h
  obtain ⟨q0, q1, qP, qK, qD, qM⟩ := h
  exact ⟨q0, q1, qP, va_K.moved (u := U) (U := U.calling g mk a) (Vm.Alike.refl U.vm) qK, qD, qM.calling⟩
variable {D : va_G} {G : Nat → Nat} {A0 : Nat → Prop} {cs : List va_W} {k n : Nat} {Q : State → Prop} {tys : List (ClassId × FieldType)}
theorem jJ_of {g g2 : JFrame} (h : ∀ (H : Heap) (locs : List Loc), W p l e R s m args below meth c H locs k n Q g2 → W p l e R s m args below meth c H locs k n Q g)
    (kk : jJ p l e R s m args below meth c D A0 cs k n Q g2) : jJ p l e R s m args below meth c D A0 cs k n Q g := fun H locs a b d => h H locs (kk H locs a b d)
theorem jJ_ofL {g : JFrame} {P : Array Slot → Prop} {g2 : Array Slot → JFrame} (h : ∀ (H : Heap) (locs : List Loc), (∀ ls, P ls → W p l e R s m args below meth c H locs k n Q (g2 ls)) → W p l e R s m args below meth c H locs k n Q g)
    (kk : ∀ ls, P ls → jJ p l e R s m args below meth c D A0 cs k n Q (g2 ls)) : jJ p l e R s m args below meth c D A0 cs k n Q g := fun H locs a b d => h H locs (fun ls hl => kk ls hl H locs a b d)
theorem jJ_of2 {g g1 g2 : JFrame} {P1 P2 : Prop} (h : ∀ (H : Heap) (locs : List Loc), (P1 → W p l e R s m args below meth c H locs k n Q g1) → (P2 → W p l e R s m args below meth c H locs k n Q g2) → W p l e R s m args below meth c H locs k n Q g)
    (k1 : P1 → jJ p l e R s m args below meth c D A0 cs k n Q g1) (k2 : P2 → jJ p l e R s m args below meth c D A0 cs k n Q g2) : jJ p l e R s m args below meth c D A0 cs k n Q g := fun H locs a b d => h H locs (fun x => k1 x H locs a b d) (fun x => k2 x H locs a b d)
theorem jJ_eq {g g2 : JFrame} {cs2 : List va_W} (h : g = g2) (hc : cs = cs2) (kk : jJ p l e R s m args below meth c D A0 cs2 k n Q g2) : jJ p l e R s m args below meth c D A0 cs k n Q g := by subst h; subst hc; exact kk
theorem jJ_perm {g : JFrame} {cs2 : List va_W} {nn : Nat} (is : List Nat) (hnn : cs.length = nn) (h : is.Perm (List.range nn)) (hc : jPick cs is = cs2) (kk : jJ p l e R s m args below meth c D A0 cs2 k n Q g) : jJ p l e R s m args below meth c D A0 cs k n Q g := by
  subst hc; subst hnn
  intro H locs a b d
  have hp : (jF cs).Perm (jF (jPick cs is)) := jF_perm (jPick_perm h).symm
  exact kk H locs (jP_perm hp a) (jD_perm hp b) d
theorem jJ_flat {g : JFrame} {cs2 : List va_W} (h : jF cs = jF cs2) (kk : jJ p l e R s m args below meth c D A0 cs2 k n Q g) : jJ p l e R s m args below meth c D A0 cs k n Q g := by
  intro H locs a b d
  rw [h] at a b
  exact kk H locs a b d
/-- the chunk at the head, opened -/
theorem jJ_open {g : JFrame} {xs r cs2 : List va_W} (h : xs ++ r = cs2) (kk : jJ p l e R s m args below meth c D A0 cs2 k n Q g) : jJ p l e R s m args below meth c D A0 (jF xs :: r) k n Q g :=
  jJ_flat (by rw [← h, jF_cons, jF_app]) kk
/-- chunks forgotten -/
theorem jJ_drop {g : JFrame} {cs2 : List va_W} {nn : Nat} (is js : List Nat) (hnn : cs.length = nn) (h : (is ++ js).Perm (List.range nn)) (hc : jPick cs is = cs2) (kk : jJ p l e R s m args below meth c D A0 cs2 k n Q g) : jJ p l e R s m args below meth c D A0 cs k n Q g := by
  subst hc; subst hnn
  intro H locs a b d
  have hp := jF_split h
  exact kk H locs (jP_left (jP_perm hp a)) (jD_left (jD_perm hp b)) d
theorem jJ_widen {g : JFrame} {k' n' : Nat} (h1 : k ≤ k') (h2 : n ≤ n') (kk : jJ p l e R s m args below meth c D A0 cs k' n' Q g) : jJ p l e R s m args below meth c D A0 cs k n Q g := fun H locs a b d => W.widen h1 h2 (kk H locs a b d)
theorem jJ_topi {pc : Nat} {ls : Array Slot} {rest : List Value} {x : Int32} (kk : ∀ y : Int32, y = x → jJ p l e R s m args below meth c D A0 cs k n Q (F0 m pc ls (.int y :: rest))) : jJ p l e R s m args below meth c D A0 cs k n Q (F0 m pc ls (.int x :: rest)) := kk x rfl
/-- a call -/
theorem jJ_callG {pc : Nat} {ls : Array Slot} {st0 rest : List Value} {a : Array Value} {mc ms : Nat} {wc : va_W} {cs2 : List va_W} {Qv : Option Value → va_W → Nat → Nat → Prop} (is js : List Nat)
    (hA : ∀ q, s.heap.size ≤ q → A0 q) (hAm : jAm G A0 s s.heap) {nn : Nat} (hnn : cs.length = nn) (hp : (is ++ js).Perm (List.range nn)) (hwc : jF (jPick cs is) = wc) (hc2 : jPick cs js = cs2)
    (hr : ∀ (H : Heap) (locs : List Loc), va_P D vwCl wc H → va_D (fun _ => True) wc → (∀ U : State, U.heap = H → s.WarmedH U.vm → jAm G (va_A wc H.size) U U.heap) → va_S A0 s.heap H locs → va_Run p l e R s m args below meth c H locs k n mc ms (F0 m pc ls st0) rest (jQ D (va_A wc H.size) Qv a) (va_A wc H.size))
    (kk : ∀ (v : Option Value) (u : va_W) (k' n' : Nat), Qv v u k' n' → jJ p l e R s m args below meth c D A0 (u :: cs2) (k + k') (n + n') Q (F0 m (pc + 3) ls (v.toList ++ rest))) : jJ p l e R s m args below meth c D A0 cs k n Q (F0 m pc ls st0) := by
  subst hwc; subst hc2; subst hnn
  intro H locs hP hD hS T hT X
  have hsp := jF_split hp
  have hP' := jP_perm hsp hP
  have hD' := jD_perm hsp hD
  have hF := jA_free hD' hS hA
  obtain ⟨v, st₀, t, T', L, h0, X', hL, e1, e2, ⟨⟨v', u, k', n', hv, hq, hPu, hDu, hz, hss⟩, hF2⟩, st⟩ := hr H locs (jP_left hP') ((jD_left hD').weaken (fun _ _ _ _ => trivial)) (fun U hU hW => hAm.go hS hF hU hW) hS T hT X
  cases hv
  obtain ⟨k1, k2, k3⟩ := vx_keep h0 e1 hS (fun q _ h => hF q h) hF hL hF2
  obtain ⟨g1, g2⟩ := jGrowth X
  rw [hT] at g1 g2
  rw [h0, ← e1] at hz hss
  have X2 := jTight X' (k' := k + k') (n' := n + n') (by omega) (by omega)
  rw [← e1] at hPu
  obtain ⟨j1, j2⟩ := jJoin hP' hD' k2 hF hPu hDu
  rw [← jF_cons] at j1 j2
  obtain ⟨t2, a1, b1⟩ := kk v u k' n' hq T'.heap (locs ++ L) j1 j2 k3 T' rfl X2
  exact ⟨t2, st t2 a1, b1⟩
theorem jK_alike {U : State} (hK : va_K D vwCl tys s) (hW : s.WarmedH U.vm) : va_K D vwCl tys U := va_K.moved hW.alike hK
/-- a virtual call of an own method -/
theorem jJ_callV {y : MethodName} {bytes cc : ByteArray} {maxL nL na index ci : Nat} {ret : Option FieldType} {ws : List Cond} {rm : Room} {Ts : List Cond} {own C : String} {T : u_T} {N : Nat} {b : Addr} {As rest st0 : List Value} {pc : Nat} {ls : Array Slot} {wc : va_W} {cs2 : List va_W} {Qv : Option Value → va_W → Nat → Nat → Prop} (is js : List Nat)
    (S : CallFix p m c cc nL s args Ts own) (hK : va_K D vwCl tys s) (hA : ∀ q, s.heap.size ≤ q → A0 q) (hAm : jAm G A0 s s.heap)
    (hM : HM l y ws rm D G tys (.ref b :: As) wc Qv) (cw : CallW R s args own C index y bytes maxL ret ws rm rm.cells rm.slots na)
    {nn : Nat} (hnn : cs.length = nn) (hp : (is ++ js).Perm (List.range nn)) (hwc : jF (jPick cs is) = wc) (hc2 : jPick cs js = cs2)
    (hrc : ∃ (i : Nat) (fs : List Value), wc[i]? = some (b, .inr (ci, fs))) (hcl : vwCl[ci]? = some (C, T, N)) (hst : st0 = As.reverse ++ .ref b :: rest) (hn : As.length = na) (hsz : ls.size = nL) (hroom : (rest.map fun v => v.category).sum ≤ 8)
    (hdg : decode cc pc = .ok (.invokevirtual index, 3)) (hf1 : k + rm.cells ≤ R.cells) (hf2 : n + rm.slots ≤ R.slots)
    (kk : ∀ (v : Option Value) (u : va_W) (k' n' : Nat), Qv v u k' n' → jJ p l e R s m args below meth c D A0 (u :: cs2) (k + k') (n + n') Q (F0 m (pc + 3) ls (v.toList ++ rest))) : jJ p l e R s m args below meth c D A0 cs k n Q (F0 m pc ls st0) := by
  subst hst
  refine jJ_callG (mc := rm.cells) (ms := rm.slots) (a := (Value.ref b :: As).toArray) is js hA hAm hnn hp hwc hc2 (fun H locs hP hD hM9 hS9 => ?_) kk
  obtain ⟨i, fs, hi⟩ := hrc
  exact va_runV S (hM H.size) cw ⟨jPc_blind, va_recv hK hP (ci := ci) (q0 := i) hcl hi, fun U hU hW => ⟨rfl, by rw [hU], by rw [hU]; exact hP, jK_alike hK hW, hD, by have h9 := hM9 U hU hW; rw [hU] at h9 ⊢; exact h9⟩⟩ rfl hn hsz rfl (lv_room hroom) hdg ⟨hf1, hf2⟩
/-- a virtual call on an object outside the world -/
theorem jJ_callVO {y : MethodName} {bytes cc : ByteArray} {maxL nL na index : Nat} {ret : Option FieldType} {ws : List Cond} {rm : Room} {Ts : List Cond} {own C : String} {b : Addr} {As rest st0 : List Value} {pc : Nat} {ls : Array Slot} {wc : va_W} {cs2 : List va_W} {Qv : Option Value → va_W → Nat → Nat → Prop} (is js : List Nat)
    (S : CallFix p m c cc nL s args Ts own) (hK : va_K D vwCl tys s) (hA : ∀ q, s.heap.size ≤ q → A0 q) (hAm : jAm G A0 s s.heap)
    (hM : HM l y ws rm D G tys (.ref b :: As) wc Qv) (cw : CallW R s args own C index y bytes maxL ret ws rm rm.cells rm.slots na)
    {nn : Nat} (hnn : cs.length = nn) (hp : (is ++ js).Perm (List.range nn)) (hwc : jF (jPick cs is) = wc) (hc2 : jPick cs js = cs2)
    (hrc : va_O C b A0 s s.heap) (hst : st0 = As.reverse ++ .ref b :: rest) (hn : As.length = na) (hsz : ls.size = nL) (hroom : (rest.map fun v => v.category).sum ≤ 8)
    (hdg : decode cc pc = .ok (.invokevirtual index, 3)) (hf1 : k + rm.cells ≤ R.cells) (hf2 : n + rm.slots ≤ R.slots)
    (kk : ∀ (v : Option Value) (u : va_W) (k' n' : Nat), Qv v u k' n' → jJ p l e R s m args below meth c D A0 (u :: cs2) (k + k') (n + n') Q (F0 m (pc + 3) ls (v.toList ++ rest))) : jJ p l e R s m args below meth c D A0 cs k n Q (F0 m pc ls st0) := by
  subst hst
  refine jJ_callG (mc := rm.cells) (ms := rm.slots) (a := (Value.ref b :: As).toArray) is js hA hAm hnn hp hwc hc2 (fun H locs hP hD hM9 hS9 => ?_) kk
  obtain ⟨cell, q1, q2, q3, -⟩ := hrc.kept (H1 := H) (fun a e1 e2 => hS9.2.1 a e1 e2)
  exact va_runV S (hM H.size) cw ⟨jPc_blind, ⟨cell, q1, q2, q3⟩, fun U hU hW => ⟨rfl, by rw [hU], by rw [hU]; exact hP, jK_alike hK hW, hD, by have h9 := hM9 U hU hW; rw [hU] at h9 ⊢; exact h9⟩⟩ rfl hn hsz rfl (lv_room hroom) hdg ⟨hf1, hf2⟩
/-- a static call -/
theorem jJ_callS {y : MethodName} {bytes cc : ByteArray} {maxL nL na index : Nat} {ret : Option FieldType} {ws : List Cond} {rm : Room} {Ts : List Cond} {own : String} {As rest st0 : List Value} {pc : Nat} {ls : Array Slot} {wc : va_W} {cs2 : List va_W} {Qv : Option Value → va_W → Nat → Nat → Prop} (is js : List Nat)
    (S : CallFix p m c cc nL s args Ts own) (hK : va_K D vwCl tys s) (hA : ∀ q, s.heap.size ≤ q → A0 q) (hAm : jAm G A0 s s.heap)
    (hM : HM l y ws rm D G tys As wc Qv) (cw : CallB R s args own index y bytes maxL ret ws rm rm.cells rm.slots na ∧ (Cond.static y).before args s = true)
    {nn : Nat} (hnn : cs.length = nn) (hp : (is ++ js).Perm (List.range nn)) (hwc : jF (jPick cs is) = wc) (hc2 : jPick cs js = cs2)
    (hst : st0 = As.reverse ++ rest) (hn : As.length = na) (hsz : ls.size = nL) (hroom : (rest.map fun v => v.category).sum ≤ 8)
    (hdg : decode cc pc = .ok (.invokestatic index, 3)) (hf1 : k + rm.cells ≤ R.cells) (hf2 : n + rm.slots ≤ R.slots)
    (kk : ∀ (v : Option Value) (u : va_W) (k' n' : Nat), Qv v u k' n' → jJ p l e R s m args below meth c D A0 (u :: cs2) (k + k') (n + n') Q (F0 m (pc + 3) ls (v.toList ++ rest))) : jJ p l e R s m args below meth c D A0 cs k n Q (F0 m pc ls st0) := by
  subst hst
  refine jJ_callG (mc := rm.cells) (ms := rm.slots) (a := As.toArray) is js hA hAm hnn hp hwc hc2 (fun H locs hP hD hM9 hS9 => ?_) kk
  exact va_runS S (hM H.size) cw ⟨jPc_blind, fun U hU hW => ⟨rfl, by rw [hU], by rw [hU]; exact hP, jK_alike hK hW, hD, by have h9 := hM9 U hU hW; rw [hU] at h9 ⊢; exact h9⟩⟩ rfl hn hsz rfl (lv_room hroom) hdg ⟨hf1, hf2⟩
/-- a constructor's call -/
theorem jJ_callI {y : MethodName} {bytes cc : ByteArray} {maxL nL na index : Nat} {ws : List Cond} {rm : Room} {Ts : List Cond} {own : String} {b : Addr} {As rest st0 : List Value} {pc : Nat} {ls : Array Slot} {wc : va_W} {cs2 : List va_W} {Qv : Option Value → va_W → Nat → Nat → Prop} (is js : List Nat)
    (S : CallFix p m c cc nL s args Ts own) (hK : va_K D vwCl tys s) (hA : ∀ q, s.heap.size ≤ q → A0 q) (hAm : jAm G A0 s s.heap)
    (hM : HM l y ws rm D G tys (.ref b :: As) wc Qv) (cw : CallB R s args own index y bytes maxL none ws rm rm.cells rm.slots na ∧ y.name = "<init>" ∧ (Cond.instanceMethod y).before args s = true)
    {nn : Nat} (hnn : cs.length = nn) (hp : (is ++ js).Perm (List.range nn)) (hwc : jF (jPick cs is) = wc) (hc2 : jPick cs js = cs2)
    (hst : st0 = As.reverse ++ .ref b :: rest) (hn : As.length = na) (hsz : ls.size = nL) (hroom : (rest.map fun v => v.category).sum ≤ 8)
    (hdg : decode cc pc = .ok (.invokespecial index, 3)) (hf1 : k + rm.cells ≤ R.cells) (hf2 : n + rm.slots ≤ R.slots)
    (kk : ∀ (v : Option Value) (u : va_W) (k' n' : Nat), Qv v u k' n' → jJ p l e R s m args below meth c D A0 (u :: cs2) (k + k') (n + n') Q (F0 m (pc + 3) ls (v.toList ++ rest))) : jJ p l e R s m args below meth c D A0 cs k n Q (F0 m pc ls st0) := by
  subst hst
  refine jJ_callG (mc := rm.cells) (ms := rm.slots) (a := (Value.ref b :: As).toArray) is js hA hAm hnn hp hwc hc2 (fun H locs hP hD hM9 hS9 => ?_) kk
  exact va_runI S (hM H.size) cw ⟨jPc_blind, fun U hU hW => ⟨rfl, by rw [hU], by rw [hU]; exact hP, jK_alike hK hW, hD, by have h9 := hM9 U hU hW; rw [hU] at h9 ⊢; exact h9⟩⟩ rfl hn hsz rfl (lv_room hroom) hdg ⟨hf1, hf2⟩
/-- the call of a private constructor of a nest mate -/
theorem jJ_callIN {y : MethodName} {bytes cc : ByteArray} {maxL nL na index : Nat} {ws : List Cond} {rm : Room} {Ts : List Cond} {own host : String} {b : Addr} {As rest st0 : List Value} {pc : Nat} {ls : Array Slot} {wc : va_W} {cs2 : List va_W} {Qv : Option Value → va_W → Nat → Nat → Prop} (is js : List Nat)
    (S : CallFix p m c cc nL s args Ts own) (hK : va_K D vwCl tys s) (hA : ∀ q, s.heap.size ≤ q → A0 q) (hAm : jAm G A0 s s.heap)
    (hM : HM l y ws rm D G tys (.ref b :: As) wc Qv) (cw : va_CN R s args own index y host bytes maxL none ws rm rm.cells rm.slots na ∧ y.name = "<init>" ∧ (Cond.instanceMethod y).before args s = true)
    {nn : Nat} (hnn : cs.length = nn) (hp : (is ++ js).Perm (List.range nn)) (hwc : jF (jPick cs is) = wc) (hc2 : jPick cs js = cs2)
    (hst : st0 = As.reverse ++ .ref b :: rest) (hn : As.length = na) (hsz : ls.size = nL) (hroom : (rest.map fun v => v.category).sum ≤ 8)
    (hdg : decode cc pc = .ok (.invokespecial index, 3)) (hf1 : k + rm.cells ≤ R.cells) (hf2 : n + rm.slots ≤ R.slots)
    (kk : ∀ (v : Option Value) (u : va_W) (k' n' : Nat), Qv v u k' n' → jJ p l e R s m args below meth c D A0 (u :: cs2) (k + k') (n + n') Q (F0 m (pc + 3) ls (v.toList ++ rest))) : jJ p l e R s m args below meth c D A0 cs k n Q (F0 m pc ls st0) := by
  subst hst
  refine jJ_callG (mc := rm.cells) (ms := rm.slots) (a := (Value.ref b :: As).toArray) is js hA hAm hnn hp hwc hc2 (fun H locs hP hD hM9 hS9 => ?_) kk
  exact va_runIN S (hM H.size) cw ⟨jPc_blind, fun U hU hW => ⟨rfl, by rw [hU], by rw [hU]; exact hP, jK_alike hK hW, hD, by have h9 := hM9 U hU hW; rw [hU] at h9 ⊢; exact h9⟩⟩ rfl hn hsz rfl (lv_room hroom) hdg ⟨hf1, hf2⟩
end JLB
section JLC
variable {p : Program} {l : Launch} {e : Env} {R : Room} {s : State} {m : MethodId} {args : Array Value} {below : List Frame} {meth : Method} {c : Code}
variable {D : va_G} {G : Nat → Nat} {A0 : Nat → Prop} {cs : List va_W} {k n : Nat} {Q : State → Prop} {tys : List (ClassId × FieldType)} {cc : ByteArray} {pc : Nat} {ls : Array Slot} {rest : List Value} {a : Nat}
theorem jP_at {H : Heap} {q0 : Nat} {w : va_W} (hP : va_P D vwCl (jF cs) H) (hw : cs[q0]? = some w) : va_P D vwCl w H := by
  refine jP_iff.mpr fun q hq => jP_iff.mp hP q ?_
  have hmem := List.mem_of_getElem? hw
  clear hP hw
  induction cs with
  | nil => cases hmem
  | cons x r ih =>
    rw [jF_cons]
    rcases List.mem_cons.mp hmem with h | h
    · subst h; exact List.mem_append_left _ hq
    · exact List.mem_append_right _ (ih h)
theorem jJ_get (hexec : p.tables.exec = Jvm.exec) (hb : c.code = cc) {own ref C : String} {T : u_T} {N ci index : Nat} {Ts : List Cond} (hts : ∀ w ∈ Ts, w.before args s = true) (hin : ∀ w ∈ u_ws C T N, w ∈ Ts) (hown : s.vm.findClass own = some m.cls) (hK : va_K D vwCl tys s) (q0 : Nat) {fs : List Value} (he : cs[q0]? = some [(a, .inr (ci, fs))]) (hc : vwCl[ci]? = some (C, T, N)) (f : Nat) (hk : f < N) (hlink : (Cond.fieldLink own index ref (T f).2.1 (T f).2.2.1).before args s = true) (hsame : ∀ x, s.fieldFound? (T f).1 (T f).2.1 (T f).2.2.1 = some x → s.fieldFound? ref (T f).2.1 (T f).2.2.1 = some x) {v : Value} (hv : fs[f]? = some v) (hdg : decode cc pc = .ok (.getfield index, 3))
    (kk : jJ p l e R s m args below meth c D A0 cs k n Q (F0 m (pc + 3) ls (v :: rest))) : jJ p l e R s m args below meth c D A0 cs k n Q (F0 m pc ls (.ref a :: rest)) :=
  fun H locs hP hD hS => va_get hexec hb hts hin hown hK (jP_at hP he) 0 rfl hc f hk hlink hsame hv hdg (kk H locs hP hD hS)
theorem jJ_getN (hexec : p.tables.exec = Jvm.exec) (hb : c.code = cc) {own ref C host : String} {T : u_T} {N ci index : Nat} {Ts : List Cond} (hts : ∀ w ∈ Ts, w.before args s = true) (hin : ∀ w ∈ u_ws C T N, w ∈ Ts) (hown : s.vm.findClass own = some m.cls) (hK : va_K D vwCl tys s) (q0 : Nat) {fs : List Value} (he : cs[q0]? = some [(a, .inr (ci, fs))]) (hc : vwCl[ci]? = some (C, T, N)) (f : Nat) (hk : f < N) (hlink : (Cond.fieldLinkNest own index ref (T f).2.1 (T f).2.2.1 host).before args s = true) (hsame : ∀ x, s.fieldFound? (T f).1 (T f).2.1 (T f).2.2.1 = some x → s.fieldFound? ref (T f).2.1 (T f).2.2.1 = some x) {v : Value} (hv : fs[f]? = some v) (hdg : decode cc pc = .ok (.getfield index, 3))
    (kk : jJ p l e R s m args below meth c D A0 cs k n Q (F0 m (pc + 3) ls (v :: rest))) : jJ p l e R s m args below meth c D A0 cs k n Q (F0 m pc ls (.ref a :: rest)) :=
  fun H locs hP hD hS => va_getN hexec hb hts hin hown hK (jP_at hP he) 0 rfl hc f hk hlink hsame hv hdg (kk H locs hP hD hS)
theorem jJ_put (hexec : p.tables.exec = Jvm.exec) (hb : c.code = cc) {own ref C : String} {T : u_T} {N ci index : Nat} {Ts : List Cond} (hts : ∀ w ∈ Ts, w.before args s = true) (hin : ∀ w ∈ u_ws C T N, w ∈ Ts) (ty0 : Nat → FieldType) (hty : ∀ k, k < N → parseFieldDescriptor (T k).2.2.1 = some (ty0 k)) (hnm : ∀ a, a < N → ∀ b, b < N → a ≠ b → (T a).2.1 ≠ (T b).2.1) (hown : s.vm.findClass own = some m.cls) (hK : va_K D vwCl tys s) (q0 : Nat) {fs : List Value} (he : cs[q0]? = some [(a, .inr (ci, fs))]) (hc : vwCl[ci]? = some (C, T, N)) (f : Nat) (hk : f < N) (hlink : (Cond.fieldLink own index ref (T f).2.1 (T f).2.2.1).before args s = true) (hsame : ∀ x, s.fieldFound? (T f).1 (T f).2.1 (T f).2.2.1 = some x → s.fieldFound? ref (T f).2.1 (T f).2.2.1 = some x) (hfin : (T f).2.2.2 = false) {ty : FieldType} {v : Value} (hd : parseFieldDescriptor (T f).2.2.1 = some ty) (hn : narrow ty v = v) (hfit : fits ty v = true) (hl : f < fs.length)
    (hdg : decode cc pc = .ok (.putfield index, 3)) {cs2 : List va_W} (hc2 : cs.set q0 [(a, .inr (ci, fs.set f v))] = cs2) (kk : jJ p l e R s m args below meth c D A0 cs2 k n Q (F0 m (pc + 3) ls rest)) : jJ p l e R s m args below meth c D A0 cs k n Q (F0 m pc ls (v :: .ref a :: rest)) := by
  subst hc2
  intro H locs hP hD hS
  obtain ⟨i, hi, hset⟩ := jF_set he
  refine va_put hexec hb hts hin ty0 hty hnm hown hK hP hD hS i hi hc f hk hlink hsame hfin hd hn hfit hl hdg (fun H1 locs1 hP1 hD1 hS1 => ?_)
  rw [hset] at hP1 hD1
  exact kk H1 locs1 hP1 hD1 hS1
theorem jJ_putF (hexec : p.tables.exec = Jvm.exec) (hb : c.code = cc) {own ref C : String} {T : u_T} {N ci index : Nat} {Ts : List Cond} (hts : ∀ w ∈ Ts, w.before args s = true) (hin : ∀ w ∈ u_ws C T N, w ∈ Ts) (ty0 : Nat → FieldType) (hty : ∀ k, k < N → parseFieldDescriptor (T k).2.2.1 = some (ty0 k)) (hnm : ∀ a, a < N → ∀ b, b < N → a ≠ b → (T a).2.1 ≠ (T b).2.1) (hown : s.vm.findClass own = some m.cls) (hK : va_K D vwCl tys s) (q0 : Nat) {fs : List Value} (he : cs[q0]? = some [(a, .inr (ci, fs))]) (hc : vwCl[ci]? = some (C, T, N)) (f : Nat) (hk : f < N) (hlink : (Cond.fieldLink own index ref (T f).2.1 (T f).2.2.1).before args s = true) (hsame : ∀ x, s.fieldFound? (T f).1 (T f).2.1 (T f).2.2.1 = some x → s.fieldFound? ref (T f).2.1 (T f).2.2.1 = some x) (hfin : (T f).2.2.2 = true) (hin2 : meth.name = "<init>") (hdecl : (T f).1 = own) {ty : FieldType} {v : Value} (hd : parseFieldDescriptor (T f).2.2.1 = some ty) (hn : narrow ty v = v) (hfit : fits ty v = true) (hl : f < fs.length)
    (hdg : decode cc pc = .ok (.putfield index, 3)) {cs2 : List va_W} (hc2 : cs.set q0 [(a, .inr (ci, fs.set f v))] = cs2) (kk : jJ p l e R s m args below meth c D A0 cs2 k n Q (F0 m (pc + 3) ls rest)) : jJ p l e R s m args below meth c D A0 cs k n Q (F0 m pc ls (v :: .ref a :: rest)) := by
  subst hc2
  intro H locs hP hD hS
  obtain ⟨i, hi, hset⟩ := jF_set he
  refine va_putF hexec hb hts hin ty0 hty hnm hown hK hP hD hS i hi hc f hk hlink hsame hfin hin2 hdecl hd hn hfit hl hdg (fun H1 locs1 hP1 hD1 hS1 => ?_)
  rw [hset] at hP1 hD1
  exact kk H1 locs1 hP1 hD1 hS1
theorem jJ_iald (hexec : p.tables.exec = Jvm.exec) (hb : c.code = cc) (hK : va_K D vwCl tys s) (q0 t0 : Nat) {cA : ClassId} {z : Nat} {f : Nat → Int32} (ha : cs[q0]? = some [(a, .inl (cA, z, .inl f))]) (ht : tys[t0]? = some (cA, .int)) {i : Int32} (hin : vp_in i z) {x : Int32} (hx : f i.toNatClampNeg = x) (hdg : decode cc pc = .ok (.iaload, 1))
    (kk : jJ p l e R s m args below meth c D A0 cs k n Q (F0 m (pc + 1) ls (.int x :: rest))) : jJ p l e R s m args below meth c D A0 cs k n Q (F0 m pc ls (.int i :: .ref a :: rest)) := by
  subst hx
  exact fun H locs hP hD hS => va_iald hexec hb hK (jP_at hP ha) 0 t0 rfl ht hin hdg (kk H locs hP hD hS)
theorem jJ_bald (hexec : p.tables.exec = Jvm.exec) (hb : c.code = cc) (hK : va_K D vwCl tys s) (q0 t0 : Nat) {cA : ClassId} {z : Nat} {f : Nat → Int32} (ha : cs[q0]? = some [(a, .inl (cA, z, .inl f))]) (ht : tys[t0]? = some (cA, .byte)) {i : Int32} (hin : vp_in i z) {x : Int32} (hx : f i.toNatClampNeg = x) (hdg : decode cc pc = .ok (.baload, 1))
    (kk : jJ p l e R s m args below meth c D A0 cs k n Q (F0 m (pc + 1) ls (.int x :: rest))) : jJ p l e R s m args below meth c D A0 cs k n Q (F0 m pc ls (.int i :: .ref a :: rest)) := by
  subst hx
  exact fun H locs hP hD hS => va_bald hexec hb hK (jP_at hP ha) 0 t0 rfl ht hin hdg (kk H locs hP hD hS)
theorem jJ_zald (hexec : p.tables.exec = Jvm.exec) (hb : c.code = cc) (hK : va_K D vwCl tys s) (q0 t0 : Nat) {cA : ClassId} {z : Nat} {f : Nat → Int32} (ha : cs[q0]? = some [(a, .inl (cA, z, .inl f))]) (ht : tys[t0]? = some (cA, .boolean)) {i : Int32} (hin : vp_in i z) {x : Int32} (hx : f i.toNatClampNeg = x) (hdg : decode cc pc = .ok (.baload, 1))
    (kk : jJ p l e R s m args below meth c D A0 cs k n Q (F0 m (pc + 1) ls (.int x :: rest))) : jJ p l e R s m args below meth c D A0 cs k n Q (F0 m pc ls (.int i :: .ref a :: rest)) := by
  subst hx
  exact fun H locs hP hD hS => va_zald hexec hb hK (jP_at hP ha) 0 t0 rfl ht hin hdg (kk H locs hP hD hS)
theorem jJ_lald (hexec : p.tables.exec = Jvm.exec) (hb : c.code = cc) (hK : va_K D vwCl tys s) (q0 t0 : Nat) {cA : ClassId} {z : Nat} {f : Nat → Int64} (ha : cs[q0]? = some [(a, .inl (cA, z, .inr (.inl f)))]) (ht : tys[t0]? = some (cA, .long)) {i : Int32} (hin : vp_in i z) {x : Int64} (hx : f i.toNatClampNeg = x) (hdg : decode cc pc = .ok (.laload, 1))
    (kk : jJ p l e R s m args below meth c D A0 cs k n Q (F0 m (pc + 1) ls (.long x :: rest))) : jJ p l e R s m args below meth c D A0 cs k n Q (F0 m pc ls (.int i :: .ref a :: rest)) := by
  subst hx
  exact fun H locs hP hD hS => va_lald hexec hb hK (jP_at hP ha) 0 t0 rfl ht hin hdg (kk H locs hP hD hS)
theorem jJ_iast (hexec : p.tables.exec = Jvm.exec) (hb : c.code = cc) (hK : va_K D vwCl tys s) (q0 t0 : Nat) {cA : ClassId} {z : Nat} {f : Nat → Int32} (ha : cs[q0]? = some [(a, .inl (cA, z, .inl f))]) (ht : tys[t0]? = some (cA, .int)) {i x : Int32} (hin : vp_in i z) (hdg : decode cc pc = .ok (.iastore, 1))
    {cs2 : List va_W} (hc2 : cs.set q0 [(a, .inl (cA, z, .inl (upd f i.toNatClampNeg x)))] = cs2) (kk : jJ p l e R s m args below meth c D A0 cs2 k n Q (F0 m (pc + 1) ls rest)) : jJ p l e R s m args below meth c D A0 cs k n Q (F0 m pc ls (.int x :: .int i :: .ref a :: rest)) := by
  subst hc2
  intro H locs hP hD hS
  obtain ⟨j, hi, hset⟩ := jF_set ha
  refine va_iast hexec hb hK hP hD hS j t0 hi ht hin hdg (fun H1 locs1 hP1 hD1 hS1 => ?_)
  rw [hset] at hP1 hD1
  exact kk H1 locs1 hP1 hD1 hS1
theorem jJ_bast (hexec : p.tables.exec = Jvm.exec) (hb : c.code = cc) (hK : va_K D vwCl tys s) (q0 t0 : Nat) {cA : ClassId} {z : Nat} {f : Nat → Int32} (ha : cs[q0]? = some [(a, .inl (cA, z, .inl f))]) (ht : tys[t0]? = some (cA, .byte)) {i x : Int32} (hin : vp_in i z) (hdg : decode cc pc = .ok (.bastore, 1))
    {cs2 : List va_W} (hc2 : cs.set q0 [(a, .inl (cA, z, .inl (upd f i.toNatClampNeg (vp_nar .byte x))))] = cs2) (kk : jJ p l e R s m args below meth c D A0 cs2 k n Q (F0 m (pc + 1) ls rest)) : jJ p l e R s m args below meth c D A0 cs k n Q (F0 m pc ls (.int x :: .int i :: .ref a :: rest)) := by
  subst hc2
  intro H locs hP hD hS
  obtain ⟨j, hi, hset⟩ := jF_set ha
  refine va_bast hexec hb hK hP hD hS j t0 hi ht hin hdg (fun H1 locs1 hP1 hD1 hS1 => ?_)
  rw [hset] at hP1 hD1
  exact kk H1 locs1 hP1 hD1 hS1
theorem jJ_last (hexec : p.tables.exec = Jvm.exec) (hb : c.code = cc) (hK : va_K D vwCl tys s) (q0 t0 : Nat) {cA : ClassId} {z : Nat} {f : Nat → Int64} (ha : cs[q0]? = some [(a, .inl (cA, z, .inr (.inl f)))]) (ht : tys[t0]? = some (cA, .long)) {i : Int32} {x : Int64} (hin : vp_in i z) (hdg : decode cc pc = .ok (.lastore, 1))
    {cs2 : List va_W} (hc2 : cs.set q0 [(a, .inl (cA, z, .inr (.inl (vp_updL f i.toNatClampNeg x))))] = cs2) (kk : jJ p l e R s m args below meth c D A0 cs2 k n Q (F0 m (pc + 1) ls rest)) : jJ p l e R s m args below meth c D A0 cs k n Q (F0 m pc ls (.long x :: .int i :: .ref a :: rest)) := by
  subst hc2
  intro H locs hP hD hS
  obtain ⟨j, hi, hset⟩ := jF_set ha
  refine va_last hexec hb hK hP hD hS j t0 hi ht hin hdg (fun H1 locs1 hP1 hD1 hS1 => ?_)
  rw [hset] at hP1 hD1
  exact kk H1 locs1 hP1 hD1 hS1
theorem jJ_alen (hexec : p.tables.exec = Jvm.exec) (hb : c.code = cc) (hK : va_K D vwCl tys s) (q0 t0 : Nat) {cA : ClassId} {x : vp_A} (ha : cs[q0]? = some [(a, .inl (cA, x))]) {ty : FieldType} (ht : tys[t0]? = some (cA, ty)) {v : Int32} (hv : Int32.ofNat x.1 = v) (hdg : decode cc pc = .ok (.arraylength, 1))
    (kk : jJ p l e R s m args below meth c D A0 cs k n Q (F0 m (pc + 1) ls (.int v :: rest))) : jJ p l e R s m args below meth c D A0 cs k n Q (F0 m pc ls (.ref a :: rest)) :=
  fun H locs hP hD hS => va_alen hexec hb hK (jP_at hP ha) 0 t0 rfl ht hv hdg (kk H locs hP hD hS)
end JLC
section JLD
variable {p : Program} {l : Launch} {e : Env} {R : Room} {s : State} {m : MethodId} {args : Array Value} {below : List Frame} {meth : Method} {c : Code}
variable {D : va_G} {G : Nat → Nat} {A0 : Nat → Prop} {cs : List va_W} {k n : Nat} {tys : List (ClassId × FieldType)} {cc : ByteArray} {pc : Nat} {ls : Array Slot}
def jEnd (below : List Frame) (D : va_G) (A0 : Nat → Prop) (Qv : Option Value → va_W → Nat → Nat → Prop) (args : Array Value) (s : State) (mc ms : Nat) : State → Prop := MQ below (jQ D A0 Qv) args s mc ms A0
theorem jEnds {Qv : Option Value → va_W → Nat → Nat → Prop} {mc ms : Nat} {v : Option Value} {g : JFrame} (hq : Qv v (jF cs) k n) (hk : k ≤ mc) (hn : n ≤ ms)
    (hret : ∀ (H : Heap) (locs : List Loc), (∀ t : State, t.heap = H → s.WarmedH t.vm → jQ D A0 Qv args s (.returned v) t) → (∀ q ∈ locs, A0 q.base) → W p l e R s m args below meth c H locs mc ms (MQ below (jQ D A0 Qv) args s mc ms A0) g) :
    jJ p l e R s m args below meth c D A0 cs k n (jEnd below D A0 Qv args s mc ms) g := by
  intro H locs hP hD hS T hT X
  obtain ⟨g1, g2⟩ := jGrowth X
  rw [hT] at g1 g2
  exact hret H locs (fun t ht hW => ⟨⟨v, jF cs, k, n, rfl, hq, by rw [ht]; exact hP, hD, by rw [ht]; exact g1, by rw [ht]; exact g2⟩, hS.F ht⟩) hS.2.2 T hT (stand_widen X hk hn)
theorem jJ_iret {Qv : Option Value → va_W → Nat → Nat → Prop} {mc ms : Nat} {v : Int32} (hx : p.tables.exec = Jvm.exec) (hb : c.code = cc) (hr : meth.sig.returnType = some .int) (hlocks : meth.locks = false) (hdg : decode cc pc = .ok (.ireturn, 1))
    (hk : k ≤ mc) (hn : n ≤ ms) (hq : Qv (some (.int v)) (jF cs) k n) : jJ p l e R s m args below meth c D A0 cs k n (jEnd below D A0 Qv args s mc ms) (F0 m pc ls [.int v]) :=
  jEnds hq hk hn (fun H locs h1 h2 => W.iret hx hb hr h1 h2 hdg hlocks)
theorem jNarZ {v : Int32} (h : v = 0 ∨ v = 1) : narrow .boolean (.int v) = .int v := by rcases h with rfl | rfl <;> rfl
theorem jJ_zret {Qv : Option Value → va_W → Nat → Nat → Prop} {mc ms : Nat} {v : Int32} (hx : p.tables.exec = Jvm.exec) (hb : c.code = cc) (hr : meth.sig.returnType = some .boolean) (hlocks : meth.locks = false) (hdg : decode cc pc = .ok (.ireturn, 1))
    (hk : k ≤ mc) (hn : n ≤ ms) (hv : v = 0 ∨ v = 1) (hq : Qv (some (.int v)) (jF cs) k n) : jJ p l e R s m args below meth c D A0 cs k n (jEnd below D A0 Qv args s mc ms) (F0 m pc ls [.int v]) :=
  jEnds hq hk hn (fun H locs h1 h2 => W.zret hx hb hr (jNarZ hv) h1 h2 hdg hlocks)
theorem jJ_lret {Qv : Option Value → va_W → Nat → Nat → Prop} {mc ms : Nat} {v : Int64} (hx : p.tables.exec = Jvm.exec) (hb : c.code = cc) (hr : meth.sig.returnType = some .long) (hlocks : meth.locks = false) (hdg : decode cc pc = .ok (.lreturn, 1))
    (hk : k ≤ mc) (hn : n ≤ ms) (hq : Qv (some (.long v)) (jF cs) k n) : jJ p l e R s m args below meth c D A0 cs k n (jEnd below D A0 Qv args s mc ms) (F0 m pc ls [.long v]) :=
  jEnds hq hk hn (fun H locs h1 h2 => W.lret hx hb hr h1 h2 hdg hlocks)
theorem jJ_vret {Qv : Option Value → va_W → Nat → Nat → Prop} {mc ms : Nat} (hx : p.tables.exec = Jvm.exec) (hb : c.code = cc) (hr : meth.sig.returnType = none) (hlocks : meth.locks = false) (hdg : decode cc pc = .ok (.return_, 1))
    (hk : k ≤ mc) (hn : n ≤ ms) (hq : Qv none (jF cs) k n) : jJ p l e R s m args below meth c D A0 cs k n (jEnd below D A0 Qv args s mc ms) (F0 m pc ls []) :=
  jEnds hq hk hn (fun H locs h1 h2 => W.vret hx hb hr h1 h2 hdg hlocks)
theorem jJ_aret {Qv : Option Value → va_W → Nat → Nat → Prop} {mc ms : Nat} {v : Nat} {rt : FieldType} (hx : p.tables.exec = Jvm.exec) (hb : c.code = cc) (hr : meth.sig.returnType = some rt) (hrt : (∃ n, rt = .object n) ∨ ∃ t, rt = .array t) (hlocks : meth.locks = false) (hdg : decode cc pc = .ok (.areturn, 1))
    (hk : k ≤ mc) (hn : n ≤ ms) (hq : Qv (some (.ref v)) (jF cs) k n) : jJ p l e R s m args below meth c D A0 cs k n (jEnd below D A0 Qv args s mc ms) (F0 m pc ls [.ref v]) :=
  jEnds hq hk hn (fun H locs h1 h2 => W.aret hx hb hr hrt (Or.inr ⟨_, rfl⟩) h1 h2 hdg hlocks)
/-- a contract out of its body's walk -/
theorem HM_of {y : MethodName} {ws ws' : List Cond} {rm : Room} {av : List Value} {w : va_W} {Qv : Option Value → va_W → Nat → Nat → Prop} {maxL : Nat} {ret : Option FieldType} {lv : List (Nat × Value)}
    (hy : plainName y.cls = true) (hw : ws = Cond.code y cc maxL ret :: ws') (hlv : lv_args 0 av = lv) (hln : (lg_sl av).length ≤ maxL)
    (body : ∀ (p : Program) (e : Env) (s : State) (m : MethodId) (args : Array Value) (below : List Frame) (meth : Method) (c : Code) (A0 : Nat → Prop) (ls : Array Slot),
      p.tables.exec = Jvm.exec → c.code = cc → meth.sig.returnType = ret → (∀ w ∈ ws, w.before args s = true) → s.vm.findClass y.cls = some m.cls → meth.locks = false → c.maxLocals = maxL → meth.name = y.name → va_K D vwCl tys s → (∀ q : Nat, s.heap.size ≤ q → A0 q) → jAm G A0 s s.heap → lv_has ls maxL lv →
      jJ p l e rm s m args below meth c D A0 [w] 0 0 (jEnd below D A0 Qv args s rm.cells rm.slots) (F0 m 0 ls [])) : HM l y ws rm D G tys av w Qv := by
  intro sz
  refine Met.ofW (cc := cc) (maxL := maxL) (ret := ret) hy hw ?_
  intro p e s m args below meth c s₁ B hml hv
  obtain ⟨rfl, hsz, hP, hK, hD0, hM9⟩ := hv
  subst hsz
  have hl := lv_entry av (n := maxL) hln
  rw [lg_entry_eq]
  generalize (lg_sl av ++ List.replicate (maxL - (lg_sl av).length) Slot.unset).toArray = ls at hl ⊢
  rw [hlv] at hl
  exact body p e s m av.toArray below meth c (va_A w s.heap.size) ls B.exec B.bytes B.returns (atoms_spec (ws := ws) B.pre) (findClass_of_methodNamed B.named) B.notSynchronized hml (name_of_methodNamed B.named B.method).1 hK (fun q h => Or.inr h) hM9 hl s.heap [] hP hD0.self va_S.rf
/-- a contract out of its body's walk -/
theorem HM_ofF {y : MethodName} {ws ws' : List Cond} {rm : Room} {av : List Value} {w : va_W} {Qv : Option Value → va_W → Nat → Nat → Prop} {maxL : Nat} {ret : Option FieldType} {lv : List (Nat × Value)}
    (hy : plainFor y = true) (hw : ws = Cond.code y cc maxL ret :: ws') (hlv : lv_args 0 av = lv) (hln : (lg_sl av).length ≤ maxL)
    (body : ∀ (p : Program) (e : Env) (s : State) (m : MethodId) (args : Array Value) (below : List Frame) (meth : Method) (c : Code) (A0 : Nat → Prop) (ls : Array Slot),
      p.tables.exec = Jvm.exec → c.code = cc → meth.sig.returnType = ret → (∀ w ∈ ws, w.before args s = true) → s.vm.findClass y.cls = some m.cls → meth.locks = false → c.maxLocals = maxL → meth.name = y.name → va_K D vwCl tys s → (∀ q : Nat, s.heap.size ≤ q → A0 q) → jAm G A0 s s.heap → lv_has ls maxL lv →
      jJ p l e rm s m args below meth c D A0 [w] 0 0 (jEnd below D A0 Qv args s rm.cells rm.slots) (F0 m 0 ls [])) : HM l y ws rm D G tys av w Qv := by
  intro sz
  refine va_MetF (cc := cc) (maxL := maxL) (ret := ret) hy hw ?_
  intro p e s m args below meth c s₁ B hml hv
  obtain ⟨rfl, hsz, hP, hK, hD0, hM9⟩ := hv
  subst hsz
  have hl := lv_entry av (n := maxL) hln
  rw [lg_entry_eq]
  generalize (lg_sl av ++ List.replicate (maxL - (lg_sl av).length) Slot.unset).toArray = ls at hl ⊢
  rw [hlv] at hl
  exact body p e s m av.toArray below meth c (va_A w s.heap.size) ls B.exec B.bytes B.returns (atoms_spec (ws := ws) B.pre) (findClass_of_methodNamed B.named) B.notSynchronized hml (name_of_methodNamed B.named B.method).1 hK (fun q h => Or.inr h) hM9 hl s.heap [] hP hD0.self va_S.rf
end JLD
