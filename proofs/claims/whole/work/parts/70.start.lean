/-! the law: its start -/
theorem lw_eq {args : Array Value} {s : State} {a : Term} {v : Int32} (h : (Cond.eq a (.int v)).before args s = true) : a.eval args s none [] s = some (.int v) := by
  obtain ⟨w, h1, h2⟩ := Cond.eq_one (show (Cond.eq a (.int v)).holds args s none s [] = true from h)
  cases (show some (Value.int v) = some w from h2)
  exact h1
theorem arr_of {args : Array Value} {s : State} {ty : FieldType} (h : (Cond.arrayClass ty).before args s = true) : ∃ cA : ClassId, ArrOfT s cA ty ∧ s.vm.findClass ("[" ++ ty.toString) = some cA := by
  obtain ⟨c, k, comp, h1, h2, h3⟩ := Cond.arrayClass_spec (args := args) (first := s) (o := none) (s := s) (idx := []) (type := ty) h
  exact ⟨c, fun n z => ⟨fun k h => (by cases h), k, h2, comp, h3⟩, h1⟩
/-- a text of words at the start -/
theorem str_at {args : Array Value} {s : State} {own tx : String} {k N : Nat} {W9 : List Nat} {A : Nat → Prop} (hN : N < 2 ^ 31) (hA : ∀ a : Nat, a < s.heap.size → ¬ A a) (hsr : (Cond.stringRef own k tx).before args s = true) (hex : (Cond.exactly (.string own k) "java/lang/String").before args s = true) (hco : (Cond.eq (.field (.string own k) "java/lang/String" "coder" "B") (.int 0)).before args s = true)
    (har : (Cond.arrayOf (.field (.string own k) "java/lang/String" "value" "[B") .byte).before args s = true) (hln : (Cond.eq (.length (.field (.string own k) "java/lang/String" "value" "[B")) (.int (Int32.ofNat N))).before args s = true) (hel : ∀ j, j < N → (Cond.eq (.elem (.field (.string own k) "java/lang/String" "value" "[B") (.int (Int32.ofNat j))) (.int (nI (W9.getD j 0)))).before args s = true) :
    ∃ a t : Nat, (va_OF "java/lang/String" "coder" "B" (.int 0) a A s s.heap ∧ va_OF "java/lang/String" "value" "[B" (.ref t) a A s s.heap ∧ va_O "java/lang/String" a A s s.heap) ∧ va_T .byte t N (fun j => .int (nI (W9.getD j 0))) A s s.heap ∧ vk_R own k tx a s := by
  obtain ⟨a, c, cA, kA, q1, -⟩ := Cond.exactly_spec (args := args) (first := s) (o := none) (s := s) (idx := []) (t := .string own k) (cls := "java/lang/String") hex
  obtain ⟨t, ht, hT⟩ := va_Tof (tm := .field (.string own k) "java/lang/String" "value" "[B") hN har (lw_eq hln) (fun j hj => lw_eq (hel j hj)) hA
  exact ⟨a, t, ⟨vk_OFof q1 (lw_eq hco) hA, vk_OFof q1 ht hA, va_Oof hex q1 hA⟩, hT, vk_R.of hsr q1⟩
def lwG : Cond := Jvm.Cond.and given_1 narrow_1
set_option maxRecDepth 20000 in
theorem lw_s1 : ∀ j, j < 95 → Cond.eq (.elem (.field (.string "ValueBlocks$Tokens" 76) "java/lang/String" "value" "[B") (.int (Int32.ofNat j))) (.int (nI (jW1.getD j 0))) ∈ flatC lwG := by decide +kernel
set_option maxRecDepth 20000 in
theorem lw_s2 : ∀ j, j < 72 → Cond.eq (.elem (.field (.string "ValueBlocksModel" 105) "java/lang/String" "value" "[B") (.int (Int32.ofNat j))) (.int (nI (jW2.getD j 0))) ∈ flatC lwG := by decide +kernel
section LST
variable {s : State} {b : Nat}
set_option maxRecDepth 20000 in
theorem lw_am (hts : ∀ w ∈ lw_tbl, w.before #[Value.ref b] s = true) (hgv : lwG.before #[Value.ref b] s = true) : ∃ G : Nat → Nat, jAm G (fun q => s.heap.size ≤ q) s s.heap := by
  have hg := flat_of_before lwG hgv
  have hA : ∀ a : Nat, a < s.heap.size → ¬ (fun q : Nat => s.heap.size ≤ q) a := fun a h => Nat.not_le.mpr h
  obtain ⟨a1, t1, h1, h2, h3⟩ := str_at (own := "ValueBlocks$Tokens") (k := 76) (tx := "IF   GOTO WHILEDO   END  ABS  FIX  FUP  ROOT MOD  AND  OR   XOR  EQ   NE   LT   LE   GT   GE   ") (N := 95) (W9 := jW1) (by decide) hA (hts _ (by decide +kernel)) (hg _ (by decide +kernel)) (hg _ (by decide +kernel)) (hg _ (by decide +kernel)) (hg _ (by decide +kernel)) (fun j hj => hg _ (lw_s1 j hj))
  obtain ⟨a2, t2, k1, k2, k3⟩ := str_at (own := "ValueBlocksModel") (k := 105) (tx := " IF GOTO WHILE DO END ABS FIX FUP ROOT MOD AND OR XOR EQ NE LT LE GT GE ") (N := 72) (W9 := jW2) (by decide) hA (hts _ (by decide +kernel)) (hg _ (by decide +kernel)) (hg _ (by decide +kernel)) (hg _ (by decide +kernel)) (hg _ (by decide +kernel)) (fun j hj => hg _ (lw_s2 j hj))
  refine ⟨fun i => if i = 0 then a1 else if i = 1 then a2 else if i = 2 then t1 else t2, va_Zof (hts _ (by decide +kernel)) (hts (.initialized "java/lang/String") (by decide +kernel)) (lw_eq (hg _ (by decide +kernel))) hA, va_Zqof (hts _ (by decide +kernel)) (hts (.initialized "jdk/internal/util/Preconditions") (by decide +kernel)) (hg _ (by decide +kernel)) hA, fun i hi => ?_, h2, k2, h3, k3, va_Nw.of rfl (hts (.fieldLinkNest RX4 81 "ValueBlocks$Program" "code" "LValueBlocks$Row;" "ValueBlocks") (by decide +kernel)), va_Nw.of rfl (hts (.methodLinkNest RX8 29 yX2_init "ValueBlocks") (by decide +kernel)), va_Nw.of rfl (hts (.methodLinkNest RX8 36 yX3_init "ValueBlocks") (by decide +kernel)), va_Nw.of rfl (hts (.methodLinkNest RX10 9 yX9_init "ValueBlocksModel") (by decide +kernel))⟩
  rcases (show i = 0 ∨ i = 1 by omega) with rfl | rfl
  · exact h1
  · exact k1
theorem lw_jZ (hts : ∀ w ∈ lw_tbl, w.before #[Value.ref b] s = true) (hgv : lwG.before #[Value.ref b] s = true) : jZ (fun q => s.heap.size ≤ q) s := by
  have hg := flat_of_before lwG hgv
  have hA : ∀ a : Nat, a < s.heap.size → ¬ (fun q : Nat => s.heap.size ≤ q) a := fun a h => Nat.not_le.mpr h
  exact ⟨vx_Zqof (hts _ (by decide +kernel)) (hts (.initialized Bundle.tN) (by decide +kernel)) (hg _ (by decide +kernel)) hA, vx_Zqof (hts _ (by decide +kernel)) (hts (.initialized Bundle.tN) (by decide +kernel)) (hg _ (by decide +kernel)) hA, va_Nw.of rfl (hts _ (by decide +kernel)), va_Nw.of rfl (hts _ (by decide +kernel)), va_Nw.of rfl (hts _ (by decide +kernel))⟩

theorem lw_K (hts : ∀ w ∈ lw_tbl, w.before #[Value.ref b] s = true) : ∃ (D : va_G) (cI cJ cB cZ : ClassId), va_K D vwCl (jT cI cJ cB cZ) s := by
  obtain ⟨c0, iS0, hKn0⟩ := u_known (C := RJxb5711) (T := TJxb5711) (N := 0) (n := 6) hts wsL_in_wsJxb57110 (hts (.instantiable RJxb5711 6) (by decide +kernel))
  obtain ⟨c1, iS1, hKn1⟩ := u_known (C := RX2) (T := TX2) (N := 6) (n := 6) hts wsL_in_wsX20 (hts (.instantiable RX2 6) (by decide +kernel))
  obtain ⟨c2, iS2, hKn2⟩ := u_known (C := RX3) (T := TX3) (N := 8) (n := 8) hts wsL_in_wsX30 (hts (.instantiable RX3 8) (by decide +kernel))
  obtain ⟨c3, iS3, hKn3⟩ := u_known (C := RX4) (T := TX4) (N := 3) (n := 3) hts wsL_in_wsX40 (hts (.instantiable RX4 3) (by decide +kernel))
  obtain ⟨c4, iS4, hKn4⟩ := u_known (C := RX5) (T := TX5) (N := 3) (n := 3) hts wsL_in_wsX50 (hts (.instantiable RX5 3) (by decide +kernel))
  obtain ⟨c5, iS5, hKn5⟩ := u_known (C := RX6) (T := TX6) (N := 5) (n := 5) hts wsL_in_wsX60 (hts (.instantiable RX6 5) (by decide +kernel))
  obtain ⟨c6, iS6, hKn6⟩ := u_known (C := RX8) (T := TX8) (N := 9) (n := 9) hts wsL_in_wsX80 (hts (.instantiable RX8 9) (by decide +kernel))
  obtain ⟨c7, iS7, hKn7⟩ := u_known (C := RX9) (T := TX9) (N := 13) (n := 13) hts wsL_in_wsX90 (hts (.instantiable RX9 13) (by decide +kernel))
  obtain ⟨c8, iS8, hKn8⟩ := u_known (C := RX10) (T := TX10) (N := 19) (n := 19) hts wsL_in_wsX100 (hts (.instantiable RX10 19) (by decide +kernel))
  obtain ⟨cI, aI1, aI2⟩ := arr_of (hts (.arrayClass .int) (by decide +kernel))
  obtain ⟨cJ, aJ1, aJ2⟩ := arr_of (hts (.arrayClass .long) (by decide +kernel))
  obtain ⟨cB, aB1, aB2⟩ := arr_of (hts (.arrayClass .byte) (by decide +kernel))
  obtain ⟨cZ, aZ1, aZ2⟩ := arr_of (hts (.arrayClass .boolean) (by decide +kernel))
  refine ⟨(fun k => if k = 0 then c0 else if k = 1 then c1 else if k = 2 then c2 else if k = 3 then c3 else if k = 4 then c4 else if k = 5 then c5 else if k = 6 then c6 else if k = 7 then c7 else c8, fun k => if k = 0 then iS0 else if k = 1 then iS1 else if k = 2 then iS2 else if k = 3 then iS3 else if k = 4 then iS4 else if k = 5 then iS5 else if k = 6 then iS6 else if k = 7 then iS7 else iS8), cI, cJ, cB, cZ, fun k q hq => ?_, fun k q hq => ?_⟩
  · match k, hq with
    | 0, hq => cases hq; exact hKn0
    | 1, hq => cases hq; exact hKn1
    | 2, hq => cases hq; exact hKn2
    | 3, hq => cases hq; exact hKn3
    | 4, hq => cases hq; exact hKn4
    | 5, hq => cases hq; exact hKn5
    | 6, hq => cases hq; exact hKn6
    | 7, hq => cases hq; exact hKn7
    | 8, hq => cases hq; exact hKn8
    | k + 9, hq => simp [vwCl] at hq
  · match k, hq with
    | 0, hq => cases hq; exact ⟨aI1, aI2⟩
    | 1, hq => cases hq; exact ⟨aJ1, aJ2⟩
    | 2, hq => cases hq; exact ⟨aB1, aB2⟩
    | 3, hq => cases hq; exact ⟨aZ1, aZ2⟩
    | k + 4, hq => simp [jT] at hq
end LST
