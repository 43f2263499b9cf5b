/-! ValueBlocksModel: what the terms come to: the alarm (0 none) and the value -/
def xThen (x : Nat × Int) (f : Int → Nat × Int) : Nat × Int := if x.1 = 0 then f x.2 else x
theorem xThen_0 (v : Int) (f : Int → Nat × Int) : xThen (0, v) f = f v := if_pos rfl
theorem xThen_n {al : Nat} {v : Int} (h : ¬ al = 0) (f : Int → Nat × Int) : xThen (al, v) f = (al, v) := if_neg h
def xOp1 (k : Nat) (v : Int) : Nat × Int := if k = 308 ∧ v < 0 then (1, 0) else if vTG (vOne k v) = true then (4, 0) else (0, vOne k v)
def xOp2 (k : Nat) (a b : Int) : Nat × Int := if b = 0 ∧ (k = 47 ∨ k = 309) then (1, 0) else if vTG (vTwo k a b) = true then (4, 0) else (0, vTwo k a b)
def xLoop (tk : Nat → List Nat) (jn : Nat → Bool) (q : Nat → Bool × Nat) (part : Nat → Nat × Int) : Nat → Nat → Int → Nat × Int
  | 0 => fun _ v => (0, v)
  | f + 1 => fun a v => if jn ((tk 0).getD a 0) = true then xThen (part (a + 1)) (fun u => xThen (xOp2 ((tk 0).getD a 0) v u) (xLoop tk jn q part f (q (a + 1)).2)) else (0, v)
def xSeq (tk : Nat → List Nat) (N : Nat) (jn : Nat → Bool) (q : Nat → Bool × Nat) (part : Nat → Nat × Int) (a : Nat) : Nat × Int := xThen (part a) (xLoop tk jn q part N (q a).2)
def xTe (tk : Nat → List Nat) (q : Nat → Bool × Nat) (su : Nat → Nat × Int) (a : Nat) : Nat × Int := xThen (su a) (fun v => if 313 ≤ (tk 0).getD (q a).2 0 ∧ (tk 0).getD (q a).2 0 ≤ 318 then xThen (su ((q a).2 + 1)) (fun u => xOp2 ((tk 0).getD (q a).2 0) v u) else (0, v))
def xPv (tk : Nat → List Nat) (br : Nat → Nat × Int) (a : Nat) : Nat × Int := if (tk 0).getD a 0 = 91 then br a else (0, ((tk 2).getD a 0 : Int))
def xCk (v : Int) : Nat × Int := if v.tdiv 1000 * 1000 = v ∧ isV (v.tdiv 1000) = true then (0, v.tdiv 1000) else (2, 0)
def xPn (tk : Nat → List Nat) (br : Nat → Nat × Int) (a : Nat) : Nat × Int := xThen (xPv tk br a) xCk
def xFw (tk : Nat → List Nat) (vs : Nat → Int) (ng br : Nat → Nat × Int) (a : Nat) : Nat × Int :=
  if (tk 0).getD a 0 = 45 then xThen (ng a) (xOp1 1)
  else if (tk 0).getD a 0 = 305 ∨ (tk 0).getD a 0 = 306 ∨ (tk 0).getD a 0 = 307 ∨ (tk 0).getD a 0 = 308 then xThen (br (a + 1)) (xOp1 ((tk 0).getD a 0))
  else if (tk 0).getD a 0 = 35 then xThen (xPn tk br (a + 1)) (fun n => (0, vs n.toNat))
  else if (tk 0).getD a 0 = 256 ∨ (tk 0).getD a 0 = 257 then (0, ((tk 2).getD a 0 : Int))
  else br a
def xNo (_ : Nat) : Nat × Int := (0, 0)
def xFac (tk : Nat → List Nat) (N : Nat) (vs : Nat → Int) : Nat → Nat → Nat × Int
  | 0 => xFw tk vs xNo xNo
  | r + 1 => xFw tk vs (fun a => xFac tk N vs r (a + 1)) (fun a => xTe tk (qSum tk N r) (xSeq tk N jnP (qSeq tk N jnF (qFac tk N r)) (xSeq tk N jnF (qFac tk N r) (xFac tk N vs r))) (a + 1))
def xPro (tk : Nat → List Nat) (N : Nat) (vs : Nat → Int) (r : Nat) : Nat → Nat × Int := xSeq tk N jnF (qFac tk N r) (xFac tk N vs r)
def xSum (tk : Nat → List Nat) (N : Nat) (vs : Nat → Int) (r : Nat) : Nat → Nat × Int := xSeq tk N jnP (qSeq tk N jnF (qFac tk N r)) (xPro tk N vs r)
def xTes (tk : Nat → List Nat) (N : Nat) (vs : Nat → Int) (r : Nat) : Nat → Nat × Int := xTe tk (qSum tk N r) (xSum tk N vs r)
def xBra (tk : Nat → List Nat) (N : Nat) (vs : Nat → Int) : Nat → Nat → Nat × Int
  | 0 => xNo
  | r + 1 => fun a => xTes tk N vs r (a + 1)
def xNeg (tk : Nat → List Nat) (N : Nat) (vs : Nat → Int) : Nat → Nat → Nat × Int
  | 0 => xNo
  | r + 1 => fun a => xFac tk N vs r (a + 1)
theorem xFac_eq (tk : Nat → List Nat) (N : Nat) (vs : Nat → Int) (r a : Nat) : xFac tk N vs r a = xFw tk vs (xNeg tk N vs r) (xBra tk N vs r) a := by
  cases r <;> rfl
/-- without an alarm a value is one -/
def xV (f : Nat → Nat × Int) : Prop := ∀ a, (f a).1 = 0 → vOK (f a).2
theorem ok_vTG {z : Int} (h : vOK z) : vTG z = false := decide_eq_false (by unfold vOK at h; omega)
theorem xv_op1 (k : Nat) (v : Int) : (xOp1 k v).1 = 0 → vOK (xOp1 k v).2 := by
  unfold xOp1
  split
  · intro h; exact absurd h (by decide)
  · split
    · intro h; exact absurd h (by decide)
    · rename_i q; intro _; exact vTG_ok ((Bool.not_eq_true _).mp q)
theorem xv_op2 (k : Nat) (a b : Int) : (xOp2 k a b).1 = 0 → vOK (xOp2 k a b).2 := by
  unfold xOp2
  split
  · intro h; exact absurd h (by decide)
  · split
    · intro h; exact absurd h (by decide)
    · rename_i q; intro _; exact vTG_ok ((Bool.not_eq_true _).mp q)
theorem xv_then {x : Nat × Int} (hx : x.1 = 0 → vOK x.2) {f : Int → Nat × Int} (hf : ∀ v, vOK v → (f v).1 = 0 → vOK (f v).2) : (xThen x f).1 = 0 → vOK (xThen x f).2 := by
  unfold xThen
  split
  · rename_i q; exact hf x.2 (hx q)
  · rename_i q; intro h; exact absurd h q
theorem xv_loop {tk : Nat → List Nat} (jn : Nat → Bool) (q : Nat → Bool × Nat) {part : Nat → Nat × Int} (hp : xV part) : ∀ (f a : Nat) (v : Int), vOK v → (xLoop tk jn q part f a v).1 = 0 → vOK (xLoop tk jn q part f a v).2
  | 0, a, v, h, _ => h
  | f + 1, a, v, h, h1 => by
    revert h1
    show (if _ then _ else _ : Nat × Int).1 = 0 → vOK (if _ then _ else _ : Nat × Int).2
    split
    · exact xv_then (hp _) (fun u _ => xv_then (xv_op2 _ _ _) (fun w hw => xv_loop jn q hp f _ w hw))
    · intro _; exact h
theorem xv_seq {tk : Nat → List Nat} {N : Nat} (jn : Nat → Bool) (q : Nat → Bool × Nat) {part : Nat → Nat × Int} (hp : xV part) : xV (xSeq tk N jn q part) := fun a => xv_then (hp a) (fun v hv => xv_loop jn q hp N _ v hv)
theorem xv_te {tk : Nat → List Nat} (q : Nat → Bool × Nat) {su : Nat → Nat × Int} (hp : xV su) : xV (xTe tk q su) := fun a => xv_then (hp a) (fun v hv => by
  show (if _ then _ else _ : Nat × Int).1 = 0 → vOK (if _ then _ else _ : Nat × Int).2
  split
  · exact xv_then (hp _) (fun u _ => xv_op2 _ _ _)
  · intro _; exact hv)
theorem vOK_nat {n : Nat} (h : n < 1000000000) : vOK (n : Int) := by unfold vOK; omega
theorem xv_fw {tk : Nat → List Nat} {vs : Nat → Int} (hB : ∀ i, (tk 2).getD i 0 < 1000000000) (hvs : ∀ i, i < 200 → vOK (vs i)) {ng br : Nat → Nat × Int} (hn : xV ng) (hb : xV br) : xV (xFw tk vs ng br) := by
  intro a
  unfold xFw
  split
  · exact xv_then (hn a) (fun v _ => xv_op1 _ v)
  · split
    · exact xv_then (hb _) (fun v _ => xv_op1 _ v)
    · split
      · unfold xThen
        split
        · rename_i q
          intro _
          unfold xPn at q ⊢
          unfold xThen at q ⊢
          split at q
          · rename_i q2
            rw [if_pos q2]
            unfold xCk at q ⊢
            split at q
            · rename_i q3
              rw [if_pos q3]
              have h3 := of_decide_eq_true q3.2
              exact hvs _ (by show ((xPv tk br (a + 1)).2.tdiv 1000).toNat < 200; omega)
            · exact absurd q (by decide)
          · rename_i q2
            exact absurd q q2
        · rename_i q; intro h; exact absurd h q
      · split
        · intro _; exact vOK_nat (hB a)
        · exact hb a
theorem vOK_0 : vOK 0 := by unfold vOK; omega
theorem xv_no : xV xNo := fun _ _ => vOK_0
theorem xv_fac {tk : Nat → List Nat} {vs : Nat → Int} (N : Nat) (hB : ∀ i, (tk 2).getD i 0 < 1000000000) (hvs : ∀ i, i < 200 → vOK (vs i)) : ∀ r : Nat, xV (xFac tk N vs r)
  | 0 => xv_fw hB hvs xv_no xv_no
  | r + 1 => xv_fw hB hvs (fun a => xv_fac N hB hvs r (a + 1)) (fun a => xv_te _ (xv_seq _ _ (xv_seq _ _ (xv_fac N hB hvs r))) (a + 1))
theorem xv_bra {tk : Nat → List Nat} {vs : Nat → Int} (N : Nat) (hB : ∀ i, (tk 2).getD i 0 < 1000000000) (hvs : ∀ i, i < 200 → vOK (vs i)) : ∀ r : Nat, xV (xBra tk N vs r)
  | 0 => xv_no
  | r + 1 => fun a => xv_te _ (xv_seq _ _ (xv_seq _ _ (xv_fac N hB hvs r))) (a + 1)
theorem xv_pro {tk : Nat → List Nat} {vs : Nat → Int} (N : Nat) (hB : ∀ i, (tk 2).getD i 0 < 1000000000) (hvs : ∀ i, i < 200 → vOK (vs i)) (r : Nat) : xV (xPro tk N vs r) := xv_seq _ _ (xv_fac N hB hvs r)
theorem xv_sum {tk : Nat → List Nat} {vs : Nat → Int} (N : Nat) (hB : ∀ i, (tk 2).getD i 0 < 1000000000) (hvs : ∀ i, i < 200 → vOK (vs i)) (r : Nat) : xV (xSum tk N vs r) := xv_seq _ _ (xv_pro N hB hvs r)
theorem qThen_ok {x : Bool × Nat} {f : Nat → Bool × Nat} (h : (qThen x f).1 = true) : x.1 = true ∧ (f x.2).1 = true ∧ qThen x f = f x.2 := by
  unfold qThen at h ⊢
  split at h
  · rename_i q; exact ⟨q, h, if_pos q⟩
  · rename_i q; exact absurd h q
/-! the root: both find the greatest whole number whose square is not above N -/
theorem rtF_spec (N : Int) : ∀ (m : Nat) (r : Int), 0 ≤ r → r * r ≤ N → N < (r + 2 ^ m) * (r + 2 ^ m) → 0 ≤ rtF N m r ∧ rtF N m r * rtF N m r ≤ N ∧ N < (rtF N m r + 1) * (rtF N m r + 1)
  | 0, r, h0, h1, h2 => ⟨h0, h1, h2⟩
  | m + 1, r, h0, h1, h2 => by
    have hp : (2 : Int) ^ (m + 1) = 2 ^ m + 2 ^ m := by rw [Int.pow_succ]; omega
    have hq : (0 : Int) < 2 ^ m := Int.pow_pos (by decide)
    unfold rtF
    split
    · rename_i q
      exact rtF_spec N m _ (by omega) q (by rw [hp, ← Int.add_assoc] at h2; exact h2)
    · rename_i q
      exact rtF_spec N m r h0 h1 (by omega)
theorem rt_uniq {N x y : Int} (hx : 0 ≤ x) (hy : 0 ≤ y) (h1 : x * x ≤ N) (h2 : N < (x + 1) * (x + 1)) (h3 : y * y ≤ N) (h4 : N < (y + 1) * (y + 1)) : x = y := by
  have a1 : ¬ x < y := fun q => by
    have : (x + 1) * (x + 1) ≤ y * y := Int.mul_le_mul (by omega) (by omega) (by omega) (by omega)
    omega
  have a2 : ¬ y < x := fun q => by
    have : (y + 1) * (y + 1) ≤ x * x := Int.mul_le_mul (by omega) (by omega) (by omega) (by omega)
    omega
  omega
theorem vRt_eq {N x : Int} (hN : 0 ≤ N) (hN2 : N ≤ 1000000000000000) (hx : 0 ≤ x) (h1 : x * x ≤ N) (h2 : N < (x + 1) * (x + 1)) : vRt N = x := by
  obtain ⟨a, b, c⟩ := rtF_spec N 25 0 (by omega) (by omega) (by
    have : ((0 : Int) + 2 ^ 25) * (0 + 2 ^ 25) = 1125899906842624 := by decide
    omega)
  exact rt_uniq a hx b c h1 h2
/-- worlds: of an alarm (aWd), of the values (eW) -/
def aWd (Z : Nat → Nat) (E : Nat → Value) (al : Nat) : List va_W := [[(Z 0, .inr (8, [E 0, E 1, E 2, E 3, E 4, E 5, E 6, E 7, E 8, .ref (Z 2), E 10, E 11, E 12, E 13, E 14, E 15, .int (nI al), E 17, E 18]))], [(Z 2, .inr (0, []))]]
def eW (cI cJ cB : ClassId) (Z : Nat → Nat) (E X : Nat → Value) (V : Nat → Nat → Int32) (vv : Nat → Int64) (a al : Nat) : List va_W :=
  [[(Z 0, .inr (8, [E 0, E 1, E 2, .ref (Z 1), .int (nI a), E 5, E 6, E 7, E 8, .ref (Z 2), E 10, E 11, E 12, E 13, E 14, .ref (Z 7), .int (nI al), E 17, E 18]))], [(Z 2, .inr (0, []))], [(Z 1, .inr (7, [X 0, X 1, .ref (Z 3), X 3, .ref (Z 5), X 5, X 6, X 7, X 8, X 9, X 10, X 11, X 12]))], [(Z 3, .inl (cB, 32008, .inl (V 0)))], [(Z 5, .inl (cI, 32008, .inl (V 2)))], [(Z 7, .inl (cJ, 200, .inr (.inl vv)))]]
section MV
variable {D : va_G} {G : Nat → Nat} {cI cJ cB cZ : ClassId} {l : Launch}
def cEv (D : va_G) (G : Nat → Nat) (cI cJ cB cZ : ClassId) (l : Launch) (y : MethodName) (ws : List Cond) (fr lo : Nat) (Z : Nat → Nat) (E X : Nat → Value) (V : Nat → Nat → Int32) (vv : Nat → Int64) (tk : Nat → List Nat) (res : Int → Value) (q : Nat → Bool × Nat) (x : Nat → Nat × Int) : Prop :=
  ∀ (a al : Nat), a + 1 ≤ (tk 0).length → (q a).1 = true → HX l y ws ({ frames := fr, cells := 0, slots := 0, locals := lo } : Room) D G (jT cI cJ cB cZ) [.ref (Z 0)] (jF (eW cI cJ cB Z E X V vv a al)) (fun v u k n => (x a).1 = 0 ∧ v = some (res (x a).2) ∧ u = jF (eW cI cJ cB Z E X V vv (q a).2 al) ∧ k = 0 ∧ n = 0) (fun u k n => ¬ (x a).1 = 0 ∧ (∃ a2 : Nat, u = jF (eW cI cJ cB Z E X V vv a2 (x a).1)) ∧ k = 0 ∧ n = 0)

theorem vFdB {a b : Int} (hb : ¬ b = 0) : (a.fdiv b).natAbs ≤ a.natAbs + 1 := by
  have h1 : (a.tdiv b).natAbs ≤ a.natAbs := by rw [Int.natAbs_tdiv]; exact Nat.div_le_self _ _
  rw [vFdiv hb]
  (repeat' split) <;> omega

set_option maxHeartbeats 4000000 in
set_option maxRecDepth 100000 in
/-- down(a, b) -/
theorem c_Md_down (x y : Int) (h1 : -9223372036854775808 < x) (h2 : x < 9223372036854775808) (h3 : -9223372036854775808 < y) (h4 : y < 9223372036854775808) (h0 : ¬ y = 0) : HM l yX10_down wsX10_down ({ frames := 0, cells := 0, slots := 0, locals := 0 } : Room) D G (jT cI cJ cB cZ) [.long (lI x), .long (lI y)] ([]) (fun v u k n => v = some (.long (lI (Int.fdiv x y))) ∧ u = [] ∧ k = 0 ∧ n = 0) := by
  refine HM_of (cc := cX10_down) (maxL := 6) (ret := (some .long)) (lv := [(0, .long (lI x)), (2, .long (lI y))]) (by decide) rfl rfl (Nat.le_of_ble_eq_true rfl) (fun p e s m args below meth c A0 ls hx hb hr hts hown hlocks hml hnm hK hA hAm hl => ?_)
  have hq1 : (x.tdiv y).natAbs ≤ x.natAbs := by rw [Int.natAbs_tdiv]; exact Nat.div_le_self _ _
  have hm1 := Int.tmod_add_mul_tdiv x y
  rw [Int.mul_comm] at hm1
  have hm2 : (x.tmod y).natAbs ≤ x.natAbs := by rw [Int.natAbs_tmod]; exact Nat.mod_le _ _
  refine jJ_of (fun H locs => lv_lload_n hx hb dX10_down_0 rfl (lv_at hl 0 rfl)) ?_
  refine jJ_of (fun H locs => lv_lload_n hx hb dX10_down_1 rfl (lv_at hl 1 rfl)) ?_
  refine jJ_of (fun H locs => jl_ldiv hx hb dX10_down_2 h1 h2 (by omega) h4 h0) ?_
  refine jJ_ofL (fun H locs => lv_lstore (lv' := [(4, .long (lI (Int.tdiv x y))), (0, .long (lI x)), (2, .long (lI y))]) hx hb dX10_down_3 hl (by decide) rfl) (fun ls hl => ?_)
  refine jJ_of (fun H locs => lv_lload_n hx hb dX10_down_5 rfl (lv_at hl 1 rfl)) ?_
  refine jJ_of (fun H locs => lv_lload_n hx hb dX10_down_6 rfl (lv_at hl 2 rfl)) ?_
  refine jJ_of (fun H locs => jl_lrem hx hb dX10_down_7 h1 h2 (by omega) h4 h0) ?_
  refine jJ_of (fun H locs => jn_lconst (v := 0) hx hb dX10_down_8 rfl) ?_
  refine jJ_of (fun H locs => W.lcmp hx hb dX10_down_9) ?_
  refine jJ_of2 (fun H locs => jl_if_eq (tgt := 45) hx hb dX10_down_10 (by decide) (by omega) (by omega) (by omega) (by omega)) (fun c10 => ?_) (fun c10 => ?_)
  · refine jJ_of (fun H locs => lv_lload hx hb dX10_down_45 (lv_at hl 0 rfl)) ?_
    exact jJ_lret hx hb hr hlocks dX10_down_47 (by show _ ≤ 0; omega) (by show _ ≤ 0; omega) ⟨by rw [vFdiv h0]; first | (rw [if_pos (by omega)]; done) | (rw [if_neg (by omega), if_pos (by omega)]; done) | (rw [if_neg (by omega), if_neg (by omega)]; done) | (split <;> (first | rfl | (rw [if_pos (by omega)]))) , rfl, rfl, rfl⟩
  · refine jJ_of (fun H locs => lv_lload_n hx hb dX10_down_13 rfl (lv_at hl 1 rfl)) ?_
    refine jJ_of (fun H locs => jn_lconst (v := 0) hx hb dX10_down_14 rfl) ?_
    refine jJ_of (fun H locs => W.lcmp hx hb dX10_down_15) ?_
    refine jJ_of2 (fun H locs => jl_if_ge (tgt := 23) hx hb dX10_down_16 (by decide) (by omega) (by omega) (by omega) (by omega)) (fun c16 => ?_) (fun c16 => ?_)
    · refine jJ_of (fun H locs => lv_iconst (v := (nI 0)) hx hb dX10_down_23 (by decide)) ?_
      refine jJ_of (fun H locs => lv_lload_n hx hb dX10_down_24 rfl (lv_at hl 2 rfl)) ?_
      refine jJ_of (fun H locs => jn_lconst (v := 0) hx hb dX10_down_25 rfl) ?_
      refine jJ_of (fun H locs => W.lcmp hx hb dX10_down_26) ?_
      refine jJ_of2 (fun H locs => jl_if_ge (tgt := 34) hx hb dX10_down_27 (by decide) (by omega) (by omega) (by omega) (by omega)) (fun c27 => ?_) (fun c27 => ?_)
      · refine jJ_of (fun H locs => lv_iconst (v := (nI 0)) hx hb dX10_down_34 (by decide)) ?_
        refine jJ_of2 (fun H locs => jn_icmp_eq (tgt := 45) hx hb dX10_down_35 (by decide) (by omega) (by omega)) (fun c35 => ?_) (fun c35 => ?_)
        · refine jJ_of (fun H locs => lv_lload hx hb dX10_down_45 (lv_at hl 0 rfl)) ?_
          exact jJ_lret hx hb hr hlocks dX10_down_47 (by show _ ≤ 0; omega) (by show _ ≤ 0; omega) ⟨by rw [vFdiv h0]; first | (rw [if_pos (by omega)]; done) | (rw [if_neg (by omega), if_pos (by omega)]; done) | (rw [if_neg (by omega), if_neg (by omega)]; done) | (split <;> (first | rfl | (rw [if_pos (by omega)]))) , rfl, rfl, rfl⟩
        · refine jJ_of (fun H locs => lv_lload hx hb dX10_down_38 (lv_at hl 0 rfl)) ?_
          refine jJ_of (fun H locs => jn_lconst (v := 1) hx hb dX10_down_40 rfl) ?_
          refine jJ_of (fun H locs => jl_lsub hx hb dX10_down_41) ?_
          refine jJ_of (fun H locs => lv_goto (tgt := 47) hx hb dX10_down_42 (by decide)) ?_
          exact jJ_lret hx hb hr hlocks dX10_down_47 (by show _ ≤ 0; omega) (by show _ ≤ 0; omega) ⟨by rw [vFdiv h0]; first | (rw [if_pos (by omega)]; done) | (rw [if_neg (by omega), if_pos (by omega)]; done) | (rw [if_neg (by omega), if_neg (by omega)]; done) | (split <;> (first | rfl | (rw [if_pos (by omega)]))) , rfl, rfl, rfl⟩
      · refine jJ_of (fun H locs => lv_iconst (v := (nI 1)) hx hb dX10_down_30 (by decide)) ?_
        refine jJ_of (fun H locs => lv_goto (tgt := 35) hx hb dX10_down_31 (by decide)) ?_
        refine jJ_of2 (fun H locs => jn_icmp_eq (tgt := 45) hx hb dX10_down_35 (by decide) (by omega) (by omega)) (fun c35 => ?_) (fun c35 => ?_)
        · refine jJ_of (fun H locs => lv_lload hx hb dX10_down_45 (lv_at hl 0 rfl)) ?_
          exact jJ_lret hx hb hr hlocks dX10_down_47 (by show _ ≤ 0; omega) (by show _ ≤ 0; omega) ⟨by rw [vFdiv h0]; first | (rw [if_pos (by omega)]; done) | (rw [if_neg (by omega), if_pos (by omega)]; done) | (rw [if_neg (by omega), if_neg (by omega)]; done) | (split <;> (first | rfl | (rw [if_pos (by omega)]))) , rfl, rfl, rfl⟩
        · refine jJ_of (fun H locs => lv_lload hx hb dX10_down_38 (lv_at hl 0 rfl)) ?_
          refine jJ_of (fun H locs => jn_lconst (v := 1) hx hb dX10_down_40 rfl) ?_
          refine jJ_of (fun H locs => jl_lsub hx hb dX10_down_41) ?_
          refine jJ_of (fun H locs => lv_goto (tgt := 47) hx hb dX10_down_42 (by decide)) ?_
          exact jJ_lret hx hb hr hlocks dX10_down_47 (by show _ ≤ 0; omega) (by show _ ≤ 0; omega) ⟨by rw [vFdiv h0]; first | (rw [if_pos (by omega)]; done) | (rw [if_neg (by omega), if_pos (by omega)]; done) | (rw [if_neg (by omega), if_neg (by omega)]; done) | (split <;> (first | rfl | (rw [if_pos (by omega)]))) , rfl, rfl, rfl⟩
    · refine jJ_of (fun H locs => lv_iconst (v := (nI 1)) hx hb dX10_down_19 (by decide)) ?_
      refine jJ_of (fun H locs => lv_goto (tgt := 24) hx hb dX10_down_20 (by decide)) ?_
      refine jJ_of (fun H locs => lv_lload_n hx hb dX10_down_24 rfl (lv_at hl 2 rfl)) ?_
      refine jJ_of (fun H locs => jn_lconst (v := 0) hx hb dX10_down_25 rfl) ?_
      refine jJ_of (fun H locs => W.lcmp hx hb dX10_down_26) ?_
      refine jJ_of2 (fun H locs => jl_if_ge (tgt := 34) hx hb dX10_down_27 (by decide) (by omega) (by omega) (by omega) (by omega)) (fun c27 => ?_) (fun c27 => ?_)
      · refine jJ_of (fun H locs => lv_iconst (v := (nI 0)) hx hb dX10_down_34 (by decide)) ?_
        refine jJ_of2 (fun H locs => jn_icmp_eq (tgt := 45) hx hb dX10_down_35 (by decide) (by omega) (by omega)) (fun c35 => ?_) (fun c35 => ?_)
        · refine jJ_of (fun H locs => lv_lload hx hb dX10_down_45 (lv_at hl 0 rfl)) ?_
          exact jJ_lret hx hb hr hlocks dX10_down_47 (by show _ ≤ 0; omega) (by show _ ≤ 0; omega) ⟨by rw [vFdiv h0]; first | (rw [if_pos (by omega)]; done) | (rw [if_neg (by omega), if_pos (by omega)]; done) | (rw [if_neg (by omega), if_neg (by omega)]; done) | (split <;> (first | rfl | (rw [if_pos (by omega)]))) , rfl, rfl, rfl⟩
        · refine jJ_of (fun H locs => lv_lload hx hb dX10_down_38 (lv_at hl 0 rfl)) ?_
          refine jJ_of (fun H locs => jn_lconst (v := 1) hx hb dX10_down_40 rfl) ?_
          refine jJ_of (fun H locs => jl_lsub hx hb dX10_down_41) ?_
          refine jJ_of (fun H locs => lv_goto (tgt := 47) hx hb dX10_down_42 (by decide)) ?_
          exact jJ_lret hx hb hr hlocks dX10_down_47 (by show _ ≤ 0; omega) (by show _ ≤ 0; omega) ⟨by rw [vFdiv h0]; first | (rw [if_pos (by omega)]; done) | (rw [if_neg (by omega), if_pos (by omega)]; done) | (rw [if_neg (by omega), if_neg (by omega)]; done) | (split <;> (first | rfl | (rw [if_pos (by omega)]))) , rfl, rfl, rfl⟩
      · refine jJ_of (fun H locs => lv_iconst (v := (nI 1)) hx hb dX10_down_30 (by decide)) ?_
        refine jJ_of (fun H locs => lv_goto (tgt := 35) hx hb dX10_down_31 (by decide)) ?_
        refine jJ_of2 (fun H locs => jn_icmp_eq (tgt := 45) hx hb dX10_down_35 (by decide) (by omega) (by omega)) (fun c35 => ?_) (fun c35 => ?_)
        · refine jJ_of (fun H locs => lv_lload hx hb dX10_down_45 (lv_at hl 0 rfl)) ?_
          exact jJ_lret hx hb hr hlocks dX10_down_47 (by show _ ≤ 0; omega) (by show _ ≤ 0; omega) ⟨by rw [vFdiv h0]; first | (rw [if_pos (by omega)]; done) | (rw [if_neg (by omega), if_pos (by omega)]; done) | (rw [if_neg (by omega), if_neg (by omega)]; done) | (split <;> (first | rfl | (rw [if_pos (by omega)]))) , rfl, rfl, rfl⟩
        · refine jJ_of (fun H locs => lv_lload hx hb dX10_down_38 (lv_at hl 0 rfl)) ?_
          refine jJ_of (fun H locs => jn_lconst (v := 1) hx hb dX10_down_40 rfl) ?_
          refine jJ_of (fun H locs => jl_lsub hx hb dX10_down_41) ?_
          refine jJ_of (fun H locs => lv_goto (tgt := 47) hx hb dX10_down_42 (by decide)) ?_
          exact jJ_lret hx hb hr hlocks dX10_down_47 (by show _ ≤ 0; omega) (by show _ ≤ 0; omega) ⟨by rw [vFdiv h0]; first | (rw [if_pos (by omega)]; done) | (rw [if_neg (by omega), if_pos (by omega)]; done) | (rw [if_neg (by omega), if_neg (by omega)]; done) | (split <;> (first | rfl | (rw [if_pos (by omega)]))) , rfl, rfl, rfl⟩
set_option maxHeartbeats 4000000 in
set_option maxRecDepth 100000 in
/-- root(n) -/
theorem c_Md_root (x : Int) (h1 : 0 ≤ x) (h2 : x ≤ 1000000000000000) : HM l yX10_root wsX10_root ({ frames := 0, cells := 0, slots := 0, locals := 0 } : Room) D G (jT cI cJ cB cZ) [.long (lI x)] ([]) (fun v u k n => v = some (.long (lI (vRt x))) ∧ u = [] ∧ k = 0 ∧ n = 0) := by
  refine HM_of (cc := cX10_root) (maxL := 8) (ret := (some .long)) (lv := [(0, .long (lI x))]) (by decide) rfl rfl (Nat.le_of_ble_eq_true rfl) (fun p e s m args below meth c A0 ls hx hb hr hts hown hlocks hml hnm hK hA hAm hl => ?_)
  refine jJ_of (fun H locs => jn_lconst (v := 0) hx hb dX10_root_0 rfl) ?_
  refine jJ_ofL (fun H locs => lv_lstore_n (lv' := [(2, .long (lI 0)), (0, .long (lI x))]) hx hb dX10_root_1 rfl hl (by decide) rfl) (fun ls hl => ?_)
  refine jJ_of (fun H locs => lv_ldc2 (v := (lI 2000000000)) hx hb hown (by rw [show (lI 2000000000) = (2000000000 : Int64) from by decide]; exact (hts (.constantLong RX10 243 (2000000000)) (by decide +kernel))) dX10_root_2) ?_
  refine jJ_ofL (fun H locs => lv_lstore (lv' := [(4, .long (lI 2000000000)), (2, .long (lI 0)), (0, .long (lI x))]) hx hb dX10_root_5 hl (by decide) rfl) (fun ls hl => ?_)
  suffices lp : ∀ (f : Nat) (lo hi : Int), (hi - lo).toNat < f → 0 ≤ lo → lo ≤ hi → hi ≤ 2000000000 → lo * lo ≤ x → x < (hi + 1) * (hi + 1) → ∀ ls, lv_has ls 8 [(4, .long (lI hi)), (2, .long (lI lo)), (0, .long (lI x))] → jJ p l e _ s m args below meth c D A0 [([] : va_W)] 0 0 (jEnd below D A0 _ args s _ _) (F0 m 7 ls []) from lp 2000000001 0 2000000000 (by decide) (by omega) (by omega) (by omega) (by omega) (by omega) ls (lv_sub hl [0, 1, 2] rfl)
  intro f
  induction f with
  | zero => intro lo hi h9; exact absurd h9 (Nat.not_lt_zero _)
  | succ f ih =>
    intro lo hi h9 h3 h4 h5 h6 h7 ls hl
    refine jJ_of (fun H locs => lv_lload_n hx hb dX10_root_7 rfl (lv_at hl 1 rfl)) ?_
    refine jJ_of (fun H locs => lv_lload hx hb dX10_root_8 (lv_at hl 0 rfl)) ?_
    refine jJ_of (fun H locs => W.lcmp hx hb dX10_root_10) ?_
    refine jJ_of2 (fun H locs => jl_if_ge (tgt := 51) hx hb dX10_root_11 (by decide) (by omega) (by omega) (by omega) (by omega)) (fun c11 => ?_) (fun c11 => ?_)
    · refine jJ_of (fun H locs => lv_lload_n hx hb dX10_root_51 rfl (lv_at hl 1 rfl)) ?_
      exact jJ_lret hx hb hr hlocks dX10_root_52 (by show _ ≤ 0; omega) (by show _ ≤ 0; omega) ⟨by rw [vRt_eq h1 h2 h3 h6 (by rw [show lo = hi by omega]; exact h7)], rfl, rfl, rfl⟩
    · obtain ⟨mm, hmm⟩ : ∃ z : Int, z = (lo + hi + 1).tdiv 2 := ⟨_, rfl⟩
      have hmm2 := hmm
      rw [Int.tdiv_eq_ediv_of_nonneg (by omega)] at hmm2
      have hmb : mm * mm ≤ 2000000000 * 2000000000 := Int.mul_le_mul (by omega) (by omega) (by omega) (by omega)
      have hmb0 : 0 ≤ mm * mm := Int.mul_nonneg (by omega) (by omega)
      refine jJ_of (fun H locs => lv_lload_n hx hb dX10_root_14 rfl (lv_at hl 1 rfl)) ?_
      refine jJ_of (fun H locs => lv_lload hx hb dX10_root_15 (lv_at hl 0 rfl)) ?_
      refine jJ_of (fun H locs => jl_ladd hx hb dX10_root_17) ?_
      refine jJ_of (fun H locs => jn_lconst (v := 1) hx hb dX10_root_18 rfl) ?_
      refine jJ_of (fun H locs => jl_ladd hx hb dX10_root_19) ?_
      refine jJ_of (fun H locs => lv_ldc2 (v := (lI 2)) hx hb hown (by rw [show (lI 2) = (2 : Int64) from by decide]; exact (hts (.constantLong RX10 245 (2)) (by decide +kernel))) dX10_root_20) ?_
      refine jJ_of (fun H locs => jl_ldiv hx hb dX10_root_23 (by omega) (by omega) (by omega) (by omega) (by omega)) ?_
      rw [← hmm]
      refine jJ_eq (g2 := F0 m 24 ls [.long (lI mm)]) (cs2 := [[]]) rfl rfl ?_
      refine jJ_ofL (fun H locs => lv_lstore (lv' := [(6, .long (lI mm)), (4, .long (lI hi)), (2, .long (lI lo)), (0, .long (lI x))]) hx hb dX10_root_24 hl (by decide) rfl) (fun ls hl => ?_)
      refine jJ_of (fun H locs => lv_lload hx hb dX10_root_26 (lv_at hl 0 rfl)) ?_
      refine jJ_of (fun H locs => lv_lload hx hb dX10_root_28 (lv_at hl 0 rfl)) ?_
      refine jJ_of (fun H locs => jl_lmul hx hb dX10_root_30) ?_
      refine jJ_of (fun H locs => lv_lload_n hx hb dX10_root_31 rfl (lv_at hl 3 rfl)) ?_
      refine jJ_of (fun H locs => W.lcmp hx hb dX10_root_32) ?_
      refine jJ_of2 (fun H locs => jl_if_gt (tgt := 42) hx hb dX10_root_33 (by decide) (by omega) (by omega) (by omega) (by omega)) (fun c33 => ?_) (fun c33 => ?_)
      · refine jJ_of (fun H locs => lv_lload hx hb dX10_root_42 (lv_at hl 0 rfl)) ?_
        refine jJ_of (fun H locs => jn_lconst (v := 1) hx hb dX10_root_44 rfl) ?_
        refine jJ_of (fun H locs => jl_lsub hx hb dX10_root_45) ?_
        refine jJ_ofL (fun H locs => lv_lstore (lv' := [(4, .long (lI (mm - 1))), (6, .long (lI mm)), (2, .long (lI lo)), (0, .long (lI x))]) hx hb dX10_root_46 hl (by decide) rfl) (fun ls hl => ?_)
        refine jJ_of (fun H locs => lv_goto (tgt := 7) hx hb dX10_root_48 (by decide)) ?_
        exact ih lo (mm - 1) (by omega) (by omega) (by omega) (by omega) (by omega) (by rw [show mm - 1 + 1 = mm by omega]; omega) ls (lv_sub hl [0, 2, 3] rfl)
      · refine jJ_of (fun H locs => lv_lload hx hb dX10_root_36 (lv_at hl 0 rfl)) ?_
        refine jJ_ofL (fun H locs => lv_lstore_n (lv' := [(2, .long (lI mm)), (6, .long (lI mm)), (4, .long (lI hi)), (0, .long (lI x))]) hx hb dX10_root_38 rfl hl (by decide) rfl) (fun ls hl => ?_)
        refine jJ_of (fun H locs => lv_goto (tgt := 48) hx hb dX10_root_39 (by decide)) ?_
        refine jJ_of (fun H locs => lv_goto (tgt := 7) hx hb dX10_root_48 (by decide)) ?_
        exact ih mm hi (by omega) (by omega) (by omega) (by omega) (by omega) (by omega) ls (lv_sub hl [2, 0, 3] rfl)
theorem uX10_in_X10_alarmed : ∀ w ∈ u_ws RX10 TX10 19, w ∈ wsX10_alarmed := by decide +kernel
set_option maxHeartbeats 4000000 in
set_option maxRecDepth 100000 in
/-- alarmed(x) -/
theorem c_Md_alarmed {Z : Nat → Nat} {E : Nat → Value} {al : Nat} (x : Nat) : HM l yX10_alarmed wsX10_alarmed ({ frames := 0, cells := 0, slots := 0, locals := 0 } : Room) D G (jT cI cJ cB cZ) [.ref (Z 0), .int (nI x)] (jF (aWd Z E al)) (fun v u k n => v = some (.ref (Z 2)) ∧ u = jF (aWd Z E x) ∧ k = 0 ∧ n = 0) := by
  refine HM_of (cc := cX10_alarmed) (maxL := 2) (ret := (some (.object "java/lang/IllegalStateException"))) (lv := [(0, .ref (Z 0)), (1, .int (nI x))]) (by decide) rfl rfl (Nat.le_of_ble_eq_true rfl) (fun p e s m args below meth c A0 ls hx hb hr hts hown hlocks hml hnm hK hA hAm hl => ?_)
  refine jJ_open (xs := [[(Z 0, .inr (8, [E 0, E 1, E 2, E 3, E 4, E 5, E 6, E 7, E 8, .ref (Z 2), E 10, E 11, E 12, E 13, E 14, E 15, .int (nI al), E 17, E 18]))], [(Z 2, .inr (0, []))]]) (r := []) (cs2 := [[(Z 0, .inr (8, [E 0, E 1, E 2, E 3, E 4, E 5, E 6, E 7, E 8, .ref (Z 2), E 10, E 11, E 12, E 13, E 14, E 15, .int (nI al), E 17, E 18]))], [(Z 2, .inr (0, []))]]) rfl ?_
  refine jJ_of (fun H locs => lv_aload_n hx hb dX10_alarmed_0 rfl (lv_at hl 0 rfl)) ?_
  refine jJ_of (fun H locs => lv_iload_n hx hb dX10_alarmed_1 rfl (lv_at hl 1 rfl)) ?_
  refine jJ_put hx hb (C := RX10) (T := TX10) (N := 19) (ty := .int) (v := .int (nI x)) hts uX10_in_X10_alarmed tyX10 tyX10_ok nmX10 hown hK 0 rfl rfl 16 (by decide) (hts (.fieldLink RX10 247 "ValueBlocksModel" "alarm" "I") (by decide +kernel)) (fun _ h9 => h9) rfl (by decide +kernel) rfl rfl (Nat.le_of_ble_eq_true rfl) dX10_alarmed_2 (cs2 := [[(Z 0, .inr (8, [E 0, E 1, E 2, E 3, E 4, E 5, E 6, E 7, E 8, .ref (Z 2), E 10, E 11, E 12, E 13, E 14, E 15, .int (nI x), E 17, E 18]))], [(Z 2, .inr (0, []))]]) rfl ?_
  refine jJ_of (fun H locs => lv_aload_n hx hb dX10_alarmed_5 rfl (lv_at hl 0 rfl)) ?_
  refine jJ_get hx hb (C := RX10) (T := TX10) (N := 19) hts uX10_in_X10_alarmed hown hK 0 rfl rfl 9 (by decide) (hts (.fieldLink RX10 26 "ValueBlocksModel" "stop" "Ljava/lang/IllegalStateException;") (by decide +kernel)) (fun _ h9 => h9) rfl dX10_alarmed_6 ?_
  exact jJ_aret hx hb hr (Or.inl ⟨_, rfl⟩) hlocks dX10_alarmed_9 (by show _ ≤ 0; omega) (by show _ ≤ 0; omega) ⟨rfl, rfl, rfl, rfl⟩
set_option maxHeartbeats 4000000 in
set_option maxRecDepth 100000 in
/-- fits(z) -/
theorem c_Md_fits {Z : Nat → Nat} {E : Nat → Value} {al : Nat} (z : Int) (h1 : -9223372036854775808 ≤ z) (h2 : z < 9223372036854775808) : HX l yX10_fits wsX10_fits ({ frames := 1, cells := 0, slots := 0, locals := 40 } : Room) D G (jT cI cJ cB cZ) [.ref (Z 0), .long (lI z)] (jF (aWd Z E al)) (fun v u k n => vTG z = false ∧ v = some (.long (lI z)) ∧ u = jF (aWd Z E al) ∧ k = 0 ∧ n = 0) (fun u k n => vTG z = true ∧ u = jF (aWd Z E 4) ∧ k = 0 ∧ n = 0) := by
  refine HX_of (cc := cX10_fits) (maxL := 3) (ret := (some .long)) (lv := [(0, .ref (Z 0)), (1, .long (lI z))]) (by decide) rfl rfl (Nat.le_of_ble_eq_true rfl) (fun p e s m args below meth c A0 ls hx hb hr hts hown hlocks hml hno hK hA hAm hl => ?_)
  refine jJ_open (xs := [[(Z 0, .inr (8, [E 0, E 1, E 2, E 3, E 4, E 5, E 6, E 7, E 8, .ref (Z 2), E 10, E 11, E 12, E 13, E 14, E 15, .int (nI al), E 17, E 18]))], [(Z 2, .inr (0, []))]]) (r := []) (cs2 := [[(Z 0, .inr (8, [E 0, E 1, E 2, E 3, E 4, E 5, E 6, E 7, E 8, .ref (Z 2), E 10, E 11, E 12, E 13, E 14, E 15, .int (nI al), E 17, E 18]))], [(Z 2, .inr (0, []))]]) rfl ?_
  refine jJ_of (fun H locs => lv_lload_n hx hb dX10_fits_0 rfl (lv_at hl 1 rfl)) ?_
  refine jJ_of (fun H locs => lv_ldc2 (v := (lI 1000000000000)) hx hb hown (by rw [show (lI 1000000000000) = (1000000000000 : Int64) from by decide]; exact (hts (.constantLong RX10 250 (1000000000000)) (by decide +kernel))) dX10_fits_1) ?_
  refine jJ_of (fun H locs => W.lcmp hx hb dX10_fits_4) ?_
  refine jJ_of2 (fun H locs => jl_if_gt (tgt := 16) hx hb dX10_fits_5 (by decide) (by omega) (by omega) (by omega) (by omega)) (fun c5 => ?_) (fun c5 => ?_)
  · refine jJ_of (fun H locs => lv_aload_n hx hb dX10_fits_16 rfl (lv_at hl 0 rfl)) ?_
    refine jJ_of (fun H locs => lv_iconst (v := (nI 4)) hx hb dX10_fits_17 (by decide)) ?_
    refine jJ_callV (As := [.int (nI 4)]) (rest := []) (wc := jF (aWd Z (lsV [E 0, E 1, E 2, E 3, E 4, E 5, E 6, E 7, E 8, .null, E 10, E 11, E 12, E 13, E 14, E 15, .null, E 17, E 18]) al)) (cs2 := []) (C := RX10) (T := TX10) (N := 19) (ci := 8) [0, 1] [] ⟨hx, hb, hml, hown, hts⟩ hK hA hAm (c_Md_alarmed (E := lsV [E 0, E 1, E 2, E 3, E 4, E 5, E 6, E 7, E 8, .null, E 10, E 11, E 12, E 13, E 14, E 15, .null, E 17, E 18]) (al := al) 4) (cwV 1 hts gX10_fits_X10_alarmed rfl rfl rfl (by decide +kernel) ⟨Nat.le_of_ble_eq_true rfl, Nat.le_of_ble_eq_true rfl⟩) (nn := 2) rfl (by decide) rfl rfl ⟨0, _, rfl⟩ rfl rfl rfl hl.1 (Nat.le_of_ble_eq_true rfl) dX10_fits_18 (by show _ + 0 ≤ 0; omega) (by show _ + 0 ≤ 0; omega) (fun v u1 k1 n1 hq1 => ?_)
    obtain ⟨rfl, hw1, rfl, rfl⟩ := hq1
    rw [hw1]
    refine jJ_open (xs := [[(Z 0, .inr (8, [E 0, E 1, E 2, E 3, E 4, E 5, E 6, E 7, E 8, .ref (Z 2), E 10, E 11, E 12, E 13, E 14, E 15, .int (nI 4), E 17, E 18]))], [(Z 2, .inr (0, []))]]) (r := []) (cs2 := [[(Z 0, .inr (8, [E 0, E 1, E 2, E 3, E 4, E 5, E 6, E 7, E 8, .ref (Z 2), E 10, E 11, E 12, E 13, E 14, E 15, .int (nI 4), E 17, E 18]))], [(Z 2, .inr (0, []))]]) rfl ?_
    refine jJ_eq (g2 := F0 m 21 ls [.ref (Z 2)]) (cs2 := [[(Z 0, .inr (8, [E 0, E 1, E 2, E 3, E 4, E 5, E 6, E 7, E 8, .ref (Z 2), E 10, E 11, E 12, E 13, E 14, E 15, .int (nI 4), E 17, E 18]))], [(Z 2, .inr (0, []))]]) rfl rfl ?_
    refine jJ_athrow hx hb hK 1 rfl dX10_fits_21 ?_
    exact jJx_out hno hlocks (by show _ ≤ 0; omega) (by show _ ≤ 0; omega) ⟨decide_eq_true (by omega), rfl, rfl, rfl⟩
  · refine jJ_of (fun H locs => lv_lload_n hx hb dX10_fits_8 rfl (lv_at hl 1 rfl)) ?_
    refine jJ_of (fun H locs => lv_ldc2 (v := (lI (-1000000000000))) hx hb hown (by rw [show (lI (-1000000000000)) = (-1000000000000 : Int64) from by decide]; exact (hts (.constantLong RX10 252 (-1000000000000)) (by decide +kernel))) dX10_fits_9) ?_
    refine jJ_of (fun H locs => W.lcmp hx hb dX10_fits_12) ?_
    refine jJ_of2 (fun H locs => jl_if_ge (tgt := 22) hx hb dX10_fits_13 (by decide) (by omega) (by omega) (by omega) (by omega)) (fun c13 => ?_) (fun c13 => ?_)
    · refine jJ_of (fun H locs => lv_lload_n hx hb dX10_fits_22 rfl (lv_at hl 1 rfl)) ?_
      exact jJ_toX (jJ_lret hx hb hr hlocks dX10_fits_23 (by show _ ≤ 0; omega) (by show _ ≤ 0; omega) ⟨decide_eq_false (by omega), rfl, rfl, rfl, rfl⟩)
    · refine jJ_of (fun H locs => lv_aload_n hx hb dX10_fits_16 rfl (lv_at hl 0 rfl)) ?_
      refine jJ_of (fun H locs => lv_iconst (v := (nI 4)) hx hb dX10_fits_17 (by decide)) ?_
      refine jJ_callV (As := [.int (nI 4)]) (rest := []) (wc := jF (aWd Z (lsV [E 0, E 1, E 2, E 3, E 4, E 5, E 6, E 7, E 8, .null, E 10, E 11, E 12, E 13, E 14, E 15, .null, E 17, E 18]) al)) (cs2 := []) (C := RX10) (T := TX10) (N := 19) (ci := 8) [0, 1] [] ⟨hx, hb, hml, hown, hts⟩ hK hA hAm (c_Md_alarmed (E := lsV [E 0, E 1, E 2, E 3, E 4, E 5, E 6, E 7, E 8, .null, E 10, E 11, E 12, E 13, E 14, E 15, .null, E 17, E 18]) (al := al) 4) (cwV 1 hts gX10_fits_X10_alarmed rfl rfl rfl (by decide +kernel) ⟨Nat.le_of_ble_eq_true rfl, Nat.le_of_ble_eq_true rfl⟩) (nn := 2) rfl (by decide) rfl rfl ⟨0, _, rfl⟩ rfl rfl rfl hl.1 (Nat.le_of_ble_eq_true rfl) dX10_fits_18 (by show _ + 0 ≤ 0; omega) (by show _ + 0 ≤ 0; omega) (fun v u2 k2 n2 hq2 => ?_)
      obtain ⟨rfl, hw2, rfl, rfl⟩ := hq2
      rw [hw2]
      refine jJ_open (xs := [[(Z 0, .inr (8, [E 0, E 1, E 2, E 3, E 4, E 5, E 6, E 7, E 8, .ref (Z 2), E 10, E 11, E 12, E 13, E 14, E 15, .int (nI 4), E 17, E 18]))], [(Z 2, .inr (0, []))]]) (r := []) (cs2 := [[(Z 0, .inr (8, [E 0, E 1, E 2, E 3, E 4, E 5, E 6, E 7, E 8, .ref (Z 2), E 10, E 11, E 12, E 13, E 14, E 15, .int (nI 4), E 17, E 18]))], [(Z 2, .inr (0, []))]]) rfl ?_
      refine jJ_eq (g2 := F0 m 21 ls [.ref (Z 2)]) (cs2 := [[(Z 0, .inr (8, [E 0, E 1, E 2, E 3, E 4, E 5, E 6, E 7, E 8, .ref (Z 2), E 10, E 11, E 12, E 13, E 14, E 15, .int (nI 4), E 17, E 18]))], [(Z 2, .inr (0, []))]]) rfl rfl ?_
      refine jJ_athrow hx hb hK 1 rfl dX10_fits_21 ?_
      exact jJx_out hno hlocks (by show _ ≤ 0; omega) (by show _ ≤ 0; omega) ⟨decide_eq_true (by omega), rfl, rfl, rfl⟩
theorem vMulX {a b : Int} : (0 < vAbs b ∧ (1000000000000999 : Int).tdiv (vAbs b) < vAbs a) ↔ (¬ vAbs a = 0 ∧ (1000000000000999 : Int).tdiv (vAbs a) < vAbs b) := by
  have ha := (vAbs_nn a).1
  have hb := (vAbs_nn b).1
  generalize vAbs a = x at ha ⊢
  generalize vAbs b = y at hb ⊢
  have key : ∀ {u w : Int}, 0 ≤ u → 0 < w → ((1000000000000999 : Int).tdiv w < u ↔ 1000000000000999 < u * w) := fun {u w} _ hw => by
    rw [Int.tdiv_eq_ediv_of_nonneg (by decide)]
    exact Int.ediv_lt_iff_lt_mul hw
  constructor
  · intro ⟨h1, h2⟩
    have h3 := (key ha h1).mp h2
    have hx : ¬ x = 0 := fun q => by rw [q, Int.zero_mul] at h3; omega
    refine ⟨hx, (key hb (by omega)).mpr ?_⟩
    rw [Int.mul_comm]; exact h3
  · intro ⟨h1, h2⟩
    have h3 := (key hb (by omega : 0 < x)).mp h2
    have hy : ¬ y = 0 := fun q => by rw [q, Int.zero_mul] at h3; omega
    refine ⟨by omega, (key ha (by omega)).mpr ?_⟩
    rw [Int.mul_comm]; exact h3
theorem vMul_t {a b : Int} (h : 0 < vAbs b ∧ (1000000000000999 : Int).tdiv (vAbs b) < vAbs a) : vMul a b = 1000000000001 := if_pos (vMulX.mp h)
theorem vMul_f {a b : Int} (h : ¬ (0 < vAbs b ∧ (1000000000000999 : Int).tdiv (vAbs b) < vAbs a)) : vMul a b = (a * b).tdiv 1000 := if_neg (fun q => h (vMulX.mpr q))
theorem vAbs_m {a : Int} (h : a < 0) : -a = vAbs a := by unfold vAbs; rw [if_neg (by omega)]
theorem vAbs_p {a : Int} (h : ¬ a < 0) : a = vAbs a := by unfold vAbs; split <;> omega
set_option maxHeartbeats 4000000 in
set_option maxRecDepth 100000 in
/-- times(a, b) -/
theorem c_Md_times {Z : Nat → Nat} {E : Nat → Value} {al : Nat} (a b : Int) (h1 : -1000000000000 ≤ a) (h2 : a ≤ 1000000000000) (h3 : -1000000000000 ≤ b) (h4 : b ≤ 1000000000000) : HX l yX10_times wsX10_times ({ frames := 2, cells := 0, slots := 0, locals := 80 } : Room) D G (jT cI cJ cB cZ) [.ref (Z 0), .long (lI a), .long (lI b)] (jF (aWd Z E al)) (fun v u k n => vTG (vMul a b) = false ∧ v = some (.long (lI (vMul a b))) ∧ u = jF (aWd Z E al) ∧ k = 0 ∧ n = 0) (fun u k n => vTG (vMul a b) = true ∧ u = jF (aWd Z E 4) ∧ k = 0 ∧ n = 0) := by
  refine HX_of (cc := cX10_times) (maxL := 9) (ret := (some .long)) (lv := [(0, .ref (Z 0)), (1, .long (lI a)), (3, .long (lI b))]) (by decide) rfl rfl (Nat.le_of_ble_eq_true rfl) (fun p e s m args below meth c A0 ls hx hb hr hts hown hlocks hml hno hK hA hAm hl => ?_)
  refine jJ_open (xs := [[(Z 0, .inr (8, [E 0, E 1, E 2, E 3, E 4, E 5, E 6, E 7, E 8, .ref (Z 2), E 10, E 11, E 12, E 13, E 14, E 15, .int (nI al), E 17, E 18]))], [(Z 2, .inr (0, []))]]) (r := []) (cs2 := [[(Z 0, .inr (8, [E 0, E 1, E 2, E 3, E 4, E 5, E 6, E 7, E 8, .ref (Z 2), E 10, E 11, E 12, E 13, E 14, E 15, .int (nI al), E 17, E 18]))], [(Z 2, .inr (0, []))]]) rfl ?_
  have hab := vAbs_nn a
  have hbb := vAbs_nn b
  have hqa : ((1000000000000999 : Int).tdiv (vAbs b)).natAbs ≤ 1000000000000999 := by rw [Int.natAbs_tdiv]; exact Nat.div_le_self _ _
  refine jJ_of (fun H locs => lv_lload_n hx hb dX10_times_0 rfl (lv_at hl 1 rfl)) ?_
  refine jJ_of (fun H locs => jn_lconst (v := 0) hx hb dX10_times_1 rfl) ?_
  refine jJ_of (fun H locs => W.lcmp hx hb dX10_times_2) ?_
  refine jJ_of2 (fun H locs => jl_if_ge (tgt := 11) hx hb dX10_times_3 (by decide) (by omega) (by omega) (by omega) (by omega)) (fun c3 => ?_) (fun c3 => ?_)
  · refine jJ_of (fun H locs => lv_lload_n hx hb dX10_times_11 rfl (lv_at hl 1 rfl)) ?_
    refine jJ_eq (g2 := F0 m 12 ls [.long (lI (vAbs a))]) (cs2 := [[(Z 0, .inr (8, [E 0, E 1, E 2, E 3, E 4, E 5, E 6, E 7, E 8, .ref (Z 2), E 10, E 11, E 12, E 13, E 14, E 15, .int (nI al), E 17, E 18]))], [(Z 2, .inr (0, []))]]) (by rw [← vAbs_p (a := a) (by omega)]) rfl ?_
    refine jJ_ofL (fun H locs => lv_lstore (lv' := [(5, .long (lI (vAbs a))), (0, .ref (Z 0)), (1, .long (lI a)), (3, .long (lI b))]) hx hb dX10_times_12 hl (by decide) rfl) (fun ls hl => ?_)
    refine jJ_of (fun H locs => lv_lload_n hx hb dX10_times_14 rfl (lv_at hl 3 rfl)) ?_
    refine jJ_of (fun H locs => jn_lconst (v := 0) hx hb dX10_times_15 rfl) ?_
    refine jJ_of (fun H locs => W.lcmp hx hb dX10_times_16) ?_
    refine jJ_of2 (fun H locs => jl_if_ge (tgt := 25) hx hb dX10_times_17 (by decide) (by omega) (by omega) (by omega) (by omega)) (fun c17 => ?_) (fun c17 => ?_)
    · refine jJ_of (fun H locs => lv_lload_n hx hb dX10_times_25 rfl (lv_at hl 3 rfl)) ?_
      refine jJ_eq (g2 := F0 m 26 ls [.long (lI (vAbs b))]) (cs2 := [[(Z 0, .inr (8, [E 0, E 1, E 2, E 3, E 4, E 5, E 6, E 7, E 8, .ref (Z 2), E 10, E 11, E 12, E 13, E 14, E 15, .int (nI al), E 17, E 18]))], [(Z 2, .inr (0, []))]]) (by rw [← vAbs_p (a := b) (by omega)]) rfl ?_
      refine jJ_ofL (fun H locs => lv_lstore (lv' := [(7, .long (lI (vAbs b))), (5, .long (lI (vAbs a))), (0, .ref (Z 0)), (1, .long (lI a)), (3, .long (lI b))]) hx hb dX10_times_26 hl (by decide) rfl) (fun ls hl => ?_)
      refine jJ_of (fun H locs => lv_lload hx hb dX10_times_28 (lv_at hl 0 rfl)) ?_
      refine jJ_of (fun H locs => jn_lconst (v := 0) hx hb dX10_times_30 rfl) ?_
      refine jJ_of (fun H locs => W.lcmp hx hb dX10_times_31) ?_
      refine jJ_of2 (fun H locs => jl_if_le (tgt := 53) hx hb dX10_times_32 (by decide) (by omega) (by omega) (by omega) (by omega)) (fun c32 => ?_) (fun c32 => ?_)
      · have hnm : ¬ (0 < vAbs b ∧ (1000000000000999 : Int).tdiv (vAbs b) < vAbs a) := by omega
        have hmb := vMulB (fun q => hnm (vMulX.mpr q)) (by omega) (by omega) (by omega) (by omega)
        have hmd : ((a * b).tdiv 1000).natAbs ≤ (a * b).natAbs := by rw [Int.natAbs_tdiv]; exact Nat.div_le_self _ _
        refine jJ_of (fun H locs => lv_aload_n hx hb dX10_times_53 rfl (lv_at hl 2 rfl)) ?_
        refine jJ_of (fun H locs => lv_lload_n hx hb dX10_times_54 rfl (lv_at hl 3 rfl)) ?_
        refine jJ_of (fun H locs => lv_lload_n hx hb dX10_times_55 rfl (lv_at hl 4 rfl)) ?_
        refine jJ_of (fun H locs => jl_lmul hx hb dX10_times_56) ?_
        refine jJ_of (fun H locs => lv_ldc2 (v := (lI 1000)) hx hb hown (by rw [show (lI 1000) = (1000 : Int64) from by decide]; exact (hts (.constantLong RX10 265 (1000)) (by decide +kernel))) dX10_times_57) ?_
        refine jJ_of (fun H locs => jl_ldiv hx hb dX10_times_60 (by omega) (by omega) (by omega) (by omega) (by omega)) ?_
        refine jX_callV (As := [.long (lI (Int.tdiv (a * b) 1000))]) (rest := []) (wc := jF (aWd Z (lsV [E 0, E 1, E 2, E 3, E 4, E 5, E 6, E 7, E 8, .null, E 10, E 11, E 12, E 13, E 14, E 15, .null, E 17, E 18]) al)) (cs2 := []) (C := RX10) (T := TX10) (N := 19) (ci := 8) [0, 1] [] ⟨hx, hb, hml, hown, hts⟩ hK hA hAm (c_Md_fits (E := lsV [E 0, E 1, E 2, E 3, E 4, E 5, E 6, E 7, E 8, .null, E 10, E 11, E 12, E 13, E 14, E 15, .null, E 17, E 18]) (al := al) (Int.tdiv (a * b) 1000) (by omega) (by omega)) (cwV 1 hts gX10_times_X10_fits rfl rfl rfl (by decide +kernel) ⟨Nat.le_of_ble_eq_true rfl, Nat.le_of_ble_eq_true rfl⟩) (nn := 2) rfl (by decide) rfl rfl ⟨0, _, rfl⟩ rfl rfl rfl hl.1 (Nat.le_of_ble_eq_true rfl) dX10_times_61 (by show _ + 0 ≤ 0; omega) (by show _ + 0 ≤ 0; omega) (fun u1 k1 n1 q1 hx1 => ?_) (fun v u1 k1 n1 hq1 => ?_)
        · obtain ⟨hb1, hu1, rfl, rfl⟩ := hx1
          rw [hu1]
          exact jJx_out hno hlocks (by show _ ≤ 0; omega) (by show _ ≤ 0; omega) ⟨by rw [vMul_f hnm]; exact hb1, rfl, rfl, rfl⟩
        obtain ⟨hb1, rfl, hw1, rfl, rfl⟩ := hq1
        rw [hw1]
        have hvk1 := vTG_ok (z := Int.tdiv (a * b) 1000) hb1
        refine jJ_open (xs := [[(Z 0, .inr (8, [E 0, E 1, E 2, E 3, E 4, E 5, E 6, E 7, E 8, .ref (Z 2), E 10, E 11, E 12, E 13, E 14, E 15, .int (nI al), E 17, E 18]))], [(Z 2, .inr (0, []))]]) (r := []) (cs2 := [[(Z 0, .inr (8, [E 0, E 1, E 2, E 3, E 4, E 5, E 6, E 7, E 8, .ref (Z 2), E 10, E 11, E 12, E 13, E 14, E 15, .int (nI al), E 17, E 18]))], [(Z 2, .inr (0, []))]]) rfl ?_
        refine jJ_eq (g2 := F0 m 64 ls [.long (lI (Int.tdiv (a * b) 1000))]) (cs2 := [[(Z 0, .inr (8, [E 0, E 1, E 2, E 3, E 4, E 5, E 6, E 7, E 8, .ref (Z 2), E 10, E 11, E 12, E 13, E 14, E 15, .int (nI al), E 17, E 18]))], [(Z 2, .inr (0, []))]]) rfl rfl ?_
        exact jJ_toX (jJ_lret hx hb hr hlocks dX10_times_64 (by show _ ≤ 0; omega) (by show _ ≤ 0; omega) ⟨by rw [vMul_f hnm]; exact hb1, by rw [vMul_f hnm], rfl, rfl, rfl⟩)
      · refine jJ_of (fun H locs => lv_lload hx hb dX10_times_35 (lv_at hl 1 rfl)) ?_
        refine jJ_of (fun H locs => lv_ldc2 (v := (lI 1000000000000999)) hx hb hown (by rw [show (lI 1000000000000999) = (1000000000000999 : Int64) from by decide]; exact (hts (.constantLong RX10 292 (1000000000000999)) (by decide +kernel))) dX10_times_37) ?_
        refine jJ_of (fun H locs => lv_lload hx hb dX10_times_40 (lv_at hl 0 rfl)) ?_
        refine jJ_of (fun H locs => jl_ldiv hx hb dX10_times_42 (by omega) (by omega) (by omega) (by omega) (by omega)) ?_
        refine jJ_of (fun H locs => W.lcmp hx hb dX10_times_43) ?_
        refine jJ_of2 (fun H locs => jl_if_le (tgt := 53) hx hb dX10_times_44 (by decide) (by omega) (by omega) (by omega) (by omega)) (fun c44 => ?_) (fun c44 => ?_)
        · have hnm : ¬ (0 < vAbs b ∧ (1000000000000999 : Int).tdiv (vAbs b) < vAbs a) := by omega
          have hmb := vMulB (fun q => hnm (vMulX.mpr q)) (by omega) (by omega) (by omega) (by omega)
          have hmd : ((a * b).tdiv 1000).natAbs ≤ (a * b).natAbs := by rw [Int.natAbs_tdiv]; exact Nat.div_le_self _ _
          refine jJ_of (fun H locs => lv_aload_n hx hb dX10_times_53 rfl (lv_at hl 2 rfl)) ?_
          refine jJ_of (fun H locs => lv_lload_n hx hb dX10_times_54 rfl (lv_at hl 3 rfl)) ?_
          refine jJ_of (fun H locs => lv_lload_n hx hb dX10_times_55 rfl (lv_at hl 4 rfl)) ?_
          refine jJ_of (fun H locs => jl_lmul hx hb dX10_times_56) ?_
          refine jJ_of (fun H locs => lv_ldc2 (v := (lI 1000)) hx hb hown (by rw [show (lI 1000) = (1000 : Int64) from by decide]; exact (hts (.constantLong RX10 265 (1000)) (by decide +kernel))) dX10_times_57) ?_
          refine jJ_of (fun H locs => jl_ldiv hx hb dX10_times_60 (by omega) (by omega) (by omega) (by omega) (by omega)) ?_
          refine jX_callV (As := [.long (lI (Int.tdiv (a * b) 1000))]) (rest := []) (wc := jF (aWd Z (lsV [E 0, E 1, E 2, E 3, E 4, E 5, E 6, E 7, E 8, .null, E 10, E 11, E 12, E 13, E 14, E 15, .null, E 17, E 18]) al)) (cs2 := []) (C := RX10) (T := TX10) (N := 19) (ci := 8) [0, 1] [] ⟨hx, hb, hml, hown, hts⟩ hK hA hAm (c_Md_fits (E := lsV [E 0, E 1, E 2, E 3, E 4, E 5, E 6, E 7, E 8, .null, E 10, E 11, E 12, E 13, E 14, E 15, .null, E 17, E 18]) (al := al) (Int.tdiv (a * b) 1000) (by omega) (by omega)) (cwV 1 hts gX10_times_X10_fits rfl rfl rfl (by decide +kernel) ⟨Nat.le_of_ble_eq_true rfl, Nat.le_of_ble_eq_true rfl⟩) (nn := 2) rfl (by decide) rfl rfl ⟨0, _, rfl⟩ rfl rfl rfl hl.1 (Nat.le_of_ble_eq_true rfl) dX10_times_61 (by show _ + 0 ≤ 0; omega) (by show _ + 0 ≤ 0; omega) (fun u2 k2 n2 q2 hx2 => ?_) (fun v u2 k2 n2 hq2 => ?_)
          · obtain ⟨hb2, hu2, rfl, rfl⟩ := hx2
            rw [hu2]
            exact jJx_out hno hlocks (by show _ ≤ 0; omega) (by show _ ≤ 0; omega) ⟨by rw [vMul_f hnm]; exact hb2, rfl, rfl, rfl⟩
          obtain ⟨hb2, rfl, hw2, rfl, rfl⟩ := hq2
          rw [hw2]
          have hvk2 := vTG_ok (z := Int.tdiv (a * b) 1000) hb2
          refine jJ_open (xs := [[(Z 0, .inr (8, [E 0, E 1, E 2, E 3, E 4, E 5, E 6, E 7, E 8, .ref (Z 2), E 10, E 11, E 12, E 13, E 14, E 15, .int (nI al), E 17, E 18]))], [(Z 2, .inr (0, []))]]) (r := []) (cs2 := [[(Z 0, .inr (8, [E 0, E 1, E 2, E 3, E 4, E 5, E 6, E 7, E 8, .ref (Z 2), E 10, E 11, E 12, E 13, E 14, E 15, .int (nI al), E 17, E 18]))], [(Z 2, .inr (0, []))]]) rfl ?_
          refine jJ_eq (g2 := F0 m 64 ls [.long (lI (Int.tdiv (a * b) 1000))]) (cs2 := [[(Z 0, .inr (8, [E 0, E 1, E 2, E 3, E 4, E 5, E 6, E 7, E 8, .ref (Z 2), E 10, E 11, E 12, E 13, E 14, E 15, .int (nI al), E 17, E 18]))], [(Z 2, .inr (0, []))]]) rfl rfl ?_
          exact jJ_toX (jJ_lret hx hb hr hlocks dX10_times_64 (by show _ ≤ 0; omega) (by show _ ≤ 0; omega) ⟨by rw [vMul_f hnm]; exact hb2, by rw [vMul_f hnm], rfl, rfl, rfl⟩)
        · refine jJ_of (fun H locs => lv_aload_n hx hb dX10_times_47 rfl (lv_at hl 2 rfl)) ?_
          refine jJ_of (fun H locs => lv_iconst (v := (nI 4)) hx hb dX10_times_48 (by decide)) ?_
          refine jJ_callV (As := [.int (nI 4)]) (rest := []) (wc := jF (aWd Z (lsV [E 0, E 1, E 2, E 3, E 4, E 5, E 6, E 7, E 8, .null, E 10, E 11, E 12, E 13, E 14, E 15, .null, E 17, E 18]) al)) (cs2 := []) (C := RX10) (T := TX10) (N := 19) (ci := 8) [0, 1] [] ⟨hx, hb, hml, hown, hts⟩ hK hA hAm (c_Md_alarmed (E := lsV [E 0, E 1, E 2, E 3, E 4, E 5, E 6, E 7, E 8, .null, E 10, E 11, E 12, E 13, E 14, E 15, .null, E 17, E 18]) (al := al) 4) (cwV 1 hts gX10_times_X10_alarmed rfl rfl rfl (by decide +kernel) ⟨Nat.le_of_ble_eq_true rfl, Nat.le_of_ble_eq_true rfl⟩) (nn := 2) rfl (by decide) rfl rfl ⟨0, _, rfl⟩ rfl rfl rfl hl.1 (Nat.le_of_ble_eq_true rfl) dX10_times_49 (by show _ + 0 ≤ 0; omega) (by show _ + 0 ≤ 0; omega) (fun v u3 k3 n3 hq3 => ?_)
          obtain ⟨rfl, hw3, rfl, rfl⟩ := hq3
          rw [hw3]
          refine jJ_open (xs := [[(Z 0, .inr (8, [E 0, E 1, E 2, E 3, E 4, E 5, E 6, E 7, E 8, .ref (Z 2), E 10, E 11, E 12, E 13, E 14, E 15, .int (nI 4), E 17, E 18]))], [(Z 2, .inr (0, []))]]) (r := []) (cs2 := [[(Z 0, .inr (8, [E 0, E 1, E 2, E 3, E 4, E 5, E 6, E 7, E 8, .ref (Z 2), E 10, E 11, E 12, E 13, E 14, E 15, .int (nI 4), E 17, E 18]))], [(Z 2, .inr (0, []))]]) rfl ?_
          refine jJ_eq (g2 := F0 m 52 ls [.ref (Z 2)]) (cs2 := [[(Z 0, .inr (8, [E 0, E 1, E 2, E 3, E 4, E 5, E 6, E 7, E 8, .ref (Z 2), E 10, E 11, E 12, E 13, E 14, E 15, .int (nI 4), E 17, E 18]))], [(Z 2, .inr (0, []))]]) rfl rfl ?_
          refine jJ_athrow hx hb hK 1 rfl dX10_times_52 ?_
          exact jJx_out hno hlocks (by show _ ≤ 0; omega) (by show _ ≤ 0; omega) ⟨by rw [vMul_t ⟨by omega, by omega⟩]; decide, rfl, rfl, rfl⟩
    · refine jJ_of (fun H locs => lv_lload_n hx hb dX10_times_20 rfl (lv_at hl 3 rfl)) ?_
      refine jJ_of (fun H locs => jl_lneg hx hb dX10_times_21) ?_
      refine jJ_of (fun H locs => lv_goto (tgt := 26) hx hb dX10_times_22 (by decide)) ?_
      refine jJ_eq (g2 := F0 m 26 ls [.long (lI (vAbs b))]) (cs2 := [[(Z 0, .inr (8, [E 0, E 1, E 2, E 3, E 4, E 5, E 6, E 7, E 8, .ref (Z 2), E 10, E 11, E 12, E 13, E 14, E 15, .int (nI al), E 17, E 18]))], [(Z 2, .inr (0, []))]]) (by rw [← vAbs_m (a := b) (by omega)]) rfl ?_
      refine jJ_ofL (fun H locs => lv_lstore (lv' := [(7, .long (lI (vAbs b))), (5, .long (lI (vAbs a))), (0, .ref (Z 0)), (1, .long (lI a)), (3, .long (lI b))]) hx hb dX10_times_26 hl (by decide) rfl) (fun ls hl => ?_)
      refine jJ_of (fun H locs => lv_lload hx hb dX10_times_28 (lv_at hl 0 rfl)) ?_
      refine jJ_of (fun H locs => jn_lconst (v := 0) hx hb dX10_times_30 rfl) ?_
      refine jJ_of (fun H locs => W.lcmp hx hb dX10_times_31) ?_
      refine jJ_of2 (fun H locs => jl_if_le (tgt := 53) hx hb dX10_times_32 (by decide) (by omega) (by omega) (by omega) (by omega)) (fun c32 => ?_) (fun c32 => ?_)
      · have hnm : ¬ (0 < vAbs b ∧ (1000000000000999 : Int).tdiv (vAbs b) < vAbs a) := by omega
        have hmb := vMulB (fun q => hnm (vMulX.mpr q)) (by omega) (by omega) (by omega) (by omega)
        have hmd : ((a * b).tdiv 1000).natAbs ≤ (a * b).natAbs := by rw [Int.natAbs_tdiv]; exact Nat.div_le_self _ _
        refine jJ_of (fun H locs => lv_aload_n hx hb dX10_times_53 rfl (lv_at hl 2 rfl)) ?_
        refine jJ_of (fun H locs => lv_lload_n hx hb dX10_times_54 rfl (lv_at hl 3 rfl)) ?_
        refine jJ_of (fun H locs => lv_lload_n hx hb dX10_times_55 rfl (lv_at hl 4 rfl)) ?_
        refine jJ_of (fun H locs => jl_lmul hx hb dX10_times_56) ?_
        refine jJ_of (fun H locs => lv_ldc2 (v := (lI 1000)) hx hb hown (by rw [show (lI 1000) = (1000 : Int64) from by decide]; exact (hts (.constantLong RX10 265 (1000)) (by decide +kernel))) dX10_times_57) ?_
        refine jJ_of (fun H locs => jl_ldiv hx hb dX10_times_60 (by omega) (by omega) (by omega) (by omega) (by omega)) ?_
        refine jX_callV (As := [.long (lI (Int.tdiv (a * b) 1000))]) (rest := []) (wc := jF (aWd Z (lsV [E 0, E 1, E 2, E 3, E 4, E 5, E 6, E 7, E 8, .null, E 10, E 11, E 12, E 13, E 14, E 15, .null, E 17, E 18]) al)) (cs2 := []) (C := RX10) (T := TX10) (N := 19) (ci := 8) [0, 1] [] ⟨hx, hb, hml, hown, hts⟩ hK hA hAm (c_Md_fits (E := lsV [E 0, E 1, E 2, E 3, E 4, E 5, E 6, E 7, E 8, .null, E 10, E 11, E 12, E 13, E 14, E 15, .null, E 17, E 18]) (al := al) (Int.tdiv (a * b) 1000) (by omega) (by omega)) (cwV 1 hts gX10_times_X10_fits rfl rfl rfl (by decide +kernel) ⟨Nat.le_of_ble_eq_true rfl, Nat.le_of_ble_eq_true rfl⟩) (nn := 2) rfl (by decide) rfl rfl ⟨0, _, rfl⟩ rfl rfl rfl hl.1 (Nat.le_of_ble_eq_true rfl) dX10_times_61 (by show _ + 0 ≤ 0; omega) (by show _ + 0 ≤ 0; omega) (fun u4 k4 n4 q4 hx4 => ?_) (fun v u4 k4 n4 hq4 => ?_)
        · obtain ⟨hb4, hu4, rfl, rfl⟩ := hx4
          rw [hu4]
          exact jJx_out hno hlocks (by show _ ≤ 0; omega) (by show _ ≤ 0; omega) ⟨by rw [vMul_f hnm]; exact hb4, rfl, rfl, rfl⟩
        obtain ⟨hb4, rfl, hw4, rfl, rfl⟩ := hq4
        rw [hw4]
        have hvk4 := vTG_ok (z := Int.tdiv (a * b) 1000) hb4
        refine jJ_open (xs := [[(Z 0, .inr (8, [E 0, E 1, E 2, E 3, E 4, E 5, E 6, E 7, E 8, .ref (Z 2), E 10, E 11, E 12, E 13, E 14, E 15, .int (nI al), E 17, E 18]))], [(Z 2, .inr (0, []))]]) (r := []) (cs2 := [[(Z 0, .inr (8, [E 0, E 1, E 2, E 3, E 4, E 5, E 6, E 7, E 8, .ref (Z 2), E 10, E 11, E 12, E 13, E 14, E 15, .int (nI al), E 17, E 18]))], [(Z 2, .inr (0, []))]]) rfl ?_
        refine jJ_eq (g2 := F0 m 64 ls [.long (lI (Int.tdiv (a * b) 1000))]) (cs2 := [[(Z 0, .inr (8, [E 0, E 1, E 2, E 3, E 4, E 5, E 6, E 7, E 8, .ref (Z 2), E 10, E 11, E 12, E 13, E 14, E 15, .int (nI al), E 17, E 18]))], [(Z 2, .inr (0, []))]]) rfl rfl ?_
        exact jJ_toX (jJ_lret hx hb hr hlocks dX10_times_64 (by show _ ≤ 0; omega) (by show _ ≤ 0; omega) ⟨by rw [vMul_f hnm]; exact hb4, by rw [vMul_f hnm], rfl, rfl, rfl⟩)
      · refine jJ_of (fun H locs => lv_lload hx hb dX10_times_35 (lv_at hl 1 rfl)) ?_
        refine jJ_of (fun H locs => lv_ldc2 (v := (lI 1000000000000999)) hx hb hown (by rw [show (lI 1000000000000999) = (1000000000000999 : Int64) from by decide]; exact (hts (.constantLong RX10 292 (1000000000000999)) (by decide +kernel))) dX10_times_37) ?_
        refine jJ_of (fun H locs => lv_lload hx hb dX10_times_40 (lv_at hl 0 rfl)) ?_
        refine jJ_of (fun H locs => jl_ldiv hx hb dX10_times_42 (by omega) (by omega) (by omega) (by omega) (by omega)) ?_
        refine jJ_of (fun H locs => W.lcmp hx hb dX10_times_43) ?_
        refine jJ_of2 (fun H locs => jl_if_le (tgt := 53) hx hb dX10_times_44 (by decide) (by omega) (by omega) (by omega) (by omega)) (fun c44 => ?_) (fun c44 => ?_)
        · have hnm : ¬ (0 < vAbs b ∧ (1000000000000999 : Int).tdiv (vAbs b) < vAbs a) := by omega
          have hmb := vMulB (fun q => hnm (vMulX.mpr q)) (by omega) (by omega) (by omega) (by omega)
          have hmd : ((a * b).tdiv 1000).natAbs ≤ (a * b).natAbs := by rw [Int.natAbs_tdiv]; exact Nat.div_le_self _ _
          refine jJ_of (fun H locs => lv_aload_n hx hb dX10_times_53 rfl (lv_at hl 2 rfl)) ?_
          refine jJ_of (fun H locs => lv_lload_n hx hb dX10_times_54 rfl (lv_at hl 3 rfl)) ?_
          refine jJ_of (fun H locs => lv_lload_n hx hb dX10_times_55 rfl (lv_at hl 4 rfl)) ?_
          refine jJ_of (fun H locs => jl_lmul hx hb dX10_times_56) ?_
          refine jJ_of (fun H locs => lv_ldc2 (v := (lI 1000)) hx hb hown (by rw [show (lI 1000) = (1000 : Int64) from by decide]; exact (hts (.constantLong RX10 265 (1000)) (by decide +kernel))) dX10_times_57) ?_
          refine jJ_of (fun H locs => jl_ldiv hx hb dX10_times_60 (by omega) (by omega) (by omega) (by omega) (by omega)) ?_
          refine jX_callV (As := [.long (lI (Int.tdiv (a * b) 1000))]) (rest := []) (wc := jF (aWd Z (lsV [E 0, E 1, E 2, E 3, E 4, E 5, E 6, E 7, E 8, .null, E 10, E 11, E 12, E 13, E 14, E 15, .null, E 17, E 18]) al)) (cs2 := []) (C := RX10) (T := TX10) (N := 19) (ci := 8) [0, 1] [] ⟨hx, hb, hml, hown, hts⟩ hK hA hAm (c_Md_fits (E := lsV [E 0, E 1, E 2, E 3, E 4, E 5, E 6, E 7, E 8, .null, E 10, E 11, E 12, E 13, E 14, E 15, .null, E 17, E 18]) (al := al) (Int.tdiv (a * b) 1000) (by omega) (by omega)) (cwV 1 hts gX10_times_X10_fits rfl rfl rfl (by decide +kernel) ⟨Nat.le_of_ble_eq_true rfl, Nat.le_of_ble_eq_true rfl⟩) (nn := 2) rfl (by decide) rfl rfl ⟨0, _, rfl⟩ rfl rfl rfl hl.1 (Nat.le_of_ble_eq_true rfl) dX10_times_61 (by show _ + 0 ≤ 0; omega) (by show _ + 0 ≤ 0; omega) (fun u5 k5 n5 q5 hx5 => ?_) (fun v u5 k5 n5 hq5 => ?_)
          · obtain ⟨hb5, hu5, rfl, rfl⟩ := hx5
            rw [hu5]
            exact jJx_out hno hlocks (by show _ ≤ 0; omega) (by show _ ≤ 0; omega) ⟨by rw [vMul_f hnm]; exact hb5, rfl, rfl, rfl⟩
          obtain ⟨hb5, rfl, hw5, rfl, rfl⟩ := hq5
          rw [hw5]
          have hvk5 := vTG_ok (z := Int.tdiv (a * b) 1000) hb5
          refine jJ_open (xs := [[(Z 0, .inr (8, [E 0, E 1, E 2, E 3, E 4, E 5, E 6, E 7, E 8, .ref (Z 2), E 10, E 11, E 12, E 13, E 14, E 15, .int (nI al), E 17, E 18]))], [(Z 2, .inr (0, []))]]) (r := []) (cs2 := [[(Z 0, .inr (8, [E 0, E 1, E 2, E 3, E 4, E 5, E 6, E 7, E 8, .ref (Z 2), E 10, E 11, E 12, E 13, E 14, E 15, .int (nI al), E 17, E 18]))], [(Z 2, .inr (0, []))]]) rfl ?_
          refine jJ_eq (g2 := F0 m 64 ls [.long (lI (Int.tdiv (a * b) 1000))]) (cs2 := [[(Z 0, .inr (8, [E 0, E 1, E 2, E 3, E 4, E 5, E 6, E 7, E 8, .ref (Z 2), E 10, E 11, E 12, E 13, E 14, E 15, .int (nI al), E 17, E 18]))], [(Z 2, .inr (0, []))]]) rfl rfl ?_
          exact jJ_toX (jJ_lret hx hb hr hlocks dX10_times_64 (by show _ ≤ 0; omega) (by show _ ≤ 0; omega) ⟨by rw [vMul_f hnm]; exact hb5, by rw [vMul_f hnm], rfl, rfl, rfl⟩)
        · refine jJ_of (fun H locs => lv_aload_n hx hb dX10_times_47 rfl (lv_at hl 2 rfl)) ?_
          refine jJ_of (fun H locs => lv_iconst (v := (nI 4)) hx hb dX10_times_48 (by decide)) ?_
          refine jJ_callV (As := [.int (nI 4)]) (rest := []) (wc := jF (aWd Z (lsV [E 0, E 1, E 2, E 3, E 4, E 5, E 6, E 7, E 8, .null, E 10, E 11, E 12, E 13, E 14, E 15, .null, E 17, E 18]) al)) (cs2 := []) (C := RX10) (T := TX10) (N := 19) (ci := 8) [0, 1] [] ⟨hx, hb, hml, hown, hts⟩ hK hA hAm (c_Md_alarmed (E := lsV [E 0, E 1, E 2, E 3, E 4, E 5, E 6, E 7, E 8, .null, E 10, E 11, E 12, E 13, E 14, E 15, .null, E 17, E 18]) (al := al) 4) (cwV 1 hts gX10_times_X10_alarmed rfl rfl rfl (by decide +kernel) ⟨Nat.le_of_ble_eq_true rfl, Nat.le_of_ble_eq_true rfl⟩) (nn := 2) rfl (by decide) rfl rfl ⟨0, _, rfl⟩ rfl rfl rfl hl.1 (Nat.le_of_ble_eq_true rfl) dX10_times_49 (by show _ + 0 ≤ 0; omega) (by show _ + 0 ≤ 0; omega) (fun v u6 k6 n6 hq6 => ?_)
          obtain ⟨rfl, hw6, rfl, rfl⟩ := hq6
          rw [hw6]
          refine jJ_open (xs := [[(Z 0, .inr (8, [E 0, E 1, E 2, E 3, E 4, E 5, E 6, E 7, E 8, .ref (Z 2), E 10, E 11, E 12, E 13, E 14, E 15, .int (nI 4), E 17, E 18]))], [(Z 2, .inr (0, []))]]) (r := []) (cs2 := [[(Z 0, .inr (8, [E 0, E 1, E 2, E 3, E 4, E 5, E 6, E 7, E 8, .ref (Z 2), E 10, E 11, E 12, E 13, E 14, E 15, .int (nI 4), E 17, E 18]))], [(Z 2, .inr (0, []))]]) rfl ?_
          refine jJ_eq (g2 := F0 m 52 ls [.ref (Z 2)]) (cs2 := [[(Z 0, .inr (8, [E 0, E 1, E 2, E 3, E 4, E 5, E 6, E 7, E 8, .ref (Z 2), E 10, E 11, E 12, E 13, E 14, E 15, .int (nI 4), E 17, E 18]))], [(Z 2, .inr (0, []))]]) rfl rfl ?_
          refine jJ_athrow hx hb hK 1 rfl dX10_times_52 ?_
          exact jJx_out hno hlocks (by show _ ≤ 0; omega) (by show _ ≤ 0; omega) ⟨by rw [vMul_t ⟨by omega, by omega⟩]; decide, rfl, rfl, rfl⟩
  · refine jJ_of (fun H locs => lv_lload_n hx hb dX10_times_6 rfl (lv_at hl 1 rfl)) ?_
    refine jJ_of (fun H locs => jl_lneg hx hb dX10_times_7) ?_
    refine jJ_of (fun H locs => lv_goto (tgt := 12) hx hb dX10_times_8 (by decide)) ?_
    refine jJ_eq (g2 := F0 m 12 ls [.long (lI (vAbs a))]) (cs2 := [[(Z 0, .inr (8, [E 0, E 1, E 2, E 3, E 4, E 5, E 6, E 7, E 8, .ref (Z 2), E 10, E 11, E 12, E 13, E 14, E 15, .int (nI al), E 17, E 18]))], [(Z 2, .inr (0, []))]]) (by rw [← vAbs_m (a := a) (by omega)]) rfl ?_
    refine jJ_ofL (fun H locs => lv_lstore (lv' := [(5, .long (lI (vAbs a))), (0, .ref (Z 0)), (1, .long (lI a)), (3, .long (lI b))]) hx hb dX10_times_12 hl (by decide) rfl) (fun ls hl => ?_)
    refine jJ_of (fun H locs => lv_lload_n hx hb dX10_times_14 rfl (lv_at hl 3 rfl)) ?_
    refine jJ_of (fun H locs => jn_lconst (v := 0) hx hb dX10_times_15 rfl) ?_
    refine jJ_of (fun H locs => W.lcmp hx hb dX10_times_16) ?_
    refine jJ_of2 (fun H locs => jl_if_ge (tgt := 25) hx hb dX10_times_17 (by decide) (by omega) (by omega) (by omega) (by omega)) (fun c17 => ?_) (fun c17 => ?_)
    · refine jJ_of (fun H locs => lv_lload_n hx hb dX10_times_25 rfl (lv_at hl 3 rfl)) ?_
      refine jJ_eq (g2 := F0 m 26 ls [.long (lI (vAbs b))]) (cs2 := [[(Z 0, .inr (8, [E 0, E 1, E 2, E 3, E 4, E 5, E 6, E 7, E 8, .ref (Z 2), E 10, E 11, E 12, E 13, E 14, E 15, .int (nI al), E 17, E 18]))], [(Z 2, .inr (0, []))]]) (by rw [← vAbs_p (a := b) (by omega)]) rfl ?_
      refine jJ_ofL (fun H locs => lv_lstore (lv' := [(7, .long (lI (vAbs b))), (5, .long (lI (vAbs a))), (0, .ref (Z 0)), (1, .long (lI a)), (3, .long (lI b))]) hx hb dX10_times_26 hl (by decide) rfl) (fun ls hl => ?_)
      refine jJ_of (fun H locs => lv_lload hx hb dX10_times_28 (lv_at hl 0 rfl)) ?_
      refine jJ_of (fun H locs => jn_lconst (v := 0) hx hb dX10_times_30 rfl) ?_
      refine jJ_of (fun H locs => W.lcmp hx hb dX10_times_31) ?_
      refine jJ_of2 (fun H locs => jl_if_le (tgt := 53) hx hb dX10_times_32 (by decide) (by omega) (by omega) (by omega) (by omega)) (fun c32 => ?_) (fun c32 => ?_)
      · have hnm : ¬ (0 < vAbs b ∧ (1000000000000999 : Int).tdiv (vAbs b) < vAbs a) := by omega
        have hmb := vMulB (fun q => hnm (vMulX.mpr q)) (by omega) (by omega) (by omega) (by omega)
        have hmd : ((a * b).tdiv 1000).natAbs ≤ (a * b).natAbs := by rw [Int.natAbs_tdiv]; exact Nat.div_le_self _ _
        refine jJ_of (fun H locs => lv_aload_n hx hb dX10_times_53 rfl (lv_at hl 2 rfl)) ?_
        refine jJ_of (fun H locs => lv_lload_n hx hb dX10_times_54 rfl (lv_at hl 3 rfl)) ?_
        refine jJ_of (fun H locs => lv_lload_n hx hb dX10_times_55 rfl (lv_at hl 4 rfl)) ?_
        refine jJ_of (fun H locs => jl_lmul hx hb dX10_times_56) ?_
        refine jJ_of (fun H locs => lv_ldc2 (v := (lI 1000)) hx hb hown (by rw [show (lI 1000) = (1000 : Int64) from by decide]; exact (hts (.constantLong RX10 265 (1000)) (by decide +kernel))) dX10_times_57) ?_
        refine jJ_of (fun H locs => jl_ldiv hx hb dX10_times_60 (by omega) (by omega) (by omega) (by omega) (by omega)) ?_
        refine jX_callV (As := [.long (lI (Int.tdiv (a * b) 1000))]) (rest := []) (wc := jF (aWd Z (lsV [E 0, E 1, E 2, E 3, E 4, E 5, E 6, E 7, E 8, .null, E 10, E 11, E 12, E 13, E 14, E 15, .null, E 17, E 18]) al)) (cs2 := []) (C := RX10) (T := TX10) (N := 19) (ci := 8) [0, 1] [] ⟨hx, hb, hml, hown, hts⟩ hK hA hAm (c_Md_fits (E := lsV [E 0, E 1, E 2, E 3, E 4, E 5, E 6, E 7, E 8, .null, E 10, E 11, E 12, E 13, E 14, E 15, .null, E 17, E 18]) (al := al) (Int.tdiv (a * b) 1000) (by omega) (by omega)) (cwV 1 hts gX10_times_X10_fits rfl rfl rfl (by decide +kernel) ⟨Nat.le_of_ble_eq_true rfl, Nat.le_of_ble_eq_true rfl⟩) (nn := 2) rfl (by decide) rfl rfl ⟨0, _, rfl⟩ rfl rfl rfl hl.1 (Nat.le_of_ble_eq_true rfl) dX10_times_61 (by show _ + 0 ≤ 0; omega) (by show _ + 0 ≤ 0; omega) (fun u7 k7 n7 q7 hx7 => ?_) (fun v u7 k7 n7 hq7 => ?_)
        · obtain ⟨hb7, hu7, rfl, rfl⟩ := hx7
          rw [hu7]
          exact jJx_out hno hlocks (by show _ ≤ 0; omega) (by show _ ≤ 0; omega) ⟨by rw [vMul_f hnm]; exact hb7, rfl, rfl, rfl⟩
        obtain ⟨hb7, rfl, hw7, rfl, rfl⟩ := hq7
        rw [hw7]
        have hvk7 := vTG_ok (z := Int.tdiv (a * b) 1000) hb7
        refine jJ_open (xs := [[(Z 0, .inr (8, [E 0, E 1, E 2, E 3, E 4, E 5, E 6, E 7, E 8, .ref (Z 2), E 10, E 11, E 12, E 13, E 14, E 15, .int (nI al), E 17, E 18]))], [(Z 2, .inr (0, []))]]) (r := []) (cs2 := [[(Z 0, .inr (8, [E 0, E 1, E 2, E 3, E 4, E 5, E 6, E 7, E 8, .ref (Z 2), E 10, E 11, E 12, E 13, E 14, E 15, .int (nI al), E 17, E 18]))], [(Z 2, .inr (0, []))]]) rfl ?_
        refine jJ_eq (g2 := F0 m 64 ls [.long (lI (Int.tdiv (a * b) 1000))]) (cs2 := [[(Z 0, .inr (8, [E 0, E 1, E 2, E 3, E 4, E 5, E 6, E 7, E 8, .ref (Z 2), E 10, E 11, E 12, E 13, E 14, E 15, .int (nI al), E 17, E 18]))], [(Z 2, .inr (0, []))]]) rfl rfl ?_
        exact jJ_toX (jJ_lret hx hb hr hlocks dX10_times_64 (by show _ ≤ 0; omega) (by show _ ≤ 0; omega) ⟨by rw [vMul_f hnm]; exact hb7, by rw [vMul_f hnm], rfl, rfl, rfl⟩)
      · refine jJ_of (fun H locs => lv_lload hx hb dX10_times_35 (lv_at hl 1 rfl)) ?_
        refine jJ_of (fun H locs => lv_ldc2 (v := (lI 1000000000000999)) hx hb hown (by rw [show (lI 1000000000000999) = (1000000000000999 : Int64) from by decide]; exact (hts (.constantLong RX10 292 (1000000000000999)) (by decide +kernel))) dX10_times_37) ?_
        refine jJ_of (fun H locs => lv_lload hx hb dX10_times_40 (lv_at hl 0 rfl)) ?_
        refine jJ_of (fun H locs => jl_ldiv hx hb dX10_times_42 (by omega) (by omega) (by omega) (by omega) (by omega)) ?_
        refine jJ_of (fun H locs => W.lcmp hx hb dX10_times_43) ?_
        refine jJ_of2 (fun H locs => jl_if_le (tgt := 53) hx hb dX10_times_44 (by decide) (by omega) (by omega) (by omega) (by omega)) (fun c44 => ?_) (fun c44 => ?_)
        · have hnm : ¬ (0 < vAbs b ∧ (1000000000000999 : Int).tdiv (vAbs b) < vAbs a) := by omega
          have hmb := vMulB (fun q => hnm (vMulX.mpr q)) (by omega) (by omega) (by omega) (by omega)
          have hmd : ((a * b).tdiv 1000).natAbs ≤ (a * b).natAbs := by rw [Int.natAbs_tdiv]; exact Nat.div_le_self _ _
          refine jJ_of (fun H locs => lv_aload_n hx hb dX10_times_53 rfl (lv_at hl 2 rfl)) ?_
          refine jJ_of (fun H locs => lv_lload_n hx hb dX10_times_54 rfl (lv_at hl 3 rfl)) ?_
          refine jJ_of (fun H locs => lv_lload_n hx hb dX10_times_55 rfl (lv_at hl 4 rfl)) ?_
          refine jJ_of (fun H locs => jl_lmul hx hb dX10_times_56) ?_
          refine jJ_of (fun H locs => lv_ldc2 (v := (lI 1000)) hx hb hown (by rw [show (lI 1000) = (1000 : Int64) from by decide]; exact (hts (.constantLong RX10 265 (1000)) (by decide +kernel))) dX10_times_57) ?_
          refine jJ_of (fun H locs => jl_ldiv hx hb dX10_times_60 (by omega) (by omega) (by omega) (by omega) (by omega)) ?_
          refine jX_callV (As := [.long (lI (Int.tdiv (a * b) 1000))]) (rest := []) (wc := jF (aWd Z (lsV [E 0, E 1, E 2, E 3, E 4, E 5, E 6, E 7, E 8, .null, E 10, E 11, E 12, E 13, E 14, E 15, .null, E 17, E 18]) al)) (cs2 := []) (C := RX10) (T := TX10) (N := 19) (ci := 8) [0, 1] [] ⟨hx, hb, hml, hown, hts⟩ hK hA hAm (c_Md_fits (E := lsV [E 0, E 1, E 2, E 3, E 4, E 5, E 6, E 7, E 8, .null, E 10, E 11, E 12, E 13, E 14, E 15, .null, E 17, E 18]) (al := al) (Int.tdiv (a * b) 1000) (by omega) (by omega)) (cwV 1 hts gX10_times_X10_fits rfl rfl rfl (by decide +kernel) ⟨Nat.le_of_ble_eq_true rfl, Nat.le_of_ble_eq_true rfl⟩) (nn := 2) rfl (by decide) rfl rfl ⟨0, _, rfl⟩ rfl rfl rfl hl.1 (Nat.le_of_ble_eq_true rfl) dX10_times_61 (by show _ + 0 ≤ 0; omega) (by show _ + 0 ≤ 0; omega) (fun u8 k8 n8 q8 hx8 => ?_) (fun v u8 k8 n8 hq8 => ?_)
          · obtain ⟨hb8, hu8, rfl, rfl⟩ := hx8
            rw [hu8]
            exact jJx_out hno hlocks (by show _ ≤ 0; omega) (by show _ ≤ 0; omega) ⟨by rw [vMul_f hnm]; exact hb8, rfl, rfl, rfl⟩
          obtain ⟨hb8, rfl, hw8, rfl, rfl⟩ := hq8
          rw [hw8]
          have hvk8 := vTG_ok (z := Int.tdiv (a * b) 1000) hb8
          refine jJ_open (xs := [[(Z 0, .inr (8, [E 0, E 1, E 2, E 3, E 4, E 5, E 6, E 7, E 8, .ref (Z 2), E 10, E 11, E 12, E 13, E 14, E 15, .int (nI al), E 17, E 18]))], [(Z 2, .inr (0, []))]]) (r := []) (cs2 := [[(Z 0, .inr (8, [E 0, E 1, E 2, E 3, E 4, E 5, E 6, E 7, E 8, .ref (Z 2), E 10, E 11, E 12, E 13, E 14, E 15, .int (nI al), E 17, E 18]))], [(Z 2, .inr (0, []))]]) rfl ?_
          refine jJ_eq (g2 := F0 m 64 ls [.long (lI (Int.tdiv (a * b) 1000))]) (cs2 := [[(Z 0, .inr (8, [E 0, E 1, E 2, E 3, E 4, E 5, E 6, E 7, E 8, .ref (Z 2), E 10, E 11, E 12, E 13, E 14, E 15, .int (nI al), E 17, E 18]))], [(Z 2, .inr (0, []))]]) rfl rfl ?_
          exact jJ_toX (jJ_lret hx hb hr hlocks dX10_times_64 (by show _ ≤ 0; omega) (by show _ ≤ 0; omega) ⟨by rw [vMul_f hnm]; exact hb8, by rw [vMul_f hnm], rfl, rfl, rfl⟩)
        · refine jJ_of (fun H locs => lv_aload_n hx hb dX10_times_47 rfl (lv_at hl 2 rfl)) ?_
          refine jJ_of (fun H locs => lv_iconst (v := (nI 4)) hx hb dX10_times_48 (by decide)) ?_
          refine jJ_callV (As := [.int (nI 4)]) (rest := []) (wc := jF (aWd Z (lsV [E 0, E 1, E 2, E 3, E 4, E 5, E 6, E 7, E 8, .null, E 10, E 11, E 12, E 13, E 14, E 15, .null, E 17, E 18]) al)) (cs2 := []) (C := RX10) (T := TX10) (N := 19) (ci := 8) [0, 1] [] ⟨hx, hb, hml, hown, hts⟩ hK hA hAm (c_Md_alarmed (E := lsV [E 0, E 1, E 2, E 3, E 4, E 5, E 6, E 7, E 8, .null, E 10, E 11, E 12, E 13, E 14, E 15, .null, E 17, E 18]) (al := al) 4) (cwV 1 hts gX10_times_X10_alarmed rfl rfl rfl (by decide +kernel) ⟨Nat.le_of_ble_eq_true rfl, Nat.le_of_ble_eq_true rfl⟩) (nn := 2) rfl (by decide) rfl rfl ⟨0, _, rfl⟩ rfl rfl rfl hl.1 (Nat.le_of_ble_eq_true rfl) dX10_times_49 (by show _ + 0 ≤ 0; omega) (by show _ + 0 ≤ 0; omega) (fun v u9 k9 n9 hq9 => ?_)
          obtain ⟨rfl, hw9, rfl, rfl⟩ := hq9
          rw [hw9]
          refine jJ_open (xs := [[(Z 0, .inr (8, [E 0, E 1, E 2, E 3, E 4, E 5, E 6, E 7, E 8, .ref (Z 2), E 10, E 11, E 12, E 13, E 14, E 15, .int (nI 4), E 17, E 18]))], [(Z 2, .inr (0, []))]]) (r := []) (cs2 := [[(Z 0, .inr (8, [E 0, E 1, E 2, E 3, E 4, E 5, E 6, E 7, E 8, .ref (Z 2), E 10, E 11, E 12, E 13, E 14, E 15, .int (nI 4), E 17, E 18]))], [(Z 2, .inr (0, []))]]) rfl ?_
          refine jJ_eq (g2 := F0 m 52 ls [.ref (Z 2)]) (cs2 := [[(Z 0, .inr (8, [E 0, E 1, E 2, E 3, E 4, E 5, E 6, E 7, E 8, .ref (Z 2), E 10, E 11, E 12, E 13, E 14, E 15, .int (nI 4), E 17, E 18]))], [(Z 2, .inr (0, []))]]) rfl rfl ?_
          refine jJ_athrow hx hb hK 1 rfl dX10_times_52 ?_
          exact jJx_out hno hlocks (by show _ ≤ 0; omega) (by show _ ≤ 0; omega) ⟨by rw [vMul_t ⟨by omega, by omega⟩]; decide, rfl, rfl, rfl⟩
    · refine jJ_of (fun H locs => lv_lload_n hx hb dX10_times_20 rfl (lv_at hl 3 rfl)) ?_
      refine jJ_of (fun H locs => jl_lneg hx hb dX10_times_21) ?_
      refine jJ_of (fun H locs => lv_goto (tgt := 26) hx hb dX10_times_22 (by decide)) ?_
      refine jJ_eq (g2 := F0 m 26 ls [.long (lI (vAbs b))]) (cs2 := [[(Z 0, .inr (8, [E 0, E 1, E 2, E 3, E 4, E 5, E 6, E 7, E 8, .ref (Z 2), E 10, E 11, E 12, E 13, E 14, E 15, .int (nI al), E 17, E 18]))], [(Z 2, .inr (0, []))]]) (by rw [← vAbs_m (a := b) (by omega)]) rfl ?_
      refine jJ_ofL (fun H locs => lv_lstore (lv' := [(7, .long (lI (vAbs b))), (5, .long (lI (vAbs a))), (0, .ref (Z 0)), (1, .long (lI a)), (3, .long (lI b))]) hx hb dX10_times_26 hl (by decide) rfl) (fun ls hl => ?_)
      refine jJ_of (fun H locs => lv_lload hx hb dX10_times_28 (lv_at hl 0 rfl)) ?_
      refine jJ_of (fun H locs => jn_lconst (v := 0) hx hb dX10_times_30 rfl) ?_
      refine jJ_of (fun H locs => W.lcmp hx hb dX10_times_31) ?_
      refine jJ_of2 (fun H locs => jl_if_le (tgt := 53) hx hb dX10_times_32 (by decide) (by omega) (by omega) (by omega) (by omega)) (fun c32 => ?_) (fun c32 => ?_)
      · have hnm : ¬ (0 < vAbs b ∧ (1000000000000999 : Int).tdiv (vAbs b) < vAbs a) := by omega
        have hmb := vMulB (fun q => hnm (vMulX.mpr q)) (by omega) (by omega) (by omega) (by omega)
        have hmd : ((a * b).tdiv 1000).natAbs ≤ (a * b).natAbs := by rw [Int.natAbs_tdiv]; exact Nat.div_le_self _ _
        refine jJ_of (fun H locs => lv_aload_n hx hb dX10_times_53 rfl (lv_at hl 2 rfl)) ?_
        refine jJ_of (fun H locs => lv_lload_n hx hb dX10_times_54 rfl (lv_at hl 3 rfl)) ?_
        refine jJ_of (fun H locs => lv_lload_n hx hb dX10_times_55 rfl (lv_at hl 4 rfl)) ?_
        refine jJ_of (fun H locs => jl_lmul hx hb dX10_times_56) ?_
        refine jJ_of (fun H locs => lv_ldc2 (v := (lI 1000)) hx hb hown (by rw [show (lI 1000) = (1000 : Int64) from by decide]; exact (hts (.constantLong RX10 265 (1000)) (by decide +kernel))) dX10_times_57) ?_
        refine jJ_of (fun H locs => jl_ldiv hx hb dX10_times_60 (by omega) (by omega) (by omega) (by omega) (by omega)) ?_
        refine jX_callV (As := [.long (lI (Int.tdiv (a * b) 1000))]) (rest := []) (wc := jF (aWd Z (lsV [E 0, E 1, E 2, E 3, E 4, E 5, E 6, E 7, E 8, .null, E 10, E 11, E 12, E 13, E 14, E 15, .null, E 17, E 18]) al)) (cs2 := []) (C := RX10) (T := TX10) (N := 19) (ci := 8) [0, 1] [] ⟨hx, hb, hml, hown, hts⟩ hK hA hAm (c_Md_fits (E := lsV [E 0, E 1, E 2, E 3, E 4, E 5, E 6, E 7, E 8, .null, E 10, E 11, E 12, E 13, E 14, E 15, .null, E 17, E 18]) (al := al) (Int.tdiv (a * b) 1000) (by omega) (by omega)) (cwV 1 hts gX10_times_X10_fits rfl rfl rfl (by decide +kernel) ⟨Nat.le_of_ble_eq_true rfl, Nat.le_of_ble_eq_true rfl⟩) (nn := 2) rfl (by decide) rfl rfl ⟨0, _, rfl⟩ rfl rfl rfl hl.1 (Nat.le_of_ble_eq_true rfl) dX10_times_61 (by show _ + 0 ≤ 0; omega) (by show _ + 0 ≤ 0; omega) (fun u10 k10 n10 q10 hx10 => ?_) (fun v u10 k10 n10 hq10 => ?_)
        · obtain ⟨hb10, hu10, rfl, rfl⟩ := hx10
          rw [hu10]
          exact jJx_out hno hlocks (by show _ ≤ 0; omega) (by show _ ≤ 0; omega) ⟨by rw [vMul_f hnm]; exact hb10, rfl, rfl, rfl⟩
        obtain ⟨hb10, rfl, hw10, rfl, rfl⟩ := hq10
        rw [hw10]
        have hvk10 := vTG_ok (z := Int.tdiv (a * b) 1000) hb10
        refine jJ_open (xs := [[(Z 0, .inr (8, [E 0, E 1, E 2, E 3, E 4, E 5, E 6, E 7, E 8, .ref (Z 2), E 10, E 11, E 12, E 13, E 14, E 15, .int (nI al), E 17, E 18]))], [(Z 2, .inr (0, []))]]) (r := []) (cs2 := [[(Z 0, .inr (8, [E 0, E 1, E 2, E 3, E 4, E 5, E 6, E 7, E 8, .ref (Z 2), E 10, E 11, E 12, E 13, E 14, E 15, .int (nI al), E 17, E 18]))], [(Z 2, .inr (0, []))]]) rfl ?_
        refine jJ_eq (g2 := F0 m 64 ls [.long (lI (Int.tdiv (a * b) 1000))]) (cs2 := [[(Z 0, .inr (8, [E 0, E 1, E 2, E 3, E 4, E 5, E 6, E 7, E 8, .ref (Z 2), E 10, E 11, E 12, E 13, E 14, E 15, .int (nI al), E 17, E 18]))], [(Z 2, .inr (0, []))]]) rfl rfl ?_
        exact jJ_toX (jJ_lret hx hb hr hlocks dX10_times_64 (by show _ ≤ 0; omega) (by show _ ≤ 0; omega) ⟨by rw [vMul_f hnm]; exact hb10, by rw [vMul_f hnm], rfl, rfl, rfl⟩)
      · refine jJ_of (fun H locs => lv_lload hx hb dX10_times_35 (lv_at hl 1 rfl)) ?_
        refine jJ_of (fun H locs => lv_ldc2 (v := (lI 1000000000000999)) hx hb hown (by rw [show (lI 1000000000000999) = (1000000000000999 : Int64) from by decide]; exact (hts (.constantLong RX10 292 (1000000000000999)) (by decide +kernel))) dX10_times_37) ?_
        refine jJ_of (fun H locs => lv_lload hx hb dX10_times_40 (lv_at hl 0 rfl)) ?_
        refine jJ_of (fun H locs => jl_ldiv hx hb dX10_times_42 (by omega) (by omega) (by omega) (by omega) (by omega)) ?_
        refine jJ_of (fun H locs => W.lcmp hx hb dX10_times_43) ?_
        refine jJ_of2 (fun H locs => jl_if_le (tgt := 53) hx hb dX10_times_44 (by decide) (by omega) (by omega) (by omega) (by omega)) (fun c44 => ?_) (fun c44 => ?_)
        · have hnm : ¬ (0 < vAbs b ∧ (1000000000000999 : Int).tdiv (vAbs b) < vAbs a) := by omega
          have hmb := vMulB (fun q => hnm (vMulX.mpr q)) (by omega) (by omega) (by omega) (by omega)
          have hmd : ((a * b).tdiv 1000).natAbs ≤ (a * b).natAbs := by rw [Int.natAbs_tdiv]; exact Nat.div_le_self _ _
          refine jJ_of (fun H locs => lv_aload_n hx hb dX10_times_53 rfl (lv_at hl 2 rfl)) ?_
          refine jJ_of (fun H locs => lv_lload_n hx hb dX10_times_54 rfl (lv_at hl 3 rfl)) ?_
          refine jJ_of (fun H locs => lv_lload_n hx hb dX10_times_55 rfl (lv_at hl 4 rfl)) ?_
          refine jJ_of (fun H locs => jl_lmul hx hb dX10_times_56) ?_
          refine jJ_of (fun H locs => lv_ldc2 (v := (lI 1000)) hx hb hown (by rw [show (lI 1000) = (1000 : Int64) from by decide]; exact (hts (.constantLong RX10 265 (1000)) (by decide +kernel))) dX10_times_57) ?_
          refine jJ_of (fun H locs => jl_ldiv hx hb dX10_times_60 (by omega) (by omega) (by omega) (by omega) (by omega)) ?_
          refine jX_callV (As := [.long (lI (Int.tdiv (a * b) 1000))]) (rest := []) (wc := jF (aWd Z (lsV [E 0, E 1, E 2, E 3, E 4, E 5, E 6, E 7, E 8, .null, E 10, E 11, E 12, E 13, E 14, E 15, .null, E 17, E 18]) al)) (cs2 := []) (C := RX10) (T := TX10) (N := 19) (ci := 8) [0, 1] [] ⟨hx, hb, hml, hown, hts⟩ hK hA hAm (c_Md_fits (E := lsV [E 0, E 1, E 2, E 3, E 4, E 5, E 6, E 7, E 8, .null, E 10, E 11, E 12, E 13, E 14, E 15, .null, E 17, E 18]) (al := al) (Int.tdiv (a * b) 1000) (by omega) (by omega)) (cwV 1 hts gX10_times_X10_fits rfl rfl rfl (by decide +kernel) ⟨Nat.le_of_ble_eq_true rfl, Nat.le_of_ble_eq_true rfl⟩) (nn := 2) rfl (by decide) rfl rfl ⟨0, _, rfl⟩ rfl rfl rfl hl.1 (Nat.le_of_ble_eq_true rfl) dX10_times_61 (by show _ + 0 ≤ 0; omega) (by show _ + 0 ≤ 0; omega) (fun u11 k11 n11 q11 hx11 => ?_) (fun v u11 k11 n11 hq11 => ?_)
          · obtain ⟨hb11, hu11, rfl, rfl⟩ := hx11
            rw [hu11]
            exact jJx_out hno hlocks (by show _ ≤ 0; omega) (by show _ ≤ 0; omega) ⟨by rw [vMul_f hnm]; exact hb11, rfl, rfl, rfl⟩
          obtain ⟨hb11, rfl, hw11, rfl, rfl⟩ := hq11
          rw [hw11]
          have hvk11 := vTG_ok (z := Int.tdiv (a * b) 1000) hb11
          refine jJ_open (xs := [[(Z 0, .inr (8, [E 0, E 1, E 2, E 3, E 4, E 5, E 6, E 7, E 8, .ref (Z 2), E 10, E 11, E 12, E 13, E 14, E 15, .int (nI al), E 17, E 18]))], [(Z 2, .inr (0, []))]]) (r := []) (cs2 := [[(Z 0, .inr (8, [E 0, E 1, E 2, E 3, E 4, E 5, E 6, E 7, E 8, .ref (Z 2), E 10, E 11, E 12, E 13, E 14, E 15, .int (nI al), E 17, E 18]))], [(Z 2, .inr (0, []))]]) rfl ?_
          refine jJ_eq (g2 := F0 m 64 ls [.long (lI (Int.tdiv (a * b) 1000))]) (cs2 := [[(Z 0, .inr (8, [E 0, E 1, E 2, E 3, E 4, E 5, E 6, E 7, E 8, .ref (Z 2), E 10, E 11, E 12, E 13, E 14, E 15, .int (nI al), E 17, E 18]))], [(Z 2, .inr (0, []))]]) rfl rfl ?_
          exact jJ_toX (jJ_lret hx hb hr hlocks dX10_times_64 (by show _ ≤ 0; omega) (by show _ ≤ 0; omega) ⟨by rw [vMul_f hnm]; exact hb11, by rw [vMul_f hnm], rfl, rfl, rfl⟩)
        · refine jJ_of (fun H locs => lv_aload_n hx hb dX10_times_47 rfl (lv_at hl 2 rfl)) ?_
          refine jJ_of (fun H locs => lv_iconst (v := (nI 4)) hx hb dX10_times_48 (by decide)) ?_
          refine jJ_callV (As := [.int (nI 4)]) (rest := []) (wc := jF (aWd Z (lsV [E 0, E 1, E 2, E 3, E 4, E 5, E 6, E 7, E 8, .null, E 10, E 11, E 12, E 13, E 14, E 15, .null, E 17, E 18]) al)) (cs2 := []) (C := RX10) (T := TX10) (N := 19) (ci := 8) [0, 1] [] ⟨hx, hb, hml, hown, hts⟩ hK hA hAm (c_Md_alarmed (E := lsV [E 0, E 1, E 2, E 3, E 4, E 5, E 6, E 7, E 8, .null, E 10, E 11, E 12, E 13, E 14, E 15, .null, E 17, E 18]) (al := al) 4) (cwV 1 hts gX10_times_X10_alarmed rfl rfl rfl (by decide +kernel) ⟨Nat.le_of_ble_eq_true rfl, Nat.le_of_ble_eq_true rfl⟩) (nn := 2) rfl (by decide) rfl rfl ⟨0, _, rfl⟩ rfl rfl rfl hl.1 (Nat.le_of_ble_eq_true rfl) dX10_times_49 (by show _ + 0 ≤ 0; omega) (by show _ + 0 ≤ 0; omega) (fun v u12 k12 n12 hq12 => ?_)
          obtain ⟨rfl, hw12, rfl, rfl⟩ := hq12
          rw [hw12]
          refine jJ_open (xs := [[(Z 0, .inr (8, [E 0, E 1, E 2, E 3, E 4, E 5, E 6, E 7, E 8, .ref (Z 2), E 10, E 11, E 12, E 13, E 14, E 15, .int (nI 4), E 17, E 18]))], [(Z 2, .inr (0, []))]]) (r := []) (cs2 := [[(Z 0, .inr (8, [E 0, E 1, E 2, E 3, E 4, E 5, E 6, E 7, E 8, .ref (Z 2), E 10, E 11, E 12, E 13, E 14, E 15, .int (nI 4), E 17, E 18]))], [(Z 2, .inr (0, []))]]) rfl ?_
          refine jJ_eq (g2 := F0 m 52 ls [.ref (Z 2)]) (cs2 := [[(Z 0, .inr (8, [E 0, E 1, E 2, E 3, E 4, E 5, E 6, E 7, E 8, .ref (Z 2), E 10, E 11, E 12, E 13, E 14, E 15, .int (nI 4), E 17, E 18]))], [(Z 2, .inr (0, []))]]) rfl rfl ?_
          refine jJ_athrow hx hb hK 1 rfl dX10_times_52 ?_
          exact jJx_out hno hlocks (by show _ ≤ 0; omega) (by show _ ≤ 0; omega) ⟨by rw [vMul_t ⟨by omega, by omega⟩]; decide, rfl, rfl, rfl⟩
theorem qBra_ok {tk : Nat → List Nat} {N r a : Nat} (h : (qBra tk N r a).1 = true) : ∃ r2, r = r2 + 1 ∧ (tk 0).getD a 0 = 91 ∧ (qTes tk N r2 (a + 1)).1 = true ∧ (tk 0).getD (qTes tk N r2 (a + 1)).2 0 = 93 ∧ (qBra tk N r a).2 = (qTes tk N r2 (a + 1)).2 + 1 := by
  by_cases q : (tk 0).getD a 0 = 91
  · cases r with
    | zero => exact absurd h (by show ¬ false = true; decide)
    | succ r2 =>
      rw [qBra_s q] at h ⊢
      obtain ⟨h1, h2, h3⟩ := qThen_ok h
      refine ⟨r2, rfl, q, h1, ?_, ?_⟩
      · unfold qTake at h2
        split at h2
        · rename_i q2; exact q2
        · exact (Bool.false_ne_true h2).elim
      · rw [h3]
        unfold qTake at h2 ⊢
        split at h2
        · rename_i q2; rw [if_pos q2]
        · exact (Bool.false_ne_true h2).elim
  · rw [qBra_no q] at h
    exact (Bool.false_ne_true h).elim
theorem uX10_in_X10_bracketed : ∀ w ∈ u_ws RX10 TX10 19, w ∈ wsX10_bracketed := by decide +kernel
set_option maxHeartbeats 4000000 in
set_option maxRecDepth 100000 in
/-- bracketed() -/
theorem c_Md_bracketed {Z : Nat → Nat} {E X : Nat → Value} {V : Nat → Nat → Int32} {vv : Nat → Int64} {tk : Nat → List Nat} {vs : Nat → Int} {a al : Nat} {N r : Nat} (hT : tV tk V) (hE : tE tk) (hvv : ∀ i, i < 200 → vv i = lI (vs i)) (hvs : ∀ i, i < 200 → vOK (vs i)) (ha : a + 1 ≤ (tk 0).length) (hok : (qBra tk N r a).1 = true) (hTe : ∀ r2, r = r2 + 1 → cEv D G cI cJ cB cZ l yX10_test wsX10_test (8 * r2 + 12) (320 * r2 + 520) Z E X V vv tk (fun z => .long (lI z)) (qTes tk N r2) (xTes tk N vs r2)) : HX l yX10_bracketed wsX10_bracketed ({ frames := 8 * r + 6, cells := 0, slots := 0, locals := 320 * r + 280 } : Room) D G (jT cI cJ cB cZ) [.ref (Z 0)] (jF (eW cI cJ cB Z E X V vv a al)) (fun v u k n => (xBra tk N vs r a).1 = 0 ∧ v = some (.long (lI (xBra tk N vs r a).2)) ∧ u = jF (eW cI cJ cB Z E X V vv (qBra tk N r a).2 al) ∧ k = 0 ∧ n = 0) (fun u k n => ¬ (xBra tk N vs r a).1 = 0 ∧ (∃ a2 : Nat, u = jF (eW cI cJ cB Z E X V vv a2 (xBra tk N vs r a).1)) ∧ k = 0 ∧ n = 0) := by
  refine HX_of (cc := cX10_bracketed) (maxL := 3) (ret := (some .long)) (lv := [(0, .ref (Z 0))]) (by decide) rfl rfl (Nat.le_of_ble_eq_true rfl) (fun p e s m args below meth c A0 ls hx hb hr hts hown hlocks hml hno hK hA hAm hl => ?_)
  refine jJ_open (xs := [[(Z 0, .inr (8, [E 0, E 1, E 2, .ref (Z 1), .int (nI a), E 5, E 6, E 7, E 8, .ref (Z 2), E 10, E 11, E 12, E 13, E 14, .ref (Z 7), .int (nI al), E 17, E 18]))], [(Z 2, .inr (0, []))], [(Z 1, .inr (7, [X 0, X 1, .ref (Z 3), X 3, .ref (Z 5), X 5, X 6, X 7, X 8, X 9, X 10, X 11, X 12]))], [(Z 3, .inl (cB, 32008, .inl (V 0)))], [(Z 5, .inl (cI, 32008, .inl (V 2)))], [(Z 7, .inl (cJ, 200, .inr (.inl vv)))]]) (r := []) (cs2 := [[(Z 0, .inr (8, [E 0, E 1, E 2, .ref (Z 1), .int (nI a), E 5, E 6, E 7, E 8, .ref (Z 2), E 10, E 11, E 12, E 13, E 14, .ref (Z 7), .int (nI al), E 17, E 18]))], [(Z 2, .inr (0, []))], [(Z 1, .inr (7, [X 0, X 1, .ref (Z 3), X 3, .ref (Z 5), X 5, X 6, X 7, X 8, X 9, X 10, X 11, X 12]))], [(Z 3, .inl (cB, 32008, .inl (V 0)))], [(Z 5, .inl (cI, 32008, .inl (V 2)))], [(Z 7, .inl (cJ, 200, .inr (.inl vv)))]]) rfl ?_
  have hL9 := hT.1
  obtain ⟨hV0, hV1, hV2, hV3⟩ := hT.2.1 a (by omega)
  obtain ⟨hB0, hB1, hB2⟩ := hT.2.2 a
  have hkc := kC_le ((tk 0).getD a 0)
  have hkw := kW_le hB0 hB2
  have hk1 := kC1 (c := (tk 0).getD a 0)
  have hk3 := kC3w (c := (tk 0).getD a 0) (w := (tk 2).getD a 0)
  have hB2a := fun i => (hT.2.2 i).2.2
  have hL8 := hE.lt (a := a)
  obtain ⟨r2, hr2, h91, hok2, h93, hend⟩ := qBra_ok hok
  have hL7 := hE.lt (a := (qTes tk N r2 (a + 1)).2) (by omega) (by omega)
  refine jJ_of (fun H locs => lv_aload_n hx hb dX10_bracketed_0 rfl (lv_at hl 0 rfl)) ?_
  refine jJ_of (fun H locs => lv_dup hx hb dX10_bracketed_1 rfl) ?_
  refine jJ_get hx hb (C := RX10) (T := TX10) (N := 19) hts uX10_in_X10_bracketed hown hK 0 rfl rfl 4 (by decide) (hts (.fieldLink RX10 121 "ValueBlocksModel" "at" "I") (by decide +kernel)) (fun _ h9 => h9) rfl dX10_bracketed_2 ?_
  refine jJ_of (fun H locs => lv_iconst (v := (nI 1)) hx hb dX10_bracketed_5 (by decide)) ?_
  refine jJ_of (fun H locs => jn_iadd hx hb dX10_bracketed_6) ?_
  refine jJ_put hx hb (C := RX10) (T := TX10) (N := 19) (ty := .int) (v := .int (nI (a + 1))) hts uX10_in_X10_bracketed tyX10 tyX10_ok nmX10 hown hK 0 rfl rfl 4 (by decide) (hts (.fieldLink RX10 121 "ValueBlocksModel" "at" "I") (by decide +kernel)) (fun _ h9 => h9) rfl (by decide +kernel) rfl rfl (Nat.le_of_ble_eq_true rfl) dX10_bracketed_7 (cs2 := [[(Z 0, .inr (8, [E 0, E 1, E 2, .ref (Z 1), .int (nI (a + 1)), E 5, E 6, E 7, E 8, .ref (Z 2), E 10, E 11, E 12, E 13, E 14, .ref (Z 7), .int (nI al), E 17, E 18]))], [(Z 2, .inr (0, []))], [(Z 1, .inr (7, [X 0, X 1, .ref (Z 3), X 3, .ref (Z 5), X 5, X 6, X 7, X 8, X 9, X 10, X 11, X 12]))], [(Z 3, .inl (cB, 32008, .inl (V 0)))], [(Z 5, .inl (cI, 32008, .inl (V 2)))], [(Z 7, .inl (cJ, 200, .inr (.inl vv)))]]) rfl ?_
  refine jJ_of (fun H locs => lv_aload_n hx hb dX10_bracketed_10 rfl (lv_at hl 0 rfl)) ?_
  have hokq1 : (qTes tk N r2 (a + 1)).1 = true := by exact hok2
  obtain ⟨aa1, haa1⟩ : ∃ i, (qTes tk N r2 (a + 1)).2 = i := ⟨_, rfl⟩
  have heq1 : qTes tk N r2 (a + 1) = (true, aa1) := Prod.ext hokq1 haa1
  have hqb1 : (a + 1) ≤ (qTes tk N r2 (a + 1)).2 ∧ (qTes tk N r2 (a + 1)).2 + 1 ≤ (tk 0).length := qb_te hE (qb_sum hE N r2) (a + 1) (by omega)
  rw [haa1] at hqb1
  obtain ⟨xa1, xv1, hxe1⟩ : ∃ i j, xTes tk N vs r2 (a + 1) = (i, j) := ⟨_, _, rfl⟩
  refine jX_callV (As := []) (rest := []) (wc := jF (eW cI cJ cB Z (E) (X) V vv (a + 1) al)) (cs2 := []) (C := RX10) (T := TX10) (N := 19) (ci := 8) [0, 1, 2, 3, 4, 5] [] ⟨hx, hb, hml, hown, hts⟩ hK hA hAm (hTe r2 hr2 (a + 1) al (by omega) hokq1) (cwV 0 hts gX10_bracketed_X10_test rfl rfl rfl (by decide +kernel) ⟨by show (8 * r2 + 12) + 1 ≤ 8 * r + 6; omega, by show 8 + (7 + 11) + (320 * r2 + 520) ≤ 320 * r + 280; omega⟩) (nn := 6) rfl (by decide) rfl rfl ⟨0, _, rfl⟩ rfl rfl rfl hl.1 (Nat.le_of_ble_eq_true rfl) dX10_bracketed_11 (by show _ + 0 ≤ 0; omega) (by show _ + 0 ≤ 0; omega) (fun u1 k1 n1 q1 hx1 => ?_) (fun v u1 k1 n1 hq1 => ?_)
  · rw [hxe1] at hx1
    dsimp only at hx1
    obtain ⟨hnz1, ⟨a2_1, hu1⟩, rfl, rfl⟩ := hx1
    rw [hu1]
    have he : xBra tk N vs r a = (xa1, xv1) := by rw [hr2]; exact hxe1
    exact jJx_out hno hlocks (by show _ ≤ 0; omega) (by show _ ≤ 0; omega) ⟨by rw [he]; assumption, ⟨_, by rw [he]; rfl⟩, rfl, rfl⟩
  rw [hxe1, haa1] at hq1
  dsimp only at hq1
  obtain ⟨hz1, rfl, hw1, rfl, rfl⟩ := hq1
  subst hz1
  rw [hw1]
  refine jJ_open (xs := [[(Z 0, .inr (8, [E 0, E 1, E 2, .ref (Z 1), .int (nI aa1), E 5, E 6, E 7, E 8, .ref (Z 2), E 10, E 11, E 12, E 13, E 14, .ref (Z 7), .int (nI al), E 17, E 18]))], [(Z 2, .inr (0, []))], [(Z 1, .inr (7, [X 0, X 1, .ref (Z 3), X 3, .ref (Z 5), X 5, X 6, X 7, X 8, X 9, X 10, X 11, X 12]))], [(Z 3, .inl (cB, 32008, .inl (V 0)))], [(Z 5, .inl (cI, 32008, .inl (V 2)))], [(Z 7, .inl (cJ, 200, .inr (.inl vv)))]]) (r := []) (cs2 := [[(Z 0, .inr (8, [E 0, E 1, E 2, .ref (Z 1), .int (nI aa1), E 5, E 6, E 7, E 8, .ref (Z 2), E 10, E 11, E 12, E 13, E 14, .ref (Z 7), .int (nI al), E 17, E 18]))], [(Z 2, .inr (0, []))], [(Z 1, .inr (7, [X 0, X 1, .ref (Z 3), X 3, .ref (Z 5), X 5, X 6, X 7, X 8, X 9, X 10, X 11, X 12]))], [(Z 3, .inl (cB, 32008, .inl (V 0)))], [(Z 5, .inl (cI, 32008, .inl (V 2)))], [(Z 7, .inl (cJ, 200, .inr (.inl vv)))]]) rfl ?_
  refine jJ_eq (g2 := F0 m 14 ls [.long (lI xv1)]) (cs2 := [[(Z 0, .inr (8, [E 0, E 1, E 2, .ref (Z 1), .int (nI aa1), E 5, E 6, E 7, E 8, .ref (Z 2), E 10, E 11, E 12, E 13, E 14, .ref (Z 7), .int (nI al), E 17, E 18]))], [(Z 2, .inr (0, []))], [(Z 1, .inr (7, [X 0, X 1, .ref (Z 3), X 3, .ref (Z 5), X 5, X 6, X 7, X 8, X 9, X 10, X 11, X 12]))], [(Z 3, .inl (cB, 32008, .inl (V 0)))], [(Z 5, .inl (cI, 32008, .inl (V 2)))], [(Z 7, .inl (cJ, 200, .inr (.inl vv)))]]) rfl rfl ?_
  refine jJ_ofL (fun H locs => lv_lstore_n (lv' := [(1, .long (lI xv1)), (0, .ref (Z 0))]) hx hb dX10_bracketed_14 rfl hl (by decide) rfl) (fun ls hl => ?_)
  rw [heq1] at hL7
  refine jJ_of (fun H locs => lv_aload_n hx hb dX10_bracketed_15 rfl (lv_at hl 1 rfl)) ?_
  refine jJ_of (fun H locs => lv_dup hx hb dX10_bracketed_16 rfl) ?_
  refine jJ_get hx hb (C := RX10) (T := TX10) (N := 19) hts uX10_in_X10_bracketed hown hK 0 rfl rfl 4 (by decide) (hts (.fieldLink RX10 121 "ValueBlocksModel" "at" "I") (by decide +kernel)) (fun _ h9 => h9) rfl dX10_bracketed_17 ?_
  refine jJ_of (fun H locs => lv_iconst (v := (nI 1)) hx hb dX10_bracketed_20 (by decide)) ?_
  refine jJ_of (fun H locs => jn_iadd hx hb dX10_bracketed_21) ?_
  refine jJ_put hx hb (C := RX10) (T := TX10) (N := 19) (ty := .int) (v := .int (nI (aa1 + 1))) hts uX10_in_X10_bracketed tyX10 tyX10_ok nmX10 hown hK 0 rfl rfl 4 (by decide) (hts (.fieldLink RX10 121 "ValueBlocksModel" "at" "I") (by decide +kernel)) (fun _ h9 => h9) rfl (by decide +kernel) rfl rfl (Nat.le_of_ble_eq_true rfl) dX10_bracketed_22 (cs2 := [[(Z 0, .inr (8, [E 0, E 1, E 2, .ref (Z 1), .int (nI (aa1 + 1)), E 5, E 6, E 7, E 8, .ref (Z 2), E 10, E 11, E 12, E 13, E 14, .ref (Z 7), .int (nI al), E 17, E 18]))], [(Z 2, .inr (0, []))], [(Z 1, .inr (7, [X 0, X 1, .ref (Z 3), X 3, .ref (Z 5), X 5, X 6, X 7, X 8, X 9, X 10, X 11, X 12]))], [(Z 3, .inl (cB, 32008, .inl (V 0)))], [(Z 5, .inl (cI, 32008, .inl (V 2)))], [(Z 7, .inl (cJ, 200, .inr (.inl vv)))]]) rfl ?_
  refine jJ_of (fun H locs => lv_lload_n hx hb dX10_bracketed_25 rfl (lv_at hl 0 rfl)) ?_
  have heq : (qBra tk N r a).2 = aa1 + 1 := by rw [hend, heq1]
  have he : xBra tk N vs r a = (0, (xv1 : Int)) := by rw [hr2]; exact hxe1
  exact jJ_toX (jJ_lret hx hb hr hlocks dX10_bracketed_26 (by show _ ≤ 0; omega) (by show _ ≤ 0; omega) ⟨by rw [he], by rw [he], by rw [heq]; rfl, rfl, rfl⟩)
def qVa (tk : Nat → List Nat) (N r a : Nat) : Bool × Nat := qPl tk (qBra tk N r) (a + 1)
def xVa (tk : Nat → List Nat) (N : Nat) (vs : Nat → Int) (r a : Nat) : Nat × Int := xPn tk (xBra tk N vs r) (a + 1)
theorem qPl_ok {tk : Nat → List Nat} {N r a : Nat} (h : (qPl tk (qBra tk N r) a).1 = true) : ((tk 0).getD a 0 = 91 ∧ (qBra tk N r a).1 = true ∧ qPl tk (qBra tk N r) a = qBra tk N r a) ∨ ((tk 0).getD a 0 = 256 ∧ (qPl tk (qBra tk N r) a).2 = a + 1) := by
  unfold qPl at h ⊢
  split at h
  · rename_i q; rw [if_pos q]; exact Or.inr ⟨q, rfl⟩
  · rename_i q
    rw [if_neg q]
    obtain ⟨r2, -, h91, -⟩ := qBra_ok h
    exact Or.inl ⟨h91, h, rfl⟩
theorem xCk_y {v : Int} (h : v.tmod 1000 = 0) (h1 : 1000 ≤ v) (h2 : v ≤ 199000) : xCk v = (0, v.tdiv 1000) := by
  have e := Int.tmod_add_mul_tdiv v 1000
  have e3 : v.tdiv 1000 = v / 1000 := Int.tdiv_eq_ediv_of_nonneg (by omega)
  unfold xCk
  rw [if_pos ⟨by omega, decide_eq_true (by omega)⟩]
theorem xCk_n {v : Int} (h : ¬ (v.tmod 1000 = 0 ∧ 1000 ≤ v ∧ v ≤ 199000)) : xCk v = (2, 0) := by
  have e := Int.tmod_add_mul_tdiv v 1000
  unfold xCk
  rw [if_neg]
  intro ⟨h1, h2⟩
  have h3 := of_decide_eq_true h2
  omega
theorem xPv_b {tk : Nat → List Nat} {br : Nat → Nat × Int} {a : Nat} (h : (tk 0).getD a 0 = 91) : xPv tk br a = br a := if_pos h
theorem xPv_w {tk : Nat → List Nat} {br : Nat → Nat × Int} {a : Nat} (h : (tk 0).getD a 0 = 256) : xPv tk br a = (0, ((tk 2).getD a 0 : Int)) := if_neg (by omega)
theorem uX10_in_X10_variableAt : ∀ w ∈ u_ws RX10 TX10 19, w ∈ wsX10_variableAt := by decide +kernel
theorem uX9_in_X10_variableAt : ∀ w ∈ u_ws RX9 TX9 13, w ∈ wsX10_variableAt := by decide +kernel
set_option maxHeartbeats 4000000 in
set_option maxRecDepth 100000 in
/-- variableAt() -/
theorem c_Md_variableAt {Z : Nat → Nat} {E X : Nat → Value} {V : Nat → Nat → Int32} {vv : Nat → Int64} {tk : Nat → List Nat} {vs : Nat → Int} {a al : Nat} {N r : Nat} (hT : tV tk V) (hE : tE tk) (hvv : ∀ i, i < 200 → vv i = lI (vs i)) (hvs : ∀ i, i < 200 → vOK (vs i)) (ha : a + 1 ≤ (tk 0).length) (hok : (qVa tk N r a).1 = true) (h35 : (tk 0).getD a 0 = 35) (hBr : cEv D G cI cJ cB cZ l yX10_bracketed wsX10_bracketed (8 * r + 6) (320 * r + 280) Z E X V vv tk (fun z => .long (lI z)) (qBra tk N r) (xBra tk N vs r)) : HX l yX10_variableAt wsX10_variableAt ({ frames := 8 * r + 7, cells := 0, slots := 0, locals := 320 * r + 320 } : Room) D G (jT cI cJ cB cZ) [.ref (Z 0)] (jF (eW cI cJ cB Z E X V vv a al)) (fun v u k n => (xVa tk N vs r a).1 = 0 ∧ v = some (.int (iI (xVa tk N vs r a).2)) ∧ u = jF (eW cI cJ cB Z E X V vv (qVa tk N r a).2 al) ∧ k = 0 ∧ n = 0) (fun u k n => ¬ (xVa tk N vs r a).1 = 0 ∧ (∃ a2 : Nat, u = jF (eW cI cJ cB Z E X V vv a2 (xVa tk N vs r a).1)) ∧ k = 0 ∧ n = 0) := by
  refine HX_of (cc := cX10_variableAt) (maxL := 3) (ret := (some .int)) (lv := [(0, .ref (Z 0))]) (by decide) rfl rfl (Nat.le_of_ble_eq_true rfl) (fun p e s m args below meth c A0 ls hx hb hr hts hown hlocks hml hno hK hA hAm hl => ?_)
  refine jJ_open (xs := [[(Z 0, .inr (8, [E 0, E 1, E 2, .ref (Z 1), .int (nI a), E 5, E 6, E 7, E 8, .ref (Z 2), E 10, E 11, E 12, E 13, E 14, .ref (Z 7), .int (nI al), E 17, E 18]))], [(Z 2, .inr (0, []))], [(Z 1, .inr (7, [X 0, X 1, .ref (Z 3), X 3, .ref (Z 5), X 5, X 6, X 7, X 8, X 9, X 10, X 11, X 12]))], [(Z 3, .inl (cB, 32008, .inl (V 0)))], [(Z 5, .inl (cI, 32008, .inl (V 2)))], [(Z 7, .inl (cJ, 200, .inr (.inl vv)))]]) (r := []) (cs2 := [[(Z 0, .inr (8, [E 0, E 1, E 2, .ref (Z 1), .int (nI a), E 5, E 6, E 7, E 8, .ref (Z 2), E 10, E 11, E 12, E 13, E 14, .ref (Z 7), .int (nI al), E 17, E 18]))], [(Z 2, .inr (0, []))], [(Z 1, .inr (7, [X 0, X 1, .ref (Z 3), X 3, .ref (Z 5), X 5, X 6, X 7, X 8, X 9, X 10, X 11, X 12]))], [(Z 3, .inl (cB, 32008, .inl (V 0)))], [(Z 5, .inl (cI, 32008, .inl (V 2)))], [(Z 7, .inl (cJ, 200, .inr (.inl vv)))]]) rfl ?_
  have hL9 := hT.1
  obtain ⟨hV0, hV1, hV2, hV3⟩ := hT.2.1 a (by omega)
  obtain ⟨hB0, hB1, hB2⟩ := hT.2.2 a
  have hkc := kC_le ((tk 0).getD a 0)
  have hkw := kW_le hB0 hB2
  have hk1 := kC1 (c := (tk 0).getD a 0)
  have hk3 := kC3w (c := (tk 0).getD a 0) (w := (tk 2).getD a 0)
  have hB2a := fun i => (hT.2.2 i).2.2
  have hL8 := hE.lt (a := a)
  have hok0 : (qPl tk (qBra tk N r) (a + 1)).1 = true := hok
  obtain ⟨hW0, hW1, hW2, hW3⟩ := hT.2.1 (a + 1) (by rcases qPl_ok hok0 with h | h <;> (have := hE.lt (a := a + 1) (by omega) (by omega); omega))
  have hpl := qPl_ok hok0
  have hL7 := hE.lt (a := a + 1)
  have hkw7 := hB2a (a + 1)
  refine jJ_of (fun H locs => lv_aload_n hx hb dX10_variableAt_0 rfl (lv_at hl 0 rfl)) ?_
  refine jJ_of (fun H locs => lv_dup hx hb dX10_variableAt_1 rfl) ?_
  refine jJ_get hx hb (C := RX10) (T := TX10) (N := 19) hts uX10_in_X10_variableAt hown hK 0 rfl rfl 4 (by decide) (hts (.fieldLink RX10 121 "ValueBlocksModel" "at" "I") (by decide +kernel)) (fun _ h9 => h9) rfl dX10_variableAt_2 ?_
  refine jJ_of (fun H locs => lv_iconst (v := (nI 1)) hx hb dX10_variableAt_5 (by decide)) ?_
  refine jJ_of (fun H locs => jn_iadd hx hb dX10_variableAt_6) ?_
  refine jJ_put hx hb (C := RX10) (T := TX10) (N := 19) (ty := .int) (v := .int (nI (a + 1))) hts uX10_in_X10_variableAt tyX10 tyX10_ok nmX10 hown hK 0 rfl rfl 4 (by decide) (hts (.fieldLink RX10 121 "ValueBlocksModel" "at" "I") (by decide +kernel)) (fun _ h9 => h9) rfl (by decide +kernel) rfl rfl (Nat.le_of_ble_eq_true rfl) dX10_variableAt_7 (cs2 := [[(Z 0, .inr (8, [E 0, E 1, E 2, .ref (Z 1), .int (nI (a + 1)), E 5, E 6, E 7, E 8, .ref (Z 2), E 10, E 11, E 12, E 13, E 14, .ref (Z 7), .int (nI al), E 17, E 18]))], [(Z 2, .inr (0, []))], [(Z 1, .inr (7, [X 0, X 1, .ref (Z 3), X 3, .ref (Z 5), X 5, X 6, X 7, X 8, X 9, X 10, X 11, X 12]))], [(Z 3, .inl (cB, 32008, .inl (V 0)))], [(Z 5, .inl (cI, 32008, .inl (V 2)))], [(Z 7, .inl (cJ, 200, .inr (.inl vv)))]]) rfl ?_
  refine jJ_of (fun H locs => lv_aload_n hx hb dX10_variableAt_10 rfl (lv_at hl 0 rfl)) ?_
  refine jJ_of (fun H locs => lv_bipush (v := (nI 91)) hx hb dX10_variableAt_11 (by decide)) ?_
  refine jJ_callV (As := [.int (nI 91)]) (rest := []) (wc := jF (kWd cI cB Z (lsV [E 0, E 1, E 2, .null, .null, E 5, E 6, E 7, E 8, .ref (Z 2), E 10, E 11, E 12, E 13, E 14, .ref (Z 7), .int (nI al), E 17, E 18]) (lsV [X 0, X 1, .null, X 3, .null, X 5, X 6, X 7, X 8, X 9, X 10, X 11, X 12]) V (a + 1))) (cs2 := [[(Z 2, .inr (0, []))], [(Z 7, .inl (cJ, 200, .inr (.inl vv)))]]) (C := RX10) (T := TX10) (N := 19) (ci := 8) [0, 2, 3, 4] [1, 5] ⟨hx, hb, hml, hown, hts⟩ hK hA hAm (c_Md_isSign (E := lsV [E 0, E 1, E 2, .null, .null, E 5, E 6, E 7, E 8, .ref (Z 2), E 10, E 11, E 12, E 13, E 14, .ref (Z 7), .int (nI al), E 17, E 18]) (X := lsV [X 0, X 1, .null, X 3, .null, X 5, X 6, X 7, X 8, X 9, X 10, X 11, X 12]) (a := a + 1) hT (by omega) 91 (by decide)) (cwV 1 hts gX10_variableAt_X10_isSign rfl rfl rfl (by decide +kernel) ⟨by show (1) + 1 ≤ 8 * r + 7; omega, by show 8 + (2 + 11) + (40) ≤ 320 * r + 320; omega⟩) (nn := 6) rfl (by decide) rfl rfl ⟨0, _, rfl⟩ rfl rfl rfl hl.1 (Nat.le_of_ble_eq_true rfl) dX10_variableAt_13 (by show _ + 0 ≤ 0; omega) (by show _ + 0 ≤ 0; omega) (fun v u1 k1 n1 hq1 => ?_)
  obtain ⟨rfl, hw1, rfl, rfl⟩ := hq1
  rw [hw1]
  refine jJ_open (xs := [[(Z 0, .inr (8, [E 0, E 1, E 2, .ref (Z 1), .int (nI (a + 1)), E 5, E 6, E 7, E 8, .ref (Z 2), E 10, E 11, E 12, E 13, E 14, .ref (Z 7), .int (nI al), E 17, E 18]))], [(Z 1, .inr (7, [X 0, X 1, .ref (Z 3), X 3, .ref (Z 5), X 5, X 6, X 7, X 8, X 9, X 10, X 11, X 12]))], [(Z 3, .inl (cB, 32008, .inl (V 0)))], [(Z 5, .inl (cI, 32008, .inl (V 2)))]]) (r := [[(Z 2, .inr (0, []))], [(Z 7, .inl (cJ, 200, .inr (.inl vv)))]]) (cs2 := [[(Z 0, .inr (8, [E 0, E 1, E 2, .ref (Z 1), .int (nI (a + 1)), E 5, E 6, E 7, E 8, .ref (Z 2), E 10, E 11, E 12, E 13, E 14, .ref (Z 7), .int (nI al), E 17, E 18]))], [(Z 1, .inr (7, [X 0, X 1, .ref (Z 3), X 3, .ref (Z 5), X 5, X 6, X 7, X 8, X 9, X 10, X 11, X 12]))], [(Z 3, .inl (cB, 32008, .inl (V 0)))], [(Z 5, .inl (cI, 32008, .inl (V 2)))], [(Z 2, .inr (0, []))], [(Z 7, .inl (cJ, 200, .inr (.inl vv)))]]) rfl ?_
  refine jJ_eq (g2 := F0 m 16 ls [.int (bI (decide ((tk 0).getD (a + 1) 0 = 91)))]) (cs2 := [[(Z 0, .inr (8, [E 0, E 1, E 2, .ref (Z 1), .int (nI (a + 1)), E 5, E 6, E 7, E 8, .ref (Z 2), E 10, E 11, E 12, E 13, E 14, .ref (Z 7), .int (nI al), E 17, E 18]))], [(Z 1, .inr (7, [X 0, X 1, .ref (Z 3), X 3, .ref (Z 5), X 5, X 6, X 7, X 8, X 9, X 10, X 11, X 12]))], [(Z 3, .inl (cB, 32008, .inl (V 0)))], [(Z 5, .inl (cI, 32008, .inl (V 2)))], [(Z 2, .inr (0, []))], [(Z 7, .inl (cJ, 200, .inr (.inl vv)))]]) rfl rfl ?_
  refine jJ_of2 (fun H locs => jb_if_eq (tgt := 27) hx hb dX10_variableAt_16 (by decide)) (fun c16 => ?_) (fun c16 => ?_)
  · simp only [decide_eq_true_eq, decide_eq_false_iff_not] at c16
    have hpl2 : (tk 0).getD (a + 1) 0 = 256 ∧ (qPl tk (qBra tk N r) (a + 1)).2 = a + 1 + 1 := hpl.elim (fun h => by omega) (fun h => h)
    refine jJ_of (fun H locs => lv_aload_n hx hb dX10_variableAt_27 rfl (lv_at hl 0 rfl)) ?_
    refine jJ_get hx hb (C := RX10) (T := TX10) (N := 19) hts uX10_in_X10_variableAt hown hK 0 rfl rfl 3 (by decide) (hts (.fieldLink RX10 53 "ValueBlocksModel" "t" "LValueBlocksModel$Text;") (by decide +kernel)) (fun _ h9 => h9) rfl dX10_variableAt_28 ?_
    refine jJ_get hx hb (C := RX9) (T := TX9) (N := 13) hts uX9_in_X10_variableAt hown hK 1 rfl rfl 4 (by decide) (hts (.fieldLink RX10 71 "ValueBlocksModel$Text" "worths" "[I") (by decide +kernel)) (fun _ h9 => h9) rfl dX10_variableAt_31 ?_
    refine jJ_of (fun H locs => lv_aload_n hx hb dX10_variableAt_34 rfl (lv_at hl 0 rfl)) ?_
    refine jJ_get hx hb (C := RX10) (T := TX10) (N := 19) hts uX10_in_X10_variableAt hown hK 0 rfl rfl 4 (by decide) (hts (.fieldLink RX10 121 "ValueBlocksModel" "at" "I") (by decide +kernel)) (fun _ h9 => h9) rfl dX10_variableAt_35 ?_
    refine jJ_iald hx hb hK 3 0 (f := V 2) rfl rfl (vp_in_nI (by omega) (by omega)) (x := (nI ((tk 2).getD (a + 1) 0))) (by rw [nI_clamp (by omega), hW2]; unfold kW; rw [if_pos (Or.inl (by omega))]) dX10_variableAt_38 ?_
    refine jJ_of (fun H locs => jn_i2l hx hb dX10_variableAt_39 (by omega)) ?_
    refine jJ_ofL (fun H locs => lv_lstore_n (lv' := [(1, .long (lI ((tk 2).getD (a + 1) 0 : Nat))), (0, .ref (Z 0))]) hx hb dX10_variableAt_40 rfl hl (by decide) rfl) (fun ls hl => ?_)
    refine jJ_of (fun H locs => lv_aload_n hx hb dX10_variableAt_41 rfl (lv_at hl 1 rfl)) ?_
    refine jJ_of (fun H locs => lv_dup hx hb dX10_variableAt_42 rfl) ?_
    refine jJ_get hx hb (C := RX10) (T := TX10) (N := 19) hts uX10_in_X10_variableAt hown hK 0 rfl rfl 4 (by decide) (hts (.fieldLink RX10 121 "ValueBlocksModel" "at" "I") (by decide +kernel)) (fun _ h9 => h9) rfl dX10_variableAt_43 ?_
    refine jJ_of (fun H locs => lv_iconst (v := (nI 1)) hx hb dX10_variableAt_46 (by decide)) ?_
    refine jJ_of (fun H locs => jn_iadd hx hb dX10_variableAt_47) ?_
    refine jJ_put hx hb (C := RX10) (T := TX10) (N := 19) (ty := .int) (v := .int (nI ((a + 1) + 1))) hts uX10_in_X10_variableAt tyX10 tyX10_ok nmX10 hown hK 0 rfl rfl 4 (by decide) (hts (.fieldLink RX10 121 "ValueBlocksModel" "at" "I") (by decide +kernel)) (fun _ h9 => h9) rfl (by decide +kernel) rfl rfl (Nat.le_of_ble_eq_true rfl) dX10_variableAt_48 (cs2 := [[(Z 0, .inr (8, [E 0, E 1, E 2, .ref (Z 1), .int (nI ((a + 1) + 1)), E 5, E 6, E 7, E 8, .ref (Z 2), E 10, E 11, E 12, E 13, E 14, .ref (Z 7), .int (nI al), E 17, E 18]))], [(Z 1, .inr (7, [X 0, X 1, .ref (Z 3), X 3, .ref (Z 5), X 5, X 6, X 7, X 8, X 9, X 10, X 11, X 12]))], [(Z 3, .inl (cB, 32008, .inl (V 0)))], [(Z 5, .inl (cI, 32008, .inl (V 2)))], [(Z 2, .inr (0, []))], [(Z 7, .inl (cJ, 200, .inr (.inl vv)))]]) rfl ?_
    have htm := Int.tmod_add_mul_tdiv (((tk 2).getD (a + 1) 0 : Nat) : Int) 1000
    have htn : (Int.tmod (((tk 2).getD (a + 1) 0 : Nat) : Int) 1000).natAbs ≤ (((tk 2).getD (a + 1) 0 : Nat) : Int).natAbs := by rw [Int.natAbs_tmod]; exact Nat.mod_le _ _
    refine jJ_of (fun H locs => lv_lload_n hx hb dX10_variableAt_51 rfl (lv_at hl 0 rfl)) ?_
    refine jJ_of (fun H locs => lv_ldc2 (v := (lI 1000)) hx hb hown (by rw [show (lI 1000) = (1000 : Int64) from by decide]; exact (hts (.constantLong RX10 265 (1000)) (by decide +kernel))) dX10_variableAt_52) ?_
    refine jJ_of (fun H locs => jl_lrem hx hb dX10_variableAt_55 (by omega) (by omega) (by omega) (by omega) (by omega)) ?_
    refine jJ_of (fun H locs => jn_lconst (v := 0) hx hb dX10_variableAt_56 rfl) ?_
    refine jJ_of (fun H locs => W.lcmp hx hb dX10_variableAt_57) ?_
    refine jJ_of2 (fun H locs => jl_if_ne (tgt := 77) hx hb dX10_variableAt_58 (by decide) (by omega) (by omega) (by omega) (by omega)) (fun c58 => ?_) (fun c58 => ?_)
    · refine jJ_of (fun H locs => lv_aload_n hx hb dX10_variableAt_77 rfl (lv_at hl 1 rfl)) ?_
      refine jJ_of (fun H locs => lv_iconst (v := (nI 2)) hx hb dX10_variableAt_78 (by decide)) ?_
      refine jJ_callV (As := [.int (nI 2)]) (rest := []) (wc := jF (aWd Z (lsV [E 0, E 1, E 2, .ref (Z 1), .int (nI ((a + 1) + 1)), E 5, E 6, E 7, E 8, .null, E 10, E 11, E 12, E 13, E 14, .ref (Z 7), .null, E 17, E 18]) al)) (cs2 := [[(Z 1, .inr (7, [X 0, X 1, .ref (Z 3), X 3, .ref (Z 5), X 5, X 6, X 7, X 8, X 9, X 10, X 11, X 12]))], [(Z 3, .inl (cB, 32008, .inl (V 0)))], [(Z 5, .inl (cI, 32008, .inl (V 2)))], [(Z 7, .inl (cJ, 200, .inr (.inl vv)))]]) (C := RX10) (T := TX10) (N := 19) (ci := 8) [0, 4] [1, 2, 3, 5] ⟨hx, hb, hml, hown, hts⟩ hK hA hAm (c_Md_alarmed (E := lsV [E 0, E 1, E 2, .ref (Z 1), .int (nI ((a + 1) + 1)), E 5, E 6, E 7, E 8, .null, E 10, E 11, E 12, E 13, E 14, .ref (Z 7), .null, E 17, E 18]) (al := al) 2) (cwV 1 hts gX10_variableAt_X10_alarmed rfl rfl rfl (by decide +kernel) ⟨by show (0) + 1 ≤ 8 * r + 7; omega, by show 8 + (2 + 11) + (0) ≤ 320 * r + 320; omega⟩) (nn := 6) rfl (by decide) rfl rfl ⟨0, _, rfl⟩ rfl rfl rfl hl.1 (Nat.le_of_ble_eq_true rfl) dX10_variableAt_79 (by show _ + 0 ≤ 0; omega) (by show _ + 0 ≤ 0; omega) (fun v u2 k2 n2 hq2 => ?_)
      obtain ⟨rfl, hw2, rfl, rfl⟩ := hq2
      rw [hw2]
      refine jJ_open (xs := [[(Z 0, .inr (8, [E 0, E 1, E 2, .ref (Z 1), .int (nI ((a + 1) + 1)), E 5, E 6, E 7, E 8, .ref (Z 2), E 10, E 11, E 12, E 13, E 14, .ref (Z 7), .int (nI 2), E 17, E 18]))], [(Z 2, .inr (0, []))]]) (r := [[(Z 1, .inr (7, [X 0, X 1, .ref (Z 3), X 3, .ref (Z 5), X 5, X 6, X 7, X 8, X 9, X 10, X 11, X 12]))], [(Z 3, .inl (cB, 32008, .inl (V 0)))], [(Z 5, .inl (cI, 32008, .inl (V 2)))], [(Z 7, .inl (cJ, 200, .inr (.inl vv)))]]) (cs2 := [[(Z 0, .inr (8, [E 0, E 1, E 2, .ref (Z 1), .int (nI ((a + 1) + 1)), E 5, E 6, E 7, E 8, .ref (Z 2), E 10, E 11, E 12, E 13, E 14, .ref (Z 7), .int (nI 2), E 17, E 18]))], [(Z 2, .inr (0, []))], [(Z 1, .inr (7, [X 0, X 1, .ref (Z 3), X 3, .ref (Z 5), X 5, X 6, X 7, X 8, X 9, X 10, X 11, X 12]))], [(Z 3, .inl (cB, 32008, .inl (V 0)))], [(Z 5, .inl (cI, 32008, .inl (V 2)))], [(Z 7, .inl (cJ, 200, .inr (.inl vv)))]]) rfl ?_
      refine jJ_eq (g2 := F0 m 82 ls [.ref (Z 2)]) (cs2 := [[(Z 0, .inr (8, [E 0, E 1, E 2, .ref (Z 1), .int (nI ((a + 1) + 1)), E 5, E 6, E 7, E 8, .ref (Z 2), E 10, E 11, E 12, E 13, E 14, .ref (Z 7), .int (nI 2), E 17, E 18]))], [(Z 2, .inr (0, []))], [(Z 1, .inr (7, [X 0, X 1, .ref (Z 3), X 3, .ref (Z 5), X 5, X 6, X 7, X 8, X 9, X 10, X 11, X 12]))], [(Z 3, .inl (cB, 32008, .inl (V 0)))], [(Z 5, .inl (cI, 32008, .inl (V 2)))], [(Z 7, .inl (cJ, 200, .inr (.inl vv)))]]) rfl rfl ?_
      refine jJ_athrow hx hb hK 1 rfl dX10_variableAt_82 ?_
      have he : xVa tk N vs r a = (2, 0) := by show xThen (xPv tk (xBra tk N vs r) (a + 1)) xCk = _; rw [xPv_w (by omega), xThen_0]; exact xCk_n (by omega)
      exact jJx_out hno hlocks (by show _ ≤ 0; omega) (by show _ ≤ 0; omega) ⟨by rw [he]; exact (by decide : ¬ 2 = 0), ⟨_, by rw [he]; rfl⟩, rfl, rfl⟩
    · refine jJ_of (fun H locs => lv_lload_n hx hb dX10_variableAt_61 rfl (lv_at hl 0 rfl)) ?_
      refine jJ_of (fun H locs => lv_ldc2 (v := (lI 1000)) hx hb hown (by rw [show (lI 1000) = (1000 : Int64) from by decide]; exact (hts (.constantLong RX10 265 (1000)) (by decide +kernel))) dX10_variableAt_62) ?_
      refine jJ_of (fun H locs => W.lcmp hx hb dX10_variableAt_65) ?_
      refine jJ_of2 (fun H locs => jl_if_lt (tgt := 77) hx hb dX10_variableAt_66 (by decide) (by omega) (by omega) (by omega) (by omega)) (fun c66 => ?_) (fun c66 => ?_)
      · refine jJ_of (fun H locs => lv_aload_n hx hb dX10_variableAt_77 rfl (lv_at hl 1 rfl)) ?_
        refine jJ_of (fun H locs => lv_iconst (v := (nI 2)) hx hb dX10_variableAt_78 (by decide)) ?_
        refine jJ_callV (As := [.int (nI 2)]) (rest := []) (wc := jF (aWd Z (lsV [E 0, E 1, E 2, .ref (Z 1), .int (nI ((a + 1) + 1)), E 5, E 6, E 7, E 8, .null, E 10, E 11, E 12, E 13, E 14, .ref (Z 7), .null, E 17, E 18]) al)) (cs2 := [[(Z 1, .inr (7, [X 0, X 1, .ref (Z 3), X 3, .ref (Z 5), X 5, X 6, X 7, X 8, X 9, X 10, X 11, X 12]))], [(Z 3, .inl (cB, 32008, .inl (V 0)))], [(Z 5, .inl (cI, 32008, .inl (V 2)))], [(Z 7, .inl (cJ, 200, .inr (.inl vv)))]]) (C := RX10) (T := TX10) (N := 19) (ci := 8) [0, 4] [1, 2, 3, 5] ⟨hx, hb, hml, hown, hts⟩ hK hA hAm (c_Md_alarmed (E := lsV [E 0, E 1, E 2, .ref (Z 1), .int (nI ((a + 1) + 1)), E 5, E 6, E 7, E 8, .null, E 10, E 11, E 12, E 13, E 14, .ref (Z 7), .null, E 17, E 18]) (al := al) 2) (cwV 1 hts gX10_variableAt_X10_alarmed rfl rfl rfl (by decide +kernel) ⟨by show (0) + 1 ≤ 8 * r + 7; omega, by show 8 + (2 + 11) + (0) ≤ 320 * r + 320; omega⟩) (nn := 6) rfl (by decide) rfl rfl ⟨0, _, rfl⟩ rfl rfl rfl hl.1 (Nat.le_of_ble_eq_true rfl) dX10_variableAt_79 (by show _ + 0 ≤ 0; omega) (by show _ + 0 ≤ 0; omega) (fun v u3 k3 n3 hq3 => ?_)
        obtain ⟨rfl, hw3, rfl, rfl⟩ := hq3
        rw [hw3]
        refine jJ_open (xs := [[(Z 0, .inr (8, [E 0, E 1, E 2, .ref (Z 1), .int (nI ((a + 1) + 1)), E 5, E 6, E 7, E 8, .ref (Z 2), E 10, E 11, E 12, E 13, E 14, .ref (Z 7), .int (nI 2), E 17, E 18]))], [(Z 2, .inr (0, []))]]) (r := [[(Z 1, .inr (7, [X 0, X 1, .ref (Z 3), X 3, .ref (Z 5), X 5, X 6, X 7, X 8, X 9, X 10, X 11, X 12]))], [(Z 3, .inl (cB, 32008, .inl (V 0)))], [(Z 5, .inl (cI, 32008, .inl (V 2)))], [(Z 7, .inl (cJ, 200, .inr (.inl vv)))]]) (cs2 := [[(Z 0, .inr (8, [E 0, E 1, E 2, .ref (Z 1), .int (nI ((a + 1) + 1)), E 5, E 6, E 7, E 8, .ref (Z 2), E 10, E 11, E 12, E 13, E 14, .ref (Z 7), .int (nI 2), E 17, E 18]))], [(Z 2, .inr (0, []))], [(Z 1, .inr (7, [X 0, X 1, .ref (Z 3), X 3, .ref (Z 5), X 5, X 6, X 7, X 8, X 9, X 10, X 11, X 12]))], [(Z 3, .inl (cB, 32008, .inl (V 0)))], [(Z 5, .inl (cI, 32008, .inl (V 2)))], [(Z 7, .inl (cJ, 200, .inr (.inl vv)))]]) rfl ?_
        refine jJ_eq (g2 := F0 m 82 ls [.ref (Z 2)]) (cs2 := [[(Z 0, .inr (8, [E 0, E 1, E 2, .ref (Z 1), .int (nI ((a + 1) + 1)), E 5, E 6, E 7, E 8, .ref (Z 2), E 10, E 11, E 12, E 13, E 14, .ref (Z 7), .int (nI 2), E 17, E 18]))], [(Z 2, .inr (0, []))], [(Z 1, .inr (7, [X 0, X 1, .ref (Z 3), X 3, .ref (Z 5), X 5, X 6, X 7, X 8, X 9, X 10, X 11, X 12]))], [(Z 3, .inl (cB, 32008, .inl (V 0)))], [(Z 5, .inl (cI, 32008, .inl (V 2)))], [(Z 7, .inl (cJ, 200, .inr (.inl vv)))]]) rfl rfl ?_
        refine jJ_athrow hx hb hK 1 rfl dX10_variableAt_82 ?_
        have he : xVa tk N vs r a = (2, 0) := by show xThen (xPv tk (xBra tk N vs r) (a + 1)) xCk = _; rw [xPv_w (by omega), xThen_0]; exact xCk_n (by omega)
        exact jJx_out hno hlocks (by show _ ≤ 0; omega) (by show _ ≤ 0; omega) ⟨by rw [he]; exact (by decide : ¬ 2 = 0), ⟨_, by rw [he]; rfl⟩, rfl, rfl⟩
      · refine jJ_of (fun H locs => lv_lload_n hx hb dX10_variableAt_69 rfl (lv_at hl 0 rfl)) ?_
        refine jJ_of (fun H locs => lv_ldc2 (v := (lI 199000)) hx hb hown (by rw [show (lI 199000) = (199000 : Int64) from by decide]; exact (hts (.constantLong RX10 267 (199000)) (by decide +kernel))) dX10_variableAt_70) ?_
        refine jJ_of (fun H locs => W.lcmp hx hb dX10_variableAt_73) ?_
        refine jJ_of2 (fun H locs => jl_if_le (tgt := 83) hx hb dX10_variableAt_74 (by decide) (by omega) (by omega) (by omega) (by omega)) (fun c74 => ?_) (fun c74 => ?_)
        · refine jJ_of (fun H locs => lv_lload_n hx hb dX10_variableAt_83 rfl (lv_at hl 0 rfl)) ?_
          refine jJ_of (fun H locs => lv_ldc2 (v := (lI 1000)) hx hb hown (by rw [show (lI 1000) = (1000 : Int64) from by decide]; exact (hts (.constantLong RX10 265 (1000)) (by decide +kernel))) dX10_variableAt_84) ?_
          refine jJ_of (fun H locs => jl_ldiv hx hb dX10_variableAt_87 (by omega) (by omega) (by omega) (by omega) (by omega)) ?_
          refine jJ_of (fun H locs => jl_l2i hx hb dX10_variableAt_88) ?_
          refine jJ_perm [0, 4, 1, 2, 3, 5] (nn := 6) rfl (by decide) (cs2 := [[(Z 0, .inr (8, [E 0, E 1, E 2, .ref (Z 1), .int (nI ((a + 1) + 1)), E 5, E 6, E 7, E 8, .ref (Z 2), E 10, E 11, E 12, E 13, E 14, .ref (Z 7), .int (nI al), E 17, E 18]))], [(Z 2, .inr (0, []))], [(Z 1, .inr (7, [X 0, X 1, .ref (Z 3), X 3, .ref (Z 5), X 5, X 6, X 7, X 8, X 9, X 10, X 11, X 12]))], [(Z 3, .inl (cB, 32008, .inl (V 0)))], [(Z 5, .inl (cI, 32008, .inl (V 2)))], [(Z 7, .inl (cJ, 200, .inr (.inl vv)))]]) rfl ?_
          have heq : (qVa tk N r a).2 = (a + 1) + 1 := by exact hpl2.2
          have he : xVa tk N vs r a = (0, (Int.tdiv ((tk 2).getD (a + 1) 0 : Nat) 1000 : Int)) := by show xThen (xPv tk (xBra tk N vs r) (a + 1)) xCk = _; rw [xPv_w (by omega), xThen_0]; exact xCk_y (by omega) (by omega) (by omega)
          exact jJ_toX (jJ_iret hx hb hr hlocks dX10_variableAt_89 (by show _ ≤ 0; omega) (by show _ ≤ 0; omega) ⟨by rw [he], by rw [he], by rw [heq]; rfl, rfl, rfl⟩)
        · refine jJ_of (fun H locs => lv_aload_n hx hb dX10_variableAt_77 rfl (lv_at hl 1 rfl)) ?_
          refine jJ_of (fun H locs => lv_iconst (v := (nI 2)) hx hb dX10_variableAt_78 (by decide)) ?_
          refine jJ_callV (As := [.int (nI 2)]) (rest := []) (wc := jF (aWd Z (lsV [E 0, E 1, E 2, .ref (Z 1), .int (nI ((a + 1) + 1)), E 5, E 6, E 7, E 8, .null, E 10, E 11, E 12, E 13, E 14, .ref (Z 7), .null, E 17, E 18]) al)) (cs2 := [[(Z 1, .inr (7, [X 0, X 1, .ref (Z 3), X 3, .ref (Z 5), X 5, X 6, X 7, X 8, X 9, X 10, X 11, X 12]))], [(Z 3, .inl (cB, 32008, .inl (V 0)))], [(Z 5, .inl (cI, 32008, .inl (V 2)))], [(Z 7, .inl (cJ, 200, .inr (.inl vv)))]]) (C := RX10) (T := TX10) (N := 19) (ci := 8) [0, 4] [1, 2, 3, 5] ⟨hx, hb, hml, hown, hts⟩ hK hA hAm (c_Md_alarmed (E := lsV [E 0, E 1, E 2, .ref (Z 1), .int (nI ((a + 1) + 1)), E 5, E 6, E 7, E 8, .null, E 10, E 11, E 12, E 13, E 14, .ref (Z 7), .null, E 17, E 18]) (al := al) 2) (cwV 1 hts gX10_variableAt_X10_alarmed rfl rfl rfl (by decide +kernel) ⟨by show (0) + 1 ≤ 8 * r + 7; omega, by show 8 + (2 + 11) + (0) ≤ 320 * r + 320; omega⟩) (nn := 6) rfl (by decide) rfl rfl ⟨0, _, rfl⟩ rfl rfl rfl hl.1 (Nat.le_of_ble_eq_true rfl) dX10_variableAt_79 (by show _ + 0 ≤ 0; omega) (by show _ + 0 ≤ 0; omega) (fun v u4 k4 n4 hq4 => ?_)
          obtain ⟨rfl, hw4, rfl, rfl⟩ := hq4
          rw [hw4]
          refine jJ_open (xs := [[(Z 0, .inr (8, [E 0, E 1, E 2, .ref (Z 1), .int (nI ((a + 1) + 1)), E 5, E 6, E 7, E 8, .ref (Z 2), E 10, E 11, E 12, E 13, E 14, .ref (Z 7), .int (nI 2), E 17, E 18]))], [(Z 2, .inr (0, []))]]) (r := [[(Z 1, .inr (7, [X 0, X 1, .ref (Z 3), X 3, .ref (Z 5), X 5, X 6, X 7, X 8, X 9, X 10, X 11, X 12]))], [(Z 3, .inl (cB, 32008, .inl (V 0)))], [(Z 5, .inl (cI, 32008, .inl (V 2)))], [(Z 7, .inl (cJ, 200, .inr (.inl vv)))]]) (cs2 := [[(Z 0, .inr (8, [E 0, E 1, E 2, .ref (Z 1), .int (nI ((a + 1) + 1)), E 5, E 6, E 7, E 8, .ref (Z 2), E 10, E 11, E 12, E 13, E 14, .ref (Z 7), .int (nI 2), E 17, E 18]))], [(Z 2, .inr (0, []))], [(Z 1, .inr (7, [X 0, X 1, .ref (Z 3), X 3, .ref (Z 5), X 5, X 6, X 7, X 8, X 9, X 10, X 11, X 12]))], [(Z 3, .inl (cB, 32008, .inl (V 0)))], [(Z 5, .inl (cI, 32008, .inl (V 2)))], [(Z 7, .inl (cJ, 200, .inr (.inl vv)))]]) rfl ?_
          refine jJ_eq (g2 := F0 m 82 ls [.ref (Z 2)]) (cs2 := [[(Z 0, .inr (8, [E 0, E 1, E 2, .ref (Z 1), .int (nI ((a + 1) + 1)), E 5, E 6, E 7, E 8, .ref (Z 2), E 10, E 11, E 12, E 13, E 14, .ref (Z 7), .int (nI 2), E 17, E 18]))], [(Z 2, .inr (0, []))], [(Z 1, .inr (7, [X 0, X 1, .ref (Z 3), X 3, .ref (Z 5), X 5, X 6, X 7, X 8, X 9, X 10, X 11, X 12]))], [(Z 3, .inl (cB, 32008, .inl (V 0)))], [(Z 5, .inl (cI, 32008, .inl (V 2)))], [(Z 7, .inl (cJ, 200, .inr (.inl vv)))]]) rfl rfl ?_
          refine jJ_athrow hx hb hK 1 rfl dX10_variableAt_82 ?_
          have he : xVa tk N vs r a = (2, 0) := by show xThen (xPv tk (xBra tk N vs r) (a + 1)) xCk = _; rw [xPv_w (by omega), xThen_0]; exact xCk_n (by omega)
          exact jJx_out hno hlocks (by show _ ≤ 0; omega) (by show _ ≤ 0; omega) ⟨by rw [he]; exact (by decide : ¬ 2 = 0), ⟨_, by rw [he]; rfl⟩, rfl, rfl⟩
  · simp only [decide_eq_true_eq, decide_eq_false_iff_not] at c16
    have hpl2 : (qBra tk N r (a + 1)).1 = true ∧ qPl tk (qBra tk N r) (a + 1) = qBra tk N r (a + 1) := hpl.elim (fun h => h.2) (fun h => by omega)
    refine jJ_of (fun H locs => lv_aload_n hx hb dX10_variableAt_19 rfl (lv_at hl 0 rfl)) ?_
    have hokq5 : (qBra tk N r (a + 1)).1 = true := by exact hpl2.1
    obtain ⟨aa5, haa5⟩ : ∃ i, (qBra tk N r (a + 1)).2 = i := ⟨_, rfl⟩
    have heq5 : qBra tk N r (a + 1) = (true, aa5) := Prod.ext hokq5 haa5
    have hqb5 : (a + 1) ≤ (qBra tk N r (a + 1)).2 ∧ (qBra tk N r (a + 1)).2 + 1 ≤ (tk 0).length := qb_bra hE N r (a + 1) (by omega)
    rw [haa5] at hqb5
    obtain ⟨xa5, xv5, hxe5⟩ : ∃ i j, xBra tk N vs r (a + 1) = (i, j) := ⟨_, _, rfl⟩
    have hxv5 := xv_bra N hB2a hvs r (a + 1)
    rw [hxe5] at hxv5
    dsimp only at hxv5
    refine jX_callV (As := []) (rest := []) (wc := jF (eW cI cJ cB Z (E) (X) V vv (a + 1) al)) (cs2 := []) (C := RX10) (T := TX10) (N := 19) (ci := 8) [0, 4, 1, 2, 3, 5] [] ⟨hx, hb, hml, hown, hts⟩ hK hA hAm (hBr (a + 1) al (by omega) hokq5) (cwV 0 hts gX10_variableAt_X10_bracketed rfl rfl rfl (by decide +kernel) ⟨by show (8 * r + 6) + 1 ≤ 8 * r + 7; omega, by show 8 + (3 + 11) + (320 * r + 280) ≤ 320 * r + 320; omega⟩) (nn := 6) rfl (by decide) rfl rfl ⟨0, _, rfl⟩ rfl rfl rfl hl.1 (Nat.le_of_ble_eq_true rfl) dX10_variableAt_20 (by show _ + 0 ≤ 0; omega) (by show _ + 0 ≤ 0; omega) (fun u5 k5 n5 q5 hx5 => ?_) (fun v u5 k5 n5 hq5 => ?_)
    · rw [hxe5] at hx5
      dsimp only at hx5
      obtain ⟨hnz5, ⟨a2_5, hu5⟩, rfl, rfl⟩ := hx5
      rw [hu5]
      have he : xVa tk N vs r a = (xa5, xv5) := by show xThen (xPv tk (xBra tk N vs r) (a + 1)) xCk = _; rw [xPv_b (by omega), hxe5]; exact xThen_n hnz5 _
      exact jJx_out hno hlocks (by show _ ≤ 0; omega) (by show _ ≤ 0; omega) ⟨by rw [he]; assumption, ⟨_, by rw [he]; rfl⟩, rfl, rfl⟩
    rw [hxe5, haa5] at hq5
    dsimp only at hq5
    obtain ⟨hz5, rfl, hw5, rfl, rfl⟩ := hq5
    subst hz5
    rw [hw5]
    have hvo5 := hxv5 rfl
    have hvo5b := hvo5
    unfold vOK at hvo5b
    refine jJ_open (xs := [[(Z 0, .inr (8, [E 0, E 1, E 2, .ref (Z 1), .int (nI aa5), E 5, E 6, E 7, E 8, .ref (Z 2), E 10, E 11, E 12, E 13, E 14, .ref (Z 7), .int (nI al), E 17, E 18]))], [(Z 2, .inr (0, []))], [(Z 1, .inr (7, [X 0, X 1, .ref (Z 3), X 3, .ref (Z 5), X 5, X 6, X 7, X 8, X 9, X 10, X 11, X 12]))], [(Z 3, .inl (cB, 32008, .inl (V 0)))], [(Z 5, .inl (cI, 32008, .inl (V 2)))], [(Z 7, .inl (cJ, 200, .inr (.inl vv)))]]) (r := []) (cs2 := [[(Z 0, .inr (8, [E 0, E 1, E 2, .ref (Z 1), .int (nI aa5), E 5, E 6, E 7, E 8, .ref (Z 2), E 10, E 11, E 12, E 13, E 14, .ref (Z 7), .int (nI al), E 17, E 18]))], [(Z 2, .inr (0, []))], [(Z 1, .inr (7, [X 0, X 1, .ref (Z 3), X 3, .ref (Z 5), X 5, X 6, X 7, X 8, X 9, X 10, X 11, X 12]))], [(Z 3, .inl (cB, 32008, .inl (V 0)))], [(Z 5, .inl (cI, 32008, .inl (V 2)))], [(Z 7, .inl (cJ, 200, .inr (.inl vv)))]]) rfl ?_
    refine jJ_eq (g2 := F0 m 23 ls [.long (lI xv5)]) (cs2 := [[(Z 0, .inr (8, [E 0, E 1, E 2, .ref (Z 1), .int (nI aa5), E 5, E 6, E 7, E 8, .ref (Z 2), E 10, E 11, E 12, E 13, E 14, .ref (Z 7), .int (nI al), E 17, E 18]))], [(Z 2, .inr (0, []))], [(Z 1, .inr (7, [X 0, X 1, .ref (Z 3), X 3, .ref (Z 5), X 5, X 6, X 7, X 8, X 9, X 10, X 11, X 12]))], [(Z 3, .inl (cB, 32008, .inl (V 0)))], [(Z 5, .inl (cI, 32008, .inl (V 2)))], [(Z 7, .inl (cJ, 200, .inr (.inl vv)))]]) rfl rfl ?_
    refine jJ_ofL (fun H locs => lv_lstore_n (lv' := [(1, .long (lI xv5)), (0, .ref (Z 0))]) hx hb dX10_variableAt_23 rfl hl (by decide) rfl) (fun ls hl => ?_)
    refine jJ_of (fun H locs => lv_goto (tgt := 51) hx hb dX10_variableAt_24 (by decide)) ?_
    have htm := Int.tmod_add_mul_tdiv (xv5 : Int) 1000
    have htn : (Int.tmod (xv5 : Int) 1000).natAbs ≤ (xv5 : Int).natAbs := by rw [Int.natAbs_tmod]; exact Nat.mod_le _ _
    refine jJ_of (fun H locs => lv_lload_n hx hb dX10_variableAt_51 rfl (lv_at hl 0 rfl)) ?_
    refine jJ_of (fun H locs => lv_ldc2 (v := (lI 1000)) hx hb hown (by rw [show (lI 1000) = (1000 : Int64) from by decide]; exact (hts (.constantLong RX10 265 (1000)) (by decide +kernel))) dX10_variableAt_52) ?_
    refine jJ_of (fun H locs => jl_lrem hx hb dX10_variableAt_55 (by omega) (by omega) (by omega) (by omega) (by omega)) ?_
    refine jJ_of (fun H locs => jn_lconst (v := 0) hx hb dX10_variableAt_56 rfl) ?_
    refine jJ_of (fun H locs => W.lcmp hx hb dX10_variableAt_57) ?_
    refine jJ_of2 (fun H locs => jl_if_ne (tgt := 77) hx hb dX10_variableAt_58 (by decide) (by omega) (by omega) (by omega) (by omega)) (fun c58 => ?_) (fun c58 => ?_)
    · refine jJ_of (fun H locs => lv_aload_n hx hb dX10_variableAt_77 rfl (lv_at hl 1 rfl)) ?_
      refine jJ_of (fun H locs => lv_iconst (v := (nI 2)) hx hb dX10_variableAt_78 (by decide)) ?_
      refine jJ_callV (As := [.int (nI 2)]) (rest := []) (wc := jF (aWd Z (lsV [E 0, E 1, E 2, .ref (Z 1), .int (nI aa5), E 5, E 6, E 7, E 8, .null, E 10, E 11, E 12, E 13, E 14, .ref (Z 7), .null, E 17, E 18]) al)) (cs2 := [[(Z 1, .inr (7, [X 0, X 1, .ref (Z 3), X 3, .ref (Z 5), X 5, X 6, X 7, X 8, X 9, X 10, X 11, X 12]))], [(Z 3, .inl (cB, 32008, .inl (V 0)))], [(Z 5, .inl (cI, 32008, .inl (V 2)))], [(Z 7, .inl (cJ, 200, .inr (.inl vv)))]]) (C := RX10) (T := TX10) (N := 19) (ci := 8) [0, 1] [2, 3, 4, 5] ⟨hx, hb, hml, hown, hts⟩ hK hA hAm (c_Md_alarmed (E := lsV [E 0, E 1, E 2, .ref (Z 1), .int (nI aa5), E 5, E 6, E 7, E 8, .null, E 10, E 11, E 12, E 13, E 14, .ref (Z 7), .null, E 17, E 18]) (al := al) 2) (cwV 1 hts gX10_variableAt_X10_alarmed rfl rfl rfl (by decide +kernel) ⟨by show (0) + 1 ≤ 8 * r + 7; omega, by show 8 + (2 + 11) + (0) ≤ 320 * r + 320; omega⟩) (nn := 6) rfl (by decide) rfl rfl ⟨0, _, rfl⟩ rfl rfl rfl hl.1 (Nat.le_of_ble_eq_true rfl) dX10_variableAt_79 (by show _ + 0 ≤ 0; omega) (by show _ + 0 ≤ 0; omega) (fun v u6 k6 n6 hq6 => ?_)
      obtain ⟨rfl, hw6, rfl, rfl⟩ := hq6
      rw [hw6]
      refine jJ_open (xs := [[(Z 0, .inr (8, [E 0, E 1, E 2, .ref (Z 1), .int (nI aa5), E 5, E 6, E 7, E 8, .ref (Z 2), E 10, E 11, E 12, E 13, E 14, .ref (Z 7), .int (nI 2), E 17, E 18]))], [(Z 2, .inr (0, []))]]) (r := [[(Z 1, .inr (7, [X 0, X 1, .ref (Z 3), X 3, .ref (Z 5), X 5, X 6, X 7, X 8, X 9, X 10, X 11, X 12]))], [(Z 3, .inl (cB, 32008, .inl (V 0)))], [(Z 5, .inl (cI, 32008, .inl (V 2)))], [(Z 7, .inl (cJ, 200, .inr (.inl vv)))]]) (cs2 := [[(Z 0, .inr (8, [E 0, E 1, E 2, .ref (Z 1), .int (nI aa5), E 5, E 6, E 7, E 8, .ref (Z 2), E 10, E 11, E 12, E 13, E 14, .ref (Z 7), .int (nI 2), E 17, E 18]))], [(Z 2, .inr (0, []))], [(Z 1, .inr (7, [X 0, X 1, .ref (Z 3), X 3, .ref (Z 5), X 5, X 6, X 7, X 8, X 9, X 10, X 11, X 12]))], [(Z 3, .inl (cB, 32008, .inl (V 0)))], [(Z 5, .inl (cI, 32008, .inl (V 2)))], [(Z 7, .inl (cJ, 200, .inr (.inl vv)))]]) rfl ?_
      refine jJ_eq (g2 := F0 m 82 ls [.ref (Z 2)]) (cs2 := [[(Z 0, .inr (8, [E 0, E 1, E 2, .ref (Z 1), .int (nI aa5), E 5, E 6, E 7, E 8, .ref (Z 2), E 10, E 11, E 12, E 13, E 14, .ref (Z 7), .int (nI 2), E 17, E 18]))], [(Z 2, .inr (0, []))], [(Z 1, .inr (7, [X 0, X 1, .ref (Z 3), X 3, .ref (Z 5), X 5, X 6, X 7, X 8, X 9, X 10, X 11, X 12]))], [(Z 3, .inl (cB, 32008, .inl (V 0)))], [(Z 5, .inl (cI, 32008, .inl (V 2)))], [(Z 7, .inl (cJ, 200, .inr (.inl vv)))]]) rfl rfl ?_
      refine jJ_athrow hx hb hK 1 rfl dX10_variableAt_82 ?_
      have he : xVa tk N vs r a = (2, 0) := by show xThen (xPv tk (xBra tk N vs r) (a + 1)) xCk = _; rw [xPv_b (by omega), hxe5, xThen_0]; exact xCk_n (by omega)
      exact jJx_out hno hlocks (by show _ ≤ 0; omega) (by show _ ≤ 0; omega) ⟨by rw [he]; exact (by decide : ¬ 2 = 0), ⟨_, by rw [he]; rfl⟩, rfl, rfl⟩
    · refine jJ_of (fun H locs => lv_lload_n hx hb dX10_variableAt_61 rfl (lv_at hl 0 rfl)) ?_
      refine jJ_of (fun H locs => lv_ldc2 (v := (lI 1000)) hx hb hown (by rw [show (lI 1000) = (1000 : Int64) from by decide]; exact (hts (.constantLong RX10 265 (1000)) (by decide +kernel))) dX10_variableAt_62) ?_
      refine jJ_of (fun H locs => W.lcmp hx hb dX10_variableAt_65) ?_
      refine jJ_of2 (fun H locs => jl_if_lt (tgt := 77) hx hb dX10_variableAt_66 (by decide) (by omega) (by omega) (by omega) (by omega)) (fun c66 => ?_) (fun c66 => ?_)
      · refine jJ_of (fun H locs => lv_aload_n hx hb dX10_variableAt_77 rfl (lv_at hl 1 rfl)) ?_
        refine jJ_of (fun H locs => lv_iconst (v := (nI 2)) hx hb dX10_variableAt_78 (by decide)) ?_
        refine jJ_callV (As := [.int (nI 2)]) (rest := []) (wc := jF (aWd Z (lsV [E 0, E 1, E 2, .ref (Z 1), .int (nI aa5), E 5, E 6, E 7, E 8, .null, E 10, E 11, E 12, E 13, E 14, .ref (Z 7), .null, E 17, E 18]) al)) (cs2 := [[(Z 1, .inr (7, [X 0, X 1, .ref (Z 3), X 3, .ref (Z 5), X 5, X 6, X 7, X 8, X 9, X 10, X 11, X 12]))], [(Z 3, .inl (cB, 32008, .inl (V 0)))], [(Z 5, .inl (cI, 32008, .inl (V 2)))], [(Z 7, .inl (cJ, 200, .inr (.inl vv)))]]) (C := RX10) (T := TX10) (N := 19) (ci := 8) [0, 1] [2, 3, 4, 5] ⟨hx, hb, hml, hown, hts⟩ hK hA hAm (c_Md_alarmed (E := lsV [E 0, E 1, E 2, .ref (Z 1), .int (nI aa5), E 5, E 6, E 7, E 8, .null, E 10, E 11, E 12, E 13, E 14, .ref (Z 7), .null, E 17, E 18]) (al := al) 2) (cwV 1 hts gX10_variableAt_X10_alarmed rfl rfl rfl (by decide +kernel) ⟨by show (0) + 1 ≤ 8 * r + 7; omega, by show 8 + (2 + 11) + (0) ≤ 320 * r + 320; omega⟩) (nn := 6) rfl (by decide) rfl rfl ⟨0, _, rfl⟩ rfl rfl rfl hl.1 (Nat.le_of_ble_eq_true rfl) dX10_variableAt_79 (by show _ + 0 ≤ 0; omega) (by show _ + 0 ≤ 0; omega) (fun v u7 k7 n7 hq7 => ?_)
        obtain ⟨rfl, hw7, rfl, rfl⟩ := hq7
        rw [hw7]
        refine jJ_open (xs := [[(Z 0, .inr (8, [E 0, E 1, E 2, .ref (Z 1), .int (nI aa5), E 5, E 6, E 7, E 8, .ref (Z 2), E 10, E 11, E 12, E 13, E 14, .ref (Z 7), .int (nI 2), E 17, E 18]))], [(Z 2, .inr (0, []))]]) (r := [[(Z 1, .inr (7, [X 0, X 1, .ref (Z 3), X 3, .ref (Z 5), X 5, X 6, X 7, X 8, X 9, X 10, X 11, X 12]))], [(Z 3, .inl (cB, 32008, .inl (V 0)))], [(Z 5, .inl (cI, 32008, .inl (V 2)))], [(Z 7, .inl (cJ, 200, .inr (.inl vv)))]]) (cs2 := [[(Z 0, .inr (8, [E 0, E 1, E 2, .ref (Z 1), .int (nI aa5), E 5, E 6, E 7, E 8, .ref (Z 2), E 10, E 11, E 12, E 13, E 14, .ref (Z 7), .int (nI 2), E 17, E 18]))], [(Z 2, .inr (0, []))], [(Z 1, .inr (7, [X 0, X 1, .ref (Z 3), X 3, .ref (Z 5), X 5, X 6, X 7, X 8, X 9, X 10, X 11, X 12]))], [(Z 3, .inl (cB, 32008, .inl (V 0)))], [(Z 5, .inl (cI, 32008, .inl (V 2)))], [(Z 7, .inl (cJ, 200, .inr (.inl vv)))]]) rfl ?_
        refine jJ_eq (g2 := F0 m 82 ls [.ref (Z 2)]) (cs2 := [[(Z 0, .inr (8, [E 0, E 1, E 2, .ref (Z 1), .int (nI aa5), E 5, E 6, E 7, E 8, .ref (Z 2), E 10, E 11, E 12, E 13, E 14, .ref (Z 7), .int (nI 2), E 17, E 18]))], [(Z 2, .inr (0, []))], [(Z 1, .inr (7, [X 0, X 1, .ref (Z 3), X 3, .ref (Z 5), X 5, X 6, X 7, X 8, X 9, X 10, X 11, X 12]))], [(Z 3, .inl (cB, 32008, .inl (V 0)))], [(Z 5, .inl (cI, 32008, .inl (V 2)))], [(Z 7, .inl (cJ, 200, .inr (.inl vv)))]]) rfl rfl ?_
        refine jJ_athrow hx hb hK 1 rfl dX10_variableAt_82 ?_
        have he : xVa tk N vs r a = (2, 0) := by show xThen (xPv tk (xBra tk N vs r) (a + 1)) xCk = _; rw [xPv_b (by omega), hxe5, xThen_0]; exact xCk_n (by omega)
        exact jJx_out hno hlocks (by show _ ≤ 0; omega) (by show _ ≤ 0; omega) ⟨by rw [he]; exact (by decide : ¬ 2 = 0), ⟨_, by rw [he]; rfl⟩, rfl, rfl⟩
      · refine jJ_of (fun H locs => lv_lload_n hx hb dX10_variableAt_69 rfl (lv_at hl 0 rfl)) ?_
        refine jJ_of (fun H locs => lv_ldc2 (v := (lI 199000)) hx hb hown (by rw [show (lI 199000) = (199000 : Int64) from by decide]; exact (hts (.constantLong RX10 267 (199000)) (by decide +kernel))) dX10_variableAt_70) ?_
        refine jJ_of (fun H locs => W.lcmp hx hb dX10_variableAt_73) ?_
        refine jJ_of2 (fun H locs => jl_if_le (tgt := 83) hx hb dX10_variableAt_74 (by decide) (by omega) (by omega) (by omega) (by omega)) (fun c74 => ?_) (fun c74 => ?_)
        · refine jJ_of (fun H locs => lv_lload_n hx hb dX10_variableAt_83 rfl (lv_at hl 0 rfl)) ?_
          refine jJ_of (fun H locs => lv_ldc2 (v := (lI 1000)) hx hb hown (by rw [show (lI 1000) = (1000 : Int64) from by decide]; exact (hts (.constantLong RX10 265 (1000)) (by decide +kernel))) dX10_variableAt_84) ?_
          refine jJ_of (fun H locs => jl_ldiv hx hb dX10_variableAt_87 (by omega) (by omega) (by omega) (by omega) (by omega)) ?_
          refine jJ_of (fun H locs => jl_l2i hx hb dX10_variableAt_88) ?_
          have heq : (qVa tk N r a).2 = aa5 := by show (qPl tk (qBra tk N r) (a + 1)).2 = _; rw [hpl2.2, heq5]
          have he : xVa tk N vs r a = (0, (Int.tdiv xv5 1000 : Int)) := by show xThen (xPv tk (xBra tk N vs r) (a + 1)) xCk = _; rw [xPv_b (by omega), hxe5, xThen_0]; exact xCk_y (by omega) (by omega) (by omega)
          exact jJ_toX (jJ_iret hx hb hr hlocks dX10_variableAt_89 (by show _ ≤ 0; omega) (by show _ ≤ 0; omega) ⟨by rw [he], by rw [he], by rw [heq]; rfl, rfl, rfl⟩)
        · refine jJ_of (fun H locs => lv_aload_n hx hb dX10_variableAt_77 rfl (lv_at hl 1 rfl)) ?_
          refine jJ_of (fun H locs => lv_iconst (v := (nI 2)) hx hb dX10_variableAt_78 (by decide)) ?_
          refine jJ_callV (As := [.int (nI 2)]) (rest := []) (wc := jF (aWd Z (lsV [E 0, E 1, E 2, .ref (Z 1), .int (nI aa5), E 5, E 6, E 7, E 8, .null, E 10, E 11, E 12, E 13, E 14, .ref (Z 7), .null, E 17, E 18]) al)) (cs2 := [[(Z 1, .inr (7, [X 0, X 1, .ref (Z 3), X 3, .ref (Z 5), X 5, X 6, X 7, X 8, X 9, X 10, X 11, X 12]))], [(Z 3, .inl (cB, 32008, .inl (V 0)))], [(Z 5, .inl (cI, 32008, .inl (V 2)))], [(Z 7, .inl (cJ, 200, .inr (.inl vv)))]]) (C := RX10) (T := TX10) (N := 19) (ci := 8) [0, 1] [2, 3, 4, 5] ⟨hx, hb, hml, hown, hts⟩ hK hA hAm (c_Md_alarmed (E := lsV [E 0, E 1, E 2, .ref (Z 1), .int (nI aa5), E 5, E 6, E 7, E 8, .null, E 10, E 11, E 12, E 13, E 14, .ref (Z 7), .null, E 17, E 18]) (al := al) 2) (cwV 1 hts gX10_variableAt_X10_alarmed rfl rfl rfl (by decide +kernel) ⟨by show (0) + 1 ≤ 8 * r + 7; omega, by show 8 + (2 + 11) + (0) ≤ 320 * r + 320; omega⟩) (nn := 6) rfl (by decide) rfl rfl ⟨0, _, rfl⟩ rfl rfl rfl hl.1 (Nat.le_of_ble_eq_true rfl) dX10_variableAt_79 (by show _ + 0 ≤ 0; omega) (by show _ + 0 ≤ 0; omega) (fun v u8 k8 n8 hq8 => ?_)
          obtain ⟨rfl, hw8, rfl, rfl⟩ := hq8
          rw [hw8]
          refine jJ_open (xs := [[(Z 0, .inr (8, [E 0, E 1, E 2, .ref (Z 1), .int (nI aa5), E 5, E 6, E 7, E 8, .ref (Z 2), E 10, E 11, E 12, E 13, E 14, .ref (Z 7), .int (nI 2), E 17, E 18]))], [(Z 2, .inr (0, []))]]) (r := [[(Z 1, .inr (7, [X 0, X 1, .ref (Z 3), X 3, .ref (Z 5), X 5, X 6, X 7, X 8, X 9, X 10, X 11, X 12]))], [(Z 3, .inl (cB, 32008, .inl (V 0)))], [(Z 5, .inl (cI, 32008, .inl (V 2)))], [(Z 7, .inl (cJ, 200, .inr (.inl vv)))]]) (cs2 := [[(Z 0, .inr (8, [E 0, E 1, E 2, .ref (Z 1), .int (nI aa5), E 5, E 6, E 7, E 8, .ref (Z 2), E 10, E 11, E 12, E 13, E 14, .ref (Z 7), .int (nI 2), E 17, E 18]))], [(Z 2, .inr (0, []))], [(Z 1, .inr (7, [X 0, X 1, .ref (Z 3), X 3, .ref (Z 5), X 5, X 6, X 7, X 8, X 9, X 10, X 11, X 12]))], [(Z 3, .inl (cB, 32008, .inl (V 0)))], [(Z 5, .inl (cI, 32008, .inl (V 2)))], [(Z 7, .inl (cJ, 200, .inr (.inl vv)))]]) rfl ?_
          refine jJ_eq (g2 := F0 m 82 ls [.ref (Z 2)]) (cs2 := [[(Z 0, .inr (8, [E 0, E 1, E 2, .ref (Z 1), .int (nI aa5), E 5, E 6, E 7, E 8, .ref (Z 2), E 10, E 11, E 12, E 13, E 14, .ref (Z 7), .int (nI 2), E 17, E 18]))], [(Z 2, .inr (0, []))], [(Z 1, .inr (7, [X 0, X 1, .ref (Z 3), X 3, .ref (Z 5), X 5, X 6, X 7, X 8, X 9, X 10, X 11, X 12]))], [(Z 3, .inl (cB, 32008, .inl (V 0)))], [(Z 5, .inl (cI, 32008, .inl (V 2)))], [(Z 7, .inl (cJ, 200, .inr (.inl vv)))]]) rfl rfl ?_
          refine jJ_athrow hx hb hK 1 rfl dX10_variableAt_82 ?_
          have he : xVa tk N vs r a = (2, 0) := by show xThen (xPv tk (xBra tk N vs r) (a + 1)) xCk = _; rw [xPv_b (by omega), hxe5, xThen_0]; exact xCk_n (by omega)
          exact jJx_out hno hlocks (by show _ ≤ 0; omega) (by show _ ≤ 0; omega) ⟨by rw [he]; exact (by decide : ¬ 2 = 0), ⟨_, by rw [he]; rfl⟩, rfl, rfl⟩
def qIt (tk : Nat → List Nat) (N r a : Nat) : Bool × Nat := qItm tk N r a
def xIt (tk : Nat → List Nat) (N : Nat) (vs : Nat → Int) (r a : Nat) : Nat × Int := if (tk 0).getD a 0 = 35 then xThen (xVa tk N vs r a) (fun n => (0, vs n.toNat)) else if (tk 0).getD a 0 = 91 then xBra tk N vs r a else (0, ((tk 2).getD a 0 : Int))
theorem qItm_p {tk : Nat → List Nat} {N r a : Nat} (h : (tk 0).getD a 0 = 35) : qItm tk N r a = qVa tk N r a := by
  unfold qItm; rw [if_neg (by omega), if_pos h]; rfl
theorem qItm_b {tk : Nat → List Nat} {N r a : Nat} (h : (tk 0).getD a 0 = 91) : qItm tk N r a = qBra tk N r a := by
  unfold qItm; rw [if_neg (by omega), if_neg (by omega)]
theorem qItm_w {tk : Nat → List Nat} {N r a : Nat} (h : (qItm tk N r a).1 = true) (h1 : ¬ (tk 0).getD a 0 = 35) (h2 : ¬ (tk 0).getD a 0 = 91) : ((tk 0).getD a 0 = 256 ∨ (tk 0).getD a 0 = 257) ∧ (qItm tk N r a).2 = a + 1 := by
  unfold qItm at h ⊢
  by_cases q : (tk 0).getD a 0 = 256 ∨ (tk 0).getD a 0 = 257
  · exact ⟨q, by rw [if_pos q]⟩
  · rw [if_neg q, if_neg h1, qBra_no h2] at h
    exact (Bool.false_ne_true h).elim
theorem qVa_ok {tk : Nat → List Nat} {N r a : Nat} (hE : tE tk) (h : (qVa tk N r a).1 = true) : a + 1 + 1 ≤ (tk 0).length := by
  rcases qPl_ok h with q | q
  · have := hE.lt (a := a + 1) (by omega) (by omega); omega
  · have := hE.lt (a := a + 1) (by omega) (by omega); omega
theorem qb_va {tk : Nat → List Nat} (hE : tE tk) (N r : Nat) {a : Nat} (h : a + 1 + 1 ≤ (tk 0).length) : a ≤ (qVa tk N r a).2 ∧ (qVa tk N r a).2 + 1 ≤ (tk 0).length := by
  have h9 := qb_pl hE (qb_bra hE N r) (a + 1) h
  exact ⟨Nat.le_trans (Nat.le_succ a) h9.1, h9.2⟩
theorem xVa_b {tk : Nat → List Nat} {N : Nat} {vs : Nat → Int} {r a : Nat} (h : (xVa tk N vs r a).1 = 0) : 1 ≤ (xVa tk N vs r a).2 ∧ (xVa tk N vs r a).2 ≤ 199 := by
  unfold xVa xPn xThen at h ⊢
  split at h
  · rename_i q
    rw [if_pos q]
    unfold xCk at h ⊢
    split at h
    · rename_i q2
      rw [if_pos q2]
      exact of_decide_eq_true q2.2
    · exact absurd h (by decide)
  · rename_i q; exact absurd h q
/-- variableAt is asked for at a # only -/
def cEv9 (D : va_G) (G : Nat → Nat) (cI cJ cB cZ : ClassId) (l : Launch) (fr lo : Nat) (Z : Nat → Nat) (E X : Nat → Value) (V : Nat → Nat → Int32) (vv : Nat → Int64) (tk : Nat → List Nat) (q : Nat → Bool × Nat) (x : Nat → Nat × Int) : Prop :=
  ∀ (a al : Nat), a + 1 ≤ (tk 0).length → (q a).1 = true → (tk 0).getD a 0 = 35 → HX l yX10_variableAt wsX10_variableAt ({ frames := fr, cells := 0, slots := 0, locals := lo } : Room) D G (jT cI cJ cB cZ) [.ref (Z 0)] (jF (eW cI cJ cB Z E X V vv a al)) (fun v u k n => (x a).1 = 0 ∧ v = some (.int (iI (x a).2)) ∧ u = jF (eW cI cJ cB Z E X V vv (q a).2 al) ∧ k = 0 ∧ n = 0) (fun u k n => ¬ (x a).1 = 0 ∧ (∃ a2 : Nat, u = jF (eW cI cJ cB Z E X V vv a2 (x a).1)) ∧ k = 0 ∧ n = 0)
theorem uX10_in_X10_item : ∀ w ∈ u_ws RX10 TX10 19, w ∈ wsX10_item := by decide +kernel
theorem uX9_in_X10_item : ∀ w ∈ u_ws RX9 TX9 13, w ∈ wsX10_item := by decide +kernel
set_option maxHeartbeats 4000000 in
set_option maxRecDepth 100000 in
/-- item() -/
theorem c_Md_item {Z : Nat → Nat} {E X : Nat → Value} {V : Nat → Nat → Int32} {vv : Nat → Int64} {tk : Nat → List Nat} {vs : Nat → Int} {a al : Nat} {N r : Nat} (hT : tV tk V) (hE : tE tk) (hvv : ∀ i, i < 200 → vv i = lI (vs i)) (hvs : ∀ i, i < 200 → vOK (vs i)) (ha : a + 1 ≤ (tk 0).length) (hok : (qItm tk N r a).1 = true) (hBr : cEv D G cI cJ cB cZ l yX10_bracketed wsX10_bracketed (8 * r + 6) (320 * r + 280) Z E X V vv tk (fun z => .long (lI z)) (qBra tk N r) (xBra tk N vs r)) (hVa : cEv9 D G cI cJ cB cZ l (8 * r + 7) (320 * r + 320) Z E X V vv tk (qVa tk N r) (xVa tk N vs r)) : HX l yX10_item wsX10_item ({ frames := 8 * r + 8, cells := 0, slots := 0, locals := 320 * r + 360 } : Room) D G (jT cI cJ cB cZ) [.ref (Z 0)] (jF (eW cI cJ cB Z E X V vv a al)) (fun v u k n => (xIt tk N vs r a).1 = 0 ∧ v = some (.long (lI (xIt tk N vs r a).2)) ∧ u = jF (eW cI cJ cB Z E X V vv (qItm tk N r a).2 al) ∧ k = 0 ∧ n = 0) (fun u k n => ¬ (xIt tk N vs r a).1 = 0 ∧ (∃ a2 : Nat, u = jF (eW cI cJ cB Z E X V vv a2 (xIt tk N vs r a).1)) ∧ k = 0 ∧ n = 0) := by
  refine HX_of (cc := cX10_item) (maxL := 1) (ret := (some .long)) (lv := [(0, .ref (Z 0))]) (by decide) rfl rfl (Nat.le_of_ble_eq_true rfl) (fun p e s m args below meth c A0 ls hx hb hr hts hown hlocks hml hno hK hA hAm hl => ?_)
  refine jJ_open (xs := [[(Z 0, .inr (8, [E 0, E 1, E 2, .ref (Z 1), .int (nI a), E 5, E 6, E 7, E 8, .ref (Z 2), E 10, E 11, E 12, E 13, E 14, .ref (Z 7), .int (nI al), E 17, E 18]))], [(Z 2, .inr (0, []))], [(Z 1, .inr (7, [X 0, X 1, .ref (Z 3), X 3, .ref (Z 5), X 5, X 6, X 7, X 8, X 9, X 10, X 11, X 12]))], [(Z 3, .inl (cB, 32008, .inl (V 0)))], [(Z 5, .inl (cI, 32008, .inl (V 2)))], [(Z 7, .inl (cJ, 200, .inr (.inl vv)))]]) (r := []) (cs2 := [[(Z 0, .inr (8, [E 0, E 1, E 2, .ref (Z 1), .int (nI a), E 5, E 6, E 7, E 8, .ref (Z 2), E 10, E 11, E 12, E 13, E 14, .ref (Z 7), .int (nI al), E 17, E 18]))], [(Z 2, .inr (0, []))], [(Z 1, .inr (7, [X 0, X 1, .ref (Z 3), X 3, .ref (Z 5), X 5, X 6, X 7, X 8, X 9, X 10, X 11, X 12]))], [(Z 3, .inl (cB, 32008, .inl (V 0)))], [(Z 5, .inl (cI, 32008, .inl (V 2)))], [(Z 7, .inl (cJ, 200, .inr (.inl vv)))]]) rfl ?_
  have hL9 := hT.1
  obtain ⟨hV0, hV1, hV2, hV3⟩ := hT.2.1 a (by omega)
  obtain ⟨hB0, hB1, hB2⟩ := hT.2.2 a
  have hkc := kC_le ((tk 0).getD a 0)
  have hkw := kW_le hB0 hB2
  have hk1 := kC1 (c := (tk 0).getD a 0)
  have hk3 := kC3w (c := (tk 0).getD a 0) (w := (tk 2).getD a 0)
  have hB2a := fun i => (hT.2.2 i).2.2
  have hL8 := hE.lt (a := a)
  have hkw2 := hB2a a
  refine jJ_of (fun H locs => lv_aload_n hx hb dX10_item_0 rfl (lv_at hl 0 rfl)) ?_
  refine jJ_of (fun H locs => lv_bipush (v := (nI 35)) hx hb dX10_item_1 (by decide)) ?_
  refine jJ_callV (As := [.int (nI 35)]) (rest := []) (wc := jF (kWd cI cB Z (lsV [E 0, E 1, E 2, .null, .null, E 5, E 6, E 7, E 8, .ref (Z 2), E 10, E 11, E 12, E 13, E 14, .ref (Z 7), .int (nI al), E 17, E 18]) (lsV [X 0, X 1, .null, X 3, .null, X 5, X 6, X 7, X 8, X 9, X 10, X 11, X 12]) V a)) (cs2 := [[(Z 2, .inr (0, []))], [(Z 7, .inl (cJ, 200, .inr (.inl vv)))]]) (C := RX10) (T := TX10) (N := 19) (ci := 8) [0, 2, 3, 4] [1, 5] ⟨hx, hb, hml, hown, hts⟩ hK hA hAm (c_Md_isSign (E := lsV [E 0, E 1, E 2, .null, .null, E 5, E 6, E 7, E 8, .ref (Z 2), E 10, E 11, E 12, E 13, E 14, .ref (Z 7), .int (nI al), E 17, E 18]) (X := lsV [X 0, X 1, .null, X 3, .null, X 5, X 6, X 7, X 8, X 9, X 10, X 11, X 12]) (a := a) hT (by omega) 35 (by decide)) (cwV 1 hts gX10_item_X10_isSign rfl rfl rfl (by decide +kernel) ⟨by show (1) + 1 ≤ 8 * r + 8; omega, by show 8 + (2 + 11) + (40) ≤ 320 * r + 360; omega⟩) (nn := 6) rfl (by decide) rfl rfl ⟨0, _, rfl⟩ rfl rfl rfl hl.1 (Nat.le_of_ble_eq_true rfl) dX10_item_3 (by show _ + 0 ≤ 0; omega) (by show _ + 0 ≤ 0; omega) (fun v u1 k1 n1 hq1 => ?_)
  obtain ⟨rfl, hw1, rfl, rfl⟩ := hq1
  rw [hw1]
  refine jJ_open (xs := [[(Z 0, .inr (8, [E 0, E 1, E 2, .ref (Z 1), .int (nI a), E 5, E 6, E 7, E 8, .ref (Z 2), E 10, E 11, E 12, E 13, E 14, .ref (Z 7), .int (nI al), E 17, E 18]))], [(Z 1, .inr (7, [X 0, X 1, .ref (Z 3), X 3, .ref (Z 5), X 5, X 6, X 7, X 8, X 9, X 10, X 11, X 12]))], [(Z 3, .inl (cB, 32008, .inl (V 0)))], [(Z 5, .inl (cI, 32008, .inl (V 2)))]]) (r := [[(Z 2, .inr (0, []))], [(Z 7, .inl (cJ, 200, .inr (.inl vv)))]]) (cs2 := [[(Z 0, .inr (8, [E 0, E 1, E 2, .ref (Z 1), .int (nI a), E 5, E 6, E 7, E 8, .ref (Z 2), E 10, E 11, E 12, E 13, E 14, .ref (Z 7), .int (nI al), E 17, E 18]))], [(Z 1, .inr (7, [X 0, X 1, .ref (Z 3), X 3, .ref (Z 5), X 5, X 6, X 7, X 8, X 9, X 10, X 11, X 12]))], [(Z 3, .inl (cB, 32008, .inl (V 0)))], [(Z 5, .inl (cI, 32008, .inl (V 2)))], [(Z 2, .inr (0, []))], [(Z 7, .inl (cJ, 200, .inr (.inl vv)))]]) rfl ?_
  refine jJ_eq (g2 := F0 m 6 ls [.int (bI (decide ((tk 0).getD a 0 = 35)))]) (cs2 := [[(Z 0, .inr (8, [E 0, E 1, E 2, .ref (Z 1), .int (nI a), E 5, E 6, E 7, E 8, .ref (Z 2), E 10, E 11, E 12, E 13, E 14, .ref (Z 7), .int (nI al), E 17, E 18]))], [(Z 1, .inr (7, [X 0, X 1, .ref (Z 3), X 3, .ref (Z 5), X 5, X 6, X 7, X 8, X 9, X 10, X 11, X 12]))], [(Z 3, .inl (cB, 32008, .inl (V 0)))], [(Z 5, .inl (cI, 32008, .inl (V 2)))], [(Z 2, .inr (0, []))], [(Z 7, .inl (cJ, 200, .inr (.inl vv)))]]) rfl rfl ?_
  refine jJ_of2 (fun H locs => jb_if_eq (tgt := 19) hx hb dX10_item_6 (by decide)) (fun c6 => ?_) (fun c6 => ?_)
  · simp only [decide_eq_true_eq, decide_eq_false_iff_not] at c6
    refine jJ_of (fun H locs => lv_aload_n hx hb dX10_item_19 rfl (lv_at hl 0 rfl)) ?_
    refine jJ_of (fun H locs => lv_bipush (v := (nI 91)) hx hb dX10_item_20 (by decide)) ?_
    refine jJ_callV (As := [.int (nI 91)]) (rest := []) (wc := jF (kWd cI cB Z (lsV [E 0, E 1, E 2, .null, .null, E 5, E 6, E 7, E 8, .ref (Z 2), E 10, E 11, E 12, E 13, E 14, .ref (Z 7), .int (nI al), E 17, E 18]) (lsV [X 0, X 1, .null, X 3, .null, X 5, X 6, X 7, X 8, X 9, X 10, X 11, X 12]) V a)) (cs2 := [[(Z 2, .inr (0, []))], [(Z 7, .inl (cJ, 200, .inr (.inl vv)))]]) (C := RX10) (T := TX10) (N := 19) (ci := 8) [0, 1, 2, 3] [4, 5] ⟨hx, hb, hml, hown, hts⟩ hK hA hAm (c_Md_isSign (E := lsV [E 0, E 1, E 2, .null, .null, E 5, E 6, E 7, E 8, .ref (Z 2), E 10, E 11, E 12, E 13, E 14, .ref (Z 7), .int (nI al), E 17, E 18]) (X := lsV [X 0, X 1, .null, X 3, .null, X 5, X 6, X 7, X 8, X 9, X 10, X 11, X 12]) (a := a) hT (by omega) 91 (by decide)) (cwV 1 hts gX10_item_X10_isSign rfl rfl rfl (by decide +kernel) ⟨by show (1) + 1 ≤ 8 * r + 8; omega, by show 8 + (2 + 11) + (40) ≤ 320 * r + 360; omega⟩) (nn := 6) rfl (by decide) rfl rfl ⟨0, _, rfl⟩ rfl rfl rfl hl.1 (Nat.le_of_ble_eq_true rfl) dX10_item_22 (by show _ + 0 ≤ 0; omega) (by show _ + 0 ≤ 0; omega) (fun v u2 k2 n2 hq2 => ?_)
    obtain ⟨rfl, hw2, rfl, rfl⟩ := hq2
    rw [hw2]
    refine jJ_open (xs := [[(Z 0, .inr (8, [E 0, E 1, E 2, .ref (Z 1), .int (nI a), E 5, E 6, E 7, E 8, .ref (Z 2), E 10, E 11, E 12, E 13, E 14, .ref (Z 7), .int (nI al), E 17, E 18]))], [(Z 1, .inr (7, [X 0, X 1, .ref (Z 3), X 3, .ref (Z 5), X 5, X 6, X 7, X 8, X 9, X 10, X 11, X 12]))], [(Z 3, .inl (cB, 32008, .inl (V 0)))], [(Z 5, .inl (cI, 32008, .inl (V 2)))]]) (r := [[(Z 2, .inr (0, []))], [(Z 7, .inl (cJ, 200, .inr (.inl vv)))]]) (cs2 := [[(Z 0, .inr (8, [E 0, E 1, E 2, .ref (Z 1), .int (nI a), E 5, E 6, E 7, E 8, .ref (Z 2), E 10, E 11, E 12, E 13, E 14, .ref (Z 7), .int (nI al), E 17, E 18]))], [(Z 1, .inr (7, [X 0, X 1, .ref (Z 3), X 3, .ref (Z 5), X 5, X 6, X 7, X 8, X 9, X 10, X 11, X 12]))], [(Z 3, .inl (cB, 32008, .inl (V 0)))], [(Z 5, .inl (cI, 32008, .inl (V 2)))], [(Z 2, .inr (0, []))], [(Z 7, .inl (cJ, 200, .inr (.inl vv)))]]) rfl ?_
    refine jJ_eq (g2 := F0 m 25 ls [.int (bI (decide ((tk 0).getD a 0 = 91)))]) (cs2 := [[(Z 0, .inr (8, [E 0, E 1, E 2, .ref (Z 1), .int (nI a), E 5, E 6, E 7, E 8, .ref (Z 2), E 10, E 11, E 12, E 13, E 14, .ref (Z 7), .int (nI al), E 17, E 18]))], [(Z 1, .inr (7, [X 0, X 1, .ref (Z 3), X 3, .ref (Z 5), X 5, X 6, X 7, X 8, X 9, X 10, X 11, X 12]))], [(Z 3, .inl (cB, 32008, .inl (V 0)))], [(Z 5, .inl (cI, 32008, .inl (V 2)))], [(Z 2, .inr (0, []))], [(Z 7, .inl (cJ, 200, .inr (.inl vv)))]]) rfl rfl ?_
    refine jJ_of2 (fun H locs => jb_if_eq (tgt := 33) hx hb dX10_item_25 (by decide)) (fun c25 => ?_) (fun c25 => ?_)
    · simp only [decide_eq_true_eq, decide_eq_false_iff_not] at c25
      obtain ⟨h256, hend⟩ := qItm_w hok (by omega) (by omega)
      have hL7 := hL8 (by omega) (by omega)
      refine jJ_of (fun H locs => lv_aload_n hx hb dX10_item_33 rfl (lv_at hl 0 rfl)) ?_
      refine jJ_of (fun H locs => lv_dup hx hb dX10_item_34 rfl) ?_
      refine jJ_get hx hb (C := RX10) (T := TX10) (N := 19) hts uX10_in_X10_item hown hK 0 rfl rfl 4 (by decide) (hts (.fieldLink RX10 121 "ValueBlocksModel" "at" "I") (by decide +kernel)) (fun _ h9 => h9) rfl dX10_item_35 ?_
      refine jJ_of (fun H locs => lv_iconst (v := (nI 1)) hx hb dX10_item_38 (by decide)) ?_
      refine jJ_of (fun H locs => jn_iadd hx hb dX10_item_39) ?_
      refine jJ_put hx hb (C := RX10) (T := TX10) (N := 19) (ty := .int) (v := .int (nI (a + 1))) hts uX10_in_X10_item tyX10 tyX10_ok nmX10 hown hK 0 rfl rfl 4 (by decide) (hts (.fieldLink RX10 121 "ValueBlocksModel" "at" "I") (by decide +kernel)) (fun _ h9 => h9) rfl (by decide +kernel) rfl rfl (Nat.le_of_ble_eq_true rfl) dX10_item_40 (cs2 := [[(Z 0, .inr (8, [E 0, E 1, E 2, .ref (Z 1), .int (nI (a + 1)), E 5, E 6, E 7, E 8, .ref (Z 2), E 10, E 11, E 12, E 13, E 14, .ref (Z 7), .int (nI al), E 17, E 18]))], [(Z 1, .inr (7, [X 0, X 1, .ref (Z 3), X 3, .ref (Z 5), X 5, X 6, X 7, X 8, X 9, X 10, X 11, X 12]))], [(Z 3, .inl (cB, 32008, .inl (V 0)))], [(Z 5, .inl (cI, 32008, .inl (V 2)))], [(Z 2, .inr (0, []))], [(Z 7, .inl (cJ, 200, .inr (.inl vv)))]]) rfl ?_
      refine jJ_of (fun H locs => lv_aload_n hx hb dX10_item_43 rfl (lv_at hl 0 rfl)) ?_
      refine jJ_get hx hb (C := RX10) (T := TX10) (N := 19) hts uX10_in_X10_item hown hK 0 rfl rfl 3 (by decide) (hts (.fieldLink RX10 53 "ValueBlocksModel" "t" "LValueBlocksModel$Text;") (by decide +kernel)) (fun _ h9 => h9) rfl dX10_item_44 ?_
      refine jJ_get hx hb (C := RX9) (T := TX9) (N := 13) hts uX9_in_X10_item hown hK 1 rfl rfl 4 (by decide) (hts (.fieldLink RX10 71 "ValueBlocksModel$Text" "worths" "[I") (by decide +kernel)) (fun _ h9 => h9) rfl dX10_item_47 ?_
      refine jJ_of (fun H locs => lv_aload_n hx hb dX10_item_50 rfl (lv_at hl 0 rfl)) ?_
      refine jJ_get hx hb (C := RX10) (T := TX10) (N := 19) hts uX10_in_X10_item hown hK 0 rfl rfl 4 (by decide) (hts (.fieldLink RX10 121 "ValueBlocksModel" "at" "I") (by decide +kernel)) (fun _ h9 => h9) rfl dX10_item_51 ?_
      refine jJ_of (fun H locs => lv_iconst (v := (nI 1)) hx hb dX10_item_54 (by decide)) ?_
      refine jJ_of (fun H locs => jn_isub hx hb dX10_item_55 (by omega)) ?_
      refine jJ_iald hx hb hK 3 0 (f := V 2) rfl rfl (vp_in_nI (by omega) (by omega)) (x := (nI ((tk 2).getD a 0))) (by rw [nI_clamp (by omega), show a + 1 - 1 = a from rfl, hV2]; unfold kW; rw [if_pos (by omega)]) dX10_item_56 ?_
      refine jJ_of (fun H locs => jn_i2l hx hb dX10_item_57 (by omega)) ?_
      refine jJ_perm [0, 4, 1, 2, 3, 5] (nn := 6) rfl (by decide) (cs2 := [[(Z 0, .inr (8, [E 0, E 1, E 2, .ref (Z 1), .int (nI (a + 1)), E 5, E 6, E 7, E 8, .ref (Z 2), E 10, E 11, E 12, E 13, E 14, .ref (Z 7), .int (nI al), E 17, E 18]))], [(Z 2, .inr (0, []))], [(Z 1, .inr (7, [X 0, X 1, .ref (Z 3), X 3, .ref (Z 5), X 5, X 6, X 7, X 8, X 9, X 10, X 11, X 12]))], [(Z 3, .inl (cB, 32008, .inl (V 0)))], [(Z 5, .inl (cI, 32008, .inl (V 2)))], [(Z 7, .inl (cJ, 200, .inr (.inl vv)))]]) rfl ?_
      have heq : (qItm tk N r a).2 = a + 1 := by exact hend
      have he : xIt tk N vs r a = (0, (((tk 2).getD a 0 : Nat) : Int)) := by unfold xIt; rw [if_neg (by omega), if_neg (by omega)]
      exact jJ_toX (jJ_lret hx hb hr hlocks dX10_item_58 (by show _ ≤ 0; omega) (by show _ ≤ 0; omega) ⟨by rw [he], by rw [he], by rw [heq]; rfl, rfl, rfl⟩)
    · simp only [decide_eq_true_eq, decide_eq_false_iff_not] at c25
      have hokb : (qBra tk N r a).1 = true := by rw [← qItm_b (by omega)]; exact hok
      refine jJ_of (fun H locs => lv_aload_n hx hb dX10_item_28 rfl (lv_at hl 0 rfl)) ?_
      have hokq3 : (qBra tk N r a).1 = true := by exact hokb
      obtain ⟨aa3, haa3⟩ : ∃ i, (qBra tk N r a).2 = i := ⟨_, rfl⟩
      have heq3 : qBra tk N r a = (true, aa3) := Prod.ext hokq3 haa3
      have hqb3 : a ≤ (qBra tk N r a).2 ∧ (qBra tk N r a).2 + 1 ≤ (tk 0).length := qb_bra hE N r a (by omega)
      rw [haa3] at hqb3
      obtain ⟨xa3, xv3, hxe3⟩ : ∃ i j, xBra tk N vs r a = (i, j) := ⟨_, _, rfl⟩
      have hxv3 := xv_bra N hB2a hvs r a
      rw [hxe3] at hxv3
      dsimp only at hxv3
      refine jX_callV (As := []) (rest := []) (wc := jF (eW cI cJ cB Z (E) (X) V vv a al)) (cs2 := []) (C := RX10) (T := TX10) (N := 19) (ci := 8) [0, 4, 1, 2, 3, 5] [] ⟨hx, hb, hml, hown, hts⟩ hK hA hAm (hBr a al (by omega) hokq3) (cwV 0 hts gX10_item_X10_bracketed rfl rfl rfl (by decide +kernel) ⟨by show (8 * r + 6) + 1 ≤ 8 * r + 8; omega, by show 8 + (3 + 11) + (320 * r + 280) ≤ 320 * r + 360; omega⟩) (nn := 6) rfl (by decide) rfl rfl ⟨0, _, rfl⟩ rfl rfl rfl hl.1 (Nat.le_of_ble_eq_true rfl) dX10_item_29 (by show _ + 0 ≤ 0; omega) (by show _ + 0 ≤ 0; omega) (fun u3 k3 n3 q3 hx3 => ?_) (fun v u3 k3 n3 hq3 => ?_)
      · rw [hxe3] at hx3
        dsimp only at hx3
        obtain ⟨hnz3, ⟨a2_3, hu3⟩, rfl, rfl⟩ := hx3
        rw [hu3]
        have he : xIt tk N vs r a = (xa3, xv3) := by unfold xIt; rw [if_neg (by omega), if_pos (by omega), hxe3]
        exact jJx_out hno hlocks (by show _ ≤ 0; omega) (by show _ ≤ 0; omega) ⟨by rw [he]; assumption, ⟨_, by rw [he]; rfl⟩, rfl, rfl⟩
      rw [hxe3, haa3] at hq3
      dsimp only at hq3
      obtain ⟨hz3, rfl, hw3, rfl, rfl⟩ := hq3
      subst hz3
      rw [hw3]
      have hvo3 := hxv3 rfl
      have hvo3b := hvo3
      unfold vOK at hvo3b
      refine jJ_open (xs := [[(Z 0, .inr (8, [E 0, E 1, E 2, .ref (Z 1), .int (nI aa3), E 5, E 6, E 7, E 8, .ref (Z 2), E 10, E 11, E 12, E 13, E 14, .ref (Z 7), .int (nI al), E 17, E 18]))], [(Z 2, .inr (0, []))], [(Z 1, .inr (7, [X 0, X 1, .ref (Z 3), X 3, .ref (Z 5), X 5, X 6, X 7, X 8, X 9, X 10, X 11, X 12]))], [(Z 3, .inl (cB, 32008, .inl (V 0)))], [(Z 5, .inl (cI, 32008, .inl (V 2)))], [(Z 7, .inl (cJ, 200, .inr (.inl vv)))]]) (r := []) (cs2 := [[(Z 0, .inr (8, [E 0, E 1, E 2, .ref (Z 1), .int (nI aa3), E 5, E 6, E 7, E 8, .ref (Z 2), E 10, E 11, E 12, E 13, E 14, .ref (Z 7), .int (nI al), E 17, E 18]))], [(Z 2, .inr (0, []))], [(Z 1, .inr (7, [X 0, X 1, .ref (Z 3), X 3, .ref (Z 5), X 5, X 6, X 7, X 8, X 9, X 10, X 11, X 12]))], [(Z 3, .inl (cB, 32008, .inl (V 0)))], [(Z 5, .inl (cI, 32008, .inl (V 2)))], [(Z 7, .inl (cJ, 200, .inr (.inl vv)))]]) rfl ?_
      refine jJ_eq (g2 := F0 m 32 ls [.long (lI xv3)]) (cs2 := [[(Z 0, .inr (8, [E 0, E 1, E 2, .ref (Z 1), .int (nI aa3), E 5, E 6, E 7, E 8, .ref (Z 2), E 10, E 11, E 12, E 13, E 14, .ref (Z 7), .int (nI al), E 17, E 18]))], [(Z 2, .inr (0, []))], [(Z 1, .inr (7, [X 0, X 1, .ref (Z 3), X 3, .ref (Z 5), X 5, X 6, X 7, X 8, X 9, X 10, X 11, X 12]))], [(Z 3, .inl (cB, 32008, .inl (V 0)))], [(Z 5, .inl (cI, 32008, .inl (V 2)))], [(Z 7, .inl (cJ, 200, .inr (.inl vv)))]]) rfl rfl ?_
      have heq : (qItm tk N r a).2 = aa3 := by rw [qItm_b (by omega), heq3]
      have he : xIt tk N vs r a = (0, (xv3 : Int)) := by unfold xIt; rw [if_neg (by omega), if_pos (by omega), hxe3]
      exact jJ_toX (jJ_lret hx hb hr hlocks dX10_item_32 (by show _ ≤ 0; omega) (by show _ ≤ 0; omega) ⟨by rw [he], by rw [he], by rw [heq]; rfl, rfl, rfl⟩)
  · simp only [decide_eq_true_eq, decide_eq_false_iff_not] at c6
    have hokv : (qVa tk N r a).1 = true := by rw [← qItm_p (by omega)]; exact hok
    have hl7 := qVa_ok hE hokv
    refine jJ_of (fun H locs => lv_aload_n hx hb dX10_item_9 rfl (lv_at hl 0 rfl)) ?_
    refine jJ_get hx hb (C := RX10) (T := TX10) (N := 19) hts uX10_in_X10_item hown hK 0 rfl rfl 15 (by decide) (hts (.fieldLink RX10 38 "ValueBlocksModel" "variables" "[J") (by decide +kernel)) (fun _ h9 => h9) rfl dX10_item_10 ?_
    refine jJ_of (fun H locs => lv_aload_n hx hb dX10_item_13 rfl (lv_at hl 0 rfl)) ?_
    have hokq4 : (qVa tk N r a).1 = true := by exact hokv
    obtain ⟨aa4, haa4⟩ : ∃ i, (qVa tk N r a).2 = i := ⟨_, rfl⟩
    have heq4 : qVa tk N r a = (true, aa4) := Prod.ext hokq4 haa4
    have hqb4 : a ≤ (qVa tk N r a).2 ∧ (qVa tk N r a).2 + 1 ≤ (tk 0).length := (fun a (h : a + 1 ≤ (tk 0).length) => qb_va hE N r (qVa_ok hE hokv)) a (by omega)
    rw [haa4] at hqb4
    obtain ⟨xa4, xv4, hxe4⟩ : ∃ i j, xVa tk N vs r a = (i, j) := ⟨_, _, rfl⟩
    refine jX_callV (As := []) (rest := [.ref (Z 7)]) (wc := jF (eW cI cJ cB Z (E) (X) V vv a al)) (cs2 := []) (C := RX10) (T := TX10) (N := 19) (ci := 8) [0, 4, 1, 2, 3, 5] [] ⟨hx, hb, hml, hown, hts⟩ hK hA hAm (hVa a al (by omega) hokq4 (by omega)) (cwV 0 hts gX10_item_X10_variableAt rfl rfl rfl (by decide +kernel) ⟨by show (8 * r + 7) + 1 ≤ 8 * r + 8; omega, by show 8 + (3 + 11) + (320 * r + 320) ≤ 320 * r + 360; omega⟩) (nn := 6) rfl (by decide) rfl rfl ⟨0, _, rfl⟩ rfl rfl rfl hl.1 (Nat.le_of_ble_eq_true rfl) dX10_item_14 (by show _ + 0 ≤ 0; omega) (by show _ + 0 ≤ 0; omega) (fun u4 k4 n4 q4 hx4 => ?_) (fun v u4 k4 n4 hq4 => ?_)
    · rw [hxe4] at hx4
      dsimp only at hx4
      obtain ⟨hnz4, ⟨a2_4, hu4⟩, rfl, rfl⟩ := hx4
      rw [hu4]
      have he : xIt tk N vs r a = (xa4, xv4) := by unfold xIt; rw [if_pos (by omega), hxe4]; exact xThen_n hnz4 _
      exact jJx_out hno hlocks (by show _ ≤ 0; omega) (by show _ ≤ 0; omega) ⟨by rw [he]; assumption, ⟨_, by rw [he]; rfl⟩, rfl, rfl⟩
    rw [hxe4, haa4] at hq4
    dsimp only at hq4
    obtain ⟨hz4, rfl, hw4, rfl, rfl⟩ := hq4
    subst hz4
    rw [hw4]
    refine jJ_open (xs := [[(Z 0, .inr (8, [E 0, E 1, E 2, .ref (Z 1), .int (nI aa4), E 5, E 6, E 7, E 8, .ref (Z 2), E 10, E 11, E 12, E 13, E 14, .ref (Z 7), .int (nI al), E 17, E 18]))], [(Z 2, .inr (0, []))], [(Z 1, .inr (7, [X 0, X 1, .ref (Z 3), X 3, .ref (Z 5), X 5, X 6, X 7, X 8, X 9, X 10, X 11, X 12]))], [(Z 3, .inl (cB, 32008, .inl (V 0)))], [(Z 5, .inl (cI, 32008, .inl (V 2)))], [(Z 7, .inl (cJ, 200, .inr (.inl vv)))]]) (r := []) (cs2 := [[(Z 0, .inr (8, [E 0, E 1, E 2, .ref (Z 1), .int (nI aa4), E 5, E 6, E 7, E 8, .ref (Z 2), E 10, E 11, E 12, E 13, E 14, .ref (Z 7), .int (nI al), E 17, E 18]))], [(Z 2, .inr (0, []))], [(Z 1, .inr (7, [X 0, X 1, .ref (Z 3), X 3, .ref (Z 5), X 5, X 6, X 7, X 8, X 9, X 10, X 11, X 12]))], [(Z 3, .inl (cB, 32008, .inl (V 0)))], [(Z 5, .inl (cI, 32008, .inl (V 2)))], [(Z 7, .inl (cJ, 200, .inr (.inl vv)))]]) rfl ?_
    refine jJ_eq (g2 := F0 m 17 ls [.int (iI xv4), .ref (Z 7)]) (cs2 := [[(Z 0, .inr (8, [E 0, E 1, E 2, .ref (Z 1), .int (nI aa4), E 5, E 6, E 7, E 8, .ref (Z 2), E 10, E 11, E 12, E 13, E 14, .ref (Z 7), .int (nI al), E 17, E 18]))], [(Z 2, .inr (0, []))], [(Z 1, .inr (7, [X 0, X 1, .ref (Z 3), X 3, .ref (Z 5), X 5, X 6, X 7, X 8, X 9, X 10, X 11, X 12]))], [(Z 3, .inl (cB, 32008, .inl (V 0)))], [(Z 5, .inl (cI, 32008, .inl (V 2)))], [(Z 7, .inl (cJ, 200, .inr (.inl vv)))]]) rfl rfl ?_
    have hvb9 := xVa_b (tk := tk) (N := N) (vs := vs) (r := r) (a := a) (by rw [hxe4])
    rw [hxe4] at hvb9
    dsimp only at hvb9
    refine jJ_lald hx hb hK 5 1 (f := vv) rfl rfl (vp_in_iI (by omega) (by omega) (by omega)) (x := (lI (vs (xv4).toNat))) (by rw [iI_toNatC (by omega) (by omega)]; exact hvv _ (by omega)) dX10_item_17 ?_
    have heq : (qItm tk N r a).2 = aa4 := by rw [qItm_p (by omega), heq4]
    have he : xIt tk N vs r a = (0, (vs (xv4).toNat : Int)) := by unfold xIt; rw [if_pos (by omega), hxe4, xThen_0]
    exact jJ_toX (jJ_lret hx hb hr hlocks dX10_item_18 (by show _ ≤ 0; omega) (by show _ ≤ 0; omega) ⟨by rw [he], by rw [he], by rw [heq]; rfl, rfl, rfl⟩)
theorem xFac_m {tk : Nat → List Nat} {N : Nat} {vs : Nat → Int} {r a : Nat} (h : (tk 0).getD a 0 = 45) : xFac tk N vs (r + 1) a = xThen (xFac tk N vs r (a + 1)) (xOp1 1) := by rw [xFac_eq]; exact if_pos h
theorem xFac_f {tk : Nat → List Nat} {N : Nat} {vs : Nat → Int} {r a : Nat} (h : 305 ≤ (tk 0).getD a 0 ∧ (tk 0).getD a 0 ≤ 308) : xFac tk N vs r a = xThen (xBra tk N vs r (a + 1)) (xOp1 ((tk 0).getD a 0)) := by rw [xFac_eq]; unfold xFw; rw [if_neg (by omega), if_pos (by omega)]
theorem xFac_i {tk : Nat → List Nat} {N : Nat} {vs : Nat → Int} {r a : Nat} (h : ¬ (tk 0).getD a 0 = 45) (h2 : (tk 0).getD a 0 < 305 ∨ 308 < (tk 0).getD a 0) (hok : (qItm tk N r a).1 = true) : xFac tk N vs r a = xIt tk N vs r a := by
  rw [xFac_eq]; unfold xFw xIt; rw [if_neg h, if_neg (by omega)]
  by_cases q : (tk 0).getD a 0 = 35
  · rw [if_pos q, if_pos q]; rfl
  · rw [if_neg q, if_neg q]
    by_cases q2 : (tk 0).getD a 0 = 91
    · rw [if_neg (by omega), if_pos q2]
    · obtain ⟨h3, -⟩ := qItm_w hok q q2
      rw [if_pos h3, if_neg q2]
theorem qFac_ok {tk : Nat → List Nat} {N r a : Nat} (h : (qFac tk N r a).1 = true) : ((tk 0).getD a 0 = 45 ∧ ∃ r2, r = r2 + 1 ∧ (qFac tk N r2 (a + 1)).1 = true ∧ qFac tk N r a = qFac tk N r2 (a + 1)) ∨ (305 ≤ (tk 0).getD a 0 ∧ (tk 0).getD a 0 ≤ 308 ∧ (qBra tk N r (a + 1)).1 = true ∧ qFac tk N r a = qBra tk N r (a + 1)) ∨ (¬ (tk 0).getD a 0 = 45 ∧ (tk 0).getD a 0 < 300 ∧ (qItm tk N r a).1 = true ∧ qFac tk N r a = qItm tk N r a) := by
  by_cases q : (tk 0).getD a 0 = 45
  · left
    cases r with
    | zero => rw [qFac_m0 q] at h; exact (Bool.false_ne_true h).elim
    | succ r2 => exact ⟨q, r2, rfl, by rw [← qFac_m q]; exact h, qFac_m q⟩
  · right
    by_cases q2 : 305 ≤ (tk 0).getD a 0 ∧ (tk 0).getD a 0 ≤ 308
    · left
      exact ⟨q2.1, q2.2, by rw [← qFac_f q2]; exact h, qFac_f q2⟩
    · right
      have e := qFac_i (N := N) (r := r) q (by omega)
      refine ⟨q, ?_, by rw [← e]; exact h, e⟩
      rw [e] at h
      by_cases q3 : (tk 0).getD a 0 = 35
      · omega
      · by_cases q4 : (tk 0).getD a 0 = 91
        · omega
        · have := (qItm_w h q3 q4).1; omega
theorem xop1_ok {k : Nat} {v z : Int} (h1 : ¬ (k = 308 ∧ v < 0)) (h2 : vOne k v = z) (h3 : vTG z = false) : xOp1 k v = (0, z) := by
  unfold xOp1; rw [if_neg h1, h2, if_neg (by rw [h3]; decide)]
theorem xop1_4 {k : Nat} {v z : Int} (h1 : ¬ (k = 308 ∧ v < 0)) (h2 : vOne k v = z) (h3 : vTG z = true) : xOp1 k v = (4, 0) := by
  unfold xOp1; rw [if_neg h1, h2, if_pos h3]
theorem xop1_1 {v : Int} (h : v < 0) : xOp1 308 v = (1, 0) := if_pos ⟨rfl, h⟩
theorem vOne_1 (v : Int) : vOne 1 v = -v := rfl
theorem vOne_5 (v : Int) : vOne 305 v = vAbs v := rfl
theorem vOne_6 (v : Int) : vOne 306 v = Int.fdiv v 1000 * 1000 := rfl
theorem vOne_7 (v : Int) : vOne 307 v = -Int.fdiv (-v) 1000 * 1000 := by show -(Int.fdiv (-v) 1000 * 1000) = _; rw [Int.neg_mul]
theorem vOne_8 (v : Int) : vOne 308 v = vRt (1000 * v) := by unfold vOne; rw [if_neg (by decide), if_neg (by decide), if_neg (by decide), if_pos rfl, Int.mul_comm]
theorem uX10_in_X10_factor : ∀ w ∈ u_ws RX10 TX10 19, w ∈ wsX10_factor := by decide +kernel
theorem uX9_in_X10_factor : ∀ w ∈ u_ws RX9 TX9 13, w ∈ wsX10_factor := by decide +kernel
set_option maxHeartbeats 4000000 in
set_option maxRecDepth 100000 in
/-- factor() -/
theorem c_Md_factor {Z : Nat → Nat} {E X : Nat → Value} {V : Nat → Nat → Int32} {vv : Nat → Int64} {tk : Nat → List Nat} {vs : Nat → Int} {a al : Nat} {N r : Nat} (hT : tV tk V) (hE : tE tk) (hvv : ∀ i, i < 200 → vv i = lI (vs i)) (hvs : ∀ i, i < 200 → vOK (vs i)) (ha : a + 1 ≤ (tk 0).length) (hok : (qFac tk N r a).1 = true) (hBr : cEv D G cI cJ cB cZ l yX10_bracketed wsX10_bracketed (8 * r + 6) (320 * r + 280) Z E X V vv tk (fun z => .long (lI z)) (qBra tk N r) (xBra tk N vs r)) (hIt : cEv D G cI cJ cB cZ l yX10_item wsX10_item (8 * r + 8) (320 * r + 360) Z E X V vv tk (fun z => .long (lI z)) (qItm tk N r) (xIt tk N vs r)) (hFa : ∀ r2, r = r2 + 1 → cEv D G cI cJ cB cZ l yX10_factor wsX10_factor (8 * r2 + 9) (320 * r2 + 400) Z E X V vv tk (fun z => .long (lI z)) (qFac tk N r2) (xFac tk N vs r2)) : HX l yX10_factor wsX10_factor ({ frames := 8 * r + 9, cells := 0, slots := 0, locals := 320 * r + 400 } : Room) D G (jT cI cJ cB cZ) [.ref (Z 0)] (jF (eW cI cJ cB Z E X V vv a al)) (fun v u k n => (xFac tk N vs r a).1 = 0 ∧ v = some (.long (lI (xFac tk N vs r a).2)) ∧ u = jF (eW cI cJ cB Z E X V vv (qFac tk N r a).2 al) ∧ k = 0 ∧ n = 0) (fun u k n => ¬ (xFac tk N vs r a).1 = 0 ∧ (∃ a2 : Nat, u = jF (eW cI cJ cB Z E X V vv a2 (xFac tk N vs r a).1)) ∧ k = 0 ∧ n = 0) := by
  refine HX_of (cc := cX10_factor) (maxL := 4) (ret := (some .long)) (lv := [(0, .ref (Z 0))]) (by decide) rfl rfl (Nat.le_of_ble_eq_true rfl) (fun p e s m args below meth c A0 ls hx hb hr hts hown hlocks hml hno hK hA hAm hl => ?_)
  refine jJ_open (xs := [[(Z 0, .inr (8, [E 0, E 1, E 2, .ref (Z 1), .int (nI a), E 5, E 6, E 7, E 8, .ref (Z 2), E 10, E 11, E 12, E 13, E 14, .ref (Z 7), .int (nI al), E 17, E 18]))], [(Z 2, .inr (0, []))], [(Z 1, .inr (7, [X 0, X 1, .ref (Z 3), X 3, .ref (Z 5), X 5, X 6, X 7, X 8, X 9, X 10, X 11, X 12]))], [(Z 3, .inl (cB, 32008, .inl (V 0)))], [(Z 5, .inl (cI, 32008, .inl (V 2)))], [(Z 7, .inl (cJ, 200, .inr (.inl vv)))]]) (r := []) (cs2 := [[(Z 0, .inr (8, [E 0, E 1, E 2, .ref (Z 1), .int (nI a), E 5, E 6, E 7, E 8, .ref (Z 2), E 10, E 11, E 12, E 13, E 14, .ref (Z 7), .int (nI al), E 17, E 18]))], [(Z 2, .inr (0, []))], [(Z 1, .inr (7, [X 0, X 1, .ref (Z 3), X 3, .ref (Z 5), X 5, X 6, X 7, X 8, X 9, X 10, X 11, X 12]))], [(Z 3, .inl (cB, 32008, .inl (V 0)))], [(Z 5, .inl (cI, 32008, .inl (V 2)))], [(Z 7, .inl (cJ, 200, .inr (.inl vv)))]]) rfl ?_
  have hL9 := hT.1
  obtain ⟨hV0, hV1, hV2, hV3⟩ := hT.2.1 a (by omega)
  obtain ⟨hB0, hB1, hB2⟩ := hT.2.2 a
  have hkc := kC_le ((tk 0).getD a 0)
  have hkw := kW_le hB0 hB2
  have hk1 := kC1 (c := (tk 0).getD a 0)
  have hk3 := kC3w (c := (tk 0).getD a 0) (w := (tk 2).getD a 0)
  have hB2a := fun i => (hT.2.2 i).2.2
  have hL8 := hE.lt (a := a)
  have hcase := qFac_ok hok
  refine jJ_of (fun H locs => lv_aload_n hx hb dX10_factor_0 rfl (lv_at hl 0 rfl)) ?_
  refine jJ_of (fun H locs => lv_bipush (v := (nI 45)) hx hb dX10_factor_1 (by decide)) ?_
  refine jJ_callV (As := [.int (nI 45)]) (rest := []) (wc := jF (kWd cI cB Z (lsV [E 0, E 1, E 2, .null, .null, E 5, E 6, E 7, E 8, .ref (Z 2), E 10, E 11, E 12, E 13, E 14, .ref (Z 7), .int (nI al), E 17, E 18]) (lsV [X 0, X 1, .null, X 3, .null, X 5, X 6, X 7, X 8, X 9, X 10, X 11, X 12]) V a)) (cs2 := [[(Z 2, .inr (0, []))], [(Z 7, .inl (cJ, 200, .inr (.inl vv)))]]) (C := RX10) (T := TX10) (N := 19) (ci := 8) [0, 2, 3, 4] [1, 5] ⟨hx, hb, hml, hown, hts⟩ hK hA hAm (c_Md_isSign (E := lsV [E 0, E 1, E 2, .null, .null, E 5, E 6, E 7, E 8, .ref (Z 2), E 10, E 11, E 12, E 13, E 14, .ref (Z 7), .int (nI al), E 17, E 18]) (X := lsV [X 0, X 1, .null, X 3, .null, X 5, X 6, X 7, X 8, X 9, X 10, X 11, X 12]) (a := a) hT (by omega) 45 (by decide)) (cwV 1 hts gX10_factor_X10_isSign rfl rfl rfl (by decide +kernel) ⟨by show (1) + 1 ≤ 8 * r + 9; omega, by show 8 + (2 + 11) + (40) ≤ 320 * r + 400; omega⟩) (nn := 6) rfl (by decide) rfl rfl ⟨0, _, rfl⟩ rfl rfl rfl hl.1 (Nat.le_of_ble_eq_true rfl) dX10_factor_3 (by show _ + 0 ≤ 0; omega) (by show _ + 0 ≤ 0; omega) (fun v u1 k1 n1 hq1 => ?_)
  obtain ⟨rfl, hw1, rfl, rfl⟩ := hq1
  rw [hw1]
  refine jJ_open (xs := [[(Z 0, .inr (8, [E 0, E 1, E 2, .ref (Z 1), .int (nI a), E 5, E 6, E 7, E 8, .ref (Z 2), E 10, E 11, E 12, E 13, E 14, .ref (Z 7), .int (nI al), E 17, E 18]))], [(Z 1, .inr (7, [X 0, X 1, .ref (Z 3), X 3, .ref (Z 5), X 5, X 6, X 7, X 8, X 9, X 10, X 11, X 12]))], [(Z 3, .inl (cB, 32008, .inl (V 0)))], [(Z 5, .inl (cI, 32008, .inl (V 2)))]]) (r := [[(Z 2, .inr (0, []))], [(Z 7, .inl (cJ, 200, .inr (.inl vv)))]]) (cs2 := [[(Z 0, .inr (8, [E 0, E 1, E 2, .ref (Z 1), .int (nI a), E 5, E 6, E 7, E 8, .ref (Z 2), E 10, E 11, E 12, E 13, E 14, .ref (Z 7), .int (nI al), E 17, E 18]))], [(Z 1, .inr (7, [X 0, X 1, .ref (Z 3), X 3, .ref (Z 5), X 5, X 6, X 7, X 8, X 9, X 10, X 11, X 12]))], [(Z 3, .inl (cB, 32008, .inl (V 0)))], [(Z 5, .inl (cI, 32008, .inl (V 2)))], [(Z 2, .inr (0, []))], [(Z 7, .inl (cJ, 200, .inr (.inl vv)))]]) rfl ?_
  refine jJ_eq (g2 := F0 m 6 ls [.int (bI (decide ((tk 0).getD a 0 = 45)))]) (cs2 := [[(Z 0, .inr (8, [E 0, E 1, E 2, .ref (Z 1), .int (nI a), E 5, E 6, E 7, E 8, .ref (Z 2), E 10, E 11, E 12, E 13, E 14, .ref (Z 7), .int (nI al), E 17, E 18]))], [(Z 1, .inr (7, [X 0, X 1, .ref (Z 3), X 3, .ref (Z 5), X 5, X 6, X 7, X 8, X 9, X 10, X 11, X 12]))], [(Z 3, .inl (cB, 32008, .inl (V 0)))], [(Z 5, .inl (cI, 32008, .inl (V 2)))], [(Z 2, .inr (0, []))], [(Z 7, .inl (cJ, 200, .inr (.inl vv)))]]) rfl rfl ?_
  refine jJ_of2 (fun H locs => jb_if_eq (tgt := 25) hx hb dX10_factor_6 (by decide)) (fun c6 => ?_) (fun c6 => ?_)
  · simp only [decide_eq_true_eq, decide_eq_false_iff_not] at c6
    refine jJ_of (fun H locs => lv_aload_n hx hb dX10_factor_25 rfl (lv_at hl 0 rfl)) ?_
    refine jJ_callV (As := []) (rest := []) (wc := jF (kWd cI cB Z (lsV [E 0, E 1, E 2, .null, .null, E 5, E 6, E 7, E 8, .ref (Z 2), E 10, E 11, E 12, E 13, E 14, .ref (Z 7), .int (nI al), E 17, E 18]) (lsV [X 0, X 1, .null, X 3, .null, X 5, X 6, X 7, X 8, X 9, X 10, X 11, X 12]) V a)) (cs2 := [[(Z 2, .inr (0, []))], [(Z 7, .inl (cJ, 200, .inr (.inl vv)))]]) (C := RX10) (T := TX10) (N := 19) (ci := 8) [0, 1, 2, 3] [4, 5] ⟨hx, hb, hml, hown, hts⟩ hK hA hAm (c_Md_kind (E := lsV [E 0, E 1, E 2, .null, .null, E 5, E 6, E 7, E 8, .ref (Z 2), E 10, E 11, E 12, E 13, E 14, .ref (Z 7), .int (nI al), E 17, E 18]) (X := lsV [X 0, X 1, .null, X 3, .null, X 5, X 6, X 7, X 8, X 9, X 10, X 11, X 12]) (a := a) hT (by omega)) (cwV 0 hts gX10_factor_X10_kind rfl rfl rfl (by decide +kernel) ⟨by show (0) + 1 ≤ 8 * r + 9; omega, by show 8 + (1 + 11) + (0) ≤ 320 * r + 400; omega⟩) (nn := 6) rfl (by decide) rfl rfl ⟨0, _, rfl⟩ rfl rfl rfl hl.1 (Nat.le_of_ble_eq_true rfl) dX10_factor_26 (by show _ + 0 ≤ 0; omega) (by show _ + 0 ≤ 0; omega) (fun v u2 k2 n2 hq2 => ?_)
    obtain ⟨rfl, hw2, rfl, rfl⟩ := hq2
    rw [hw2]
    refine jJ_open (xs := [[(Z 0, .inr (8, [E 0, E 1, E 2, .ref (Z 1), .int (nI a), E 5, E 6, E 7, E 8, .ref (Z 2), E 10, E 11, E 12, E 13, E 14, .ref (Z 7), .int (nI al), E 17, E 18]))], [(Z 1, .inr (7, [X 0, X 1, .ref (Z 3), X 3, .ref (Z 5), X 5, X 6, X 7, X 8, X 9, X 10, X 11, X 12]))], [(Z 3, .inl (cB, 32008, .inl (V 0)))], [(Z 5, .inl (cI, 32008, .inl (V 2)))]]) (r := [[(Z 2, .inr (0, []))], [(Z 7, .inl (cJ, 200, .inr (.inl vv)))]]) (cs2 := [[(Z 0, .inr (8, [E 0, E 1, E 2, .ref (Z 1), .int (nI a), E 5, E 6, E 7, E 8, .ref (Z 2), E 10, E 11, E 12, E 13, E 14, .ref (Z 7), .int (nI al), E 17, E 18]))], [(Z 1, .inr (7, [X 0, X 1, .ref (Z 3), X 3, .ref (Z 5), X 5, X 6, X 7, X 8, X 9, X 10, X 11, X 12]))], [(Z 3, .inl (cB, 32008, .inl (V 0)))], [(Z 5, .inl (cI, 32008, .inl (V 2)))], [(Z 2, .inr (0, []))], [(Z 7, .inl (cJ, 200, .inr (.inl vv)))]]) rfl ?_
    refine jJ_eq (g2 := F0 m 29 ls [.int (nI (kC ((tk 0).getD a 0)))]) (cs2 := [[(Z 0, .inr (8, [E 0, E 1, E 2, .ref (Z 1), .int (nI a), E 5, E 6, E 7, E 8, .ref (Z 2), E 10, E 11, E 12, E 13, E 14, .ref (Z 7), .int (nI al), E 17, E 18]))], [(Z 1, .inr (7, [X 0, X 1, .ref (Z 3), X 3, .ref (Z 5), X 5, X 6, X 7, X 8, X 9, X 10, X 11, X 12]))], [(Z 3, .inl (cB, 32008, .inl (V 0)))], [(Z 5, .inl (cI, 32008, .inl (V 2)))], [(Z 2, .inr (0, []))], [(Z 7, .inl (cJ, 200, .inr (.inl vv)))]]) rfl rfl ?_
    refine jJ_of (fun H locs => lv_iconst (v := (nI 3)) hx hb dX10_factor_29 (by decide)) ?_
    refine jJ_of2 (fun H locs => jn_icmp_eq (tgt := 38) hx hb dX10_factor_30 (by decide) (by omega) (by omega)) (fun c30 => ?_) (fun c30 => ?_)
    · have hc2 : 305 ≤ (tk 0).getD a 0 ∧ (tk 0).getD a 0 ≤ 308 ∧ (qBra tk N r (a + 1)).1 = true ∧ qFac tk N r a = qBra tk N r (a + 1) := hcase.elim (fun h => by omega) (fun h => h.elim (fun h => h) (fun h => by omega))
      obtain ⟨h5, h8, hokb, heqf⟩ := hc2
      have hL7 := hL8 (by omega) (by omega)
      refine jJ_of (fun H locs => lv_aload_n hx hb dX10_factor_38 rfl (lv_at hl 0 rfl)) ?_
      refine jJ_get hx hb (C := RX10) (T := TX10) (N := 19) hts uX10_in_X10_factor hown hK 0 rfl rfl 3 (by decide) (hts (.fieldLink RX10 53 "ValueBlocksModel" "t" "LValueBlocksModel$Text;") (by decide +kernel)) (fun _ h9 => h9) rfl dX10_factor_39 ?_
      refine jJ_get hx hb (C := RX9) (T := TX9) (N := 13) hts uX9_in_X10_factor hown hK 1 rfl rfl 4 (by decide) (hts (.fieldLink RX10 71 "ValueBlocksModel$Text" "worths" "[I") (by decide +kernel)) (fun _ h9 => h9) rfl dX10_factor_42 ?_
      refine jJ_of (fun H locs => lv_aload_n hx hb dX10_factor_45 rfl (lv_at hl 0 rfl)) ?_
      refine jJ_get hx hb (C := RX10) (T := TX10) (N := 19) hts uX10_in_X10_factor hown hK 0 rfl rfl 4 (by decide) (hts (.fieldLink RX10 121 "ValueBlocksModel" "at" "I") (by decide +kernel)) (fun _ h9 => h9) rfl dX10_factor_46 ?_
      refine jJ_iald hx hb hK 3 0 (f := V 2) rfl rfl (vp_in_nI (by omega) (by omega)) (x := (nI (kW ((tk 0).getD a 0) ((tk 2).getD a 0)))) (by rw [nI_clamp (by omega)]; exact hV2) dX10_factor_49 ?_
      refine jJ_ofL (fun H locs => lv_istore_n (lv' := [(1, .int (nI (kW ((tk 0).getD a 0) ((tk 2).getD a 0)))), (0, .ref (Z 0))]) hx hb dX10_factor_50 rfl hl (by decide) rfl) (fun ls hl => ?_)
      refine jJ_of (fun H locs => lv_aload_n hx hb dX10_factor_51 rfl (lv_at hl 1 rfl)) ?_
      refine jJ_of (fun H locs => lv_dup hx hb dX10_factor_52 rfl) ?_
      refine jJ_get hx hb (C := RX10) (T := TX10) (N := 19) hts uX10_in_X10_factor hown hK 0 rfl rfl 4 (by decide) (hts (.fieldLink RX10 121 "ValueBlocksModel" "at" "I") (by decide +kernel)) (fun _ h9 => h9) rfl dX10_factor_53 ?_
      refine jJ_of (fun H locs => lv_iconst (v := (nI 1)) hx hb dX10_factor_56 (by decide)) ?_
      refine jJ_of (fun H locs => jn_iadd hx hb dX10_factor_57) ?_
      refine jJ_put hx hb (C := RX10) (T := TX10) (N := 19) (ty := .int) (v := .int (nI (a + 1))) hts uX10_in_X10_factor tyX10 tyX10_ok nmX10 hown hK 0 rfl rfl 4 (by decide) (hts (.fieldLink RX10 121 "ValueBlocksModel" "at" "I") (by decide +kernel)) (fun _ h9 => h9) rfl (by decide +kernel) rfl rfl (Nat.le_of_ble_eq_true rfl) dX10_factor_58 (cs2 := [[(Z 0, .inr (8, [E 0, E 1, E 2, .ref (Z 1), .int (nI (a + 1)), E 5, E 6, E 7, E 8, .ref (Z 2), E 10, E 11, E 12, E 13, E 14, .ref (Z 7), .int (nI al), E 17, E 18]))], [(Z 1, .inr (7, [X 0, X 1, .ref (Z 3), X 3, .ref (Z 5), X 5, X 6, X 7, X 8, X 9, X 10, X 11, X 12]))], [(Z 3, .inl (cB, 32008, .inl (V 0)))], [(Z 5, .inl (cI, 32008, .inl (V 2)))], [(Z 2, .inr (0, []))], [(Z 7, .inl (cJ, 200, .inr (.inl vv)))]]) rfl ?_
      refine jJ_of (fun H locs => lv_aload_n hx hb dX10_factor_61 rfl (lv_at hl 1 rfl)) ?_
      have hokq3 : (qBra tk N r (a + 1)).1 = true := by exact hokb
      obtain ⟨aa3, haa3⟩ : ∃ i, (qBra tk N r (a + 1)).2 = i := ⟨_, rfl⟩
      have heq3 : qBra tk N r (a + 1) = (true, aa3) := Prod.ext hokq3 haa3
      have hqb3 : (a + 1) ≤ (qBra tk N r (a + 1)).2 ∧ (qBra tk N r (a + 1)).2 + 1 ≤ (tk 0).length := qb_bra hE N r (a + 1) (by omega)
      rw [haa3] at hqb3
      obtain ⟨xa3, xv3, hxe3⟩ : ∃ i j, xBra tk N vs r (a + 1) = (i, j) := ⟨_, _, rfl⟩
      have hxv3 := xv_bra N hB2a hvs r (a + 1)
      rw [hxe3] at hxv3
      dsimp only at hxv3
      refine jX_callV (As := []) (rest := []) (wc := jF (eW cI cJ cB Z (E) (X) V vv (a + 1) al)) (cs2 := []) (C := RX10) (T := TX10) (N := 19) (ci := 8) [0, 4, 1, 2, 3, 5] [] ⟨hx, hb, hml, hown, hts⟩ hK hA hAm (hBr (a + 1) al (by omega) hokq3) (cwV 0 hts gX10_factor_X10_bracketed rfl rfl rfl (by decide +kernel) ⟨by show (8 * r + 6) + 1 ≤ 8 * r + 9; omega, by show 8 + (3 + 11) + (320 * r + 280) ≤ 320 * r + 400; omega⟩) (nn := 6) rfl (by decide) rfl rfl ⟨0, _, rfl⟩ rfl rfl rfl hl.1 (Nat.le_of_ble_eq_true rfl) dX10_factor_62 (by show _ + 0 ≤ 0; omega) (by show _ + 0 ≤ 0; omega) (fun u3 k3 n3 q3 hx3 => ?_) (fun v u3 k3 n3 hq3 => ?_)
      · rw [hxe3] at hx3
        dsimp only at hx3
        obtain ⟨hnz3, ⟨a2_3, hu3⟩, rfl, rfl⟩ := hx3
        rw [hu3]
        have he : xFac tk N vs r a = (xa3, xv3) := by rw [xFac_f (by omega), hxe3]; exact xThen_n hnz3 _
        exact jJx_out hno hlocks (by show _ ≤ 0; omega) (by show _ ≤ 0; omega) ⟨by rw [he]; assumption, ⟨_, by rw [he]; rfl⟩, rfl, rfl⟩
      rw [hxe3, haa3] at hq3
      dsimp only at hq3
      obtain ⟨hz3, rfl, hw3, rfl, rfl⟩ := hq3
      subst hz3
      rw [hw3]
      have hvo3 := hxv3 rfl
      have hvo3b := hvo3
      unfold vOK at hvo3b
      refine jJ_open (xs := [[(Z 0, .inr (8, [E 0, E 1, E 2, .ref (Z 1), .int (nI aa3), E 5, E 6, E 7, E 8, .ref (Z 2), E 10, E 11, E 12, E 13, E 14, .ref (Z 7), .int (nI al), E 17, E 18]))], [(Z 2, .inr (0, []))], [(Z 1, .inr (7, [X 0, X 1, .ref (Z 3), X 3, .ref (Z 5), X 5, X 6, X 7, X 8, X 9, X 10, X 11, X 12]))], [(Z 3, .inl (cB, 32008, .inl (V 0)))], [(Z 5, .inl (cI, 32008, .inl (V 2)))], [(Z 7, .inl (cJ, 200, .inr (.inl vv)))]]) (r := []) (cs2 := [[(Z 0, .inr (8, [E 0, E 1, E 2, .ref (Z 1), .int (nI aa3), E 5, E 6, E 7, E 8, .ref (Z 2), E 10, E 11, E 12, E 13, E 14, .ref (Z 7), .int (nI al), E 17, E 18]))], [(Z 2, .inr (0, []))], [(Z 1, .inr (7, [X 0, X 1, .ref (Z 3), X 3, .ref (Z 5), X 5, X 6, X 7, X 8, X 9, X 10, X 11, X 12]))], [(Z 3, .inl (cB, 32008, .inl (V 0)))], [(Z 5, .inl (cI, 32008, .inl (V 2)))], [(Z 7, .inl (cJ, 200, .inr (.inl vv)))]]) rfl ?_
      refine jJ_eq (g2 := F0 m 65 ls [.long (lI xv3)]) (cs2 := [[(Z 0, .inr (8, [E 0, E 1, E 2, .ref (Z 1), .int (nI aa3), E 5, E 6, E 7, E 8, .ref (Z 2), E 10, E 11, E 12, E 13, E 14, .ref (Z 7), .int (nI al), E 17, E 18]))], [(Z 2, .inr (0, []))], [(Z 1, .inr (7, [X 0, X 1, .ref (Z 3), X 3, .ref (Z 5), X 5, X 6, X 7, X 8, X 9, X 10, X 11, X 12]))], [(Z 3, .inl (cB, 32008, .inl (V 0)))], [(Z 5, .inl (cI, 32008, .inl (V 2)))], [(Z 7, .inl (cJ, 200, .inr (.inl vv)))]]) rfl rfl ?_
      refine jJ_ofL (fun H locs => lv_lstore_n (lv' := [(2, .long (lI xv3)), (1, .int (nI (kW ((tk 0).getD a 0) ((tk 2).getD a 0)))), (0, .ref (Z 0))]) hx hb dX10_factor_65 rfl hl (by decide) rfl) (fun ls hl => ?_)
      refine jJ_of (fun H locs => lv_iload_n hx hb dX10_factor_66 rfl (lv_at hl 1 rfl)) ?_
      refine jJ_of (fun H locs => lv_iconst (v := (nI 5)) hx hb dX10_factor_67 (by decide)) ?_
      refine jJ_of2 (fun H locs => jn_icmp_ne (tgt := 84) hx hb dX10_factor_68 (by decide) (by omega) (by omega)) (fun c68 => ?_) (fun c68 => ?_)
      · refine jJ_of (fun H locs => lv_iload_n hx hb dX10_factor_84 rfl (lv_at hl 1 rfl)) ?_
        refine jJ_of (fun H locs => lv_bipush (v := (nI 6)) hx hb dX10_factor_85 (by decide)) ?_
        refine jJ_of2 (fun H locs => jn_icmp_ne (tgt := 106) hx hb dX10_factor_87 (by decide) (by omega) (by omega)) (fun c87 => ?_) (fun c87 => ?_)
        · refine jJ_of (fun H locs => lv_iload_n hx hb dX10_factor_106 rfl (lv_at hl 1 rfl)) ?_
          refine jJ_of (fun H locs => lv_bipush (v := (nI 7)) hx hb dX10_factor_107 (by decide)) ?_
          refine jJ_of2 (fun H locs => jn_icmp_ne (tgt := 130) hx hb dX10_factor_109 (by decide) (by omega) (by omega)) (fun c109 => ?_) (fun c109 => ?_)
          · have hk9 : (tk 0).getD a 0 = 308 := by omega
            refine jJ_of (fun H locs => lv_lload_n hx hb dX10_factor_130 rfl (lv_at hl 0 rfl)) ?_
            refine jJ_of (fun H locs => jn_lconst (v := 0) hx hb dX10_factor_131 rfl) ?_
            refine jJ_of (fun H locs => W.lcmp hx hb dX10_factor_132) ?_
            refine jJ_of2 (fun H locs => jl_if_ge (tgt := 142) hx hb dX10_factor_133 (by decide) (by omega) (by omega) (by omega) (by omega)) (fun c133 => ?_) (fun c133 => ?_)
            · refine jJ_of (fun H locs => lv_aload_n hx hb dX10_factor_142 rfl (lv_at hl 2 rfl)) ?_
              refine jJ_of (fun H locs => lv_ldc2 (v := (lI 1000)) hx hb hown (by rw [show (lI 1000) = (1000 : Int64) from by decide]; exact (hts (.constantLong RX10 265 (1000)) (by decide +kernel))) dX10_factor_143) ?_
              refine jJ_of (fun H locs => lv_lload_n hx hb dX10_factor_146 rfl (lv_at hl 0 rfl)) ?_
              refine jJ_of (fun H locs => jl_lmul hx hb dX10_factor_147) ?_
              refine jJ_callS (As := [.long (lI (1000 * xv3))]) (rest := [.ref (Z 0)]) (wc := _) (cs2 := [[(Z 0, .inr (8, [E 0, E 1, E 2, .ref (Z 1), .int (nI aa3), E 5, E 6, E 7, E 8, .ref (Z 2), E 10, E 11, E 12, E 13, E 14, .ref (Z 7), .int (nI al), E 17, E 18]))], [(Z 2, .inr (0, []))], [(Z 1, .inr (7, [X 0, X 1, .ref (Z 3), X 3, .ref (Z 5), X 5, X 6, X 7, X 8, X 9, X 10, X 11, X 12]))], [(Z 3, .inl (cB, 32008, .inl (V 0)))], [(Z 5, .inl (cI, 32008, .inl (V 2)))], [(Z 7, .inl (cJ, 200, .inr (.inl vv)))]]) [] [0, 1, 2, 3, 4, 5] ⟨hx, hb, hml, hown, hts⟩ hK hA hAm (c_Md_root (1000 * xv3) (by omega) (by omega)) (va_cwS 1 hts gX10_factor_X10_root rfl rfl rfl (by decide +kernel) ⟨by show (0) + 1 ≤ 8 * r + 9; omega, by show 8 + (8 + 11) + (0) ≤ 320 * r + 400; omega⟩) (nn := 6) rfl (by decide) rfl rfl rfl rfl hl.1 (Nat.le_of_ble_eq_true rfl) dX10_factor_148 (by show _ + 0 ≤ 0; omega) (by show _ + 0 ≤ 0; omega) (fun v u4 k4 n4 hq4 => ?_)
              obtain ⟨rfl, rfl, rfl, rfl⟩ := hq4
              refine jJ_eq (g2 := F0 m 151 ls [.long (lI (vRt (1000 * xv3))), .ref (Z 0)]) (cs2 := [([] : va_W), [(Z 0, .inr (8, [E 0, E 1, E 2, .ref (Z 1), .int (nI aa3), E 5, E 6, E 7, E 8, .ref (Z 2), E 10, E 11, E 12, E 13, E 14, .ref (Z 7), .int (nI al), E 17, E 18]))], [(Z 2, .inr (0, []))], [(Z 1, .inr (7, [X 0, X 1, .ref (Z 3), X 3, .ref (Z 5), X 5, X 6, X 7, X 8, X 9, X 10, X 11, X 12]))], [(Z 3, .inl (cB, 32008, .inl (V 0)))], [(Z 5, .inl (cI, 32008, .inl (V 2)))], [(Z 7, .inl (cJ, 200, .inr (.inl vv)))]]) rfl rfl ?_
              refine jJ_flat (cs2 := [[(Z 0, .inr (8, [E 0, E 1, E 2, .ref (Z 1), .int (nI aa3), E 5, E 6, E 7, E 8, .ref (Z 2), E 10, E 11, E 12, E 13, E 14, .ref (Z 7), .int (nI al), E 17, E 18]))], [(Z 2, .inr (0, []))], [(Z 1, .inr (7, [X 0, X 1, .ref (Z 3), X 3, .ref (Z 5), X 5, X 6, X 7, X 8, X 9, X 10, X 11, X 12]))], [(Z 3, .inl (cB, 32008, .inl (V 0)))], [(Z 5, .inl (cI, 32008, .inl (V 2)))], [(Z 7, .inl (cJ, 200, .inr (.inl vv)))]]) rfl ?_
              have hrt151 := vRt_b (1000 * xv3)
              refine jX_callV (As := [.long (lI (vRt (1000 * xv3)))]) (rest := []) (wc := jF (aWd Z (lsV [E 0, E 1, E 2, .ref (Z 1), .int (nI aa3), E 5, E 6, E 7, E 8, .null, E 10, E 11, E 12, E 13, E 14, .ref (Z 7), .null, E 17, E 18]) al)) (cs2 := [[(Z 1, .inr (7, [X 0, X 1, .ref (Z 3), X 3, .ref (Z 5), X 5, X 6, X 7, X 8, X 9, X 10, X 11, X 12]))], [(Z 3, .inl (cB, 32008, .inl (V 0)))], [(Z 5, .inl (cI, 32008, .inl (V 2)))], [(Z 7, .inl (cJ, 200, .inr (.inl vv)))]]) (C := RX10) (T := TX10) (N := 19) (ci := 8) [0, 1] [2, 3, 4, 5] ⟨hx, hb, hml, hown, hts⟩ hK hA hAm (c_Md_fits (E := lsV [E 0, E 1, E 2, .ref (Z 1), .int (nI aa3), E 5, E 6, E 7, E 8, .null, E 10, E 11, E 12, E 13, E 14, .ref (Z 7), .null, E 17, E 18]) (al := al) (vRt (1000 * xv3)) (by omega) (by omega)) (cwV 1 hts gX10_factor_X10_fits rfl rfl rfl (by decide +kernel) ⟨by show (1) + 1 ≤ 8 * r + 9; omega, by show 8 + (3 + 11) + (40) ≤ 320 * r + 400; omega⟩) (nn := 6) rfl (by decide) rfl rfl ⟨0, _, rfl⟩ rfl rfl rfl hl.1 (Nat.le_of_ble_eq_true rfl) dX10_factor_151 (by show _ + 0 ≤ 0; omega) (by show _ + 0 ≤ 0; omega) (fun u5 k5 n5 q5 hx5 => ?_) (fun v u5 k5 n5 hq5 => ?_)
              · obtain ⟨hb5, hu5, rfl, rfl⟩ := hx5
                rw [hu5]
                have he : xFac tk N vs r a = (4, 0) := by rw [xFac_f (by omega), hxe3, xThen_0, show (tk 0).getD a 0 = 308 by omega]; exact xop1_4 (by omega) (vOne_8 _) hb5
                exact jJx_out hno hlocks (by show _ ≤ 0; omega) (by show _ ≤ 0; omega) ⟨by rw [he]; exact (by decide : ¬ 4 = 0), ⟨_, by rw [he]; rfl⟩, rfl, rfl⟩
              obtain ⟨hb5, rfl, hw5, rfl, rfl⟩ := hq5
              rw [hw5]
              have hvk5 := vTG_ok (z := vRt (1000 * xv3)) hb5
              refine jJ_open (xs := [[(Z 0, .inr (8, [E 0, E 1, E 2, .ref (Z 1), .int (nI aa3), E 5, E 6, E 7, E 8, .ref (Z 2), E 10, E 11, E 12, E 13, E 14, .ref (Z 7), .int (nI al), E 17, E 18]))], [(Z 2, .inr (0, []))]]) (r := [[(Z 1, .inr (7, [X 0, X 1, .ref (Z 3), X 3, .ref (Z 5), X 5, X 6, X 7, X 8, X 9, X 10, X 11, X 12]))], [(Z 3, .inl (cB, 32008, .inl (V 0)))], [(Z 5, .inl (cI, 32008, .inl (V 2)))], [(Z 7, .inl (cJ, 200, .inr (.inl vv)))]]) (cs2 := [[(Z 0, .inr (8, [E 0, E 1, E 2, .ref (Z 1), .int (nI aa3), E 5, E 6, E 7, E 8, .ref (Z 2), E 10, E 11, E 12, E 13, E 14, .ref (Z 7), .int (nI al), E 17, E 18]))], [(Z 2, .inr (0, []))], [(Z 1, .inr (7, [X 0, X 1, .ref (Z 3), X 3, .ref (Z 5), X 5, X 6, X 7, X 8, X 9, X 10, X 11, X 12]))], [(Z 3, .inl (cB, 32008, .inl (V 0)))], [(Z 5, .inl (cI, 32008, .inl (V 2)))], [(Z 7, .inl (cJ, 200, .inr (.inl vv)))]]) rfl ?_
              refine jJ_eq (g2 := F0 m 154 ls [.long (lI (vRt (1000 * xv3)))]) (cs2 := [[(Z 0, .inr (8, [E 0, E 1, E 2, .ref (Z 1), .int (nI aa3), E 5, E 6, E 7, E 8, .ref (Z 2), E 10, E 11, E 12, E 13, E 14, .ref (Z 7), .int (nI al), E 17, E 18]))], [(Z 2, .inr (0, []))], [(Z 1, .inr (7, [X 0, X 1, .ref (Z 3), X 3, .ref (Z 5), X 5, X 6, X 7, X 8, X 9, X 10, X 11, X 12]))], [(Z 3, .inl (cB, 32008, .inl (V 0)))], [(Z 5, .inl (cI, 32008, .inl (V 2)))], [(Z 7, .inl (cJ, 200, .inr (.inl vv)))]]) rfl rfl ?_
              have heq : (qFac tk N r a).2 = aa3 := by rw [heqf, heq3]
              have he : xFac tk N vs r a = (0, (vRt (1000 * xv3) : Int)) := by rw [xFac_f (by omega), hxe3, xThen_0, show (tk 0).getD a 0 = 308 by omega]; exact xop1_ok (by omega) (vOne_8 _) hb5
              exact jJ_toX (jJ_lret hx hb hr hlocks dX10_factor_154 (by show _ ≤ 0; omega) (by show _ ≤ 0; omega) ⟨by rw [he], by rw [he], by rw [heq]; rfl, rfl, rfl⟩)
            · refine jJ_of (fun H locs => lv_aload_n hx hb dX10_factor_136 rfl (lv_at hl 2 rfl)) ?_
              refine jJ_of (fun H locs => lv_iconst (v := (nI 1)) hx hb dX10_factor_137 (by decide)) ?_
              refine jJ_callV (As := [.int (nI 1)]) (rest := []) (wc := jF (aWd Z (lsV [E 0, E 1, E 2, .ref (Z 1), .int (nI aa3), E 5, E 6, E 7, E 8, .null, E 10, E 11, E 12, E 13, E 14, .ref (Z 7), .null, E 17, E 18]) al)) (cs2 := [[(Z 1, .inr (7, [X 0, X 1, .ref (Z 3), X 3, .ref (Z 5), X 5, X 6, X 7, X 8, X 9, X 10, X 11, X 12]))], [(Z 3, .inl (cB, 32008, .inl (V 0)))], [(Z 5, .inl (cI, 32008, .inl (V 2)))], [(Z 7, .inl (cJ, 200, .inr (.inl vv)))]]) (C := RX10) (T := TX10) (N := 19) (ci := 8) [0, 1] [2, 3, 4, 5] ⟨hx, hb, hml, hown, hts⟩ hK hA hAm (c_Md_alarmed (E := lsV [E 0, E 1, E 2, .ref (Z 1), .int (nI aa3), E 5, E 6, E 7, E 8, .null, E 10, E 11, E 12, E 13, E 14, .ref (Z 7), .null, E 17, E 18]) (al := al) 1) (cwV 1 hts gX10_factor_X10_alarmed rfl rfl rfl (by decide +kernel) ⟨by show (0) + 1 ≤ 8 * r + 9; omega, by show 8 + (2 + 11) + (0) ≤ 320 * r + 400; omega⟩) (nn := 6) rfl (by decide) rfl rfl ⟨0, _, rfl⟩ rfl rfl rfl hl.1 (Nat.le_of_ble_eq_true rfl) dX10_factor_138 (by show _ + 0 ≤ 0; omega) (by show _ + 0 ≤ 0; omega) (fun v u6 k6 n6 hq6 => ?_)
              obtain ⟨rfl, hw6, rfl, rfl⟩ := hq6
              rw [hw6]
              refine jJ_open (xs := [[(Z 0, .inr (8, [E 0, E 1, E 2, .ref (Z 1), .int (nI aa3), E 5, E 6, E 7, E 8, .ref (Z 2), E 10, E 11, E 12, E 13, E 14, .ref (Z 7), .int (nI 1), E 17, E 18]))], [(Z 2, .inr (0, []))]]) (r := [[(Z 1, .inr (7, [X 0, X 1, .ref (Z 3), X 3, .ref (Z 5), X 5, X 6, X 7, X 8, X 9, X 10, X 11, X 12]))], [(Z 3, .inl (cB, 32008, .inl (V 0)))], [(Z 5, .inl (cI, 32008, .inl (V 2)))], [(Z 7, .inl (cJ, 200, .inr (.inl vv)))]]) (cs2 := [[(Z 0, .inr (8, [E 0, E 1, E 2, .ref (Z 1), .int (nI aa3), E 5, E 6, E 7, E 8, .ref (Z 2), E 10, E 11, E 12, E 13, E 14, .ref (Z 7), .int (nI 1), E 17, E 18]))], [(Z 2, .inr (0, []))], [(Z 1, .inr (7, [X 0, X 1, .ref (Z 3), X 3, .ref (Z 5), X 5, X 6, X 7, X 8, X 9, X 10, X 11, X 12]))], [(Z 3, .inl (cB, 32008, .inl (V 0)))], [(Z 5, .inl (cI, 32008, .inl (V 2)))], [(Z 7, .inl (cJ, 200, .inr (.inl vv)))]]) rfl ?_
              refine jJ_eq (g2 := F0 m 141 ls [.ref (Z 2)]) (cs2 := [[(Z 0, .inr (8, [E 0, E 1, E 2, .ref (Z 1), .int (nI aa3), E 5, E 6, E 7, E 8, .ref (Z 2), E 10, E 11, E 12, E 13, E 14, .ref (Z 7), .int (nI 1), E 17, E 18]))], [(Z 2, .inr (0, []))], [(Z 1, .inr (7, [X 0, X 1, .ref (Z 3), X 3, .ref (Z 5), X 5, X 6, X 7, X 8, X 9, X 10, X 11, X 12]))], [(Z 3, .inl (cB, 32008, .inl (V 0)))], [(Z 5, .inl (cI, 32008, .inl (V 2)))], [(Z 7, .inl (cJ, 200, .inr (.inl vv)))]]) rfl rfl ?_
              refine jJ_athrow hx hb hK 1 rfl dX10_factor_141 ?_
              have he : xFac tk N vs r a = (1, 0) := by rw [xFac_f (by omega), hxe3, xThen_0, show (tk 0).getD a 0 = 308 by omega]; exact xop1_1 (by omega)
              exact jJx_out hno hlocks (by show _ ≤ 0; omega) (by show _ ≤ 0; omega) ⟨by rw [he]; exact (by decide : ¬ 1 = 0), ⟨_, by rw [he]; rfl⟩, rfl, rfl⟩
          · have hk9 : (tk 0).getD a 0 = 307 := by omega
            refine jJ_of (fun H locs => lv_aload_n hx hb dX10_factor_112 rfl (lv_at hl 2 rfl)) ?_
            refine jJ_of (fun H locs => lv_lload_n hx hb dX10_factor_113 rfl (lv_at hl 0 rfl)) ?_
            refine jJ_of (fun H locs => jl_lneg hx hb dX10_factor_114) ?_
            refine jJ_of (fun H locs => lv_ldc2 (v := (lI 1000)) hx hb hown (by rw [show (lI 1000) = (1000 : Int64) from by decide]; exact (hts (.constantLong RX10 265 (1000)) (by decide +kernel))) dX10_factor_115) ?_
            refine jJ_callS (As := [.long (lI (-xv3)), .long (lI 1000)]) (rest := [.ref (Z 0)]) (wc := _) (cs2 := [[(Z 0, .inr (8, [E 0, E 1, E 2, .ref (Z 1), .int (nI aa3), E 5, E 6, E 7, E 8, .ref (Z 2), E 10, E 11, E 12, E 13, E 14, .ref (Z 7), .int (nI al), E 17, E 18]))], [(Z 2, .inr (0, []))], [(Z 1, .inr (7, [X 0, X 1, .ref (Z 3), X 3, .ref (Z 5), X 5, X 6, X 7, X 8, X 9, X 10, X 11, X 12]))], [(Z 3, .inl (cB, 32008, .inl (V 0)))], [(Z 5, .inl (cI, 32008, .inl (V 2)))], [(Z 7, .inl (cJ, 200, .inr (.inl vv)))]]) [] [0, 1, 2, 3, 4, 5] ⟨hx, hb, hml, hown, hts⟩ hK hA hAm (c_Md_down (-xv3) 1000 (by omega) (by omega) (by omega) (by omega) (by omega)) (va_cwS 2 hts gX10_factor_X10_down rfl rfl rfl (by decide +kernel) ⟨by show (0) + 1 ≤ 8 * r + 9; omega, by show 8 + (6 + 11) + (0) ≤ 320 * r + 400; omega⟩) (nn := 6) rfl (by decide) rfl rfl rfl rfl hl.1 (Nat.le_of_ble_eq_true rfl) dX10_factor_118 (by show _ + 0 ≤ 0; omega) (by show _ + 0 ≤ 0; omega) (fun v u7 k7 n7 hq7 => ?_)
            obtain ⟨rfl, rfl, rfl, rfl⟩ := hq7
            refine jJ_eq (g2 := F0 m 121 ls [.long (lI (Int.fdiv (-xv3) 1000)), .ref (Z 0)]) (cs2 := [([] : va_W), [(Z 0, .inr (8, [E 0, E 1, E 2, .ref (Z 1), .int (nI aa3), E 5, E 6, E 7, E 8, .ref (Z 2), E 10, E 11, E 12, E 13, E 14, .ref (Z 7), .int (nI al), E 17, E 18]))], [(Z 2, .inr (0, []))], [(Z 1, .inr (7, [X 0, X 1, .ref (Z 3), X 3, .ref (Z 5), X 5, X 6, X 7, X 8, X 9, X 10, X 11, X 12]))], [(Z 3, .inl (cB, 32008, .inl (V 0)))], [(Z 5, .inl (cI, 32008, .inl (V 2)))], [(Z 7, .inl (cJ, 200, .inr (.inl vv)))]]) rfl rfl ?_
            refine jJ_flat (cs2 := [[(Z 0, .inr (8, [E 0, E 1, E 2, .ref (Z 1), .int (nI aa3), E 5, E 6, E 7, E 8, .ref (Z 2), E 10, E 11, E 12, E 13, E 14, .ref (Z 7), .int (nI al), E 17, E 18]))], [(Z 2, .inr (0, []))], [(Z 1, .inr (7, [X 0, X 1, .ref (Z 3), X 3, .ref (Z 5), X 5, X 6, X 7, X 8, X 9, X 10, X 11, X 12]))], [(Z 3, .inl (cB, 32008, .inl (V 0)))], [(Z 5, .inl (cI, 32008, .inl (V 2)))], [(Z 7, .inl (cJ, 200, .inr (.inl vv)))]]) rfl ?_
            have hfd121 := vFdB (a := -xv3) (b := 1000) (by omega)
            refine jJ_of (fun H locs => jl_lneg hx hb dX10_factor_121) ?_
            refine jJ_of (fun H locs => lv_ldc2 (v := (lI 1000)) hx hb hown (by rw [show (lI 1000) = (1000 : Int64) from by decide]; exact (hts (.constantLong RX10 265 (1000)) (by decide +kernel))) dX10_factor_122) ?_
            refine jJ_of (fun H locs => jl_lmul hx hb dX10_factor_125) ?_
            refine jX_callV (As := [.long (lI ((-(Int.fdiv (-xv3) 1000)) * 1000))]) (rest := []) (wc := jF (aWd Z (lsV [E 0, E 1, E 2, .ref (Z 1), .int (nI aa3), E 5, E 6, E 7, E 8, .null, E 10, E 11, E 12, E 13, E 14, .ref (Z 7), .null, E 17, E 18]) al)) (cs2 := [[(Z 1, .inr (7, [X 0, X 1, .ref (Z 3), X 3, .ref (Z 5), X 5, X 6, X 7, X 8, X 9, X 10, X 11, X 12]))], [(Z 3, .inl (cB, 32008, .inl (V 0)))], [(Z 5, .inl (cI, 32008, .inl (V 2)))], [(Z 7, .inl (cJ, 200, .inr (.inl vv)))]]) (C := RX10) (T := TX10) (N := 19) (ci := 8) [0, 1] [2, 3, 4, 5] ⟨hx, hb, hml, hown, hts⟩ hK hA hAm (c_Md_fits (E := lsV [E 0, E 1, E 2, .ref (Z 1), .int (nI aa3), E 5, E 6, E 7, E 8, .null, E 10, E 11, E 12, E 13, E 14, .ref (Z 7), .null, E 17, E 18]) (al := al) ((-(Int.fdiv (-xv3) 1000)) * 1000) (by omega) (by omega)) (cwV 1 hts gX10_factor_X10_fits rfl rfl rfl (by decide +kernel) ⟨by show (1) + 1 ≤ 8 * r + 9; omega, by show 8 + (3 + 11) + (40) ≤ 320 * r + 400; omega⟩) (nn := 6) rfl (by decide) rfl rfl ⟨0, _, rfl⟩ rfl rfl rfl hl.1 (Nat.le_of_ble_eq_true rfl) dX10_factor_126 (by show _ + 0 ≤ 0; omega) (by show _ + 0 ≤ 0; omega) (fun u8 k8 n8 q8 hx8 => ?_) (fun v u8 k8 n8 hq8 => ?_)
            · obtain ⟨hb8, hu8, rfl, rfl⟩ := hx8
              rw [hu8]
              have he : xFac tk N vs r a = (4, 0) := by rw [xFac_f (by omega), hxe3, xThen_0, show (tk 0).getD a 0 = 307 by omega]; exact xop1_4 (by omega) (vOne_7 _) hb8
              exact jJx_out hno hlocks (by show _ ≤ 0; omega) (by show _ ≤ 0; omega) ⟨by rw [he]; exact (by decide : ¬ 4 = 0), ⟨_, by rw [he]; rfl⟩, rfl, rfl⟩
            obtain ⟨hb8, rfl, hw8, rfl, rfl⟩ := hq8
            rw [hw8]
            have hvk8 := vTG_ok (z := (-(Int.fdiv (-xv3) 1000)) * 1000) hb8
            refine jJ_open (xs := [[(Z 0, .inr (8, [E 0, E 1, E 2, .ref (Z 1), .int (nI aa3), E 5, E 6, E 7, E 8, .ref (Z 2), E 10, E 11, E 12, E 13, E 14, .ref (Z 7), .int (nI al), E 17, E 18]))], [(Z 2, .inr (0, []))]]) (r := [[(Z 1, .inr (7, [X 0, X 1, .ref (Z 3), X 3, .ref (Z 5), X 5, X 6, X 7, X 8, X 9, X 10, X 11, X 12]))], [(Z 3, .inl (cB, 32008, .inl (V 0)))], [(Z 5, .inl (cI, 32008, .inl (V 2)))], [(Z 7, .inl (cJ, 200, .inr (.inl vv)))]]) (cs2 := [[(Z 0, .inr (8, [E 0, E 1, E 2, .ref (Z 1), .int (nI aa3), E 5, E 6, E 7, E 8, .ref (Z 2), E 10, E 11, E 12, E 13, E 14, .ref (Z 7), .int (nI al), E 17, E 18]))], [(Z 2, .inr (0, []))], [(Z 1, .inr (7, [X 0, X 1, .ref (Z 3), X 3, .ref (Z 5), X 5, X 6, X 7, X 8, X 9, X 10, X 11, X 12]))], [(Z 3, .inl (cB, 32008, .inl (V 0)))], [(Z 5, .inl (cI, 32008, .inl (V 2)))], [(Z 7, .inl (cJ, 200, .inr (.inl vv)))]]) rfl ?_
            refine jJ_eq (g2 := F0 m 129 ls [.long (lI ((-(Int.fdiv (-xv3) 1000)) * 1000))]) (cs2 := [[(Z 0, .inr (8, [E 0, E 1, E 2, .ref (Z 1), .int (nI aa3), E 5, E 6, E 7, E 8, .ref (Z 2), E 10, E 11, E 12, E 13, E 14, .ref (Z 7), .int (nI al), E 17, E 18]))], [(Z 2, .inr (0, []))], [(Z 1, .inr (7, [X 0, X 1, .ref (Z 3), X 3, .ref (Z 5), X 5, X 6, X 7, X 8, X 9, X 10, X 11, X 12]))], [(Z 3, .inl (cB, 32008, .inl (V 0)))], [(Z 5, .inl (cI, 32008, .inl (V 2)))], [(Z 7, .inl (cJ, 200, .inr (.inl vv)))]]) rfl rfl ?_
            have heq : (qFac tk N r a).2 = aa3 := by rw [heqf, heq3]
            have he : xFac tk N vs r a = (0, ((-(Int.fdiv (-xv3) 1000)) * 1000 : Int)) := by rw [xFac_f (by omega), hxe3, xThen_0, show (tk 0).getD a 0 = 307 by omega]; exact xop1_ok (by omega) (vOne_7 _) hb8
            exact jJ_toX (jJ_lret hx hb hr hlocks dX10_factor_129 (by show _ ≤ 0; omega) (by show _ ≤ 0; omega) ⟨by rw [he], by rw [he], by rw [heq]; rfl, rfl, rfl⟩)
        · have hk9 : (tk 0).getD a 0 = 306 := by omega
          refine jJ_of (fun H locs => lv_aload_n hx hb dX10_factor_90 rfl (lv_at hl 2 rfl)) ?_
          refine jJ_of (fun H locs => lv_lload_n hx hb dX10_factor_91 rfl (lv_at hl 0 rfl)) ?_
          refine jJ_of (fun H locs => lv_ldc2 (v := (lI 1000)) hx hb hown (by rw [show (lI 1000) = (1000 : Int64) from by decide]; exact (hts (.constantLong RX10 265 (1000)) (by decide +kernel))) dX10_factor_92) ?_
          refine jJ_callS (As := [.long (lI xv3), .long (lI 1000)]) (rest := [.ref (Z 0)]) (wc := _) (cs2 := [[(Z 0, .inr (8, [E 0, E 1, E 2, .ref (Z 1), .int (nI aa3), E 5, E 6, E 7, E 8, .ref (Z 2), E 10, E 11, E 12, E 13, E 14, .ref (Z 7), .int (nI al), E 17, E 18]))], [(Z 2, .inr (0, []))], [(Z 1, .inr (7, [X 0, X 1, .ref (Z 3), X 3, .ref (Z 5), X 5, X 6, X 7, X 8, X 9, X 10, X 11, X 12]))], [(Z 3, .inl (cB, 32008, .inl (V 0)))], [(Z 5, .inl (cI, 32008, .inl (V 2)))], [(Z 7, .inl (cJ, 200, .inr (.inl vv)))]]) [] [0, 1, 2, 3, 4, 5] ⟨hx, hb, hml, hown, hts⟩ hK hA hAm (c_Md_down xv3 1000 (by omega) (by omega) (by omega) (by omega) (by omega)) (va_cwS 2 hts gX10_factor_X10_down rfl rfl rfl (by decide +kernel) ⟨by show (0) + 1 ≤ 8 * r + 9; omega, by show 8 + (6 + 11) + (0) ≤ 320 * r + 400; omega⟩) (nn := 6) rfl (by decide) rfl rfl rfl rfl hl.1 (Nat.le_of_ble_eq_true rfl) dX10_factor_95 (by show _ + 0 ≤ 0; omega) (by show _ + 0 ≤ 0; omega) (fun v u9 k9 n9 hq9 => ?_)
          obtain ⟨rfl, rfl, rfl, rfl⟩ := hq9
          refine jJ_eq (g2 := F0 m 98 ls [.long (lI (Int.fdiv xv3 1000)), .ref (Z 0)]) (cs2 := [([] : va_W), [(Z 0, .inr (8, [E 0, E 1, E 2, .ref (Z 1), .int (nI aa3), E 5, E 6, E 7, E 8, .ref (Z 2), E 10, E 11, E 12, E 13, E 14, .ref (Z 7), .int (nI al), E 17, E 18]))], [(Z 2, .inr (0, []))], [(Z 1, .inr (7, [X 0, X 1, .ref (Z 3), X 3, .ref (Z 5), X 5, X 6, X 7, X 8, X 9, X 10, X 11, X 12]))], [(Z 3, .inl (cB, 32008, .inl (V 0)))], [(Z 5, .inl (cI, 32008, .inl (V 2)))], [(Z 7, .inl (cJ, 200, .inr (.inl vv)))]]) rfl rfl ?_
          refine jJ_flat (cs2 := [[(Z 0, .inr (8, [E 0, E 1, E 2, .ref (Z 1), .int (nI aa3), E 5, E 6, E 7, E 8, .ref (Z 2), E 10, E 11, E 12, E 13, E 14, .ref (Z 7), .int (nI al), E 17, E 18]))], [(Z 2, .inr (0, []))], [(Z 1, .inr (7, [X 0, X 1, .ref (Z 3), X 3, .ref (Z 5), X 5, X 6, X 7, X 8, X 9, X 10, X 11, X 12]))], [(Z 3, .inl (cB, 32008, .inl (V 0)))], [(Z 5, .inl (cI, 32008, .inl (V 2)))], [(Z 7, .inl (cJ, 200, .inr (.inl vv)))]]) rfl ?_
          have hfd98 := vFdB (a := xv3) (b := 1000) (by omega)
          refine jJ_of (fun H locs => lv_ldc2 (v := (lI 1000)) hx hb hown (by rw [show (lI 1000) = (1000 : Int64) from by decide]; exact (hts (.constantLong RX10 265 (1000)) (by decide +kernel))) dX10_factor_98) ?_
          refine jJ_of (fun H locs => jl_lmul hx hb dX10_factor_101) ?_
          refine jX_callV (As := [.long (lI ((Int.fdiv xv3 1000) * 1000))]) (rest := []) (wc := jF (aWd Z (lsV [E 0, E 1, E 2, .ref (Z 1), .int (nI aa3), E 5, E 6, E 7, E 8, .null, E 10, E 11, E 12, E 13, E 14, .ref (Z 7), .null, E 17, E 18]) al)) (cs2 := [[(Z 1, .inr (7, [X 0, X 1, .ref (Z 3), X 3, .ref (Z 5), X 5, X 6, X 7, X 8, X 9, X 10, X 11, X 12]))], [(Z 3, .inl (cB, 32008, .inl (V 0)))], [(Z 5, .inl (cI, 32008, .inl (V 2)))], [(Z 7, .inl (cJ, 200, .inr (.inl vv)))]]) (C := RX10) (T := TX10) (N := 19) (ci := 8) [0, 1] [2, 3, 4, 5] ⟨hx, hb, hml, hown, hts⟩ hK hA hAm (c_Md_fits (E := lsV [E 0, E 1, E 2, .ref (Z 1), .int (nI aa3), E 5, E 6, E 7, E 8, .null, E 10, E 11, E 12, E 13, E 14, .ref (Z 7), .null, E 17, E 18]) (al := al) ((Int.fdiv xv3 1000) * 1000) (by omega) (by omega)) (cwV 1 hts gX10_factor_X10_fits rfl rfl rfl (by decide +kernel) ⟨by show (1) + 1 ≤ 8 * r + 9; omega, by show 8 + (3 + 11) + (40) ≤ 320 * r + 400; omega⟩) (nn := 6) rfl (by decide) rfl rfl ⟨0, _, rfl⟩ rfl rfl rfl hl.1 (Nat.le_of_ble_eq_true rfl) dX10_factor_102 (by show _ + 0 ≤ 0; omega) (by show _ + 0 ≤ 0; omega) (fun u10 k10 n10 q10 hx10 => ?_) (fun v u10 k10 n10 hq10 => ?_)
          · obtain ⟨hb10, hu10, rfl, rfl⟩ := hx10
            rw [hu10]
            have he : xFac tk N vs r a = (4, 0) := by rw [xFac_f (by omega), hxe3, xThen_0, show (tk 0).getD a 0 = 306 by omega]; exact xop1_4 (by omega) (vOne_6 _) hb10
            exact jJx_out hno hlocks (by show _ ≤ 0; omega) (by show _ ≤ 0; omega) ⟨by rw [he]; exact (by decide : ¬ 4 = 0), ⟨_, by rw [he]; rfl⟩, rfl, rfl⟩
          obtain ⟨hb10, rfl, hw10, rfl, rfl⟩ := hq10
          rw [hw10]
          have hvk10 := vTG_ok (z := (Int.fdiv xv3 1000) * 1000) hb10
          refine jJ_open (xs := [[(Z 0, .inr (8, [E 0, E 1, E 2, .ref (Z 1), .int (nI aa3), E 5, E 6, E 7, E 8, .ref (Z 2), E 10, E 11, E 12, E 13, E 14, .ref (Z 7), .int (nI al), E 17, E 18]))], [(Z 2, .inr (0, []))]]) (r := [[(Z 1, .inr (7, [X 0, X 1, .ref (Z 3), X 3, .ref (Z 5), X 5, X 6, X 7, X 8, X 9, X 10, X 11, X 12]))], [(Z 3, .inl (cB, 32008, .inl (V 0)))], [(Z 5, .inl (cI, 32008, .inl (V 2)))], [(Z 7, .inl (cJ, 200, .inr (.inl vv)))]]) (cs2 := [[(Z 0, .inr (8, [E 0, E 1, E 2, .ref (Z 1), .int (nI aa3), E 5, E 6, E 7, E 8, .ref (Z 2), E 10, E 11, E 12, E 13, E 14, .ref (Z 7), .int (nI al), E 17, E 18]))], [(Z 2, .inr (0, []))], [(Z 1, .inr (7, [X 0, X 1, .ref (Z 3), X 3, .ref (Z 5), X 5, X 6, X 7, X 8, X 9, X 10, X 11, X 12]))], [(Z 3, .inl (cB, 32008, .inl (V 0)))], [(Z 5, .inl (cI, 32008, .inl (V 2)))], [(Z 7, .inl (cJ, 200, .inr (.inl vv)))]]) rfl ?_
          refine jJ_eq (g2 := F0 m 105 ls [.long (lI ((Int.fdiv xv3 1000) * 1000))]) (cs2 := [[(Z 0, .inr (8, [E 0, E 1, E 2, .ref (Z 1), .int (nI aa3), E 5, E 6, E 7, E 8, .ref (Z 2), E 10, E 11, E 12, E 13, E 14, .ref (Z 7), .int (nI al), E 17, E 18]))], [(Z 2, .inr (0, []))], [(Z 1, .inr (7, [X 0, X 1, .ref (Z 3), X 3, .ref (Z 5), X 5, X 6, X 7, X 8, X 9, X 10, X 11, X 12]))], [(Z 3, .inl (cB, 32008, .inl (V 0)))], [(Z 5, .inl (cI, 32008, .inl (V 2)))], [(Z 7, .inl (cJ, 200, .inr (.inl vv)))]]) rfl rfl ?_
          have heq : (qFac tk N r a).2 = aa3 := by rw [heqf, heq3]
          have he : xFac tk N vs r a = (0, ((Int.fdiv xv3 1000) * 1000 : Int)) := by rw [xFac_f (by omega), hxe3, xThen_0, show (tk 0).getD a 0 = 306 by omega]; exact xop1_ok (by omega) (vOne_6 _) hb10
          exact jJ_toX (jJ_lret hx hb hr hlocks dX10_factor_105 (by show _ ≤ 0; omega) (by show _ ≤ 0; omega) ⟨by rw [he], by rw [he], by rw [heq]; rfl, rfl, rfl⟩)
      · have hk9 : (tk 0).getD a 0 = 305 := by omega
        refine jJ_of (fun H locs => lv_lload_n hx hb dX10_factor_71 rfl (lv_at hl 0 rfl)) ?_
        refine jJ_of (fun H locs => jn_lconst (v := 0) hx hb dX10_factor_72 rfl) ?_
        refine jJ_of (fun H locs => W.lcmp hx hb dX10_factor_73) ?_
        refine jJ_of2 (fun H locs => jl_if_ge (tgt := 82) hx hb dX10_factor_74 (by decide) (by omega) (by omega) (by omega) (by omega)) (fun c74 => ?_) (fun c74 => ?_)
        · refine jJ_of (fun H locs => lv_lload_n hx hb dX10_factor_82 rfl (lv_at hl 0 rfl)) ?_
          have heq : (qFac tk N r a).2 = aa3 := by rw [heqf, heq3]
          have he : xFac tk N vs r a = (0, (xv3 : Int)) := by rw [xFac_f (by omega), hxe3, xThen_0, show (tk 0).getD a 0 = 305 by omega]; exact xop1_ok (by omega) (by rw [vOne_5]; unfold vAbs; split <;> omega) (ok_vTG (by unfold vOK; omega))
          exact jJ_toX (jJ_lret hx hb hr hlocks dX10_factor_83 (by show _ ≤ 0; omega) (by show _ ≤ 0; omega) ⟨by rw [he], by rw [he], by rw [heq]; rfl, rfl, rfl⟩)
        · refine jJ_of (fun H locs => lv_lload_n hx hb dX10_factor_77 rfl (lv_at hl 0 rfl)) ?_
          refine jJ_of (fun H locs => jl_lneg hx hb dX10_factor_78) ?_
          refine jJ_of (fun H locs => lv_goto (tgt := 83) hx hb dX10_factor_79 (by decide)) ?_
          have heq : (qFac tk N r a).2 = aa3 := by rw [heqf, heq3]
          have he : xFac tk N vs r a = (0, (-xv3 : Int)) := by rw [xFac_f (by omega), hxe3, xThen_0, show (tk 0).getD a 0 = 305 by omega]; exact xop1_ok (by omega) (by rw [vOne_5]; unfold vAbs; split <;> omega) (ok_vTG (by unfold vOK; omega))
          exact jJ_toX (jJ_lret hx hb hr hlocks dX10_factor_83 (by show _ ≤ 0; omega) (by show _ ≤ 0; omega) ⟨by rw [he], by rw [he], by rw [heq]; rfl, rfl, rfl⟩)
    · have hc2 : (qItm tk N r a).1 = true ∧ qFac tk N r a = qItm tk N r a := hcase.elim (fun h => by omega) (fun h => h.elim (fun h => by omega) (fun h => h.2.2))
      refine jJ_of (fun H locs => lv_aload_n hx hb dX10_factor_33 rfl (lv_at hl 0 rfl)) ?_
      have hokq11 : (qItm tk N r a).1 = true := by exact hc2.1
      obtain ⟨aa11, haa11⟩ : ∃ i, (qItm tk N r a).2 = i := ⟨_, rfl⟩
      have heq11 : qItm tk N r a = (true, aa11) := Prod.ext hokq11 haa11
      have hqb11 : a ≤ (qItm tk N r a).2 ∧ (qItm tk N r a).2 + 1 ≤ (tk 0).length := qb_itm hE N r a (by omega)
      rw [haa11] at hqb11
      obtain ⟨xa11, xv11, hxe11⟩ : ∃ i j, xIt tk N vs r a = (i, j) := ⟨_, _, rfl⟩
      refine jX_callV (As := []) (rest := []) (wc := jF (eW cI cJ cB Z (E) (X) V vv a al)) (cs2 := []) (C := RX10) (T := TX10) (N := 19) (ci := 8) [0, 4, 1, 2, 3, 5] [] ⟨hx, hb, hml, hown, hts⟩ hK hA hAm (hIt a al (by omega) hokq11) (cwV 0 hts gX10_factor_X10_item rfl rfl rfl (by decide +kernel) ⟨by show (8 * r + 8) + 1 ≤ 8 * r + 9; omega, by show 8 + (1 + 11) + (320 * r + 360) ≤ 320 * r + 400; omega⟩) (nn := 6) rfl (by decide) rfl rfl ⟨0, _, rfl⟩ rfl rfl rfl hl.1 (Nat.le_of_ble_eq_true rfl) dX10_factor_34 (by show _ + 0 ≤ 0; omega) (by show _ + 0 ≤ 0; omega) (fun u11 k11 n11 q11 hx11 => ?_) (fun v u11 k11 n11 hq11 => ?_)
      · rw [hxe11] at hx11
        dsimp only at hx11
        obtain ⟨hnz11, ⟨a2_11, hu11⟩, rfl, rfl⟩ := hx11
        rw [hu11]
        have he : xFac tk N vs r a = (xa11, xv11) := by rw [xFac_i (by omega) (by omega) hc2.1, hxe11]
        exact jJx_out hno hlocks (by show _ ≤ 0; omega) (by show _ ≤ 0; omega) ⟨by rw [he]; assumption, ⟨_, by rw [he]; rfl⟩, rfl, rfl⟩
      rw [hxe11, haa11] at hq11
      dsimp only at hq11
      obtain ⟨hz11, rfl, hw11, rfl, rfl⟩ := hq11
      subst hz11
      rw [hw11]
      refine jJ_open (xs := [[(Z 0, .inr (8, [E 0, E 1, E 2, .ref (Z 1), .int (nI aa11), E 5, E 6, E 7, E 8, .ref (Z 2), E 10, E 11, E 12, E 13, E 14, .ref (Z 7), .int (nI al), E 17, E 18]))], [(Z 2, .inr (0, []))], [(Z 1, .inr (7, [X 0, X 1, .ref (Z 3), X 3, .ref (Z 5), X 5, X 6, X 7, X 8, X 9, X 10, X 11, X 12]))], [(Z 3, .inl (cB, 32008, .inl (V 0)))], [(Z 5, .inl (cI, 32008, .inl (V 2)))], [(Z 7, .inl (cJ, 200, .inr (.inl vv)))]]) (r := []) (cs2 := [[(Z 0, .inr (8, [E 0, E 1, E 2, .ref (Z 1), .int (nI aa11), E 5, E 6, E 7, E 8, .ref (Z 2), E 10, E 11, E 12, E 13, E 14, .ref (Z 7), .int (nI al), E 17, E 18]))], [(Z 2, .inr (0, []))], [(Z 1, .inr (7, [X 0, X 1, .ref (Z 3), X 3, .ref (Z 5), X 5, X 6, X 7, X 8, X 9, X 10, X 11, X 12]))], [(Z 3, .inl (cB, 32008, .inl (V 0)))], [(Z 5, .inl (cI, 32008, .inl (V 2)))], [(Z 7, .inl (cJ, 200, .inr (.inl vv)))]]) rfl ?_
      refine jJ_eq (g2 := F0 m 37 ls [.long (lI xv11)]) (cs2 := [[(Z 0, .inr (8, [E 0, E 1, E 2, .ref (Z 1), .int (nI aa11), E 5, E 6, E 7, E 8, .ref (Z 2), E 10, E 11, E 12, E 13, E 14, .ref (Z 7), .int (nI al), E 17, E 18]))], [(Z 2, .inr (0, []))], [(Z 1, .inr (7, [X 0, X 1, .ref (Z 3), X 3, .ref (Z 5), X 5, X 6, X 7, X 8, X 9, X 10, X 11, X 12]))], [(Z 3, .inl (cB, 32008, .inl (V 0)))], [(Z 5, .inl (cI, 32008, .inl (V 2)))], [(Z 7, .inl (cJ, 200, .inr (.inl vv)))]]) rfl rfl ?_
      have heq : (qFac tk N r a).2 = aa11 := by rw [hc2.2, heq11]
      have he : xFac tk N vs r a = (0, (xv11 : Int)) := by rw [xFac_i (by omega) (by omega) hc2.1, hxe11]
      exact jJ_toX (jJ_lret hx hb hr hlocks dX10_factor_37 (by show _ ≤ 0; omega) (by show _ ≤ 0; omega) ⟨by rw [he], by rw [he], by rw [heq]; rfl, rfl, rfl⟩)
  · simp only [decide_eq_true_eq, decide_eq_false_iff_not] at c6
    have hc2 : ∃ r2, r = r2 + 1 ∧ (qFac tk N r2 (a + 1)).1 = true ∧ qFac tk N r a = qFac tk N r2 (a + 1) := hcase.elim (fun h => h.2) (fun h => h.elim (fun h => by omega) (fun h => by omega))
    obtain ⟨r2, hr2, hokf, heqf⟩ := hc2
    have hL7 := hL8 (by omega) (by omega)
    refine jJ_of (fun H locs => lv_aload_n hx hb dX10_factor_9 rfl (lv_at hl 0 rfl)) ?_
    refine jJ_of (fun H locs => lv_dup hx hb dX10_factor_10 rfl) ?_
    refine jJ_get hx hb (C := RX10) (T := TX10) (N := 19) hts uX10_in_X10_factor hown hK 0 rfl rfl 4 (by decide) (hts (.fieldLink RX10 121 "ValueBlocksModel" "at" "I") (by decide +kernel)) (fun _ h9 => h9) rfl dX10_factor_11 ?_
    refine jJ_of (fun H locs => lv_iconst (v := (nI 1)) hx hb dX10_factor_14 (by decide)) ?_
    refine jJ_of (fun H locs => jn_iadd hx hb dX10_factor_15) ?_
    refine jJ_put hx hb (C := RX10) (T := TX10) (N := 19) (ty := .int) (v := .int (nI (a + 1))) hts uX10_in_X10_factor tyX10 tyX10_ok nmX10 hown hK 0 rfl rfl 4 (by decide) (hts (.fieldLink RX10 121 "ValueBlocksModel" "at" "I") (by decide +kernel)) (fun _ h9 => h9) rfl (by decide +kernel) rfl rfl (Nat.le_of_ble_eq_true rfl) dX10_factor_16 (cs2 := [[(Z 0, .inr (8, [E 0, E 1, E 2, .ref (Z 1), .int (nI (a + 1)), E 5, E 6, E 7, E 8, .ref (Z 2), E 10, E 11, E 12, E 13, E 14, .ref (Z 7), .int (nI al), E 17, E 18]))], [(Z 1, .inr (7, [X 0, X 1, .ref (Z 3), X 3, .ref (Z 5), X 5, X 6, X 7, X 8, X 9, X 10, X 11, X 12]))], [(Z 3, .inl (cB, 32008, .inl (V 0)))], [(Z 5, .inl (cI, 32008, .inl (V 2)))], [(Z 2, .inr (0, []))], [(Z 7, .inl (cJ, 200, .inr (.inl vv)))]]) rfl ?_
    refine jJ_of (fun H locs => lv_aload_n hx hb dX10_factor_19 rfl (lv_at hl 0 rfl)) ?_
    have hokq12 : (qFac tk N r2 (a + 1)).1 = true := by exact hokf
    obtain ⟨aa12, haa12⟩ : ∃ i, (qFac tk N r2 (a + 1)).2 = i := ⟨_, rfl⟩
    have heq12 : qFac tk N r2 (a + 1) = (true, aa12) := Prod.ext hokq12 haa12
    have hqb12 : (a + 1) ≤ (qFac tk N r2 (a + 1)).2 ∧ (qFac tk N r2 (a + 1)).2 + 1 ≤ (tk 0).length := qb_fac hE N r2 (a + 1) (by omega)
    rw [haa12] at hqb12
    obtain ⟨xa12, xv12, hxe12⟩ : ∃ i j, xFac tk N vs r2 (a + 1) = (i, j) := ⟨_, _, rfl⟩
    have hxv12 := xv_fac N hB2a hvs r2 (a + 1)
    rw [hxe12] at hxv12
    dsimp only at hxv12
    refine jX_callV (As := []) (rest := []) (wc := jF (eW cI cJ cB Z (E) (X) V vv (a + 1) al)) (cs2 := []) (C := RX10) (T := TX10) (N := 19) (ci := 8) [0, 4, 1, 2, 3, 5] [] ⟨hx, hb, hml, hown, hts⟩ hK hA hAm (hFa r2 hr2 (a + 1) al (by omega) hokq12) (cwV 0 hts gX10_factor_X10_factor rfl rfl rfl (by decide +kernel) ⟨by show (8 * r2 + 9) + 1 ≤ 8 * r + 9; omega, by show 8 + (4 + 11) + (320 * r2 + 400) ≤ 320 * r + 400; omega⟩) (nn := 6) rfl (by decide) rfl rfl ⟨0, _, rfl⟩ rfl rfl rfl hl.1 (Nat.le_of_ble_eq_true rfl) dX10_factor_20 (by show _ + 0 ≤ 0; omega) (by show _ + 0 ≤ 0; omega) (fun u12 k12 n12 q12 hx12 => ?_) (fun v u12 k12 n12 hq12 => ?_)
    · rw [hxe12] at hx12
      dsimp only at hx12
      obtain ⟨hnz12, ⟨a2_12, hu12⟩, rfl, rfl⟩ := hx12
      rw [hu12]
      have he : xFac tk N vs r a = (xa12, xv12) := by rw [hr2, xFac_m (by omega), hxe12]; exact xThen_n hnz12 _
      exact jJx_out hno hlocks (by show _ ≤ 0; omega) (by show _ ≤ 0; omega) ⟨by rw [he]; assumption, ⟨_, by rw [he]; rfl⟩, rfl, rfl⟩
    rw [hxe12, haa12] at hq12
    dsimp only at hq12
    obtain ⟨hz12, rfl, hw12, rfl, rfl⟩ := hq12
    subst hz12
    rw [hw12]
    have hvo12 := hxv12 rfl
    have hvo12b := hvo12
    unfold vOK at hvo12b
    refine jJ_open (xs := [[(Z 0, .inr (8, [E 0, E 1, E 2, .ref (Z 1), .int (nI aa12), E 5, E 6, E 7, E 8, .ref (Z 2), E 10, E 11, E 12, E 13, E 14, .ref (Z 7), .int (nI al), E 17, E 18]))], [(Z 2, .inr (0, []))], [(Z 1, .inr (7, [X 0, X 1, .ref (Z 3), X 3, .ref (Z 5), X 5, X 6, X 7, X 8, X 9, X 10, X 11, X 12]))], [(Z 3, .inl (cB, 32008, .inl (V 0)))], [(Z 5, .inl (cI, 32008, .inl (V 2)))], [(Z 7, .inl (cJ, 200, .inr (.inl vv)))]]) (r := []) (cs2 := [[(Z 0, .inr (8, [E 0, E 1, E 2, .ref (Z 1), .int (nI aa12), E 5, E 6, E 7, E 8, .ref (Z 2), E 10, E 11, E 12, E 13, E 14, .ref (Z 7), .int (nI al), E 17, E 18]))], [(Z 2, .inr (0, []))], [(Z 1, .inr (7, [X 0, X 1, .ref (Z 3), X 3, .ref (Z 5), X 5, X 6, X 7, X 8, X 9, X 10, X 11, X 12]))], [(Z 3, .inl (cB, 32008, .inl (V 0)))], [(Z 5, .inl (cI, 32008, .inl (V 2)))], [(Z 7, .inl (cJ, 200, .inr (.inl vv)))]]) rfl ?_
    refine jJ_eq (g2 := F0 m 23 ls [.long (lI xv12)]) (cs2 := [[(Z 0, .inr (8, [E 0, E 1, E 2, .ref (Z 1), .int (nI aa12), E 5, E 6, E 7, E 8, .ref (Z 2), E 10, E 11, E 12, E 13, E 14, .ref (Z 7), .int (nI al), E 17, E 18]))], [(Z 2, .inr (0, []))], [(Z 1, .inr (7, [X 0, X 1, .ref (Z 3), X 3, .ref (Z 5), X 5, X 6, X 7, X 8, X 9, X 10, X 11, X 12]))], [(Z 3, .inl (cB, 32008, .inl (V 0)))], [(Z 5, .inl (cI, 32008, .inl (V 2)))], [(Z 7, .inl (cJ, 200, .inr (.inl vv)))]]) rfl rfl ?_
    refine jJ_of (fun H locs => jl_lneg hx hb dX10_factor_23) ?_
    have heq : (qFac tk N r a).2 = aa12 := by rw [heqf, heq12]
    have he : xFac tk N vs r a = (0, (-xv12 : Int)) := by rw [hr2, xFac_m (by omega), hxe12, xThen_0]; exact xop1_ok (by omega) (vOne_1 _) (ok_vTG (by unfold vOK; omega))
    exact jJ_toX (jJ_lret hx hb hr hlocks dX10_factor_24 (by show _ ≤ 0; omega) (by show _ ≤ 0; omega) ⟨by rw [he], by rw [he], by rw [heq]; rfl, rfl, rfl⟩)
theorem kWs {c w : Nat} : c < 256 ∧ ¬ c = 10 → kW c w = c := by unfold kW; (repeat' split) <;> omega
theorem xop2_ok {k : Nat} {a b z : Int} (h0 : ¬ (b = 0 ∧ (k = 47 ∨ k = 309))) (h2 : vTwo k a b = z) (h3 : vTG z = false) : xOp2 k a b = (0, z) := by
  unfold xOp2; rw [if_neg h0, h2, if_neg (by rw [h3]; decide)]
theorem xop2_4 {k : Nat} {a b z : Int} (h0 : ¬ (b = 0 ∧ (k = 47 ∨ k = 309))) (h2 : vTwo k a b = z) (h3 : vTG z = true) : xOp2 k a b = (4, 0) := by
  unfold xOp2; rw [if_neg h0, h2, if_pos h3]
theorem xop2_1 {k : Nat} {a b : Int} (h : b = 0 ∧ (k = 47 ∨ k = 309)) : xOp2 k a b = (1, 0) := if_pos h
theorem vTwo_42 (a b : Int) : vTwo 42 a b = vMul a b := rfl
theorem vTwo_43 (a b : Int) : vTwo 43 a b = a + b := rfl
theorem vTwo_45 (a b : Int) : vTwo 45 a b = a - b := rfl
theorem vTwo_47 {a b : Int} (h : ¬ b = 0) : vTwo 47 a b = (1000 * a).tdiv b := by
  unfold vTwo; rw [if_neg (by decide), if_neg (by decide), if_neg (by decide), if_pos rfl, if_neg h, Int.mul_comm]
theorem vTwo_309 {a b : Int} (h : ¬ b = 0) : vTwo 309 a b = a - b * Int.fdiv a b := by
  unfold vTwo; rw [if_neg (by decide), if_neg (by decide), if_neg (by decide), if_neg (by decide), if_pos rfl, if_neg h]
  have := Int.fmod_add_mul_fdiv a b
  omega
theorem vTwo_h {k : Nat} (hk : 310 ≤ k) (a b : Int) : vTwo k a b = if vHold k a b then 1000 else 0 := by
  unfold vTwo; rw [if_neg (by omega), if_neg (by omega), if_neg (by omega), if_neg (by omega), if_neg (by omega)]
theorem vTwo_t {k : Nat} (hk : 310 ≤ k) {a b : Int} (h : vHold k a b = true) : vTwo k a b = 1000 := by rw [vTwo_h hk, if_pos h]
theorem vTwo_f {k : Nat} (hk : 310 ≤ k) {a b : Int} (h : vHold k a b = false) : vTwo k a b = 0 := by rw [vTwo_h hk, if_neg (by rw [h]; decide)]
theorem fmod_ok {a b : Int} (h : ¬ b = 0) (hb : vOK b) : vTG (a - b * Int.fdiv a b) = false := by
  have e := Int.fmod_add_mul_fdiv a b
  have e2 : a - b * Int.fdiv a b = Int.fmod a b := by omega
  rw [e2, vFmod h]
  have h1 : (a.tmod b).natAbs < b.natAbs := by rw [Int.natAbs_tmod]; exact Nat.mod_lt _ (by omega)
  have h2 : 0 ≤ a → 0 ≤ a.tmod b := fun q => Int.tmod_nonneg b q
  have h3 : a ≤ 0 → a.tmod b ≤ 0 := fun q => by
    have := Int.tmod_nonneg b (show 0 ≤ -a by omega)
    rw [Int.neg_tmod] at this
    omega
  unfold vOK at hb
  apply decide_eq_false
  (repeat' split) <;> omega
theorem vH_310 (a b : Int) : vHold 310 a b = decide (¬ a = 0 ∧ ¬ b = 0) := rfl
theorem vH_311 (a b : Int) : vHold 311 a b = decide (¬ a = 0 ∨ ¬ b = 0) := rfl
theorem vH_312 (a b : Int) : vHold 312 a b = decide (¬ (a = 0 ↔ b = 0)) := rfl
theorem vH_313 (a b : Int) : vHold 313 a b = decide (a = b) := rfl
theorem vH_314 (a b : Int) : vHold 314 a b = decide (¬ a = b) := rfl
theorem vH_315 (a b : Int) : vHold 315 a b = decide (a < b) := rfl
theorem vH_316 (a b : Int) : vHold 316 a b = decide (a ≤ b) := rfl
theorem vH_317 (a b : Int) : vHold 317 a b = decide (b < a) := rfl
theorem vH_318 (a b : Int) : vHold 318 a b = decide (b ≤ a) := rfl
theorem uX10_in_X10_product : ∀ w ∈ u_ws RX10 TX10 19, w ∈ wsX10_product := by decide +kernel
theorem uX9_in_X10_product : ∀ w ∈ u_ws RX9 TX9 13, w ∈ wsX10_product := by decide +kernel
set_option maxHeartbeats 4000000 in
set_option maxRecDepth 100000 in
/-- product() -/
theorem c_Md_product {Z : Nat → Nat} {E X : Nat → Value} {V : Nat → Nat → Int32} {vv : Nat → Int64} {tk : Nat → List Nat} {vs : Nat → Int} {a al : Nat} {N r : Nat} (hT : tV tk V) (hE : tE tk) (hvv : ∀ i, i < 200 → vv i = lI (vs i)) (hvs : ∀ i, i < 200 → vOK (vs i)) (ha : a + 1 ≤ (tk 0).length) (hok : (qSeq tk N jnF (qFac tk N r) a).1 = true) (hN : (tk 0).length ≤ N) (hFa : cEv D G cI cJ cB cZ l yX10_factor wsX10_factor (8 * r + 9) (320 * r + 400) Z E X V vv tk (fun z => .long (lI z)) (qFac tk N r) (xFac tk N vs r)) : HX l yX10_product wsX10_product ({ frames := 8 * r + 10, cells := 0, slots := 0, locals := 320 * r + 440 } : Room) D G (jT cI cJ cB cZ) [.ref (Z 0)] (jF (eW cI cJ cB Z E X V vv a al)) (fun v u k n => (xPro tk N vs r a).1 = 0 ∧ v = some (.long (lI (xPro tk N vs r a).2)) ∧ u = jF (eW cI cJ cB Z E X V vv (qSeq tk N jnF (qFac tk N r) a).2 al) ∧ k = 0 ∧ n = 0) (fun u k n => ¬ (xPro tk N vs r a).1 = 0 ∧ (∃ a2 : Nat, u = jF (eW cI cJ cB Z E X V vv a2 (xPro tk N vs r a).1)) ∧ k = 0 ∧ n = 0) := by
  refine HX_of (cc := cX10_product) (maxL := 6) (ret := (some .long)) (lv := [(0, .ref (Z 0))]) (by decide) rfl rfl (Nat.le_of_ble_eq_true rfl) (fun p e s m args below meth c A0 ls hx hb hr hts hown hlocks hml hno hK hA hAm hl => ?_)
  refine jJ_open (xs := [[(Z 0, .inr (8, [E 0, E 1, E 2, .ref (Z 1), .int (nI a), E 5, E 6, E 7, E 8, .ref (Z 2), E 10, E 11, E 12, E 13, E 14, .ref (Z 7), .int (nI al), E 17, E 18]))], [(Z 2, .inr (0, []))], [(Z 1, .inr (7, [X 0, X 1, .ref (Z 3), X 3, .ref (Z 5), X 5, X 6, X 7, X 8, X 9, X 10, X 11, X 12]))], [(Z 3, .inl (cB, 32008, .inl (V 0)))], [(Z 5, .inl (cI, 32008, .inl (V 2)))], [(Z 7, .inl (cJ, 200, .inr (.inl vv)))]]) (r := []) (cs2 := [[(Z 0, .inr (8, [E 0, E 1, E 2, .ref (Z 1), .int (nI a), E 5, E 6, E 7, E 8, .ref (Z 2), E 10, E 11, E 12, E 13, E 14, .ref (Z 7), .int (nI al), E 17, E 18]))], [(Z 2, .inr (0, []))], [(Z 1, .inr (7, [X 0, X 1, .ref (Z 3), X 3, .ref (Z 5), X 5, X 6, X 7, X 8, X 9, X 10, X 11, X 12]))], [(Z 3, .inl (cB, 32008, .inl (V 0)))], [(Z 5, .inl (cI, 32008, .inl (V 2)))], [(Z 7, .inl (cJ, 200, .inr (.inl vv)))]]) rfl ?_
  have hL9 := hT.1
  obtain ⟨hV0, hV1, hV2, hV3⟩ := hT.2.1 a (by omega)
  obtain ⟨hB0, hB1, hB2⟩ := hT.2.2 a
  have hkc := kC_le ((tk 0).getD a 0)
  have hkw := kW_le hB0 hB2
  have hk1 := kC1 (c := (tk 0).getD a 0)
  have hk3 := kC3w (c := (tk 0).getD a 0) (w := (tk 2).getD a 0)
  have hB2a := fun i => (hT.2.2 i).2.2
  have hL8 := hE.lt (a := a)
  clear hV0 hV1 hV2 hV3 hkc hkw hk1 hk3 hB0 hB1 hB2
  obtain ⟨hok1, hok2, hok3⟩ := qThen_ok hok
  refine jJ_of (fun H locs => lv_aload_n hx hb dX10_product_0 rfl (lv_at hl 0 rfl)) ?_
  have hokq1 : (qFac tk N r a).1 = true := by exact hok1
  obtain ⟨aa1, haa1⟩ : ∃ i, (qFac tk N r a).2 = i := ⟨_, rfl⟩
  have heq1 : qFac tk N r a = (true, aa1) := Prod.ext hokq1 haa1
  have hqb1 : a ≤ (qFac tk N r a).2 ∧ (qFac tk N r a).2 + 1 ≤ (tk 0).length := qb_fac hE N r a (by omega)
  rw [haa1] at hqb1
  obtain ⟨xa1, xv1, hxe1⟩ : ∃ i j, xFac tk N vs r a = (i, j) := ⟨_, _, rfl⟩
  have hxv1 := xv_fac N hB2a hvs r a
  rw [hxe1] at hxv1
  dsimp only at hxv1
  refine jX_callV (As := []) (rest := []) (wc := jF (eW cI cJ cB Z (E) (X) V vv a al)) (cs2 := []) (C := RX10) (T := TX10) (N := 19) (ci := 8) [0, 1, 2, 3, 4, 5] [] ⟨hx, hb, hml, hown, hts⟩ hK hA hAm (hFa a al (by omega) hokq1) (cwV 0 hts gX10_product_X10_factor rfl rfl rfl (by decide +kernel) ⟨by show (8 * r + 9) + 1 ≤ 8 * r + 10; omega, by show 8 + (4 + 11) + (320 * r + 400) ≤ 320 * r + 440; omega⟩) (nn := 6) rfl (by decide) rfl rfl ⟨0, _, rfl⟩ rfl rfl rfl hl.1 (Nat.le_of_ble_eq_true rfl) dX10_product_1 (by show _ + 0 ≤ 0; omega) (by show _ + 0 ≤ 0; omega) (fun u1 k1 n1 q1 hx1 => ?_) (fun v u1 k1 n1 hq1 => ?_)
  · rw [hxe1] at hx1
    dsimp only at hx1
    obtain ⟨hnz1, ⟨a2_1, hu1⟩, rfl, rfl⟩ := hx1
    rw [hu1]
    have he : xPro tk N vs r a = (xa1, xv1) := by show xThen (xFac tk N vs r a) _ = _; rw [hxe1]; exact xThen_n hnz1 _
    exact jJx_out hno hlocks (by show _ ≤ 0; omega) (by show _ ≤ 0; omega) ⟨by rw [he]; assumption, ⟨_, by rw [he]; rfl⟩, rfl, rfl⟩
  rw [hxe1, haa1] at hq1
  dsimp only at hq1
  obtain ⟨hz1, rfl, hw1, rfl, rfl⟩ := hq1
  subst hz1
  rw [hw1]
  have hvo1 := hxv1 rfl
  have hvo1b := hvo1
  unfold vOK at hvo1b
  refine jJ_open (xs := [[(Z 0, .inr (8, [E 0, E 1, E 2, .ref (Z 1), .int (nI aa1), E 5, E 6, E 7, E 8, .ref (Z 2), E 10, E 11, E 12, E 13, E 14, .ref (Z 7), .int (nI al), E 17, E 18]))], [(Z 2, .inr (0, []))], [(Z 1, .inr (7, [X 0, X 1, .ref (Z 3), X 3, .ref (Z 5), X 5, X 6, X 7, X 8, X 9, X 10, X 11, X 12]))], [(Z 3, .inl (cB, 32008, .inl (V 0)))], [(Z 5, .inl (cI, 32008, .inl (V 2)))], [(Z 7, .inl (cJ, 200, .inr (.inl vv)))]]) (r := []) (cs2 := [[(Z 0, .inr (8, [E 0, E 1, E 2, .ref (Z 1), .int (nI aa1), E 5, E 6, E 7, E 8, .ref (Z 2), E 10, E 11, E 12, E 13, E 14, .ref (Z 7), .int (nI al), E 17, E 18]))], [(Z 2, .inr (0, []))], [(Z 1, .inr (7, [X 0, X 1, .ref (Z 3), X 3, .ref (Z 5), X 5, X 6, X 7, X 8, X 9, X 10, X 11, X 12]))], [(Z 3, .inl (cB, 32008, .inl (V 0)))], [(Z 5, .inl (cI, 32008, .inl (V 2)))], [(Z 7, .inl (cJ, 200, .inr (.inl vv)))]]) rfl ?_
  refine jJ_eq (g2 := F0 m 4 ls [.long (lI xv1)]) (cs2 := [[(Z 0, .inr (8, [E 0, E 1, E 2, .ref (Z 1), .int (nI aa1), E 5, E 6, E 7, E 8, .ref (Z 2), E 10, E 11, E 12, E 13, E 14, .ref (Z 7), .int (nI al), E 17, E 18]))], [(Z 2, .inr (0, []))], [(Z 1, .inr (7, [X 0, X 1, .ref (Z 3), X 3, .ref (Z 5), X 5, X 6, X 7, X 8, X 9, X 10, X 11, X 12]))], [(Z 3, .inl (cB, 32008, .inl (V 0)))], [(Z 5, .inl (cI, 32008, .inl (V 2)))], [(Z 7, .inl (cJ, 200, .inr (.inl vv)))]]) rfl rfl ?_
  refine jJ_ofL (fun H locs => lv_lstore_n (lv' := [(1, .long (lI xv1)), (0, .ref (Z 0))]) hx hb dX10_product_4 rfl hl (by decide) rfl) (fun ls hl => ?_)
  rw [haa1] at hok2 hok3
  suffices lp : ∀ (n3 a3 : Nat) (v3 : Int), a ≤ a3 → a3 + 1 ≤ (tk 0).length → (tk 0).length ≤ n3 + a3 + 1 → vOK v3 → (qLoop tk jnF (qFac tk N r) n3 a3).1 = true → (qLoop tk jnF (qFac tk N r) n3 a3).2 = (qSeq tk N jnF (qFac tk N r) a).2 → xLoop tk jnF (qFac tk N r) (xFac tk N vs r) n3 a3 v3 = xPro tk N vs r a → ∀ ls, lv_has ls 6 [(1, .long (lI v3)), (0, .ref (Z 0))] → jJ p l e _ s m args below meth c D A0 [[(Z 0, .inr (8, [E 0, E 1, E 2, .ref (Z 1), .int (nI a3), E 5, E 6, E 7, E 8, .ref (Z 2), E 10, E 11, E 12, E 13, E 14, .ref (Z 7), .int (nI al), E 17, E 18]))], [(Z 2, .inr (0, []))], [(Z 1, .inr (7, [X 0, X 1, .ref (Z 3), X 3, .ref (Z 5), X 5, X 6, X 7, X 8, X 9, X 10, X 11, X 12]))], [(Z 3, .inl (cB, 32008, .inl (V 0)))], [(Z 5, .inl (cI, 32008, .inl (V 2)))], [(Z 7, .inl (cJ, 200, .inr (.inl vv)))]] 0 0 (jEndX below D A0 _ _ args s _ _) (F0 m 5 ls []) from lp N aa1 xv1 (by omega) (by omega) (by omega) hvo1 hok2 (congrArg Prod.snd hok3).symm (by show _ = xThen (xFac tk N vs r a) (xLoop tk jnF (qFac tk N r) (xFac tk N vs r) N ((qFac tk N r) a).2); rw [hxe1, xThen_0, haa1]) ls (lv_sub hl [0, 1] rfl)
  clear hok2 hok3 haa1 heq1 hqb1 hxe1 hxv1 hvo1 hvo1b hL8
  intro n3
  induction n3 with
  | zero =>
    intro a3 v3 ha3 ha3b hn3 hv3 hok3 hq3 hx3 ls hl
    obtain ⟨hV0, hV1, hV2, hV3⟩ := hT.2.1 a3 (by omega)
    obtain ⟨hB0, hB1, hB2⟩ := hT.2.2 a3
    have hkc := kC_le ((tk 0).getD a3 0)
    have hkw := kW_le hB0 hB2
    have hk3 := kC3w (c := (tk 0).getD a3 0) (w := (tk 2).getD a3 0)
    have hks := kWs (c := (tk 0).getD a3 0) (w := (tk 2).getD a3 0)
    have hL8 := hE.lt (a := a3)
    have hv3b := hv3
    unfold vOK at hv3b
    refine jJ_of (fun H locs => lv_aload_n hx hb dX10_product_5 rfl (lv_at hl 1 rfl)) ?_
    refine jJ_callV (As := []) (rest := []) (wc := jF (kWd cI cB Z (lsV [E 0, E 1, E 2, .null, .null, E 5, E 6, E 7, E 8, .ref (Z 2), E 10, E 11, E 12, E 13, E 14, .ref (Z 7), .int (nI al), E 17, E 18]) (lsV [X 0, X 1, .null, X 3, .null, X 5, X 6, X 7, X 8, X 9, X 10, X 11, X 12]) V a3)) (cs2 := [[(Z 2, .inr (0, []))], [(Z 7, .inl (cJ, 200, .inr (.inl vv)))]]) (C := RX10) (T := TX10) (N := 19) (ci := 8) [0, 2, 3, 4] [1, 5] ⟨hx, hb, hml, hown, hts⟩ hK hA hAm (c_Md_isTimes (E := lsV [E 0, E 1, E 2, .null, .null, E 5, E 6, E 7, E 8, .ref (Z 2), E 10, E 11, E 12, E 13, E 14, .ref (Z 7), .int (nI al), E 17, E 18]) (X := lsV [X 0, X 1, .null, X 3, .null, X 5, X 6, X 7, X 8, X 9, X 10, X 11, X 12]) (a := a3) hT (by omega)) (cwV 0 hts gX10_product_X10_isTimes rfl rfl rfl (by decide +kernel) ⟨by show (2) + 1 ≤ 8 * r + 10; omega, by show 8 + (1 + 11) + (80) ≤ 320 * r + 440; omega⟩) (nn := 6) rfl (by decide) rfl rfl ⟨0, _, rfl⟩ rfl rfl rfl hl.1 (Nat.le_of_ble_eq_true rfl) dX10_product_6 (by show _ + 0 ≤ 0; omega) (by show _ + 0 ≤ 0; omega) (fun v u2 k2 n2 hq2 => ?_)
    obtain ⟨rfl, hw2, rfl, rfl⟩ := hq2
    rw [hw2]
    refine jJ_open (xs := [[(Z 0, .inr (8, [E 0, E 1, E 2, .ref (Z 1), .int (nI a3), E 5, E 6, E 7, E 8, .ref (Z 2), E 10, E 11, E 12, E 13, E 14, .ref (Z 7), .int (nI al), E 17, E 18]))], [(Z 1, .inr (7, [X 0, X 1, .ref (Z 3), X 3, .ref (Z 5), X 5, X 6, X 7, X 8, X 9, X 10, X 11, X 12]))], [(Z 3, .inl (cB, 32008, .inl (V 0)))], [(Z 5, .inl (cI, 32008, .inl (V 2)))]]) (r := [[(Z 2, .inr (0, []))], [(Z 7, .inl (cJ, 200, .inr (.inl vv)))]]) (cs2 := [[(Z 0, .inr (8, [E 0, E 1, E 2, .ref (Z 1), .int (nI a3), E 5, E 6, E 7, E 8, .ref (Z 2), E 10, E 11, E 12, E 13, E 14, .ref (Z 7), .int (nI al), E 17, E 18]))], [(Z 1, .inr (7, [X 0, X 1, .ref (Z 3), X 3, .ref (Z 5), X 5, X 6, X 7, X 8, X 9, X 10, X 11, X 12]))], [(Z 3, .inl (cB, 32008, .inl (V 0)))], [(Z 5, .inl (cI, 32008, .inl (V 2)))], [(Z 2, .inr (0, []))], [(Z 7, .inl (cJ, 200, .inr (.inl vv)))]]) rfl ?_
    refine jJ_eq (g2 := F0 m 9 ls [.int (bI (jnF ((tk 0).getD a3 0)))]) (cs2 := [[(Z 0, .inr (8, [E 0, E 1, E 2, .ref (Z 1), .int (nI a3), E 5, E 6, E 7, E 8, .ref (Z 2), E 10, E 11, E 12, E 13, E 14, .ref (Z 7), .int (nI al), E 17, E 18]))], [(Z 1, .inr (7, [X 0, X 1, .ref (Z 3), X 3, .ref (Z 5), X 5, X 6, X 7, X 8, X 9, X 10, X 11, X 12]))], [(Z 3, .inl (cB, 32008, .inl (V 0)))], [(Z 5, .inl (cI, 32008, .inl (V 2)))], [(Z 2, .inr (0, []))], [(Z 7, .inl (cJ, 200, .inr (.inl vv)))]]) rfl rfl ?_
    refine jJ_of2 (fun H locs => jb_if_eq (tgt := 161) hx hb dX10_product_9 (by decide)) (fun c9 => ?_) (fun c9 => ?_)
    · refine jJ_of (fun H locs => lv_lload_n hx hb dX10_product_161 rfl (lv_at hl 0 rfl)) ?_
      refine jJ_perm [0, 4, 1, 2, 3, 5] (nn := 6) rfl (by decide) (cs2 := [[(Z 0, .inr (8, [E 0, E 1, E 2, .ref (Z 1), .int (nI a3), E 5, E 6, E 7, E 8, .ref (Z 2), E 10, E 11, E 12, E 13, E 14, .ref (Z 7), .int (nI al), E 17, E 18]))], [(Z 2, .inr (0, []))], [(Z 1, .inr (7, [X 0, X 1, .ref (Z 3), X 3, .ref (Z 5), X 5, X 6, X 7, X 8, X 9, X 10, X 11, X 12]))], [(Z 3, .inl (cB, 32008, .inl (V 0)))], [(Z 5, .inl (cI, 32008, .inl (V 2)))], [(Z 7, .inl (cJ, 200, .inr (.inl vv)))]]) rfl ?_
      have heq : (qSeq tk N jnF (qFac tk N r) a).2 = a3 := by rw [← hq3]; rfl
      have he : xPro tk N vs r a = (0, (v3 : Int)) := by rw [← hx3]; rfl
      exact jJ_toX (jJ_lret hx hb hr hlocks dX10_product_162 (by show _ ≤ 0; omega) (by show _ ≤ 0; omega) ⟨by rw [he], by rw [he], by rw [heq]; rfl, rfl, rfl⟩)
    · have hjx := jnF_x c9
      exact absurd (hL8 hjx.1 hjx.2) (by omega)
  | succ n3 ih =>
    intro a3 v3 ha3 ha3b hn3 hv3 hok3 hq3 hx3 ls hl
    obtain ⟨hV0, hV1, hV2, hV3⟩ := hT.2.1 a3 (by omega)
    obtain ⟨hB0, hB1, hB2⟩ := hT.2.2 a3
    have hkc := kC_le ((tk 0).getD a3 0)
    have hkw := kW_le hB0 hB2
    have hk3 := kC3w (c := (tk 0).getD a3 0) (w := (tk 2).getD a3 0)
    have hks := kWs (c := (tk 0).getD a3 0) (w := (tk 2).getD a3 0)
    have hL8 := hE.lt (a := a3)
    have hv3b := hv3
    unfold vOK at hv3b
    refine jJ_of (fun H locs => lv_aload_n hx hb dX10_product_5 rfl (lv_at hl 1 rfl)) ?_
    refine jJ_callV (As := []) (rest := []) (wc := jF (kWd cI cB Z (lsV [E 0, E 1, E 2, .null, .null, E 5, E 6, E 7, E 8, .ref (Z 2), E 10, E 11, E 12, E 13, E 14, .ref (Z 7), .int (nI al), E 17, E 18]) (lsV [X 0, X 1, .null, X 3, .null, X 5, X 6, X 7, X 8, X 9, X 10, X 11, X 12]) V a3)) (cs2 := [[(Z 2, .inr (0, []))], [(Z 7, .inl (cJ, 200, .inr (.inl vv)))]]) (C := RX10) (T := TX10) (N := 19) (ci := 8) [0, 2, 3, 4] [1, 5] ⟨hx, hb, hml, hown, hts⟩ hK hA hAm (c_Md_isTimes (E := lsV [E 0, E 1, E 2, .null, .null, E 5, E 6, E 7, E 8, .ref (Z 2), E 10, E 11, E 12, E 13, E 14, .ref (Z 7), .int (nI al), E 17, E 18]) (X := lsV [X 0, X 1, .null, X 3, .null, X 5, X 6, X 7, X 8, X 9, X 10, X 11, X 12]) (a := a3) hT (by omega)) (cwV 0 hts gX10_product_X10_isTimes rfl rfl rfl (by decide +kernel) ⟨by show (2) + 1 ≤ 8 * r + 10; omega, by show 8 + (1 + 11) + (80) ≤ 320 * r + 440; omega⟩) (nn := 6) rfl (by decide) rfl rfl ⟨0, _, rfl⟩ rfl rfl rfl hl.1 (Nat.le_of_ble_eq_true rfl) dX10_product_6 (by show _ + 0 ≤ 0; omega) (by show _ + 0 ≤ 0; omega) (fun v u3 k3 n3 hq3 => ?_)
    obtain ⟨rfl, hw3, rfl, rfl⟩ := hq3
    rw [hw3]
    refine jJ_open (xs := [[(Z 0, .inr (8, [E 0, E 1, E 2, .ref (Z 1), .int (nI a3), E 5, E 6, E 7, E 8, .ref (Z 2), E 10, E 11, E 12, E 13, E 14, .ref (Z 7), .int (nI al), E 17, E 18]))], [(Z 1, .inr (7, [X 0, X 1, .ref (Z 3), X 3, .ref (Z 5), X 5, X 6, X 7, X 8, X 9, X 10, X 11, X 12]))], [(Z 3, .inl (cB, 32008, .inl (V 0)))], [(Z 5, .inl (cI, 32008, .inl (V 2)))]]) (r := [[(Z 2, .inr (0, []))], [(Z 7, .inl (cJ, 200, .inr (.inl vv)))]]) (cs2 := [[(Z 0, .inr (8, [E 0, E 1, E 2, .ref (Z 1), .int (nI a3), E 5, E 6, E 7, E 8, .ref (Z 2), E 10, E 11, E 12, E 13, E 14, .ref (Z 7), .int (nI al), E 17, E 18]))], [(Z 1, .inr (7, [X 0, X 1, .ref (Z 3), X 3, .ref (Z 5), X 5, X 6, X 7, X 8, X 9, X 10, X 11, X 12]))], [(Z 3, .inl (cB, 32008, .inl (V 0)))], [(Z 5, .inl (cI, 32008, .inl (V 2)))], [(Z 2, .inr (0, []))], [(Z 7, .inl (cJ, 200, .inr (.inl vv)))]]) rfl ?_
    refine jJ_eq (g2 := F0 m 9 ls [.int (bI (jnF ((tk 0).getD a3 0)))]) (cs2 := [[(Z 0, .inr (8, [E 0, E 1, E 2, .ref (Z 1), .int (nI a3), E 5, E 6, E 7, E 8, .ref (Z 2), E 10, E 11, E 12, E 13, E 14, .ref (Z 7), .int (nI al), E 17, E 18]))], [(Z 1, .inr (7, [X 0, X 1, .ref (Z 3), X 3, .ref (Z 5), X 5, X 6, X 7, X 8, X 9, X 10, X 11, X 12]))], [(Z 3, .inl (cB, 32008, .inl (V 0)))], [(Z 5, .inl (cI, 32008, .inl (V 2)))], [(Z 2, .inr (0, []))], [(Z 7, .inl (cJ, 200, .inr (.inl vv)))]]) rfl rfl ?_
    refine jJ_of2 (fun H locs => jb_if_eq (tgt := 161) hx hb dX10_product_9 (by decide)) (fun c9 => ?_) (fun c9 => ?_)
    · refine jJ_of (fun H locs => lv_lload_n hx hb dX10_product_161 rfl (lv_at hl 0 rfl)) ?_
      refine jJ_perm [0, 4, 1, 2, 3, 5] (nn := 6) rfl (by decide) (cs2 := [[(Z 0, .inr (8, [E 0, E 1, E 2, .ref (Z 1), .int (nI a3), E 5, E 6, E 7, E 8, .ref (Z 2), E 10, E 11, E 12, E 13, E 14, .ref (Z 7), .int (nI al), E 17, E 18]))], [(Z 2, .inr (0, []))], [(Z 1, .inr (7, [X 0, X 1, .ref (Z 3), X 3, .ref (Z 5), X 5, X 6, X 7, X 8, X 9, X 10, X 11, X 12]))], [(Z 3, .inl (cB, 32008, .inl (V 0)))], [(Z 5, .inl (cI, 32008, .inl (V 2)))], [(Z 7, .inl (cJ, 200, .inr (.inl vv)))]]) rfl ?_
      have heq : (qSeq tk N jnF (qFac tk N r) a).2 = a3 := by rw [← hq3, show qLoop tk jnF (qFac tk N r) (n3 + 1) a3 = (true, a3) from if_neg (by rw [c9]; decide)]
      have he : xPro tk N vs r a = (0, (v3 : Int)) := by rw [← hx3]; exact if_neg (by rw [c9]; decide)
      exact jJ_toX (jJ_lret hx hb hr hlocks dX10_product_162 (by show _ ≤ 0; omega) (by show _ ≤ 0; omega) ⟨by rw [he], by rw [he], by rw [heq]; rfl, rfl, rfl⟩)
    · have hjx := jnF_x c9
      have hL7 := hL8 hjx.1 hjx.2
      have hop := of_decide_eq_true (show decide _ = true from c9)
      rw [show qLoop tk jnF (qFac tk N r) (n3 + 1) a3 = qThen ((qFac tk N r) (a3 + 1)) (qLoop tk jnF (qFac tk N r) n3) from if_pos c9] at hok3 hq3
      rw [show xLoop tk jnF (qFac tk N r) (xFac tk N vs r) (n3 + 1) a3 v3 = xThen ((xFac tk N vs r) (a3 + 1)) (fun u => xThen (xOp2 ((tk 0).getD a3 0) v3 u) (xLoop tk jnF (qFac tk N r) (xFac tk N vs r) n3 ((qFac tk N r) (a3 + 1)).2)) from if_pos c9] at hx3
      obtain ⟨hk1, hk2, hk9⟩ := qThen_ok hok3
      rw [hk9] at hq3
      refine jJ_of (fun H locs => lv_aload_n hx hb dX10_product_12 rfl (lv_at hl 1 rfl)) ?_
      refine jJ_callV (As := []) (rest := []) (wc := jF (kWd cI cB Z (lsV [E 0, E 1, E 2, .null, .null, E 5, E 6, E 7, E 8, .ref (Z 2), E 10, E 11, E 12, E 13, E 14, .ref (Z 7), .int (nI al), E 17, E 18]) (lsV [X 0, X 1, .null, X 3, .null, X 5, X 6, X 7, X 8, X 9, X 10, X 11, X 12]) V a3)) (cs2 := [[(Z 2, .inr (0, []))], [(Z 7, .inl (cJ, 200, .inr (.inl vv)))]]) (C := RX10) (T := TX10) (N := 19) (ci := 8) [0, 1, 2, 3] [4, 5] ⟨hx, hb, hml, hown, hts⟩ hK hA hAm (c_Md_kind (E := lsV [E 0, E 1, E 2, .null, .null, E 5, E 6, E 7, E 8, .ref (Z 2), E 10, E 11, E 12, E 13, E 14, .ref (Z 7), .int (nI al), E 17, E 18]) (X := lsV [X 0, X 1, .null, X 3, .null, X 5, X 6, X 7, X 8, X 9, X 10, X 11, X 12]) (a := a3) hT (by omega)) (cwV 0 hts gX10_product_X10_kind rfl rfl rfl (by decide +kernel) ⟨by show (0) + 1 ≤ 8 * r + 10; omega, by show 8 + (1 + 11) + (0) ≤ 320 * r + 440; omega⟩) (nn := 6) rfl (by decide) rfl rfl ⟨0, _, rfl⟩ rfl rfl rfl hl.1 (Nat.le_of_ble_eq_true rfl) dX10_product_13 (by show _ + 0 ≤ 0; omega) (by show _ + 0 ≤ 0; omega) (fun v u4 k4 n4 hq4 => ?_)
      obtain ⟨rfl, hw4, rfl, rfl⟩ := hq4
      rw [hw4]
      refine jJ_open (xs := [[(Z 0, .inr (8, [E 0, E 1, E 2, .ref (Z 1), .int (nI a3), E 5, E 6, E 7, E 8, .ref (Z 2), E 10, E 11, E 12, E 13, E 14, .ref (Z 7), .int (nI al), E 17, E 18]))], [(Z 1, .inr (7, [X 0, X 1, .ref (Z 3), X 3, .ref (Z 5), X 5, X 6, X 7, X 8, X 9, X 10, X 11, X 12]))], [(Z 3, .inl (cB, 32008, .inl (V 0)))], [(Z 5, .inl (cI, 32008, .inl (V 2)))]]) (r := [[(Z 2, .inr (0, []))], [(Z 7, .inl (cJ, 200, .inr (.inl vv)))]]) (cs2 := [[(Z 0, .inr (8, [E 0, E 1, E 2, .ref (Z 1), .int (nI a3), E 5, E 6, E 7, E 8, .ref (Z 2), E 10, E 11, E 12, E 13, E 14, .ref (Z 7), .int (nI al), E 17, E 18]))], [(Z 1, .inr (7, [X 0, X 1, .ref (Z 3), X 3, .ref (Z 5), X 5, X 6, X 7, X 8, X 9, X 10, X 11, X 12]))], [(Z 3, .inl (cB, 32008, .inl (V 0)))], [(Z 5, .inl (cI, 32008, .inl (V 2)))], [(Z 2, .inr (0, []))], [(Z 7, .inl (cJ, 200, .inr (.inl vv)))]]) rfl ?_
      refine jJ_eq (g2 := F0 m 16 ls [.int (nI (kC ((tk 0).getD a3 0)))]) (cs2 := [[(Z 0, .inr (8, [E 0, E 1, E 2, .ref (Z 1), .int (nI a3), E 5, E 6, E 7, E 8, .ref (Z 2), E 10, E 11, E 12, E 13, E 14, .ref (Z 7), .int (nI al), E 17, E 18]))], [(Z 1, .inr (7, [X 0, X 1, .ref (Z 3), X 3, .ref (Z 5), X 5, X 6, X 7, X 8, X 9, X 10, X 11, X 12]))], [(Z 3, .inl (cB, 32008, .inl (V 0)))], [(Z 5, .inl (cI, 32008, .inl (V 2)))], [(Z 2, .inr (0, []))], [(Z 7, .inl (cJ, 200, .inr (.inl vv)))]]) rfl rfl ?_
      refine jJ_of (fun H locs => lv_iconst (v := (nI 3)) hx hb dX10_product_16 (by decide)) ?_
      refine jJ_of2 (fun H locs => jn_icmp_ne (tgt := 35) hx hb dX10_product_17 (by decide) (by omega) (by omega)) (fun c17 => ?_) (fun c17 => ?_)
      · refine jJ_of (fun H locs => lv_aload_n hx hb dX10_product_35 rfl (lv_at hl 1 rfl)) ?_
        refine jJ_get hx hb (C := RX10) (T := TX10) (N := 19) hts uX10_in_X10_product hown hK 0 rfl rfl 3 (by decide) (hts (.fieldLink RX10 53 "ValueBlocksModel" "t" "LValueBlocksModel$Text;") (by decide +kernel)) (fun _ h9 => h9) rfl dX10_product_36 ?_
        refine jJ_get hx hb (C := RX9) (T := TX9) (N := 13) hts uX9_in_X10_product hown hK 1 rfl rfl 4 (by decide) (hts (.fieldLink RX10 71 "ValueBlocksModel$Text" "worths" "[I") (by decide +kernel)) (fun _ h9 => h9) rfl dX10_product_39 ?_
        refine jJ_of (fun H locs => lv_aload_n hx hb dX10_product_42 rfl (lv_at hl 1 rfl)) ?_
        refine jJ_get hx hb (C := RX10) (T := TX10) (N := 19) hts uX10_in_X10_product hown hK 0 rfl rfl 4 (by decide) (hts (.fieldLink RX10 121 "ValueBlocksModel" "at" "I") (by decide +kernel)) (fun _ h9 => h9) rfl dX10_product_43 ?_
        refine jJ_iald hx hb hK 3 0 (f := V 2) rfl rfl (vp_in_nI (by omega) (by omega)) (x := (nI (kW ((tk 0).getD a3 0) ((tk 2).getD a3 0)))) (by rw [nI_clamp (by omega)]; exact hV2) dX10_product_46 ?_
        rw [nI_iI (kW ((tk 0).getD a3 0) ((tk 2).getD a3 0))]
        refine jJ_of (fun H locs => jz_ineg hx hb dX10_product_47) ?_
        refine jJ_ofL (fun H locs => lv_istore_n (lv' := [(3, .int (iI (-((kW ((tk 0).getD a3 0) ((tk 2).getD a3 0) : Nat) : Int)))), (1, .long (lI v3)), (0, .ref (Z 0))]) hx hb dX10_product_48 rfl hl (by decide) rfl) (fun ls hl => ?_)
        refine jJ_of (fun H locs => lv_aload_n hx hb dX10_product_49 rfl (lv_at hl 2 rfl)) ?_
        refine jJ_of (fun H locs => lv_dup hx hb dX10_product_50 rfl) ?_
        refine jJ_get hx hb (C := RX10) (T := TX10) (N := 19) hts uX10_in_X10_product hown hK 0 rfl rfl 4 (by decide) (hts (.fieldLink RX10 121 "ValueBlocksModel" "at" "I") (by decide +kernel)) (fun _ h9 => h9) rfl dX10_product_51 ?_
        refine jJ_of (fun H locs => lv_iconst (v := (nI 1)) hx hb dX10_product_54 (by decide)) ?_
        refine jJ_of (fun H locs => jn_iadd hx hb dX10_product_55) ?_
        refine jJ_put hx hb (C := RX10) (T := TX10) (N := 19) (ty := .int) (v := .int (nI (a3 + 1))) hts uX10_in_X10_product tyX10 tyX10_ok nmX10 hown hK 0 rfl rfl 4 (by decide) (hts (.fieldLink RX10 121 "ValueBlocksModel" "at" "I") (by decide +kernel)) (fun _ h9 => h9) rfl (by decide +kernel) rfl rfl (Nat.le_of_ble_eq_true rfl) dX10_product_56 (cs2 := [[(Z 0, .inr (8, [E 0, E 1, E 2, .ref (Z 1), .int (nI (a3 + 1)), E 5, E 6, E 7, E 8, .ref (Z 2), E 10, E 11, E 12, E 13, E 14, .ref (Z 7), .int (nI al), E 17, E 18]))], [(Z 1, .inr (7, [X 0, X 1, .ref (Z 3), X 3, .ref (Z 5), X 5, X 6, X 7, X 8, X 9, X 10, X 11, X 12]))], [(Z 3, .inl (cB, 32008, .inl (V 0)))], [(Z 5, .inl (cI, 32008, .inl (V 2)))], [(Z 2, .inr (0, []))], [(Z 7, .inl (cJ, 200, .inr (.inl vv)))]]) rfl ?_
        refine jJ_of (fun H locs => lv_aload_n hx hb dX10_product_59 rfl (lv_at hl 2 rfl)) ?_
        have hokq5 : (qFac tk N r (a3 + 1)).1 = true := by exact hk1
        obtain ⟨aa5, haa5⟩ : ∃ i, (qFac tk N r (a3 + 1)).2 = i := ⟨_, rfl⟩
        have heq5 : qFac tk N r (a3 + 1) = (true, aa5) := Prod.ext hokq5 haa5
        have hqb5 : (a3 + 1) ≤ (qFac tk N r (a3 + 1)).2 ∧ (qFac tk N r (a3 + 1)).2 + 1 ≤ (tk 0).length := qb_fac hE N r (a3 + 1) (by omega)
        rw [haa5] at hqb5
        obtain ⟨xa5, xv5, hxe5⟩ : ∃ i j, xFac tk N vs r (a3 + 1) = (i, j) := ⟨_, _, rfl⟩
        have hxv5 := xv_fac N hB2a hvs r (a3 + 1)
        rw [hxe5] at hxv5
        dsimp only at hxv5
        refine jX_callV (As := []) (rest := []) (wc := jF (eW cI cJ cB Z (E) (X) V vv (a3 + 1) al)) (cs2 := []) (C := RX10) (T := TX10) (N := 19) (ci := 8) [0, 4, 1, 2, 3, 5] [] ⟨hx, hb, hml, hown, hts⟩ hK hA hAm (hFa (a3 + 1) al (by omega) hokq5) (cwV 0 hts gX10_product_X10_factor rfl rfl rfl (by decide +kernel) ⟨by show (8 * r + 9) + 1 ≤ 8 * r + 10; omega, by show 8 + (4 + 11) + (320 * r + 400) ≤ 320 * r + 440; omega⟩) (nn := 6) rfl (by decide) rfl rfl ⟨0, _, rfl⟩ rfl rfl rfl hl.1 (Nat.le_of_ble_eq_true rfl) dX10_product_60 (by show _ + 0 ≤ 0; omega) (by show _ + 0 ≤ 0; omega) (fun u5 k5 n5 q5 hx5 => ?_) (fun v u5 k5 n5 hq5 => ?_)
        · rw [hxe5] at hx5
          dsimp only at hx5
          obtain ⟨hnz5, ⟨a2_5, hu5⟩, rfl, rfl⟩ := hx5
          rw [hu5]
          have he : xPro tk N vs r a = (xa5, xv5) := by rw [← hx3, hxe5]; exact xThen_n hnz5 _
          exact jJx_out hno hlocks (by show _ ≤ 0; omega) (by show _ ≤ 0; omega) ⟨by rw [he]; assumption, ⟨_, by rw [he]; rfl⟩, rfl, rfl⟩
        rw [hxe5, haa5] at hq5
        dsimp only at hq5
        obtain ⟨hz5, rfl, hw5, rfl, rfl⟩ := hq5
        subst hz5
        rw [hw5]
        have hvo5 := hxv5 rfl
        have hvo5b := hvo5
        unfold vOK at hvo5b
        refine jJ_open (xs := [[(Z 0, .inr (8, [E 0, E 1, E 2, .ref (Z 1), .int (nI aa5), E 5, E 6, E 7, E 8, .ref (Z 2), E 10, E 11, E 12, E 13, E 14, .ref (Z 7), .int (nI al), E 17, E 18]))], [(Z 2, .inr (0, []))], [(Z 1, .inr (7, [X 0, X 1, .ref (Z 3), X 3, .ref (Z 5), X 5, X 6, X 7, X 8, X 9, X 10, X 11, X 12]))], [(Z 3, .inl (cB, 32008, .inl (V 0)))], [(Z 5, .inl (cI, 32008, .inl (V 2)))], [(Z 7, .inl (cJ, 200, .inr (.inl vv)))]]) (r := []) (cs2 := [[(Z 0, .inr (8, [E 0, E 1, E 2, .ref (Z 1), .int (nI aa5), E 5, E 6, E 7, E 8, .ref (Z 2), E 10, E 11, E 12, E 13, E 14, .ref (Z 7), .int (nI al), E 17, E 18]))], [(Z 2, .inr (0, []))], [(Z 1, .inr (7, [X 0, X 1, .ref (Z 3), X 3, .ref (Z 5), X 5, X 6, X 7, X 8, X 9, X 10, X 11, X 12]))], [(Z 3, .inl (cB, 32008, .inl (V 0)))], [(Z 5, .inl (cI, 32008, .inl (V 2)))], [(Z 7, .inl (cJ, 200, .inr (.inl vv)))]]) rfl ?_
        refine jJ_eq (g2 := F0 m 63 ls [.long (lI xv5)]) (cs2 := [[(Z 0, .inr (8, [E 0, E 1, E 2, .ref (Z 1), .int (nI aa5), E 5, E 6, E 7, E 8, .ref (Z 2), E 10, E 11, E 12, E 13, E 14, .ref (Z 7), .int (nI al), E 17, E 18]))], [(Z 2, .inr (0, []))], [(Z 1, .inr (7, [X 0, X 1, .ref (Z 3), X 3, .ref (Z 5), X 5, X 6, X 7, X 8, X 9, X 10, X 11, X 12]))], [(Z 3, .inl (cB, 32008, .inl (V 0)))], [(Z 5, .inl (cI, 32008, .inl (V 2)))], [(Z 7, .inl (cJ, 200, .inr (.inl vv)))]]) rfl rfl ?_
        refine jJ_ofL (fun H locs => lv_lstore (lv' := [(4, .long (lI xv5)), (3, .int (iI (-((kW ((tk 0).getD a3 0) ((tk 2).getD a3 0) : Nat) : Int)))), (1, .long (lI v3)), (0, .ref (Z 0))]) hx hb dX10_product_63 hl (by decide) rfl) (fun ls hl => ?_)
        refine jJ_of (fun H locs => lv_iload_n hx hb dX10_product_65 rfl (lv_at hl 1 rfl)) ?_
        refine jJ_of (fun H locs => lv_bipush (v := (iI (-42))) hx hb dX10_product_66 (by decide)) ?_
        refine jJ_of2 (fun H locs => jz_icmp_ne (tgt := 82) hx hb dX10_product_68 (by decide) (by omega) (by omega) (by omega) (by omega)) (fun c68 => ?_) (fun c68 => ?_)
        · refine jJ_of (fun H locs => lv_iload_n hx hb dX10_product_82 rfl (lv_at hl 1 rfl)) ?_
          refine jJ_of (fun H locs => lv_bipush (v := (nI 10)) hx hb dX10_product_83 (by decide)) ?_
          rw [nI_iI 10]
          refine jJ_eq (g2 := F0 m 85 ls [.int (iI 10), .int (iI (-((kW ((tk 0).getD a3 0) ((tk 2).getD a3 0) : Nat) : Int)))]) (cs2 := [[(Z 0, .inr (8, [E 0, E 1, E 2, .ref (Z 1), .int (nI aa5), E 5, E 6, E 7, E 8, .ref (Z 2), E 10, E 11, E 12, E 13, E 14, .ref (Z 7), .int (nI al), E 17, E 18]))], [(Z 2, .inr (0, []))], [(Z 1, .inr (7, [X 0, X 1, .ref (Z 3), X 3, .ref (Z 5), X 5, X 6, X 7, X 8, X 9, X 10, X 11, X 12]))], [(Z 3, .inl (cB, 32008, .inl (V 0)))], [(Z 5, .inl (cI, 32008, .inl (V 2)))], [(Z 7, .inl (cJ, 200, .inr (.inl vv)))]]) rfl rfl ?_
          refine jJ_of2 (fun H locs => jz_icmp_ne (tgt := 112) hx hb dX10_product_85 (by decide) (by omega) (by omega) (by omega) (by omega)) (fun c85 => ?_) (fun c85 => ?_)
          · refine jJ_of (fun H locs => lv_lload hx hb dX10_product_112 (lv_at hl 0 rfl)) ?_
            refine jJ_of (fun H locs => jn_lconst (v := 0) hx hb dX10_product_114 rfl) ?_
            refine jJ_of (fun H locs => W.lcmp hx hb dX10_product_115) ?_
            refine jJ_of2 (fun H locs => jl_if_ne (tgt := 125) hx hb dX10_product_116 (by decide) (by omega) (by omega) (by omega) (by omega)) (fun c116 => ?_) (fun c116 => ?_)
            · refine jJ_of (fun H locs => lv_iload_n hx hb dX10_product_125 rfl (lv_at hl 1 rfl)) ?_
              refine jJ_of (fun H locs => lv_bipush (v := (nI 9)) hx hb dX10_product_126 (by decide)) ?_
              rw [nI_iI 9]
              refine jJ_eq (g2 := F0 m 128 ls [.int (iI 9), .int (iI (-((kW ((tk 0).getD a3 0) ((tk 2).getD a3 0) : Nat) : Int)))]) (cs2 := [[(Z 0, .inr (8, [E 0, E 1, E 2, .ref (Z 1), .int (nI aa5), E 5, E 6, E 7, E 8, .ref (Z 2), E 10, E 11, E 12, E 13, E 14, .ref (Z 7), .int (nI al), E 17, E 18]))], [(Z 2, .inr (0, []))], [(Z 1, .inr (7, [X 0, X 1, .ref (Z 3), X 3, .ref (Z 5), X 5, X 6, X 7, X 8, X 9, X 10, X 11, X 12]))], [(Z 3, .inl (cB, 32008, .inl (V 0)))], [(Z 5, .inl (cI, 32008, .inl (V 2)))], [(Z 7, .inl (cJ, 200, .inr (.inl vv)))]]) rfl rfl ?_
              refine jJ_of2 (fun H locs => jz_icmp_ne (tgt := 145) hx hb dX10_product_128 (by decide) (by omega) (by omega) (by omega) (by omega)) (fun c128 => ?_) (fun c128 => ?_)
              · refine jJ_of (fun H locs => lv_aload_n hx hb dX10_product_145 rfl (lv_at hl 3 rfl)) ?_
                have hqd : ((1000 * v3).tdiv xv5).natAbs ≤ (1000 * v3).natAbs := by rw [Int.natAbs_tdiv]; exact Nat.div_le_self _ _
                refine jJ_of (fun H locs => lv_ldc2 (v := (lI 1000)) hx hb hown (by rw [show (lI 1000) = (1000 : Int64) from by decide]; exact (hts (.constantLong RX10 265 (1000)) (by decide +kernel))) dX10_product_146) ?_
                refine jJ_of (fun H locs => lv_lload_n hx hb dX10_product_149 rfl (lv_at hl 2 rfl)) ?_
                refine jJ_of (fun H locs => jl_lmul hx hb dX10_product_150) ?_
                refine jJ_of (fun H locs => lv_lload hx hb dX10_product_151 (lv_at hl 0 rfl)) ?_
                refine jJ_of (fun H locs => jl_ldiv hx hb dX10_product_153 (by omega) (by omega) (by omega) (by omega) (by omega)) ?_
                refine jX_callV (As := [.long (lI (Int.tdiv (1000 * v3) xv5))]) (rest := []) (wc := jF (aWd Z (lsV [E 0, E 1, E 2, .ref (Z 1), .int (nI aa5), E 5, E 6, E 7, E 8, .null, E 10, E 11, E 12, E 13, E 14, .ref (Z 7), .null, E 17, E 18]) al)) (cs2 := [[(Z 1, .inr (7, [X 0, X 1, .ref (Z 3), X 3, .ref (Z 5), X 5, X 6, X 7, X 8, X 9, X 10, X 11, X 12]))], [(Z 3, .inl (cB, 32008, .inl (V 0)))], [(Z 5, .inl (cI, 32008, .inl (V 2)))], [(Z 7, .inl (cJ, 200, .inr (.inl vv)))]]) (C := RX10) (T := TX10) (N := 19) (ci := 8) [0, 1] [2, 3, 4, 5] ⟨hx, hb, hml, hown, hts⟩ hK hA hAm (c_Md_fits (E := lsV [E 0, E 1, E 2, .ref (Z 1), .int (nI aa5), E 5, E 6, E 7, E 8, .null, E 10, E 11, E 12, E 13, E 14, .ref (Z 7), .null, E 17, E 18]) (al := al) (Int.tdiv (1000 * v3) xv5) (by omega) (by omega)) (cwV 1 hts gX10_product_X10_fits rfl rfl rfl (by decide +kernel) ⟨by show (1) + 1 ≤ 8 * r + 10; omega, by show 8 + (3 + 11) + (40) ≤ 320 * r + 440; omega⟩) (nn := 6) rfl (by decide) rfl rfl ⟨0, _, rfl⟩ rfl rfl rfl hl.1 (Nat.le_of_ble_eq_true rfl) dX10_product_154 (by show _ + 0 ≤ 0; omega) (by show _ + 0 ≤ 0; omega) (fun u6 k6 n6 q6 hx6 => ?_) (fun v u6 k6 n6 hq6 => ?_)
                · obtain ⟨hb6, hu6, rfl, rfl⟩ := hx6
                  rw [hu6]
                  have he : xPro tk N vs r a = (4, 0) := by rw [← hx3, hxe5, xThen_0, show xOp2 ((tk 0).getD a3 0) v3 xv5 = (4, 0) from by rw [show (tk 0).getD a3 0 = 47 by omega]; exact xop2_4 (by omega) (vTwo_47 (by omega)) hb6]; exact xThen_n (by decide) _
                  exact jJx_out hno hlocks (by show _ ≤ 0; omega) (by show _ ≤ 0; omega) ⟨by rw [he]; exact (by decide : ¬ 4 = 0), ⟨_, by rw [he]; rfl⟩, rfl, rfl⟩
                obtain ⟨hb6, rfl, hw6, rfl, rfl⟩ := hq6
                rw [hw6]
                have hvk6 := vTG_ok (z := Int.tdiv (1000 * v3) xv5) hb6
                refine jJ_open (xs := [[(Z 0, .inr (8, [E 0, E 1, E 2, .ref (Z 1), .int (nI aa5), E 5, E 6, E 7, E 8, .ref (Z 2), E 10, E 11, E 12, E 13, E 14, .ref (Z 7), .int (nI al), E 17, E 18]))], [(Z 2, .inr (0, []))]]) (r := [[(Z 1, .inr (7, [X 0, X 1, .ref (Z 3), X 3, .ref (Z 5), X 5, X 6, X 7, X 8, X 9, X 10, X 11, X 12]))], [(Z 3, .inl (cB, 32008, .inl (V 0)))], [(Z 5, .inl (cI, 32008, .inl (V 2)))], [(Z 7, .inl (cJ, 200, .inr (.inl vv)))]]) (cs2 := [[(Z 0, .inr (8, [E 0, E 1, E 2, .ref (Z 1), .int (nI aa5), E 5, E 6, E 7, E 8, .ref (Z 2), E 10, E 11, E 12, E 13, E 14, .ref (Z 7), .int (nI al), E 17, E 18]))], [(Z 2, .inr (0, []))], [(Z 1, .inr (7, [X 0, X 1, .ref (Z 3), X 3, .ref (Z 5), X 5, X 6, X 7, X 8, X 9, X 10, X 11, X 12]))], [(Z 3, .inl (cB, 32008, .inl (V 0)))], [(Z 5, .inl (cI, 32008, .inl (V 2)))], [(Z 7, .inl (cJ, 200, .inr (.inl vv)))]]) rfl ?_
                refine jJ_eq (g2 := F0 m 157 ls [.long (lI (Int.tdiv (1000 * v3) xv5))]) (cs2 := [[(Z 0, .inr (8, [E 0, E 1, E 2, .ref (Z 1), .int (nI aa5), E 5, E 6, E 7, E 8, .ref (Z 2), E 10, E 11, E 12, E 13, E 14, .ref (Z 7), .int (nI al), E 17, E 18]))], [(Z 2, .inr (0, []))], [(Z 1, .inr (7, [X 0, X 1, .ref (Z 3), X 3, .ref (Z 5), X 5, X 6, X 7, X 8, X 9, X 10, X 11, X 12]))], [(Z 3, .inl (cB, 32008, .inl (V 0)))], [(Z 5, .inl (cI, 32008, .inl (V 2)))], [(Z 7, .inl (cJ, 200, .inr (.inl vv)))]]) rfl rfl ?_
                refine jJ_ofL (fun H locs => lv_lstore_n (lv' := [(1, .long (lI (Int.tdiv (1000 * v3) xv5))), (4, .long (lI xv5)), (3, .int (iI (-((kW ((tk 0).getD a3 0) ((tk 2).getD a3 0) : Nat) : Int)))), (0, .ref (Z 0))]) hx hb dX10_product_157 rfl hl (by decide) rfl) (fun ls hl => ?_)
                refine jJ_of (fun H locs => lv_goto (tgt := 5) hx hb dX10_product_158 (by decide)) ?_
                have ho : xOp2 ((tk 0).getD a3 0) v3 xv5 = (0, Int.tdiv (1000 * v3) xv5) := by rw [show (tk 0).getD a3 0 = 47 by omega]; exact xop2_ok (by omega) (vTwo_47 (by omega)) hb6
                rw [haa5] at hk2 hq3
                exact ih aa5 (Int.tdiv (1000 * v3) xv5) (by omega) (by omega) (by omega) (vTG_ok hb6) hk2 hq3 (by rw [← hx3, hxe5, xThen_0, ho, xThen_0, haa5]) ls (lv_sub hl [0, 3] rfl)
              · exfalso; omega
            · refine jJ_of (fun H locs => lv_aload_n hx hb dX10_product_119 rfl (lv_at hl 3 rfl)) ?_
              refine jJ_of (fun H locs => lv_iconst (v := (nI 1)) hx hb dX10_product_120 (by decide)) ?_
              refine jJ_callV (As := [.int (nI 1)]) (rest := []) (wc := jF (aWd Z (lsV [E 0, E 1, E 2, .ref (Z 1), .int (nI aa5), E 5, E 6, E 7, E 8, .null, E 10, E 11, E 12, E 13, E 14, .ref (Z 7), .null, E 17, E 18]) al)) (cs2 := [[(Z 1, .inr (7, [X 0, X 1, .ref (Z 3), X 3, .ref (Z 5), X 5, X 6, X 7, X 8, X 9, X 10, X 11, X 12]))], [(Z 3, .inl (cB, 32008, .inl (V 0)))], [(Z 5, .inl (cI, 32008, .inl (V 2)))], [(Z 7, .inl (cJ, 200, .inr (.inl vv)))]]) (C := RX10) (T := TX10) (N := 19) (ci := 8) [0, 1] [2, 3, 4, 5] ⟨hx, hb, hml, hown, hts⟩ hK hA hAm (c_Md_alarmed (E := lsV [E 0, E 1, E 2, .ref (Z 1), .int (nI aa5), E 5, E 6, E 7, E 8, .null, E 10, E 11, E 12, E 13, E 14, .ref (Z 7), .null, E 17, E 18]) (al := al) 1) (cwV 1 hts gX10_product_X10_alarmed rfl rfl rfl (by decide +kernel) ⟨by show (0) + 1 ≤ 8 * r + 10; omega, by show 8 + (2 + 11) + (0) ≤ 320 * r + 440; omega⟩) (nn := 6) rfl (by decide) rfl rfl ⟨0, _, rfl⟩ rfl rfl rfl hl.1 (Nat.le_of_ble_eq_true rfl) dX10_product_121 (by show _ + 0 ≤ 0; omega) (by show _ + 0 ≤ 0; omega) (fun v u7 k7 n7 hq7 => ?_)
              obtain ⟨rfl, hw7, rfl, rfl⟩ := hq7
              rw [hw7]
              refine jJ_open (xs := [[(Z 0, .inr (8, [E 0, E 1, E 2, .ref (Z 1), .int (nI aa5), E 5, E 6, E 7, E 8, .ref (Z 2), E 10, E 11, E 12, E 13, E 14, .ref (Z 7), .int (nI 1), E 17, E 18]))], [(Z 2, .inr (0, []))]]) (r := [[(Z 1, .inr (7, [X 0, X 1, .ref (Z 3), X 3, .ref (Z 5), X 5, X 6, X 7, X 8, X 9, X 10, X 11, X 12]))], [(Z 3, .inl (cB, 32008, .inl (V 0)))], [(Z 5, .inl (cI, 32008, .inl (V 2)))], [(Z 7, .inl (cJ, 200, .inr (.inl vv)))]]) (cs2 := [[(Z 0, .inr (8, [E 0, E 1, E 2, .ref (Z 1), .int (nI aa5), E 5, E 6, E 7, E 8, .ref (Z 2), E 10, E 11, E 12, E 13, E 14, .ref (Z 7), .int (nI 1), E 17, E 18]))], [(Z 2, .inr (0, []))], [(Z 1, .inr (7, [X 0, X 1, .ref (Z 3), X 3, .ref (Z 5), X 5, X 6, X 7, X 8, X 9, X 10, X 11, X 12]))], [(Z 3, .inl (cB, 32008, .inl (V 0)))], [(Z 5, .inl (cI, 32008, .inl (V 2)))], [(Z 7, .inl (cJ, 200, .inr (.inl vv)))]]) rfl ?_
              refine jJ_eq (g2 := F0 m 124 ls [.ref (Z 2)]) (cs2 := [[(Z 0, .inr (8, [E 0, E 1, E 2, .ref (Z 1), .int (nI aa5), E 5, E 6, E 7, E 8, .ref (Z 2), E 10, E 11, E 12, E 13, E 14, .ref (Z 7), .int (nI 1), E 17, E 18]))], [(Z 2, .inr (0, []))], [(Z 1, .inr (7, [X 0, X 1, .ref (Z 3), X 3, .ref (Z 5), X 5, X 6, X 7, X 8, X 9, X 10, X 11, X 12]))], [(Z 3, .inl (cB, 32008, .inl (V 0)))], [(Z 5, .inl (cI, 32008, .inl (V 2)))], [(Z 7, .inl (cJ, 200, .inr (.inl vv)))]]) rfl rfl ?_
              refine jJ_athrow hx hb hK 1 rfl dX10_product_124 ?_
              have he : xPro tk N vs r a = (1, 0) := by rw [← hx3, hxe5, xThen_0, show xOp2 ((tk 0).getD a3 0) v3 xv5 = (1, 0) from by rw [show (tk 0).getD a3 0 = 47 by omega]; exact xop2_1 (by omega)]; exact xThen_n (by decide) _
              exact jJx_out hno hlocks (by show _ ≤ 0; omega) (by show _ ≤ 0; omega) ⟨by rw [he]; exact (by decide : ¬ 1 = 0), ⟨_, by rw [he]; rfl⟩, rfl, rfl⟩
          · exfalso; omega
        · refine jJ_of (fun H locs => lv_aload_n hx hb dX10_product_71 rfl (lv_at hl 3 rfl)) ?_
          refine jJ_of (fun H locs => lv_lload_n hx hb dX10_product_72 rfl (lv_at hl 2 rfl)) ?_
          refine jJ_of (fun H locs => lv_lload hx hb dX10_product_73 (lv_at hl 0 rfl)) ?_
          refine jX_callV (As := [.long (lI v3), .long (lI xv5)]) (rest := []) (wc := jF (aWd Z (lsV [E 0, E 1, E 2, .ref (Z 1), .int (nI aa5), E 5, E 6, E 7, E 8, .null, E 10, E 11, E 12, E 13, E 14, .ref (Z 7), .null, E 17, E 18]) al)) (cs2 := [[(Z 1, .inr (7, [X 0, X 1, .ref (Z 3), X 3, .ref (Z 5), X 5, X 6, X 7, X 8, X 9, X 10, X 11, X 12]))], [(Z 3, .inl (cB, 32008, .inl (V 0)))], [(Z 5, .inl (cI, 32008, .inl (V 2)))], [(Z 7, .inl (cJ, 200, .inr (.inl vv)))]]) (C := RX10) (T := TX10) (N := 19) (ci := 8) [0, 1] [2, 3, 4, 5] ⟨hx, hb, hml, hown, hts⟩ hK hA hAm (c_Md_times (E := lsV [E 0, E 1, E 2, .ref (Z 1), .int (nI aa5), E 5, E 6, E 7, E 8, .null, E 10, E 11, E 12, E 13, E 14, .ref (Z 7), .null, E 17, E 18]) (al := al) v3 xv5 (by omega) (by omega) (by omega) (by omega)) (cwV 2 hts gX10_product_X10_times rfl rfl rfl (by decide +kernel) ⟨by show (2) + 1 ≤ 8 * r + 10; omega, by show 8 + (9 + 11) + (80) ≤ 320 * r + 440; omega⟩) (nn := 6) rfl (by decide) rfl rfl ⟨0, _, rfl⟩ rfl rfl rfl hl.1 (Nat.le_of_ble_eq_true rfl) dX10_product_75 (by show _ + 0 ≤ 0; omega) (by show _ + 0 ≤ 0; omega) (fun u8 k8 n8 q8 hx8 => ?_) (fun v u8 k8 n8 hq8 => ?_)
          · obtain ⟨hb8, hu8, rfl, rfl⟩ := hx8
            rw [hu8]
            have he : xPro tk N vs r a = (4, 0) := by rw [← hx3, hxe5, xThen_0, show xOp2 ((tk 0).getD a3 0) v3 xv5 = (4, 0) from by rw [show (tk 0).getD a3 0 = 42 by omega]; exact xop2_4 (by omega) (vTwo_42 _ _) hb8]; exact xThen_n (by decide) _
            exact jJx_out hno hlocks (by show _ ≤ 0; omega) (by show _ ≤ 0; omega) ⟨by rw [he]; exact (by decide : ¬ 4 = 0), ⟨_, by rw [he]; rfl⟩, rfl, rfl⟩
          obtain ⟨hb8, rfl, hw8, rfl, rfl⟩ := hq8
          rw [hw8]
          have hvk8 := vTG_ok (z := vMul v3 xv5) hb8
          refine jJ_open (xs := [[(Z 0, .inr (8, [E 0, E 1, E 2, .ref (Z 1), .int (nI aa5), E 5, E 6, E 7, E 8, .ref (Z 2), E 10, E 11, E 12, E 13, E 14, .ref (Z 7), .int (nI al), E 17, E 18]))], [(Z 2, .inr (0, []))]]) (r := [[(Z 1, .inr (7, [X 0, X 1, .ref (Z 3), X 3, .ref (Z 5), X 5, X 6, X 7, X 8, X 9, X 10, X 11, X 12]))], [(Z 3, .inl (cB, 32008, .inl (V 0)))], [(Z 5, .inl (cI, 32008, .inl (V 2)))], [(Z 7, .inl (cJ, 200, .inr (.inl vv)))]]) (cs2 := [[(Z 0, .inr (8, [E 0, E 1, E 2, .ref (Z 1), .int (nI aa5), E 5, E 6, E 7, E 8, .ref (Z 2), E 10, E 11, E 12, E 13, E 14, .ref (Z 7), .int (nI al), E 17, E 18]))], [(Z 2, .inr (0, []))], [(Z 1, .inr (7, [X 0, X 1, .ref (Z 3), X 3, .ref (Z 5), X 5, X 6, X 7, X 8, X 9, X 10, X 11, X 12]))], [(Z 3, .inl (cB, 32008, .inl (V 0)))], [(Z 5, .inl (cI, 32008, .inl (V 2)))], [(Z 7, .inl (cJ, 200, .inr (.inl vv)))]]) rfl ?_
          refine jJ_eq (g2 := F0 m 78 ls [.long (lI (vMul v3 xv5))]) (cs2 := [[(Z 0, .inr (8, [E 0, E 1, E 2, .ref (Z 1), .int (nI aa5), E 5, E 6, E 7, E 8, .ref (Z 2), E 10, E 11, E 12, E 13, E 14, .ref (Z 7), .int (nI al), E 17, E 18]))], [(Z 2, .inr (0, []))], [(Z 1, .inr (7, [X 0, X 1, .ref (Z 3), X 3, .ref (Z 5), X 5, X 6, X 7, X 8, X 9, X 10, X 11, X 12]))], [(Z 3, .inl (cB, 32008, .inl (V 0)))], [(Z 5, .inl (cI, 32008, .inl (V 2)))], [(Z 7, .inl (cJ, 200, .inr (.inl vv)))]]) rfl rfl ?_
          refine jJ_ofL (fun H locs => lv_lstore_n (lv' := [(1, .long (lI (vMul v3 xv5))), (4, .long (lI xv5)), (3, .int (iI (-((kW ((tk 0).getD a3 0) ((tk 2).getD a3 0) : Nat) : Int)))), (0, .ref (Z 0))]) hx hb dX10_product_78 rfl hl (by decide) rfl) (fun ls hl => ?_)
          refine jJ_of (fun H locs => lv_goto (tgt := 158) hx hb dX10_product_79 (by decide)) ?_
          refine jJ_of (fun H locs => lv_goto (tgt := 5) hx hb dX10_product_158 (by decide)) ?_
          have ho : xOp2 ((tk 0).getD a3 0) v3 xv5 = (0, vMul v3 xv5) := by rw [show (tk 0).getD a3 0 = 42 by omega]; exact xop2_ok (by omega) (vTwo_42 _ _) hb8
          rw [haa5] at hk2 hq3
          exact ih aa5 (vMul v3 xv5) (by omega) (by omega) (by omega) (vTG_ok hb8) hk2 hq3 (by rw [← hx3, hxe5, xThen_0, ho, xThen_0, haa5]) ls (lv_sub hl [0, 3] rfl)
      · refine jJ_of (fun H locs => lv_aload_n hx hb dX10_product_20 rfl (lv_at hl 1 rfl)) ?_
        refine jJ_get hx hb (C := RX10) (T := TX10) (N := 19) hts uX10_in_X10_product hown hK 0 rfl rfl 3 (by decide) (hts (.fieldLink RX10 53 "ValueBlocksModel" "t" "LValueBlocksModel$Text;") (by decide +kernel)) (fun _ h9 => h9) rfl dX10_product_21 ?_
        refine jJ_get hx hb (C := RX9) (T := TX9) (N := 13) hts uX9_in_X10_product hown hK 1 rfl rfl 4 (by decide) (hts (.fieldLink RX10 71 "ValueBlocksModel$Text" "worths" "[I") (by decide +kernel)) (fun _ h9 => h9) rfl dX10_product_24 ?_
        refine jJ_of (fun H locs => lv_aload_n hx hb dX10_product_27 rfl (lv_at hl 1 rfl)) ?_
        refine jJ_get hx hb (C := RX10) (T := TX10) (N := 19) hts uX10_in_X10_product hown hK 0 rfl rfl 4 (by decide) (hts (.fieldLink RX10 121 "ValueBlocksModel" "at" "I") (by decide +kernel)) (fun _ h9 => h9) rfl dX10_product_28 ?_
        refine jJ_iald hx hb hK 3 0 (f := V 2) rfl rfl (vp_in_nI (by omega) (by omega)) (x := (nI (kW ((tk 0).getD a3 0) ((tk 2).getD a3 0)))) (by rw [nI_clamp (by omega)]; exact hV2) dX10_product_31 ?_
        refine jJ_of (fun H locs => lv_goto (tgt := 48) hx hb dX10_product_32 (by decide)) ?_
        refine jJ_ofL (fun H locs => lv_istore_n (lv' := [(3, .int (nI (kW ((tk 0).getD a3 0) ((tk 2).getD a3 0)))), (1, .long (lI v3)), (0, .ref (Z 0))]) hx hb dX10_product_48 rfl hl (by decide) rfl) (fun ls hl => ?_)
        refine jJ_of (fun H locs => lv_aload_n hx hb dX10_product_49 rfl (lv_at hl 2 rfl)) ?_
        refine jJ_of (fun H locs => lv_dup hx hb dX10_product_50 rfl) ?_
        refine jJ_get hx hb (C := RX10) (T := TX10) (N := 19) hts uX10_in_X10_product hown hK 0 rfl rfl 4 (by decide) (hts (.fieldLink RX10 121 "ValueBlocksModel" "at" "I") (by decide +kernel)) (fun _ h9 => h9) rfl dX10_product_51 ?_
        refine jJ_of (fun H locs => lv_iconst (v := (nI 1)) hx hb dX10_product_54 (by decide)) ?_
        refine jJ_of (fun H locs => jn_iadd hx hb dX10_product_55) ?_
        refine jJ_put hx hb (C := RX10) (T := TX10) (N := 19) (ty := .int) (v := .int (nI (a3 + 1))) hts uX10_in_X10_product tyX10 tyX10_ok nmX10 hown hK 0 rfl rfl 4 (by decide) (hts (.fieldLink RX10 121 "ValueBlocksModel" "at" "I") (by decide +kernel)) (fun _ h9 => h9) rfl (by decide +kernel) rfl rfl (Nat.le_of_ble_eq_true rfl) dX10_product_56 (cs2 := [[(Z 0, .inr (8, [E 0, E 1, E 2, .ref (Z 1), .int (nI (a3 + 1)), E 5, E 6, E 7, E 8, .ref (Z 2), E 10, E 11, E 12, E 13, E 14, .ref (Z 7), .int (nI al), E 17, E 18]))], [(Z 1, .inr (7, [X 0, X 1, .ref (Z 3), X 3, .ref (Z 5), X 5, X 6, X 7, X 8, X 9, X 10, X 11, X 12]))], [(Z 3, .inl (cB, 32008, .inl (V 0)))], [(Z 5, .inl (cI, 32008, .inl (V 2)))], [(Z 2, .inr (0, []))], [(Z 7, .inl (cJ, 200, .inr (.inl vv)))]]) rfl ?_
        refine jJ_of (fun H locs => lv_aload_n hx hb dX10_product_59 rfl (lv_at hl 2 rfl)) ?_
        have hokq9 : (qFac tk N r (a3 + 1)).1 = true := by exact hk1
        obtain ⟨aa9, haa9⟩ : ∃ i, (qFac tk N r (a3 + 1)).2 = i := ⟨_, rfl⟩
        have heq9 : qFac tk N r (a3 + 1) = (true, aa9) := Prod.ext hokq9 haa9
        have hqb9 : (a3 + 1) ≤ (qFac tk N r (a3 + 1)).2 ∧ (qFac tk N r (a3 + 1)).2 + 1 ≤ (tk 0).length := qb_fac hE N r (a3 + 1) (by omega)
        rw [haa9] at hqb9
        obtain ⟨xa9, xv9, hxe9⟩ : ∃ i j, xFac tk N vs r (a3 + 1) = (i, j) := ⟨_, _, rfl⟩
        have hxv9 := xv_fac N hB2a hvs r (a3 + 1)
        rw [hxe9] at hxv9
        dsimp only at hxv9
        refine jX_callV (As := []) (rest := []) (wc := jF (eW cI cJ cB Z (E) (X) V vv (a3 + 1) al)) (cs2 := []) (C := RX10) (T := TX10) (N := 19) (ci := 8) [0, 4, 1, 2, 3, 5] [] ⟨hx, hb, hml, hown, hts⟩ hK hA hAm (hFa (a3 + 1) al (by omega) hokq9) (cwV 0 hts gX10_product_X10_factor rfl rfl rfl (by decide +kernel) ⟨by show (8 * r + 9) + 1 ≤ 8 * r + 10; omega, by show 8 + (4 + 11) + (320 * r + 400) ≤ 320 * r + 440; omega⟩) (nn := 6) rfl (by decide) rfl rfl ⟨0, _, rfl⟩ rfl rfl rfl hl.1 (Nat.le_of_ble_eq_true rfl) dX10_product_60 (by show _ + 0 ≤ 0; omega) (by show _ + 0 ≤ 0; omega) (fun u9 k9 n9 q9 hx9 => ?_) (fun v u9 k9 n9 hq9 => ?_)
        · rw [hxe9] at hx9
          dsimp only at hx9
          obtain ⟨hnz9, ⟨a2_9, hu9⟩, rfl, rfl⟩ := hx9
          rw [hu9]
          have he : xPro tk N vs r a = (xa9, xv9) := by rw [← hx3, hxe9]; exact xThen_n hnz9 _
          exact jJx_out hno hlocks (by show _ ≤ 0; omega) (by show _ ≤ 0; omega) ⟨by rw [he]; assumption, ⟨_, by rw [he]; rfl⟩, rfl, rfl⟩
        rw [hxe9, haa9] at hq9
        dsimp only at hq9
        obtain ⟨hz9, rfl, hw9, rfl, rfl⟩ := hq9
        subst hz9
        rw [hw9]
        have hvo9 := hxv9 rfl
        have hvo9b := hvo9
        unfold vOK at hvo9b
        refine jJ_open (xs := [[(Z 0, .inr (8, [E 0, E 1, E 2, .ref (Z 1), .int (nI aa9), E 5, E 6, E 7, E 8, .ref (Z 2), E 10, E 11, E 12, E 13, E 14, .ref (Z 7), .int (nI al), E 17, E 18]))], [(Z 2, .inr (0, []))], [(Z 1, .inr (7, [X 0, X 1, .ref (Z 3), X 3, .ref (Z 5), X 5, X 6, X 7, X 8, X 9, X 10, X 11, X 12]))], [(Z 3, .inl (cB, 32008, .inl (V 0)))], [(Z 5, .inl (cI, 32008, .inl (V 2)))], [(Z 7, .inl (cJ, 200, .inr (.inl vv)))]]) (r := []) (cs2 := [[(Z 0, .inr (8, [E 0, E 1, E 2, .ref (Z 1), .int (nI aa9), E 5, E 6, E 7, E 8, .ref (Z 2), E 10, E 11, E 12, E 13, E 14, .ref (Z 7), .int (nI al), E 17, E 18]))], [(Z 2, .inr (0, []))], [(Z 1, .inr (7, [X 0, X 1, .ref (Z 3), X 3, .ref (Z 5), X 5, X 6, X 7, X 8, X 9, X 10, X 11, X 12]))], [(Z 3, .inl (cB, 32008, .inl (V 0)))], [(Z 5, .inl (cI, 32008, .inl (V 2)))], [(Z 7, .inl (cJ, 200, .inr (.inl vv)))]]) rfl ?_
        refine jJ_eq (g2 := F0 m 63 ls [.long (lI xv9)]) (cs2 := [[(Z 0, .inr (8, [E 0, E 1, E 2, .ref (Z 1), .int (nI aa9), E 5, E 6, E 7, E 8, .ref (Z 2), E 10, E 11, E 12, E 13, E 14, .ref (Z 7), .int (nI al), E 17, E 18]))], [(Z 2, .inr (0, []))], [(Z 1, .inr (7, [X 0, X 1, .ref (Z 3), X 3, .ref (Z 5), X 5, X 6, X 7, X 8, X 9, X 10, X 11, X 12]))], [(Z 3, .inl (cB, 32008, .inl (V 0)))], [(Z 5, .inl (cI, 32008, .inl (V 2)))], [(Z 7, .inl (cJ, 200, .inr (.inl vv)))]]) rfl rfl ?_
        refine jJ_ofL (fun H locs => lv_lstore (lv' := [(4, .long (lI xv9)), (3, .int (nI (kW ((tk 0).getD a3 0) ((tk 2).getD a3 0)))), (1, .long (lI v3)), (0, .ref (Z 0))]) hx hb dX10_product_63 hl (by decide) rfl) (fun ls hl => ?_)
        refine jJ_of (fun H locs => lv_iload_n hx hb dX10_product_65 rfl (lv_at hl 1 rfl)) ?_
        refine jJ_of (fun H locs => lv_bipush (v := (iI (-42))) hx hb dX10_product_66 (by decide)) ?_
        rw [nI_iI (kW ((tk 0).getD a3 0) ((tk 2).getD a3 0))]
        refine jJ_of2 (fun H locs => jz_icmp_ne (tgt := 82) hx hb dX10_product_68 (by decide) (by omega) (by omega) (by omega) (by omega)) (fun c68 => ?_) (fun c68 => ?_)
        · refine jJ_of (fun H locs => lv_iload_n hx hb dX10_product_82 rfl (lv_at hl 1 rfl)) ?_
          refine jJ_of (fun H locs => lv_bipush (v := (nI 10)) hx hb dX10_product_83 (by decide)) ?_
          refine jJ_of2 (fun H locs => jn_icmp_ne (tgt := 112) hx hb dX10_product_85 (by decide) (by omega) (by omega)) (fun c85 => ?_) (fun c85 => ?_)
          · refine jJ_of (fun H locs => lv_lload hx hb dX10_product_112 (lv_at hl 0 rfl)) ?_
            refine jJ_of (fun H locs => jn_lconst (v := 0) hx hb dX10_product_114 rfl) ?_
            refine jJ_of (fun H locs => W.lcmp hx hb dX10_product_115) ?_
            refine jJ_of2 (fun H locs => jl_if_ne (tgt := 125) hx hb dX10_product_116 (by decide) (by omega) (by omega) (by omega) (by omega)) (fun c116 => ?_) (fun c116 => ?_)
            · refine jJ_of (fun H locs => lv_iload_n hx hb dX10_product_125 rfl (lv_at hl 1 rfl)) ?_
              refine jJ_of (fun H locs => lv_bipush (v := (nI 9)) hx hb dX10_product_126 (by decide)) ?_
              refine jJ_of2 (fun H locs => jn_icmp_ne (tgt := 145) hx hb dX10_product_128 (by decide) (by omega) (by omega)) (fun c128 => ?_) (fun c128 => ?_)
              · exfalso; omega
              · refine jJ_of (fun H locs => lv_lload_n hx hb dX10_product_131 rfl (lv_at hl 2 rfl)) ?_
                refine jJ_of (fun H locs => lv_lload hx hb dX10_product_132 (lv_at hl 0 rfl)) ?_
                refine jJ_of (fun H locs => lv_lload_n hx hb dX10_product_134 rfl (lv_at hl 2 rfl)) ?_
                refine jJ_of (fun H locs => lv_lload hx hb dX10_product_135 (lv_at hl 0 rfl)) ?_
                refine jJ_callS (As := [.long (lI v3), .long (lI xv9)]) (rest := [.long (lI xv9), .long (lI v3)]) (wc := _) (cs2 := [[(Z 0, .inr (8, [E 0, E 1, E 2, .ref (Z 1), .int (nI aa9), E 5, E 6, E 7, E 8, .ref (Z 2), E 10, E 11, E 12, E 13, E 14, .ref (Z 7), .int (nI al), E 17, E 18]))], [(Z 2, .inr (0, []))], [(Z 1, .inr (7, [X 0, X 1, .ref (Z 3), X 3, .ref (Z 5), X 5, X 6, X 7, X 8, X 9, X 10, X 11, X 12]))], [(Z 3, .inl (cB, 32008, .inl (V 0)))], [(Z 5, .inl (cI, 32008, .inl (V 2)))], [(Z 7, .inl (cJ, 200, .inr (.inl vv)))]]) [] [0, 1, 2, 3, 4, 5] ⟨hx, hb, hml, hown, hts⟩ hK hA hAm (c_Md_down v3 xv9 (by omega) (by omega) (by omega) (by omega) (by omega)) (va_cwS 2 hts gX10_product_X10_down rfl rfl rfl (by decide +kernel) ⟨by show (0) + 1 ≤ 8 * r + 10; omega, by show 8 + (6 + 11) + (0) ≤ 320 * r + 440; omega⟩) (nn := 6) rfl (by decide) rfl rfl rfl rfl hl.1 (Nat.le_of_ble_eq_true rfl) dX10_product_137 (by show _ + 0 ≤ 0; omega) (by show _ + 0 ≤ 0; omega) (fun v u10 k10 n10 hq10 => ?_)
                obtain ⟨rfl, rfl, rfl, rfl⟩ := hq10
                refine jJ_eq (g2 := F0 m 140 ls [.long (lI (Int.fdiv v3 xv9)), .long (lI xv9), .long (lI v3)]) (cs2 := [([] : va_W), [(Z 0, .inr (8, [E 0, E 1, E 2, .ref (Z 1), .int (nI aa9), E 5, E 6, E 7, E 8, .ref (Z 2), E 10, E 11, E 12, E 13, E 14, .ref (Z 7), .int (nI al), E 17, E 18]))], [(Z 2, .inr (0, []))], [(Z 1, .inr (7, [X 0, X 1, .ref (Z 3), X 3, .ref (Z 5), X 5, X 6, X 7, X 8, X 9, X 10, X 11, X 12]))], [(Z 3, .inl (cB, 32008, .inl (V 0)))], [(Z 5, .inl (cI, 32008, .inl (V 2)))], [(Z 7, .inl (cJ, 200, .inr (.inl vv)))]]) rfl rfl ?_
                refine jJ_flat (cs2 := [[(Z 0, .inr (8, [E 0, E 1, E 2, .ref (Z 1), .int (nI aa9), E 5, E 6, E 7, E 8, .ref (Z 2), E 10, E 11, E 12, E 13, E 14, .ref (Z 7), .int (nI al), E 17, E 18]))], [(Z 2, .inr (0, []))], [(Z 1, .inr (7, [X 0, X 1, .ref (Z 3), X 3, .ref (Z 5), X 5, X 6, X 7, X 8, X 9, X 10, X 11, X 12]))], [(Z 3, .inl (cB, 32008, .inl (V 0)))], [(Z 5, .inl (cI, 32008, .inl (V 2)))], [(Z 7, .inl (cJ, 200, .inr (.inl vv)))]]) rfl ?_
                have hfd140 := vFdB (a := v3) (b := xv9) (by omega)
                refine jJ_of (fun H locs => jl_lmul hx hb dX10_product_140) ?_
                refine jJ_of (fun H locs => jl_lsub hx hb dX10_product_141) ?_
                refine jJ_of (fun H locs => lv_goto (tgt := 157) hx hb dX10_product_142 (by decide)) ?_
                refine jJ_ofL (fun H locs => lv_lstore_n (lv' := [(1, .long (lI (v3 - (xv9 * (Int.fdiv v3 xv9))))), (4, .long (lI xv9)), (3, .int (nI (kW ((tk 0).getD a3 0) ((tk 2).getD a3 0)))), (0, .ref (Z 0))]) hx hb dX10_product_157 rfl hl (by decide) rfl) (fun ls hl => ?_)
                refine jJ_of (fun H locs => lv_goto (tgt := 5) hx hb dX10_product_158 (by decide)) ?_
                have ho : xOp2 ((tk 0).getD a3 0) v3 xv9 = (0, v3 - (xv9 * (Int.fdiv v3 xv9))) := by rw [show (tk 0).getD a3 0 = 309 by omega]; exact xop2_ok (by omega) (vTwo_309 (by omega)) (fmod_ok (by omega) hvo9)
                rw [haa9] at hk2 hq3
                exact ih aa9 (v3 - (xv9 * (Int.fdiv v3 xv9))) (by omega) (by omega) (by omega) (vTG_ok (fmod_ok (by omega) hvo9)) hk2 hq3 (by rw [← hx3, hxe9, xThen_0, ho, xThen_0, haa9]) ls (lv_sub hl [0, 3] rfl)
            · refine jJ_of (fun H locs => lv_aload_n hx hb dX10_product_119 rfl (lv_at hl 3 rfl)) ?_
              refine jJ_of (fun H locs => lv_iconst (v := (nI 1)) hx hb dX10_product_120 (by decide)) ?_
              refine jJ_callV (As := [.int (nI 1)]) (rest := []) (wc := jF (aWd Z (lsV [E 0, E 1, E 2, .ref (Z 1), .int (nI aa9), E 5, E 6, E 7, E 8, .null, E 10, E 11, E 12, E 13, E 14, .ref (Z 7), .null, E 17, E 18]) al)) (cs2 := [[(Z 1, .inr (7, [X 0, X 1, .ref (Z 3), X 3, .ref (Z 5), X 5, X 6, X 7, X 8, X 9, X 10, X 11, X 12]))], [(Z 3, .inl (cB, 32008, .inl (V 0)))], [(Z 5, .inl (cI, 32008, .inl (V 2)))], [(Z 7, .inl (cJ, 200, .inr (.inl vv)))]]) (C := RX10) (T := TX10) (N := 19) (ci := 8) [0, 1] [2, 3, 4, 5] ⟨hx, hb, hml, hown, hts⟩ hK hA hAm (c_Md_alarmed (E := lsV [E 0, E 1, E 2, .ref (Z 1), .int (nI aa9), E 5, E 6, E 7, E 8, .null, E 10, E 11, E 12, E 13, E 14, .ref (Z 7), .null, E 17, E 18]) (al := al) 1) (cwV 1 hts gX10_product_X10_alarmed rfl rfl rfl (by decide +kernel) ⟨by show (0) + 1 ≤ 8 * r + 10; omega, by show 8 + (2 + 11) + (0) ≤ 320 * r + 440; omega⟩) (nn := 6) rfl (by decide) rfl rfl ⟨0, _, rfl⟩ rfl rfl rfl hl.1 (Nat.le_of_ble_eq_true rfl) dX10_product_121 (by show _ + 0 ≤ 0; omega) (by show _ + 0 ≤ 0; omega) (fun v u11 k11 n11 hq11 => ?_)
              obtain ⟨rfl, hw11, rfl, rfl⟩ := hq11
              rw [hw11]
              refine jJ_open (xs := [[(Z 0, .inr (8, [E 0, E 1, E 2, .ref (Z 1), .int (nI aa9), E 5, E 6, E 7, E 8, .ref (Z 2), E 10, E 11, E 12, E 13, E 14, .ref (Z 7), .int (nI 1), E 17, E 18]))], [(Z 2, .inr (0, []))]]) (r := [[(Z 1, .inr (7, [X 0, X 1, .ref (Z 3), X 3, .ref (Z 5), X 5, X 6, X 7, X 8, X 9, X 10, X 11, X 12]))], [(Z 3, .inl (cB, 32008, .inl (V 0)))], [(Z 5, .inl (cI, 32008, .inl (V 2)))], [(Z 7, .inl (cJ, 200, .inr (.inl vv)))]]) (cs2 := [[(Z 0, .inr (8, [E 0, E 1, E 2, .ref (Z 1), .int (nI aa9), E 5, E 6, E 7, E 8, .ref (Z 2), E 10, E 11, E 12, E 13, E 14, .ref (Z 7), .int (nI 1), E 17, E 18]))], [(Z 2, .inr (0, []))], [(Z 1, .inr (7, [X 0, X 1, .ref (Z 3), X 3, .ref (Z 5), X 5, X 6, X 7, X 8, X 9, X 10, X 11, X 12]))], [(Z 3, .inl (cB, 32008, .inl (V 0)))], [(Z 5, .inl (cI, 32008, .inl (V 2)))], [(Z 7, .inl (cJ, 200, .inr (.inl vv)))]]) rfl ?_
              refine jJ_eq (g2 := F0 m 124 ls [.ref (Z 2)]) (cs2 := [[(Z 0, .inr (8, [E 0, E 1, E 2, .ref (Z 1), .int (nI aa9), E 5, E 6, E 7, E 8, .ref (Z 2), E 10, E 11, E 12, E 13, E 14, .ref (Z 7), .int (nI 1), E 17, E 18]))], [(Z 2, .inr (0, []))], [(Z 1, .inr (7, [X 0, X 1, .ref (Z 3), X 3, .ref (Z 5), X 5, X 6, X 7, X 8, X 9, X 10, X 11, X 12]))], [(Z 3, .inl (cB, 32008, .inl (V 0)))], [(Z 5, .inl (cI, 32008, .inl (V 2)))], [(Z 7, .inl (cJ, 200, .inr (.inl vv)))]]) rfl rfl ?_
              refine jJ_athrow hx hb hK 1 rfl dX10_product_124 ?_
              have he : xPro tk N vs r a = (1, 0) := by rw [← hx3, hxe9, xThen_0, show xOp2 ((tk 0).getD a3 0) v3 xv9 = (1, 0) from by rw [show (tk 0).getD a3 0 = 309 by omega]; exact xop2_1 (by omega)]; exact xThen_n (by decide) _
              exact jJx_out hno hlocks (by show _ ≤ 0; omega) (by show _ ≤ 0; omega) ⟨by rw [he]; exact (by decide : ¬ 1 = 0), ⟨_, by rw [he]; rfl⟩, rfl, rfl⟩
          · refine jJ_of (fun H locs => lv_lload_n hx hb dX10_product_88 rfl (lv_at hl 2 rfl)) ?_
            refine jJ_of (fun H locs => jn_lconst (v := 0) hx hb dX10_product_89 rfl) ?_
            refine jJ_of (fun H locs => W.lcmp hx hb dX10_product_90) ?_
            refine jJ_of2 (fun H locs => jl_if_eq (tgt := 107) hx hb dX10_product_91 (by decide) (by omega) (by omega) (by omega) (by omega)) (fun c91 => ?_) (fun c91 => ?_)
            · refine jJ_of (fun H locs => jn_lconst (v := 0) hx hb dX10_product_107 rfl) ?_
              refine jJ_ofL (fun H locs => lv_lstore_n (lv' := [(1, .long (lI 0)), (4, .long (lI xv9)), (3, .int (nI (kW ((tk 0).getD a3 0) ((tk 2).getD a3 0)))), (0, .ref (Z 0))]) hx hb dX10_product_108 rfl hl (by decide) rfl) (fun ls hl => ?_)
              refine jJ_of (fun H locs => lv_goto (tgt := 158) hx hb dX10_product_109 (by decide)) ?_
              refine jJ_of (fun H locs => lv_goto (tgt := 5) hx hb dX10_product_158 (by decide)) ?_
              have ho : xOp2 ((tk 0).getD a3 0) v3 xv9 = (0, 0) := by rw [show (tk 0).getD a3 0 = 310 by omega]; exact xop2_ok (by omega) (vTwo_f (by decide) (by rw [vH_310]; exact decide_eq_false (by omega))) (by decide)
              rw [haa9] at hk2 hq3
              exact ih aa9 0 (by omega) (by omega) (by omega) (by unfold vOK; omega) hk2 hq3 (by rw [← hx3, hxe9, xThen_0, ho, xThen_0, haa9]) ls (lv_sub hl [0, 3] rfl)
            · refine jJ_of (fun H locs => lv_lload hx hb dX10_product_94 (lv_at hl 0 rfl)) ?_
              refine jJ_of (fun H locs => jn_lconst (v := 0) hx hb dX10_product_96 rfl) ?_
              refine jJ_of (fun H locs => W.lcmp hx hb dX10_product_97) ?_
              refine jJ_of2 (fun H locs => jl_if_eq (tgt := 107) hx hb dX10_product_98 (by decide) (by omega) (by omega) (by omega) (by omega)) (fun c98 => ?_) (fun c98 => ?_)
              · refine jJ_of (fun H locs => jn_lconst (v := 0) hx hb dX10_product_107 rfl) ?_
                refine jJ_ofL (fun H locs => lv_lstore_n (lv' := [(1, .long (lI 0)), (4, .long (lI xv9)), (3, .int (nI (kW ((tk 0).getD a3 0) ((tk 2).getD a3 0)))), (0, .ref (Z 0))]) hx hb dX10_product_108 rfl hl (by decide) rfl) (fun ls hl => ?_)
                refine jJ_of (fun H locs => lv_goto (tgt := 158) hx hb dX10_product_109 (by decide)) ?_
                refine jJ_of (fun H locs => lv_goto (tgt := 5) hx hb dX10_product_158 (by decide)) ?_
                have ho : xOp2 ((tk 0).getD a3 0) v3 xv9 = (0, 0) := by rw [show (tk 0).getD a3 0 = 310 by omega]; exact xop2_ok (by omega) (vTwo_f (by decide) (by rw [vH_310]; exact decide_eq_false (by omega))) (by decide)
                rw [haa9] at hk2 hq3
                exact ih aa9 0 (by omega) (by omega) (by omega) (by unfold vOK; omega) hk2 hq3 (by rw [← hx3, hxe9, xThen_0, ho, xThen_0, haa9]) ls (lv_sub hl [0, 3] rfl)
              · refine jJ_of (fun H locs => lv_ldc2 (v := (lI 1000)) hx hb hown (by rw [show (lI 1000) = (1000 : Int64) from by decide]; exact (hts (.constantLong RX10 265 (1000)) (by decide +kernel))) dX10_product_101) ?_
                refine jJ_of (fun H locs => lv_goto (tgt := 108) hx hb dX10_product_104 (by decide)) ?_
                refine jJ_ofL (fun H locs => lv_lstore_n (lv' := [(1, .long (lI 1000)), (4, .long (lI xv9)), (3, .int (nI (kW ((tk 0).getD a3 0) ((tk 2).getD a3 0)))), (0, .ref (Z 0))]) hx hb dX10_product_108 rfl hl (by decide) rfl) (fun ls hl => ?_)
                refine jJ_of (fun H locs => lv_goto (tgt := 158) hx hb dX10_product_109 (by decide)) ?_
                refine jJ_of (fun H locs => lv_goto (tgt := 5) hx hb dX10_product_158 (by decide)) ?_
                have ho : xOp2 ((tk 0).getD a3 0) v3 xv9 = (0, 1000) := by rw [show (tk 0).getD a3 0 = 310 by omega]; exact xop2_ok (by omega) (vTwo_t (by decide) (by rw [vH_310]; exact decide_eq_true (by omega))) (by decide)
                rw [haa9] at hk2 hq3
                exact ih aa9 1000 (by omega) (by omega) (by omega) (by unfold vOK; omega) hk2 hq3 (by rw [← hx3, hxe9, xThen_0, ho, xThen_0, haa9]) ls (lv_sub hl [0, 3] rfl)
        · exfalso; omega
theorem uX10_in_X10_sum : ∀ w ∈ u_ws RX10 TX10 19, w ∈ wsX10_sum := by decide +kernel
theorem uX9_in_X10_sum : ∀ w ∈ u_ws RX9 TX9 13, w ∈ wsX10_sum := by decide +kernel
set_option maxHeartbeats 4000000 in
set_option maxRecDepth 100000 in
/-- sum() -/
theorem c_Md_sum {Z : Nat → Nat} {E X : Nat → Value} {V : Nat → Nat → Int32} {vv : Nat → Int64} {tk : Nat → List Nat} {vs : Nat → Int} {a al : Nat} {N r : Nat} (hT : tV tk V) (hE : tE tk) (hvv : ∀ i, i < 200 → vv i = lI (vs i)) (hvs : ∀ i, i < 200 → vOK (vs i)) (ha : a + 1 ≤ (tk 0).length) (hok : (qSum tk N r a).1 = true) (hN : (tk 0).length ≤ N) (hPr : cEv D G cI cJ cB cZ l yX10_product wsX10_product (8 * r + 10) (320 * r + 440) Z E X V vv tk (fun z => .long (lI z)) (qSeq tk N jnF (qFac tk N r)) (xPro tk N vs r)) : HX l yX10_sum wsX10_sum ({ frames := 8 * r + 11, cells := 0, slots := 0, locals := 320 * r + 480 } : Room) D G (jT cI cJ cB cZ) [.ref (Z 0)] (jF (eW cI cJ cB Z E X V vv a al)) (fun v u k n => (xSum tk N vs r a).1 = 0 ∧ v = some (.long (lI (xSum tk N vs r a).2)) ∧ u = jF (eW cI cJ cB Z E X V vv (qSum tk N r a).2 al) ∧ k = 0 ∧ n = 0) (fun u k n => ¬ (xSum tk N vs r a).1 = 0 ∧ (∃ a2 : Nat, u = jF (eW cI cJ cB Z E X V vv a2 (xSum tk N vs r a).1)) ∧ k = 0 ∧ n = 0) := by
  refine HX_of (cc := cX10_sum) (maxL := 6) (ret := (some .long)) (lv := [(0, .ref (Z 0))]) (by decide) rfl rfl (Nat.le_of_ble_eq_true rfl) (fun p e s m args below meth c A0 ls hx hb hr hts hown hlocks hml hno hK hA hAm hl => ?_)
  refine jJ_open (xs := [[(Z 0, .inr (8, [E 0, E 1, E 2, .ref (Z 1), .int (nI a), E 5, E 6, E 7, E 8, .ref (Z 2), E 10, E 11, E 12, E 13, E 14, .ref (Z 7), .int (nI al), E 17, E 18]))], [(Z 2, .inr (0, []))], [(Z 1, .inr (7, [X 0, X 1, .ref (Z 3), X 3, .ref (Z 5), X 5, X 6, X 7, X 8, X 9, X 10, X 11, X 12]))], [(Z 3, .inl (cB, 32008, .inl (V 0)))], [(Z 5, .inl (cI, 32008, .inl (V 2)))], [(Z 7, .inl (cJ, 200, .inr (.inl vv)))]]) (r := []) (cs2 := [[(Z 0, .inr (8, [E 0, E 1, E 2, .ref (Z 1), .int (nI a), E 5, E 6, E 7, E 8, .ref (Z 2), E 10, E 11, E 12, E 13, E 14, .ref (Z 7), .int (nI al), E 17, E 18]))], [(Z 2, .inr (0, []))], [(Z 1, .inr (7, [X 0, X 1, .ref (Z 3), X 3, .ref (Z 5), X 5, X 6, X 7, X 8, X 9, X 10, X 11, X 12]))], [(Z 3, .inl (cB, 32008, .inl (V 0)))], [(Z 5, .inl (cI, 32008, .inl (V 2)))], [(Z 7, .inl (cJ, 200, .inr (.inl vv)))]]) rfl ?_
  have hL9 := hT.1
  obtain ⟨hV0, hV1, hV2, hV3⟩ := hT.2.1 a (by omega)
  obtain ⟨hB0, hB1, hB2⟩ := hT.2.2 a
  have hkc := kC_le ((tk 0).getD a 0)
  have hkw := kW_le hB0 hB2
  have hk1 := kC1 (c := (tk 0).getD a 0)
  have hk3 := kC3w (c := (tk 0).getD a 0) (w := (tk 2).getD a 0)
  have hB2a := fun i => (hT.2.2 i).2.2
  have hL8 := hE.lt (a := a)
  clear hV0 hV1 hV2 hV3 hkc hkw hk1 hk3 hB0 hB1 hB2
  obtain ⟨hok1, hok2, hok3⟩ := qThen_ok hok
  refine jJ_of (fun H locs => lv_aload_n hx hb dX10_sum_0 rfl (lv_at hl 0 rfl)) ?_
  have hokq1 : (qSeq tk N jnF (qFac tk N r) a).1 = true := by exact hok1
  obtain ⟨aa1, haa1⟩ : ∃ i, (qSeq tk N jnF (qFac tk N r) a).2 = i := ⟨_, rfl⟩
  have heq1 : qSeq tk N jnF (qFac tk N r) a = (true, aa1) := Prod.ext hokq1 haa1
  have hqb1 : a ≤ (qSeq tk N jnF (qFac tk N r) a).2 ∧ (qSeq tk N jnF (qFac tk N r) a).2 + 1 ≤ (tk 0).length := qb_seq hE (fun _ => jnF_x) (qb_fac hE N r) N a (by omega)
  rw [haa1] at hqb1
  obtain ⟨xa1, xv1, hxe1⟩ : ∃ i j, xPro tk N vs r a = (i, j) := ⟨_, _, rfl⟩
  have hxv1 := xv_pro N hB2a hvs r a
  rw [hxe1] at hxv1
  dsimp only at hxv1
  refine jX_callV (As := []) (rest := []) (wc := jF (eW cI cJ cB Z (E) (X) V vv a al)) (cs2 := []) (C := RX10) (T := TX10) (N := 19) (ci := 8) [0, 1, 2, 3, 4, 5] [] ⟨hx, hb, hml, hown, hts⟩ hK hA hAm (hPr a al (by omega) hokq1) (cwV 0 hts gX10_sum_X10_product rfl rfl rfl (by decide +kernel) ⟨by show (8 * r + 10) + 1 ≤ 8 * r + 11; omega, by show 8 + (6 + 11) + (320 * r + 440) ≤ 320 * r + 480; omega⟩) (nn := 6) rfl (by decide) rfl rfl ⟨0, _, rfl⟩ rfl rfl rfl hl.1 (Nat.le_of_ble_eq_true rfl) dX10_sum_1 (by show _ + 0 ≤ 0; omega) (by show _ + 0 ≤ 0; omega) (fun u1 k1 n1 q1 hx1 => ?_) (fun v u1 k1 n1 hq1 => ?_)
  · rw [hxe1] at hx1
    dsimp only at hx1
    obtain ⟨hnz1, ⟨a2_1, hu1⟩, rfl, rfl⟩ := hx1
    rw [hu1]
    have he : xSum tk N vs r a = (xa1, xv1) := by show xThen (xPro tk N vs r a) _ = _; rw [hxe1]; exact xThen_n hnz1 _
    exact jJx_out hno hlocks (by show _ ≤ 0; omega) (by show _ ≤ 0; omega) ⟨by rw [he]; assumption, ⟨_, by rw [he]; rfl⟩, rfl, rfl⟩
  rw [hxe1, haa1] at hq1
  dsimp only at hq1
  obtain ⟨hz1, rfl, hw1, rfl, rfl⟩ := hq1
  subst hz1
  rw [hw1]
  have hvo1 := hxv1 rfl
  have hvo1b := hvo1
  unfold vOK at hvo1b
  refine jJ_open (xs := [[(Z 0, .inr (8, [E 0, E 1, E 2, .ref (Z 1), .int (nI aa1), E 5, E 6, E 7, E 8, .ref (Z 2), E 10, E 11, E 12, E 13, E 14, .ref (Z 7), .int (nI al), E 17, E 18]))], [(Z 2, .inr (0, []))], [(Z 1, .inr (7, [X 0, X 1, .ref (Z 3), X 3, .ref (Z 5), X 5, X 6, X 7, X 8, X 9, X 10, X 11, X 12]))], [(Z 3, .inl (cB, 32008, .inl (V 0)))], [(Z 5, .inl (cI, 32008, .inl (V 2)))], [(Z 7, .inl (cJ, 200, .inr (.inl vv)))]]) (r := []) (cs2 := [[(Z 0, .inr (8, [E 0, E 1, E 2, .ref (Z 1), .int (nI aa1), E 5, E 6, E 7, E 8, .ref (Z 2), E 10, E 11, E 12, E 13, E 14, .ref (Z 7), .int (nI al), E 17, E 18]))], [(Z 2, .inr (0, []))], [(Z 1, .inr (7, [X 0, X 1, .ref (Z 3), X 3, .ref (Z 5), X 5, X 6, X 7, X 8, X 9, X 10, X 11, X 12]))], [(Z 3, .inl (cB, 32008, .inl (V 0)))], [(Z 5, .inl (cI, 32008, .inl (V 2)))], [(Z 7, .inl (cJ, 200, .inr (.inl vv)))]]) rfl ?_
  refine jJ_eq (g2 := F0 m 4 ls [.long (lI xv1)]) (cs2 := [[(Z 0, .inr (8, [E 0, E 1, E 2, .ref (Z 1), .int (nI aa1), E 5, E 6, E 7, E 8, .ref (Z 2), E 10, E 11, E 12, E 13, E 14, .ref (Z 7), .int (nI al), E 17, E 18]))], [(Z 2, .inr (0, []))], [(Z 1, .inr (7, [X 0, X 1, .ref (Z 3), X 3, .ref (Z 5), X 5, X 6, X 7, X 8, X 9, X 10, X 11, X 12]))], [(Z 3, .inl (cB, 32008, .inl (V 0)))], [(Z 5, .inl (cI, 32008, .inl (V 2)))], [(Z 7, .inl (cJ, 200, .inr (.inl vv)))]]) rfl rfl ?_
  refine jJ_ofL (fun H locs => lv_lstore_n (lv' := [(1, .long (lI xv1)), (0, .ref (Z 0))]) hx hb dX10_sum_4 rfl hl (by decide) rfl) (fun ls hl => ?_)
  rw [haa1] at hok2 hok3
  suffices lp : ∀ (n3 a3 : Nat) (v3 : Int), a ≤ a3 → a3 + 1 ≤ (tk 0).length → (tk 0).length ≤ n3 + a3 + 1 → vOK v3 → (qLoop tk jnP (qSeq tk N jnF (qFac tk N r)) n3 a3).1 = true → (qLoop tk jnP (qSeq tk N jnF (qFac tk N r)) n3 a3).2 = (qSum tk N r a).2 → xLoop tk jnP (qSeq tk N jnF (qFac tk N r)) (xPro tk N vs r) n3 a3 v3 = xSum tk N vs r a → ∀ ls, lv_has ls 6 [(1, .long (lI v3)), (0, .ref (Z 0))] → jJ p l e _ s m args below meth c D A0 [[(Z 0, .inr (8, [E 0, E 1, E 2, .ref (Z 1), .int (nI a3), E 5, E 6, E 7, E 8, .ref (Z 2), E 10, E 11, E 12, E 13, E 14, .ref (Z 7), .int (nI al), E 17, E 18]))], [(Z 2, .inr (0, []))], [(Z 1, .inr (7, [X 0, X 1, .ref (Z 3), X 3, .ref (Z 5), X 5, X 6, X 7, X 8, X 9, X 10, X 11, X 12]))], [(Z 3, .inl (cB, 32008, .inl (V 0)))], [(Z 5, .inl (cI, 32008, .inl (V 2)))], [(Z 7, .inl (cJ, 200, .inr (.inl vv)))]] 0 0 (jEndX below D A0 _ _ args s _ _) (F0 m 5 ls []) from lp N aa1 xv1 (by omega) (by omega) (by omega) hvo1 hok2 (congrArg Prod.snd hok3).symm (by show _ = xThen (xPro tk N vs r a) (xLoop tk jnP (qSeq tk N jnF (qFac tk N r)) (xPro tk N vs r) N ((qSeq tk N jnF (qFac tk N r)) a).2); rw [hxe1, xThen_0, haa1]) ls (lv_sub hl [0, 1] rfl)
  clear hok2 hok3 haa1 heq1 hqb1 hxe1 hxv1 hvo1 hvo1b hL8
  intro n3
  induction n3 with
  | zero =>
    intro a3 v3 ha3 ha3b hn3 hv3 hok3 hq3 hx3 ls hl
    obtain ⟨hV0, hV1, hV2, hV3⟩ := hT.2.1 a3 (by omega)
    obtain ⟨hB0, hB1, hB2⟩ := hT.2.2 a3
    have hkc := kC_le ((tk 0).getD a3 0)
    have hkw := kW_le hB0 hB2
    have hk3 := kC3w (c := (tk 0).getD a3 0) (w := (tk 2).getD a3 0)
    have hks := kWs (c := (tk 0).getD a3 0) (w := (tk 2).getD a3 0)
    have hL8 := hE.lt (a := a3)
    have hv3b := hv3
    unfold vOK at hv3b
    refine jJ_of (fun H locs => lv_aload_n hx hb dX10_sum_5 rfl (lv_at hl 1 rfl)) ?_
    refine jJ_callV (As := []) (rest := []) (wc := jF (kWd cI cB Z (lsV [E 0, E 1, E 2, .null, .null, E 5, E 6, E 7, E 8, .ref (Z 2), E 10, E 11, E 12, E 13, E 14, .ref (Z 7), .int (nI al), E 17, E 18]) (lsV [X 0, X 1, .null, X 3, .null, X 5, X 6, X 7, X 8, X 9, X 10, X 11, X 12]) V a3)) (cs2 := [[(Z 2, .inr (0, []))], [(Z 7, .inl (cJ, 200, .inr (.inl vv)))]]) (C := RX10) (T := TX10) (N := 19) (ci := 8) [0, 2, 3, 4] [1, 5] ⟨hx, hb, hml, hown, hts⟩ hK hA hAm (c_Md_isPlus (E := lsV [E 0, E 1, E 2, .null, .null, E 5, E 6, E 7, E 8, .ref (Z 2), E 10, E 11, E 12, E 13, E 14, .ref (Z 7), .int (nI al), E 17, E 18]) (X := lsV [X 0, X 1, .null, X 3, .null, X 5, X 6, X 7, X 8, X 9, X 10, X 11, X 12]) (a := a3) hT (by omega)) (cwV 0 hts gX10_sum_X10_isPlus rfl rfl rfl (by decide +kernel) ⟨by show (2) + 1 ≤ 8 * r + 11; omega, by show 8 + (1 + 11) + (80) ≤ 320 * r + 480; omega⟩) (nn := 6) rfl (by decide) rfl rfl ⟨0, _, rfl⟩ rfl rfl rfl hl.1 (Nat.le_of_ble_eq_true rfl) dX10_sum_6 (by show _ + 0 ≤ 0; omega) (by show _ + 0 ≤ 0; omega) (fun v u2 k2 n2 hq2 => ?_)
    obtain ⟨rfl, hw2, rfl, rfl⟩ := hq2
    rw [hw2]
    refine jJ_open (xs := [[(Z 0, .inr (8, [E 0, E 1, E 2, .ref (Z 1), .int (nI a3), E 5, E 6, E 7, E 8, .ref (Z 2), E 10, E 11, E 12, E 13, E 14, .ref (Z 7), .int (nI al), E 17, E 18]))], [(Z 1, .inr (7, [X 0, X 1, .ref (Z 3), X 3, .ref (Z 5), X 5, X 6, X 7, X 8, X 9, X 10, X 11, X 12]))], [(Z 3, .inl (cB, 32008, .inl (V 0)))], [(Z 5, .inl (cI, 32008, .inl (V 2)))]]) (r := [[(Z 2, .inr (0, []))], [(Z 7, .inl (cJ, 200, .inr (.inl vv)))]]) (cs2 := [[(Z 0, .inr (8, [E 0, E 1, E 2, .ref (Z 1), .int (nI a3), E 5, E 6, E 7, E 8, .ref (Z 2), E 10, E 11, E 12, E 13, E 14, .ref (Z 7), .int (nI al), E 17, E 18]))], [(Z 1, .inr (7, [X 0, X 1, .ref (Z 3), X 3, .ref (Z 5), X 5, X 6, X 7, X 8, X 9, X 10, X 11, X 12]))], [(Z 3, .inl (cB, 32008, .inl (V 0)))], [(Z 5, .inl (cI, 32008, .inl (V 2)))], [(Z 2, .inr (0, []))], [(Z 7, .inl (cJ, 200, .inr (.inl vv)))]]) rfl ?_
    refine jJ_eq (g2 := F0 m 9 ls [.int (bI (jnP ((tk 0).getD a3 0)))]) (cs2 := [[(Z 0, .inr (8, [E 0, E 1, E 2, .ref (Z 1), .int (nI a3), E 5, E 6, E 7, E 8, .ref (Z 2), E 10, E 11, E 12, E 13, E 14, .ref (Z 7), .int (nI al), E 17, E 18]))], [(Z 1, .inr (7, [X 0, X 1, .ref (Z 3), X 3, .ref (Z 5), X 5, X 6, X 7, X 8, X 9, X 10, X 11, X 12]))], [(Z 3, .inl (cB, 32008, .inl (V 0)))], [(Z 5, .inl (cI, 32008, .inl (V 2)))], [(Z 2, .inr (0, []))], [(Z 7, .inl (cJ, 200, .inr (.inl vv)))]]) rfl rfl ?_
    refine jJ_of2 (fun H locs => jb_if_eq (tgt := 168) hx hb dX10_sum_9 (by decide)) (fun c9 => ?_) (fun c9 => ?_)
    · refine jJ_of (fun H locs => lv_lload_n hx hb dX10_sum_168 rfl (lv_at hl 0 rfl)) ?_
      refine jJ_perm [0, 4, 1, 2, 3, 5] (nn := 6) rfl (by decide) (cs2 := [[(Z 0, .inr (8, [E 0, E 1, E 2, .ref (Z 1), .int (nI a3), E 5, E 6, E 7, E 8, .ref (Z 2), E 10, E 11, E 12, E 13, E 14, .ref (Z 7), .int (nI al), E 17, E 18]))], [(Z 2, .inr (0, []))], [(Z 1, .inr (7, [X 0, X 1, .ref (Z 3), X 3, .ref (Z 5), X 5, X 6, X 7, X 8, X 9, X 10, X 11, X 12]))], [(Z 3, .inl (cB, 32008, .inl (V 0)))], [(Z 5, .inl (cI, 32008, .inl (V 2)))], [(Z 7, .inl (cJ, 200, .inr (.inl vv)))]]) rfl ?_
      have heq : (qSum tk N r a).2 = a3 := by rw [← hq3]; rfl
      have he : xSum tk N vs r a = (0, (v3 : Int)) := by rw [← hx3]; rfl
      exact jJ_toX (jJ_lret hx hb hr hlocks dX10_sum_169 (by show _ ≤ 0; omega) (by show _ ≤ 0; omega) ⟨by rw [he], by rw [he], by rw [heq]; rfl, rfl, rfl⟩)
    · have hjx := jnP_x c9
      exact absurd (hL8 hjx.1 hjx.2) (by omega)
  | succ n3 ih =>
    intro a3 v3 ha3 ha3b hn3 hv3 hok3 hq3 hx3 ls hl
    obtain ⟨hV0, hV1, hV2, hV3⟩ := hT.2.1 a3 (by omega)
    obtain ⟨hB0, hB1, hB2⟩ := hT.2.2 a3
    have hkc := kC_le ((tk 0).getD a3 0)
    have hkw := kW_le hB0 hB2
    have hk3 := kC3w (c := (tk 0).getD a3 0) (w := (tk 2).getD a3 0)
    have hks := kWs (c := (tk 0).getD a3 0) (w := (tk 2).getD a3 0)
    have hL8 := hE.lt (a := a3)
    have hv3b := hv3
    unfold vOK at hv3b
    refine jJ_of (fun H locs => lv_aload_n hx hb dX10_sum_5 rfl (lv_at hl 1 rfl)) ?_
    refine jJ_callV (As := []) (rest := []) (wc := jF (kWd cI cB Z (lsV [E 0, E 1, E 2, .null, .null, E 5, E 6, E 7, E 8, .ref (Z 2), E 10, E 11, E 12, E 13, E 14, .ref (Z 7), .int (nI al), E 17, E 18]) (lsV [X 0, X 1, .null, X 3, .null, X 5, X 6, X 7, X 8, X 9, X 10, X 11, X 12]) V a3)) (cs2 := [[(Z 2, .inr (0, []))], [(Z 7, .inl (cJ, 200, .inr (.inl vv)))]]) (C := RX10) (T := TX10) (N := 19) (ci := 8) [0, 2, 3, 4] [1, 5] ⟨hx, hb, hml, hown, hts⟩ hK hA hAm (c_Md_isPlus (E := lsV [E 0, E 1, E 2, .null, .null, E 5, E 6, E 7, E 8, .ref (Z 2), E 10, E 11, E 12, E 13, E 14, .ref (Z 7), .int (nI al), E 17, E 18]) (X := lsV [X 0, X 1, .null, X 3, .null, X 5, X 6, X 7, X 8, X 9, X 10, X 11, X 12]) (a := a3) hT (by omega)) (cwV 0 hts gX10_sum_X10_isPlus rfl rfl rfl (by decide +kernel) ⟨by show (2) + 1 ≤ 8 * r + 11; omega, by show 8 + (1 + 11) + (80) ≤ 320 * r + 480; omega⟩) (nn := 6) rfl (by decide) rfl rfl ⟨0, _, rfl⟩ rfl rfl rfl hl.1 (Nat.le_of_ble_eq_true rfl) dX10_sum_6 (by show _ + 0 ≤ 0; omega) (by show _ + 0 ≤ 0; omega) (fun v u3 k3 n3 hq3 => ?_)
    obtain ⟨rfl, hw3, rfl, rfl⟩ := hq3
    rw [hw3]
    refine jJ_open (xs := [[(Z 0, .inr (8, [E 0, E 1, E 2, .ref (Z 1), .int (nI a3), E 5, E 6, E 7, E 8, .ref (Z 2), E 10, E 11, E 12, E 13, E 14, .ref (Z 7), .int (nI al), E 17, E 18]))], [(Z 1, .inr (7, [X 0, X 1, .ref (Z 3), X 3, .ref (Z 5), X 5, X 6, X 7, X 8, X 9, X 10, X 11, X 12]))], [(Z 3, .inl (cB, 32008, .inl (V 0)))], [(Z 5, .inl (cI, 32008, .inl (V 2)))]]) (r := [[(Z 2, .inr (0, []))], [(Z 7, .inl (cJ, 200, .inr (.inl vv)))]]) (cs2 := [[(Z 0, .inr (8, [E 0, E 1, E 2, .ref (Z 1), .int (nI a3), E 5, E 6, E 7, E 8, .ref (Z 2), E 10, E 11, E 12, E 13, E 14, .ref (Z 7), .int (nI al), E 17, E 18]))], [(Z 1, .inr (7, [X 0, X 1, .ref (Z 3), X 3, .ref (Z 5), X 5, X 6, X 7, X 8, X 9, X 10, X 11, X 12]))], [(Z 3, .inl (cB, 32008, .inl (V 0)))], [(Z 5, .inl (cI, 32008, .inl (V 2)))], [(Z 2, .inr (0, []))], [(Z 7, .inl (cJ, 200, .inr (.inl vv)))]]) rfl ?_
    refine jJ_eq (g2 := F0 m 9 ls [.int (bI (jnP ((tk 0).getD a3 0)))]) (cs2 := [[(Z 0, .inr (8, [E 0, E 1, E 2, .ref (Z 1), .int (nI a3), E 5, E 6, E 7, E 8, .ref (Z 2), E 10, E 11, E 12, E 13, E 14, .ref (Z 7), .int (nI al), E 17, E 18]))], [(Z 1, .inr (7, [X 0, X 1, .ref (Z 3), X 3, .ref (Z 5), X 5, X 6, X 7, X 8, X 9, X 10, X 11, X 12]))], [(Z 3, .inl (cB, 32008, .inl (V 0)))], [(Z 5, .inl (cI, 32008, .inl (V 2)))], [(Z 2, .inr (0, []))], [(Z 7, .inl (cJ, 200, .inr (.inl vv)))]]) rfl rfl ?_
    refine jJ_of2 (fun H locs => jb_if_eq (tgt := 168) hx hb dX10_sum_9 (by decide)) (fun c9 => ?_) (fun c9 => ?_)
    · refine jJ_of (fun H locs => lv_lload_n hx hb dX10_sum_168 rfl (lv_at hl 0 rfl)) ?_
      refine jJ_perm [0, 4, 1, 2, 3, 5] (nn := 6) rfl (by decide) (cs2 := [[(Z 0, .inr (8, [E 0, E 1, E 2, .ref (Z 1), .int (nI a3), E 5, E 6, E 7, E 8, .ref (Z 2), E 10, E 11, E 12, E 13, E 14, .ref (Z 7), .int (nI al), E 17, E 18]))], [(Z 2, .inr (0, []))], [(Z 1, .inr (7, [X 0, X 1, .ref (Z 3), X 3, .ref (Z 5), X 5, X 6, X 7, X 8, X 9, X 10, X 11, X 12]))], [(Z 3, .inl (cB, 32008, .inl (V 0)))], [(Z 5, .inl (cI, 32008, .inl (V 2)))], [(Z 7, .inl (cJ, 200, .inr (.inl vv)))]]) rfl ?_
      have heq : (qSum tk N r a).2 = a3 := by rw [← hq3, show qLoop tk jnP (qSeq tk N jnF (qFac tk N r)) (n3 + 1) a3 = (true, a3) from if_neg (by rw [c9]; decide)]
      have he : xSum tk N vs r a = (0, (v3 : Int)) := by rw [← hx3]; exact if_neg (by rw [c9]; decide)
      exact jJ_toX (jJ_lret hx hb hr hlocks dX10_sum_169 (by show _ ≤ 0; omega) (by show _ ≤ 0; omega) ⟨by rw [he], by rw [he], by rw [heq]; rfl, rfl, rfl⟩)
    · have hjx := jnP_x c9
      have hL7 := hL8 hjx.1 hjx.2
      have hop := of_decide_eq_true (show decide _ = true from c9)
      rw [show qLoop tk jnP (qSeq tk N jnF (qFac tk N r)) (n3 + 1) a3 = qThen ((qSeq tk N jnF (qFac tk N r)) (a3 + 1)) (qLoop tk jnP (qSeq tk N jnF (qFac tk N r)) n3) from if_pos c9] at hok3 hq3
      rw [show xLoop tk jnP (qSeq tk N jnF (qFac tk N r)) (xPro tk N vs r) (n3 + 1) a3 v3 = xThen ((xPro tk N vs r) (a3 + 1)) (fun u => xThen (xOp2 ((tk 0).getD a3 0) v3 u) (xLoop tk jnP (qSeq tk N jnF (qFac tk N r)) (xPro tk N vs r) n3 ((qSeq tk N jnF (qFac tk N r)) (a3 + 1)).2)) from if_pos c9] at hx3
      obtain ⟨hk1, hk2, hk9⟩ := qThen_ok hok3
      rw [hk9] at hq3
      refine jJ_of (fun H locs => lv_aload_n hx hb dX10_sum_12 rfl (lv_at hl 1 rfl)) ?_
      refine jJ_callV (As := []) (rest := []) (wc := jF (kWd cI cB Z (lsV [E 0, E 1, E 2, .null, .null, E 5, E 6, E 7, E 8, .ref (Z 2), E 10, E 11, E 12, E 13, E 14, .ref (Z 7), .int (nI al), E 17, E 18]) (lsV [X 0, X 1, .null, X 3, .null, X 5, X 6, X 7, X 8, X 9, X 10, X 11, X 12]) V a3)) (cs2 := [[(Z 2, .inr (0, []))], [(Z 7, .inl (cJ, 200, .inr (.inl vv)))]]) (C := RX10) (T := TX10) (N := 19) (ci := 8) [0, 1, 2, 3] [4, 5] ⟨hx, hb, hml, hown, hts⟩ hK hA hAm (c_Md_kind (E := lsV [E 0, E 1, E 2, .null, .null, E 5, E 6, E 7, E 8, .ref (Z 2), E 10, E 11, E 12, E 13, E 14, .ref (Z 7), .int (nI al), E 17, E 18]) (X := lsV [X 0, X 1, .null, X 3, .null, X 5, X 6, X 7, X 8, X 9, X 10, X 11, X 12]) (a := a3) hT (by omega)) (cwV 0 hts gX10_sum_X10_kind rfl rfl rfl (by decide +kernel) ⟨by show (0) + 1 ≤ 8 * r + 11; omega, by show 8 + (1 + 11) + (0) ≤ 320 * r + 480; omega⟩) (nn := 6) rfl (by decide) rfl rfl ⟨0, _, rfl⟩ rfl rfl rfl hl.1 (Nat.le_of_ble_eq_true rfl) dX10_sum_13 (by show _ + 0 ≤ 0; omega) (by show _ + 0 ≤ 0; omega) (fun v u4 k4 n4 hq4 => ?_)
      obtain ⟨rfl, hw4, rfl, rfl⟩ := hq4
      rw [hw4]
      refine jJ_open (xs := [[(Z 0, .inr (8, [E 0, E 1, E 2, .ref (Z 1), .int (nI a3), E 5, E 6, E 7, E 8, .ref (Z 2), E 10, E 11, E 12, E 13, E 14, .ref (Z 7), .int (nI al), E 17, E 18]))], [(Z 1, .inr (7, [X 0, X 1, .ref (Z 3), X 3, .ref (Z 5), X 5, X 6, X 7, X 8, X 9, X 10, X 11, X 12]))], [(Z 3, .inl (cB, 32008, .inl (V 0)))], [(Z 5, .inl (cI, 32008, .inl (V 2)))]]) (r := [[(Z 2, .inr (0, []))], [(Z 7, .inl (cJ, 200, .inr (.inl vv)))]]) (cs2 := [[(Z 0, .inr (8, [E 0, E 1, E 2, .ref (Z 1), .int (nI a3), E 5, E 6, E 7, E 8, .ref (Z 2), E 10, E 11, E 12, E 13, E 14, .ref (Z 7), .int (nI al), E 17, E 18]))], [(Z 1, .inr (7, [X 0, X 1, .ref (Z 3), X 3, .ref (Z 5), X 5, X 6, X 7, X 8, X 9, X 10, X 11, X 12]))], [(Z 3, .inl (cB, 32008, .inl (V 0)))], [(Z 5, .inl (cI, 32008, .inl (V 2)))], [(Z 2, .inr (0, []))], [(Z 7, .inl (cJ, 200, .inr (.inl vv)))]]) rfl ?_
      refine jJ_eq (g2 := F0 m 16 ls [.int (nI (kC ((tk 0).getD a3 0)))]) (cs2 := [[(Z 0, .inr (8, [E 0, E 1, E 2, .ref (Z 1), .int (nI a3), E 5, E 6, E 7, E 8, .ref (Z 2), E 10, E 11, E 12, E 13, E 14, .ref (Z 7), .int (nI al), E 17, E 18]))], [(Z 1, .inr (7, [X 0, X 1, .ref (Z 3), X 3, .ref (Z 5), X 5, X 6, X 7, X 8, X 9, X 10, X 11, X 12]))], [(Z 3, .inl (cB, 32008, .inl (V 0)))], [(Z 5, .inl (cI, 32008, .inl (V 2)))], [(Z 2, .inr (0, []))], [(Z 7, .inl (cJ, 200, .inr (.inl vv)))]]) rfl rfl ?_
      refine jJ_of (fun H locs => lv_iconst (v := (nI 3)) hx hb dX10_sum_16 (by decide)) ?_
      refine jJ_of2 (fun H locs => jn_icmp_ne (tgt := 35) hx hb dX10_sum_17 (by decide) (by omega) (by omega)) (fun c17 => ?_) (fun c17 => ?_)
      · refine jJ_of (fun H locs => lv_aload_n hx hb dX10_sum_35 rfl (lv_at hl 1 rfl)) ?_
        refine jJ_get hx hb (C := RX10) (T := TX10) (N := 19) hts uX10_in_X10_sum hown hK 0 rfl rfl 3 (by decide) (hts (.fieldLink RX10 53 "ValueBlocksModel" "t" "LValueBlocksModel$Text;") (by decide +kernel)) (fun _ h9 => h9) rfl dX10_sum_36 ?_
        refine jJ_get hx hb (C := RX9) (T := TX9) (N := 13) hts uX9_in_X10_sum hown hK 1 rfl rfl 4 (by decide) (hts (.fieldLink RX10 71 "ValueBlocksModel$Text" "worths" "[I") (by decide +kernel)) (fun _ h9 => h9) rfl dX10_sum_39 ?_
        refine jJ_of (fun H locs => lv_aload_n hx hb dX10_sum_42 rfl (lv_at hl 1 rfl)) ?_
        refine jJ_get hx hb (C := RX10) (T := TX10) (N := 19) hts uX10_in_X10_sum hown hK 0 rfl rfl 4 (by decide) (hts (.fieldLink RX10 121 "ValueBlocksModel" "at" "I") (by decide +kernel)) (fun _ h9 => h9) rfl dX10_sum_43 ?_
        refine jJ_iald hx hb hK 3 0 (f := V 2) rfl rfl (vp_in_nI (by omega) (by omega)) (x := (nI (kW ((tk 0).getD a3 0) ((tk 2).getD a3 0)))) (by rw [nI_clamp (by omega)]; exact hV2) dX10_sum_46 ?_
        rw [nI_iI (kW ((tk 0).getD a3 0) ((tk 2).getD a3 0))]
        refine jJ_of (fun H locs => jz_ineg hx hb dX10_sum_47) ?_
        refine jJ_ofL (fun H locs => lv_istore_n (lv' := [(3, .int (iI (-((kW ((tk 0).getD a3 0) ((tk 2).getD a3 0) : Nat) : Int)))), (1, .long (lI v3)), (0, .ref (Z 0))]) hx hb dX10_sum_48 rfl hl (by decide) rfl) (fun ls hl => ?_)
        refine jJ_of (fun H locs => lv_aload_n hx hb dX10_sum_49 rfl (lv_at hl 2 rfl)) ?_
        refine jJ_of (fun H locs => lv_dup hx hb dX10_sum_50 rfl) ?_
        refine jJ_get hx hb (C := RX10) (T := TX10) (N := 19) hts uX10_in_X10_sum hown hK 0 rfl rfl 4 (by decide) (hts (.fieldLink RX10 121 "ValueBlocksModel" "at" "I") (by decide +kernel)) (fun _ h9 => h9) rfl dX10_sum_51 ?_
        refine jJ_of (fun H locs => lv_iconst (v := (nI 1)) hx hb dX10_sum_54 (by decide)) ?_
        refine jJ_of (fun H locs => jn_iadd hx hb dX10_sum_55) ?_
        refine jJ_put hx hb (C := RX10) (T := TX10) (N := 19) (ty := .int) (v := .int (nI (a3 + 1))) hts uX10_in_X10_sum tyX10 tyX10_ok nmX10 hown hK 0 rfl rfl 4 (by decide) (hts (.fieldLink RX10 121 "ValueBlocksModel" "at" "I") (by decide +kernel)) (fun _ h9 => h9) rfl (by decide +kernel) rfl rfl (Nat.le_of_ble_eq_true rfl) dX10_sum_56 (cs2 := [[(Z 0, .inr (8, [E 0, E 1, E 2, .ref (Z 1), .int (nI (a3 + 1)), E 5, E 6, E 7, E 8, .ref (Z 2), E 10, E 11, E 12, E 13, E 14, .ref (Z 7), .int (nI al), E 17, E 18]))], [(Z 1, .inr (7, [X 0, X 1, .ref (Z 3), X 3, .ref (Z 5), X 5, X 6, X 7, X 8, X 9, X 10, X 11, X 12]))], [(Z 3, .inl (cB, 32008, .inl (V 0)))], [(Z 5, .inl (cI, 32008, .inl (V 2)))], [(Z 2, .inr (0, []))], [(Z 7, .inl (cJ, 200, .inr (.inl vv)))]]) rfl ?_
        refine jJ_of (fun H locs => lv_aload_n hx hb dX10_sum_59 rfl (lv_at hl 2 rfl)) ?_
        have hokq5 : (qSeq tk N jnF (qFac tk N r) (a3 + 1)).1 = true := by exact hk1
        obtain ⟨aa5, haa5⟩ : ∃ i, (qSeq tk N jnF (qFac tk N r) (a3 + 1)).2 = i := ⟨_, rfl⟩
        have heq5 : qSeq tk N jnF (qFac tk N r) (a3 + 1) = (true, aa5) := Prod.ext hokq5 haa5
        have hqb5 : (a3 + 1) ≤ (qSeq tk N jnF (qFac tk N r) (a3 + 1)).2 ∧ (qSeq tk N jnF (qFac tk N r) (a3 + 1)).2 + 1 ≤ (tk 0).length := qb_seq hE (fun _ => jnF_x) (qb_fac hE N r) N (a3 + 1) (by omega)
        rw [haa5] at hqb5
        obtain ⟨xa5, xv5, hxe5⟩ : ∃ i j, xPro tk N vs r (a3 + 1) = (i, j) := ⟨_, _, rfl⟩
        have hxv5 := xv_pro N hB2a hvs r (a3 + 1)
        rw [hxe5] at hxv5
        dsimp only at hxv5
        refine jX_callV (As := []) (rest := []) (wc := jF (eW cI cJ cB Z (E) (X) V vv (a3 + 1) al)) (cs2 := []) (C := RX10) (T := TX10) (N := 19) (ci := 8) [0, 4, 1, 2, 3, 5] [] ⟨hx, hb, hml, hown, hts⟩ hK hA hAm (hPr (a3 + 1) al (by omega) hokq5) (cwV 0 hts gX10_sum_X10_product rfl rfl rfl (by decide +kernel) ⟨by show (8 * r + 10) + 1 ≤ 8 * r + 11; omega, by show 8 + (6 + 11) + (320 * r + 440) ≤ 320 * r + 480; omega⟩) (nn := 6) rfl (by decide) rfl rfl ⟨0, _, rfl⟩ rfl rfl rfl hl.1 (Nat.le_of_ble_eq_true rfl) dX10_sum_60 (by show _ + 0 ≤ 0; omega) (by show _ + 0 ≤ 0; omega) (fun u5 k5 n5 q5 hx5 => ?_) (fun v u5 k5 n5 hq5 => ?_)
        · rw [hxe5] at hx5
          dsimp only at hx5
          obtain ⟨hnz5, ⟨a2_5, hu5⟩, rfl, rfl⟩ := hx5
          rw [hu5]
          have he : xSum tk N vs r a = (xa5, xv5) := by rw [← hx3, hxe5]; exact xThen_n hnz5 _
          exact jJx_out hno hlocks (by show _ ≤ 0; omega) (by show _ ≤ 0; omega) ⟨by rw [he]; assumption, ⟨_, by rw [he]; rfl⟩, rfl, rfl⟩
        rw [hxe5, haa5] at hq5
        dsimp only at hq5
        obtain ⟨hz5, rfl, hw5, rfl, rfl⟩ := hq5
        subst hz5
        rw [hw5]
        have hvo5 := hxv5 rfl
        have hvo5b := hvo5
        unfold vOK at hvo5b
        refine jJ_open (xs := [[(Z 0, .inr (8, [E 0, E 1, E 2, .ref (Z 1), .int (nI aa5), E 5, E 6, E 7, E 8, .ref (Z 2), E 10, E 11, E 12, E 13, E 14, .ref (Z 7), .int (nI al), E 17, E 18]))], [(Z 2, .inr (0, []))], [(Z 1, .inr (7, [X 0, X 1, .ref (Z 3), X 3, .ref (Z 5), X 5, X 6, X 7, X 8, X 9, X 10, X 11, X 12]))], [(Z 3, .inl (cB, 32008, .inl (V 0)))], [(Z 5, .inl (cI, 32008, .inl (V 2)))], [(Z 7, .inl (cJ, 200, .inr (.inl vv)))]]) (r := []) (cs2 := [[(Z 0, .inr (8, [E 0, E 1, E 2, .ref (Z 1), .int (nI aa5), E 5, E 6, E 7, E 8, .ref (Z 2), E 10, E 11, E 12, E 13, E 14, .ref (Z 7), .int (nI al), E 17, E 18]))], [(Z 2, .inr (0, []))], [(Z 1, .inr (7, [X 0, X 1, .ref (Z 3), X 3, .ref (Z 5), X 5, X 6, X 7, X 8, X 9, X 10, X 11, X 12]))], [(Z 3, .inl (cB, 32008, .inl (V 0)))], [(Z 5, .inl (cI, 32008, .inl (V 2)))], [(Z 7, .inl (cJ, 200, .inr (.inl vv)))]]) rfl ?_
        refine jJ_eq (g2 := F0 m 63 ls [.long (lI xv5)]) (cs2 := [[(Z 0, .inr (8, [E 0, E 1, E 2, .ref (Z 1), .int (nI aa5), E 5, E 6, E 7, E 8, .ref (Z 2), E 10, E 11, E 12, E 13, E 14, .ref (Z 7), .int (nI al), E 17, E 18]))], [(Z 2, .inr (0, []))], [(Z 1, .inr (7, [X 0, X 1, .ref (Z 3), X 3, .ref (Z 5), X 5, X 6, X 7, X 8, X 9, X 10, X 11, X 12]))], [(Z 3, .inl (cB, 32008, .inl (V 0)))], [(Z 5, .inl (cI, 32008, .inl (V 2)))], [(Z 7, .inl (cJ, 200, .inr (.inl vv)))]]) rfl rfl ?_
        refine jJ_ofL (fun H locs => lv_lstore (lv' := [(4, .long (lI xv5)), (3, .int (iI (-((kW ((tk 0).getD a3 0) ((tk 2).getD a3 0) : Nat) : Int)))), (1, .long (lI v3)), (0, .ref (Z 0))]) hx hb dX10_sum_63 hl (by decide) rfl) (fun ls hl => ?_)
        refine jJ_of (fun H locs => lv_iload_n hx hb dX10_sum_65 rfl (lv_at hl 1 rfl)) ?_
        refine jJ_of (fun H locs => lv_bipush (v := (iI (-43))) hx hb dX10_sum_66 (by decide)) ?_
        refine jJ_of2 (fun H locs => jz_icmp_ne (tgt := 83) hx hb dX10_sum_68 (by decide) (by omega) (by omega) (by omega) (by omega)) (fun c68 => ?_) (fun c68 => ?_)
        · refine jJ_of (fun H locs => lv_iload_n hx hb dX10_sum_83 rfl (lv_at hl 1 rfl)) ?_
          refine jJ_of (fun H locs => lv_bipush (v := (iI (-45))) hx hb dX10_sum_84 (by decide)) ?_
          refine jJ_of2 (fun H locs => jz_icmp_ne (tgt := 101) hx hb dX10_sum_86 (by decide) (by omega) (by omega) (by omega) (by omega)) (fun c86 => ?_) (fun c86 => ?_)
          · exfalso; omega
          · refine jJ_of (fun H locs => lv_aload_n hx hb dX10_sum_89 rfl (lv_at hl 3 rfl)) ?_
            refine jJ_of (fun H locs => lv_lload_n hx hb dX10_sum_90 rfl (lv_at hl 2 rfl)) ?_
            refine jJ_of (fun H locs => lv_lload hx hb dX10_sum_91 (lv_at hl 0 rfl)) ?_
            refine jJ_of (fun H locs => jl_lsub hx hb dX10_sum_93) ?_
            refine jX_callV (As := [.long (lI (v3 - xv5))]) (rest := []) (wc := jF (aWd Z (lsV [E 0, E 1, E 2, .ref (Z 1), .int (nI aa5), E 5, E 6, E 7, E 8, .null, E 10, E 11, E 12, E 13, E 14, .ref (Z 7), .null, E 17, E 18]) al)) (cs2 := [[(Z 1, .inr (7, [X 0, X 1, .ref (Z 3), X 3, .ref (Z 5), X 5, X 6, X 7, X 8, X 9, X 10, X 11, X 12]))], [(Z 3, .inl (cB, 32008, .inl (V 0)))], [(Z 5, .inl (cI, 32008, .inl (V 2)))], [(Z 7, .inl (cJ, 200, .inr (.inl vv)))]]) (C := RX10) (T := TX10) (N := 19) (ci := 8) [0, 1] [2, 3, 4, 5] ⟨hx, hb, hml, hown, hts⟩ hK hA hAm (c_Md_fits (E := lsV [E 0, E 1, E 2, .ref (Z 1), .int (nI aa5), E 5, E 6, E 7, E 8, .null, E 10, E 11, E 12, E 13, E 14, .ref (Z 7), .null, E 17, E 18]) (al := al) (v3 - xv5) (by omega) (by omega)) (cwV 1 hts gX10_sum_X10_fits rfl rfl rfl (by decide +kernel) ⟨by show (1) + 1 ≤ 8 * r + 11; omega, by show 8 + (3 + 11) + (40) ≤ 320 * r + 480; omega⟩) (nn := 6) rfl (by decide) rfl rfl ⟨0, _, rfl⟩ rfl rfl rfl hl.1 (Nat.le_of_ble_eq_true rfl) dX10_sum_94 (by show _ + 0 ≤ 0; omega) (by show _ + 0 ≤ 0; omega) (fun u6 k6 n6 q6 hx6 => ?_) (fun v u6 k6 n6 hq6 => ?_)
            · obtain ⟨hb6, hu6, rfl, rfl⟩ := hx6
              rw [hu6]
              have he : xSum tk N vs r a = (4, 0) := by rw [← hx3, hxe5, xThen_0, show xOp2 ((tk 0).getD a3 0) v3 xv5 = (4, 0) from by rw [show (tk 0).getD a3 0 = 45 by omega]; exact xop2_4 (by omega) (vTwo_45 _ _) hb6]; exact xThen_n (by decide) _
              exact jJx_out hno hlocks (by show _ ≤ 0; omega) (by show _ ≤ 0; omega) ⟨by rw [he]; exact (by decide : ¬ 4 = 0), ⟨_, by rw [he]; rfl⟩, rfl, rfl⟩
            obtain ⟨hb6, rfl, hw6, rfl, rfl⟩ := hq6
            rw [hw6]
            have hvk6 := vTG_ok (z := v3 - xv5) hb6
            refine jJ_open (xs := [[(Z 0, .inr (8, [E 0, E 1, E 2, .ref (Z 1), .int (nI aa5), E 5, E 6, E 7, E 8, .ref (Z 2), E 10, E 11, E 12, E 13, E 14, .ref (Z 7), .int (nI al), E 17, E 18]))], [(Z 2, .inr (0, []))]]) (r := [[(Z 1, .inr (7, [X 0, X 1, .ref (Z 3), X 3, .ref (Z 5), X 5, X 6, X 7, X 8, X 9, X 10, X 11, X 12]))], [(Z 3, .inl (cB, 32008, .inl (V 0)))], [(Z 5, .inl (cI, 32008, .inl (V 2)))], [(Z 7, .inl (cJ, 200, .inr (.inl vv)))]]) (cs2 := [[(Z 0, .inr (8, [E 0, E 1, E 2, .ref (Z 1), .int (nI aa5), E 5, E 6, E 7, E 8, .ref (Z 2), E 10, E 11, E 12, E 13, E 14, .ref (Z 7), .int (nI al), E 17, E 18]))], [(Z 2, .inr (0, []))], [(Z 1, .inr (7, [X 0, X 1, .ref (Z 3), X 3, .ref (Z 5), X 5, X 6, X 7, X 8, X 9, X 10, X 11, X 12]))], [(Z 3, .inl (cB, 32008, .inl (V 0)))], [(Z 5, .inl (cI, 32008, .inl (V 2)))], [(Z 7, .inl (cJ, 200, .inr (.inl vv)))]]) rfl ?_
            refine jJ_eq (g2 := F0 m 97 ls [.long (lI (v3 - xv5))]) (cs2 := [[(Z 0, .inr (8, [E 0, E 1, E 2, .ref (Z 1), .int (nI aa5), E 5, E 6, E 7, E 8, .ref (Z 2), E 10, E 11, E 12, E 13, E 14, .ref (Z 7), .int (nI al), E 17, E 18]))], [(Z 2, .inr (0, []))], [(Z 1, .inr (7, [X 0, X 1, .ref (Z 3), X 3, .ref (Z 5), X 5, X 6, X 7, X 8, X 9, X 10, X 11, X 12]))], [(Z 3, .inl (cB, 32008, .inl (V 0)))], [(Z 5, .inl (cI, 32008, .inl (V 2)))], [(Z 7, .inl (cJ, 200, .inr (.inl vv)))]]) rfl rfl ?_
            refine jJ_ofL (fun H locs => lv_lstore_n (lv' := [(1, .long (lI (v3 - xv5))), (4, .long (lI xv5)), (3, .int (iI (-((kW ((tk 0).getD a3 0) ((tk 2).getD a3 0) : Nat) : Int)))), (0, .ref (Z 0))]) hx hb dX10_sum_97 rfl hl (by decide) rfl) (fun ls hl => ?_)
            refine jJ_of (fun H locs => lv_goto (tgt := 165) hx hb dX10_sum_98 (by decide)) ?_
            refine jJ_of (fun H locs => lv_goto (tgt := 5) hx hb dX10_sum_165 (by decide)) ?_
            have ho : xOp2 ((tk 0).getD a3 0) v3 xv5 = (0, v3 - xv5) := by rw [show (tk 0).getD a3 0 = 45 by omega]; exact xop2_ok (by omega) (vTwo_45 _ _) hb6
            rw [haa5] at hk2 hq3
            exact ih aa5 (v3 - xv5) (by omega) (by omega) (by omega) (vTG_ok hb6) hk2 hq3 (by rw [← hx3, hxe5, xThen_0, ho, xThen_0, haa5]) ls (lv_sub hl [0, 3] rfl)
        · refine jJ_of (fun H locs => lv_aload_n hx hb dX10_sum_71 rfl (lv_at hl 3 rfl)) ?_
          refine jJ_of (fun H locs => lv_lload_n hx hb dX10_sum_72 rfl (lv_at hl 2 rfl)) ?_
          refine jJ_of (fun H locs => lv_lload hx hb dX10_sum_73 (lv_at hl 0 rfl)) ?_
          refine jJ_of (fun H locs => jl_ladd hx hb dX10_sum_75) ?_
          refine jX_callV (As := [.long (lI (v3 + xv5))]) (rest := []) (wc := jF (aWd Z (lsV [E 0, E 1, E 2, .ref (Z 1), .int (nI aa5), E 5, E 6, E 7, E 8, .null, E 10, E 11, E 12, E 13, E 14, .ref (Z 7), .null, E 17, E 18]) al)) (cs2 := [[(Z 1, .inr (7, [X 0, X 1, .ref (Z 3), X 3, .ref (Z 5), X 5, X 6, X 7, X 8, X 9, X 10, X 11, X 12]))], [(Z 3, .inl (cB, 32008, .inl (V 0)))], [(Z 5, .inl (cI, 32008, .inl (V 2)))], [(Z 7, .inl (cJ, 200, .inr (.inl vv)))]]) (C := RX10) (T := TX10) (N := 19) (ci := 8) [0, 1] [2, 3, 4, 5] ⟨hx, hb, hml, hown, hts⟩ hK hA hAm (c_Md_fits (E := lsV [E 0, E 1, E 2, .ref (Z 1), .int (nI aa5), E 5, E 6, E 7, E 8, .null, E 10, E 11, E 12, E 13, E 14, .ref (Z 7), .null, E 17, E 18]) (al := al) (v3 + xv5) (by omega) (by omega)) (cwV 1 hts gX10_sum_X10_fits rfl rfl rfl (by decide +kernel) ⟨by show (1) + 1 ≤ 8 * r + 11; omega, by show 8 + (3 + 11) + (40) ≤ 320 * r + 480; omega⟩) (nn := 6) rfl (by decide) rfl rfl ⟨0, _, rfl⟩ rfl rfl rfl hl.1 (Nat.le_of_ble_eq_true rfl) dX10_sum_76 (by show _ + 0 ≤ 0; omega) (by show _ + 0 ≤ 0; omega) (fun u7 k7 n7 q7 hx7 => ?_) (fun v u7 k7 n7 hq7 => ?_)
          · obtain ⟨hb7, hu7, rfl, rfl⟩ := hx7
            rw [hu7]
            have he : xSum tk N vs r a = (4, 0) := by rw [← hx3, hxe5, xThen_0, show xOp2 ((tk 0).getD a3 0) v3 xv5 = (4, 0) from by rw [show (tk 0).getD a3 0 = 43 by omega]; exact xop2_4 (by omega) (vTwo_43 _ _) hb7]; exact xThen_n (by decide) _
            exact jJx_out hno hlocks (by show _ ≤ 0; omega) (by show _ ≤ 0; omega) ⟨by rw [he]; exact (by decide : ¬ 4 = 0), ⟨_, by rw [he]; rfl⟩, rfl, rfl⟩
          obtain ⟨hb7, rfl, hw7, rfl, rfl⟩ := hq7
          rw [hw7]
          have hvk7 := vTG_ok (z := v3 + xv5) hb7
          refine jJ_open (xs := [[(Z 0, .inr (8, [E 0, E 1, E 2, .ref (Z 1), .int (nI aa5), E 5, E 6, E 7, E 8, .ref (Z 2), E 10, E 11, E 12, E 13, E 14, .ref (Z 7), .int (nI al), E 17, E 18]))], [(Z 2, .inr (0, []))]]) (r := [[(Z 1, .inr (7, [X 0, X 1, .ref (Z 3), X 3, .ref (Z 5), X 5, X 6, X 7, X 8, X 9, X 10, X 11, X 12]))], [(Z 3, .inl (cB, 32008, .inl (V 0)))], [(Z 5, .inl (cI, 32008, .inl (V 2)))], [(Z 7, .inl (cJ, 200, .inr (.inl vv)))]]) (cs2 := [[(Z 0, .inr (8, [E 0, E 1, E 2, .ref (Z 1), .int (nI aa5), E 5, E 6, E 7, E 8, .ref (Z 2), E 10, E 11, E 12, E 13, E 14, .ref (Z 7), .int (nI al), E 17, E 18]))], [(Z 2, .inr (0, []))], [(Z 1, .inr (7, [X 0, X 1, .ref (Z 3), X 3, .ref (Z 5), X 5, X 6, X 7, X 8, X 9, X 10, X 11, X 12]))], [(Z 3, .inl (cB, 32008, .inl (V 0)))], [(Z 5, .inl (cI, 32008, .inl (V 2)))], [(Z 7, .inl (cJ, 200, .inr (.inl vv)))]]) rfl ?_
          refine jJ_eq (g2 := F0 m 79 ls [.long (lI (v3 + xv5))]) (cs2 := [[(Z 0, .inr (8, [E 0, E 1, E 2, .ref (Z 1), .int (nI aa5), E 5, E 6, E 7, E 8, .ref (Z 2), E 10, E 11, E 12, E 13, E 14, .ref (Z 7), .int (nI al), E 17, E 18]))], [(Z 2, .inr (0, []))], [(Z 1, .inr (7, [X 0, X 1, .ref (Z 3), X 3, .ref (Z 5), X 5, X 6, X 7, X 8, X 9, X 10, X 11, X 12]))], [(Z 3, .inl (cB, 32008, .inl (V 0)))], [(Z 5, .inl (cI, 32008, .inl (V 2)))], [(Z 7, .inl (cJ, 200, .inr (.inl vv)))]]) rfl rfl ?_
          refine jJ_ofL (fun H locs => lv_lstore_n (lv' := [(1, .long (lI (v3 + xv5))), (4, .long (lI xv5)), (3, .int (iI (-((kW ((tk 0).getD a3 0) ((tk 2).getD a3 0) : Nat) : Int)))), (0, .ref (Z 0))]) hx hb dX10_sum_79 rfl hl (by decide) rfl) (fun ls hl => ?_)
          refine jJ_of (fun H locs => lv_goto (tgt := 165) hx hb dX10_sum_80 (by decide)) ?_
          refine jJ_of (fun H locs => lv_goto (tgt := 5) hx hb dX10_sum_165 (by decide)) ?_
          have ho : xOp2 ((tk 0).getD a3 0) v3 xv5 = (0, v3 + xv5) := by rw [show (tk 0).getD a3 0 = 43 by omega]; exact xop2_ok (by omega) (vTwo_43 _ _) hb7
          rw [haa5] at hk2 hq3
          exact ih aa5 (v3 + xv5) (by omega) (by omega) (by omega) (vTG_ok hb7) hk2 hq3 (by rw [← hx3, hxe5, xThen_0, ho, xThen_0, haa5]) ls (lv_sub hl [0, 3] rfl)
      · refine jJ_of (fun H locs => lv_aload_n hx hb dX10_sum_20 rfl (lv_at hl 1 rfl)) ?_
        refine jJ_get hx hb (C := RX10) (T := TX10) (N := 19) hts uX10_in_X10_sum hown hK 0 rfl rfl 3 (by decide) (hts (.fieldLink RX10 53 "ValueBlocksModel" "t" "LValueBlocksModel$Text;") (by decide +kernel)) (fun _ h9 => h9) rfl dX10_sum_21 ?_
        refine jJ_get hx hb (C := RX9) (T := TX9) (N := 13) hts uX9_in_X10_sum hown hK 1 rfl rfl 4 (by decide) (hts (.fieldLink RX10 71 "ValueBlocksModel$Text" "worths" "[I") (by decide +kernel)) (fun _ h9 => h9) rfl dX10_sum_24 ?_
        refine jJ_of (fun H locs => lv_aload_n hx hb dX10_sum_27 rfl (lv_at hl 1 rfl)) ?_
        refine jJ_get hx hb (C := RX10) (T := TX10) (N := 19) hts uX10_in_X10_sum hown hK 0 rfl rfl 4 (by decide) (hts (.fieldLink RX10 121 "ValueBlocksModel" "at" "I") (by decide +kernel)) (fun _ h9 => h9) rfl dX10_sum_28 ?_
        refine jJ_iald hx hb hK 3 0 (f := V 2) rfl rfl (vp_in_nI (by omega) (by omega)) (x := (nI (kW ((tk 0).getD a3 0) ((tk 2).getD a3 0)))) (by rw [nI_clamp (by omega)]; exact hV2) dX10_sum_31 ?_
        refine jJ_of (fun H locs => lv_goto (tgt := 48) hx hb dX10_sum_32 (by decide)) ?_
        refine jJ_ofL (fun H locs => lv_istore_n (lv' := [(3, .int (nI (kW ((tk 0).getD a3 0) ((tk 2).getD a3 0)))), (1, .long (lI v3)), (0, .ref (Z 0))]) hx hb dX10_sum_48 rfl hl (by decide) rfl) (fun ls hl => ?_)
        refine jJ_of (fun H locs => lv_aload_n hx hb dX10_sum_49 rfl (lv_at hl 2 rfl)) ?_
        refine jJ_of (fun H locs => lv_dup hx hb dX10_sum_50 rfl) ?_
        refine jJ_get hx hb (C := RX10) (T := TX10) (N := 19) hts uX10_in_X10_sum hown hK 0 rfl rfl 4 (by decide) (hts (.fieldLink RX10 121 "ValueBlocksModel" "at" "I") (by decide +kernel)) (fun _ h9 => h9) rfl dX10_sum_51 ?_
        refine jJ_of (fun H locs => lv_iconst (v := (nI 1)) hx hb dX10_sum_54 (by decide)) ?_
        refine jJ_of (fun H locs => jn_iadd hx hb dX10_sum_55) ?_
        refine jJ_put hx hb (C := RX10) (T := TX10) (N := 19) (ty := .int) (v := .int (nI (a3 + 1))) hts uX10_in_X10_sum tyX10 tyX10_ok nmX10 hown hK 0 rfl rfl 4 (by decide) (hts (.fieldLink RX10 121 "ValueBlocksModel" "at" "I") (by decide +kernel)) (fun _ h9 => h9) rfl (by decide +kernel) rfl rfl (Nat.le_of_ble_eq_true rfl) dX10_sum_56 (cs2 := [[(Z 0, .inr (8, [E 0, E 1, E 2, .ref (Z 1), .int (nI (a3 + 1)), E 5, E 6, E 7, E 8, .ref (Z 2), E 10, E 11, E 12, E 13, E 14, .ref (Z 7), .int (nI al), E 17, E 18]))], [(Z 1, .inr (7, [X 0, X 1, .ref (Z 3), X 3, .ref (Z 5), X 5, X 6, X 7, X 8, X 9, X 10, X 11, X 12]))], [(Z 3, .inl (cB, 32008, .inl (V 0)))], [(Z 5, .inl (cI, 32008, .inl (V 2)))], [(Z 2, .inr (0, []))], [(Z 7, .inl (cJ, 200, .inr (.inl vv)))]]) rfl ?_
        refine jJ_of (fun H locs => lv_aload_n hx hb dX10_sum_59 rfl (lv_at hl 2 rfl)) ?_
        have hokq8 : (qSeq tk N jnF (qFac tk N r) (a3 + 1)).1 = true := by exact hk1
        obtain ⟨aa8, haa8⟩ : ∃ i, (qSeq tk N jnF (qFac tk N r) (a3 + 1)).2 = i := ⟨_, rfl⟩
        have heq8 : qSeq tk N jnF (qFac tk N r) (a3 + 1) = (true, aa8) := Prod.ext hokq8 haa8
        have hqb8 : (a3 + 1) ≤ (qSeq tk N jnF (qFac tk N r) (a3 + 1)).2 ∧ (qSeq tk N jnF (qFac tk N r) (a3 + 1)).2 + 1 ≤ (tk 0).length := qb_seq hE (fun _ => jnF_x) (qb_fac hE N r) N (a3 + 1) (by omega)
        rw [haa8] at hqb8
        obtain ⟨xa8, xv8, hxe8⟩ : ∃ i j, xPro tk N vs r (a3 + 1) = (i, j) := ⟨_, _, rfl⟩
        have hxv8 := xv_pro N hB2a hvs r (a3 + 1)
        rw [hxe8] at hxv8
        dsimp only at hxv8
        refine jX_callV (As := []) (rest := []) (wc := jF (eW cI cJ cB Z (E) (X) V vv (a3 + 1) al)) (cs2 := []) (C := RX10) (T := TX10) (N := 19) (ci := 8) [0, 4, 1, 2, 3, 5] [] ⟨hx, hb, hml, hown, hts⟩ hK hA hAm (hPr (a3 + 1) al (by omega) hokq8) (cwV 0 hts gX10_sum_X10_product rfl rfl rfl (by decide +kernel) ⟨by show (8 * r + 10) + 1 ≤ 8 * r + 11; omega, by show 8 + (6 + 11) + (320 * r + 440) ≤ 320 * r + 480; omega⟩) (nn := 6) rfl (by decide) rfl rfl ⟨0, _, rfl⟩ rfl rfl rfl hl.1 (Nat.le_of_ble_eq_true rfl) dX10_sum_60 (by show _ + 0 ≤ 0; omega) (by show _ + 0 ≤ 0; omega) (fun u8 k8 n8 q8 hx8 => ?_) (fun v u8 k8 n8 hq8 => ?_)
        · rw [hxe8] at hx8
          dsimp only at hx8
          obtain ⟨hnz8, ⟨a2_8, hu8⟩, rfl, rfl⟩ := hx8
          rw [hu8]
          have he : xSum tk N vs r a = (xa8, xv8) := by rw [← hx3, hxe8]; exact xThen_n hnz8 _
          exact jJx_out hno hlocks (by show _ ≤ 0; omega) (by show _ ≤ 0; omega) ⟨by rw [he]; assumption, ⟨_, by rw [he]; rfl⟩, rfl, rfl⟩
        rw [hxe8, haa8] at hq8
        dsimp only at hq8
        obtain ⟨hz8, rfl, hw8, rfl, rfl⟩ := hq8
        subst hz8
        rw [hw8]
        have hvo8 := hxv8 rfl
        have hvo8b := hvo8
        unfold vOK at hvo8b
        refine jJ_open (xs := [[(Z 0, .inr (8, [E 0, E 1, E 2, .ref (Z 1), .int (nI aa8), E 5, E 6, E 7, E 8, .ref (Z 2), E 10, E 11, E 12, E 13, E 14, .ref (Z 7), .int (nI al), E 17, E 18]))], [(Z 2, .inr (0, []))], [(Z 1, .inr (7, [X 0, X 1, .ref (Z 3), X 3, .ref (Z 5), X 5, X 6, X 7, X 8, X 9, X 10, X 11, X 12]))], [(Z 3, .inl (cB, 32008, .inl (V 0)))], [(Z 5, .inl (cI, 32008, .inl (V 2)))], [(Z 7, .inl (cJ, 200, .inr (.inl vv)))]]) (r := []) (cs2 := [[(Z 0, .inr (8, [E 0, E 1, E 2, .ref (Z 1), .int (nI aa8), E 5, E 6, E 7, E 8, .ref (Z 2), E 10, E 11, E 12, E 13, E 14, .ref (Z 7), .int (nI al), E 17, E 18]))], [(Z 2, .inr (0, []))], [(Z 1, .inr (7, [X 0, X 1, .ref (Z 3), X 3, .ref (Z 5), X 5, X 6, X 7, X 8, X 9, X 10, X 11, X 12]))], [(Z 3, .inl (cB, 32008, .inl (V 0)))], [(Z 5, .inl (cI, 32008, .inl (V 2)))], [(Z 7, .inl (cJ, 200, .inr (.inl vv)))]]) rfl ?_
        refine jJ_eq (g2 := F0 m 63 ls [.long (lI xv8)]) (cs2 := [[(Z 0, .inr (8, [E 0, E 1, E 2, .ref (Z 1), .int (nI aa8), E 5, E 6, E 7, E 8, .ref (Z 2), E 10, E 11, E 12, E 13, E 14, .ref (Z 7), .int (nI al), E 17, E 18]))], [(Z 2, .inr (0, []))], [(Z 1, .inr (7, [X 0, X 1, .ref (Z 3), X 3, .ref (Z 5), X 5, X 6, X 7, X 8, X 9, X 10, X 11, X 12]))], [(Z 3, .inl (cB, 32008, .inl (V 0)))], [(Z 5, .inl (cI, 32008, .inl (V 2)))], [(Z 7, .inl (cJ, 200, .inr (.inl vv)))]]) rfl rfl ?_
        refine jJ_ofL (fun H locs => lv_lstore (lv' := [(4, .long (lI xv8)), (3, .int (nI (kW ((tk 0).getD a3 0) ((tk 2).getD a3 0)))), (1, .long (lI v3)), (0, .ref (Z 0))]) hx hb dX10_sum_63 hl (by decide) rfl) (fun ls hl => ?_)
        refine jJ_of (fun H locs => lv_iload_n hx hb dX10_sum_65 rfl (lv_at hl 1 rfl)) ?_
        refine jJ_of (fun H locs => lv_bipush (v := (iI (-43))) hx hb dX10_sum_66 (by decide)) ?_
        rw [nI_iI (kW ((tk 0).getD a3 0) ((tk 2).getD a3 0))]
        refine jJ_of2 (fun H locs => jz_icmp_ne (tgt := 83) hx hb dX10_sum_68 (by decide) (by omega) (by omega) (by omega) (by omega)) (fun c68 => ?_) (fun c68 => ?_)
        · refine jJ_of (fun H locs => lv_iload_n hx hb dX10_sum_83 rfl (lv_at hl 1 rfl)) ?_
          refine jJ_of (fun H locs => lv_bipush (v := (iI (-45))) hx hb dX10_sum_84 (by decide)) ?_
          rw [nI_iI (kW ((tk 0).getD a3 0) ((tk 2).getD a3 0))]
          refine jJ_of2 (fun H locs => jz_icmp_ne (tgt := 101) hx hb dX10_sum_86 (by decide) (by omega) (by omega) (by omega) (by omega)) (fun c86 => ?_) (fun c86 => ?_)
          · refine jJ_of (fun H locs => lv_iload_n hx hb dX10_sum_101 rfl (lv_at hl 1 rfl)) ?_
            refine jJ_of (fun H locs => lv_bipush (v := (nI 11)) hx hb dX10_sum_102 (by decide)) ?_
            refine jJ_of2 (fun H locs => jn_icmp_ne (tgt := 131) hx hb dX10_sum_104 (by decide) (by omega) (by omega)) (fun c104 => ?_) (fun c104 => ?_)
            · refine jJ_of (fun H locs => lv_lload_n hx hb dX10_sum_131 rfl (lv_at hl 2 rfl)) ?_
              refine jJ_of (fun H locs => jn_lconst (v := 0) hx hb dX10_sum_132 rfl) ?_
              refine jJ_of (fun H locs => W.lcmp hx hb dX10_sum_133) ?_
              refine jJ_of2 (fun H locs => jl_if_eq (tgt := 141) hx hb dX10_sum_134 (by decide) (by omega) (by omega) (by omega) (by omega)) (fun c134 => ?_) (fun c134 => ?_)
              · refine jJ_of (fun H locs => lv_iconst (v := (nI 0)) hx hb dX10_sum_141 (by decide)) ?_
                refine jJ_of (fun H locs => lv_lload hx hb dX10_sum_142 (lv_at hl 0 rfl)) ?_
                refine jJ_of (fun H locs => jn_lconst (v := 0) hx hb dX10_sum_144 rfl) ?_
                refine jJ_of (fun H locs => W.lcmp hx hb dX10_sum_145) ?_
                refine jJ_of2 (fun H locs => jl_if_eq (tgt := 153) hx hb dX10_sum_146 (by decide) (by omega) (by omega) (by omega) (by omega)) (fun c146 => ?_) (fun c146 => ?_)
                · refine jJ_of (fun H locs => lv_iconst (v := (nI 0)) hx hb dX10_sum_153 (by decide)) ?_
                  refine jJ_of2 (fun H locs => jn_icmp_eq (tgt := 163) hx hb dX10_sum_154 (by decide) (by omega) (by omega)) (fun c154 => ?_) (fun c154 => ?_)
                  · refine jJ_of (fun H locs => jn_lconst (v := 0) hx hb dX10_sum_163 rfl) ?_
                    refine jJ_ofL (fun H locs => lv_lstore_n (lv' := [(1, .long (lI 0)), (4, .long (lI xv8)), (3, .int (nI (kW ((tk 0).getD a3 0) ((tk 2).getD a3 0)))), (0, .ref (Z 0))]) hx hb dX10_sum_164 rfl hl (by decide) rfl) (fun ls hl => ?_)
                    refine jJ_of (fun H locs => lv_goto (tgt := 5) hx hb dX10_sum_165 (by decide)) ?_
                    have ho : xOp2 ((tk 0).getD a3 0) v3 xv8 = (0, 0) := by rw [show (tk 0).getD a3 0 = 312 by omega]; exact xop2_ok (by omega) (vTwo_f (by decide) (by rw [vH_312]; exact decide_eq_false (by omega))) (by decide)
                    rw [haa8] at hk2 hq3
                    exact ih aa8 0 (by omega) (by omega) (by omega) (by unfold vOK; omega) hk2 hq3 (by rw [← hx3, hxe8, xThen_0, ho, xThen_0, haa8]) ls (lv_sub hl [0, 3] rfl)
                  · exfalso; omega
                · refine jJ_of (fun H locs => lv_iconst (v := (nI 1)) hx hb dX10_sum_149 (by decide)) ?_
                  refine jJ_of (fun H locs => lv_goto (tgt := 154) hx hb dX10_sum_150 (by decide)) ?_
                  refine jJ_of2 (fun H locs => jn_icmp_eq (tgt := 163) hx hb dX10_sum_154 (by decide) (by omega) (by omega)) (fun c154 => ?_) (fun c154 => ?_)
                  · exfalso; omega
                  · refine jJ_of (fun H locs => lv_ldc2 (v := (lI 1000)) hx hb hown (by rw [show (lI 1000) = (1000 : Int64) from by decide]; exact (hts (.constantLong RX10 265 (1000)) (by decide +kernel))) dX10_sum_157) ?_
                    refine jJ_of (fun H locs => lv_goto (tgt := 164) hx hb dX10_sum_160 (by decide)) ?_
                    refine jJ_ofL (fun H locs => lv_lstore_n (lv' := [(1, .long (lI 1000)), (4, .long (lI xv8)), (3, .int (nI (kW ((tk 0).getD a3 0) ((tk 2).getD a3 0)))), (0, .ref (Z 0))]) hx hb dX10_sum_164 rfl hl (by decide) rfl) (fun ls hl => ?_)
                    refine jJ_of (fun H locs => lv_goto (tgt := 5) hx hb dX10_sum_165 (by decide)) ?_
                    have ho : xOp2 ((tk 0).getD a3 0) v3 xv8 = (0, 1000) := by rw [show (tk 0).getD a3 0 = 312 by omega]; exact xop2_ok (by omega) (vTwo_t (by decide) (by rw [vH_312]; exact decide_eq_true (by omega))) (by decide)
                    rw [haa8] at hk2 hq3
                    exact ih aa8 1000 (by omega) (by omega) (by omega) (by unfold vOK; omega) hk2 hq3 (by rw [← hx3, hxe8, xThen_0, ho, xThen_0, haa8]) ls (lv_sub hl [0, 3] rfl)
              · refine jJ_of (fun H locs => lv_iconst (v := (nI 1)) hx hb dX10_sum_137 (by decide)) ?_
                refine jJ_of (fun H locs => lv_goto (tgt := 142) hx hb dX10_sum_138 (by decide)) ?_
                refine jJ_of (fun H locs => lv_lload hx hb dX10_sum_142 (lv_at hl 0 rfl)) ?_
                refine jJ_of (fun H locs => jn_lconst (v := 0) hx hb dX10_sum_144 rfl) ?_
                refine jJ_of (fun H locs => W.lcmp hx hb dX10_sum_145) ?_
                refine jJ_of2 (fun H locs => jl_if_eq (tgt := 153) hx hb dX10_sum_146 (by decide) (by omega) (by omega) (by omega) (by omega)) (fun c146 => ?_) (fun c146 => ?_)
                · refine jJ_of (fun H locs => lv_iconst (v := (nI 0)) hx hb dX10_sum_153 (by decide)) ?_
                  refine jJ_of2 (fun H locs => jn_icmp_eq (tgt := 163) hx hb dX10_sum_154 (by decide) (by omega) (by omega)) (fun c154 => ?_) (fun c154 => ?_)
                  · exfalso; omega
                  · refine jJ_of (fun H locs => lv_ldc2 (v := (lI 1000)) hx hb hown (by rw [show (lI 1000) = (1000 : Int64) from by decide]; exact (hts (.constantLong RX10 265 (1000)) (by decide +kernel))) dX10_sum_157) ?_
                    refine jJ_of (fun H locs => lv_goto (tgt := 164) hx hb dX10_sum_160 (by decide)) ?_
                    refine jJ_ofL (fun H locs => lv_lstore_n (lv' := [(1, .long (lI 1000)), (4, .long (lI xv8)), (3, .int (nI (kW ((tk 0).getD a3 0) ((tk 2).getD a3 0)))), (0, .ref (Z 0))]) hx hb dX10_sum_164 rfl hl (by decide) rfl) (fun ls hl => ?_)
                    refine jJ_of (fun H locs => lv_goto (tgt := 5) hx hb dX10_sum_165 (by decide)) ?_
                    have ho : xOp2 ((tk 0).getD a3 0) v3 xv8 = (0, 1000) := by rw [show (tk 0).getD a3 0 = 312 by omega]; exact xop2_ok (by omega) (vTwo_t (by decide) (by rw [vH_312]; exact decide_eq_true (by omega))) (by decide)
                    rw [haa8] at hk2 hq3
                    exact ih aa8 1000 (by omega) (by omega) (by omega) (by unfold vOK; omega) hk2 hq3 (by rw [← hx3, hxe8, xThen_0, ho, xThen_0, haa8]) ls (lv_sub hl [0, 3] rfl)
                · refine jJ_of (fun H locs => lv_iconst (v := (nI 1)) hx hb dX10_sum_149 (by decide)) ?_
                  refine jJ_of (fun H locs => lv_goto (tgt := 154) hx hb dX10_sum_150 (by decide)) ?_
                  refine jJ_of2 (fun H locs => jn_icmp_eq (tgt := 163) hx hb dX10_sum_154 (by decide) (by omega) (by omega)) (fun c154 => ?_) (fun c154 => ?_)
                  · refine jJ_of (fun H locs => jn_lconst (v := 0) hx hb dX10_sum_163 rfl) ?_
                    refine jJ_ofL (fun H locs => lv_lstore_n (lv' := [(1, .long (lI 0)), (4, .long (lI xv8)), (3, .int (nI (kW ((tk 0).getD a3 0) ((tk 2).getD a3 0)))), (0, .ref (Z 0))]) hx hb dX10_sum_164 rfl hl (by decide) rfl) (fun ls hl => ?_)
                    refine jJ_of (fun H locs => lv_goto (tgt := 5) hx hb dX10_sum_165 (by decide)) ?_
                    have ho : xOp2 ((tk 0).getD a3 0) v3 xv8 = (0, 0) := by rw [show (tk 0).getD a3 0 = 312 by omega]; exact xop2_ok (by omega) (vTwo_f (by decide) (by rw [vH_312]; exact decide_eq_false (by omega))) (by decide)
                    rw [haa8] at hk2 hq3
                    exact ih aa8 0 (by omega) (by omega) (by omega) (by unfold vOK; omega) hk2 hq3 (by rw [← hx3, hxe8, xThen_0, ho, xThen_0, haa8]) ls (lv_sub hl [0, 3] rfl)
                  · exfalso; omega
            · refine jJ_of (fun H locs => lv_lload_n hx hb dX10_sum_107 rfl (lv_at hl 2 rfl)) ?_
              refine jJ_of (fun H locs => jn_lconst (v := 0) hx hb dX10_sum_108 rfl) ?_
              refine jJ_of (fun H locs => W.lcmp hx hb dX10_sum_109) ?_
              refine jJ_of2 (fun H locs => jl_if_ne (tgt := 120) hx hb dX10_sum_110 (by decide) (by omega) (by omega) (by omega) (by omega)) (fun c110 => ?_) (fun c110 => ?_)
              · refine jJ_of (fun H locs => lv_ldc2 (v := (lI 1000)) hx hb hown (by rw [show (lI 1000) = (1000 : Int64) from by decide]; exact (hts (.constantLong RX10 265 (1000)) (by decide +kernel))) dX10_sum_120) ?_
                refine jJ_of (fun H locs => lv_goto (tgt := 127) hx hb dX10_sum_123 (by decide)) ?_
                refine jJ_ofL (fun H locs => lv_lstore_n (lv' := [(1, .long (lI 1000)), (4, .long (lI xv8)), (3, .int (nI (kW ((tk 0).getD a3 0) ((tk 2).getD a3 0)))), (0, .ref (Z 0))]) hx hb dX10_sum_127 rfl hl (by decide) rfl) (fun ls hl => ?_)
                refine jJ_of (fun H locs => lv_goto (tgt := 165) hx hb dX10_sum_128 (by decide)) ?_
                refine jJ_of (fun H locs => lv_goto (tgt := 5) hx hb dX10_sum_165 (by decide)) ?_
                have ho : xOp2 ((tk 0).getD a3 0) v3 xv8 = (0, 1000) := by rw [show (tk 0).getD a3 0 = 311 by omega]; exact xop2_ok (by omega) (vTwo_t (by decide) (by rw [vH_311]; exact decide_eq_true (by omega))) (by decide)
                rw [haa8] at hk2 hq3
                exact ih aa8 1000 (by omega) (by omega) (by omega) (by unfold vOK; omega) hk2 hq3 (by rw [← hx3, hxe8, xThen_0, ho, xThen_0, haa8]) ls (lv_sub hl [0, 3] rfl)
              · refine jJ_of (fun H locs => lv_lload hx hb dX10_sum_113 (lv_at hl 0 rfl)) ?_
                refine jJ_of (fun H locs => jn_lconst (v := 0) hx hb dX10_sum_115 rfl) ?_
                refine jJ_of (fun H locs => W.lcmp hx hb dX10_sum_116) ?_
                refine jJ_of2 (fun H locs => jl_if_eq (tgt := 126) hx hb dX10_sum_117 (by decide) (by omega) (by omega) (by omega) (by omega)) (fun c117 => ?_) (fun c117 => ?_)
                · refine jJ_of (fun H locs => jn_lconst (v := 0) hx hb dX10_sum_126 rfl) ?_
                  refine jJ_ofL (fun H locs => lv_lstore_n (lv' := [(1, .long (lI 0)), (4, .long (lI xv8)), (3, .int (nI (kW ((tk 0).getD a3 0) ((tk 2).getD a3 0)))), (0, .ref (Z 0))]) hx hb dX10_sum_127 rfl hl (by decide) rfl) (fun ls hl => ?_)
                  refine jJ_of (fun H locs => lv_goto (tgt := 165) hx hb dX10_sum_128 (by decide)) ?_
                  refine jJ_of (fun H locs => lv_goto (tgt := 5) hx hb dX10_sum_165 (by decide)) ?_
                  have ho : xOp2 ((tk 0).getD a3 0) v3 xv8 = (0, 0) := by rw [show (tk 0).getD a3 0 = 311 by omega]; exact xop2_ok (by omega) (vTwo_f (by decide) (by rw [vH_311]; exact decide_eq_false (by omega))) (by decide)
                  rw [haa8] at hk2 hq3
                  exact ih aa8 0 (by omega) (by omega) (by omega) (by unfold vOK; omega) hk2 hq3 (by rw [← hx3, hxe8, xThen_0, ho, xThen_0, haa8]) ls (lv_sub hl [0, 3] rfl)
                · refine jJ_of (fun H locs => lv_ldc2 (v := (lI 1000)) hx hb hown (by rw [show (lI 1000) = (1000 : Int64) from by decide]; exact (hts (.constantLong RX10 265 (1000)) (by decide +kernel))) dX10_sum_120) ?_
                  refine jJ_of (fun H locs => lv_goto (tgt := 127) hx hb dX10_sum_123 (by decide)) ?_
                  refine jJ_ofL (fun H locs => lv_lstore_n (lv' := [(1, .long (lI 1000)), (4, .long (lI xv8)), (3, .int (nI (kW ((tk 0).getD a3 0) ((tk 2).getD a3 0)))), (0, .ref (Z 0))]) hx hb dX10_sum_127 rfl hl (by decide) rfl) (fun ls hl => ?_)
                  refine jJ_of (fun H locs => lv_goto (tgt := 165) hx hb dX10_sum_128 (by decide)) ?_
                  refine jJ_of (fun H locs => lv_goto (tgt := 5) hx hb dX10_sum_165 (by decide)) ?_
                  have ho : xOp2 ((tk 0).getD a3 0) v3 xv8 = (0, 1000) := by rw [show (tk 0).getD a3 0 = 311 by omega]; exact xop2_ok (by omega) (vTwo_t (by decide) (by rw [vH_311]; exact decide_eq_true (by omega))) (by decide)
                  rw [haa8] at hk2 hq3
                  exact ih aa8 1000 (by omega) (by omega) (by omega) (by unfold vOK; omega) hk2 hq3 (by rw [← hx3, hxe8, xThen_0, ho, xThen_0, haa8]) ls (lv_sub hl [0, 3] rfl)
          · exfalso; omega
        · exfalso; omega
theorem uX10_in_X10_test : ∀ w ∈ u_ws RX10 TX10 19, w ∈ wsX10_test := by decide +kernel
theorem uX9_in_X10_test : ∀ w ∈ u_ws RX9 TX9 13, w ∈ wsX10_test := by decide +kernel
set_option maxHeartbeats 4000000 in
set_option maxRecDepth 100000 in
/-- test() -/
theorem c_Md_test {Z : Nat → Nat} {E X : Nat → Value} {V : Nat → Nat → Int32} {vv : Nat → Int64} {tk : Nat → List Nat} {vs : Nat → Int} {a al : Nat} {N r : Nat} (hT : tV tk V) (hE : tE tk) (hvv : ∀ i, i < 200 → vv i = lI (vs i)) (hvs : ∀ i, i < 200 → vOK (vs i)) (ha : a + 1 ≤ (tk 0).length) (hok : (qTes tk N r a).1 = true) (hSu : cEv D G cI cJ cB cZ l yX10_sum wsX10_sum (8 * r + 11) (320 * r + 480) Z E X V vv tk (fun z => .long (lI z)) (qSum tk N r) (xSum tk N vs r)) : HX l yX10_test wsX10_test ({ frames := 8 * r + 12, cells := 0, slots := 0, locals := 320 * r + 520 } : Room) D G (jT cI cJ cB cZ) [.ref (Z 0)] (jF (eW cI cJ cB Z E X V vv a al)) (fun v u k n => (xTes tk N vs r a).1 = 0 ∧ v = some (.long (lI (xTes tk N vs r a).2)) ∧ u = jF (eW cI cJ cB Z E X V vv (qTes tk N r a).2 al) ∧ k = 0 ∧ n = 0) (fun u k n => ¬ (xTes tk N vs r a).1 = 0 ∧ (∃ a2 : Nat, u = jF (eW cI cJ cB Z E X V vv a2 (xTes tk N vs r a).1)) ∧ k = 0 ∧ n = 0) := by
  refine HX_of (cc := cX10_test) (maxL := 7) (ret := (some .long)) (lv := [(0, .ref (Z 0))]) (by decide) rfl rfl (Nat.le_of_ble_eq_true rfl) (fun p e s m args below meth c A0 ls hx hb hr hts hown hlocks hml hno hK hA hAm hl => ?_)
  refine jJ_open (xs := [[(Z 0, .inr (8, [E 0, E 1, E 2, .ref (Z 1), .int (nI a), E 5, E 6, E 7, E 8, .ref (Z 2), E 10, E 11, E 12, E 13, E 14, .ref (Z 7), .int (nI al), E 17, E 18]))], [(Z 2, .inr (0, []))], [(Z 1, .inr (7, [X 0, X 1, .ref (Z 3), X 3, .ref (Z 5), X 5, X 6, X 7, X 8, X 9, X 10, X 11, X 12]))], [(Z 3, .inl (cB, 32008, .inl (V 0)))], [(Z 5, .inl (cI, 32008, .inl (V 2)))], [(Z 7, .inl (cJ, 200, .inr (.inl vv)))]]) (r := []) (cs2 := [[(Z 0, .inr (8, [E 0, E 1, E 2, .ref (Z 1), .int (nI a), E 5, E 6, E 7, E 8, .ref (Z 2), E 10, E 11, E 12, E 13, E 14, .ref (Z 7), .int (nI al), E 17, E 18]))], [(Z 2, .inr (0, []))], [(Z 1, .inr (7, [X 0, X 1, .ref (Z 3), X 3, .ref (Z 5), X 5, X 6, X 7, X 8, X 9, X 10, X 11, X 12]))], [(Z 3, .inl (cB, 32008, .inl (V 0)))], [(Z 5, .inl (cI, 32008, .inl (V 2)))], [(Z 7, .inl (cJ, 200, .inr (.inl vv)))]]) rfl ?_
  have hL9 := hT.1
  obtain ⟨hV0, hV1, hV2, hV3⟩ := hT.2.1 a (by omega)
  obtain ⟨hB0, hB1, hB2⟩ := hT.2.2 a
  have hkc := kC_le ((tk 0).getD a 0)
  have hkw := kW_le hB0 hB2
  have hk1 := kC1 (c := (tk 0).getD a 0)
  have hk3 := kC3w (c := (tk 0).getD a 0) (w := (tk 2).getD a 0)
  have hB2a := fun i => (hT.2.2 i).2.2
  have hL8 := hE.lt (a := a)
  clear hV0 hV1 hV2 hV3 hkc hkw hk1 hk3 hB0 hB1 hB2 hL8
  obtain ⟨hok1, hok2, hok3⟩ := qThen_ok hok
  refine jJ_of (fun H locs => lv_aload_n hx hb dX10_test_0 rfl (lv_at hl 0 rfl)) ?_
  have hokq1 : (qSum tk N r a).1 = true := by exact hok1
  obtain ⟨aa1, haa1⟩ : ∃ i, (qSum tk N r a).2 = i := ⟨_, rfl⟩
  have heq1 : qSum tk N r a = (true, aa1) := Prod.ext hokq1 haa1
  have hqb1 : a ≤ (qSum tk N r a).2 ∧ (qSum tk N r a).2 + 1 ≤ (tk 0).length := qb_sum hE N r a (by omega)
  rw [haa1] at hqb1
  obtain ⟨xa1, xv1, hxe1⟩ : ∃ i j, xSum tk N vs r a = (i, j) := ⟨_, _, rfl⟩
  have hxv1 := xv_sum N hB2a hvs r a
  rw [hxe1] at hxv1
  dsimp only at hxv1
  refine jX_callV (As := []) (rest := []) (wc := jF (eW cI cJ cB Z (E) (X) V vv a al)) (cs2 := []) (C := RX10) (T := TX10) (N := 19) (ci := 8) [0, 1, 2, 3, 4, 5] [] ⟨hx, hb, hml, hown, hts⟩ hK hA hAm (hSu a al (by omega) hokq1) (cwV 0 hts gX10_test_X10_sum rfl rfl rfl (by decide +kernel) ⟨by show (8 * r + 11) + 1 ≤ 8 * r + 12; omega, by show 8 + (6 + 11) + (320 * r + 480) ≤ 320 * r + 520; omega⟩) (nn := 6) rfl (by decide) rfl rfl ⟨0, _, rfl⟩ rfl rfl rfl hl.1 (Nat.le_of_ble_eq_true rfl) dX10_test_1 (by show _ + 0 ≤ 0; omega) (by show _ + 0 ≤ 0; omega) (fun u1 k1 n1 q1 hx1 => ?_) (fun v u1 k1 n1 hq1 => ?_)
  · rw [hxe1] at hx1
    dsimp only at hx1
    obtain ⟨hnz1, ⟨a2_1, hu1⟩, rfl, rfl⟩ := hx1
    rw [hu1]
    have he : xTes tk N vs r a = (xa1, xv1) := by unfold xTes xTe; rw [hxe1]; exact xThen_n hnz1 _
    exact jJx_out hno hlocks (by show _ ≤ 0; omega) (by show _ ≤ 0; omega) ⟨by rw [he]; assumption, ⟨_, by rw [he]; rfl⟩, rfl, rfl⟩
  rw [hxe1, haa1] at hq1
  dsimp only at hq1
  obtain ⟨hz1, rfl, hw1, rfl, rfl⟩ := hq1
  subst hz1
  rw [hw1]
  have hvo1 := hxv1 rfl
  have hvo1b := hvo1
  unfold vOK at hvo1b
  refine jJ_open (xs := [[(Z 0, .inr (8, [E 0, E 1, E 2, .ref (Z 1), .int (nI aa1), E 5, E 6, E 7, E 8, .ref (Z 2), E 10, E 11, E 12, E 13, E 14, .ref (Z 7), .int (nI al), E 17, E 18]))], [(Z 2, .inr (0, []))], [(Z 1, .inr (7, [X 0, X 1, .ref (Z 3), X 3, .ref (Z 5), X 5, X 6, X 7, X 8, X 9, X 10, X 11, X 12]))], [(Z 3, .inl (cB, 32008, .inl (V 0)))], [(Z 5, .inl (cI, 32008, .inl (V 2)))], [(Z 7, .inl (cJ, 200, .inr (.inl vv)))]]) (r := []) (cs2 := [[(Z 0, .inr (8, [E 0, E 1, E 2, .ref (Z 1), .int (nI aa1), E 5, E 6, E 7, E 8, .ref (Z 2), E 10, E 11, E 12, E 13, E 14, .ref (Z 7), .int (nI al), E 17, E 18]))], [(Z 2, .inr (0, []))], [(Z 1, .inr (7, [X 0, X 1, .ref (Z 3), X 3, .ref (Z 5), X 5, X 6, X 7, X 8, X 9, X 10, X 11, X 12]))], [(Z 3, .inl (cB, 32008, .inl (V 0)))], [(Z 5, .inl (cI, 32008, .inl (V 2)))], [(Z 7, .inl (cJ, 200, .inr (.inl vv)))]]) rfl ?_
  refine jJ_eq (g2 := F0 m 4 ls [.long (lI xv1)]) (cs2 := [[(Z 0, .inr (8, [E 0, E 1, E 2, .ref (Z 1), .int (nI aa1), E 5, E 6, E 7, E 8, .ref (Z 2), E 10, E 11, E 12, E 13, E 14, .ref (Z 7), .int (nI al), E 17, E 18]))], [(Z 2, .inr (0, []))], [(Z 1, .inr (7, [X 0, X 1, .ref (Z 3), X 3, .ref (Z 5), X 5, X 6, X 7, X 8, X 9, X 10, X 11, X 12]))], [(Z 3, .inl (cB, 32008, .inl (V 0)))], [(Z 5, .inl (cI, 32008, .inl (V 2)))], [(Z 7, .inl (cJ, 200, .inr (.inl vv)))]]) rfl rfl ?_
  refine jJ_ofL (fun H locs => lv_lstore_n (lv' := [(1, .long (lI xv1)), (0, .ref (Z 0))]) hx hb dX10_test_4 rfl hl (by decide) rfl) (fun ls hl => ?_)
  rw [haa1] at hok2 hok3
  try dsimp only at hok2 hok3
  obtain ⟨hV0, hV1, hV2, hV3⟩ := hT.2.1 aa1 (by omega)
  obtain ⟨hB0, hB1, hB2⟩ := hT.2.2 aa1
  have hkc := kC_le ((tk 0).getD aa1 0)
  have hkw := kW_le hB0 hB2
  have hk3 := kC3w (c := (tk 0).getD aa1 0) (w := (tk 2).getD aa1 0)
  have hks := kWs (c := (tk 0).getD aa1 0) (w := (tk 2).getD aa1 0)
  have hL8 := hE.lt (a := aa1)
  have hx1 : xTes tk N vs r a = (if 313 ≤ (tk 0).getD aa1 0 ∧ (tk 0).getD aa1 0 ≤ 318 then xThen (xSum tk N vs r (aa1 + 1)) (fun u => xOp2 ((tk 0).getD aa1 0) xv1 u) else (0, xv1)) := by unfold xTes xTe; rw [hxe1, xThen_0, haa1]
  refine jJ_of (fun H locs => lv_aload_n hx hb dX10_test_5 rfl (lv_at hl 1 rfl)) ?_
  refine jJ_callV (As := []) (rest := []) (wc := jF (kWd cI cB Z (lsV [E 0, E 1, E 2, .null, .null, E 5, E 6, E 7, E 8, .ref (Z 2), E 10, E 11, E 12, E 13, E 14, .ref (Z 7), .int (nI al), E 17, E 18]) (lsV [X 0, X 1, .null, X 3, .null, X 5, X 6, X 7, X 8, X 9, X 10, X 11, X 12]) V aa1)) (cs2 := [[(Z 2, .inr (0, []))], [(Z 7, .inl (cJ, 200, .inr (.inl vv)))]]) (C := RX10) (T := TX10) (N := 19) (ci := 8) [0, 2, 3, 4] [1, 5] ⟨hx, hb, hml, hown, hts⟩ hK hA hAm (c_Md_isRelation (E := lsV [E 0, E 1, E 2, .null, .null, E 5, E 6, E 7, E 8, .ref (Z 2), E 10, E 11, E 12, E 13, E 14, .ref (Z 7), .int (nI al), E 17, E 18]) (X := lsV [X 0, X 1, .null, X 3, .null, X 5, X 6, X 7, X 8, X 9, X 10, X 11, X 12]) (a := aa1) hT (by omega)) (cwV 0 hts gX10_test_X10_isRelation rfl rfl rfl (by decide +kernel) ⟨by show (1) + 1 ≤ 8 * r + 12; omega, by show 8 + (1 + 11) + (40) ≤ 320 * r + 520; omega⟩) (nn := 6) rfl (by decide) rfl rfl ⟨0, _, rfl⟩ rfl rfl rfl hl.1 (Nat.le_of_ble_eq_true rfl) dX10_test_6 (by show _ + 0 ≤ 0; omega) (by show _ + 0 ≤ 0; omega) (fun v u2 k2 n2 hq2 => ?_)
  obtain ⟨rfl, hw2, rfl, rfl⟩ := hq2
  rw [hw2]
  refine jJ_open (xs := [[(Z 0, .inr (8, [E 0, E 1, E 2, .ref (Z 1), .int (nI aa1), E 5, E 6, E 7, E 8, .ref (Z 2), E 10, E 11, E 12, E 13, E 14, .ref (Z 7), .int (nI al), E 17, E 18]))], [(Z 1, .inr (7, [X 0, X 1, .ref (Z 3), X 3, .ref (Z 5), X 5, X 6, X 7, X 8, X 9, X 10, X 11, X 12]))], [(Z 3, .inl (cB, 32008, .inl (V 0)))], [(Z 5, .inl (cI, 32008, .inl (V 2)))]]) (r := [[(Z 2, .inr (0, []))], [(Z 7, .inl (cJ, 200, .inr (.inl vv)))]]) (cs2 := [[(Z 0, .inr (8, [E 0, E 1, E 2, .ref (Z 1), .int (nI aa1), E 5, E 6, E 7, E 8, .ref (Z 2), E 10, E 11, E 12, E 13, E 14, .ref (Z 7), .int (nI al), E 17, E 18]))], [(Z 1, .inr (7, [X 0, X 1, .ref (Z 3), X 3, .ref (Z 5), X 5, X 6, X 7, X 8, X 9, X 10, X 11, X 12]))], [(Z 3, .inl (cB, 32008, .inl (V 0)))], [(Z 5, .inl (cI, 32008, .inl (V 2)))], [(Z 2, .inr (0, []))], [(Z 7, .inl (cJ, 200, .inr (.inl vv)))]]) rfl ?_
  refine jJ_eq (g2 := F0 m 9 ls [.int (bI (decide (313 ≤ (tk 0).getD aa1 0 ∧ (tk 0).getD aa1 0 ≤ 318)))]) (cs2 := [[(Z 0, .inr (8, [E 0, E 1, E 2, .ref (Z 1), .int (nI aa1), E 5, E 6, E 7, E 8, .ref (Z 2), E 10, E 11, E 12, E 13, E 14, .ref (Z 7), .int (nI al), E 17, E 18]))], [(Z 1, .inr (7, [X 0, X 1, .ref (Z 3), X 3, .ref (Z 5), X 5, X 6, X 7, X 8, X 9, X 10, X 11, X 12]))], [(Z 3, .inl (cB, 32008, .inl (V 0)))], [(Z 5, .inl (cI, 32008, .inl (V 2)))], [(Z 2, .inr (0, []))], [(Z 7, .inl (cJ, 200, .inr (.inl vv)))]]) rfl rfl ?_
  refine jJ_of2 (fun H locs => jb_if_ne (tgt := 14) hx hb dX10_test_9 (by decide)) (fun c9 => ?_) (fun c9 => ?_)
  · simp only [decide_eq_true_eq, decide_eq_false_iff_not] at c9
    rw [if_pos c9] at hok2 hok3 hx1
    have hL7 := hL8 (by omega) (by omega)
    refine jJ_of (fun H locs => lv_aload_n hx hb dX10_test_14 rfl (lv_at hl 1 rfl)) ?_
    refine jJ_get hx hb (C := RX10) (T := TX10) (N := 19) hts uX10_in_X10_test hown hK 0 rfl rfl 3 (by decide) (hts (.fieldLink RX10 53 "ValueBlocksModel" "t" "LValueBlocksModel$Text;") (by decide +kernel)) (fun _ h9 => h9) rfl dX10_test_15 ?_
    refine jJ_get hx hb (C := RX9) (T := TX9) (N := 13) hts uX9_in_X10_test hown hK 1 rfl rfl 4 (by decide) (hts (.fieldLink RX10 71 "ValueBlocksModel$Text" "worths" "[I") (by decide +kernel)) (fun _ h9 => h9) rfl dX10_test_18 ?_
    refine jJ_of (fun H locs => lv_aload_n hx hb dX10_test_21 rfl (lv_at hl 1 rfl)) ?_
    refine jJ_get hx hb (C := RX10) (T := TX10) (N := 19) hts uX10_in_X10_test hown hK 0 rfl rfl 4 (by decide) (hts (.fieldLink RX10 121 "ValueBlocksModel" "at" "I") (by decide +kernel)) (fun _ h9 => h9) rfl dX10_test_22 ?_
    refine jJ_iald hx hb hK 3 0 (f := V 2) rfl rfl (vp_in_nI (by omega) (by omega)) (x := (nI (kW ((tk 0).getD aa1 0) ((tk 2).getD aa1 0)))) (by rw [nI_clamp (by omega)]; exact hV2) dX10_test_25 ?_
    refine jJ_ofL (fun H locs => lv_istore_n (lv' := [(3, .int (nI (kW ((tk 0).getD aa1 0) ((tk 2).getD aa1 0)))), (1, .long (lI xv1)), (0, .ref (Z 0))]) hx hb dX10_test_26 rfl hl (by decide) rfl) (fun ls hl => ?_)
    refine jJ_of (fun H locs => lv_aload_n hx hb dX10_test_27 rfl (lv_at hl 2 rfl)) ?_
    refine jJ_of (fun H locs => lv_dup hx hb dX10_test_28 rfl) ?_
    refine jJ_get hx hb (C := RX10) (T := TX10) (N := 19) hts uX10_in_X10_test hown hK 0 rfl rfl 4 (by decide) (hts (.fieldLink RX10 121 "ValueBlocksModel" "at" "I") (by decide +kernel)) (fun _ h9 => h9) rfl dX10_test_29 ?_
    refine jJ_of (fun H locs => lv_iconst (v := (nI 1)) hx hb dX10_test_32 (by decide)) ?_
    refine jJ_of (fun H locs => jn_iadd hx hb dX10_test_33) ?_
    refine jJ_put hx hb (C := RX10) (T := TX10) (N := 19) (ty := .int) (v := .int (nI (aa1 + 1))) hts uX10_in_X10_test tyX10 tyX10_ok nmX10 hown hK 0 rfl rfl 4 (by decide) (hts (.fieldLink RX10 121 "ValueBlocksModel" "at" "I") (by decide +kernel)) (fun _ h9 => h9) rfl (by decide +kernel) rfl rfl (Nat.le_of_ble_eq_true rfl) dX10_test_34 (cs2 := [[(Z 0, .inr (8, [E 0, E 1, E 2, .ref (Z 1), .int (nI (aa1 + 1)), E 5, E 6, E 7, E 8, .ref (Z 2), E 10, E 11, E 12, E 13, E 14, .ref (Z 7), .int (nI al), E 17, E 18]))], [(Z 1, .inr (7, [X 0, X 1, .ref (Z 3), X 3, .ref (Z 5), X 5, X 6, X 7, X 8, X 9, X 10, X 11, X 12]))], [(Z 3, .inl (cB, 32008, .inl (V 0)))], [(Z 5, .inl (cI, 32008, .inl (V 2)))], [(Z 2, .inr (0, []))], [(Z 7, .inl (cJ, 200, .inr (.inl vv)))]]) rfl ?_
    refine jJ_of (fun H locs => lv_aload_n hx hb dX10_test_37 rfl (lv_at hl 2 rfl)) ?_
    have hokq3 : (qSum tk N r (aa1 + 1)).1 = true := by exact hok2
    obtain ⟨aa3, haa3⟩ : ∃ i, (qSum tk N r (aa1 + 1)).2 = i := ⟨_, rfl⟩
    have heq3 : qSum tk N r (aa1 + 1) = (true, aa3) := Prod.ext hokq3 haa3
    have hqb3 : (aa1 + 1) ≤ (qSum tk N r (aa1 + 1)).2 ∧ (qSum tk N r (aa1 + 1)).2 + 1 ≤ (tk 0).length := qb_sum hE N r (aa1 + 1) (by omega)
    rw [haa3] at hqb3
    obtain ⟨xa3, xv3, hxe3⟩ : ∃ i j, xSum tk N vs r (aa1 + 1) = (i, j) := ⟨_, _, rfl⟩
    have hxv3 := xv_sum N hB2a hvs r (aa1 + 1)
    rw [hxe3] at hxv3
    dsimp only at hxv3
    refine jX_callV (As := []) (rest := []) (wc := jF (eW cI cJ cB Z (E) (X) V vv (aa1 + 1) al)) (cs2 := []) (C := RX10) (T := TX10) (N := 19) (ci := 8) [0, 4, 1, 2, 3, 5] [] ⟨hx, hb, hml, hown, hts⟩ hK hA hAm (hSu (aa1 + 1) al (by omega) hokq3) (cwV 0 hts gX10_test_X10_sum rfl rfl rfl (by decide +kernel) ⟨by show (8 * r + 11) + 1 ≤ 8 * r + 12; omega, by show 8 + (6 + 11) + (320 * r + 480) ≤ 320 * r + 520; omega⟩) (nn := 6) rfl (by decide) rfl rfl ⟨0, _, rfl⟩ rfl rfl rfl hl.1 (Nat.le_of_ble_eq_true rfl) dX10_test_38 (by show _ + 0 ≤ 0; omega) (by show _ + 0 ≤ 0; omega) (fun u3 k3 n3 q3 hx3 => ?_) (fun v u3 k3 n3 hq3 => ?_)
    · rw [hxe3] at hx3
      dsimp only at hx3
      obtain ⟨hnz3, ⟨a2_3, hu3⟩, rfl, rfl⟩ := hx3
      rw [hu3]
      have he : xTes tk N vs r a = (xa3, xv3) := by rw [hx1, hxe3]; exact xThen_n hnz3 _
      exact jJx_out hno hlocks (by show _ ≤ 0; omega) (by show _ ≤ 0; omega) ⟨by rw [he]; assumption, ⟨_, by rw [he]; rfl⟩, rfl, rfl⟩
    rw [hxe3, haa3] at hq3
    dsimp only at hq3
    obtain ⟨hz3, rfl, hw3, rfl, rfl⟩ := hq3
    subst hz3
    rw [hw3]
    have hvo3 := hxv3 rfl
    have hvo3b := hvo3
    unfold vOK at hvo3b
    refine jJ_open (xs := [[(Z 0, .inr (8, [E 0, E 1, E 2, .ref (Z 1), .int (nI aa3), E 5, E 6, E 7, E 8, .ref (Z 2), E 10, E 11, E 12, E 13, E 14, .ref (Z 7), .int (nI al), E 17, E 18]))], [(Z 2, .inr (0, []))], [(Z 1, .inr (7, [X 0, X 1, .ref (Z 3), X 3, .ref (Z 5), X 5, X 6, X 7, X 8, X 9, X 10, X 11, X 12]))], [(Z 3, .inl (cB, 32008, .inl (V 0)))], [(Z 5, .inl (cI, 32008, .inl (V 2)))], [(Z 7, .inl (cJ, 200, .inr (.inl vv)))]]) (r := []) (cs2 := [[(Z 0, .inr (8, [E 0, E 1, E 2, .ref (Z 1), .int (nI aa3), E 5, E 6, E 7, E 8, .ref (Z 2), E 10, E 11, E 12, E 13, E 14, .ref (Z 7), .int (nI al), E 17, E 18]))], [(Z 2, .inr (0, []))], [(Z 1, .inr (7, [X 0, X 1, .ref (Z 3), X 3, .ref (Z 5), X 5, X 6, X 7, X 8, X 9, X 10, X 11, X 12]))], [(Z 3, .inl (cB, 32008, .inl (V 0)))], [(Z 5, .inl (cI, 32008, .inl (V 2)))], [(Z 7, .inl (cJ, 200, .inr (.inl vv)))]]) rfl ?_
    refine jJ_eq (g2 := F0 m 41 ls [.long (lI xv3)]) (cs2 := [[(Z 0, .inr (8, [E 0, E 1, E 2, .ref (Z 1), .int (nI aa3), E 5, E 6, E 7, E 8, .ref (Z 2), E 10, E 11, E 12, E 13, E 14, .ref (Z 7), .int (nI al), E 17, E 18]))], [(Z 2, .inr (0, []))], [(Z 1, .inr (7, [X 0, X 1, .ref (Z 3), X 3, .ref (Z 5), X 5, X 6, X 7, X 8, X 9, X 10, X 11, X 12]))], [(Z 3, .inl (cB, 32008, .inl (V 0)))], [(Z 5, .inl (cI, 32008, .inl (V 2)))], [(Z 7, .inl (cJ, 200, .inr (.inl vv)))]]) rfl rfl ?_
    refine jJ_ofL (fun H locs => lv_lstore (lv' := [(4, .long (lI xv3)), (3, .int (nI (kW ((tk 0).getD aa1 0) ((tk 2).getD aa1 0)))), (1, .long (lI xv1)), (0, .ref (Z 0))]) hx hb dX10_test_41 hl (by decide) rfl) (fun ls hl => ?_)
    refine jJ_of (fun H locs => lv_iload_n hx hb dX10_test_43 rfl (lv_at hl 1 rfl)) ?_
    refine jJ_of (fun H locs => lv_bipush (v := (nI 13)) hx hb dX10_test_44 (by decide)) ?_
    refine jJ_of2 (fun H locs => jn_icmp_ne (tgt := 64) hx hb dX10_test_46 (by decide) (by omega) (by omega)) (fun c46 => ?_) (fun c46 => ?_)
    · refine jJ_of (fun H locs => lv_iload_n hx hb dX10_test_64 rfl (lv_at hl 1 rfl)) ?_
      refine jJ_of (fun H locs => lv_bipush (v := (nI 14)) hx hb dX10_test_65 (by decide)) ?_
      refine jJ_of2 (fun H locs => jn_icmp_ne (tgt := 85) hx hb dX10_test_67 (by decide) (by omega) (by omega)) (fun c67 => ?_) (fun c67 => ?_)
      · refine jJ_of (fun H locs => lv_iload_n hx hb dX10_test_85 rfl (lv_at hl 1 rfl)) ?_
        refine jJ_of (fun H locs => lv_bipush (v := (nI 15)) hx hb dX10_test_86 (by decide)) ?_
        refine jJ_of2 (fun H locs => jn_icmp_ne (tgt := 106) hx hb dX10_test_88 (by decide) (by omega) (by omega)) (fun c88 => ?_) (fun c88 => ?_)
        · refine jJ_of (fun H locs => lv_iload_n hx hb dX10_test_106 rfl (lv_at hl 1 rfl)) ?_
          refine jJ_of (fun H locs => lv_bipush (v := (nI 16)) hx hb dX10_test_107 (by decide)) ?_
          refine jJ_of2 (fun H locs => jn_icmp_ne (tgt := 127) hx hb dX10_test_109 (by decide) (by omega) (by omega)) (fun c109 => ?_) (fun c109 => ?_)
          · refine jJ_of (fun H locs => lv_iload_n hx hb dX10_test_127 rfl (lv_at hl 1 rfl)) ?_
            refine jJ_of (fun H locs => lv_bipush (v := (nI 17)) hx hb dX10_test_128 (by decide)) ?_
            refine jJ_of2 (fun H locs => jn_icmp_ne (tgt := 148) hx hb dX10_test_130 (by decide) (by omega) (by omega)) (fun c130 => ?_) (fun c130 => ?_)
            · refine jJ_of (fun H locs => lv_lload_n hx hb dX10_test_148 rfl (lv_at hl 2 rfl)) ?_
              refine jJ_of (fun H locs => lv_lload hx hb dX10_test_149 (lv_at hl 0 rfl)) ?_
              refine jJ_of (fun H locs => W.lcmp hx hb dX10_test_151) ?_
              refine jJ_of2 (fun H locs => jl_if_lt (tgt := 159) hx hb dX10_test_152 (by decide) (by omega) (by omega) (by omega) (by omega)) (fun c152 => ?_) (fun c152 => ?_)
              · refine jJ_of (fun H locs => lv_iconst (v := (nI 0)) hx hb dX10_test_159 (by decide)) ?_
                refine jJ_ofL (fun H locs => lv_istore (lv' := [(6, .int (nI 0)), (4, .long (lI xv3)), (3, .int (nI (kW ((tk 0).getD aa1 0) ((tk 2).getD aa1 0)))), (1, .long (lI xv1)), (0, .ref (Z 0))]) hx hb dX10_test_160 hl (by decide) rfl) (fun ls hl => ?_)
                refine jJ_of (fun H locs => lv_iload hx hb dX10_test_162 (lv_at hl 0 rfl)) ?_
                refine jJ_of2 (fun H locs => jn_if_eq (tgt := 173) hx hb dX10_test_164 (by decide) (by omega)) (fun c164 => ?_) (fun c164 => ?_)
                · refine jJ_of (fun H locs => jn_lconst (v := 0) hx hb dX10_test_173 rfl) ?_
                  have heq : (qTes tk N r a).2 = aa3 := by exact (congrArg Prod.snd hok3).trans haa3
                  have he : xTes tk N vs r a = (0, (0 : Int)) := by rw [hx1, hxe3, xThen_0, show (tk 0).getD aa1 0 = 318 by omega]; exact xop2_ok (by omega) (vTwo_f (by decide) (by rw [vH_318]; exact decide_eq_false (by omega))) (by decide)
                  exact jJ_toX (jJ_lret hx hb hr hlocks dX10_test_174 (by show _ ≤ 0; omega) (by show _ ≤ 0; omega) ⟨by rw [he], by rw [he], by rw [heq]; rfl, rfl, rfl⟩)
                · exfalso; omega
              · refine jJ_of (fun H locs => lv_iconst (v := (nI 1)) hx hb dX10_test_155 (by decide)) ?_
                refine jJ_of (fun H locs => lv_goto (tgt := 160) hx hb dX10_test_156 (by decide)) ?_
                refine jJ_ofL (fun H locs => lv_istore (lv' := [(6, .int (nI 1)), (4, .long (lI xv3)), (3, .int (nI (kW ((tk 0).getD aa1 0) ((tk 2).getD aa1 0)))), (1, .long (lI xv1)), (0, .ref (Z 0))]) hx hb dX10_test_160 hl (by decide) rfl) (fun ls hl => ?_)
                refine jJ_of (fun H locs => lv_iload hx hb dX10_test_162 (lv_at hl 0 rfl)) ?_
                refine jJ_of2 (fun H locs => jn_if_eq (tgt := 173) hx hb dX10_test_164 (by decide) (by omega)) (fun c164 => ?_) (fun c164 => ?_)
                · exfalso; omega
                · refine jJ_of (fun H locs => lv_ldc2 (v := (lI 1000)) hx hb hown (by rw [show (lI 1000) = (1000 : Int64) from by decide]; exact (hts (.constantLong RX10 265 (1000)) (by decide +kernel))) dX10_test_167) ?_
                  refine jJ_of (fun H locs => lv_goto (tgt := 174) hx hb dX10_test_170 (by decide)) ?_
                  have heq : (qTes tk N r a).2 = aa3 := by exact (congrArg Prod.snd hok3).trans haa3
                  have he : xTes tk N vs r a = (0, (1000 : Int)) := by rw [hx1, hxe3, xThen_0, show (tk 0).getD aa1 0 = 318 by omega]; exact xop2_ok (by omega) (vTwo_t (by decide) (by rw [vH_318]; exact decide_eq_true (by omega))) (by decide)
                  exact jJ_toX (jJ_lret hx hb hr hlocks dX10_test_174 (by show _ ≤ 0; omega) (by show _ ≤ 0; omega) ⟨by rw [he], by rw [he], by rw [heq]; rfl, rfl, rfl⟩)
            · refine jJ_of (fun H locs => lv_lload_n hx hb dX10_test_133 rfl (lv_at hl 2 rfl)) ?_
              refine jJ_of (fun H locs => lv_lload hx hb dX10_test_134 (lv_at hl 0 rfl)) ?_
              refine jJ_of (fun H locs => W.lcmp hx hb dX10_test_136) ?_
              refine jJ_of2 (fun H locs => jl_if_le (tgt := 144) hx hb dX10_test_137 (by decide) (by omega) (by omega) (by omega) (by omega)) (fun c137 => ?_) (fun c137 => ?_)
              · refine jJ_of (fun H locs => lv_iconst (v := (nI 0)) hx hb dX10_test_144 (by decide)) ?_
                refine jJ_of (fun H locs => lv_goto (tgt := 160) hx hb dX10_test_145 (by decide)) ?_
                refine jJ_ofL (fun H locs => lv_istore (lv' := [(6, .int (nI 0)), (4, .long (lI xv3)), (3, .int (nI (kW ((tk 0).getD aa1 0) ((tk 2).getD aa1 0)))), (1, .long (lI xv1)), (0, .ref (Z 0))]) hx hb dX10_test_160 hl (by decide) rfl) (fun ls hl => ?_)
                refine jJ_of (fun H locs => lv_iload hx hb dX10_test_162 (lv_at hl 0 rfl)) ?_
                refine jJ_of2 (fun H locs => jn_if_eq (tgt := 173) hx hb dX10_test_164 (by decide) (by omega)) (fun c164 => ?_) (fun c164 => ?_)
                · refine jJ_of (fun H locs => jn_lconst (v := 0) hx hb dX10_test_173 rfl) ?_
                  have heq : (qTes tk N r a).2 = aa3 := by exact (congrArg Prod.snd hok3).trans haa3
                  have he : xTes tk N vs r a = (0, (0 : Int)) := by rw [hx1, hxe3, xThen_0, show (tk 0).getD aa1 0 = 317 by omega]; exact xop2_ok (by omega) (vTwo_f (by decide) (by rw [vH_317]; exact decide_eq_false (by omega))) (by decide)
                  exact jJ_toX (jJ_lret hx hb hr hlocks dX10_test_174 (by show _ ≤ 0; omega) (by show _ ≤ 0; omega) ⟨by rw [he], by rw [he], by rw [heq]; rfl, rfl, rfl⟩)
                · exfalso; omega
              · refine jJ_of (fun H locs => lv_iconst (v := (nI 1)) hx hb dX10_test_140 (by decide)) ?_
                refine jJ_of (fun H locs => lv_goto (tgt := 160) hx hb dX10_test_141 (by decide)) ?_
                refine jJ_ofL (fun H locs => lv_istore (lv' := [(6, .int (nI 1)), (4, .long (lI xv3)), (3, .int (nI (kW ((tk 0).getD aa1 0) ((tk 2).getD aa1 0)))), (1, .long (lI xv1)), (0, .ref (Z 0))]) hx hb dX10_test_160 hl (by decide) rfl) (fun ls hl => ?_)
                refine jJ_of (fun H locs => lv_iload hx hb dX10_test_162 (lv_at hl 0 rfl)) ?_
                refine jJ_of2 (fun H locs => jn_if_eq (tgt := 173) hx hb dX10_test_164 (by decide) (by omega)) (fun c164 => ?_) (fun c164 => ?_)
                · exfalso; omega
                · refine jJ_of (fun H locs => lv_ldc2 (v := (lI 1000)) hx hb hown (by rw [show (lI 1000) = (1000 : Int64) from by decide]; exact (hts (.constantLong RX10 265 (1000)) (by decide +kernel))) dX10_test_167) ?_
                  refine jJ_of (fun H locs => lv_goto (tgt := 174) hx hb dX10_test_170 (by decide)) ?_
                  have heq : (qTes tk N r a).2 = aa3 := by exact (congrArg Prod.snd hok3).trans haa3
                  have he : xTes tk N vs r a = (0, (1000 : Int)) := by rw [hx1, hxe3, xThen_0, show (tk 0).getD aa1 0 = 317 by omega]; exact xop2_ok (by omega) (vTwo_t (by decide) (by rw [vH_317]; exact decide_eq_true (by omega))) (by decide)
                  exact jJ_toX (jJ_lret hx hb hr hlocks dX10_test_174 (by show _ ≤ 0; omega) (by show _ ≤ 0; omega) ⟨by rw [he], by rw [he], by rw [heq]; rfl, rfl, rfl⟩)
          · refine jJ_of (fun H locs => lv_lload_n hx hb dX10_test_112 rfl (lv_at hl 2 rfl)) ?_
            refine jJ_of (fun H locs => lv_lload hx hb dX10_test_113 (lv_at hl 0 rfl)) ?_
            refine jJ_of (fun H locs => W.lcmp hx hb dX10_test_115) ?_
            refine jJ_of2 (fun H locs => jl_if_gt (tgt := 123) hx hb dX10_test_116 (by decide) (by omega) (by omega) (by omega) (by omega)) (fun c116 => ?_) (fun c116 => ?_)
            · refine jJ_of (fun H locs => lv_iconst (v := (nI 0)) hx hb dX10_test_123 (by decide)) ?_
              refine jJ_of (fun H locs => lv_goto (tgt := 160) hx hb dX10_test_124 (by decide)) ?_
              refine jJ_ofL (fun H locs => lv_istore (lv' := [(6, .int (nI 0)), (4, .long (lI xv3)), (3, .int (nI (kW ((tk 0).getD aa1 0) ((tk 2).getD aa1 0)))), (1, .long (lI xv1)), (0, .ref (Z 0))]) hx hb dX10_test_160 hl (by decide) rfl) (fun ls hl => ?_)
              refine jJ_of (fun H locs => lv_iload hx hb dX10_test_162 (lv_at hl 0 rfl)) ?_
              refine jJ_of2 (fun H locs => jn_if_eq (tgt := 173) hx hb dX10_test_164 (by decide) (by omega)) (fun c164 => ?_) (fun c164 => ?_)
              · refine jJ_of (fun H locs => jn_lconst (v := 0) hx hb dX10_test_173 rfl) ?_
                have heq : (qTes tk N r a).2 = aa3 := by exact (congrArg Prod.snd hok3).trans haa3
                have he : xTes tk N vs r a = (0, (0 : Int)) := by rw [hx1, hxe3, xThen_0, show (tk 0).getD aa1 0 = 316 by omega]; exact xop2_ok (by omega) (vTwo_f (by decide) (by rw [vH_316]; exact decide_eq_false (by omega))) (by decide)
                exact jJ_toX (jJ_lret hx hb hr hlocks dX10_test_174 (by show _ ≤ 0; omega) (by show _ ≤ 0; omega) ⟨by rw [he], by rw [he], by rw [heq]; rfl, rfl, rfl⟩)
              · exfalso; omega
            · refine jJ_of (fun H locs => lv_iconst (v := (nI 1)) hx hb dX10_test_119 (by decide)) ?_
              refine jJ_of (fun H locs => lv_goto (tgt := 160) hx hb dX10_test_120 (by decide)) ?_
              refine jJ_ofL (fun H locs => lv_istore (lv' := [(6, .int (nI 1)), (4, .long (lI xv3)), (3, .int (nI (kW ((tk 0).getD aa1 0) ((tk 2).getD aa1 0)))), (1, .long (lI xv1)), (0, .ref (Z 0))]) hx hb dX10_test_160 hl (by decide) rfl) (fun ls hl => ?_)
              refine jJ_of (fun H locs => lv_iload hx hb dX10_test_162 (lv_at hl 0 rfl)) ?_
              refine jJ_of2 (fun H locs => jn_if_eq (tgt := 173) hx hb dX10_test_164 (by decide) (by omega)) (fun c164 => ?_) (fun c164 => ?_)
              · exfalso; omega
              · refine jJ_of (fun H locs => lv_ldc2 (v := (lI 1000)) hx hb hown (by rw [show (lI 1000) = (1000 : Int64) from by decide]; exact (hts (.constantLong RX10 265 (1000)) (by decide +kernel))) dX10_test_167) ?_
                refine jJ_of (fun H locs => lv_goto (tgt := 174) hx hb dX10_test_170 (by decide)) ?_
                have heq : (qTes tk N r a).2 = aa3 := by exact (congrArg Prod.snd hok3).trans haa3
                have he : xTes tk N vs r a = (0, (1000 : Int)) := by rw [hx1, hxe3, xThen_0, show (tk 0).getD aa1 0 = 316 by omega]; exact xop2_ok (by omega) (vTwo_t (by decide) (by rw [vH_316]; exact decide_eq_true (by omega))) (by decide)
                exact jJ_toX (jJ_lret hx hb hr hlocks dX10_test_174 (by show _ ≤ 0; omega) (by show _ ≤ 0; omega) ⟨by rw [he], by rw [he], by rw [heq]; rfl, rfl, rfl⟩)
        · refine jJ_of (fun H locs => lv_lload_n hx hb dX10_test_91 rfl (lv_at hl 2 rfl)) ?_
          refine jJ_of (fun H locs => lv_lload hx hb dX10_test_92 (lv_at hl 0 rfl)) ?_
          refine jJ_of (fun H locs => W.lcmp hx hb dX10_test_94) ?_
          refine jJ_of2 (fun H locs => jl_if_ge (tgt := 102) hx hb dX10_test_95 (by decide) (by omega) (by omega) (by omega) (by omega)) (fun c95 => ?_) (fun c95 => ?_)
          · refine jJ_of (fun H locs => lv_iconst (v := (nI 0)) hx hb dX10_test_102 (by decide)) ?_
            refine jJ_of (fun H locs => lv_goto (tgt := 160) hx hb dX10_test_103 (by decide)) ?_
            refine jJ_ofL (fun H locs => lv_istore (lv' := [(6, .int (nI 0)), (4, .long (lI xv3)), (3, .int (nI (kW ((tk 0).getD aa1 0) ((tk 2).getD aa1 0)))), (1, .long (lI xv1)), (0, .ref (Z 0))]) hx hb dX10_test_160 hl (by decide) rfl) (fun ls hl => ?_)
            refine jJ_of (fun H locs => lv_iload hx hb dX10_test_162 (lv_at hl 0 rfl)) ?_
            refine jJ_of2 (fun H locs => jn_if_eq (tgt := 173) hx hb dX10_test_164 (by decide) (by omega)) (fun c164 => ?_) (fun c164 => ?_)
            · refine jJ_of (fun H locs => jn_lconst (v := 0) hx hb dX10_test_173 rfl) ?_
              have heq : (qTes tk N r a).2 = aa3 := by exact (congrArg Prod.snd hok3).trans haa3
              have he : xTes tk N vs r a = (0, (0 : Int)) := by rw [hx1, hxe3, xThen_0, show (tk 0).getD aa1 0 = 315 by omega]; exact xop2_ok (by omega) (vTwo_f (by decide) (by rw [vH_315]; exact decide_eq_false (by omega))) (by decide)
              exact jJ_toX (jJ_lret hx hb hr hlocks dX10_test_174 (by show _ ≤ 0; omega) (by show _ ≤ 0; omega) ⟨by rw [he], by rw [he], by rw [heq]; rfl, rfl, rfl⟩)
            · exfalso; omega
          · refine jJ_of (fun H locs => lv_iconst (v := (nI 1)) hx hb dX10_test_98 (by decide)) ?_
            refine jJ_of (fun H locs => lv_goto (tgt := 160) hx hb dX10_test_99 (by decide)) ?_
            refine jJ_ofL (fun H locs => lv_istore (lv' := [(6, .int (nI 1)), (4, .long (lI xv3)), (3, .int (nI (kW ((tk 0).getD aa1 0) ((tk 2).getD aa1 0)))), (1, .long (lI xv1)), (0, .ref (Z 0))]) hx hb dX10_test_160 hl (by decide) rfl) (fun ls hl => ?_)
            refine jJ_of (fun H locs => lv_iload hx hb dX10_test_162 (lv_at hl 0 rfl)) ?_
            refine jJ_of2 (fun H locs => jn_if_eq (tgt := 173) hx hb dX10_test_164 (by decide) (by omega)) (fun c164 => ?_) (fun c164 => ?_)
            · exfalso; omega
            · refine jJ_of (fun H locs => lv_ldc2 (v := (lI 1000)) hx hb hown (by rw [show (lI 1000) = (1000 : Int64) from by decide]; exact (hts (.constantLong RX10 265 (1000)) (by decide +kernel))) dX10_test_167) ?_
              refine jJ_of (fun H locs => lv_goto (tgt := 174) hx hb dX10_test_170 (by decide)) ?_
              have heq : (qTes tk N r a).2 = aa3 := by exact (congrArg Prod.snd hok3).trans haa3
              have he : xTes tk N vs r a = (0, (1000 : Int)) := by rw [hx1, hxe3, xThen_0, show (tk 0).getD aa1 0 = 315 by omega]; exact xop2_ok (by omega) (vTwo_t (by decide) (by rw [vH_315]; exact decide_eq_true (by omega))) (by decide)
              exact jJ_toX (jJ_lret hx hb hr hlocks dX10_test_174 (by show _ ≤ 0; omega) (by show _ ≤ 0; omega) ⟨by rw [he], by rw [he], by rw [heq]; rfl, rfl, rfl⟩)
      · refine jJ_of (fun H locs => lv_lload_n hx hb dX10_test_70 rfl (lv_at hl 2 rfl)) ?_
        refine jJ_of (fun H locs => lv_lload hx hb dX10_test_71 (lv_at hl 0 rfl)) ?_
        refine jJ_of (fun H locs => W.lcmp hx hb dX10_test_73) ?_
        refine jJ_of2 (fun H locs => jl_if_eq (tgt := 81) hx hb dX10_test_74 (by decide) (by omega) (by omega) (by omega) (by omega)) (fun c74 => ?_) (fun c74 => ?_)
        · refine jJ_of (fun H locs => lv_iconst (v := (nI 0)) hx hb dX10_test_81 (by decide)) ?_
          refine jJ_of (fun H locs => lv_goto (tgt := 160) hx hb dX10_test_82 (by decide)) ?_
          refine jJ_ofL (fun H locs => lv_istore (lv' := [(6, .int (nI 0)), (4, .long (lI xv3)), (3, .int (nI (kW ((tk 0).getD aa1 0) ((tk 2).getD aa1 0)))), (1, .long (lI xv1)), (0, .ref (Z 0))]) hx hb dX10_test_160 hl (by decide) rfl) (fun ls hl => ?_)
          refine jJ_of (fun H locs => lv_iload hx hb dX10_test_162 (lv_at hl 0 rfl)) ?_
          refine jJ_of2 (fun H locs => jn_if_eq (tgt := 173) hx hb dX10_test_164 (by decide) (by omega)) (fun c164 => ?_) (fun c164 => ?_)
          · refine jJ_of (fun H locs => jn_lconst (v := 0) hx hb dX10_test_173 rfl) ?_
            have heq : (qTes tk N r a).2 = aa3 := by exact (congrArg Prod.snd hok3).trans haa3
            have he : xTes tk N vs r a = (0, (0 : Int)) := by rw [hx1, hxe3, xThen_0, show (tk 0).getD aa1 0 = 314 by omega]; exact xop2_ok (by omega) (vTwo_f (by decide) (by rw [vH_314]; exact decide_eq_false (by omega))) (by decide)
            exact jJ_toX (jJ_lret hx hb hr hlocks dX10_test_174 (by show _ ≤ 0; omega) (by show _ ≤ 0; omega) ⟨by rw [he], by rw [he], by rw [heq]; rfl, rfl, rfl⟩)
          · exfalso; omega
        · refine jJ_of (fun H locs => lv_iconst (v := (nI 1)) hx hb dX10_test_77 (by decide)) ?_
          refine jJ_of (fun H locs => lv_goto (tgt := 160) hx hb dX10_test_78 (by decide)) ?_
          refine jJ_ofL (fun H locs => lv_istore (lv' := [(6, .int (nI 1)), (4, .long (lI xv3)), (3, .int (nI (kW ((tk 0).getD aa1 0) ((tk 2).getD aa1 0)))), (1, .long (lI xv1)), (0, .ref (Z 0))]) hx hb dX10_test_160 hl (by decide) rfl) (fun ls hl => ?_)
          refine jJ_of (fun H locs => lv_iload hx hb dX10_test_162 (lv_at hl 0 rfl)) ?_
          refine jJ_of2 (fun H locs => jn_if_eq (tgt := 173) hx hb dX10_test_164 (by decide) (by omega)) (fun c164 => ?_) (fun c164 => ?_)
          · exfalso; omega
          · refine jJ_of (fun H locs => lv_ldc2 (v := (lI 1000)) hx hb hown (by rw [show (lI 1000) = (1000 : Int64) from by decide]; exact (hts (.constantLong RX10 265 (1000)) (by decide +kernel))) dX10_test_167) ?_
            refine jJ_of (fun H locs => lv_goto (tgt := 174) hx hb dX10_test_170 (by decide)) ?_
            have heq : (qTes tk N r a).2 = aa3 := by exact (congrArg Prod.snd hok3).trans haa3
            have he : xTes tk N vs r a = (0, (1000 : Int)) := by rw [hx1, hxe3, xThen_0, show (tk 0).getD aa1 0 = 314 by omega]; exact xop2_ok (by omega) (vTwo_t (by decide) (by rw [vH_314]; exact decide_eq_true (by omega))) (by decide)
            exact jJ_toX (jJ_lret hx hb hr hlocks dX10_test_174 (by show _ ≤ 0; omega) (by show _ ≤ 0; omega) ⟨by rw [he], by rw [he], by rw [heq]; rfl, rfl, rfl⟩)
    · refine jJ_of (fun H locs => lv_lload_n hx hb dX10_test_49 rfl (lv_at hl 2 rfl)) ?_
      refine jJ_of (fun H locs => lv_lload hx hb dX10_test_50 (lv_at hl 0 rfl)) ?_
      refine jJ_of (fun H locs => W.lcmp hx hb dX10_test_52) ?_
      refine jJ_of2 (fun H locs => jl_if_ne (tgt := 60) hx hb dX10_test_53 (by decide) (by omega) (by omega) (by omega) (by omega)) (fun c53 => ?_) (fun c53 => ?_)
      · refine jJ_of (fun H locs => lv_iconst (v := (nI 0)) hx hb dX10_test_60 (by decide)) ?_
        refine jJ_of (fun H locs => lv_goto (tgt := 160) hx hb dX10_test_61 (by decide)) ?_
        refine jJ_ofL (fun H locs => lv_istore (lv' := [(6, .int (nI 0)), (4, .long (lI xv3)), (3, .int (nI (kW ((tk 0).getD aa1 0) ((tk 2).getD aa1 0)))), (1, .long (lI xv1)), (0, .ref (Z 0))]) hx hb dX10_test_160 hl (by decide) rfl) (fun ls hl => ?_)
        refine jJ_of (fun H locs => lv_iload hx hb dX10_test_162 (lv_at hl 0 rfl)) ?_
        refine jJ_of2 (fun H locs => jn_if_eq (tgt := 173) hx hb dX10_test_164 (by decide) (by omega)) (fun c164 => ?_) (fun c164 => ?_)
        · refine jJ_of (fun H locs => jn_lconst (v := 0) hx hb dX10_test_173 rfl) ?_
          have heq : (qTes tk N r a).2 = aa3 := by exact (congrArg Prod.snd hok3).trans haa3
          have he : xTes tk N vs r a = (0, (0 : Int)) := by rw [hx1, hxe3, xThen_0, show (tk 0).getD aa1 0 = 313 by omega]; exact xop2_ok (by omega) (vTwo_f (by decide) (by rw [vH_313]; exact decide_eq_false (by omega))) (by decide)
          exact jJ_toX (jJ_lret hx hb hr hlocks dX10_test_174 (by show _ ≤ 0; omega) (by show _ ≤ 0; omega) ⟨by rw [he], by rw [he], by rw [heq]; rfl, rfl, rfl⟩)
        · exfalso; omega
      · refine jJ_of (fun H locs => lv_iconst (v := (nI 1)) hx hb dX10_test_56 (by decide)) ?_
        refine jJ_of (fun H locs => lv_goto (tgt := 160) hx hb dX10_test_57 (by decide)) ?_
        refine jJ_ofL (fun H locs => lv_istore (lv' := [(6, .int (nI 1)), (4, .long (lI xv3)), (3, .int (nI (kW ((tk 0).getD aa1 0) ((tk 2).getD aa1 0)))), (1, .long (lI xv1)), (0, .ref (Z 0))]) hx hb dX10_test_160 hl (by decide) rfl) (fun ls hl => ?_)
        refine jJ_of (fun H locs => lv_iload hx hb dX10_test_162 (lv_at hl 0 rfl)) ?_
        refine jJ_of2 (fun H locs => jn_if_eq (tgt := 173) hx hb dX10_test_164 (by decide) (by omega)) (fun c164 => ?_) (fun c164 => ?_)
        · exfalso; omega
        · refine jJ_of (fun H locs => lv_ldc2 (v := (lI 1000)) hx hb hown (by rw [show (lI 1000) = (1000 : Int64) from by decide]; exact (hts (.constantLong RX10 265 (1000)) (by decide +kernel))) dX10_test_167) ?_
          refine jJ_of (fun H locs => lv_goto (tgt := 174) hx hb dX10_test_170 (by decide)) ?_
          have heq : (qTes tk N r a).2 = aa3 := by exact (congrArg Prod.snd hok3).trans haa3
          have he : xTes tk N vs r a = (0, (1000 : Int)) := by rw [hx1, hxe3, xThen_0, show (tk 0).getD aa1 0 = 313 by omega]; exact xop2_ok (by omega) (vTwo_t (by decide) (by rw [vH_313]; exact decide_eq_true (by omega))) (by decide)
          exact jJ_toX (jJ_lret hx hb hr hlocks dX10_test_174 (by show _ ≤ 0; omega) (by show _ ≤ 0; omega) ⟨by rw [he], by rw [he], by rw [heq]; rfl, rfl, rfl⟩)
  · simp only [decide_eq_true_eq, decide_eq_false_iff_not] at c9
    rw [if_neg c9] at hok3 hx1
    refine jJ_of (fun H locs => lv_lload_n hx hb dX10_test_12 rfl (lv_at hl 0 rfl)) ?_
    refine jJ_perm [0, 4, 1, 2, 3, 5] (nn := 6) rfl (by decide) (cs2 := [[(Z 0, .inr (8, [E 0, E 1, E 2, .ref (Z 1), .int (nI aa1), E 5, E 6, E 7, E 8, .ref (Z 2), E 10, E 11, E 12, E 13, E 14, .ref (Z 7), .int (nI al), E 17, E 18]))], [(Z 2, .inr (0, []))], [(Z 1, .inr (7, [X 0, X 1, .ref (Z 3), X 3, .ref (Z 5), X 5, X 6, X 7, X 8, X 9, X 10, X 11, X 12]))], [(Z 3, .inl (cB, 32008, .inl (V 0)))], [(Z 5, .inl (cI, 32008, .inl (V 2)))], [(Z 7, .inl (cJ, 200, .inr (.inl vv)))]]) rfl ?_
    have heq : (qTes tk N r a).2 = aa1 := by exact congrArg Prod.snd hok3
    have he : xTes tk N vs r a = (0, (xv1 : Int)) := by exact hx1
    exact jJ_toX (jJ_lret hx hb hr hlocks dX10_test_13 (by show _ ≤ 0; omega) (by show _ ≤ 0; omega) ⟨by rw [he], by rw [he], by rw [heq]; rfl, rfl, rfl⟩)

def cEvL (D : va_G) (G : Nat → Nat) (cI cJ cB cZ : ClassId) (l : Launch) (y : MethodName) (ws : List Cond) (fr lo : Nat) (Z : Nat → Nat) (E X : Nat → Value) (V : Nat → Nat → Int32) (vv : Nat → Int64) (tk : Nat → List Nat) (q : Nat → Bool × Nat) (x : Nat → Nat × Int) : Prop := cEv D G cI cJ cB cZ l y ws fr lo Z E X V vv tk (fun z => .long (lI z)) q x
/-- the whole group, by the depth that is left -/
theorem w_Md_val {Z : Nat → Nat} {E X : Nat → Value} {V : Nat → Nat → Int32} {vv : Nat → Int64} {tk : Nat → List Nat} {vs : Nat → Int} (hT : tV tk V) (hE : tE tk) (hvv : ∀ i, i < 200 → vv i = lI (vs i)) (hvs : ∀ i, i < 200 → vOK (vs i)) {N : Nat} (hN : (tk 0).length ≤ N) : ∀ r : Nat, cEvL D G cI cJ cB cZ l yX10_factor wsX10_factor (8 * r + 9) (320 * r + 400) Z E X V vv tk (qFac tk N r) (xFac tk N vs r) ∧ cEvL D G cI cJ cB cZ l yX10_bracketed wsX10_bracketed (8 * r + 6) (320 * r + 280) Z E X V vv tk (qBra tk N r) (xBra tk N vs r)
  | 0 => by
    have hB : cEvL D G cI cJ cB cZ l yX10_bracketed wsX10_bracketed (8 * 0 + 6) (320 * 0 + 280) Z E X V vv tk (qBra tk N 0) (xBra tk N vs 0) := fun a al ha hok => c_Md_bracketed hT hE hvv hvs ha hok (fun r2 h => absurd h (Nat.succ_ne_zero r2).symm)
    have hV : cEv9 D G cI cJ cB cZ l (8 * 0 + 7) (320 * 0 + 320) Z E X V vv tk (qVa tk N 0) (xVa tk N vs 0) := fun a al ha hok h35 => c_Md_variableAt hT hE hvv hvs ha hok h35 hB
    have hI : cEvL D G cI cJ cB cZ l yX10_item wsX10_item (8 * 0 + 8) (320 * 0 + 360) Z E X V vv tk (qItm tk N 0) (xIt tk N vs 0) := fun a al ha hok => c_Md_item hT hE hvv hvs ha hok hB hV
    exact ⟨fun a al ha hok => c_Md_factor hT hE hvv hvs ha hok hB hI (fun r2 h => absurd h (Nat.succ_ne_zero r2).symm), hB⟩
  | r + 1 => by
    have hF : cEvL D G cI cJ cB cZ l yX10_factor wsX10_factor (8 * r + 9) (320 * r + 400) Z E X V vv tk (qFac tk N r) (xFac tk N vs r) := (w_Md_val hT hE hvv hvs hN r).1
    have hP : cEvL D G cI cJ cB cZ l yX10_product wsX10_product (8 * r + 10) (320 * r + 440) Z E X V vv tk (qSeq tk N jnF (qFac tk N r)) (xPro tk N vs r) := fun a al ha hok => c_Md_product hT hE hvv hvs ha hok hN hF
    have hS : cEvL D G cI cJ cB cZ l yX10_sum wsX10_sum (8 * r + 11) (320 * r + 480) Z E X V vv tk (qSum tk N r) (xSum tk N vs r) := fun a al ha hok => c_Md_sum hT hE hvv hvs ha hok hN hP
    have hTe : cEvL D G cI cJ cB cZ l yX10_test wsX10_test (8 * r + 12) (320 * r + 520) Z E X V vv tk (qTes tk N r) (xTes tk N vs r) := fun a al ha hok => c_Md_test hT hE hvv hvs ha hok hS
    have hB : cEvL D G cI cJ cB cZ l yX10_bracketed wsX10_bracketed (8 * (r + 1) + 6) (320 * (r + 1) + 280) Z E X V vv tk (qBra tk N (r + 1)) (xBra tk N vs (r + 1)) := fun a al ha hok => c_Md_bracketed hT hE hvv hvs ha hok (fun r2 h => by obtain rfl : r = r2 := (by omega); exact hTe)
    have hV : cEv9 D G cI cJ cB cZ l (8 * (r + 1) + 7) (320 * (r + 1) + 320) Z E X V vv tk (qVa tk N (r + 1)) (xVa tk N vs (r + 1)) := fun a al ha hok h35 => c_Md_variableAt hT hE hvv hvs ha hok h35 hB
    have hI : cEvL D G cI cJ cB cZ l yX10_item wsX10_item (8 * (r + 1) + 8) (320 * (r + 1) + 360) Z E X V vv tk (qItm tk N (r + 1)) (xIt tk N vs (r + 1)) := fun a al ha hok => c_Md_item hT hE hvv hvs ha hok hB hV
    exact ⟨fun a al ha hok => c_Md_factor hT hE hvv hvs ha hok hB hI (fun r2 h => by obtain rfl : r = r2 := (by omega); exact hF), hB⟩
theorem w_Md_esum {Z : Nat → Nat} {E X : Nat → Value} {V : Nat → Nat → Int32} {vv : Nat → Int64} {tk : Nat → List Nat} {vs : Nat → Int} (hT : tV tk V) (hE : tE tk) (hvv : ∀ i, i < 200 → vv i = lI (vs i)) (hvs : ∀ i, i < 200 → vOK (vs i)) {N : Nat} (hN : (tk 0).length ≤ N) (r : Nat) : cEvL D G cI cJ cB cZ l yX10_sum wsX10_sum (8 * r + 11) (320 * r + 480) Z E X V vv tk (qSum tk N r) (xSum tk N vs r) :=
  fun a al ha hok => c_Md_sum hT hE hvv hvs ha hok hN (fun a al ha hok => c_Md_product hT hE hvv hvs ha hok hN (w_Md_val hT hE hvv hvs hN r).1)
theorem w_Md_eplace {Z : Nat → Nat} {E X : Nat → Value} {V : Nat → Nat → Int32} {vv : Nat → Int64} {tk : Nat → List Nat} {vs : Nat → Int} (hT : tV tk V) (hE : tE tk) (hvv : ∀ i, i < 200 → vv i = lI (vs i)) (hvs : ∀ i, i < 200 → vOK (vs i)) {N : Nat} (hN : (tk 0).length ≤ N) (r : Nat) : cEv9 D G cI cJ cB cZ l (8 * r + 7) (320 * r + 320) Z E X V vv tk (qVa tk N r) (xVa tk N vs r) :=
  fun a al ha hok h35 => c_Md_variableAt hT hE hvv hvs ha hok h35 (w_Md_val hT hE hvv hvs hN r).2

end MV
