/-! ValueBlocksModel: what stands in its token arrays (V 0 kinds, V 1 places, V 2 worths, V 3 wholes) for tokens tk; the grammar without code -/
def lsV (l : List Value) (i : Nat) : Value := l.getD i .null
def kC (c : Nat) : Nat := if c = 10 then 0 else if c = 256 ∨ c = 257 then 1 else if 65 ≤ c ∧ c ≤ 90 then 2 else if 300 ≤ c then 3 else if c = 0 then 5 else 4
def kW (c w : Nat) : Nat := if c = 256 ∨ c = 257 then w else if 300 ≤ c then c - 300 else if c = 10 then 0 else c
theorem kC_le (c : Nat) : kC c ≤ 5 := by unfold kC; (repeat' split) <;> omega
theorem kW_le {c w : Nat} (h1 : c < 1000) (h2 : w < 1000000000) : kW c w < 1000000000 := by unfold kW; (repeat' split) <;> omega
theorem kC0 {c : Nat} : kC c = 0 ↔ c = 10 := by unfold kC; (repeat' split) <;> omega
theorem kC1 {c : Nat} : kC c = 1 ↔ c = 256 ∨ c = 257 := by unfold kC; (repeat' split) <;> omega
theorem kC2 {c x w : Nat} (h1 : 65 ≤ x) (h2 : x ≤ 90) : (kC c = 2 ∧ kW c w = x) ↔ c = x := by unfold kC kW; (repeat' split) <;> omega
theorem kC3 {c x w : Nat} : (kC c = 3 ∧ kW c w = x) ↔ c = 300 + x := by unfold kC kW; (repeat' split) <;> omega
theorem kC4 {c x w : Nat} (h : x = 35 ∨ x = 61 ∨ x = 91 ∨ x = 93 ∨ x = 43 ∨ x = 45 ∨ x = 42 ∨ x = 47) : (kC c = 4 ∧ kW c w = x) ↔ c = x := by unfold kC kW; (repeat' split) <;> omega
theorem kC3w {c w : Nat} : (kC c = 3 ↔ 300 ≤ c) ∧ (300 ≤ c → kW c w = c - 300) := by unfold kC kW; (repeat' split) <;> omega
def tV (tk : Nat → List Nat) (V : Nat → Nat → Int32) : Prop := (tk 0).length ≤ 32008 ∧ (∀ i, i < (tk 0).length → V 0 i = nI (kC ((tk 0).getD i 0)) ∧ V 1 i = nI ((tk 1).getD i 0) ∧ V 2 i = nI (kW ((tk 0).getD i 0) ((tk 2).getD i 0)) ∧ V 3 i = bI (decide ((tk 0).getD i 0 = 256))) ∧ (∀ i, (tk 0).getD i 0 < 1000 ∧ (tk 1).getD i 0 < 1000000000 ∧ (tk 2).getD i 0 < 1000000000)
/-- behind the last token but one there is none, or a line's end -/
def tE (tk : Nat → List Nat) : Prop := ∀ i, (tk 0).length ≤ i + 1 → (tk 0).getD i 0 = 0 ∨ (tk 0).getD i 0 = 10
theorem tE.lt {tk : Nat → List Nat} (h : tE tk) {a : Nat} (h0 : ¬ (tk 0).getD a 0 = 0) (h1 : ¬ (tk 0).getD a 0 = 10) : a + 2 ≤ (tk 0).length := by
  rcases Nat.lt_or_ge (a + 1) (tk 0).length with q | q
  · exact q
  · rcases h a q with e | e
    · exact absurd e h0
    · exact absurd e h1
def qThen (x : Bool × Nat) (f : Nat → Bool × Nat) : Bool × Nat := if x.1 = true then f x.2 else x
theorem qThen_t (a : Nat) (f : Nat → Bool × Nat) : qThen (true, a) f = f a := rfl
theorem qThen_f (a : Nat) (f : Nat → Bool × Nat) : qThen (false, a) f = (false, a) := rfl
def qTake (tk : Nat → List Nat) (k a : Nat) : Bool × Nat := if (tk 0).getD a 0 = k then (true, a + 1) else (false, a)
def qLoop (tk : Nat → List Nat) (jn : Nat → Bool) (part : Nat → Bool × Nat) : Nat → Nat → Bool × Nat
  | 0 => fun a => (true, a)
  | f + 1 => fun a => if jn ((tk 0).getD a 0) = true then qThen (part (a + 1)) (qLoop tk jn part f) else (true, a)
def qSeq (tk : Nat → List Nat) (N : Nat) (jn : Nat → Bool) (part : Nat → Bool × Nat) (a : Nat) : Bool × Nat := qThen (part a) (qLoop tk jn part N)
def qPl (tk : Nat → List Nat) (br : Nat → Bool × Nat) (a : Nat) : Bool × Nat := if (tk 0).getD a 0 = 256 then (true, a + 1) else br a
def qBr (tk : Nat → List Nat) (te : Nat → Bool × Nat) (a : Nat) : Bool × Nat := qThen (qThen (qTake tk 91 a) te) (qTake tk 93)
def qTe (tk : Nat → List Nat) (su : Nat → Bool × Nat) (a : Nat) : Bool × Nat := qThen (su a) (fun a => if 313 ≤ (tk 0).getD a 0 ∧ (tk 0).getD a 0 ≤ 318 then su (a + 1) else (true, a))
def qFw (tk : Nat → List Nat) (ng br : Nat → Bool × Nat) (a : Nat) : Bool × Nat :=
  if (tk 0).getD a 0 = 45 then ng a
  else if (tk 0).getD a 0 = 305 ∨ (tk 0).getD a 0 = 306 ∨ (tk 0).getD a 0 = 307 ∨ (tk 0).getD a 0 = 308 then br (a + 1)
  else if (tk 0).getD a 0 = 35 then qPl tk br (a + 1)
  else if (tk 0).getD a 0 = 256 ∨ (tk 0).getD a 0 = 257 then (true, a + 1)
  else br a
def qNo (a : Nat) : Bool × Nat := (false, a)
def qFac (tk : Nat → List Nat) (N : Nat) : Nat → Nat → Bool × Nat
  | 0 => qFw tk qNo qNo
  | r + 1 => qFw tk (fun a => qFac tk N r (a + 1)) (qBr tk (qTe tk (qSeq tk N jnP (qSeq tk N jnF (qFac tk N r)))))
def qSum (tk : Nat → List Nat) (N r : Nat) : Nat → Bool × Nat := qSeq tk N jnP (qSeq tk N jnF (qFac tk N r))
def qTes (tk : Nat → List Nat) (N r : Nat) : Nat → Bool × Nat := qTe tk (qSum tk N r)
def qBra (tk : Nat → List Nat) (N : Nat) : Nat → Nat → Bool × Nat
  | 0 => qNo
  | r + 1 => qBr tk (qTes tk N r)
def qNeg (tk : Nat → List Nat) (N : Nat) : Nat → Nat → Bool × Nat
  | 0 => qNo
  | r + 1 => fun a => qFac tk N r (a + 1)
theorem qFac_eq (tk : Nat → List Nat) (N r a : Nat) : qFac tk N r a = qFw tk (qNeg tk N r) (qBra tk N r) a := by
  cases r <;> rfl
/-- a part goes on, and stays ahead of the end -/
def qB (tk : Nat → List Nat) (f : Nat → Bool × Nat) : Prop := ∀ a, a + 1 ≤ (tk 0).length → a ≤ (f a).2 ∧ (f a).2 + 1 ≤ (tk 0).length
theorem qb_then {tk : Nat → List Nat} {x : Bool × Nat} {a : Nat} (h : a ≤ x.2 ∧ x.2 + 1 ≤ (tk 0).length) {f : Nat → Bool × Nat} (hf : qB tk f) : a ≤ (qThen x f).2 ∧ (qThen x f).2 + 1 ≤ (tk 0).length := by
  obtain ⟨b, i⟩ := x
  dsimp only at h
  cases b with
  | false => exact h
  | true =>
    have := hf i h.2
    show a ≤ (f i).2 ∧ (f i).2 + 1 ≤ _
    omega
theorem qb_take {tk : Nat → List Nat} (hE : tE tk) {k : Nat} (h0 : ¬ k = 0) (h1 : ¬ k = 10) : qB tk (qTake tk k) := by
  intro a ha
  unfold qTake
  split
  · rename_i q
    have := hE.lt (a := a) (by omega) (by omega)
    exact ⟨by show a ≤ a + 1; omega, by show a + 1 + 1 ≤ _; omega⟩
  · exact ⟨Nat.le_refl a, ha⟩
theorem qb_step {tk : Nat → List Nat} (hE : tE tk) {a : Nat} (h0 : ¬ (tk 0).getD a 0 = 0) (h1 : ¬ (tk 0).getD a 0 = 10) {f : Nat → Bool × Nat} (hf : qB tk f) : a ≤ (f (a + 1)).2 ∧ (f (a + 1)).2 + 1 ≤ (tk 0).length := by
  have h := hE.lt h0 h1
  have := hf (a + 1) (by omega)
  omega
theorem qb_loop {tk : Nat → List Nat} (hE : tE tk) {jn : Nat → Bool} (hn : ∀ c, jn c = true → ¬ c = 0 ∧ ¬ c = 10) {f : Nat → Bool × Nat} (hf : qB tk f) : ∀ n : Nat, qB tk (qLoop tk jn f n)
  | 0 => fun a ha => ⟨Nat.le_refl a, ha⟩
  | n + 1 => fun a ha => by
    show a ≤ (if _ then _ else _ : Bool × Nat).2 ∧ (if _ then _ else _ : Bool × Nat).2 + 1 ≤ _
    split
    · rename_i q
      exact qb_then (qb_step hE (hn _ q).1 (hn _ q).2 hf) (qb_loop hE hn hf n)
    · exact ⟨Nat.le_refl a, ha⟩
theorem qb_seq {tk : Nat → List Nat} (hE : tE tk) {jn : Nat → Bool} (hn : ∀ c, jn c = true → ¬ c = 0 ∧ ¬ c = 10) {f : Nat → Bool × Nat} (hf : qB tk f) (n : Nat) : qB tk (qSeq tk n jn f) := fun a ha => qb_then (hf a ha) (qb_loop hE hn hf n)
theorem qb_te {tk : Nat → List Nat} (hE : tE tk) {f : Nat → Bool × Nat} (hf : qB tk f) : qB tk (qTe tk f) := by
  intro a ha
  refine qb_then (hf a ha) (fun a ha => ?_)
  show a ≤ (if _ then _ else _ : Bool × Nat).2 ∧ (if _ then _ else _ : Bool × Nat).2 + 1 ≤ _
  split
  · exact qb_step hE (by omega) (by omega) hf
  · exact ⟨Nat.le_refl a, ha⟩
theorem qb_br {tk : Nat → List Nat} (hE : tE tk) {f : Nat → Bool × Nat} (hf : qB tk f) : qB tk (qBr tk f) := fun a ha => qb_then (qb_then (qb_take hE (by decide) (by decide) a ha) hf) (qb_take hE (by decide) (by decide))
theorem qb_pl {tk : Nat → List Nat} (hE : tE tk) {f : Nat → Bool × Nat} (hf : qB tk f) : qB tk (qPl tk f) := by
  intro a ha
  unfold qPl
  split
  · have := hE.lt (a := a) (by omega) (by omega)
    exact ⟨by show a ≤ a + 1; omega, by show a + 1 + 1 ≤ _; omega⟩
  · exact hf a ha
theorem qb_no (tk : Nat → List Nat) : qB tk qNo := fun a ha => ⟨Nat.le_refl a, ha⟩
theorem qb_fw {tk : Nat → List Nat} (hE : tE tk) {ng br : Nat → Bool × Nat} (hn : ∀ a, (tk 0).getD a 0 = 45 → a ≤ (ng a).2 ∧ (ng a).2 + 1 ≤ (tk 0).length) (hb : qB tk br) : qB tk (qFw tk ng br) := by
  intro a ha
  unfold qFw
  split
  · rename_i q; exact hn a q
  · split
    · exact qb_step hE (by omega) (by omega) hb
    · split
      · exact qb_step hE (by omega) (by omega) (qb_pl hE hb)
      · split
        · have := hE.lt (a := a) (by omega) (by omega)
          exact ⟨by show a ≤ a + 1; omega, by show a + 1 + 1 ≤ _; omega⟩
        · exact hb a ha
theorem jnP_x {c : Nat} (h : jnP c = true) : ¬ c = 0 ∧ ¬ c = 10 := ⟨jnP_nz h, jnP_10 h⟩
theorem jnF_x {c : Nat} (h : jnF c = true) : ¬ c = 0 ∧ ¬ c = 10 := ⟨jnF_nz h, jnF_10 h⟩
theorem qb_fac {tk : Nat → List Nat} (hE : tE tk) (N : Nat) : ∀ r : Nat, qB tk (qFac tk N r)
  | 0 => qb_fw hE (fun a q => by
      have := hE.lt (a := a) (by omega) (by omega)
      exact ⟨Nat.le_refl a, by show a + 1 ≤ _; omega⟩) (qb_no tk)
  | r + 1 => qb_fw hE (fun a q => qb_step hE (by omega) (by omega) (qb_fac hE N r)) (qb_br hE (qb_te hE (qb_seq hE (fun _ => jnP_x) (qb_seq hE (fun _ => jnF_x) (qb_fac hE N r) N) N)))
theorem qb_bra {tk : Nat → List Nat} (hE : tE tk) (N : Nat) : ∀ r : Nat, qB tk (qBra tk N r)
  | 0 => qb_no tk
  | r + 1 => qb_br hE (qb_te hE (qb_seq hE (fun _ => jnP_x) (qb_seq hE (fun _ => jnF_x) (qb_fac hE N r) N) N))
theorem qb_sum {tk : Nat → List Nat} (hE : tE tk) (N r : Nat) : qB tk (qSum tk N r) := qb_seq hE (fun _ => jnP_x) (qb_seq hE (fun _ => jnF_x) (qb_fac hE N r) N) N
/-- worlds: of the token at hand (kWd), of the reading (lW) -/
def kWd (cI cB : ClassId) (Z : Nat → Nat) (E X : Nat → Value) (V : Nat → Nat → Int32) (a : Nat) : List va_W :=
  [[(Z 0, .inr (8, [E 0, E 1, E 2, .ref (Z 1), .int (nI a), E 5, E 6, E 7, E 8, E 9, E 10, E 11, E 12, E 13, E 14, E 15, E 16, E 17, E 18]))], [(Z 1, .inr (7, [X 0, X 1, .ref (Z 3), X 3, .ref (Z 5), X 5, X 6, X 7, X 8, X 9, X 10, X 11, X 12]))], [(Z 3, .inl (cB, 32008, .inl (V 0)))], [(Z 5, .inl (cI, 32008, .inl (V 2)))]]
def lW (cI cB cZ : ClassId) (Z : Nat → Nat) (E X : Nat → Value) (V : Nat → Nat → Int32) (a d : Nat) (fp : Int32) : List va_W :=
  [[(Z 0, .inr (8, [E 0, E 1, E 2, .ref (Z 1), .int (nI a), .int (nI d), E 6, E 7, E 8, .ref (Z 2), .int fp, E 11, E 12, E 13, E 14, E 15, E 16, E 17, E 18]))], [(Z 1, .inr (7, [X 0, X 1, .ref (Z 3), .ref (Z 4), .ref (Z 5), .ref (Z 6), X 6, X 7, X 8, X 9, X 10, X 11, X 12]))], [(Z 3, .inl (cB, 32008, .inl (V 0)))], [(Z 4, .inl (cI, 32008, .inl (V 1)))], [(Z 5, .inl (cI, 32008, .inl (V 2)))], [(Z 6, .inl (cZ, 32008, .inl (V 3)))], [(Z 2, .inr (0, []))]]
section MD
variable {D : va_G} {G : Nat → Nat} {cI cJ cB cZ : ClassId} {l : Launch}
/-- the contract of a part that reads tokens: it goes on as f says, or throws at the token at fault -/
def cLk (D : va_G) (G : Nat → Nat) (cI cJ cB cZ : ClassId) (l : Launch) (y : MethodName) (ws : List Cond) (fr lo : Nat) (Z : Nat → Nat) (E X : Nat → Value) (V : Nat → Nat → Int32) (tk : Nat → List Nat) (d : Nat) (f : Nat → Bool × Nat) : Prop :=
  ∀ (a : Nat) (fp : Int32), a + 1 ≤ (tk 0).length → HX l y ws ({ frames := fr, cells := 0, slots := 0, locals := lo } : Room) D G (jT cI cJ cB cZ) [.ref (Z 0)] (jF (lW cI cB cZ Z E X V a d fp)) (fun v u k n => (f a).1 = true ∧ v = none ∧ u = jF (lW cI cB cZ Z E X V (f a).2 d fp) ∧ k = 0 ∧ n = 0) (fun u k n => (f a).1 = false ∧ (∃ a2 d2 : Nat, u = jF (lW cI cB cZ Z E X V a2 d2 (nI ((tk 1).getD (f a).2 0)))) ∧ k = 0 ∧ n = 0)

theorem uX10_in_X10_kind : ∀ w ∈ u_ws RX10 TX10 19, w ∈ wsX10_kind := by decide +kernel
theorem uX9_in_X10_kind : ∀ w ∈ u_ws RX9 TX9 13, w ∈ wsX10_kind := by decide +kernel
set_option maxHeartbeats 4000000 in
set_option maxRecDepth 100000 in
/-- kind() -/
theorem c_Md_kind {Z : Nat → Nat} {E X : Nat → Value} {V : Nat → Nat → Int32} {tk : Nat → List Nat} {a : Nat} (hT : tV tk V) (ha : a + 1 ≤ (tk 0).length) : HM l yX10_kind wsX10_kind ({ frames := 0, cells := 0, slots := 0, locals := 0 } : Room) D G (jT cI cJ cB cZ) [.ref (Z 0)] (jF (kWd cI cB Z E X V a)) (fun v u k n => v = some (.int (nI (kC ((tk 0).getD a 0)))) ∧ u = jF (kWd cI cB Z E X V a) ∧ k = 0 ∧ n = 0) := by
  have hL9 := hT.1
  obtain ⟨hV0, hV1, hV2, hV3⟩ := hT.2.1 a (by omega)
  obtain ⟨hB0, hB1, hB2⟩ := hT.2.2 a
  have hkc := kC_le ((tk 0).getD a 0)
  have hkw := kW_le hB0 hB2
  refine HM_of (cc := cX10_kind) (maxL := 1) (ret := (some .int)) (lv := [(0, .ref (Z 0))]) (by decide) rfl rfl (Nat.le_of_ble_eq_true rfl) (fun p e s m args below meth c A0 ls hx hb hr hts hown hlocks hml hnm hK hA hAm hl => ?_)
  refine jJ_open (xs := [[(Z 0, .inr (8, [E 0, E 1, E 2, .ref (Z 1), .int (nI a), E 5, E 6, E 7, E 8, E 9, E 10, E 11, E 12, E 13, E 14, E 15, E 16, E 17, E 18]))], [(Z 1, .inr (7, [X 0, X 1, .ref (Z 3), X 3, .ref (Z 5), X 5, X 6, X 7, X 8, X 9, X 10, X 11, X 12]))], [(Z 3, .inl (cB, 32008, .inl (V 0)))], [(Z 5, .inl (cI, 32008, .inl (V 2)))]]) (r := []) (cs2 := [[(Z 0, .inr (8, [E 0, E 1, E 2, .ref (Z 1), .int (nI a), E 5, E 6, E 7, E 8, E 9, E 10, E 11, E 12, E 13, E 14, E 15, E 16, E 17, E 18]))], [(Z 1, .inr (7, [X 0, X 1, .ref (Z 3), X 3, .ref (Z 5), X 5, X 6, X 7, X 8, X 9, X 10, X 11, X 12]))], [(Z 3, .inl (cB, 32008, .inl (V 0)))], [(Z 5, .inl (cI, 32008, .inl (V 2)))]]) rfl ?_
  refine jJ_of (fun H locs => lv_aload_n hx hb dX10_kind_0 rfl (lv_at hl 0 rfl)) ?_
  refine jJ_get hx hb (C := RX10) (T := TX10) (N := 19) hts uX10_in_X10_kind hown hK 0 rfl rfl 3 (by decide) (hts (.fieldLink RX10 53 "ValueBlocksModel" "t" "LValueBlocksModel$Text;") (by decide +kernel)) (fun _ h9 => h9) rfl dX10_kind_1 ?_
  refine jJ_get hx hb (C := RX9) (T := TX9) (N := 13) hts uX9_in_X10_kind hown hK 1 rfl rfl 2 (by decide) (hts (.fieldLink RX10 62 "ValueBlocksModel$Text" "kinds" "[B") (by decide +kernel)) (fun _ h9 => h9) rfl dX10_kind_4 ?_
  refine jJ_of (fun H locs => lv_aload_n hx hb dX10_kind_7 rfl (lv_at hl 0 rfl)) ?_
  refine jJ_get hx hb (C := RX10) (T := TX10) (N := 19) hts uX10_in_X10_kind hown hK 0 rfl rfl 4 (by decide) (hts (.fieldLink RX10 121 "ValueBlocksModel" "at" "I") (by decide +kernel)) (fun _ h9 => h9) rfl dX10_kind_8 ?_
  refine jJ_bald hx hb hK 2 2 (f := V 0) rfl rfl (vp_in_nI (by omega) (by omega)) (x := (nI (kC ((tk 0).getD a 0)))) (by rw [nI_clamp (by omega)]; exact hV0) dX10_kind_11 ?_
  exact jJ_iret hx hb hr hlocks dX10_kind_12 (by show _ ≤ 0; omega) (by show _ ≤ 0; omega) ⟨rfl, rfl, rfl, rfl⟩
theorem uX10_in_X10_isSign : ∀ w ∈ u_ws RX10 TX10 19, w ∈ wsX10_isSign := by decide +kernel
theorem uX9_in_X10_isSign : ∀ w ∈ u_ws RX9 TX9 13, w ∈ wsX10_isSign := by decide +kernel
set_option maxHeartbeats 4000000 in
set_option maxRecDepth 100000 in
/-- X10_isSign -/
theorem c_Md_isSign {Z : Nat → Nat} {E X : Nat → Value} {V : Nat → Nat → Int32} {tk : Nat → List Nat} {a : Nat} (hT : tV tk V) (ha : a + 1 ≤ (tk 0).length) (x : Nat) (hx9 : x = 35 ∨ x = 61 ∨ x = 91 ∨ x = 93 ∨ x = 43 ∨ x = 45 ∨ x = 42 ∨ x = 47) : HM l yX10_isSign wsX10_isSign ({ frames := 1, cells := 0, slots := 0, locals := 40 } : Room) D G (jT cI cJ cB cZ) [.ref (Z 0), .int (nI x)] (jF (kWd cI cB Z E X V a)) (fun v u k n => v = some (.int (bI (decide ((tk 0).getD a 0 = x)))) ∧ u = jF (kWd cI cB Z E X V a) ∧ k = 0 ∧ n = 0) := by
  have hL9 := hT.1
  obtain ⟨hV0, hV1, hV2, hV3⟩ := hT.2.1 a (by omega)
  obtain ⟨hB0, hB1, hB2⟩ := hT.2.2 a
  have hkc := kC_le ((tk 0).getD a 0)
  have hkw := kW_le hB0 hB2
  refine HM_of (cc := cX10_isSign) (maxL := 2) (ret := (some .boolean)) (lv := [(0, .ref (Z 0)), (1, .int (nI x))]) (by decide) rfl rfl (Nat.le_of_ble_eq_true rfl) (fun p e s m args below meth c A0 ls hx hb hr hts hown hlocks hml hnm hK hA hAm hl => ?_)
  refine jJ_open (xs := [[(Z 0, .inr (8, [E 0, E 1, E 2, .ref (Z 1), .int (nI a), E 5, E 6, E 7, E 8, E 9, E 10, E 11, E 12, E 13, E 14, E 15, E 16, E 17, E 18]))], [(Z 1, .inr (7, [X 0, X 1, .ref (Z 3), X 3, .ref (Z 5), X 5, X 6, X 7, X 8, X 9, X 10, X 11, X 12]))], [(Z 3, .inl (cB, 32008, .inl (V 0)))], [(Z 5, .inl (cI, 32008, .inl (V 2)))]]) (r := []) (cs2 := [[(Z 0, .inr (8, [E 0, E 1, E 2, .ref (Z 1), .int (nI a), E 5, E 6, E 7, E 8, E 9, E 10, E 11, E 12, E 13, E 14, E 15, E 16, E 17, E 18]))], [(Z 1, .inr (7, [X 0, X 1, .ref (Z 3), X 3, .ref (Z 5), X 5, X 6, X 7, X 8, X 9, X 10, X 11, X 12]))], [(Z 3, .inl (cB, 32008, .inl (V 0)))], [(Z 5, .inl (cI, 32008, .inl (V 2)))]]) rfl ?_
  refine jJ_of (fun H locs => lv_aload_n hx hb dX10_isSign_0 rfl (lv_at hl 0 rfl)) ?_
  refine jJ_callV (As := []) (rest := []) (wc := jF (kWd cI cB Z (lsV [E 0, E 1, E 2, .null, .null, E 5, E 6, E 7, E 8, E 9, E 10, E 11, E 12, E 13, E 14, E 15, E 16, E 17, E 18]) (lsV [X 0, X 1, .null, X 3, .null, X 5, X 6, X 7, X 8, X 9, X 10, X 11, X 12]) V a)) (cs2 := []) (C := RX10) (T := TX10) (N := 19) (ci := 8) [0, 1, 2, 3] [] ⟨hx, hb, hml, hown, hts⟩ hK hA hAm (c_Md_kind (E := lsV [E 0, E 1, E 2, .null, .null, E 5, E 6, E 7, E 8, E 9, E 10, E 11, E 12, E 13, E 14, E 15, E 16, E 17, E 18]) (X := lsV [X 0, X 1, .null, X 3, .null, X 5, X 6, X 7, X 8, X 9, X 10, X 11, X 12]) (a := a) hT (by omega)) (cwV 0 hts gX10_isSign_X10_kind rfl rfl rfl (by decide +kernel) ⟨Nat.le_of_ble_eq_true rfl, Nat.le_of_ble_eq_true rfl⟩) (nn := 4) rfl (by decide) rfl rfl ⟨0, _, rfl⟩ rfl rfl rfl hl.1 (Nat.le_of_ble_eq_true rfl) dX10_isSign_1 (by show _ + 0 ≤ 0; omega) (by show _ + 0 ≤ 0; omega) (fun v u1 k1 n1 hq1 => ?_)
  obtain ⟨rfl, hw1, rfl, rfl⟩ := hq1
  rw [hw1]
  refine jJ_open (xs := [[(Z 0, .inr (8, [E 0, E 1, E 2, .ref (Z 1), .int (nI a), E 5, E 6, E 7, E 8, E 9, E 10, E 11, E 12, E 13, E 14, E 15, E 16, E 17, E 18]))], [(Z 1, .inr (7, [X 0, X 1, .ref (Z 3), X 3, .ref (Z 5), X 5, X 6, X 7, X 8, X 9, X 10, X 11, X 12]))], [(Z 3, .inl (cB, 32008, .inl (V 0)))], [(Z 5, .inl (cI, 32008, .inl (V 2)))]]) (r := []) (cs2 := [[(Z 0, .inr (8, [E 0, E 1, E 2, .ref (Z 1), .int (nI a), E 5, E 6, E 7, E 8, E 9, E 10, E 11, E 12, E 13, E 14, E 15, E 16, E 17, E 18]))], [(Z 1, .inr (7, [X 0, X 1, .ref (Z 3), X 3, .ref (Z 5), X 5, X 6, X 7, X 8, X 9, X 10, X 11, X 12]))], [(Z 3, .inl (cB, 32008, .inl (V 0)))], [(Z 5, .inl (cI, 32008, .inl (V 2)))]]) rfl ?_
  refine jJ_eq (g2 := F0 m 4 ls [.int (nI (kC ((tk 0).getD a 0)))]) (cs2 := [[(Z 0, .inr (8, [E 0, E 1, E 2, .ref (Z 1), .int (nI a), E 5, E 6, E 7, E 8, E 9, E 10, E 11, E 12, E 13, E 14, E 15, E 16, E 17, E 18]))], [(Z 1, .inr (7, [X 0, X 1, .ref (Z 3), X 3, .ref (Z 5), X 5, X 6, X 7, X 8, X 9, X 10, X 11, X 12]))], [(Z 3, .inl (cB, 32008, .inl (V 0)))], [(Z 5, .inl (cI, 32008, .inl (V 2)))]]) rfl rfl ?_
  refine jJ_of (fun H locs => lv_iconst (v := (nI 4)) hx hb dX10_isSign_4 (by decide)) ?_
  refine jJ_of2 (fun H locs => jn_icmp_ne (tgt := 28) hx hb dX10_isSign_5 (by decide) (by omega) (by omega)) (fun c5 => ?_) (fun c5 => ?_)
  · refine jJ_of (fun H locs => lv_iconst (v := (nI 0)) hx hb dX10_isSign_28 (by decide)) ?_
    exact jJ_zret hx hb hr hlocks dX10_isSign_29 (by show _ ≤ 0; omega) (by show _ ≤ 0; omega) (Or.inl rfl) ⟨by rw [show decide ((tk 0).getD a 0 = x) = false from decide_eq_false (fun h9 => by have h8 := (kC4 (w := (tk 2).getD a 0) hx9).mpr h9; omega)]; rfl, rfl, rfl, rfl⟩
  · refine jJ_of (fun H locs => lv_aload_n hx hb dX10_isSign_8 rfl (lv_at hl 0 rfl)) ?_
    refine jJ_get hx hb (C := RX10) (T := TX10) (N := 19) hts uX10_in_X10_isSign hown hK 0 rfl rfl 3 (by decide) (hts (.fieldLink RX10 53 "ValueBlocksModel" "t" "LValueBlocksModel$Text;") (by decide +kernel)) (fun _ h9 => h9) rfl dX10_isSign_9 ?_
    refine jJ_get hx hb (C := RX9) (T := TX9) (N := 13) hts uX9_in_X10_isSign hown hK 1 rfl rfl 4 (by decide) (hts (.fieldLink RX10 71 "ValueBlocksModel$Text" "worths" "[I") (by decide +kernel)) (fun _ h9 => h9) rfl dX10_isSign_12 ?_
    refine jJ_of (fun H locs => lv_aload_n hx hb dX10_isSign_15 rfl (lv_at hl 0 rfl)) ?_
    refine jJ_get hx hb (C := RX10) (T := TX10) (N := 19) hts uX10_in_X10_isSign hown hK 0 rfl rfl 4 (by decide) (hts (.fieldLink RX10 121 "ValueBlocksModel" "at" "I") (by decide +kernel)) (fun _ h9 => h9) rfl dX10_isSign_16 ?_
    refine jJ_iald hx hb hK 3 0 (f := V 2) rfl rfl (vp_in_nI (by omega) (by omega)) (x := (nI (kW ((tk 0).getD a 0) ((tk 2).getD a 0)))) (by rw [nI_clamp (by omega)]; exact hV2) dX10_isSign_19 ?_
    refine jJ_of (fun H locs => lv_iload_n hx hb dX10_isSign_20 rfl (lv_at hl 1 rfl)) ?_
    refine jJ_of2 (fun H locs => jn_icmp_ne (tgt := 28) hx hb dX10_isSign_21 (by decide) (by omega) (by omega)) (fun c21 => ?_) (fun c21 => ?_)
    · refine jJ_of (fun H locs => lv_iconst (v := (nI 0)) hx hb dX10_isSign_28 (by decide)) ?_
      exact jJ_zret hx hb hr hlocks dX10_isSign_29 (by show _ ≤ 0; omega) (by show _ ≤ 0; omega) (Or.inl rfl) ⟨by rw [show decide ((tk 0).getD a 0 = x) = false from decide_eq_false (fun h9 => by have h8 := (kC4 (w := (tk 2).getD a 0) hx9).mpr h9; omega)]; rfl, rfl, rfl, rfl⟩
    · refine jJ_of (fun H locs => lv_iconst (v := (nI 1)) hx hb dX10_isSign_24 (by decide)) ?_
      refine jJ_of (fun H locs => lv_goto (tgt := 29) hx hb dX10_isSign_25 (by decide)) ?_
      exact jJ_zret hx hb hr hlocks dX10_isSign_29 (by show _ ≤ 0; omega) (by show _ ≤ 0; omega) (Or.inr rfl) ⟨by rw [show decide ((tk 0).getD a 0 = x) = true from decide_eq_true ((kC4 (w := (tk 2).getD a 0) hx9).mp ⟨by omega, by omega⟩)]; rfl, rfl, rfl, rfl⟩
theorem uX10_in_X10_isWord : ∀ w ∈ u_ws RX10 TX10 19, w ∈ wsX10_isWord := by decide +kernel
theorem uX9_in_X10_isWord : ∀ w ∈ u_ws RX9 TX9 13, w ∈ wsX10_isWord := by decide +kernel
set_option maxHeartbeats 4000000 in
set_option maxRecDepth 100000 in
/-- X10_isWord -/
theorem c_Md_isWord {Z : Nat → Nat} {E X : Nat → Value} {V : Nat → Nat → Int32} {tk : Nat → List Nat} {a : Nat} (hT : tV tk V) (ha : a + 1 ≤ (tk 0).length) (x : Nat) (hx9 : x ≤ 18) : HM l yX10_isWord wsX10_isWord ({ frames := 1, cells := 0, slots := 0, locals := 40 } : Room) D G (jT cI cJ cB cZ) [.ref (Z 0), .int (nI x)] (jF (kWd cI cB Z E X V a)) (fun v u k n => v = some (.int (bI (decide ((tk 0).getD a 0 = 300 + x)))) ∧ u = jF (kWd cI cB Z E X V a) ∧ k = 0 ∧ n = 0) := by
  have hL9 := hT.1
  obtain ⟨hV0, hV1, hV2, hV3⟩ := hT.2.1 a (by omega)
  obtain ⟨hB0, hB1, hB2⟩ := hT.2.2 a
  have hkc := kC_le ((tk 0).getD a 0)
  have hkw := kW_le hB0 hB2
  refine HM_of (cc := cX10_isWord) (maxL := 2) (ret := (some .boolean)) (lv := [(0, .ref (Z 0)), (1, .int (nI x))]) (by decide) rfl rfl (Nat.le_of_ble_eq_true rfl) (fun p e s m args below meth c A0 ls hx hb hr hts hown hlocks hml hnm hK hA hAm hl => ?_)
  refine jJ_open (xs := [[(Z 0, .inr (8, [E 0, E 1, E 2, .ref (Z 1), .int (nI a), E 5, E 6, E 7, E 8, E 9, E 10, E 11, E 12, E 13, E 14, E 15, E 16, E 17, E 18]))], [(Z 1, .inr (7, [X 0, X 1, .ref (Z 3), X 3, .ref (Z 5), X 5, X 6, X 7, X 8, X 9, X 10, X 11, X 12]))], [(Z 3, .inl (cB, 32008, .inl (V 0)))], [(Z 5, .inl (cI, 32008, .inl (V 2)))]]) (r := []) (cs2 := [[(Z 0, .inr (8, [E 0, E 1, E 2, .ref (Z 1), .int (nI a), E 5, E 6, E 7, E 8, E 9, E 10, E 11, E 12, E 13, E 14, E 15, E 16, E 17, E 18]))], [(Z 1, .inr (7, [X 0, X 1, .ref (Z 3), X 3, .ref (Z 5), X 5, X 6, X 7, X 8, X 9, X 10, X 11, X 12]))], [(Z 3, .inl (cB, 32008, .inl (V 0)))], [(Z 5, .inl (cI, 32008, .inl (V 2)))]]) rfl ?_
  refine jJ_of (fun H locs => lv_aload_n hx hb dX10_isWord_0 rfl (lv_at hl 0 rfl)) ?_
  refine jJ_callV (As := []) (rest := []) (wc := jF (kWd cI cB Z (lsV [E 0, E 1, E 2, .null, .null, E 5, E 6, E 7, E 8, E 9, E 10, E 11, E 12, E 13, E 14, E 15, E 16, E 17, E 18]) (lsV [X 0, X 1, .null, X 3, .null, X 5, X 6, X 7, X 8, X 9, X 10, X 11, X 12]) V a)) (cs2 := []) (C := RX10) (T := TX10) (N := 19) (ci := 8) [0, 1, 2, 3] [] ⟨hx, hb, hml, hown, hts⟩ hK hA hAm (c_Md_kind (E := lsV [E 0, E 1, E 2, .null, .null, E 5, E 6, E 7, E 8, E 9, E 10, E 11, E 12, E 13, E 14, E 15, E 16, E 17, E 18]) (X := lsV [X 0, X 1, .null, X 3, .null, X 5, X 6, X 7, X 8, X 9, X 10, X 11, X 12]) (a := a) hT (by omega)) (cwV 0 hts gX10_isWord_X10_kind rfl rfl rfl (by decide +kernel) ⟨Nat.le_of_ble_eq_true rfl, Nat.le_of_ble_eq_true rfl⟩) (nn := 4) rfl (by decide) rfl rfl ⟨0, _, rfl⟩ rfl rfl rfl hl.1 (Nat.le_of_ble_eq_true rfl) dX10_isWord_1 (by show _ + 0 ≤ 0; omega) (by show _ + 0 ≤ 0; omega) (fun v u1 k1 n1 hq1 => ?_)
  obtain ⟨rfl, hw1, rfl, rfl⟩ := hq1
  rw [hw1]
  refine jJ_open (xs := [[(Z 0, .inr (8, [E 0, E 1, E 2, .ref (Z 1), .int (nI a), E 5, E 6, E 7, E 8, E 9, E 10, E 11, E 12, E 13, E 14, E 15, E 16, E 17, E 18]))], [(Z 1, .inr (7, [X 0, X 1, .ref (Z 3), X 3, .ref (Z 5), X 5, X 6, X 7, X 8, X 9, X 10, X 11, X 12]))], [(Z 3, .inl (cB, 32008, .inl (V 0)))], [(Z 5, .inl (cI, 32008, .inl (V 2)))]]) (r := []) (cs2 := [[(Z 0, .inr (8, [E 0, E 1, E 2, .ref (Z 1), .int (nI a), E 5, E 6, E 7, E 8, E 9, E 10, E 11, E 12, E 13, E 14, E 15, E 16, E 17, E 18]))], [(Z 1, .inr (7, [X 0, X 1, .ref (Z 3), X 3, .ref (Z 5), X 5, X 6, X 7, X 8, X 9, X 10, X 11, X 12]))], [(Z 3, .inl (cB, 32008, .inl (V 0)))], [(Z 5, .inl (cI, 32008, .inl (V 2)))]]) rfl ?_
  refine jJ_eq (g2 := F0 m 4 ls [.int (nI (kC ((tk 0).getD a 0)))]) (cs2 := [[(Z 0, .inr (8, [E 0, E 1, E 2, .ref (Z 1), .int (nI a), E 5, E 6, E 7, E 8, E 9, E 10, E 11, E 12, E 13, E 14, E 15, E 16, E 17, E 18]))], [(Z 1, .inr (7, [X 0, X 1, .ref (Z 3), X 3, .ref (Z 5), X 5, X 6, X 7, X 8, X 9, X 10, X 11, X 12]))], [(Z 3, .inl (cB, 32008, .inl (V 0)))], [(Z 5, .inl (cI, 32008, .inl (V 2)))]]) rfl rfl ?_
  refine jJ_of (fun H locs => lv_iconst (v := (nI 3)) hx hb dX10_isWord_4 (by decide)) ?_
  refine jJ_of2 (fun H locs => jn_icmp_ne (tgt := 28) hx hb dX10_isWord_5 (by decide) (by omega) (by omega)) (fun c5 => ?_) (fun c5 => ?_)
  · refine jJ_of (fun H locs => lv_iconst (v := (nI 0)) hx hb dX10_isWord_28 (by decide)) ?_
    exact jJ_zret hx hb hr hlocks dX10_isWord_29 (by show _ ≤ 0; omega) (by show _ ≤ 0; omega) (Or.inl rfl) ⟨by rw [show decide ((tk 0).getD a 0 = 300 + x) = false from decide_eq_false (fun h9 => by have h8 := (kC3 (w := (tk 2).getD a 0)).mpr h9; omega)]; rfl, rfl, rfl, rfl⟩
  · refine jJ_of (fun H locs => lv_aload_n hx hb dX10_isWord_8 rfl (lv_at hl 0 rfl)) ?_
    refine jJ_get hx hb (C := RX10) (T := TX10) (N := 19) hts uX10_in_X10_isWord hown hK 0 rfl rfl 3 (by decide) (hts (.fieldLink RX10 53 "ValueBlocksModel" "t" "LValueBlocksModel$Text;") (by decide +kernel)) (fun _ h9 => h9) rfl dX10_isWord_9 ?_
    refine jJ_get hx hb (C := RX9) (T := TX9) (N := 13) hts uX9_in_X10_isWord hown hK 1 rfl rfl 4 (by decide) (hts (.fieldLink RX10 71 "ValueBlocksModel$Text" "worths" "[I") (by decide +kernel)) (fun _ h9 => h9) rfl dX10_isWord_12 ?_
    refine jJ_of (fun H locs => lv_aload_n hx hb dX10_isWord_15 rfl (lv_at hl 0 rfl)) ?_
    refine jJ_get hx hb (C := RX10) (T := TX10) (N := 19) hts uX10_in_X10_isWord hown hK 0 rfl rfl 4 (by decide) (hts (.fieldLink RX10 121 "ValueBlocksModel" "at" "I") (by decide +kernel)) (fun _ h9 => h9) rfl dX10_isWord_16 ?_
    refine jJ_iald hx hb hK 3 0 (f := V 2) rfl rfl (vp_in_nI (by omega) (by omega)) (x := (nI (kW ((tk 0).getD a 0) ((tk 2).getD a 0)))) (by rw [nI_clamp (by omega)]; exact hV2) dX10_isWord_19 ?_
    refine jJ_of (fun H locs => lv_iload_n hx hb dX10_isWord_20 rfl (lv_at hl 1 rfl)) ?_
    refine jJ_of2 (fun H locs => jn_icmp_ne (tgt := 28) hx hb dX10_isWord_21 (by decide) (by omega) (by omega)) (fun c21 => ?_) (fun c21 => ?_)
    · refine jJ_of (fun H locs => lv_iconst (v := (nI 0)) hx hb dX10_isWord_28 (by decide)) ?_
      exact jJ_zret hx hb hr hlocks dX10_isWord_29 (by show _ ≤ 0; omega) (by show _ ≤ 0; omega) (Or.inl rfl) ⟨by rw [show decide ((tk 0).getD a 0 = 300 + x) = false from decide_eq_false (fun h9 => by have h8 := (kC3 (w := (tk 2).getD a 0)).mpr h9; omega)]; rfl, rfl, rfl, rfl⟩
    · refine jJ_of (fun H locs => lv_iconst (v := (nI 1)) hx hb dX10_isWord_24 (by decide)) ?_
      refine jJ_of (fun H locs => lv_goto (tgt := 29) hx hb dX10_isWord_25 (by decide)) ?_
      exact jJ_zret hx hb hr hlocks dX10_isWord_29 (by show _ ≤ 0; omega) (by show _ ≤ 0; omega) (Or.inr rfl) ⟨by rw [show decide ((tk 0).getD a 0 = 300 + x) = true from decide_eq_true ((kC3 (w := (tk 2).getD a 0)).mp ⟨by omega, by omega⟩)]; rfl, rfl, rfl, rfl⟩
theorem uX10_in_X10_isLetter : ∀ w ∈ u_ws RX10 TX10 19, w ∈ wsX10_isLetter := by decide +kernel
theorem uX9_in_X10_isLetter : ∀ w ∈ u_ws RX9 TX9 13, w ∈ wsX10_isLetter := by decide +kernel
set_option maxHeartbeats 4000000 in
set_option maxRecDepth 100000 in
/-- X10_isLetter -/
theorem c_Md_isLetter {Z : Nat → Nat} {E X : Nat → Value} {V : Nat → Nat → Int32} {tk : Nat → List Nat} {a : Nat} (hT : tV tk V) (ha : a + 1 ≤ (tk 0).length) (x : Nat) (hx9 : 65 ≤ x ∧ x ≤ 90) : HM l yX10_isLetter wsX10_isLetter ({ frames := 1, cells := 0, slots := 0, locals := 40 } : Room) D G (jT cI cJ cB cZ) [.ref (Z 0), .int (nI x)] (jF (kWd cI cB Z E X V a)) (fun v u k n => v = some (.int (bI (decide ((tk 0).getD a 0 = x)))) ∧ u = jF (kWd cI cB Z E X V a) ∧ k = 0 ∧ n = 0) := by
  have hL9 := hT.1
  obtain ⟨hV0, hV1, hV2, hV3⟩ := hT.2.1 a (by omega)
  obtain ⟨hB0, hB1, hB2⟩ := hT.2.2 a
  have hkc := kC_le ((tk 0).getD a 0)
  have hkw := kW_le hB0 hB2
  refine HM_of (cc := cX10_isLetter) (maxL := 2) (ret := (some .boolean)) (lv := [(0, .ref (Z 0)), (1, .int (nI x))]) (by decide) rfl rfl (Nat.le_of_ble_eq_true rfl) (fun p e s m args below meth c A0 ls hx hb hr hts hown hlocks hml hnm hK hA hAm hl => ?_)
  refine jJ_open (xs := [[(Z 0, .inr (8, [E 0, E 1, E 2, .ref (Z 1), .int (nI a), E 5, E 6, E 7, E 8, E 9, E 10, E 11, E 12, E 13, E 14, E 15, E 16, E 17, E 18]))], [(Z 1, .inr (7, [X 0, X 1, .ref (Z 3), X 3, .ref (Z 5), X 5, X 6, X 7, X 8, X 9, X 10, X 11, X 12]))], [(Z 3, .inl (cB, 32008, .inl (V 0)))], [(Z 5, .inl (cI, 32008, .inl (V 2)))]]) (r := []) (cs2 := [[(Z 0, .inr (8, [E 0, E 1, E 2, .ref (Z 1), .int (nI a), E 5, E 6, E 7, E 8, E 9, E 10, E 11, E 12, E 13, E 14, E 15, E 16, E 17, E 18]))], [(Z 1, .inr (7, [X 0, X 1, .ref (Z 3), X 3, .ref (Z 5), X 5, X 6, X 7, X 8, X 9, X 10, X 11, X 12]))], [(Z 3, .inl (cB, 32008, .inl (V 0)))], [(Z 5, .inl (cI, 32008, .inl (V 2)))]]) rfl ?_
  refine jJ_of (fun H locs => lv_aload_n hx hb dX10_isLetter_0 rfl (lv_at hl 0 rfl)) ?_
  refine jJ_callV (As := []) (rest := []) (wc := jF (kWd cI cB Z (lsV [E 0, E 1, E 2, .null, .null, E 5, E 6, E 7, E 8, E 9, E 10, E 11, E 12, E 13, E 14, E 15, E 16, E 17, E 18]) (lsV [X 0, X 1, .null, X 3, .null, X 5, X 6, X 7, X 8, X 9, X 10, X 11, X 12]) V a)) (cs2 := []) (C := RX10) (T := TX10) (N := 19) (ci := 8) [0, 1, 2, 3] [] ⟨hx, hb, hml, hown, hts⟩ hK hA hAm (c_Md_kind (E := lsV [E 0, E 1, E 2, .null, .null, E 5, E 6, E 7, E 8, E 9, E 10, E 11, E 12, E 13, E 14, E 15, E 16, E 17, E 18]) (X := lsV [X 0, X 1, .null, X 3, .null, X 5, X 6, X 7, X 8, X 9, X 10, X 11, X 12]) (a := a) hT (by omega)) (cwV 0 hts gX10_isLetter_X10_kind rfl rfl rfl (by decide +kernel) ⟨Nat.le_of_ble_eq_true rfl, Nat.le_of_ble_eq_true rfl⟩) (nn := 4) rfl (by decide) rfl rfl ⟨0, _, rfl⟩ rfl rfl rfl hl.1 (Nat.le_of_ble_eq_true rfl) dX10_isLetter_1 (by show _ + 0 ≤ 0; omega) (by show _ + 0 ≤ 0; omega) (fun v u1 k1 n1 hq1 => ?_)
  obtain ⟨rfl, hw1, rfl, rfl⟩ := hq1
  rw [hw1]
  refine jJ_open (xs := [[(Z 0, .inr (8, [E 0, E 1, E 2, .ref (Z 1), .int (nI a), E 5, E 6, E 7, E 8, E 9, E 10, E 11, E 12, E 13, E 14, E 15, E 16, E 17, E 18]))], [(Z 1, .inr (7, [X 0, X 1, .ref (Z 3), X 3, .ref (Z 5), X 5, X 6, X 7, X 8, X 9, X 10, X 11, X 12]))], [(Z 3, .inl (cB, 32008, .inl (V 0)))], [(Z 5, .inl (cI, 32008, .inl (V 2)))]]) (r := []) (cs2 := [[(Z 0, .inr (8, [E 0, E 1, E 2, .ref (Z 1), .int (nI a), E 5, E 6, E 7, E 8, E 9, E 10, E 11, E 12, E 13, E 14, E 15, E 16, E 17, E 18]))], [(Z 1, .inr (7, [X 0, X 1, .ref (Z 3), X 3, .ref (Z 5), X 5, X 6, X 7, X 8, X 9, X 10, X 11, X 12]))], [(Z 3, .inl (cB, 32008, .inl (V 0)))], [(Z 5, .inl (cI, 32008, .inl (V 2)))]]) rfl ?_
  refine jJ_eq (g2 := F0 m 4 ls [.int (nI (kC ((tk 0).getD a 0)))]) (cs2 := [[(Z 0, .inr (8, [E 0, E 1, E 2, .ref (Z 1), .int (nI a), E 5, E 6, E 7, E 8, E 9, E 10, E 11, E 12, E 13, E 14, E 15, E 16, E 17, E 18]))], [(Z 1, .inr (7, [X 0, X 1, .ref (Z 3), X 3, .ref (Z 5), X 5, X 6, X 7, X 8, X 9, X 10, X 11, X 12]))], [(Z 3, .inl (cB, 32008, .inl (V 0)))], [(Z 5, .inl (cI, 32008, .inl (V 2)))]]) rfl rfl ?_
  refine jJ_of (fun H locs => lv_iconst (v := (nI 2)) hx hb dX10_isLetter_4 (by decide)) ?_
  refine jJ_of2 (fun H locs => jn_icmp_ne (tgt := 28) hx hb dX10_isLetter_5 (by decide) (by omega) (by omega)) (fun c5 => ?_) (fun c5 => ?_)
  · refine jJ_of (fun H locs => lv_iconst (v := (nI 0)) hx hb dX10_isLetter_28 (by decide)) ?_
    exact jJ_zret hx hb hr hlocks dX10_isLetter_29 (by show _ ≤ 0; omega) (by show _ ≤ 0; omega) (Or.inl rfl) ⟨by rw [show decide ((tk 0).getD a 0 = x) = false from decide_eq_false (fun h9 => by have h8 := (kC2 (w := (tk 2).getD a 0) hx9.1 hx9.2).mpr h9; omega)]; rfl, rfl, rfl, rfl⟩
  · refine jJ_of (fun H locs => lv_aload_n hx hb dX10_isLetter_8 rfl (lv_at hl 0 rfl)) ?_
    refine jJ_get hx hb (C := RX10) (T := TX10) (N := 19) hts uX10_in_X10_isLetter hown hK 0 rfl rfl 3 (by decide) (hts (.fieldLink RX10 53 "ValueBlocksModel" "t" "LValueBlocksModel$Text;") (by decide +kernel)) (fun _ h9 => h9) rfl dX10_isLetter_9 ?_
    refine jJ_get hx hb (C := RX9) (T := TX9) (N := 13) hts uX9_in_X10_isLetter hown hK 1 rfl rfl 4 (by decide) (hts (.fieldLink RX10 71 "ValueBlocksModel$Text" "worths" "[I") (by decide +kernel)) (fun _ h9 => h9) rfl dX10_isLetter_12 ?_
    refine jJ_of (fun H locs => lv_aload_n hx hb dX10_isLetter_15 rfl (lv_at hl 0 rfl)) ?_
    refine jJ_get hx hb (C := RX10) (T := TX10) (N := 19) hts uX10_in_X10_isLetter hown hK 0 rfl rfl 4 (by decide) (hts (.fieldLink RX10 121 "ValueBlocksModel" "at" "I") (by decide +kernel)) (fun _ h9 => h9) rfl dX10_isLetter_16 ?_
    refine jJ_iald hx hb hK 3 0 (f := V 2) rfl rfl (vp_in_nI (by omega) (by omega)) (x := (nI (kW ((tk 0).getD a 0) ((tk 2).getD a 0)))) (by rw [nI_clamp (by omega)]; exact hV2) dX10_isLetter_19 ?_
    refine jJ_of (fun H locs => lv_iload_n hx hb dX10_isLetter_20 rfl (lv_at hl 1 rfl)) ?_
    refine jJ_of2 (fun H locs => jn_icmp_ne (tgt := 28) hx hb dX10_isLetter_21 (by decide) (by omega) (by omega)) (fun c21 => ?_) (fun c21 => ?_)
    · refine jJ_of (fun H locs => lv_iconst (v := (nI 0)) hx hb dX10_isLetter_28 (by decide)) ?_
      exact jJ_zret hx hb hr hlocks dX10_isLetter_29 (by show _ ≤ 0; omega) (by show _ ≤ 0; omega) (Or.inl rfl) ⟨by rw [show decide ((tk 0).getD a 0 = x) = false from decide_eq_false (fun h9 => by have h8 := (kC2 (w := (tk 2).getD a 0) hx9.1 hx9.2).mpr h9; omega)]; rfl, rfl, rfl, rfl⟩
    · refine jJ_of (fun H locs => lv_iconst (v := (nI 1)) hx hb dX10_isLetter_24 (by decide)) ?_
      refine jJ_of (fun H locs => lv_goto (tgt := 29) hx hb dX10_isLetter_25 (by decide)) ?_
      exact jJ_zret hx hb hr hlocks dX10_isLetter_29 (by show _ ≤ 0; omega) (by show _ ≤ 0; omega) (Or.inr rfl) ⟨by rw [show decide ((tk 0).getD a 0 = x) = true from decide_eq_true ((kC2 (w := (tk 2).getD a 0) hx9.1 hx9.2).mp ⟨by omega, by omega⟩)]; rfl, rfl, rfl, rfl⟩
set_option maxHeartbeats 4000000 in
set_option maxRecDepth 100000 in
/-- X10_isTimes -/
theorem c_Md_isTimes {Z : Nat → Nat} {E X : Nat → Value} {V : Nat → Nat → Int32} {tk : Nat → List Nat} {a : Nat} (hT : tV tk V) (ha : a + 1 ≤ (tk 0).length) : HM l yX10_isTimes wsX10_isTimes ({ frames := 2, cells := 0, slots := 0, locals := 80 } : Room) D G (jT cI cJ cB cZ) [.ref (Z 0)] (jF (kWd cI cB Z E X V a)) (fun v u k n => v = some (.int (bI (jnF ((tk 0).getD a 0)))) ∧ u = jF (kWd cI cB Z E X V a) ∧ k = 0 ∧ n = 0) := by
  have hL9 := hT.1
  obtain ⟨hV0, hV1, hV2, hV3⟩ := hT.2.1 a (by omega)
  obtain ⟨hB0, hB1, hB2⟩ := hT.2.2 a
  have hkc := kC_le ((tk 0).getD a 0)
  have hkw := kW_le hB0 hB2
  refine HM_of (cc := cX10_isTimes) (maxL := 1) (ret := (some .boolean)) (lv := [(0, .ref (Z 0))]) (by decide) rfl rfl (Nat.le_of_ble_eq_true rfl) (fun p e s m args below meth c A0 ls hx hb hr hts hown hlocks hml hnm hK hA hAm hl => ?_)
  refine jJ_open (xs := [[(Z 0, .inr (8, [E 0, E 1, E 2, .ref (Z 1), .int (nI a), E 5, E 6, E 7, E 8, E 9, E 10, E 11, E 12, E 13, E 14, E 15, E 16, E 17, E 18]))], [(Z 1, .inr (7, [X 0, X 1, .ref (Z 3), X 3, .ref (Z 5), X 5, X 6, X 7, X 8, X 9, X 10, X 11, X 12]))], [(Z 3, .inl (cB, 32008, .inl (V 0)))], [(Z 5, .inl (cI, 32008, .inl (V 2)))]]) (r := []) (cs2 := [[(Z 0, .inr (8, [E 0, E 1, E 2, .ref (Z 1), .int (nI a), E 5, E 6, E 7, E 8, E 9, E 10, E 11, E 12, E 13, E 14, E 15, E 16, E 17, E 18]))], [(Z 1, .inr (7, [X 0, X 1, .ref (Z 3), X 3, .ref (Z 5), X 5, X 6, X 7, X 8, X 9, X 10, X 11, X 12]))], [(Z 3, .inl (cB, 32008, .inl (V 0)))], [(Z 5, .inl (cI, 32008, .inl (V 2)))]]) rfl ?_
  refine jJ_of (fun H locs => lv_aload_n hx hb dX10_isTimes_0 rfl (lv_at hl 0 rfl)) ?_
  refine jJ_of (fun H locs => lv_bipush (v := (nI 42)) hx hb dX10_isTimes_1 (by decide)) ?_
  refine jJ_callV (As := [.int (nI 42)]) (rest := []) (wc := jF (kWd cI cB Z (lsV [E 0, E 1, E 2, .null, .null, E 5, E 6, E 7, E 8, E 9, E 10, E 11, E 12, E 13, E 14, E 15, E 16, E 17, E 18]) (lsV [X 0, X 1, .null, X 3, .null, X 5, X 6, X 7, X 8, X 9, X 10, X 11, X 12]) V a)) (cs2 := []) (C := RX10) (T := TX10) (N := 19) (ci := 8) [0, 1, 2, 3] [] ⟨hx, hb, hml, hown, hts⟩ hK hA hAm (c_Md_isSign (E := lsV [E 0, E 1, E 2, .null, .null, E 5, E 6, E 7, E 8, E 9, E 10, E 11, E 12, E 13, E 14, E 15, E 16, E 17, E 18]) (X := lsV [X 0, X 1, .null, X 3, .null, X 5, X 6, X 7, X 8, X 9, X 10, X 11, X 12]) (a := a) hT (by omega) 42 (by decide)) (cwV 1 hts gX10_isTimes_X10_isSign rfl rfl rfl (by decide +kernel) ⟨Nat.le_of_ble_eq_true rfl, Nat.le_of_ble_eq_true rfl⟩) (nn := 4) rfl (by decide) rfl rfl ⟨0, _, rfl⟩ rfl rfl rfl hl.1 (Nat.le_of_ble_eq_true rfl) dX10_isTimes_3 (by show _ + 0 ≤ 0; omega) (by show _ + 0 ≤ 0; omega) (fun v u1 k1 n1 hq1 => ?_)
  obtain ⟨rfl, hw1, rfl, rfl⟩ := hq1
  rw [hw1]
  refine jJ_open (xs := [[(Z 0, .inr (8, [E 0, E 1, E 2, .ref (Z 1), .int (nI a), E 5, E 6, E 7, E 8, E 9, E 10, E 11, E 12, E 13, E 14, E 15, E 16, E 17, E 18]))], [(Z 1, .inr (7, [X 0, X 1, .ref (Z 3), X 3, .ref (Z 5), X 5, X 6, X 7, X 8, X 9, X 10, X 11, X 12]))], [(Z 3, .inl (cB, 32008, .inl (V 0)))], [(Z 5, .inl (cI, 32008, .inl (V 2)))]]) (r := []) (cs2 := [[(Z 0, .inr (8, [E 0, E 1, E 2, .ref (Z 1), .int (nI a), E 5, E 6, E 7, E 8, E 9, E 10, E 11, E 12, E 13, E 14, E 15, E 16, E 17, E 18]))], [(Z 1, .inr (7, [X 0, X 1, .ref (Z 3), X 3, .ref (Z 5), X 5, X 6, X 7, X 8, X 9, X 10, X 11, X 12]))], [(Z 3, .inl (cB, 32008, .inl (V 0)))], [(Z 5, .inl (cI, 32008, .inl (V 2)))]]) rfl ?_
  refine jJ_eq (g2 := F0 m 6 ls [.int (bI (decide ((tk 0).getD a 0 = 42)))]) (cs2 := [[(Z 0, .inr (8, [E 0, E 1, E 2, .ref (Z 1), .int (nI a), E 5, E 6, E 7, E 8, E 9, E 10, E 11, E 12, E 13, E 14, E 15, E 16, E 17, E 18]))], [(Z 1, .inr (7, [X 0, X 1, .ref (Z 3), X 3, .ref (Z 5), X 5, X 6, X 7, X 8, X 9, X 10, X 11, X 12]))], [(Z 3, .inl (cB, 32008, .inl (V 0)))], [(Z 5, .inl (cI, 32008, .inl (V 2)))]]) rfl rfl ?_
  refine jJ_of2 (fun H locs => jb_if_ne (tgt := 36) hx hb dX10_isTimes_6 (by decide)) (fun c6 => ?_) (fun c6 => ?_)
  · try simp only [decide_eq_true_eq, decide_eq_false_iff_not, Bool.and_eq_true, Bool.and_eq_false_iff] at c6
    refine jJ_of (fun H locs => lv_iconst (v := (nI 1)) hx hb dX10_isTimes_36 (by decide)) ?_
    refine jJ_of (fun H locs => lv_goto (tgt := 41) hx hb dX10_isTimes_37 (by decide)) ?_
    exact jJ_zret hx hb hr hlocks dX10_isTimes_41 (by show _ ≤ 0; omega) (by show _ ≤ 0; omega) (Or.inr rfl) ⟨by rw [show jnF ((tk 0).getD a 0) = true from decide_eq_true (by omega)]; rfl, rfl, rfl, rfl⟩
  · try simp only [decide_eq_true_eq, decide_eq_false_iff_not, Bool.and_eq_true, Bool.and_eq_false_iff] at c6
    refine jJ_of (fun H locs => lv_aload_n hx hb dX10_isTimes_9 rfl (lv_at hl 0 rfl)) ?_
    refine jJ_of (fun H locs => lv_bipush (v := (nI 47)) hx hb dX10_isTimes_10 (by decide)) ?_
    refine jJ_callV (As := [.int (nI 47)]) (rest := []) (wc := jF (kWd cI cB Z (lsV [E 0, E 1, E 2, .null, .null, E 5, E 6, E 7, E 8, E 9, E 10, E 11, E 12, E 13, E 14, E 15, E 16, E 17, E 18]) (lsV [X 0, X 1, .null, X 3, .null, X 5, X 6, X 7, X 8, X 9, X 10, X 11, X 12]) V a)) (cs2 := []) (C := RX10) (T := TX10) (N := 19) (ci := 8) [0, 1, 2, 3] [] ⟨hx, hb, hml, hown, hts⟩ hK hA hAm (c_Md_isSign (E := lsV [E 0, E 1, E 2, .null, .null, E 5, E 6, E 7, E 8, E 9, E 10, E 11, E 12, E 13, E 14, E 15, E 16, E 17, E 18]) (X := lsV [X 0, X 1, .null, X 3, .null, X 5, X 6, X 7, X 8, X 9, X 10, X 11, X 12]) (a := a) hT (by omega) 47 (by decide)) (cwV 1 hts gX10_isTimes_X10_isSign rfl rfl rfl (by decide +kernel) ⟨Nat.le_of_ble_eq_true rfl, Nat.le_of_ble_eq_true rfl⟩) (nn := 4) rfl (by decide) rfl rfl ⟨0, _, rfl⟩ rfl rfl rfl hl.1 (Nat.le_of_ble_eq_true rfl) dX10_isTimes_12 (by show _ + 0 ≤ 0; omega) (by show _ + 0 ≤ 0; omega) (fun v u2 k2 n2 hq2 => ?_)
    obtain ⟨rfl, hw2, rfl, rfl⟩ := hq2
    rw [hw2]
    refine jJ_open (xs := [[(Z 0, .inr (8, [E 0, E 1, E 2, .ref (Z 1), .int (nI a), E 5, E 6, E 7, E 8, E 9, E 10, E 11, E 12, E 13, E 14, E 15, E 16, E 17, E 18]))], [(Z 1, .inr (7, [X 0, X 1, .ref (Z 3), X 3, .ref (Z 5), X 5, X 6, X 7, X 8, X 9, X 10, X 11, X 12]))], [(Z 3, .inl (cB, 32008, .inl (V 0)))], [(Z 5, .inl (cI, 32008, .inl (V 2)))]]) (r := []) (cs2 := [[(Z 0, .inr (8, [E 0, E 1, E 2, .ref (Z 1), .int (nI a), E 5, E 6, E 7, E 8, E 9, E 10, E 11, E 12, E 13, E 14, E 15, E 16, E 17, E 18]))], [(Z 1, .inr (7, [X 0, X 1, .ref (Z 3), X 3, .ref (Z 5), X 5, X 6, X 7, X 8, X 9, X 10, X 11, X 12]))], [(Z 3, .inl (cB, 32008, .inl (V 0)))], [(Z 5, .inl (cI, 32008, .inl (V 2)))]]) rfl ?_
    refine jJ_eq (g2 := F0 m 15 ls [.int (bI (decide ((tk 0).getD a 0 = 47)))]) (cs2 := [[(Z 0, .inr (8, [E 0, E 1, E 2, .ref (Z 1), .int (nI a), E 5, E 6, E 7, E 8, E 9, E 10, E 11, E 12, E 13, E 14, E 15, E 16, E 17, E 18]))], [(Z 1, .inr (7, [X 0, X 1, .ref (Z 3), X 3, .ref (Z 5), X 5, X 6, X 7, X 8, X 9, X 10, X 11, X 12]))], [(Z 3, .inl (cB, 32008, .inl (V 0)))], [(Z 5, .inl (cI, 32008, .inl (V 2)))]]) rfl rfl ?_
    refine jJ_of2 (fun H locs => jb_if_ne (tgt := 36) hx hb dX10_isTimes_15 (by decide)) (fun c15 => ?_) (fun c15 => ?_)
    · try simp only [decide_eq_true_eq, decide_eq_false_iff_not, Bool.and_eq_true, Bool.and_eq_false_iff] at c15
      refine jJ_of (fun H locs => lv_iconst (v := (nI 1)) hx hb dX10_isTimes_36 (by decide)) ?_
      refine jJ_of (fun H locs => lv_goto (tgt := 41) hx hb dX10_isTimes_37 (by decide)) ?_
      exact jJ_zret hx hb hr hlocks dX10_isTimes_41 (by show _ ≤ 0; omega) (by show _ ≤ 0; omega) (Or.inr rfl) ⟨by rw [show jnF ((tk 0).getD a 0) = true from decide_eq_true (by omega)]; rfl, rfl, rfl, rfl⟩
    · try simp only [decide_eq_true_eq, decide_eq_false_iff_not, Bool.and_eq_true, Bool.and_eq_false_iff] at c15
      refine jJ_of (fun H locs => lv_aload_n hx hb dX10_isTimes_18 rfl (lv_at hl 0 rfl)) ?_
      refine jJ_of (fun H locs => lv_bipush (v := (nI 9)) hx hb dX10_isTimes_19 (by decide)) ?_
      refine jJ_callV (As := [.int (nI 9)]) (rest := []) (wc := jF (kWd cI cB Z (lsV [E 0, E 1, E 2, .null, .null, E 5, E 6, E 7, E 8, E 9, E 10, E 11, E 12, E 13, E 14, E 15, E 16, E 17, E 18]) (lsV [X 0, X 1, .null, X 3, .null, X 5, X 6, X 7, X 8, X 9, X 10, X 11, X 12]) V a)) (cs2 := []) (C := RX10) (T := TX10) (N := 19) (ci := 8) [0, 1, 2, 3] [] ⟨hx, hb, hml, hown, hts⟩ hK hA hAm (c_Md_isWord (E := lsV [E 0, E 1, E 2, .null, .null, E 5, E 6, E 7, E 8, E 9, E 10, E 11, E 12, E 13, E 14, E 15, E 16, E 17, E 18]) (X := lsV [X 0, X 1, .null, X 3, .null, X 5, X 6, X 7, X 8, X 9, X 10, X 11, X 12]) (a := a) hT (by omega) 9 (by decide)) (cwV 1 hts gX10_isTimes_X10_isWord rfl rfl rfl (by decide +kernel) ⟨Nat.le_of_ble_eq_true rfl, Nat.le_of_ble_eq_true rfl⟩) (nn := 4) rfl (by decide) rfl rfl ⟨0, _, rfl⟩ rfl rfl rfl hl.1 (Nat.le_of_ble_eq_true rfl) dX10_isTimes_21 (by show _ + 0 ≤ 0; omega) (by show _ + 0 ≤ 0; omega) (fun v u3 k3 n3 hq3 => ?_)
      obtain ⟨rfl, hw3, rfl, rfl⟩ := hq3
      rw [hw3]
      refine jJ_open (xs := [[(Z 0, .inr (8, [E 0, E 1, E 2, .ref (Z 1), .int (nI a), E 5, E 6, E 7, E 8, E 9, E 10, E 11, E 12, E 13, E 14, E 15, E 16, E 17, E 18]))], [(Z 1, .inr (7, [X 0, X 1, .ref (Z 3), X 3, .ref (Z 5), X 5, X 6, X 7, X 8, X 9, X 10, X 11, X 12]))], [(Z 3, .inl (cB, 32008, .inl (V 0)))], [(Z 5, .inl (cI, 32008, .inl (V 2)))]]) (r := []) (cs2 := [[(Z 0, .inr (8, [E 0, E 1, E 2, .ref (Z 1), .int (nI a), E 5, E 6, E 7, E 8, E 9, E 10, E 11, E 12, E 13, E 14, E 15, E 16, E 17, E 18]))], [(Z 1, .inr (7, [X 0, X 1, .ref (Z 3), X 3, .ref (Z 5), X 5, X 6, X 7, X 8, X 9, X 10, X 11, X 12]))], [(Z 3, .inl (cB, 32008, .inl (V 0)))], [(Z 5, .inl (cI, 32008, .inl (V 2)))]]) rfl ?_
      refine jJ_eq (g2 := F0 m 24 ls [.int (bI (decide ((tk 0).getD a 0 = 309)))]) (cs2 := [[(Z 0, .inr (8, [E 0, E 1, E 2, .ref (Z 1), .int (nI a), E 5, E 6, E 7, E 8, E 9, E 10, E 11, E 12, E 13, E 14, E 15, E 16, E 17, E 18]))], [(Z 1, .inr (7, [X 0, X 1, .ref (Z 3), X 3, .ref (Z 5), X 5, X 6, X 7, X 8, X 9, X 10, X 11, X 12]))], [(Z 3, .inl (cB, 32008, .inl (V 0)))], [(Z 5, .inl (cI, 32008, .inl (V 2)))]]) rfl rfl ?_
      refine jJ_of2 (fun H locs => jb_if_ne (tgt := 36) hx hb dX10_isTimes_24 (by decide)) (fun c24 => ?_) (fun c24 => ?_)
      · try simp only [decide_eq_true_eq, decide_eq_false_iff_not, Bool.and_eq_true, Bool.and_eq_false_iff] at c24
        refine jJ_of (fun H locs => lv_iconst (v := (nI 1)) hx hb dX10_isTimes_36 (by decide)) ?_
        refine jJ_of (fun H locs => lv_goto (tgt := 41) hx hb dX10_isTimes_37 (by decide)) ?_
        exact jJ_zret hx hb hr hlocks dX10_isTimes_41 (by show _ ≤ 0; omega) (by show _ ≤ 0; omega) (Or.inr rfl) ⟨by rw [show jnF ((tk 0).getD a 0) = true from decide_eq_true (by omega)]; rfl, rfl, rfl, rfl⟩
      · try simp only [decide_eq_true_eq, decide_eq_false_iff_not, Bool.and_eq_true, Bool.and_eq_false_iff] at c24
        refine jJ_of (fun H locs => lv_aload_n hx hb dX10_isTimes_27 rfl (lv_at hl 0 rfl)) ?_
        refine jJ_of (fun H locs => lv_bipush (v := (nI 10)) hx hb dX10_isTimes_28 (by decide)) ?_
        refine jJ_callV (As := [.int (nI 10)]) (rest := []) (wc := jF (kWd cI cB Z (lsV [E 0, E 1, E 2, .null, .null, E 5, E 6, E 7, E 8, E 9, E 10, E 11, E 12, E 13, E 14, E 15, E 16, E 17, E 18]) (lsV [X 0, X 1, .null, X 3, .null, X 5, X 6, X 7, X 8, X 9, X 10, X 11, X 12]) V a)) (cs2 := []) (C := RX10) (T := TX10) (N := 19) (ci := 8) [0, 1, 2, 3] [] ⟨hx, hb, hml, hown, hts⟩ hK hA hAm (c_Md_isWord (E := lsV [E 0, E 1, E 2, .null, .null, E 5, E 6, E 7, E 8, E 9, E 10, E 11, E 12, E 13, E 14, E 15, E 16, E 17, E 18]) (X := lsV [X 0, X 1, .null, X 3, .null, X 5, X 6, X 7, X 8, X 9, X 10, X 11, X 12]) (a := a) hT (by omega) 10 (by decide)) (cwV 1 hts gX10_isTimes_X10_isWord rfl rfl rfl (by decide +kernel) ⟨Nat.le_of_ble_eq_true rfl, Nat.le_of_ble_eq_true rfl⟩) (nn := 4) rfl (by decide) rfl rfl ⟨0, _, rfl⟩ rfl rfl rfl hl.1 (Nat.le_of_ble_eq_true rfl) dX10_isTimes_30 (by show _ + 0 ≤ 0; omega) (by show _ + 0 ≤ 0; omega) (fun v u4 k4 n4 hq4 => ?_)
        obtain ⟨rfl, hw4, rfl, rfl⟩ := hq4
        rw [hw4]
        refine jJ_open (xs := [[(Z 0, .inr (8, [E 0, E 1, E 2, .ref (Z 1), .int (nI a), E 5, E 6, E 7, E 8, E 9, E 10, E 11, E 12, E 13, E 14, E 15, E 16, E 17, E 18]))], [(Z 1, .inr (7, [X 0, X 1, .ref (Z 3), X 3, .ref (Z 5), X 5, X 6, X 7, X 8, X 9, X 10, X 11, X 12]))], [(Z 3, .inl (cB, 32008, .inl (V 0)))], [(Z 5, .inl (cI, 32008, .inl (V 2)))]]) (r := []) (cs2 := [[(Z 0, .inr (8, [E 0, E 1, E 2, .ref (Z 1), .int (nI a), E 5, E 6, E 7, E 8, E 9, E 10, E 11, E 12, E 13, E 14, E 15, E 16, E 17, E 18]))], [(Z 1, .inr (7, [X 0, X 1, .ref (Z 3), X 3, .ref (Z 5), X 5, X 6, X 7, X 8, X 9, X 10, X 11, X 12]))], [(Z 3, .inl (cB, 32008, .inl (V 0)))], [(Z 5, .inl (cI, 32008, .inl (V 2)))]]) rfl ?_
        refine jJ_eq (g2 := F0 m 33 ls [.int (bI (decide ((tk 0).getD a 0 = 310)))]) (cs2 := [[(Z 0, .inr (8, [E 0, E 1, E 2, .ref (Z 1), .int (nI a), E 5, E 6, E 7, E 8, E 9, E 10, E 11, E 12, E 13, E 14, E 15, E 16, E 17, E 18]))], [(Z 1, .inr (7, [X 0, X 1, .ref (Z 3), X 3, .ref (Z 5), X 5, X 6, X 7, X 8, X 9, X 10, X 11, X 12]))], [(Z 3, .inl (cB, 32008, .inl (V 0)))], [(Z 5, .inl (cI, 32008, .inl (V 2)))]]) rfl rfl ?_
        refine jJ_of2 (fun H locs => jb_if_eq (tgt := 40) hx hb dX10_isTimes_33 (by decide)) (fun c33 => ?_) (fun c33 => ?_)
        · try simp only [decide_eq_true_eq, decide_eq_false_iff_not, Bool.and_eq_true, Bool.and_eq_false_iff] at c33
          refine jJ_of (fun H locs => lv_iconst (v := (nI 0)) hx hb dX10_isTimes_40 (by decide)) ?_
          exact jJ_zret hx hb hr hlocks dX10_isTimes_41 (by show _ ≤ 0; omega) (by show _ ≤ 0; omega) (Or.inl rfl) ⟨by rw [show jnF ((tk 0).getD a 0) = false from decide_eq_false (by omega)]; rfl, rfl, rfl, rfl⟩
        · try simp only [decide_eq_true_eq, decide_eq_false_iff_not, Bool.and_eq_true, Bool.and_eq_false_iff] at c33
          refine jJ_of (fun H locs => lv_iconst (v := (nI 1)) hx hb dX10_isTimes_36 (by decide)) ?_
          refine jJ_of (fun H locs => lv_goto (tgt := 41) hx hb dX10_isTimes_37 (by decide)) ?_
          exact jJ_zret hx hb hr hlocks dX10_isTimes_41 (by show _ ≤ 0; omega) (by show _ ≤ 0; omega) (Or.inr rfl) ⟨by rw [show jnF ((tk 0).getD a 0) = true from decide_eq_true (by omega)]; rfl, rfl, rfl, rfl⟩
set_option maxHeartbeats 4000000 in
set_option maxRecDepth 100000 in
/-- X10_isPlus -/
theorem c_Md_isPlus {Z : Nat → Nat} {E X : Nat → Value} {V : Nat → Nat → Int32} {tk : Nat → List Nat} {a : Nat} (hT : tV tk V) (ha : a + 1 ≤ (tk 0).length) : HM l yX10_isPlus wsX10_isPlus ({ frames := 2, cells := 0, slots := 0, locals := 80 } : Room) D G (jT cI cJ cB cZ) [.ref (Z 0)] (jF (kWd cI cB Z E X V a)) (fun v u k n => v = some (.int (bI (jnP ((tk 0).getD a 0)))) ∧ u = jF (kWd cI cB Z E X V a) ∧ k = 0 ∧ n = 0) := by
  have hL9 := hT.1
  obtain ⟨hV0, hV1, hV2, hV3⟩ := hT.2.1 a (by omega)
  obtain ⟨hB0, hB1, hB2⟩ := hT.2.2 a
  have hkc := kC_le ((tk 0).getD a 0)
  have hkw := kW_le hB0 hB2
  refine HM_of (cc := cX10_isPlus) (maxL := 1) (ret := (some .boolean)) (lv := [(0, .ref (Z 0))]) (by decide) rfl rfl (Nat.le_of_ble_eq_true rfl) (fun p e s m args below meth c A0 ls hx hb hr hts hown hlocks hml hnm hK hA hAm hl => ?_)
  refine jJ_open (xs := [[(Z 0, .inr (8, [E 0, E 1, E 2, .ref (Z 1), .int (nI a), E 5, E 6, E 7, E 8, E 9, E 10, E 11, E 12, E 13, E 14, E 15, E 16, E 17, E 18]))], [(Z 1, .inr (7, [X 0, X 1, .ref (Z 3), X 3, .ref (Z 5), X 5, X 6, X 7, X 8, X 9, X 10, X 11, X 12]))], [(Z 3, .inl (cB, 32008, .inl (V 0)))], [(Z 5, .inl (cI, 32008, .inl (V 2)))]]) (r := []) (cs2 := [[(Z 0, .inr (8, [E 0, E 1, E 2, .ref (Z 1), .int (nI a), E 5, E 6, E 7, E 8, E 9, E 10, E 11, E 12, E 13, E 14, E 15, E 16, E 17, E 18]))], [(Z 1, .inr (7, [X 0, X 1, .ref (Z 3), X 3, .ref (Z 5), X 5, X 6, X 7, X 8, X 9, X 10, X 11, X 12]))], [(Z 3, .inl (cB, 32008, .inl (V 0)))], [(Z 5, .inl (cI, 32008, .inl (V 2)))]]) rfl ?_
  refine jJ_of (fun H locs => lv_aload_n hx hb dX10_isPlus_0 rfl (lv_at hl 0 rfl)) ?_
  refine jJ_of (fun H locs => lv_bipush (v := (nI 43)) hx hb dX10_isPlus_1 (by decide)) ?_
  refine jJ_callV (As := [.int (nI 43)]) (rest := []) (wc := jF (kWd cI cB Z (lsV [E 0, E 1, E 2, .null, .null, E 5, E 6, E 7, E 8, E 9, E 10, E 11, E 12, E 13, E 14, E 15, E 16, E 17, E 18]) (lsV [X 0, X 1, .null, X 3, .null, X 5, X 6, X 7, X 8, X 9, X 10, X 11, X 12]) V a)) (cs2 := []) (C := RX10) (T := TX10) (N := 19) (ci := 8) [0, 1, 2, 3] [] ⟨hx, hb, hml, hown, hts⟩ hK hA hAm (c_Md_isSign (E := lsV [E 0, E 1, E 2, .null, .null, E 5, E 6, E 7, E 8, E 9, E 10, E 11, E 12, E 13, E 14, E 15, E 16, E 17, E 18]) (X := lsV [X 0, X 1, .null, X 3, .null, X 5, X 6, X 7, X 8, X 9, X 10, X 11, X 12]) (a := a) hT (by omega) 43 (by decide)) (cwV 1 hts gX10_isPlus_X10_isSign rfl rfl rfl (by decide +kernel) ⟨Nat.le_of_ble_eq_true rfl, Nat.le_of_ble_eq_true rfl⟩) (nn := 4) rfl (by decide) rfl rfl ⟨0, _, rfl⟩ rfl rfl rfl hl.1 (Nat.le_of_ble_eq_true rfl) dX10_isPlus_3 (by show _ + 0 ≤ 0; omega) (by show _ + 0 ≤ 0; omega) (fun v u1 k1 n1 hq1 => ?_)
  obtain ⟨rfl, hw1, rfl, rfl⟩ := hq1
  rw [hw1]
  refine jJ_open (xs := [[(Z 0, .inr (8, [E 0, E 1, E 2, .ref (Z 1), .int (nI a), E 5, E 6, E 7, E 8, E 9, E 10, E 11, E 12, E 13, E 14, E 15, E 16, E 17, E 18]))], [(Z 1, .inr (7, [X 0, X 1, .ref (Z 3), X 3, .ref (Z 5), X 5, X 6, X 7, X 8, X 9, X 10, X 11, X 12]))], [(Z 3, .inl (cB, 32008, .inl (V 0)))], [(Z 5, .inl (cI, 32008, .inl (V 2)))]]) (r := []) (cs2 := [[(Z 0, .inr (8, [E 0, E 1, E 2, .ref (Z 1), .int (nI a), E 5, E 6, E 7, E 8, E 9, E 10, E 11, E 12, E 13, E 14, E 15, E 16, E 17, E 18]))], [(Z 1, .inr (7, [X 0, X 1, .ref (Z 3), X 3, .ref (Z 5), X 5, X 6, X 7, X 8, X 9, X 10, X 11, X 12]))], [(Z 3, .inl (cB, 32008, .inl (V 0)))], [(Z 5, .inl (cI, 32008, .inl (V 2)))]]) rfl ?_
  refine jJ_eq (g2 := F0 m 6 ls [.int (bI (decide ((tk 0).getD a 0 = 43)))]) (cs2 := [[(Z 0, .inr (8, [E 0, E 1, E 2, .ref (Z 1), .int (nI a), E 5, E 6, E 7, E 8, E 9, E 10, E 11, E 12, E 13, E 14, E 15, E 16, E 17, E 18]))], [(Z 1, .inr (7, [X 0, X 1, .ref (Z 3), X 3, .ref (Z 5), X 5, X 6, X 7, X 8, X 9, X 10, X 11, X 12]))], [(Z 3, .inl (cB, 32008, .inl (V 0)))], [(Z 5, .inl (cI, 32008, .inl (V 2)))]]) rfl rfl ?_
  refine jJ_of2 (fun H locs => jb_if_ne (tgt := 36) hx hb dX10_isPlus_6 (by decide)) (fun c6 => ?_) (fun c6 => ?_)
  · try simp only [decide_eq_true_eq, decide_eq_false_iff_not, Bool.and_eq_true, Bool.and_eq_false_iff] at c6
    refine jJ_of (fun H locs => lv_iconst (v := (nI 1)) hx hb dX10_isPlus_36 (by decide)) ?_
    refine jJ_of (fun H locs => lv_goto (tgt := 41) hx hb dX10_isPlus_37 (by decide)) ?_
    exact jJ_zret hx hb hr hlocks dX10_isPlus_41 (by show _ ≤ 0; omega) (by show _ ≤ 0; omega) (Or.inr rfl) ⟨by rw [show jnP ((tk 0).getD a 0) = true from decide_eq_true (by omega)]; rfl, rfl, rfl, rfl⟩
  · try simp only [decide_eq_true_eq, decide_eq_false_iff_not, Bool.and_eq_true, Bool.and_eq_false_iff] at c6
    refine jJ_of (fun H locs => lv_aload_n hx hb dX10_isPlus_9 rfl (lv_at hl 0 rfl)) ?_
    refine jJ_of (fun H locs => lv_bipush (v := (nI 45)) hx hb dX10_isPlus_10 (by decide)) ?_
    refine jJ_callV (As := [.int (nI 45)]) (rest := []) (wc := jF (kWd cI cB Z (lsV [E 0, E 1, E 2, .null, .null, E 5, E 6, E 7, E 8, E 9, E 10, E 11, E 12, E 13, E 14, E 15, E 16, E 17, E 18]) (lsV [X 0, X 1, .null, X 3, .null, X 5, X 6, X 7, X 8, X 9, X 10, X 11, X 12]) V a)) (cs2 := []) (C := RX10) (T := TX10) (N := 19) (ci := 8) [0, 1, 2, 3] [] ⟨hx, hb, hml, hown, hts⟩ hK hA hAm (c_Md_isSign (E := lsV [E 0, E 1, E 2, .null, .null, E 5, E 6, E 7, E 8, E 9, E 10, E 11, E 12, E 13, E 14, E 15, E 16, E 17, E 18]) (X := lsV [X 0, X 1, .null, X 3, .null, X 5, X 6, X 7, X 8, X 9, X 10, X 11, X 12]) (a := a) hT (by omega) 45 (by decide)) (cwV 1 hts gX10_isPlus_X10_isSign rfl rfl rfl (by decide +kernel) ⟨Nat.le_of_ble_eq_true rfl, Nat.le_of_ble_eq_true rfl⟩) (nn := 4) rfl (by decide) rfl rfl ⟨0, _, rfl⟩ rfl rfl rfl hl.1 (Nat.le_of_ble_eq_true rfl) dX10_isPlus_12 (by show _ + 0 ≤ 0; omega) (by show _ + 0 ≤ 0; omega) (fun v u2 k2 n2 hq2 => ?_)
    obtain ⟨rfl, hw2, rfl, rfl⟩ := hq2
    rw [hw2]
    refine jJ_open (xs := [[(Z 0, .inr (8, [E 0, E 1, E 2, .ref (Z 1), .int (nI a), E 5, E 6, E 7, E 8, E 9, E 10, E 11, E 12, E 13, E 14, E 15, E 16, E 17, E 18]))], [(Z 1, .inr (7, [X 0, X 1, .ref (Z 3), X 3, .ref (Z 5), X 5, X 6, X 7, X 8, X 9, X 10, X 11, X 12]))], [(Z 3, .inl (cB, 32008, .inl (V 0)))], [(Z 5, .inl (cI, 32008, .inl (V 2)))]]) (r := []) (cs2 := [[(Z 0, .inr (8, [E 0, E 1, E 2, .ref (Z 1), .int (nI a), E 5, E 6, E 7, E 8, E 9, E 10, E 11, E 12, E 13, E 14, E 15, E 16, E 17, E 18]))], [(Z 1, .inr (7, [X 0, X 1, .ref (Z 3), X 3, .ref (Z 5), X 5, X 6, X 7, X 8, X 9, X 10, X 11, X 12]))], [(Z 3, .inl (cB, 32008, .inl (V 0)))], [(Z 5, .inl (cI, 32008, .inl (V 2)))]]) rfl ?_
    refine jJ_eq (g2 := F0 m 15 ls [.int (bI (decide ((tk 0).getD a 0 = 45)))]) (cs2 := [[(Z 0, .inr (8, [E 0, E 1, E 2, .ref (Z 1), .int (nI a), E 5, E 6, E 7, E 8, E 9, E 10, E 11, E 12, E 13, E 14, E 15, E 16, E 17, E 18]))], [(Z 1, .inr (7, [X 0, X 1, .ref (Z 3), X 3, .ref (Z 5), X 5, X 6, X 7, X 8, X 9, X 10, X 11, X 12]))], [(Z 3, .inl (cB, 32008, .inl (V 0)))], [(Z 5, .inl (cI, 32008, .inl (V 2)))]]) rfl rfl ?_
    refine jJ_of2 (fun H locs => jb_if_ne (tgt := 36) hx hb dX10_isPlus_15 (by decide)) (fun c15 => ?_) (fun c15 => ?_)
    · try simp only [decide_eq_true_eq, decide_eq_false_iff_not, Bool.and_eq_true, Bool.and_eq_false_iff] at c15
      refine jJ_of (fun H locs => lv_iconst (v := (nI 1)) hx hb dX10_isPlus_36 (by decide)) ?_
      refine jJ_of (fun H locs => lv_goto (tgt := 41) hx hb dX10_isPlus_37 (by decide)) ?_
      exact jJ_zret hx hb hr hlocks dX10_isPlus_41 (by show _ ≤ 0; omega) (by show _ ≤ 0; omega) (Or.inr rfl) ⟨by rw [show jnP ((tk 0).getD a 0) = true from decide_eq_true (by omega)]; rfl, rfl, rfl, rfl⟩
    · try simp only [decide_eq_true_eq, decide_eq_false_iff_not, Bool.and_eq_true, Bool.and_eq_false_iff] at c15
      refine jJ_of (fun H locs => lv_aload_n hx hb dX10_isPlus_18 rfl (lv_at hl 0 rfl)) ?_
      refine jJ_of (fun H locs => lv_bipush (v := (nI 11)) hx hb dX10_isPlus_19 (by decide)) ?_
      refine jJ_callV (As := [.int (nI 11)]) (rest := []) (wc := jF (kWd cI cB Z (lsV [E 0, E 1, E 2, .null, .null, E 5, E 6, E 7, E 8, E 9, E 10, E 11, E 12, E 13, E 14, E 15, E 16, E 17, E 18]) (lsV [X 0, X 1, .null, X 3, .null, X 5, X 6, X 7, X 8, X 9, X 10, X 11, X 12]) V a)) (cs2 := []) (C := RX10) (T := TX10) (N := 19) (ci := 8) [0, 1, 2, 3] [] ⟨hx, hb, hml, hown, hts⟩ hK hA hAm (c_Md_isWord (E := lsV [E 0, E 1, E 2, .null, .null, E 5, E 6, E 7, E 8, E 9, E 10, E 11, E 12, E 13, E 14, E 15, E 16, E 17, E 18]) (X := lsV [X 0, X 1, .null, X 3, .null, X 5, X 6, X 7, X 8, X 9, X 10, X 11, X 12]) (a := a) hT (by omega) 11 (by decide)) (cwV 1 hts gX10_isPlus_X10_isWord rfl rfl rfl (by decide +kernel) ⟨Nat.le_of_ble_eq_true rfl, Nat.le_of_ble_eq_true rfl⟩) (nn := 4) rfl (by decide) rfl rfl ⟨0, _, rfl⟩ rfl rfl rfl hl.1 (Nat.le_of_ble_eq_true rfl) dX10_isPlus_21 (by show _ + 0 ≤ 0; omega) (by show _ + 0 ≤ 0; omega) (fun v u3 k3 n3 hq3 => ?_)
      obtain ⟨rfl, hw3, rfl, rfl⟩ := hq3
      rw [hw3]
      refine jJ_open (xs := [[(Z 0, .inr (8, [E 0, E 1, E 2, .ref (Z 1), .int (nI a), E 5, E 6, E 7, E 8, E 9, E 10, E 11, E 12, E 13, E 14, E 15, E 16, E 17, E 18]))], [(Z 1, .inr (7, [X 0, X 1, .ref (Z 3), X 3, .ref (Z 5), X 5, X 6, X 7, X 8, X 9, X 10, X 11, X 12]))], [(Z 3, .inl (cB, 32008, .inl (V 0)))], [(Z 5, .inl (cI, 32008, .inl (V 2)))]]) (r := []) (cs2 := [[(Z 0, .inr (8, [E 0, E 1, E 2, .ref (Z 1), .int (nI a), E 5, E 6, E 7, E 8, E 9, E 10, E 11, E 12, E 13, E 14, E 15, E 16, E 17, E 18]))], [(Z 1, .inr (7, [X 0, X 1, .ref (Z 3), X 3, .ref (Z 5), X 5, X 6, X 7, X 8, X 9, X 10, X 11, X 12]))], [(Z 3, .inl (cB, 32008, .inl (V 0)))], [(Z 5, .inl (cI, 32008, .inl (V 2)))]]) rfl ?_
      refine jJ_eq (g2 := F0 m 24 ls [.int (bI (decide ((tk 0).getD a 0 = 311)))]) (cs2 := [[(Z 0, .inr (8, [E 0, E 1, E 2, .ref (Z 1), .int (nI a), E 5, E 6, E 7, E 8, E 9, E 10, E 11, E 12, E 13, E 14, E 15, E 16, E 17, E 18]))], [(Z 1, .inr (7, [X 0, X 1, .ref (Z 3), X 3, .ref (Z 5), X 5, X 6, X 7, X 8, X 9, X 10, X 11, X 12]))], [(Z 3, .inl (cB, 32008, .inl (V 0)))], [(Z 5, .inl (cI, 32008, .inl (V 2)))]]) rfl rfl ?_
      refine jJ_of2 (fun H locs => jb_if_ne (tgt := 36) hx hb dX10_isPlus_24 (by decide)) (fun c24 => ?_) (fun c24 => ?_)
      · try simp only [decide_eq_true_eq, decide_eq_false_iff_not, Bool.and_eq_true, Bool.and_eq_false_iff] at c24
        refine jJ_of (fun H locs => lv_iconst (v := (nI 1)) hx hb dX10_isPlus_36 (by decide)) ?_
        refine jJ_of (fun H locs => lv_goto (tgt := 41) hx hb dX10_isPlus_37 (by decide)) ?_
        exact jJ_zret hx hb hr hlocks dX10_isPlus_41 (by show _ ≤ 0; omega) (by show _ ≤ 0; omega) (Or.inr rfl) ⟨by rw [show jnP ((tk 0).getD a 0) = true from decide_eq_true (by omega)]; rfl, rfl, rfl, rfl⟩
      · try simp only [decide_eq_true_eq, decide_eq_false_iff_not, Bool.and_eq_true, Bool.and_eq_false_iff] at c24
        refine jJ_of (fun H locs => lv_aload_n hx hb dX10_isPlus_27 rfl (lv_at hl 0 rfl)) ?_
        refine jJ_of (fun H locs => lv_bipush (v := (nI 12)) hx hb dX10_isPlus_28 (by decide)) ?_
        refine jJ_callV (As := [.int (nI 12)]) (rest := []) (wc := jF (kWd cI cB Z (lsV [E 0, E 1, E 2, .null, .null, E 5, E 6, E 7, E 8, E 9, E 10, E 11, E 12, E 13, E 14, E 15, E 16, E 17, E 18]) (lsV [X 0, X 1, .null, X 3, .null, X 5, X 6, X 7, X 8, X 9, X 10, X 11, X 12]) V a)) (cs2 := []) (C := RX10) (T := TX10) (N := 19) (ci := 8) [0, 1, 2, 3] [] ⟨hx, hb, hml, hown, hts⟩ hK hA hAm (c_Md_isWord (E := lsV [E 0, E 1, E 2, .null, .null, E 5, E 6, E 7, E 8, E 9, E 10, E 11, E 12, E 13, E 14, E 15, E 16, E 17, E 18]) (X := lsV [X 0, X 1, .null, X 3, .null, X 5, X 6, X 7, X 8, X 9, X 10, X 11, X 12]) (a := a) hT (by omega) 12 (by decide)) (cwV 1 hts gX10_isPlus_X10_isWord rfl rfl rfl (by decide +kernel) ⟨Nat.le_of_ble_eq_true rfl, Nat.le_of_ble_eq_true rfl⟩) (nn := 4) rfl (by decide) rfl rfl ⟨0, _, rfl⟩ rfl rfl rfl hl.1 (Nat.le_of_ble_eq_true rfl) dX10_isPlus_30 (by show _ + 0 ≤ 0; omega) (by show _ + 0 ≤ 0; omega) (fun v u4 k4 n4 hq4 => ?_)
        obtain ⟨rfl, hw4, rfl, rfl⟩ := hq4
        rw [hw4]
        refine jJ_open (xs := [[(Z 0, .inr (8, [E 0, E 1, E 2, .ref (Z 1), .int (nI a), E 5, E 6, E 7, E 8, E 9, E 10, E 11, E 12, E 13, E 14, E 15, E 16, E 17, E 18]))], [(Z 1, .inr (7, [X 0, X 1, .ref (Z 3), X 3, .ref (Z 5), X 5, X 6, X 7, X 8, X 9, X 10, X 11, X 12]))], [(Z 3, .inl (cB, 32008, .inl (V 0)))], [(Z 5, .inl (cI, 32008, .inl (V 2)))]]) (r := []) (cs2 := [[(Z 0, .inr (8, [E 0, E 1, E 2, .ref (Z 1), .int (nI a), E 5, E 6, E 7, E 8, E 9, E 10, E 11, E 12, E 13, E 14, E 15, E 16, E 17, E 18]))], [(Z 1, .inr (7, [X 0, X 1, .ref (Z 3), X 3, .ref (Z 5), X 5, X 6, X 7, X 8, X 9, X 10, X 11, X 12]))], [(Z 3, .inl (cB, 32008, .inl (V 0)))], [(Z 5, .inl (cI, 32008, .inl (V 2)))]]) rfl ?_
        refine jJ_eq (g2 := F0 m 33 ls [.int (bI (decide ((tk 0).getD a 0 = 312)))]) (cs2 := [[(Z 0, .inr (8, [E 0, E 1, E 2, .ref (Z 1), .int (nI a), E 5, E 6, E 7, E 8, E 9, E 10, E 11, E 12, E 13, E 14, E 15, E 16, E 17, E 18]))], [(Z 1, .inr (7, [X 0, X 1, .ref (Z 3), X 3, .ref (Z 5), X 5, X 6, X 7, X 8, X 9, X 10, X 11, X 12]))], [(Z 3, .inl (cB, 32008, .inl (V 0)))], [(Z 5, .inl (cI, 32008, .inl (V 2)))]]) rfl rfl ?_
        refine jJ_of2 (fun H locs => jb_if_eq (tgt := 40) hx hb dX10_isPlus_33 (by decide)) (fun c33 => ?_) (fun c33 => ?_)
        · try simp only [decide_eq_true_eq, decide_eq_false_iff_not, Bool.and_eq_true, Bool.and_eq_false_iff] at c33
          refine jJ_of (fun H locs => lv_iconst (v := (nI 0)) hx hb dX10_isPlus_40 (by decide)) ?_
          exact jJ_zret hx hb hr hlocks dX10_isPlus_41 (by show _ ≤ 0; omega) (by show _ ≤ 0; omega) (Or.inl rfl) ⟨by rw [show jnP ((tk 0).getD a 0) = false from decide_eq_false (by omega)]; rfl, rfl, rfl, rfl⟩
        · try simp only [decide_eq_true_eq, decide_eq_false_iff_not, Bool.and_eq_true, Bool.and_eq_false_iff] at c33
          refine jJ_of (fun H locs => lv_iconst (v := (nI 1)) hx hb dX10_isPlus_36 (by decide)) ?_
          refine jJ_of (fun H locs => lv_goto (tgt := 41) hx hb dX10_isPlus_37 (by decide)) ?_
          exact jJ_zret hx hb hr hlocks dX10_isPlus_41 (by show _ ≤ 0; omega) (by show _ ≤ 0; omega) (Or.inr rfl) ⟨by rw [show jnP ((tk 0).getD a 0) = true from decide_eq_true (by omega)]; rfl, rfl, rfl, rfl⟩
theorem uX10_in_X10_isRelation : ∀ w ∈ u_ws RX10 TX10 19, w ∈ wsX10_isRelation := by decide +kernel
theorem uX9_in_X10_isRelation : ∀ w ∈ u_ws RX9 TX9 13, w ∈ wsX10_isRelation := by decide +kernel
set_option maxHeartbeats 4000000 in
set_option maxRecDepth 100000 in
/-- isRelation() -/
theorem c_Md_isRelation {Z : Nat → Nat} {E X : Nat → Value} {V : Nat → Nat → Int32} {tk : Nat → List Nat} {a : Nat} (hT : tV tk V) (ha : a + 1 ≤ (tk 0).length) : HM l yX10_isRelation wsX10_isRelation ({ frames := 1, cells := 0, slots := 0, locals := 40 } : Room) D G (jT cI cJ cB cZ) [.ref (Z 0)] (jF (kWd cI cB Z E X V a)) (fun v u k n => v = some (.int (bI (decide (313 ≤ (tk 0).getD a 0 ∧ (tk 0).getD a 0 ≤ 318)))) ∧ u = jF (kWd cI cB Z E X V a) ∧ k = 0 ∧ n = 0) := by
  have hL9 := hT.1
  obtain ⟨hV0, hV1, hV2, hV3⟩ := hT.2.1 a (by omega)
  obtain ⟨hB0, hB1, hB2⟩ := hT.2.2 a
  have hkc := kC_le ((tk 0).getD a 0)
  have hkw := kW_le hB0 hB2
  refine HM_of (cc := cX10_isRelation) (maxL := 1) (ret := (some .boolean)) (lv := [(0, .ref (Z 0))]) (by decide) rfl rfl (Nat.le_of_ble_eq_true rfl) (fun p e s m args below meth c A0 ls hx hb hr hts hown hlocks hml hnm hK hA hAm hl => ?_)
  refine jJ_open (xs := [[(Z 0, .inr (8, [E 0, E 1, E 2, .ref (Z 1), .int (nI a), E 5, E 6, E 7, E 8, E 9, E 10, E 11, E 12, E 13, E 14, E 15, E 16, E 17, E 18]))], [(Z 1, .inr (7, [X 0, X 1, .ref (Z 3), X 3, .ref (Z 5), X 5, X 6, X 7, X 8, X 9, X 10, X 11, X 12]))], [(Z 3, .inl (cB, 32008, .inl (V 0)))], [(Z 5, .inl (cI, 32008, .inl (V 2)))]]) (r := []) (cs2 := [[(Z 0, .inr (8, [E 0, E 1, E 2, .ref (Z 1), .int (nI a), E 5, E 6, E 7, E 8, E 9, E 10, E 11, E 12, E 13, E 14, E 15, E 16, E 17, E 18]))], [(Z 1, .inr (7, [X 0, X 1, .ref (Z 3), X 3, .ref (Z 5), X 5, X 6, X 7, X 8, X 9, X 10, X 11, X 12]))], [(Z 3, .inl (cB, 32008, .inl (V 0)))], [(Z 5, .inl (cI, 32008, .inl (V 2)))]]) rfl ?_
  refine jJ_of (fun H locs => lv_aload_n hx hb dX10_isRelation_0 rfl (lv_at hl 0 rfl)) ?_
  refine jJ_callV (As := []) (rest := []) (wc := jF (kWd cI cB Z (lsV [E 0, E 1, E 2, .null, .null, E 5, E 6, E 7, E 8, E 9, E 10, E 11, E 12, E 13, E 14, E 15, E 16, E 17, E 18]) (lsV [X 0, X 1, .null, X 3, .null, X 5, X 6, X 7, X 8, X 9, X 10, X 11, X 12]) V a)) (cs2 := []) (C := RX10) (T := TX10) (N := 19) (ci := 8) [0, 1, 2, 3] [] ⟨hx, hb, hml, hown, hts⟩ hK hA hAm (c_Md_kind (E := lsV [E 0, E 1, E 2, .null, .null, E 5, E 6, E 7, E 8, E 9, E 10, E 11, E 12, E 13, E 14, E 15, E 16, E 17, E 18]) (X := lsV [X 0, X 1, .null, X 3, .null, X 5, X 6, X 7, X 8, X 9, X 10, X 11, X 12]) (a := a) hT (by omega)) (cwV 0 hts gX10_isRelation_X10_kind rfl rfl rfl (by decide +kernel) ⟨Nat.le_of_ble_eq_true rfl, Nat.le_of_ble_eq_true rfl⟩) (nn := 4) rfl (by decide) rfl rfl ⟨0, _, rfl⟩ rfl rfl rfl hl.1 (Nat.le_of_ble_eq_true rfl) dX10_isRelation_1 (by show _ + 0 ≤ 0; omega) (by show _ + 0 ≤ 0; omega) (fun v u1 k1 n1 hq1 => ?_)
  obtain ⟨rfl, hw1, rfl, rfl⟩ := hq1
  rw [hw1]
  refine jJ_open (xs := [[(Z 0, .inr (8, [E 0, E 1, E 2, .ref (Z 1), .int (nI a), E 5, E 6, E 7, E 8, E 9, E 10, E 11, E 12, E 13, E 14, E 15, E 16, E 17, E 18]))], [(Z 1, .inr (7, [X 0, X 1, .ref (Z 3), X 3, .ref (Z 5), X 5, X 6, X 7, X 8, X 9, X 10, X 11, X 12]))], [(Z 3, .inl (cB, 32008, .inl (V 0)))], [(Z 5, .inl (cI, 32008, .inl (V 2)))]]) (r := []) (cs2 := [[(Z 0, .inr (8, [E 0, E 1, E 2, .ref (Z 1), .int (nI a), E 5, E 6, E 7, E 8, E 9, E 10, E 11, E 12, E 13, E 14, E 15, E 16, E 17, E 18]))], [(Z 1, .inr (7, [X 0, X 1, .ref (Z 3), X 3, .ref (Z 5), X 5, X 6, X 7, X 8, X 9, X 10, X 11, X 12]))], [(Z 3, .inl (cB, 32008, .inl (V 0)))], [(Z 5, .inl (cI, 32008, .inl (V 2)))]]) rfl ?_
  refine jJ_eq (g2 := F0 m 4 ls [.int (nI (kC ((tk 0).getD a 0)))]) (cs2 := [[(Z 0, .inr (8, [E 0, E 1, E 2, .ref (Z 1), .int (nI a), E 5, E 6, E 7, E 8, E 9, E 10, E 11, E 12, E 13, E 14, E 15, E 16, E 17, E 18]))], [(Z 1, .inr (7, [X 0, X 1, .ref (Z 3), X 3, .ref (Z 5), X 5, X 6, X 7, X 8, X 9, X 10, X 11, X 12]))], [(Z 3, .inl (cB, 32008, .inl (V 0)))], [(Z 5, .inl (cI, 32008, .inl (V 2)))]]) rfl rfl ?_
  refine jJ_of (fun H locs => lv_iconst (v := (nI 3)) hx hb dX10_isRelation_4 (by decide)) ?_
  refine jJ_of2 (fun H locs => jn_icmp_ne (tgt := 46) hx hb dX10_isRelation_5 (by decide) (by omega) (by omega)) (fun c5 => ?_) (fun c5 => ?_)
  · refine jJ_of (fun H locs => lv_iconst (v := (nI 0)) hx hb dX10_isRelation_46 (by decide)) ?_
    have h3w := kC3w (c := (tk 0).getD a 0) (w := (tk 2).getD a 0)
    exact jJ_zret hx hb hr hlocks dX10_isRelation_47 (by show _ ≤ 0; omega) (by show _ ≤ 0; omega) (Or.inl rfl) ⟨by rw [show decide (313 ≤ (tk 0).getD a 0 ∧ (tk 0).getD a 0 ≤ 318) = false from decide_eq_false (by omega)]; rfl, rfl, rfl, rfl⟩
  · refine jJ_of (fun H locs => lv_aload_n hx hb dX10_isRelation_8 rfl (lv_at hl 0 rfl)) ?_
    refine jJ_get hx hb (C := RX10) (T := TX10) (N := 19) hts uX10_in_X10_isRelation hown hK 0 rfl rfl 3 (by decide) (hts (.fieldLink RX10 53 "ValueBlocksModel" "t" "LValueBlocksModel$Text;") (by decide +kernel)) (fun _ h9 => h9) rfl dX10_isRelation_9 ?_
    refine jJ_get hx hb (C := RX9) (T := TX9) (N := 13) hts uX9_in_X10_isRelation hown hK 1 rfl rfl 4 (by decide) (hts (.fieldLink RX10 71 "ValueBlocksModel$Text" "worths" "[I") (by decide +kernel)) (fun _ h9 => h9) rfl dX10_isRelation_12 ?_
    refine jJ_of (fun H locs => lv_aload_n hx hb dX10_isRelation_15 rfl (lv_at hl 0 rfl)) ?_
    refine jJ_get hx hb (C := RX10) (T := TX10) (N := 19) hts uX10_in_X10_isRelation hown hK 0 rfl rfl 4 (by decide) (hts (.fieldLink RX10 121 "ValueBlocksModel" "at" "I") (by decide +kernel)) (fun _ h9 => h9) rfl dX10_isRelation_16 ?_
    refine jJ_iald hx hb hK 3 0 (f := V 2) rfl rfl (vp_in_nI (by omega) (by omega)) (x := (nI (kW ((tk 0).getD a 0) ((tk 2).getD a 0)))) (by rw [nI_clamp (by omega)]; exact hV2) dX10_isRelation_19 ?_
    refine jJ_of (fun H locs => lv_bipush (v := (nI 13)) hx hb dX10_isRelation_20 (by decide)) ?_
    refine jJ_of2 (fun H locs => jn_icmp_lt (tgt := 46) hx hb dX10_isRelation_22 (by decide) (by omega) (by omega)) (fun c22 => ?_) (fun c22 => ?_)
    · refine jJ_of (fun H locs => lv_iconst (v := (nI 0)) hx hb dX10_isRelation_46 (by decide)) ?_
      have h3w := kC3w (c := (tk 0).getD a 0) (w := (tk 2).getD a 0)
      exact jJ_zret hx hb hr hlocks dX10_isRelation_47 (by show _ ≤ 0; omega) (by show _ ≤ 0; omega) (Or.inl rfl) ⟨by rw [show decide (313 ≤ (tk 0).getD a 0 ∧ (tk 0).getD a 0 ≤ 318) = false from decide_eq_false (by omega)]; rfl, rfl, rfl, rfl⟩
    · refine jJ_of (fun H locs => lv_aload_n hx hb dX10_isRelation_25 rfl (lv_at hl 0 rfl)) ?_
      refine jJ_get hx hb (C := RX10) (T := TX10) (N := 19) hts uX10_in_X10_isRelation hown hK 0 rfl rfl 3 (by decide) (hts (.fieldLink RX10 53 "ValueBlocksModel" "t" "LValueBlocksModel$Text;") (by decide +kernel)) (fun _ h9 => h9) rfl dX10_isRelation_26 ?_
      refine jJ_get hx hb (C := RX9) (T := TX9) (N := 13) hts uX9_in_X10_isRelation hown hK 1 rfl rfl 4 (by decide) (hts (.fieldLink RX10 71 "ValueBlocksModel$Text" "worths" "[I") (by decide +kernel)) (fun _ h9 => h9) rfl dX10_isRelation_29 ?_
      refine jJ_of (fun H locs => lv_aload_n hx hb dX10_isRelation_32 rfl (lv_at hl 0 rfl)) ?_
      refine jJ_get hx hb (C := RX10) (T := TX10) (N := 19) hts uX10_in_X10_isRelation hown hK 0 rfl rfl 4 (by decide) (hts (.fieldLink RX10 121 "ValueBlocksModel" "at" "I") (by decide +kernel)) (fun _ h9 => h9) rfl dX10_isRelation_33 ?_
      refine jJ_iald hx hb hK 3 0 (f := V 2) rfl rfl (vp_in_nI (by omega) (by omega)) (x := (nI (kW ((tk 0).getD a 0) ((tk 2).getD a 0)))) (by rw [nI_clamp (by omega)]; exact hV2) dX10_isRelation_36 ?_
      refine jJ_of (fun H locs => lv_bipush (v := (nI 18)) hx hb dX10_isRelation_37 (by decide)) ?_
      refine jJ_of2 (fun H locs => jn_icmp_gt (tgt := 46) hx hb dX10_isRelation_39 (by decide) (by omega) (by omega)) (fun c39 => ?_) (fun c39 => ?_)
      · refine jJ_of (fun H locs => lv_iconst (v := (nI 0)) hx hb dX10_isRelation_46 (by decide)) ?_
        have h3w := kC3w (c := (tk 0).getD a 0) (w := (tk 2).getD a 0)
        exact jJ_zret hx hb hr hlocks dX10_isRelation_47 (by show _ ≤ 0; omega) (by show _ ≤ 0; omega) (Or.inl rfl) ⟨by rw [show decide (313 ≤ (tk 0).getD a 0 ∧ (tk 0).getD a 0 ≤ 318) = false from decide_eq_false (by omega)]; rfl, rfl, rfl, rfl⟩
      · refine jJ_of (fun H locs => lv_iconst (v := (nI 1)) hx hb dX10_isRelation_42 (by decide)) ?_
        refine jJ_of (fun H locs => lv_goto (tgt := 47) hx hb dX10_isRelation_43 (by decide)) ?_
        have h3w := kC3w (c := (tk 0).getD a 0) (w := (tk 2).getD a 0)
        exact jJ_zret hx hb hr hlocks dX10_isRelation_47 (by show _ ≤ 0; omega) (by show _ ≤ 0; omega) (Or.inr rfl) ⟨by rw [show decide (313 ≤ (tk 0).getD a 0 ∧ (tk 0).getD a 0 ≤ 318) = true from decide_eq_true (by omega)]; rfl, rfl, rfl, rfl⟩
theorem uX10_in_X10_wrong : ∀ w ∈ u_ws RX10 TX10 19, w ∈ wsX10_wrong := by decide +kernel
theorem uX9_in_X10_wrong : ∀ w ∈ u_ws RX9 TX9 13, w ∈ wsX10_wrong := by decide +kernel
set_option maxHeartbeats 4000000 in
set_option maxRecDepth 100000 in
/-- wrong() -/
theorem c_Md_wrong {Z : Nat → Nat} {E X : Nat → Value} {V : Nat → Nat → Int32} {tk : Nat → List Nat} {a d : Nat} {fp : Int32} (hT : tV tk V) (ha : a + 1 ≤ (tk 0).length) : HM l yX10_wrong wsX10_wrong ({ frames := 0, cells := 0, slots := 0, locals := 0 } : Room) D G (jT cI cJ cB cZ) [.ref (Z 0)] (jF (lW cI cB cZ Z E X V a d fp)) (fun v u k n => v = some (.ref (Z 2)) ∧ u = jF (lW cI cB cZ Z E X V a d (nI ((tk 1).getD a 0))) ∧ k = 0 ∧ n = 0) := by
  have hL9 := hT.1
  obtain ⟨hV0, hV1, hV2, hV3⟩ := hT.2.1 a (by omega)
  obtain ⟨hB0, hB1, hB2⟩ := hT.2.2 a
  have hkc := kC_le ((tk 0).getD a 0)
  have hkw := kW_le hB0 hB2
  refine HM_of (cc := cX10_wrong) (maxL := 1) (ret := (some (.object "java/lang/IllegalStateException"))) (lv := [(0, .ref (Z 0))]) (by decide) rfl rfl (Nat.le_of_ble_eq_true rfl) (fun p e s m args below meth c A0 ls hx hb hr hts hown hlocks hml hnm hK hA hAm hl => ?_)
  refine jJ_open (xs := [[(Z 0, .inr (8, [E 0, E 1, E 2, .ref (Z 1), .int (nI a), .int (nI d), E 6, E 7, E 8, .ref (Z 2), .int fp, E 11, E 12, E 13, E 14, E 15, E 16, E 17, E 18]))], [(Z 1, .inr (7, [X 0, X 1, .ref (Z 3), .ref (Z 4), .ref (Z 5), .ref (Z 6), X 6, X 7, X 8, X 9, X 10, X 11, X 12]))], [(Z 3, .inl (cB, 32008, .inl (V 0)))], [(Z 4, .inl (cI, 32008, .inl (V 1)))], [(Z 5, .inl (cI, 32008, .inl (V 2)))], [(Z 6, .inl (cZ, 32008, .inl (V 3)))], [(Z 2, .inr (0, []))]]) (r := []) (cs2 := [[(Z 0, .inr (8, [E 0, E 1, E 2, .ref (Z 1), .int (nI a), .int (nI d), E 6, E 7, E 8, .ref (Z 2), .int fp, E 11, E 12, E 13, E 14, E 15, E 16, E 17, E 18]))], [(Z 1, .inr (7, [X 0, X 1, .ref (Z 3), .ref (Z 4), .ref (Z 5), .ref (Z 6), X 6, X 7, X 8, X 9, X 10, X 11, X 12]))], [(Z 3, .inl (cB, 32008, .inl (V 0)))], [(Z 4, .inl (cI, 32008, .inl (V 1)))], [(Z 5, .inl (cI, 32008, .inl (V 2)))], [(Z 6, .inl (cZ, 32008, .inl (V 3)))], [(Z 2, .inr (0, []))]]) rfl ?_
  refine jJ_of (fun H locs => lv_aload_n hx hb dX10_wrong_0 rfl (lv_at hl 0 rfl)) ?_
  refine jJ_of (fun H locs => lv_aload_n hx hb dX10_wrong_1 rfl (lv_at hl 0 rfl)) ?_
  refine jJ_get hx hb (C := RX10) (T := TX10) (N := 19) hts uX10_in_X10_wrong hown hK 0 rfl rfl 3 (by decide) (hts (.fieldLink RX10 53 "ValueBlocksModel" "t" "LValueBlocksModel$Text;") (by decide +kernel)) (fun _ h9 => h9) rfl dX10_wrong_2 ?_
  refine jJ_get hx hb (C := RX9) (T := TX9) (N := 13) hts uX9_in_X10_wrong hown hK 1 rfl rfl 3 (by decide) (hts (.fieldLink RX10 68 "ValueBlocksModel$Text" "places" "[I") (by decide +kernel)) (fun _ h9 => h9) rfl dX10_wrong_5 ?_
  refine jJ_of (fun H locs => lv_aload_n hx hb dX10_wrong_8 rfl (lv_at hl 0 rfl)) ?_
  refine jJ_get hx hb (C := RX10) (T := TX10) (N := 19) hts uX10_in_X10_wrong hown hK 0 rfl rfl 4 (by decide) (hts (.fieldLink RX10 121 "ValueBlocksModel" "at" "I") (by decide +kernel)) (fun _ h9 => h9) rfl dX10_wrong_9 ?_
  refine jJ_iald hx hb hK 3 0 (f := V 1) rfl rfl (vp_in_nI (by omega) (by omega)) (x := (nI ((tk 1).getD a 0))) (by rw [nI_clamp (by omega)]; exact hV1) dX10_wrong_12 ?_
  refine jJ_put hx hb (C := RX10) (T := TX10) (N := 19) (ty := .int) (v := .int (nI ((tk 1).getD a 0))) hts uX10_in_X10_wrong tyX10 tyX10_ok nmX10 hown hK 0 rfl rfl 10 (by decide) (hts (.fieldLink RX10 127 "ValueBlocksModel" "faultPlace" "I") (by decide +kernel)) (fun _ h9 => h9) rfl (by decide +kernel) rfl rfl (Nat.le_of_ble_eq_true rfl) dX10_wrong_13 (cs2 := [[(Z 0, .inr (8, [E 0, E 1, E 2, .ref (Z 1), .int (nI a), .int (nI d), E 6, E 7, E 8, .ref (Z 2), .int (nI ((tk 1).getD a 0)), E 11, E 12, E 13, E 14, E 15, E 16, E 17, E 18]))], [(Z 1, .inr (7, [X 0, X 1, .ref (Z 3), .ref (Z 4), .ref (Z 5), .ref (Z 6), X 6, X 7, X 8, X 9, X 10, X 11, X 12]))], [(Z 3, .inl (cB, 32008, .inl (V 0)))], [(Z 4, .inl (cI, 32008, .inl (V 1)))], [(Z 5, .inl (cI, 32008, .inl (V 2)))], [(Z 6, .inl (cZ, 32008, .inl (V 3)))], [(Z 2, .inr (0, []))]]) rfl ?_
  refine jJ_of (fun H locs => lv_aload_n hx hb dX10_wrong_16 rfl (lv_at hl 0 rfl)) ?_
  refine jJ_get hx hb (C := RX10) (T := TX10) (N := 19) hts uX10_in_X10_wrong hown hK 0 rfl rfl 9 (by decide) (hts (.fieldLink RX10 26 "ValueBlocksModel" "stop" "Ljava/lang/IllegalStateException;") (by decide +kernel)) (fun _ h9 => h9) rfl dX10_wrong_17 ?_
  exact jJ_aret hx hb hr (Or.inl ⟨_, rfl⟩) hlocks dX10_wrong_20 (by show _ ≤ 0; omega) (by show _ ≤ 0; omega) ⟨rfl, rfl, rfl, rfl⟩
theorem uX10_in_X10_expect : ∀ w ∈ u_ws RX10 TX10 19, w ∈ wsX10_expect := by decide +kernel
set_option maxHeartbeats 4000000 in
set_option maxRecDepth 100000 in
/-- expect(b) -/
theorem c_Md_expect {Z : Nat → Nat} {E X : Nat → Value} {V : Nat → Nat → Int32} {tk : Nat → List Nat} {a d : Nat} {fp : Int32} (hT : tV tk V) (ha : a + 1 ≤ (tk 0).length) (b : Bool) : HX l yX10_expect wsX10_expect ({ frames := 1, cells := 0, slots := 0, locals := 40 } : Room) D G (jT cI cJ cB cZ) [.ref (Z 0), .int (bI b)] (jF (lW cI cB cZ Z E X V a d fp)) (fun v u k n => b = true ∧ v = none ∧ u = jF (lW cI cB cZ Z E X V (a + 1) d fp) ∧ k = 0 ∧ n = 0) (fun u k n => b = false ∧ u = jF (lW cI cB cZ Z E X V a d (nI ((tk 1).getD a 0))) ∧ k = 0 ∧ n = 0) := by
  refine HX_of (cc := cX10_expect) (maxL := 2) (ret := none) (lv := [(0, .ref (Z 0)), (1, .int (bI b))]) (by decide) rfl rfl (Nat.le_of_ble_eq_true rfl) (fun p e s m args below meth c A0 ls hx hb hr hts hown hlocks hml hno hK hA hAm hl => ?_)
  refine jJ_open (xs := [[(Z 0, .inr (8, [E 0, E 1, E 2, .ref (Z 1), .int (nI a), .int (nI d), E 6, E 7, E 8, .ref (Z 2), .int fp, E 11, E 12, E 13, E 14, E 15, E 16, E 17, E 18]))], [(Z 1, .inr (7, [X 0, X 1, .ref (Z 3), .ref (Z 4), .ref (Z 5), .ref (Z 6), X 6, X 7, X 8, X 9, X 10, X 11, X 12]))], [(Z 3, .inl (cB, 32008, .inl (V 0)))], [(Z 4, .inl (cI, 32008, .inl (V 1)))], [(Z 5, .inl (cI, 32008, .inl (V 2)))], [(Z 6, .inl (cZ, 32008, .inl (V 3)))], [(Z 2, .inr (0, []))]]) (r := []) (cs2 := [[(Z 0, .inr (8, [E 0, E 1, E 2, .ref (Z 1), .int (nI a), .int (nI d), E 6, E 7, E 8, .ref (Z 2), .int fp, E 11, E 12, E 13, E 14, E 15, E 16, E 17, E 18]))], [(Z 1, .inr (7, [X 0, X 1, .ref (Z 3), .ref (Z 4), .ref (Z 5), .ref (Z 6), X 6, X 7, X 8, X 9, X 10, X 11, X 12]))], [(Z 3, .inl (cB, 32008, .inl (V 0)))], [(Z 4, .inl (cI, 32008, .inl (V 1)))], [(Z 5, .inl (cI, 32008, .inl (V 2)))], [(Z 6, .inl (cZ, 32008, .inl (V 3)))], [(Z 2, .inr (0, []))]]) rfl ?_
  refine jJ_of (fun H locs => lv_iload_n hx hb dX10_expect_0 rfl (lv_at hl 1 rfl)) ?_
  refine jJ_of2 (fun H locs => jb_if_ne (tgt := 9) hx hb dX10_expect_1 (by decide)) (fun c1 => ?_) (fun c1 => ?_)
  · subst c1
    refine jJ_of (fun H locs => lv_aload_n hx hb dX10_expect_9 rfl (lv_at hl 0 rfl)) ?_
    refine jJ_of (fun H locs => lv_dup hx hb dX10_expect_10 rfl) ?_
    refine jJ_get hx hb (C := RX10) (T := TX10) (N := 19) hts uX10_in_X10_expect hown hK 0 rfl rfl 4 (by decide) (hts (.fieldLink RX10 121 "ValueBlocksModel" "at" "I") (by decide +kernel)) (fun _ h9 => h9) rfl dX10_expect_11 ?_
    refine jJ_of (fun H locs => lv_iconst (v := (nI 1)) hx hb dX10_expect_14 (by decide)) ?_
    refine jJ_of (fun H locs => jn_iadd hx hb dX10_expect_15) ?_
    refine jJ_put hx hb (C := RX10) (T := TX10) (N := 19) (ty := .int) (v := .int (nI (a + 1))) hts uX10_in_X10_expect tyX10 tyX10_ok nmX10 hown hK 0 rfl rfl 4 (by decide) (hts (.fieldLink RX10 121 "ValueBlocksModel" "at" "I") (by decide +kernel)) (fun _ h9 => h9) rfl (by decide +kernel) rfl rfl (Nat.le_of_ble_eq_true rfl) dX10_expect_16 (cs2 := [[(Z 0, .inr (8, [E 0, E 1, E 2, .ref (Z 1), .int (nI (a + 1)), .int (nI d), E 6, E 7, E 8, .ref (Z 2), .int fp, E 11, E 12, E 13, E 14, E 15, E 16, E 17, E 18]))], [(Z 1, .inr (7, [X 0, X 1, .ref (Z 3), .ref (Z 4), .ref (Z 5), .ref (Z 6), X 6, X 7, X 8, X 9, X 10, X 11, X 12]))], [(Z 3, .inl (cB, 32008, .inl (V 0)))], [(Z 4, .inl (cI, 32008, .inl (V 1)))], [(Z 5, .inl (cI, 32008, .inl (V 2)))], [(Z 6, .inl (cZ, 32008, .inl (V 3)))], [(Z 2, .inr (0, []))]]) rfl ?_
    exact jJ_toX (jJ_vret hx hb hr hlocks dX10_expect_19 (by show _ ≤ 0; omega) (by show _ ≤ 0; omega) ⟨rfl, rfl, rfl, rfl, rfl⟩)
  · subst c1
    refine jJ_of (fun H locs => lv_aload_n hx hb dX10_expect_4 rfl (lv_at hl 0 rfl)) ?_
    refine jJ_callV (As := []) (rest := []) (wc := jF (lW cI cB cZ Z (E) (X) V a d fp)) (cs2 := []) (C := RX10) (T := TX10) (N := 19) (ci := 8) [0, 1, 2, 3, 4, 5, 6] [] ⟨hx, hb, hml, hown, hts⟩ hK hA hAm (c_Md_wrong (E := E) (X := X) (a := a) (d := d) (fp := fp) hT (by omega)) (cwV 0 hts gX10_expect_X10_wrong rfl rfl rfl (by decide +kernel) ⟨Nat.le_of_ble_eq_true rfl, Nat.le_of_ble_eq_true rfl⟩) (nn := 7) rfl (by decide) rfl rfl ⟨0, _, rfl⟩ rfl rfl rfl hl.1 (Nat.le_of_ble_eq_true rfl) dX10_expect_5 (by show _ + 0 ≤ 0; omega) (by show _ + 0 ≤ 0; omega) (fun v u1 k1 n1 hq1 => ?_)
    obtain ⟨rfl, hw1, rfl, rfl⟩ := hq1
    rw [hw1]
    refine jJ_open (xs := [[(Z 0, .inr (8, [E 0, E 1, E 2, .ref (Z 1), .int (nI a), .int (nI d), E 6, E 7, E 8, .ref (Z 2), .int (nI ((tk 1).getD a 0)), E 11, E 12, E 13, E 14, E 15, E 16, E 17, E 18]))], [(Z 1, .inr (7, [X 0, X 1, .ref (Z 3), .ref (Z 4), .ref (Z 5), .ref (Z 6), X 6, X 7, X 8, X 9, X 10, X 11, X 12]))], [(Z 3, .inl (cB, 32008, .inl (V 0)))], [(Z 4, .inl (cI, 32008, .inl (V 1)))], [(Z 5, .inl (cI, 32008, .inl (V 2)))], [(Z 6, .inl (cZ, 32008, .inl (V 3)))], [(Z 2, .inr (0, []))]]) (r := []) (cs2 := [[(Z 0, .inr (8, [E 0, E 1, E 2, .ref (Z 1), .int (nI a), .int (nI d), E 6, E 7, E 8, .ref (Z 2), .int (nI ((tk 1).getD a 0)), E 11, E 12, E 13, E 14, E 15, E 16, E 17, E 18]))], [(Z 1, .inr (7, [X 0, X 1, .ref (Z 3), .ref (Z 4), .ref (Z 5), .ref (Z 6), X 6, X 7, X 8, X 9, X 10, X 11, X 12]))], [(Z 3, .inl (cB, 32008, .inl (V 0)))], [(Z 4, .inl (cI, 32008, .inl (V 1)))], [(Z 5, .inl (cI, 32008, .inl (V 2)))], [(Z 6, .inl (cZ, 32008, .inl (V 3)))], [(Z 2, .inr (0, []))]]) rfl ?_
    refine jJ_eq (g2 := F0 m 8 ls [.ref (Z 2)]) (cs2 := [[(Z 0, .inr (8, [E 0, E 1, E 2, .ref (Z 1), .int (nI a), .int (nI d), E 6, E 7, E 8, .ref (Z 2), .int (nI ((tk 1).getD a 0)), E 11, E 12, E 13, E 14, E 15, E 16, E 17, E 18]))], [(Z 1, .inr (7, [X 0, X 1, .ref (Z 3), .ref (Z 4), .ref (Z 5), .ref (Z 6), X 6, X 7, X 8, X 9, X 10, X 11, X 12]))], [(Z 3, .inl (cB, 32008, .inl (V 0)))], [(Z 4, .inl (cI, 32008, .inl (V 1)))], [(Z 5, .inl (cI, 32008, .inl (V 2)))], [(Z 6, .inl (cZ, 32008, .inl (V 3)))], [(Z 2, .inr (0, []))]]) rfl rfl ?_
    refine jJ_athrow hx hb hK 6 rfl dX10_expect_8 ?_
    exact jJx_out hno hlocks (by show _ ≤ 0; omega) (by show _ ≤ 0; omega) ⟨rfl, rfl, rfl, rfl⟩
theorem uX10_in_X10_whole : ∀ w ∈ u_ws RX10 TX10 19, w ∈ wsX10_whole := by decide +kernel
theorem uX9_in_X10_whole : ∀ w ∈ u_ws RX9 TX9 13, w ∈ wsX10_whole := by decide +kernel
set_option maxHeartbeats 4000000 in
set_option maxRecDepth 100000 in
/-- whole() -/
theorem c_Md_whole {Z : Nat → Nat} {E X : Nat → Value} {V : Nat → Nat → Int32} {tk : Nat → List Nat} {a d : Nat} {fp : Int32} (hT : tV tk V) (hE : tE tk) (ha : a + 1 ≤ (tk 0).length) : HX l yX10_whole wsX10_whole ({ frames := 2, cells := 0, slots := 0, locals := 80 } : Room) D G (jT cI cJ cB cZ) [.ref (Z 0)] (jF (lW cI cB cZ Z E X V a d fp)) (fun v u k n => ((qTake tk 256) a).1 = true ∧ v = none ∧ u = jF (lW cI cB cZ Z E X V ((qTake tk 256) a).2 d fp) ∧ k = 0 ∧ n = 0) (fun u k n => ((qTake tk 256) a).1 = false ∧ (∃ a2 d2 : Nat, u = jF (lW cI cB cZ Z E X V a2 d2 (nI ((tk 1).getD ((qTake tk 256) a).2 0)))) ∧ k = 0 ∧ n = 0) := by
  refine HX_of (cc := cX10_whole) (maxL := 1) (ret := none) (lv := [(0, .ref (Z 0))]) (by decide) rfl rfl (Nat.le_of_ble_eq_true rfl) (fun p e s m args below meth c A0 ls hx hb hr hts hown hlocks hml hno hK hA hAm hl => ?_)
  refine jJ_open (xs := [[(Z 0, .inr (8, [E 0, E 1, E 2, .ref (Z 1), .int (nI a), .int (nI d), E 6, E 7, E 8, .ref (Z 2), .int fp, E 11, E 12, E 13, E 14, E 15, E 16, E 17, E 18]))], [(Z 1, .inr (7, [X 0, X 1, .ref (Z 3), .ref (Z 4), .ref (Z 5), .ref (Z 6), X 6, X 7, X 8, X 9, X 10, X 11, X 12]))], [(Z 3, .inl (cB, 32008, .inl (V 0)))], [(Z 4, .inl (cI, 32008, .inl (V 1)))], [(Z 5, .inl (cI, 32008, .inl (V 2)))], [(Z 6, .inl (cZ, 32008, .inl (V 3)))], [(Z 2, .inr (0, []))]]) (r := []) (cs2 := [[(Z 0, .inr (8, [E 0, E 1, E 2, .ref (Z 1), .int (nI a), .int (nI d), E 6, E 7, E 8, .ref (Z 2), .int fp, E 11, E 12, E 13, E 14, E 15, E 16, E 17, E 18]))], [(Z 1, .inr (7, [X 0, X 1, .ref (Z 3), .ref (Z 4), .ref (Z 5), .ref (Z 6), X 6, X 7, X 8, X 9, X 10, X 11, X 12]))], [(Z 3, .inl (cB, 32008, .inl (V 0)))], [(Z 4, .inl (cI, 32008, .inl (V 1)))], [(Z 5, .inl (cI, 32008, .inl (V 2)))], [(Z 6, .inl (cZ, 32008, .inl (V 3)))], [(Z 2, .inr (0, []))]]) rfl ?_
  have hL9 := hT.1
  have hL9 := hT.1
  obtain ⟨hV0, hV1, hV2, hV3⟩ := hT.2.1 a (by omega)
  obtain ⟨hB0, hB1, hB2⟩ := hT.2.2 a
  have hkc := kC_le ((tk 0).getD a 0)
  have hkw := kW_le hB0 hB2
  have hk1 := kC1 (c := (tk 0).getD a 0)
  have hk3 := kC3w (c := (tk 0).getD a 0) (w := (tk 2).getD a 0)
  refine jJ_of (fun H locs => lv_aload_n hx hb dX10_whole_0 rfl (lv_at hl 0 rfl)) ?_
  refine jJ_of (fun H locs => lv_aload_n hx hb dX10_whole_1 rfl (lv_at hl 0 rfl)) ?_
  refine jJ_callV (As := []) (rest := [.ref (Z 0)]) (wc := jF (kWd cI cB Z (lsV [E 0, E 1, E 2, .null, .null, .int (nI d), E 6, E 7, E 8, .ref (Z 2), .int fp, E 11, E 12, E 13, E 14, E 15, E 16, E 17, E 18]) (lsV [X 0, X 1, .null, .ref (Z 4), .null, .ref (Z 6), X 6, X 7, X 8, X 9, X 10, X 11, X 12]) V a)) (cs2 := [[(Z 4, .inl (cI, 32008, .inl (V 1)))], [(Z 6, .inl (cZ, 32008, .inl (V 3)))], [(Z 2, .inr (0, []))]]) (C := RX10) (T := TX10) (N := 19) (ci := 8) [0, 1, 2, 4] [3, 5, 6] ⟨hx, hb, hml, hown, hts⟩ hK hA hAm (c_Md_kind (E := lsV [E 0, E 1, E 2, .null, .null, .int (nI d), E 6, E 7, E 8, .ref (Z 2), .int fp, E 11, E 12, E 13, E 14, E 15, E 16, E 17, E 18]) (X := lsV [X 0, X 1, .null, .ref (Z 4), .null, .ref (Z 6), X 6, X 7, X 8, X 9, X 10, X 11, X 12]) (a := a) hT (by omega)) (cwV 0 hts gX10_whole_X10_kind rfl rfl rfl (by decide +kernel) ⟨Nat.le_of_ble_eq_true rfl, Nat.le_of_ble_eq_true rfl⟩) (nn := 7) rfl (by decide) rfl rfl ⟨0, _, rfl⟩ rfl rfl rfl hl.1 (Nat.le_of_ble_eq_true rfl) dX10_whole_2 (by show _ + 0 ≤ 0; omega) (by show _ + 0 ≤ 0; omega) (fun v u1 k1 n1 hq1 => ?_)
  obtain ⟨rfl, hw1, rfl, rfl⟩ := hq1
  rw [hw1]
  refine jJ_open (xs := [[(Z 0, .inr (8, [E 0, E 1, E 2, .ref (Z 1), .int (nI a), .int (nI d), E 6, E 7, E 8, .ref (Z 2), .int fp, E 11, E 12, E 13, E 14, E 15, E 16, E 17, E 18]))], [(Z 1, .inr (7, [X 0, X 1, .ref (Z 3), .ref (Z 4), .ref (Z 5), .ref (Z 6), X 6, X 7, X 8, X 9, X 10, X 11, X 12]))], [(Z 3, .inl (cB, 32008, .inl (V 0)))], [(Z 5, .inl (cI, 32008, .inl (V 2)))]]) (r := [[(Z 4, .inl (cI, 32008, .inl (V 1)))], [(Z 6, .inl (cZ, 32008, .inl (V 3)))], [(Z 2, .inr (0, []))]]) (cs2 := [[(Z 0, .inr (8, [E 0, E 1, E 2, .ref (Z 1), .int (nI a), .int (nI d), E 6, E 7, E 8, .ref (Z 2), .int fp, E 11, E 12, E 13, E 14, E 15, E 16, E 17, E 18]))], [(Z 1, .inr (7, [X 0, X 1, .ref (Z 3), .ref (Z 4), .ref (Z 5), .ref (Z 6), X 6, X 7, X 8, X 9, X 10, X 11, X 12]))], [(Z 3, .inl (cB, 32008, .inl (V 0)))], [(Z 5, .inl (cI, 32008, .inl (V 2)))], [(Z 4, .inl (cI, 32008, .inl (V 1)))], [(Z 6, .inl (cZ, 32008, .inl (V 3)))], [(Z 2, .inr (0, []))]]) rfl ?_
  refine jJ_eq (g2 := F0 m 5 ls [.int (nI (kC ((tk 0).getD a 0))), .ref (Z 0)]) (cs2 := [[(Z 0, .inr (8, [E 0, E 1, E 2, .ref (Z 1), .int (nI a), .int (nI d), E 6, E 7, E 8, .ref (Z 2), .int fp, E 11, E 12, E 13, E 14, E 15, E 16, E 17, E 18]))], [(Z 1, .inr (7, [X 0, X 1, .ref (Z 3), .ref (Z 4), .ref (Z 5), .ref (Z 6), X 6, X 7, X 8, X 9, X 10, X 11, X 12]))], [(Z 3, .inl (cB, 32008, .inl (V 0)))], [(Z 5, .inl (cI, 32008, .inl (V 2)))], [(Z 4, .inl (cI, 32008, .inl (V 1)))], [(Z 6, .inl (cZ, 32008, .inl (V 3)))], [(Z 2, .inr (0, []))]]) rfl rfl ?_
  refine jJ_of (fun H locs => lv_iconst (v := (nI 1)) hx hb dX10_whole_5 (by decide)) ?_
  refine jJ_of2 (fun H locs => jn_icmp_ne (tgt := 28) hx hb dX10_whole_6 (by decide) (by omega) (by omega)) (fun c6 => ?_) (fun c6 => ?_)
  · refine jJ_of (fun H locs => lv_iconst (v := (nI 0)) hx hb dX10_whole_28 (by decide)) ?_
    refine jJ_eq (g2 := F0 m 29 ls [.int (bI false), .ref (Z 0)]) (cs2 := [[(Z 0, .inr (8, [E 0, E 1, E 2, .ref (Z 1), .int (nI a), .int (nI d), E 6, E 7, E 8, .ref (Z 2), .int fp, E 11, E 12, E 13, E 14, E 15, E 16, E 17, E 18]))], [(Z 1, .inr (7, [X 0, X 1, .ref (Z 3), .ref (Z 4), .ref (Z 5), .ref (Z 6), X 6, X 7, X 8, X 9, X 10, X 11, X 12]))], [(Z 3, .inl (cB, 32008, .inl (V 0)))], [(Z 5, .inl (cI, 32008, .inl (V 2)))], [(Z 4, .inl (cI, 32008, .inl (V 1)))], [(Z 6, .inl (cZ, 32008, .inl (V 3)))], [(Z 2, .inr (0, []))]]) rfl rfl ?_
    refine jX_callV (As := [.int (bI false)]) (rest := []) (wc := jF (lW cI cB cZ Z (E) (X) V a d fp)) (cs2 := []) (C := RX10) (T := TX10) (N := 19) (ci := 8) [0, 1, 2, 4, 3, 5, 6] [] ⟨hx, hb, hml, hown, hts⟩ hK hA hAm (c_Md_expect (E := E) (X := X) (a := a) (d := d) (fp := fp) hT (by omega) false) (cwV 1 hts gX10_whole_X10_expect rfl rfl rfl (by decide +kernel) ⟨Nat.le_of_ble_eq_true rfl, Nat.le_of_ble_eq_true rfl⟩) (nn := 7) rfl (by decide) rfl rfl ⟨0, _, rfl⟩ rfl rfl rfl hl.1 (Nat.le_of_ble_eq_true rfl) dX10_whole_29 (by show _ + 0 ≤ 0; omega) (by show _ + 0 ≤ 0; omega) (fun u2 k2 n2 q2 hx2 => ?_) (fun v u2 k2 n2 hq2 => ?_)
    · obtain ⟨hb2, hu2, rfl, rfl⟩ := hx2
      try simp only [decide_eq_true_eq, decide_eq_false_iff_not, Bool.and_eq_true, Bool.and_eq_false_iff] at hb2
      rw [hu2]
      have he : (qTake tk 256) a = (false, a) := by exact if_neg (by omega)
      exact jJx_out hno hlocks (by show _ ≤ 0; omega) (by show _ ≤ 0; omega) ⟨by rw [he], ⟨_, _, by rw [he]; rfl⟩, rfl, rfl⟩
    exact absurd hq2.1 (by decide)
  · refine jJ_of (fun H locs => lv_aload_n hx hb dX10_whole_9 rfl (lv_at hl 0 rfl)) ?_
    refine jJ_get hx hb (C := RX10) (T := TX10) (N := 19) hts uX10_in_X10_whole hown hK 0 rfl rfl 3 (by decide) (hts (.fieldLink RX10 53 "ValueBlocksModel" "t" "LValueBlocksModel$Text;") (by decide +kernel)) (fun _ h9 => h9) rfl dX10_whole_10 ?_
    refine jJ_get hx hb (C := RX9) (T := TX9) (N := 13) hts uX9_in_X10_whole hown hK 1 rfl rfl 5 (by decide) (hts (.fieldLink RX10 74 "ValueBlocksModel$Text" "wholes" "[Z") (by decide +kernel)) (fun _ h9 => h9) rfl dX10_whole_13 ?_
    refine jJ_of (fun H locs => lv_aload_n hx hb dX10_whole_16 rfl (lv_at hl 0 rfl)) ?_
    refine jJ_get hx hb (C := RX10) (T := TX10) (N := 19) hts uX10_in_X10_whole hown hK 0 rfl rfl 4 (by decide) (hts (.fieldLink RX10 121 "ValueBlocksModel" "at" "I") (by decide +kernel)) (fun _ h9 => h9) rfl dX10_whole_17 ?_
    refine jJ_zald hx hb hK 5 3 (f := V 3) rfl rfl (vp_in_nI (by omega) (by omega)) (x := (bI (decide ((tk 0).getD a 0 = 256)))) (by rw [nI_clamp (by omega)]; exact hV3) dX10_whole_20 ?_
    refine jJ_of2 (fun H locs => jb_if_eq (tgt := 28) hx hb dX10_whole_21 (by decide)) (fun c21 => ?_) (fun c21 => ?_)
    · try simp only [decide_eq_true_eq, decide_eq_false_iff_not, Bool.and_eq_true, Bool.and_eq_false_iff] at c21
      refine jJ_of (fun H locs => lv_iconst (v := (nI 0)) hx hb dX10_whole_28 (by decide)) ?_
      refine jJ_eq (g2 := F0 m 29 ls [.int (bI false), .ref (Z 0)]) (cs2 := [[(Z 0, .inr (8, [E 0, E 1, E 2, .ref (Z 1), .int (nI a), .int (nI d), E 6, E 7, E 8, .ref (Z 2), .int fp, E 11, E 12, E 13, E 14, E 15, E 16, E 17, E 18]))], [(Z 1, .inr (7, [X 0, X 1, .ref (Z 3), .ref (Z 4), .ref (Z 5), .ref (Z 6), X 6, X 7, X 8, X 9, X 10, X 11, X 12]))], [(Z 3, .inl (cB, 32008, .inl (V 0)))], [(Z 5, .inl (cI, 32008, .inl (V 2)))], [(Z 4, .inl (cI, 32008, .inl (V 1)))], [(Z 6, .inl (cZ, 32008, .inl (V 3)))], [(Z 2, .inr (0, []))]]) rfl rfl ?_
      refine jX_callV (As := [.int (bI false)]) (rest := []) (wc := jF (lW cI cB cZ Z (E) (X) V a d fp)) (cs2 := []) (C := RX10) (T := TX10) (N := 19) (ci := 8) [0, 1, 2, 4, 3, 5, 6] [] ⟨hx, hb, hml, hown, hts⟩ hK hA hAm (c_Md_expect (E := E) (X := X) (a := a) (d := d) (fp := fp) hT (by omega) false) (cwV 1 hts gX10_whole_X10_expect rfl rfl rfl (by decide +kernel) ⟨Nat.le_of_ble_eq_true rfl, Nat.le_of_ble_eq_true rfl⟩) (nn := 7) rfl (by decide) rfl rfl ⟨0, _, rfl⟩ rfl rfl rfl hl.1 (Nat.le_of_ble_eq_true rfl) dX10_whole_29 (by show _ + 0 ≤ 0; omega) (by show _ + 0 ≤ 0; omega) (fun u3 k3 n3 q3 hx3 => ?_) (fun v u3 k3 n3 hq3 => ?_)
      · obtain ⟨hb3, hu3, rfl, rfl⟩ := hx3
        try simp only [decide_eq_true_eq, decide_eq_false_iff_not, Bool.and_eq_true, Bool.and_eq_false_iff] at hb3
        rw [hu3]
        have he : (qTake tk 256) a = (false, a) := by exact if_neg (by omega)
        exact jJx_out hno hlocks (by show _ ≤ 0; omega) (by show _ ≤ 0; omega) ⟨by rw [he], ⟨_, _, by rw [he]; rfl⟩, rfl, rfl⟩
      exact absurd hq3.1 (by decide)
    · try simp only [decide_eq_true_eq, decide_eq_false_iff_not, Bool.and_eq_true, Bool.and_eq_false_iff] at c21
      refine jJ_of (fun H locs => lv_iconst (v := (nI 1)) hx hb dX10_whole_24 (by decide)) ?_
      refine jJ_of (fun H locs => lv_goto (tgt := 29) hx hb dX10_whole_25 (by decide)) ?_
      refine jJ_eq (g2 := F0 m 29 ls [.int (bI true), .ref (Z 0)]) (cs2 := [[(Z 0, .inr (8, [E 0, E 1, E 2, .ref (Z 1), .int (nI a), .int (nI d), E 6, E 7, E 8, .ref (Z 2), .int fp, E 11, E 12, E 13, E 14, E 15, E 16, E 17, E 18]))], [(Z 1, .inr (7, [X 0, X 1, .ref (Z 3), .ref (Z 4), .ref (Z 5), .ref (Z 6), X 6, X 7, X 8, X 9, X 10, X 11, X 12]))], [(Z 3, .inl (cB, 32008, .inl (V 0)))], [(Z 5, .inl (cI, 32008, .inl (V 2)))], [(Z 4, .inl (cI, 32008, .inl (V 1)))], [(Z 6, .inl (cZ, 32008, .inl (V 3)))], [(Z 2, .inr (0, []))]]) rfl rfl ?_
      refine jX_callV (As := [.int (bI true)]) (rest := []) (wc := jF (lW cI cB cZ Z (E) (X) V a d fp)) (cs2 := []) (C := RX10) (T := TX10) (N := 19) (ci := 8) [0, 1, 2, 4, 3, 5, 6] [] ⟨hx, hb, hml, hown, hts⟩ hK hA hAm (c_Md_expect (E := E) (X := X) (a := a) (d := d) (fp := fp) hT (by omega) true) (cwV 1 hts gX10_whole_X10_expect rfl rfl rfl (by decide +kernel) ⟨Nat.le_of_ble_eq_true rfl, Nat.le_of_ble_eq_true rfl⟩) (nn := 7) rfl (by decide) rfl rfl ⟨0, _, rfl⟩ rfl rfl rfl hl.1 (Nat.le_of_ble_eq_true rfl) dX10_whole_29 (by show _ + 0 ≤ 0; omega) (by show _ + 0 ≤ 0; omega) (fun u4 k4 n4 q4 hx4 => ?_) (fun v u4 k4 n4 hq4 => ?_)
      · exact absurd hx4.1 (by decide)
      obtain ⟨hb4, rfl, hw4, rfl, rfl⟩ := hq4
      try simp only [decide_eq_true_eq, decide_eq_false_iff_not, Bool.and_eq_true, Bool.and_eq_false_iff] at hb4
      rw [hw4]
      refine jJ_open (xs := [[(Z 0, .inr (8, [E 0, E 1, E 2, .ref (Z 1), .int (nI (a + 1)), .int (nI d), E 6, E 7, E 8, .ref (Z 2), .int fp, E 11, E 12, E 13, E 14, E 15, E 16, E 17, E 18]))], [(Z 1, .inr (7, [X 0, X 1, .ref (Z 3), .ref (Z 4), .ref (Z 5), .ref (Z 6), X 6, X 7, X 8, X 9, X 10, X 11, X 12]))], [(Z 3, .inl (cB, 32008, .inl (V 0)))], [(Z 4, .inl (cI, 32008, .inl (V 1)))], [(Z 5, .inl (cI, 32008, .inl (V 2)))], [(Z 6, .inl (cZ, 32008, .inl (V 3)))], [(Z 2, .inr (0, []))]]) (r := []) (cs2 := [[(Z 0, .inr (8, [E 0, E 1, E 2, .ref (Z 1), .int (nI (a + 1)), .int (nI d), E 6, E 7, E 8, .ref (Z 2), .int fp, E 11, E 12, E 13, E 14, E 15, E 16, E 17, E 18]))], [(Z 1, .inr (7, [X 0, X 1, .ref (Z 3), .ref (Z 4), .ref (Z 5), .ref (Z 6), X 6, X 7, X 8, X 9, X 10, X 11, X 12]))], [(Z 3, .inl (cB, 32008, .inl (V 0)))], [(Z 4, .inl (cI, 32008, .inl (V 1)))], [(Z 5, .inl (cI, 32008, .inl (V 2)))], [(Z 6, .inl (cZ, 32008, .inl (V 3)))], [(Z 2, .inr (0, []))]]) rfl ?_
      refine jJ_eq (g2 := F0 m 32 ls []) (cs2 := [[(Z 0, .inr (8, [E 0, E 1, E 2, .ref (Z 1), .int (nI (a + 1)), .int (nI d), E 6, E 7, E 8, .ref (Z 2), .int fp, E 11, E 12, E 13, E 14, E 15, E 16, E 17, E 18]))], [(Z 1, .inr (7, [X 0, X 1, .ref (Z 3), .ref (Z 4), .ref (Z 5), .ref (Z 6), X 6, X 7, X 8, X 9, X 10, X 11, X 12]))], [(Z 3, .inl (cB, 32008, .inl (V 0)))], [(Z 4, .inl (cI, 32008, .inl (V 1)))], [(Z 5, .inl (cI, 32008, .inl (V 2)))], [(Z 6, .inl (cZ, 32008, .inl (V 3)))], [(Z 2, .inr (0, []))]]) rfl rfl ?_
      have he : (qTake tk 256) a = (true, a + 1) := by exact if_pos (by omega)
      exact jJ_toX (jJ_vret hx hb hr hlocks dX10_whole_32 (by show _ ≤ 0; omega) (by show _ ≤ 0; omega) ⟨by rw [he], rfl, by rw [he]; rfl, rfl, rfl⟩)
theorem c_Md_whole9 {Z : Nat → Nat} {E X : Nat → Value} {V : Nat → Nat → Int32} {tk : Nat → List Nat} (hT : tV tk V) (hE : tE tk) {d : Nat} : cLk D G cI cJ cB cZ l yX10_whole wsX10_whole 2 80 Z E X V tk d (qTake tk 256) := fun a fp ha => c_Md_whole hT hE ha
theorem uX10_in_X10_deeper : ∀ w ∈ u_ws RX10 TX10 19, w ∈ wsX10_deeper := by decide +kernel
set_option maxHeartbeats 4000000 in
set_option maxRecDepth 100000 in
/-- deeper() -/
theorem c_Md_deeper {Z : Nat → Nat} {E X : Nat → Value} {V : Nat → Nat → Int32} {tk : Nat → List Nat} {a d : Nat} {fp : Int32} (hT : tV tk V) (ha : a + 1 ≤ (tk 0).length) (hd : d ≤ 20) : HX l yX10_deeper wsX10_deeper ({ frames := 1, cells := 0, slots := 0, locals := 40 } : Room) D G (jT cI cJ cB cZ) [.ref (Z 0)] (jF (lW cI cB cZ Z E X V a d fp)) (fun v u k n => d < 20 ∧ v = none ∧ u = jF (lW cI cB cZ Z E X V a (d + 1) fp) ∧ k = 0 ∧ n = 0) (fun u k n => d = 20 ∧ u = jF (lW cI cB cZ Z E X V a d (nI ((tk 1).getD a 0))) ∧ k = 0 ∧ n = 0) := by
  refine HX_of (cc := cX10_deeper) (maxL := 1) (ret := none) (lv := [(0, .ref (Z 0))]) (by decide) rfl rfl (Nat.le_of_ble_eq_true rfl) (fun p e s m args below meth c A0 ls hx hb hr hts hown hlocks hml hno hK hA hAm hl => ?_)
  refine jJ_open (xs := [[(Z 0, .inr (8, [E 0, E 1, E 2, .ref (Z 1), .int (nI a), .int (nI d), E 6, E 7, E 8, .ref (Z 2), .int fp, E 11, E 12, E 13, E 14, E 15, E 16, E 17, E 18]))], [(Z 1, .inr (7, [X 0, X 1, .ref (Z 3), .ref (Z 4), .ref (Z 5), .ref (Z 6), X 6, X 7, X 8, X 9, X 10, X 11, X 12]))], [(Z 3, .inl (cB, 32008, .inl (V 0)))], [(Z 4, .inl (cI, 32008, .inl (V 1)))], [(Z 5, .inl (cI, 32008, .inl (V 2)))], [(Z 6, .inl (cZ, 32008, .inl (V 3)))], [(Z 2, .inr (0, []))]]) (r := []) (cs2 := [[(Z 0, .inr (8, [E 0, E 1, E 2, .ref (Z 1), .int (nI a), .int (nI d), E 6, E 7, E 8, .ref (Z 2), .int fp, E 11, E 12, E 13, E 14, E 15, E 16, E 17, E 18]))], [(Z 1, .inr (7, [X 0, X 1, .ref (Z 3), .ref (Z 4), .ref (Z 5), .ref (Z 6), X 6, X 7, X 8, X 9, X 10, X 11, X 12]))], [(Z 3, .inl (cB, 32008, .inl (V 0)))], [(Z 4, .inl (cI, 32008, .inl (V 1)))], [(Z 5, .inl (cI, 32008, .inl (V 2)))], [(Z 6, .inl (cZ, 32008, .inl (V 3)))], [(Z 2, .inr (0, []))]]) rfl ?_
  refine jJ_of (fun H locs => lv_aload_n hx hb dX10_deeper_0 rfl (lv_at hl 0 rfl)) ?_
  refine jJ_get hx hb (C := RX10) (T := TX10) (N := 19) hts uX10_in_X10_deeper hown hK 0 rfl rfl 5 (by decide) (hts (.fieldLink RX10 141 "ValueBlocksModel" "depth" "I") (by decide +kernel)) (fun _ h9 => h9) rfl dX10_deeper_1 ?_
  refine jJ_of (fun H locs => lv_bipush (v := (nI 20)) hx hb dX10_deeper_4 (by decide)) ?_
  refine jJ_of2 (fun H locs => jn_icmp_ne (tgt := 14) hx hb dX10_deeper_6 (by decide) (by omega) (by omega)) (fun c6 => ?_) (fun c6 => ?_)
  · refine jJ_of (fun H locs => lv_aload_n hx hb dX10_deeper_14 rfl (lv_at hl 0 rfl)) ?_
    refine jJ_of (fun H locs => lv_dup hx hb dX10_deeper_15 rfl) ?_
    refine jJ_get hx hb (C := RX10) (T := TX10) (N := 19) hts uX10_in_X10_deeper hown hK 0 rfl rfl 5 (by decide) (hts (.fieldLink RX10 141 "ValueBlocksModel" "depth" "I") (by decide +kernel)) (fun _ h9 => h9) rfl dX10_deeper_16 ?_
    refine jJ_of (fun H locs => lv_iconst (v := (nI 1)) hx hb dX10_deeper_19 (by decide)) ?_
    refine jJ_of (fun H locs => jn_iadd hx hb dX10_deeper_20) ?_
    refine jJ_put hx hb (C := RX10) (T := TX10) (N := 19) (ty := .int) (v := .int (nI (d + 1))) hts uX10_in_X10_deeper tyX10 tyX10_ok nmX10 hown hK 0 rfl rfl 5 (by decide) (hts (.fieldLink RX10 141 "ValueBlocksModel" "depth" "I") (by decide +kernel)) (fun _ h9 => h9) rfl (by decide +kernel) rfl rfl (Nat.le_of_ble_eq_true rfl) dX10_deeper_21 (cs2 := [[(Z 0, .inr (8, [E 0, E 1, E 2, .ref (Z 1), .int (nI a), .int (nI (d + 1)), E 6, E 7, E 8, .ref (Z 2), .int fp, E 11, E 12, E 13, E 14, E 15, E 16, E 17, E 18]))], [(Z 1, .inr (7, [X 0, X 1, .ref (Z 3), .ref (Z 4), .ref (Z 5), .ref (Z 6), X 6, X 7, X 8, X 9, X 10, X 11, X 12]))], [(Z 3, .inl (cB, 32008, .inl (V 0)))], [(Z 4, .inl (cI, 32008, .inl (V 1)))], [(Z 5, .inl (cI, 32008, .inl (V 2)))], [(Z 6, .inl (cZ, 32008, .inl (V 3)))], [(Z 2, .inr (0, []))]]) rfl ?_
    exact jJ_toX (jJ_vret hx hb hr hlocks dX10_deeper_24 (by show _ ≤ 0; omega) (by show _ ≤ 0; omega) ⟨by omega, rfl, rfl, rfl, rfl⟩)
  · refine jJ_of (fun H locs => lv_aload_n hx hb dX10_deeper_9 rfl (lv_at hl 0 rfl)) ?_
    refine jJ_callV (As := []) (rest := []) (wc := jF (lW cI cB cZ Z (E) (X) V a d fp)) (cs2 := []) (C := RX10) (T := TX10) (N := 19) (ci := 8) [0, 1, 2, 3, 4, 5, 6] [] ⟨hx, hb, hml, hown, hts⟩ hK hA hAm (c_Md_wrong (E := E) (X := X) (a := a) (d := d) (fp := fp) hT (by omega)) (cwV 0 hts gX10_deeper_X10_wrong rfl rfl rfl (by decide +kernel) ⟨Nat.le_of_ble_eq_true rfl, Nat.le_of_ble_eq_true rfl⟩) (nn := 7) rfl (by decide) rfl rfl ⟨0, _, rfl⟩ rfl rfl rfl hl.1 (Nat.le_of_ble_eq_true rfl) dX10_deeper_10 (by show _ + 0 ≤ 0; omega) (by show _ + 0 ≤ 0; omega) (fun v u1 k1 n1 hq1 => ?_)
    obtain ⟨rfl, hw1, rfl, rfl⟩ := hq1
    rw [hw1]
    refine jJ_open (xs := [[(Z 0, .inr (8, [E 0, E 1, E 2, .ref (Z 1), .int (nI a), .int (nI d), E 6, E 7, E 8, .ref (Z 2), .int (nI ((tk 1).getD a 0)), E 11, E 12, E 13, E 14, E 15, E 16, E 17, E 18]))], [(Z 1, .inr (7, [X 0, X 1, .ref (Z 3), .ref (Z 4), .ref (Z 5), .ref (Z 6), X 6, X 7, X 8, X 9, X 10, X 11, X 12]))], [(Z 3, .inl (cB, 32008, .inl (V 0)))], [(Z 4, .inl (cI, 32008, .inl (V 1)))], [(Z 5, .inl (cI, 32008, .inl (V 2)))], [(Z 6, .inl (cZ, 32008, .inl (V 3)))], [(Z 2, .inr (0, []))]]) (r := []) (cs2 := [[(Z 0, .inr (8, [E 0, E 1, E 2, .ref (Z 1), .int (nI a), .int (nI d), E 6, E 7, E 8, .ref (Z 2), .int (nI ((tk 1).getD a 0)), E 11, E 12, E 13, E 14, E 15, E 16, E 17, E 18]))], [(Z 1, .inr (7, [X 0, X 1, .ref (Z 3), .ref (Z 4), .ref (Z 5), .ref (Z 6), X 6, X 7, X 8, X 9, X 10, X 11, X 12]))], [(Z 3, .inl (cB, 32008, .inl (V 0)))], [(Z 4, .inl (cI, 32008, .inl (V 1)))], [(Z 5, .inl (cI, 32008, .inl (V 2)))], [(Z 6, .inl (cZ, 32008, .inl (V 3)))], [(Z 2, .inr (0, []))]]) rfl ?_
    refine jJ_eq (g2 := F0 m 13 ls [.ref (Z 2)]) (cs2 := [[(Z 0, .inr (8, [E 0, E 1, E 2, .ref (Z 1), .int (nI a), .int (nI d), E 6, E 7, E 8, .ref (Z 2), .int (nI ((tk 1).getD a 0)), E 11, E 12, E 13, E 14, E 15, E 16, E 17, E 18]))], [(Z 1, .inr (7, [X 0, X 1, .ref (Z 3), .ref (Z 4), .ref (Z 5), .ref (Z 6), X 6, X 7, X 8, X 9, X 10, X 11, X 12]))], [(Z 3, .inl (cB, 32008, .inl (V 0)))], [(Z 4, .inl (cI, 32008, .inl (V 1)))], [(Z 5, .inl (cI, 32008, .inl (V 2)))], [(Z 6, .inl (cZ, 32008, .inl (V 3)))], [(Z 2, .inr (0, []))]]) rfl rfl ?_
    refine jJ_athrow hx hb hK 6 rfl dX10_deeper_13 ?_
    exact jJx_out hno hlocks (by show _ ≤ 0; omega) (by show _ ≤ 0; omega) ⟨by omega, rfl, rfl, rfl⟩
theorem qBra_no {tk : Nat → List Nat} {N r a : Nat} (h : ¬ (tk 0).getD a 0 = 91) : qBra tk N r a = (false, a) := by
  cases r with
  | zero => rfl
  | succ r =>
    show qThen (qThen (qTake tk 91 a) (qTes tk N r)) (qTake tk 93) = _
    rw [show qTake tk 91 a = (false, a) from if_neg h]
    rfl
theorem qBra_s {tk : Nat → List Nat} {N r a : Nat} (h : (tk 0).getD a 0 = 91) : qBra tk N (r + 1) a = qThen (qTes tk N r (a + 1)) (qTake tk 93) := by
  show qThen (qThen (qTake tk 91 a) (qTes tk N r)) (qTake tk 93) = _
  rw [show qTake tk 91 a = (true, a + 1) from if_pos h]
  rfl
theorem uX10_in_X10_bracket : ∀ w ∈ u_ws RX10 TX10 19, w ∈ wsX10_bracket := by decide +kernel
set_option maxHeartbeats 4000000 in
set_option maxRecDepth 100000 in
/-- bracket() -/
theorem c_Md_bracket {Z : Nat → Nat} {E X : Nat → Value} {V : Nat → Nat → Int32} {tk : Nat → List Nat} {a d : Nat} {fp : Int32} (hT : tV tk V) (hE : tE tk) (ha : a + 1 ≤ (tk 0).length) {N r : Nat} (hd : d + r = 20) (hTe : ∀ r2, r = r2 + 1 → cLk D G cI cJ cB cZ l yX10_lookTest wsX10_lookTest (6 * r2 + 13) (240 * r2 + 520) Z E X V tk (d + 1) (qTes tk N r2)) : HX l yX10_bracket wsX10_bracket ({ frames := 6 * r + 8, cells := 0, slots := 0, locals := 240 * r + 320 } : Room) D G (jT cI cJ cB cZ) [.ref (Z 0)] (jF (lW cI cB cZ Z E X V a d fp)) (fun v u k n => ((qBra tk N r) a).1 = true ∧ v = none ∧ u = jF (lW cI cB cZ Z E X V ((qBra tk N r) a).2 d fp) ∧ k = 0 ∧ n = 0) (fun u k n => ((qBra tk N r) a).1 = false ∧ (∃ a2 d2 : Nat, u = jF (lW cI cB cZ Z E X V a2 d2 (nI ((tk 1).getD ((qBra tk N r) a).2 0)))) ∧ k = 0 ∧ n = 0) := by
  refine HX_of (cc := cX10_bracket) (maxL := 1) (ret := none) (lv := [(0, .ref (Z 0))]) (by decide) rfl rfl (Nat.le_of_ble_eq_true rfl) (fun p e s m args below meth c A0 ls hx hb hr hts hown hlocks hml hno hK hA hAm hl => ?_)
  refine jJ_open (xs := [[(Z 0, .inr (8, [E 0, E 1, E 2, .ref (Z 1), .int (nI a), .int (nI d), E 6, E 7, E 8, .ref (Z 2), .int fp, E 11, E 12, E 13, E 14, E 15, E 16, E 17, E 18]))], [(Z 1, .inr (7, [X 0, X 1, .ref (Z 3), .ref (Z 4), .ref (Z 5), .ref (Z 6), X 6, X 7, X 8, X 9, X 10, X 11, X 12]))], [(Z 3, .inl (cB, 32008, .inl (V 0)))], [(Z 4, .inl (cI, 32008, .inl (V 1)))], [(Z 5, .inl (cI, 32008, .inl (V 2)))], [(Z 6, .inl (cZ, 32008, .inl (V 3)))], [(Z 2, .inr (0, []))]]) (r := []) (cs2 := [[(Z 0, .inr (8, [E 0, E 1, E 2, .ref (Z 1), .int (nI a), .int (nI d), E 6, E 7, E 8, .ref (Z 2), .int fp, E 11, E 12, E 13, E 14, E 15, E 16, E 17, E 18]))], [(Z 1, .inr (7, [X 0, X 1, .ref (Z 3), .ref (Z 4), .ref (Z 5), .ref (Z 6), X 6, X 7, X 8, X 9, X 10, X 11, X 12]))], [(Z 3, .inl (cB, 32008, .inl (V 0)))], [(Z 4, .inl (cI, 32008, .inl (V 1)))], [(Z 5, .inl (cI, 32008, .inl (V 2)))], [(Z 6, .inl (cZ, 32008, .inl (V 3)))], [(Z 2, .inr (0, []))]]) rfl ?_
  have hL9 := hT.1
  have hL8 := hE.lt (a := a)
  refine jJ_of (fun H locs => lv_aload_n hx hb dX10_bracket_0 rfl (lv_at hl 0 rfl)) ?_
  refine jJ_of (fun H locs => lv_bipush (v := (nI 91)) hx hb dX10_bracket_1 (by decide)) ?_
  refine jJ_callV (As := [.int (nI 91)]) (rest := []) (wc := jF (kWd cI cB Z (lsV [E 0, E 1, E 2, .null, .null, .int (nI d), E 6, E 7, E 8, .ref (Z 2), .int fp, E 11, E 12, E 13, E 14, E 15, E 16, E 17, E 18]) (lsV [X 0, X 1, .null, .ref (Z 4), .null, .ref (Z 6), X 6, X 7, X 8, X 9, X 10, X 11, X 12]) V a)) (cs2 := [[(Z 4, .inl (cI, 32008, .inl (V 1)))], [(Z 6, .inl (cZ, 32008, .inl (V 3)))], [(Z 2, .inr (0, []))]]) (C := RX10) (T := TX10) (N := 19) (ci := 8) [0, 1, 2, 4] [3, 5, 6] ⟨hx, hb, hml, hown, hts⟩ hK hA hAm (c_Md_isSign (E := lsV [E 0, E 1, E 2, .null, .null, .int (nI d), E 6, E 7, E 8, .ref (Z 2), .int fp, E 11, E 12, E 13, E 14, E 15, E 16, E 17, E 18]) (X := lsV [X 0, X 1, .null, .ref (Z 4), .null, .ref (Z 6), X 6, X 7, X 8, X 9, X 10, X 11, X 12]) (a := a) hT (by omega) 91 (by decide)) (cwV 1 hts gX10_bracket_X10_isSign rfl rfl rfl (by decide +kernel) ⟨by show (1) + 1 ≤ 6 * r + 8; omega, by show 8 + (2 + 11) + (40) ≤ 240 * r + 320; omega⟩) (nn := 7) rfl (by decide) rfl rfl ⟨0, _, rfl⟩ rfl rfl rfl hl.1 (Nat.le_of_ble_eq_true rfl) dX10_bracket_3 (by show _ + 0 ≤ 0; omega) (by show _ + 0 ≤ 0; omega) (fun v u1 k1 n1 hq1 => ?_)
  obtain ⟨rfl, hw1, rfl, rfl⟩ := hq1
  rw [hw1]
  refine jJ_open (xs := [[(Z 0, .inr (8, [E 0, E 1, E 2, .ref (Z 1), .int (nI a), .int (nI d), E 6, E 7, E 8, .ref (Z 2), .int fp, E 11, E 12, E 13, E 14, E 15, E 16, E 17, E 18]))], [(Z 1, .inr (7, [X 0, X 1, .ref (Z 3), .ref (Z 4), .ref (Z 5), .ref (Z 6), X 6, X 7, X 8, X 9, X 10, X 11, X 12]))], [(Z 3, .inl (cB, 32008, .inl (V 0)))], [(Z 5, .inl (cI, 32008, .inl (V 2)))]]) (r := [[(Z 4, .inl (cI, 32008, .inl (V 1)))], [(Z 6, .inl (cZ, 32008, .inl (V 3)))], [(Z 2, .inr (0, []))]]) (cs2 := [[(Z 0, .inr (8, [E 0, E 1, E 2, .ref (Z 1), .int (nI a), .int (nI d), E 6, E 7, E 8, .ref (Z 2), .int fp, E 11, E 12, E 13, E 14, E 15, E 16, E 17, E 18]))], [(Z 1, .inr (7, [X 0, X 1, .ref (Z 3), .ref (Z 4), .ref (Z 5), .ref (Z 6), X 6, X 7, X 8, X 9, X 10, X 11, X 12]))], [(Z 3, .inl (cB, 32008, .inl (V 0)))], [(Z 5, .inl (cI, 32008, .inl (V 2)))], [(Z 4, .inl (cI, 32008, .inl (V 1)))], [(Z 6, .inl (cZ, 32008, .inl (V 3)))], [(Z 2, .inr (0, []))]]) rfl ?_
  refine jJ_eq (g2 := F0 m 6 ls [.int (bI (decide ((tk 0).getD a 0 = 91)))]) (cs2 := [[(Z 0, .inr (8, [E 0, E 1, E 2, .ref (Z 1), .int (nI a), .int (nI d), E 6, E 7, E 8, .ref (Z 2), .int fp, E 11, E 12, E 13, E 14, E 15, E 16, E 17, E 18]))], [(Z 1, .inr (7, [X 0, X 1, .ref (Z 3), .ref (Z 4), .ref (Z 5), .ref (Z 6), X 6, X 7, X 8, X 9, X 10, X 11, X 12]))], [(Z 3, .inl (cB, 32008, .inl (V 0)))], [(Z 5, .inl (cI, 32008, .inl (V 2)))], [(Z 4, .inl (cI, 32008, .inl (V 1)))], [(Z 6, .inl (cZ, 32008, .inl (V 3)))], [(Z 2, .inr (0, []))]]) rfl rfl ?_
  refine jJ_of2 (fun H locs => jb_if_ne (tgt := 14) hx hb dX10_bracket_6 (by decide)) (fun c6 => ?_) (fun c6 => ?_)
  · try simp only [decide_eq_true_eq, decide_eq_false_iff_not, Bool.and_eq_true, Bool.and_eq_false_iff] at c6
    refine jJ_of (fun H locs => lv_aload_n hx hb dX10_bracket_14 rfl (lv_at hl 0 rfl)) ?_
    refine jX_callV (As := []) (rest := []) (wc := jF (lW cI cB cZ Z (E) (X) V a d fp)) (cs2 := []) (C := RX10) (T := TX10) (N := 19) (ci := 8) [0, 1, 2, 4, 3, 5, 6] [] ⟨hx, hb, hml, hown, hts⟩ hK hA hAm (c_Md_deeper (E := E) (X := X) (a := a) (d := d) (fp := fp) hT (by omega) (by omega)) (cwV 0 hts gX10_bracket_X10_deeper rfl rfl rfl (by decide +kernel) ⟨by show (1) + 1 ≤ 6 * r + 8; omega, by show 8 + (1 + 11) + (40) ≤ 240 * r + 320; omega⟩) (nn := 7) rfl (by decide) rfl rfl ⟨0, _, rfl⟩ rfl rfl rfl hl.1 (Nat.le_of_ble_eq_true rfl) dX10_bracket_15 (by show _ + 0 ≤ 0; omega) (by show _ + 0 ≤ 0; omega) (fun u2 k2 n2 q2 hx2 => ?_) (fun v u2 k2 n2 hq2 => ?_)
    · obtain ⟨hb2, hu2, rfl, rfl⟩ := hx2
      rw [hu2]
      have he : (qBra tk N r) a = (false, a) := by rw [show r = 0 by omega]; rfl
      exact jJx_out hno hlocks (by show _ ≤ 0; omega) (by show _ ≤ 0; omega) ⟨by rw [he], ⟨_, _, by rw [he]; rfl⟩, rfl, rfl⟩
    obtain ⟨hb2, rfl, hw2, rfl, rfl⟩ := hq2
    rw [hw2]
    refine jJ_open (xs := [[(Z 0, .inr (8, [E 0, E 1, E 2, .ref (Z 1), .int (nI a), .int (nI (d + 1)), E 6, E 7, E 8, .ref (Z 2), .int fp, E 11, E 12, E 13, E 14, E 15, E 16, E 17, E 18]))], [(Z 1, .inr (7, [X 0, X 1, .ref (Z 3), .ref (Z 4), .ref (Z 5), .ref (Z 6), X 6, X 7, X 8, X 9, X 10, X 11, X 12]))], [(Z 3, .inl (cB, 32008, .inl (V 0)))], [(Z 4, .inl (cI, 32008, .inl (V 1)))], [(Z 5, .inl (cI, 32008, .inl (V 2)))], [(Z 6, .inl (cZ, 32008, .inl (V 3)))], [(Z 2, .inr (0, []))]]) (r := []) (cs2 := [[(Z 0, .inr (8, [E 0, E 1, E 2, .ref (Z 1), .int (nI a), .int (nI (d + 1)), E 6, E 7, E 8, .ref (Z 2), .int fp, E 11, E 12, E 13, E 14, E 15, E 16, E 17, E 18]))], [(Z 1, .inr (7, [X 0, X 1, .ref (Z 3), .ref (Z 4), .ref (Z 5), .ref (Z 6), X 6, X 7, X 8, X 9, X 10, X 11, X 12]))], [(Z 3, .inl (cB, 32008, .inl (V 0)))], [(Z 4, .inl (cI, 32008, .inl (V 1)))], [(Z 5, .inl (cI, 32008, .inl (V 2)))], [(Z 6, .inl (cZ, 32008, .inl (V 3)))], [(Z 2, .inr (0, []))]]) rfl ?_
    obtain ⟨r2, hr2⟩ : ∃ r2, r = r2 + 1 := ⟨r - 1, by omega⟩
    refine jJ_eq (g2 := F0 m 18 ls []) (cs2 := [[(Z 0, .inr (8, [E 0, E 1, E 2, .ref (Z 1), .int (nI a), .int (nI (d + 1)), E 6, E 7, E 8, .ref (Z 2), .int fp, E 11, E 12, E 13, E 14, E 15, E 16, E 17, E 18]))], [(Z 1, .inr (7, [X 0, X 1, .ref (Z 3), .ref (Z 4), .ref (Z 5), .ref (Z 6), X 6, X 7, X 8, X 9, X 10, X 11, X 12]))], [(Z 3, .inl (cB, 32008, .inl (V 0)))], [(Z 4, .inl (cI, 32008, .inl (V 1)))], [(Z 5, .inl (cI, 32008, .inl (V 2)))], [(Z 6, .inl (cZ, 32008, .inl (V 3)))], [(Z 2, .inr (0, []))]]) rfl rfl ?_
    refine jJ_of (fun H locs => lv_aload_n hx hb dX10_bracket_18 rfl (lv_at hl 0 rfl)) ?_
    refine jJ_of (fun H locs => lv_dup hx hb dX10_bracket_19 rfl) ?_
    refine jJ_get hx hb (C := RX10) (T := TX10) (N := 19) hts uX10_in_X10_bracket hown hK 0 rfl rfl 4 (by decide) (hts (.fieldLink RX10 121 "ValueBlocksModel" "at" "I") (by decide +kernel)) (fun _ h9 => h9) rfl dX10_bracket_20 ?_
    refine jJ_of (fun H locs => lv_iconst (v := (nI 1)) hx hb dX10_bracket_23 (by decide)) ?_
    refine jJ_of (fun H locs => jn_iadd hx hb dX10_bracket_24) ?_
    refine jJ_put hx hb (C := RX10) (T := TX10) (N := 19) (ty := .int) (v := .int (nI (a + 1))) hts uX10_in_X10_bracket tyX10 tyX10_ok nmX10 hown hK 0 rfl rfl 4 (by decide) (hts (.fieldLink RX10 121 "ValueBlocksModel" "at" "I") (by decide +kernel)) (fun _ h9 => h9) rfl (by decide +kernel) rfl rfl (Nat.le_of_ble_eq_true rfl) dX10_bracket_25 (cs2 := [[(Z 0, .inr (8, [E 0, E 1, E 2, .ref (Z 1), .int (nI (a + 1)), .int (nI (d + 1)), E 6, E 7, E 8, .ref (Z 2), .int fp, E 11, E 12, E 13, E 14, E 15, E 16, E 17, E 18]))], [(Z 1, .inr (7, [X 0, X 1, .ref (Z 3), .ref (Z 4), .ref (Z 5), .ref (Z 6), X 6, X 7, X 8, X 9, X 10, X 11, X 12]))], [(Z 3, .inl (cB, 32008, .inl (V 0)))], [(Z 4, .inl (cI, 32008, .inl (V 1)))], [(Z 5, .inl (cI, 32008, .inl (V 2)))], [(Z 6, .inl (cZ, 32008, .inl (V 3)))], [(Z 2, .inr (0, []))]]) rfl ?_
    refine jJ_of (fun H locs => lv_aload_n hx hb dX10_bracket_28 rfl (lv_at hl 0 rfl)) ?_
    refine jX_callV (As := []) (rest := []) (wc := jF (lW cI cB cZ Z (E) (X) V (a + 1) (d + 1) fp)) (cs2 := []) (C := RX10) (T := TX10) (N := 19) (ci := 8) [0, 1, 2, 3, 4, 5, 6] [] ⟨hx, hb, hml, hown, hts⟩ hK hA hAm (hTe r2 hr2 (a + 1) fp (by omega)) (cwV 0 hts gX10_bracket_X10_lookTest rfl rfl rfl (by decide +kernel) ⟨by show (6 * r2 + 13) + 1 ≤ 6 * r + 8; omega, by show 8 + (1 + 11) + (240 * r2 + 520) ≤ 240 * r + 320; omega⟩) (nn := 7) rfl (by decide) rfl rfl ⟨0, _, rfl⟩ rfl rfl rfl hl.1 (Nat.le_of_ble_eq_true rfl) dX10_bracket_29 (by show _ + 0 ≤ 0; omega) (by show _ + 0 ≤ 0; omega) (fun u3 k3 n3 q3 hx3 => ?_) (fun v u3 k3 n3 hq3 => ?_)
    · obtain ⟨hb3, ⟨a2_3, d2_3, hu3⟩, rfl, rfl⟩ := hx3
      obtain ⟨aa3, hea3⟩ : ∃ x, ((qTes tk N r2) (a + 1)).2 = x := ⟨_, rfl⟩
      rw [hea3] at hu3
      have he3 : (qTes tk N r2) (a + 1) = (false, aa3) := Prod.ext hb3 hea3
      rw [hu3]
      have he : (qBra tk N r) a = (false, aa3) := by rw [hr2, qBra_s (by omega)]; simp only [he3, qThen_t, qThen_f]
      exact jJx_out hno hlocks (by show _ ≤ 0; omega) (by show _ ≤ 0; omega) ⟨by rw [he], ⟨_, _, by rw [he]; rfl⟩, rfl, rfl⟩
    obtain ⟨hb3, rfl, hw3, rfl, rfl⟩ := hq3
    have hqb3 : (a + 1) ≤ ((qTes tk N r2) (a + 1)).2 ∧ ((qTes tk N r2) (a + 1)).2 + 1 ≤ (tk 0).length := qb_te hE (qb_sum hE N r2) (a + 1) (by omega)
    obtain ⟨aa3, hea3⟩ : ∃ x, ((qTes tk N r2) (a + 1)).2 = x := ⟨_, rfl⟩
    rw [hea3] at hw3 hqb3
    have he3 : (qTes tk N r2) (a + 1) = (true, aa3) := Prod.ext hb3 hea3
    rw [hw3]
    refine jJ_open (xs := [[(Z 0, .inr (8, [E 0, E 1, E 2, .ref (Z 1), .int (nI aa3), .int (nI (d + 1)), E 6, E 7, E 8, .ref (Z 2), .int fp, E 11, E 12, E 13, E 14, E 15, E 16, E 17, E 18]))], [(Z 1, .inr (7, [X 0, X 1, .ref (Z 3), .ref (Z 4), .ref (Z 5), .ref (Z 6), X 6, X 7, X 8, X 9, X 10, X 11, X 12]))], [(Z 3, .inl (cB, 32008, .inl (V 0)))], [(Z 4, .inl (cI, 32008, .inl (V 1)))], [(Z 5, .inl (cI, 32008, .inl (V 2)))], [(Z 6, .inl (cZ, 32008, .inl (V 3)))], [(Z 2, .inr (0, []))]]) (r := []) (cs2 := [[(Z 0, .inr (8, [E 0, E 1, E 2, .ref (Z 1), .int (nI aa3), .int (nI (d + 1)), E 6, E 7, E 8, .ref (Z 2), .int fp, E 11, E 12, E 13, E 14, E 15, E 16, E 17, E 18]))], [(Z 1, .inr (7, [X 0, X 1, .ref (Z 3), .ref (Z 4), .ref (Z 5), .ref (Z 6), X 6, X 7, X 8, X 9, X 10, X 11, X 12]))], [(Z 3, .inl (cB, 32008, .inl (V 0)))], [(Z 4, .inl (cI, 32008, .inl (V 1)))], [(Z 5, .inl (cI, 32008, .inl (V 2)))], [(Z 6, .inl (cZ, 32008, .inl (V 3)))], [(Z 2, .inr (0, []))]]) rfl ?_
    refine jJ_eq (g2 := F0 m 32 ls []) (cs2 := [[(Z 0, .inr (8, [E 0, E 1, E 2, .ref (Z 1), .int (nI aa3), .int (nI (d + 1)), E 6, E 7, E 8, .ref (Z 2), .int fp, E 11, E 12, E 13, E 14, E 15, E 16, E 17, E 18]))], [(Z 1, .inr (7, [X 0, X 1, .ref (Z 3), .ref (Z 4), .ref (Z 5), .ref (Z 6), X 6, X 7, X 8, X 9, X 10, X 11, X 12]))], [(Z 3, .inl (cB, 32008, .inl (V 0)))], [(Z 4, .inl (cI, 32008, .inl (V 1)))], [(Z 5, .inl (cI, 32008, .inl (V 2)))], [(Z 6, .inl (cZ, 32008, .inl (V 3)))], [(Z 2, .inr (0, []))]]) rfl rfl ?_
    refine jJ_of (fun H locs => lv_aload_n hx hb dX10_bracket_32 rfl (lv_at hl 0 rfl)) ?_
    refine jJ_of (fun H locs => lv_aload_n hx hb dX10_bracket_33 rfl (lv_at hl 0 rfl)) ?_
    refine jJ_of (fun H locs => lv_bipush (v := (nI 93)) hx hb dX10_bracket_34 (by decide)) ?_
    refine jJ_callV (As := [.int (nI 93)]) (rest := [.ref (Z 0)]) (wc := jF (kWd cI cB Z (lsV [E 0, E 1, E 2, .null, .null, .int (nI (d + 1)), E 6, E 7, E 8, .ref (Z 2), .int fp, E 11, E 12, E 13, E 14, E 15, E 16, E 17, E 18]) (lsV [X 0, X 1, .null, .ref (Z 4), .null, .ref (Z 6), X 6, X 7, X 8, X 9, X 10, X 11, X 12]) V aa3)) (cs2 := [[(Z 4, .inl (cI, 32008, .inl (V 1)))], [(Z 6, .inl (cZ, 32008, .inl (V 3)))], [(Z 2, .inr (0, []))]]) (C := RX10) (T := TX10) (N := 19) (ci := 8) [0, 1, 2, 4] [3, 5, 6] ⟨hx, hb, hml, hown, hts⟩ hK hA hAm (c_Md_isSign (E := lsV [E 0, E 1, E 2, .null, .null, .int (nI (d + 1)), E 6, E 7, E 8, .ref (Z 2), .int fp, E 11, E 12, E 13, E 14, E 15, E 16, E 17, E 18]) (X := lsV [X 0, X 1, .null, .ref (Z 4), .null, .ref (Z 6), X 6, X 7, X 8, X 9, X 10, X 11, X 12]) (a := aa3) hT (by omega) 93 (by decide)) (cwV 1 hts gX10_bracket_X10_isSign rfl rfl rfl (by decide +kernel) ⟨by show (1) + 1 ≤ 6 * r + 8; omega, by show 8 + (2 + 11) + (40) ≤ 240 * r + 320; omega⟩) (nn := 7) rfl (by decide) rfl rfl ⟨0, _, rfl⟩ rfl rfl rfl hl.1 (Nat.le_of_ble_eq_true rfl) dX10_bracket_36 (by show _ + 0 ≤ 0; omega) (by show _ + 0 ≤ 0; omega) (fun v u4 k4 n4 hq4 => ?_)
    obtain ⟨rfl, hw4, rfl, rfl⟩ := hq4
    rw [hw4]
    refine jJ_open (xs := [[(Z 0, .inr (8, [E 0, E 1, E 2, .ref (Z 1), .int (nI aa3), .int (nI (d + 1)), E 6, E 7, E 8, .ref (Z 2), .int fp, E 11, E 12, E 13, E 14, E 15, E 16, E 17, E 18]))], [(Z 1, .inr (7, [X 0, X 1, .ref (Z 3), .ref (Z 4), .ref (Z 5), .ref (Z 6), X 6, X 7, X 8, X 9, X 10, X 11, X 12]))], [(Z 3, .inl (cB, 32008, .inl (V 0)))], [(Z 5, .inl (cI, 32008, .inl (V 2)))]]) (r := [[(Z 4, .inl (cI, 32008, .inl (V 1)))], [(Z 6, .inl (cZ, 32008, .inl (V 3)))], [(Z 2, .inr (0, []))]]) (cs2 := [[(Z 0, .inr (8, [E 0, E 1, E 2, .ref (Z 1), .int (nI aa3), .int (nI (d + 1)), E 6, E 7, E 8, .ref (Z 2), .int fp, E 11, E 12, E 13, E 14, E 15, E 16, E 17, E 18]))], [(Z 1, .inr (7, [X 0, X 1, .ref (Z 3), .ref (Z 4), .ref (Z 5), .ref (Z 6), X 6, X 7, X 8, X 9, X 10, X 11, X 12]))], [(Z 3, .inl (cB, 32008, .inl (V 0)))], [(Z 5, .inl (cI, 32008, .inl (V 2)))], [(Z 4, .inl (cI, 32008, .inl (V 1)))], [(Z 6, .inl (cZ, 32008, .inl (V 3)))], [(Z 2, .inr (0, []))]]) rfl ?_
    refine jJ_eq (g2 := F0 m 39 ls [.int (bI (decide ((tk 0).getD aa3 0 = 93))), .ref (Z 0)]) (cs2 := [[(Z 0, .inr (8, [E 0, E 1, E 2, .ref (Z 1), .int (nI aa3), .int (nI (d + 1)), E 6, E 7, E 8, .ref (Z 2), .int fp, E 11, E 12, E 13, E 14, E 15, E 16, E 17, E 18]))], [(Z 1, .inr (7, [X 0, X 1, .ref (Z 3), .ref (Z 4), .ref (Z 5), .ref (Z 6), X 6, X 7, X 8, X 9, X 10, X 11, X 12]))], [(Z 3, .inl (cB, 32008, .inl (V 0)))], [(Z 5, .inl (cI, 32008, .inl (V 2)))], [(Z 4, .inl (cI, 32008, .inl (V 1)))], [(Z 6, .inl (cZ, 32008, .inl (V 3)))], [(Z 2, .inr (0, []))]]) rfl rfl ?_
    refine jX_callV (As := [.int (bI (decide ((tk 0).getD aa3 0 = 93)))]) (rest := []) (wc := jF (lW cI cB cZ Z (E) (X) V aa3 (d + 1) fp)) (cs2 := []) (C := RX10) (T := TX10) (N := 19) (ci := 8) [0, 1, 2, 4, 3, 5, 6] [] ⟨hx, hb, hml, hown, hts⟩ hK hA hAm (c_Md_expect (E := E) (X := X) (a := aa3) (d := d + 1) (fp := fp) hT (by omega) (decide ((tk 0).getD aa3 0 = 93))) (cwV 1 hts gX10_bracket_X10_expect rfl rfl rfl (by decide +kernel) ⟨by show (1) + 1 ≤ 6 * r + 8; omega, by show 8 + (2 + 11) + (40) ≤ 240 * r + 320; omega⟩) (nn := 7) rfl (by decide) rfl rfl ⟨0, _, rfl⟩ rfl rfl rfl hl.1 (Nat.le_of_ble_eq_true rfl) dX10_bracket_39 (by show _ + 0 ≤ 0; omega) (by show _ + 0 ≤ 0; omega) (fun u5 k5 n5 q5 hx5 => ?_) (fun v u5 k5 n5 hq5 => ?_)
    · obtain ⟨hb5, hu5, rfl, rfl⟩ := hx5
      try simp only [decide_eq_true_eq, decide_eq_false_iff_not, Bool.and_eq_true, Bool.and_eq_false_iff] at hb5
      rw [hu5]
      have he : (qBra tk N r) a = (false, aa3) := by rw [hr2, qBra_s (by omega)]; simp only [he3, qThen_t, qThen_f]; exact if_neg (by omega)
      exact jJx_out hno hlocks (by show _ ≤ 0; omega) (by show _ ≤ 0; omega) ⟨by rw [he], ⟨_, _, by rw [he]; rfl⟩, rfl, rfl⟩
    obtain ⟨hb5, rfl, hw5, rfl, rfl⟩ := hq5
    try simp only [decide_eq_true_eq, decide_eq_false_iff_not, Bool.and_eq_true, Bool.and_eq_false_iff] at hb5
    rw [hw5]
    refine jJ_open (xs := [[(Z 0, .inr (8, [E 0, E 1, E 2, .ref (Z 1), .int (nI (aa3 + 1)), .int (nI (d + 1)), E 6, E 7, E 8, .ref (Z 2), .int fp, E 11, E 12, E 13, E 14, E 15, E 16, E 17, E 18]))], [(Z 1, .inr (7, [X 0, X 1, .ref (Z 3), .ref (Z 4), .ref (Z 5), .ref (Z 6), X 6, X 7, X 8, X 9, X 10, X 11, X 12]))], [(Z 3, .inl (cB, 32008, .inl (V 0)))], [(Z 4, .inl (cI, 32008, .inl (V 1)))], [(Z 5, .inl (cI, 32008, .inl (V 2)))], [(Z 6, .inl (cZ, 32008, .inl (V 3)))], [(Z 2, .inr (0, []))]]) (r := []) (cs2 := [[(Z 0, .inr (8, [E 0, E 1, E 2, .ref (Z 1), .int (nI (aa3 + 1)), .int (nI (d + 1)), E 6, E 7, E 8, .ref (Z 2), .int fp, E 11, E 12, E 13, E 14, E 15, E 16, E 17, E 18]))], [(Z 1, .inr (7, [X 0, X 1, .ref (Z 3), .ref (Z 4), .ref (Z 5), .ref (Z 6), X 6, X 7, X 8, X 9, X 10, X 11, X 12]))], [(Z 3, .inl (cB, 32008, .inl (V 0)))], [(Z 4, .inl (cI, 32008, .inl (V 1)))], [(Z 5, .inl (cI, 32008, .inl (V 2)))], [(Z 6, .inl (cZ, 32008, .inl (V 3)))], [(Z 2, .inr (0, []))]]) rfl ?_
    refine jJ_eq (g2 := F0 m 42 ls []) (cs2 := [[(Z 0, .inr (8, [E 0, E 1, E 2, .ref (Z 1), .int (nI (aa3 + 1)), .int (nI (d + 1)), E 6, E 7, E 8, .ref (Z 2), .int fp, E 11, E 12, E 13, E 14, E 15, E 16, E 17, E 18]))], [(Z 1, .inr (7, [X 0, X 1, .ref (Z 3), .ref (Z 4), .ref (Z 5), .ref (Z 6), X 6, X 7, X 8, X 9, X 10, X 11, X 12]))], [(Z 3, .inl (cB, 32008, .inl (V 0)))], [(Z 4, .inl (cI, 32008, .inl (V 1)))], [(Z 5, .inl (cI, 32008, .inl (V 2)))], [(Z 6, .inl (cZ, 32008, .inl (V 3)))], [(Z 2, .inr (0, []))]]) rfl rfl ?_
    refine jJ_of (fun H locs => lv_aload_n hx hb dX10_bracket_42 rfl (lv_at hl 0 rfl)) ?_
    refine jJ_of (fun H locs => lv_dup hx hb dX10_bracket_43 rfl) ?_
    refine jJ_get hx hb (C := RX10) (T := TX10) (N := 19) hts uX10_in_X10_bracket hown hK 0 rfl rfl 5 (by decide) (hts (.fieldLink RX10 141 "ValueBlocksModel" "depth" "I") (by decide +kernel)) (fun _ h9 => h9) rfl dX10_bracket_44 ?_
    refine jJ_of (fun H locs => lv_iconst (v := (nI 1)) hx hb dX10_bracket_47 (by decide)) ?_
    refine jJ_of (fun H locs => jn_isub hx hb dX10_bracket_48 (by omega)) ?_
    refine jJ_put hx hb (C := RX10) (T := TX10) (N := 19) (ty := .int) (v := .int (nI ((d + 1) - 1))) hts uX10_in_X10_bracket tyX10 tyX10_ok nmX10 hown hK 0 rfl rfl 5 (by decide) (hts (.fieldLink RX10 141 "ValueBlocksModel" "depth" "I") (by decide +kernel)) (fun _ h9 => h9) rfl (by decide +kernel) rfl rfl (Nat.le_of_ble_eq_true rfl) dX10_bracket_49 (cs2 := [[(Z 0, .inr (8, [E 0, E 1, E 2, .ref (Z 1), .int (nI (aa3 + 1)), .int (nI ((d + 1) - 1)), E 6, E 7, E 8, .ref (Z 2), .int fp, E 11, E 12, E 13, E 14, E 15, E 16, E 17, E 18]))], [(Z 1, .inr (7, [X 0, X 1, .ref (Z 3), .ref (Z 4), .ref (Z 5), .ref (Z 6), X 6, X 7, X 8, X 9, X 10, X 11, X 12]))], [(Z 3, .inl (cB, 32008, .inl (V 0)))], [(Z 4, .inl (cI, 32008, .inl (V 1)))], [(Z 5, .inl (cI, 32008, .inl (V 2)))], [(Z 6, .inl (cZ, 32008, .inl (V 3)))], [(Z 2, .inr (0, []))]]) rfl ?_
    refine jJ_eq (g2 := F0 m 52 ls []) (cs2 := [[(Z 0, .inr (8, [E 0, E 1, E 2, .ref (Z 1), .int (nI (aa3 + 1)), .int (nI d), E 6, E 7, E 8, .ref (Z 2), .int fp, E 11, E 12, E 13, E 14, E 15, E 16, E 17, E 18]))], [(Z 1, .inr (7, [X 0, X 1, .ref (Z 3), .ref (Z 4), .ref (Z 5), .ref (Z 6), X 6, X 7, X 8, X 9, X 10, X 11, X 12]))], [(Z 3, .inl (cB, 32008, .inl (V 0)))], [(Z 4, .inl (cI, 32008, .inl (V 1)))], [(Z 5, .inl (cI, 32008, .inl (V 2)))], [(Z 6, .inl (cZ, 32008, .inl (V 3)))], [(Z 2, .inr (0, []))]]) rfl rfl ?_
    have he : (qBra tk N r) a = (true, aa3 + 1) := by rw [hr2, qBra_s (by omega)]; simp only [he3, qThen_t, qThen_f]; exact if_pos (by omega)
    exact jJ_toX (jJ_vret hx hb hr hlocks dX10_bracket_52 (by show _ ≤ 0; omega) (by show _ ≤ 0; omega) ⟨by rw [he], rfl, by rw [he]; rfl, rfl, rfl⟩)
  · try simp only [decide_eq_true_eq, decide_eq_false_iff_not, Bool.and_eq_true, Bool.and_eq_false_iff] at c6
    refine jJ_of (fun H locs => lv_aload_n hx hb dX10_bracket_9 rfl (lv_at hl 0 rfl)) ?_
    refine jJ_callV (As := []) (rest := []) (wc := jF (lW cI cB cZ Z (E) (X) V a d fp)) (cs2 := []) (C := RX10) (T := TX10) (N := 19) (ci := 8) [0, 1, 2, 4, 3, 5, 6] [] ⟨hx, hb, hml, hown, hts⟩ hK hA hAm (c_Md_wrong (E := E) (X := X) (a := a) (d := d) (fp := fp) hT (by omega)) (cwV 0 hts gX10_bracket_X10_wrong rfl rfl rfl (by decide +kernel) ⟨by show (0) + 1 ≤ 6 * r + 8; omega, by show 8 + (1 + 11) + (0) ≤ 240 * r + 320; omega⟩) (nn := 7) rfl (by decide) rfl rfl ⟨0, _, rfl⟩ rfl rfl rfl hl.1 (Nat.le_of_ble_eq_true rfl) dX10_bracket_10 (by show _ + 0 ≤ 0; omega) (by show _ + 0 ≤ 0; omega) (fun v u6 k6 n6 hq6 => ?_)
    obtain ⟨rfl, hw6, rfl, rfl⟩ := hq6
    rw [hw6]
    refine jJ_open (xs := [[(Z 0, .inr (8, [E 0, E 1, E 2, .ref (Z 1), .int (nI a), .int (nI d), E 6, E 7, E 8, .ref (Z 2), .int (nI ((tk 1).getD a 0)), E 11, E 12, E 13, E 14, E 15, E 16, E 17, E 18]))], [(Z 1, .inr (7, [X 0, X 1, .ref (Z 3), .ref (Z 4), .ref (Z 5), .ref (Z 6), X 6, X 7, X 8, X 9, X 10, X 11, X 12]))], [(Z 3, .inl (cB, 32008, .inl (V 0)))], [(Z 4, .inl (cI, 32008, .inl (V 1)))], [(Z 5, .inl (cI, 32008, .inl (V 2)))], [(Z 6, .inl (cZ, 32008, .inl (V 3)))], [(Z 2, .inr (0, []))]]) (r := []) (cs2 := [[(Z 0, .inr (8, [E 0, E 1, E 2, .ref (Z 1), .int (nI a), .int (nI d), E 6, E 7, E 8, .ref (Z 2), .int (nI ((tk 1).getD a 0)), E 11, E 12, E 13, E 14, E 15, E 16, E 17, E 18]))], [(Z 1, .inr (7, [X 0, X 1, .ref (Z 3), .ref (Z 4), .ref (Z 5), .ref (Z 6), X 6, X 7, X 8, X 9, X 10, X 11, X 12]))], [(Z 3, .inl (cB, 32008, .inl (V 0)))], [(Z 4, .inl (cI, 32008, .inl (V 1)))], [(Z 5, .inl (cI, 32008, .inl (V 2)))], [(Z 6, .inl (cZ, 32008, .inl (V 3)))], [(Z 2, .inr (0, []))]]) rfl ?_
    refine jJ_eq (g2 := F0 m 13 ls [.ref (Z 2)]) (cs2 := [[(Z 0, .inr (8, [E 0, E 1, E 2, .ref (Z 1), .int (nI a), .int (nI d), E 6, E 7, E 8, .ref (Z 2), .int (nI ((tk 1).getD a 0)), E 11, E 12, E 13, E 14, E 15, E 16, E 17, E 18]))], [(Z 1, .inr (7, [X 0, X 1, .ref (Z 3), .ref (Z 4), .ref (Z 5), .ref (Z 6), X 6, X 7, X 8, X 9, X 10, X 11, X 12]))], [(Z 3, .inl (cB, 32008, .inl (V 0)))], [(Z 4, .inl (cI, 32008, .inl (V 1)))], [(Z 5, .inl (cI, 32008, .inl (V 2)))], [(Z 6, .inl (cZ, 32008, .inl (V 3)))], [(Z 2, .inr (0, []))]]) rfl rfl ?_
    refine jJ_athrow hx hb hK 6 rfl dX10_bracket_13 ?_
    have he : (qBra tk N r) a = (false, a) := by exact qBra_no (by omega)
    exact jJx_out hno hlocks (by show _ ≤ 0; omega) (by show _ ≤ 0; omega) ⟨by rw [he], ⟨_, _, by rw [he]; rfl⟩, rfl, rfl⟩
def qPlc (tk : Nat → List Nat) (N r a : Nat) : Bool × Nat := qThen (qTake tk 35 a) (qPl tk (qBra tk N r))
def qItm (tk : Nat → List Nat) (N r a : Nat) : Bool × Nat := if (tk 0).getD a 0 = 256 ∨ (tk 0).getD a 0 = 257 then (true, a + 1) else if (tk 0).getD a 0 = 35 then qPl tk (qBra tk N r) (a + 1) else qBra tk N r a
theorem qPlc_y {tk : Nat → List Nat} {N r a : Nat} (h : (tk 0).getD a 0 = 35) : qPlc tk N r a = qPl tk (qBra tk N r) (a + 1) := by
  unfold qPlc
  rw [show qTake tk 35 a = (true, a + 1) from if_pos h]
  rfl
theorem qPlc_n {tk : Nat → List Nat} {N r a : Nat} (h : ¬ (tk 0).getD a 0 = 35) : qPlc tk N r a = (false, a) := by
  unfold qPlc
  rw [show qTake tk 35 a = (false, a) from if_neg h]
  rfl
theorem qPl_w {tk : Nat → List Nat} {N r a : Nat} (h : ¬ (tk 0).getD a 0 = 91) : qPl tk (qBra tk N r) a = qTake tk 256 a := by
  unfold qPl qTake
  split
  · rfl
  · exact qBra_no h
theorem qPl_b {tk : Nat → List Nat} {N r a : Nat} (h : (tk 0).getD a 0 = 91) : qPl tk (qBra tk N r) a = qBra tk N r a := if_neg (by omega)
theorem qb_plc {tk : Nat → List Nat} (hE : tE tk) (N r : Nat) : qB tk (qPlc tk N r) := fun a ha => qb_then (qb_take hE (by decide) (by decide) a ha) (qb_pl hE (qb_bra hE N r))
theorem qb_itm {tk : Nat → List Nat} (hE : tE tk) (N r : Nat) : qB tk (qItm tk N r) := by
  intro a ha
  unfold qItm
  split
  · have := hE.lt (a := a) (by omega) (by omega)
    exact ⟨by show a ≤ a + 1; omega, by show a + 1 + 1 ≤ _; omega⟩
  · split
    · exact qb_step hE (by omega) (by omega) (qb_pl hE (qb_bra hE N r))
    · exact qb_bra hE N r a ha
set_option maxHeartbeats 4000000 in
set_option maxRecDepth 100000 in
/-- lookPlace() -/
theorem c_Md_lookPlace {Z : Nat → Nat} {E X : Nat → Value} {V : Nat → Nat → Int32} {tk : Nat → List Nat} {a d : Nat} {fp : Int32} (hT : tV tk V) (hE : tE tk) (ha : a + 1 ≤ (tk 0).length) {N r : Nat} (hBr : cLk D G cI cJ cB cZ l yX10_bracket wsX10_bracket (6 * r + 8) (240 * r + 320) Z E X V tk (d) (qBra tk N r)) : HX l yX10_lookPlace wsX10_lookPlace ({ frames := 6 * r + 9, cells := 0, slots := 0, locals := 240 * r + 360 } : Room) D G (jT cI cJ cB cZ) [.ref (Z 0)] (jF (lW cI cB cZ Z E X V a d fp)) (fun v u k n => ((qPlc tk N r) a).1 = true ∧ v = none ∧ u = jF (lW cI cB cZ Z E X V ((qPlc tk N r) a).2 d fp) ∧ k = 0 ∧ n = 0) (fun u k n => ((qPlc tk N r) a).1 = false ∧ (∃ a2 d2 : Nat, u = jF (lW cI cB cZ Z E X V a2 d2 (nI ((tk 1).getD ((qPlc tk N r) a).2 0)))) ∧ k = 0 ∧ n = 0) := by
  refine HX_of (cc := cX10_lookPlace) (maxL := 1) (ret := none) (lv := [(0, .ref (Z 0))]) (by decide) rfl rfl (Nat.le_of_ble_eq_true rfl) (fun p e s m args below meth c A0 ls hx hb hr hts hown hlocks hml hno hK hA hAm hl => ?_)
  refine jJ_open (xs := [[(Z 0, .inr (8, [E 0, E 1, E 2, .ref (Z 1), .int (nI a), .int (nI d), E 6, E 7, E 8, .ref (Z 2), .int fp, E 11, E 12, E 13, E 14, E 15, E 16, E 17, E 18]))], [(Z 1, .inr (7, [X 0, X 1, .ref (Z 3), .ref (Z 4), .ref (Z 5), .ref (Z 6), X 6, X 7, X 8, X 9, X 10, X 11, X 12]))], [(Z 3, .inl (cB, 32008, .inl (V 0)))], [(Z 4, .inl (cI, 32008, .inl (V 1)))], [(Z 5, .inl (cI, 32008, .inl (V 2)))], [(Z 6, .inl (cZ, 32008, .inl (V 3)))], [(Z 2, .inr (0, []))]]) (r := []) (cs2 := [[(Z 0, .inr (8, [E 0, E 1, E 2, .ref (Z 1), .int (nI a), .int (nI d), E 6, E 7, E 8, .ref (Z 2), .int fp, E 11, E 12, E 13, E 14, E 15, E 16, E 17, E 18]))], [(Z 1, .inr (7, [X 0, X 1, .ref (Z 3), .ref (Z 4), .ref (Z 5), .ref (Z 6), X 6, X 7, X 8, X 9, X 10, X 11, X 12]))], [(Z 3, .inl (cB, 32008, .inl (V 0)))], [(Z 4, .inl (cI, 32008, .inl (V 1)))], [(Z 5, .inl (cI, 32008, .inl (V 2)))], [(Z 6, .inl (cZ, 32008, .inl (V 3)))], [(Z 2, .inr (0, []))]]) rfl ?_
  have hL9 := hT.1
  have hL8 := hE.lt (a := a)
  refine jJ_of (fun H locs => lv_aload_n hx hb dX10_lookPlace_0 rfl (lv_at hl 0 rfl)) ?_
  refine jJ_of (fun H locs => lv_aload_n hx hb dX10_lookPlace_1 rfl (lv_at hl 0 rfl)) ?_
  refine jJ_of (fun H locs => lv_bipush (v := (nI 35)) hx hb dX10_lookPlace_2 (by decide)) ?_
  refine jJ_callV (As := [.int (nI 35)]) (rest := [.ref (Z 0)]) (wc := jF (kWd cI cB Z (lsV [E 0, E 1, E 2, .null, .null, .int (nI d), E 6, E 7, E 8, .ref (Z 2), .int fp, E 11, E 12, E 13, E 14, E 15, E 16, E 17, E 18]) (lsV [X 0, X 1, .null, .ref (Z 4), .null, .ref (Z 6), X 6, X 7, X 8, X 9, X 10, X 11, X 12]) V a)) (cs2 := [[(Z 4, .inl (cI, 32008, .inl (V 1)))], [(Z 6, .inl (cZ, 32008, .inl (V 3)))], [(Z 2, .inr (0, []))]]) (C := RX10) (T := TX10) (N := 19) (ci := 8) [0, 1, 2, 4] [3, 5, 6] ⟨hx, hb, hml, hown, hts⟩ hK hA hAm (c_Md_isSign (E := lsV [E 0, E 1, E 2, .null, .null, .int (nI d), E 6, E 7, E 8, .ref (Z 2), .int fp, E 11, E 12, E 13, E 14, E 15, E 16, E 17, E 18]) (X := lsV [X 0, X 1, .null, .ref (Z 4), .null, .ref (Z 6), X 6, X 7, X 8, X 9, X 10, X 11, X 12]) (a := a) hT (by omega) 35 (by decide)) (cwV 1 hts gX10_lookPlace_X10_isSign rfl rfl rfl (by decide +kernel) ⟨by show (1) + 1 ≤ 6 * r + 9; omega, by show 8 + (2 + 11) + (40) ≤ 240 * r + 360; omega⟩) (nn := 7) rfl (by decide) rfl rfl ⟨0, _, rfl⟩ rfl rfl rfl hl.1 (Nat.le_of_ble_eq_true rfl) dX10_lookPlace_4 (by show _ + 0 ≤ 0; omega) (by show _ + 0 ≤ 0; omega) (fun v u1 k1 n1 hq1 => ?_)
  obtain ⟨rfl, hw1, rfl, rfl⟩ := hq1
  rw [hw1]
  refine jJ_open (xs := [[(Z 0, .inr (8, [E 0, E 1, E 2, .ref (Z 1), .int (nI a), .int (nI d), E 6, E 7, E 8, .ref (Z 2), .int fp, E 11, E 12, E 13, E 14, E 15, E 16, E 17, E 18]))], [(Z 1, .inr (7, [X 0, X 1, .ref (Z 3), .ref (Z 4), .ref (Z 5), .ref (Z 6), X 6, X 7, X 8, X 9, X 10, X 11, X 12]))], [(Z 3, .inl (cB, 32008, .inl (V 0)))], [(Z 5, .inl (cI, 32008, .inl (V 2)))]]) (r := [[(Z 4, .inl (cI, 32008, .inl (V 1)))], [(Z 6, .inl (cZ, 32008, .inl (V 3)))], [(Z 2, .inr (0, []))]]) (cs2 := [[(Z 0, .inr (8, [E 0, E 1, E 2, .ref (Z 1), .int (nI a), .int (nI d), E 6, E 7, E 8, .ref (Z 2), .int fp, E 11, E 12, E 13, E 14, E 15, E 16, E 17, E 18]))], [(Z 1, .inr (7, [X 0, X 1, .ref (Z 3), .ref (Z 4), .ref (Z 5), .ref (Z 6), X 6, X 7, X 8, X 9, X 10, X 11, X 12]))], [(Z 3, .inl (cB, 32008, .inl (V 0)))], [(Z 5, .inl (cI, 32008, .inl (V 2)))], [(Z 4, .inl (cI, 32008, .inl (V 1)))], [(Z 6, .inl (cZ, 32008, .inl (V 3)))], [(Z 2, .inr (0, []))]]) rfl ?_
  refine jJ_eq (g2 := F0 m 7 ls [.int (bI (decide ((tk 0).getD a 0 = 35))), .ref (Z 0)]) (cs2 := [[(Z 0, .inr (8, [E 0, E 1, E 2, .ref (Z 1), .int (nI a), .int (nI d), E 6, E 7, E 8, .ref (Z 2), .int fp, E 11, E 12, E 13, E 14, E 15, E 16, E 17, E 18]))], [(Z 1, .inr (7, [X 0, X 1, .ref (Z 3), .ref (Z 4), .ref (Z 5), .ref (Z 6), X 6, X 7, X 8, X 9, X 10, X 11, X 12]))], [(Z 3, .inl (cB, 32008, .inl (V 0)))], [(Z 5, .inl (cI, 32008, .inl (V 2)))], [(Z 4, .inl (cI, 32008, .inl (V 1)))], [(Z 6, .inl (cZ, 32008, .inl (V 3)))], [(Z 2, .inr (0, []))]]) rfl rfl ?_
  refine jX_callV (As := [.int (bI (decide ((tk 0).getD a 0 = 35)))]) (rest := []) (wc := jF (lW cI cB cZ Z (E) (X) V a d fp)) (cs2 := []) (C := RX10) (T := TX10) (N := 19) (ci := 8) [0, 1, 2, 4, 3, 5, 6] [] ⟨hx, hb, hml, hown, hts⟩ hK hA hAm (c_Md_expect (E := E) (X := X) (a := a) (d := d) (fp := fp) hT (by omega) (decide ((tk 0).getD a 0 = 35))) (cwV 1 hts gX10_lookPlace_X10_expect rfl rfl rfl (by decide +kernel) ⟨by show (1) + 1 ≤ 6 * r + 9; omega, by show 8 + (2 + 11) + (40) ≤ 240 * r + 360; omega⟩) (nn := 7) rfl (by decide) rfl rfl ⟨0, _, rfl⟩ rfl rfl rfl hl.1 (Nat.le_of_ble_eq_true rfl) dX10_lookPlace_7 (by show _ + 0 ≤ 0; omega) (by show _ + 0 ≤ 0; omega) (fun u2 k2 n2 q2 hx2 => ?_) (fun v u2 k2 n2 hq2 => ?_)
  · obtain ⟨hb2, hu2, rfl, rfl⟩ := hx2
    try simp only [decide_eq_true_eq, decide_eq_false_iff_not, Bool.and_eq_true, Bool.and_eq_false_iff] at hb2
    rw [hu2]
    have he : (qPlc tk N r) a = (false, a) := by exact qPlc_n (by omega)
    exact jJx_out hno hlocks (by show _ ≤ 0; omega) (by show _ ≤ 0; omega) ⟨by rw [he], ⟨_, _, by rw [he]; rfl⟩, rfl, rfl⟩
  obtain ⟨hb2, rfl, hw2, rfl, rfl⟩ := hq2
  try simp only [decide_eq_true_eq, decide_eq_false_iff_not, Bool.and_eq_true, Bool.and_eq_false_iff] at hb2
  rw [hw2]
  refine jJ_open (xs := [[(Z 0, .inr (8, [E 0, E 1, E 2, .ref (Z 1), .int (nI (a + 1)), .int (nI d), E 6, E 7, E 8, .ref (Z 2), .int fp, E 11, E 12, E 13, E 14, E 15, E 16, E 17, E 18]))], [(Z 1, .inr (7, [X 0, X 1, .ref (Z 3), .ref (Z 4), .ref (Z 5), .ref (Z 6), X 6, X 7, X 8, X 9, X 10, X 11, X 12]))], [(Z 3, .inl (cB, 32008, .inl (V 0)))], [(Z 4, .inl (cI, 32008, .inl (V 1)))], [(Z 5, .inl (cI, 32008, .inl (V 2)))], [(Z 6, .inl (cZ, 32008, .inl (V 3)))], [(Z 2, .inr (0, []))]]) (r := []) (cs2 := [[(Z 0, .inr (8, [E 0, E 1, E 2, .ref (Z 1), .int (nI (a + 1)), .int (nI d), E 6, E 7, E 8, .ref (Z 2), .int fp, E 11, E 12, E 13, E 14, E 15, E 16, E 17, E 18]))], [(Z 1, .inr (7, [X 0, X 1, .ref (Z 3), .ref (Z 4), .ref (Z 5), .ref (Z 6), X 6, X 7, X 8, X 9, X 10, X 11, X 12]))], [(Z 3, .inl (cB, 32008, .inl (V 0)))], [(Z 4, .inl (cI, 32008, .inl (V 1)))], [(Z 5, .inl (cI, 32008, .inl (V 2)))], [(Z 6, .inl (cZ, 32008, .inl (V 3)))], [(Z 2, .inr (0, []))]]) rfl ?_
  refine jJ_eq (g2 := F0 m 10 ls []) (cs2 := [[(Z 0, .inr (8, [E 0, E 1, E 2, .ref (Z 1), .int (nI (a + 1)), .int (nI d), E 6, E 7, E 8, .ref (Z 2), .int fp, E 11, E 12, E 13, E 14, E 15, E 16, E 17, E 18]))], [(Z 1, .inr (7, [X 0, X 1, .ref (Z 3), .ref (Z 4), .ref (Z 5), .ref (Z 6), X 6, X 7, X 8, X 9, X 10, X 11, X 12]))], [(Z 3, .inl (cB, 32008, .inl (V 0)))], [(Z 4, .inl (cI, 32008, .inl (V 1)))], [(Z 5, .inl (cI, 32008, .inl (V 2)))], [(Z 6, .inl (cZ, 32008, .inl (V 3)))], [(Z 2, .inr (0, []))]]) rfl rfl ?_
  refine jJ_of (fun H locs => lv_aload_n hx hb dX10_lookPlace_10 rfl (lv_at hl 0 rfl)) ?_
  refine jJ_of (fun H locs => lv_bipush (v := (nI 91)) hx hb dX10_lookPlace_11 (by decide)) ?_
  refine jJ_callV (As := [.int (nI 91)]) (rest := []) (wc := jF (kWd cI cB Z (lsV [E 0, E 1, E 2, .null, .null, .int (nI d), E 6, E 7, E 8, .ref (Z 2), .int fp, E 11, E 12, E 13, E 14, E 15, E 16, E 17, E 18]) (lsV [X 0, X 1, .null, .ref (Z 4), .null, .ref (Z 6), X 6, X 7, X 8, X 9, X 10, X 11, X 12]) V (a + 1))) (cs2 := [[(Z 4, .inl (cI, 32008, .inl (V 1)))], [(Z 6, .inl (cZ, 32008, .inl (V 3)))], [(Z 2, .inr (0, []))]]) (C := RX10) (T := TX10) (N := 19) (ci := 8) [0, 1, 2, 4] [3, 5, 6] ⟨hx, hb, hml, hown, hts⟩ hK hA hAm (c_Md_isSign (E := lsV [E 0, E 1, E 2, .null, .null, .int (nI d), E 6, E 7, E 8, .ref (Z 2), .int fp, E 11, E 12, E 13, E 14, E 15, E 16, E 17, E 18]) (X := lsV [X 0, X 1, .null, .ref (Z 4), .null, .ref (Z 6), X 6, X 7, X 8, X 9, X 10, X 11, X 12]) (a := a + 1) hT (by omega) 91 (by decide)) (cwV 1 hts gX10_lookPlace_X10_isSign rfl rfl rfl (by decide +kernel) ⟨by show (1) + 1 ≤ 6 * r + 9; omega, by show 8 + (2 + 11) + (40) ≤ 240 * r + 360; omega⟩) (nn := 7) rfl (by decide) rfl rfl ⟨0, _, rfl⟩ rfl rfl rfl hl.1 (Nat.le_of_ble_eq_true rfl) dX10_lookPlace_13 (by show _ + 0 ≤ 0; omega) (by show _ + 0 ≤ 0; omega) (fun v u3 k3 n3 hq3 => ?_)
  obtain ⟨rfl, hw3, rfl, rfl⟩ := hq3
  rw [hw3]
  refine jJ_open (xs := [[(Z 0, .inr (8, [E 0, E 1, E 2, .ref (Z 1), .int (nI (a + 1)), .int (nI d), E 6, E 7, E 8, .ref (Z 2), .int fp, E 11, E 12, E 13, E 14, E 15, E 16, E 17, E 18]))], [(Z 1, .inr (7, [X 0, X 1, .ref (Z 3), .ref (Z 4), .ref (Z 5), .ref (Z 6), X 6, X 7, X 8, X 9, X 10, X 11, X 12]))], [(Z 3, .inl (cB, 32008, .inl (V 0)))], [(Z 5, .inl (cI, 32008, .inl (V 2)))]]) (r := [[(Z 4, .inl (cI, 32008, .inl (V 1)))], [(Z 6, .inl (cZ, 32008, .inl (V 3)))], [(Z 2, .inr (0, []))]]) (cs2 := [[(Z 0, .inr (8, [E 0, E 1, E 2, .ref (Z 1), .int (nI (a + 1)), .int (nI d), E 6, E 7, E 8, .ref (Z 2), .int fp, E 11, E 12, E 13, E 14, E 15, E 16, E 17, E 18]))], [(Z 1, .inr (7, [X 0, X 1, .ref (Z 3), .ref (Z 4), .ref (Z 5), .ref (Z 6), X 6, X 7, X 8, X 9, X 10, X 11, X 12]))], [(Z 3, .inl (cB, 32008, .inl (V 0)))], [(Z 5, .inl (cI, 32008, .inl (V 2)))], [(Z 4, .inl (cI, 32008, .inl (V 1)))], [(Z 6, .inl (cZ, 32008, .inl (V 3)))], [(Z 2, .inr (0, []))]]) rfl ?_
  refine jJ_eq (g2 := F0 m 16 ls [.int (bI (decide ((tk 0).getD (a + 1) 0 = 91)))]) (cs2 := [[(Z 0, .inr (8, [E 0, E 1, E 2, .ref (Z 1), .int (nI (a + 1)), .int (nI d), E 6, E 7, E 8, .ref (Z 2), .int fp, E 11, E 12, E 13, E 14, E 15, E 16, E 17, E 18]))], [(Z 1, .inr (7, [X 0, X 1, .ref (Z 3), .ref (Z 4), .ref (Z 5), .ref (Z 6), X 6, X 7, X 8, X 9, X 10, X 11, X 12]))], [(Z 3, .inl (cB, 32008, .inl (V 0)))], [(Z 5, .inl (cI, 32008, .inl (V 2)))], [(Z 4, .inl (cI, 32008, .inl (V 1)))], [(Z 6, .inl (cZ, 32008, .inl (V 3)))], [(Z 2, .inr (0, []))]]) rfl rfl ?_
  refine jJ_of2 (fun H locs => jb_if_eq (tgt := 26) hx hb dX10_lookPlace_16 (by decide)) (fun c16 => ?_) (fun c16 => ?_)
  · simp only [decide_eq_true_eq, decide_eq_false_iff_not] at c16
    refine jJ_of (fun H locs => lv_aload_n hx hb dX10_lookPlace_26 rfl (lv_at hl 0 rfl)) ?_
    refine jX_callV (As := []) (rest := []) (wc := jF (lW cI cB cZ Z (E) (X) V (a + 1) d fp)) (cs2 := []) (C := RX10) (T := TX10) (N := 19) (ci := 8) [0, 1, 2, 4, 3, 5, 6] [] ⟨hx, hb, hml, hown, hts⟩ hK hA hAm (c_Md_whole9 hT hE (a + 1) fp (by omega)) (cwV 0 hts gX10_lookPlace_X10_whole rfl rfl rfl (by decide +kernel) ⟨by show (2) + 1 ≤ 6 * r + 9; omega, by show 8 + (1 + 11) + (80) ≤ 240 * r + 360; omega⟩) (nn := 7) rfl (by decide) rfl rfl ⟨0, _, rfl⟩ rfl rfl rfl hl.1 (Nat.le_of_ble_eq_true rfl) dX10_lookPlace_27 (by show _ + 0 ≤ 0; omega) (by show _ + 0 ≤ 0; omega) (fun u4 k4 n4 q4 hx4 => ?_) (fun v u4 k4 n4 hq4 => ?_)
    · obtain ⟨hb4, ⟨a2_4, d2_4, hu4⟩, rfl, rfl⟩ := hx4
      obtain ⟨aa4, hea4⟩ : ∃ x, ((qTake tk 256) (a + 1)).2 = x := ⟨_, rfl⟩
      rw [hea4] at hu4
      have he4 : (qTake tk 256) (a + 1) = (false, aa4) := Prod.ext hb4 hea4
      rw [hu4]
      have he : (qPlc tk N r) a = (false, aa4) := by rw [qPlc_y (by omega), qPl_w (by omega), he4]
      exact jJx_out hno hlocks (by show _ ≤ 0; omega) (by show _ ≤ 0; omega) ⟨by rw [he], ⟨_, _, by rw [he]; rfl⟩, rfl, rfl⟩
    obtain ⟨hb4, rfl, hw4, rfl, rfl⟩ := hq4
    have hqb4 : (a + 1) ≤ ((qTake tk 256) (a + 1)).2 ∧ ((qTake tk 256) (a + 1)).2 + 1 ≤ (tk 0).length := qb_take hE (k := 256) (by decide) (by decide) (a + 1) (by omega)
    obtain ⟨aa4, hea4⟩ : ∃ x, ((qTake tk 256) (a + 1)).2 = x := ⟨_, rfl⟩
    rw [hea4] at hw4 hqb4
    have he4 : (qTake tk 256) (a + 1) = (true, aa4) := Prod.ext hb4 hea4
    rw [hw4]
    refine jJ_open (xs := [[(Z 0, .inr (8, [E 0, E 1, E 2, .ref (Z 1), .int (nI aa4), .int (nI d), E 6, E 7, E 8, .ref (Z 2), .int fp, E 11, E 12, E 13, E 14, E 15, E 16, E 17, E 18]))], [(Z 1, .inr (7, [X 0, X 1, .ref (Z 3), .ref (Z 4), .ref (Z 5), .ref (Z 6), X 6, X 7, X 8, X 9, X 10, X 11, X 12]))], [(Z 3, .inl (cB, 32008, .inl (V 0)))], [(Z 4, .inl (cI, 32008, .inl (V 1)))], [(Z 5, .inl (cI, 32008, .inl (V 2)))], [(Z 6, .inl (cZ, 32008, .inl (V 3)))], [(Z 2, .inr (0, []))]]) (r := []) (cs2 := [[(Z 0, .inr (8, [E 0, E 1, E 2, .ref (Z 1), .int (nI aa4), .int (nI d), E 6, E 7, E 8, .ref (Z 2), .int fp, E 11, E 12, E 13, E 14, E 15, E 16, E 17, E 18]))], [(Z 1, .inr (7, [X 0, X 1, .ref (Z 3), .ref (Z 4), .ref (Z 5), .ref (Z 6), X 6, X 7, X 8, X 9, X 10, X 11, X 12]))], [(Z 3, .inl (cB, 32008, .inl (V 0)))], [(Z 4, .inl (cI, 32008, .inl (V 1)))], [(Z 5, .inl (cI, 32008, .inl (V 2)))], [(Z 6, .inl (cZ, 32008, .inl (V 3)))], [(Z 2, .inr (0, []))]]) rfl ?_
    refine jJ_eq (g2 := F0 m 30 ls []) (cs2 := [[(Z 0, .inr (8, [E 0, E 1, E 2, .ref (Z 1), .int (nI aa4), .int (nI d), E 6, E 7, E 8, .ref (Z 2), .int fp, E 11, E 12, E 13, E 14, E 15, E 16, E 17, E 18]))], [(Z 1, .inr (7, [X 0, X 1, .ref (Z 3), .ref (Z 4), .ref (Z 5), .ref (Z 6), X 6, X 7, X 8, X 9, X 10, X 11, X 12]))], [(Z 3, .inl (cB, 32008, .inl (V 0)))], [(Z 4, .inl (cI, 32008, .inl (V 1)))], [(Z 5, .inl (cI, 32008, .inl (V 2)))], [(Z 6, .inl (cZ, 32008, .inl (V 3)))], [(Z 2, .inr (0, []))]]) rfl rfl ?_
    have he : (qPlc tk N r) a = (true, aa4) := by rw [qPlc_y (by omega), qPl_w (by omega), he4]
    exact jJ_toX (jJ_vret hx hb hr hlocks dX10_lookPlace_30 (by show _ ≤ 0; omega) (by show _ ≤ 0; omega) ⟨by rw [he], rfl, by rw [he]; rfl, rfl, rfl⟩)
  · simp only [decide_eq_true_eq, decide_eq_false_iff_not] at c16
    refine jJ_of (fun H locs => lv_aload_n hx hb dX10_lookPlace_19 rfl (lv_at hl 0 rfl)) ?_
    refine jX_callV (As := []) (rest := []) (wc := jF (lW cI cB cZ Z (E) (X) V (a + 1) d fp)) (cs2 := []) (C := RX10) (T := TX10) (N := 19) (ci := 8) [0, 1, 2, 4, 3, 5, 6] [] ⟨hx, hb, hml, hown, hts⟩ hK hA hAm (hBr (a + 1) fp (by omega)) (cwV 0 hts gX10_lookPlace_X10_bracket rfl rfl rfl (by decide +kernel) ⟨by show (6 * r + 8) + 1 ≤ 6 * r + 9; omega, by show 8 + (1 + 11) + (240 * r + 320) ≤ 240 * r + 360; omega⟩) (nn := 7) rfl (by decide) rfl rfl ⟨0, _, rfl⟩ rfl rfl rfl hl.1 (Nat.le_of_ble_eq_true rfl) dX10_lookPlace_20 (by show _ + 0 ≤ 0; omega) (by show _ + 0 ≤ 0; omega) (fun u5 k5 n5 q5 hx5 => ?_) (fun v u5 k5 n5 hq5 => ?_)
    · obtain ⟨hb5, ⟨a2_5, d2_5, hu5⟩, rfl, rfl⟩ := hx5
      obtain ⟨aa5, hea5⟩ : ∃ x, ((qBra tk N r) (a + 1)).2 = x := ⟨_, rfl⟩
      rw [hea5] at hu5
      have he5 : (qBra tk N r) (a + 1) = (false, aa5) := Prod.ext hb5 hea5
      rw [hu5]
      have he : (qPlc tk N r) a = (false, aa5) := by rw [qPlc_y (by omega), qPl_b (by omega), he5]
      exact jJx_out hno hlocks (by show _ ≤ 0; omega) (by show _ ≤ 0; omega) ⟨by rw [he], ⟨_, _, by rw [he]; rfl⟩, rfl, rfl⟩
    obtain ⟨hb5, rfl, hw5, rfl, rfl⟩ := hq5
    have hqb5 : (a + 1) ≤ ((qBra tk N r) (a + 1)).2 ∧ ((qBra tk N r) (a + 1)).2 + 1 ≤ (tk 0).length := qb_bra hE N r (a + 1) (by omega)
    obtain ⟨aa5, hea5⟩ : ∃ x, ((qBra tk N r) (a + 1)).2 = x := ⟨_, rfl⟩
    rw [hea5] at hw5 hqb5
    have he5 : (qBra tk N r) (a + 1) = (true, aa5) := Prod.ext hb5 hea5
    rw [hw5]
    refine jJ_open (xs := [[(Z 0, .inr (8, [E 0, E 1, E 2, .ref (Z 1), .int (nI aa5), .int (nI d), E 6, E 7, E 8, .ref (Z 2), .int fp, E 11, E 12, E 13, E 14, E 15, E 16, E 17, E 18]))], [(Z 1, .inr (7, [X 0, X 1, .ref (Z 3), .ref (Z 4), .ref (Z 5), .ref (Z 6), X 6, X 7, X 8, X 9, X 10, X 11, X 12]))], [(Z 3, .inl (cB, 32008, .inl (V 0)))], [(Z 4, .inl (cI, 32008, .inl (V 1)))], [(Z 5, .inl (cI, 32008, .inl (V 2)))], [(Z 6, .inl (cZ, 32008, .inl (V 3)))], [(Z 2, .inr (0, []))]]) (r := []) (cs2 := [[(Z 0, .inr (8, [E 0, E 1, E 2, .ref (Z 1), .int (nI aa5), .int (nI d), E 6, E 7, E 8, .ref (Z 2), .int fp, E 11, E 12, E 13, E 14, E 15, E 16, E 17, E 18]))], [(Z 1, .inr (7, [X 0, X 1, .ref (Z 3), .ref (Z 4), .ref (Z 5), .ref (Z 6), X 6, X 7, X 8, X 9, X 10, X 11, X 12]))], [(Z 3, .inl (cB, 32008, .inl (V 0)))], [(Z 4, .inl (cI, 32008, .inl (V 1)))], [(Z 5, .inl (cI, 32008, .inl (V 2)))], [(Z 6, .inl (cZ, 32008, .inl (V 3)))], [(Z 2, .inr (0, []))]]) rfl ?_
    refine jJ_eq (g2 := F0 m 23 ls []) (cs2 := [[(Z 0, .inr (8, [E 0, E 1, E 2, .ref (Z 1), .int (nI aa5), .int (nI d), E 6, E 7, E 8, .ref (Z 2), .int fp, E 11, E 12, E 13, E 14, E 15, E 16, E 17, E 18]))], [(Z 1, .inr (7, [X 0, X 1, .ref (Z 3), .ref (Z 4), .ref (Z 5), .ref (Z 6), X 6, X 7, X 8, X 9, X 10, X 11, X 12]))], [(Z 3, .inl (cB, 32008, .inl (V 0)))], [(Z 4, .inl (cI, 32008, .inl (V 1)))], [(Z 5, .inl (cI, 32008, .inl (V 2)))], [(Z 6, .inl (cZ, 32008, .inl (V 3)))], [(Z 2, .inr (0, []))]]) rfl rfl ?_
    refine jJ_of (fun H locs => lv_goto (tgt := 30) hx hb dX10_lookPlace_23 (by decide)) ?_
    have he : (qPlc tk N r) a = (true, aa5) := by rw [qPlc_y (by omega), qPl_b (by omega), he5]
    exact jJ_toX (jJ_vret hx hb hr hlocks dX10_lookPlace_30 (by show _ ≤ 0; omega) (by show _ ≤ 0; omega) ⟨by rw [he], rfl, by rw [he]; rfl, rfl, rfl⟩)
theorem uX10_in_X10_lookItem : ∀ w ∈ u_ws RX10 TX10 19, w ∈ wsX10_lookItem := by decide +kernel
set_option maxHeartbeats 4000000 in
set_option maxRecDepth 100000 in
/-- lookItem() -/
theorem c_Md_lookItem {Z : Nat → Nat} {E X : Nat → Value} {V : Nat → Nat → Int32} {tk : Nat → List Nat} {a d : Nat} {fp : Int32} (hT : tV tk V) (hE : tE tk) (ha : a + 1 ≤ (tk 0).length) {N r : Nat} (hBr : cLk D G cI cJ cB cZ l yX10_bracket wsX10_bracket (6 * r + 8) (240 * r + 320) Z E X V tk (d) (qBra tk N r)) (hPl : cLk D G cI cJ cB cZ l yX10_lookPlace wsX10_lookPlace (6 * r + 9) (240 * r + 360) Z E X V tk (d) (qPlc tk N r)) : HX l yX10_lookItem wsX10_lookItem ({ frames := 6 * r + 10, cells := 0, slots := 0, locals := 240 * r + 400 } : Room) D G (jT cI cJ cB cZ) [.ref (Z 0)] (jF (lW cI cB cZ Z E X V a d fp)) (fun v u k n => ((qItm tk N r) a).1 = true ∧ v = none ∧ u = jF (lW cI cB cZ Z E X V ((qItm tk N r) a).2 d fp) ∧ k = 0 ∧ n = 0) (fun u k n => ((qItm tk N r) a).1 = false ∧ (∃ a2 d2 : Nat, u = jF (lW cI cB cZ Z E X V a2 d2 (nI ((tk 1).getD ((qItm tk N r) a).2 0)))) ∧ k = 0 ∧ n = 0) := by
  refine HX_of (cc := cX10_lookItem) (maxL := 1) (ret := none) (lv := [(0, .ref (Z 0))]) (by decide) rfl rfl (Nat.le_of_ble_eq_true rfl) (fun p e s m args below meth c A0 ls hx hb hr hts hown hlocks hml hno hK hA hAm hl => ?_)
  refine jJ_open (xs := [[(Z 0, .inr (8, [E 0, E 1, E 2, .ref (Z 1), .int (nI a), .int (nI d), E 6, E 7, E 8, .ref (Z 2), .int fp, E 11, E 12, E 13, E 14, E 15, E 16, E 17, E 18]))], [(Z 1, .inr (7, [X 0, X 1, .ref (Z 3), .ref (Z 4), .ref (Z 5), .ref (Z 6), X 6, X 7, X 8, X 9, X 10, X 11, X 12]))], [(Z 3, .inl (cB, 32008, .inl (V 0)))], [(Z 4, .inl (cI, 32008, .inl (V 1)))], [(Z 5, .inl (cI, 32008, .inl (V 2)))], [(Z 6, .inl (cZ, 32008, .inl (V 3)))], [(Z 2, .inr (0, []))]]) (r := []) (cs2 := [[(Z 0, .inr (8, [E 0, E 1, E 2, .ref (Z 1), .int (nI a), .int (nI d), E 6, E 7, E 8, .ref (Z 2), .int fp, E 11, E 12, E 13, E 14, E 15, E 16, E 17, E 18]))], [(Z 1, .inr (7, [X 0, X 1, .ref (Z 3), .ref (Z 4), .ref (Z 5), .ref (Z 6), X 6, X 7, X 8, X 9, X 10, X 11, X 12]))], [(Z 3, .inl (cB, 32008, .inl (V 0)))], [(Z 4, .inl (cI, 32008, .inl (V 1)))], [(Z 5, .inl (cI, 32008, .inl (V 2)))], [(Z 6, .inl (cZ, 32008, .inl (V 3)))], [(Z 2, .inr (0, []))]]) rfl ?_
  have hL9 := hT.1
  have hL9 := hT.1
  obtain ⟨hV0, hV1, hV2, hV3⟩ := hT.2.1 a (by omega)
  obtain ⟨hB0, hB1, hB2⟩ := hT.2.2 a
  have hkc := kC_le ((tk 0).getD a 0)
  have hkw := kW_le hB0 hB2
  have hk1 := kC1 (c := (tk 0).getD a 0)
  have hk3 := kC3w (c := (tk 0).getD a 0) (w := (tk 2).getD a 0)
  have hL8 := hE.lt (a := a)
  refine jJ_of (fun H locs => lv_aload_n hx hb dX10_lookItem_0 rfl (lv_at hl 0 rfl)) ?_
  refine jJ_callV (As := []) (rest := []) (wc := jF (kWd cI cB Z (lsV [E 0, E 1, E 2, .null, .null, .int (nI d), E 6, E 7, E 8, .ref (Z 2), .int fp, E 11, E 12, E 13, E 14, E 15, E 16, E 17, E 18]) (lsV [X 0, X 1, .null, .ref (Z 4), .null, .ref (Z 6), X 6, X 7, X 8, X 9, X 10, X 11, X 12]) V a)) (cs2 := [[(Z 4, .inl (cI, 32008, .inl (V 1)))], [(Z 6, .inl (cZ, 32008, .inl (V 3)))], [(Z 2, .inr (0, []))]]) (C := RX10) (T := TX10) (N := 19) (ci := 8) [0, 1, 2, 4] [3, 5, 6] ⟨hx, hb, hml, hown, hts⟩ hK hA hAm (c_Md_kind (E := lsV [E 0, E 1, E 2, .null, .null, .int (nI d), E 6, E 7, E 8, .ref (Z 2), .int fp, E 11, E 12, E 13, E 14, E 15, E 16, E 17, E 18]) (X := lsV [X 0, X 1, .null, .ref (Z 4), .null, .ref (Z 6), X 6, X 7, X 8, X 9, X 10, X 11, X 12]) (a := a) hT (by omega)) (cwV 0 hts gX10_lookItem_X10_kind rfl rfl rfl (by decide +kernel) ⟨by show (0) + 1 ≤ 6 * r + 10; omega, by show 8 + (1 + 11) + (0) ≤ 240 * r + 400; omega⟩) (nn := 7) rfl (by decide) rfl rfl ⟨0, _, rfl⟩ rfl rfl rfl hl.1 (Nat.le_of_ble_eq_true rfl) dX10_lookItem_1 (by show _ + 0 ≤ 0; omega) (by show _ + 0 ≤ 0; omega) (fun v u1 k1 n1 hq1 => ?_)
  obtain ⟨rfl, hw1, rfl, rfl⟩ := hq1
  rw [hw1]
  refine jJ_open (xs := [[(Z 0, .inr (8, [E 0, E 1, E 2, .ref (Z 1), .int (nI a), .int (nI d), E 6, E 7, E 8, .ref (Z 2), .int fp, E 11, E 12, E 13, E 14, E 15, E 16, E 17, E 18]))], [(Z 1, .inr (7, [X 0, X 1, .ref (Z 3), .ref (Z 4), .ref (Z 5), .ref (Z 6), X 6, X 7, X 8, X 9, X 10, X 11, X 12]))], [(Z 3, .inl (cB, 32008, .inl (V 0)))], [(Z 5, .inl (cI, 32008, .inl (V 2)))]]) (r := [[(Z 4, .inl (cI, 32008, .inl (V 1)))], [(Z 6, .inl (cZ, 32008, .inl (V 3)))], [(Z 2, .inr (0, []))]]) (cs2 := [[(Z 0, .inr (8, [E 0, E 1, E 2, .ref (Z 1), .int (nI a), .int (nI d), E 6, E 7, E 8, .ref (Z 2), .int fp, E 11, E 12, E 13, E 14, E 15, E 16, E 17, E 18]))], [(Z 1, .inr (7, [X 0, X 1, .ref (Z 3), .ref (Z 4), .ref (Z 5), .ref (Z 6), X 6, X 7, X 8, X 9, X 10, X 11, X 12]))], [(Z 3, .inl (cB, 32008, .inl (V 0)))], [(Z 5, .inl (cI, 32008, .inl (V 2)))], [(Z 4, .inl (cI, 32008, .inl (V 1)))], [(Z 6, .inl (cZ, 32008, .inl (V 3)))], [(Z 2, .inr (0, []))]]) rfl ?_
  refine jJ_eq (g2 := F0 m 4 ls [.int (nI (kC ((tk 0).getD a 0)))]) (cs2 := [[(Z 0, .inr (8, [E 0, E 1, E 2, .ref (Z 1), .int (nI a), .int (nI d), E 6, E 7, E 8, .ref (Z 2), .int fp, E 11, E 12, E 13, E 14, E 15, E 16, E 17, E 18]))], [(Z 1, .inr (7, [X 0, X 1, .ref (Z 3), .ref (Z 4), .ref (Z 5), .ref (Z 6), X 6, X 7, X 8, X 9, X 10, X 11, X 12]))], [(Z 3, .inl (cB, 32008, .inl (V 0)))], [(Z 5, .inl (cI, 32008, .inl (V 2)))], [(Z 4, .inl (cI, 32008, .inl (V 1)))], [(Z 6, .inl (cZ, 32008, .inl (V 3)))], [(Z 2, .inr (0, []))]]) rfl rfl ?_
  refine jJ_of (fun H locs => lv_iconst (v := (nI 1)) hx hb dX10_lookItem_4 (by decide)) ?_
  refine jJ_of2 (fun H locs => jn_icmp_ne (tgt := 21) hx hb dX10_lookItem_5 (by decide) (by omega) (by omega)) (fun c5 => ?_) (fun c5 => ?_)
  · refine jJ_of (fun H locs => lv_aload_n hx hb dX10_lookItem_21 rfl (lv_at hl 0 rfl)) ?_
    refine jJ_of (fun H locs => lv_bipush (v := (nI 35)) hx hb dX10_lookItem_22 (by decide)) ?_
    refine jJ_callV (As := [.int (nI 35)]) (rest := []) (wc := jF (kWd cI cB Z (lsV [E 0, E 1, E 2, .null, .null, .int (nI d), E 6, E 7, E 8, .ref (Z 2), .int fp, E 11, E 12, E 13, E 14, E 15, E 16, E 17, E 18]) (lsV [X 0, X 1, .null, .ref (Z 4), .null, .ref (Z 6), X 6, X 7, X 8, X 9, X 10, X 11, X 12]) V a)) (cs2 := [[(Z 4, .inl (cI, 32008, .inl (V 1)))], [(Z 6, .inl (cZ, 32008, .inl (V 3)))], [(Z 2, .inr (0, []))]]) (C := RX10) (T := TX10) (N := 19) (ci := 8) [0, 1, 2, 3] [4, 5, 6] ⟨hx, hb, hml, hown, hts⟩ hK hA hAm (c_Md_isSign (E := lsV [E 0, E 1, E 2, .null, .null, .int (nI d), E 6, E 7, E 8, .ref (Z 2), .int fp, E 11, E 12, E 13, E 14, E 15, E 16, E 17, E 18]) (X := lsV [X 0, X 1, .null, .ref (Z 4), .null, .ref (Z 6), X 6, X 7, X 8, X 9, X 10, X 11, X 12]) (a := a) hT (by omega) 35 (by decide)) (cwV 1 hts gX10_lookItem_X10_isSign rfl rfl rfl (by decide +kernel) ⟨by show (1) + 1 ≤ 6 * r + 10; omega, by show 8 + (2 + 11) + (40) ≤ 240 * r + 400; omega⟩) (nn := 7) rfl (by decide) rfl rfl ⟨0, _, rfl⟩ rfl rfl rfl hl.1 (Nat.le_of_ble_eq_true rfl) dX10_lookItem_24 (by show _ + 0 ≤ 0; omega) (by show _ + 0 ≤ 0; omega) (fun v u2 k2 n2 hq2 => ?_)
    obtain ⟨rfl, hw2, rfl, rfl⟩ := hq2
    rw [hw2]
    refine jJ_open (xs := [[(Z 0, .inr (8, [E 0, E 1, E 2, .ref (Z 1), .int (nI a), .int (nI d), E 6, E 7, E 8, .ref (Z 2), .int fp, E 11, E 12, E 13, E 14, E 15, E 16, E 17, E 18]))], [(Z 1, .inr (7, [X 0, X 1, .ref (Z 3), .ref (Z 4), .ref (Z 5), .ref (Z 6), X 6, X 7, X 8, X 9, X 10, X 11, X 12]))], [(Z 3, .inl (cB, 32008, .inl (V 0)))], [(Z 5, .inl (cI, 32008, .inl (V 2)))]]) (r := [[(Z 4, .inl (cI, 32008, .inl (V 1)))], [(Z 6, .inl (cZ, 32008, .inl (V 3)))], [(Z 2, .inr (0, []))]]) (cs2 := [[(Z 0, .inr (8, [E 0, E 1, E 2, .ref (Z 1), .int (nI a), .int (nI d), E 6, E 7, E 8, .ref (Z 2), .int fp, E 11, E 12, E 13, E 14, E 15, E 16, E 17, E 18]))], [(Z 1, .inr (7, [X 0, X 1, .ref (Z 3), .ref (Z 4), .ref (Z 5), .ref (Z 6), X 6, X 7, X 8, X 9, X 10, X 11, X 12]))], [(Z 3, .inl (cB, 32008, .inl (V 0)))], [(Z 5, .inl (cI, 32008, .inl (V 2)))], [(Z 4, .inl (cI, 32008, .inl (V 1)))], [(Z 6, .inl (cZ, 32008, .inl (V 3)))], [(Z 2, .inr (0, []))]]) rfl ?_
    refine jJ_eq (g2 := F0 m 27 ls [.int (bI (decide ((tk 0).getD a 0 = 35)))]) (cs2 := [[(Z 0, .inr (8, [E 0, E 1, E 2, .ref (Z 1), .int (nI a), .int (nI d), E 6, E 7, E 8, .ref (Z 2), .int fp, E 11, E 12, E 13, E 14, E 15, E 16, E 17, E 18]))], [(Z 1, .inr (7, [X 0, X 1, .ref (Z 3), .ref (Z 4), .ref (Z 5), .ref (Z 6), X 6, X 7, X 8, X 9, X 10, X 11, X 12]))], [(Z 3, .inl (cB, 32008, .inl (V 0)))], [(Z 5, .inl (cI, 32008, .inl (V 2)))], [(Z 4, .inl (cI, 32008, .inl (V 1)))], [(Z 6, .inl (cZ, 32008, .inl (V 3)))], [(Z 2, .inr (0, []))]]) rfl rfl ?_
    refine jJ_of2 (fun H locs => jb_if_eq (tgt := 37) hx hb dX10_lookItem_27 (by decide)) (fun c27 => ?_) (fun c27 => ?_)
    · simp only [decide_eq_true_eq, decide_eq_false_iff_not] at c27
      refine jJ_of (fun H locs => lv_aload_n hx hb dX10_lookItem_37 rfl (lv_at hl 0 rfl)) ?_
      refine jX_callV (As := []) (rest := []) (wc := jF (lW cI cB cZ Z (E) (X) V a d fp)) (cs2 := []) (C := RX10) (T := TX10) (N := 19) (ci := 8) [0, 1, 2, 4, 3, 5, 6] [] ⟨hx, hb, hml, hown, hts⟩ hK hA hAm (hBr a fp (by omega)) (cwV 0 hts gX10_lookItem_X10_bracket rfl rfl rfl (by decide +kernel) ⟨by show (6 * r + 8) + 1 ≤ 6 * r + 10; omega, by show 8 + (1 + 11) + (240 * r + 320) ≤ 240 * r + 400; omega⟩) (nn := 7) rfl (by decide) rfl rfl ⟨0, _, rfl⟩ rfl rfl rfl hl.1 (Nat.le_of_ble_eq_true rfl) dX10_lookItem_38 (by show _ + 0 ≤ 0; omega) (by show _ + 0 ≤ 0; omega) (fun u3 k3 n3 q3 hx3 => ?_) (fun v u3 k3 n3 hq3 => ?_)
      · obtain ⟨hb3, ⟨a2_3, d2_3, hu3⟩, rfl, rfl⟩ := hx3
        obtain ⟨aa3, hea3⟩ : ∃ x, ((qBra tk N r) a).2 = x := ⟨_, rfl⟩
        rw [hea3] at hu3
        have he3 : (qBra tk N r) a = (false, aa3) := Prod.ext hb3 hea3
        rw [hu3]
        have he : (qItm tk N r) a = (false, aa3) := by unfold qItm; rw [if_neg (by omega), if_neg (by omega), he3]
        exact jJx_out hno hlocks (by show _ ≤ 0; omega) (by show _ ≤ 0; omega) ⟨by rw [he], ⟨_, _, by rw [he]; rfl⟩, rfl, rfl⟩
      obtain ⟨hb3, rfl, hw3, rfl, rfl⟩ := hq3
      have hqb3 : a ≤ ((qBra tk N r) a).2 ∧ ((qBra tk N r) a).2 + 1 ≤ (tk 0).length := qb_bra hE N r a (by omega)
      obtain ⟨aa3, hea3⟩ : ∃ x, ((qBra tk N r) a).2 = x := ⟨_, rfl⟩
      rw [hea3] at hw3 hqb3
      have he3 : (qBra tk N r) a = (true, aa3) := Prod.ext hb3 hea3
      rw [hw3]
      refine jJ_open (xs := [[(Z 0, .inr (8, [E 0, E 1, E 2, .ref (Z 1), .int (nI aa3), .int (nI d), E 6, E 7, E 8, .ref (Z 2), .int fp, E 11, E 12, E 13, E 14, E 15, E 16, E 17, E 18]))], [(Z 1, .inr (7, [X 0, X 1, .ref (Z 3), .ref (Z 4), .ref (Z 5), .ref (Z 6), X 6, X 7, X 8, X 9, X 10, X 11, X 12]))], [(Z 3, .inl (cB, 32008, .inl (V 0)))], [(Z 4, .inl (cI, 32008, .inl (V 1)))], [(Z 5, .inl (cI, 32008, .inl (V 2)))], [(Z 6, .inl (cZ, 32008, .inl (V 3)))], [(Z 2, .inr (0, []))]]) (r := []) (cs2 := [[(Z 0, .inr (8, [E 0, E 1, E 2, .ref (Z 1), .int (nI aa3), .int (nI d), E 6, E 7, E 8, .ref (Z 2), .int fp, E 11, E 12, E 13, E 14, E 15, E 16, E 17, E 18]))], [(Z 1, .inr (7, [X 0, X 1, .ref (Z 3), .ref (Z 4), .ref (Z 5), .ref (Z 6), X 6, X 7, X 8, X 9, X 10, X 11, X 12]))], [(Z 3, .inl (cB, 32008, .inl (V 0)))], [(Z 4, .inl (cI, 32008, .inl (V 1)))], [(Z 5, .inl (cI, 32008, .inl (V 2)))], [(Z 6, .inl (cZ, 32008, .inl (V 3)))], [(Z 2, .inr (0, []))]]) rfl ?_
      refine jJ_eq (g2 := F0 m 41 ls []) (cs2 := [[(Z 0, .inr (8, [E 0, E 1, E 2, .ref (Z 1), .int (nI aa3), .int (nI d), E 6, E 7, E 8, .ref (Z 2), .int fp, E 11, E 12, E 13, E 14, E 15, E 16, E 17, E 18]))], [(Z 1, .inr (7, [X 0, X 1, .ref (Z 3), .ref (Z 4), .ref (Z 5), .ref (Z 6), X 6, X 7, X 8, X 9, X 10, X 11, X 12]))], [(Z 3, .inl (cB, 32008, .inl (V 0)))], [(Z 4, .inl (cI, 32008, .inl (V 1)))], [(Z 5, .inl (cI, 32008, .inl (V 2)))], [(Z 6, .inl (cZ, 32008, .inl (V 3)))], [(Z 2, .inr (0, []))]]) rfl rfl ?_
      have he : (qItm tk N r) a = (true, aa3) := by unfold qItm; rw [if_neg (by omega), if_neg (by omega), he3]
      exact jJ_toX (jJ_vret hx hb hr hlocks dX10_lookItem_41 (by show _ ≤ 0; omega) (by show _ ≤ 0; omega) ⟨by rw [he], rfl, by rw [he]; rfl, rfl, rfl⟩)
    · simp only [decide_eq_true_eq, decide_eq_false_iff_not] at c27
      refine jJ_of (fun H locs => lv_aload_n hx hb dX10_lookItem_30 rfl (lv_at hl 0 rfl)) ?_
      refine jX_callV (As := []) (rest := []) (wc := jF (lW cI cB cZ Z (E) (X) V a d fp)) (cs2 := []) (C := RX10) (T := TX10) (N := 19) (ci := 8) [0, 1, 2, 4, 3, 5, 6] [] ⟨hx, hb, hml, hown, hts⟩ hK hA hAm (hPl a fp (by omega)) (cwV 0 hts gX10_lookItem_X10_lookPlace rfl rfl rfl (by decide +kernel) ⟨by show (6 * r + 9) + 1 ≤ 6 * r + 10; omega, by show 8 + (1 + 11) + (240 * r + 360) ≤ 240 * r + 400; omega⟩) (nn := 7) rfl (by decide) rfl rfl ⟨0, _, rfl⟩ rfl rfl rfl hl.1 (Nat.le_of_ble_eq_true rfl) dX10_lookItem_31 (by show _ + 0 ≤ 0; omega) (by show _ + 0 ≤ 0; omega) (fun u4 k4 n4 q4 hx4 => ?_) (fun v u4 k4 n4 hq4 => ?_)
      · obtain ⟨hb4, ⟨a2_4, d2_4, hu4⟩, rfl, rfl⟩ := hx4
        obtain ⟨aa4, hea4⟩ : ∃ x, ((qPlc tk N r) a).2 = x := ⟨_, rfl⟩
        rw [hea4] at hu4
        have he4 : (qPlc tk N r) a = (false, aa4) := Prod.ext hb4 hea4
        rw [hu4]
        have he : (qItm tk N r) a = (false, aa4) := by unfold qItm; rw [if_neg (by omega), if_pos (by omega), ← qPlc_y (by omega), he4]
        exact jJx_out hno hlocks (by show _ ≤ 0; omega) (by show _ ≤ 0; omega) ⟨by rw [he], ⟨_, _, by rw [he]; rfl⟩, rfl, rfl⟩
      obtain ⟨hb4, rfl, hw4, rfl, rfl⟩ := hq4
      have hqb4 : a ≤ ((qPlc tk N r) a).2 ∧ ((qPlc tk N r) a).2 + 1 ≤ (tk 0).length := qb_plc hE N r a (by omega)
      obtain ⟨aa4, hea4⟩ : ∃ x, ((qPlc tk N r) a).2 = x := ⟨_, rfl⟩
      rw [hea4] at hw4 hqb4
      have he4 : (qPlc tk N r) a = (true, aa4) := Prod.ext hb4 hea4
      rw [hw4]
      refine jJ_open (xs := [[(Z 0, .inr (8, [E 0, E 1, E 2, .ref (Z 1), .int (nI aa4), .int (nI d), E 6, E 7, E 8, .ref (Z 2), .int fp, E 11, E 12, E 13, E 14, E 15, E 16, E 17, E 18]))], [(Z 1, .inr (7, [X 0, X 1, .ref (Z 3), .ref (Z 4), .ref (Z 5), .ref (Z 6), X 6, X 7, X 8, X 9, X 10, X 11, X 12]))], [(Z 3, .inl (cB, 32008, .inl (V 0)))], [(Z 4, .inl (cI, 32008, .inl (V 1)))], [(Z 5, .inl (cI, 32008, .inl (V 2)))], [(Z 6, .inl (cZ, 32008, .inl (V 3)))], [(Z 2, .inr (0, []))]]) (r := []) (cs2 := [[(Z 0, .inr (8, [E 0, E 1, E 2, .ref (Z 1), .int (nI aa4), .int (nI d), E 6, E 7, E 8, .ref (Z 2), .int fp, E 11, E 12, E 13, E 14, E 15, E 16, E 17, E 18]))], [(Z 1, .inr (7, [X 0, X 1, .ref (Z 3), .ref (Z 4), .ref (Z 5), .ref (Z 6), X 6, X 7, X 8, X 9, X 10, X 11, X 12]))], [(Z 3, .inl (cB, 32008, .inl (V 0)))], [(Z 4, .inl (cI, 32008, .inl (V 1)))], [(Z 5, .inl (cI, 32008, .inl (V 2)))], [(Z 6, .inl (cZ, 32008, .inl (V 3)))], [(Z 2, .inr (0, []))]]) rfl ?_
      refine jJ_eq (g2 := F0 m 34 ls []) (cs2 := [[(Z 0, .inr (8, [E 0, E 1, E 2, .ref (Z 1), .int (nI aa4), .int (nI d), E 6, E 7, E 8, .ref (Z 2), .int fp, E 11, E 12, E 13, E 14, E 15, E 16, E 17, E 18]))], [(Z 1, .inr (7, [X 0, X 1, .ref (Z 3), .ref (Z 4), .ref (Z 5), .ref (Z 6), X 6, X 7, X 8, X 9, X 10, X 11, X 12]))], [(Z 3, .inl (cB, 32008, .inl (V 0)))], [(Z 4, .inl (cI, 32008, .inl (V 1)))], [(Z 5, .inl (cI, 32008, .inl (V 2)))], [(Z 6, .inl (cZ, 32008, .inl (V 3)))], [(Z 2, .inr (0, []))]]) rfl rfl ?_
      refine jJ_of (fun H locs => lv_goto (tgt := 41) hx hb dX10_lookItem_34 (by decide)) ?_
      have he : (qItm tk N r) a = (true, aa4) := by unfold qItm; rw [if_neg (by omega), if_pos (by omega), ← qPlc_y (by omega), he4]
      exact jJ_toX (jJ_vret hx hb hr hlocks dX10_lookItem_41 (by show _ ≤ 0; omega) (by show _ ≤ 0; omega) ⟨by rw [he], rfl, by rw [he]; rfl, rfl, rfl⟩)
  · refine jJ_of (fun H locs => lv_aload_n hx hb dX10_lookItem_8 rfl (lv_at hl 0 rfl)) ?_
    refine jJ_of (fun H locs => lv_dup hx hb dX10_lookItem_9 rfl) ?_
    refine jJ_get hx hb (C := RX10) (T := TX10) (N := 19) hts uX10_in_X10_lookItem hown hK 0 rfl rfl 4 (by decide) (hts (.fieldLink RX10 121 "ValueBlocksModel" "at" "I") (by decide +kernel)) (fun _ h9 => h9) rfl dX10_lookItem_10 ?_
    refine jJ_of (fun H locs => lv_iconst (v := (nI 1)) hx hb dX10_lookItem_13 (by decide)) ?_
    refine jJ_of (fun H locs => jn_iadd hx hb dX10_lookItem_14) ?_
    refine jJ_put hx hb (C := RX10) (T := TX10) (N := 19) (ty := .int) (v := .int (nI (a + 1))) hts uX10_in_X10_lookItem tyX10 tyX10_ok nmX10 hown hK 0 rfl rfl 4 (by decide) (hts (.fieldLink RX10 121 "ValueBlocksModel" "at" "I") (by decide +kernel)) (fun _ h9 => h9) rfl (by decide +kernel) rfl rfl (Nat.le_of_ble_eq_true rfl) dX10_lookItem_15 (cs2 := [[(Z 0, .inr (8, [E 0, E 1, E 2, .ref (Z 1), .int (nI (a + 1)), .int (nI d), E 6, E 7, E 8, .ref (Z 2), .int fp, E 11, E 12, E 13, E 14, E 15, E 16, E 17, E 18]))], [(Z 1, .inr (7, [X 0, X 1, .ref (Z 3), .ref (Z 4), .ref (Z 5), .ref (Z 6), X 6, X 7, X 8, X 9, X 10, X 11, X 12]))], [(Z 3, .inl (cB, 32008, .inl (V 0)))], [(Z 5, .inl (cI, 32008, .inl (V 2)))], [(Z 4, .inl (cI, 32008, .inl (V 1)))], [(Z 6, .inl (cZ, 32008, .inl (V 3)))], [(Z 2, .inr (0, []))]]) rfl ?_
    refine jJ_of (fun H locs => lv_goto (tgt := 41) hx hb dX10_lookItem_18 (by decide)) ?_
    refine jJ_perm [0, 1, 2, 4, 3, 5, 6] (nn := 7) rfl (by decide) (cs2 := [[(Z 0, .inr (8, [E 0, E 1, E 2, .ref (Z 1), .int (nI (a + 1)), .int (nI d), E 6, E 7, E 8, .ref (Z 2), .int fp, E 11, E 12, E 13, E 14, E 15, E 16, E 17, E 18]))], [(Z 1, .inr (7, [X 0, X 1, .ref (Z 3), .ref (Z 4), .ref (Z 5), .ref (Z 6), X 6, X 7, X 8, X 9, X 10, X 11, X 12]))], [(Z 3, .inl (cB, 32008, .inl (V 0)))], [(Z 4, .inl (cI, 32008, .inl (V 1)))], [(Z 5, .inl (cI, 32008, .inl (V 2)))], [(Z 6, .inl (cZ, 32008, .inl (V 3)))], [(Z 2, .inr (0, []))]]) rfl ?_
    have he : (qItm tk N r) a = (true, a + 1) := by exact if_pos (by omega)
    exact jJ_toX (jJ_vret hx hb hr hlocks dX10_lookItem_41 (by show _ ≤ 0; omega) (by show _ ≤ 0; omega) ⟨by rw [he], rfl, by rw [he]; rfl, rfl, rfl⟩)
theorem qFac_m {tk : Nat → List Nat} {N r a : Nat} (h : (tk 0).getD a 0 = 45) : qFac tk N (r + 1) a = qFac tk N r (a + 1) := by rw [qFac_eq]; exact if_pos h
theorem qFac_m0 {tk : Nat → List Nat} {N a : Nat} (h : (tk 0).getD a 0 = 45) : qFac tk N 0 a = (false, a) := by rw [qFac_eq]; exact if_pos h
theorem qFac_f {tk : Nat → List Nat} {N r a : Nat} (h : 305 ≤ (tk 0).getD a 0 ∧ (tk 0).getD a 0 ≤ 308) : qFac tk N r a = qBra tk N r (a + 1) := by rw [qFac_eq]; unfold qFw; rw [if_neg (by omega), if_pos (by omega)]
theorem qFac_i {tk : Nat → List Nat} {N r a : Nat} (h : ¬ (tk 0).getD a 0 = 45) (h2 : (tk 0).getD a 0 < 305 ∨ 308 < (tk 0).getD a 0) : qFac tk N r a = qItm tk N r a := by
  rw [qFac_eq]; unfold qFw qItm; rw [if_neg h, if_neg (by omega)]
  by_cases q : (tk 0).getD a 0 = 35
  · rw [if_pos q, if_neg (by omega), if_pos q]
  · rw [if_neg q]
    by_cases q2 : (tk 0).getD a 0 = 256 ∨ (tk 0).getD a 0 = 257
    · rw [if_pos q2, if_pos q2]
    · rw [if_neg q2, if_neg q2, if_neg q]
theorem uX10_in_X10_lookFactor : ∀ w ∈ u_ws RX10 TX10 19, w ∈ wsX10_lookFactor := by decide +kernel
theorem uX9_in_X10_lookFactor : ∀ w ∈ u_ws RX9 TX9 13, w ∈ wsX10_lookFactor := by decide +kernel
set_option maxHeartbeats 4000000 in
set_option maxRecDepth 100000 in
/-- lookFactor() -/
theorem c_Md_lookFactor {Z : Nat → Nat} {E X : Nat → Value} {V : Nat → Nat → Int32} {tk : Nat → List Nat} {a d : Nat} {fp : Int32} (hT : tV tk V) (hE : tE tk) (ha : a + 1 ≤ (tk 0).length) {N r : Nat} (hd : d + r = 20) (hBr : cLk D G cI cJ cB cZ l yX10_bracket wsX10_bracket (6 * r + 8) (240 * r + 320) Z E X V tk (d) (qBra tk N r)) (hIt : cLk D G cI cJ cB cZ l yX10_lookItem wsX10_lookItem (6 * r + 10) (240 * r + 400) Z E X V tk (d) (qItm tk N r)) (hFa : ∀ r2, r = r2 + 1 → cLk D G cI cJ cB cZ l yX10_lookFactor wsX10_lookFactor (6 * r2 + 11) (240 * r2 + 440) Z E X V tk (d + 1) (qFac tk N r2)) : HX l yX10_lookFactor wsX10_lookFactor ({ frames := 6 * r + 11, cells := 0, slots := 0, locals := 240 * r + 440 } : Room) D G (jT cI cJ cB cZ) [.ref (Z 0)] (jF (lW cI cB cZ Z E X V a d fp)) (fun v u k n => ((qFac tk N r) a).1 = true ∧ v = none ∧ u = jF (lW cI cB cZ Z E X V ((qFac tk N r) a).2 d fp) ∧ k = 0 ∧ n = 0) (fun u k n => ((qFac tk N r) a).1 = false ∧ (∃ a2 d2 : Nat, u = jF (lW cI cB cZ Z E X V a2 d2 (nI ((tk 1).getD ((qFac tk N r) a).2 0)))) ∧ k = 0 ∧ n = 0) := by
  refine HX_of (cc := cX10_lookFactor) (maxL := 1) (ret := none) (lv := [(0, .ref (Z 0))]) (by decide) rfl rfl (Nat.le_of_ble_eq_true rfl) (fun p e s m args below meth c A0 ls hx hb hr hts hown hlocks hml hno hK hA hAm hl => ?_)
  refine jJ_open (xs := [[(Z 0, .inr (8, [E 0, E 1, E 2, .ref (Z 1), .int (nI a), .int (nI d), E 6, E 7, E 8, .ref (Z 2), .int fp, E 11, E 12, E 13, E 14, E 15, E 16, E 17, E 18]))], [(Z 1, .inr (7, [X 0, X 1, .ref (Z 3), .ref (Z 4), .ref (Z 5), .ref (Z 6), X 6, X 7, X 8, X 9, X 10, X 11, X 12]))], [(Z 3, .inl (cB, 32008, .inl (V 0)))], [(Z 4, .inl (cI, 32008, .inl (V 1)))], [(Z 5, .inl (cI, 32008, .inl (V 2)))], [(Z 6, .inl (cZ, 32008, .inl (V 3)))], [(Z 2, .inr (0, []))]]) (r := []) (cs2 := [[(Z 0, .inr (8, [E 0, E 1, E 2, .ref (Z 1), .int (nI a), .int (nI d), E 6, E 7, E 8, .ref (Z 2), .int fp, E 11, E 12, E 13, E 14, E 15, E 16, E 17, E 18]))], [(Z 1, .inr (7, [X 0, X 1, .ref (Z 3), .ref (Z 4), .ref (Z 5), .ref (Z 6), X 6, X 7, X 8, X 9, X 10, X 11, X 12]))], [(Z 3, .inl (cB, 32008, .inl (V 0)))], [(Z 4, .inl (cI, 32008, .inl (V 1)))], [(Z 5, .inl (cI, 32008, .inl (V 2)))], [(Z 6, .inl (cZ, 32008, .inl (V 3)))], [(Z 2, .inr (0, []))]]) rfl ?_
  have hL9 := hT.1
  have hL9 := hT.1
  obtain ⟨hV0, hV1, hV2, hV3⟩ := hT.2.1 a (by omega)
  obtain ⟨hB0, hB1, hB2⟩ := hT.2.2 a
  have hkc := kC_le ((tk 0).getD a 0)
  have hkw := kW_le hB0 hB2
  have hk1 := kC1 (c := (tk 0).getD a 0)
  have hk3 := kC3w (c := (tk 0).getD a 0) (w := (tk 2).getD a 0)
  have hL8 := hE.lt (a := a)
  refine jJ_of (fun H locs => lv_aload_n hx hb dX10_lookFactor_0 rfl (lv_at hl 0 rfl)) ?_
  refine jJ_of (fun H locs => lv_bipush (v := (nI 45)) hx hb dX10_lookFactor_1 (by decide)) ?_
  refine jJ_callV (As := [.int (nI 45)]) (rest := []) (wc := jF (kWd cI cB Z (lsV [E 0, E 1, E 2, .null, .null, .int (nI d), E 6, E 7, E 8, .ref (Z 2), .int fp, E 11, E 12, E 13, E 14, E 15, E 16, E 17, E 18]) (lsV [X 0, X 1, .null, .ref (Z 4), .null, .ref (Z 6), X 6, X 7, X 8, X 9, X 10, X 11, X 12]) V a)) (cs2 := [[(Z 4, .inl (cI, 32008, .inl (V 1)))], [(Z 6, .inl (cZ, 32008, .inl (V 3)))], [(Z 2, .inr (0, []))]]) (C := RX10) (T := TX10) (N := 19) (ci := 8) [0, 1, 2, 4] [3, 5, 6] ⟨hx, hb, hml, hown, hts⟩ hK hA hAm (c_Md_isSign (E := lsV [E 0, E 1, E 2, .null, .null, .int (nI d), E 6, E 7, E 8, .ref (Z 2), .int fp, E 11, E 12, E 13, E 14, E 15, E 16, E 17, E 18]) (X := lsV [X 0, X 1, .null, .ref (Z 4), .null, .ref (Z 6), X 6, X 7, X 8, X 9, X 10, X 11, X 12]) (a := a) hT (by omega) 45 (by decide)) (cwV 1 hts gX10_lookFactor_X10_isSign rfl rfl rfl (by decide +kernel) ⟨by show (1) + 1 ≤ 6 * r + 11; omega, by show 8 + (2 + 11) + (40) ≤ 240 * r + 440; omega⟩) (nn := 7) rfl (by decide) rfl rfl ⟨0, _, rfl⟩ rfl rfl rfl hl.1 (Nat.le_of_ble_eq_true rfl) dX10_lookFactor_3 (by show _ + 0 ≤ 0; omega) (by show _ + 0 ≤ 0; omega) (fun v u1 k1 n1 hq1 => ?_)
  obtain ⟨rfl, hw1, rfl, rfl⟩ := hq1
  rw [hw1]
  refine jJ_open (xs := [[(Z 0, .inr (8, [E 0, E 1, E 2, .ref (Z 1), .int (nI a), .int (nI d), E 6, E 7, E 8, .ref (Z 2), .int fp, E 11, E 12, E 13, E 14, E 15, E 16, E 17, E 18]))], [(Z 1, .inr (7, [X 0, X 1, .ref (Z 3), .ref (Z 4), .ref (Z 5), .ref (Z 6), X 6, X 7, X 8, X 9, X 10, X 11, X 12]))], [(Z 3, .inl (cB, 32008, .inl (V 0)))], [(Z 5, .inl (cI, 32008, .inl (V 2)))]]) (r := [[(Z 4, .inl (cI, 32008, .inl (V 1)))], [(Z 6, .inl (cZ, 32008, .inl (V 3)))], [(Z 2, .inr (0, []))]]) (cs2 := [[(Z 0, .inr (8, [E 0, E 1, E 2, .ref (Z 1), .int (nI a), .int (nI d), E 6, E 7, E 8, .ref (Z 2), .int fp, E 11, E 12, E 13, E 14, E 15, E 16, E 17, E 18]))], [(Z 1, .inr (7, [X 0, X 1, .ref (Z 3), .ref (Z 4), .ref (Z 5), .ref (Z 6), X 6, X 7, X 8, X 9, X 10, X 11, X 12]))], [(Z 3, .inl (cB, 32008, .inl (V 0)))], [(Z 5, .inl (cI, 32008, .inl (V 2)))], [(Z 4, .inl (cI, 32008, .inl (V 1)))], [(Z 6, .inl (cZ, 32008, .inl (V 3)))], [(Z 2, .inr (0, []))]]) rfl ?_
  refine jJ_eq (g2 := F0 m 6 ls [.int (bI (decide ((tk 0).getD a 0 = 45)))]) (cs2 := [[(Z 0, .inr (8, [E 0, E 1, E 2, .ref (Z 1), .int (nI a), .int (nI d), E 6, E 7, E 8, .ref (Z 2), .int fp, E 11, E 12, E 13, E 14, E 15, E 16, E 17, E 18]))], [(Z 1, .inr (7, [X 0, X 1, .ref (Z 3), .ref (Z 4), .ref (Z 5), .ref (Z 6), X 6, X 7, X 8, X 9, X 10, X 11, X 12]))], [(Z 3, .inl (cB, 32008, .inl (V 0)))], [(Z 5, .inl (cI, 32008, .inl (V 2)))], [(Z 4, .inl (cI, 32008, .inl (V 1)))], [(Z 6, .inl (cZ, 32008, .inl (V 3)))], [(Z 2, .inr (0, []))]]) rfl rfl ?_
  refine jJ_of2 (fun H locs => jb_if_eq (tgt := 40) hx hb dX10_lookFactor_6 (by decide)) (fun c6 => ?_) (fun c6 => ?_)
  · try simp only [decide_eq_true_eq, decide_eq_false_iff_not, Bool.and_eq_true, Bool.and_eq_false_iff] at c6
    refine jJ_of (fun H locs => lv_aload_n hx hb dX10_lookFactor_40 rfl (lv_at hl 0 rfl)) ?_
    refine jJ_callV (As := []) (rest := []) (wc := jF (kWd cI cB Z (lsV [E 0, E 1, E 2, .null, .null, .int (nI d), E 6, E 7, E 8, .ref (Z 2), .int fp, E 11, E 12, E 13, E 14, E 15, E 16, E 17, E 18]) (lsV [X 0, X 1, .null, .ref (Z 4), .null, .ref (Z 6), X 6, X 7, X 8, X 9, X 10, X 11, X 12]) V a)) (cs2 := [[(Z 4, .inl (cI, 32008, .inl (V 1)))], [(Z 6, .inl (cZ, 32008, .inl (V 3)))], [(Z 2, .inr (0, []))]]) (C := RX10) (T := TX10) (N := 19) (ci := 8) [0, 1, 2, 3] [4, 5, 6] ⟨hx, hb, hml, hown, hts⟩ hK hA hAm (c_Md_kind (E := lsV [E 0, E 1, E 2, .null, .null, .int (nI d), E 6, E 7, E 8, .ref (Z 2), .int fp, E 11, E 12, E 13, E 14, E 15, E 16, E 17, E 18]) (X := lsV [X 0, X 1, .null, .ref (Z 4), .null, .ref (Z 6), X 6, X 7, X 8, X 9, X 10, X 11, X 12]) (a := a) hT (by omega)) (cwV 0 hts gX10_lookFactor_X10_kind rfl rfl rfl (by decide +kernel) ⟨by show (0) + 1 ≤ 6 * r + 11; omega, by show 8 + (1 + 11) + (0) ≤ 240 * r + 440; omega⟩) (nn := 7) rfl (by decide) rfl rfl ⟨0, _, rfl⟩ rfl rfl rfl hl.1 (Nat.le_of_ble_eq_true rfl) dX10_lookFactor_41 (by show _ + 0 ≤ 0; omega) (by show _ + 0 ≤ 0; omega) (fun v u2 k2 n2 hq2 => ?_)
    obtain ⟨rfl, hw2, rfl, rfl⟩ := hq2
    rw [hw2]
    refine jJ_open (xs := [[(Z 0, .inr (8, [E 0, E 1, E 2, .ref (Z 1), .int (nI a), .int (nI d), E 6, E 7, E 8, .ref (Z 2), .int fp, E 11, E 12, E 13, E 14, E 15, E 16, E 17, E 18]))], [(Z 1, .inr (7, [X 0, X 1, .ref (Z 3), .ref (Z 4), .ref (Z 5), .ref (Z 6), X 6, X 7, X 8, X 9, X 10, X 11, X 12]))], [(Z 3, .inl (cB, 32008, .inl (V 0)))], [(Z 5, .inl (cI, 32008, .inl (V 2)))]]) (r := [[(Z 4, .inl (cI, 32008, .inl (V 1)))], [(Z 6, .inl (cZ, 32008, .inl (V 3)))], [(Z 2, .inr (0, []))]]) (cs2 := [[(Z 0, .inr (8, [E 0, E 1, E 2, .ref (Z 1), .int (nI a), .int (nI d), E 6, E 7, E 8, .ref (Z 2), .int fp, E 11, E 12, E 13, E 14, E 15, E 16, E 17, E 18]))], [(Z 1, .inr (7, [X 0, X 1, .ref (Z 3), .ref (Z 4), .ref (Z 5), .ref (Z 6), X 6, X 7, X 8, X 9, X 10, X 11, X 12]))], [(Z 3, .inl (cB, 32008, .inl (V 0)))], [(Z 5, .inl (cI, 32008, .inl (V 2)))], [(Z 4, .inl (cI, 32008, .inl (V 1)))], [(Z 6, .inl (cZ, 32008, .inl (V 3)))], [(Z 2, .inr (0, []))]]) rfl ?_
    refine jJ_eq (g2 := F0 m 44 ls [.int (nI (kC ((tk 0).getD a 0)))]) (cs2 := [[(Z 0, .inr (8, [E 0, E 1, E 2, .ref (Z 1), .int (nI a), .int (nI d), E 6, E 7, E 8, .ref (Z 2), .int fp, E 11, E 12, E 13, E 14, E 15, E 16, E 17, E 18]))], [(Z 1, .inr (7, [X 0, X 1, .ref (Z 3), .ref (Z 4), .ref (Z 5), .ref (Z 6), X 6, X 7, X 8, X 9, X 10, X 11, X 12]))], [(Z 3, .inl (cB, 32008, .inl (V 0)))], [(Z 5, .inl (cI, 32008, .inl (V 2)))], [(Z 4, .inl (cI, 32008, .inl (V 1)))], [(Z 6, .inl (cZ, 32008, .inl (V 3)))], [(Z 2, .inr (0, []))]]) rfl rfl ?_
    refine jJ_of (fun H locs => lv_iconst (v := (nI 3)) hx hb dX10_lookFactor_44 (by decide)) ?_
    refine jJ_of2 (fun H locs => jn_icmp_ne (tgt := 98) hx hb dX10_lookFactor_45 (by decide) (by omega) (by omega)) (fun c45 => ?_) (fun c45 => ?_)
    · refine jJ_of (fun H locs => lv_aload_n hx hb dX10_lookFactor_98 rfl (lv_at hl 0 rfl)) ?_
      refine jX_callV (As := []) (rest := []) (wc := jF (lW cI cB cZ Z (E) (X) V a d fp)) (cs2 := []) (C := RX10) (T := TX10) (N := 19) (ci := 8) [0, 1, 2, 4, 3, 5, 6] [] ⟨hx, hb, hml, hown, hts⟩ hK hA hAm (hIt a fp (by omega)) (cwV 0 hts gX10_lookFactor_X10_lookItem rfl rfl rfl (by decide +kernel) ⟨by show (6 * r + 10) + 1 ≤ 6 * r + 11; omega, by show 8 + (1 + 11) + (240 * r + 400) ≤ 240 * r + 440; omega⟩) (nn := 7) rfl (by decide) rfl rfl ⟨0, _, rfl⟩ rfl rfl rfl hl.1 (Nat.le_of_ble_eq_true rfl) dX10_lookFactor_99 (by show _ + 0 ≤ 0; omega) (by show _ + 0 ≤ 0; omega) (fun u3 k3 n3 q3 hx3 => ?_) (fun v u3 k3 n3 hq3 => ?_)
      · obtain ⟨hb3, ⟨a2_3, d2_3, hu3⟩, rfl, rfl⟩ := hx3
        obtain ⟨aa3, hea3⟩ : ∃ x, ((qItm tk N r) a).2 = x := ⟨_, rfl⟩
        rw [hea3] at hu3
        have he3 : (qItm tk N r) a = (false, aa3) := Prod.ext hb3 hea3
        rw [hu3]
        have he : (qFac tk N r) a = (false, aa3) := by rw [qFac_i (by omega) (by omega), he3]
        exact jJx_out hno hlocks (by show _ ≤ 0; omega) (by show _ ≤ 0; omega) ⟨by rw [he], ⟨_, _, by rw [he]; rfl⟩, rfl, rfl⟩
      obtain ⟨hb3, rfl, hw3, rfl, rfl⟩ := hq3
      have hqb3 : a ≤ ((qItm tk N r) a).2 ∧ ((qItm tk N r) a).2 + 1 ≤ (tk 0).length := qb_itm hE N r a (by omega)
      obtain ⟨aa3, hea3⟩ : ∃ x, ((qItm tk N r) a).2 = x := ⟨_, rfl⟩
      rw [hea3] at hw3 hqb3
      have he3 : (qItm tk N r) a = (true, aa3) := Prod.ext hb3 hea3
      rw [hw3]
      refine jJ_open (xs := [[(Z 0, .inr (8, [E 0, E 1, E 2, .ref (Z 1), .int (nI aa3), .int (nI d), E 6, E 7, E 8, .ref (Z 2), .int fp, E 11, E 12, E 13, E 14, E 15, E 16, E 17, E 18]))], [(Z 1, .inr (7, [X 0, X 1, .ref (Z 3), .ref (Z 4), .ref (Z 5), .ref (Z 6), X 6, X 7, X 8, X 9, X 10, X 11, X 12]))], [(Z 3, .inl (cB, 32008, .inl (V 0)))], [(Z 4, .inl (cI, 32008, .inl (V 1)))], [(Z 5, .inl (cI, 32008, .inl (V 2)))], [(Z 6, .inl (cZ, 32008, .inl (V 3)))], [(Z 2, .inr (0, []))]]) (r := []) (cs2 := [[(Z 0, .inr (8, [E 0, E 1, E 2, .ref (Z 1), .int (nI aa3), .int (nI d), E 6, E 7, E 8, .ref (Z 2), .int fp, E 11, E 12, E 13, E 14, E 15, E 16, E 17, E 18]))], [(Z 1, .inr (7, [X 0, X 1, .ref (Z 3), .ref (Z 4), .ref (Z 5), .ref (Z 6), X 6, X 7, X 8, X 9, X 10, X 11, X 12]))], [(Z 3, .inl (cB, 32008, .inl (V 0)))], [(Z 4, .inl (cI, 32008, .inl (V 1)))], [(Z 5, .inl (cI, 32008, .inl (V 2)))], [(Z 6, .inl (cZ, 32008, .inl (V 3)))], [(Z 2, .inr (0, []))]]) rfl ?_
      refine jJ_eq (g2 := F0 m 102 ls []) (cs2 := [[(Z 0, .inr (8, [E 0, E 1, E 2, .ref (Z 1), .int (nI aa3), .int (nI d), E 6, E 7, E 8, .ref (Z 2), .int fp, E 11, E 12, E 13, E 14, E 15, E 16, E 17, E 18]))], [(Z 1, .inr (7, [X 0, X 1, .ref (Z 3), .ref (Z 4), .ref (Z 5), .ref (Z 6), X 6, X 7, X 8, X 9, X 10, X 11, X 12]))], [(Z 3, .inl (cB, 32008, .inl (V 0)))], [(Z 4, .inl (cI, 32008, .inl (V 1)))], [(Z 5, .inl (cI, 32008, .inl (V 2)))], [(Z 6, .inl (cZ, 32008, .inl (V 3)))], [(Z 2, .inr (0, []))]]) rfl rfl ?_
      have he : (qFac tk N r) a = (true, aa3) := by rw [qFac_i (by omega) (by omega), he3]
      exact jJ_toX (jJ_vret hx hb hr hlocks dX10_lookFactor_102 (by show _ ≤ 0; omega) (by show _ ≤ 0; omega) ⟨by rw [he], rfl, by rw [he]; rfl, rfl, rfl⟩)
    · refine jJ_of (fun H locs => lv_aload_n hx hb dX10_lookFactor_48 rfl (lv_at hl 0 rfl)) ?_
      refine jJ_get hx hb (C := RX10) (T := TX10) (N := 19) hts uX10_in_X10_lookFactor hown hK 0 rfl rfl 3 (by decide) (hts (.fieldLink RX10 53 "ValueBlocksModel" "t" "LValueBlocksModel$Text;") (by decide +kernel)) (fun _ h9 => h9) rfl dX10_lookFactor_49 ?_
      refine jJ_get hx hb (C := RX9) (T := TX9) (N := 13) hts uX9_in_X10_lookFactor hown hK 1 rfl rfl 4 (by decide) (hts (.fieldLink RX10 71 "ValueBlocksModel$Text" "worths" "[I") (by decide +kernel)) (fun _ h9 => h9) rfl dX10_lookFactor_52 ?_
      refine jJ_of (fun H locs => lv_aload_n hx hb dX10_lookFactor_55 rfl (lv_at hl 0 rfl)) ?_
      refine jJ_get hx hb (C := RX10) (T := TX10) (N := 19) hts uX10_in_X10_lookFactor hown hK 0 rfl rfl 4 (by decide) (hts (.fieldLink RX10 121 "ValueBlocksModel" "at" "I") (by decide +kernel)) (fun _ h9 => h9) rfl dX10_lookFactor_56 ?_
      refine jJ_iald hx hb hK 3 0 (f := V 2) rfl rfl (vp_in_nI (by omega) (by omega)) (x := (nI (kW ((tk 0).getD a 0) ((tk 2).getD a 0)))) (by rw [nI_clamp (by omega)]; exact hV2) dX10_lookFactor_59 ?_
      refine jJ_of (fun H locs => lv_iconst (v := (nI 5)) hx hb dX10_lookFactor_60 (by decide)) ?_
      refine jJ_of2 (fun H locs => jn_icmp_lt (tgt := 98) hx hb dX10_lookFactor_61 (by decide) (by omega) (by omega)) (fun c61 => ?_) (fun c61 => ?_)
      · refine jJ_of (fun H locs => lv_aload_n hx hb dX10_lookFactor_98 rfl (lv_at hl 0 rfl)) ?_
        refine jX_callV (As := []) (rest := []) (wc := jF (lW cI cB cZ Z (E) (X) V a d fp)) (cs2 := []) (C := RX10) (T := TX10) (N := 19) (ci := 8) [0, 1, 2, 4, 3, 5, 6] [] ⟨hx, hb, hml, hown, hts⟩ hK hA hAm (hIt a fp (by omega)) (cwV 0 hts gX10_lookFactor_X10_lookItem rfl rfl rfl (by decide +kernel) ⟨by show (6 * r + 10) + 1 ≤ 6 * r + 11; omega, by show 8 + (1 + 11) + (240 * r + 400) ≤ 240 * r + 440; omega⟩) (nn := 7) rfl (by decide) rfl rfl ⟨0, _, rfl⟩ rfl rfl rfl hl.1 (Nat.le_of_ble_eq_true rfl) dX10_lookFactor_99 (by show _ + 0 ≤ 0; omega) (by show _ + 0 ≤ 0; omega) (fun u4 k4 n4 q4 hx4 => ?_) (fun v u4 k4 n4 hq4 => ?_)
        · obtain ⟨hb4, ⟨a2_4, d2_4, hu4⟩, rfl, rfl⟩ := hx4
          obtain ⟨aa4, hea4⟩ : ∃ x, ((qItm tk N r) a).2 = x := ⟨_, rfl⟩
          rw [hea4] at hu4
          have he4 : (qItm tk N r) a = (false, aa4) := Prod.ext hb4 hea4
          rw [hu4]
          have he : (qFac tk N r) a = (false, aa4) := by rw [qFac_i (by omega) (by omega), he4]
          exact jJx_out hno hlocks (by show _ ≤ 0; omega) (by show _ ≤ 0; omega) ⟨by rw [he], ⟨_, _, by rw [he]; rfl⟩, rfl, rfl⟩
        obtain ⟨hb4, rfl, hw4, rfl, rfl⟩ := hq4
        have hqb4 : a ≤ ((qItm tk N r) a).2 ∧ ((qItm tk N r) a).2 + 1 ≤ (tk 0).length := qb_itm hE N r a (by omega)
        obtain ⟨aa4, hea4⟩ : ∃ x, ((qItm tk N r) a).2 = x := ⟨_, rfl⟩
        rw [hea4] at hw4 hqb4
        have he4 : (qItm tk N r) a = (true, aa4) := Prod.ext hb4 hea4
        rw [hw4]
        refine jJ_open (xs := [[(Z 0, .inr (8, [E 0, E 1, E 2, .ref (Z 1), .int (nI aa4), .int (nI d), E 6, E 7, E 8, .ref (Z 2), .int fp, E 11, E 12, E 13, E 14, E 15, E 16, E 17, E 18]))], [(Z 1, .inr (7, [X 0, X 1, .ref (Z 3), .ref (Z 4), .ref (Z 5), .ref (Z 6), X 6, X 7, X 8, X 9, X 10, X 11, X 12]))], [(Z 3, .inl (cB, 32008, .inl (V 0)))], [(Z 4, .inl (cI, 32008, .inl (V 1)))], [(Z 5, .inl (cI, 32008, .inl (V 2)))], [(Z 6, .inl (cZ, 32008, .inl (V 3)))], [(Z 2, .inr (0, []))]]) (r := []) (cs2 := [[(Z 0, .inr (8, [E 0, E 1, E 2, .ref (Z 1), .int (nI aa4), .int (nI d), E 6, E 7, E 8, .ref (Z 2), .int fp, E 11, E 12, E 13, E 14, E 15, E 16, E 17, E 18]))], [(Z 1, .inr (7, [X 0, X 1, .ref (Z 3), .ref (Z 4), .ref (Z 5), .ref (Z 6), X 6, X 7, X 8, X 9, X 10, X 11, X 12]))], [(Z 3, .inl (cB, 32008, .inl (V 0)))], [(Z 4, .inl (cI, 32008, .inl (V 1)))], [(Z 5, .inl (cI, 32008, .inl (V 2)))], [(Z 6, .inl (cZ, 32008, .inl (V 3)))], [(Z 2, .inr (0, []))]]) rfl ?_
        refine jJ_eq (g2 := F0 m 102 ls []) (cs2 := [[(Z 0, .inr (8, [E 0, E 1, E 2, .ref (Z 1), .int (nI aa4), .int (nI d), E 6, E 7, E 8, .ref (Z 2), .int fp, E 11, E 12, E 13, E 14, E 15, E 16, E 17, E 18]))], [(Z 1, .inr (7, [X 0, X 1, .ref (Z 3), .ref (Z 4), .ref (Z 5), .ref (Z 6), X 6, X 7, X 8, X 9, X 10, X 11, X 12]))], [(Z 3, .inl (cB, 32008, .inl (V 0)))], [(Z 4, .inl (cI, 32008, .inl (V 1)))], [(Z 5, .inl (cI, 32008, .inl (V 2)))], [(Z 6, .inl (cZ, 32008, .inl (V 3)))], [(Z 2, .inr (0, []))]]) rfl rfl ?_
        have he : (qFac tk N r) a = (true, aa4) := by rw [qFac_i (by omega) (by omega), he4]
        exact jJ_toX (jJ_vret hx hb hr hlocks dX10_lookFactor_102 (by show _ ≤ 0; omega) (by show _ ≤ 0; omega) ⟨by rw [he], rfl, by rw [he]; rfl, rfl, rfl⟩)
      · refine jJ_of (fun H locs => lv_aload_n hx hb dX10_lookFactor_64 rfl (lv_at hl 0 rfl)) ?_
        refine jJ_get hx hb (C := RX10) (T := TX10) (N := 19) hts uX10_in_X10_lookFactor hown hK 0 rfl rfl 3 (by decide) (hts (.fieldLink RX10 53 "ValueBlocksModel" "t" "LValueBlocksModel$Text;") (by decide +kernel)) (fun _ h9 => h9) rfl dX10_lookFactor_65 ?_
        refine jJ_get hx hb (C := RX9) (T := TX9) (N := 13) hts uX9_in_X10_lookFactor hown hK 1 rfl rfl 4 (by decide) (hts (.fieldLink RX10 71 "ValueBlocksModel$Text" "worths" "[I") (by decide +kernel)) (fun _ h9 => h9) rfl dX10_lookFactor_68 ?_
        refine jJ_of (fun H locs => lv_aload_n hx hb dX10_lookFactor_71 rfl (lv_at hl 0 rfl)) ?_
        refine jJ_get hx hb (C := RX10) (T := TX10) (N := 19) hts uX10_in_X10_lookFactor hown hK 0 rfl rfl 4 (by decide) (hts (.fieldLink RX10 121 "ValueBlocksModel" "at" "I") (by decide +kernel)) (fun _ h9 => h9) rfl dX10_lookFactor_72 ?_
        refine jJ_iald hx hb hK 3 0 (f := V 2) rfl rfl (vp_in_nI (by omega) (by omega)) (x := (nI (kW ((tk 0).getD a 0) ((tk 2).getD a 0)))) (by rw [nI_clamp (by omega)]; exact hV2) dX10_lookFactor_75 ?_
        refine jJ_of (fun H locs => lv_bipush (v := (nI 8)) hx hb dX10_lookFactor_76 (by decide)) ?_
        refine jJ_of2 (fun H locs => jn_icmp_gt (tgt := 98) hx hb dX10_lookFactor_78 (by decide) (by omega) (by omega)) (fun c78 => ?_) (fun c78 => ?_)
        · refine jJ_of (fun H locs => lv_aload_n hx hb dX10_lookFactor_98 rfl (lv_at hl 0 rfl)) ?_
          refine jX_callV (As := []) (rest := []) (wc := jF (lW cI cB cZ Z (E) (X) V a d fp)) (cs2 := []) (C := RX10) (T := TX10) (N := 19) (ci := 8) [0, 1, 2, 4, 3, 5, 6] [] ⟨hx, hb, hml, hown, hts⟩ hK hA hAm (hIt a fp (by omega)) (cwV 0 hts gX10_lookFactor_X10_lookItem rfl rfl rfl (by decide +kernel) ⟨by show (6 * r + 10) + 1 ≤ 6 * r + 11; omega, by show 8 + (1 + 11) + (240 * r + 400) ≤ 240 * r + 440; omega⟩) (nn := 7) rfl (by decide) rfl rfl ⟨0, _, rfl⟩ rfl rfl rfl hl.1 (Nat.le_of_ble_eq_true rfl) dX10_lookFactor_99 (by show _ + 0 ≤ 0; omega) (by show _ + 0 ≤ 0; omega) (fun u5 k5 n5 q5 hx5 => ?_) (fun v u5 k5 n5 hq5 => ?_)
          · obtain ⟨hb5, ⟨a2_5, d2_5, hu5⟩, rfl, rfl⟩ := hx5
            obtain ⟨aa5, hea5⟩ : ∃ x, ((qItm tk N r) a).2 = x := ⟨_, rfl⟩
            rw [hea5] at hu5
            have he5 : (qItm tk N r) a = (false, aa5) := Prod.ext hb5 hea5
            rw [hu5]
            have he : (qFac tk N r) a = (false, aa5) := by rw [qFac_i (by omega) (by omega), he5]
            exact jJx_out hno hlocks (by show _ ≤ 0; omega) (by show _ ≤ 0; omega) ⟨by rw [he], ⟨_, _, by rw [he]; rfl⟩, rfl, rfl⟩
          obtain ⟨hb5, rfl, hw5, rfl, rfl⟩ := hq5
          have hqb5 : a ≤ ((qItm tk N r) a).2 ∧ ((qItm tk N r) a).2 + 1 ≤ (tk 0).length := qb_itm hE N r a (by omega)
          obtain ⟨aa5, hea5⟩ : ∃ x, ((qItm tk N r) a).2 = x := ⟨_, rfl⟩
          rw [hea5] at hw5 hqb5
          have he5 : (qItm tk N r) a = (true, aa5) := Prod.ext hb5 hea5
          rw [hw5]
          refine jJ_open (xs := [[(Z 0, .inr (8, [E 0, E 1, E 2, .ref (Z 1), .int (nI aa5), .int (nI d), E 6, E 7, E 8, .ref (Z 2), .int fp, E 11, E 12, E 13, E 14, E 15, E 16, E 17, E 18]))], [(Z 1, .inr (7, [X 0, X 1, .ref (Z 3), .ref (Z 4), .ref (Z 5), .ref (Z 6), X 6, X 7, X 8, X 9, X 10, X 11, X 12]))], [(Z 3, .inl (cB, 32008, .inl (V 0)))], [(Z 4, .inl (cI, 32008, .inl (V 1)))], [(Z 5, .inl (cI, 32008, .inl (V 2)))], [(Z 6, .inl (cZ, 32008, .inl (V 3)))], [(Z 2, .inr (0, []))]]) (r := []) (cs2 := [[(Z 0, .inr (8, [E 0, E 1, E 2, .ref (Z 1), .int (nI aa5), .int (nI d), E 6, E 7, E 8, .ref (Z 2), .int fp, E 11, E 12, E 13, E 14, E 15, E 16, E 17, E 18]))], [(Z 1, .inr (7, [X 0, X 1, .ref (Z 3), .ref (Z 4), .ref (Z 5), .ref (Z 6), X 6, X 7, X 8, X 9, X 10, X 11, X 12]))], [(Z 3, .inl (cB, 32008, .inl (V 0)))], [(Z 4, .inl (cI, 32008, .inl (V 1)))], [(Z 5, .inl (cI, 32008, .inl (V 2)))], [(Z 6, .inl (cZ, 32008, .inl (V 3)))], [(Z 2, .inr (0, []))]]) rfl ?_
          refine jJ_eq (g2 := F0 m 102 ls []) (cs2 := [[(Z 0, .inr (8, [E 0, E 1, E 2, .ref (Z 1), .int (nI aa5), .int (nI d), E 6, E 7, E 8, .ref (Z 2), .int fp, E 11, E 12, E 13, E 14, E 15, E 16, E 17, E 18]))], [(Z 1, .inr (7, [X 0, X 1, .ref (Z 3), .ref (Z 4), .ref (Z 5), .ref (Z 6), X 6, X 7, X 8, X 9, X 10, X 11, X 12]))], [(Z 3, .inl (cB, 32008, .inl (V 0)))], [(Z 4, .inl (cI, 32008, .inl (V 1)))], [(Z 5, .inl (cI, 32008, .inl (V 2)))], [(Z 6, .inl (cZ, 32008, .inl (V 3)))], [(Z 2, .inr (0, []))]]) rfl rfl ?_
          have he : (qFac tk N r) a = (true, aa5) := by rw [qFac_i (by omega) (by omega), he5]
          exact jJ_toX (jJ_vret hx hb hr hlocks dX10_lookFactor_102 (by show _ ≤ 0; omega) (by show _ ≤ 0; omega) ⟨by rw [he], rfl, by rw [he]; rfl, rfl, rfl⟩)
        · refine jJ_of (fun H locs => lv_aload_n hx hb dX10_lookFactor_81 rfl (lv_at hl 0 rfl)) ?_
          refine jJ_of (fun H locs => lv_dup hx hb dX10_lookFactor_82 rfl) ?_
          refine jJ_get hx hb (C := RX10) (T := TX10) (N := 19) hts uX10_in_X10_lookFactor hown hK 0 rfl rfl 4 (by decide) (hts (.fieldLink RX10 121 "ValueBlocksModel" "at" "I") (by decide +kernel)) (fun _ h9 => h9) rfl dX10_lookFactor_83 ?_
          refine jJ_of (fun H locs => lv_iconst (v := (nI 1)) hx hb dX10_lookFactor_86 (by decide)) ?_
          refine jJ_of (fun H locs => jn_iadd hx hb dX10_lookFactor_87) ?_
          refine jJ_put hx hb (C := RX10) (T := TX10) (N := 19) (ty := .int) (v := .int (nI (a + 1))) hts uX10_in_X10_lookFactor tyX10 tyX10_ok nmX10 hown hK 0 rfl rfl 4 (by decide) (hts (.fieldLink RX10 121 "ValueBlocksModel" "at" "I") (by decide +kernel)) (fun _ h9 => h9) rfl (by decide +kernel) rfl rfl (Nat.le_of_ble_eq_true rfl) dX10_lookFactor_88 (cs2 := [[(Z 0, .inr (8, [E 0, E 1, E 2, .ref (Z 1), .int (nI (a + 1)), .int (nI d), E 6, E 7, E 8, .ref (Z 2), .int fp, E 11, E 12, E 13, E 14, E 15, E 16, E 17, E 18]))], [(Z 1, .inr (7, [X 0, X 1, .ref (Z 3), .ref (Z 4), .ref (Z 5), .ref (Z 6), X 6, X 7, X 8, X 9, X 10, X 11, X 12]))], [(Z 3, .inl (cB, 32008, .inl (V 0)))], [(Z 5, .inl (cI, 32008, .inl (V 2)))], [(Z 4, .inl (cI, 32008, .inl (V 1)))], [(Z 6, .inl (cZ, 32008, .inl (V 3)))], [(Z 2, .inr (0, []))]]) rfl ?_
          refine jJ_of (fun H locs => lv_aload_n hx hb dX10_lookFactor_91 rfl (lv_at hl 0 rfl)) ?_
          refine jX_callV (As := []) (rest := []) (wc := jF (lW cI cB cZ Z (E) (X) V (a + 1) d fp)) (cs2 := []) (C := RX10) (T := TX10) (N := 19) (ci := 8) [0, 1, 2, 4, 3, 5, 6] [] ⟨hx, hb, hml, hown, hts⟩ hK hA hAm (hBr (a + 1) fp (by omega)) (cwV 0 hts gX10_lookFactor_X10_bracket rfl rfl rfl (by decide +kernel) ⟨by show (6 * r + 8) + 1 ≤ 6 * r + 11; omega, by show 8 + (1 + 11) + (240 * r + 320) ≤ 240 * r + 440; omega⟩) (nn := 7) rfl (by decide) rfl rfl ⟨0, _, rfl⟩ rfl rfl rfl hl.1 (Nat.le_of_ble_eq_true rfl) dX10_lookFactor_92 (by show _ + 0 ≤ 0; omega) (by show _ + 0 ≤ 0; omega) (fun u6 k6 n6 q6 hx6 => ?_) (fun v u6 k6 n6 hq6 => ?_)
          · obtain ⟨hb6, ⟨a2_6, d2_6, hu6⟩, rfl, rfl⟩ := hx6
            obtain ⟨aa6, hea6⟩ : ∃ x, ((qBra tk N r) (a + 1)).2 = x := ⟨_, rfl⟩
            rw [hea6] at hu6
            have he6 : (qBra tk N r) (a + 1) = (false, aa6) := Prod.ext hb6 hea6
            rw [hu6]
            have he : (qFac tk N r) a = (false, aa6) := by rw [qFac_f (by omega), he6]
            exact jJx_out hno hlocks (by show _ ≤ 0; omega) (by show _ ≤ 0; omega) ⟨by rw [he], ⟨_, _, by rw [he]; rfl⟩, rfl, rfl⟩
          obtain ⟨hb6, rfl, hw6, rfl, rfl⟩ := hq6
          have hqb6 : (a + 1) ≤ ((qBra tk N r) (a + 1)).2 ∧ ((qBra tk N r) (a + 1)).2 + 1 ≤ (tk 0).length := qb_bra hE N r (a + 1) (by omega)
          obtain ⟨aa6, hea6⟩ : ∃ x, ((qBra tk N r) (a + 1)).2 = x := ⟨_, rfl⟩
          rw [hea6] at hw6 hqb6
          have he6 : (qBra tk N r) (a + 1) = (true, aa6) := Prod.ext hb6 hea6
          rw [hw6]
          refine jJ_open (xs := [[(Z 0, .inr (8, [E 0, E 1, E 2, .ref (Z 1), .int (nI aa6), .int (nI d), E 6, E 7, E 8, .ref (Z 2), .int fp, E 11, E 12, E 13, E 14, E 15, E 16, E 17, E 18]))], [(Z 1, .inr (7, [X 0, X 1, .ref (Z 3), .ref (Z 4), .ref (Z 5), .ref (Z 6), X 6, X 7, X 8, X 9, X 10, X 11, X 12]))], [(Z 3, .inl (cB, 32008, .inl (V 0)))], [(Z 4, .inl (cI, 32008, .inl (V 1)))], [(Z 5, .inl (cI, 32008, .inl (V 2)))], [(Z 6, .inl (cZ, 32008, .inl (V 3)))], [(Z 2, .inr (0, []))]]) (r := []) (cs2 := [[(Z 0, .inr (8, [E 0, E 1, E 2, .ref (Z 1), .int (nI aa6), .int (nI d), E 6, E 7, E 8, .ref (Z 2), .int fp, E 11, E 12, E 13, E 14, E 15, E 16, E 17, E 18]))], [(Z 1, .inr (7, [X 0, X 1, .ref (Z 3), .ref (Z 4), .ref (Z 5), .ref (Z 6), X 6, X 7, X 8, X 9, X 10, X 11, X 12]))], [(Z 3, .inl (cB, 32008, .inl (V 0)))], [(Z 4, .inl (cI, 32008, .inl (V 1)))], [(Z 5, .inl (cI, 32008, .inl (V 2)))], [(Z 6, .inl (cZ, 32008, .inl (V 3)))], [(Z 2, .inr (0, []))]]) rfl ?_
          refine jJ_eq (g2 := F0 m 95 ls []) (cs2 := [[(Z 0, .inr (8, [E 0, E 1, E 2, .ref (Z 1), .int (nI aa6), .int (nI d), E 6, E 7, E 8, .ref (Z 2), .int fp, E 11, E 12, E 13, E 14, E 15, E 16, E 17, E 18]))], [(Z 1, .inr (7, [X 0, X 1, .ref (Z 3), .ref (Z 4), .ref (Z 5), .ref (Z 6), X 6, X 7, X 8, X 9, X 10, X 11, X 12]))], [(Z 3, .inl (cB, 32008, .inl (V 0)))], [(Z 4, .inl (cI, 32008, .inl (V 1)))], [(Z 5, .inl (cI, 32008, .inl (V 2)))], [(Z 6, .inl (cZ, 32008, .inl (V 3)))], [(Z 2, .inr (0, []))]]) rfl rfl ?_
          refine jJ_of (fun H locs => lv_goto (tgt := 102) hx hb dX10_lookFactor_95 (by decide)) ?_
          have he : (qFac tk N r) a = (true, aa6) := by rw [qFac_f (by omega), he6]
          exact jJ_toX (jJ_vret hx hb hr hlocks dX10_lookFactor_102 (by show _ ≤ 0; omega) (by show _ ≤ 0; omega) ⟨by rw [he], rfl, by rw [he]; rfl, rfl, rfl⟩)
  · try simp only [decide_eq_true_eq, decide_eq_false_iff_not, Bool.and_eq_true, Bool.and_eq_false_iff] at c6
    refine jJ_of (fun H locs => lv_aload_n hx hb dX10_lookFactor_9 rfl (lv_at hl 0 rfl)) ?_
    refine jX_callV (As := []) (rest := []) (wc := jF (lW cI cB cZ Z (E) (X) V a d fp)) (cs2 := []) (C := RX10) (T := TX10) (N := 19) (ci := 8) [0, 1, 2, 4, 3, 5, 6] [] ⟨hx, hb, hml, hown, hts⟩ hK hA hAm (c_Md_deeper (E := E) (X := X) (a := a) (d := d) (fp := fp) hT (by omega) (by omega)) (cwV 0 hts gX10_lookFactor_X10_deeper rfl rfl rfl (by decide +kernel) ⟨by show (1) + 1 ≤ 6 * r + 11; omega, by show 8 + (1 + 11) + (40) ≤ 240 * r + 440; omega⟩) (nn := 7) rfl (by decide) rfl rfl ⟨0, _, rfl⟩ rfl rfl rfl hl.1 (Nat.le_of_ble_eq_true rfl) dX10_lookFactor_10 (by show _ + 0 ≤ 0; omega) (by show _ + 0 ≤ 0; omega) (fun u7 k7 n7 q7 hx7 => ?_) (fun v u7 k7 n7 hq7 => ?_)
    · obtain ⟨hb7, hu7, rfl, rfl⟩ := hx7
      rw [hu7]
      have he : (qFac tk N r) a = (false, a) := by rw [show r = 0 by omega]; exact qFac_m0 (by omega)
      exact jJx_out hno hlocks (by show _ ≤ 0; omega) (by show _ ≤ 0; omega) ⟨by rw [he], ⟨_, _, by rw [he]; rfl⟩, rfl, rfl⟩
    obtain ⟨hb7, rfl, hw7, rfl, rfl⟩ := hq7
    rw [hw7]
    refine jJ_open (xs := [[(Z 0, .inr (8, [E 0, E 1, E 2, .ref (Z 1), .int (nI a), .int (nI (d + 1)), E 6, E 7, E 8, .ref (Z 2), .int fp, E 11, E 12, E 13, E 14, E 15, E 16, E 17, E 18]))], [(Z 1, .inr (7, [X 0, X 1, .ref (Z 3), .ref (Z 4), .ref (Z 5), .ref (Z 6), X 6, X 7, X 8, X 9, X 10, X 11, X 12]))], [(Z 3, .inl (cB, 32008, .inl (V 0)))], [(Z 4, .inl (cI, 32008, .inl (V 1)))], [(Z 5, .inl (cI, 32008, .inl (V 2)))], [(Z 6, .inl (cZ, 32008, .inl (V 3)))], [(Z 2, .inr (0, []))]]) (r := []) (cs2 := [[(Z 0, .inr (8, [E 0, E 1, E 2, .ref (Z 1), .int (nI a), .int (nI (d + 1)), E 6, E 7, E 8, .ref (Z 2), .int fp, E 11, E 12, E 13, E 14, E 15, E 16, E 17, E 18]))], [(Z 1, .inr (7, [X 0, X 1, .ref (Z 3), .ref (Z 4), .ref (Z 5), .ref (Z 6), X 6, X 7, X 8, X 9, X 10, X 11, X 12]))], [(Z 3, .inl (cB, 32008, .inl (V 0)))], [(Z 4, .inl (cI, 32008, .inl (V 1)))], [(Z 5, .inl (cI, 32008, .inl (V 2)))], [(Z 6, .inl (cZ, 32008, .inl (V 3)))], [(Z 2, .inr (0, []))]]) rfl ?_
    obtain ⟨r2, hr2⟩ : ∃ r2, r = r2 + 1 := ⟨r - 1, by omega⟩
    refine jJ_eq (g2 := F0 m 13 ls []) (cs2 := [[(Z 0, .inr (8, [E 0, E 1, E 2, .ref (Z 1), .int (nI a), .int (nI (d + 1)), E 6, E 7, E 8, .ref (Z 2), .int fp, E 11, E 12, E 13, E 14, E 15, E 16, E 17, E 18]))], [(Z 1, .inr (7, [X 0, X 1, .ref (Z 3), .ref (Z 4), .ref (Z 5), .ref (Z 6), X 6, X 7, X 8, X 9, X 10, X 11, X 12]))], [(Z 3, .inl (cB, 32008, .inl (V 0)))], [(Z 4, .inl (cI, 32008, .inl (V 1)))], [(Z 5, .inl (cI, 32008, .inl (V 2)))], [(Z 6, .inl (cZ, 32008, .inl (V 3)))], [(Z 2, .inr (0, []))]]) rfl rfl ?_
    refine jJ_of (fun H locs => lv_aload_n hx hb dX10_lookFactor_13 rfl (lv_at hl 0 rfl)) ?_
    refine jJ_of (fun H locs => lv_dup hx hb dX10_lookFactor_14 rfl) ?_
    refine jJ_get hx hb (C := RX10) (T := TX10) (N := 19) hts uX10_in_X10_lookFactor hown hK 0 rfl rfl 4 (by decide) (hts (.fieldLink RX10 121 "ValueBlocksModel" "at" "I") (by decide +kernel)) (fun _ h9 => h9) rfl dX10_lookFactor_15 ?_
    refine jJ_of (fun H locs => lv_iconst (v := (nI 1)) hx hb dX10_lookFactor_18 (by decide)) ?_
    refine jJ_of (fun H locs => jn_iadd hx hb dX10_lookFactor_19) ?_
    refine jJ_put hx hb (C := RX10) (T := TX10) (N := 19) (ty := .int) (v := .int (nI (a + 1))) hts uX10_in_X10_lookFactor tyX10 tyX10_ok nmX10 hown hK 0 rfl rfl 4 (by decide) (hts (.fieldLink RX10 121 "ValueBlocksModel" "at" "I") (by decide +kernel)) (fun _ h9 => h9) rfl (by decide +kernel) rfl rfl (Nat.le_of_ble_eq_true rfl) dX10_lookFactor_20 (cs2 := [[(Z 0, .inr (8, [E 0, E 1, E 2, .ref (Z 1), .int (nI (a + 1)), .int (nI (d + 1)), E 6, E 7, E 8, .ref (Z 2), .int fp, E 11, E 12, E 13, E 14, E 15, E 16, E 17, E 18]))], [(Z 1, .inr (7, [X 0, X 1, .ref (Z 3), .ref (Z 4), .ref (Z 5), .ref (Z 6), X 6, X 7, X 8, X 9, X 10, X 11, X 12]))], [(Z 3, .inl (cB, 32008, .inl (V 0)))], [(Z 4, .inl (cI, 32008, .inl (V 1)))], [(Z 5, .inl (cI, 32008, .inl (V 2)))], [(Z 6, .inl (cZ, 32008, .inl (V 3)))], [(Z 2, .inr (0, []))]]) rfl ?_
    refine jJ_of (fun H locs => lv_aload_n hx hb dX10_lookFactor_23 rfl (lv_at hl 0 rfl)) ?_
    refine jX_callV (As := []) (rest := []) (wc := jF (lW cI cB cZ Z (E) (X) V (a + 1) (d + 1) fp)) (cs2 := []) (C := RX10) (T := TX10) (N := 19) (ci := 8) [0, 1, 2, 3, 4, 5, 6] [] ⟨hx, hb, hml, hown, hts⟩ hK hA hAm (hFa r2 hr2 (a + 1) fp (by omega)) (cwV 0 hts gX10_lookFactor_X10_lookFactor rfl rfl rfl (by decide +kernel) ⟨by show (6 * r2 + 11) + 1 ≤ 6 * r + 11; omega, by show 8 + (1 + 11) + (240 * r2 + 440) ≤ 240 * r + 440; omega⟩) (nn := 7) rfl (by decide) rfl rfl ⟨0, _, rfl⟩ rfl rfl rfl hl.1 (Nat.le_of_ble_eq_true rfl) dX10_lookFactor_24 (by show _ + 0 ≤ 0; omega) (by show _ + 0 ≤ 0; omega) (fun u8 k8 n8 q8 hx8 => ?_) (fun v u8 k8 n8 hq8 => ?_)
    · obtain ⟨hb8, ⟨a2_8, d2_8, hu8⟩, rfl, rfl⟩ := hx8
      obtain ⟨aa8, hea8⟩ : ∃ x, ((qFac tk N r2) (a + 1)).2 = x := ⟨_, rfl⟩
      rw [hea8] at hu8
      have he8 : (qFac tk N r2) (a + 1) = (false, aa8) := Prod.ext hb8 hea8
      rw [hu8]
      have he : (qFac tk N r) a = (false, aa8) := by rw [hr2, qFac_m (by omega), he8]
      exact jJx_out hno hlocks (by show _ ≤ 0; omega) (by show _ ≤ 0; omega) ⟨by rw [he], ⟨_, _, by rw [he]; rfl⟩, rfl, rfl⟩
    obtain ⟨hb8, rfl, hw8, rfl, rfl⟩ := hq8
    have hqb8 : (a + 1) ≤ ((qFac tk N r2) (a + 1)).2 ∧ ((qFac tk N r2) (a + 1)).2 + 1 ≤ (tk 0).length := qb_fac hE N r2 (a + 1) (by omega)
    obtain ⟨aa8, hea8⟩ : ∃ x, ((qFac tk N r2) (a + 1)).2 = x := ⟨_, rfl⟩
    rw [hea8] at hw8 hqb8
    have he8 : (qFac tk N r2) (a + 1) = (true, aa8) := Prod.ext hb8 hea8
    rw [hw8]
    refine jJ_open (xs := [[(Z 0, .inr (8, [E 0, E 1, E 2, .ref (Z 1), .int (nI aa8), .int (nI (d + 1)), E 6, E 7, E 8, .ref (Z 2), .int fp, E 11, E 12, E 13, E 14, E 15, E 16, E 17, E 18]))], [(Z 1, .inr (7, [X 0, X 1, .ref (Z 3), .ref (Z 4), .ref (Z 5), .ref (Z 6), X 6, X 7, X 8, X 9, X 10, X 11, X 12]))], [(Z 3, .inl (cB, 32008, .inl (V 0)))], [(Z 4, .inl (cI, 32008, .inl (V 1)))], [(Z 5, .inl (cI, 32008, .inl (V 2)))], [(Z 6, .inl (cZ, 32008, .inl (V 3)))], [(Z 2, .inr (0, []))]]) (r := []) (cs2 := [[(Z 0, .inr (8, [E 0, E 1, E 2, .ref (Z 1), .int (nI aa8), .int (nI (d + 1)), E 6, E 7, E 8, .ref (Z 2), .int fp, E 11, E 12, E 13, E 14, E 15, E 16, E 17, E 18]))], [(Z 1, .inr (7, [X 0, X 1, .ref (Z 3), .ref (Z 4), .ref (Z 5), .ref (Z 6), X 6, X 7, X 8, X 9, X 10, X 11, X 12]))], [(Z 3, .inl (cB, 32008, .inl (V 0)))], [(Z 4, .inl (cI, 32008, .inl (V 1)))], [(Z 5, .inl (cI, 32008, .inl (V 2)))], [(Z 6, .inl (cZ, 32008, .inl (V 3)))], [(Z 2, .inr (0, []))]]) rfl ?_
    refine jJ_eq (g2 := F0 m 27 ls []) (cs2 := [[(Z 0, .inr (8, [E 0, E 1, E 2, .ref (Z 1), .int (nI aa8), .int (nI (d + 1)), E 6, E 7, E 8, .ref (Z 2), .int fp, E 11, E 12, E 13, E 14, E 15, E 16, E 17, E 18]))], [(Z 1, .inr (7, [X 0, X 1, .ref (Z 3), .ref (Z 4), .ref (Z 5), .ref (Z 6), X 6, X 7, X 8, X 9, X 10, X 11, X 12]))], [(Z 3, .inl (cB, 32008, .inl (V 0)))], [(Z 4, .inl (cI, 32008, .inl (V 1)))], [(Z 5, .inl (cI, 32008, .inl (V 2)))], [(Z 6, .inl (cZ, 32008, .inl (V 3)))], [(Z 2, .inr (0, []))]]) rfl rfl ?_
    refine jJ_of (fun H locs => lv_aload_n hx hb dX10_lookFactor_27 rfl (lv_at hl 0 rfl)) ?_
    refine jJ_of (fun H locs => lv_dup hx hb dX10_lookFactor_28 rfl) ?_
    refine jJ_get hx hb (C := RX10) (T := TX10) (N := 19) hts uX10_in_X10_lookFactor hown hK 0 rfl rfl 5 (by decide) (hts (.fieldLink RX10 141 "ValueBlocksModel" "depth" "I") (by decide +kernel)) (fun _ h9 => h9) rfl dX10_lookFactor_29 ?_
    refine jJ_of (fun H locs => lv_iconst (v := (nI 1)) hx hb dX10_lookFactor_32 (by decide)) ?_
    refine jJ_of (fun H locs => jn_isub hx hb dX10_lookFactor_33 (by omega)) ?_
    refine jJ_put hx hb (C := RX10) (T := TX10) (N := 19) (ty := .int) (v := .int (nI ((d + 1) - 1))) hts uX10_in_X10_lookFactor tyX10 tyX10_ok nmX10 hown hK 0 rfl rfl 5 (by decide) (hts (.fieldLink RX10 141 "ValueBlocksModel" "depth" "I") (by decide +kernel)) (fun _ h9 => h9) rfl (by decide +kernel) rfl rfl (Nat.le_of_ble_eq_true rfl) dX10_lookFactor_34 (cs2 := [[(Z 0, .inr (8, [E 0, E 1, E 2, .ref (Z 1), .int (nI aa8), .int (nI ((d + 1) - 1)), E 6, E 7, E 8, .ref (Z 2), .int fp, E 11, E 12, E 13, E 14, E 15, E 16, E 17, E 18]))], [(Z 1, .inr (7, [X 0, X 1, .ref (Z 3), .ref (Z 4), .ref (Z 5), .ref (Z 6), X 6, X 7, X 8, X 9, X 10, X 11, X 12]))], [(Z 3, .inl (cB, 32008, .inl (V 0)))], [(Z 4, .inl (cI, 32008, .inl (V 1)))], [(Z 5, .inl (cI, 32008, .inl (V 2)))], [(Z 6, .inl (cZ, 32008, .inl (V 3)))], [(Z 2, .inr (0, []))]]) rfl ?_
    refine jJ_eq (g2 := F0 m 37 ls []) (cs2 := [[(Z 0, .inr (8, [E 0, E 1, E 2, .ref (Z 1), .int (nI aa8), .int (nI d), E 6, E 7, E 8, .ref (Z 2), .int fp, E 11, E 12, E 13, E 14, E 15, E 16, E 17, E 18]))], [(Z 1, .inr (7, [X 0, X 1, .ref (Z 3), .ref (Z 4), .ref (Z 5), .ref (Z 6), X 6, X 7, X 8, X 9, X 10, X 11, X 12]))], [(Z 3, .inl (cB, 32008, .inl (V 0)))], [(Z 4, .inl (cI, 32008, .inl (V 1)))], [(Z 5, .inl (cI, 32008, .inl (V 2)))], [(Z 6, .inl (cZ, 32008, .inl (V 3)))], [(Z 2, .inr (0, []))]]) rfl rfl ?_
    refine jJ_of (fun H locs => lv_goto (tgt := 102) hx hb dX10_lookFactor_37 (by decide)) ?_
    have he : (qFac tk N r) a = (true, aa8) := by rw [hr2, qFac_m (by omega), he8]
    exact jJ_toX (jJ_vret hx hb hr hlocks dX10_lookFactor_102 (by show _ ≤ 0; omega) (by show _ ≤ 0; omega) ⟨by rw [he], rfl, by rw [he]; rfl, rfl, rfl⟩)
theorem uX10_in_X10_lookSum : ∀ w ∈ u_ws RX10 TX10 19, w ∈ wsX10_lookSum := by decide +kernel
set_option maxHeartbeats 4000000 in
set_option maxRecDepth 100000 in
/-- lookSum() -/
theorem c_Md_lookSum {Z : Nat → Nat} {E X : Nat → Value} {V : Nat → Nat → Int32} {tk : Nat → List Nat} {a d : Nat} {fp : Int32} (hT : tV tk V) (hE : tE tk) (ha : a + 1 ≤ (tk 0).length) {N r : Nat} (hN : (tk 0).length ≤ N) (hFa : cLk D G cI cJ cB cZ l yX10_lookFactor wsX10_lookFactor (6 * r + 11) (240 * r + 440) Z E X V tk (d) (qFac tk N r)) : HX l yX10_lookSum wsX10_lookSum ({ frames := 6 * r + 12, cells := 0, slots := 0, locals := 240 * r + 480 } : Room) D G (jT cI cJ cB cZ) [.ref (Z 0)] (jF (lW cI cB cZ Z E X V a d fp)) (fun v u k n => ((qSum tk N r) a).1 = true ∧ v = none ∧ u = jF (lW cI cB cZ Z E X V ((qSum tk N r) a).2 d fp) ∧ k = 0 ∧ n = 0) (fun u k n => ((qSum tk N r) a).1 = false ∧ (∃ a2 d2 : Nat, u = jF (lW cI cB cZ Z E X V a2 d2 (nI ((tk 1).getD ((qSum tk N r) a).2 0)))) ∧ k = 0 ∧ n = 0) := by
  refine HX_of (cc := cX10_lookSum) (maxL := 2) (ret := none) (lv := [(0, .ref (Z 0))]) (by decide) rfl rfl (Nat.le_of_ble_eq_true rfl) (fun p e s m args below meth c A0 ls hx hb hr hts hown hlocks hml hno hK hA hAm hl => ?_)
  refine jJ_open (xs := [[(Z 0, .inr (8, [E 0, E 1, E 2, .ref (Z 1), .int (nI a), .int (nI d), E 6, E 7, E 8, .ref (Z 2), .int fp, E 11, E 12, E 13, E 14, E 15, E 16, E 17, E 18]))], [(Z 1, .inr (7, [X 0, X 1, .ref (Z 3), .ref (Z 4), .ref (Z 5), .ref (Z 6), X 6, X 7, X 8, X 9, X 10, X 11, X 12]))], [(Z 3, .inl (cB, 32008, .inl (V 0)))], [(Z 4, .inl (cI, 32008, .inl (V 1)))], [(Z 5, .inl (cI, 32008, .inl (V 2)))], [(Z 6, .inl (cZ, 32008, .inl (V 3)))], [(Z 2, .inr (0, []))]]) (r := []) (cs2 := [[(Z 0, .inr (8, [E 0, E 1, E 2, .ref (Z 1), .int (nI a), .int (nI d), E 6, E 7, E 8, .ref (Z 2), .int fp, E 11, E 12, E 13, E 14, E 15, E 16, E 17, E 18]))], [(Z 1, .inr (7, [X 0, X 1, .ref (Z 3), .ref (Z 4), .ref (Z 5), .ref (Z 6), X 6, X 7, X 8, X 9, X 10, X 11, X 12]))], [(Z 3, .inl (cB, 32008, .inl (V 0)))], [(Z 4, .inl (cI, 32008, .inl (V 1)))], [(Z 5, .inl (cI, 32008, .inl (V 2)))], [(Z 6, .inl (cZ, 32008, .inl (V 3)))], [(Z 2, .inr (0, []))]]) rfl ?_
  have hL9 := hT.1
  refine jJ_of (fun H locs => lv_iconst (v := (nI 1)) hx hb dX10_lookSum_0 (by decide)) ?_
  refine jJ_ofL (fun H locs => lv_istore_n (lv' := [(1, .int (nI 1)), (0, .ref (Z 0))]) hx hb dX10_lookSum_1 rfl hl (by decide) rfl) (fun ls hl => ?_)
  suffices lp : ∀ (n2 a1 : Nat), a ≤ a1 → a1 + 1 ≤ (tk 0).length → (tk 0).length ≤ n2 + a1 + 1 → qThen ((qSeq tk N jnF (qFac tk N r)) a1) (qLoop tk jnP (qSeq tk N jnF (qFac tk N r)) n2) = qSum tk N r a → ∀ ls, lv_has ls 2 [(1, .int (nI 1)), (0, .ref (Z 0))] → jJ p l e _ s m args below meth c D A0 [[(Z 0, .inr (8, [E 0, E 1, E 2, .ref (Z 1), .int (nI a1), .int (nI d), E 6, E 7, E 8, .ref (Z 2), .int fp, E 11, E 12, E 13, E 14, E 15, E 16, E 17, E 18]))], [(Z 1, .inr (7, [X 0, X 1, .ref (Z 3), .ref (Z 4), .ref (Z 5), .ref (Z 6), X 6, X 7, X 8, X 9, X 10, X 11, X 12]))], [(Z 3, .inl (cB, 32008, .inl (V 0)))], [(Z 4, .inl (cI, 32008, .inl (V 1)))], [(Z 5, .inl (cI, 32008, .inl (V 2)))], [(Z 6, .inl (cZ, 32008, .inl (V 3)))], [(Z 2, .inr (0, []))]] 0 0 (jEndX below D A0 _ _ args s _ _) (F0 m 2 ls []) from lp N a (Nat.le_refl a) (by omega) (by omega) rfl ls (lv_sub hl [0, 1] rfl)
  intro n2
  induction n2 with
  | zero =>
    intro a1 ha1 ha1b hn2 hcl ls hl
    refine jJ_of (fun H locs => lv_iload_n hx hb dX10_lookSum_2 rfl (lv_at hl 0 rfl)) ?_
    refine jJ_of2 (fun H locs => jn_if_eq (tgt := 56) hx hb dX10_lookSum_3 (by decide) (by omega)) (fun c3 => ?_) (fun c3 => ?_)
    · exact absurd c3 (by decide)
    · refine jJ_of (fun H locs => lv_aload_n hx hb dX10_lookSum_6 rfl (lv_at hl 1 rfl)) ?_
      refine jX_callV (As := []) (rest := []) (wc := jF (lW cI cB cZ Z (E) (X) V a1 d fp)) (cs2 := []) (C := RX10) (T := TX10) (N := 19) (ci := 8) [0, 1, 2, 3, 4, 5, 6] [] ⟨hx, hb, hml, hown, hts⟩ hK hA hAm (hFa a1 fp (by omega)) (cwV 0 hts gX10_lookSum_X10_lookFactor rfl rfl rfl (by decide +kernel) ⟨by show (6 * r + 11) + 1 ≤ 6 * r + 12; omega, by show 8 + (1 + 11) + (240 * r + 440) ≤ 240 * r + 480; omega⟩) (nn := 7) rfl (by decide) rfl rfl ⟨0, _, rfl⟩ rfl rfl rfl hl.1 (Nat.le_of_ble_eq_true rfl) dX10_lookSum_7 (by show _ + 0 ≤ 0; omega) (by show _ + 0 ≤ 0; omega) (fun u1 k1 n1 q1 hx1 => ?_) (fun v u1 k1 n1 hq1 => ?_)
      · obtain ⟨hb1, ⟨a2_1, d2_1, hu1⟩, rfl, rfl⟩ := hx1
        obtain ⟨aa1, hea1⟩ : ∃ x, ((qFac tk N r) a1).2 = x := ⟨_, rfl⟩
        rw [hea1] at hu1
        have he1 : (qFac tk N r) a1 = (false, aa1) := Prod.ext hb1 hea1
        rw [hu1]
        have he : (qSum tk N r) a = (false, aa1) := by rw [← hcl]; unfold qSeq; simp only [he1, qThen_t, qThen_f]
        exact jJx_out hno hlocks (by show _ ≤ 0; omega) (by show _ ≤ 0; omega) ⟨by rw [he], ⟨_, _, by rw [he]; rfl⟩, rfl, rfl⟩
      obtain ⟨hb1, rfl, hw1, rfl, rfl⟩ := hq1
      have hqb1 : a1 ≤ ((qFac tk N r) a1).2 ∧ ((qFac tk N r) a1).2 + 1 ≤ (tk 0).length := qb_fac hE N r a1 (by omega)
      obtain ⟨aa1, hea1⟩ : ∃ x, ((qFac tk N r) a1).2 = x := ⟨_, rfl⟩
      rw [hea1] at hw1 hqb1
      have he1 : (qFac tk N r) a1 = (true, aa1) := Prod.ext hb1 hea1
      rw [hw1]
      refine jJ_open (xs := [[(Z 0, .inr (8, [E 0, E 1, E 2, .ref (Z 1), .int (nI aa1), .int (nI d), E 6, E 7, E 8, .ref (Z 2), .int fp, E 11, E 12, E 13, E 14, E 15, E 16, E 17, E 18]))], [(Z 1, .inr (7, [X 0, X 1, .ref (Z 3), .ref (Z 4), .ref (Z 5), .ref (Z 6), X 6, X 7, X 8, X 9, X 10, X 11, X 12]))], [(Z 3, .inl (cB, 32008, .inl (V 0)))], [(Z 4, .inl (cI, 32008, .inl (V 1)))], [(Z 5, .inl (cI, 32008, .inl (V 2)))], [(Z 6, .inl (cZ, 32008, .inl (V 3)))], [(Z 2, .inr (0, []))]]) (r := []) (cs2 := [[(Z 0, .inr (8, [E 0, E 1, E 2, .ref (Z 1), .int (nI aa1), .int (nI d), E 6, E 7, E 8, .ref (Z 2), .int fp, E 11, E 12, E 13, E 14, E 15, E 16, E 17, E 18]))], [(Z 1, .inr (7, [X 0, X 1, .ref (Z 3), .ref (Z 4), .ref (Z 5), .ref (Z 6), X 6, X 7, X 8, X 9, X 10, X 11, X 12]))], [(Z 3, .inl (cB, 32008, .inl (V 0)))], [(Z 4, .inl (cI, 32008, .inl (V 1)))], [(Z 5, .inl (cI, 32008, .inl (V 2)))], [(Z 6, .inl (cZ, 32008, .inl (V 3)))], [(Z 2, .inr (0, []))]]) rfl ?_
      refine jJ_eq (g2 := F0 m 10 ls []) (cs2 := [[(Z 0, .inr (8, [E 0, E 1, E 2, .ref (Z 1), .int (nI aa1), .int (nI d), E 6, E 7, E 8, .ref (Z 2), .int fp, E 11, E 12, E 13, E 14, E 15, E 16, E 17, E 18]))], [(Z 1, .inr (7, [X 0, X 1, .ref (Z 3), .ref (Z 4), .ref (Z 5), .ref (Z 6), X 6, X 7, X 8, X 9, X 10, X 11, X 12]))], [(Z 3, .inl (cB, 32008, .inl (V 0)))], [(Z 4, .inl (cI, 32008, .inl (V 1)))], [(Z 5, .inl (cI, 32008, .inl (V 2)))], [(Z 6, .inl (cZ, 32008, .inl (V 3)))], [(Z 2, .inr (0, []))]]) rfl rfl ?_
      have hcl2 : qThen (qLoop tk jnF (qFac tk N r) N aa1) (qLoop tk jnP (qSeq tk N jnF (qFac tk N r)) (0)) = qSum tk N r a := by rw [← hcl]; unfold qSeq; rw [he1, qThen_t]
      suffices lp2 : ∀ (n3 a3 : Nat), a ≤ a3 → a1 ≤ a3 → a3 + 1 ≤ (tk 0).length → (tk 0).length ≤ n3 + a3 + 1 → qThen (qLoop tk jnF (qFac tk N r) n3 a3) (qLoop tk jnP (qSeq tk N jnF (qFac tk N r)) (0)) = qSum tk N r a → ∀ ls, lv_has ls 2 [(1, .int (nI 1)), (0, .ref (Z 0))] → jJ p l e _ s m args below meth c D A0 [[(Z 0, .inr (8, [E 0, E 1, E 2, .ref (Z 1), .int (nI a3), .int (nI d), E 6, E 7, E 8, .ref (Z 2), .int fp, E 11, E 12, E 13, E 14, E 15, E 16, E 17, E 18]))], [(Z 1, .inr (7, [X 0, X 1, .ref (Z 3), .ref (Z 4), .ref (Z 5), .ref (Z 6), X 6, X 7, X 8, X 9, X 10, X 11, X 12]))], [(Z 3, .inl (cB, 32008, .inl (V 0)))], [(Z 4, .inl (cI, 32008, .inl (V 1)))], [(Z 5, .inl (cI, 32008, .inl (V 2)))], [(Z 6, .inl (cZ, 32008, .inl (V 3)))], [(Z 2, .inr (0, []))]] 0 0 (jEndX below D A0 _ _ args s _ _) (F0 m 10 ls []) from lp2 N aa1 (by omega) (by omega) (by omega) (by omega) hcl2 ls (lv_sub hl [0, 1] rfl)
      clear hcl2
      intro n3
      induction n3 with
      | zero =>
        intro a3 ha3 ha13 ha3b hn3 hcl3 ls hl
        have hL8 := hE.lt (a := a3)
        refine jJ_of (fun H locs => lv_aload_n hx hb dX10_lookSum_10 rfl (lv_at hl 1 rfl)) ?_
        refine jJ_callV (As := []) (rest := []) (wc := jF (kWd cI cB Z (lsV [E 0, E 1, E 2, .null, .null, .int (nI d), E 6, E 7, E 8, .ref (Z 2), .int fp, E 11, E 12, E 13, E 14, E 15, E 16, E 17, E 18]) (lsV [X 0, X 1, .null, .ref (Z 4), .null, .ref (Z 6), X 6, X 7, X 8, X 9, X 10, X 11, X 12]) V a3)) (cs2 := [[(Z 4, .inl (cI, 32008, .inl (V 1)))], [(Z 6, .inl (cZ, 32008, .inl (V 3)))], [(Z 2, .inr (0, []))]]) (C := RX10) (T := TX10) (N := 19) (ci := 8) [0, 1, 2, 4] [3, 5, 6] ⟨hx, hb, hml, hown, hts⟩ hK hA hAm (c_Md_isTimes (E := lsV [E 0, E 1, E 2, .null, .null, .int (nI d), E 6, E 7, E 8, .ref (Z 2), .int fp, E 11, E 12, E 13, E 14, E 15, E 16, E 17, E 18]) (X := lsV [X 0, X 1, .null, .ref (Z 4), .null, .ref (Z 6), X 6, X 7, X 8, X 9, X 10, X 11, X 12]) (a := a3) hT (by omega)) (cwV 0 hts gX10_lookSum_X10_isTimes rfl rfl rfl (by decide +kernel) ⟨by show (2) + 1 ≤ 6 * r + 12; omega, by show 8 + (1 + 11) + (80) ≤ 240 * r + 480; omega⟩) (nn := 7) rfl (by decide) rfl rfl ⟨0, _, rfl⟩ rfl rfl rfl hl.1 (Nat.le_of_ble_eq_true rfl) dX10_lookSum_11 (by show _ + 0 ≤ 0; omega) (by show _ + 0 ≤ 0; omega) (fun v u2 k2 n2 hq2 => ?_)
        obtain ⟨rfl, hw2, rfl, rfl⟩ := hq2
        rw [hw2]
        refine jJ_open (xs := [[(Z 0, .inr (8, [E 0, E 1, E 2, .ref (Z 1), .int (nI a3), .int (nI d), E 6, E 7, E 8, .ref (Z 2), .int fp, E 11, E 12, E 13, E 14, E 15, E 16, E 17, E 18]))], [(Z 1, .inr (7, [X 0, X 1, .ref (Z 3), .ref (Z 4), .ref (Z 5), .ref (Z 6), X 6, X 7, X 8, X 9, X 10, X 11, X 12]))], [(Z 3, .inl (cB, 32008, .inl (V 0)))], [(Z 5, .inl (cI, 32008, .inl (V 2)))]]) (r := [[(Z 4, .inl (cI, 32008, .inl (V 1)))], [(Z 6, .inl (cZ, 32008, .inl (V 3)))], [(Z 2, .inr (0, []))]]) (cs2 := [[(Z 0, .inr (8, [E 0, E 1, E 2, .ref (Z 1), .int (nI a3), .int (nI d), E 6, E 7, E 8, .ref (Z 2), .int fp, E 11, E 12, E 13, E 14, E 15, E 16, E 17, E 18]))], [(Z 1, .inr (7, [X 0, X 1, .ref (Z 3), .ref (Z 4), .ref (Z 5), .ref (Z 6), X 6, X 7, X 8, X 9, X 10, X 11, X 12]))], [(Z 3, .inl (cB, 32008, .inl (V 0)))], [(Z 5, .inl (cI, 32008, .inl (V 2)))], [(Z 4, .inl (cI, 32008, .inl (V 1)))], [(Z 6, .inl (cZ, 32008, .inl (V 3)))], [(Z 2, .inr (0, []))]]) rfl ?_
        refine jJ_eq (g2 := F0 m 14 ls [.int (bI (jnF ((tk 0).getD a3 0)))]) (cs2 := [[(Z 0, .inr (8, [E 0, E 1, E 2, .ref (Z 1), .int (nI a3), .int (nI d), E 6, E 7, E 8, .ref (Z 2), .int fp, E 11, E 12, E 13, E 14, E 15, E 16, E 17, E 18]))], [(Z 1, .inr (7, [X 0, X 1, .ref (Z 3), .ref (Z 4), .ref (Z 5), .ref (Z 6), X 6, X 7, X 8, X 9, X 10, X 11, X 12]))], [(Z 3, .inl (cB, 32008, .inl (V 0)))], [(Z 5, .inl (cI, 32008, .inl (V 2)))], [(Z 4, .inl (cI, 32008, .inl (V 1)))], [(Z 6, .inl (cZ, 32008, .inl (V 3)))], [(Z 2, .inr (0, []))]]) rfl rfl ?_
        refine jJ_of2 (fun H locs => jb_if_eq (tgt := 34) hx hb dX10_lookSum_14 (by decide)) (fun c14 => ?_) (fun c14 => ?_)
        · have hcl4 : qLoop tk jnP (qSeq tk N jnF (qFac tk N r)) (0) a3 = qSum tk N r a := hcl3
          refine jJ_of (fun H locs => lv_aload_n hx hb dX10_lookSum_34 rfl (lv_at hl 1 rfl)) ?_
          refine jJ_callV (As := []) (rest := []) (wc := jF (kWd cI cB Z (lsV [E 0, E 1, E 2, .null, .null, .int (nI d), E 6, E 7, E 8, .ref (Z 2), .int fp, E 11, E 12, E 13, E 14, E 15, E 16, E 17, E 18]) (lsV [X 0, X 1, .null, .ref (Z 4), .null, .ref (Z 6), X 6, X 7, X 8, X 9, X 10, X 11, X 12]) V a3)) (cs2 := [[(Z 4, .inl (cI, 32008, .inl (V 1)))], [(Z 6, .inl (cZ, 32008, .inl (V 3)))], [(Z 2, .inr (0, []))]]) (C := RX10) (T := TX10) (N := 19) (ci := 8) [0, 1, 2, 3] [4, 5, 6] ⟨hx, hb, hml, hown, hts⟩ hK hA hAm (c_Md_isPlus (E := lsV [E 0, E 1, E 2, .null, .null, .int (nI d), E 6, E 7, E 8, .ref (Z 2), .int fp, E 11, E 12, E 13, E 14, E 15, E 16, E 17, E 18]) (X := lsV [X 0, X 1, .null, .ref (Z 4), .null, .ref (Z 6), X 6, X 7, X 8, X 9, X 10, X 11, X 12]) (a := a3) hT (by omega)) (cwV 0 hts gX10_lookSum_X10_isPlus rfl rfl rfl (by decide +kernel) ⟨by show (2) + 1 ≤ 6 * r + 12; omega, by show 8 + (1 + 11) + (80) ≤ 240 * r + 480; omega⟩) (nn := 7) rfl (by decide) rfl rfl ⟨0, _, rfl⟩ rfl rfl rfl hl.1 (Nat.le_of_ble_eq_true rfl) dX10_lookSum_35 (by show _ + 0 ≤ 0; omega) (by show _ + 0 ≤ 0; omega) (fun v u3 k3 n3 hq3 => ?_)
          obtain ⟨rfl, hw3, rfl, rfl⟩ := hq3
          rw [hw3]
          refine jJ_open (xs := [[(Z 0, .inr (8, [E 0, E 1, E 2, .ref (Z 1), .int (nI a3), .int (nI d), E 6, E 7, E 8, .ref (Z 2), .int fp, E 11, E 12, E 13, E 14, E 15, E 16, E 17, E 18]))], [(Z 1, .inr (7, [X 0, X 1, .ref (Z 3), .ref (Z 4), .ref (Z 5), .ref (Z 6), X 6, X 7, X 8, X 9, X 10, X 11, X 12]))], [(Z 3, .inl (cB, 32008, .inl (V 0)))], [(Z 5, .inl (cI, 32008, .inl (V 2)))]]) (r := [[(Z 4, .inl (cI, 32008, .inl (V 1)))], [(Z 6, .inl (cZ, 32008, .inl (V 3)))], [(Z 2, .inr (0, []))]]) (cs2 := [[(Z 0, .inr (8, [E 0, E 1, E 2, .ref (Z 1), .int (nI a3), .int (nI d), E 6, E 7, E 8, .ref (Z 2), .int fp, E 11, E 12, E 13, E 14, E 15, E 16, E 17, E 18]))], [(Z 1, .inr (7, [X 0, X 1, .ref (Z 3), .ref (Z 4), .ref (Z 5), .ref (Z 6), X 6, X 7, X 8, X 9, X 10, X 11, X 12]))], [(Z 3, .inl (cB, 32008, .inl (V 0)))], [(Z 5, .inl (cI, 32008, .inl (V 2)))], [(Z 4, .inl (cI, 32008, .inl (V 1)))], [(Z 6, .inl (cZ, 32008, .inl (V 3)))], [(Z 2, .inr (0, []))]]) rfl ?_
          refine jJ_eq (g2 := F0 m 38 ls [.int (bI (jnP ((tk 0).getD a3 0)))]) (cs2 := [[(Z 0, .inr (8, [E 0, E 1, E 2, .ref (Z 1), .int (nI a3), .int (nI d), E 6, E 7, E 8, .ref (Z 2), .int fp, E 11, E 12, E 13, E 14, E 15, E 16, E 17, E 18]))], [(Z 1, .inr (7, [X 0, X 1, .ref (Z 3), .ref (Z 4), .ref (Z 5), .ref (Z 6), X 6, X 7, X 8, X 9, X 10, X 11, X 12]))], [(Z 3, .inl (cB, 32008, .inl (V 0)))], [(Z 5, .inl (cI, 32008, .inl (V 2)))], [(Z 4, .inl (cI, 32008, .inl (V 1)))], [(Z 6, .inl (cZ, 32008, .inl (V 3)))], [(Z 2, .inr (0, []))]]) rfl rfl ?_
          refine jJ_ofL (fun H locs => lv_istore_n (lv' := [(1, .int (bI (jnP ((tk 0).getD a3 0)))), (0, .ref (Z 0))]) hx hb dX10_lookSum_38 rfl hl (by decide) rfl) (fun ls hl => ?_)
          refine jJ_of (fun H locs => lv_iload_n hx hb dX10_lookSum_39 rfl (lv_at hl 0 rfl)) ?_
          refine jJ_of2 (fun H locs => jb_if_eq (tgt := 2) hx hb dX10_lookSum_40 (by decide)) (fun c40 => ?_) (fun c40 => ?_)
          · have hl9 := hl
            rw [c40] at hl9
            clear hl
            have hl := hl9
            refine jJ_of (fun H locs => lv_iload_n hx hb dX10_lookSum_2 rfl (lv_at hl 0 rfl)) ?_
            refine jJ_of2 (fun H locs => jb_if_eq (tgt := 56) hx hb dX10_lookSum_3 (by decide)) (fun c3 => ?_) (fun c3 => ?_)
            · refine jJ_perm [0, 1, 2, 4, 3, 5, 6] (nn := 7) rfl (by decide) (cs2 := [[(Z 0, .inr (8, [E 0, E 1, E 2, .ref (Z 1), .int (nI a3), .int (nI d), E 6, E 7, E 8, .ref (Z 2), .int fp, E 11, E 12, E 13, E 14, E 15, E 16, E 17, E 18]))], [(Z 1, .inr (7, [X 0, X 1, .ref (Z 3), .ref (Z 4), .ref (Z 5), .ref (Z 6), X 6, X 7, X 8, X 9, X 10, X 11, X 12]))], [(Z 3, .inl (cB, 32008, .inl (V 0)))], [(Z 4, .inl (cI, 32008, .inl (V 1)))], [(Z 5, .inl (cI, 32008, .inl (V 2)))], [(Z 6, .inl (cZ, 32008, .inl (V 3)))], [(Z 2, .inr (0, []))]]) rfl ?_
              have he : (qSum tk N r) a = (true, a3) := by rw [← hcl4]; rfl
              exact jJ_toX (jJ_vret hx hb hr hlocks dX10_lookSum_56 (by show _ ≤ 0; omega) (by show _ ≤ 0; omega) ⟨by rw [he], rfl, by rw [he]; rfl, rfl, rfl⟩)
            · exact absurd c3 (by decide)
          · have hl9 := hl
            rw [c40] at hl9
            clear hl
            have hl := hl9
            have hx40 := jnP_x c40
            exact absurd (hL8 hx40.1 hx40.2) (by omega)
        · have hx14 := jnF_x c14
          exact absurd (hL8 hx14.1 hx14.2) (by omega)
      | succ n3 ih3 =>
        intro a3 ha3 ha13 ha3b hn3 hcl3 ls hl
        have hL8 := hE.lt (a := a3)
        refine jJ_of (fun H locs => lv_aload_n hx hb dX10_lookSum_10 rfl (lv_at hl 1 rfl)) ?_
        refine jJ_callV (As := []) (rest := []) (wc := jF (kWd cI cB Z (lsV [E 0, E 1, E 2, .null, .null, .int (nI d), E 6, E 7, E 8, .ref (Z 2), .int fp, E 11, E 12, E 13, E 14, E 15, E 16, E 17, E 18]) (lsV [X 0, X 1, .null, .ref (Z 4), .null, .ref (Z 6), X 6, X 7, X 8, X 9, X 10, X 11, X 12]) V a3)) (cs2 := [[(Z 4, .inl (cI, 32008, .inl (V 1)))], [(Z 6, .inl (cZ, 32008, .inl (V 3)))], [(Z 2, .inr (0, []))]]) (C := RX10) (T := TX10) (N := 19) (ci := 8) [0, 1, 2, 4] [3, 5, 6] ⟨hx, hb, hml, hown, hts⟩ hK hA hAm (c_Md_isTimes (E := lsV [E 0, E 1, E 2, .null, .null, .int (nI d), E 6, E 7, E 8, .ref (Z 2), .int fp, E 11, E 12, E 13, E 14, E 15, E 16, E 17, E 18]) (X := lsV [X 0, X 1, .null, .ref (Z 4), .null, .ref (Z 6), X 6, X 7, X 8, X 9, X 10, X 11, X 12]) (a := a3) hT (by omega)) (cwV 0 hts gX10_lookSum_X10_isTimes rfl rfl rfl (by decide +kernel) ⟨by show (2) + 1 ≤ 6 * r + 12; omega, by show 8 + (1 + 11) + (80) ≤ 240 * r + 480; omega⟩) (nn := 7) rfl (by decide) rfl rfl ⟨0, _, rfl⟩ rfl rfl rfl hl.1 (Nat.le_of_ble_eq_true rfl) dX10_lookSum_11 (by show _ + 0 ≤ 0; omega) (by show _ + 0 ≤ 0; omega) (fun v u4 k4 n4 hq4 => ?_)
        obtain ⟨rfl, hw4, rfl, rfl⟩ := hq4
        rw [hw4]
        refine jJ_open (xs := [[(Z 0, .inr (8, [E 0, E 1, E 2, .ref (Z 1), .int (nI a3), .int (nI d), E 6, E 7, E 8, .ref (Z 2), .int fp, E 11, E 12, E 13, E 14, E 15, E 16, E 17, E 18]))], [(Z 1, .inr (7, [X 0, X 1, .ref (Z 3), .ref (Z 4), .ref (Z 5), .ref (Z 6), X 6, X 7, X 8, X 9, X 10, X 11, X 12]))], [(Z 3, .inl (cB, 32008, .inl (V 0)))], [(Z 5, .inl (cI, 32008, .inl (V 2)))]]) (r := [[(Z 4, .inl (cI, 32008, .inl (V 1)))], [(Z 6, .inl (cZ, 32008, .inl (V 3)))], [(Z 2, .inr (0, []))]]) (cs2 := [[(Z 0, .inr (8, [E 0, E 1, E 2, .ref (Z 1), .int (nI a3), .int (nI d), E 6, E 7, E 8, .ref (Z 2), .int fp, E 11, E 12, E 13, E 14, E 15, E 16, E 17, E 18]))], [(Z 1, .inr (7, [X 0, X 1, .ref (Z 3), .ref (Z 4), .ref (Z 5), .ref (Z 6), X 6, X 7, X 8, X 9, X 10, X 11, X 12]))], [(Z 3, .inl (cB, 32008, .inl (V 0)))], [(Z 5, .inl (cI, 32008, .inl (V 2)))], [(Z 4, .inl (cI, 32008, .inl (V 1)))], [(Z 6, .inl (cZ, 32008, .inl (V 3)))], [(Z 2, .inr (0, []))]]) rfl ?_
        refine jJ_eq (g2 := F0 m 14 ls [.int (bI (jnF ((tk 0).getD a3 0)))]) (cs2 := [[(Z 0, .inr (8, [E 0, E 1, E 2, .ref (Z 1), .int (nI a3), .int (nI d), E 6, E 7, E 8, .ref (Z 2), .int fp, E 11, E 12, E 13, E 14, E 15, E 16, E 17, E 18]))], [(Z 1, .inr (7, [X 0, X 1, .ref (Z 3), .ref (Z 4), .ref (Z 5), .ref (Z 6), X 6, X 7, X 8, X 9, X 10, X 11, X 12]))], [(Z 3, .inl (cB, 32008, .inl (V 0)))], [(Z 5, .inl (cI, 32008, .inl (V 2)))], [(Z 4, .inl (cI, 32008, .inl (V 1)))], [(Z 6, .inl (cZ, 32008, .inl (V 3)))], [(Z 2, .inr (0, []))]]) rfl rfl ?_
        refine jJ_of2 (fun H locs => jb_if_eq (tgt := 34) hx hb dX10_lookSum_14 (by decide)) (fun c14 => ?_) (fun c14 => ?_)
        · have hcl4 : qLoop tk jnP (qSeq tk N jnF (qFac tk N r)) (0) a3 = qSum tk N r a := by rw [← hcl3]; show _ = qThen (if _ then _ else _) _; rw [if_neg (by rw [c14]; decide)]; rfl
          refine jJ_of (fun H locs => lv_aload_n hx hb dX10_lookSum_34 rfl (lv_at hl 1 rfl)) ?_
          refine jJ_callV (As := []) (rest := []) (wc := jF (kWd cI cB Z (lsV [E 0, E 1, E 2, .null, .null, .int (nI d), E 6, E 7, E 8, .ref (Z 2), .int fp, E 11, E 12, E 13, E 14, E 15, E 16, E 17, E 18]) (lsV [X 0, X 1, .null, .ref (Z 4), .null, .ref (Z 6), X 6, X 7, X 8, X 9, X 10, X 11, X 12]) V a3)) (cs2 := [[(Z 4, .inl (cI, 32008, .inl (V 1)))], [(Z 6, .inl (cZ, 32008, .inl (V 3)))], [(Z 2, .inr (0, []))]]) (C := RX10) (T := TX10) (N := 19) (ci := 8) [0, 1, 2, 3] [4, 5, 6] ⟨hx, hb, hml, hown, hts⟩ hK hA hAm (c_Md_isPlus (E := lsV [E 0, E 1, E 2, .null, .null, .int (nI d), E 6, E 7, E 8, .ref (Z 2), .int fp, E 11, E 12, E 13, E 14, E 15, E 16, E 17, E 18]) (X := lsV [X 0, X 1, .null, .ref (Z 4), .null, .ref (Z 6), X 6, X 7, X 8, X 9, X 10, X 11, X 12]) (a := a3) hT (by omega)) (cwV 0 hts gX10_lookSum_X10_isPlus rfl rfl rfl (by decide +kernel) ⟨by show (2) + 1 ≤ 6 * r + 12; omega, by show 8 + (1 + 11) + (80) ≤ 240 * r + 480; omega⟩) (nn := 7) rfl (by decide) rfl rfl ⟨0, _, rfl⟩ rfl rfl rfl hl.1 (Nat.le_of_ble_eq_true rfl) dX10_lookSum_35 (by show _ + 0 ≤ 0; omega) (by show _ + 0 ≤ 0; omega) (fun v u5 k5 n5 hq5 => ?_)
          obtain ⟨rfl, hw5, rfl, rfl⟩ := hq5
          rw [hw5]
          refine jJ_open (xs := [[(Z 0, .inr (8, [E 0, E 1, E 2, .ref (Z 1), .int (nI a3), .int (nI d), E 6, E 7, E 8, .ref (Z 2), .int fp, E 11, E 12, E 13, E 14, E 15, E 16, E 17, E 18]))], [(Z 1, .inr (7, [X 0, X 1, .ref (Z 3), .ref (Z 4), .ref (Z 5), .ref (Z 6), X 6, X 7, X 8, X 9, X 10, X 11, X 12]))], [(Z 3, .inl (cB, 32008, .inl (V 0)))], [(Z 5, .inl (cI, 32008, .inl (V 2)))]]) (r := [[(Z 4, .inl (cI, 32008, .inl (V 1)))], [(Z 6, .inl (cZ, 32008, .inl (V 3)))], [(Z 2, .inr (0, []))]]) (cs2 := [[(Z 0, .inr (8, [E 0, E 1, E 2, .ref (Z 1), .int (nI a3), .int (nI d), E 6, E 7, E 8, .ref (Z 2), .int fp, E 11, E 12, E 13, E 14, E 15, E 16, E 17, E 18]))], [(Z 1, .inr (7, [X 0, X 1, .ref (Z 3), .ref (Z 4), .ref (Z 5), .ref (Z 6), X 6, X 7, X 8, X 9, X 10, X 11, X 12]))], [(Z 3, .inl (cB, 32008, .inl (V 0)))], [(Z 5, .inl (cI, 32008, .inl (V 2)))], [(Z 4, .inl (cI, 32008, .inl (V 1)))], [(Z 6, .inl (cZ, 32008, .inl (V 3)))], [(Z 2, .inr (0, []))]]) rfl ?_
          refine jJ_eq (g2 := F0 m 38 ls [.int (bI (jnP ((tk 0).getD a3 0)))]) (cs2 := [[(Z 0, .inr (8, [E 0, E 1, E 2, .ref (Z 1), .int (nI a3), .int (nI d), E 6, E 7, E 8, .ref (Z 2), .int fp, E 11, E 12, E 13, E 14, E 15, E 16, E 17, E 18]))], [(Z 1, .inr (7, [X 0, X 1, .ref (Z 3), .ref (Z 4), .ref (Z 5), .ref (Z 6), X 6, X 7, X 8, X 9, X 10, X 11, X 12]))], [(Z 3, .inl (cB, 32008, .inl (V 0)))], [(Z 5, .inl (cI, 32008, .inl (V 2)))], [(Z 4, .inl (cI, 32008, .inl (V 1)))], [(Z 6, .inl (cZ, 32008, .inl (V 3)))], [(Z 2, .inr (0, []))]]) rfl rfl ?_
          refine jJ_ofL (fun H locs => lv_istore_n (lv' := [(1, .int (bI (jnP ((tk 0).getD a3 0)))), (0, .ref (Z 0))]) hx hb dX10_lookSum_38 rfl hl (by decide) rfl) (fun ls hl => ?_)
          refine jJ_of (fun H locs => lv_iload_n hx hb dX10_lookSum_39 rfl (lv_at hl 0 rfl)) ?_
          refine jJ_of2 (fun H locs => jb_if_eq (tgt := 2) hx hb dX10_lookSum_40 (by decide)) (fun c40 => ?_) (fun c40 => ?_)
          · have hl9 := hl
            rw [c40] at hl9
            clear hl
            have hl := hl9
            refine jJ_of (fun H locs => lv_iload_n hx hb dX10_lookSum_2 rfl (lv_at hl 0 rfl)) ?_
            refine jJ_of2 (fun H locs => jb_if_eq (tgt := 56) hx hb dX10_lookSum_3 (by decide)) (fun c3 => ?_) (fun c3 => ?_)
            · refine jJ_perm [0, 1, 2, 4, 3, 5, 6] (nn := 7) rfl (by decide) (cs2 := [[(Z 0, .inr (8, [E 0, E 1, E 2, .ref (Z 1), .int (nI a3), .int (nI d), E 6, E 7, E 8, .ref (Z 2), .int fp, E 11, E 12, E 13, E 14, E 15, E 16, E 17, E 18]))], [(Z 1, .inr (7, [X 0, X 1, .ref (Z 3), .ref (Z 4), .ref (Z 5), .ref (Z 6), X 6, X 7, X 8, X 9, X 10, X 11, X 12]))], [(Z 3, .inl (cB, 32008, .inl (V 0)))], [(Z 4, .inl (cI, 32008, .inl (V 1)))], [(Z 5, .inl (cI, 32008, .inl (V 2)))], [(Z 6, .inl (cZ, 32008, .inl (V 3)))], [(Z 2, .inr (0, []))]]) rfl ?_
              have he : (qSum tk N r) a = (true, a3) := by rw [← hcl4]; rfl
              exact jJ_toX (jJ_vret hx hb hr hlocks dX10_lookSum_56 (by show _ ≤ 0; omega) (by show _ ≤ 0; omega) ⟨by rw [he], rfl, by rw [he]; rfl, rfl, rfl⟩)
            · exact absurd c3 (by decide)
          · have hl9 := hl
            rw [c40] at hl9
            clear hl
            have hl := hl9
            have hx40 := jnP_x c40
            exact absurd (hL8 hx40.1 hx40.2) (by omega)
        · have hx14 := jnF_x c14
          refine jJ_of (fun H locs => lv_aload_n hx hb dX10_lookSum_17 rfl (lv_at hl 1 rfl)) ?_
          refine jJ_of (fun H locs => lv_dup hx hb dX10_lookSum_18 rfl) ?_
          refine jJ_get hx hb (C := RX10) (T := TX10) (N := 19) hts uX10_in_X10_lookSum hown hK 0 rfl rfl 4 (by decide) (hts (.fieldLink RX10 121 "ValueBlocksModel" "at" "I") (by decide +kernel)) (fun _ h9 => h9) rfl dX10_lookSum_19 ?_
          refine jJ_of (fun H locs => lv_iconst (v := (nI 1)) hx hb dX10_lookSum_22 (by decide)) ?_
          refine jJ_of (fun H locs => jn_iadd hx hb dX10_lookSum_23) ?_
          refine jJ_put hx hb (C := RX10) (T := TX10) (N := 19) (ty := .int) (v := .int (nI (a3 + 1))) hts uX10_in_X10_lookSum tyX10 tyX10_ok nmX10 hown hK 0 rfl rfl 4 (by decide) (hts (.fieldLink RX10 121 "ValueBlocksModel" "at" "I") (by decide +kernel)) (fun _ h9 => h9) rfl (by decide +kernel) rfl rfl (Nat.le_of_ble_eq_true rfl) dX10_lookSum_24 (cs2 := [[(Z 0, .inr (8, [E 0, E 1, E 2, .ref (Z 1), .int (nI (a3 + 1)), .int (nI d), E 6, E 7, E 8, .ref (Z 2), .int fp, E 11, E 12, E 13, E 14, E 15, E 16, E 17, E 18]))], [(Z 1, .inr (7, [X 0, X 1, .ref (Z 3), .ref (Z 4), .ref (Z 5), .ref (Z 6), X 6, X 7, X 8, X 9, X 10, X 11, X 12]))], [(Z 3, .inl (cB, 32008, .inl (V 0)))], [(Z 5, .inl (cI, 32008, .inl (V 2)))], [(Z 4, .inl (cI, 32008, .inl (V 1)))], [(Z 6, .inl (cZ, 32008, .inl (V 3)))], [(Z 2, .inr (0, []))]]) rfl ?_
          refine jJ_of (fun H locs => lv_aload_n hx hb dX10_lookSum_27 rfl (lv_at hl 1 rfl)) ?_
          refine jX_callV (As := []) (rest := []) (wc := jF (lW cI cB cZ Z (E) (X) V (a3 + 1) d fp)) (cs2 := []) (C := RX10) (T := TX10) (N := 19) (ci := 8) [0, 1, 2, 4, 3, 5, 6] [] ⟨hx, hb, hml, hown, hts⟩ hK hA hAm (hFa (a3 + 1) fp (by omega)) (cwV 0 hts gX10_lookSum_X10_lookFactor rfl rfl rfl (by decide +kernel) ⟨by show (6 * r + 11) + 1 ≤ 6 * r + 12; omega, by show 8 + (1 + 11) + (240 * r + 440) ≤ 240 * r + 480; omega⟩) (nn := 7) rfl (by decide) rfl rfl ⟨0, _, rfl⟩ rfl rfl rfl hl.1 (Nat.le_of_ble_eq_true rfl) dX10_lookSum_28 (by show _ + 0 ≤ 0; omega) (by show _ + 0 ≤ 0; omega) (fun u6 k6 n6 q6 hx6 => ?_) (fun v u6 k6 n6 hq6 => ?_)
          · obtain ⟨hb6, ⟨a2_6, d2_6, hu6⟩, rfl, rfl⟩ := hx6
            obtain ⟨aa6, hea6⟩ : ∃ x, ((qFac tk N r) (a3 + 1)).2 = x := ⟨_, rfl⟩
            rw [hea6] at hu6
            have he6 : (qFac tk N r) (a3 + 1) = (false, aa6) := Prod.ext hb6 hea6
            rw [hu6]
            have he : (qSum tk N r) a = (false, aa6) := by rw [← hcl3]; show qThen (if _ then _ else _) _ = _; rw [if_pos c14]; simp only [he6, qThen_t, qThen_f]
            exact jJx_out hno hlocks (by show _ ≤ 0; omega) (by show _ ≤ 0; omega) ⟨by rw [he], ⟨_, _, by rw [he]; rfl⟩, rfl, rfl⟩
          obtain ⟨hb6, rfl, hw6, rfl, rfl⟩ := hq6
          have hqb6 : (a3 + 1) ≤ ((qFac tk N r) (a3 + 1)).2 ∧ ((qFac tk N r) (a3 + 1)).2 + 1 ≤ (tk 0).length := qb_fac hE N r (a3 + 1) (by omega)
          obtain ⟨aa6, hea6⟩ : ∃ x, ((qFac tk N r) (a3 + 1)).2 = x := ⟨_, rfl⟩
          rw [hea6] at hw6 hqb6
          have he6 : (qFac tk N r) (a3 + 1) = (true, aa6) := Prod.ext hb6 hea6
          rw [hw6]
          refine jJ_open (xs := [[(Z 0, .inr (8, [E 0, E 1, E 2, .ref (Z 1), .int (nI aa6), .int (nI d), E 6, E 7, E 8, .ref (Z 2), .int fp, E 11, E 12, E 13, E 14, E 15, E 16, E 17, E 18]))], [(Z 1, .inr (7, [X 0, X 1, .ref (Z 3), .ref (Z 4), .ref (Z 5), .ref (Z 6), X 6, X 7, X 8, X 9, X 10, X 11, X 12]))], [(Z 3, .inl (cB, 32008, .inl (V 0)))], [(Z 4, .inl (cI, 32008, .inl (V 1)))], [(Z 5, .inl (cI, 32008, .inl (V 2)))], [(Z 6, .inl (cZ, 32008, .inl (V 3)))], [(Z 2, .inr (0, []))]]) (r := []) (cs2 := [[(Z 0, .inr (8, [E 0, E 1, E 2, .ref (Z 1), .int (nI aa6), .int (nI d), E 6, E 7, E 8, .ref (Z 2), .int fp, E 11, E 12, E 13, E 14, E 15, E 16, E 17, E 18]))], [(Z 1, .inr (7, [X 0, X 1, .ref (Z 3), .ref (Z 4), .ref (Z 5), .ref (Z 6), X 6, X 7, X 8, X 9, X 10, X 11, X 12]))], [(Z 3, .inl (cB, 32008, .inl (V 0)))], [(Z 4, .inl (cI, 32008, .inl (V 1)))], [(Z 5, .inl (cI, 32008, .inl (V 2)))], [(Z 6, .inl (cZ, 32008, .inl (V 3)))], [(Z 2, .inr (0, []))]]) rfl ?_
          refine jJ_eq (g2 := F0 m 31 ls []) (cs2 := [[(Z 0, .inr (8, [E 0, E 1, E 2, .ref (Z 1), .int (nI aa6), .int (nI d), E 6, E 7, E 8, .ref (Z 2), .int fp, E 11, E 12, E 13, E 14, E 15, E 16, E 17, E 18]))], [(Z 1, .inr (7, [X 0, X 1, .ref (Z 3), .ref (Z 4), .ref (Z 5), .ref (Z 6), X 6, X 7, X 8, X 9, X 10, X 11, X 12]))], [(Z 3, .inl (cB, 32008, .inl (V 0)))], [(Z 4, .inl (cI, 32008, .inl (V 1)))], [(Z 5, .inl (cI, 32008, .inl (V 2)))], [(Z 6, .inl (cZ, 32008, .inl (V 3)))], [(Z 2, .inr (0, []))]]) rfl rfl ?_
          refine jJ_of (fun H locs => lv_goto (tgt := 10) hx hb dX10_lookSum_31 (by decide)) ?_
          exact ih3 aa6 (by omega) (by omega) (by omega) (by omega) (by rw [← hcl3]; show _ = qThen (if _ then _ else _) _; rw [if_pos c14]; simp only [he6, qThen_t, qThen_f]) ls (lv_sub hl [0, 1] rfl)
  | succ n2 ih =>
    intro a1 ha1 ha1b hn2 hcl ls hl
    refine jJ_of (fun H locs => lv_iload_n hx hb dX10_lookSum_2 rfl (lv_at hl 0 rfl)) ?_
    refine jJ_of2 (fun H locs => jn_if_eq (tgt := 56) hx hb dX10_lookSum_3 (by decide) (by omega)) (fun c3 => ?_) (fun c3 => ?_)
    · exact absurd c3 (by decide)
    · refine jJ_of (fun H locs => lv_aload_n hx hb dX10_lookSum_6 rfl (lv_at hl 1 rfl)) ?_
      refine jX_callV (As := []) (rest := []) (wc := jF (lW cI cB cZ Z (E) (X) V a1 d fp)) (cs2 := []) (C := RX10) (T := TX10) (N := 19) (ci := 8) [0, 1, 2, 3, 4, 5, 6] [] ⟨hx, hb, hml, hown, hts⟩ hK hA hAm (hFa a1 fp (by omega)) (cwV 0 hts gX10_lookSum_X10_lookFactor rfl rfl rfl (by decide +kernel) ⟨by show (6 * r + 11) + 1 ≤ 6 * r + 12; omega, by show 8 + (1 + 11) + (240 * r + 440) ≤ 240 * r + 480; omega⟩) (nn := 7) rfl (by decide) rfl rfl ⟨0, _, rfl⟩ rfl rfl rfl hl.1 (Nat.le_of_ble_eq_true rfl) dX10_lookSum_7 (by show _ + 0 ≤ 0; omega) (by show _ + 0 ≤ 0; omega) (fun u7 k7 n7 q7 hx7 => ?_) (fun v u7 k7 n7 hq7 => ?_)
      · obtain ⟨hb7, ⟨a2_7, d2_7, hu7⟩, rfl, rfl⟩ := hx7
        obtain ⟨aa7, hea7⟩ : ∃ x, ((qFac tk N r) a1).2 = x := ⟨_, rfl⟩
        rw [hea7] at hu7
        have he7 : (qFac tk N r) a1 = (false, aa7) := Prod.ext hb7 hea7
        rw [hu7]
        have he : (qSum tk N r) a = (false, aa7) := by rw [← hcl]; unfold qSeq; simp only [he7, qThen_t, qThen_f]
        exact jJx_out hno hlocks (by show _ ≤ 0; omega) (by show _ ≤ 0; omega) ⟨by rw [he], ⟨_, _, by rw [he]; rfl⟩, rfl, rfl⟩
      obtain ⟨hb7, rfl, hw7, rfl, rfl⟩ := hq7
      have hqb7 : a1 ≤ ((qFac tk N r) a1).2 ∧ ((qFac tk N r) a1).2 + 1 ≤ (tk 0).length := qb_fac hE N r a1 (by omega)
      obtain ⟨aa7, hea7⟩ : ∃ x, ((qFac tk N r) a1).2 = x := ⟨_, rfl⟩
      rw [hea7] at hw7 hqb7
      have he7 : (qFac tk N r) a1 = (true, aa7) := Prod.ext hb7 hea7
      rw [hw7]
      refine jJ_open (xs := [[(Z 0, .inr (8, [E 0, E 1, E 2, .ref (Z 1), .int (nI aa7), .int (nI d), E 6, E 7, E 8, .ref (Z 2), .int fp, E 11, E 12, E 13, E 14, E 15, E 16, E 17, E 18]))], [(Z 1, .inr (7, [X 0, X 1, .ref (Z 3), .ref (Z 4), .ref (Z 5), .ref (Z 6), X 6, X 7, X 8, X 9, X 10, X 11, X 12]))], [(Z 3, .inl (cB, 32008, .inl (V 0)))], [(Z 4, .inl (cI, 32008, .inl (V 1)))], [(Z 5, .inl (cI, 32008, .inl (V 2)))], [(Z 6, .inl (cZ, 32008, .inl (V 3)))], [(Z 2, .inr (0, []))]]) (r := []) (cs2 := [[(Z 0, .inr (8, [E 0, E 1, E 2, .ref (Z 1), .int (nI aa7), .int (nI d), E 6, E 7, E 8, .ref (Z 2), .int fp, E 11, E 12, E 13, E 14, E 15, E 16, E 17, E 18]))], [(Z 1, .inr (7, [X 0, X 1, .ref (Z 3), .ref (Z 4), .ref (Z 5), .ref (Z 6), X 6, X 7, X 8, X 9, X 10, X 11, X 12]))], [(Z 3, .inl (cB, 32008, .inl (V 0)))], [(Z 4, .inl (cI, 32008, .inl (V 1)))], [(Z 5, .inl (cI, 32008, .inl (V 2)))], [(Z 6, .inl (cZ, 32008, .inl (V 3)))], [(Z 2, .inr (0, []))]]) rfl ?_
      refine jJ_eq (g2 := F0 m 10 ls []) (cs2 := [[(Z 0, .inr (8, [E 0, E 1, E 2, .ref (Z 1), .int (nI aa7), .int (nI d), E 6, E 7, E 8, .ref (Z 2), .int fp, E 11, E 12, E 13, E 14, E 15, E 16, E 17, E 18]))], [(Z 1, .inr (7, [X 0, X 1, .ref (Z 3), .ref (Z 4), .ref (Z 5), .ref (Z 6), X 6, X 7, X 8, X 9, X 10, X 11, X 12]))], [(Z 3, .inl (cB, 32008, .inl (V 0)))], [(Z 4, .inl (cI, 32008, .inl (V 1)))], [(Z 5, .inl (cI, 32008, .inl (V 2)))], [(Z 6, .inl (cZ, 32008, .inl (V 3)))], [(Z 2, .inr (0, []))]]) rfl rfl ?_
      have hcl2 : qThen (qLoop tk jnF (qFac tk N r) N aa7) (qLoop tk jnP (qSeq tk N jnF (qFac tk N r)) (n2 + 1)) = qSum tk N r a := by rw [← hcl]; unfold qSeq; rw [he7, qThen_t]
      suffices lp2 : ∀ (n3 a3 : Nat), a ≤ a3 → a1 ≤ a3 → a3 + 1 ≤ (tk 0).length → (tk 0).length ≤ n3 + a3 + 1 → qThen (qLoop tk jnF (qFac tk N r) n3 a3) (qLoop tk jnP (qSeq tk N jnF (qFac tk N r)) (n2 + 1)) = qSum tk N r a → ∀ ls, lv_has ls 2 [(1, .int (nI 1)), (0, .ref (Z 0))] → jJ p l e _ s m args below meth c D A0 [[(Z 0, .inr (8, [E 0, E 1, E 2, .ref (Z 1), .int (nI a3), .int (nI d), E 6, E 7, E 8, .ref (Z 2), .int fp, E 11, E 12, E 13, E 14, E 15, E 16, E 17, E 18]))], [(Z 1, .inr (7, [X 0, X 1, .ref (Z 3), .ref (Z 4), .ref (Z 5), .ref (Z 6), X 6, X 7, X 8, X 9, X 10, X 11, X 12]))], [(Z 3, .inl (cB, 32008, .inl (V 0)))], [(Z 4, .inl (cI, 32008, .inl (V 1)))], [(Z 5, .inl (cI, 32008, .inl (V 2)))], [(Z 6, .inl (cZ, 32008, .inl (V 3)))], [(Z 2, .inr (0, []))]] 0 0 (jEndX below D A0 _ _ args s _ _) (F0 m 10 ls []) from lp2 N aa7 (by omega) (by omega) (by omega) (by omega) hcl2 ls (lv_sub hl [0, 1] rfl)
      clear hcl2
      intro n3
      induction n3 with
      | zero =>
        intro a3 ha3 ha13 ha3b hn3 hcl3 ls hl
        have hL8 := hE.lt (a := a3)
        refine jJ_of (fun H locs => lv_aload_n hx hb dX10_lookSum_10 rfl (lv_at hl 1 rfl)) ?_
        refine jJ_callV (As := []) (rest := []) (wc := jF (kWd cI cB Z (lsV [E 0, E 1, E 2, .null, .null, .int (nI d), E 6, E 7, E 8, .ref (Z 2), .int fp, E 11, E 12, E 13, E 14, E 15, E 16, E 17, E 18]) (lsV [X 0, X 1, .null, .ref (Z 4), .null, .ref (Z 6), X 6, X 7, X 8, X 9, X 10, X 11, X 12]) V a3)) (cs2 := [[(Z 4, .inl (cI, 32008, .inl (V 1)))], [(Z 6, .inl (cZ, 32008, .inl (V 3)))], [(Z 2, .inr (0, []))]]) (C := RX10) (T := TX10) (N := 19) (ci := 8) [0, 1, 2, 4] [3, 5, 6] ⟨hx, hb, hml, hown, hts⟩ hK hA hAm (c_Md_isTimes (E := lsV [E 0, E 1, E 2, .null, .null, .int (nI d), E 6, E 7, E 8, .ref (Z 2), .int fp, E 11, E 12, E 13, E 14, E 15, E 16, E 17, E 18]) (X := lsV [X 0, X 1, .null, .ref (Z 4), .null, .ref (Z 6), X 6, X 7, X 8, X 9, X 10, X 11, X 12]) (a := a3) hT (by omega)) (cwV 0 hts gX10_lookSum_X10_isTimes rfl rfl rfl (by decide +kernel) ⟨by show (2) + 1 ≤ 6 * r + 12; omega, by show 8 + (1 + 11) + (80) ≤ 240 * r + 480; omega⟩) (nn := 7) rfl (by decide) rfl rfl ⟨0, _, rfl⟩ rfl rfl rfl hl.1 (Nat.le_of_ble_eq_true rfl) dX10_lookSum_11 (by show _ + 0 ≤ 0; omega) (by show _ + 0 ≤ 0; omega) (fun v u8 k8 n8 hq8 => ?_)
        obtain ⟨rfl, hw8, rfl, rfl⟩ := hq8
        rw [hw8]
        refine jJ_open (xs := [[(Z 0, .inr (8, [E 0, E 1, E 2, .ref (Z 1), .int (nI a3), .int (nI d), E 6, E 7, E 8, .ref (Z 2), .int fp, E 11, E 12, E 13, E 14, E 15, E 16, E 17, E 18]))], [(Z 1, .inr (7, [X 0, X 1, .ref (Z 3), .ref (Z 4), .ref (Z 5), .ref (Z 6), X 6, X 7, X 8, X 9, X 10, X 11, X 12]))], [(Z 3, .inl (cB, 32008, .inl (V 0)))], [(Z 5, .inl (cI, 32008, .inl (V 2)))]]) (r := [[(Z 4, .inl (cI, 32008, .inl (V 1)))], [(Z 6, .inl (cZ, 32008, .inl (V 3)))], [(Z 2, .inr (0, []))]]) (cs2 := [[(Z 0, .inr (8, [E 0, E 1, E 2, .ref (Z 1), .int (nI a3), .int (nI d), E 6, E 7, E 8, .ref (Z 2), .int fp, E 11, E 12, E 13, E 14, E 15, E 16, E 17, E 18]))], [(Z 1, .inr (7, [X 0, X 1, .ref (Z 3), .ref (Z 4), .ref (Z 5), .ref (Z 6), X 6, X 7, X 8, X 9, X 10, X 11, X 12]))], [(Z 3, .inl (cB, 32008, .inl (V 0)))], [(Z 5, .inl (cI, 32008, .inl (V 2)))], [(Z 4, .inl (cI, 32008, .inl (V 1)))], [(Z 6, .inl (cZ, 32008, .inl (V 3)))], [(Z 2, .inr (0, []))]]) rfl ?_
        refine jJ_eq (g2 := F0 m 14 ls [.int (bI (jnF ((tk 0).getD a3 0)))]) (cs2 := [[(Z 0, .inr (8, [E 0, E 1, E 2, .ref (Z 1), .int (nI a3), .int (nI d), E 6, E 7, E 8, .ref (Z 2), .int fp, E 11, E 12, E 13, E 14, E 15, E 16, E 17, E 18]))], [(Z 1, .inr (7, [X 0, X 1, .ref (Z 3), .ref (Z 4), .ref (Z 5), .ref (Z 6), X 6, X 7, X 8, X 9, X 10, X 11, X 12]))], [(Z 3, .inl (cB, 32008, .inl (V 0)))], [(Z 5, .inl (cI, 32008, .inl (V 2)))], [(Z 4, .inl (cI, 32008, .inl (V 1)))], [(Z 6, .inl (cZ, 32008, .inl (V 3)))], [(Z 2, .inr (0, []))]]) rfl rfl ?_
        refine jJ_of2 (fun H locs => jb_if_eq (tgt := 34) hx hb dX10_lookSum_14 (by decide)) (fun c14 => ?_) (fun c14 => ?_)
        · have hcl4 : qLoop tk jnP (qSeq tk N jnF (qFac tk N r)) (n2 + 1) a3 = qSum tk N r a := hcl3
          refine jJ_of (fun H locs => lv_aload_n hx hb dX10_lookSum_34 rfl (lv_at hl 1 rfl)) ?_
          refine jJ_callV (As := []) (rest := []) (wc := jF (kWd cI cB Z (lsV [E 0, E 1, E 2, .null, .null, .int (nI d), E 6, E 7, E 8, .ref (Z 2), .int fp, E 11, E 12, E 13, E 14, E 15, E 16, E 17, E 18]) (lsV [X 0, X 1, .null, .ref (Z 4), .null, .ref (Z 6), X 6, X 7, X 8, X 9, X 10, X 11, X 12]) V a3)) (cs2 := [[(Z 4, .inl (cI, 32008, .inl (V 1)))], [(Z 6, .inl (cZ, 32008, .inl (V 3)))], [(Z 2, .inr (0, []))]]) (C := RX10) (T := TX10) (N := 19) (ci := 8) [0, 1, 2, 3] [4, 5, 6] ⟨hx, hb, hml, hown, hts⟩ hK hA hAm (c_Md_isPlus (E := lsV [E 0, E 1, E 2, .null, .null, .int (nI d), E 6, E 7, E 8, .ref (Z 2), .int fp, E 11, E 12, E 13, E 14, E 15, E 16, E 17, E 18]) (X := lsV [X 0, X 1, .null, .ref (Z 4), .null, .ref (Z 6), X 6, X 7, X 8, X 9, X 10, X 11, X 12]) (a := a3) hT (by omega)) (cwV 0 hts gX10_lookSum_X10_isPlus rfl rfl rfl (by decide +kernel) ⟨by show (2) + 1 ≤ 6 * r + 12; omega, by show 8 + (1 + 11) + (80) ≤ 240 * r + 480; omega⟩) (nn := 7) rfl (by decide) rfl rfl ⟨0, _, rfl⟩ rfl rfl rfl hl.1 (Nat.le_of_ble_eq_true rfl) dX10_lookSum_35 (by show _ + 0 ≤ 0; omega) (by show _ + 0 ≤ 0; omega) (fun v u9 k9 n9 hq9 => ?_)
          obtain ⟨rfl, hw9, rfl, rfl⟩ := hq9
          rw [hw9]
          refine jJ_open (xs := [[(Z 0, .inr (8, [E 0, E 1, E 2, .ref (Z 1), .int (nI a3), .int (nI d), E 6, E 7, E 8, .ref (Z 2), .int fp, E 11, E 12, E 13, E 14, E 15, E 16, E 17, E 18]))], [(Z 1, .inr (7, [X 0, X 1, .ref (Z 3), .ref (Z 4), .ref (Z 5), .ref (Z 6), X 6, X 7, X 8, X 9, X 10, X 11, X 12]))], [(Z 3, .inl (cB, 32008, .inl (V 0)))], [(Z 5, .inl (cI, 32008, .inl (V 2)))]]) (r := [[(Z 4, .inl (cI, 32008, .inl (V 1)))], [(Z 6, .inl (cZ, 32008, .inl (V 3)))], [(Z 2, .inr (0, []))]]) (cs2 := [[(Z 0, .inr (8, [E 0, E 1, E 2, .ref (Z 1), .int (nI a3), .int (nI d), E 6, E 7, E 8, .ref (Z 2), .int fp, E 11, E 12, E 13, E 14, E 15, E 16, E 17, E 18]))], [(Z 1, .inr (7, [X 0, X 1, .ref (Z 3), .ref (Z 4), .ref (Z 5), .ref (Z 6), X 6, X 7, X 8, X 9, X 10, X 11, X 12]))], [(Z 3, .inl (cB, 32008, .inl (V 0)))], [(Z 5, .inl (cI, 32008, .inl (V 2)))], [(Z 4, .inl (cI, 32008, .inl (V 1)))], [(Z 6, .inl (cZ, 32008, .inl (V 3)))], [(Z 2, .inr (0, []))]]) rfl ?_
          refine jJ_eq (g2 := F0 m 38 ls [.int (bI (jnP ((tk 0).getD a3 0)))]) (cs2 := [[(Z 0, .inr (8, [E 0, E 1, E 2, .ref (Z 1), .int (nI a3), .int (nI d), E 6, E 7, E 8, .ref (Z 2), .int fp, E 11, E 12, E 13, E 14, E 15, E 16, E 17, E 18]))], [(Z 1, .inr (7, [X 0, X 1, .ref (Z 3), .ref (Z 4), .ref (Z 5), .ref (Z 6), X 6, X 7, X 8, X 9, X 10, X 11, X 12]))], [(Z 3, .inl (cB, 32008, .inl (V 0)))], [(Z 5, .inl (cI, 32008, .inl (V 2)))], [(Z 4, .inl (cI, 32008, .inl (V 1)))], [(Z 6, .inl (cZ, 32008, .inl (V 3)))], [(Z 2, .inr (0, []))]]) rfl rfl ?_
          refine jJ_ofL (fun H locs => lv_istore_n (lv' := [(1, .int (bI (jnP ((tk 0).getD a3 0)))), (0, .ref (Z 0))]) hx hb dX10_lookSum_38 rfl hl (by decide) rfl) (fun ls hl => ?_)
          refine jJ_of (fun H locs => lv_iload_n hx hb dX10_lookSum_39 rfl (lv_at hl 0 rfl)) ?_
          refine jJ_of2 (fun H locs => jb_if_eq (tgt := 2) hx hb dX10_lookSum_40 (by decide)) (fun c40 => ?_) (fun c40 => ?_)
          · have hl9 := hl
            rw [c40] at hl9
            clear hl
            have hl := hl9
            refine jJ_of (fun H locs => lv_iload_n hx hb dX10_lookSum_2 rfl (lv_at hl 0 rfl)) ?_
            refine jJ_of2 (fun H locs => jb_if_eq (tgt := 56) hx hb dX10_lookSum_3 (by decide)) (fun c3 => ?_) (fun c3 => ?_)
            · refine jJ_perm [0, 1, 2, 4, 3, 5, 6] (nn := 7) rfl (by decide) (cs2 := [[(Z 0, .inr (8, [E 0, E 1, E 2, .ref (Z 1), .int (nI a3), .int (nI d), E 6, E 7, E 8, .ref (Z 2), .int fp, E 11, E 12, E 13, E 14, E 15, E 16, E 17, E 18]))], [(Z 1, .inr (7, [X 0, X 1, .ref (Z 3), .ref (Z 4), .ref (Z 5), .ref (Z 6), X 6, X 7, X 8, X 9, X 10, X 11, X 12]))], [(Z 3, .inl (cB, 32008, .inl (V 0)))], [(Z 4, .inl (cI, 32008, .inl (V 1)))], [(Z 5, .inl (cI, 32008, .inl (V 2)))], [(Z 6, .inl (cZ, 32008, .inl (V 3)))], [(Z 2, .inr (0, []))]]) rfl ?_
              have he : (qSum tk N r) a = (true, a3) := by rw [← hcl4]; exact if_neg (by rw [c40]; decide)
              exact jJ_toX (jJ_vret hx hb hr hlocks dX10_lookSum_56 (by show _ ≤ 0; omega) (by show _ ≤ 0; omega) ⟨by rw [he], rfl, by rw [he]; rfl, rfl, rfl⟩)
            · exact absurd c3 (by decide)
          · have hl9 := hl
            rw [c40] at hl9
            clear hl
            have hl := hl9
            have hx40 := jnP_x c40
            have hcl5 : qThen ((qSeq tk N jnF (qFac tk N r)) (a3 + 1)) (qLoop tk jnP (qSeq tk N jnF (qFac tk N r)) n2) = qSum tk N r a := by rw [← hcl4]; show _ = (if _ then _ else _); rw [if_pos c40]
            refine jJ_of (fun H locs => lv_aload_n hx hb dX10_lookSum_43 rfl (lv_at hl 1 rfl)) ?_
            refine jJ_of (fun H locs => lv_dup hx hb dX10_lookSum_44 rfl) ?_
            refine jJ_get hx hb (C := RX10) (T := TX10) (N := 19) hts uX10_in_X10_lookSum hown hK 0 rfl rfl 4 (by decide) (hts (.fieldLink RX10 121 "ValueBlocksModel" "at" "I") (by decide +kernel)) (fun _ h9 => h9) rfl dX10_lookSum_45 ?_
            refine jJ_of (fun H locs => lv_iconst (v := (nI 1)) hx hb dX10_lookSum_48 (by decide)) ?_
            refine jJ_of (fun H locs => jn_iadd hx hb dX10_lookSum_49) ?_
            refine jJ_put hx hb (C := RX10) (T := TX10) (N := 19) (ty := .int) (v := .int (nI (a3 + 1))) hts uX10_in_X10_lookSum tyX10 tyX10_ok nmX10 hown hK 0 rfl rfl 4 (by decide) (hts (.fieldLink RX10 121 "ValueBlocksModel" "at" "I") (by decide +kernel)) (fun _ h9 => h9) rfl (by decide +kernel) rfl rfl (Nat.le_of_ble_eq_true rfl) dX10_lookSum_50 (cs2 := [[(Z 0, .inr (8, [E 0, E 1, E 2, .ref (Z 1), .int (nI (a3 + 1)), .int (nI d), E 6, E 7, E 8, .ref (Z 2), .int fp, E 11, E 12, E 13, E 14, E 15, E 16, E 17, E 18]))], [(Z 1, .inr (7, [X 0, X 1, .ref (Z 3), .ref (Z 4), .ref (Z 5), .ref (Z 6), X 6, X 7, X 8, X 9, X 10, X 11, X 12]))], [(Z 3, .inl (cB, 32008, .inl (V 0)))], [(Z 5, .inl (cI, 32008, .inl (V 2)))], [(Z 4, .inl (cI, 32008, .inl (V 1)))], [(Z 6, .inl (cZ, 32008, .inl (V 3)))], [(Z 2, .inr (0, []))]]) rfl ?_
            refine jJ_of (fun H locs => lv_goto (tgt := 2) hx hb dX10_lookSum_53 (by decide)) ?_
            refine jJ_perm [0, 1, 2, 4, 3, 5, 6] (nn := 7) rfl (by decide) (cs2 := [[(Z 0, .inr (8, [E 0, E 1, E 2, .ref (Z 1), .int (nI (a3 + 1)), .int (nI d), E 6, E 7, E 8, .ref (Z 2), .int fp, E 11, E 12, E 13, E 14, E 15, E 16, E 17, E 18]))], [(Z 1, .inr (7, [X 0, X 1, .ref (Z 3), .ref (Z 4), .ref (Z 5), .ref (Z 6), X 6, X 7, X 8, X 9, X 10, X 11, X 12]))], [(Z 3, .inl (cB, 32008, .inl (V 0)))], [(Z 4, .inl (cI, 32008, .inl (V 1)))], [(Z 5, .inl (cI, 32008, .inl (V 2)))], [(Z 6, .inl (cZ, 32008, .inl (V 3)))], [(Z 2, .inr (0, []))]]) rfl ?_
            exact ih (a3 + 1) (by omega) (by omega) (by omega) hcl5 ls (lv_sub hl [0, 1] rfl)
        · have hx14 := jnF_x c14
          exact absurd (hL8 hx14.1 hx14.2) (by omega)
      | succ n3 ih3 =>
        intro a3 ha3 ha13 ha3b hn3 hcl3 ls hl
        have hL8 := hE.lt (a := a3)
        refine jJ_of (fun H locs => lv_aload_n hx hb dX10_lookSum_10 rfl (lv_at hl 1 rfl)) ?_
        refine jJ_callV (As := []) (rest := []) (wc := jF (kWd cI cB Z (lsV [E 0, E 1, E 2, .null, .null, .int (nI d), E 6, E 7, E 8, .ref (Z 2), .int fp, E 11, E 12, E 13, E 14, E 15, E 16, E 17, E 18]) (lsV [X 0, X 1, .null, .ref (Z 4), .null, .ref (Z 6), X 6, X 7, X 8, X 9, X 10, X 11, X 12]) V a3)) (cs2 := [[(Z 4, .inl (cI, 32008, .inl (V 1)))], [(Z 6, .inl (cZ, 32008, .inl (V 3)))], [(Z 2, .inr (0, []))]]) (C := RX10) (T := TX10) (N := 19) (ci := 8) [0, 1, 2, 4] [3, 5, 6] ⟨hx, hb, hml, hown, hts⟩ hK hA hAm (c_Md_isTimes (E := lsV [E 0, E 1, E 2, .null, .null, .int (nI d), E 6, E 7, E 8, .ref (Z 2), .int fp, E 11, E 12, E 13, E 14, E 15, E 16, E 17, E 18]) (X := lsV [X 0, X 1, .null, .ref (Z 4), .null, .ref (Z 6), X 6, X 7, X 8, X 9, X 10, X 11, X 12]) (a := a3) hT (by omega)) (cwV 0 hts gX10_lookSum_X10_isTimes rfl rfl rfl (by decide +kernel) ⟨by show (2) + 1 ≤ 6 * r + 12; omega, by show 8 + (1 + 11) + (80) ≤ 240 * r + 480; omega⟩) (nn := 7) rfl (by decide) rfl rfl ⟨0, _, rfl⟩ rfl rfl rfl hl.1 (Nat.le_of_ble_eq_true rfl) dX10_lookSum_11 (by show _ + 0 ≤ 0; omega) (by show _ + 0 ≤ 0; omega) (fun v u10 k10 n10 hq10 => ?_)
        obtain ⟨rfl, hw10, rfl, rfl⟩ := hq10
        rw [hw10]
        refine jJ_open (xs := [[(Z 0, .inr (8, [E 0, E 1, E 2, .ref (Z 1), .int (nI a3), .int (nI d), E 6, E 7, E 8, .ref (Z 2), .int fp, E 11, E 12, E 13, E 14, E 15, E 16, E 17, E 18]))], [(Z 1, .inr (7, [X 0, X 1, .ref (Z 3), .ref (Z 4), .ref (Z 5), .ref (Z 6), X 6, X 7, X 8, X 9, X 10, X 11, X 12]))], [(Z 3, .inl (cB, 32008, .inl (V 0)))], [(Z 5, .inl (cI, 32008, .inl (V 2)))]]) (r := [[(Z 4, .inl (cI, 32008, .inl (V 1)))], [(Z 6, .inl (cZ, 32008, .inl (V 3)))], [(Z 2, .inr (0, []))]]) (cs2 := [[(Z 0, .inr (8, [E 0, E 1, E 2, .ref (Z 1), .int (nI a3), .int (nI d), E 6, E 7, E 8, .ref (Z 2), .int fp, E 11, E 12, E 13, E 14, E 15, E 16, E 17, E 18]))], [(Z 1, .inr (7, [X 0, X 1, .ref (Z 3), .ref (Z 4), .ref (Z 5), .ref (Z 6), X 6, X 7, X 8, X 9, X 10, X 11, X 12]))], [(Z 3, .inl (cB, 32008, .inl (V 0)))], [(Z 5, .inl (cI, 32008, .inl (V 2)))], [(Z 4, .inl (cI, 32008, .inl (V 1)))], [(Z 6, .inl (cZ, 32008, .inl (V 3)))], [(Z 2, .inr (0, []))]]) rfl ?_
        refine jJ_eq (g2 := F0 m 14 ls [.int (bI (jnF ((tk 0).getD a3 0)))]) (cs2 := [[(Z 0, .inr (8, [E 0, E 1, E 2, .ref (Z 1), .int (nI a3), .int (nI d), E 6, E 7, E 8, .ref (Z 2), .int fp, E 11, E 12, E 13, E 14, E 15, E 16, E 17, E 18]))], [(Z 1, .inr (7, [X 0, X 1, .ref (Z 3), .ref (Z 4), .ref (Z 5), .ref (Z 6), X 6, X 7, X 8, X 9, X 10, X 11, X 12]))], [(Z 3, .inl (cB, 32008, .inl (V 0)))], [(Z 5, .inl (cI, 32008, .inl (V 2)))], [(Z 4, .inl (cI, 32008, .inl (V 1)))], [(Z 6, .inl (cZ, 32008, .inl (V 3)))], [(Z 2, .inr (0, []))]]) rfl rfl ?_
        refine jJ_of2 (fun H locs => jb_if_eq (tgt := 34) hx hb dX10_lookSum_14 (by decide)) (fun c14 => ?_) (fun c14 => ?_)
        · have hcl4 : qLoop tk jnP (qSeq tk N jnF (qFac tk N r)) (n2 + 1) a3 = qSum tk N r a := by rw [← hcl3]; show _ = qThen (if _ then _ else _) _; rw [if_neg (by rw [c14]; decide)]; rfl
          refine jJ_of (fun H locs => lv_aload_n hx hb dX10_lookSum_34 rfl (lv_at hl 1 rfl)) ?_
          refine jJ_callV (As := []) (rest := []) (wc := jF (kWd cI cB Z (lsV [E 0, E 1, E 2, .null, .null, .int (nI d), E 6, E 7, E 8, .ref (Z 2), .int fp, E 11, E 12, E 13, E 14, E 15, E 16, E 17, E 18]) (lsV [X 0, X 1, .null, .ref (Z 4), .null, .ref (Z 6), X 6, X 7, X 8, X 9, X 10, X 11, X 12]) V a3)) (cs2 := [[(Z 4, .inl (cI, 32008, .inl (V 1)))], [(Z 6, .inl (cZ, 32008, .inl (V 3)))], [(Z 2, .inr (0, []))]]) (C := RX10) (T := TX10) (N := 19) (ci := 8) [0, 1, 2, 3] [4, 5, 6] ⟨hx, hb, hml, hown, hts⟩ hK hA hAm (c_Md_isPlus (E := lsV [E 0, E 1, E 2, .null, .null, .int (nI d), E 6, E 7, E 8, .ref (Z 2), .int fp, E 11, E 12, E 13, E 14, E 15, E 16, E 17, E 18]) (X := lsV [X 0, X 1, .null, .ref (Z 4), .null, .ref (Z 6), X 6, X 7, X 8, X 9, X 10, X 11, X 12]) (a := a3) hT (by omega)) (cwV 0 hts gX10_lookSum_X10_isPlus rfl rfl rfl (by decide +kernel) ⟨by show (2) + 1 ≤ 6 * r + 12; omega, by show 8 + (1 + 11) + (80) ≤ 240 * r + 480; omega⟩) (nn := 7) rfl (by decide) rfl rfl ⟨0, _, rfl⟩ rfl rfl rfl hl.1 (Nat.le_of_ble_eq_true rfl) dX10_lookSum_35 (by show _ + 0 ≤ 0; omega) (by show _ + 0 ≤ 0; omega) (fun v u11 k11 n11 hq11 => ?_)
          obtain ⟨rfl, hw11, rfl, rfl⟩ := hq11
          rw [hw11]
          refine jJ_open (xs := [[(Z 0, .inr (8, [E 0, E 1, E 2, .ref (Z 1), .int (nI a3), .int (nI d), E 6, E 7, E 8, .ref (Z 2), .int fp, E 11, E 12, E 13, E 14, E 15, E 16, E 17, E 18]))], [(Z 1, .inr (7, [X 0, X 1, .ref (Z 3), .ref (Z 4), .ref (Z 5), .ref (Z 6), X 6, X 7, X 8, X 9, X 10, X 11, X 12]))], [(Z 3, .inl (cB, 32008, .inl (V 0)))], [(Z 5, .inl (cI, 32008, .inl (V 2)))]]) (r := [[(Z 4, .inl (cI, 32008, .inl (V 1)))], [(Z 6, .inl (cZ, 32008, .inl (V 3)))], [(Z 2, .inr (0, []))]]) (cs2 := [[(Z 0, .inr (8, [E 0, E 1, E 2, .ref (Z 1), .int (nI a3), .int (nI d), E 6, E 7, E 8, .ref (Z 2), .int fp, E 11, E 12, E 13, E 14, E 15, E 16, E 17, E 18]))], [(Z 1, .inr (7, [X 0, X 1, .ref (Z 3), .ref (Z 4), .ref (Z 5), .ref (Z 6), X 6, X 7, X 8, X 9, X 10, X 11, X 12]))], [(Z 3, .inl (cB, 32008, .inl (V 0)))], [(Z 5, .inl (cI, 32008, .inl (V 2)))], [(Z 4, .inl (cI, 32008, .inl (V 1)))], [(Z 6, .inl (cZ, 32008, .inl (V 3)))], [(Z 2, .inr (0, []))]]) rfl ?_
          refine jJ_eq (g2 := F0 m 38 ls [.int (bI (jnP ((tk 0).getD a3 0)))]) (cs2 := [[(Z 0, .inr (8, [E 0, E 1, E 2, .ref (Z 1), .int (nI a3), .int (nI d), E 6, E 7, E 8, .ref (Z 2), .int fp, E 11, E 12, E 13, E 14, E 15, E 16, E 17, E 18]))], [(Z 1, .inr (7, [X 0, X 1, .ref (Z 3), .ref (Z 4), .ref (Z 5), .ref (Z 6), X 6, X 7, X 8, X 9, X 10, X 11, X 12]))], [(Z 3, .inl (cB, 32008, .inl (V 0)))], [(Z 5, .inl (cI, 32008, .inl (V 2)))], [(Z 4, .inl (cI, 32008, .inl (V 1)))], [(Z 6, .inl (cZ, 32008, .inl (V 3)))], [(Z 2, .inr (0, []))]]) rfl rfl ?_
          refine jJ_ofL (fun H locs => lv_istore_n (lv' := [(1, .int (bI (jnP ((tk 0).getD a3 0)))), (0, .ref (Z 0))]) hx hb dX10_lookSum_38 rfl hl (by decide) rfl) (fun ls hl => ?_)
          refine jJ_of (fun H locs => lv_iload_n hx hb dX10_lookSum_39 rfl (lv_at hl 0 rfl)) ?_
          refine jJ_of2 (fun H locs => jb_if_eq (tgt := 2) hx hb dX10_lookSum_40 (by decide)) (fun c40 => ?_) (fun c40 => ?_)
          · have hl9 := hl
            rw [c40] at hl9
            clear hl
            have hl := hl9
            refine jJ_of (fun H locs => lv_iload_n hx hb dX10_lookSum_2 rfl (lv_at hl 0 rfl)) ?_
            refine jJ_of2 (fun H locs => jb_if_eq (tgt := 56) hx hb dX10_lookSum_3 (by decide)) (fun c3 => ?_) (fun c3 => ?_)
            · refine jJ_perm [0, 1, 2, 4, 3, 5, 6] (nn := 7) rfl (by decide) (cs2 := [[(Z 0, .inr (8, [E 0, E 1, E 2, .ref (Z 1), .int (nI a3), .int (nI d), E 6, E 7, E 8, .ref (Z 2), .int fp, E 11, E 12, E 13, E 14, E 15, E 16, E 17, E 18]))], [(Z 1, .inr (7, [X 0, X 1, .ref (Z 3), .ref (Z 4), .ref (Z 5), .ref (Z 6), X 6, X 7, X 8, X 9, X 10, X 11, X 12]))], [(Z 3, .inl (cB, 32008, .inl (V 0)))], [(Z 4, .inl (cI, 32008, .inl (V 1)))], [(Z 5, .inl (cI, 32008, .inl (V 2)))], [(Z 6, .inl (cZ, 32008, .inl (V 3)))], [(Z 2, .inr (0, []))]]) rfl ?_
              have he : (qSum tk N r) a = (true, a3) := by rw [← hcl4]; exact if_neg (by rw [c40]; decide)
              exact jJ_toX (jJ_vret hx hb hr hlocks dX10_lookSum_56 (by show _ ≤ 0; omega) (by show _ ≤ 0; omega) ⟨by rw [he], rfl, by rw [he]; rfl, rfl, rfl⟩)
            · exact absurd c3 (by decide)
          · have hl9 := hl
            rw [c40] at hl9
            clear hl
            have hl := hl9
            have hx40 := jnP_x c40
            have hcl5 : qThen ((qSeq tk N jnF (qFac tk N r)) (a3 + 1)) (qLoop tk jnP (qSeq tk N jnF (qFac tk N r)) n2) = qSum tk N r a := by rw [← hcl4]; show _ = (if _ then _ else _); rw [if_pos c40]
            refine jJ_of (fun H locs => lv_aload_n hx hb dX10_lookSum_43 rfl (lv_at hl 1 rfl)) ?_
            refine jJ_of (fun H locs => lv_dup hx hb dX10_lookSum_44 rfl) ?_
            refine jJ_get hx hb (C := RX10) (T := TX10) (N := 19) hts uX10_in_X10_lookSum hown hK 0 rfl rfl 4 (by decide) (hts (.fieldLink RX10 121 "ValueBlocksModel" "at" "I") (by decide +kernel)) (fun _ h9 => h9) rfl dX10_lookSum_45 ?_
            refine jJ_of (fun H locs => lv_iconst (v := (nI 1)) hx hb dX10_lookSum_48 (by decide)) ?_
            refine jJ_of (fun H locs => jn_iadd hx hb dX10_lookSum_49) ?_
            refine jJ_put hx hb (C := RX10) (T := TX10) (N := 19) (ty := .int) (v := .int (nI (a3 + 1))) hts uX10_in_X10_lookSum tyX10 tyX10_ok nmX10 hown hK 0 rfl rfl 4 (by decide) (hts (.fieldLink RX10 121 "ValueBlocksModel" "at" "I") (by decide +kernel)) (fun _ h9 => h9) rfl (by decide +kernel) rfl rfl (Nat.le_of_ble_eq_true rfl) dX10_lookSum_50 (cs2 := [[(Z 0, .inr (8, [E 0, E 1, E 2, .ref (Z 1), .int (nI (a3 + 1)), .int (nI d), E 6, E 7, E 8, .ref (Z 2), .int fp, E 11, E 12, E 13, E 14, E 15, E 16, E 17, E 18]))], [(Z 1, .inr (7, [X 0, X 1, .ref (Z 3), .ref (Z 4), .ref (Z 5), .ref (Z 6), X 6, X 7, X 8, X 9, X 10, X 11, X 12]))], [(Z 3, .inl (cB, 32008, .inl (V 0)))], [(Z 5, .inl (cI, 32008, .inl (V 2)))], [(Z 4, .inl (cI, 32008, .inl (V 1)))], [(Z 6, .inl (cZ, 32008, .inl (V 3)))], [(Z 2, .inr (0, []))]]) rfl ?_
            refine jJ_of (fun H locs => lv_goto (tgt := 2) hx hb dX10_lookSum_53 (by decide)) ?_
            refine jJ_perm [0, 1, 2, 4, 3, 5, 6] (nn := 7) rfl (by decide) (cs2 := [[(Z 0, .inr (8, [E 0, E 1, E 2, .ref (Z 1), .int (nI (a3 + 1)), .int (nI d), E 6, E 7, E 8, .ref (Z 2), .int fp, E 11, E 12, E 13, E 14, E 15, E 16, E 17, E 18]))], [(Z 1, .inr (7, [X 0, X 1, .ref (Z 3), .ref (Z 4), .ref (Z 5), .ref (Z 6), X 6, X 7, X 8, X 9, X 10, X 11, X 12]))], [(Z 3, .inl (cB, 32008, .inl (V 0)))], [(Z 4, .inl (cI, 32008, .inl (V 1)))], [(Z 5, .inl (cI, 32008, .inl (V 2)))], [(Z 6, .inl (cZ, 32008, .inl (V 3)))], [(Z 2, .inr (0, []))]]) rfl ?_
            exact ih (a3 + 1) (by omega) (by omega) (by omega) hcl5 ls (lv_sub hl [0, 1] rfl)
        · have hx14 := jnF_x c14
          refine jJ_of (fun H locs => lv_aload_n hx hb dX10_lookSum_17 rfl (lv_at hl 1 rfl)) ?_
          refine jJ_of (fun H locs => lv_dup hx hb dX10_lookSum_18 rfl) ?_
          refine jJ_get hx hb (C := RX10) (T := TX10) (N := 19) hts uX10_in_X10_lookSum hown hK 0 rfl rfl 4 (by decide) (hts (.fieldLink RX10 121 "ValueBlocksModel" "at" "I") (by decide +kernel)) (fun _ h9 => h9) rfl dX10_lookSum_19 ?_
          refine jJ_of (fun H locs => lv_iconst (v := (nI 1)) hx hb dX10_lookSum_22 (by decide)) ?_
          refine jJ_of (fun H locs => jn_iadd hx hb dX10_lookSum_23) ?_
          refine jJ_put hx hb (C := RX10) (T := TX10) (N := 19) (ty := .int) (v := .int (nI (a3 + 1))) hts uX10_in_X10_lookSum tyX10 tyX10_ok nmX10 hown hK 0 rfl rfl 4 (by decide) (hts (.fieldLink RX10 121 "ValueBlocksModel" "at" "I") (by decide +kernel)) (fun _ h9 => h9) rfl (by decide +kernel) rfl rfl (Nat.le_of_ble_eq_true rfl) dX10_lookSum_24 (cs2 := [[(Z 0, .inr (8, [E 0, E 1, E 2, .ref (Z 1), .int (nI (a3 + 1)), .int (nI d), E 6, E 7, E 8, .ref (Z 2), .int fp, E 11, E 12, E 13, E 14, E 15, E 16, E 17, E 18]))], [(Z 1, .inr (7, [X 0, X 1, .ref (Z 3), .ref (Z 4), .ref (Z 5), .ref (Z 6), X 6, X 7, X 8, X 9, X 10, X 11, X 12]))], [(Z 3, .inl (cB, 32008, .inl (V 0)))], [(Z 5, .inl (cI, 32008, .inl (V 2)))], [(Z 4, .inl (cI, 32008, .inl (V 1)))], [(Z 6, .inl (cZ, 32008, .inl (V 3)))], [(Z 2, .inr (0, []))]]) rfl ?_
          refine jJ_of (fun H locs => lv_aload_n hx hb dX10_lookSum_27 rfl (lv_at hl 1 rfl)) ?_
          refine jX_callV (As := []) (rest := []) (wc := jF (lW cI cB cZ Z (E) (X) V (a3 + 1) d fp)) (cs2 := []) (C := RX10) (T := TX10) (N := 19) (ci := 8) [0, 1, 2, 4, 3, 5, 6] [] ⟨hx, hb, hml, hown, hts⟩ hK hA hAm (hFa (a3 + 1) fp (by omega)) (cwV 0 hts gX10_lookSum_X10_lookFactor rfl rfl rfl (by decide +kernel) ⟨by show (6 * r + 11) + 1 ≤ 6 * r + 12; omega, by show 8 + (1 + 11) + (240 * r + 440) ≤ 240 * r + 480; omega⟩) (nn := 7) rfl (by decide) rfl rfl ⟨0, _, rfl⟩ rfl rfl rfl hl.1 (Nat.le_of_ble_eq_true rfl) dX10_lookSum_28 (by show _ + 0 ≤ 0; omega) (by show _ + 0 ≤ 0; omega) (fun u12 k12 n12 q12 hx12 => ?_) (fun v u12 k12 n12 hq12 => ?_)
          · obtain ⟨hb12, ⟨a2_12, d2_12, hu12⟩, rfl, rfl⟩ := hx12
            obtain ⟨aa12, hea12⟩ : ∃ x, ((qFac tk N r) (a3 + 1)).2 = x := ⟨_, rfl⟩
            rw [hea12] at hu12
            have he12 : (qFac tk N r) (a3 + 1) = (false, aa12) := Prod.ext hb12 hea12
            rw [hu12]
            have he : (qSum tk N r) a = (false, aa12) := by rw [← hcl3]; show qThen (if _ then _ else _) _ = _; rw [if_pos c14]; simp only [he12, qThen_t, qThen_f]
            exact jJx_out hno hlocks (by show _ ≤ 0; omega) (by show _ ≤ 0; omega) ⟨by rw [he], ⟨_, _, by rw [he]; rfl⟩, rfl, rfl⟩
          obtain ⟨hb12, rfl, hw12, rfl, rfl⟩ := hq12
          have hqb12 : (a3 + 1) ≤ ((qFac tk N r) (a3 + 1)).2 ∧ ((qFac tk N r) (a3 + 1)).2 + 1 ≤ (tk 0).length := qb_fac hE N r (a3 + 1) (by omega)
          obtain ⟨aa12, hea12⟩ : ∃ x, ((qFac tk N r) (a3 + 1)).2 = x := ⟨_, rfl⟩
          rw [hea12] at hw12 hqb12
          have he12 : (qFac tk N r) (a3 + 1) = (true, aa12) := Prod.ext hb12 hea12
          rw [hw12]
          refine jJ_open (xs := [[(Z 0, .inr (8, [E 0, E 1, E 2, .ref (Z 1), .int (nI aa12), .int (nI d), E 6, E 7, E 8, .ref (Z 2), .int fp, E 11, E 12, E 13, E 14, E 15, E 16, E 17, E 18]))], [(Z 1, .inr (7, [X 0, X 1, .ref (Z 3), .ref (Z 4), .ref (Z 5), .ref (Z 6), X 6, X 7, X 8, X 9, X 10, X 11, X 12]))], [(Z 3, .inl (cB, 32008, .inl (V 0)))], [(Z 4, .inl (cI, 32008, .inl (V 1)))], [(Z 5, .inl (cI, 32008, .inl (V 2)))], [(Z 6, .inl (cZ, 32008, .inl (V 3)))], [(Z 2, .inr (0, []))]]) (r := []) (cs2 := [[(Z 0, .inr (8, [E 0, E 1, E 2, .ref (Z 1), .int (nI aa12), .int (nI d), E 6, E 7, E 8, .ref (Z 2), .int fp, E 11, E 12, E 13, E 14, E 15, E 16, E 17, E 18]))], [(Z 1, .inr (7, [X 0, X 1, .ref (Z 3), .ref (Z 4), .ref (Z 5), .ref (Z 6), X 6, X 7, X 8, X 9, X 10, X 11, X 12]))], [(Z 3, .inl (cB, 32008, .inl (V 0)))], [(Z 4, .inl (cI, 32008, .inl (V 1)))], [(Z 5, .inl (cI, 32008, .inl (V 2)))], [(Z 6, .inl (cZ, 32008, .inl (V 3)))], [(Z 2, .inr (0, []))]]) rfl ?_
          refine jJ_eq (g2 := F0 m 31 ls []) (cs2 := [[(Z 0, .inr (8, [E 0, E 1, E 2, .ref (Z 1), .int (nI aa12), .int (nI d), E 6, E 7, E 8, .ref (Z 2), .int fp, E 11, E 12, E 13, E 14, E 15, E 16, E 17, E 18]))], [(Z 1, .inr (7, [X 0, X 1, .ref (Z 3), .ref (Z 4), .ref (Z 5), .ref (Z 6), X 6, X 7, X 8, X 9, X 10, X 11, X 12]))], [(Z 3, .inl (cB, 32008, .inl (V 0)))], [(Z 4, .inl (cI, 32008, .inl (V 1)))], [(Z 5, .inl (cI, 32008, .inl (V 2)))], [(Z 6, .inl (cZ, 32008, .inl (V 3)))], [(Z 2, .inr (0, []))]]) rfl rfl ?_
          refine jJ_of (fun H locs => lv_goto (tgt := 10) hx hb dX10_lookSum_31 (by decide)) ?_
          exact ih3 aa12 (by omega) (by omega) (by omega) (by omega) (by rw [← hcl3]; show _ = qThen (if _ then _ else _) _; rw [if_pos c14]; simp only [he12, qThen_t, qThen_f]) ls (lv_sub hl [0, 1] rfl)
theorem uX10_in_X10_lookTest : ∀ w ∈ u_ws RX10 TX10 19, w ∈ wsX10_lookTest := by decide +kernel
set_option maxHeartbeats 4000000 in
set_option maxRecDepth 100000 in
/-- lookTest() -/
theorem c_Md_lookTest {Z : Nat → Nat} {E X : Nat → Value} {V : Nat → Nat → Int32} {tk : Nat → List Nat} {a d : Nat} {fp : Int32} (hT : tV tk V) (hE : tE tk) (ha : a + 1 ≤ (tk 0).length) {N r : Nat} (hSu : cLk D G cI cJ cB cZ l yX10_lookSum wsX10_lookSum (6 * r + 12) (240 * r + 480) Z E X V tk (d) (qSum tk N r)) : HX l yX10_lookTest wsX10_lookTest ({ frames := 6 * r + 13, cells := 0, slots := 0, locals := 240 * r + 520 } : Room) D G (jT cI cJ cB cZ) [.ref (Z 0)] (jF (lW cI cB cZ Z E X V a d fp)) (fun v u k n => ((qTes tk N r) a).1 = true ∧ v = none ∧ u = jF (lW cI cB cZ Z E X V ((qTes tk N r) a).2 d fp) ∧ k = 0 ∧ n = 0) (fun u k n => ((qTes tk N r) a).1 = false ∧ (∃ a2 d2 : Nat, u = jF (lW cI cB cZ Z E X V a2 d2 (nI ((tk 1).getD ((qTes tk N r) a).2 0)))) ∧ k = 0 ∧ n = 0) := by
  refine HX_of (cc := cX10_lookTest) (maxL := 1) (ret := none) (lv := [(0, .ref (Z 0))]) (by decide) rfl rfl (Nat.le_of_ble_eq_true rfl) (fun p e s m args below meth c A0 ls hx hb hr hts hown hlocks hml hno hK hA hAm hl => ?_)
  refine jJ_open (xs := [[(Z 0, .inr (8, [E 0, E 1, E 2, .ref (Z 1), .int (nI a), .int (nI d), E 6, E 7, E 8, .ref (Z 2), .int fp, E 11, E 12, E 13, E 14, E 15, E 16, E 17, E 18]))], [(Z 1, .inr (7, [X 0, X 1, .ref (Z 3), .ref (Z 4), .ref (Z 5), .ref (Z 6), X 6, X 7, X 8, X 9, X 10, X 11, X 12]))], [(Z 3, .inl (cB, 32008, .inl (V 0)))], [(Z 4, .inl (cI, 32008, .inl (V 1)))], [(Z 5, .inl (cI, 32008, .inl (V 2)))], [(Z 6, .inl (cZ, 32008, .inl (V 3)))], [(Z 2, .inr (0, []))]]) (r := []) (cs2 := [[(Z 0, .inr (8, [E 0, E 1, E 2, .ref (Z 1), .int (nI a), .int (nI d), E 6, E 7, E 8, .ref (Z 2), .int fp, E 11, E 12, E 13, E 14, E 15, E 16, E 17, E 18]))], [(Z 1, .inr (7, [X 0, X 1, .ref (Z 3), .ref (Z 4), .ref (Z 5), .ref (Z 6), X 6, X 7, X 8, X 9, X 10, X 11, X 12]))], [(Z 3, .inl (cB, 32008, .inl (V 0)))], [(Z 4, .inl (cI, 32008, .inl (V 1)))], [(Z 5, .inl (cI, 32008, .inl (V 2)))], [(Z 6, .inl (cZ, 32008, .inl (V 3)))], [(Z 2, .inr (0, []))]]) rfl ?_
  have hL9 := hT.1
  refine jJ_of (fun H locs => lv_aload_n hx hb dX10_lookTest_0 rfl (lv_at hl 0 rfl)) ?_
  refine jX_callV (As := []) (rest := []) (wc := jF (lW cI cB cZ Z (E) (X) V a d fp)) (cs2 := []) (C := RX10) (T := TX10) (N := 19) (ci := 8) [0, 1, 2, 3, 4, 5, 6] [] ⟨hx, hb, hml, hown, hts⟩ hK hA hAm (hSu a fp (by omega)) (cwV 0 hts gX10_lookTest_X10_lookSum rfl rfl rfl (by decide +kernel) ⟨by show (6 * r + 12) + 1 ≤ 6 * r + 13; omega, by show 8 + (2 + 11) + (240 * r + 480) ≤ 240 * r + 520; omega⟩) (nn := 7) rfl (by decide) rfl rfl ⟨0, _, rfl⟩ rfl rfl rfl hl.1 (Nat.le_of_ble_eq_true rfl) dX10_lookTest_1 (by show _ + 0 ≤ 0; omega) (by show _ + 0 ≤ 0; omega) (fun u1 k1 n1 q1 hx1 => ?_) (fun v u1 k1 n1 hq1 => ?_)
  · obtain ⟨hb1, ⟨a2_1, d2_1, hu1⟩, rfl, rfl⟩ := hx1
    obtain ⟨aa1, hea1⟩ : ∃ x, ((qSum tk N r) a).2 = x := ⟨_, rfl⟩
    rw [hea1] at hu1
    have he1 : (qSum tk N r) a = (false, aa1) := Prod.ext hb1 hea1
    rw [hu1]
    have he : (qTes tk N r) a = (false, aa1) := by unfold qTes qTe; simp only [he1, qThen_t, qThen_f]
    exact jJx_out hno hlocks (by show _ ≤ 0; omega) (by show _ ≤ 0; omega) ⟨by rw [he], ⟨_, _, by rw [he]; rfl⟩, rfl, rfl⟩
  obtain ⟨hb1, rfl, hw1, rfl, rfl⟩ := hq1
  have hqb1 : a ≤ ((qSum tk N r) a).2 ∧ ((qSum tk N r) a).2 + 1 ≤ (tk 0).length := qb_sum hE N r a (by omega)
  obtain ⟨aa1, hea1⟩ : ∃ x, ((qSum tk N r) a).2 = x := ⟨_, rfl⟩
  rw [hea1] at hw1 hqb1
  have he1 : (qSum tk N r) a = (true, aa1) := Prod.ext hb1 hea1
  rw [hw1]
  refine jJ_open (xs := [[(Z 0, .inr (8, [E 0, E 1, E 2, .ref (Z 1), .int (nI aa1), .int (nI d), E 6, E 7, E 8, .ref (Z 2), .int fp, E 11, E 12, E 13, E 14, E 15, E 16, E 17, E 18]))], [(Z 1, .inr (7, [X 0, X 1, .ref (Z 3), .ref (Z 4), .ref (Z 5), .ref (Z 6), X 6, X 7, X 8, X 9, X 10, X 11, X 12]))], [(Z 3, .inl (cB, 32008, .inl (V 0)))], [(Z 4, .inl (cI, 32008, .inl (V 1)))], [(Z 5, .inl (cI, 32008, .inl (V 2)))], [(Z 6, .inl (cZ, 32008, .inl (V 3)))], [(Z 2, .inr (0, []))]]) (r := []) (cs2 := [[(Z 0, .inr (8, [E 0, E 1, E 2, .ref (Z 1), .int (nI aa1), .int (nI d), E 6, E 7, E 8, .ref (Z 2), .int fp, E 11, E 12, E 13, E 14, E 15, E 16, E 17, E 18]))], [(Z 1, .inr (7, [X 0, X 1, .ref (Z 3), .ref (Z 4), .ref (Z 5), .ref (Z 6), X 6, X 7, X 8, X 9, X 10, X 11, X 12]))], [(Z 3, .inl (cB, 32008, .inl (V 0)))], [(Z 4, .inl (cI, 32008, .inl (V 1)))], [(Z 5, .inl (cI, 32008, .inl (V 2)))], [(Z 6, .inl (cZ, 32008, .inl (V 3)))], [(Z 2, .inr (0, []))]]) rfl ?_
  refine jJ_eq (g2 := F0 m 4 ls []) (cs2 := [[(Z 0, .inr (8, [E 0, E 1, E 2, .ref (Z 1), .int (nI aa1), .int (nI d), E 6, E 7, E 8, .ref (Z 2), .int fp, E 11, E 12, E 13, E 14, E 15, E 16, E 17, E 18]))], [(Z 1, .inr (7, [X 0, X 1, .ref (Z 3), .ref (Z 4), .ref (Z 5), .ref (Z 6), X 6, X 7, X 8, X 9, X 10, X 11, X 12]))], [(Z 3, .inl (cB, 32008, .inl (V 0)))], [(Z 4, .inl (cI, 32008, .inl (V 1)))], [(Z 5, .inl (cI, 32008, .inl (V 2)))], [(Z 6, .inl (cZ, 32008, .inl (V 3)))], [(Z 2, .inr (0, []))]]) rfl rfl ?_
  refine jJ_of (fun H locs => lv_aload_n hx hb dX10_lookTest_4 rfl (lv_at hl 0 rfl)) ?_
  refine jJ_callV (As := []) (rest := []) (wc := jF (kWd cI cB Z (lsV [E 0, E 1, E 2, .null, .null, .int (nI d), E 6, E 7, E 8, .ref (Z 2), .int fp, E 11, E 12, E 13, E 14, E 15, E 16, E 17, E 18]) (lsV [X 0, X 1, .null, .ref (Z 4), .null, .ref (Z 6), X 6, X 7, X 8, X 9, X 10, X 11, X 12]) V aa1)) (cs2 := [[(Z 4, .inl (cI, 32008, .inl (V 1)))], [(Z 6, .inl (cZ, 32008, .inl (V 3)))], [(Z 2, .inr (0, []))]]) (C := RX10) (T := TX10) (N := 19) (ci := 8) [0, 1, 2, 4] [3, 5, 6] ⟨hx, hb, hml, hown, hts⟩ hK hA hAm (c_Md_isRelation (E := lsV [E 0, E 1, E 2, .null, .null, .int (nI d), E 6, E 7, E 8, .ref (Z 2), .int fp, E 11, E 12, E 13, E 14, E 15, E 16, E 17, E 18]) (X := lsV [X 0, X 1, .null, .ref (Z 4), .null, .ref (Z 6), X 6, X 7, X 8, X 9, X 10, X 11, X 12]) (a := aa1) hT (by omega)) (cwV 0 hts gX10_lookTest_X10_isRelation rfl rfl rfl (by decide +kernel) ⟨by show (1) + 1 ≤ 6 * r + 13; omega, by show 8 + (1 + 11) + (40) ≤ 240 * r + 520; omega⟩) (nn := 7) rfl (by decide) rfl rfl ⟨0, _, rfl⟩ rfl rfl rfl hl.1 (Nat.le_of_ble_eq_true rfl) dX10_lookTest_5 (by show _ + 0 ≤ 0; omega) (by show _ + 0 ≤ 0; omega) (fun v u2 k2 n2 hq2 => ?_)
  obtain ⟨rfl, hw2, rfl, rfl⟩ := hq2
  rw [hw2]
  refine jJ_open (xs := [[(Z 0, .inr (8, [E 0, E 1, E 2, .ref (Z 1), .int (nI aa1), .int (nI d), E 6, E 7, E 8, .ref (Z 2), .int fp, E 11, E 12, E 13, E 14, E 15, E 16, E 17, E 18]))], [(Z 1, .inr (7, [X 0, X 1, .ref (Z 3), .ref (Z 4), .ref (Z 5), .ref (Z 6), X 6, X 7, X 8, X 9, X 10, X 11, X 12]))], [(Z 3, .inl (cB, 32008, .inl (V 0)))], [(Z 5, .inl (cI, 32008, .inl (V 2)))]]) (r := [[(Z 4, .inl (cI, 32008, .inl (V 1)))], [(Z 6, .inl (cZ, 32008, .inl (V 3)))], [(Z 2, .inr (0, []))]]) (cs2 := [[(Z 0, .inr (8, [E 0, E 1, E 2, .ref (Z 1), .int (nI aa1), .int (nI d), E 6, E 7, E 8, .ref (Z 2), .int fp, E 11, E 12, E 13, E 14, E 15, E 16, E 17, E 18]))], [(Z 1, .inr (7, [X 0, X 1, .ref (Z 3), .ref (Z 4), .ref (Z 5), .ref (Z 6), X 6, X 7, X 8, X 9, X 10, X 11, X 12]))], [(Z 3, .inl (cB, 32008, .inl (V 0)))], [(Z 5, .inl (cI, 32008, .inl (V 2)))], [(Z 4, .inl (cI, 32008, .inl (V 1)))], [(Z 6, .inl (cZ, 32008, .inl (V 3)))], [(Z 2, .inr (0, []))]]) rfl ?_
  refine jJ_eq (g2 := F0 m 8 ls [.int (bI (decide (313 ≤ (tk 0).getD aa1 0 ∧ (tk 0).getD aa1 0 ≤ 318)))]) (cs2 := [[(Z 0, .inr (8, [E 0, E 1, E 2, .ref (Z 1), .int (nI aa1), .int (nI d), E 6, E 7, E 8, .ref (Z 2), .int fp, E 11, E 12, E 13, E 14, E 15, E 16, E 17, E 18]))], [(Z 1, .inr (7, [X 0, X 1, .ref (Z 3), .ref (Z 4), .ref (Z 5), .ref (Z 6), X 6, X 7, X 8, X 9, X 10, X 11, X 12]))], [(Z 3, .inl (cB, 32008, .inl (V 0)))], [(Z 5, .inl (cI, 32008, .inl (V 2)))], [(Z 4, .inl (cI, 32008, .inl (V 1)))], [(Z 6, .inl (cZ, 32008, .inl (V 3)))], [(Z 2, .inr (0, []))]]) rfl rfl ?_
  refine jJ_of2 (fun H locs => jb_if_ne (tgt := 12) hx hb dX10_lookTest_8 (by decide)) (fun c8 => ?_) (fun c8 => ?_)
  · try simp only [decide_eq_true_eq, decide_eq_false_iff_not, Bool.and_eq_true, Bool.and_eq_false_iff] at c8
    have hL7 := hE.lt (a := aa1) (by omega) (by omega)
    refine jJ_of (fun H locs => lv_aload_n hx hb dX10_lookTest_12 rfl (lv_at hl 0 rfl)) ?_
    refine jJ_of (fun H locs => lv_dup hx hb dX10_lookTest_13 rfl) ?_
    refine jJ_get hx hb (C := RX10) (T := TX10) (N := 19) hts uX10_in_X10_lookTest hown hK 0 rfl rfl 4 (by decide) (hts (.fieldLink RX10 121 "ValueBlocksModel" "at" "I") (by decide +kernel)) (fun _ h9 => h9) rfl dX10_lookTest_14 ?_
    refine jJ_of (fun H locs => lv_iconst (v := (nI 1)) hx hb dX10_lookTest_17 (by decide)) ?_
    refine jJ_of (fun H locs => jn_iadd hx hb dX10_lookTest_18) ?_
    refine jJ_put hx hb (C := RX10) (T := TX10) (N := 19) (ty := .int) (v := .int (nI (aa1 + 1))) hts uX10_in_X10_lookTest tyX10 tyX10_ok nmX10 hown hK 0 rfl rfl 4 (by decide) (hts (.fieldLink RX10 121 "ValueBlocksModel" "at" "I") (by decide +kernel)) (fun _ h9 => h9) rfl (by decide +kernel) rfl rfl (Nat.le_of_ble_eq_true rfl) dX10_lookTest_19 (cs2 := [[(Z 0, .inr (8, [E 0, E 1, E 2, .ref (Z 1), .int (nI (aa1 + 1)), .int (nI d), E 6, E 7, E 8, .ref (Z 2), .int fp, E 11, E 12, E 13, E 14, E 15, E 16, E 17, E 18]))], [(Z 1, .inr (7, [X 0, X 1, .ref (Z 3), .ref (Z 4), .ref (Z 5), .ref (Z 6), X 6, X 7, X 8, X 9, X 10, X 11, X 12]))], [(Z 3, .inl (cB, 32008, .inl (V 0)))], [(Z 5, .inl (cI, 32008, .inl (V 2)))], [(Z 4, .inl (cI, 32008, .inl (V 1)))], [(Z 6, .inl (cZ, 32008, .inl (V 3)))], [(Z 2, .inr (0, []))]]) rfl ?_
    refine jJ_of (fun H locs => lv_aload_n hx hb dX10_lookTest_22 rfl (lv_at hl 0 rfl)) ?_
    refine jX_callV (As := []) (rest := []) (wc := jF (lW cI cB cZ Z (E) (X) V (aa1 + 1) d fp)) (cs2 := []) (C := RX10) (T := TX10) (N := 19) (ci := 8) [0, 1, 2, 4, 3, 5, 6] [] ⟨hx, hb, hml, hown, hts⟩ hK hA hAm (hSu (aa1 + 1) fp (by omega)) (cwV 0 hts gX10_lookTest_X10_lookSum rfl rfl rfl (by decide +kernel) ⟨by show (6 * r + 12) + 1 ≤ 6 * r + 13; omega, by show 8 + (2 + 11) + (240 * r + 480) ≤ 240 * r + 520; omega⟩) (nn := 7) rfl (by decide) rfl rfl ⟨0, _, rfl⟩ rfl rfl rfl hl.1 (Nat.le_of_ble_eq_true rfl) dX10_lookTest_23 (by show _ + 0 ≤ 0; omega) (by show _ + 0 ≤ 0; omega) (fun u3 k3 n3 q3 hx3 => ?_) (fun v u3 k3 n3 hq3 => ?_)
    · obtain ⟨hb3, ⟨a2_3, d2_3, hu3⟩, rfl, rfl⟩ := hx3
      obtain ⟨aa3, hea3⟩ : ∃ x, ((qSum tk N r) (aa1 + 1)).2 = x := ⟨_, rfl⟩
      rw [hea3] at hu3
      have he3 : (qSum tk N r) (aa1 + 1) = (false, aa3) := Prod.ext hb3 hea3
      rw [hu3]
      have he : (qTes tk N r) a = (false, aa3) := by unfold qTes qTe; rw [he1, qThen_t, if_pos (by omega), he3]
      exact jJx_out hno hlocks (by show _ ≤ 0; omega) (by show _ ≤ 0; omega) ⟨by rw [he], ⟨_, _, by rw [he]; rfl⟩, rfl, rfl⟩
    obtain ⟨hb3, rfl, hw3, rfl, rfl⟩ := hq3
    have hqb3 : (aa1 + 1) ≤ ((qSum tk N r) (aa1 + 1)).2 ∧ ((qSum tk N r) (aa1 + 1)).2 + 1 ≤ (tk 0).length := qb_sum hE N r (aa1 + 1) (by omega)
    obtain ⟨aa3, hea3⟩ : ∃ x, ((qSum tk N r) (aa1 + 1)).2 = x := ⟨_, rfl⟩
    rw [hea3] at hw3 hqb3
    have he3 : (qSum tk N r) (aa1 + 1) = (true, aa3) := Prod.ext hb3 hea3
    rw [hw3]
    refine jJ_open (xs := [[(Z 0, .inr (8, [E 0, E 1, E 2, .ref (Z 1), .int (nI aa3), .int (nI d), E 6, E 7, E 8, .ref (Z 2), .int fp, E 11, E 12, E 13, E 14, E 15, E 16, E 17, E 18]))], [(Z 1, .inr (7, [X 0, X 1, .ref (Z 3), .ref (Z 4), .ref (Z 5), .ref (Z 6), X 6, X 7, X 8, X 9, X 10, X 11, X 12]))], [(Z 3, .inl (cB, 32008, .inl (V 0)))], [(Z 4, .inl (cI, 32008, .inl (V 1)))], [(Z 5, .inl (cI, 32008, .inl (V 2)))], [(Z 6, .inl (cZ, 32008, .inl (V 3)))], [(Z 2, .inr (0, []))]]) (r := []) (cs2 := [[(Z 0, .inr (8, [E 0, E 1, E 2, .ref (Z 1), .int (nI aa3), .int (nI d), E 6, E 7, E 8, .ref (Z 2), .int fp, E 11, E 12, E 13, E 14, E 15, E 16, E 17, E 18]))], [(Z 1, .inr (7, [X 0, X 1, .ref (Z 3), .ref (Z 4), .ref (Z 5), .ref (Z 6), X 6, X 7, X 8, X 9, X 10, X 11, X 12]))], [(Z 3, .inl (cB, 32008, .inl (V 0)))], [(Z 4, .inl (cI, 32008, .inl (V 1)))], [(Z 5, .inl (cI, 32008, .inl (V 2)))], [(Z 6, .inl (cZ, 32008, .inl (V 3)))], [(Z 2, .inr (0, []))]]) rfl ?_
    refine jJ_eq (g2 := F0 m 26 ls []) (cs2 := [[(Z 0, .inr (8, [E 0, E 1, E 2, .ref (Z 1), .int (nI aa3), .int (nI d), E 6, E 7, E 8, .ref (Z 2), .int fp, E 11, E 12, E 13, E 14, E 15, E 16, E 17, E 18]))], [(Z 1, .inr (7, [X 0, X 1, .ref (Z 3), .ref (Z 4), .ref (Z 5), .ref (Z 6), X 6, X 7, X 8, X 9, X 10, X 11, X 12]))], [(Z 3, .inl (cB, 32008, .inl (V 0)))], [(Z 4, .inl (cI, 32008, .inl (V 1)))], [(Z 5, .inl (cI, 32008, .inl (V 2)))], [(Z 6, .inl (cZ, 32008, .inl (V 3)))], [(Z 2, .inr (0, []))]]) rfl rfl ?_
    have he : (qTes tk N r) a = (true, aa3) := by unfold qTes qTe; rw [he1, qThen_t, if_pos (by omega), he3]
    exact jJ_toX (jJ_vret hx hb hr hlocks dX10_lookTest_26 (by show _ ≤ 0; omega) (by show _ ≤ 0; omega) ⟨by rw [he], rfl, by rw [he]; rfl, rfl, rfl⟩)
  · try simp only [decide_eq_true_eq, decide_eq_false_iff_not, Bool.and_eq_true, Bool.and_eq_false_iff] at c8
    refine jJ_perm [0, 1, 2, 4, 3, 5, 6] (nn := 7) rfl (by decide) (cs2 := [[(Z 0, .inr (8, [E 0, E 1, E 2, .ref (Z 1), .int (nI aa1), .int (nI d), E 6, E 7, E 8, .ref (Z 2), .int fp, E 11, E 12, E 13, E 14, E 15, E 16, E 17, E 18]))], [(Z 1, .inr (7, [X 0, X 1, .ref (Z 3), .ref (Z 4), .ref (Z 5), .ref (Z 6), X 6, X 7, X 8, X 9, X 10, X 11, X 12]))], [(Z 3, .inl (cB, 32008, .inl (V 0)))], [(Z 4, .inl (cI, 32008, .inl (V 1)))], [(Z 5, .inl (cI, 32008, .inl (V 2)))], [(Z 6, .inl (cZ, 32008, .inl (V 3)))], [(Z 2, .inr (0, []))]]) rfl ?_
    have he : (qTes tk N r) a = (true, aa1) := by unfold qTes qTe; rw [he1, qThen_t, if_neg (by omega)]
    exact jJ_toX (jJ_vret hx hb hr hlocks dX10_lookTest_11 (by show _ ≤ 0; omega) (by show _ ≤ 0; omega) ⟨by rw [he], rfl, by rw [he]; rfl, rfl, rfl⟩)

/-- the whole group, by the depth that is left -/
theorem w_Md_factor {Z : Nat → Nat} {E X : Nat → Value} {V : Nat → Nat → Int32} {tk : Nat → List Nat} (hT : tV tk V) (hE : tE tk) {N : Nat} (hN : (tk 0).length ≤ N) : ∀ (r d : Nat), d + r = 20 → cLk D G cI cJ cB cZ l yX10_lookFactor wsX10_lookFactor (6 * r + 11) (240 * r + 440) Z E X V tk d (qFac tk N r) ∧ cLk D G cI cJ cB cZ l yX10_bracket wsX10_bracket (6 * r + 8) (240 * r + 320) Z E X V tk d (qBra tk N r)
  | 0, d, hd => by
    have hB : cLk D G cI cJ cB cZ l yX10_bracket wsX10_bracket (6 * 0 + 8) (240 * 0 + 320) Z E X V tk d (qBra tk N 0) := fun a fp ha => c_Md_bracket hT hE ha hd (fun r2 h => absurd h (Nat.succ_ne_zero r2).symm)
    have hP : cLk D G cI cJ cB cZ l yX10_lookPlace wsX10_lookPlace (6 * 0 + 9) (240 * 0 + 360) Z E X V tk d (qPlc tk N 0) := fun a fp ha => c_Md_lookPlace hT hE ha hB
    have hI : cLk D G cI cJ cB cZ l yX10_lookItem wsX10_lookItem (6 * 0 + 10) (240 * 0 + 400) Z E X V tk d (qItm tk N 0) := fun a fp ha => c_Md_lookItem hT hE ha hB hP
    exact ⟨fun a fp ha => c_Md_lookFactor hT hE ha hd hB hI (fun r2 h => absurd h (Nat.succ_ne_zero r2).symm), hB⟩
  | r + 1, d, hd => by
    have hF : cLk D G cI cJ cB cZ l yX10_lookFactor wsX10_lookFactor (6 * r + 11) (240 * r + 440) Z E X V tk (d + 1) (qFac tk N r) := (w_Md_factor hT hE hN r (d + 1) (by omega)).1
    have hSu : cLk D G cI cJ cB cZ l yX10_lookSum wsX10_lookSum (6 * r + 12) (240 * r + 480) Z E X V tk (d + 1) (qSum tk N r) := fun a fp ha => c_Md_lookSum hT hE ha hN hF
    have hTe : cLk D G cI cJ cB cZ l yX10_lookTest wsX10_lookTest (6 * r + 13) (240 * r + 520) Z E X V tk (d + 1) (qTes tk N r) := fun a fp ha => c_Md_lookTest hT hE ha hSu
    have hB : cLk D G cI cJ cB cZ l yX10_bracket wsX10_bracket (6 * (r + 1) + 8) (240 * (r + 1) + 320) Z E X V tk d (qBra tk N (r + 1)) := fun a fp ha => c_Md_bracket hT hE ha hd (fun r2 h => by obtain rfl : r = r2 := (by omega); exact hTe)
    have hP : cLk D G cI cJ cB cZ l yX10_lookPlace wsX10_lookPlace (6 * (r + 1) + 9) (240 * (r + 1) + 360) Z E X V tk d (qPlc tk N (r + 1)) := fun a fp ha => c_Md_lookPlace hT hE ha hB
    have hI : cLk D G cI cJ cB cZ l yX10_lookItem wsX10_lookItem (6 * (r + 1) + 10) (240 * (r + 1) + 400) Z E X V tk d (qItm tk N (r + 1)) := fun a fp ha => c_Md_lookItem hT hE ha hB hP
    exact ⟨fun a fp ha => c_Md_lookFactor hT hE ha hd hB hI (fun r2 h => by obtain rfl : r = r2 := (by omega); exact hF), hB⟩
theorem w_Md_sum {Z : Nat → Nat} {E X : Nat → Value} {V : Nat → Nat → Int32} {tk : Nat → List Nat} (hT : tV tk V) (hE : tE tk) {N : Nat} (hN : (tk 0).length ≤ N) (r d : Nat) (hd : d + r = 20) : cLk D G cI cJ cB cZ l yX10_lookSum wsX10_lookSum (6 * r + 12) (240 * r + 480) Z E X V tk d (qSum tk N r) := fun a fp ha => c_Md_lookSum hT hE ha hN (w_Md_factor hT hE hN r d hd).1
theorem w_Md_place {Z : Nat → Nat} {E X : Nat → Value} {V : Nat → Nat → Int32} {tk : Nat → List Nat} (hT : tV tk V) (hE : tE tk) {N : Nat} (hN : (tk 0).length ≤ N) (r d : Nat) (hd : d + r = 20) : cLk D G cI cJ cB cZ l yX10_lookPlace wsX10_lookPlace (6 * r + 9) (240 * r + 360) Z E X V tk d (qPlc tk N r) := fun a fp ha => c_Md_lookPlace hT hE ha (w_Md_factor hT hE hN r d hd).2

end MD
