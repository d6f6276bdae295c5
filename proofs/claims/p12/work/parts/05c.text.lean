/-! TEXTS: constants below the base, texts made above it; a builder of texts -/
def xStrV (g : xg_T) (w : xw_T) (a v n : Nat) (f : Nat → Int32) : Prop :=
  (∃ i : Nat, i < 13 ∧ a = g.2 (100 + i) ∧ v = g.2 (120 + i) ∧ n = xlen.getD i 0 ∧ f = fun j => (xbyt.getD i []).getD j 0) ∨ ∃ hs hz : Int32, w a = some (.inr (0, [.ref v, .int 0, .int hs, .int hz])) ∧ w v = some (.inl (g.2 3, n, .inl f))
/-- a character that both a byte and a char hold -/
def isCh (x : Int32) : Prop := ((x &&& 255).toUInt32 % 65536).toInt32 = x ∧ narrow .char (.int x) = .int x ∧ fits .byte (.int x) = true ∧ x.toInt8.toInt32 = x ∧ x ≤ 255 ∧ vp_nar .byte x = x
theorem isCh_nI : ∀ m, m < 128 → isCh (nI m) := by
  unfold isCh
  decide +kernel
section XT
variable {p : Program} {l : Launch} {e : Env} {R : Room} {s : State} {m : MethodId} {args : Array Value} {below : List Frame} {meth : Method} {c : Code} {Q : State → Prop}
variable {g : xg_T} {cc : ByteArray} {nL : Nat} {own : String} {ret : Option FieldType} {tb : List ExceptionTableEntry} {w : xw_T} {sz k n pc : Nat} {lv : List (Nat × Value)} {rest : List Value}
variable {a v n1 index : Nat} {f : Nat → Int32}
theorem x_strV (p1 : Nat) (C0 : xC p l s m args meth c g cc nL own ret tb) (hd : decode cc pc = .ok (.getfield index, 3)) (hp : pc + 3 = p1) (hS : xStrV g w a v n1 f) (hlink : Cond.fieldLink own index RJ0 "value" "[B" ∈ xT) (k1 : xV p l e R s m args below meth c Q g nL w sz k n p1 lv (.ref v :: rest)) : xV p l e R s m args below meth c Q g nL w sz k n pc lv (.ref a :: rest) := by
  rcases hS with ⟨i, hi, rfl, rfl, -, -⟩ | ⟨hs, hz, h1, -⟩
  · exact x_getO p1 C0 hd hp ((xs_str C0.2.2.2.2.2.2.2.1.2.2).1 i hi).2.2.1 hlink k1
  · exact x_getf 0 p1 C0 hd hp h1 rfl (by decide) inJ0 hlink rfl k1
theorem x_strC (p1 : Nat) (C0 : xC p l s m args meth c g cc nL own ret tb) (hd : decode cc pc = .ok (.getfield index, 3)) (hp : pc + 3 = p1) (hS : xStrV g w a v n1 f) (hlink : Cond.fieldLink own index RJ0 "coder" "B" ∈ xT) (k1 : xV p l e R s m args below meth c Q g nL w sz k n p1 lv (.int 0 :: rest)) : xV p l e R s m args below meth c Q g nL w sz k n pc lv (.ref a :: rest) := by
  rcases hS with ⟨i, hi, rfl, rfl, -, -⟩ | ⟨hs, hz, h1, -⟩
  · exact x_getO p1 C0 hd hp ((xs_str C0.2.2.2.2.2.2.2.1.2.2).1 i hi).2.1 hlink k1
  · exact x_getf 1 p1 C0 hd hp h1 rfl (by decide) inJ0 hlink rfl k1
theorem x_strL (p1 : Nat) (C0 : xC p l s m args meth c g cc nL own ret tb) (hd : decode cc pc = .ok (.arraylength, 1)) (hp : pc + 1 = p1) (hS : xStrV g w a v n1 f) (k1 : xV p l e R s m args below meth c Q g nL w sz k n p1 lv (.int (nI n1) :: rest)) : xV p l e R s m args below meth c Q g nL w sz k n pc lv (.ref v :: rest) := by
  rcases hS with ⟨i, hi, rfl, rfl, rfl, -⟩ | ⟨hs, hz, -, h2⟩
  · exact x_tlen p1 C0 hd hp ((xs_str C0.2.2.2.2.2.2.2.1.2.2).1 i hi).2.2.2 rfl k1
  · exact x_alen 2 p1 C0 hd hp h2 rfl rfl k1
theorem x_strB (p1 : Nat) (C0 : xC p l s m args meth c g cc nL own ret tb) {i : Int32} (hd : decode cc pc = .ok (.baload, 1)) (hp : pc + 1 = p1) (hS : xStrV g w a v n1 f) (hi : vp_in i n1) (k1 : xV p l e R s m args below meth c Q g nL w sz k n p1 lv (.int (f i.toNatClampNeg) :: rest)) : xV p l e R s m args below meth c Q g nL w sz k n pc lv (.int i :: .ref v :: rest) := by
  rcases hS with ⟨i0, hi0, rfl, rfl, rfl, rfl⟩ | ⟨hs, hz, -, h2⟩
  · exact x_tb p1 C0 hd hp ((xs_str C0.2.2.2.2.2.2.2.1.2.2).1 i0 hi0).2.2.2 hi rfl k1
  · exact x_bald 2 p1 C0 hd hp h2 rfl hi k1
theorem xsrcS (C0 : xC p l s m args meth c g cc nL own ret tb) (hS : xStrV g w a v n1 f) : ∀ (H : Heap) (locs : List Loc), xw_H g w H → va_S (xA g) s.heap H locs → ∃ scr : Cell, H[v]? = some scr ∧ s.isArrayOf scr .byte ∧ scr.vm ≠ .unknown ∧ n1 ≤ scr.slots.size ∧ ∀ j : Nat, j < n1 → scr.slots[j]? = some (.int (f j)) := by
  rcases hS with ⟨i0, hi0, rfl, rfl, rfl, rfl⟩ | ⟨hs, hz, -, h2⟩
  · exact xsrcT ((xs_str C0.2.2.2.2.2.2.2.1.2.2).1 i0 hi0).2.2.2
  · exact xsrcW (t0 := 2) C0 h2 rfl
theorem xRecv.str (C0 : xC p l s m args meth c g cc nL own ret tb) (hS : xStrV g w a v n1 f) : xRecv g s w RJ0 a := by
  rcases hS with ⟨i0, hi0, rfl, rfl, -, -⟩ | ⟨hs, hz, h1, -⟩
  · exact xRecv.co ((xs_str C0.2.2.2.2.2.2.2.1.2.2).1 i0 hi0).1
  · exact xRecv.ob C0 h1 rfl rfl
theorem xStrV.const (g : xg_T) (w : xw_T) (i : Nat) (hi : i < 13) : xStrV g w (g.2 (100 + i)) (g.2 (120 + i)) (xlen.getD i 0) (fun j => (xbyt.getD i []).getD j 0) := Or.inl ⟨i, hi, rfl, rfl, rfl, rfl⟩
theorem x_ixor {x y : Int32} (p1 : Nat) (C0 : xC p l s m args meth c g cc nL own ret tb) (hd : decode cc pc = .ok (.ixor, 1)) (hp : pc + 1 = p1) (k1 : xV p l e R s m args below meth c Q g nL w sz k n p1 lv (.int (x ^^^ y) :: rest)) : xV p l e R s m args below meth c Q g nL w sz k n pc lv (.int y :: .int x :: rest) := by
  intro H locs ls h1 h2 h3 h4
  subst hp
  exact lv_ixor C0.1 C0.2.1 hd (k1 H locs ls h1 h2 h3 h4)
end XT
theorem xup_3 {w : xw_T} {a b : Nat} {e e' e2 : va_E} (h : a ≠ b) : xup (xup (xup w a e) b e') a e2 = xup (xup w a e2) b e' := by
  funext q
  unfold xup
  by_cases h1 : q = a
  · subst h1
    simp [h]
  · simp [h1]
theorem xup_c {w : xw_T} {a b : Nat} {e e' : va_E} (h : a ≠ b) : xup (xup w a e) b e' = xup (xup w b e') a e := by
  funext q
  unfold xup
  by_cases h1 : q = a
  · subst h1
    simp [h]
  · simp [h1]
def sbB (v : Nat) (n : Int32) : va_E := .inr (1, [.ref v, .int 0, .int 0, .int n])
def sbA (g : xg_T) (f : Nat → Int32) : va_E := .inl (g.2 3, 16, .inl f)
def SB (g : xg_T) (w : xw_T) (b v : Nat) (f : Nat → Int32) (n : Int32) : xw_T := xup (xup w v (sbA g f)) b (sbB v n)
section SB
variable {g : xg_T} {w : xw_T} {b v q : Nat} {f f2 : Nat → Int32} {n n2 : Int32}
theorem SB_b : SB g w b v f n b = some (.inr (1, [.ref v, .int 0, .int 0, .int n])) := xup_s _ _ _
theorem SB_v (h : v ≠ b) : SB g w b v f n v = some (.inl (g.2 3, 16, .inl f)) := (xup_n h).trans (xup_s _ _ _)
theorem SB_q (h1 : q ≠ b) (h2 : q ≠ v) : SB g w b v f n q = w q := (xup_n h1).trans (xup_n h2)
theorem SB_n : xup (SB g w b v f n) b (.inr (1, [.ref v, .int 0, .int 0, .int n2])) = SB g w b v f n2 := xup_2 _ _ _ _
theorem SB_f (h : v ≠ b) : xup (SB g w b v f n) v (.inl (g.2 3, 16, .inl f2)) = SB g w b v f2 n := xup_3 h
end SB
/-- a constant's characters put into f from place c on -/
def putS (f : Nat → Int32) (c i : Nat) : Nat → Int32 := va_cpy (fun j => (xbyt.getD i []).getD j 0) f 0 c (xlen.getD i 0)
/-- a number below 100 put into f from place c on -/
def putN (f : Nat → Int32) (c q : Nat) : Nat → Int32 := if q < 10 then upd f c (nI (48 + q)) else upd (upd f (c + 1) (nI (48 + q % 10))) c (nI (48 + q / 10))
def dgN (q : Nat) : Nat := if q < 10 then 1 else 2
theorem xb_fit : ∀ i, i < 13 → ∀ j, j < xlen.getD i 0 → fits .byte (.int ((xbyt.getD i []).getD j 0)) = true := by decide +kernel
theorem xlen16 : ∀ i, i < 13 → xlen.getD i 0 ≤ 6 := by decide +kernel
theorem dq_0 : ∀ q, q < 100 → (0 : Int32) ≤ nI q := by decide +kernel
theorem dq_100 : ∀ q, q < 100 → ¬ -(nI q) ≤ (-100 : Int32) := by decide +kernel
theorem dq_100' : ∀ q, q < 100 → (-100 : Int32) < -(nI q) := by decide +kernel
theorem dq_10 : ∀ q, q < 10 → (-10 : Int32) < -(nI q) := by decide +kernel
theorem dq_10b : ∀ q, q < 100 → 10 ≤ q → -(nI q) ≤ (-10 : Int32) := by decide +kernel
theorem dq_9 : ∀ q, q < 10 → (-9 : Int32) ≤ -(nI q) := by decide +kernel
theorem dq_9b : ∀ q, q < 100 → 10 ≤ q → -(nI q) < (-9 : Int32) := by decide +kernel
theorem dq_nn : ∀ q, q < 100 → -(-(nI q)) = nI q := by decide +kernel
theorem dq_o : ∀ q, q < 100 → vp_nar .byte (nI (48 + q % 10)) = nI (48 + q % 10) := by decide +kernel
theorem dq_t : ∀ q, q < 100 → vp_nar .byte (nI (48 + q / 10)) = nI (48 + q / 10) := by decide +kernel
theorem mn16 : ∀ q, q < 17 → (if nI q < (16 : Int32) then nI q else (16 : Int32)) = nI q := by decide +kernel
theorem shl0 (x : Int32) : x <<< ((0 : Int32) &&& 31) = x := by
  rw [show ((0 : Int32) &&& 31) = 0 from by decide]
  simp
theorem shr0 (x : Int32) : x >>> ((0 : Int32) &&& 31) = x := by
  rw [show ((0 : Int32) &&& 31) = 0 from by decide]
  simp
theorem sub0 (x : Int32) : x - 0 = x := by simp

set_option maxHeartbeats 4000000 in
set_option maxRecDepth 100000 in
theorem k_J0_coder_7d493 (l : Launch) (hl : l.stackTraces = false) (g : xg_T) (w : xw_T) (sz a v n : Nat) (f : Nat → Int32) (hS : xStrV g w a v n f) : xM l g yJ0_coder_7d493 cJ0_coder_7d493 1 (some .byte) ({ frames := 0, cells := 0, slots := 0, locals := 0 }) 0 0 [.ref a] w sz (fun r w1 sz1 => r = some (.int 0) ∧ w = w1 ∧ sz = sz1) (fun _ _ _ => False) := by
  refine xM.of RJ0 hl (by decide +kernel) rfl (Nat.le_of_ble_eq_true rfl) rfl ?_
  intro p e s m args below meth cD C0 hini
  refine x_gets 3 C0 dJ0_coder_7d493_0 rfl (xs_cs C0.2.2.2.2.2.2.2.1.2.2) mF_J0_38 ?_
  refine x_if_eq 13 6 C0 dJ0_coder_7d493_3 rfl (by decide) (fun q => False.elim (by revert q; decide)) (fun _ => ?_)
  refine x_aload_n 0 7 C0 dJ0_coder_7d493_6 rfl rfl rfl ?_
  refine x_strC 10 C0 dJ0_coder_7d493_7 rfl hS mF_J0_15 ?_
  refine x_goto 14 C0 dJ0_coder_7d493_10 (by decide) ?_
  exact x_ireturn C0 dJ0_coder_7d493_14 rfl rfl (Nat.le_of_ble_eq_true rfl) (Nat.le_of_ble_eq_true rfl) ⟨rfl, rfl, rfl⟩

set_option maxHeartbeats 4000000 in
set_option maxRecDepth 100000 in
theorem k_J0_isLatin1_aae02 (l : Launch) (hl : l.stackTraces = false) (g : xg_T) (w : xw_T) (sz a v n : Nat) (f : Nat → Int32) (hS : xStrV g w a v n f) : xM l g yJ0_isLatin1_aae02 cJ0_isLatin1_aae02 1 (some .boolean) ({ frames := 0, cells := 0, slots := 0, locals := 0 }) 0 0 [.ref a] w sz (fun r w1 sz1 => r = some (.int 1) ∧ w = w1 ∧ sz = sz1) (fun _ _ _ => False) := by
  refine xM.of RJ0 hl (by decide +kernel) rfl (Nat.le_of_ble_eq_true rfl) rfl ?_
  intro p e s m args below meth cD C0 hini
  refine x_gets 3 C0 dJ0_isLatin1_aae02_0 rfl (xs_cs C0.2.2.2.2.2.2.2.1.2.2) mF_J0_38 ?_
  refine x_if_eq 17 6 C0 dJ0_isLatin1_aae02_3 rfl (by decide) (fun q => False.elim (by revert q; decide)) (fun _ => ?_)
  refine x_aload_n 0 7 C0 dJ0_isLatin1_aae02_6 rfl rfl rfl ?_
  refine x_strC 10 C0 dJ0_isLatin1_aae02_7 rfl hS mF_J0_15 ?_
  refine x_if_ne 17 13 C0 dJ0_isLatin1_aae02_10 rfl (by decide) (fun q => False.elim (by revert q; decide)) (fun _ => ?_)
  refine x_iconst (v := 1) 14 C0 dJ0_isLatin1_aae02_13 rfl (by decide) ?_
  refine x_goto 18 C0 dJ0_isLatin1_aae02_14 (by decide) ?_
  exact x_ireturn C0 dJ0_isLatin1_aae02_18 rfl rfl (Nat.le_of_ble_eq_true rfl) (Nat.le_of_ble_eq_true rfl) ⟨rfl, rfl, rfl⟩

set_option maxHeartbeats 4000000 in
set_option maxRecDepth 100000 in
theorem k_J0_length_8abf5 (l : Launch) (hl : l.stackTraces = false) (g : xg_T) (w : xw_T) (sz a v n : Nat) (f : Nat → Int32) (hS : xStrV g w a v n f) : xM l g yJ0_length_8abf5 cJ0_length_8abf5 1 (some .int) ({ frames := 1, cells := 0, slots := 0, locals := 20 }) 0 0 [.ref a] w sz (fun r w1 sz1 => r = some (.int (nI n)) ∧ w = w1 ∧ sz = sz1) (fun _ _ _ => False) := by
  refine xM.of RJ0 hl (by decide +kernel) rfl (Nat.le_of_ble_eq_true rfl) rfl ?_
  intro p e s m args below meth cD C0 hini
  refine x_aload_n 0 1 C0 dJ0_length_8abf5_0 rfl rfl rfl ?_
  refine x_strV 4 C0 dJ0_length_8abf5_1 rfl hS mF_J0_9 ?_
  refine x_strL 5 C0 dJ0_length_8abf5_4 rfl hS ?_
  refine x_aload_n 0 6 C0 dJ0_length_8abf5_5 rfl rfl rfl ?_
  refine x_callR 9 (C := RJ0) C0 (k_J0_coder_7d493 l hl g _ _ _ _ _ _ hS) dJ0_length_8abf5_6 rfl mC_J0_coder_7d493 mM_J0_335 mI_J0_coder_7d493 mV_J0_coder_7d493 mN_J0 yd_J0_coder_7d493 rfl rfl ⟨Nat.le_of_ble_eq_true rfl, Nat.le_of_ble_eq_true rfl⟩ (xRecv.str C0 hS) rfl rfl (Nat.le_of_ble_eq_true rfl) ⟨Nat.le_of_ble_eq_true rfl, Nat.le_of_ble_eq_true rfl⟩ (fun _ _ _ q => False.elim q) (fun r w1 sz1 hz hP => ?_)
  obtain ⟨rfl, rfl, rfl⟩ := hP
  refine x_st (st1 := [.int 0, .int (nI n)]) rfl ?_
  refine x_ishr 10 C0 dJ0_length_8abf5_9 rfl ?_
  refine x_st (st1 := [.int (nI n)]) (congrArg (fun z => Value.int z :: _) (shr0 _)) ?_
  exact x_ireturn C0 dJ0_length_8abf5_10 rfl rfl (Nat.le_of_ble_eq_true rfl) (Nat.le_of_ble_eq_true rfl) ⟨rfl, rfl, rfl⟩

def bi0 (x : Int32) : Int32 := if x = 0 then 1 else 0
set_option maxHeartbeats 4000000 in
set_option maxRecDepth 100000 in
theorem k_J0_isEmpty_aae02 (l : Launch) (hl : l.stackTraces = false) (g : xg_T) (w : xw_T) (sz a v n : Nat) (f : Nat → Int32) (hS : xStrV g w a v n f) : xM l g yJ0_isEmpty_aae02 cJ0_isEmpty_aae02 1 (some .boolean) ({ frames := 0, cells := 0, slots := 0, locals := 0 }) 0 0 [.ref a] w sz (fun r w1 sz1 => r = some (.int (bi0 (nI n))) ∧ w = w1 ∧ sz = sz1) (fun _ _ _ => False) := by
  refine xM.of RJ0 hl (by decide +kernel) rfl (Nat.le_of_ble_eq_true rfl) rfl ?_
  intro p e s m args below meth cD C0 hini
  refine x_aload_n 0 1 C0 dJ0_isEmpty_aae02_0 rfl rfl rfl ?_
  refine x_strV 4 C0 dJ0_isEmpty_aae02_1 rfl hS mF_J0_9 ?_
  refine x_strL 5 C0 dJ0_isEmpty_aae02_4 rfl hS ?_
  refine x_if_ne 12 8 C0 dJ0_isEmpty_aae02_5 rfl (by decide) (fun c1 => ?_) (fun c1 => ?_)
  · refine x_iconst (v := 0) 13 C0 dJ0_isEmpty_aae02_12 rfl (by decide) ?_
    exact x_ireturn C0 dJ0_isEmpty_aae02_13 rfl rfl (Nat.le_of_ble_eq_true rfl) (Nat.le_of_ble_eq_true rfl) ⟨by rw [show bi0 (nI n) = 0 from if_neg c1], rfl, rfl⟩
  · refine x_iconst (v := 1) 9 C0 dJ0_isEmpty_aae02_8 rfl (by decide) ?_
    refine x_goto 13 C0 dJ0_isEmpty_aae02_9 (by decide) ?_
    exact x_ireturn C0 dJ0_isEmpty_aae02_13 rfl rfl (Nat.le_of_ble_eq_true rfl) (Nat.le_of_ble_eq_true rfl) ⟨by rw [show bi0 (nI n) = 1 from if_pos c1], rfl, rfl⟩

set_option maxHeartbeats 4000000 in
set_option maxRecDepth 100000 in
theorem k_J3_checkIndexN (l : Launch) (hl : l.stackTraces = false) (g : xg_T) (w : xw_T) (sz i n : Nat) (hi : i < n) (hn : n < 65536) : xM l g yJ3_checkIndex_8e157 cJ3_checkIndex_8e157 3 (some .int) ({ frames := 0, cells := 0, slots := 0, locals := 0 }) 0 0 [.int (nI i), .int (nI n), .null] w sz (fun r w1 sz1 => r = some (.int (nI i)) ∧ w = w1 ∧ sz = sz1) (fun _ _ _ => False) := by
  refine xM.of RJ3 hl (by decide +kernel) rfl (Nat.le_of_ble_eq_true rfl) rfl ?_
  intro p e s m args below meth cD C0 hini
  refine x_iload_n 0 1 C0 dJ3_checkIndex_8e157_0 rfl rfl rfl ?_
  refine x_if_lt 9 4 C0 dJ3_checkIndex_8e157_1 rfl (by decide) (fun c1 => ?_) (fun c1 => ?_)
  · exact absurd c1 (Int32.not_lt.mpr (nI_pos' (by omega)))
  refine x_iload_n 0 5 C0 dJ3_checkIndex_8e157_4 rfl rfl rfl ?_
  refine x_iload_n 1 6 C0 dJ3_checkIndex_8e157_5 rfl rfl rfl ?_
  refine x_icmp_lt 16 9 C0 dJ3_checkIndex_8e157_6 rfl (by decide) (fun c2 => ?_) (fun c2 => ?_)
  rotate_left
  · exact absurd (nI_lt hi (by omega)) c2
  refine x_iload_n 0 17 C0 dJ3_checkIndex_8e157_16 rfl rfl rfl ?_
  exact x_ireturn C0 dJ3_checkIndex_8e157_17 rfl rfl (Nat.le_of_ble_eq_true rfl) (Nat.le_of_ble_eq_true rfl) ⟨rfl, rfl, rfl⟩

set_option maxHeartbeats 4000000 in
set_option maxRecDepth 100000 in
theorem k_J3_checkIndexR (l : Launch) (hl : l.stackTraces = false) (g : xg_T) (w : xw_T) (sz i n : Nat) (hi : i < n) (hn : n < 65536) (t : Nat) : xM l g yJ3_checkIndex_8e157 cJ3_checkIndex_8e157 3 (some .int) ({ frames := 0, cells := 0, slots := 0, locals := 0 }) 0 0 [.int (nI i), .int (nI n), .ref t] w sz (fun r w1 sz1 => r = some (.int (nI i)) ∧ w = w1 ∧ sz = sz1) (fun _ _ _ => False) := by
  refine xM.of RJ3 hl (by decide +kernel) rfl (Nat.le_of_ble_eq_true rfl) rfl ?_
  intro p e s m args below meth cD C0 hini
  refine x_iload_n 0 1 C0 dJ3_checkIndex_8e157_0 rfl rfl rfl ?_
  refine x_if_lt 9 4 C0 dJ3_checkIndex_8e157_1 rfl (by decide) (fun c1 => ?_) (fun c1 => ?_)
  · exact absurd c1 (Int32.not_lt.mpr (nI_pos' (by omega)))
  refine x_iload_n 0 5 C0 dJ3_checkIndex_8e157_4 rfl rfl rfl ?_
  refine x_iload_n 1 6 C0 dJ3_checkIndex_8e157_5 rfl rfl rfl ?_
  refine x_icmp_lt 16 9 C0 dJ3_checkIndex_8e157_6 rfl (by decide) (fun c2 => ?_) (fun c2 => ?_)
  rotate_left
  · exact absurd (nI_lt hi (by omega)) c2
  refine x_iload_n 0 17 C0 dJ3_checkIndex_8e157_16 rfl rfl rfl ?_
  exact x_ireturn C0 dJ3_checkIndex_8e157_17 rfl rfl (Nat.le_of_ble_eq_true rfl) (Nat.le_of_ble_eq_true rfl) ⟨rfl, rfl, rfl⟩

set_option maxHeartbeats 4000000 in
set_option maxRecDepth 100000 in
theorem k_J0_checkIndex_df160 (l : Launch) (hl : l.stackTraces = false) (g : xg_T) (w : xw_T) (sz i n : Nat) (hi : i < n) (hn : n < 65536) : xM l g yJ0_checkIndex_df160 cJ0_checkIndex_df160 2 none ({ frames := 1, cells := 0, slots := 0, locals := 22 }) 0 0 [.int (nI i), .int (nI n)] w sz (fun r w1 sz1 => r = none ∧ w = w1 ∧ sz = sz1) (fun _ _ _ => False) := by
  refine xM.of RJ0 hl (by decide +kernel) rfl (Nat.le_of_ble_eq_true rfl) rfl ?_
  intro p e s m args below meth cD C0 hini
  refine x_iload_n 0 1 C0 dJ0_checkIndex_df160_0 rfl rfl rfl ?_
  refine x_iload_n 1 2 C0 dJ0_checkIndex_df160_1 rfl rfl rfl ?_
  rcases xs_sf C0.2.2.2.2.2.2.2.1.2.2 with hz9 | ⟨t9, hz9⟩
  · refine x_gets 5 C0 dJ0_checkIndex_df160_2 rfl hz9 mF_J0_1053 ?_
    refine x_callS 8 C0 (k_J3_checkIndexN l hl g _ _ _ _ hi hn) dJ0_checkIndex_df160_5 rfl mC_J3_checkIndex_8e157 mM_J0_1059 mS_J3_checkIndex_8e157 mN_J3 yd_J3_checkIndex_8e157 rfl rfl ⟨Nat.le_of_ble_eq_true rfl, Nat.le_of_ble_eq_true rfl⟩ rfl rfl (Nat.le_of_ble_eq_true rfl) ⟨Nat.le_of_ble_eq_true rfl, Nat.le_of_ble_eq_true rfl⟩ (fun _ _ _ q => False.elim q) (fun r w1 sz1 hz hP => ?_)
    obtain ⟨rfl, rfl, rfl⟩ := hP
    refine x_st (st1 := [.int (nI i)]) rfl ?_
    refine x_pop 9 C0 dJ0_checkIndex_df160_8 rfl rfl ?_
    exact x_return C0 dJ0_checkIndex_df160_9 rfl (Nat.le_of_ble_eq_true rfl) (Nat.le_of_ble_eq_true rfl) ⟨rfl, rfl, rfl⟩
  · refine x_gets 5 C0 dJ0_checkIndex_df160_2 rfl hz9 mF_J0_1053 ?_
    refine x_callS 8 C0 (k_J3_checkIndexR l hl g _ _ _ _ hi hn t9) dJ0_checkIndex_df160_5 rfl mC_J3_checkIndex_8e157 mM_J0_1059 mS_J3_checkIndex_8e157 mN_J3 yd_J3_checkIndex_8e157 rfl rfl ⟨Nat.le_of_ble_eq_true rfl, Nat.le_of_ble_eq_true rfl⟩ rfl rfl (Nat.le_of_ble_eq_true rfl) ⟨Nat.le_of_ble_eq_true rfl, Nat.le_of_ble_eq_true rfl⟩ (fun _ _ _ q => False.elim q) (fun r w1 sz1 hz hP => ?_)
    obtain ⟨rfl, rfl, rfl⟩ := hP
    refine x_st (st1 := [.int (nI i)]) rfl ?_
    refine x_pop 9 C0 dJ0_checkIndex_df160_8 rfl rfl ?_
    exact x_return C0 dJ0_checkIndex_df160_9 rfl (Nat.le_of_ble_eq_true rfl) (Nat.le_of_ble_eq_true rfl) ⟨rfl, rfl, rfl⟩

set_option maxHeartbeats 4000000 in
set_option maxRecDepth 100000 in
theorem k_J1_charAt_3b067 (l : Launch) (hl : l.stackTraces = false) (g : xg_T) (w : xw_T) (sz a v n : Nat) (f : Nat → Int32) (hS : xStrV g w a v n f) (i : Nat) (hi : i < n) (hn : n < 65536) (hc : isCh (f i)) : xM l g yJ1_charAt_3b067 cJ1_charAt_3b067 2 (some .char) ({ frames := 2, cells := 0, slots := 0, locals := 43 }) 0 0 [.ref v, .int (nI i)] w sz (fun r w1 sz1 => r = some (.int (f i)) ∧ w = w1 ∧ sz = sz1) (fun _ _ _ => False) := by
  refine xM.of RJ1 hl (by decide +kernel) rfl (Nat.le_of_ble_eq_true rfl) rfl ?_
  intro p e s m args below meth cD C0 hini
  refine x_iload_n 1 1 C0 dJ1_charAt_3b067_0 rfl rfl rfl ?_
  refine x_aload_n 0 2 C0 dJ1_charAt_3b067_1 rfl rfl rfl ?_
  refine x_strL 3 C0 dJ1_charAt_3b067_2 rfl hS ?_
  refine x_callS 6 C0 (k_J0_checkIndex_df160 l hl g _ _ _ _ hi hn) dJ1_charAt_3b067_3 rfl mC_J0_checkIndex_df160 mM_J1_9 mS_J0_checkIndex_df160 mN_J0 yd_J0_checkIndex_df160 rfl rfl ⟨Nat.le_of_ble_eq_true rfl, Nat.le_of_ble_eq_true rfl⟩ rfl rfl (Nat.le_of_ble_eq_true rfl) ⟨Nat.le_of_ble_eq_true rfl, Nat.le_of_ble_eq_true rfl⟩ (fun _ _ _ q => False.elim q) (fun r w1 sz1 hz hP => ?_)
  obtain ⟨rfl, rfl, rfl⟩ := hP
  refine x_st (st1 := []) rfl ?_
  refine x_aload_n 0 7 C0 dJ1_charAt_3b067_6 rfl rfl rfl ?_
  refine x_iload_n 1 8 C0 dJ1_charAt_3b067_7 rfl rfl rfl ?_
  refine x_strB 9 C0 dJ1_charAt_3b067_8 rfl hS (vp_in_nI hi (by omega)) ?_
  refine x_st (st1 := [.int (f i)]) (congrArg (fun z => Value.int z :: _) (by rw [nI_clamp (by omega)])) ?_
  refine x_sipush (v := 255) 12 C0 dJ1_charAt_3b067_9 rfl (by decide) ?_
  refine x_iand 13 C0 dJ1_charAt_3b067_12 rfl ?_
  refine x_i2c (v := f i) 14 C0 dJ1_charAt_3b067_13 rfl hc.1 ?_
  exact x_ireturn C0 dJ1_charAt_3b067_14 rfl hc.2.1 (Nat.le_of_ble_eq_true rfl) (Nat.le_of_ble_eq_true rfl) ⟨rfl, rfl, rfl⟩

set_option maxHeartbeats 4000000 in
set_option maxRecDepth 100000 in
theorem k_J0_charAt_5068e (l : Launch) (hl : l.stackTraces = false) (g : xg_T) (w : xw_T) (sz a v n : Nat) (f : Nat → Int32) (hS : xStrV g w a v n f) (i : Nat) (hi : i < n) (hn : n < 65536) (hc : isCh (f i)) : xM l g yJ0_charAt_5068e cJ0_charAt_5068e 2 (some .char) ({ frames := 3, cells := 0, slots := 0, locals := 64 }) 0 0 [.ref a, .int (nI i)] w sz (fun r w1 sz1 => r = some (.int (f i)) ∧ w = w1 ∧ sz = sz1) (fun _ _ _ => False) := by
  refine xM.of RJ0 hl (by decide +kernel) rfl (Nat.le_of_ble_eq_true rfl) rfl ?_
  intro p e s m args below meth cD C0 hini
  refine x_aload_n 0 1 C0 dJ0_charAt_5068e_0 rfl rfl rfl ?_
  refine x_callR 4 (C := RJ0) C0 (k_J0_isLatin1_aae02 l hl g _ _ _ _ _ _ hS) dJ0_charAt_5068e_1 rfl mC_J0_isLatin1_aae02 mM_J0_492 mI_J0_isLatin1_aae02 mV_J0_isLatin1_aae02 mN_J0 yd_J0_isLatin1_aae02 rfl rfl ⟨Nat.le_of_ble_eq_true rfl, Nat.le_of_ble_eq_true rfl⟩ (xRecv.str C0 hS) rfl rfl (Nat.le_of_ble_eq_true rfl) ⟨Nat.le_of_ble_eq_true rfl, Nat.le_of_ble_eq_true rfl⟩ (fun _ _ _ q => False.elim q) (fun r w1 sz1 hz hP => ?_)
  obtain ⟨rfl, rfl, rfl⟩ := hP
  refine x_st (st1 := [.int 1]) rfl ?_
  refine x_if_eq 16 7 C0 dJ0_charAt_5068e_4 rfl (by decide) (fun q => False.elim (by revert q; decide)) (fun _ => ?_)
  refine x_aload_n 0 8 C0 dJ0_charAt_5068e_7 rfl rfl rfl ?_
  refine x_strV 11 C0 dJ0_charAt_5068e_8 rfl hS mF_J0_9 ?_
  refine x_iload_n 1 12 C0 dJ0_charAt_5068e_11 rfl rfl rfl ?_
  refine x_callS 15 C0 (k_J1_charAt_3b067 l hl g _ _ _ _ _ _ hS i hi hn hc) dJ0_charAt_5068e_12 rfl mC_J1_charAt_3b067 mM_J0_495 mS_J1_charAt_3b067 mN_J1 yd_J1_charAt_3b067 rfl rfl ⟨Nat.le_of_ble_eq_true rfl, Nat.le_of_ble_eq_true rfl⟩ rfl rfl (Nat.le_of_ble_eq_true rfl) ⟨Nat.le_of_ble_eq_true rfl, Nat.le_of_ble_eq_true rfl⟩ (fun _ _ _ q => False.elim q) (fun r w1 sz1 hz hP => ?_)
  obtain ⟨rfl, rfl, rfl⟩ := hP
  refine x_st (st1 := [.int (f i)]) rfl ?_
  exact x_ireturn C0 dJ0_charAt_5068e_15 rfl hc.2.1 (Nat.le_of_ble_eq_true rfl) (Nat.le_of_ble_eq_true rfl) ⟨rfl, rfl, rfl⟩

set_option maxHeartbeats 4000000 in
set_option maxRecDepth 100000 in
theorem k_J0_getBytes_840e7 (l : Launch) (hl : l.stackTraces = false) (g : xg_T) (w : xw_T) (sz a v n : Nat) (f : Nat → Int32) (hS : xStrV g w a v n f) (d mm c : Nat) (gg : Nat → Int32) (hwd : w d = some (.inl (g.2 3, mm, .inl gg))) (hAd : xA g d) (hcn : c + n ≤ mm) (hmm : mm < 65536) (hfit : ∀ j, j < n → fits .byte (.int (f j)) = true) : xM l g yJ0_getBytes_840e7 cJ0_getBytes_840e7 4 none ({ frames := 1, cells := 0, slots := 0, locals := 40 }) 0 0 [.ref a, .ref d, .int (nI c), .int 0] w sz (fun r w1 sz1 => r = none ∧ w1 = xup w d (.inl (g.2 3, mm, .inl (va_cpy f gg 0 c n))) ∧ sz = sz1) (fun _ _ _ => False) := by
  refine xM.of RJ0 hl (by decide +kernel) rfl (Nat.le_of_ble_eq_true rfl) rfl ?_
  intro p e s m args below meth cD C0 hini
  refine x_aload_n 0 1 C0 dJ0_getBytes_840e7_0 rfl rfl rfl ?_
  refine x_callR 4 (C := RJ0) C0 (k_J0_coder_7d493 l hl g _ _ _ _ _ _ hS) dJ0_getBytes_840e7_1 rfl mC_J0_coder_7d493 mM_J0_335 mI_J0_coder_7d493 mV_J0_coder_7d493 mN_J0 yd_J0_coder_7d493 rfl rfl ⟨Nat.le_of_ble_eq_true rfl, Nat.le_of_ble_eq_true rfl⟩ (xRecv.str C0 hS) rfl rfl (Nat.le_of_ble_eq_true rfl) ⟨Nat.le_of_ble_eq_true rfl, Nat.le_of_ble_eq_true rfl⟩ (fun _ _ _ q => False.elim q) (fun r w1 sz1 hz hP => ?_)
  obtain ⟨rfl, rfl, rfl⟩ := hP
  refine x_st (st1 := [.int 0]) rfl ?_
  refine x_iload_n 3 5 C0 dJ0_getBytes_840e7_4 rfl rfl rfl ?_
  refine x_icmp_ne 28 8 C0 dJ0_getBytes_840e7_5 rfl (by decide) (fun q => False.elim (by revert q; decide)) (fun _ => ?_)
  refine x_aload_n 0 9 C0 dJ0_getBytes_840e7_8 rfl rfl rfl ?_
  refine x_strV 12 C0 dJ0_getBytes_840e7_9 rfl hS mF_J0_9 ?_
  refine x_iconst (v := 0) 13 C0 dJ0_getBytes_840e7_12 rfl (by decide) ?_
  refine x_aload_n 1 14 C0 dJ0_getBytes_840e7_13 rfl rfl rfl ?_
  refine x_iload_n 2 15 C0 dJ0_getBytes_840e7_14 rfl rfl rfl ?_
  refine x_iload_n 3 16 C0 dJ0_getBytes_840e7_15 rfl rfl rfl ?_
  refine x_ishl 17 C0 dJ0_getBytes_840e7_16 rfl ?_
  refine x_st (st1 := [.int (nI c), .ref d, .int 0, .ref v]) (congrArg (fun z => Value.int z :: _) (shl0 _)) ?_
  refine x_aload_n 0 18 C0 dJ0_getBytes_840e7_17 rfl rfl rfl ?_
  refine x_strV 21 C0 dJ0_getBytes_840e7_18 rfl hS mF_J0_9 ?_
  refine x_strL 22 C0 dJ0_getBytes_840e7_21 rfl hS ?_
  refine x_copyC 2 25 C0 (ty := .byte) dJ0_getBytes_840e7_22 rfl mM_J0_212 mZ_System_arraycopy mS_System_arraycopy mN_J10 rfl (xsrcS C0 hS) hwd hAd rfl (by decide) (nI_pos (by omega)) (nI_pos (by omega)) (by rw [nI_clamp (by omega)]; show 0 + n ≤ n; omega) (by rw [nI_clamp (by omega), nI_clamp (by omega)]; exact hcn) (by rw [nI_clamp (by omega)]; intro j hj; exact (by rw [show (0 : Int32).toNatClampNeg + j = j from Nat.zero_add j]; exact hfit j hj)) (Nat.le_of_ble_eq_true rfl) (by decide +kernel) ?_
  refine x_w (w1 := xup w d (.inl (g.2 3, mm, .inl (va_cpy f gg 0 c n)))) (by rw [nI_clamp (by omega), nI_clamp (by omega)]; rfl) ?_
  refine x_goto 43 C0 dJ0_getBytes_840e7_25 (by decide) ?_
  exact x_return C0 dJ0_getBytes_840e7_43 rfl (Nat.le_of_ble_eq_true rfl) (Nat.le_of_ble_eq_true rfl) ⟨rfl, rfl, rfl⟩

set_option maxHeartbeats 4000000 in
set_option maxRecDepth 100000 in
theorem k_J5_isLatin1_aae02 (l : Launch) (hl : l.stackTraces = false) (g : xg_T) (w : xw_T) (sz b v : Nat) (f : Nat → Int32) (hvb : v ≠ b) (hAb : xA g b) (hAv : xA g v) (c : Nat) : xM l g yJ5_isLatin1_aae02 cJ5_isLatin1_aae02 1 (some .boolean) ({ frames := 0, cells := 0, slots := 0, locals := 0 }) 0 0 [.ref b] (SB g w b v f (nI c)) sz (fun r w1 sz1 => r = some (.int 1) ∧ (SB g w b v f (nI c)) = w1 ∧ sz = sz1) (fun _ _ _ => False) := by
  refine xM.of RJ5 hl (by decide +kernel) rfl (Nat.le_of_ble_eq_true rfl) rfl ?_
  intro p e s m args below meth cD C0 hini
  refine x_gets 3 C0 dJ5_isLatin1_aae02_0 rfl (xs_cs C0.2.2.2.2.2.2.2.1.2.2) mF_J5_18 ?_
  refine x_if_eq 17 6 C0 dJ5_isLatin1_aae02_3 rfl (by decide) (fun q => False.elim (by revert q; decide)) (fun _ => ?_)
  refine x_aload_n 0 7 C0 dJ5_isLatin1_aae02_6 rfl rfl rfl ?_
  refine x_getf (v := .int 0) 1 10 C0 dJ5_isLatin1_aae02_7 rfl SB_b rfl (by decide) inJ4 mF_J5_22 rfl ?_
  refine x_if_ne 17 13 C0 dJ5_isLatin1_aae02_10 rfl (by decide) (fun q => False.elim (by revert q; decide)) (fun _ => ?_)
  refine x_iconst (v := 1) 14 C0 dJ5_isLatin1_aae02_13 rfl (by decide) ?_
  refine x_goto 18 C0 dJ5_isLatin1_aae02_14 (by decide) ?_
  exact x_ireturn C0 dJ5_isLatin1_aae02_18 rfl rfl (Nat.le_of_ble_eq_true rfl) (Nat.le_of_ble_eq_true rfl) ⟨rfl, rfl, rfl⟩

set_option maxHeartbeats 4000000 in
set_option maxRecDepth 100000 in
theorem k_J5_length_8abf5 (l : Launch) (hl : l.stackTraces = false) (g : xg_T) (w : xw_T) (sz b v : Nat) (f : Nat → Int32) (hvb : v ≠ b) (hAb : xA g b) (hAv : xA g v) (c : Nat) : xM l g yJ5_length_8abf5 cJ5_length_8abf5 1 (some .int) ({ frames := 0, cells := 0, slots := 0, locals := 0 }) 0 0 [.ref b] (SB g w b v f (nI c)) sz (fun r w1 sz1 => r = some (.int (nI c)) ∧ (SB g w b v f (nI c)) = w1 ∧ sz = sz1) (fun _ _ _ => False) := by
  refine xM.of RJ5 hl (by decide +kernel) rfl (Nat.le_of_ble_eq_true rfl) rfl ?_
  intro p e s m args below meth cD C0 hini
  refine x_aload_n 0 1 C0 dJ5_length_8abf5_0 rfl rfl rfl ?_
  refine x_getf (v := .int (nI c)) 3 4 C0 dJ5_length_8abf5_1 rfl SB_b rfl (by decide) inJ4 mF_J5_79 rfl ?_
  exact x_ireturn C0 dJ5_length_8abf5_4 rfl rfl (Nat.le_of_ble_eq_true rfl) (Nat.le_of_ble_eq_true rfl) ⟨rfl, rfl, rfl⟩

set_option maxHeartbeats 4000000 in
set_option maxRecDepth 100000 in
theorem k_J4_length_8abf5 (l : Launch) (hl : l.stackTraces = false) (g : xg_T) (w : xw_T) (sz b v : Nat) (f : Nat → Int32) (hvb : v ≠ b) (hAb : xA g b) (hAv : xA g v) (c : Nat) : xM l g yJ4_length_8abf5 cJ4_length_8abf5 1 (some .int) ({ frames := 1, cells := 0, slots := 0, locals := 20 }) 0 0 [.ref b] (SB g w b v f (nI c)) sz (fun r w1 sz1 => r = some (.int (nI c)) ∧ (SB g w b v f (nI c)) = w1 ∧ sz = sz1) (fun _ _ _ => False) := by
  refine xM.of RJ4 hl (by decide +kernel) rfl (Nat.le_of_ble_eq_true rfl) rfl ?_
  intro p e s m args below meth cD C0 hini
  refine x_aload_n 0 1 C0 dJ4_length_8abf5_0 rfl rfl rfl ?_
  refine x_callSU 4 (C := RJ4) C0 ((C0.2.2.2.2.2.2.2.1.1.1 1 _ rfl).2) (k_J5_length_8abf5 l hl g w _ _ _ f hvb hAb hAv _) dJ4_length_8abf5_1 rfl mC_J5_length_8abf5 mM_J4_343 mE_J5_J5_length_10780 mU_J4_J5 mI_J5_length_8abf5 mN_J5 (by decide) yd_J5_length_8abf5 rfl rfl ⟨Nat.le_of_ble_eq_true rfl, Nat.le_of_ble_eq_true rfl⟩ (xRecv.ob C0 SB_b rfl rfl) rfl rfl (Nat.le_of_ble_eq_true rfl) ⟨Nat.le_of_ble_eq_true rfl, Nat.le_of_ble_eq_true rfl⟩ (fun _ _ _ q => False.elim q) (fun r w1 sz1 hz hP => ?_)
  obtain ⟨rfl, rfl, rfl⟩ := hP
  refine x_st (st1 := [.int (nI c)]) rfl ?_
  exact x_ireturn C0 dJ4_length_8abf5_4 rfl rfl (Nat.le_of_ble_eq_true rfl) (Nat.le_of_ble_eq_true rfl) ⟨rfl, rfl, rfl⟩

set_option maxHeartbeats 4000000 in
set_option maxRecDepth 100000 in
theorem k_J5_getValue_6d5f1 (l : Launch) (hl : l.stackTraces = false) (g : xg_T) (w : xw_T) (sz b v : Nat) (f : Nat → Int32) (hvb : v ≠ b) (hAb : xA g b) (hAv : xA g v) (c : Nat) : xM l g yJ5_getValue_6d5f1 cJ5_getValue_6d5f1 1 (some (.array .byte)) ({ frames := 0, cells := 0, slots := 0, locals := 0 }) 0 0 [.ref b] (SB g w b v f (nI c)) sz (fun r w1 sz1 => r = some (.ref v) ∧ (SB g w b v f (nI c)) = w1 ∧ sz = sz1) (fun _ _ _ => False) := by
  refine xM.of RJ5 hl (by decide +kernel) rfl (Nat.le_of_ble_eq_true rfl) rfl ?_
  intro p e s m args below meth cD C0 hini
  refine x_aload_n 0 1 C0 dJ5_getValue_6d5f1_0 rfl rfl rfl ?_
  refine x_getf (v := .ref v) 0 4 C0 dJ5_getValue_6d5f1_1 rfl SB_b rfl (by decide) inJ4 mF_J5_15 rfl ?_
  exact x_areturn C0 dJ5_getValue_6d5f1_4 rfl (Or.inr ⟨_, rfl⟩) (Or.inr ⟨_, rfl⟩) (Nat.le_of_ble_eq_true rfl) (Nat.le_of_ble_eq_true rfl) ⟨rfl, rfl, rfl⟩

theorem le16 : ∀ {M : Nat}, M ≤ 16 → nI M - 16 ≤ (0 : Int32) := by
  intro M h
  have h1 : ∀ M, M < 17 → nI M - 16 ≤ (0 : Int32) := by decide +kernel
  exact h1 M (by omega)
set_option maxHeartbeats 4000000 in
set_option maxRecDepth 100000 in
theorem k_J5_ensureCapacityInternal_d00df (l : Launch) (hl : l.stackTraces = false) (g : xg_T) (w : xw_T) (sz b v : Nat) (f : Nat → Int32) (hvb : v ≠ b) (hAb : xA g b) (hAv : xA g v) (c : Nat) (M : Nat) (hM : M ≤ 16) : xM l g yJ5_ensureCapacityInternal_d00df cJ5_ensureCapacityInternal_d00df 3 none ({ frames := 0, cells := 0, slots := 0, locals := 0 }) 0 0 [.ref b, .int (nI M)] (SB g w b v f (nI c)) sz (fun r w1 sz1 => r = none ∧ (SB g w b v f (nI c)) = w1 ∧ sz = sz1) (fun _ _ _ => False) := by
  refine xM.of RJ5 hl (by decide +kernel) rfl (Nat.le_of_ble_eq_true rfl) rfl ?_
  intro p e s m args below meth cD C0 hini
  refine x_aload_n 0 1 C0 dJ5_ensureCapacityInternal_d00df_0 rfl rfl rfl ?_
  refine x_getf (v := .ref v) 0 4 C0 dJ5_ensureCapacityInternal_d00df_1 rfl SB_b rfl (by decide) inJ4 mF_J5_15 rfl ?_
  refine x_alen 2 5 C0 (v := 16) dJ5_ensureCapacityInternal_d00df_4 rfl (SB_v hvb) rfl rfl ?_
  refine x_aload_n 0 6 C0 dJ5_ensureCapacityInternal_d00df_5 rfl rfl rfl ?_
  refine x_getf (v := .int 0) 1 9 C0 dJ5_ensureCapacityInternal_d00df_6 rfl SB_b rfl (by decide) inJ4 mF_J5_22 rfl ?_
  refine x_ishr 10 C0 dJ5_ensureCapacityInternal_d00df_9 rfl ?_
  refine x_st (st1 := [.int 16]) (congrArg (fun z => Value.int z :: _) (shr0 _)) ?_
  refine x_istore_n [(2, .int 16), (0, .ref b), (1, .int (nI M))] 11 C0 dJ5_ensureCapacityInternal_d00df_10 rfl rfl (by decide) rfl ?_
  refine x_lv (lv1 := [(0, .ref b), (1, .int (nI M)), (2, .int 16)]) [1, 2, 0] rfl ?_
  refine x_iload_n 1 12 C0 dJ5_ensureCapacityInternal_d00df_11 rfl rfl rfl ?_
  refine x_iload_n 2 13 C0 dJ5_ensureCapacityInternal_d00df_12 rfl rfl rfl ?_
  refine x_isub 14 C0 dJ5_ensureCapacityInternal_d00df_13 rfl ?_
  refine x_if_le 38 17 C0 dJ5_ensureCapacityInternal_d00df_14 rfl (by decide) (fun c1 => ?_) (fun c1 => ?_)
  rotate_left
  · exact absurd (le16 hM) c1
  exact x_return C0 dJ5_ensureCapacityInternal_d00df_38 rfl (Nat.le_of_ble_eq_true rfl) (Nat.le_of_ble_eq_true rfl) ⟨rfl, rfl, rfl⟩

set_option maxHeartbeats 4000000 in
set_option maxRecDepth 100000 in
theorem k_J1_canEncode_fc78d (l : Launch) (hl : l.stackTraces = false) (g : xg_T) (w : xw_T) (sz : Nat) (x : Int32) (hx : x ≤ 255) : xM l g yJ1_canEncode_fc78d cJ1_canEncode_fc78d 1 (some .boolean) ({ frames := 0, cells := 0, slots := 0, locals := 0 }) 0 0 [.int x] w sz (fun r w1 sz1 => r = some (.int 1) ∧ w = w1 ∧ sz = sz1) (fun _ _ _ => False) := by
  refine xM.of RJ1 hl (by decide +kernel) rfl (Nat.le_of_ble_eq_true rfl) rfl ?_
  intro p e s m args below meth cD C0 hini
  refine x_iload_n 0 1 C0 dJ1_canEncode_fc78d_0 rfl rfl rfl ?_
  refine x_sipush (v := 255) 4 C0 dJ1_canEncode_fc78d_1 rfl (by decide) ?_
  refine x_icmp_gt 11 7 C0 dJ1_canEncode_fc78d_4 rfl (by decide) (fun c1 => ?_) (fun c1 => ?_)
  · exact absurd hx (Int32.not_le.mpr c1)
  refine x_iconst (v := 1) 8 C0 dJ1_canEncode_fc78d_7 rfl (by decide) ?_
  refine x_goto 12 C0 dJ1_canEncode_fc78d_8 (by decide) ?_
  exact x_ireturn C0 dJ1_canEncode_fc78d_12 rfl rfl (Nat.le_of_ble_eq_true rfl) (Nat.le_of_ble_eq_true rfl) ⟨rfl, rfl, rfl⟩

set_option maxHeartbeats 4000000 in
set_option maxRecDepth 100000 in
theorem k_J5_append_3fe6f (l : Launch) (hl : l.stackTraces = false) (g : xg_T) (w : xw_T) (sz b v : Nat) (f : Nat → Int32) (hvb : v ≠ b) (hAb : xA g b) (hAv : xA g v) (c : Nat) (x : Int32) (hc : c + 1 ≤ 16) (hx : isCh x) : xM l g yJ5_append_3fe6f cJ5_append_3fe6f 2 (some (.object "java/lang/AbstractStringBuilder")) ({ frames := 1, cells := 0, slots := 0, locals := 22 }) 0 0 [.ref b, .int x] (SB g w b v f (nI c)) sz (fun r w1 sz1 => r = some (.ref b) ∧ w1 = SB g w b v (upd f c x) (nI (c + 1)) ∧ sz = sz1) (fun _ _ _ => False) := by
  refine xM.of RJ5 hl (by decide +kernel) rfl (Nat.le_of_ble_eq_true rfl) rfl ?_
  intro p e s m args below meth cD C0 hini
  refine x_aload_n 0 1 C0 dJ5_append_3fe6f_0 rfl rfl rfl ?_
  refine x_aload_n 0 2 C0 dJ5_append_3fe6f_1 rfl rfl rfl ?_
  refine x_getf (v := .int (nI c)) 3 5 C0 dJ5_append_3fe6f_2 rfl SB_b rfl (by decide) inJ4 mF_J5_79 rfl ?_
  refine x_iconst (v := 1) 6 C0 dJ5_append_3fe6f_5 rfl (by decide) ?_
  refine x_iadd 7 C0 dJ5_append_3fe6f_6 rfl ?_
  refine x_st (st1 := [.int (nI (c + 1)), .ref b]) (congrArg (fun z => Value.int z :: _) (nI_1 c)) ?_
  refine x_callU 10 (x := yJ5_ensureCapacityInternal_d00df) (owner := RJ5) (C := RJ4) C0 (k_J5_ensureCapacityInternal_d00df l hl g w _ _ _ f hvb hAb hAv _ (c + 1) (by omega)) dJ5_append_3fe6f_7 rfl mC_J5_ensureCapacityInternal_d00df mM_J5_100 mE_J5_J5_ensureCapacityInternal_94748 mI_J5_ensureCapacityInternal_d00df (xs_up C0.2.2.2.2.2.2.2.1.2.2 yJ5_ensureCapacityInternal_d00df (by decide +kernel)) (xDecl C0 mI_J5_ensureCapacityInternal_d00df mC_J5_ensureCapacityInternal_d00df) mN_J5 yd_J5_ensureCapacityInternal_d00df rfl rfl ⟨Nat.le_of_ble_eq_true rfl, Nat.le_of_ble_eq_true rfl⟩ (xRecv.ob C0 SB_b rfl rfl) rfl rfl (Nat.le_of_ble_eq_true rfl) ⟨Nat.le_of_ble_eq_true rfl, Nat.le_of_ble_eq_true rfl⟩ (fun _ _ _ q => False.elim q) (fun r w1 sz1 hz hP => ?_)
  obtain ⟨rfl, rfl, rfl⟩ := hP
  refine x_st (st1 := []) rfl ?_
  refine x_aload_n 0 11 C0 dJ5_append_3fe6f_10 rfl rfl rfl ?_
  refine x_callU 14 (x := yJ5_isLatin1_aae02) (owner := RJ5) (C := RJ4) C0 (k_J5_isLatin1_aae02 l hl g w _ _ _ f hvb hAb hAv _) dJ5_append_3fe6f_11 rfl mC_J5_isLatin1_aae02 mM_J5_83 mE_J5_J5_isLatin_72257 mI_J5_isLatin1_aae02 (C0.2.2.2.2.1 _ mV_J4_J5_isLatin1_aae02) (xDecl C0 mI_J5_isLatin1_aae02 mC_J5_isLatin1_aae02) mN_J5 yd_J5_isLatin1_aae02 rfl rfl ⟨Nat.le_of_ble_eq_true rfl, Nat.le_of_ble_eq_true rfl⟩ (xRecv.ob C0 SB_b rfl rfl) rfl rfl (Nat.le_of_ble_eq_true rfl) ⟨Nat.le_of_ble_eq_true rfl, Nat.le_of_ble_eq_true rfl⟩ (fun _ _ _ q => False.elim q) (fun r w1 sz1 hz hP => ?_)
  obtain ⟨rfl, rfl, rfl⟩ := hP
  refine x_st (st1 := [.int 1]) rfl ?_
  refine x_if_eq 45 17 C0 dJ5_append_3fe6f_14 rfl (by decide) (fun q => False.elim (by revert q; decide)) (fun _ => ?_)
  refine x_iload_n 1 18 C0 dJ5_append_3fe6f_17 rfl rfl rfl ?_
  refine x_callS 21 C0 (k_J1_canEncode_fc78d l hl g _ _ _ hx.2.2.2.2.1) dJ5_append_3fe6f_18 rfl mC_J1_canEncode_fc78d mM_J5_191 mS_J1_canEncode_fc78d mN_J1 yd_J1_canEncode_fc78d rfl rfl ⟨Nat.le_of_ble_eq_true rfl, Nat.le_of_ble_eq_true rfl⟩ rfl rfl (Nat.le_of_ble_eq_true rfl) ⟨Nat.le_of_ble_eq_true rfl, Nat.le_of_ble_eq_true rfl⟩ (fun _ _ _ q => False.elim q) (fun r w1 sz1 hz hP => ?_)
  obtain ⟨rfl, rfl, rfl⟩ := hP
  refine x_st (st1 := [.int 1]) rfl ?_
  refine x_if_eq 45 24 C0 dJ5_append_3fe6f_21 rfl (by decide) (fun q => False.elim (by revert q; decide)) (fun _ => ?_)
  refine x_aload_n 0 25 C0 dJ5_append_3fe6f_24 rfl rfl rfl ?_
  refine x_getf (v := .ref v) 0 28 C0 dJ5_append_3fe6f_25 rfl SB_b rfl (by decide) inJ4 mF_J5_15 rfl ?_
  refine x_aload_n 0 29 C0 dJ5_append_3fe6f_28 rfl rfl rfl ?_
  refine x_dup 30 C0 dJ5_append_3fe6f_29 rfl rfl ?_
  refine x_getf (v := .int (nI c)) 3 33 C0 dJ5_append_3fe6f_30 rfl SB_b rfl (by decide) inJ4 mF_J5_79 rfl ?_
  refine x_dup_x1 34 C0 dJ5_append_3fe6f_33 rfl rfl rfl ?_
  refine x_iconst (v := 1) 35 C0 dJ5_append_3fe6f_34 rfl (by decide) ?_
  refine x_iadd 36 C0 dJ5_append_3fe6f_35 rfl ?_
  refine x_st (st1 := [.int (nI (c + 1)), .ref b, .int (nI c), .ref v]) (congrArg (fun z => Value.int z :: _) (nI_1 c)) ?_
  refine x_putf 3 39 C0 dJ5_append_3fe6f_36 rfl SB_b hAb rfl (by decide) inJ4 tyJ4_ok nmJ4 mF_J5_79 rfl rfl rfl rfl (Nat.le_of_ble_eq_true rfl) ?_
  refine x_w (w1 := (SB g w b v f (nI (c + 1)))) SB_n ?_
  refine x_iload_n 1 40 C0 dJ5_append_3fe6f_39 rfl rfl rfl ?_
  refine x_i2b (v := x) 41 C0 dJ5_append_3fe6f_40 rfl hx.2.2.2.1 ?_
  refine x_bast 2 42 C0 (v := x) dJ5_append_3fe6f_41 rfl (SB_v hvb) hAv rfl (vp_in_nI (by omega) (by omega)) hx.2.2.2.2.2 ?_
  refine x_w (w1 := (SB g w b v (upd f c x) (nI (c + 1)))) (by rw [nI_clamp (by omega)]; exact SB_f hvb) ?_
  refine x_goto 75 C0 dJ5_append_3fe6f_42 (by decide) ?_
  refine x_aload_n 0 76 C0 dJ5_append_3fe6f_75 rfl rfl rfl ?_
  exact x_areturn C0 dJ5_append_3fe6f_76 rfl (Or.inl ⟨_, rfl⟩) (Or.inr ⟨_, rfl⟩) (Nat.le_of_ble_eq_true rfl) (Nat.le_of_ble_eq_true rfl) ⟨rfl, rfl, rfl⟩

set_option maxHeartbeats 4000000 in
set_option maxRecDepth 100000 in
theorem k_J4_append_cf468 (l : Launch) (hl : l.stackTraces = false) (g : xg_T) (w : xw_T) (sz b v : Nat) (f : Nat → Int32) (hvb : v ≠ b) (hAb : xA g b) (hAv : xA g v) (c : Nat) (x : Int32) (hc : c + 1 ≤ 16) (hx : isCh x) : xM l g yJ4_append_cf468 cJ4_append_cf468 2 (some (.object "java/lang/StringBuilder")) ({ frames := 2, cells := 0, slots := 0, locals := 43 }) 0 0 [.ref b, .int x] (SB g w b v f (nI c)) sz (fun r w1 sz1 => r = some (.ref b) ∧ w1 = SB g w b v (upd f c x) (nI (c + 1)) ∧ sz = sz1) (fun _ _ _ => False) := by
  refine xM.of RJ4 hl (by decide +kernel) rfl (Nat.le_of_ble_eq_true rfl) rfl ?_
  intro p e s m args below meth cD C0 hini
  refine x_aload_n 0 1 C0 dJ4_append_cf468_0 rfl rfl rfl ?_
  refine x_iload_n 1 2 C0 dJ4_append_cf468_1 rfl rfl rfl ?_
  refine x_callSU 5 (C := RJ4) C0 ((C0.2.2.2.2.2.2.2.1.1.1 1 _ rfl).2) (k_J5_append_3fe6f l hl g w _ _ _ f hvb hAb hAv _ x hc hx) dJ4_append_cf468_2 rfl mC_J5_append_3fe6f mM_J4_50 mE_J5_J5_append_47419 mU_J4_J5 mI_J5_append_3fe6f mN_J5 (by decide) yd_J5_append_3fe6f rfl rfl ⟨Nat.le_of_ble_eq_true rfl, Nat.le_of_ble_eq_true rfl⟩ (xRecv.ob C0 SB_b rfl rfl) rfl rfl (Nat.le_of_ble_eq_true rfl) ⟨Nat.le_of_ble_eq_true rfl, Nat.le_of_ble_eq_true rfl⟩ (fun _ _ _ q => False.elim q) (fun r w1 sz1 hz hP => ?_)
  obtain ⟨rfl, rfl, rfl⟩ := hP
  refine x_st (st1 := [.ref b]) rfl ?_
  refine x_pop 6 C0 dJ4_append_cf468_5 rfl rfl ?_
  refine x_aload_n 0 7 C0 dJ4_append_cf468_6 rfl rfl rfl ?_
  exact x_areturn C0 dJ4_append_cf468_7 rfl (Or.inl ⟨_, rfl⟩) (Or.inr ⟨_, rfl⟩) (Nat.le_of_ble_eq_true rfl) (Nat.le_of_ble_eq_true rfl) ⟨rfl, rfl, rfl⟩

set_option maxHeartbeats 4000000 in
set_option maxRecDepth 100000 in
theorem k_J6_stringSize1 (l : Launch) (hl : l.stackTraces = false) (g : xg_T) (w : xw_T) (sz q : Nat) (hq : q < 100) (hq1 : q < 10) : xM l g yJ6_stringSize_0f7a4 cJ6_stringSize_0f7a4 4 (some .int) ({ frames := 0, cells := 0, slots := 0, locals := 0 }) 0 0 [.int (nI q)] w sz (fun r w1 sz1 => r = some (.int 1) ∧ w = w1 ∧ sz = sz1) (fun _ _ _ => False) := by
  refine xM.of RJ6 hl (by decide +kernel) rfl (Nat.le_of_ble_eq_true rfl) rfl ?_
  intro p e s m args below meth cD C0 hini
  refine x_iconst (v := 1) 1 C0 dJ6_stringSize_0f7a4_0 rfl (by decide) ?_
  refine x_istore_n [(1, .int 1), (0, .int (nI q))] 2 C0 dJ6_stringSize_0f7a4_1 rfl rfl (by decide) rfl ?_
  refine x_lv (lv1 := [(0, .int (nI q)), (1, .int 1)]) [1, 0] rfl ?_
  refine x_iload_n 0 3 C0 dJ6_stringSize_0f7a4_2 rfl rfl rfl ?_
  refine x_if_lt 11 6 C0 dJ6_stringSize_0f7a4_3 rfl (by decide) (fun c1 => ?_) (fun c1 => ?_)
  · exact absurd c1 (Int32.not_lt.mpr (dq_0 q hq))
  refine x_iconst (v := 0) 7 C0 dJ6_stringSize_0f7a4_6 rfl (by decide) ?_
  refine x_istore_n [(1, .int 0), (0, .int (nI q))] 8 C0 dJ6_stringSize_0f7a4_7 rfl rfl (by decide) rfl ?_
  refine x_lv (lv1 := [(0, .int (nI q)), (1, .int 0)]) [1, 0] rfl ?_
  refine x_iload_n 0 9 C0 dJ6_stringSize_0f7a4_8 rfl rfl rfl ?_
  refine x_ineg 10 C0 dJ6_stringSize_0f7a4_9 rfl ?_
  refine x_istore_n [(0, .int (-(nI q))), (1, .int 0)] 11 C0 dJ6_stringSize_0f7a4_10 rfl rfl (by decide) rfl ?_
  refine x_bipush (v := (-10)) 13 C0 dJ6_stringSize_0f7a4_11 rfl (by decide) ?_
  refine x_istore_n [(2, .int (-10)), (0, .int (-(nI q))), (1, .int 0)] 14 C0 dJ6_stringSize_0f7a4_13 rfl rfl (by decide) rfl ?_
  refine x_lv (lv1 := [(0, .int (-(nI q))), (1, .int 0), (2, .int (-10))]) [1, 2, 0] rfl ?_
  refine x_iconst (v := 1) 15 C0 dJ6_stringSize_0f7a4_14 rfl (by decide) ?_
  refine x_istore_n [(3, .int 1), (0, .int (-(nI q))), (1, .int 0), (2, .int (-10))] 16 C0 dJ6_stringSize_0f7a4_15 rfl rfl (by decide) rfl ?_
  refine x_lv (lv1 := [(0, .int (-(nI q))), (1, .int 0), (2, .int (-10)), (3, .int 1)]) [1, 2, 3, 0] rfl ?_
  refine x_iload_n 3 17 C0 dJ6_stringSize_0f7a4_16 rfl rfl rfl ?_
  refine x_bipush (v := 10) 19 C0 dJ6_stringSize_0f7a4_17 rfl (by decide) ?_
  refine x_icmp_ge 42 22 C0 dJ6_stringSize_0f7a4_19 rfl (by decide) (fun q => False.elim (by revert q; decide)) (fun _ => ?_)
  refine x_iload_n 0 23 C0 dJ6_stringSize_0f7a4_22 rfl rfl rfl ?_
  refine x_iload_n 2 24 C0 dJ6_stringSize_0f7a4_23 rfl rfl rfl ?_
  refine x_icmp_le 31 27 C0 dJ6_stringSize_0f7a4_24 rfl (by decide) (fun c3 => ?_) (fun c3 => ?_)
  · exact absurd c3 (Int32.not_le.mpr (dq_10 q hq1))
  refine x_iload_n 3 28 C0 dJ6_stringSize_0f7a4_27 rfl rfl rfl ?_
  refine x_iload_n 1 29 C0 dJ6_stringSize_0f7a4_28 rfl rfl rfl ?_
  refine x_iadd 30 C0 dJ6_stringSize_0f7a4_29 rfl ?_
  refine x_st (st1 := [.int 1]) (congrArg (fun z => Value.int z :: _) (by decide)) ?_
  exact x_ireturn C0 dJ6_stringSize_0f7a4_30 rfl rfl (Nat.le_of_ble_eq_true rfl) (Nat.le_of_ble_eq_true rfl) ⟨rfl, rfl, rfl⟩

theorem dec1 (n : Nat) : nI (n + 1) + (-1) = nI n := by
  rw [← nI_pred n, Int32.sub_eq_add_neg]
set_option maxHeartbeats 4000000 in
set_option maxRecDepth 100000 in
theorem k_J6_getChars1 (l : Launch) (hl : l.stackTraces = false) (g : xg_T) (w : xw_T) (sz b v : Nat) (f : Nat → Int32) (hvb : v ≠ b) (hAb : xA g b) (hAv : xA g v) (c : Nat) (N9 : Int32) (q : Nat) (hq : q < 100) (hq1 : q < 10) (hc : c + 1 ≤ 16) : xM l g yJ6_getChars_ba4f3 cJ6_getChars_ba4f3 7 (some .int) ({ frames := 0, cells := 0, slots := 0, locals := 0 }) 0 0 [.int (nI q), .int (nI (c + 1)), .ref v] (SB g w b v f N9) sz (fun r w1 sz1 => r = some (.int (nI c)) ∧ w1 = SB g w b v (upd f c (nI (48 + q % 10))) N9 ∧ sz = sz1) (fun _ _ _ => False) := by
  refine xM.of RJ6 hl (by decide +kernel) rfl (Nat.le_of_ble_eq_true rfl) rfl ?_
  intro p e s m args below meth cD C0 hini
  refine x_iload_n 1 1 C0 dJ6_getChars_ba4f3_0 rfl rfl rfl ?_
  refine x_istore [(5, .int (nI (c + 1))), (0, .int (nI q)), (1, .int (nI (c + 1))), (2, .ref v)] 3 C0 dJ6_getChars_ba4f3_1 rfl (by decide) rfl ?_
  refine x_lv (lv1 := [(0, .int (nI q)), (1, .int (nI (c + 1))), (2, .ref v), (5, .int (nI (c + 1)))]) [1, 2, 3, 0] rfl ?_
  refine x_iload_n 0 4 C0 dJ6_getChars_ba4f3_3 rfl rfl rfl ?_
  refine x_if_ge 11 7 C0 dJ6_getChars_ba4f3_4 rfl (by decide) (fun c1 => ?_) (fun c1 => ?_)
  rotate_left
  · exact absurd (dq_0 q hq) c1
  refine x_iconst (v := 0) 12 C0 dJ6_getChars_ba4f3_11 rfl (by decide) ?_
  refine x_istore [(6, .int 0), (0, .int (nI q)), (1, .int (nI (c + 1))), (2, .ref v), (5, .int (nI (c + 1)))] 14 C0 dJ6_getChars_ba4f3_12 rfl (by decide) rfl ?_
  refine x_lv (lv1 := [(0, .int (nI q)), (1, .int (nI (c + 1))), (2, .ref v), (5, .int (nI (c + 1))), (6, .int 0)]) [1, 2, 3, 4, 0] rfl ?_
  refine x_iload 4 16 C0 dJ6_getChars_ba4f3_14 rfl rfl ?_
  refine x_if_ne 22 19 C0 dJ6_getChars_ba4f3_16 rfl (by decide) (fun q => False.elim (by revert q; decide)) (fun _ => ?_)
  refine x_iload_n 0 20 C0 dJ6_getChars_ba4f3_19 rfl rfl rfl ?_
  refine x_ineg 21 C0 dJ6_getChars_ba4f3_20 rfl ?_
  refine x_istore_n [(0, .int (-(nI q))), (1, .int (nI (c + 1))), (2, .ref v), (5, .int (nI (c + 1))), (6, .int 0)] 22 C0 dJ6_getChars_ba4f3_21 rfl rfl (by decide) rfl ?_
  refine x_iload_n 0 23 C0 dJ6_getChars_ba4f3_22 rfl rfl rfl ?_
  refine x_bipush (v := (-100)) 25 C0 dJ6_getChars_ba4f3_23 rfl (by decide) ?_
  refine x_icmp_gt 72 28 C0 dJ6_getChars_ba4f3_25 rfl (by decide) (fun c3 => ?_) (fun c3 => ?_)
  rotate_left
  · exact absurd (dq_100' q hq) c3
  refine x_aload_n 2 73 C0 dJ6_getChars_ba4f3_72 rfl rfl rfl ?_
  refine x_iinc [(5, .int (nI c)), (0, .int (-(nI q))), (1, .int (nI (c + 1))), (2, .ref v), (6, .int 0)] 3 76 C0 dJ6_getChars_ba4f3_73 rfl rfl (dec1 _) (by decide) rfl ?_
  refine x_lv (lv1 := [(0, .int (-(nI q))), (1, .int (nI (c + 1))), (2, .ref v), (5, .int (nI c)), (6, .int 0)]) [1, 2, 3, 0, 4] rfl ?_
  refine x_iload 3 78 C0 dJ6_getChars_ba4f3_76 rfl rfl ?_
  refine x_gets 81 C0 dJ6_getChars_ba4f3_78 rfl (xs_do C0.2.2.2.2.2.2.2.1.2.2).1 mF_J6_83 ?_
  refine x_iload_n 0 82 C0 dJ6_getChars_ba4f3_81 rfl rfl rfl ?_
  refine x_ineg 83 C0 dJ6_getChars_ba4f3_82 rfl ?_
  refine x_st (st1 := [.int (nI q), .ref (g.2 14), .int (nI c), .ref v]) (congrArg (fun z => Value.int z :: _) (dq_nn q hq)) ?_
  refine x_tb 84 C0 (v := .int (nI (48 + q % 10))) dJ6_getChars_ba4f3_83 rfl (xs_do C0.2.2.2.2.2.2.2.1.2.2).2 (vp_in_nI hq (by omega)) (by rw [nI_clamp (by omega)]) ?_
  refine x_bast 2 85 C0 (v := (nI (48 + q % 10))) dJ6_getChars_ba4f3_84 rfl (SB_v hvb) hAv rfl (vp_in_nI (by omega) (by omega)) (dq_o q hq) ?_
  refine x_w (w1 := (SB g w b v (upd f c (nI (48 + q % 10))) N9)) (by rw [nI_clamp (by omega)]; exact SB_f hvb) ?_
  refine x_iload_n 0 86 C0 dJ6_getChars_ba4f3_85 rfl rfl rfl ?_
  refine x_bipush (v := (-9)) 88 C0 dJ6_getChars_ba4f3_86 rfl (by decide) ?_
  refine x_icmp_ge 104 91 C0 dJ6_getChars_ba4f3_88 rfl (by decide) (fun c4 => ?_) (fun c4 => ?_)
  rotate_left
  · exact absurd (dq_9 q hq1) c4
  refine x_iload 4 106 C0 dJ6_getChars_ba4f3_104 rfl rfl ?_
  refine x_if_eq 118 109 C0 dJ6_getChars_ba4f3_106 rfl (by decide) (fun _ => ?_) (fun q => False.elim (by revert q; decide))
  refine x_iload 3 120 C0 dJ6_getChars_ba4f3_118 rfl rfl ?_
  exact x_ireturn C0 dJ6_getChars_ba4f3_120 rfl rfl (Nat.le_of_ble_eq_true rfl) (Nat.le_of_ble_eq_true rfl) ⟨rfl, rfl, rfl⟩

set_option maxHeartbeats 4000000 in
set_option maxRecDepth 100000 in
theorem k_J5_appendI1 (l : Launch) (hl : l.stackTraces = false) (g : xg_T) (w : xw_T) (sz b v : Nat) (f : Nat → Int32) (hvb : v ≠ b) (hAb : xA g b) (hAv : xA g v) (c : Nat) (q : Nat) (hq : q < 100) (hq1 : q < 10) (hc : c + 1 ≤ 16) : xM l g yJ5_append_c97b9 cJ5_append_c97b9 4 (some (.object "java/lang/AbstractStringBuilder")) ({ frames := 1, cells := 0, slots := 0, locals := 26 }) 0 0 [.ref b, .int (nI q)] (SB g w b v f (nI c)) sz (fun r w1 sz1 => r = some (.ref b) ∧ w1 = SB g w b v (putN f c q) (nI (c + 1)) ∧ sz = sz1) (fun _ _ _ => False) := by
  refine xM.of RJ5 hl (by decide +kernel) rfl (Nat.le_of_ble_eq_true rfl) rfl ?_
  intro p e s m args below meth cD C0 hini
  refine x_aload_n 0 1 C0 dJ5_append_c97b9_0 rfl rfl rfl ?_
  refine x_getf (v := .int (nI c)) 3 4 C0 dJ5_append_c97b9_1 rfl SB_b rfl (by decide) inJ4 mF_J5_79 rfl ?_
  refine x_istore_n [(2, .int (nI c)), (0, .ref b), (1, .int (nI q))] 5 C0 dJ5_append_c97b9_4 rfl rfl (by decide) rfl ?_
  refine x_lv (lv1 := [(0, .ref b), (1, .int (nI q)), (2, .int (nI c))]) [1, 2, 0] rfl ?_
  refine x_iload_n 2 6 C0 dJ5_append_c97b9_5 rfl rfl rfl ?_
  refine x_iload_n 1 7 C0 dJ5_append_c97b9_6 rfl rfl rfl ?_
  refine x_callS 10 C0 (k_J6_stringSize1 l hl g _ _ _ hq hq1) dJ5_append_c97b9_7 rfl mC_J6_stringSize_0f7a4 mM_J5_245 mS_J6_stringSize_0f7a4 mN_J6 yd_J6_stringSize_0f7a4 rfl rfl ⟨Nat.le_of_ble_eq_true rfl, Nat.le_of_ble_eq_true rfl⟩ rfl rfl (Nat.le_of_ble_eq_true rfl) ⟨Nat.le_of_ble_eq_true rfl, Nat.le_of_ble_eq_true rfl⟩ (fun _ _ _ q => False.elim q) (fun r w1 sz1 hz hP => ?_)
  obtain ⟨rfl, rfl, rfl⟩ := hP
  refine x_st (st1 := [.int 1, .int (nI c)]) rfl ?_
  refine x_iadd 11 C0 dJ5_append_c97b9_10 rfl ?_
  refine x_st (st1 := [.int (nI (c + 1))]) (congrArg (fun z => Value.int z :: _) (nI_add c 1)) ?_
  refine x_istore_n [(3, .int (nI (c + 1))), (0, .ref b), (1, .int (nI q)), (2, .int (nI c))] 12 C0 dJ5_append_c97b9_11 rfl rfl (by decide) rfl ?_
  refine x_lv (lv1 := [(0, .ref b), (1, .int (nI q)), (2, .int (nI c)), (3, .int (nI (c + 1)))]) [1, 2, 3, 0] rfl ?_
  refine x_aload_n 0 13 C0 dJ5_append_c97b9_12 rfl rfl rfl ?_
  refine x_iload_n 3 14 C0 dJ5_append_c97b9_13 rfl rfl rfl ?_
  refine x_callU 17 (x := yJ5_ensureCapacityInternal_d00df) (owner := RJ5) (C := RJ4) C0 (k_J5_ensureCapacityInternal_d00df l hl g w _ _ _ f hvb hAb hAv _ (c + 1) hc) dJ5_append_c97b9_14 rfl mC_J5_ensureCapacityInternal_d00df mM_J5_100 mE_J5_J5_ensureCapacityInternal_94748 mI_J5_ensureCapacityInternal_d00df (xs_up C0.2.2.2.2.2.2.2.1.2.2 yJ5_ensureCapacityInternal_d00df (by decide +kernel)) (xDecl C0 mI_J5_ensureCapacityInternal_d00df mC_J5_ensureCapacityInternal_d00df) mN_J5 yd_J5_ensureCapacityInternal_d00df rfl rfl ⟨Nat.le_of_ble_eq_true rfl, Nat.le_of_ble_eq_true rfl⟩ (xRecv.ob C0 SB_b rfl rfl) rfl rfl (Nat.le_of_ble_eq_true rfl) ⟨Nat.le_of_ble_eq_true rfl, Nat.le_of_ble_eq_true rfl⟩ (fun _ _ _ q => False.elim q) (fun r w1 sz1 hz hP => ?_)
  obtain ⟨rfl, rfl, rfl⟩ := hP
  refine x_st (st1 := []) rfl ?_
  refine x_aload_n 0 18 C0 dJ5_append_c97b9_17 rfl rfl rfl ?_
  refine x_callU 21 (x := yJ5_isLatin1_aae02) (owner := RJ5) (C := RJ4) C0 (k_J5_isLatin1_aae02 l hl g w _ _ _ f hvb hAb hAv _) dJ5_append_c97b9_18 rfl mC_J5_isLatin1_aae02 mM_J5_83 mE_J5_J5_isLatin_72257 mI_J5_isLatin1_aae02 (C0.2.2.2.2.1 _ mV_J4_J5_isLatin1_aae02) (xDecl C0 mI_J5_isLatin1_aae02 mC_J5_isLatin1_aae02) mN_J5 yd_J5_isLatin1_aae02 rfl rfl ⟨Nat.le_of_ble_eq_true rfl, Nat.le_of_ble_eq_true rfl⟩ (xRecv.ob C0 SB_b rfl rfl) rfl rfl (Nat.le_of_ble_eq_true rfl) ⟨Nat.le_of_ble_eq_true rfl, Nat.le_of_ble_eq_true rfl⟩ (fun _ _ _ q => False.elim q) (fun r w1 sz1 hz hP => ?_)
  obtain ⟨rfl, rfl, rfl⟩ := hP
  refine x_st (st1 := [.int 1]) rfl ?_
  refine x_if_eq 37 24 C0 dJ5_append_c97b9_21 rfl (by decide) (fun q => False.elim (by revert q; decide)) (fun _ => ?_)
  refine x_iload_n 1 25 C0 dJ5_append_c97b9_24 rfl rfl rfl ?_
  refine x_iload_n 3 26 C0 dJ5_append_c97b9_25 rfl rfl rfl ?_
  refine x_aload_n 0 27 C0 dJ5_append_c97b9_26 rfl rfl rfl ?_
  refine x_getf (v := .ref v) 0 30 C0 dJ5_append_c97b9_27 rfl SB_b rfl (by decide) inJ4 mF_J5_15 rfl ?_
  refine x_callS 33 C0 (k_J6_getChars1 l hl g _ _ _ _ _ hvb hAb hAv c (nI c) _ hq hq1 hc) dJ5_append_c97b9_30 rfl mC_J6_getChars_ba4f3 mM_J5_248 mS_J6_getChars_ba4f3 mN_J6 yd_J6_getChars_ba4f3 rfl rfl ⟨Nat.le_of_ble_eq_true rfl, Nat.le_of_ble_eq_true rfl⟩ rfl rfl (Nat.le_of_ble_eq_true rfl) ⟨Nat.le_of_ble_eq_true rfl, Nat.le_of_ble_eq_true rfl⟩ (fun _ _ _ q => False.elim q) (fun r w1 sz1 hz hP => ?_)
  obtain ⟨rfl, rfl, rfl⟩ := hP
  refine x_st (st1 := [.int (nI c)]) rfl ?_
  refine x_pop 34 C0 dJ5_append_c97b9_33 rfl rfl ?_
  refine x_goto 48 C0 dJ5_append_c97b9_34 (by decide) ?_
  refine x_aload_n 0 49 C0 dJ5_append_c97b9_48 rfl rfl rfl ?_
  refine x_iload_n 3 50 C0 dJ5_append_c97b9_49 rfl rfl rfl ?_
  refine x_putf 3 53 C0 dJ5_append_c97b9_50 rfl SB_b hAb rfl (by decide) inJ4 tyJ4_ok nmJ4 mF_J5_79 rfl rfl rfl rfl (Nat.le_of_ble_eq_true rfl) ?_
  refine x_w (w1 := (SB g w b v (upd f c (nI (48 + q % 10))) (nI (c + 1)))) SB_n ?_
  refine x_aload_n 0 54 C0 dJ5_append_c97b9_53 rfl rfl rfl ?_
  exact x_areturn C0 dJ5_append_c97b9_54 rfl (Or.inl ⟨_, rfl⟩) (Or.inr ⟨_, rfl⟩) (Nat.le_of_ble_eq_true rfl) (Nat.le_of_ble_eq_true rfl) ⟨rfl, by rw [putN, if_pos hq1, Nat.mod_eq_of_lt hq1], rfl⟩

set_option maxHeartbeats 4000000 in
set_option maxRecDepth 100000 in
theorem k_J4_appendI1 (l : Launch) (hl : l.stackTraces = false) (g : xg_T) (w : xw_T) (sz b v : Nat) (f : Nat → Int32) (hvb : v ≠ b) (hAb : xA g b) (hAv : xA g v) (c : Nat) (q : Nat) (hq : q < 100) (hq1 : q < 10) (hc : c + 1 ≤ 16) : xM l g yJ4_append_bf812 cJ4_append_bf812 2 (some (.object "java/lang/StringBuilder")) ({ frames := 2, cells := 0, slots := 0, locals := 49 }) 0 0 [.ref b, .int (nI q)] (SB g w b v f (nI c)) sz (fun r w1 sz1 => r = some (.ref b) ∧ w1 = SB g w b v (putN f c q) (nI (c + 1)) ∧ sz = sz1) (fun _ _ _ => False) := by
  refine xM.of RJ4 hl (by decide +kernel) rfl (Nat.le_of_ble_eq_true rfl) rfl ?_
  intro p e s m args below meth cD C0 hini
  refine x_aload_n 0 1 C0 dJ4_append_bf812_0 rfl rfl rfl ?_
  refine x_iload_n 1 2 C0 dJ4_append_bf812_1 rfl rfl rfl ?_
  refine x_callSU 5 (C := RJ4) C0 ((C0.2.2.2.2.2.2.2.1.1.1 1 _ rfl).2) (k_J5_appendI1 l hl g w _ _ _ f hvb hAb hAv c q hq hq1 hc) dJ4_append_bf812_2 rfl mC_J5_append_c97b9 mM_J4_53 mE_J5_J5_append_13184 mU_J4_J5 mI_J5_append_c97b9 mN_J5 (by decide) yd_J5_append_c97b9 rfl rfl ⟨Nat.le_of_ble_eq_true rfl, Nat.le_of_ble_eq_true rfl⟩ (xRecv.ob C0 SB_b rfl rfl) rfl rfl (Nat.le_of_ble_eq_true rfl) ⟨Nat.le_of_ble_eq_true rfl, Nat.le_of_ble_eq_true rfl⟩ (fun _ _ _ q => False.elim q) (fun r w1 sz1 hz hP => ?_)
  obtain ⟨rfl, rfl, rfl⟩ := hP
  refine x_st (st1 := [.ref b]) rfl ?_
  refine x_pop 6 C0 dJ4_append_bf812_5 rfl rfl ?_
  refine x_aload_n 0 7 C0 dJ4_append_bf812_6 rfl rfl rfl ?_
  exact x_areturn C0 dJ4_append_bf812_7 rfl (Or.inl ⟨_, rfl⟩) (Or.inr ⟨_, rfl⟩) (Nat.le_of_ble_eq_true rfl) (Nat.le_of_ble_eq_true rfl) ⟨rfl, rfl, rfl⟩

set_option maxHeartbeats 4000000 in
set_option maxRecDepth 100000 in
theorem k_J6_stringSize2 (l : Launch) (hl : l.stackTraces = false) (g : xg_T) (w : xw_T) (sz q : Nat) (hq : q < 100) (hq1 : 10 ≤ q) : xM l g yJ6_stringSize_0f7a4 cJ6_stringSize_0f7a4 4 (some .int) ({ frames := 0, cells := 0, slots := 0, locals := 0 }) 0 0 [.int (nI q)] w sz (fun r w1 sz1 => r = some (.int 2) ∧ w = w1 ∧ sz = sz1) (fun _ _ _ => False) := by
  refine xM.of RJ6 hl (by decide +kernel) rfl (Nat.le_of_ble_eq_true rfl) rfl ?_
  intro p e s m args below meth cD C0 hini
  refine x_iconst (v := 1) 1 C0 dJ6_stringSize_0f7a4_0 rfl (by decide) ?_
  refine x_istore_n [(1, .int 1), (0, .int (nI q))] 2 C0 dJ6_stringSize_0f7a4_1 rfl rfl (by decide) rfl ?_
  refine x_lv (lv1 := [(0, .int (nI q)), (1, .int 1)]) [1, 0] rfl ?_
  refine x_iload_n 0 3 C0 dJ6_stringSize_0f7a4_2 rfl rfl rfl ?_
  refine x_if_lt 11 6 C0 dJ6_stringSize_0f7a4_3 rfl (by decide) (fun c1 => ?_) (fun c1 => ?_)
  · exact absurd c1 (Int32.not_lt.mpr (dq_0 q hq))
  refine x_iconst (v := 0) 7 C0 dJ6_stringSize_0f7a4_6 rfl (by decide) ?_
  refine x_istore_n [(1, .int 0), (0, .int (nI q))] 8 C0 dJ6_stringSize_0f7a4_7 rfl rfl (by decide) rfl ?_
  refine x_lv (lv1 := [(0, .int (nI q)), (1, .int 0)]) [1, 0] rfl ?_
  refine x_iload_n 0 9 C0 dJ6_stringSize_0f7a4_8 rfl rfl rfl ?_
  refine x_ineg 10 C0 dJ6_stringSize_0f7a4_9 rfl ?_
  refine x_istore_n [(0, .int (-(nI q))), (1, .int 0)] 11 C0 dJ6_stringSize_0f7a4_10 rfl rfl (by decide) rfl ?_
  refine x_bipush (v := (-10)) 13 C0 dJ6_stringSize_0f7a4_11 rfl (by decide) ?_
  refine x_istore_n [(2, .int (-10)), (0, .int (-(nI q))), (1, .int 0)] 14 C0 dJ6_stringSize_0f7a4_13 rfl rfl (by decide) rfl ?_
  refine x_lv (lv1 := [(0, .int (-(nI q))), (1, .int 0), (2, .int (-10))]) [1, 2, 0] rfl ?_
  refine x_iconst (v := 1) 15 C0 dJ6_stringSize_0f7a4_14 rfl (by decide) ?_
  refine x_istore_n [(3, .int 1), (0, .int (-(nI q))), (1, .int 0), (2, .int (-10))] 16 C0 dJ6_stringSize_0f7a4_15 rfl rfl (by decide) rfl ?_
  refine x_lv (lv1 := [(0, .int (-(nI q))), (1, .int 0), (2, .int (-10)), (3, .int 1)]) [1, 2, 3, 0] rfl ?_
  refine x_iload_n 3 17 C0 dJ6_stringSize_0f7a4_16 rfl rfl rfl ?_
  refine x_bipush (v := 10) 19 C0 dJ6_stringSize_0f7a4_17 rfl (by decide) ?_
  refine x_icmp_ge 42 22 C0 dJ6_stringSize_0f7a4_19 rfl (by decide) (fun q => False.elim (by revert q; decide)) (fun _ => ?_)
  refine x_iload_n 0 23 C0 dJ6_stringSize_0f7a4_22 rfl rfl rfl ?_
  refine x_iload_n 2 24 C0 dJ6_stringSize_0f7a4_23 rfl rfl rfl ?_
  refine x_icmp_le 31 27 C0 dJ6_stringSize_0f7a4_24 rfl (by decide) (fun c3 => ?_) (fun c3 => ?_)
  rotate_left
  · exact absurd (dq_10b q hq hq1) c3
  refine x_bipush (v := 10) 33 C0 dJ6_stringSize_0f7a4_31 rfl (by decide) ?_
  refine x_iload_n 2 34 C0 dJ6_stringSize_0f7a4_33 rfl rfl rfl ?_
  refine x_imul 35 C0 dJ6_stringSize_0f7a4_34 rfl ?_
  refine x_st (st1 := [.int (-100)]) (congrArg (fun z => Value.int z :: _) (by decide)) ?_
  refine x_istore_n [(2, .int (-100)), (0, .int (-(nI q))), (1, .int 0), (3, .int 1)] 36 C0 dJ6_stringSize_0f7a4_35 rfl rfl (by decide) rfl ?_
  refine x_lv (lv1 := [(0, .int (-(nI q))), (1, .int 0), (2, .int (-100)), (3, .int 1)]) [1, 2, 0, 3] rfl ?_
  refine x_iinc [(3, .int 2), (0, .int (-(nI q))), (1, .int 0), (2, .int (-100))] 3 39 C0 dJ6_stringSize_0f7a4_36 rfl rfl (by decide) (by decide) rfl ?_
  refine x_lv (lv1 := [(0, .int (-(nI q))), (1, .int 0), (2, .int (-100)), (3, .int 2)]) [1, 2, 3, 0] rfl ?_
  refine x_goto 16 C0 dJ6_stringSize_0f7a4_39 (by decide) ?_
  refine x_iload_n 3 17 C0 dJ6_stringSize_0f7a4_16 rfl rfl rfl ?_
  refine x_bipush (v := 10) 19 C0 dJ6_stringSize_0f7a4_17 rfl (by decide) ?_
  refine x_icmp_ge 42 22 C0 dJ6_stringSize_0f7a4_19 rfl (by decide) (fun q => False.elim (by revert q; decide)) (fun _ => ?_)
  refine x_iload_n 0 23 C0 dJ6_stringSize_0f7a4_22 rfl rfl rfl ?_
  refine x_iload_n 2 24 C0 dJ6_stringSize_0f7a4_23 rfl rfl rfl ?_
  refine x_icmp_le 31 27 C0 dJ6_stringSize_0f7a4_24 rfl (by decide) (fun c5 => ?_) (fun c5 => ?_)
  · exact absurd c5 (Int32.not_le.mpr (dq_100' q hq))
  refine x_iload_n 3 28 C0 dJ6_stringSize_0f7a4_27 rfl rfl rfl ?_
  refine x_iload_n 1 29 C0 dJ6_stringSize_0f7a4_28 rfl rfl rfl ?_
  refine x_iadd 30 C0 dJ6_stringSize_0f7a4_29 rfl ?_
  refine x_st (st1 := [.int 2]) (congrArg (fun z => Value.int z :: _) (by decide)) ?_
  exact x_ireturn C0 dJ6_stringSize_0f7a4_30 rfl rfl (Nat.le_of_ble_eq_true rfl) (Nat.le_of_ble_eq_true rfl) ⟨rfl, rfl, rfl⟩

set_option maxHeartbeats 4000000 in
set_option maxRecDepth 100000 in
theorem k_J6_getChars2 (l : Launch) (hl : l.stackTraces = false) (g : xg_T) (w : xw_T) (sz b v : Nat) (f : Nat → Int32) (hvb : v ≠ b) (hAb : xA g b) (hAv : xA g v) (c : Nat) (N9 : Int32) (q : Nat) (hq : q < 100) (hq1 : 10 ≤ q) (hc : c + 2 ≤ 16) : xM l g yJ6_getChars_ba4f3 cJ6_getChars_ba4f3 7 (some .int) ({ frames := 0, cells := 0, slots := 0, locals := 0 }) 0 0 [.int (nI q), .int (nI (c + 2)), .ref v] (SB g w b v f N9) sz (fun r w1 sz1 => r = some (.int (nI c)) ∧ w1 = SB g w b v (upd (upd f (c + 1) (nI (48 + q % 10))) c (nI (48 + q / 10))) N9 ∧ sz = sz1) (fun _ _ _ => False) := by
  refine xM.of RJ6 hl (by decide +kernel) rfl (Nat.le_of_ble_eq_true rfl) rfl ?_
  intro p e s m args below meth cD C0 hini
  refine x_iload_n 1 1 C0 dJ6_getChars_ba4f3_0 rfl rfl rfl ?_
  refine x_istore [(5, .int (nI (c + 2))), (0, .int (nI q)), (1, .int (nI (c + 2))), (2, .ref v)] 3 C0 dJ6_getChars_ba4f3_1 rfl (by decide) rfl ?_
  refine x_lv (lv1 := [(0, .int (nI q)), (1, .int (nI (c + 2))), (2, .ref v), (5, .int (nI (c + 2)))]) [1, 2, 3, 0] rfl ?_
  refine x_iload_n 0 4 C0 dJ6_getChars_ba4f3_3 rfl rfl rfl ?_
  refine x_if_ge 11 7 C0 dJ6_getChars_ba4f3_4 rfl (by decide) (fun c1 => ?_) (fun c1 => ?_)
  rotate_left
  · exact absurd (dq_0 q hq) c1
  refine x_iconst (v := 0) 12 C0 dJ6_getChars_ba4f3_11 rfl (by decide) ?_
  refine x_istore [(6, .int 0), (0, .int (nI q)), (1, .int (nI (c + 2))), (2, .ref v), (5, .int (nI (c + 2)))] 14 C0 dJ6_getChars_ba4f3_12 rfl (by decide) rfl ?_
  refine x_lv (lv1 := [(0, .int (nI q)), (1, .int (nI (c + 2))), (2, .ref v), (5, .int (nI (c + 2))), (6, .int 0)]) [1, 2, 3, 4, 0] rfl ?_
  refine x_iload 4 16 C0 dJ6_getChars_ba4f3_14 rfl rfl ?_
  refine x_if_ne 22 19 C0 dJ6_getChars_ba4f3_16 rfl (by decide) (fun q => False.elim (by revert q; decide)) (fun _ => ?_)
  refine x_iload_n 0 20 C0 dJ6_getChars_ba4f3_19 rfl rfl rfl ?_
  refine x_ineg 21 C0 dJ6_getChars_ba4f3_20 rfl ?_
  refine x_istore_n [(0, .int (-(nI q))), (1, .int (nI (c + 2))), (2, .ref v), (5, .int (nI (c + 2))), (6, .int 0)] 22 C0 dJ6_getChars_ba4f3_21 rfl rfl (by decide) rfl ?_
  refine x_iload_n 0 23 C0 dJ6_getChars_ba4f3_22 rfl rfl rfl ?_
  refine x_bipush (v := (-100)) 25 C0 dJ6_getChars_ba4f3_23 rfl (by decide) ?_
  refine x_icmp_gt 72 28 C0 dJ6_getChars_ba4f3_25 rfl (by decide) (fun c3 => ?_) (fun c3 => ?_)
  rotate_left
  · exact absurd (dq_100' q hq) c3
  refine x_aload_n 2 73 C0 dJ6_getChars_ba4f3_72 rfl rfl rfl ?_
  refine x_iinc [(5, .int (nI (c + 1))), (0, .int (-(nI q))), (1, .int (nI (c + 2))), (2, .ref v), (6, .int 0)] 3 76 C0 dJ6_getChars_ba4f3_73 rfl rfl (dec1 _) (by decide) rfl ?_
  refine x_lv (lv1 := [(0, .int (-(nI q))), (1, .int (nI (c + 2))), (2, .ref v), (5, .int (nI (c + 1))), (6, .int 0)]) [1, 2, 3, 0, 4] rfl ?_
  refine x_iload 3 78 C0 dJ6_getChars_ba4f3_76 rfl rfl ?_
  refine x_gets 81 C0 dJ6_getChars_ba4f3_78 rfl (xs_do C0.2.2.2.2.2.2.2.1.2.2).1 mF_J6_83 ?_
  refine x_iload_n 0 82 C0 dJ6_getChars_ba4f3_81 rfl rfl rfl ?_
  refine x_ineg 83 C0 dJ6_getChars_ba4f3_82 rfl ?_
  refine x_st (st1 := [.int (nI q), .ref (g.2 14), .int (nI (c + 1)), .ref v]) (congrArg (fun z => Value.int z :: _) (dq_nn q hq)) ?_
  refine x_tb 84 C0 (v := .int (nI (48 + q % 10))) dJ6_getChars_ba4f3_83 rfl (xs_do C0.2.2.2.2.2.2.2.1.2.2).2 (vp_in_nI hq (by omega)) (by rw [nI_clamp (by omega)]) ?_
  refine x_bast 2 85 C0 (v := (nI (48 + q % 10))) dJ6_getChars_ba4f3_84 rfl (SB_v hvb) hAv rfl (vp_in_nI (by omega) (by omega)) (dq_o q hq) ?_
  refine x_w (w1 := (SB g w b v (upd f (c + 1) (nI (48 + q % 10))) N9)) (by rw [nI_clamp (by omega)]; exact SB_f hvb) ?_
  refine x_iload_n 0 86 C0 dJ6_getChars_ba4f3_85 rfl rfl rfl ?_
  refine x_bipush (v := (-9)) 88 C0 dJ6_getChars_ba4f3_86 rfl (by decide) ?_
  refine x_icmp_ge 104 91 C0 dJ6_getChars_ba4f3_88 rfl (by decide) (fun c4 => ?_) (fun c4 => ?_)
  · exact absurd c4 (Int32.not_le.mpr (dq_9b q hq hq1))
  refine x_aload_n 2 92 C0 dJ6_getChars_ba4f3_91 rfl rfl rfl ?_
  refine x_iinc [(5, .int (nI c)), (0, .int (-(nI q))), (1, .int (nI (c + 2))), (2, .ref v), (6, .int 0)] 3 95 C0 dJ6_getChars_ba4f3_92 rfl rfl (dec1 _) (by decide) rfl ?_
  refine x_lv (lv1 := [(0, .int (-(nI q))), (1, .int (nI (c + 2))), (2, .ref v), (5, .int (nI c)), (6, .int 0)]) [1, 2, 3, 0, 4] rfl ?_
  refine x_iload 3 97 C0 dJ6_getChars_ba4f3_95 rfl rfl ?_
  refine x_gets 100 C0 dJ6_getChars_ba4f3_97 rfl (xs_dt C0.2.2.2.2.2.2.2.1.2.2).1 mF_J6_87 ?_
  refine x_iload_n 0 101 C0 dJ6_getChars_ba4f3_100 rfl rfl rfl ?_
  refine x_ineg 102 C0 dJ6_getChars_ba4f3_101 rfl ?_
  refine x_st (st1 := [.int (nI q), .ref (g.2 13), .int (nI c), .ref v]) (congrArg (fun z => Value.int z :: _) (dq_nn q hq)) ?_
  refine x_tb 103 C0 (v := .int (nI (48 + q / 10))) dJ6_getChars_ba4f3_102 rfl (xs_dt C0.2.2.2.2.2.2.2.1.2.2).2 (vp_in_nI hq (by omega)) (by rw [nI_clamp (by omega)]) ?_
  refine x_bast 2 104 C0 (v := (nI (48 + q / 10))) dJ6_getChars_ba4f3_103 rfl (SB_v hvb) hAv rfl (vp_in_nI (by omega) (by omega)) (dq_t q hq) ?_
  refine x_w (w1 := (SB g w b v (upd (upd f (c + 1) (nI (48 + q % 10))) c (nI (48 + q / 10))) N9)) (by rw [nI_clamp (by omega)]; exact SB_f hvb) ?_
  refine x_iload 4 106 C0 dJ6_getChars_ba4f3_104 rfl rfl ?_
  refine x_if_eq 118 109 C0 dJ6_getChars_ba4f3_106 rfl (by decide) (fun _ => ?_) (fun q => False.elim (by revert q; decide))
  refine x_iload 3 120 C0 dJ6_getChars_ba4f3_118 rfl rfl ?_
  exact x_ireturn C0 dJ6_getChars_ba4f3_120 rfl rfl (Nat.le_of_ble_eq_true rfl) (Nat.le_of_ble_eq_true rfl) ⟨rfl, rfl, rfl⟩

set_option maxHeartbeats 4000000 in
set_option maxRecDepth 100000 in
theorem k_J5_appendI2 (l : Launch) (hl : l.stackTraces = false) (g : xg_T) (w : xw_T) (sz b v : Nat) (f : Nat → Int32) (hvb : v ≠ b) (hAb : xA g b) (hAv : xA g v) (c : Nat) (q : Nat) (hq : q < 100) (hq1 : 10 ≤ q) (hc : c + 2 ≤ 16) : xM l g yJ5_append_c97b9 cJ5_append_c97b9 4 (some (.object "java/lang/AbstractStringBuilder")) ({ frames := 1, cells := 0, slots := 0, locals := 26 }) 0 0 [.ref b, .int (nI q)] (SB g w b v f (nI c)) sz (fun r w1 sz1 => r = some (.ref b) ∧ w1 = SB g w b v (putN f c q) (nI (c + 2)) ∧ sz = sz1) (fun _ _ _ => False) := by
  refine xM.of RJ5 hl (by decide +kernel) rfl (Nat.le_of_ble_eq_true rfl) rfl ?_
  intro p e s m args below meth cD C0 hini
  refine x_aload_n 0 1 C0 dJ5_append_c97b9_0 rfl rfl rfl ?_
  refine x_getf (v := .int (nI c)) 3 4 C0 dJ5_append_c97b9_1 rfl SB_b rfl (by decide) inJ4 mF_J5_79 rfl ?_
  refine x_istore_n [(2, .int (nI c)), (0, .ref b), (1, .int (nI q))] 5 C0 dJ5_append_c97b9_4 rfl rfl (by decide) rfl ?_
  refine x_lv (lv1 := [(0, .ref b), (1, .int (nI q)), (2, .int (nI c))]) [1, 2, 0] rfl ?_
  refine x_iload_n 2 6 C0 dJ5_append_c97b9_5 rfl rfl rfl ?_
  refine x_iload_n 1 7 C0 dJ5_append_c97b9_6 rfl rfl rfl ?_
  refine x_callS 10 C0 (k_J6_stringSize2 l hl g _ _ _ hq hq1) dJ5_append_c97b9_7 rfl mC_J6_stringSize_0f7a4 mM_J5_245 mS_J6_stringSize_0f7a4 mN_J6 yd_J6_stringSize_0f7a4 rfl rfl ⟨Nat.le_of_ble_eq_true rfl, Nat.le_of_ble_eq_true rfl⟩ rfl rfl (Nat.le_of_ble_eq_true rfl) ⟨Nat.le_of_ble_eq_true rfl, Nat.le_of_ble_eq_true rfl⟩ (fun _ _ _ q => False.elim q) (fun r w1 sz1 hz hP => ?_)
  obtain ⟨rfl, rfl, rfl⟩ := hP
  refine x_st (st1 := [.int 2, .int (nI c)]) rfl ?_
  refine x_iadd 11 C0 dJ5_append_c97b9_10 rfl ?_
  refine x_st (st1 := [.int (nI (c + 2))]) (congrArg (fun z => Value.int z :: _) (nI_add c 2)) ?_
  refine x_istore_n [(3, .int (nI (c + 2))), (0, .ref b), (1, .int (nI q)), (2, .int (nI c))] 12 C0 dJ5_append_c97b9_11 rfl rfl (by decide) rfl ?_
  refine x_lv (lv1 := [(0, .ref b), (1, .int (nI q)), (2, .int (nI c)), (3, .int (nI (c + 2)))]) [1, 2, 3, 0] rfl ?_
  refine x_aload_n 0 13 C0 dJ5_append_c97b9_12 rfl rfl rfl ?_
  refine x_iload_n 3 14 C0 dJ5_append_c97b9_13 rfl rfl rfl ?_
  refine x_callU 17 (x := yJ5_ensureCapacityInternal_d00df) (owner := RJ5) (C := RJ4) C0 (k_J5_ensureCapacityInternal_d00df l hl g w _ _ _ f hvb hAb hAv _ (c + 2) hc) dJ5_append_c97b9_14 rfl mC_J5_ensureCapacityInternal_d00df mM_J5_100 mE_J5_J5_ensureCapacityInternal_94748 mI_J5_ensureCapacityInternal_d00df (xs_up C0.2.2.2.2.2.2.2.1.2.2 yJ5_ensureCapacityInternal_d00df (by decide +kernel)) (xDecl C0 mI_J5_ensureCapacityInternal_d00df mC_J5_ensureCapacityInternal_d00df) mN_J5 yd_J5_ensureCapacityInternal_d00df rfl rfl ⟨Nat.le_of_ble_eq_true rfl, Nat.le_of_ble_eq_true rfl⟩ (xRecv.ob C0 SB_b rfl rfl) rfl rfl (Nat.le_of_ble_eq_true rfl) ⟨Nat.le_of_ble_eq_true rfl, Nat.le_of_ble_eq_true rfl⟩ (fun _ _ _ q => False.elim q) (fun r w1 sz1 hz hP => ?_)
  obtain ⟨rfl, rfl, rfl⟩ := hP
  refine x_st (st1 := []) rfl ?_
  refine x_aload_n 0 18 C0 dJ5_append_c97b9_17 rfl rfl rfl ?_
  refine x_callU 21 (x := yJ5_isLatin1_aae02) (owner := RJ5) (C := RJ4) C0 (k_J5_isLatin1_aae02 l hl g w _ _ _ f hvb hAb hAv _) dJ5_append_c97b9_18 rfl mC_J5_isLatin1_aae02 mM_J5_83 mE_J5_J5_isLatin_72257 mI_J5_isLatin1_aae02 (C0.2.2.2.2.1 _ mV_J4_J5_isLatin1_aae02) (xDecl C0 mI_J5_isLatin1_aae02 mC_J5_isLatin1_aae02) mN_J5 yd_J5_isLatin1_aae02 rfl rfl ⟨Nat.le_of_ble_eq_true rfl, Nat.le_of_ble_eq_true rfl⟩ (xRecv.ob C0 SB_b rfl rfl) rfl rfl (Nat.le_of_ble_eq_true rfl) ⟨Nat.le_of_ble_eq_true rfl, Nat.le_of_ble_eq_true rfl⟩ (fun _ _ _ q => False.elim q) (fun r w1 sz1 hz hP => ?_)
  obtain ⟨rfl, rfl, rfl⟩ := hP
  refine x_st (st1 := [.int 1]) rfl ?_
  refine x_if_eq 37 24 C0 dJ5_append_c97b9_21 rfl (by decide) (fun q => False.elim (by revert q; decide)) (fun _ => ?_)
  refine x_iload_n 1 25 C0 dJ5_append_c97b9_24 rfl rfl rfl ?_
  refine x_iload_n 3 26 C0 dJ5_append_c97b9_25 rfl rfl rfl ?_
  refine x_aload_n 0 27 C0 dJ5_append_c97b9_26 rfl rfl rfl ?_
  refine x_getf (v := .ref v) 0 30 C0 dJ5_append_c97b9_27 rfl SB_b rfl (by decide) inJ4 mF_J5_15 rfl ?_
  refine x_callS 33 C0 (k_J6_getChars2 l hl g _ _ _ _ _ hvb hAb hAv c (nI c) _ hq hq1 hc) dJ5_append_c97b9_30 rfl mC_J6_getChars_ba4f3 mM_J5_248 mS_J6_getChars_ba4f3 mN_J6 yd_J6_getChars_ba4f3 rfl rfl ⟨Nat.le_of_ble_eq_true rfl, Nat.le_of_ble_eq_true rfl⟩ rfl rfl (Nat.le_of_ble_eq_true rfl) ⟨Nat.le_of_ble_eq_true rfl, Nat.le_of_ble_eq_true rfl⟩ (fun _ _ _ q => False.elim q) (fun r w1 sz1 hz hP => ?_)
  obtain ⟨rfl, rfl, rfl⟩ := hP
  refine x_st (st1 := [.int (nI c)]) rfl ?_
  refine x_pop 34 C0 dJ5_append_c97b9_33 rfl rfl ?_
  refine x_goto 48 C0 dJ5_append_c97b9_34 (by decide) ?_
  refine x_aload_n 0 49 C0 dJ5_append_c97b9_48 rfl rfl rfl ?_
  refine x_iload_n 3 50 C0 dJ5_append_c97b9_49 rfl rfl rfl ?_
  refine x_putf 3 53 C0 dJ5_append_c97b9_50 rfl SB_b hAb rfl (by decide) inJ4 tyJ4_ok nmJ4 mF_J5_79 rfl rfl rfl rfl (Nat.le_of_ble_eq_true rfl) ?_
  refine x_w (w1 := (SB g w b v (upd (upd f (c + 1) (nI (48 + q % 10))) c (nI (48 + q / 10))) (nI (c + 2)))) SB_n ?_
  refine x_aload_n 0 54 C0 dJ5_append_c97b9_53 rfl rfl rfl ?_
  exact x_areturn C0 dJ5_append_c97b9_54 rfl (Or.inl ⟨_, rfl⟩) (Or.inr ⟨_, rfl⟩) (Nat.le_of_ble_eq_true rfl) (Nat.le_of_ble_eq_true rfl) ⟨rfl, by rw [putN, if_neg (Nat.not_lt.mpr hq1)], rfl⟩

set_option maxHeartbeats 4000000 in
set_option maxRecDepth 100000 in
theorem k_J4_appendI2 (l : Launch) (hl : l.stackTraces = false) (g : xg_T) (w : xw_T) (sz b v : Nat) (f : Nat → Int32) (hvb : v ≠ b) (hAb : xA g b) (hAv : xA g v) (c : Nat) (q : Nat) (hq : q < 100) (hq1 : 10 ≤ q) (hc : c + 2 ≤ 16) : xM l g yJ4_append_bf812 cJ4_append_bf812 2 (some (.object "java/lang/StringBuilder")) ({ frames := 2, cells := 0, slots := 0, locals := 49 }) 0 0 [.ref b, .int (nI q)] (SB g w b v f (nI c)) sz (fun r w1 sz1 => r = some (.ref b) ∧ w1 = SB g w b v (putN f c q) (nI (c + 2)) ∧ sz = sz1) (fun _ _ _ => False) := by
  refine xM.of RJ4 hl (by decide +kernel) rfl (Nat.le_of_ble_eq_true rfl) rfl ?_
  intro p e s m args below meth cD C0 hini
  refine x_aload_n 0 1 C0 dJ4_append_bf812_0 rfl rfl rfl ?_
  refine x_iload_n 1 2 C0 dJ4_append_bf812_1 rfl rfl rfl ?_
  refine x_callSU 5 (C := RJ4) C0 ((C0.2.2.2.2.2.2.2.1.1.1 1 _ rfl).2) (k_J5_appendI2 l hl g w _ _ _ f hvb hAb hAv c q hq hq1 hc) dJ4_append_bf812_2 rfl mC_J5_append_c97b9 mM_J4_53 mE_J5_J5_append_13184 mU_J4_J5 mI_J5_append_c97b9 mN_J5 (by decide) yd_J5_append_c97b9 rfl rfl ⟨Nat.le_of_ble_eq_true rfl, Nat.le_of_ble_eq_true rfl⟩ (xRecv.ob C0 SB_b rfl rfl) rfl rfl (Nat.le_of_ble_eq_true rfl) ⟨Nat.le_of_ble_eq_true rfl, Nat.le_of_ble_eq_true rfl⟩ (fun _ _ _ q => False.elim q) (fun r w1 sz1 hz hP => ?_)
  obtain ⟨rfl, rfl, rfl⟩ := hP
  refine x_st (st1 := [.ref b]) rfl ?_
  refine x_pop 6 C0 dJ4_append_bf812_5 rfl rfl ?_
  refine x_aload_n 0 7 C0 dJ4_append_bf812_6 rfl rfl rfl ?_
  exact x_areturn C0 dJ4_append_bf812_7 rfl (Or.inl ⟨_, rfl⟩) (Or.inr ⟨_, rfl⟩) (Nat.le_of_ble_eq_true rfl) (Nat.le_of_ble_eq_true rfl) ⟨rfl, rfl, rfl⟩

theorem k_J4_append_bf812 (l : Launch) (hl : l.stackTraces = false) (g : xg_T) (w : xw_T) (sz b v : Nat) (f : Nat → Int32) (hvb : v ≠ b) (hAb : xA g b) (hAv : xA g v) (c : Nat) (q : Nat) (hq : q < 100) (hc : c + dgN q ≤ 16) : xM l g yJ4_append_bf812 cJ4_append_bf812 2 (some (.object "java/lang/StringBuilder")) ({ frames := 2, cells := 0, slots := 0, locals := 49 }) 0 0 [.ref b, .int (nI q)] (SB g w b v f (nI c)) sz (fun r w1 sz1 => r = some (.ref b) ∧ w1 = SB g w b v (putN f c q) (nI (c + dgN q)) ∧ sz = sz1) (fun _ _ _ => False) := by
  by_cases h : q < 10
  · have e9 : dgN q = 1 := if_pos h
    rw [e9] at hc ⊢
    exact k_J4_appendI1 l hl g w sz b v f hvb hAb hAv c q hq h hc
  · have e9 : dgN q = 2 := if_neg h
    rw [e9] at hc ⊢
    exact k_J4_appendI2 l hl g w sz b v f hvb hAb hAv c q hq (Nat.not_lt.mp h) hc
set_option maxHeartbeats 4000000 in
set_option maxRecDepth 100000 in
theorem k_J5_inflateIfNeededFor_a7421 (l : Launch) (hl : l.stackTraces = false) (g : xg_T) (w : xw_T) (sz b v : Nat) (f : Nat → Int32) (hvb : v ≠ b) (hAb : xA g b) (hAv : xA g v) (c : Nat) (i : Nat) (hi : i < 13) (hc : c + xlen.getD i 0 ≤ 16) : xM l g yJ5_inflateIfNeededFor_a7421 cJ5_inflateIfNeededFor_a7421 2 none ({ frames := 1, cells := 0, slots := 0, locals := 20 }) 0 0 [.ref b, .ref (g.2 (100 + i))] (SB g w b v f (nI c)) sz (fun r w1 sz1 => r = none ∧ (SB g w b v f (nI c)) = w1 ∧ sz = sz1) (fun _ _ _ => False) := by
  refine xM.of RJ5 hl (by decide +kernel) rfl (Nat.le_of_ble_eq_true rfl) rfl ?_
  intro p e s m args below meth cD C0 hini
  refine x_gets 3 C0 dJ5_inflateIfNeededFor_a7421_0 rfl (xs_cs C0.2.2.2.2.2.2.2.1.2.2) mF_J5_18 ?_
  refine x_if_eq 21 6 C0 dJ5_inflateIfNeededFor_a7421_3 rfl (by decide) (fun q => False.elim (by revert q; decide)) (fun _ => ?_)
  refine x_aload_n 0 7 C0 dJ5_inflateIfNeededFor_a7421_6 rfl rfl rfl ?_
  refine x_getf (v := .int 0) 1 10 C0 dJ5_inflateIfNeededFor_a7421_7 rfl SB_b rfl (by decide) inJ4 mF_J5_22 rfl ?_
  refine x_aload_n 1 11 C0 dJ5_inflateIfNeededFor_a7421_10 rfl rfl rfl ?_
  refine x_callR 14 (C := RJ0) C0 (k_J0_coder_7d493 l hl g _ _ _ _ _ _ (xStrV.const g _ i hi)) dJ5_inflateIfNeededFor_a7421_11 rfl mC_J0_coder_7d493 mM_J5_40 mI_J0_coder_7d493 mV_J0_coder_7d493 mN_J0 yd_J0_coder_7d493 rfl rfl ⟨Nat.le_of_ble_eq_true rfl, Nat.le_of_ble_eq_true rfl⟩ (xRecv.str C0 (xStrV.const g _ i hi)) rfl rfl (Nat.le_of_ble_eq_true rfl) ⟨Nat.le_of_ble_eq_true rfl, Nat.le_of_ble_eq_true rfl⟩ (fun _ _ _ q => False.elim q) (fun r w1 sz1 hz hP => ?_)
  obtain ⟨rfl, rfl, rfl⟩ := hP
  refine x_st (st1 := [.int 0, .int 0]) rfl ?_
  refine x_icmp_eq 21 17 C0 dJ5_inflateIfNeededFor_a7421_14 rfl (by decide) (fun _ => ?_) (fun q => False.elim (by revert q; decide))
  exact x_return C0 dJ5_inflateIfNeededFor_a7421_21 rfl (Nat.le_of_ble_eq_true rfl) (Nat.le_of_ble_eq_true rfl) ⟨rfl, rfl, rfl⟩

set_option maxHeartbeats 4000000 in
set_option maxRecDepth 100000 in
theorem k_J5_putStringAt_47b60 (l : Launch) (hl : l.stackTraces = false) (g : xg_T) (w : xw_T) (sz b v : Nat) (f : Nat → Int32) (hvb : v ≠ b) (hAb : xA g b) (hAv : xA g v) (c : Nat) (i : Nat) (hi : i < 13) (hc : c + xlen.getD i 0 ≤ 16) : xM l g yJ5_putStringAt_47b60 cJ5_putStringAt_47b60 3 none ({ frames := 2, cells := 0, slots := 0, locals := 63 }) 0 0 [.ref b, .int (nI c), .ref (g.2 (100 + i))] (SB g w b v f (nI c)) sz (fun r w1 sz1 => r = none ∧ w1 = SB g w b v (putS f c i) (nI c) ∧ sz = sz1) (fun _ _ _ => False) := by
  refine xM.of RJ5 hl (by decide +kernel) rfl (Nat.le_of_ble_eq_true rfl) rfl ?_
  intro p e s m args below meth cD C0 hini
  refine x_aload_n 0 1 C0 dJ5_putStringAt_47b60_0 rfl rfl rfl ?_
  refine x_aload_n 2 2 C0 dJ5_putStringAt_47b60_1 rfl rfl rfl ?_
  refine x_callU 5 (x := yJ5_inflateIfNeededFor_a7421) (owner := RJ5) (C := RJ4) C0 (k_J5_inflateIfNeededFor_a7421 l hl g w _ _ _ f hvb hAb hAv _ i hi hc) dJ5_putStringAt_47b60_2 rfl mC_J5_inflateIfNeededFor_a7421 mM_J5_397 mE_J5_J5_inflateIfNeededFor_7532 mI_J5_inflateIfNeededFor_a7421 (xs_up C0.2.2.2.2.2.2.2.1.2.2 yJ5_inflateIfNeededFor_a7421 (by decide +kernel)) (xDecl C0 mI_J5_inflateIfNeededFor_a7421 mC_J5_inflateIfNeededFor_a7421) mN_J5 yd_J5_inflateIfNeededFor_a7421 rfl rfl ⟨Nat.le_of_ble_eq_true rfl, Nat.le_of_ble_eq_true rfl⟩ (xRecv.ob C0 SB_b rfl rfl) rfl rfl (Nat.le_of_ble_eq_true rfl) ⟨Nat.le_of_ble_eq_true rfl, Nat.le_of_ble_eq_true rfl⟩ (fun _ _ _ q => False.elim q) (fun r w1 sz1 hz hP => ?_)
  obtain ⟨rfl, rfl, rfl⟩ := hP
  refine x_st (st1 := []) rfl ?_
  refine x_aload_n 2 6 C0 dJ5_putStringAt_47b60_5 rfl rfl rfl ?_
  refine x_aload_n 0 7 C0 dJ5_putStringAt_47b60_6 rfl rfl rfl ?_
  refine x_getf (v := .ref v) 0 10 C0 dJ5_putStringAt_47b60_7 rfl SB_b rfl (by decide) inJ4 mF_J5_15 rfl ?_
  refine x_iload_n 1 11 C0 dJ5_putStringAt_47b60_10 rfl rfl rfl ?_
  refine x_aload_n 0 12 C0 dJ5_putStringAt_47b60_11 rfl rfl rfl ?_
  refine x_getf (v := .int 0) 1 15 C0 dJ5_putStringAt_47b60_12 rfl SB_b rfl (by decide) inJ4 mF_J5_22 rfl ?_
  refine x_callR 18 (C := RJ0) C0 (k_J0_getBytes_840e7 l hl g _ _ _ _ _ _ (xStrV.const g _ i hi) v 16 c f (SB_v hvb) hAv hc (by omega) (xb_fit i hi)) dJ5_putStringAt_47b60_15 rfl mC_J0_getBytes_840e7 mM_J5_399 mI_J0_getBytes_840e7 mV_J0_getBytes_840e7 mN_J0 yd_J0_getBytes_840e7 rfl rfl ⟨Nat.le_of_ble_eq_true rfl, Nat.le_of_ble_eq_true rfl⟩ (xRecv.str C0 (xStrV.const g _ i hi)) rfl rfl (Nat.le_of_ble_eq_true rfl) ⟨Nat.le_of_ble_eq_true rfl, Nat.le_of_ble_eq_true rfl⟩ (fun _ _ _ q => False.elim q) (fun r w1 sz1 hz hP => ?_)
  obtain ⟨rfl, rfl, rfl⟩ := hP
  refine x_w (w1 := (SB g w b v (putS f c i) (nI c))) (SB_f hvb) ?_
  refine x_st (st1 := []) rfl ?_
  exact x_return C0 dJ5_putStringAt_47b60_18 rfl (Nat.le_of_ble_eq_true rfl) (Nat.le_of_ble_eq_true rfl) ⟨rfl, rfl, rfl⟩

set_option maxHeartbeats 4000000 in
set_option maxRecDepth 100000 in
theorem k_J5_append_cf1ce (l : Launch) (hl : l.stackTraces = false) (g : xg_T) (w : xw_T) (sz b v : Nat) (f : Nat → Int32) (hvb : v ≠ b) (hAb : xA g b) (hAv : xA g v) (c : Nat) (i : Nat) (hi : i < 13) (hc : c + xlen.getD i 0 ≤ 16) : xM l g yJ5_append_cf1ce cJ5_append_cf1ce 3 (some (.object "java/lang/AbstractStringBuilder")) ({ frames := 3, cells := 0, slots := 0, locals := 85 }) 0 0 [.ref b, .ref (g.2 (100 + i))] (SB g w b v f (nI c)) sz (fun r w1 sz1 => r = some (.ref b) ∧ w1 = SB g w b v (putS f c i) (nI (c + xlen.getD i 0)) ∧ sz = sz1) (fun _ _ _ => False) := by
  refine xM.of RJ5 hl (by decide +kernel) rfl (Nat.le_of_ble_eq_true rfl) rfl ?_
  intro p e s m args below meth cD C0 hini
  refine x_aload_n 1 1 C0 dJ5_append_cf1ce_0 rfl rfl rfl ?_
  refine x_ifnonnull 9 C0 dJ5_append_cf1ce_1 (by decide) ?_
  refine x_aload_n 1 10 C0 dJ5_append_cf1ce_9 rfl rfl rfl ?_
  refine x_callR 13 (C := RJ0) C0 (k_J0_length_8abf5 l hl g _ _ _ _ _ _ (xStrV.const g _ i hi)) dJ5_append_cf1ce_10 rfl mC_J0_length_8abf5 mM_J5_32 mI_J0_length_8abf5 mV_J0_length_8abf5 mN_J0 yd_J0_length_8abf5 rfl rfl ⟨Nat.le_of_ble_eq_true rfl, Nat.le_of_ble_eq_true rfl⟩ (xRecv.str C0 (xStrV.const g _ i hi)) rfl rfl (Nat.le_of_ble_eq_true rfl) ⟨Nat.le_of_ble_eq_true rfl, Nat.le_of_ble_eq_true rfl⟩ (fun _ _ _ q => False.elim q) (fun r w1 sz1 hz hP => ?_)
  obtain ⟨rfl, rfl, rfl⟩ := hP
  refine x_st (st1 := [.int (nI (xlen.getD i 0))]) rfl ?_
  refine x_istore_n [(2, .int (nI (xlen.getD i 0))), (0, .ref b), (1, .ref (g.2 (100 + i)))] 14 C0 dJ5_append_cf1ce_13 rfl rfl (by decide) rfl ?_
  refine x_lv (lv1 := [(0, .ref b), (1, .ref (g.2 (100 + i))), (2, .int (nI (xlen.getD i 0)))]) [1, 2, 0] rfl ?_
  refine x_aload_n 0 15 C0 dJ5_append_cf1ce_14 rfl rfl rfl ?_
  refine x_aload_n 0 16 C0 dJ5_append_cf1ce_15 rfl rfl rfl ?_
  refine x_getf (v := .int (nI c)) 3 19 C0 dJ5_append_cf1ce_16 rfl SB_b rfl (by decide) inJ4 mF_J5_79 rfl ?_
  refine x_iload_n 2 20 C0 dJ5_append_cf1ce_19 rfl rfl rfl ?_
  refine x_iadd 21 C0 dJ5_append_cf1ce_20 rfl ?_
  refine x_st (st1 := [.int (nI (c + xlen.getD i 0)), .ref b]) (congrArg (fun z => Value.int z :: _) (nI_add c _)) ?_
  refine x_callU 24 (x := yJ5_ensureCapacityInternal_d00df) (owner := RJ5) (C := RJ4) C0 (k_J5_ensureCapacityInternal_d00df l hl g w _ _ _ f hvb hAb hAv _ (c + xlen.getD i 0) hc) dJ5_append_cf1ce_21 rfl mC_J5_ensureCapacityInternal_d00df mM_J5_100 mE_J5_J5_ensureCapacityInternal_94748 mI_J5_ensureCapacityInternal_d00df (xs_up C0.2.2.2.2.2.2.2.1.2.2 yJ5_ensureCapacityInternal_d00df (by decide +kernel)) (xDecl C0 mI_J5_ensureCapacityInternal_d00df mC_J5_ensureCapacityInternal_d00df) mN_J5 yd_J5_ensureCapacityInternal_d00df rfl rfl ⟨Nat.le_of_ble_eq_true rfl, Nat.le_of_ble_eq_true rfl⟩ (xRecv.ob C0 SB_b rfl rfl) rfl rfl (Nat.le_of_ble_eq_true rfl) ⟨Nat.le_of_ble_eq_true rfl, Nat.le_of_ble_eq_true rfl⟩ (fun _ _ _ q => False.elim q) (fun r w1 sz1 hz hP => ?_)
  obtain ⟨rfl, rfl, rfl⟩ := hP
  refine x_st (st1 := []) rfl ?_
  refine x_aload_n 0 25 C0 dJ5_append_cf1ce_24 rfl rfl rfl ?_
  refine x_aload_n 0 26 C0 dJ5_append_cf1ce_25 rfl rfl rfl ?_
  refine x_getf (v := .int (nI c)) 3 29 C0 dJ5_append_cf1ce_26 rfl SB_b rfl (by decide) inJ4 mF_J5_79 rfl ?_
  refine x_aload_n 1 30 C0 dJ5_append_cf1ce_29 rfl rfl rfl ?_
  refine x_callU 33 (x := yJ5_putStringAt_47b60) (owner := RJ5) (C := RJ4) C0 (k_J5_putStringAt_47b60 l hl g w _ _ _ f hvb hAb hAv _ i hi hc) dJ5_append_cf1ce_30 rfl mC_J5_putStringAt_47b60 mM_J5_208 mE_J5_J5_putStringAt_28930 mI_J5_putStringAt_47b60 (xs_up C0.2.2.2.2.2.2.2.1.2.2 yJ5_putStringAt_47b60 (by decide +kernel)) (xDecl C0 mI_J5_putStringAt_47b60 mC_J5_putStringAt_47b60) mN_J5 yd_J5_putStringAt_47b60 rfl rfl ⟨Nat.le_of_ble_eq_true rfl, Nat.le_of_ble_eq_true rfl⟩ (xRecv.ob C0 SB_b rfl rfl) rfl rfl (Nat.le_of_ble_eq_true rfl) ⟨Nat.le_of_ble_eq_true rfl, Nat.le_of_ble_eq_true rfl⟩ (fun _ _ _ q => False.elim q) (fun r w1 sz1 hz hP => ?_)
  obtain ⟨rfl, rfl, rfl⟩ := hP
  refine x_st (st1 := []) rfl ?_
  refine x_aload_n 0 34 C0 dJ5_append_cf1ce_33 rfl rfl rfl ?_
  refine x_dup 35 C0 dJ5_append_cf1ce_34 rfl rfl ?_
  refine x_getf (v := .int (nI c)) 3 38 C0 dJ5_append_cf1ce_35 rfl SB_b rfl (by decide) inJ4 mF_J5_79 rfl ?_
  refine x_iload_n 2 39 C0 dJ5_append_cf1ce_38 rfl rfl rfl ?_
  refine x_iadd 40 C0 dJ5_append_cf1ce_39 rfl ?_
  refine x_st (st1 := [.int (nI (c + xlen.getD i 0)), .ref b]) (congrArg (fun z => Value.int z :: _) (nI_add c _)) ?_
  refine x_putf 3 43 C0 dJ5_append_cf1ce_40 rfl SB_b hAb rfl (by decide) inJ4 tyJ4_ok nmJ4 mF_J5_79 rfl rfl rfl rfl (Nat.le_of_ble_eq_true rfl) ?_
  refine x_w (w1 := (SB g w b v (putS f c i) (nI (c + xlen.getD i 0)))) SB_n ?_
  refine x_aload_n 0 44 C0 dJ5_append_cf1ce_43 rfl rfl rfl ?_
  exact x_areturn C0 dJ5_append_cf1ce_44 rfl (Or.inl ⟨_, rfl⟩) (Or.inr ⟨_, rfl⟩) (Nat.le_of_ble_eq_true rfl) (Nat.le_of_ble_eq_true rfl) ⟨rfl, rfl, rfl⟩

set_option maxHeartbeats 4000000 in
set_option maxRecDepth 100000 in
theorem k_J4_append_15ec4 (l : Launch) (hl : l.stackTraces = false) (g : xg_T) (w : xw_T) (sz b v : Nat) (f : Nat → Int32) (hvb : v ≠ b) (hAb : xA g b) (hAv : xA g v) (c : Nat) (i : Nat) (hi : i < 13) (hc : c + xlen.getD i 0 ≤ 16) : xM l g yJ4_append_15ec4 cJ4_append_15ec4 2 (some (.object "java/lang/StringBuilder")) ({ frames := 4, cells := 0, slots := 0, locals := 107 }) 0 0 [.ref b, .ref (g.2 (100 + i))] (SB g w b v f (nI c)) sz (fun r w1 sz1 => r = some (.ref b) ∧ w1 = SB g w b v (putS f c i) (nI (c + xlen.getD i 0)) ∧ sz = sz1) (fun _ _ _ => False) := by
  refine xM.of RJ4 hl (by decide +kernel) rfl (Nat.le_of_ble_eq_true rfl) rfl ?_
  intro p e s m args below meth cD C0 hini
  refine x_aload_n 0 1 C0 dJ4_append_15ec4_0 rfl rfl rfl ?_
  refine x_aload_n 1 2 C0 dJ4_append_15ec4_1 rfl rfl rfl ?_
  refine x_callSU 5 (C := RJ4) C0 ((C0.2.2.2.2.2.2.2.1.1.1 1 _ rfl).2) (k_J5_append_cf1ce l hl g w _ _ _ f hvb hAb hAv _ i hi hc) dJ4_append_15ec4_2 rfl mC_J5_append_cf1ce mM_J4_29 mE_J5_J5_append_8130 mU_J4_J5 mI_J5_append_cf1ce mN_J5 (by decide) yd_J5_append_cf1ce rfl rfl ⟨Nat.le_of_ble_eq_true rfl, Nat.le_of_ble_eq_true rfl⟩ (xRecv.ob C0 SB_b rfl rfl) rfl rfl (Nat.le_of_ble_eq_true rfl) ⟨Nat.le_of_ble_eq_true rfl, Nat.le_of_ble_eq_true rfl⟩ (fun _ _ _ q => False.elim q) (fun r w1 sz1 hz hP => ?_)
  obtain ⟨rfl, rfl, rfl⟩ := hP
  refine x_st (st1 := [.ref b]) rfl ?_
  refine x_pop 6 C0 dJ4_append_15ec4_5 rfl rfl ?_
  refine x_aload_n 0 7 C0 dJ4_append_15ec4_6 rfl rfl rfl ?_
  exact x_areturn C0 dJ4_append_15ec4_7 rfl (Or.inl ⟨_, rfl⟩) (Or.inr ⟨_, rfl⟩) (Nat.le_of_ble_eq_true rfl) (Nat.le_of_ble_eq_true rfl) ⟨rfl, rfl, rfl⟩

set_option maxHeartbeats 4000000 in
set_option maxRecDepth 100000 in
theorem k_J5_init_d00df (l : Launch) (hl : l.stackTraces = false) (g : xg_T) (w : xw_T) (sz b : Nat) (hwb : w b = some (.inr (1, [.null, .int 0, .int 0, .int 0]))) (hbz : b ≠ sz) (hAb : xA g b) : xM l g yJ5_init_d00df cJ5_init_d00df 2 none ({ frames := 1, cells := 1, slots := 16, locals := 12 }) 1 16 [.ref b, .int 16] w sz (fun r w1 sz1 => r = none ∧ w1 = SB g w b sz (fun _ => 0) 0 ∧ sz + 1 = sz1) (fun _ _ _ => False) := by
  refine xM.of RJ5 hl (by decide +kernel) rfl (Nat.le_of_ble_eq_true rfl) rfl ?_
  intro p e s m args below meth cD C0 hini
  refine x_aload_n 0 1 C0 dJ5_init_d00df_0 rfl rfl rfl ?_
  refine x_objInit 4 C0 dJ5_init_d00df_1 rfl mM_J5_3 mI_Object_init mC_Object_init (Nat.le_of_ble_eq_true rfl) (Nat.le_of_ble_eq_true rfl) ?_
  refine x_gets 7 C0 dJ5_init_d00df_4 rfl (xs_cs C0.2.2.2.2.2.2.2.1.2.2) mF_J5_18 ?_
  refine x_if_eq 25 10 C0 dJ5_init_d00df_7 rfl (by decide) (fun q => False.elim (by revert q; decide)) (fun _ => ?_)
  refine x_aload_n 0 11 C0 dJ5_init_d00df_10 rfl rfl rfl ?_
  refine x_iload_n 1 12 C0 dJ5_init_d00df_11 rfl rfl rfl ?_
  refine x_newa 2 14 C0 (N := 16) (a0 := (16, .inl (fun _ => 0))) dJ5_init_d00df_12 rfl mR_byte rfl rfl (fun _ => rfl) (by decide) (by decide) (by decide) rfl rfl (Nat.le_of_ble_eq_true rfl) (Nat.le_of_ble_eq_true rfl) ?_
  refine x_putf 0 17 C0 dJ5_init_d00df_14 rfl ((xup_n hbz).trans hwb) hAb rfl (by decide) inJ4 tyJ4_ok nmJ4 mF_J5_15 rfl rfl rfl rfl (Nat.le_of_ble_eq_true rfl) ?_
  refine x_w (w1 := (xup (xup w sz (sbA g (fun _ => 0))) b (.inr (1, [.ref sz, .int 0, .int 0, .int 0])))) rfl ?_
  refine x_aload_n 0 18 C0 dJ5_init_d00df_17 rfl rfl rfl ?_
  refine x_iconst (v := 0) 19 C0 dJ5_init_d00df_18 rfl (by decide) ?_
  refine x_putf 1 22 C0 dJ5_init_d00df_19 rfl (xup_s _ _ _) hAb rfl (by decide) inJ4 tyJ4_ok nmJ4 mF_J5_22 rfl rfl rfl rfl (Nat.le_of_ble_eq_true rfl) ?_
  refine x_w (w1 := (xup (xup w sz (sbA g (fun _ => 0))) b (.inr (1, [.ref sz, .int 0, .int 0, .int 0])))) (xup_2 _ _ _ _) ?_
  refine x_goto 38 C0 dJ5_init_d00df_22 (by decide) ?_
  exact x_return C0 dJ5_init_d00df_38 rfl (Nat.le_of_ble_eq_true rfl) (Nat.le_of_ble_eq_true rfl) ⟨rfl, rfl, rfl⟩

set_option maxHeartbeats 4000000 in
set_option maxRecDepth 100000 in
theorem k_J4_init_da8c8 (l : Launch) (hl : l.stackTraces = false) (g : xg_T) (w : xw_T) (sz b : Nat) (hwb : w b = some (.inr (1, [.null, .int 0, .int 0, .int 0]))) (hbz : b ≠ sz) (hAb : xA g b) : xM l g yJ4_init_da8c8 cJ4_init_da8c8 1 none ({ frames := 2, cells := 1, slots := 16, locals := 33 }) 1 16 [.ref b] w sz (fun r w1 sz1 => r = none ∧ w1 = SB g w b sz (fun _ => 0) 0 ∧ sz + 1 = sz1) (fun _ _ _ => False) := by
  refine xM.of RJ4 hl (by decide +kernel) rfl (Nat.le_of_ble_eq_true rfl) rfl ?_
  intro p e s m args below meth cD C0 hini
  refine x_aload_n 0 1 C0 dJ4_init_da8c8_0 rfl rfl rfl ?_
  refine x_bipush (v := 16) 3 C0 dJ4_init_da8c8_1 rfl (by decide) ?_
  refine x_callI 6 C0 (k_J5_init_d00df l hl g _ _ _ hwb hbz hAb) dJ4_init_da8c8_3 rfl mC_J5_init_d00df mM_J4_1 mI_J5_init_d00df mN_J5 rfl yd_J5_init_d00df rfl rfl ⟨Nat.le_of_ble_eq_true rfl, Nat.le_of_ble_eq_true rfl⟩ rfl rfl (Nat.le_of_ble_eq_true rfl) ⟨Nat.le_of_ble_eq_true rfl, Nat.le_of_ble_eq_true rfl⟩ (fun _ _ _ q => False.elim q) (fun r w1 sz1 hz hP => ?_)
  obtain ⟨rfl, rfl, rfl⟩ := hP
  refine x_st (st1 := []) rfl ?_
  exact x_return C0 dJ4_init_da8c8_6 rfl (Nat.le_of_ble_eq_true rfl) (Nat.le_of_ble_eq_true rfl) ⟨rfl, rfl, rfl⟩

set_option maxHeartbeats 4000000 in
set_option maxRecDepth 100000 in
theorem k_J7_checkLength_df160 (l : Launch) (hl : l.stackTraces = false) (g : xg_T) (w : xw_T) (sz n : Nat) (hn : n < 65536) : xM l g yJ7_checkLength_df160 cJ7_checkLength_df160 2 none ({ frames := 0, cells := 0, slots := 0, locals := 0 }) 0 0 [.int 0, .int (nI n)] w sz (fun r w1 sz1 => r = none ∧ w = w1 ∧ sz = sz1) (fun _ _ _ => False) := by
  refine xM.of RJ7 hl (by decide +kernel) rfl (Nat.le_of_ble_eq_true rfl) rfl ?_
  intro p e s m args below meth cD C0 hini
  refine x_iload_n 1 1 C0 dJ7_checkLength_df160_0 rfl rfl rfl ?_
  refine x_iload_n 0 2 C0 dJ7_checkLength_df160_1 rfl rfl rfl ?_
  refine x_icmp_ge 37 5 C0 dJ7_checkLength_df160_2 rfl (by decide) (fun c1 => ?_) (fun c1 => ?_)
  rotate_left
  · exact absurd (nI_pos' (by omega)) c1
  exact x_return C0 dJ7_checkLength_df160_37 rfl (Nat.le_of_ble_eq_true rfl) (Nat.le_of_ble_eq_true rfl) ⟨rfl, rfl, rfl⟩

set_option maxHeartbeats 4000000 in
set_option maxRecDepth 100000 in
theorem k_J7_copyOfRangeByte_39247 (l : Launch) (hl : l.stackTraces = false) (g : xg_T) (w : xw_T) (sz v n : Nat) (f : Nat → Int32) (hwv : w v = some (.inl (g.2 3, 16, .inl f))) (hvz : v < sz) (hn : n ≤ 16) (hzA : xA g sz) (hfit : ∀ j, j < n → fits .byte (.int (f j)) = true) : xM l g yJ7_copyOfRangeByte_39247 cJ7_copyOfRangeByte_39247 5 (some (.array .byte)) ({ frames := 1, cells := 1, slots := 16, locals := 40 }) 1 16 [.ref v, .int 0, .int (nI n)] w sz (fun r w1 sz1 => r = some (.ref sz) ∧ (∃ h : Nat → Int32, (∀ j, j < n → h j = f j) ∧ w1 = xup w sz (.inl (g.2 3, n, .inl h))) ∧ sz + 1 = sz1) (fun _ _ _ => False) := by
  refine xM.of RJ7 hl (by decide +kernel) rfl (Nat.le_of_ble_eq_true rfl) rfl ?_
  intro p e s m args below meth cD C0 hini
  refine x_iload_n 1 1 C0 dJ7_copyOfRangeByte_39247_0 rfl rfl rfl ?_
  refine x_iload_n 2 2 C0 dJ7_copyOfRangeByte_39247_1 rfl rfl rfl ?_
  refine x_callS 5 C0 (k_J7_checkLength_df160 l hl g _ _ n (by omega)) dJ7_copyOfRangeByte_39247_2 rfl mC_J7_checkLength_df160 mM_J7_343 mS_J7_checkLength_df160 mN_J7 yd_J7_checkLength_df160 rfl rfl ⟨Nat.le_of_ble_eq_true rfl, Nat.le_of_ble_eq_true rfl⟩ rfl rfl (Nat.le_of_ble_eq_true rfl) ⟨Nat.le_of_ble_eq_true rfl, Nat.le_of_ble_eq_true rfl⟩ (fun _ _ _ q => False.elim q) (fun r w1 sz1 hz hP => ?_)
  obtain ⟨rfl, rfl, rfl⟩ := hP
  refine x_st (st1 := []) rfl ?_
  refine x_iload_n 2 6 C0 dJ7_copyOfRangeByte_39247_5 rfl rfl rfl ?_
  refine x_iload_n 1 7 C0 dJ7_copyOfRangeByte_39247_6 rfl rfl rfl ?_
  refine x_isub 8 C0 dJ7_copyOfRangeByte_39247_7 rfl ?_
  refine x_st (st1 := [.int (nI n)]) (congrArg (fun z => Value.int z :: _) (sub0 _)) ?_
  refine x_istore_n [(3, .int (nI n)), (0, .ref v), (1, .int 0), (2, .int (nI n))] 9 C0 dJ7_copyOfRangeByte_39247_8 rfl rfl (by decide) rfl ?_
  refine x_lv (lv1 := [(0, .ref v), (1, .int 0), (2, .int (nI n)), (3, .int (nI n))]) [1, 2, 3, 0] rfl ?_
  refine x_iload_n 3 10 C0 dJ7_copyOfRangeByte_39247_9 rfl rfl rfl ?_
  refine x_newa 2 12 C0 (N := n) (a0 := (n, .inl (fun _ => 0))) dJ7_copyOfRangeByte_39247_10 rfl mR_byte rfl rfl (fun _ => rfl) (nI_pos (by omega)) (nI_clamp (by omega)) (by show n * 1 ≤ 536870912; omega) rfl rfl (Nat.le_of_ble_eq_true rfl) (by show 0 + n ≤ 16; omega) ?_
  refine x_astore [(4, .ref sz), (0, .ref v), (1, .int 0), (2, .int (nI n)), (3, .int (nI n))] 14 C0 dJ7_copyOfRangeByte_39247_12 rfl (by decide) rfl ?_
  refine x_lv (lv1 := [(0, .ref v), (1, .int 0), (2, .int (nI n)), (3, .int (nI n)), (4, .ref sz)]) [1, 2, 3, 4, 0] rfl ?_
  refine x_aload_n 0 15 C0 dJ7_copyOfRangeByte_39247_14 rfl rfl rfl ?_
  refine x_iload_n 1 16 C0 dJ7_copyOfRangeByte_39247_15 rfl rfl rfl ?_
  refine x_aload 4 18 C0 dJ7_copyOfRangeByte_39247_16 rfl rfl ?_
  refine x_iconst (v := 0) 19 C0 dJ7_copyOfRangeByte_39247_18 rfl (by decide) ?_
  refine x_aload_n 0 20 C0 dJ7_copyOfRangeByte_39247_19 rfl rfl rfl ?_
  refine x_alen 2 21 C0 (v := 16) dJ7_copyOfRangeByte_39247_20 rfl ((xup_n (Nat.ne_of_lt hvz)).trans hwv) rfl rfl ?_
  refine x_iload_n 1 22 C0 dJ7_copyOfRangeByte_39247_21 rfl rfl rfl ?_
  refine x_isub 23 C0 dJ7_copyOfRangeByte_39247_22 rfl ?_
  refine x_st (st1 := [.int 16, .int 0, .ref sz, .int 0, .ref v]) (congrArg (fun z => Value.int z :: _) (by decide)) ?_
  refine x_iload_n 3 24 C0 dJ7_copyOfRangeByte_39247_23 rfl rfl rfl ?_
  refine x_mmin 27 C0 dJ7_copyOfRangeByte_39247_24 rfl mM_J7_304 mS_Math_min mN_J9 mC_Math_min (Nat.le_of_ble_eq_true rfl) (Nat.le_of_ble_eq_true rfl) (Nat.le_of_ble_eq_true rfl) (by show 0 + 0 + n ≤ 16; omega) ?_
  refine x_st (st1 := [.int (nI n), .int 0, .ref sz, .int 0, .ref v]) (congrArg (fun z => Value.int z :: _) (mn16 n (by omega))) ?_
  refine x_copyC 2 30 C0 (ty := .byte) dJ7_copyOfRangeByte_39247_27 rfl mM_J7_150 mZ_System_arraycopy mS_System_arraycopy mN_J10 rfl (xsrcW (t0 := 2) C0 ((xup_n (Nat.ne_of_lt hvz)).trans hwv) rfl) (xup_s _ _ _) hzA rfl (by decide) (by decide) (nI_pos (by omega)) (by rw [nI_clamp (by omega)]; show 0 + n ≤ 16; omega) (by rw [nI_clamp (by omega)]; show 0 + n ≤ n; omega) (by rw [nI_clamp (by omega)]; intro j hj; exact (by rw [show (0 : Int32).toNatClampNeg + j = j from Nat.zero_add j]; exact hfit j hj)) (Nat.le_of_ble_eq_true rfl) (by decide +kernel) ?_
  refine x_w (w1 := xup w sz (.inl (g.2 3, n, .inl (va_cpy f (fun _ => 0) 0 0 n)))) (by rw [nI_clamp (by omega)]; exact xup_2 _ _ _ _) ?_
  refine x_aload 4 32 C0 dJ7_copyOfRangeByte_39247_30 rfl rfl ?_
  exact x_areturn C0 dJ7_copyOfRangeByte_39247_32 rfl (Or.inr ⟨_, rfl⟩) (Or.inr ⟨_, rfl⟩) (Nat.le_of_ble_eq_true rfl) (by show 0 + 0 + n ≤ 16; omega) ⟨rfl, ⟨_, fun j hj => by simp [va_cpy, hj], rfl⟩, rfl⟩

theorem n16 {n : Nat} (h : n ≤ 16) (e : nI n = 16) : n = 16 := by
  have h1 : ∀ n, n < 17 → nI n = 16 → n = 16 := by decide +kernel
  exact h1 n (by omega) e
theorem clfit {cA : ClassId} {f : Nat → Int32} (h : ∀ j, j < 16 → fits .byte (.int (f j)) = true) : ∀ (i : Nat) (v : Value), (vp_cell cA (16, .inl f)).slots[i]? = some v → fits .byte v = true := by
  intro i v hv
  have h1 : (arrV cA 16 (fun j => .int (f j))).slots[i]? = some v := hv
  by_cases hi : i < 16
  · simp [arrV, hi] at h1
    rw [← h1]
    exact h i hi
  · simp [arrV, hi] at h1
set_option maxHeartbeats 4000000 in
set_option maxRecDepth 100000 in
theorem k_J7_copyOfRange_39247 (l : Launch) (hl : l.stackTraces = false) (g : xg_T) (w : xw_T) (sz v n : Nat) (f : Nat → Int32) (hwv : w v = some (.inl (g.2 3, 16, .inl f))) (hvz : v < sz) (hn : n ≤ 16) (hzA : xA g sz) (hfit : ∀ j, j < n → fits .byte (.int (f j)) = true) : xM l g yJ7_copyOfRange_39247 cJ7_copyOfRange_39247 3 (some (.array .byte)) ({ frames := 2, cells := 1, slots := 16, locals := 64 }) 1 16 [.ref v, .int 0, .int (nI n)] w sz (fun r w1 sz1 => r = some (.ref sz) ∧ (∃ h : Nat → Int32, (∀ j, j < n → h j = f j) ∧ w1 = xup w sz (.inl (g.2 3, n, .inl h))) ∧ sz + 1 = sz1) (fun _ _ _ => False) := by
  refine xM.of RJ7 hl (by decide +kernel) rfl (Nat.le_of_ble_eq_true rfl) rfl ?_
  intro p e s m args below meth cD C0 hini
  refine x_iload_n 1 1 C0 dJ7_copyOfRange_39247_0 rfl rfl rfl ?_
  refine x_if_ne 10 4 C0 dJ7_copyOfRange_39247_1 rfl (by decide) (fun q => False.elim (by revert q; decide)) (fun _ => ?_)
  refine x_iload_n 2 5 C0 dJ7_copyOfRange_39247_4 rfl rfl rfl ?_
  refine x_aload_n 0 6 C0 dJ7_copyOfRange_39247_5 rfl rfl rfl ?_
  refine x_alen 2 7 C0 (v := 16) dJ7_copyOfRange_39247_6 rfl hwv rfl rfl ?_
  refine x_icmp_eq 17 10 C0 dJ7_copyOfRange_39247_7 rfl (by decide) (fun c2 => ?_) (fun c2 => ?_)
  · refine x_aload_n 0 18 C0 dJ7_copyOfRange_39247_17 rfl rfl rfl ?_
    have hn16 : n = 16 := n16 hn c2
    subst hn16
    refine x_clone 2 21 C0 (ad := "[B") (ty := .byte) dJ7_copyOfRange_39247_18 rfl mM_J7_310 mE__B_Object_clone_77408 mZ_Object_clone mI_Object_clone mV__B_AB_clone_Object_clone (xs_ca C0.2.2.2.2.2.2.2.1.2.2 ("[B", "java/lang/Cloneable") (by decide +kernel)) hwv rfl (xNmB C0) (clfit hfit) (Nat.le_of_ble_eq_true rfl) (Nat.le_of_ble_eq_true rfl) rfl rfl (Nat.le_of_ble_eq_true rfl) (Nat.le_of_ble_eq_true rfl) ?_
    refine x_castA 24 C0 (nm := "[B") dJ7_copyOfRange_39247_21 rfl mK_J7_311 (xup_s _ _ _) (xNmB C0) ?_
    exact x_areturn C0 dJ7_copyOfRange_39247_24 rfl (Or.inr ⟨_, rfl⟩) (Or.inr ⟨_, rfl⟩) (Nat.le_of_ble_eq_true rfl) (Nat.le_of_ble_eq_true rfl) ⟨rfl, ⟨_, fun j hj => rfl, rfl⟩, rfl⟩
  · refine x_aload_n 0 11 C0 dJ7_copyOfRange_39247_10 rfl rfl rfl ?_
    refine x_iload_n 1 12 C0 dJ7_copyOfRange_39247_11 rfl rfl rfl ?_
    refine x_iload_n 2 13 C0 dJ7_copyOfRange_39247_12 rfl rfl rfl ?_
    refine x_callS 16 C0 (k_J7_copyOfRangeByte_39247 l hl g _ _ _ _ _ hwv hvz hn hzA hfit) dJ7_copyOfRange_39247_13 rfl mC_J7_copyOfRangeByte_39247 mM_J7_339 mS_J7_copyOfRangeByte_39247 mN_J7 yd_J7_copyOfRangeByte_39247 rfl rfl ⟨Nat.le_of_ble_eq_true rfl, Nat.le_of_ble_eq_true rfl⟩ rfl rfl (Nat.le_of_ble_eq_true rfl) ⟨Nat.le_of_ble_eq_true rfl, Nat.le_of_ble_eq_true rfl⟩ (fun _ _ _ q => False.elim q) (fun r w1 sz1 hz hP => ?_)
    obtain ⟨rfl, ⟨h, hh, rfl⟩, rfl⟩ := hP
    refine x_st (st1 := [.ref sz]) rfl ?_
    exact x_areturn C0 dJ7_copyOfRange_39247_16 rfl (Or.inr ⟨_, rfl⟩) (Or.inr ⟨_, rfl⟩) (Nat.le_of_ble_eq_true rfl) (Nat.le_of_ble_eq_true rfl) ⟨rfl, ⟨h, hh, rfl⟩, rfl⟩

theorem SB_self {g : xg_T} {w : xw_T} {b v : Nat} {f : Nat → Int32} {n : Int32} (hb : w b = some (.inr (1, [.ref v, .int 0, .int 0, .int n]))) (hv : w v = some (.inl (g.2 3, 16, .inl f))) : w = SB g w b v f n := (xup_id hb).trans (congrArg (fun z => xup z b (sbB v n)) (xup_id hv))
set_option maxHeartbeats 4000000 in
set_option maxRecDepth 100000 in
theorem k_J0_init_db425 (l : Launch) (hl : l.stackTraces = false) (g : xg_T) (w : xw_T) (sz a b v n : Nat) (f : Nat → Int32) (hwa : w a = some (.inr (0, [.null, .int 0, .int 0, .int 0]))) (hwb : w b = some (.inr (1, [.ref v, .int 0, .int 0, .int (nI n)]))) (hwv : w v = some (.inl (g.2 3, 16, .inl f))) (hab : a ≠ b) (hav : a ≠ v) (hvb : v ≠ b) (hAa : xA g a) (hAb : xA g b) (hAv : xA g v) (haz : a < sz) (hvz : v < sz) (hn : n ≤ 16) (hzA : xA g sz) (hfit : ∀ j, j < n → fits .byte (.int (f j)) = true) : xM l g yJ0_init_db425 cJ0_init_db425 5 none ({ frames := 3, cells := 1, slots := 16, locals := 86 }) 1 16 [.ref a, .ref b, .null] w sz (fun r w1 sz1 => r = none ∧ (∃ h : Nat → Int32, (∀ j, j < n → h j = f j) ∧ w1 = xup (xup w sz (.inl (g.2 3, n, .inl h))) a (.inr (0, [.ref sz, .int 0, .int 0, .int 0]))) ∧ sz + 1 = sz1) (fun _ _ _ => False) := by
  refine xM.of RJ0 hl (by decide +kernel) rfl (Nat.le_of_ble_eq_true rfl) rfl ?_
  intro p e s m args below meth cD C0 hini
  refine x_aload_n 0 1 C0 dJ0_init_db425_0 rfl rfl rfl ?_
  refine x_objInit 4 C0 dJ0_init_db425_1 rfl mM_J0_1 mI_Object_init mC_Object_init (Nat.le_of_ble_eq_true rfl) (Nat.le_of_ble_eq_true rfl) ?_
  refine x_aload_n 1 5 C0 dJ0_init_db425_4 rfl rfl rfl ?_
  refine x_w (SB_self hwb hwv) ?_
  refine x_callU 8 (x := yJ5_getValue_6d5f1) (owner := RJ5) (C := RJ4) C0 (k_J5_getValue_6d5f1 l hl g w _ _ _ f hvb hAb hAv _) dJ0_init_db425_5 rfl mC_J5_getValue_6d5f1 mM_J0_552 mE_J5_J5_getValue_27067 mI_J5_getValue_6d5f1 (C0.2.2.2.2.1 _ mV_J4_J5_getValue_6d5f1) (xDecl C0 mI_J5_getValue_6d5f1 mC_J5_getValue_6d5f1) mN_J5 yd_J5_getValue_6d5f1 rfl rfl ⟨Nat.le_of_ble_eq_true rfl, Nat.le_of_ble_eq_true rfl⟩ (xRecv.ob C0 SB_b rfl rfl) rfl rfl (Nat.le_of_ble_eq_true rfl) ⟨Nat.le_of_ble_eq_true rfl, Nat.le_of_ble_eq_true rfl⟩ (fun _ _ _ q => False.elim q) (fun r w1 sz1 hz hP => ?_)
  obtain ⟨rfl, rfl, rfl⟩ := hP
  refine x_st (st1 := [.ref v]) rfl ?_
  refine x_astore_n [(3, .ref v), (0, .ref a), (1, .ref b), (2, .null)] 9 C0 dJ0_init_db425_8 rfl rfl (by decide) rfl ?_
  refine x_lv (lv1 := [(0, .ref a), (1, .ref b), (2, .null), (3, .ref v)]) [1, 2, 3, 0] rfl ?_
  refine x_aload_n 1 10 C0 dJ0_init_db425_9 rfl rfl rfl ?_
  refine x_callU 13 (x := yJ5_length_8abf5) (owner := RJ5) (C := RJ4) C0 (k_J4_length_8abf5 l hl g w _ _ _ f hvb hAb hAv _) dJ0_init_db425_10 rfl mC_J4_length_8abf5 mM_J0_549 mE_J5_J5_length_10780 mI_J4_length_8abf5 (C0.2.2.2.2.1 _ mV_J4_J5_length_8abf5_J4_length_8abf5) (xDecl C0 mI_J5_length_8abf5 mC_J5_length_8abf5) mN_J4 yd_J5_length_8abf5 rfl rfl ⟨Nat.le_of_ble_eq_true rfl, Nat.le_of_ble_eq_true rfl⟩ (xRecv.ob C0 SB_b rfl rfl) rfl rfl (Nat.le_of_ble_eq_true rfl) ⟨Nat.le_of_ble_eq_true rfl, Nat.le_of_ble_eq_true rfl⟩ (fun _ _ _ q => False.elim q) (fun r w1 sz1 hz hP => ?_)
  obtain ⟨rfl, rfl, rfl⟩ := hP
  refine x_st (st1 := [.int (nI n)]) rfl ?_
  refine x_istore [(4, .int (nI n)), (0, .ref a), (1, .ref b), (2, .null), (3, .ref v)] 15 C0 dJ0_init_db425_13 rfl (by decide) rfl ?_
  refine x_lv (lv1 := [(0, .ref a), (1, .ref b), (2, .null), (3, .ref v), (4, .int (nI n))]) [1, 2, 3, 4, 0] rfl ?_
  refine x_aload_n 1 16 C0 dJ0_init_db425_15 rfl rfl rfl ?_
  refine x_callU 19 (x := yJ5_isLatin1_aae02) (owner := RJ5) (C := RJ4) C0 (k_J5_isLatin1_aae02 l hl g w _ _ _ f hvb hAb hAv _) dJ0_init_db425_16 rfl mC_J5_isLatin1_aae02 mM_J0_1047 mE_J5_J5_isLatin_72257 mI_J5_isLatin1_aae02 (C0.2.2.2.2.1 _ mV_J4_J5_isLatin1_aae02) (xDecl C0 mI_J5_isLatin1_aae02 mC_J5_isLatin1_aae02) mN_J5 yd_J5_isLatin1_aae02 rfl rfl ⟨Nat.le_of_ble_eq_true rfl, Nat.le_of_ble_eq_true rfl⟩ (xRecv.ob C0 SB_b rfl rfl) rfl rfl (Nat.le_of_ble_eq_true rfl) ⟨Nat.le_of_ble_eq_true rfl, Nat.le_of_ble_eq_true rfl⟩ (fun _ _ _ q => False.elim q) (fun r w1 sz1 hz hP => ?_)
  obtain ⟨rfl, rfl, rfl⟩ := hP
  refine x_st (st1 := [.int 1]) rfl ?_
  refine x_if_eq 41 22 C0 dJ0_init_db425_19 rfl (by decide) (fun q => False.elim (by revert q; decide)) (fun _ => ?_)
  refine x_aload_n 0 23 C0 dJ0_init_db425_22 rfl rfl rfl ?_
  refine x_iconst (v := 0) 24 C0 dJ0_init_db425_23 rfl (by decide) ?_
  refine x_putF 1 27 C0 dJ0_init_db425_24 rfl ((SB_q hab hav).trans hwa) hAa rfl (by decide) inJ0 tyJ0_ok nmJ0 mF_J0_15 rfl rfl hini rfl rfl rfl (Nat.le_of_ble_eq_true rfl) ?_
  refine x_w (w1 := SB g w b v f (nI n)) (xup_id ((SB_q hab hav).trans hwa)).symm ?_
  refine x_aload_n 0 28 C0 dJ0_init_db425_27 rfl rfl rfl ?_
  refine x_aload_n 3 29 C0 dJ0_init_db425_28 rfl rfl rfl ?_
  refine x_iconst (v := 0) 30 C0 dJ0_init_db425_29 rfl (by decide) ?_
  refine x_iload 4 32 C0 dJ0_init_db425_30 rfl rfl ?_
  refine x_callS 35 C0 (k_J7_copyOfRange_39247 l hl g _ _ _ _ _ (SB_v hvb) hvz hn hzA hfit) dJ0_init_db425_32 rfl mC_J7_copyOfRange_39247 mM_J0_54 mS_J7_copyOfRange_39247 mN_J7 yd_J7_copyOfRange_39247 rfl rfl ⟨Nat.le_of_ble_eq_true rfl, Nat.le_of_ble_eq_true rfl⟩ rfl rfl (Nat.le_of_ble_eq_true rfl) ⟨Nat.le_of_ble_eq_true rfl, Nat.le_of_ble_eq_true rfl⟩ (fun _ _ _ q => False.elim q) (fun r w1 sz1 hz hP => ?_)
  obtain ⟨rfl, ⟨h, hh, rfl⟩, rfl⟩ := hP
  refine x_st (st1 := [.ref sz, .ref a]) rfl ?_
  refine x_putF 0 38 C0 dJ0_init_db425_35 rfl ((xup_n (Nat.ne_of_lt haz)).trans ((SB_q hab hav).trans hwa)) hAa rfl (by decide) inJ0 tyJ0_ok nmJ0 mF_J0_9 rfl rfl hini rfl rfl rfl (Nat.le_of_ble_eq_true rfl) ?_
  refine x_w (w1 := (xup (xup (SB g w b v f (nI n)) sz (.inl (g.2 3, n, .inl h))) a (.inr (0, [.ref sz, .int 0, .int 0, .int 0])))) rfl ?_
  refine x_goto 97 C0 dJ0_init_db425_38 (by decide) ?_
  exact x_return C0 dJ0_init_db425_97 rfl (Nat.le_of_ble_eq_true rfl) (Nat.le_of_ble_eq_true rfl) ⟨rfl, ⟨h, hh, by rw [← SB_self hwb hwv]⟩, rfl⟩

set_option maxHeartbeats 4000000 in
set_option maxRecDepth 100000 in
theorem k_J0_init_81219 (l : Launch) (hl : l.stackTraces = false) (g : xg_T) (w : xw_T) (sz a b v n : Nat) (f : Nat → Int32) (hwa : w a = some (.inr (0, [.null, .int 0, .int 0, .int 0]))) (hwb : w b = some (.inr (1, [.ref v, .int 0, .int 0, .int (nI n)]))) (hwv : w v = some (.inl (g.2 3, 16, .inl f))) (hab : a ≠ b) (hav : a ≠ v) (hvb : v ≠ b) (hAa : xA g a) (hAb : xA g b) (hAv : xA g v) (haz : a < sz) (hvz : v < sz) (hn : n ≤ 16) (hzA : xA g sz) (hfit : ∀ j, j < n → fits .byte (.int (f j)) = true) : xM l g yJ0_init_81219 cJ0_init_81219 2 none ({ frames := 4, cells := 1, slots := 16, locals := 110 }) 1 16 [.ref a, .ref b] w sz (fun r w1 sz1 => r = none ∧ (∃ h : Nat → Int32, (∀ j, j < n → h j = f j) ∧ w1 = xup (xup w sz (.inl (g.2 3, n, .inl h))) a (.inr (0, [.ref sz, .int 0, .int 0, .int 0]))) ∧ sz + 1 = sz1) (fun _ _ _ => False) := by
  refine xM.of RJ0 hl (by decide +kernel) rfl (Nat.le_of_ble_eq_true rfl) rfl ?_
  intro p e s m args below meth cD C0 hini
  refine x_aload_n 0 1 C0 dJ0_init_81219_0 rfl rfl rfl ?_
  refine x_aload_n 1 2 C0 dJ0_init_81219_1 rfl rfl rfl ?_
  refine x_null 3 C0 dJ0_init_81219_2 rfl ?_
  refine x_callI 6 C0 (k_J0_init_db425 l hl g _ _ _ _ _ _ _ hwa hwb hwv hab hav hvb hAa hAb hAv haz hvz hn hzA hfit) dJ0_init_81219_3 rfl mC_J0_init_db425 mM_J0_489 mI_J0_init_db425 mN_J0 rfl yd_J0_init_db425 rfl rfl ⟨Nat.le_of_ble_eq_true rfl, Nat.le_of_ble_eq_true rfl⟩ rfl rfl (Nat.le_of_ble_eq_true rfl) ⟨Nat.le_of_ble_eq_true rfl, Nat.le_of_ble_eq_true rfl⟩ (fun _ _ _ q => False.elim q) (fun r w1 sz1 hz hP => ?_)
  obtain ⟨rfl, ⟨h, hh, rfl⟩, rfl⟩ := hP
  refine x_st (st1 := []) rfl ?_
  exact x_return C0 dJ0_init_81219_6 rfl (Nat.le_of_ble_eq_true rfl) (Nat.le_of_ble_eq_true rfl) ⟨rfl, ⟨h, hh, rfl⟩, rfl⟩

theorem xA_le1 {g : xg_T} {a : Nat} (h : xA g a) : xA g (a + 1) := Nat.le_succ_of_le h
set_option maxHeartbeats 4000000 in
set_option maxRecDepth 100000 in
theorem k_J4_toString_0e30d (l : Launch) (hl : l.stackTraces = false) (g : xg_T) (w : xw_T) (sz b v : Nat) (f : Nat → Int32) (hvb : v ≠ b) (hAb : xA g b) (hAv : xA g v) (n : Nat) (hbz : b < sz) (hvz : v < sz) (hn : n ≤ 16) (hzA : xA g sz) (hfit : ∀ j, j < n → fits .byte (.int (f j)) = true) : xM l g yJ4_toString_0e30d cJ4_toString_0e30d 1 (some (.object "java/lang/String")) ({ frames := 5, cells := 2, slots := 20, locals := 131 }) 2 20 [.ref b] (SB g w b v f (nI n)) sz (fun r w1 sz1 => r = some (.ref sz) ∧ (∃ h : Nat → Int32, (∀ j, j < n → h j = f j) ∧ w1 = xup (xup (SB g w b v f (nI n)) sz (.inr (0, [.ref (sz + 1), .int 0, .int 0, .int 0]))) (sz + 1) (.inl (g.2 3, n, .inl h))) ∧ sz + 1 + 1 = sz1) (fun _ _ _ => False) := by
  refine xM.of RJ4 hl (by decide +kernel) rfl (Nat.le_of_ble_eq_true rfl) rfl ?_
  intro p e s m args below meth cD C0 hini
  refine x_new 0 3 C0 (fs := [.null, .int 0, .int 0, .int 0]) dJ4_toString_0e30d_0 rfl rfl inJ0 tyJ0_ok mK_J4_18 mA_J0 mN_J0 (by decide) rfl rfl (Nat.le_of_ble_eq_true rfl) (Nat.le_of_ble_eq_true rfl) ?_
  refine x_dup 4 C0 dJ4_toString_0e30d_3 rfl rfl ?_
  refine x_aload_n 0 5 C0 dJ4_toString_0e30d_4 rfl rfl rfl ?_
  refine x_callI 8 C0 (k_J0_init_81219 l hl g _ _ _ _ _ _ _ (xup_s _ _ _) ((xup_n (Nat.ne_of_lt hbz)).trans SB_b) ((xup_n (Nat.ne_of_lt hvz)).trans (SB_v hvb)) (Nat.ne_of_gt hbz) (Nat.ne_of_gt hvz) hvb hzA hAb hAv (Nat.lt_succ_self sz) (Nat.lt_succ_of_lt hvz) hn (xA_le1 hzA) hfit) dJ4_toString_0e30d_5 rfl mC_J0_init_81219 mM_J4_137 mI_J0_init_81219 mN_J0 rfl yd_J0_init_81219 rfl rfl ⟨Nat.le_of_ble_eq_true rfl, Nat.le_of_ble_eq_true rfl⟩ rfl rfl (Nat.le_of_ble_eq_true rfl) ⟨Nat.le_of_ble_eq_true rfl, Nat.le_of_ble_eq_true rfl⟩ (fun _ _ _ q => False.elim q) (fun r w1 sz1 hz hP => ?_)
  obtain ⟨rfl, ⟨h, hh, rfl⟩, rfl⟩ := hP
  refine x_st (st1 := [.ref sz]) rfl ?_
  exact x_areturn C0 dJ4_toString_0e30d_8 rfl (Or.inl ⟨_, rfl⟩) (Or.inr ⟨_, rfl⟩) (Nat.le_of_ble_eq_true rfl) (Nat.le_of_ble_eq_true rfl) ⟨rfl, ⟨h, hh, xup_3 (Nat.ne_of_lt (Nat.lt_succ_self sz))⟩, rfl⟩

