/-! THE TEXT: its counts stay in bounds; the verb is none or one of the eight -/
theorem irem9 (x : Int32) : (x - x / 9 * 9).toInt = x.toInt.tmod 9 := by
  have h := Int.tmod_add_tdiv_mul x.toInt 9
  have h1 : (x / 9).toInt = x.toInt.tdiv 9 := Int32.toInt_div_of_ne_right x 9 (by decide)
  have l1 := Int32.le_toInt x
  have l2 := Int32.toInt_lt x
  have t1 := Int.tmod_lt_of_pos x.toInt (b := 9) (by decide)
  have t2 := Int.lt_tmod_of_pos x.toInt (b := 9) (by decide)
  have t3 : 0 ≤ x.toInt → 0 ≤ x.toInt.tmod 9 := Int.tmod_nonneg 9
  have t4 : x.toInt ≤ 0 → x.toInt.tmod 9 ≤ 0 := fun q => by
    have := Int.tmod_nonneg (a := -x.toInt) 9 (by omega)
    rw [Int.neg_tmod] at this
    omega
  have e9 : (9 : Int32).toInt = 9 := rfl
  rw [Int32.toInt_sub, Int32.toInt_mul, h1, e9]
  have b1 : (x.toInt.tdiv 9 * 9).bmod (2 ^ 32) = x.toInt.tdiv 9 * 9 := Int.bmod_eq_of_le (by omega) (by omega)
  rw [b1]
  have b2 : x.toInt - x.toInt.tdiv 9 * 9 = x.toInt.tmod 9 := by omega
  rw [b2]
  exact Int.bmod_eq_of_le (by omega) (by omega)
theorem xor9 (x : Int32) : (0 ≤ x ^^^ 9) ↔ 0 ≤ x := by
  have e : ∀ y : Int32, (0 ≤ y) ↔ y.toBitVec.msb = false := fun y => by
    rw [Int32.le_iff_toInt_le, BitVec.msb_eq_toInt]
    show 0 ≤ y.toInt ↔ decide (y.toInt < 0) = false
    rw [decide_eq_false_iff_not]
    omega
  rw [e, e, Int32.toBitVec_xor, BitVec.msb_xor, show (9 : Int32).toBitVec.msb = false from rfl, Bool.xor_false]
theorem nI_toI {x : Int32} {z : Int} (h : x.toInt = z) (h0 : 0 ≤ z) (h9 : z < 9) : ∃ j : Nat, j < 9 ∧ x = nI j := by
  refine ⟨z.toNat, by omega, Int32.toInt_inj.mp ?_⟩
  rw [h, nI_toInt (by omega)]
  omega
theorem fm9_a {x : Int32} (h : 0 ≤ x ^^^ 9) : ∃ j : Nat, j < 9 ∧ x - x / 9 * 9 = nI j := by
  have h1 := (xor9 x).mp h
  rw [Int32.le_iff_toInt_le] at h1
  exact nI_toI (irem9 x) (Int.tmod_nonneg 9 h1) (Int.tmod_lt_of_pos _ (by decide))
theorem fm9_b {x : Int32} (h : ¬ 0 ≤ x ^^^ 9) (h2 : ¬ x - x / 9 * 9 = 0) : ∃ j : Nat, j < 9 ∧ x - x / 9 * 9 + 9 = nI j := by
  have h1 : ¬ 0 ≤ x := fun q => h ((xor9 x).mpr q)
  have h3 : (0 : Int32).toInt = 0 := rfl
  rw [Int32.le_iff_toInt_le, h3] at h1
  have t2 := Int.lt_tmod_of_pos x.toInt (b := 9) (by decide)
  have t4 : x.toInt.tmod 9 ≤ 0 := by
    have := Int.tmod_nonneg (a := -x.toInt) 9 (by omega)
    rw [Int.neg_tmod] at this
    omega
  have t5 : x.toInt.tmod 9 ≠ 0 := fun q => h2 (Int32.toInt_inj.mp (by rw [irem9, q]; rfl))
  refine nI_toI (z := x.toInt.tmod 9 + 9) ?_ (by omega) (by omega)
  rw [Int32.toInt_add, irem9, show (9 : Int32).toInt = 9 from rfl]
  exact Int.bmod_eq_of_le (by omega) (by omega)
theorem vx_ofWF {l : Launch} {y : MethodName} {ws ws' : List Cond} {rm : Room} {Pc : Array Value → State → Prop} {Qc : Array Value → State → Outcome → State → Prop} {XC : String → State → State → Prop} {mc ms : Nat} {free : Addr → Prop} {cc : ByteArray} {maxL : Nat} {ret : Option FieldType}
    (hy : plainFor y = true) (hw : ws = Cond.code y cc maxL ret :: ws')
    (body : ∀ p e s m args below meth c s₁, BodyLoose p l y (headSpec ws rm) cc maxL ret e s m args below meth c s₁ → c.maxLocals = maxL → (∀ x ∈ c.exceptionTable.toList, False) → Pc args s →
      W p l e (headSpec ws rm).room s m args below meth c s.heap [] 0 0 (vx_MQ below Qc XC args s mc ms free) (entryFrame m args maxL)) : vx_Met l y ws rm Pc Qc XC mc ms free := by
  refine MetFree.of_bodySF (code := cc) (maxLocals := maxL) (ret := ret) hy ?_ ?_
  · intro args s m h hn
    obtain ⟨meth, c, h1, h2, h3, h4, h5, h6, -, -⟩ := Cond.code_spec hn (atoms_spec (ws := ws) h _ (by rw [hw]; exact List.mem_cons_self))
    exact ⟨meth, c, h1, h2, h3, h4, h5, h6⟩
  · intro p e s m args below meth c s₁ B hml hP _
    have hh0 : s₁.heap = s.heap := by rw [B.state]; rfl
    have ht : ∀ x ∈ c.exceptionTable.toList, False := by
      obtain ⟨meth9, c9, h1, h2, -, -, -, -, h7, -⟩ := Cond.code_spec B.named (atoms_spec (ws := ws) B.pre _ (by rw [hw]; exact List.mem_cons_self))
      cases Option.some.inj (h1.symm.trans B.method)
      cases Option.some.inj (h2.symm.trans (Stand.of_body B).code)
      intro x hx
      rw [Array.isEmpty_iff.mp h7] at hx
      cases hx
    obtain ⟨t, a1, o, b1, b2, b3⟩ := body p e s m args below meth c s₁ B hml ht hP s₁ hh0 (Stand.of_body B)
    exact ⟨t, o, a1, b1, b2, b3⟩
theorem xM.ofF {l : Launch} {g : xg_T} {y : MethodName} {rm : Room} {mc ms : Nat} {as : List Value} {w : xw_T} {sz : Nat} {P : Option Value → xw_T → Nat → Prop} {X : String → xw_T → Nat → Prop} {cc : ByteArray} {nL : Nat} {ret : Option FieldType} {lv : List (Nat × Value)} (own : String) (hl : l.stackTraces = false) (hy : plainFor y = true) (hyc : y.cls = own) (hn : (lg_sl as).length ≤ nL) (hlv : lv_args 0 as = lv)
    (body : ∀ (p : Program) (e : Env) (s : State) (m : MethodId) (args : Array Value) (below : List Frame) (meth : Method) (c : Code), xC p l s m args meth c g cc nL own ret [] → meth.name = y.name → xV p l e rm s m args below meth c (xQ g below P X args s mc ms) g nL w sz 0 0 0 lv []) : xM l g y cc nL ret rm mc ms as w sz P X := by
  refine vx_ofWF (cc := cc) (maxL := nL) (ret := ret) hy rfl ?_
  intro p e s m args below meth c s₁ B hml htb hv
  obtain ⟨rfl, hsz, hH, hG⟩ := hv
  subst hyc hlv
  rw [lg_entry_eq]
  have htb2 : c.exceptionTable.toList = [] := List.eq_nil_iff_forall_not_mem.mpr htb
  exact body p e s m _ below meth c ⟨B.exec, B.bytes, hml, findClass_of_methodNamed B.named, fun w hw => atoms_spec (ws := Cond.code y cc nL ret :: xT) B.pre w (List.mem_cons_of_mem _ hw), B.notSynchronized, B.returns, hG, htb2, hl⟩ (name_of_methodNamed B.named B.method).1 s.heap [] _ hsz hH va_S.rf (lv_entry as hn)
def isB (b : Int32) : Prop := b = 0 ∨ b = 1
theorem isB.nar {b : Int32} (h : isB b) : narrow .boolean (.int b) = .int b := by
  rcases h with rfl | rfl <;> rfl
/-- the sign at a place, -1 where none is -/
def sgAt (n : Nat) (sg : Nat → Int32) (o : Int32) : Int32 := if 0 ≤ o ∧ o < nI n then sg o.toNatClampNeg else -1
theorem sgAt_in {n : Nat} {sg : Nat → Int32} {q : Nat} (hn : n ≤ 60) (hq : q < 1000) (h : sgAt n sg (nI q) ≠ -1) : q < n := by
  unfold sgAt at h
  split at h
  · rename_i h1
    exact (nI_ltI (by omega) (by omega)).mp h1.2
  · exact absurd rfl h
theorem tOk.up {n : Nat} {tt : Nat → Int32} (h : tOk n tt) {i : Nat} {v : Int32} (hi : 3 ≤ i) : tOk n (upd tt i v) := by
  obtain ⟨h1, h2, ⟨m, h3, h4⟩, m2, h5, h6⟩ := h
  exact ⟨(if_neg (by omega)).trans h1, h2, ⟨m, h3, (if_neg (by omega)).trans h4⟩, m2, h5, (if_neg (by omega)).trans h6⟩
theorem tOk.at {n : Nat} {tt : Nat → Int32} (h : tOk n tt) {v : Int32} {m : Nat} (hm : m ≤ 60) (e : v = nI m) : tOk n (upd tt 1 v) := by
  obtain ⟨h1, h2, -, m2, h5, h6⟩ := h
  exact ⟨h1, h2, ⟨m, hm, e⟩, m2, h5, h6⟩
theorem tOk.fa {n : Nat} {tt : Nat → Int32} (h : tOk n tt) {v : Int32} {m : Nat} (hm : m ≤ 60) (e : v = nI m) : tOk n (upd tt 2 v) := by
  obtain ⟨h1, h2, h3, -⟩ := h
  exact ⟨h1, h2, h3, m, hm, e⟩
theorem tOk.n {n : Nat} {tt : Nat → Int32} (h : tOk n tt) {v : Int32} {m : Nat} (hm : m ≤ 60) (e : v = nI m) : tOk m (upd tt 0 v) := by
  obtain ⟨h1, h2, h3, h4⟩ := h
  exact ⟨e, hm, h3, h4⟩
theorem tOk.at1 {n : Nat} {tt : Nat → Int32} (h : tOk n tt) {sg : Nat → Int32} (hs : sgAt n sg (tt 1) ≠ -1) : tOk n (upd tt 1 (tt 1 + 1)) := by
  obtain ⟨h1, h2, ⟨m, h3, h4⟩, h5⟩ := id h
  rw [h4] at hs ⊢
  have := sgAt_in h2 (by omega) hs
  exact h.at (m := m + 1) (by omega) (nI_1 m)
theorem neg100 : ∀ q : Nat, q < 61 → (-100 : Int32) - nI q < 0 := by decide +kernel
theorem tOk.neg {n : Nat} {tt : Nat → Int32} (h : tOk n tt) : (-100 : Int32) - tt 1 < 0 := by
  obtain ⟨h1, h2, ⟨m, h3, h4⟩, h5⟩ := h
  rw [h4]
  exact neg100 m (by omega)
theorem xb_ch : ∀ i, i < 13 → ∀ j, j < 7 → isCh ((xbyt.getD i []).getD j 0) ∧ (xbyt.getD i []).getD j 0 ≠ -1 := by
  unfold isCh
  decide +kernel
theorem xlen7 : ∀ i, i < 13 → xlen.getD i 0 < 7 := by decide +kernel
/-- an end of the reader's methods -/
def tP (g : xg_T) (w : xw_T) (sz a n : Nat) (R : Option Value → Prop) : Option Value → xw_T → Nat → Prop := fun r w1 sz1 => sz = sz1 ∧ ∃ tt vb, w1 = xup w a (.inr (4, txtL a tt vb)) ∧ tOk n tt ∧ vbOk g vb ∧ R r
def rI (r : Option Value) : Prop := ∃ v : Int32, r = some (.int v)
def rB (r : Option Value) : Prop := ∃ v : Int32, r = some (.int v) ∧ isB v
def rV (g : xg_T) (r : Option Value) : Prop := r = some .null ∨ ∃ i : Nat, i < 8 ∧ r = some (.ref (g.2 (30 + i)))

theorem fm9_e {x : Int32} {j c : Nat} (hj : j < 9) (e : x - x / 9 * 9 = nI j) (hc : c < 2 ^ 31) (hx : x = nI c) : j = c % 9 := by
  have h := congrArg Int32.toInt e
  rw [irem9, hx, nI_toInt hc, nI_toInt (by omega), Int.tmod_eq_emod_of_nonneg (by omega)] at h
  omega
set_option maxHeartbeats 4000000 in
set_option maxRecDepth 100000 in
theorem k_J9_floorMod_7cf53 (l : Launch) (hl : l.stackTraces = false) (g : xg_T) (w : xw_T) (sz : Nat) (x : Int32) : xM l g yJ9_floorMod_7cf53 cJ9_floorMod_7cf53 3 (some .int) ({ frames := 0, cells := 0, slots := 0, locals := 0 }) 0 0 [.int x, .int 9] w sz (fun r w1 sz1 => (∃ j : Nat, j < 9 ∧ r = some (.int (nI j)) ∧ ∀ c : Nat, c < 2 ^ 31 → x = nI c → j = c % 9) ∧ w = w1 ∧ sz = sz1) (fun _ _ _ => False) := by
  refine xM.ofF RJ9 hl (by decide +kernel) rfl (Nat.le_of_ble_eq_true rfl) rfl ?_
  intro p e s m args below meth cD C0 hini
  refine x_iload_n 0 1 C0 dJ9_floorMod_7cf53_0 rfl rfl rfl ?_
  refine x_iload_n 1 2 C0 dJ9_floorMod_7cf53_1 rfl rfl rfl ?_
  refine x_irem 3 C0 dJ9_floorMod_7cf53_2 rfl (by decide) ?_
  refine x_istore_n [(2, .int (x - x / 9 * 9)), (0, .int x), (1, .int 9)] 4 C0 dJ9_floorMod_7cf53_3 rfl rfl (by decide) rfl ?_
  refine x_lv (lv1 := [(0, .int x), (1, .int 9), (2, .int (x - x / 9 * 9))]) [1, 2, 0] rfl ?_
  refine x_iload_n 0 5 C0 dJ9_floorMod_7cf53_4 rfl rfl rfl ?_
  refine x_iload_n 1 6 C0 dJ9_floorMod_7cf53_5 rfl rfl rfl ?_
  refine x_ixor 7 C0 dJ9_floorMod_7cf53_6 rfl ?_
  refine x_if_ge 18 10 C0 dJ9_floorMod_7cf53_7 rfl (by decide) (fun c1 => ?_) (fun c1 => ?_)
  · have c1' := Int32.not_lt.mpr c1
    refine x_iload_n 2 19 C0 dJ9_floorMod_7cf53_18 rfl rfl rfl ?_
    exact x_ireturn C0 dJ9_floorMod_7cf53_19 rfl rfl (Nat.le_of_ble_eq_true rfl) (Nat.le_of_ble_eq_true rfl) ⟨by obtain ⟨j, hj, ej⟩ : ∃ j : Nat, j < 9 ∧ x - x / 9 * 9 = nI j := fm9_a c1; exact ⟨j, hj, congrArg (fun z => some (Value.int z)) ej, fun c hc hx => fm9_e hj ej hc hx⟩, rfl, rfl⟩
  · have c1' := Int32.not_le.mp c1
    refine x_iload_n 2 11 C0 dJ9_floorMod_7cf53_10 rfl rfl rfl ?_
    refine x_if_eq 18 14 C0 dJ9_floorMod_7cf53_11 rfl (by decide) (fun c2 => ?_) (fun c2 => ?_)
    · refine x_iload_n 2 19 C0 dJ9_floorMod_7cf53_18 rfl rfl rfl ?_
      exact x_ireturn C0 dJ9_floorMod_7cf53_19 rfl rfl (Nat.le_of_ble_eq_true rfl) (Nat.le_of_ble_eq_true rfl) ⟨by obtain ⟨j, hj, ej⟩ : ∃ j : Nat, j < 9 ∧ x - x / 9 * 9 = nI j := ⟨0, by omega, c2⟩; exact ⟨j, hj, congrArg (fun z => some (Value.int z)) ej, fun c hc hx => fm9_e hj ej hc hx⟩, rfl, rfl⟩
    · refine x_iload_n 2 15 C0 dJ9_floorMod_7cf53_14 rfl rfl rfl ?_
      refine x_iload_n 1 16 C0 dJ9_floorMod_7cf53_15 rfl rfl rfl ?_
      refine x_iadd 17 C0 dJ9_floorMod_7cf53_16 rfl ?_
      exact x_ireturn C0 dJ9_floorMod_7cf53_17 rfl rfl (Nat.le_of_ble_eq_true rfl) (Nat.le_of_ble_eq_true rfl) ⟨by obtain ⟨j, hj, ej⟩ : ∃ j : Nat, j < 9 ∧ (x - x / 9 * 9) + 9 = nI j := fm9_b c1 c2; exact ⟨j, hj, congrArg (fun z => some (Value.int z)) ej, fun c hc hx => absurd (show (0 : Int32) ≤ x from by rw [hx]; exact nI_pos' hc) (fun z => c1 ((xor9 x).mpr z))⟩, rfl, rfl⟩

set_option maxHeartbeats 4000000 in
set_option maxRecDepth 100000 in
theorem k_Jx29ce0_ordinal_8abf5 (l : Launch) (hl : l.stackTraces = false) (g : xg_T) (w : xw_T) (sz i : Nat) (hi : i < 8) : xM l g yJx29ce0_ordinal_8abf5 cJx29ce0_ordinal_8abf5 1 (some .int) ({ frames := 0, cells := 0, slots := 0, locals := 0 }) 0 0 [.ref (g.2 (30 + i))] w sz (fun r w1 sz1 => r = some (.int (nI i)) ∧ w = w1 ∧ sz = sz1) (fun _ _ _ => False) := by
  refine xM.of RJx29ce0 hl (by decide +kernel) rfl (Nat.le_of_ble_eq_true rfl) rfl ?_
  intro p e s m args below meth cD C0 hini
  refine x_aload_n 0 1 C0 dJx29ce0_ordinal_8abf5_0 rfl rfl rfl ?_
  refine x_getO 4 C0 (v := .int (nI i)) dJx29ce0_ordinal_8abf5_1 rfl (xs_vo C0.2.2.2.2.2.2.2.1.2.2 i hi) mF_Jx29ce0_7 ?_
  exact x_ireturn C0 dJx29ce0_ordinal_8abf5_4 rfl rfl (Nat.le_of_ble_eq_true rfl) (Nat.le_of_ble_eq_true rfl) ⟨rfl, rfl, rfl⟩

set_option maxHeartbeats 4000000 in
set_option maxRecDepth 100000 in
theorem k_X2_clear (l : Launch) (hl : l.stackTraces = false) (g : xg_T) (w : xw_T) (sz a n : Nat) (tt : Nat → Int32) (vb : Option Nat) (sg : Nat → Int32) (hw : w a = some (.inr (4, txtL a tt vb))) (hs : w (a + 1) = some (siE g sg)) (hA : xA g a) (hT : tOk n tt) (hv : vbOk g vb) : xM l g yX2_clear cX2_clear 1 none ({ frames := 0, cells := 0, slots := 0, locals := 0 }) 0 0 [.ref a] w sz (tP g w sz a 0 (fun r => r = none)) (fun _ _ _ => False) := by
  refine xM.of RX2 hl (by decide +kernel) rfl (Nat.le_of_ble_eq_true rfl) rfl ?_
  intro p e s m args below meth cD C0 hini
  refine x_aload_n 0 1 C0 dX2_clear_0 rfl rfl rfl ?_
  refine x_iconst (v := 0) 2 C0 dX2_clear_1 rfl (by decide) ?_
  refine x_putf 1 5 C0 dX2_clear_2 rfl hw hA rfl (by decide) inX2 tyX2_ok nmX2 mF_X2_15 rfl rfl rfl rfl (Nat.le_of_ble_eq_true rfl) ?_
  refine x_w (w1 := (xup w a (.inr (4, txtL a (upd tt 0 0) vb)))) rfl ?_
  have hT1 : tOk 0 (upd tt 0 0) := hT.n (by omega) nI_0.symm
  exact x_return C0 dX2_clear_5 rfl (Nat.le_of_ble_eq_true rfl) (Nat.le_of_ble_eq_true rfl) ⟨rfl, _, _, rfl, hT1, hv, rfl⟩

set_option maxHeartbeats 4000000 in
set_option maxRecDepth 100000 in
theorem k_X2_rewind (l : Launch) (hl : l.stackTraces = false) (g : xg_T) (w : xw_T) (sz a n : Nat) (tt : Nat → Int32) (vb : Option Nat) (sg : Nat → Int32) (hw : w a = some (.inr (4, txtL a tt vb))) (hs : w (a + 1) = some (siE g sg)) (hA : xA g a) (hT : tOk n tt) (hv : vbOk g vb) : xM l g yX2_rewind cX2_rewind 1 none ({ frames := 0, cells := 0, slots := 0, locals := 0 }) 0 0 [.ref a] w sz (tP g w sz a n (fun r => r = none)) (fun _ _ _ => False) := by
  refine xM.of RX2 hl (by decide +kernel) rfl (Nat.le_of_ble_eq_true rfl) rfl ?_
  intro p e s m args below meth cD C0 hini
  refine x_aload_n 0 1 C0 dX2_rewind_0 rfl rfl rfl ?_
  refine x_iconst (v := 0) 2 C0 dX2_rewind_1 rfl (by decide) ?_
  refine x_putf 2 5 C0 dX2_rewind_2 rfl hw hA rfl (by decide) inX2 tyX2_ok nmX2 mF_X2_19 rfl rfl rfl rfl (Nat.le_of_ble_eq_true rfl) ?_
  refine x_w (w1 := (xup w a (.inr (4, txtL a (upd tt 1 0) vb)))) rfl ?_
  have hT1 : tOk n (upd tt 1 0) := hT.at (m := 0) (by omega) nI_0.symm
  exact x_return C0 dX2_rewind_5 rfl (Nat.le_of_ble_eq_true rfl) (Nat.le_of_ble_eq_true rfl) ⟨rfl, _, _, rfl, hT1, hv, rfl⟩

set_option maxHeartbeats 4000000 in
set_option maxRecDepth 100000 in
theorem k_X2_append (l : Launch) (hl : l.stackTraces = false) (g : xg_T) (w : xw_T) (sz a n : Nat) (tt : Nat → Int32) (vb : Option Nat) (sg : Nat → Int32) (hw : w a = some (.inr (4, txtL a tt vb))) (hs : w (a + 1) = some (siE g sg)) (hA : xA g a) (hT : tOk n tt) (hv : vbOk g vb) (c : Int32) : xM l g yX2_append cX2_append 2 (some .boolean) ({ frames := 0, cells := 0, slots := 0, locals := 0 }) 0 0 [.ref a, .int c] w sz (fun r w1 sz1 => sz = sz1 ∧ ((n < 60 ∧ r = some (.int 1) ∧ ∃ sg2 t2, w1 = xup (xup w (a + 1) (siE g sg2)) a (.inr (4, txtL a t2 vb)) ∧ tOk (n + 1) t2) ∨ (n = 60 ∧ r = some (.int 0) ∧ w = w1))) (fun _ _ _ => False) := by
  have hn60 := hT.2.1
  refine xM.of RX2 hl (by decide +kernel) rfl (Nat.le_of_ble_eq_true rfl) rfl ?_
  intro p e s m args below meth cD C0 hini
  refine x_aload_n 0 1 C0 dX2_append_0 rfl rfl rfl ?_
  refine x_getf (v := .int (tt 0)) 1 4 C0 dX2_append_1 rfl hw rfl (by decide) inX2 mF_X2_15 rfl ?_
  refine x_aload_n 0 5 C0 dX2_append_4 rfl rfl rfl ?_
  refine x_getf (v := .ref (a + 1)) 0 8 C0 dX2_append_5 rfl hw rfl (by decide) inX2 mF_X2_9 rfl ?_
  refine x_alen 1 9 C0 (v := 60) dX2_append_8 rfl hs rfl rfl ?_
  refine x_icmp_lt 14 12 C0 dX2_append_9 rfl (by decide) (fun c1 => ?_) (fun c1 => ?_)
  · have c1' := Int32.not_le.mpr c1
    refine x_aload_n 0 15 C0 dX2_append_14 rfl rfl rfl ?_
    refine x_getf (v := .ref (a + 1)) 0 18 C0 dX2_append_15 rfl hw rfl (by decide) inX2 mF_X2_9 rfl ?_
    refine x_aload_n 0 19 C0 dX2_append_18 rfl rfl rfl ?_
    refine x_getf (v := .int (tt 0)) 1 22 C0 dX2_append_19 rfl hw rfl (by decide) inX2 mF_X2_15 rfl ?_
    refine x_iload_n 1 23 C0 dX2_append_22 rfl rfl rfl ?_
    have hn6 : n < 60 := by rw [hT.1] at c1; exact (nI_ltI (by omega) (by omega)).mp c1
    refine x_cast 1 24 C0 (v := vp_nar .char c) dX2_append_23 rfl hs (xA_le hA (by omega)) rfl (by rw [hT.1]; exact vp_in_nI hn6 (by decide)) rfl ?_
    refine x_w (w1 := (xup w (a + 1) (siE g (upd sg n (vp_nar .char c))))) (by rw [hT.1, nI_clamp (by omega)]; rfl) ?_
    refine x_aload_n 0 25 C0 dX2_append_24 rfl rfl rfl ?_
    refine x_dup 26 C0 dX2_append_25 rfl rfl ?_
    refine x_getf (v := .int (tt 0)) 1 29 C0 dX2_append_26 rfl ((xup_n (by omega)).trans hw) rfl (by decide) inX2 mF_X2_15 rfl ?_
    refine x_iconst (v := 1) 30 C0 dX2_append_29 rfl (by decide) ?_
    refine x_iadd 31 C0 dX2_append_30 rfl ?_
    refine x_putf 1 34 C0 dX2_append_31 rfl ((xup_n (by omega)).trans hw) hA rfl (by decide) inX2 tyX2_ok nmX2 mF_X2_15 rfl rfl rfl rfl (Nat.le_of_ble_eq_true rfl) ?_
    refine x_w (w1 := (xup (xup w (a + 1) (siE g (upd sg n (vp_nar .char c)))) a (.inr (4, txtL a (upd tt 0 ((tt 0) + 1)) vb)))) rfl ?_
    have hT2 : tOk (n + 1) (upd tt 0 ((tt 0) + 1)) := hT.n (m := n + 1) (by omega) (by rw [hT.1]; exact nI_1 n)
    refine x_iconst (v := 1) 35 C0 dX2_append_34 rfl (by decide) ?_
    exact x_ireturn C0 dX2_append_35 rfl rfl (Nat.le_of_ble_eq_true rfl) (Nat.le_of_ble_eq_true rfl) ⟨rfl, Or.inl ⟨hn6, rfl, _, _, rfl, hT2⟩⟩
  · have c1' := Int32.not_lt.mp c1
    refine x_iconst (v := 0) 13 C0 dX2_append_12 rfl (by decide) ?_
    exact x_ireturn C0 dX2_append_13 rfl rfl (Nat.le_of_ble_eq_true rfl) (Nat.le_of_ble_eq_true rfl) ⟨rfl, Or.inr ⟨Nat.le_antisymm hT.2.1 (Nat.le_of_not_lt (fun z => c1 (by rw [hT.1]; exact nI_lt z (by decide)))), rfl, rfl⟩⟩

set_option maxHeartbeats 4000000 in
set_option maxRecDepth 100000 in
theorem k_X2_signAt (l : Launch) (hl : l.stackTraces = false) (g : xg_T) (w : xw_T) (sz a n : Nat) (tt : Nat → Int32) (vb : Option Nat) (sg : Nat → Int32) (hw : w a = some (.inr (4, txtL a tt vb))) (hs : w (a + 1) = some (siE g sg)) (hA : xA g a) (hT : tOk n tt) (hv : vbOk g vb) (o : Int32) : xM l g yX2_signAt cX2_signAt 2 (some .int) ({ frames := 0, cells := 0, slots := 0, locals := 0 }) 0 0 [.ref a, .int o] w sz (fun r w1 sz1 => r = some (.int (sgAt n sg o)) ∧ w = w1 ∧ sz = sz1) (fun _ _ _ => False) := by
  refine xM.of RX2 hl (by decide +kernel) rfl (Nat.le_of_ble_eq_true rfl) rfl ?_
  intro p e s m args below meth cD C0 hini
  refine x_iload_n 1 1 C0 dX2_signAt_0 rfl rfl rfl ?_
  refine x_if_lt 30 4 C0 dX2_signAt_1 rfl (by decide) (fun c1 => ?_) (fun c1 => ?_)
  · have c1' := Int32.not_le.mpr c1
    refine x_iconst (v := (-1)) 31 C0 dX2_signAt_30 rfl (by decide) ?_
    exact x_ireturn C0 dX2_signAt_31 rfl rfl (Nat.le_of_ble_eq_true rfl) (Nat.le_of_ble_eq_true rfl) ⟨by rw [show sgAt n sg o = -1 from if_neg (fun z => absurd c1 (Int32.not_lt.mpr z.1))], rfl, rfl⟩
  · have c1' := Int32.not_lt.mp c1
    refine x_iload_n 1 5 C0 dX2_signAt_4 rfl rfl rfl ?_
    refine x_aload_n 0 6 C0 dX2_signAt_5 rfl rfl rfl ?_
    refine x_getf (v := .int (tt 0)) 1 9 C0 dX2_signAt_6 rfl hw rfl (by decide) inX2 mF_X2_15 rfl ?_
    refine x_icmp_ge 30 12 C0 dX2_signAt_9 rfl (by decide) (fun c2 => ?_) (fun c2 => ?_)
    · have c2' := Int32.not_lt.mpr c2
      refine x_iconst (v := (-1)) 31 C0 dX2_signAt_30 rfl (by decide) ?_
      exact x_ireturn C0 dX2_signAt_31 rfl rfl (Nat.le_of_ble_eq_true rfl) (Nat.le_of_ble_eq_true rfl) ⟨by rw [show sgAt n sg o = -1 from if_neg (fun z => absurd (hT.1 ▸ c2) (Int32.not_le.mpr z.2))], rfl, rfl⟩
    · have c2' := Int32.not_le.mp c2
      refine x_iload_n 1 13 C0 dX2_signAt_12 rfl rfl rfl ?_
      refine x_aload_n 0 14 C0 dX2_signAt_13 rfl rfl rfl ?_
      refine x_getf (v := .ref (a + 1)) 0 17 C0 dX2_signAt_14 rfl hw rfl (by decide) inX2 mF_X2_9 rfl ?_
      refine x_alen 1 18 C0 (v := 60) dX2_signAt_17 rfl hs rfl rfl ?_
      refine x_icmp_ge 30 21 C0 dX2_signAt_18 rfl (by decide) (fun c3 => ?_) (fun c3 => ?_)
      · have c3' := Int32.not_lt.mpr c3
        refine x_iconst (v := (-1)) 31 C0 dX2_signAt_30 rfl (by decide) ?_
        exact x_ireturn C0 dX2_signAt_31 rfl rfl (Nat.le_of_ble_eq_true rfl) (Nat.le_of_ble_eq_true rfl) ⟨by rw [show sgAt n sg o = -1 from if_neg (fun z => absurd (Int32.le_trans (nI_le hT.2.1 (by decide)) c3) (Int32.not_le.mpr z.2))], rfl, rfl⟩
      · have c3' := Int32.not_le.mp c3
        refine x_aload_n 0 22 C0 dX2_signAt_21 rfl rfl rfl ?_
        refine x_getf (v := .ref (a + 1)) 0 25 C0 dX2_signAt_22 rfl hw rfl (by decide) inX2 mF_X2_9 rfl ?_
        refine x_iload_n 1 26 C0 dX2_signAt_25 rfl rfl rfl ?_
        obtain ⟨j, rfl, hj⟩ := i32_nat (n := 60) rfl (by decide) (Int32.not_lt.mp c1) (Int32.not_le.mp c3)
        refine x_cald 1 27 C0 dX2_signAt_26 rfl hs rfl (vp_in_nI hj (by decide)) ?_
        refine x_goto 31 C0 dX2_signAt_27 (by decide) ?_
        exact x_ireturn C0 dX2_signAt_31 rfl rfl (Nat.le_of_ble_eq_true rfl) (Nat.le_of_ble_eq_true rfl) ⟨by rw [show sgAt n sg (nI j) = sg (nI j).toNatClampNeg from if_pos ⟨Int32.not_lt.mp c1, hT.1 ▸ Int32.not_le.mp c2⟩], rfl, rfl⟩

set_option maxHeartbeats 4000000 in
set_option maxRecDepth 100000 in
theorem k_X2_readSign (l : Launch) (hl : l.stackTraces = false) (g : xg_T) (w : xw_T) (sz a n : Nat) (tt : Nat → Int32) (vb : Option Nat) (sg : Nat → Int32) (hw : w a = some (.inr (4, txtL a tt vb))) (hs : w (a + 1) = some (siE g sg)) (hA : xA g a) (hT : tOk n tt) (hv : vbOk g vb) (c : Int32) (hc : ¬ c = -1) : xM l g yX2_readSign cX2_readSign 2 (some .boolean) ({ frames := 1, cells := 0, slots := 0, locals := 21 }) 0 0 [.ref a, .int c] w sz (tP g w sz a n rB) (fun _ _ _ => False) := by
  refine xM.of RX2 hl (by decide +kernel) rfl (Nat.le_of_ble_eq_true rfl) rfl ?_
  intro p e s m args below meth cD C0 hini
  refine x_aload_n 0 1 C0 dX2_readSign_0 rfl rfl rfl ?_
  refine x_aload_n 0 2 C0 dX2_readSign_1 rfl rfl rfl ?_
  refine x_getf (v := .int (tt 1)) 2 5 C0 dX2_readSign_2 rfl hw rfl (by decide) inX2 mF_X2_19 rfl ?_
  refine x_callV 8 C0 (k_X2_signAt l hl g _ _ a _ _ _ _ hw hs hA hT hv (tt 1)) dX2_readSign_5 rfl mC_X2_signAt mM_X2_65 mI_X2_signAt mV_X2_signAt mN_X2 yd_X2_signAt rfl rfl ⟨Nat.le_of_ble_eq_true rfl, Nat.le_of_ble_eq_true rfl⟩ hw rfl rfl rfl rfl (Nat.le_of_ble_eq_true rfl) ⟨Nat.le_of_ble_eq_true rfl, Nat.le_of_ble_eq_true rfl⟩ (fun _ _ _ q => False.elim q) (fun r w1 sz1 hz hP => ?_)
  obtain ⟨rfl, rfl, rfl⟩ := hP
  refine x_st (st1 := [.int (sgAt n sg (tt 1))]) rfl ?_
  refine x_iload_n 1 9 C0 dX2_readSign_8 rfl rfl rfl ?_
  refine x_icmp_eq 14 12 C0 dX2_readSign_9 rfl (by decide) (fun c1 => ?_) (fun c1 => ?_)
  · refine x_aload_n 0 15 C0 dX2_readSign_14 rfl rfl rfl ?_
    refine x_dup 16 C0 dX2_readSign_15 rfl rfl ?_
    refine x_getf (v := .int (tt 1)) 2 19 C0 dX2_readSign_16 rfl hw rfl (by decide) inX2 mF_X2_19 rfl ?_
    refine x_iconst (v := 1) 20 C0 dX2_readSign_19 rfl (by decide) ?_
    refine x_iadd 21 C0 dX2_readSign_20 rfl ?_
    refine x_putf 2 24 C0 dX2_readSign_21 rfl hw hA rfl (by decide) inX2 tyX2_ok nmX2 mF_X2_19 rfl rfl rfl rfl (Nat.le_of_ble_eq_true rfl) ?_
    refine x_w (w1 := (xup w a (.inr (4, txtL a (upd tt 1 ((tt 1) + 1)) vb)))) rfl ?_
    have hT2 : tOk n (upd tt 1 ((tt 1) + 1)) := hT.at1 (fun z => hc (c1.symm.trans z))
    refine x_iconst (v := 1) 25 C0 dX2_readSign_24 rfl (by decide) ?_
    exact x_ireturn C0 dX2_readSign_25 rfl (rfl) (Nat.le_of_ble_eq_true rfl) (Nat.le_of_ble_eq_true rfl) ⟨rfl, _, _, rfl, hT2, hv, _, rfl, Or.inr rfl⟩
  · refine x_iconst (v := 0) 13 C0 dX2_readSign_12 rfl (by decide) ?_
    exact x_ireturn C0 dX2_readSign_13 rfl (rfl) (Nat.le_of_ble_eq_true rfl) (Nat.le_of_ble_eq_true rfl) ⟨rfl, _, _, xup_id hw, hT, hv, _, rfl, Or.inl rfl⟩

set_option maxHeartbeats 4000000 in
set_option maxRecDepth 100000 in
theorem k_X2_readDigit (l : Launch) (hl : l.stackTraces = false) (g : xg_T) (w : xw_T) (sz a n : Nat) (tt : Nat → Int32) (vb : Option Nat) (sg : Nat → Int32) (hw : w a = some (.inr (4, txtL a tt vb))) (hs : w (a + 1) = some (siE g sg)) (hA : xA g a) (hT : tOk n tt) (hv : vbOk g vb) : xM l g yX2_readDigit cX2_readDigit 2 (some .int) ({ frames := 1, cells := 0, slots := 0, locals := 21 }) 0 0 [.ref a] w sz (tP g w sz a n rI) (fun _ _ _ => False) := by
  refine xM.of RX2 hl (by decide +kernel) rfl (Nat.le_of_ble_eq_true rfl) rfl ?_
  intro p e s m args below meth cD C0 hini
  refine x_aload_n 0 1 C0 dX2_readDigit_0 rfl rfl rfl ?_
  refine x_aload_n 0 2 C0 dX2_readDigit_1 rfl rfl rfl ?_
  refine x_getf (v := .int (tt 1)) 2 5 C0 dX2_readDigit_2 rfl hw rfl (by decide) inX2 mF_X2_19 rfl ?_
  refine x_callV 8 C0 (k_X2_signAt l hl g _ _ a _ _ _ _ hw hs hA hT hv (tt 1)) dX2_readDigit_5 rfl mC_X2_signAt mM_X2_65 mI_X2_signAt mV_X2_signAt mN_X2 yd_X2_signAt rfl rfl ⟨Nat.le_of_ble_eq_true rfl, Nat.le_of_ble_eq_true rfl⟩ hw rfl rfl rfl rfl (Nat.le_of_ble_eq_true rfl) ⟨Nat.le_of_ble_eq_true rfl, Nat.le_of_ble_eq_true rfl⟩ (fun _ _ _ q => False.elim q) (fun r w1 sz1 hz hP => ?_)
  obtain ⟨rfl, rfl, rfl⟩ := hP
  refine x_st (st1 := [.int (sgAt n sg (tt 1))]) rfl ?_
  refine x_istore_n [(1, .int (sgAt n sg (tt 1))), (0, .ref a)] 9 C0 dX2_readDigit_8 rfl rfl (by decide) rfl ?_
  refine x_lv (lv1 := [(0, .ref a), (1, .int (sgAt n sg (tt 1)))]) [1, 0] rfl ?_
  refine x_iload_n 1 10 C0 dX2_readDigit_9 rfl rfl rfl ?_
  refine x_bipush (v := 48) 12 C0 dX2_readDigit_10 rfl (by decide) ?_
  refine x_icmp_lt 21 15 C0 dX2_readDigit_12 rfl (by decide) (fun c1 => ?_) (fun c1 => ?_)
  · have c1' := Int32.not_le.mpr c1
    refine x_iconst (v := (-1)) 22 C0 dX2_readDigit_21 rfl (by decide) ?_
    exact x_ireturn C0 dX2_readDigit_22 rfl rfl (Nat.le_of_ble_eq_true rfl) (Nat.le_of_ble_eq_true rfl) ⟨rfl, _, _, xup_id hw, hT, hv, _, rfl⟩
  · have c1' := Int32.not_lt.mp c1
    refine x_iload_n 1 16 C0 dX2_readDigit_15 rfl rfl rfl ?_
    refine x_bipush (v := 57) 18 C0 dX2_readDigit_16 rfl (by decide) ?_
    refine x_icmp_le 23 21 C0 dX2_readDigit_18 rfl (by decide) (fun c2 => ?_) (fun c2 => ?_)
    · have c2' := Int32.not_lt.mpr c2
      refine x_aload_n 0 24 C0 dX2_readDigit_23 rfl rfl rfl ?_
      refine x_dup 25 C0 dX2_readDigit_24 rfl rfl ?_
      refine x_getf (v := .int (tt 1)) 2 28 C0 dX2_readDigit_25 rfl hw rfl (by decide) inX2 mF_X2_19 rfl ?_
      refine x_iconst (v := 1) 29 C0 dX2_readDigit_28 rfl (by decide) ?_
      refine x_iadd 30 C0 dX2_readDigit_29 rfl ?_
      refine x_putf 2 33 C0 dX2_readDigit_30 rfl hw hA rfl (by decide) inX2 tyX2_ok nmX2 mF_X2_19 rfl rfl rfl rfl (Nat.le_of_ble_eq_true rfl) ?_
      refine x_w (w1 := (xup w a (.inr (4, txtL a (upd tt 1 ((tt 1) + 1)) vb)))) rfl ?_
      have hT3 : tOk n (upd tt 1 ((tt 1) + 1)) := hT.at1 (fun z => absurd (z ▸ c1) (by decide))
      refine x_iload_n 1 34 C0 dX2_readDigit_33 rfl rfl rfl ?_
      refine x_bipush (v := 48) 36 C0 dX2_readDigit_34 rfl (by decide) ?_
      refine x_isub 37 C0 dX2_readDigit_36 rfl ?_
      exact x_ireturn C0 dX2_readDigit_37 rfl rfl (Nat.le_of_ble_eq_true rfl) (Nat.le_of_ble_eq_true rfl) ⟨rfl, _, _, rfl, hT3, hv, _, rfl⟩
    · have c2' := Int32.not_le.mp c2
      refine x_iconst (v := (-1)) 22 C0 dX2_readDigit_21 rfl (by decide) ?_
      exact x_ireturn C0 dX2_readDigit_22 rfl rfl (Nat.le_of_ble_eq_true rfl) (Nat.le_of_ble_eq_true rfl) ⟨rfl, _, _, xup_id hw, hT, hv, _, rfl⟩

set_option maxHeartbeats 4000000 in
set_option maxRecDepth 100000 in
theorem k_X2_readNumber (l : Launch) (hl : l.stackTraces = false) (g : xg_T) (w : xw_T) (sz a n : Nat) (tt : Nat → Int32) (vb : Option Nat) (sg : Nat → Int32) (hw : w a = some (.inr (4, txtL a tt vb))) (hs : w (a + 1) = some (siE g sg)) (hA : xA g a) (hT : tOk n tt) (hv : vbOk g vb) : xM l g yX2_readNumber cX2_readNumber 3 (some .int) ({ frames := 2, cells := 0, slots := 0, locals := 42 }) 0 0 [.ref a] w sz (tP g w sz a n rI) (fun _ _ _ => False) := by
  refine xM.of RX2 hl (by decide +kernel) rfl (Nat.le_of_ble_eq_true rfl) rfl ?_
  intro p e s m args below meth cD C0 hini
  refine x_aload_n 0 1 C0 dX2_readNumber_0 rfl rfl rfl ?_
  refine x_callV 4 C0 (k_X2_readDigit l hl g _ _ a _ _ _ _ hw hs hA hT hv) dX2_readNumber_1 rfl mC_X2_readDigit mM_X2_69 mI_X2_readDigit mV_X2_readDigit mN_X2 yd_X2_readDigit rfl rfl ⟨Nat.le_of_ble_eq_true rfl, Nat.le_of_ble_eq_true rfl⟩ hw rfl rfl rfl rfl (Nat.le_of_ble_eq_true rfl) ⟨Nat.le_of_ble_eq_true rfl, Nat.le_of_ble_eq_true rfl⟩ (fun _ _ _ q => False.elim q) (fun r w1 sz1 hz hP => ?_)
  obtain ⟨rfl, t1, v1, rfl, hT1, hv1, b1, rfl⟩ := hP
  refine x_st (st1 := [.int b1]) rfl ?_
  refine x_istore_n [(1, .int b1), (0, .ref a)] 5 C0 dX2_readNumber_4 rfl rfl (by decide) rfl ?_
  refine x_lv (lv1 := [(0, .ref a), (1, .int b1)]) [1, 0] rfl ?_
  refine x_iload_n 1 6 C0 dX2_readNumber_5 rfl rfl rfl ?_
  refine x_if_ge 11 9 C0 dX2_readNumber_6 rfl (by decide) (fun c2 => ?_) (fun c2 => ?_)
  · have c2' := Int32.not_lt.mpr c2
    refine x_aload_n 0 12 C0 dX2_readNumber_11 rfl rfl rfl ?_
    refine x_callV 15 C0 (k_X2_readDigit l hl g _ _ a _ _ _ _ (xup_s _ _ _) ((xup_n (by omega)).trans hs) hA hT1 hv1) dX2_readNumber_12 rfl mC_X2_readDigit mM_X2_69 mI_X2_readDigit mV_X2_readDigit mN_X2 yd_X2_readDigit rfl rfl ⟨Nat.le_of_ble_eq_true rfl, Nat.le_of_ble_eq_true rfl⟩ (xup_s _ _ _) rfl rfl rfl rfl (Nat.le_of_ble_eq_true rfl) ⟨Nat.le_of_ble_eq_true rfl, Nat.le_of_ble_eq_true rfl⟩ (fun _ _ _ q => False.elim q) (fun r w1 sz1 hz hP => ?_)
    obtain ⟨rfl, t3, v3, rfl, hT3, hv3, b3, rfl⟩ := hP
    refine x_w (xup_2 _ _ _ _) ?_
    refine x_st (st1 := [.int b3]) rfl ?_
    refine x_istore_n [(2, .int b3), (0, .ref a), (1, .int b1)] 16 C0 dX2_readNumber_15 rfl rfl (by decide) rfl ?_
    refine x_lv (lv1 := [(0, .ref a), (1, .int b1), (2, .int b3)]) [1, 2, 0] rfl ?_
    refine x_iload_n 2 17 C0 dX2_readNumber_16 rfl rfl rfl ?_
    refine x_if_ge 24 20 C0 dX2_readNumber_17 rfl (by decide) (fun c4 => ?_) (fun c4 => ?_)
    · have c4' := Int32.not_lt.mpr c4
      refine x_bipush (v := 10) 26 C0 dX2_readNumber_24 rfl (by decide) ?_
      refine x_iload_n 1 27 C0 dX2_readNumber_26 rfl rfl rfl ?_
      refine x_imul 28 C0 dX2_readNumber_27 rfl ?_
      refine x_iload_n 2 29 C0 dX2_readNumber_28 rfl rfl rfl ?_
      refine x_iadd 30 C0 dX2_readNumber_29 rfl ?_
      exact x_ireturn C0 dX2_readNumber_30 rfl rfl (Nat.le_of_ble_eq_true rfl) (Nat.le_of_ble_eq_true rfl) ⟨rfl, _, _, rfl, hT3, hv3, _, rfl⟩
    · have c4' := Int32.not_le.mp c4
      refine x_iload_n 1 21 C0 dX2_readNumber_20 rfl rfl rfl ?_
      refine x_goto 30 C0 dX2_readNumber_21 (by decide) ?_
      exact x_ireturn C0 dX2_readNumber_30 rfl rfl (Nat.le_of_ble_eq_true rfl) (Nat.le_of_ble_eq_true rfl) ⟨rfl, _, _, rfl, hT3, hv3, _, rfl⟩
  · have c2' := Int32.not_le.mp c2
    refine x_iconst (v := (-1)) 10 C0 dX2_readNumber_9 rfl (by decide) ?_
    exact x_ireturn C0 dX2_readNumber_10 rfl rfl (Nat.le_of_ble_eq_true rfl) (Nat.le_of_ble_eq_true rfl) ⟨rfl, _, _, rfl, hT1, hv1, _, rfl⟩

set_option maxHeartbeats 4000000 in
set_option maxRecDepth 100000 in
theorem k_X2_readChest (l : Launch) (hl : l.stackTraces = false) (g : xg_T) (w : xw_T) (sz a n : Nat) (tt : Nat → Int32) (vb : Option Nat) (sg : Nat → Int32) (hw : w a = some (.inr (4, txtL a tt vb))) (hs : w (a + 1) = some (siE g sg)) (hA : xA g a) (hT : tOk n tt) (hv : vbOk g vb) : xM l g yX2_readChest cX2_readChest 1 (some .boolean) ({ frames := 3, cells := 0, slots := 0, locals := 64 }) 0 0 [.ref a] w sz (tP g w sz a n rB) (fun _ _ _ => False) := by
  refine xM.of RX2 hl (by decide +kernel) rfl (Nat.le_of_ble_eq_true rfl) rfl ?_
  intro p e s m args below meth cD C0 hini
  refine x_aload_n 0 1 C0 dX2_readChest_0 rfl rfl rfl ?_
  refine x_aload_n 0 2 C0 dX2_readChest_1 rfl rfl rfl ?_
  refine x_callV 5 C0 (k_X2_readNumber l hl g _ _ a _ _ _ _ hw hs hA hT hv) dX2_readChest_2 rfl mC_X2_readNumber mM_X2_78 mI_X2_readNumber mV_X2_readNumber mN_X2 yd_X2_readNumber rfl rfl ⟨Nat.le_of_ble_eq_true rfl, Nat.le_of_ble_eq_true rfl⟩ hw rfl rfl rfl rfl (Nat.le_of_ble_eq_true rfl) ⟨Nat.le_of_ble_eq_true rfl, Nat.le_of_ble_eq_true rfl⟩ (fun _ _ _ q => False.elim q) (fun r w1 sz1 hz hP => ?_)
  obtain ⟨rfl, t1, v1, rfl, hT1, hv1, b1, rfl⟩ := hP
  refine x_st (st1 := [.int b1, .ref a]) rfl ?_
  refine x_putf 5 8 C0 dX2_readChest_5 rfl (xup_s _ _ _) hA rfl (by decide) inX2 tyX2_ok nmX2 mF_X2_81 rfl rfl rfl rfl (Nat.le_of_ble_eq_true rfl) ?_
  refine x_w (w1 := (xup w a (.inr (4, txtL a (upd t1 3 b1) v1)))) (xup_2 _ _ _ _) ?_
  have hT2 : tOk n (upd t1 3 b1) := hT1.up (by decide)
  refine x_aload_n 0 9 C0 dX2_readChest_8 rfl rfl rfl ?_
  refine x_getf (v := .int b1) 5 12 C0 dX2_readChest_9 rfl (xup_s _ _ _) rfl (by decide) inX2 mF_X2_81 rfl ?_
  refine x_if_lt 19 15 C0 dX2_readChest_12 rfl (by decide) (fun c3 => ?_) (fun c3 => ?_)
  · have c3' := Int32.not_le.mpr c3
    refine x_iconst (v := 0) 20 C0 dX2_readChest_19 rfl (by decide) ?_
    exact x_ireturn C0 dX2_readChest_20 rfl (rfl) (Nat.le_of_ble_eq_true rfl) (Nat.le_of_ble_eq_true rfl) ⟨rfl, _, _, rfl, hT2, hv1, _, rfl, Or.inl rfl⟩
  · have c3' := Int32.not_lt.mp c3
    refine x_iconst (v := 1) 16 C0 dX2_readChest_15 rfl (by decide) ?_
    refine x_goto 20 C0 dX2_readChest_16 (by decide) ?_
    exact x_ireturn C0 dX2_readChest_20 rfl (rfl) (Nat.le_of_ble_eq_true rfl) (Nat.le_of_ble_eq_true rfl) ⟨rfl, _, _, rfl, hT2, hv1, _, rfl, Or.inr rfl⟩

set_option maxHeartbeats 4000000 in
set_option maxRecDepth 100000 in
theorem k_X2_readManyAsNumber (l : Launch) (hl : l.stackTraces = false) (g : xg_T) (w : xw_T) (sz a n : Nat) (tt : Nat → Int32) (vb : Option Nat) (sg : Nat → Int32) (hw : w a = some (.inr (4, txtL a tt vb))) (hs : w (a + 1) = some (siE g sg)) (hA : xA g a) (hT : tOk n tt) (hv : vbOk g vb) : xM l g yX2_readManyAsNumber cX2_readManyAsNumber 1 (some .boolean) ({ frames := 3, cells := 0, slots := 0, locals := 64 }) 0 0 [.ref a] w sz (tP g w sz a n rB) (fun _ _ _ => False) := by
  refine xM.of RX2 hl (by decide +kernel) rfl (Nat.le_of_ble_eq_true rfl) rfl ?_
  intro p e s m args below meth cD C0 hini
  refine x_aload_n 0 1 C0 dX2_readManyAsNumber_0 rfl rfl rfl ?_
  refine x_aload_n 0 2 C0 dX2_readManyAsNumber_1 rfl rfl rfl ?_
  refine x_callV 5 C0 (k_X2_readNumber l hl g _ _ a _ _ _ _ hw hs hA hT hv) dX2_readManyAsNumber_2 rfl mC_X2_readNumber mM_X2_78 mI_X2_readNumber mV_X2_readNumber mN_X2 yd_X2_readNumber rfl rfl ⟨Nat.le_of_ble_eq_true rfl, Nat.le_of_ble_eq_true rfl⟩ hw rfl rfl rfl rfl (Nat.le_of_ble_eq_true rfl) ⟨Nat.le_of_ble_eq_true rfl, Nat.le_of_ble_eq_true rfl⟩ (fun _ _ _ q => False.elim q) (fun r w1 sz1 hz hP => ?_)
  obtain ⟨rfl, t1, v1, rfl, hT1, hv1, b1, rfl⟩ := hP
  refine x_st (st1 := [.int b1, .ref a]) rfl ?_
  refine x_putf 8 8 C0 dX2_readManyAsNumber_5 rfl (xup_s _ _ _) hA rfl (by decide) inX2 tyX2_ok nmX2 mF_X2_84 rfl rfl rfl rfl (Nat.le_of_ble_eq_true rfl) ?_
  refine x_w (w1 := (xup w a (.inr (4, txtL a (upd t1 6 b1) v1)))) (xup_2 _ _ _ _) ?_
  have hT2 : tOk n (upd t1 6 b1) := hT1.up (by decide)
  refine x_aload_n 0 9 C0 dX2_readManyAsNumber_8 rfl rfl rfl ?_
  refine x_getf (v := .int b1) 8 12 C0 dX2_readManyAsNumber_9 rfl (xup_s _ _ _) rfl (by decide) inX2 mF_X2_84 rfl ?_
  refine x_if_lt 19 15 C0 dX2_readManyAsNumber_12 rfl (by decide) (fun c3 => ?_) (fun c3 => ?_)
  · have c3' := Int32.not_le.mpr c3
    refine x_iconst (v := 0) 20 C0 dX2_readManyAsNumber_19 rfl (by decide) ?_
    exact x_ireturn C0 dX2_readManyAsNumber_20 rfl (rfl) (Nat.le_of_ble_eq_true rfl) (Nat.le_of_ble_eq_true rfl) ⟨rfl, _, _, rfl, hT2, hv1, _, rfl, Or.inl rfl⟩
  · have c3' := Int32.not_lt.mp c3
    refine x_iconst (v := 1) 16 C0 dX2_readManyAsNumber_15 rfl (by decide) ?_
    refine x_goto 20 C0 dX2_readManyAsNumber_16 (by decide) ?_
    exact x_ireturn C0 dX2_readManyAsNumber_20 rfl (rfl) (Nat.le_of_ble_eq_true rfl) (Nat.le_of_ble_eq_true rfl) ⟨rfl, _, _, rfl, hT2, hv1, _, rfl, Or.inr rfl⟩

set_option maxHeartbeats 4000000 in
set_option maxRecDepth 100000 in
theorem k_X2_readManyAsDigit (l : Launch) (hl : l.stackTraces = false) (g : xg_T) (w : xw_T) (sz a n : Nat) (tt : Nat → Int32) (vb : Option Nat) (sg : Nat → Int32) (hw : w a = some (.inr (4, txtL a tt vb))) (hs : w (a + 1) = some (siE g sg)) (hA : xA g a) (hT : tOk n tt) (hv : vbOk g vb) : xM l g yX2_readManyAsDigit cX2_readManyAsDigit 1 (some .boolean) ({ frames := 2, cells := 0, slots := 0, locals := 42 }) 0 0 [.ref a] w sz (tP g w sz a n rB) (fun _ _ _ => False) := by
  refine xM.of RX2 hl (by decide +kernel) rfl (Nat.le_of_ble_eq_true rfl) rfl ?_
  intro p e s m args below meth cD C0 hini
  refine x_aload_n 0 1 C0 dX2_readManyAsDigit_0 rfl rfl rfl ?_
  refine x_aload_n 0 2 C0 dX2_readManyAsDigit_1 rfl rfl rfl ?_
  refine x_callV 5 C0 (k_X2_readDigit l hl g _ _ a _ _ _ _ hw hs hA hT hv) dX2_readManyAsDigit_2 rfl mC_X2_readDigit mM_X2_69 mI_X2_readDigit mV_X2_readDigit mN_X2 yd_X2_readDigit rfl rfl ⟨Nat.le_of_ble_eq_true rfl, Nat.le_of_ble_eq_true rfl⟩ hw rfl rfl rfl rfl (Nat.le_of_ble_eq_true rfl) ⟨Nat.le_of_ble_eq_true rfl, Nat.le_of_ble_eq_true rfl⟩ (fun _ _ _ q => False.elim q) (fun r w1 sz1 hz hP => ?_)
  obtain ⟨rfl, t1, v1, rfl, hT1, hv1, b1, rfl⟩ := hP
  refine x_st (st1 := [.int b1, .ref a]) rfl ?_
  refine x_putf 8 8 C0 dX2_readManyAsDigit_5 rfl (xup_s _ _ _) hA rfl (by decide) inX2 tyX2_ok nmX2 mF_X2_84 rfl rfl rfl rfl (Nat.le_of_ble_eq_true rfl) ?_
  refine x_w (w1 := (xup w a (.inr (4, txtL a (upd t1 6 b1) v1)))) (xup_2 _ _ _ _) ?_
  have hT2 : tOk n (upd t1 6 b1) := hT1.up (by decide)
  refine x_aload_n 0 9 C0 dX2_readManyAsDigit_8 rfl rfl rfl ?_
  refine x_getf (v := .int b1) 8 12 C0 dX2_readManyAsDigit_9 rfl (xup_s _ _ _) rfl (by decide) inX2 mF_X2_84 rfl ?_
  refine x_if_lt 19 15 C0 dX2_readManyAsDigit_12 rfl (by decide) (fun c3 => ?_) (fun c3 => ?_)
  · have c3' := Int32.not_le.mpr c3
    refine x_iconst (v := 0) 20 C0 dX2_readManyAsDigit_19 rfl (by decide) ?_
    exact x_ireturn C0 dX2_readManyAsDigit_20 rfl (rfl) (Nat.le_of_ble_eq_true rfl) (Nat.le_of_ble_eq_true rfl) ⟨rfl, _, _, rfl, hT2, hv1, _, rfl, Or.inl rfl⟩
  · have c3' := Int32.not_lt.mp c3
    refine x_iconst (v := 1) 16 C0 dX2_readManyAsDigit_15 rfl (by decide) ?_
    refine x_goto 20 C0 dX2_readManyAsDigit_16 (by decide) ?_
    exact x_ireturn C0 dX2_readManyAsDigit_20 rfl (rfl) (Nat.le_of_ble_eq_true rfl) (Nat.le_of_ble_eq_true rfl) ⟨rfl, _, _, rfl, hT2, hv1, _, rfl, Or.inr rfl⟩

set_option maxHeartbeats 4000000 in
set_option maxRecDepth 100000 in
theorem k_X2_readWord (l : Launch) (hl : l.stackTraces = false) (g : xg_T) (w : xw_T) (sz a n : Nat) (tt : Nat → Int32) (vb : Option Nat) (sg : Nat → Int32) (hw : w a = some (.inr (4, txtL a tt vb))) (hs : w (a + 1) = some (siE g sg)) (hA : xA g a) (hT : tOk n tt) (hv : vbOk g vb) (i0 : Nat) (hi0 : i0 < 13) : xM l g yX2_readWord cX2_readWord 3 (some .boolean) ({ frames := 4, cells := 0, slots := 0, locals := 85 }) 0 0 [.ref a, .ref (g.2 (100 + i0))] w sz (tP g w sz a n rB) (fun _ _ _ => False) := by
  obtain ⟨q, hq60, hq⟩ := hT.2.2.1
  obtain ⟨f, hf60, hf⟩ := hT.2.2.2
  have hn60 := hT.2.1
  have hL := xlen7 i0 hi0
  refine xM.of RX2 hl (by decide +kernel) rfl (Nat.le_of_ble_eq_true rfl) rfl ?_
  intro p e s m args below meth cD C0 hini
  refine x_iconst (v := 0) 1 C0 dX2_readWord_0 rfl (by decide) ?_
  refine x_istore_n [(2, .int 0), (0, .ref a), (1, .ref (g.2 (100 + i0)))] 2 C0 dX2_readWord_1 rfl rfl (by decide) rfl ?_
  refine x_lv (lv1 := [(0, .ref a), (1, .ref (g.2 (100 + i0))), (2, .int 0)]) [1, 2, 0] rfl ?_
  have loop2 : ∀ (N i : Nat), i ≤ xlen.getD i0 0 → xlen.getD i0 0 - i < N → (i = 0 ∨ q + i ≤ n) → xV p l e ({ frames := 4, cells := 0, slots := 0, locals := 85 }) s m args below meth cD (xQ g below (tP g w sz a n rB) (fun _ _ _ => False) args s 0 0) g 3 w sz (0) (0) 2 [(0, .ref a), (1, .ref (g.2 (100 + i0))), (2, .int (nI i))] [] := by
    intro N
    induction N with
    | zero => intro i h1 h2; omega
    | succ N ih =>
      intro i hi hN hI
      have h60 : q + i ≤ 60 := by omega
      refine x_iload_n 2 3 C0 dX2_readWord_2 rfl rfl rfl ?_
      refine x_aload_n 1 4 C0 dX2_readWord_3 rfl rfl rfl ?_
      refine x_callR 7 (C := RJ0) C0 (k_J0_length_8abf5 l hl g _ _ _ _ _ _ (xStrV.const g w i0 hi0)) dX2_readWord_4 rfl mC_J0_length_8abf5 mM_X2_112 mI_J0_length_8abf5 mV_J0_length_8abf5 mN_J0 yd_J0_length_8abf5 rfl rfl ⟨Nat.le_of_ble_eq_true rfl, Nat.le_of_ble_eq_true rfl⟩ (xRecv.str C0 (xStrV.const g w i0 hi0)) rfl rfl (Nat.le_of_ble_eq_true rfl) ⟨Nat.le_of_ble_eq_true rfl, Nat.le_of_ble_eq_true rfl⟩ (fun _ _ _ q => False.elim q) (fun r w1 sz1 hz hP => ?_)
      obtain ⟨rfl, rfl, rfl⟩ := hP
      refine x_st (st1 := [.int (nI (xlen.getD i0 0)), .int (nI i)]) rfl ?_
      refine x_icmp_ge 34 10 C0 dX2_readWord_7 rfl (by decide) (fun c1 => ?_) (fun c1 => ?_)
      · have hE := ix_eq (xlen.getD i0 0) rfl (by omega) hi c1
        refine x_iload_n 2 35 C0 dX2_readWord_34 rfl rfl rfl ?_
        refine x_aload_n 1 36 C0 dX2_readWord_35 rfl rfl rfl ?_
        refine x_callR 39 (C := RJ0) C0 (k_J0_length_8abf5 l hl g _ _ _ _ _ _ (xStrV.const g w i0 hi0)) dX2_readWord_36 rfl mC_J0_length_8abf5 mM_X2_112 mI_J0_length_8abf5 mV_J0_length_8abf5 mN_J0 yd_J0_length_8abf5 rfl rfl ⟨Nat.le_of_ble_eq_true rfl, Nat.le_of_ble_eq_true rfl⟩ (xRecv.str C0 (xStrV.const g w i0 hi0)) rfl rfl (Nat.le_of_ble_eq_true rfl) ⟨Nat.le_of_ble_eq_true rfl, Nat.le_of_ble_eq_true rfl⟩ (fun _ _ _ q => False.elim q) (fun r w1 sz1 hz hP => ?_)
        obtain ⟨rfl, rfl, rfl⟩ := hP
        refine x_st (st1 := [.int (nI (xlen.getD i0 0)), .int (nI i)]) rfl ?_
        refine x_icmp_ne 54 42 C0 dX2_readWord_39 rfl (by decide) (fun c2 => ?_) (fun c2 => ?_)
        · refine x_aload_n 0 55 C0 dX2_readWord_54 rfl rfl rfl ?_
          refine x_aload_n 0 56 C0 dX2_readWord_55 rfl rfl rfl ?_
          refine x_getf (v := .int (tt 2)) 3 59 C0 dX2_readWord_56 rfl hw rfl (by decide) inX2 mF_X2_87 rfl ?_
          refine x_aload_n 0 60 C0 dX2_readWord_59 rfl rfl rfl ?_
          refine x_getf (v := .int (tt 1)) 2 63 C0 dX2_readWord_60 rfl hw rfl (by decide) inX2 mF_X2_19 rfl ?_
          refine x_iload_n 2 64 C0 dX2_readWord_63 rfl rfl rfl ?_
          refine x_iadd 65 C0 dX2_readWord_64 rfl ?_
          refine x_st (st1 := [.int (nI (q + i)), .int (tt 2), .ref a]) (congrArg (fun z => Value.int z :: _) (by rw [hq]; exact nI_add q i)) ?_
          refine x_mmax 68 C0 dX2_readWord_65 rfl mM_X2_120 mS_Math_max mN_J9 mC_Math_max (Nat.le_of_ble_eq_true rfl) (Nat.le_of_ble_eq_true rfl) (Nat.le_of_ble_eq_true rfl) (Nat.le_of_ble_eq_true rfl) ?_
          refine x_putf 3 71 C0 dX2_readWord_68 rfl hw hA rfl (by decide) inX2 tyX2_ok nmX2 mF_X2_87 rfl rfl rfl rfl (Nat.le_of_ble_eq_true rfl) ?_
          refine x_w (w1 := (xup w a (.inr (4, txtL a (upd tt 2 (if tt 2 < (nI (q + i)) then nI (q + i) else tt 2)) vb)))) rfl ?_
          have hT3 : tOk n (upd tt 2 (if tt 2 < (nI (q + i)) then nI (q + i) else tt 2)) := hT.fa (m := if f < q + i then q + i else f) (by split <;> omega) (by rw [hf]; by_cases hz9 : f < q + i; exact (if_pos (nI_lt hz9 (by omega))).trans (congrArg nI (if_pos hz9).symm); exact (if_neg (fun z => hz9 ((nI_ltI (by omega) (by omega)).mp z))).trans (congrArg nI (if_neg hz9).symm))
          refine x_iconst (v := 0) 72 C0 dX2_readWord_71 rfl (by decide) ?_
          exact x_ireturn C0 dX2_readWord_72 rfl (rfl) (Nat.le_of_ble_eq_true rfl) (Nat.le_of_ble_eq_true rfl) ⟨rfl, _, _, rfl, hT3, hv, _, rfl, Or.inl rfl⟩
        · refine x_aload_n 0 43 C0 dX2_readWord_42 rfl rfl rfl ?_
          refine x_dup 44 C0 dX2_readWord_43 rfl rfl ?_
          refine x_getf (v := .int (tt 1)) 2 47 C0 dX2_readWord_44 rfl hw rfl (by decide) inX2 mF_X2_19 rfl ?_
          refine x_iload_n 2 48 C0 dX2_readWord_47 rfl rfl rfl ?_
          refine x_iadd 49 C0 dX2_readWord_48 rfl ?_
          refine x_st (st1 := [.int (nI (q + i)), .ref a]) (congrArg (fun z => Value.int z :: _) (by rw [hq]; exact nI_add q i)) ?_
          refine x_putf 2 52 C0 dX2_readWord_49 rfl hw hA rfl (by decide) inX2 tyX2_ok nmX2 mF_X2_19 rfl rfl rfl rfl (Nat.le_of_ble_eq_true rfl) ?_
          refine x_w (w1 := (xup w a (.inr (4, txtL a (upd tt 1 (nI (q + i))) vb)))) rfl ?_
          have hT4 : tOk n (upd tt 1 (nI (q + i))) := hT.at h60 rfl
          refine x_iconst (v := 1) 53 C0 dX2_readWord_52 rfl (by decide) ?_
          exact x_ireturn C0 dX2_readWord_53 rfl (rfl) (Nat.le_of_ble_eq_true rfl) (Nat.le_of_ble_eq_true rfl) ⟨rfl, _, _, rfl, hT4, hv, _, rfl, Or.inr rfl⟩
      · have hi2 := ix_lt (xlen.getD i0 0) rfl (by omega) hi c1
        refine x_aload_n 0 11 C0 dX2_readWord_10 rfl rfl rfl ?_
        refine x_aload_n 0 12 C0 dX2_readWord_11 rfl rfl rfl ?_
        refine x_getf (v := .int (tt 1)) 2 15 C0 dX2_readWord_12 rfl hw rfl (by decide) inX2 mF_X2_19 rfl ?_
        refine x_iload_n 2 16 C0 dX2_readWord_15 rfl rfl rfl ?_
        refine x_iadd 17 C0 dX2_readWord_16 rfl ?_
        refine x_st (st1 := [.int (nI (q + i)), .ref a]) (congrArg (fun z => Value.int z :: _) (by rw [hq]; exact nI_add q i)) ?_
        refine x_callV 20 C0 (k_X2_signAt l hl g _ _ a _ _ _ _ hw hs hA hT hv (nI (q + i))) dX2_readWord_17 rfl mC_X2_signAt mM_X2_65 mI_X2_signAt mV_X2_signAt mN_X2 yd_X2_signAt rfl rfl ⟨Nat.le_of_ble_eq_true rfl, Nat.le_of_ble_eq_true rfl⟩ hw rfl rfl rfl rfl (Nat.le_of_ble_eq_true rfl) ⟨Nat.le_of_ble_eq_true rfl, Nat.le_of_ble_eq_true rfl⟩ (fun _ _ _ q => False.elim q) (fun r w1 sz1 hz hP => ?_)
        obtain ⟨rfl, rfl, rfl⟩ := hP
        refine x_st (st1 := [.int (sgAt n sg (nI (q + i)))]) rfl ?_
        refine x_aload_n 1 21 C0 dX2_readWord_20 rfl rfl rfl ?_
        refine x_iload_n 2 22 C0 dX2_readWord_21 rfl rfl rfl ?_
        refine x_callR 25 (C := RJ0) C0 (k_J0_charAt_5068e l hl g _ _ _ _ _ _ (xStrV.const g w i0 hi0) i hi2 (by omega) (xb_ch i0 hi0 i (by omega)).1) dX2_readWord_22 rfl mC_J0_charAt_5068e mM_X2_116 mI_J0_charAt_5068e mV_J0_charAt_5068e mN_J0 yd_J0_charAt_5068e rfl rfl ⟨Nat.le_of_ble_eq_true rfl, Nat.le_of_ble_eq_true rfl⟩ (xRecv.str C0 (xStrV.const g w i0 hi0)) rfl rfl (Nat.le_of_ble_eq_true rfl) ⟨Nat.le_of_ble_eq_true rfl, Nat.le_of_ble_eq_true rfl⟩ (fun _ _ _ q => False.elim q) (fun r w1 sz1 hz hP => ?_)
        obtain ⟨rfl, rfl, rfl⟩ := hP
        refine x_st (st1 := [.int ((xbyt.getD i0 []).getD i 0), .int (sgAt n sg (nI (q + i)))]) rfl ?_
        refine x_icmp_ne 34 28 C0 dX2_readWord_25 rfl (by decide) (fun c5 => ?_) (fun c5 => ?_)
        · refine x_iload_n 2 35 C0 dX2_readWord_34 rfl rfl rfl ?_
          refine x_aload_n 1 36 C0 dX2_readWord_35 rfl rfl rfl ?_
          refine x_callR 39 (C := RJ0) C0 (k_J0_length_8abf5 l hl g _ _ _ _ _ _ (xStrV.const g w i0 hi0)) dX2_readWord_36 rfl mC_J0_length_8abf5 mM_X2_112 mI_J0_length_8abf5 mV_J0_length_8abf5 mN_J0 yd_J0_length_8abf5 rfl rfl ⟨Nat.le_of_ble_eq_true rfl, Nat.le_of_ble_eq_true rfl⟩ (xRecv.str C0 (xStrV.const g w i0 hi0)) rfl rfl (Nat.le_of_ble_eq_true rfl) ⟨Nat.le_of_ble_eq_true rfl, Nat.le_of_ble_eq_true rfl⟩ (fun _ _ _ q => False.elim q) (fun r w1 sz1 hz hP => ?_)
          obtain ⟨rfl, rfl, rfl⟩ := hP
          refine x_st (st1 := [.int (nI (xlen.getD i0 0)), .int (nI i)]) rfl ?_
          refine x_icmp_ne 54 42 C0 dX2_readWord_39 rfl (by decide) (fun c6 => ?_) (fun c6 => ?_)
          · refine x_aload_n 0 55 C0 dX2_readWord_54 rfl rfl rfl ?_
            refine x_aload_n 0 56 C0 dX2_readWord_55 rfl rfl rfl ?_
            refine x_getf (v := .int (tt 2)) 3 59 C0 dX2_readWord_56 rfl hw rfl (by decide) inX2 mF_X2_87 rfl ?_
            refine x_aload_n 0 60 C0 dX2_readWord_59 rfl rfl rfl ?_
            refine x_getf (v := .int (tt 1)) 2 63 C0 dX2_readWord_60 rfl hw rfl (by decide) inX2 mF_X2_19 rfl ?_
            refine x_iload_n 2 64 C0 dX2_readWord_63 rfl rfl rfl ?_
            refine x_iadd 65 C0 dX2_readWord_64 rfl ?_
            refine x_st (st1 := [.int (nI (q + i)), .int (tt 2), .ref a]) (congrArg (fun z => Value.int z :: _) (by rw [hq]; exact nI_add q i)) ?_
            refine x_mmax 68 C0 dX2_readWord_65 rfl mM_X2_120 mS_Math_max mN_J9 mC_Math_max (Nat.le_of_ble_eq_true rfl) (Nat.le_of_ble_eq_true rfl) (Nat.le_of_ble_eq_true rfl) (Nat.le_of_ble_eq_true rfl) ?_
            refine x_putf 3 71 C0 dX2_readWord_68 rfl hw hA rfl (by decide) inX2 tyX2_ok nmX2 mF_X2_87 rfl rfl rfl rfl (Nat.le_of_ble_eq_true rfl) ?_
            refine x_w (w1 := (xup w a (.inr (4, txtL a (upd tt 2 (if tt 2 < (nI (q + i)) then nI (q + i) else tt 2)) vb)))) rfl ?_
            have hT7 : tOk n (upd tt 2 (if tt 2 < (nI (q + i)) then nI (q + i) else tt 2)) := hT.fa (m := if f < q + i then q + i else f) (by split <;> omega) (by rw [hf]; by_cases hz9 : f < q + i; exact (if_pos (nI_lt hz9 (by omega))).trans (congrArg nI (if_pos hz9).symm); exact (if_neg (fun z => hz9 ((nI_ltI (by omega) (by omega)).mp z))).trans (congrArg nI (if_neg hz9).symm))
            refine x_iconst (v := 0) 72 C0 dX2_readWord_71 rfl (by decide) ?_
            exact x_ireturn C0 dX2_readWord_72 rfl (rfl) (Nat.le_of_ble_eq_true rfl) (Nat.le_of_ble_eq_true rfl) ⟨rfl, _, _, rfl, hT7, hv, _, rfl, Or.inl rfl⟩
          · refine x_aload_n 0 43 C0 dX2_readWord_42 rfl rfl rfl ?_
            refine x_dup 44 C0 dX2_readWord_43 rfl rfl ?_
            refine x_getf (v := .int (tt 1)) 2 47 C0 dX2_readWord_44 rfl hw rfl (by decide) inX2 mF_X2_19 rfl ?_
            refine x_iload_n 2 48 C0 dX2_readWord_47 rfl rfl rfl ?_
            refine x_iadd 49 C0 dX2_readWord_48 rfl ?_
            refine x_st (st1 := [.int (nI (q + i)), .ref a]) (congrArg (fun z => Value.int z :: _) (by rw [hq]; exact nI_add q i)) ?_
            refine x_putf 2 52 C0 dX2_readWord_49 rfl hw hA rfl (by decide) inX2 tyX2_ok nmX2 mF_X2_19 rfl rfl rfl rfl (Nat.le_of_ble_eq_true rfl) ?_
            refine x_w (w1 := (xup w a (.inr (4, txtL a (upd tt 1 (nI (q + i))) vb)))) rfl ?_
            have hT8 : tOk n (upd tt 1 (nI (q + i))) := hT.at h60 rfl
            refine x_iconst (v := 1) 53 C0 dX2_readWord_52 rfl (by decide) ?_
            exact x_ireturn C0 dX2_readWord_53 rfl (rfl) (Nat.le_of_ble_eq_true rfl) (Nat.le_of_ble_eq_true rfl) ⟨rfl, _, _, rfl, hT8, hv, _, rfl, Or.inr rfl⟩
        · refine x_iinc [(2, .int (nI (i + 1))), (0, .ref a), (1, .ref (g.2 (100 + i0)))] 2 31 C0 dX2_readWord_28 rfl rfl (nI_1 i) (by decide) rfl ?_
          refine x_lv (lv1 := [(0, .ref a), (1, .ref (g.2 (100 + i0))), (2, .int (nI (i + 1)))]) [1, 2, 0] rfl ?_
          refine x_goto 2 C0 dX2_readWord_31 (by decide) ?_
          exact ih (i + 1) (by omega) (by omega) (Or.inr (by have := sgAt_in hT.2.1 (by omega) (fun z => (xb_ch i0 hi0 i (by omega)).2 (c5.symm.trans z)); omega))
  exact x_lv [0, 1, 2] rfl (loop2 (xlen.getD i0 0 + 1) 0 (by omega) (by omega) (Or.inl rfl))

set_option maxHeartbeats 4000000 in
set_option maxRecDepth 100000 in
theorem k_X2_readVerb (l : Launch) (hl : l.stackTraces = false) (g : xg_T) (w : xw_T) (sz a n : Nat) (tt : Nat → Int32) (vb : Option Nat) (sg : Nat → Int32) (hw : w a = some (.inr (4, txtL a tt vb))) (hs : w (a + 1) = some (siE g sg)) (hA : xA g a) (hT : tOk n tt) (hv : vbOk g vb) : xM l g yX2_readVerb cX2_readVerb 5 (some (.object "TeaChests$Verb")) ({ frames := 5, cells := 0, slots := 0, locals := 107 }) 0 0 [.ref a] w sz (tP g w sz a n (rV g)) (fun _ _ _ => False) := by
  refine xM.of RX2 hl (by decide +kernel) rfl (Nat.le_of_ble_eq_true rfl) rfl ?_
  intro p e s m args below meth cD C0 hini
  refine x_aload_n 0 1 C0 dX2_readVerb_0 rfl rfl rfl ?_
  refine x_aload_n 0 2 C0 dX2_readVerb_1 rfl rfl rfl ?_
  refine x_getf (v := .int (tt 1)) 2 5 C0 dX2_readVerb_2 rfl hw rfl (by decide) inX2 mF_X2_19 rfl ?_
  refine x_putf 3 8 C0 dX2_readVerb_5 rfl hw hA rfl (by decide) inX2 tyX2_ok nmX2 mF_X2_87 rfl rfl rfl rfl (Nat.le_of_ble_eq_true rfl) ?_
  refine x_w (w1 := (xup w a (.inr (4, txtL a (upd tt 2 (tt 1)) vb)))) rfl ?_
  have hT1 : tOk n (upd tt 2 (tt 1)) := hT.fa (by exact (hT.2.2.1.choose_spec).1) (hT.2.2.1.choose_spec).2
  refine x_getsN 11 C0 dX2_readVerb_8 rfl (xs_verbs C0.2.2.2.2.2.2.2.1.2.2).1 (xs_nf C0.2.2.2.2.2.2.2.1.2.2 (RX2, 90, "TeaChests", "VERBS", "[LTeaChests$Verb;", "TeaChests") (by decide +kernel)) ?_
  refine x_astore_n [(1, .ref (g.2 11)), (0, .ref a)] 12 C0 dX2_readVerb_11 rfl rfl (by decide) rfl ?_
  refine x_lv (lv1 := [(0, .ref a), (1, .ref (g.2 11))]) [1, 0] rfl ?_
  refine x_aload_n 1 13 C0 dX2_readVerb_12 rfl rfl rfl ?_
  refine x_tlen 14 C0 dX2_readVerb_13 rfl (xs_verbs C0.2.2.2.2.2.2.2.1.2.2).2 (v := 8) rfl ?_
  refine x_istore_n [(2, .int 8), (0, .ref a), (1, .ref (g.2 11))] 15 C0 dX2_readVerb_14 rfl rfl (by decide) rfl ?_
  refine x_lv (lv1 := [(0, .ref a), (1, .ref (g.2 11)), (2, .int 8)]) [1, 2, 0] rfl ?_
  refine x_iconst (v := 0) 16 C0 dX2_readVerb_15 rfl (by decide) ?_
  refine x_istore_n [(3, .int 0), (0, .ref a), (1, .ref (g.2 11)), (2, .int 8)] 17 C0 dX2_readVerb_16 rfl rfl (by decide) rfl ?_
  refine x_lv (lv1 := [(0, .ref a), (1, .ref (g.2 11)), (2, .int 8), (3, .int 0)]) [1, 2, 3, 0] rfl ?_
  have loop17 : ∀ (N i : Nat), i ≤ 8 → 8 - i < N → ∀ (t : Nat → Int32) (v : Option Nat), tOk n t → vbOk g v → xV p l e ({ frames := 5, cells := 0, slots := 0, locals := 107 }) s m args below meth cD (xQ g below (tP g w sz a n (rV g)) (fun _ _ _ => False) args s 0 0) g 5 (xup w a (.inr (4, txtL a t v))) sz (0) (0) 17 [(0, .ref a), (1, .ref (g.2 11)), (2, .int 8), (3, .int (nI i))] [] := by
    intro N
    induction N with
    | zero => intro i h1 h2; omega
    | succ N ih =>
      intro i hi hN t v hT0 hv0
      refine x_iload_n 3 18 C0 dX2_readVerb_17 rfl rfl rfl ?_
      refine x_iload_n 2 19 C0 dX2_readVerb_18 rfl rfl rfl ?_
      refine x_icmp_ge 48 22 C0 dX2_readVerb_19 rfl (by decide) (fun c2 => ?_) (fun c2 => ?_)
      · refine x_aload_n 0 49 C0 dX2_readVerb_48 rfl rfl rfl ?_
        refine x_aload_n 0 50 C0 dX2_readVerb_49 rfl rfl rfl ?_
        refine x_getf (v := .int (t 2)) 3 53 C0 dX2_readVerb_50 rfl (xup_s _ _ _) rfl (by decide) inX2 mF_X2_87 rfl ?_
        refine x_putf 2 56 C0 dX2_readVerb_53 rfl (xup_s _ _ _) hA rfl (by decide) inX2 tyX2_ok nmX2 mF_X2_19 rfl rfl rfl rfl (Nat.le_of_ble_eq_true rfl) ?_
        refine x_w (w1 := (xup w a (.inr (4, txtL a (upd t 1 (t 2)) v)))) (xup_2 _ _ _ _) ?_
        have hT3 : tOk n (upd t 1 (t 2)) := hT0.at ((hT0.2.2.2.choose_spec).1) (hT0.2.2.2.choose_spec).2
        refine x_null 57 C0 dX2_readVerb_56 rfl ?_
        exact x_areturn C0 dX2_readVerb_57 rfl (Or.inl ⟨_, rfl⟩) (Or.inl rfl) (Nat.le_of_ble_eq_true rfl) (Nat.le_of_ble_eq_true rfl) ⟨rfl, _, _, rfl, hT3, hv0, Or.inl rfl⟩
      · have hi2 := ix_lt 8 rfl (by decide) hi c2
        refine x_aload_n 1 23 C0 dX2_readVerb_22 rfl rfl rfl ?_
        refine x_iload_n 3 24 C0 dX2_readVerb_23 rfl rfl rfl ?_
        refine x_tq 25 C0 (v := .ref (g.2 (30 + i))) dX2_readVerb_24 rfl (xs_verbs C0.2.2.2.2.2.2.2.1.2.2).2 (vp_in_nI hi2 (by decide)) (by rw [nI_clamp (by omega)]) ?_
        refine x_astore [(4, .ref (g.2 (30 + i))), (0, .ref a), (1, .ref (g.2 11)), (2, .int 8), (3, .int (nI i))] 27 C0 dX2_readVerb_25 rfl (by decide) rfl ?_
        refine x_lv (lv1 := [(0, .ref a), (1, .ref (g.2 11)), (2, .int 8), (3, .int (nI i)), (4, .ref (g.2 (30 + i)))]) [1, 2, 3, 4, 0] rfl ?_
        refine x_aload_n 0 28 C0 dX2_readVerb_27 rfl rfl rfl ?_
        refine x_aload 4 30 C0 dX2_readVerb_28 rfl rfl ?_
        refine x_getO 33 C0 (v := .ref (g.2 (105 + i))) dX2_readVerb_30 rfl (xs_vw C0.2.2.2.2.2.2.2.1.2.2 i hi2) mF_X2_94 ?_
        refine x_st (st1 := [.ref (g.2 (100 + (5 + i))), .ref a]) (by rw [show 105 + i = 100 + (5 + i) by omega]) ?_
        refine x_callV 36 C0 (k_X2_readWord l hl g _ _ a _ _ _ _ (xup_s _ _ _) ((xup_n (by omega)).trans hs) hA hT0 hv0 (5 + i) (by omega)) dX2_readVerb_33 rfl mC_X2_readWord mM_X2_98 mI_X2_readWord mV_X2_readWord mN_X2 yd_X2_readWord rfl rfl ⟨Nat.le_of_ble_eq_true rfl, Nat.le_of_ble_eq_true rfl⟩ (xup_s _ _ _) rfl rfl rfl rfl (Nat.le_of_ble_eq_true rfl) ⟨Nat.le_of_ble_eq_true rfl, Nat.le_of_ble_eq_true rfl⟩ (fun _ _ _ q => False.elim q) (fun r w1 sz1 hz hP => ?_)
        obtain ⟨rfl, t4, v4, rfl, hT4, hv4, b4, rfl, hb4⟩ := hP
        refine x_w (xup_2 _ _ _ _) ?_
        refine x_st (st1 := [.int b4]) rfl ?_
        refine x_if_eq 42 39 C0 dX2_readVerb_36 rfl (by decide) (fun c5 => ?_) (fun c5 => ?_)
        · refine x_iinc [(3, .int (nI (i + 1))), (0, .ref a), (1, .ref (g.2 11)), (2, .int 8), (4, .ref (g.2 (30 + i)))] 3 45 C0 dX2_readVerb_42 rfl rfl (nI_1 i) (by decide) rfl ?_
          refine x_lv (lv1 := [(0, .ref a), (1, .ref (g.2 11)), (2, .int 8), (3, .int (nI (i + 1))), (4, .ref (g.2 (30 + i)))]) [1, 2, 3, 0, 4] rfl ?_
          refine x_goto 17 C0 dX2_readVerb_45 (by decide) ?_
          exact x_lv [0, 1, 2, 3] rfl (ih (i + 1) (by omega) (by omega) _ _ hT4 hv4)
        · refine x_aload 4 41 C0 dX2_readVerb_39 rfl rfl ?_
          exact x_areturn C0 dX2_readVerb_41 rfl (Or.inl ⟨_, rfl⟩) (Or.inr ⟨_, rfl⟩) (Nat.le_of_ble_eq_true rfl) (Nat.le_of_ble_eq_true rfl) ⟨rfl, _, _, rfl, hT4, hv4, Or.inr ⟨i, hi2, rfl⟩⟩
  exact x_lv [0, 1, 2, 3] rfl (loop17 9 0 (by omega) (by omega) _ _ hT1 hv)

set_option maxHeartbeats 4000000 in
set_option maxRecDepth 100000 in
theorem k_X2_readKind (l : Launch) (hl : l.stackTraces = false) (g : xg_T) (w : xw_T) (sz a n : Nat) (tt : Nat → Int32) (vb : Option Nat) (sg : Nat → Int32) (hw : w a = some (.inr (4, txtL a tt vb))) (hs : w (a + 1) = some (siE g sg)) (hA : xA g a) (hT : tOk n tt) (hv : vbOk g vb) : xM l g yX2_readKind cX2_readKind 2 (some .boolean) ({ frames := 5, cells := 0, slots := 0, locals := 107 }) 0 0 [.ref a] w sz (tP g w sz a n rB) (fun _ _ _ => False) := by
  refine xM.of RX2 hl (by decide +kernel) rfl (Nat.le_of_ble_eq_true rfl) rfl ?_
  intro p e s m args below meth cD C0 hini
  refine x_aload_n 0 1 C0 dX2_readKind_0 rfl rfl rfl ?_
  refine x_aload_n 0 2 C0 dX2_readKind_1 rfl rfl rfl ?_
  refine x_getf (v := .int (tt 1)) 2 5 C0 dX2_readKind_2 rfl hw rfl (by decide) inX2 mF_X2_19 rfl ?_
  refine x_putf 3 8 C0 dX2_readKind_5 rfl hw hA rfl (by decide) inX2 tyX2_ok nmX2 mF_X2_87 rfl rfl rfl rfl (Nat.le_of_ble_eq_true rfl) ?_
  refine x_w (w1 := (xup w a (.inr (4, txtL a (upd tt 2 (tt 1)) vb)))) rfl ?_
  have hT1 : tOk n (upd tt 2 (tt 1)) := hT.fa (by exact (hT.2.2.1.choose_spec).1) (hT.2.2.1.choose_spec).2
  refine x_iconst (v := 0) 9 C0 dX2_readKind_8 rfl (by decide) ?_
  refine x_istore_n [(1, .int 0), (0, .ref a)] 10 C0 dX2_readKind_9 rfl rfl (by decide) rfl ?_
  refine x_lv (lv1 := [(0, .ref a), (1, .int 0)]) [1, 0] rfl ?_
  have loop10 : ∀ (N i : Nat), i ≤ 3 → 3 - i < N → ∀ (t : Nat → Int32) (v : Option Nat), tOk n t → vbOk g v → xV p l e ({ frames := 5, cells := 0, slots := 0, locals := 107 }) s m args below meth cD (xQ g below (tP g w sz a n rB) (fun _ _ _ => False) args s 0 0) g 2 (xup w a (.inr (4, txtL a t v))) sz (0) (0) 10 [(0, .ref a), (1, .int (nI i))] [] := by
    intro N
    induction N with
    | zero => intro i h1 h2; omega
    | succ N ih =>
      intro i hi hN t v hT0 hv0
      refine x_iload_n 1 11 C0 dX2_readKind_10 rfl rfl rfl ?_
      refine x_getsN 14 C0 dX2_readKind_11 rfl (xs_kinds C0.2.2.2.2.2.2.2.1.2.2).1 (xs_nf C0.2.2.2.2.2.2.2.1.2.2 (RX2, 102, "TeaChests", "KINDS", "[LTeaChests$Kind;", "TeaChests") (by decide +kernel)) ?_
      refine x_tlen 15 C0 dX2_readKind_14 rfl (xs_kinds C0.2.2.2.2.2.2.2.1.2.2).2 (v := 3) rfl ?_
      refine x_icmp_ge 46 18 C0 dX2_readKind_15 rfl (by decide) (fun c2 => ?_) (fun c2 => ?_)
      · refine x_aload_n 0 47 C0 dX2_readKind_46 rfl rfl rfl ?_
        refine x_aload_n 0 48 C0 dX2_readKind_47 rfl rfl rfl ?_
        refine x_getf (v := .int (t 2)) 3 51 C0 dX2_readKind_48 rfl (xup_s _ _ _) rfl (by decide) inX2 mF_X2_87 rfl ?_
        refine x_putf 2 54 C0 dX2_readKind_51 rfl (xup_s _ _ _) hA rfl (by decide) inX2 tyX2_ok nmX2 mF_X2_19 rfl rfl rfl rfl (Nat.le_of_ble_eq_true rfl) ?_
        refine x_w (w1 := (xup w a (.inr (4, txtL a (upd t 1 (t 2)) v)))) (xup_2 _ _ _ _) ?_
        have hT3 : tOk n (upd t 1 (t 2)) := hT0.at ((hT0.2.2.2.choose_spec).1) (hT0.2.2.2.choose_spec).2
        refine x_iconst (v := 0) 55 C0 dX2_readKind_54 rfl (by decide) ?_
        exact x_ireturn C0 dX2_readKind_55 rfl (rfl) (Nat.le_of_ble_eq_true rfl) (Nat.le_of_ble_eq_true rfl) ⟨rfl, _, _, rfl, hT3, hv0, _, rfl, Or.inl rfl⟩
      · have hi2 := ix_lt 3 rfl (by decide) hi c2
        refine x_aload_n 0 19 C0 dX2_readKind_18 rfl rfl rfl ?_
        refine x_getsN 22 C0 dX2_readKind_19 rfl (xs_kinds C0.2.2.2.2.2.2.2.1.2.2).1 (xs_nf C0.2.2.2.2.2.2.2.1.2.2 (RX2, 102, "TeaChests", "KINDS", "[LTeaChests$Kind;", "TeaChests") (by decide +kernel)) ?_
        refine x_iload_n 1 23 C0 dX2_readKind_22 rfl rfl rfl ?_
        refine x_tq 24 C0 (v := .ref (g.2 (20 + i))) dX2_readKind_23 rfl (xs_kinds C0.2.2.2.2.2.2.2.1.2.2).2 (vp_in_nI hi2 (by decide)) (by rw [nI_clamp (by omega)]) ?_
        refine x_getO 27 C0 (v := .ref (g.2 (102 + i))) dX2_readKind_24 rfl (xs_kw C0.2.2.2.2.2.2.2.1.2.2 i hi2) mF_X2_106 ?_
        refine x_st (st1 := [.ref (g.2 (100 + (2 + i))), .ref a]) (by rw [show 102 + i = 100 + (2 + i) by omega]) ?_
        refine x_callV 30 C0 (k_X2_readWord l hl g _ _ a _ _ _ _ (xup_s _ _ _) ((xup_n (by omega)).trans hs) hA hT0 hv0 (2 + i) (by omega)) dX2_readKind_27 rfl mC_X2_readWord mM_X2_98 mI_X2_readWord mV_X2_readWord mN_X2 yd_X2_readWord rfl rfl ⟨Nat.le_of_ble_eq_true rfl, Nat.le_of_ble_eq_true rfl⟩ (xup_s _ _ _) rfl rfl rfl rfl (Nat.le_of_ble_eq_true rfl) ⟨Nat.le_of_ble_eq_true rfl, Nat.le_of_ble_eq_true rfl⟩ (fun _ _ _ q => False.elim q) (fun r w1 sz1 hz hP => ?_)
        obtain ⟨rfl, t4, v4, rfl, hT4, hv4, b4, rfl, hb4⟩ := hP
        refine x_w (xup_2 _ _ _ _) ?_
        refine x_st (st1 := [.int b4]) rfl ?_
        refine x_if_eq 40 33 C0 dX2_readKind_30 rfl (by decide) (fun c5 => ?_) (fun c5 => ?_)
        · refine x_iinc [(1, .int (nI (i + 1))), (0, .ref a)] 1 43 C0 dX2_readKind_40 rfl rfl (nI_1 i) (by decide) rfl ?_
          refine x_lv (lv1 := [(0, .ref a), (1, .int (nI (i + 1)))]) [1, 0] rfl ?_
          refine x_goto 10 C0 dX2_readKind_43 (by decide) ?_
          exact x_lv [0, 1] rfl (ih (i + 1) (by omega) (by omega) _ _ hT4 hv4)
        · refine x_aload_n 0 34 C0 dX2_readKind_33 rfl rfl rfl ?_
          refine x_iload_n 1 35 C0 dX2_readKind_34 rfl rfl rfl ?_
          refine x_putf 7 38 C0 dX2_readKind_35 rfl (xup_s _ _ _) hA rfl (by decide) inX2 tyX2_ok nmX2 mF_X2_109 rfl rfl rfl rfl (Nat.le_of_ble_eq_true rfl) ?_
          refine x_w (w1 := (xup w a (.inr (4, txtL a (upd t4 5 (nI i)) v4)))) (xup_2 _ _ _ _) ?_
          have hT6 : tOk n (upd t4 5 (nI i)) := hT4.up (by decide)
          refine x_iconst (v := 1) 39 C0 dX2_readKind_38 rfl (by decide) ?_
          exact x_ireturn C0 dX2_readKind_39 rfl (rfl) (Nat.le_of_ble_eq_true rfl) (Nat.le_of_ble_eq_true rfl) ⟨rfl, _, _, rfl, hT6, hv4, _, rfl, Or.inr rfl⟩
  exact x_lv [0, 1] rfl (loop10 4 0 (by omega) (by omega) _ _ hT1 hv)

set_option maxHeartbeats 4000000 in
set_option maxRecDepth 100000 in
theorem k_X2_readLeaf (l : Launch) (hl : l.stackTraces = false) (g : xg_T) (w : xw_T) (sz a n : Nat) (tt : Nat → Int32) (vb : Option Nat) (sg : Nat → Int32) (hw : w a = some (.inr (4, txtL a tt vb))) (hs : w (a + 1) = some (siE g sg)) (hA : xA g a) (hT : tOk n tt) (hv : vbOk g vb) : xM l g yX2_readLeaf cX2_readLeaf 1 (some .boolean) ({ frames := 6, cells := 0, slots := 0, locals := 128 }) 0 0 [.ref a] w sz (tP g w sz a n rB) (fun _ _ _ => False) := by
  refine xM.of RX2 hl (by decide +kernel) rfl (Nat.le_of_ble_eq_true rfl) rfl ?_
  intro p e s m args below meth cD C0 hini
  refine x_aload_n 0 1 C0 dX2_readLeaf_0 rfl rfl rfl ?_
  refine x_aload_n 0 2 C0 dX2_readLeaf_1 rfl rfl rfl ?_
  refine x_callV 5 C0 (k_X2_readDigit l hl g _ _ a _ _ _ _ hw hs hA hT hv) dX2_readLeaf_2 rfl mC_X2_readDigit mM_X2_69 mI_X2_readDigit mV_X2_readDigit mN_X2 yd_X2_readDigit rfl rfl ⟨Nat.le_of_ble_eq_true rfl, Nat.le_of_ble_eq_true rfl⟩ hw rfl rfl rfl rfl (Nat.le_of_ble_eq_true rfl) ⟨Nat.le_of_ble_eq_true rfl, Nat.le_of_ble_eq_true rfl⟩ (fun _ _ _ q => False.elim q) (fun r w1 sz1 hz hP => ?_)
  obtain ⟨rfl, t1, v1, rfl, hT1, hv1, b1, rfl⟩ := hP
  refine x_st (st1 := [.int b1, .ref a]) rfl ?_
  refine x_putf 6 8 C0 dX2_readLeaf_5 rfl (xup_s _ _ _) hA rfl (by decide) inX2 tyX2_ok nmX2 mF_X2_72 rfl rfl rfl rfl (Nat.le_of_ble_eq_true rfl) ?_
  refine x_w (w1 := (xup w a (.inr (4, txtL a (upd t1 4 b1) v1)))) (xup_2 _ _ _ _) ?_
  have hT2 : tOk n (upd t1 4 b1) := hT1.up (by decide)
  refine x_aload_n 0 9 C0 dX2_readLeaf_8 rfl rfl rfl ?_
  refine x_getf (v := .int b1) 6 12 C0 dX2_readLeaf_9 rfl (xup_s _ _ _) rfl (by decide) inX2 mF_X2_72 rfl ?_
  refine x_if_lt 35 15 C0 dX2_readLeaf_12 rfl (by decide) (fun c3 => ?_) (fun c3 => ?_)
  · have c3' := Int32.not_le.mpr c3
    refine x_iconst (v := 0) 36 C0 dX2_readLeaf_35 rfl (by decide) ?_
    exact x_ireturn C0 dX2_readLeaf_36 rfl (rfl) (Nat.le_of_ble_eq_true rfl) (Nat.le_of_ble_eq_true rfl) ⟨rfl, _, _, rfl, hT2, hv1, _, rfl, Or.inl rfl⟩
  · have c3' := Int32.not_lt.mp c3
    refine x_aload_n 0 16 C0 dX2_readLeaf_15 rfl rfl rfl ?_
    refine x_bipush (v := 46) 18 C0 dX2_readLeaf_16 rfl (by decide) ?_
    refine x_callV 21 C0 (k_X2_readSign l hl g _ _ a _ _ _ _ (xup_s _ _ _) ((xup_n (by omega)).trans hs) hA hT2 hv1 46 (by decide)) dX2_readLeaf_18 rfl mC_X2_readSign mM_X2_29 mI_X2_readSign mV_X2_readSign mN_X2 yd_X2_readSign rfl rfl ⟨Nat.le_of_ble_eq_true rfl, Nat.le_of_ble_eq_true rfl⟩ (xup_s _ _ _) rfl rfl rfl rfl (Nat.le_of_ble_eq_true rfl) ⟨Nat.le_of_ble_eq_true rfl, Nat.le_of_ble_eq_true rfl⟩ (fun _ _ _ q => False.elim q) (fun r w1 sz1 hz hP => ?_)
    obtain ⟨rfl, t4, v4, rfl, hT4, hv4, b4, rfl, hb4⟩ := hP
    refine x_w (xup_2 _ _ _ _) ?_
    refine x_st (st1 := [.int b4]) rfl ?_
    refine x_if_eq 35 24 C0 dX2_readLeaf_21 rfl (by decide) (fun c5 => ?_) (fun c5 => ?_)
    · refine x_iconst (v := 0) 36 C0 dX2_readLeaf_35 rfl (by decide) ?_
      exact x_ireturn C0 dX2_readLeaf_36 rfl (rfl) (Nat.le_of_ble_eq_true rfl) (Nat.le_of_ble_eq_true rfl) ⟨rfl, _, _, rfl, hT4, hv4, _, rfl, Or.inl rfl⟩
    · refine x_aload_n 0 25 C0 dX2_readLeaf_24 rfl rfl rfl ?_
      refine x_callV 28 C0 (k_X2_readKind l hl g _ _ a _ _ _ _ (xup_s _ _ _) ((xup_n (by omega)).trans hs) hA hT4 hv4) dX2_readLeaf_25 rfl mC_X2_readKind mM_X2_75 mI_X2_readKind mV_X2_readKind mN_X2 yd_X2_readKind rfl rfl ⟨Nat.le_of_ble_eq_true rfl, Nat.le_of_ble_eq_true rfl⟩ (xup_s _ _ _) rfl rfl rfl rfl (Nat.le_of_ble_eq_true rfl) ⟨Nat.le_of_ble_eq_true rfl, Nat.le_of_ble_eq_true rfl⟩ (fun _ _ _ q => False.elim q) (fun r w1 sz1 hz hP => ?_)
      obtain ⟨rfl, t6, v6, rfl, hT6, hv6, b6, rfl, hb6⟩ := hP
      refine x_w (xup_2 _ _ _ _) ?_
      refine x_st (st1 := [.int b6]) rfl ?_
      refine x_if_eq 35 31 C0 dX2_readLeaf_28 rfl (by decide) (fun c7 => ?_) (fun c7 => ?_)
      · refine x_iconst (v := 0) 36 C0 dX2_readLeaf_35 rfl (by decide) ?_
        exact x_ireturn C0 dX2_readLeaf_36 rfl (rfl) (Nat.le_of_ble_eq_true rfl) (Nat.le_of_ble_eq_true rfl) ⟨rfl, _, _, rfl, hT6, hv6, _, rfl, Or.inl rfl⟩
      · refine x_iconst (v := 1) 32 C0 dX2_readLeaf_31 rfl (by decide) ?_
        refine x_goto 36 C0 dX2_readLeaf_32 (by decide) ?_
        exact x_ireturn C0 dX2_readLeaf_36 rfl (rfl) (Nat.le_of_ble_eq_true rfl) (Nat.le_of_ble_eq_true rfl) ⟨rfl, _, _, rfl, hT6, hv6, _, rfl, Or.inr rfl⟩

set_option maxHeartbeats 4000000 in
set_option maxRecDepth 100000 in
theorem k_X2_readCommand (l : Launch) (hl : l.stackTraces = false) (g : xg_T) (w : xw_T) (sz a n : Nat) (tt : Nat → Int32) (vb : Option Nat) (sg : Nat → Int32) (hw : w a = some (.inr (4, txtL a tt vb))) (hs : w (a + 1) = some (siE g sg)) (hA : xA g a) (hT : tOk n tt) (hv : vbOk g vb) : xM l g yX2_readCommand cX2_readCommand 1 (some .boolean) ({ frames := 7, cells := 0, slots := 0, locals := 148 }) 0 0 [.ref a] w sz (tP g w sz a n rB) (fun _ _ _ => False) := by
  refine xM.of RX2 hl (by decide +kernel) rfl (Nat.le_of_ble_eq_true rfl) rfl ?_
  intro p e s m args below meth cD C0 hini
  refine x_aload_n 0 1 C0 dX2_readCommand_0 rfl rfl rfl ?_
  refine x_aload_n 0 2 C0 dX2_readCommand_1 rfl rfl rfl ?_
  refine x_callV 5 C0 (k_X2_readVerb l hl g _ _ a _ _ _ _ hw hs hA hT hv) dX2_readCommand_2 rfl mC_X2_readVerb mM_X2_33 mI_X2_readVerb mV_X2_readVerb mN_X2 yd_X2_readVerb rfl rfl ⟨Nat.le_of_ble_eq_true rfl, Nat.le_of_ble_eq_true rfl⟩ hw rfl rfl rfl rfl (Nat.le_of_ble_eq_true rfl) ⟨Nat.le_of_ble_eq_true rfl, Nat.le_of_ble_eq_true rfl⟩ (fun _ _ _ q => False.elim q) (fun r w1 sz1 hz hP => ?_)
  obtain ⟨rfl, t1, v1, rfl, hT1, hv1, hR1⟩ := hP
  rcases hR1 with rfl | ⟨i, hi, rfl⟩
  · refine x_st (st1 := [.null, .ref a]) rfl ?_
    refine x_putf 4 8 C0 dX2_readCommand_5 rfl (xup_s _ _ _) hA rfl (by decide) inX2 tyX2_ok nmX2 mF_X2_37 rfl rfl rfl rfl (Nat.le_of_ble_eq_true rfl) ?_
    refine x_w (w1 := (xup w a (.inr (4, txtL a t1 none)))) (xup_2 _ _ _ _) ?_
    have hv2 : vbOk g none := (Or.inl rfl)
    refine x_aload_n 0 9 C0 dX2_readCommand_8 rfl rfl rfl ?_
    refine x_getf (v := .null) 4 12 C0 dX2_readCommand_9 rfl (xup_s _ _ _) rfl (by decide) inX2 mF_X2_37 rfl ?_
    refine x_ifnonnullN 15 C0 dX2_readCommand_12 rfl ?_
    refine x_iconst (v := 0) 16 C0 dX2_readCommand_15 rfl (by decide) ?_
    exact x_ireturn C0 dX2_readCommand_16 rfl (rfl) (Nat.le_of_ble_eq_true rfl) (Nat.le_of_ble_eq_true rfl) ⟨rfl, _, _, rfl, hT1, hv2, _, rfl, Or.inl rfl⟩
  · refine x_st (st1 := [.ref (g.2 (30 + i)), .ref a]) rfl ?_
    refine x_putf 4 8 C0 dX2_readCommand_5 rfl (xup_s _ _ _) hA rfl (by decide) inX2 tyX2_ok nmX2 mF_X2_37 rfl rfl rfl rfl (Nat.le_of_ble_eq_true rfl) ?_
    refine x_w (w1 := (xup w a (.inr (4, txtL a t1 (some (g.2 (30 + i))))))) (xup_2 _ _ _ _) ?_
    have hv3 : vbOk g (some (g.2 (30 + i))) := Or.inr ⟨i, hi, rfl⟩
    refine x_aload_n 0 9 C0 dX2_readCommand_8 rfl rfl rfl ?_
    refine x_getf (v := .ref (g.2 (30 + i))) 4 12 C0 dX2_readCommand_9 rfl (xup_s _ _ _) rfl (by decide) inX2 mF_X2_37 rfl ?_
    refine x_ifnonnull 17 C0 dX2_readCommand_12 (by decide) ?_
    refine x_gets 20 C0 dX2_readCommand_17 rfl (xs_map C0.2.2.2.2.2.2.2.1.2.2).1 mF_X2_41 ?_
    refine x_aload_n 0 21 C0 dX2_readCommand_20 rfl rfl rfl ?_
    refine x_getf (v := .ref (g.2 (30 + i))) 4 24 C0 dX2_readCommand_21 rfl (xup_s _ _ _) rfl (by decide) inX2 mF_X2_37 rfl ?_
    refine x_callU 27 (x := ⟨RX6, "ordinal", "()I"⟩) (owner := RJx29ce0) (C := RX6) C0 (k_Jx29ce0_ordinal_8abf5 l hl g _ _ i hi) dX2_readCommand_24 rfl mC_Jx29ce0_ordinal_8abf5 mM_X2_47 mE_X6_Jx29ce0_ordinal_10780 mI_Jx29ce0_ordinal_8abf5 (C0.2.2.2.2.1 _ mV_X6_TeaChests_Verb_ordinal_Jx29ce0_ordinal_8abf5) (xDecl C0 mI_Jx29ce0_ordinal_8abf5 mC_Jx29ce0_ordinal_8abf5) mN_Jx29ce0 yd_Jx29ce0_ordinal_8abf5 rfl rfl ⟨Nat.le_of_ble_eq_true rfl, Nat.le_of_ble_eq_true rfl⟩ (xRecv.co ((xs_vc C0.2.2.2.2.2.2.2.1.2.2).1 i hi)) rfl rfl (Nat.le_of_ble_eq_true rfl) ⟨Nat.le_of_ble_eq_true rfl, Nat.le_of_ble_eq_true rfl⟩ (fun _ _ _ q => False.elim q) (fun r w1 sz1 hz hP => ?_)
    obtain ⟨rfl, rfl, rfl⟩ := hP
    refine x_st (st1 := [.int (nI i), .ref (g.2 12)]) rfl ?_
    refine x_ti 28 C0 (v := .int (nI (i + 1))) dX2_readCommand_27 rfl (xs_map C0.2.2.2.2.2.2.2.1.2.2).2 (vp_in_nI hi (by decide)) (by rw [nI_clamp (by omega)]) ?_
    have hcase : (i = 0 ∨ i = 3 ∨ i = 4 ∨ i = 5) ∨ (i = 1) ∨ (i = 2) ∨ (i = 6) ∨ (i = 7) := by omega
    have sw153 : (i = 0 ∨ i = 3 ∨ i = 4 ∨ i = 5) → xV p l e ({ frames := 7, cells := 0, slots := 0, locals := 148 }) s m args below meth cD (xQ g below (tP g w sz a n rB) (fun _ _ _ => False) args s 0 0) g 1 (xup w a (.inr (4, txtL a t1 (some (g.2 (30 + i)))))) sz (0 + 0 + 0) (0 + 0 + 0) 153 [(0, .ref a)] [] := by
      intro _
      refine x_aload_n 0 154 C0 dX2_readCommand_153 rfl rfl rfl ?_
      refine x_callV 157 C0 (k_X2_readChest l hl g _ _ a _ _ _ _ (xup_s _ _ _) ((xup_n (by omega)).trans hs) hA hT1 hv3) dX2_readCommand_154 rfl mC_X2_readChest mM_X2_56 mI_X2_readChest mV_X2_readChest mN_X2 yd_X2_readChest rfl rfl ⟨Nat.le_of_ble_eq_true rfl, Nat.le_of_ble_eq_true rfl⟩ (xup_s _ _ _) rfl rfl rfl rfl (Nat.le_of_ble_eq_true rfl) ⟨Nat.le_of_ble_eq_true rfl, Nat.le_of_ble_eq_true rfl⟩ (fun _ _ _ q => False.elim q) (fun r w1 sz1 hz hP => ?_)
      obtain ⟨rfl, t4, v4, rfl, hT4, hv4, b4, rfl, hb4⟩ := hP
      refine x_w (xup_2 _ _ _ _) ?_
      refine x_st (st1 := [.int b4]) rfl ?_
      exact x_ireturn C0 dX2_readCommand_157 rfl (hb4.nar) (Nat.le_of_ble_eq_true rfl) (Nat.le_of_ble_eq_true rfl) ⟨rfl, _, _, rfl, hT4, hv4, _, rfl, hb4⟩
    have sw79 : (i = 1) → xV p l e ({ frames := 7, cells := 0, slots := 0, locals := 148 }) s m args below meth cD (xQ g below (tP g w sz a n rB) (fun _ _ _ => False) args s 0 0) g 1 (xup w a (.inr (4, txtL a t1 (some (g.2 (30 + i)))))) sz (0 + 0 + 0) (0 + 0 + 0) 79 [(0, .ref a)] [] := by
      intro _
      refine x_aload_n 0 80 C0 dX2_readCommand_79 rfl rfl rfl ?_
      refine x_callV 83 C0 (k_X2_readChest l hl g _ _ a _ _ _ _ (xup_s _ _ _) ((xup_n (by omega)).trans hs) hA hT1 hv3) dX2_readCommand_80 rfl mC_X2_readChest mM_X2_56 mI_X2_readChest mV_X2_readChest mN_X2 yd_X2_readChest rfl rfl ⟨Nat.le_of_ble_eq_true rfl, Nat.le_of_ble_eq_true rfl⟩ (xup_s _ _ _) rfl rfl rfl rfl (Nat.le_of_ble_eq_true rfl) ⟨Nat.le_of_ble_eq_true rfl, Nat.le_of_ble_eq_true rfl⟩ (fun _ _ _ q => False.elim q) (fun r w1 sz1 hz hP => ?_)
      obtain ⟨rfl, t5, v5, rfl, hT5, hv5, b5, rfl, hb5⟩ := hP
      refine x_w (xup_2 _ _ _ _) ?_
      refine x_st (st1 := [.int b5]) rfl ?_
      refine x_if_eq 122 86 C0 dX2_readCommand_83 rfl (by decide) (fun c6 => ?_) (fun c6 => ?_)
      · refine x_iconst (v := 0) 123 C0 dX2_readCommand_122 rfl (by decide) ?_
        exact x_ireturn C0 dX2_readCommand_123 rfl (rfl) (Nat.le_of_ble_eq_true rfl) (Nat.le_of_ble_eq_true rfl) ⟨rfl, _, _, rfl, hT5, hv5, _, rfl, Or.inl rfl⟩
      · refine x_aload_n 0 87 C0 dX2_readCommand_86 rfl rfl rfl ?_
        refine x_bipush (v := 32) 89 C0 dX2_readCommand_87 rfl (by decide) ?_
        refine x_callV 92 C0 (k_X2_readSign l hl g _ _ a _ _ _ _ (xup_s _ _ _) ((xup_n (by omega)).trans hs) hA hT5 hv5 32 (by decide)) dX2_readCommand_89 rfl mC_X2_readSign mM_X2_29 mI_X2_readSign mV_X2_readSign mN_X2 yd_X2_readSign rfl rfl ⟨Nat.le_of_ble_eq_true rfl, Nat.le_of_ble_eq_true rfl⟩ (xup_s _ _ _) rfl rfl rfl rfl (Nat.le_of_ble_eq_true rfl) ⟨Nat.le_of_ble_eq_true rfl, Nat.le_of_ble_eq_true rfl⟩ (fun _ _ _ q => False.elim q) (fun r w1 sz1 hz hP => ?_)
        obtain ⟨rfl, t7, v7, rfl, hT7, hv7, b7, rfl, hb7⟩ := hP
        refine x_w (xup_2 _ _ _ _) ?_
        refine x_st (st1 := [.int b7]) rfl ?_
        refine x_if_eq 122 95 C0 dX2_readCommand_92 rfl (by decide) (fun c8 => ?_) (fun c8 => ?_)
        · refine x_iconst (v := 0) 123 C0 dX2_readCommand_122 rfl (by decide) ?_
          exact x_ireturn C0 dX2_readCommand_123 rfl (rfl) (Nat.le_of_ble_eq_true rfl) (Nat.le_of_ble_eq_true rfl) ⟨rfl, _, _, rfl, hT7, hv7, _, rfl, Or.inl rfl⟩
        · refine x_aload_n 0 96 C0 dX2_readCommand_95 rfl rfl rfl ?_
          refine x_callV 99 C0 (k_X2_readLeaf l hl g _ _ a _ _ _ _ (xup_s _ _ _) ((xup_n (by omega)).trans hs) hA hT7 hv7) dX2_readCommand_96 rfl mC_X2_readLeaf mM_X2_59 mI_X2_readLeaf mV_X2_readLeaf mN_X2 yd_X2_readLeaf rfl rfl ⟨Nat.le_of_ble_eq_true rfl, Nat.le_of_ble_eq_true rfl⟩ (xup_s _ _ _) rfl rfl rfl rfl (Nat.le_of_ble_eq_true rfl) ⟨Nat.le_of_ble_eq_true rfl, Nat.le_of_ble_eq_true rfl⟩ (fun _ _ _ q => False.elim q) (fun r w1 sz1 hz hP => ?_)
          obtain ⟨rfl, t9, v9, rfl, hT9, hv9, b9, rfl, hb9⟩ := hP
          refine x_w (xup_2 _ _ _ _) ?_
          refine x_st (st1 := [.int b9]) rfl ?_
          refine x_if_eq 122 102 C0 dX2_readCommand_99 rfl (by decide) (fun c10 => ?_) (fun c10 => ?_)
          · refine x_iconst (v := 0) 123 C0 dX2_readCommand_122 rfl (by decide) ?_
            exact x_ireturn C0 dX2_readCommand_123 rfl (rfl) (Nat.le_of_ble_eq_true rfl) (Nat.le_of_ble_eq_true rfl) ⟨rfl, _, _, rfl, hT9, hv9, _, rfl, Or.inl rfl⟩
          · refine x_aload_n 0 103 C0 dX2_readCommand_102 rfl rfl rfl ?_
            refine x_bipush (v := 32) 105 C0 dX2_readCommand_103 rfl (by decide) ?_
            refine x_callV 108 C0 (k_X2_readSign l hl g _ _ a _ _ _ _ (xup_s _ _ _) ((xup_n (by omega)).trans hs) hA hT9 hv9 32 (by decide)) dX2_readCommand_105 rfl mC_X2_readSign mM_X2_29 mI_X2_readSign mV_X2_readSign mN_X2 yd_X2_readSign rfl rfl ⟨Nat.le_of_ble_eq_true rfl, Nat.le_of_ble_eq_true rfl⟩ (xup_s _ _ _) rfl rfl rfl rfl (Nat.le_of_ble_eq_true rfl) ⟨Nat.le_of_ble_eq_true rfl, Nat.le_of_ble_eq_true rfl⟩ (fun _ _ _ q => False.elim q) (fun r w1 sz1 hz hP => ?_)
            obtain ⟨rfl, t11, v11, rfl, hT11, hv11, b11, rfl, hb11⟩ := hP
            refine x_w (xup_2 _ _ _ _) ?_
            refine x_st (st1 := [.int b11]) rfl ?_
            refine x_if_eq 122 111 C0 dX2_readCommand_108 rfl (by decide) (fun c12 => ?_) (fun c12 => ?_)
            · refine x_iconst (v := 0) 123 C0 dX2_readCommand_122 rfl (by decide) ?_
              exact x_ireturn C0 dX2_readCommand_123 rfl (rfl) (Nat.le_of_ble_eq_true rfl) (Nat.le_of_ble_eq_true rfl) ⟨rfl, _, _, rfl, hT11, hv11, _, rfl, Or.inl rfl⟩
            · refine x_aload_n 0 112 C0 dX2_readCommand_111 rfl rfl rfl ?_
              refine x_callV 115 C0 (k_X2_readManyAsNumber l hl g _ _ a _ _ _ _ (xup_s _ _ _) ((xup_n (by omega)).trans hs) hA hT11 hv11) dX2_readCommand_112 rfl mC_X2_readManyAsNumber mM_X2_53 mI_X2_readManyAsNumber mV_X2_readManyAsNumber mN_X2 yd_X2_readManyAsNumber rfl rfl ⟨Nat.le_of_ble_eq_true rfl, Nat.le_of_ble_eq_true rfl⟩ (xup_s _ _ _) rfl rfl rfl rfl (Nat.le_of_ble_eq_true rfl) ⟨Nat.le_of_ble_eq_true rfl, Nat.le_of_ble_eq_true rfl⟩ (fun _ _ _ q => False.elim q) (fun r w1 sz1 hz hP => ?_)
              obtain ⟨rfl, t13, v13, rfl, hT13, hv13, b13, rfl, hb13⟩ := hP
              refine x_w (xup_2 _ _ _ _) ?_
              refine x_st (st1 := [.int b13]) rfl ?_
              refine x_if_eq 122 118 C0 dX2_readCommand_115 rfl (by decide) (fun c14 => ?_) (fun c14 => ?_)
              · refine x_iconst (v := 0) 123 C0 dX2_readCommand_122 rfl (by decide) ?_
                exact x_ireturn C0 dX2_readCommand_123 rfl (rfl) (Nat.le_of_ble_eq_true rfl) (Nat.le_of_ble_eq_true rfl) ⟨rfl, _, _, rfl, hT13, hv13, _, rfl, Or.inl rfl⟩
              · refine x_iconst (v := 1) 119 C0 dX2_readCommand_118 rfl (by decide) ?_
                refine x_goto 123 C0 dX2_readCommand_119 (by decide) ?_
                exact x_ireturn C0 dX2_readCommand_123 rfl (rfl) (Nat.le_of_ble_eq_true rfl) (Nat.le_of_ble_eq_true rfl) ⟨rfl, _, _, rfl, hT13, hv13, _, rfl, Or.inr rfl⟩
    have sw124 : (i = 2) → xV p l e ({ frames := 7, cells := 0, slots := 0, locals := 148 }) s m args below meth cD (xQ g below (tP g w sz a n rB) (fun _ _ _ => False) args s 0 0) g 1 (xup w a (.inr (4, txtL a t1 (some (g.2 (30 + i)))))) sz (0 + 0 + 0) (0 + 0 + 0) 124 [(0, .ref a)] [] := by
      intro _
      refine x_aload_n 0 125 C0 dX2_readCommand_124 rfl rfl rfl ?_
      refine x_callV 128 C0 (k_X2_readChest l hl g _ _ a _ _ _ _ (xup_s _ _ _) ((xup_n (by omega)).trans hs) hA hT1 hv3) dX2_readCommand_125 rfl mC_X2_readChest mM_X2_56 mI_X2_readChest mV_X2_readChest mN_X2 yd_X2_readChest rfl rfl ⟨Nat.le_of_ble_eq_true rfl, Nat.le_of_ble_eq_true rfl⟩ (xup_s _ _ _) rfl rfl rfl rfl (Nat.le_of_ble_eq_true rfl) ⟨Nat.le_of_ble_eq_true rfl, Nat.le_of_ble_eq_true rfl⟩ (fun _ _ _ q => False.elim q) (fun r w1 sz1 hz hP => ?_)
      obtain ⟨rfl, t15, v15, rfl, hT15, hv15, b15, rfl, hb15⟩ := hP
      refine x_w (xup_2 _ _ _ _) ?_
      refine x_st (st1 := [.int b15]) rfl ?_
      refine x_if_eq 151 131 C0 dX2_readCommand_128 rfl (by decide) (fun c16 => ?_) (fun c16 => ?_)
      · refine x_iconst (v := 0) 152 C0 dX2_readCommand_151 rfl (by decide) ?_
        exact x_ireturn C0 dX2_readCommand_152 rfl (rfl) (Nat.le_of_ble_eq_true rfl) (Nat.le_of_ble_eq_true rfl) ⟨rfl, _, _, rfl, hT15, hv15, _, rfl, Or.inl rfl⟩
      · refine x_aload_n 0 132 C0 dX2_readCommand_131 rfl rfl rfl ?_
        refine x_bipush (v := 32) 134 C0 dX2_readCommand_132 rfl (by decide) ?_
        refine x_callV 137 C0 (k_X2_readSign l hl g _ _ a _ _ _ _ (xup_s _ _ _) ((xup_n (by omega)).trans hs) hA hT15 hv15 32 (by decide)) dX2_readCommand_134 rfl mC_X2_readSign mM_X2_29 mI_X2_readSign mV_X2_readSign mN_X2 yd_X2_readSign rfl rfl ⟨Nat.le_of_ble_eq_true rfl, Nat.le_of_ble_eq_true rfl⟩ (xup_s _ _ _) rfl rfl rfl rfl (Nat.le_of_ble_eq_true rfl) ⟨Nat.le_of_ble_eq_true rfl, Nat.le_of_ble_eq_true rfl⟩ (fun _ _ _ q => False.elim q) (fun r w1 sz1 hz hP => ?_)
        obtain ⟨rfl, t17, v17, rfl, hT17, hv17, b17, rfl, hb17⟩ := hP
        refine x_w (xup_2 _ _ _ _) ?_
        refine x_st (st1 := [.int b17]) rfl ?_
        refine x_if_eq 151 140 C0 dX2_readCommand_137 rfl (by decide) (fun c18 => ?_) (fun c18 => ?_)
        · refine x_iconst (v := 0) 152 C0 dX2_readCommand_151 rfl (by decide) ?_
          exact x_ireturn C0 dX2_readCommand_152 rfl (rfl) (Nat.le_of_ble_eq_true rfl) (Nat.le_of_ble_eq_true rfl) ⟨rfl, _, _, rfl, hT17, hv17, _, rfl, Or.inl rfl⟩
        · refine x_aload_n 0 141 C0 dX2_readCommand_140 rfl rfl rfl ?_
          refine x_callV 144 C0 (k_X2_readManyAsDigit l hl g _ _ a _ _ _ _ (xup_s _ _ _) ((xup_n (by omega)).trans hs) hA hT17 hv17) dX2_readCommand_141 rfl mC_X2_readManyAsDigit mM_X2_62 mI_X2_readManyAsDigit mV_X2_readManyAsDigit mN_X2 yd_X2_readManyAsDigit rfl rfl ⟨Nat.le_of_ble_eq_true rfl, Nat.le_of_ble_eq_true rfl⟩ (xup_s _ _ _) rfl rfl rfl rfl (Nat.le_of_ble_eq_true rfl) ⟨Nat.le_of_ble_eq_true rfl, Nat.le_of_ble_eq_true rfl⟩ (fun _ _ _ q => False.elim q) (fun r w1 sz1 hz hP => ?_)
          obtain ⟨rfl, t19, v19, rfl, hT19, hv19, b19, rfl, hb19⟩ := hP
          refine x_w (xup_2 _ _ _ _) ?_
          refine x_st (st1 := [.int b19]) rfl ?_
          refine x_if_eq 151 147 C0 dX2_readCommand_144 rfl (by decide) (fun c20 => ?_) (fun c20 => ?_)
          · refine x_iconst (v := 0) 152 C0 dX2_readCommand_151 rfl (by decide) ?_
            exact x_ireturn C0 dX2_readCommand_152 rfl (rfl) (Nat.le_of_ble_eq_true rfl) (Nat.le_of_ble_eq_true rfl) ⟨rfl, _, _, rfl, hT19, hv19, _, rfl, Or.inl rfl⟩
          · refine x_iconst (v := 1) 148 C0 dX2_readCommand_147 rfl (by decide) ?_
            refine x_goto 152 C0 dX2_readCommand_148 (by decide) ?_
            exact x_ireturn C0 dX2_readCommand_152 rfl (rfl) (Nat.le_of_ble_eq_true rfl) (Nat.le_of_ble_eq_true rfl) ⟨rfl, _, _, rfl, hT19, hv19, _, rfl, Or.inr rfl⟩
    have sw72 : (i = 6) → xV p l e ({ frames := 7, cells := 0, slots := 0, locals := 148 }) s m args below meth cD (xQ g below (tP g w sz a n rB) (fun _ _ _ => False) args s 0 0) g 1 (xup w a (.inr (4, txtL a t1 (some (g.2 (30 + i)))))) sz (0 + 0 + 0) (0 + 0 + 0) 72 [(0, .ref a)] [] := by
      intro _
      refine x_iconst (v := 1) 73 C0 dX2_readCommand_72 rfl (by decide) ?_
      exact x_ireturn C0 dX2_readCommand_73 rfl (rfl) (Nat.le_of_ble_eq_true rfl) (Nat.le_of_ble_eq_true rfl) ⟨rfl, _, _, rfl, hT1, hv3, _, rfl, Or.inr rfl⟩
    have sw74 : (i = 7) → xV p l e ({ frames := 7, cells := 0, slots := 0, locals := 148 }) s m args below meth cD (xQ g below (tP g w sz a n rB) (fun _ _ _ => False) args s 0 0) g 1 (xup w a (.inr (4, txtL a t1 (some (g.2 (30 + i)))))) sz (0 + 0 + 0) (0 + 0 + 0) 74 [(0, .ref a)] [] := by
      intro _
      refine x_aload_n 0 75 C0 dX2_readCommand_74 rfl rfl rfl ?_
      refine x_callV 78 C0 (k_X2_readManyAsNumber l hl g _ _ a _ _ _ _ (xup_s _ _ _) ((xup_n (by omega)).trans hs) hA hT1 hv3) dX2_readCommand_75 rfl mC_X2_readManyAsNumber mM_X2_53 mI_X2_readManyAsNumber mV_X2_readManyAsNumber mN_X2 yd_X2_readManyAsNumber rfl rfl ⟨Nat.le_of_ble_eq_true rfl, Nat.le_of_ble_eq_true rfl⟩ (xup_s _ _ _) rfl rfl rfl rfl (Nat.le_of_ble_eq_true rfl) ⟨Nat.le_of_ble_eq_true rfl, Nat.le_of_ble_eq_true rfl⟩ (fun _ _ _ q => False.elim q) (fun r w1 sz1 hz hP => ?_)
      obtain ⟨rfl, t21, v21, rfl, hT21, hv21, b21, rfl, hb21⟩ := hP
      refine x_w (xup_2 _ _ _ _) ?_
      refine x_st (st1 := [.int b21]) rfl ?_
      exact x_ireturn C0 dX2_readCommand_78 rfl (hb21.nar) (Nat.le_of_ble_eq_true rfl) (Nat.le_of_ble_eq_true rfl) ⟨rfl, _, _, rfl, hT21, hv21, _, rfl, hb21⟩
    rcases hcase with hc153 | hc79 | hc124 | hc72 | hc74
    · have k1 := sw153 hc153
      rcases hc153 with rfl | rfl | rfl | rfl
      · exact x_tabOut 153 C0 (x := nI (0 + 1)) dX2_readCommand_28 (by decide) (by decide) k1
      · exact x_tabIn 153 C0 (x := nI (3 + 1)) dX2_readCommand_28 (by decide) (by decide) rfl (by decide) k1
      · exact x_tabIn 153 C0 (x := nI (4 + 1)) dX2_readCommand_28 (by decide) (by decide) rfl (by decide) k1
      · exact x_tabIn 153 C0 (x := nI (5 + 1)) dX2_readCommand_28 (by decide) (by decide) rfl (by decide) k1
    · have k1 := sw79 hc79
      subst hc79
      exact x_tabIn 79 C0 (x := nI (1 + 1)) dX2_readCommand_28 (by decide) (by decide) rfl (by decide) k1
    · have k1 := sw124 hc124
      subst hc124
      exact x_tabIn 124 C0 (x := nI (2 + 1)) dX2_readCommand_28 (by decide) (by decide) rfl (by decide) k1
    · have k1 := sw72 hc72
      subst hc72
      exact x_tabIn 72 C0 (x := nI (6 + 1)) dX2_readCommand_28 (by decide) (by decide) rfl (by decide) k1
    · have k1 := sw74 hc74
      subst hc74
      exact x_tabIn 74 C0 (x := nI (7 + 1)) dX2_readCommand_28 (by decide) (by decide) rfl (by decide) k1

set_option maxHeartbeats 4000000 in
set_option maxRecDepth 100000 in
theorem k_X2_countCommands (l : Launch) (hl : l.stackTraces = false) (g : xg_T) (w : xw_T) (sz a n : Nat) (tt : Nat → Int32) (vb : Option Nat) (sg : Nat → Int32) (hw : w a = some (.inr (4, txtL a tt vb))) (hs : w (a + 1) = some (siE g sg)) (hA : xA g a) (hT : tOk n tt) (hv : vbOk g vb) : xM l g yX2_countCommands cX2_countCommands 2 (some .int) ({ frames := 8, cells := 0, slots := 0, locals := 168 }) 0 0 [.ref a] w sz (tP g w sz a n (fun r => ∃ v : Int32, r = some (.int v) ∧ ((∃ m : Nat, m ≤ 60 ∧ v = nI m) ∨ v < 0))) (fun _ _ _ => False) := by
  refine xM.of RX2 hl (by decide +kernel) rfl (Nat.le_of_ble_eq_true rfl) rfl ?_
  intro p e s m args below meth cD C0 hini
  refine x_aload_n 0 1 C0 dX2_countCommands_0 rfl rfl rfl ?_
  refine x_callV 4 C0 (k_X2_rewind l hl g _ _ a _ _ _ _ hw hs hA hT hv) dX2_countCommands_1 rfl mC_X2_rewind mM_X2_22 mI_X2_rewind mV_X2_rewind mN_X2 yd_X2_rewind rfl rfl ⟨Nat.le_of_ble_eq_true rfl, Nat.le_of_ble_eq_true rfl⟩ hw rfl rfl rfl rfl (Nat.le_of_ble_eq_true rfl) ⟨Nat.le_of_ble_eq_true rfl, Nat.le_of_ble_eq_true rfl⟩ (fun _ _ _ q => False.elim q) (fun r w1 sz1 hz hP => ?_)
  obtain ⟨rfl, t1, v1, rfl, hT1, hv1, rfl⟩ := hP
  refine x_st (st1 := []) rfl ?_
  refine x_iconst (v := 1) 5 C0 dX2_countCommands_4 rfl (by decide) ?_
  refine x_istore_n [(1, .int 1), (0, .ref a)] 6 C0 dX2_countCommands_5 rfl rfl (by decide) rfl ?_
  refine x_lv (lv1 := [(0, .ref a), (1, .int 1)]) [1, 0] rfl ?_
  have loop6 : ∀ (N i : Nat), i ≤ 60 → 60 - i < N → ∀ (t : Nat → Int32) (v : Option Nat), tOk n t → vbOk g v → xV p l e ({ frames := 8, cells := 0, slots := 0, locals := 168 }) s m args below meth cD (xQ g below (tP g w sz a n (fun r => ∃ v : Int32, r = some (.int v) ∧ ((∃ m : Nat, m ≤ 60 ∧ v = nI m) ∨ v < 0))) (fun _ _ _ => False) args s 0 0) g 2 (xup w a (.inr (4, txtL a t v))) sz (0 + 0) (0 + 0) 6 [(0, .ref a), (1, .int (nI (i + 1)))] [] := by
    intro N
    induction N with
    | zero => intro i h1 h2; omega
    | succ N ih =>
      intro i hi hN t v hT0 hv0
      refine x_iload_n 1 7 C0 dX2_countCommands_6 rfl rfl rfl ?_
      refine x_bipush (v := 60) 9 C0 dX2_countCommands_7 rfl (by decide) ?_
      refine x_icmp_gt 63 12 C0 dX2_countCommands_9 rfl (by decide) (fun c2 => ?_) (fun c2 => ?_)
      · refine x_bipush (v := (-100)) 65 C0 dX2_countCommands_63 rfl (by decide) ?_
        refine x_aload_n 0 66 C0 dX2_countCommands_65 rfl rfl rfl ?_
        refine x_getf (v := .int (t 1)) 2 69 C0 dX2_countCommands_66 rfl (xup_s _ _ _) rfl (by decide) inX2 mF_X2_19 rfl ?_
        refine x_isub 70 C0 dX2_countCommands_69 rfl ?_
        exact x_ireturn C0 dX2_countCommands_70 rfl rfl (Nat.le_of_ble_eq_true rfl) (Nat.le_of_ble_eq_true rfl) ⟨rfl, _, _, rfl, hT0, hv0, _, rfl, Or.inr hT0.neg⟩
      · have hi2 : i < 60 := Nat.lt_of_not_le (fun z => c2 (nI_lt (a := 60) (by omega) (by omega)))
        refine x_aload_n 0 13 C0 dX2_countCommands_12 rfl rfl rfl ?_
        refine x_callV 16 C0 (k_X2_readCommand l hl g _ _ a _ _ _ _ (xup_s _ _ _) ((xup_n (by omega)).trans hs) hA hT0 hv0) dX2_countCommands_13 rfl mC_X2_readCommand mM_X2_25 mI_X2_readCommand mV_X2_readCommand mN_X2 yd_X2_readCommand rfl rfl ⟨Nat.le_of_ble_eq_true rfl, Nat.le_of_ble_eq_true rfl⟩ (xup_s _ _ _) rfl rfl rfl rfl (Nat.le_of_ble_eq_true rfl) ⟨Nat.le_of_ble_eq_true rfl, Nat.le_of_ble_eq_true rfl⟩ (fun _ _ _ q => False.elim q) (fun r w1 sz1 hz hP => ?_)
        obtain ⟨rfl, t3, v3, rfl, hT3, hv3, b3, rfl, hb3⟩ := hP
        refine x_w (xup_2 _ _ _ _) ?_
        refine x_st (st1 := [.int b3]) rfl ?_
        refine x_if_ne 27 19 C0 dX2_countCommands_16 rfl (by decide) (fun c4 => ?_) (fun c4 => ?_)
        · refine x_aload_n 0 28 C0 dX2_countCommands_27 rfl rfl rfl ?_
          refine x_getf (v := .int (t3 1)) 2 31 C0 dX2_countCommands_28 rfl (xup_s _ _ _) rfl (by decide) inX2 mF_X2_19 rfl ?_
          refine x_aload_n 0 32 C0 dX2_countCommands_31 rfl rfl rfl ?_
          refine x_getf (v := .int (t3 0)) 1 35 C0 dX2_countCommands_32 rfl (xup_s _ _ _) rfl (by decide) inX2 mF_X2_15 rfl ?_
          refine x_icmp_ne 40 38 C0 dX2_countCommands_35 rfl (by decide) (fun c5 => ?_) (fun c5 => ?_)
          · refine x_aload_n 0 41 C0 dX2_countCommands_40 rfl rfl rfl ?_
            refine x_bipush (v := 59) 43 C0 dX2_countCommands_41 rfl (by decide) ?_
            refine x_callV 46 C0 (k_X2_readSign l hl g _ _ a _ _ _ _ (xup_s _ _ _) ((xup_n (by omega)).trans hs) hA hT3 hv3 59 (by decide)) dX2_countCommands_43 rfl mC_X2_readSign mM_X2_29 mI_X2_readSign mV_X2_readSign mN_X2 yd_X2_readSign rfl rfl ⟨Nat.le_of_ble_eq_true rfl, Nat.le_of_ble_eq_true rfl⟩ (xup_s _ _ _) rfl rfl rfl rfl (Nat.le_of_ble_eq_true rfl) ⟨Nat.le_of_ble_eq_true rfl, Nat.le_of_ble_eq_true rfl⟩ (fun _ _ _ q => False.elim q) (fun r w1 sz1 hz hP => ?_)
            obtain ⟨rfl, t6, v6, rfl, hT6, hv6, b6, rfl, hb6⟩ := hP
            refine x_w (xup_2 _ _ _ _) ?_
            refine x_st (st1 := [.int b6]) rfl ?_
            refine x_if_ne 57 49 C0 dX2_countCommands_46 rfl (by decide) (fun c7 => ?_) (fun c7 => ?_)
            · refine x_iinc [(1, .int (nI (i + 1 + 1))), (0, .ref a)] 1 60 C0 dX2_countCommands_57 rfl rfl (nI_1 (i + 1)) (by decide) rfl ?_
              refine x_lv (lv1 := [(0, .ref a), (1, .int (nI (i + 1 + 1)))]) [1, 0] rfl ?_
              refine x_goto 6 C0 dX2_countCommands_60 (by decide) ?_
              exact x_lv [0, 1] rfl (ih (i + 1) (by omega) (by omega) _ _ hT6 hv6)
            · refine x_bipush (v := (-100)) 51 C0 dX2_countCommands_49 rfl (by decide) ?_
              refine x_aload_n 0 52 C0 dX2_countCommands_51 rfl rfl rfl ?_
              refine x_getf (v := .int (t6 1)) 2 55 C0 dX2_countCommands_52 rfl (xup_s _ _ _) rfl (by decide) inX2 mF_X2_19 rfl ?_
              refine x_isub 56 C0 dX2_countCommands_55 rfl ?_
              exact x_ireturn C0 dX2_countCommands_56 rfl rfl (Nat.le_of_ble_eq_true rfl) (Nat.le_of_ble_eq_true rfl) ⟨rfl, _, _, rfl, hT6, hv6, _, rfl, Or.inr hT6.neg⟩
          · refine x_iload_n 1 39 C0 dX2_countCommands_38 rfl rfl rfl ?_
            exact x_ireturn C0 dX2_countCommands_39 rfl rfl (Nat.le_of_ble_eq_true rfl) (Nat.le_of_ble_eq_true rfl) ⟨rfl, _, _, rfl, hT3, hv3, _, rfl, Or.inl ⟨i + 1, by omega, rfl⟩⟩
        · refine x_bipush (v := (-100)) 21 C0 dX2_countCommands_19 rfl (by decide) ?_
          refine x_aload_n 0 22 C0 dX2_countCommands_21 rfl rfl rfl ?_
          refine x_getf (v := .int (t3 1)) 2 25 C0 dX2_countCommands_22 rfl (xup_s _ _ _) rfl (by decide) inX2 mF_X2_19 rfl ?_
          refine x_isub 26 C0 dX2_countCommands_25 rfl ?_
          exact x_ireturn C0 dX2_countCommands_26 rfl rfl (Nat.le_of_ble_eq_true rfl) (Nat.le_of_ble_eq_true rfl) ⟨rfl, _, _, rfl, hT3, hv3, _, rfl, Or.inr hT3.neg⟩
  exact x_lv [0, 1] rfl (loop6 61 0 (by omega) (by omega) _ _ hT1 hv1)

