/-! METHODS WITH HANDLERS, AND WHAT ELSE THE LAW'S CODE NEEDS -/
def xMH (l : Launch) (g : xg_T) (y : MethodName) (b : ByteArray) (nL : Nat) (ret : Option FieldType) (hh : List (Nat × Nat × Nat × Nat)) (rm : Room) (mc ms : Nat) (as : List Value) (w : xw_T) (sz : Nat) (P : Option Value → xw_T → Nat → Prop) (X : String → xw_T → Nat → Prop) : Prop := vx_Met l y (Cond.codeWith y b nL ret hh :: xT) rm (xPc g w sz as) (xQc g P) (xXC g X) mc ms (xA g)
theorem xMH.of {l : Launch} {g : xg_T} {y : MethodName} {rm : Room} {mc ms : Nat} {as : List Value} {w : xw_T} {sz : Nat} {P : Option Value → xw_T → Nat → Prop} {X : String → xw_T → Nat → Prop} {cc : ByteArray} {nL : Nat} {ret : Option FieldType} {hh : List (Nat × Nat × Nat × Nat)} {lv : List (Nat × Value)} (own : String) (hl : l.stackTraces = false) (hy : plainName y.cls = true) (hyc : y.cls = own) (hn : (lg_sl as).length ≤ nL) (hlv : lv_args 0 as = lv)
    (body : ∀ (p : Program) (e : Env) (s : State) (m : MethodId) (args : Array Value) (below : List Frame) (meth : Method) (c : Code), xC p l s m args meth c g cc nL own ret (tableOf hh) → xV p l e rm s m args below meth c (xQ g below P X args s mc ms) g nL w sz 0 0 0 lv []) : xMH l g y cc nL ret hh rm mc ms as w sz P X := by
  refine vx_ofWH (cc := cc) (maxL := nL) (ret := ret) (hh := hh) hy rfl ?_
  intro p e s m args below meth c s₁ B hml hv
  obtain ⟨rfl, hsz, hH, hG⟩ := hv
  subst hyc hlv
  rw [lg_entry_eq]
  have hts : ∀ w ∈ Cond.codeWith y cc nL ret hh :: xT, w.before _ s = true := fun w hw => atoms_spec (ws := Cond.codeWith y cc nL ret hh :: xT) B.pre w hw
  exact body p e s m _ below meth c ⟨B.exec, B.bytes, hml, findClass_of_methodNamed B.named, fun w hw => hts w (List.mem_cons_of_mem _ hw), B.notSynchronized, B.returns, hG, vx_table (x := y) B (hts _ List.mem_cons_self), hl⟩ s.heap [] _ hsz hH va_S.rf (lv_entry as hn)
section XH
variable {p : Program} {l : Launch} {e : Env} {R : Room} {s : State} {m : MethodId} {args : Array Value} {below : List Frame} {meth : Method} {c : Code} {Q : State → Prop}
variable {g : xg_T} {cc : ByteArray} {nL : Nat} {own : String} {ret : Option FieldType} {tb : List ExceptionTableEntry} {w : xw_T} {sz k n pc : Nat} {lv : List (Nat × Value)} {rest : List Value}
theorem x_catch (name : String) (p1 : Nat) (pre : List ExceptionTableEntry) (x : ExceptionTableEntry) (suf : List ExceptionTableEntry) (C0 : xC p l s m args meth c g cc nL own ret tb) {E : String} (hsplit : tb = pre ++ x :: suf) (hpass : ∀ z ∈ pre, z.catchType ≠ 0 ∧ ∃ nm : String, Cond.classLink own z.catchType nm ∈ xT ∧ (E, nm) ∈ xNc) (hx : covers x pc = true) (h0 : x.catchType ≠ 0) (hlink : Cond.classLink own x.catchType name ∈ xT) (hcast : (E, name) ∈ xCa) (hp : x.handlerPc = p1)
    (k1 : ∀ q : Nat, xV p l e R s m args below meth c Q g nL w sz k n p1 lv [.ref q]) : xVX p l e R s m args below meth c Q g nL E w sz k n pc lv rest := by
  intro H locs ls q ce h1 h2 h3 h4 h5 h6 h7
  subst hp
  have hG := C0.2.2.2.2.2.2.2.1
  refine vx_catch (name := name) C0.2.2.2.1 pre x suf (C0.2.2.2.2.2.2.2.2.1.trans hsplit) (fun z hz => ?_) hx h0 (C0.2.2.2.2.1 _ hlink) (xs_ca hG.2.2 _ hcast) h5 h6 h7 (k1 q H locs ls h1 h2 h3 h4)
  obtain ⟨z0, nm, h8, h9⟩ := hpass z hz
  exact Or.inr ⟨z0, nm, C0.2.2.2.2.1 _ h8, xs_nc hG.2.2 _ h9⟩
variable {y : MethodName} {bytes : ByteArray} {maxL mc1 ms1 nA index : Nat} {rty : Option FieldType} {hh : List (Nat × Nat × Nat × Nat)} {rm : Room} {P1 : Option Value → xw_T → Nat → Prop} {X1 : String → xw_T → Nat → Prop} {As : List Value} {st0 : List Value}
theorem x_callSH (p1 : Nat) (C0 : xC p l s m args meth c g cc nL own ret tb) (hM : xMH l g y bytes maxL rty hh rm mc1 ms1 As w sz P1 X1) (hd : decode cc pc = .ok (.invokestatic index, 3)) (hp : pc + 3 = p1) (hcode : Cond.codeWith y bytes maxL rty hh ∈ xT) (hl : Cond.methodLink own index y ∈ xT) (hs : Cond.static y ∈ xT) (hini : Cond.initialized y.cls ∈ xT) (hy : y.cls ≠ "java/lang/invoke/MethodHandle" ∧ y.cls ≠ "java/lang/invoke/VarHandle" ∧ (parseMethodDescriptor y.desc).map (fun d => d.parameters.length) = some nA) (hrc : rm.cells = mc1) (hrs : rm.slots = ms1) (hR : rm.frames + 1 ≤ R.frames ∧ 8 + (maxL + 11) + rm.locals ≤ R.locals) (hn : As.length = nA) (hst : st0 = As.reverse ++ rest) (hW : (rest.map fun v => v.category).sum ≤ 8) (hf : k + mc1 ≤ R.cells ∧ n + ms1 ≤ R.slots)
    (kx : ∀ (E : String) (w1 : xw_T) (sz1 : Nat), X1 E w1 sz1 → xVX p l e R s m args below meth c Q g nL E w1 sz1 (k + mc1) (n + ms1) pc lv rest)
    (k1 : ∀ (r : Option Value) (w1 : xw_T) (sz1 : Nat), sz ≤ sz1 → P1 r w1 sz1 → xV p l e R s m args below meth c Q g nL w1 sz1 (k + mc1) (n + ms1) p1 lv (r.toList ++ rest)) : xV p l e R s m args below meth c Q g nL w sz k n pc lv st0 := by
  have hts := C0.2.2.2.2.1
  refine x_run p1 C0 hp (fun H locs ls h1 h2 h3 h4 => vx_runSX C0.fix hM ⟨⟨hrc, hrs, hR.1, hR.2, pay_in hts (xGood hcode), List.mem_cons_self⟩, hts _ hcode, hts _ hini, ⟨hy.1, hy.2.1⟩, fun sig h => ?_, hts _ hl, hts _ hs⟩ ⟨xPc.blind, xPc.at h1 h2 h3 C0.2.2.2.2.2.2.2.1⟩ rfl hn h4.1 hst (lv_room hW) hd hf) kx k1
  have h2 := hy.2.2
  rw [h] at h2
  exact (Option.some.inj h2).symm
theorem x_dast (t0 p1 : Nat) (C0 : xC p l s m args meth c g cc nL own ret tb) {a cA n1 : Nat} {f : Nat → UInt64} {i : Int32} {x : UInt64} (hd : decode cc pc = .ok (.dastore, 1)) (hp : pc + 1 = p1) (hw : w a = some (.inl (cA, n1, .inr (.inr (.inr (.inl f)))))) (hA : xA g a) (ht : (xtys g.2)[t0]? = some (cA, .double)) (hi : vp_in i n1) (k1 : xV p l e R s m args below meth c Q g nL (xup w a (.inl (cA, n1, .inr (.inr (.inr (.inl (vf_upd f i.toNatClampNeg x))))))) sz k n p1 lv rest) : xV p l e R s m args below meth c Q g nL w sz k n pc lv (.double x :: .int i :: .ref a :: rest) := by
  intro H locs ls h1 h2 h3 h4
  subst hp
  refine W.dast C0.1 C0.2.1 (h2 a _ hw) ((C0.2.2.2.2.2.2.2.1.1.2 t0 _ ht).1 n1 (fun j => .double (f j))) (fun q => by cases q) (by show ¬ (i < 0 ∨ (arrV _ _ _).slots.size ≤ _); rw [arrV_size]; exact hi) rfl rfl hd fun H1 e1 z oq => ?_
  refine k1 H1 _ ls (z.trans h1) (h2.put ?_ oq) (h3.put z oq hA) h4
  show H1[a]? = some (vp_cell _ _)
  rw [e1]
  rw [vp_cell_d, vp_cell_d, arrV_store]
  congr 2
  funext q
  by_cases hq : q = i.toNatClampNeg
  · subst hq
    simp [updV, vf_upd]
  · simp [updV, vf_upd, hq]
theorem x_dstore (lv1 : List (Nat × Value)) {i : Nat} {x : UInt64} (p1 : Nat) (C0 : xC p l s m args meth c g cc nL own ret tb) (hd : decode cc pc = .ok (.dstore i, 2)) (hp : pc + 2 = p1) (hn : i + 1 < nL) (hl : (i, Value.double x) :: lv.filter (fun q => !(q.1 == i) && (!(q.1 == i + 1) && !(q.1 + 1 == i && q.2.category == 2))) = lv1) (k1 : xV p l e R s m args below meth c Q g nL w sz k n p1 lv1 rest) : xV p l e R s m args below meth c Q g nL w sz k n pc lv (.double x :: rest) := by
  intro H locs ls h1 h2 h3 h4
  subst hp
  exact lv_dstore C0.1 C0.2.1 hd h4 hn hl (fun ls1 h5 => k1 H locs ls1 h1 h2 h3 h5)
theorem x_fstore (lv1 : List (Nat × Value)) {i : Nat} {x : UInt32} (p1 : Nat) (C0 : xC p l s m args meth c g cc nL own ret tb) (hd : decode cc pc = .ok (.fstore i, 2)) (hp : pc + 2 = p1) (hn : i < nL) (hl : (i, Value.float x) :: lv.filter (fun q => !(q.1 == i) && !(q.1 + 1 == i && q.2.category == 2)) = lv1) (k1 : xV p l e R s m args below meth c Q g nL w sz k n p1 lv1 rest) : xV p l e R s m args below meth c Q g nL w sz k n pc lv (.float x :: rest) := by
  intro H locs ls h1 h2 h3 h4
  subst hp
  exact lv_fstore C0.1 C0.2.1 hd h4 hn hl (fun ls1 h5 => k1 H locs ls1 h1 h2 h3 h5)
theorem x_lcmpE (p1 : Nat) (C0 : xC p l s m args meth c g cc nL own ret tb) {x y : Int64} (hd : decode cc pc = .ok (.lcmp, 1)) (hp : pc + 1 = p1) (he : x = y) (k1 : xV p l e R s m args below meth c Q g nL w sz k n p1 lv (.int 0 :: rest)) : xV p l e R s m args below meth c Q g nL w sz k n pc lv (.long y :: .long x :: rest) := by
  intro H locs ls h1 h2 h3 h4
  subst hp he
  have hexec := C0.1
  have hb := C0.2.1
  have hn : ¬ (x > x) := Int64.lt_irrefl
  intro T hT X
  obtain ⟨t, a, b⟩ := k1 H locs ls h1 h2 h3 h4 T hT X
  refine ⟨t, ?_, b⟩
  jvm_step X.here [X.here.top, hexec, hb, hd, Op.lcmp.sem, hn]
  exact a
theorem x_slen (p1 : Nat) (C0 : xC p l s m args meth c g cc nL own ret tb) {b L : Nat} {xs : Nat → Int32} (hX : va_X b L xs s s.heap) (hbl : b < s.heap.size) (hbA : ¬ xA g b) (hd : decode cc pc = .ok (.arraylength, 1)) (hp : pc + 1 = p1) (k1 : xV p l e R s m args below meth c Q g nL w sz k n p1 lv (.int (nI L) :: rest)) : xV p l e R s m args below meth c Q g nL w sz k n pc lv (.ref b :: rest) := by
  intro H locs ls h1 h2 h3 h4
  subst hp
  exact va_slen C0.1 C0.2.1 hX hbl hbA h3 hd (k1 H locs ls h1 h2 h3 h4)
theorem x_sld (p1 : Nat) (C0 : xC p l s m args meth c g cc nL own ret tb) {b L : Nat} {xs : Nat → Int32} (hX : va_X b L xs s s.heap) (hbl : b < s.heap.size) (hbA : ¬ xA g b) {i : Int32} (hi : vp_in i L) (hd : decode cc pc = .ok (.iaload, 1)) (hp : pc + 1 = p1) (k1 : xV p l e R s m args below meth c Q g nL w sz k n p1 lv (.int (xs i.toNatClampNeg) :: rest)) : xV p l e R s m args below meth c Q g nL w sz k n pc lv (.int i :: .ref b :: rest) := by
  intro H locs ls h1 h2 h3 h4
  subst hp
  exact va_sld C0.1 C0.2.1 hX hbl hbA h3 hi hd (k1 H locs ls h1 h2 h3 h4)
end XH
/-! the two cells that the wrappers write -/
def oE (g : xg_T) (f : Nat → Int64) : va_E := .inl (g.2 4, 1, .inr (.inl f))
def dE (g : xg_T) (f : Nat → UInt64) : va_E := .inl (g.2 5, 1, .inr (.inr (.inr (.inl f))))
def wFr (g : xg_T) (w w1 : xw_T) (sz a : Nat) : Prop := ∀ q, g.2 0 + 258 ≤ q → q < sz → q ≠ g.2 0 + a → w1 q = w q
def wO (g : xg_T) (w : xw_T) : Prop := ∃ f, w (g.2 0 + 267) = some (oE g f)
def wD (g : xg_T) (w : xw_T) : Prop := ∃ f, w (g.2 0 + 268) = some (dE g f)
def wPo (g : xg_T) (w : xw_T) (sz n : Nat) : Option Value → xw_T → Nat → Prop := fun r w1 sz1 => rI r ∧ CI g w1 sz1 n ∧ wFr g w w1 sz 267 ∧ wO g w1 ∧ sz ≤ sz1
def wPd (g : xg_T) (w : xw_T) (sz n : Nat) : Option Value → xw_T → Nat → Prop := fun r w1 sz1 => rI r ∧ CI g w1 sz1 n ∧ wFr g w w1 sz 268 ∧ wD g w1 ∧ sz ≤ sz1
def wPf (g : xg_T) (w : xw_T) (sz n : Nat) : Option Value → xw_T → Nat → Prop := fun r w1 sz1 => wFr g w w1 sz 267 ∧ sz ≤ sz1 ∧ ((n < 60 ∧ r = some (.int 0) ∧ CI g w1 sz1 (n + 1) ∧ ∃ f, w1 (g.2 0 + 267) = some (oE g f) ∧ f 0 = (nI (n + 1)).toInt64) ∨ (n = 60 ∧ r = some (.int 1) ∧ CI g w1 sz1 n ∧ wO g w1))
section WR
variable {g : xg_T} {w w1 : xw_T} {sz sz1 n : Nat}
theorem CI.lt (h : CI g w sz n) : g.2 0 + 269 ≤ sz := by
  obtain ⟨x, la, t, tt, vb, sg, hC⟩ := h
  exact hC.2.2.2.2
theorem CI.up {a : Nat} {e : va_E} (h : CI g w sz n) (ha : g.2 0 + 258 ≤ a ∧ a < g.2 0 + 269) : CI g (xup w a e) sz n := by
  obtain ⟨x, la, t, tt, vb, sg, hC⟩ := h
  exact ⟨x, la, t, tt, vb, sg, hC.go (fun q q1 q2 => xup_n (by omega)) (fun q q1 q2 => xup_n (by omega)) (Nat.le_refl _)⟩
theorem xFr.wf {a : Nat} (h : xFr g w w1 sz) : wFr g w w1 sz a := fun q q1 q2 _ => h q q1 q2
theorem xFr.wup {a : Nat} {e : va_E} (h : xFr g w w1 sz) : wFr g w (xup w1 (g.2 0 + a) e) sz a := fun q q1 q2 q3 => (xup_n q3).trans (h q q1 q2)
theorem xFr.o (h : xFr g w w1 sz) (hz : g.2 0 + 269 ≤ sz) {e : va_E} (ho : w (g.2 0 + 267) = some e) : w1 (g.2 0 + 267) = some e := (h _ (by omega) (by omega)).trans ho
theorem xFr.d (h : xFr g w w1 sz) (hz : g.2 0 + 269 ≤ sz) {e : va_E} (ho : w (g.2 0 + 268) = some e) : w1 (g.2 0 + 268) = some e := (h _ (by omega) (by omega)).trans ho
end WR
