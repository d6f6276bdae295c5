/-! further laws: receivers by a fact of the heap, methods of a superclass, copies, a clone -/
section XK2
variable {p : Program} {l : Launch} {e : Env} {R : Room} {s : State} {m : MethodId} {args : Array Value} {below : List Frame} {meth : Method} {c : Code} {Q : State → Prop}
variable {g : xg_T} {cc : ByteArray} {nL : Nat} {own : String} {ret : Option FieldType} {tb : List ExceptionTableEntry} {w : xw_T} {sz k n pc : Nat} {lv : List (Nat × Value)} {rest : List Value}
variable {y : MethodName} {bytes : ByteArray} {maxL mc1 ms1 nA index : Nat} {rty : Option FieldType} {rm : Room} {P1 : Option Value → xw_T → Nat → Prop} {X1 : String → xw_T → Nat → Prop} {C owner : String} {b : Nat} {As : List Value} {st0 : List Value}
/-- the receiver of kind C, over every heap of the world -/
def xRecv (g : xg_T) (s : State) (w : xw_T) (C : String) (b : Nat) : Prop := ∀ (H : Heap) (locs : List Loc), xw_H g w H → va_S (xA g) s.heap H locs → ∃ cellB : Cell, H[b]? = some cellB ∧ cellB.vm.isStatics = false ∧ s.vm.findClass C = some cellB.cls
theorem xRecv.ob (C0 : xC p l s m args meth c g cc nL own ret tb) {ci : Nat} {fs : List Value} {r : vw_C} (hw : w b = some (.inr (ci, fs))) (hc : vwCl[ci]? = some r) (hr : r.1 = C) : xRecv g s w C b := by
  subst hr
  exact fun H locs h2 _ => xw_recv C0 h2 hw hc
theorem xRecv.co {t : Nat} (h : va_O C t (xA g) s s.heap) : xRecv g s w C t := fun H locs _ h3 => by
  obtain ⟨cell, h1, h2, h4, -⟩ := h.kept h3.2.1
  exact ⟨cell, h1, h2, h4⟩
theorem x_callR (p1 : Nat) (C0 : xC p l s m args meth c g cc nL own ret tb) (hM : xM l g y bytes maxL rty rm mc1 ms1 (.ref b :: As) w sz P1 X1) (hd : decode cc pc = .ok (.invokevirtual index, 3)) (hp : pc + 3 = p1) (hcode : Cond.code y bytes maxL rty ∈ xT) (hl : Cond.methodLink own index y ∈ xT) (hi : Cond.instanceMethod y ∈ xT) (hs : Cond.selects C y y ∈ xT) (hini : Cond.initialized y.cls ∈ xT) (hy : y.cls ≠ "java/lang/invoke/MethodHandle" ∧ y.cls ≠ "java/lang/invoke/VarHandle" ∧ (parseMethodDescriptor y.desc).map (fun d => d.parameters.length) = some nA) (hrc : rm.cells = mc1) (hrs : rm.slots = ms1) (hR : rm.frames + 1 ≤ R.frames ∧ 8 + (maxL + 11) + rm.locals ≤ R.locals) (hw : xRecv g s w C b) (hn : As.length = nA) (hst : st0 = As.reverse ++ .ref b :: rest) (hW : (rest.map fun v => v.category).sum ≤ 8) (hf : k + mc1 ≤ R.cells ∧ n + ms1 ≤ R.slots)
    (kx : ∀ (E : String) (w1 : xw_T) (sz1 : Nat), X1 E w1 sz1 → xVX p l e R s m args below meth c Q g nL E w1 sz1 (k + mc1) (n + ms1) pc lv rest)
    (k1 : ∀ (r : Option Value) (w1 : xw_T) (sz1 : Nat), sz ≤ sz1 → P1 r w1 sz1 → xV p l e R s m args below meth c Q g nL w1 sz1 (k + mc1) (n + ms1) p1 lv (r.toList ++ rest)) : xV p l e R s m args below meth c Q g nL w sz k n pc lv st0 :=
  x_run p1 C0 hp (fun H locs ls h1 h2 h3 h4 => vx_runV C0.fix hM ⟨xcB C0 hcode hl hini hy hrc hrs hR, C0.2.2.2.2.1 _ hi, C0.2.2.2.2.1 _ hs⟩ ⟨xPc.blind, hw H locs h2 h3, xPc.at h1 h2 h3 C0.2.2.2.2.2.2.2.1⟩ rfl hn h4.1 hst (lv_room hW) hd hf) kx k1
/-- x stands in a class above, y is what the receiver's kind C has for it -/
theorem x_callU (p1 : Nat) {x : MethodName} (C0 : xC p l s m args meth c g cc nL own ret tb) (hM : xM l g y bytes maxL rty rm mc1 ms1 (.ref b :: As) w sz P1 X1) (hd : decode cc pc = .ok (.invokevirtual index, 3)) (hp : pc + 3 = p1) (hcode : Cond.code y bytes maxL rty ∈ xT) (hl : Cond.methodLink own index x ∈ xT) (hsame : Cond.sameMethod x.cls owner x.name x.desc ∈ xT) (hi : Cond.instanceMethod y ∈ xT) (hs : (Cond.selects C x y).before args s = true) (hdecl : va_Decl s ⟨owner, x.name, x.desc⟩) (hini : Cond.initialized y.cls ∈ xT) (hy : owner ≠ "java/lang/invoke/MethodHandle" ∧ owner ≠ "java/lang/invoke/VarHandle" ∧ (parseMethodDescriptor x.desc).map (fun d => d.parameters.length) = some nA) (hrc : rm.cells = mc1) (hrs : rm.slots = ms1) (hR : rm.frames + 1 ≤ R.frames ∧ 8 + (maxL + 11) + rm.locals ≤ R.locals) (hw : xRecv g s w C b) (hn : As.length = nA) (hst : st0 = As.reverse ++ .ref b :: rest) (hW : (rest.map fun v => v.category).sum ≤ 8) (hf : k + mc1 ≤ R.cells ∧ n + ms1 ≤ R.slots)
    (kx : ∀ (E : String) (w1 : xw_T) (sz1 : Nat), X1 E w1 sz1 → xVX p l e R s m args below meth c Q g nL E w1 sz1 (k + mc1) (n + ms1) pc lv rest)
    (k1 : ∀ (r : Option Value) (w1 : xw_T) (sz1 : Nat), sz ≤ sz1 → P1 r w1 sz1 → xV p l e R s m args below meth c Q g nL w1 sz1 (k + mc1) (n + ms1) p1 lv (r.toList ++ rest)) : xV p l e R s m args below meth c Q g nL w sz k n pc lv st0 :=
  x_run p1 C0 hp (fun H locs ls h1 h2 h3 h4 => vx_runU C0.fix hM ⟨⟨hrc, hrs, hR.1, hR.2, pay_in C0.2.2.2.2.1 (xGood hcode), List.mem_cons_self⟩, C0.2.2.2.2.1 _ hcode, C0.2.2.2.2.1 _ hini, ⟨hy.1, hy.2.1⟩, (fun sig h => by
    have h9 := hy.2.2
    rw [h] at h9
    exact (Option.some.inj h9).symm), C0.2.2.2.2.1 _ hl, C0.2.2.2.2.1 _ hsame, hdecl, hs, C0.2.2.2.2.1 _ hi⟩ ⟨xPc.blind, hw H locs h2 h3, xPc.at h1 h2 h3 C0.2.2.2.2.2.2.2.1⟩ rfl hn h4.1 hst (lv_room hW) hd hf) kx k1
theorem xDecl (C0 : xC p l s m args meth c g cc nL own ret tb) (hi : Cond.instanceMethod y ∈ xT) (hc : Cond.code y bytes maxL rty ∈ xT) : va_Decl s y := va_Decl.of (C0.2.2.2.2.1 _ hi) (C0.2.2.2.2.1 _ hc)
/-- super.y(..) -/
theorem x_callSU (p1 : Nat) {cC : ClassId} (C0 : xC p l s m args meth c g cc nL own ret tb) (hat : ClassAt s C cC) (hM : xM l g y bytes maxL rty rm mc1 ms1 (.ref b :: As) w sz P1 X1) (hd : decode cc pc = .ok (.invokespecial index, 3)) (hp : pc + 3 = p1) (hcode : Cond.code y bytes maxL rty ∈ xT) (hl : Cond.methodLink own index y ∈ xT) (hsame : Cond.sameMethod y.cls y.cls y.name y.desc ∈ xT) (hsup : Cond.superclass own y.cls ∈ xT) (hi : Cond.instanceMethod y ∈ xT) (hini : Cond.initialized y.cls ∈ xT) (hyn : y.name ≠ "<init>") (hy : y.cls ≠ "java/lang/invoke/MethodHandle" ∧ y.cls ≠ "java/lang/invoke/VarHandle" ∧ (parseMethodDescriptor y.desc).map (fun d => d.parameters.length) = some nA) (hrc : rm.cells = mc1) (hrs : rm.slots = ms1) (hR : rm.frames + 1 ≤ R.frames ∧ 8 + (maxL + 11) + rm.locals ≤ R.locals) (hw : xRecv g s w C b) (hn : As.length = nA) (hst : st0 = As.reverse ++ .ref b :: rest) (hW : (rest.map fun v => v.category).sum ≤ 8) (hf : k + mc1 ≤ R.cells ∧ n + ms1 ≤ R.slots)
    (kx : ∀ (E : String) (w1 : xw_T) (sz1 : Nat), X1 E w1 sz1 → xVX p l e R s m args below meth c Q g nL E w1 sz1 (k + mc1) (n + ms1) pc lv rest)
    (k1 : ∀ (r : Option Value) (w1 : xw_T) (sz1 : Nat), sz ≤ sz1 → P1 r w1 sz1 → xV p l e R s m args below meth c Q g nL w1 sz1 (k + mc1) (n + ms1) p1 lv (r.toList ++ rest)) : xV p l e R s m args below meth c Q g nL w sz k n pc lv st0 :=
  x_run p1 C0 hp (fun H locs ls h1 h2 h3 h4 => vx_runSU hat C0.fix hM ⟨⟨hrc, hrs, hR.1, hR.2, pay_in C0.2.2.2.2.1 (xGood hcode), List.mem_cons_self⟩, C0.2.2.2.2.1 _ hl, C0.2.2.2.2.1 _ hsame, C0.2.2.2.2.1 _ hsup, C0.2.2.2.2.1 _ hi, C0.2.2.2.2.1 _ hini, C0.2.2.2.2.1 _ hcode, hyn, (fun sig h => by
    have h9 := hy.2.2
    rw [h] at h9
    exact (Option.some.inj h9).symm)⟩ ⟨xPc.blind, hw H locs h2 h3, xPc.at h1 h2 h3 C0.2.2.2.2.2.2.2.1⟩ rfl hn h4.1 hst (lv_room hW) hd hf) kx k1
theorem x_callIN (p1 : Nat) {host : String} (C0 : xC p l s m args meth c g cc nL own ret tb) (hM : xM l g y bytes maxL none rm mc1 ms1 (.ref b :: As) w sz P1 X1) (hd : decode cc pc = .ok (.invokespecial index, 3)) (hp : pc + 3 = p1) (hcode : Cond.code y bytes maxL none ∈ xT) (hl : va_Nw (.methodLinkNest own index y host) s) (hi : Cond.instanceMethod y ∈ xT) (hini : Cond.initialized y.cls ∈ xT) (hyn : y.name = "<init>") (hy : y.cls ≠ "java/lang/invoke/MethodHandle" ∧ y.cls ≠ "java/lang/invoke/VarHandle" ∧ (parseMethodDescriptor y.desc).map (fun d => d.parameters.length) = some nA) (hrc : rm.cells = mc1) (hrs : rm.slots = ms1) (hR : rm.frames + 1 ≤ R.frames ∧ 8 + (maxL + 11) + rm.locals ≤ R.locals) (hn : As.length = nA) (hst : st0 = As.reverse ++ .ref b :: rest) (hW : (rest.map fun v => v.category).sum ≤ 8) (hf : k + mc1 ≤ R.cells ∧ n + ms1 ≤ R.slots)
    (kx : ∀ (E : String) (w1 : xw_T) (sz1 : Nat), X1 E w1 sz1 → xVX p l e R s m args below meth c Q g nL E w1 sz1 (k + mc1) (n + ms1) pc lv rest)
    (k1 : ∀ (r : Option Value) (w1 : xw_T) (sz1 : Nat), sz ≤ sz1 → P1 r w1 sz1 → xV p l e R s m args below meth c Q g nL w1 sz1 (k + mc1) (n + ms1) p1 lv (r.toList ++ rest)) : xV p l e R s m args below meth c Q g nL w sz k n pc lv st0 :=
  x_run p1 C0 hp (fun H locs ls h1 h2 h3 h4 => vx_runIN C0.fix hM ⟨va_cnB nA C0.2.2.2.2.1 (xGood hcode) rfl hrc hrs hl (C0.2.2.2.2.1 _ hini) hy hR, hyn, C0.2.2.2.2.1 _ hi⟩ ⟨xPc.blind, xPc.at h1 h2 h3 C0.2.2.2.2.2.2.2.1⟩ rfl hn h4.1 hst (lv_room hW) hd hf) kx k1
end XK2
section XK3
variable {p : Program} {l : Launch} {e : Env} {R : Room} {s : State} {m : MethodId} {args : Array Value} {below : List Frame} {meth : Method} {c : Code} {Q : State → Prop}
variable {g : xg_T} {cc : ByteArray} {nL : Nat} {own : String} {ret : Option FieldType} {tb : List ExceptionTableEntry} {w : xw_T} {sz k n pc : Nat} {lv : List (Nat × Value)} {rest : List Value}
theorem x_bast (t0 p1 : Nat) (C0 : xC p l s m args meth c g cc nL own ret tb) {a cA n1 : Nat} {f : Nat → Int32} {i x v : Int32} (hd : decode cc pc = .ok (.bastore, 1)) (hp : pc + 1 = p1) (hw : w a = some (.inl (cA, n1, .inl f))) (hA : xA g a) (ht : (xtys g.2)[t0]? = some (cA, .byte)) (hi : vp_in i n1) (hv : vp_nar .byte x = v) (k1 : xV p l e R s m args below meth c Q g nL (xup w a (.inl (cA, n1, .inl (upd f i.toNatClampNeg v)))) sz k n p1 lv rest) : xV p l e R s m args below meth c Q g nL w sz k n pc lv (.int x :: .int i :: .ref a :: rest) := by
  intro H locs ls h1 h2 h3 h4
  subst hp hv
  refine W.bast C0.1 C0.2.1 (h2 a _ hw) ((C0.2.2.2.2.2.2.2.1.1.2 t0 _ ht).1 n1 (fun j => .int (f j))) (fun q => by cases q) (by show ¬ (i < 0 ∨ (arrV _ _ _).slots.size ≤ _); rw [arrV_size]; exact hi) rfl rfl hd fun H1 e1 z oq => ?_
  refine k1 H1 _ ls (z.trans h1) (h2.put ?_ oq) (h3.put z oq hA) h4
  show H1[a]? = some (vp_cell _ _)
  rw [e1]
  rw [vp_cell_i, vp_cell_i, arrV_store]
  congr 2
  funext q
  by_cases hq : q = i.toNatClampNeg
  · subst hq
    simp [updV, upd, vp_nar_byte, narrow]
  · simp [updV, upd, hq]
theorem x_cast (t0 p1 : Nat) (C0 : xC p l s m args meth c g cc nL own ret tb) {a cA n1 : Nat} {f : Nat → Int32} {i x v : Int32} (hd : decode cc pc = .ok (.castore, 1)) (hp : pc + 1 = p1) (hw : w a = some (.inl (cA, n1, .inl f))) (hA : xA g a) (ht : (xtys g.2)[t0]? = some (cA, .char)) (hi : vp_in i n1) (hv : vp_nar .char x = v) (k1 : xV p l e R s m args below meth c Q g nL (xup w a (.inl (cA, n1, .inl (upd f i.toNatClampNeg v)))) sz k n p1 lv rest) : xV p l e R s m args below meth c Q g nL w sz k n pc lv (.int x :: .int i :: .ref a :: rest) := by
  intro H locs ls h1 h2 h3 h4
  subst hp hv
  refine W.cast C0.1 C0.2.1 (h2 a _ hw) ((C0.2.2.2.2.2.2.2.1.1.2 t0 _ ht).1 n1 (fun j => .int (f j))) (fun q => by cases q) (by show ¬ (i < 0 ∨ (arrV _ _ _).slots.size ≤ _); rw [arrV_size]; exact hi) rfl rfl hd fun H1 e1 z oq => ?_
  refine k1 H1 _ ls (z.trans h1) (h2.put ?_ oq) (h3.put z oq hA) h4
  show H1[a]? = some (vp_cell _ _)
  rw [e1]
  rw [vp_cell_i, vp_cell_i, arrV_store]
  congr 2
  funext q
  by_cases hq : q = i.toNatClampNeg
  · subst hq
    simp [updV, upd, vp_nar_char, narrow]
  · simp [updV, upd, hq]
theorem xnn (z : Int32) (hz : ¬ z < 0) : z.toInt = (z.toNatClampNeg : Int) := by
  have hz0 : (0 : Int) ≤ z.toInt := by
    have := Int32.not_lt.mp hz
    simpa using Int32.le_iff_toInt_le.mp this
  show z.toInt = ((z.toInt.toNat : Nat) : Int)
  omega
/-- System.arraycopy out of any cell that stands -/
theorem x_copyC (t1 p1 : Nat) (C0 : xC p l s m args meth c g cc nL own ret tb) {ty : FieldType} {b0 a c1 n0 n1 index : Nat} {f : Nat → Int32} {gg : Nat → Int32} {sp dp nn : Int32} (hd : decode cc pc = .ok (.invokestatic index, 3)) (hp : pc + 3 = p1) (hlink : Cond.methodLink own index arraycopyName ∈ xT) (hnat : Cond.native arraycopyName ∈ xT) (hstat : Cond.static arraycopyName ∈ xT) (hini : Cond.initialized "java/lang/System" ∈ xT) (hty : refKind ty = false)
    (hsrc : ∀ (H : Heap) (locs : List Loc), xw_H g w H → va_S (xA g) s.heap H locs → ∃ scr : Cell, H[b0]? = some scr ∧ s.isArrayOf scr ty ∧ scr.vm ≠ .unknown ∧ n0 ≤ scr.slots.size ∧ ∀ j : Nat, j < n0 → scr.slots[j]? = some (.int (f j))) (hw : w a = some (.inl (c1, n1, .inl gg))) (hA : xA g a) (ht : (xtys g.2)[t1]? = some (c1, ty))
    (h1 : ¬ sp < 0) (h2 : ¬ dp < 0) (h3 : ¬ nn < 0) (h4 : sp.toNatClampNeg + nn.toNatClampNeg ≤ n0) (h5 : dp.toNatClampNeg + nn.toNatClampNeg ≤ n1) (hfit : ∀ i : Nat, i < nn.toNatClampNeg → fits ty (.int (f (sp.toNatClampNeg + i))) = true)
    (hframes : 1 ≤ R.frames) (hlocals : (rest.map fun v => v.category).sum + (nativeFrameWords "java/lang/System" "arraycopy" 5 + 11) ≤ R.locals) (k1 : xV p l e R s m args below meth c Q g nL (xup w a (.inl (c1, n1, .inl (va_cpy f gg sp.toNatClampNeg dp.toNatClampNeg nn.toNatClampNeg)))) sz k n p1 lv rest) : xV p l e R s m args below meth c Q g nL w sz k n pc lv (.int nn :: .int dp :: .ref a :: .int sp :: .ref b0 :: rest) := by
  intro H locs ls j1 j2 j3 j4 T hT X
  subst hp
  have hts := C0.2.2.2.2.1
  obtain ⟨scr, hc0, hs2, hs3, hs4, hs5⟩ := hsrc H locs j2 j3
  have hc1 : H[a]? = some (vp_cell c1 (n1, .inl gg)) := j2 a _ hw
  obtain ⟨hs6, k0, hk0, cm0, hkk0⟩ := hs2
  obtain ⟨-, k9, hk9, cm9, hkk9⟩ := (C0.2.2.2.2.2.2.2.1.1.2 t1 _ ht).1 n1 (fun j => .int (gg j))
  obtain ⟨vm', X', step⟩ := X.arraycopy C0.1 C0.2.2.2.1 (hts _ hlink) (hts _ hnat) (hts _ hstat) (hts _ hini) (src := b0) (dst := a) (cs := scr) (cd := vp_cell c1 (n1, .inl gg)) (srcPos := sp) (destPos := dp) (n := nn) (by rw [hT]; exact hc0) (by rw [hT]; exact hc1)
    hs6 (fun _ h => by cases h) hs3 (fun h => by cases h) hk0 hk9 hkk0 hkk9 (by simp [hty]) h1 h2 h3
    (by rw [xnn sp h1, xnn nn h3]; omega)
    (by rw [xnn dp h2, xnn nn h3]; show ¬ _ > ((arrV c1 n1 (fun j => .int (gg j))).slots.size : Int); rw [arrV_size]; omega)
    (fun vm₁ _ i hi => by
      have e : scr.slots.getD (sp.toNatClampNeg + i) .null = .int (f (sp.toNatClampNeg + i)) := by
        rw [Array.getD_eq_getD_getElem?, hs5 _ (by omega)]
        rfl
      refine ⟨?_, ?_⟩
      · rw [e]
        exact hfit i hi
      · rw [e]
        exact trivial)
    (g := F0 m pc ls (.int nn :: .int dp :: .ref a :: .int sp :: .ref b0 :: rest)) rfl (by rw [C0.2.2.1, F0]; exact j4.1) (rest := rest) rfl (by rw [C0.2.1]; exact hd) hframes (by show 2 * 0 + _ + _ ≤ _; omega)
  have e1 : copied scr (vp_cell c1 (n1, .inl gg)) sp dp nn = vp_cell c1 (n1, .inl (va_cpy f gg sp.toNatClampNeg dp.toNatClampNeg nn.toNatClampNeg)) := va_copiedX (fun z => .int z) scr c1 f gg hs5 h4
  rw [e1] at X' step
  have hl : a < H.size := (Array.getElem?_eq_some_iff.mp hc1).1
  have hheap : ((T.setVm vm').setCell a (vp_cell c1 (n1, .inl (va_cpy f gg sp.toNatClampNeg dp.toNatClampNeg nn.toNatClampNeg)))).heap = H.setIfInBounds a (vp_cell c1 (n1, .inl (va_cpy f gg sp.toNatClampNeg dp.toNatClampNeg nn.toNatClampNeg))) := by rw [← hT]; rfl
  have oq : ∀ q : Nat, q ≠ a → (H.setIfInBounds a (vp_cell c1 (n1, .inl (va_cpy f gg sp.toNatClampNeg dp.toNatClampNeg nn.toNatClampNeg))))[q]? = H[q]? := fun q hq => by simp [Array.getElem?_setIfInBounds, Ne.symm hq]
  obtain ⟨t, a1, b1⟩ := k1 _ _ ls (by simpa using j1) (j2.put (show (H.setIfInBounds a _)[a]? = some _ by simp [Array.getElem?_setIfInBounds, hl]) oq) ⟨by simp; exact j3.1, fun q g1 g2 => by
      rw [oq q (fun e => g2 (by rw [e]; exact hA))]
      exact j3.2.1 q g1 g2, fun q hq => by
      rcases List.mem_append.mp hq with h | h
      · exact j3.2.2 q h
      · obtain ⟨z, -, hz⟩ := List.mem_map.mp h
        rw [← hz]
        exact hA⟩ j4 _ hheap X'
  exact ⟨t, step t a1, b1⟩
theorem xsrcW (C0 : xC p l s m args meth c g cc nL own ret tb) {ty : FieldType} {b0 cA n0 t0 : Nat} {f : Nat → Int32} (hw : w b0 = some (.inl (cA, n0, .inl f))) (ht : (xtys g.2)[t0]? = some (cA, ty)) : ∀ (H : Heap) (locs : List Loc), xw_H g w H → va_S (xA g) s.heap H locs → ∃ scr : Cell, H[b0]? = some scr ∧ s.isArrayOf scr ty ∧ scr.vm ≠ .unknown ∧ n0 ≤ scr.slots.size ∧ ∀ j : Nat, j < n0 → scr.slots[j]? = some (.int (f j)) := fun H locs h2 _ =>
  ⟨_, h2 b0 _ hw, (C0.2.2.2.2.2.2.2.1.1.2 t0 _ ht).1 n0 (fun j => .int (f j)), (fun h => by cases h), (by rw [vp_cell_i, arrV_size]; exact Nat.le_refl _), fun j hj => by rw [vp_cell_i, arrV_read _ _ hj]⟩
theorem xsrcT {ty : FieldType} {b0 n0 : Nat} {f : Nat → Int32} (hT : va_T ty b0 n0 (fun j => .int (f j)) (xA g) s s.heap) : ∀ (H : Heap) (locs : List Loc), xw_H g w H → va_S (xA g) s.heap H locs → ∃ scr : Cell, H[b0]? = some scr ∧ s.isArrayOf scr ty ∧ scr.vm ≠ .unknown ∧ n0 ≤ scr.slots.size ∧ ∀ j : Nat, j < n0 → scr.slots[j]? = some (.int (f j)) := fun H locs _ h3 => by
  obtain ⟨scr, q1, q2, q3, q4, -, q5, q7⟩ := hT.kept h3.2.1
  exact ⟨scr, q1, q2, q3, q4, q5⟩
theorem x_clone (t0 p1 : Nat) (C0 : xC p l s m args meth c g cc nL own ret tb) {ad : String} {index a cA k2 n2 : Nat} {x : vp_A} {ty : FieldType} (hd : decode cc pc = .ok (.invokevirtual index, 3)) (hp : pc + 3 = p1) (hlink : Cond.methodLink own index ⟨ad, "clone", "()Ljava/lang/Object;"⟩ ∈ xT) (hsame : Cond.sameMethod ad "java/lang/Object" "clone" "()Ljava/lang/Object;" ∈ xT) (hnat : Cond.native ⟨"java/lang/Object", "clone", "()Ljava/lang/Object;"⟩ ∈ xT) (hinst : Cond.instanceMethod ⟨"java/lang/Object", "clone", "()Ljava/lang/Object;"⟩ ∈ xT) (hsel : Cond.selects ad ⟨ad, "clone", "()Ljava/lang/Object;"⟩ ⟨"java/lang/Object", "clone", "()Ljava/lang/Object;"⟩ ∈ xT) (hcl : va_Nw (.castable ad "java/lang/Cloneable") s) (hw : w a = some (.inl (cA, x))) (ht : (xtys g.2)[t0]? = some (cA, ty)) (hnm : s.vm.findClass ad = some cA) (hfit : ∀ (i : Nat) (v : Value), (vp_cell cA x).slots[i]? = some v → fits ty v = true) (hframes : 1 ≤ R.frames) (hlocals : (rest.map fun v => v.category).sum + 14 ≤ R.locals) (hk : k + 1 = k2) (hn : n + x.1 = n2) (hcells : k2 ≤ R.cells) (hslots : n2 ≤ R.slots) (k1 : xV p l e R s m args below meth c Q g nL (xup w sz (.inl (cA, x))) (sz + 1) k2 n2 p1 lv (.ref sz :: rest)) : xV p l e R s m args below meth c Q g nL w sz k n pc lv (.ref a :: rest) := by
  intro H locs ls j1 j2 j3 j4
  subst hp hk hn j1
  have hts := C0.2.2.2.2.1
  have hG := C0.2.2.2.2.2.2.2.1
  have hsz : (vp_cell cA x).slots.size = x.1 := by
    obtain ⟨n, f | f | f | f | f⟩ := x <;> exact arrV_size _ _ _
  have hvm0 : (vp_cell cA x).vm = .none := by
    obtain ⟨n, f | f | f | f | f⟩ := x <;> rfl
  have hcl0 : (vp_cell cA x).cls = cA := by
    obtain ⟨n, f | f | f | f | f⟩ := x <;> rfl
  have hcellE : ({ cls := (vp_cell cA x).cls, slots := (vp_cell cA x).slots } : Cell) = vp_cell cA x := by
    obtain ⟨n, f | f | f | f | f⟩ := x <;> rfl
  obtain ⟨c0, t0', f1, f2, f3⟩ := Cond.castable_spec (va_Nw.use (A := args) rfl hcl)
  cases hnm.symm.trans f1
  intro T hT X
  have hcellT : T.heap[a]? = some (vp_cell cA x) := by rw [hT]; exact j2 a _ hw
  obtain ⟨-, kA, hkA, comp, hkind⟩ := State.isArrayOf_alike X.warmed.alike ((hG.1.2 t0 _ ht).1 0 (fun _ => .null))
  obtain ⟨-, kS, hkS, compS, hkindS⟩ := (hG.1.2 t0 _ ht).1 0 (fun _ => .null)
  obtain ⟨vm', X', st⟩ := X.cloneArray C0.1 C0.2.2.2.1 (hts _ hlink) (hts _ hsame) (hts _ hnat) (hts _ hinst) (hts _ hsel) (a := a) (cell := vp_cell cA x) hcellT (fun k h => by rw [hvm0] at h; cases h) (by rw [hvm0]; exact fun h => by cases h) (by rw [hcl0]; exact hnm) f2 (by rw [hcl0]; exact f3)
    (fun i v hv => by
      rw [hcl0]
      have hk' : T.vm.classes[cA]? = some kA := hkA
      simpa [State.fitsSlot, State.slotType?, hk', hkind] using hfit i v hv)
    (g := F0 m pc ls (.ref a :: rest)) rfl (by rw [C0.2.2.1, F0]; exact j4.1) rfl (by rw [C0.2.1]; exact hd) hframes (by show 2 * 0 + _ + 14 ≤ _; omega) hcells (by rw [hsz]; exact hslots) (hloader := by rw [hcl0]; exact Vm.clonesLoader_of_array hkS hkindS)
  rw [hcellE, hsz] at X'
  generalize hH1 : H.push (vp_cell cA x) = H1
  have z1 : H1.size = H.size + 1 := by rw [← hH1, Array.size_push]
  have e1 : H1[H.size]? = some (vp_cell cA x) := by rw [← hH1, Array.getElem?_push_size]
  have o1 : ∀ q : Nat, q < H.size → H1[q]? = H[q]? := fun q hq => by rw [← hH1, Array.getElem?_push, if_neg (Nat.ne_of_lt hq)]
  obtain ⟨t, b1, b2⟩ := k1 H1 locs ls z1 (j2.push e1 o1) ⟨Nat.le_trans j3.1 (by omega), fun y h1 h2 => (o1 y (Nat.lt_of_lt_of_le h1 j3.1)).trans (j3.2.1 y h1 h2), j3.2.2⟩ j4
    ((T.setVm vm').pushCell (vp_cell cA x)) (by rw [← hH1, ← hT]; rfl) X'
  refine ⟨t, st t ?_, b2⟩
  rw [hcellE, hT]
  exact b1
theorem x_castA (p1 : Nat) (C0 : xC p l s m args meth c g cc nL own ret tb) {nm : String} {index a cA : Nat} {x : vp_A} (hd : decode cc pc = .ok (.checkcast index, 3)) (hp : pc + 3 = p1) (hlink : Cond.classLink own index nm ∈ xT) (hw : w a = some (.inl (cA, x))) (hnm : s.vm.findClass nm = some cA) (k1 : xV p l e R s m args below meth c Q g nL w sz k n p1 lv (.ref a :: rest)) : xV p l e R s m args below meth c Q g nL w sz k n pc lv (.ref a :: rest) := by
  intro H locs ls h1 h2 h3 h4
  subst hp
  exact va_castA C0.1 C0.2.1 C0.2.2.2.1 (C0.2.2.2.2.1 _ hlink) (h2.one hw) 0 rfl hnm hd (k1 H locs ls h1 h2 h3 h4)
/-- the name of an array of numbers, by the book -/
theorem xNmB (C0 : xC p l s m args meth c g cc nL own ret tb) : s.vm.findClass "[B" = some (g.2 3) := (C0.2.2.2.2.2.2.2.1.1.2 2 _ rfl).2
end XK3
