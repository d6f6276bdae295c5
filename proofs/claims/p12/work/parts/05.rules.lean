/-! arrays, new things, calls, ends -/
theorem xC.kind (a : Nat → Nat) : ∀ t : Nat, t < 7 → ∃ q, (xtys a)[t]? = some q := by
  intro t ht
  exact ⟨_, List.getElem?_eq_getElem (by simpa [xtys] using ht)⟩
section XR
variable {p : Program} {l : Launch} {e : Env} {R : Room} {s : State} {m : MethodId} {args : Array Value} {below : List Frame} {meth : Method} {c : Code} {Q : State → Prop}
variable {g : xg_T} {cc : ByteArray} {nL : Nat} {own : String} {ret : Option FieldType} {tb : List ExceptionTableEntry} {w : xw_T} {sz k n pc : Nat} {lv : List (Nat × Value)} {rest : List Value}
theorem x_iald (t0 p1 : Nat) (C0 : xC p l s m args meth c g cc nL own ret tb) {a cA n1 : Nat} {f : Nat → Int32} {i : Int32} (hd : decode cc pc = .ok (.iaload, 1)) (hp : pc + 1 = p1) (hw : w a = some (.inl (cA, n1, .inl f))) (ht : (xtys g.2)[t0]? = some (cA, .int)) (hi : vp_in i n1) (k1 : xV p l e R s m args below meth c Q g nL w sz k n p1 lv (.int (f i.toNatClampNeg) :: rest)) : xV p l e R s m args below meth c Q g nL w sz k n pc lv (.int i :: .ref a :: rest) := by
  intro H locs ls h1 h2 h3 h4
  subst hp
  exact va_iald C0.1 C0.2.1 C0.2.2.2.2.2.2.2.1.1 (h2.one hw) 0 t0 rfl ht hi hd (k1 H locs ls h1 h2 h3 h4)
theorem x_cald (t0 p1 : Nat) (C0 : xC p l s m args meth c g cc nL own ret tb) {a cA n1 : Nat} {f : Nat → Int32} {i : Int32} (hd : decode cc pc = .ok (.caload, 1)) (hp : pc + 1 = p1) (hw : w a = some (.inl (cA, n1, .inl f))) (ht : (xtys g.2)[t0]? = some (cA, .char)) (hi : vp_in i n1) (k1 : xV p l e R s m args below meth c Q g nL w sz k n p1 lv (.int (f i.toNatClampNeg) :: rest)) : xV p l e R s m args below meth c Q g nL w sz k n pc lv (.int i :: .ref a :: rest) := by
  intro H locs ls h1 h2 h3 h4
  subst hp
  exact va_cald C0.1 C0.2.1 C0.2.2.2.2.2.2.2.1.1 (h2.one hw) 0 t0 rfl ht hi hd (k1 H locs ls h1 h2 h3 h4)
theorem x_bald (t0 p1 : Nat) (C0 : xC p l s m args meth c g cc nL own ret tb) {a cA n1 : Nat} {f : Nat → Int32} {i : Int32} (hd : decode cc pc = .ok (.baload, 1)) (hp : pc + 1 = p1) (hw : w a = some (.inl (cA, n1, .inl f))) (ht : (xtys g.2)[t0]? = some (cA, .byte)) (hi : vp_in i n1) (k1 : xV p l e R s m args below meth c Q g nL w sz k n p1 lv (.int (f i.toNatClampNeg) :: rest)) : xV p l e R s m args below meth c Q g nL w sz k n pc lv (.int i :: .ref a :: rest) := by
  intro H locs ls h1 h2 h3 h4
  subst hp
  exact va_bald C0.1 C0.2.1 C0.2.2.2.2.2.2.2.1.1 (h2.one hw) 0 t0 rfl ht hi hd (k1 H locs ls h1 h2 h3 h4)
theorem x_lald (t0 p1 : Nat) (C0 : xC p l s m args meth c g cc nL own ret tb) {a cA n1 : Nat} {f : Nat → Int64} {i : Int32} (hd : decode cc pc = .ok (.laload, 1)) (hp : pc + 1 = p1) (hw : w a = some (.inl (cA, n1, .inr (.inl f)))) (ht : (xtys g.2)[t0]? = some (cA, .long)) (hi : vp_in i n1) (k1 : xV p l e R s m args below meth c Q g nL w sz k n p1 lv (.long (f i.toNatClampNeg) :: rest)) : xV p l e R s m args below meth c Q g nL w sz k n pc lv (.int i :: .ref a :: rest) := by
  intro H locs ls h1 h2 h3 h4
  subst hp
  exact va_lald C0.1 C0.2.1 C0.2.2.2.2.2.2.2.1.1 (h2.one hw) 0 t0 rfl ht hi hd (k1 H locs ls h1 h2 h3 h4)
theorem x_dald (t0 p1 : Nat) (C0 : xC p l s m args meth c g cc nL own ret tb) {a cA n1 : Nat} {f : Nat → UInt64} {i : Int32} (hd : decode cc pc = .ok (.daload, 1)) (hp : pc + 1 = p1) (hw : w a = some (.inl (cA, n1, .inr (.inr (.inr (.inl f)))))) (ht : (xtys g.2)[t0]? = some (cA, .double)) (hi : vp_in i n1) (k1 : xV p l e R s m args below meth c Q g nL w sz k n p1 lv (.double (f i.toNatClampNeg) :: rest)) : xV p l e R s m args below meth c Q g nL w sz k n pc lv (.int i :: .ref a :: rest) := by
  intro H locs ls h1 h2 h3 h4
  subst hp
  exact va_dald C0.1 C0.2.1 C0.2.2.2.2.2.2.2.1.1 (h2.one hw) 0 t0 rfl ht hi hd (k1 H locs ls h1 h2 h3 h4)
theorem x_aald (t0 p1 : Nat) (C0 : xC p l s m args meth c g cc nL own ret tb) {a cA n1 : Nat} {C : String} {f : Nat → Option Nat} {i : Int32} (hd : decode cc pc = .ok (.aaload, 1)) (hp : pc + 1 = p1) (hw : w a = some (.inl (cA, n1, .inr (.inr (.inr (.inr f)))))) (ht : (xtys g.2)[t0]? = some (cA, .object C)) (hi : vp_in i n1) (k1 : xV p l e R s m args below meth c Q g nL w sz k n p1 lv (va_rf (f i.toNatClampNeg) :: rest)) : xV p l e R s m args below meth c Q g nL w sz k n pc lv (.int i :: .ref a :: rest) := by
  intro H locs ls h1 h2 h3 h4
  subst hp
  exact va_aldq C0.1 C0.2.1 C0.2.2.2.2.2.2.2.1.1 (h2.one hw) 0 t0 rfl ht hi hd (k1 H locs ls h1 h2 h3 h4)
theorem x_alen (t0 p1 : Nat) (C0 : xC p l s m args meth c g cc nL own ret tb) {a cA : Nat} {x : vp_A} {ty : FieldType} {v : Int32} (hd : decode cc pc = .ok (.arraylength, 1)) (hp : pc + 1 = p1) (hw : w a = some (.inl (cA, x))) (ht : (xtys g.2)[t0]? = some (cA, ty)) (hv : Int32.ofNat x.1 = v) (k1 : xV p l e R s m args below meth c Q g nL w sz k n p1 lv (.int v :: rest)) : xV p l e R s m args below meth c Q g nL w sz k n pc lv (.ref a :: rest) := by
  intro H locs ls h1 h2 h3 h4
  subst hp
  exact va_alen C0.1 C0.2.1 C0.2.2.2.2.2.2.2.1.1 (h2.one hw) 0 t0 rfl ht hv hd (k1 H locs ls h1 h2 h3 h4)
theorem x_iast (t0 p1 : Nat) (C0 : xC p l s m args meth c g cc nL own ret tb) {a cA n1 : Nat} {f : Nat → Int32} {i : Int32} {x : Int32} (hd : decode cc pc = .ok (.iastore, 1)) (hp : pc + 1 = p1) (hw : w a = some (.inl (cA, n1, .inl f))) (hA : xA g a) (ht : (xtys g.2)[t0]? = some (cA, .int)) (hi : vp_in i n1) (k1 : xV p l e R s m args below meth c Q g nL (xup w a (.inl (cA, n1, .inl (upd f i.toNatClampNeg x)))) sz k n p1 lv rest) : xV p l e R s m args below meth c Q g nL w sz k n pc lv (.int x :: .int i :: .ref a :: rest) := by
  intro H locs ls h1 h2 h3 h4
  subst hp
  refine W.iast C0.1 C0.2.1 (h2 a _ hw) ((C0.2.2.2.2.2.2.2.1.1.2 t0 _ ht).1 n1 (fun j => .int (f j))) (fun q => by cases q) (by show ¬ (i < 0 ∨ (arrV _ _ _).slots.size ≤ _); rw [arrV_size]; exact hi) rfl rfl hd fun H1 e1 z oq => ?_
  refine k1 H1 _ ls (z.trans h1) (h2.put ?_ oq) (h3.put z oq hA) h4
  show H1[a]? = some (vp_cell _ _)
  rw [e1]
  rw [vp_cell_i, vp_cell_i, arrV_store]
  congr 2
  funext q
  by_cases hq : q = i.toNatClampNeg
  · subst hq
    simp [updV, upd]
  · simp [updV, upd, hq]
theorem x_last (t0 p1 : Nat) (C0 : xC p l s m args meth c g cc nL own ret tb) {a cA n1 : Nat} {f : Nat → Int64} {i : Int32} {x : Int64} (hd : decode cc pc = .ok (.lastore, 1)) (hp : pc + 1 = p1) (hw : w a = some (.inl (cA, n1, .inr (.inl f)))) (hA : xA g a) (ht : (xtys g.2)[t0]? = some (cA, .long)) (hi : vp_in i n1) (k1 : xV p l e R s m args below meth c Q g nL (xup w a (.inl (cA, n1, .inr (.inl (vp_updL f i.toNatClampNeg x))))) sz k n p1 lv rest) : xV p l e R s m args below meth c Q g nL w sz k n pc lv (.long x :: .int i :: .ref a :: rest) := by
  intro H locs ls h1 h2 h3 h4
  subst hp
  refine W.last C0.1 C0.2.1 (h2 a _ hw) ((C0.2.2.2.2.2.2.2.1.1.2 t0 _ ht).1 n1 (fun j => .long (f j))) (fun q => by cases q) (by show ¬ (i < 0 ∨ (arrV _ _ _).slots.size ≤ _); rw [arrV_size]; exact hi) rfl rfl hd fun H1 e1 z oq => ?_
  refine k1 H1 _ ls (z.trans h1) (h2.put ?_ oq) (h3.put z oq hA) h4
  show H1[a]? = some (vp_cell _ _)
  rw [e1]
  rw [vp_cell_l, vp_cell_l, arrV_store]
  congr 2
  funext q
  by_cases hq : q = i.toNatClampNeg
  · subst hq
    simp [updV, vp_updL]
  · simp [updV, vp_updL, hq]
theorem x_aast (t0 ci p1 : Nat) (C0 : xC p l s m args meth c g cc nL own ret tb) {a cA n1 v : Nat} {r : vw_C} {vs : List Value} {f : Nat → Option Nat} {i : Int32} (hd : decode cc pc = .ok (.aastore, 1)) (hp : pc + 1 = p1) (hw : w a = some (.inl (cA, n1, .inr (.inr (.inr (.inr f)))))) (hA : xA g a) (hv : w v = some (.inr (ci, vs))) (hc : vwCl[ci]? = some r) (ht : (xtys g.2)[t0]? = some (cA, .object r.1)) (hi : vp_in i n1) (k1 : xV p l e R s m args below meth c Q g nL (xup w a (.inl (cA, n1, .inr (.inr (.inr (.inr (va_up f i.toNatClampNeg (some v)))))))) sz k n p1 lv rest) : xV p l e R s m args below meth c Q g nL w sz k n pc lv (.ref v :: .int i :: .ref a :: rest) := by
  intro H locs ls h1 h2 h3 h4
  subst hp
  have hK := C0.2.2.2.2.2.2.2.1.1
  have hlt : i.toNatClampNeg < n1 := Nat.not_le.mp fun q => hi (Or.inr q)
  have h0 : ¬ i < 0 := fun q => hi (Or.inl q)
  obtain ⟨r', hr', cellV, g1, g2, g3, -⟩ := h2 v _ hv
  have hcls := (hK.1 ci r hc).2
  obtain ⟨kA, comp, q1, q2, q3, -⟩ := (hK.2 t0 _ ht).2
  have hcomp : comp = g.1.1 ci := Option.some.inj (q3.symm.trans hcls.1)
  subst hcomp
  obtain ⟨kC, hkC, -⟩ := hcls.2
  refine W.aast C0.1 C0.2.1 (h2 a _ hw) (fun q h => by cases h) (fun h => by cases h) q1 q2 rfl hkC ⟨h0, by show _ < (arrV _ _ _).slots.size; rw [arrV_size]; exact hlt⟩ g1 (fun q h => by rw [g3] at h; cases h) (by rw [g2]; exact hkC) (by rw [g2]; exact va_assign hcls) rfl rfl hd fun H1 e1 z oq => ?_
  refine k1 H1 _ ls (z.trans h1) (h2.put ?_ oq) (h3.put z oq hA) h4
  show H1[a]? = some (vp_cell _ _)
  rw [e1]
  rw [vp_cell_q, vp_cell_q, arrV_store]
  congr 2
  funext q
  by_cases hq : q = i.toNatClampNeg
  · subst hq
    simp [updV, va_up, va_rf]
  · simp [updV, va_up, hq]
theorem x_new (ci p1 : Nat) (C0 : xC p l s m args meth c g cc nL own ret tb) {C : String} {T : u_T} {N index k2 n2 : Nat} {ty : Nat → FieldType} {fs : List Value} (hd : decode cc pc = .ok (.new index, 3)) (hp : pc + 3 = p1) (hc : vwCl[ci]? = some (C, T, N)) (hin : ∀ w ∈ u_ws C T N, w ∈ xT) (hty : ∀ k, k < N → parseFieldDescriptor (T k).2.2.1 = some (ty k)) (hcl : (Cond.classLink own index C) ∈ xT) (hinst : (Cond.instantiable C N) ∈ xT) (hini : (Cond.initialized C) ∈ xT) (hfs : ∀ j, j < N → defaultValue (ty j) = vp_V fs j) (hk : k + 1 = k2) (hn : n + N = n2) (hcells : k2 ≤ R.cells) (hslots : n2 ≤ R.slots) (k1 : xV p l e R s m args below meth c Q g nL (xup w sz (.inr (ci, fs))) (sz + 1) k2 n2 p1 lv (.ref sz :: rest)) : xV p l e R s m args below meth c Q g nL w sz k n pc lv rest := by
  intro H locs ls h1 h2 h3 h4
  subst hp hk hn h1
  have hts := C0.2.2.2.2.1
  have hG := C0.2.2.2.2.2.2.2.1
  have hKn := hG.1.1 ci _ hc
  refine W.newcK C0.1 C0.2.1 C0.2.2.2.1 (hts _ hcl) (hts _ hinst) (hts _ hini) rfl hd hcells hslots hKn.2.1 rfl fun H1 kC hkC e1 z1 o1 => ?_
  refine k1 H1 locs ls z1 (h2.push ⟨_, hc, (u_born ty hts hin hKn hkC e1 hty).to hfs⟩ o1) ⟨Nat.le_trans h3.1 (by omega), fun x q1 q2 => (o1 x (Nat.lt_of_lt_of_le q1 h3.1)).trans (h3.2.1 x q1 q2), h3.2.2⟩ h4
theorem x_newa (t0 p1 : Nat) (C0 : xC p l s m args meth c g cc nL own ret tb) {atype : ArrayType} {ty : FieldType} {cA : Nat} {i : Int32} {N k2 n2 : Nat} {a0 : vp_A} (hd : decode cc pc = .ok (.newarray atype, 2)) (hp : pc + 2 = p1) (harr : (Cond.arrayClass (newarray.typeOf atype)) ∈ xT) (hty : newarray.typeOf atype = ty) (ht : (xtys g.2)[t0]? = some (cA, ty)) (ha : ∀ cA : ClassId, vp_cell cA a0 = arrV cA N (fun _ => defaultValue ty)) (hi : ¬ i < 0) (hN : i.toNatClampNeg = N) (hbytes : N * componentBytes ty ≤ 536870912) (hk : k + 1 = k2) (hn : n + N = n2) (hcells : k2 ≤ R.cells) (hslots : n2 ≤ R.slots) (k1 : xV p l e R s m args below meth c Q g nL (xup w sz (.inl (cA, a0))) (sz + 1) k2 n2 p1 lv (.ref sz :: rest)) : xV p l e R s m args below meth c Q g nL w sz k n pc lv (.int i :: rest) := by
  intro H locs ls h1 h2 h3 h4
  subst hp hk hn h1 hty
  have hts := C0.2.2.2.2.1
  have hG := C0.2.2.2.2.2.2.2.1
  refine va_newaK C0.1 C0.2.1 (hts _ harr) rfl hd rfl hi hN hbytes hcells hslots rfl fun H1 cA1 e1 z1 o1 hAr hNm => ?_
  have hRA := (hG.1.2 t0 _ ht).2
  have hcA : cA1 = cA := by
    cases atype <;> exact Option.some.inj (hNm.symm.trans hRA)
  subst hcA
  refine k1 H1 locs ls z1 (h2.push ?_ o1) ⟨Nat.le_trans h3.1 (by omega), fun x q1 q2 => (o1 x (Nat.lt_of_lt_of_le q1 h3.1)).trans (h3.2.1 x q1 q2), h3.2.2⟩ h4
  show H1[H.size]? = some (vp_cell _ _)
  rw [ha]
  exact e1
theorem x_newq (t0 p1 : Nat) (C0 : xC p l s m args meth c g cc nL own ret tb) {C : String} {index cA : Nat} {i : Int32} {N k2 n2 : Nat} (hd : decode cc pc = .ok (.anewarray index, 3)) (hp : pc + 3 = p1) (hclink : (Cond.classLink own index C) ∈ xT) (hover : va_AO C s) (ht : (xtys g.2)[t0]? = some (cA, .object C)) (hi : ¬ i < 0) (hN : i.toNatClampNeg = N) (hbytes : N * 4 ≤ 536870912) (hk : k + 1 = k2) (hn : n + N = n2) (hcells : k2 ≤ R.cells) (hslots : n2 ≤ R.slots) (k1 : xV p l e R s m args below meth c Q g nL (xup w sz (.inl (cA, N, .inr (.inr (.inr (.inr (fun _ => none))))))) (sz + 1) k2 n2 p1 lv (.ref sz :: rest)) : xV p l e R s m args below meth c Q g nL w sz k n pc lv (.int i :: rest) := by
  intro H locs ls h1 h2 h3 h4
  subst hp hk hn h1 hN
  have hts := C0.2.2.2.2.1
  have hG := C0.2.2.2.2.2.2.2.1
  refine W.anew C0.1 C0.2.1 C0.2.2.2.1 (hts _ hclink) (va_AO.use hover) rfl hd rfl hi hbytes hcells hslots fun cA1 kA comp f1 f2 f3 f4 => ?_
  obtain ⟨kB, comp2, j1, j2, j3, j4⟩ := (hG.1.2 t0 _ ht).2
  have hcA : cA1 = cA := Option.some.inj (f1.symm.trans j4)
  subst hcA
  generalize hH1 : H.push ({ cls := cA1, slots := Array.replicate i.toNatClampNeg .null, vm := .none } : Cell) = H1
  have z1 : H1.size = H.size + 1 := by rw [← hH1, Array.size_push]
  have e1 : H1[H.size]? = some (arrV cA1 i.toNatClampNeg (fun _ => .null)) := by rw [← hH1, Array.getElem?_push_size, ← arrV_new]
  have o1 : ∀ q : Nat, q < H.size → H1[q]? = H[q]? := fun q hq => by rw [← hH1, Array.getElem?_push, if_neg (Nat.ne_of_lt hq)]
  refine k1 H1 locs ls z1 (h2.push ?_ o1) ⟨Nat.le_trans h3.1 (by omega), fun x q1 q2 => (o1 x (Nat.lt_of_lt_of_le q1 h3.1)).trans (h3.2.1 x q1 q2), h3.2.2⟩ h4
  show H1[H.size]? = some (vp_cell _ _)
  rw [vp_cell_q]
  exact e1
theorem x_objInit (p1 : Nat) (C0 : xC p l s m args meth c g cc nL own ret tb) {index : Nat} {a : Nat} (hd : decode cc pc = .ok (.invokespecial index, 3)) (hp : pc + 3 = p1) (hlink : (Cond.methodLink own index Lib.objectInit) ∈ xT) (hinst : (Cond.instanceMethod Lib.objectInit) ∈ xT) (hcode : (Cond.code Lib.objectInit ⟨#[0xb1]⟩ 1 none) ∈ xT) (hf : 1 ≤ R.frames) (hlo : (rest.map fun v => v.category).sum + 12 ≤ R.locals) (k1 : xV p l e R s m args below meth c Q g nL w sz k n p1 lv rest) : xV p l e R s m args below meth c Q g nL w sz k n pc lv (.ref a :: rest) := by
  intro H locs ls h1 h2 h3 h4
  subst hp
  have hts := C0.2.2.2.2.1
  refine W.objInit C0.1 C0.2.1 C0.2.2.2.1 (hts _ hlink) (hts _ hinst) (hts _ hcode) rfl (by rw [C0.2.2.1]; exact h4.1) rfl hd hf ?_ (W.eq (g2 := F0 m (pc + 3) ls rest) rfl (k1 H locs ls h1 h2 h3 h4))
  show 2 * (F0 m pc ls _).monitorRoom + _ + 12 ≤ R.locals
  exact Nat.le_trans (Nat.le_of_eq (by simp [JFrame.monitorRoom])) hlo
theorem x_ldcS (p1 : Nat) (C0 : xC p l s m args meth c g cc nL own ret tb) {tx : String} {index q : Nat} (hd : decode cc pc = .ok (.ldc index, 2)) (hp : pc + 2 = p1) (hZ : vk_R own index tx q s) (k1 : xV p l e R s m args below meth c Q g nL w sz k n p1 lv (.ref q :: rest)) : xV p l e R s m args below meth c Q g nL w sz k n pc lv rest := by
  intro H locs ls h1 h2 h3 h4
  subst hp
  exact va_ldcS C0.1 C0.2.1 C0.2.2.2.1 hZ hd (k1 H locs ls h1 h2 h3 h4)
theorem x_gets (p1 : Nat) (C0 : xC p l s m args meth c g cc nL own ret tb) {C f d : String} {v : Value} {index : Nat} (hd : decode cc pc = .ok (.getstatic index, 3)) (hp : pc + 3 = p1) (hZ : va_Z C f d v (xA g) s s.heap) (hlink : (Cond.fieldLink own index C f d) ∈ xT) (k1 : xV p l e R s m args below meth c Q g nL w sz k n p1 lv (v :: rest)) : xV p l e R s m args below meth c Q g nL w sz k n pc lv rest := by
  intro H locs ls h1 h2 h3 h4
  subst hp
  exact va_gets C0.1 C0.2.1 hZ h3 C0.2.2.2.1 (C0.2.2.2.2.1 _ hlink) (fun _ h9 => h9) hd (k1 H locs ls h1 h2 h3 h4)
theorem x_getsN (p1 : Nat) (C0 : xC p l s m args meth c g cc nL own ret tb) {C f d host : String} {v : Value} {index : Nat} (hd : decode cc pc = .ok (.getstatic index, 3)) (hp : pc + 3 = p1) (hZ : va_Z C f d v (xA g) s s.heap) (hlink : va_Nw (.fieldLinkNest own index C f d host) s) (k1 : xV p l e R s m args below meth c Q g nL w sz k n p1 lv (v :: rest)) : xV p l e R s m args below meth c Q g nL w sz k n pc lv rest := by
  intro H locs ls h1 h2 h3 h4
  subst hp
  exact va_getsN C0.1 C0.2.1 hZ h3 C0.2.2.2.1 (va_Nw.use rfl hlink) (fun _ h9 => h9) hd (k1 H locs ls h1 h2 h3 h4)
theorem x_tq (p1 : Nat) (C0 : xC p l s m args meth c g cc nL own ret tb) {C : String} {t n1 : Nat} {f : Nat → Value} {i : Int32} {v : Value} (hd : decode cc pc = .ok (.aaload, 1)) (hp : pc + 1 = p1) (hT : va_T (.object C) t n1 f (xA g) s s.heap) (hi : vp_in i n1) (hv : f i.toNatClampNeg = v) (k1 : xV p l e R s m args below meth c Q g nL w sz k n p1 lv (v :: rest)) : xV p l e R s m args below meth c Q g nL w sz k n pc lv (.int i :: .ref t :: rest) := by
  intro H locs ls h1 h2 h3 h4
  subst hp
  exact vb_tq C0.1 C0.2.1 hT h3 hi hv hd (k1 H locs ls h1 h2 h3 h4)
theorem x_ti (p1 : Nat) (C0 : xC p l s m args meth c g cc nL own ret tb) {t n1 : Nat} {f : Nat → Value} {i : Int32} {v : Value} (hd : decode cc pc = .ok (.iaload, 1)) (hp : pc + 1 = p1) (hT : va_T .int t n1 f (xA g) s s.heap) (hi : vp_in i n1) (hv : f i.toNatClampNeg = v) (k1 : xV p l e R s m args below meth c Q g nL w sz k n p1 lv (v :: rest)) : xV p l e R s m args below meth c Q g nL w sz k n pc lv (.int i :: .ref t :: rest) := by
  intro H locs ls h1 h2 h3 h4
  subst hp
  exact va_ti C0.1 C0.2.1 hT h3 hi hv hd (k1 H locs ls h1 h2 h3 h4)
theorem x_tb (p1 : Nat) (C0 : xC p l s m args meth c g cc nL own ret tb) {t n1 : Nat} {f : Nat → Value} {i : Int32} {v : Value} (hd : decode cc pc = .ok (.baload, 1)) (hp : pc + 1 = p1) (hT : va_T .byte t n1 f (xA g) s s.heap) (hi : vp_in i n1) (hv : f i.toNatClampNeg = v) (k1 : xV p l e R s m args below meth c Q g nL w sz k n p1 lv (v :: rest)) : xV p l e R s m args below meth c Q g nL w sz k n pc lv (.int i :: .ref t :: rest) := by
  intro H locs ls h1 h2 h3 h4
  subst hp
  exact va_tb C0.1 C0.2.1 hT h3 hi hv hd (k1 H locs ls h1 h2 h3 h4)
theorem x_tlen (p1 : Nat) (C0 : xC p l s m args meth c g cc nL own ret tb) {ty : FieldType} {t n1 : Nat} {f : Nat → Value} {v : Int32} (hd : decode cc pc = .ok (.arraylength, 1)) (hp : pc + 1 = p1) (hT : va_T ty t n1 f (xA g) s s.heap) (hv : Int32.ofNat n1 = v) (k1 : xV p l e R s m args below meth c Q g nL w sz k n p1 lv (.int v :: rest)) : xV p l e R s m args below meth c Q g nL w sz k n pc lv (.ref t :: rest) := by
  intro H locs ls h1 h2 h3 h4
  subst hp
  exact va_tlen C0.1 C0.2.1 hT h3 hv hd (k1 H locs ls h1 h2 h3 h4)
theorem x_getO (p1 : Nat) (C0 : xC p l s m args meth c g cc nL own ret tb) {C f d : String} {v : Value} {index q : Nat} (hd : decode cc pc = .ok (.getfield index, 3)) (hp : pc + 3 = p1) (hE : va_OF C f d v q (xA g) s s.heap) (hlink : (Cond.fieldLink own index C f d) ∈ xT) (k1 : xV p l e R s m args below meth c Q g nL w sz k n p1 lv (v :: rest)) : xV p l e R s m args below meth c Q g nL w sz k n pc lv (.ref q :: rest) := by
  intro H locs ls h1 h2 h3 h4
  subst hp
  exact vk_getf C0.1 C0.2.1 hE h3 C0.2.2.2.1 (C0.2.2.2.2.1 _ hlink) (fun _ h9 => h9) hd (k1 H locs ls h1 h2 h3 h4)
theorem x_mmax (p1 : Nat) (C0 : xC p l s m args meth c g cc nL own ret tb) {x y : Int32} {index : Nat} (hd : decode cc pc = .ok (.invokestatic index, 3)) (hp : pc + 3 = p1) (hlink : (Cond.methodLink own index Lib.Math.max.name) ∈ xT) (hstat : (Cond.static Lib.Math.max.name) ∈ xT) (hini : (Cond.initialized "java/lang/Math") ∈ xT) (hcode : (Cond.code Lib.Math.max.name Lib.Math.max.code 2 (some .int)) ∈ xT) (hf : 1 ≤ R.frames) (hlo : (rest.map fun v => v.category).sum + 13 ≤ R.locals) (hc : k ≤ R.cells) (hs : n ≤ R.slots) (k1 : xV p l e R s m args below meth c Q g nL w sz k n p1 lv (.int (if x < y then y else x) :: rest)) : xV p l e R s m args below meth c Q g nL w sz k n pc lv (.int y :: .int x :: rest) := by
  intro H locs ls h1 h2 h3 h4
  subst hp
  have hts := C0.2.2.2.2.1
  exact va_mmax C0.1 C0.2.1 (C0.2.2.1.trans h4.1.symm) C0.2.2.2.1 (hts _ hlink) (hts _ hstat) (hts _ hini) (hts _ hcode) hf hlo hc hs hd (k1 H locs ls h1 h2 h3 h4)
theorem x_mmin (p1 : Nat) (C0 : xC p l s m args meth c g cc nL own ret tb) {x y : Int32} {index : Nat} (hd : decode cc pc = .ok (.invokestatic index, 3)) (hp : pc + 3 = p1) (hlink : (Cond.methodLink own index Lib.Math.min.name) ∈ xT) (hstat : (Cond.static Lib.Math.min.name) ∈ xT) (hini : (Cond.initialized "java/lang/Math") ∈ xT) (hcode : (Cond.code Lib.Math.min.name Lib.Math.min.code 2 (some .int)) ∈ xT) (hf : 1 ≤ R.frames) (hlo : (rest.map fun v => v.category).sum + 13 ≤ R.locals) (hc : k ≤ R.cells) (hs : n ≤ R.slots) (k1 : xV p l e R s m args below meth c Q g nL w sz k n p1 lv (.int (if y < x then y else x) :: rest)) : xV p l e R s m args below meth c Q g nL w sz k n pc lv (.int y :: .int x :: rest) := by
  intro H locs ls h1 h2 h3 h4
  subst hp
  have hts := C0.2.2.2.2.1
  exact va_mmin C0.1 C0.2.1 (C0.2.2.1.trans h4.1.symm) C0.2.2.2.1 (hts _ hlink) (hts _ hstat) (hts _ hini) (hts _ hcode) hf hlo hc hs hd (k1 H locs ls h1 h2 h3 h4)
theorem x_mabs (p1 : Nat) (C0 : xC p l s m args meth c g cc nL own ret tb) {x : Int32} {index : Nat} (hd : decode cc pc = .ok (.invokestatic index, 3)) (hp : pc + 3 = p1) (hlink : (Cond.methodLink own index Lib.Math.abs.name) ∈ xT) (hstat : (Cond.static Lib.Math.abs.name) ∈ xT) (hini : (Cond.initialized "java/lang/Math") ∈ xT) (hcode : (Cond.code Lib.Math.abs.name Lib.Math.abs.code 1 (some .int)) ∈ xT) (hf : 1 ≤ R.frames) (hlo : (rest.map fun v => v.category).sum + 13 ≤ R.locals) (hc : k ≤ R.cells) (hs : n ≤ R.slots) (k1 : xV p l e R s m args below meth c Q g nL w sz k n p1 lv (.int (if 0 ≤ x then x else 0 - x) :: rest)) : xV p l e R s m args below meth c Q g nL w sz k n pc lv (.int x :: rest) := by
  intro H locs ls h1 h2 h3 h4
  subst hp
  have hts := C0.2.2.2.2.1
  exact va_mabs C0.1 C0.2.1 (C0.2.2.1.trans h4.1.symm) C0.2.2.2.1 (hts _ hlink) (hts _ hstat) (hts _ hini) (hts _ hcode) hf hlo hc hs hd (k1 H locs ls h1 h2 h3 h4)
end XR
/-! contracts: what a method asks and gives, over the world -/
def xPc (g : xg_T) (w : xw_T) (sz : Nat) (as : List Value) : Array Value → State → Prop := fun v U => v = as.toArray ∧ U.heap.size = sz ∧ xw_H g w U.heap ∧ xG g U U.heap
def xQc (g : xg_T) (P : Option Value → xw_T → Nat → Prop) : Array Value → State → Outcome → State → Prop := fun _ st o t => (∃ (r : Option Value) (w1 : xw_T), o = .returned r ∧ P r w1 t.heap.size ∧ xw_H g w1 t.heap) ∧ va_F (xA g) st t
def xXC (g : xg_T) (X : String → xw_T → Nat → Prop) : String → State → State → Prop := fun E st t => (∃ w1 : xw_T, X E w1 t.heap.size ∧ xw_H g w1 t.heap) ∧ va_F (xA g) st t
def xM (l : Launch) (g : xg_T) (y : MethodName) (b : ByteArray) (nL : Nat) (ret : Option FieldType) (rm : Room) (mc ms : Nat) (as : List Value) (w : xw_T) (sz : Nat) (P : Option Value → xw_T → Nat → Prop) (X : String → xw_T → Nat → Prop) : Prop := vx_Met l y (Cond.code y b nL ret :: xT) rm (xPc g w sz as) (xQc g P) (xXC g X) mc ms (xA g)
def xQ (g : xg_T) (below : List Frame) (P : Option Value → xw_T → Nat → Prop) (X : String → xw_T → Nat → Prop) (args : Array Value) (s : State) (mc ms : Nat) : State → Prop := vx_MQ below (xQc g P) (xXC g X) args s mc ms (xA g)
theorem xPc.blind {g : xg_T} {w : xw_T} {sz : Nat} {as : List Value} : FrameBlind (xPc g w sz as) := fun a U gg mk h => ⟨h.1, h.2.1, h.2.2.1, h.2.2.2.go (State.WarmedH.refl U) (Nat.le_refl _) (fun _ _ _ => rfl)⟩
theorem xPc.at {g : xg_T} {w : xw_T} {sz : Nat} {as : List Value} {s : State} {H : Heap} {locs : List Loc} (h1 : H.size = sz) (h2 : xw_H g w H) (h3 : va_S (xA g) s.heap H locs) (hG : xG g s s.heap) : ∀ U : State, U.heap = H → s.WarmedH U.vm → xPc g w sz as as.toArray U := fun U hU hW => ⟨rfl, by rw [hU]; exact h1, by rw [hU]; exact h2, hG.go hW (by rw [hU]; exact h3.1) (by rw [hU]; exact h3.2.1)⟩
theorem xM.of {l : Launch} {g : xg_T} {y : MethodName} {rm : Room} {mc ms : Nat} {as : List Value} {w : xw_T} {sz : Nat} {P : Option Value → xw_T → Nat → Prop} {X : String → xw_T → Nat → Prop} {cc : ByteArray} {nL : Nat} {ret : Option FieldType} {lv : List (Nat × Value)} (own : String) (hl : l.stackTraces = false) (hy : plainName y.cls = true) (hyc : y.cls = own) (hn : (lg_sl as).length ≤ nL) (hlv : lv_args 0 as = lv)
    (body : ∀ (p : Program) (e : Env) (s : State) (m : MethodId) (args : Array Value) (below : List Frame) (meth : Method) (c : Code), xC p l s m args meth c g cc nL own ret [] → meth.name = y.name → xV p l e rm s m args below meth c (xQ g below P X args s mc ms) g nL w sz 0 0 0 lv []) : xM l g y cc nL ret rm mc ms as w sz P X := by
  refine vx_ofW (cc := cc) (maxL := nL) (ret := ret) hy rfl ?_
  intro p e s m args below meth c s₁ B hml htb hv
  obtain ⟨rfl, hsz, hH, hG⟩ := hv
  subst hyc hlv
  rw [lg_entry_eq]
  have htb2 : c.exceptionTable.toList = [] := List.eq_nil_iff_forall_not_mem.mpr htb
  exact body p e s m _ below meth c ⟨B.exec, B.bytes, hml, findClass_of_methodNamed B.named, fun w hw => atoms_spec (ws := Cond.code y cc nL ret :: xT) B.pre w (List.mem_cons_of_mem _ hw), B.notSynchronized, B.returns, hG, htb2, hl⟩ (name_of_methodNamed B.named B.method).1 s.heap [] _ hsz hH va_S.rf (lv_entry as hn)
section XE
variable {p : Program} {l : Launch} {e : Env} {R : Room} {s : State} {m : MethodId} {args : Array Value} {below : List Frame} {meth : Method} {c : Code} {Q : State → Prop}
variable {g : xg_T} {cc : ByteArray} {nL : Nat} {own : String} {ret : Option FieldType} {tb : List ExceptionTableEntry} {w : xw_T} {sz k n pc : Nat} {lv : List (Nat × Value)} {rest : List Value}
variable {P : Option Value → xw_T → Nat → Prop} {X : String → xw_T → Nat → Prop} {mc ms : Nat}
theorem xQc.mk {H : Heap} {locs : List Loc} {r : Option Value} (h1 : H.size = sz) (h2 : xw_H g w H) (h3 : va_S (xA g) s.heap H locs) (hP : P r w sz) (t : State) (ht : t.heap = H) : xQc g P args s (.returned r) t := ⟨⟨r, w, rfl, by rw [ht, h1]; exact hP, by rw [ht]; exact h2⟩, h3.F ht⟩
theorem x_ireturn (C0 : xC p l s m args meth c g cc nL own ret tb) {v : Int32} {ty : FieldType} (hd : decode cc pc = .ok (.ireturn, 1)) (hr : ret = some ty) (hn : narrow ty (.int v) = .int v) (hk : k ≤ mc) (hs : n ≤ ms) (hP : P (some (.int v)) w sz) : xV p l e R s m args below meth c (xQ g below P X args s mc ms) g nL w sz k n pc lv [.int v] := by
  intro H locs ls h1 h2 h3 h4
  refine W.widen hk hs (vx_ret ?_)
  exact W.zret C0.1 C0.2.1 (C0.2.2.2.2.2.2.1.trans hr) hn (fun t ht _ => xQc.mk h1 h2 h3 hP t ht) h3.2.2 hd C0.2.2.2.2.2.1
theorem x_return (C0 : xC p l s m args meth c g cc nL own ret tb) (hd : decode cc pc = .ok (.return_, 1)) (hr : ret = none) (hk : k ≤ mc) (hs : n ≤ ms) (hP : P none w sz) : xV p l e R s m args below meth c (xQ g below P X args s mc ms) g nL w sz k n pc lv [] := by
  intro H locs ls h1 h2 h3 h4
  refine W.widen hk hs (vx_ret ?_)
  exact W.vret C0.1 C0.2.1 (C0.2.2.2.2.2.2.1.trans hr) (fun t ht _ => xQc.mk h1 h2 h3 hP t ht) h3.2.2 hd C0.2.2.2.2.2.1
theorem x_areturn (C0 : xC p l s m args meth c g cc nL own ret tb) {v : Value} {rt : FieldType} (hd : decode cc pc = .ok (.areturn, 1)) (hr : ret = some rt) (hrt : (∃ n, rt = .object n) ∨ ∃ t, rt = .array t) (hv : v = .null ∨ ∃ a, v = .ref a) (hk : k ≤ mc) (hs : n ≤ ms) (hP : P (some v) w sz) : xV p l e R s m args below meth c (xQ g below P X args s mc ms) g nL w sz k n pc lv [v] := by
  intro H locs ls h1 h2 h3 h4
  refine W.widen hk hs (vx_ret ?_)
  exact W.aret C0.1 C0.2.1 (C0.2.2.2.2.2.2.1.trans hr) hrt hv (fun t ht _ => xQc.mk h1 h2 h3 hP t ht) h3.2.2 hd C0.2.2.2.2.2.1
/-- a thrown thing of kind E over the method's frame at pc -/
def xVX (p : Program) (l : Launch) (e : Env) (R : Room) (s : State) (m : MethodId) (args : Array Value) (below : List Frame) (meth : Method) (c : Code) (Q : State → Prop) (g : xg_T) (nL : Nat) (E : String) (w : xw_T) (sz k n pc : Nat) (lv : List (Nat × Value)) (rest : List Value) : Prop :=
  ∀ (H : Heap) (locs : List Loc) (ls : Array Slot) (q : Addr) (ce : Cell), H.size = sz → xw_H g w H → va_S (xA g) s.heap H locs → lv_has ls nL lv → H[q]? = some ce → ce.vm = .none → s.vm.findClass E = some ce.cls → vx_W p l e R s m args below meth c H locs k n Q (F0 m pc ls rest) q
theorem x_out (C0 : xC p l s m args meth c g cc nL own ret tb) {E : String} (ht : tb = []) (hk : k ≤ mc) (hs : n ≤ ms) (hX : X E w sz) : xVX p l e R s m args below meth c (xQ g below P X args s mc ms) g nL E w sz k n pc lv rest := by
  intro H locs ls q ce h1 h2 h3 h4 h5 h6 h7
  refine vx_out (fun x hx => ?_) C0.2.2.2.2.2.1 h5 h6 h7 (fun t ht _ => ⟨⟨w, by rw [ht, h1]; exact hX, by rw [ht]; exact h2⟩, h3.F ht⟩) h3.2.2 hk hs
  rw [C0.2.2.2.2.2.2.2.2.1, ht] at hx
  cases hx
theorem xw_F {H H1 : Heap} {locs : List Loc} (h3 : va_S (xA g) s.heap H locs) (hz : H.size ≤ H1.size) (ho : ∀ q : Nat, q < H.size → H1[q]? = H[q]?) (t : State) (ht : t.heap = H1) : va_F (xA g) s t := ⟨by rw [ht]; exact Nat.le_trans h3.1 hz, fun q q1 q2 => by rw [ht, ho q (Nat.lt_of_lt_of_le q1 h3.1)]; exact h3.2.1 q q1 q2⟩
theorem x_throwS (names : List String) (C0 : xC p l s m args meth c g cc nL own ret tb) {E tx : String} {ik is ic sa p1 p2 p3 p4 : Nat} (d0 : decode cc pc = .ok (.new ik, 3)) (d3 : decode cc p1 = .ok (.dup, 1)) (d4 : decode cc p2 = .ok (.ldc is, 2)) (d6 : decode cc p3 = .ok (.invokespecial ic, 3)) (d9 : decode cc p4 = .ok (.athrow, 1)) (e1 : pc + 3 = p1) (e2 : pc + 4 = p2) (e3 : pc + 6 = p3) (e4 : pc + 9 = p4) (hcls : Bundle.fit E = true) (hnames : ∀ n ∈ names, Bundle.fit n = true) (hk : Cond.classLink own ik E ∈ xT) (hini : Cond.initialized E ∈ xT) (hstr : vk_R own is tx sa s) (hat : ∀ w ∈ vx_atS own ic E names, w.before args s = true) (hgood : ∀ w ∈ Cond.classLink own ik E :: Cond.initialized E :: vx_atS own ic E names, vx_ot w = true) (hU : vx_Zq Bundle.tN "UNASSIGNED_STACK" Bundle.steD (xA g) s s.heap) (hN : vx_Zq Bundle.tN "SUPPRESSED_SENTINEL" Bundle.listD (xA g) s s.heap) (htb : tb = []) (hRf : names.length + 3 < R.frames) (hRl : (rest.map fun v => v.category).sum + (13 * (names.length + 1) + 43) ≤ R.locals) (hRc : k + 1 ≤ R.cells) (hRs : n + 6 ≤ R.slots) (hc : k + 1 ≤ mc) (hs : n + 6 ≤ ms) (hX : ∀ sz1, sz ≤ sz1 → X E w sz1) : xV p l e R s m args below meth c (xQ g below P X args s mc ms) g nL w sz k n pc lv rest := by
  intro H locs ls h1 h2 h3 h4
  subst e1 e2 e3 e4
  refine vx_throwS (names := names) C0.1 C0.2.1 C0.2.2.2.2.2.2.2.2.2 C0.2.2.2.1 hcls hnames (C0.2.2.2.2.1 _ hk) (C0.2.2.2.2.1 _ hini) hstr hat hgood hU hN h3 (h4.1.trans C0.2.2.1.symm) d0 d3 d4 d6 d9 (fun x hx => ?_) hRf hRl hRc hRs C0.2.2.2.2.2.1 (fun t _ hz ho => ⟨⟨w, hX _ (by rw [← h1]; exact hz), h2.grow ho⟩, xw_F h3 hz ho t rfl⟩) h3.2.2 hc hs
  rw [C0.2.2.2.2.2.2.2.2.1, htb] at hx
  cases hx
theorem x_throwSW (names : List String) (C0 : xC p l s m args meth c g cc nL own ret tb) {E tx : String} {ik is ic sa p1 p2 p3 p4 : Nat} (d0 : decode cc pc = .ok (.new ik, 3)) (d3 : decode cc p1 = .ok (.dup, 1)) (d4 : decode cc p2 = .ok (.ldc_w is, 3)) (d6 : decode cc p3 = .ok (.invokespecial ic, 3)) (d9 : decode cc p4 = .ok (.athrow, 1)) (e1 : pc + 3 = p1) (e2 : pc + 4 = p2) (e3 : pc + 7 = p3) (e4 : pc + 10 = p4) (hcls : Bundle.fit E = true) (hnames : ∀ n ∈ names, Bundle.fit n = true) (hk : Cond.classLink own ik E ∈ xT) (hini : Cond.initialized E ∈ xT) (hstr : vk_R own is tx sa s) (hat : ∀ w ∈ vx_atS own ic E names, w.before args s = true) (hgood : ∀ w ∈ Cond.classLink own ik E :: Cond.initialized E :: vx_atS own ic E names, vx_ot w = true) (hU : vx_Zq Bundle.tN "UNASSIGNED_STACK" Bundle.steD (xA g) s s.heap) (hN : vx_Zq Bundle.tN "SUPPRESSED_SENTINEL" Bundle.listD (xA g) s s.heap) (htb : tb = []) (hRf : names.length + 3 < R.frames) (hRl : (rest.map fun v => v.category).sum + (13 * (names.length + 1) + 43) ≤ R.locals) (hRc : k + 1 ≤ R.cells) (hRs : n + 6 ≤ R.slots) (hc : k + 1 ≤ mc) (hs : n + 6 ≤ ms) (hX : ∀ sz1, sz ≤ sz1 → X E w sz1) : xV p l e R s m args below meth c (xQ g below P X args s mc ms) g nL w sz k n pc lv rest := by
  intro H locs ls h1 h2 h3 h4
  subst e1 e2 e3 e4
  refine vx_throwSW (names := names) C0.1 C0.2.1 C0.2.2.2.2.2.2.2.2.2 C0.2.2.2.1 hcls hnames (C0.2.2.2.2.1 _ hk) (C0.2.2.2.2.1 _ hini) hstr hat hgood hU hN h3 (h4.1.trans C0.2.2.1.symm) d0 d3 d4 d6 d9 (fun x hx => ?_) hRf hRl hRc hRs C0.2.2.2.2.2.1 (fun t _ hz ho => ⟨⟨w, hX _ (by rw [← h1]; exact hz), h2.grow ho⟩, xw_F h3 hz ho t rfl⟩) h3.2.2 hc hs
  rw [C0.2.2.2.2.2.2.2.2.1, htb] at hx
  cases hx
end XE
section XK
variable {p : Program} {l : Launch} {e : Env} {R : Room} {s : State} {m : MethodId} {args : Array Value} {below : List Frame} {meth : Method} {c : Code} {Q : State → Prop}
variable {g : xg_T} {cc : ByteArray} {nL : Nat} {own : String} {ret : Option FieldType} {tb : List ExceptionTableEntry} {w : xw_T} {sz k n pc : Nat} {lv : List (Nat × Value)} {rest : List Value}
variable {y : MethodName} {bytes : ByteArray} {maxL mc1 ms1 nA index : Nat} {rty : Option FieldType} {rm : Room} {P1 : Option Value → xw_T → Nat → Prop} {X1 : String → xw_T → Nat → Prop} {C : String} {b : Nat} {As : List Value} {st0 : List Value}
theorem xC.fix (C0 : xC p l s m args meth c g cc nL own ret tb) : CallFix p m c cc nL s args xT own := ⟨C0.1, C0.2.1, C0.2.2.1, C0.2.2.2.1, C0.2.2.2.2.1⟩
/-- a call, by its run -/
theorem x_run (p1 : Nat) (C0 : xC p l s m args meth c g cc nL own ret tb) {a : Array Value} (hp : pc + 3 = p1) (hr : ∀ (H : Heap) (locs : List Loc) (ls : Array Slot), H.size = sz → xw_H g w H → va_S (xA g) s.heap H locs → lv_has ls nL lv → vx_Run p l e R s m args below meth c H locs k n mc1 ms1 (F0 m pc ls st0) rest (xQc g P1 a) (xXC g X1) (xA g))
    (kx : ∀ (E : String) (w1 : xw_T) (sz1 : Nat), X1 E w1 sz1 → xVX p l e R s m args below meth c Q g nL E w1 sz1 (k + mc1) (n + ms1) pc lv rest)
    (k1 : ∀ (r : Option Value) (w1 : xw_T) (sz1 : Nat), sz ≤ sz1 → P1 r w1 sz1 → xV p l e R s m args below meth c Q g nL w1 sz1 (k + mc1) (n + ms1) p1 lv (r.toList ++ rest)) : xV p l e R s m args below meth c Q g nL w sz k n pc lv st0 := by
  intro H locs ls h1 h2 h3 h4 T hT X
  subst hp
  rcases hr H locs ls h1 h2 h3 h4 T hT X with ⟨v, st₀, t, T', L, h0, X', hL, e1, e2, ⟨⟨r, w1, hv, hp, hw1⟩, hF⟩, st⟩ | ⟨q, st₀, t, T', L, E, ce, h0, X', hL, e1, e2, ⟨⟨w1, hp, hw1⟩, hF⟩, hce, hcv, hcl, st⟩
  · cases hv
    obtain ⟨j1, j2, j3⟩ := vx_keep h0 e1 h3 (fun _ _ h => h) (fun _ h => h) hL hF
    obtain ⟨t2, a1, b1⟩ := k1 _ w1 t.heap.size (by rw [← h1, ← e1]; exact j1) hp T'.heap (locs ++ L) ls (by rw [e1]) (by rw [e1]; exact hw1) j3 h4 T' rfl X'
    exact ⟨t2, st t2 a1, b1⟩
  · obtain ⟨j1, j2, j3⟩ := vx_keep h0 e1 h3 (fun _ _ h => h) (fun _ h => h) hL hF
    obtain ⟨t2, a1, b1⟩ := kx E w1 t.heap.size hp T'.heap (locs ++ L) ls q ce (by rw [e1]) (by rw [e1]; exact hw1) j3 h4 (by rw [e1]; exact hce) hcv hcl T' rfl X'
    exact ⟨t2, st.trans a1, b1⟩
theorem xw_recv (C0 : xC p l s m args meth c g cc nL own ret tb) {H : Heap} {ci : Nat} {fs : List Value} {r : vw_C} (h2 : xw_H g w H) (hw : w b = some (.inr (ci, fs))) (hc : vwCl[ci]? = some r) : ∃ cellB : Cell, H[b]? = some cellB ∧ cellB.vm.isStatics = false ∧ s.vm.findClass r.1 = some cellB.cls := va_recv C0.2.2.2.2.2.2.2.1.1 (h2.one hw) (q0 := 0) hc rfl
theorem xGood {w0 : Cond} (hw : w0 ∈ xT) : GoodIn xT (w0 :: xT) := fun w h => (List.mem_cons.mp h).elim (fun e => by rw [e]; exact ⟨hw, good_of_word (xT_good hw)⟩) (fun h => ⟨h, good_of_word (xT_good h)⟩)
theorem xcB (C0 : xC p l s m args meth c g cc nL own ret tb) (hcode : Cond.code y bytes maxL rty ∈ xT) (hl : Cond.methodLink own index y ∈ xT) (hini : Cond.initialized y.cls ∈ xT) (hd : y.cls ≠ "java/lang/invoke/MethodHandle" ∧ y.cls ≠ "java/lang/invoke/VarHandle" ∧ (parseMethodDescriptor y.desc).map (fun d => d.parameters.length) = some nA) (hrc : rm.cells = mc1) (hrs : rm.slots = ms1) (hR : rm.frames + 1 ≤ R.frames ∧ 8 + (maxL + 11) + rm.locals ≤ R.locals) : CallB R s args own index y bytes maxL rty (Cond.code y bytes maxL rty :: xT) rm mc1 ms1 nA :=
  callB_of nA C0.2.2.2.2.1 (xGood hcode) rfl hrc hrs (C0.2.2.2.2.1 _ hini) (C0.2.2.2.2.1 _ hl) hd hR
theorem x_callV (p1 : Nat) (C0 : xC p l s m args meth c g cc nL own ret tb) {ci : Nat} {fs : List Value} {r : vw_C} (hM : xM l g y bytes maxL rty rm mc1 ms1 (.ref b :: As) w sz P1 X1) (hd : decode cc pc = .ok (.invokevirtual index, 3)) (hp : pc + 3 = p1) (hcode : Cond.code y bytes maxL rty ∈ xT) (hl : Cond.methodLink own index y ∈ xT) (hi : Cond.instanceMethod y ∈ xT) (hs : Cond.selects C y y ∈ xT) (hini : Cond.initialized y.cls ∈ xT) (hy : y.cls ≠ "java/lang/invoke/MethodHandle" ∧ y.cls ≠ "java/lang/invoke/VarHandle" ∧ (parseMethodDescriptor y.desc).map (fun d => d.parameters.length) = some nA) (hrc : rm.cells = mc1) (hrs : rm.slots = ms1) (hR : rm.frames + 1 ≤ R.frames ∧ 8 + (maxL + 11) + rm.locals ≤ R.locals) (hw : w b = some (.inr (ci, fs))) (hc : vwCl[ci]? = some r) (hr1 : r.1 = C) (hn : As.length = nA) (hst : st0 = As.reverse ++ .ref b :: rest) (hW : (rest.map fun v => v.category).sum ≤ 8) (hf : k + mc1 ≤ R.cells ∧ n + ms1 ≤ R.slots)
    (kx : ∀ (E : String) (w1 : xw_T) (sz1 : Nat), X1 E w1 sz1 → xVX p l e R s m args below meth c Q g nL E w1 sz1 (k + mc1) (n + ms1) pc lv rest)
    (k1 : ∀ (r : Option Value) (w1 : xw_T) (sz1 : Nat), sz ≤ sz1 → P1 r w1 sz1 → xV p l e R s m args below meth c Q g nL w1 sz1 (k + mc1) (n + ms1) p1 lv (r.toList ++ rest)) : xV p l e R s m args below meth c Q g nL w sz k n pc lv st0 := by
  subst hr1
  exact x_run p1 C0 hp (fun H locs ls h1 h2 h3 h4 => vx_runV C0.fix hM ⟨xcB C0 hcode hl hini hy hrc hrs hR, C0.2.2.2.2.1 _ hi, C0.2.2.2.2.1 _ hs⟩ ⟨xPc.blind, xw_recv C0 h2 hw hc, xPc.at h1 h2 h3 C0.2.2.2.2.2.2.2.1⟩ rfl hn h4.1 hst (lv_room hW) hd hf) kx k1
theorem x_callS (p1 : Nat) (C0 : xC p l s m args meth c g cc nL own ret tb) (hM : xM l g y bytes maxL rty rm mc1 ms1 As w sz P1 X1) (hd : decode cc pc = .ok (.invokestatic index, 3)) (hp : pc + 3 = p1) (hcode : Cond.code y bytes maxL rty ∈ xT) (hl : Cond.methodLink own index y ∈ xT) (hs : Cond.static y ∈ xT) (hini : Cond.initialized y.cls ∈ xT) (hy : y.cls ≠ "java/lang/invoke/MethodHandle" ∧ y.cls ≠ "java/lang/invoke/VarHandle" ∧ (parseMethodDescriptor y.desc).map (fun d => d.parameters.length) = some nA) (hrc : rm.cells = mc1) (hrs : rm.slots = ms1) (hR : rm.frames + 1 ≤ R.frames ∧ 8 + (maxL + 11) + rm.locals ≤ R.locals) (hn : As.length = nA) (hst : st0 = As.reverse ++ rest) (hW : (rest.map fun v => v.category).sum ≤ 8) (hf : k + mc1 ≤ R.cells ∧ n + ms1 ≤ R.slots)
    (kx : ∀ (E : String) (w1 : xw_T) (sz1 : Nat), X1 E w1 sz1 → xVX p l e R s m args below meth c Q g nL E w1 sz1 (k + mc1) (n + ms1) pc lv rest)
    (k1 : ∀ (r : Option Value) (w1 : xw_T) (sz1 : Nat), sz ≤ sz1 → P1 r w1 sz1 → xV p l e R s m args below meth c Q g nL w1 sz1 (k + mc1) (n + ms1) p1 lv (r.toList ++ rest)) : xV p l e R s m args below meth c Q g nL w sz k n pc lv st0 :=
  x_run p1 C0 hp (fun H locs ls h1 h2 h3 h4 => vx_runS C0.fix hM ⟨xcB C0 hcode hl hini hy hrc hrs hR, C0.2.2.2.2.1 _ hs⟩ ⟨xPc.blind, xPc.at h1 h2 h3 C0.2.2.2.2.2.2.2.1⟩ rfl hn h4.1 hst (lv_room hW) hd hf) kx k1
theorem x_callI (p1 : Nat) (C0 : xC p l s m args meth c g cc nL own ret tb) (hM : xM l g y bytes maxL none rm mc1 ms1 (.ref b :: As) w sz P1 X1) (hd : decode cc pc = .ok (.invokespecial index, 3)) (hp : pc + 3 = p1) (hcode : Cond.code y bytes maxL none ∈ xT) (hl : Cond.methodLink own index y ∈ xT) (hi : Cond.instanceMethod y ∈ xT) (hini : Cond.initialized y.cls ∈ xT) (hyn : y.name = "<init>") (hy : y.cls ≠ "java/lang/invoke/MethodHandle" ∧ y.cls ≠ "java/lang/invoke/VarHandle" ∧ (parseMethodDescriptor y.desc).map (fun d => d.parameters.length) = some nA) (hrc : rm.cells = mc1) (hrs : rm.slots = ms1) (hR : rm.frames + 1 ≤ R.frames ∧ 8 + (maxL + 11) + rm.locals ≤ R.locals) (hn : As.length = nA) (hst : st0 = As.reverse ++ .ref b :: rest) (hW : (rest.map fun v => v.category).sum ≤ 8) (hf : k + mc1 ≤ R.cells ∧ n + ms1 ≤ R.slots)
    (kx : ∀ (E : String) (w1 : xw_T) (sz1 : Nat), X1 E w1 sz1 → xVX p l e R s m args below meth c Q g nL E w1 sz1 (k + mc1) (n + ms1) pc lv rest)
    (k1 : ∀ (r : Option Value) (w1 : xw_T) (sz1 : Nat), sz ≤ sz1 → P1 r w1 sz1 → xV p l e R s m args below meth c Q g nL w1 sz1 (k + mc1) (n + ms1) p1 lv (r.toList ++ rest)) : xV p l e R s m args below meth c Q g nL w sz k n pc lv st0 :=
  x_run p1 C0 hp (fun H locs ls h1 h2 h3 h4 => vx_runI C0.fix hM ⟨xcB C0 hcode hl hini hy hrc hrs hR, hyn, C0.2.2.2.2.1 _ hi⟩ ⟨xPc.blind, xPc.at h1 h2 h3 C0.2.2.2.2.2.2.2.1⟩ rfl hn h4.1 hst (lv_room hW) hd hf) kx k1
/-- of a callee that throws nothing -/
theorem xNo {E : String} {w1 : xw_T} {sz1 : Nat} {Z : Prop} : (fun (_ : String) (_ : xw_T) (_ : Nat) => False) E w1 sz1 → Z := fun h => h.elim
end XK
