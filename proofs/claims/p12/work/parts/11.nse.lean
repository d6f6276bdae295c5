/-! AN EXCEPTION WHOSE CONSTRUCTOR LINKS ITS SUPER BY THE ENTRY 13 (NoSuchElementException): the road of the kit's throw, with that first link -/
def nseB : ByteArray := .mk #[0x2a, 0x2b, 0xb7, 0x00, 0x0d, 0xb1]
def xnRT : String := "java/lang/RuntimeException"
def xnRest (own : String) (ic : Nat) (X : String) : List Cond :=
  [.methodLink own ic (Bundle.initS X), .instantiable X 6, .castable X X, .selects X Bundle.tFill0 Bundle.tFill0, .selects X Bundle.tFill Bundle.tFill,
   .lays X Bundle.tN "cause" "Ljava/lang/Throwable;", .lays X Bundle.tN "stackTrace" Bundle.steD, .lays X Bundle.tN "suppressedExceptions" Bundle.listD, .lays X Bundle.tN "detailMessage" "Ljava/lang/String;",
   .isRef (.static Bundle.tN "UNASSIGNED_STACK" Bundle.steD), .isRef (.static Bundle.tN "SUPPRESSED_SENTINEL" Bundle.listD),
   .fieldLink Bundle.tN 198 Bundle.tN "backtrace" "Ljava/lang/Object;", .lays Bundle.tN Bundle.tN "backtrace" "Ljava/lang/Object;", .lays X Bundle.tN "backtrace" "Ljava/lang/Object;"]
def xnAt (own : String) (ic : Nat) (X : String) : List Cond := Bundle.throwableAtoms ++ (Bundle.throwableSAtoms ++ (Bundle.passSAtoms X xnRT 13 nseB ++ (Bundle.chainSAtoms xnRT ["java/lang/Exception"] ++ xnRest own ic X)))
theorem xnAt_1 {own X : String} {ic : Nat} {w : Cond} (h : w ∈ Bundle.throwableAtoms) : w ∈ xnAt own ic X := List.mem_append_left _ h
theorem xnAt_2 {own X : String} {ic : Nat} {w : Cond} (h : w ∈ Bundle.throwableSAtoms) : w ∈ xnAt own ic X := List.mem_append_right _ (List.mem_append_left _ h)
theorem xnAt_3 {own X : String} {ic : Nat} {w : Cond} (h : w ∈ Bundle.passSAtoms X xnRT 13 nseB) : w ∈ xnAt own ic X := List.mem_append_right _ (List.mem_append_right _ (List.mem_append_left _ h))
theorem xnAt_4 {own X : String} {ic : Nat} {w : Cond} (h : w ∈ Bundle.chainSAtoms xnRT ["java/lang/Exception"]) : w ∈ xnAt own ic X := List.mem_append_right _ (List.mem_append_right _ (List.mem_append_right _ (List.mem_append_left _ h)))
theorem xnAt_5 {own X : String} {ic : Nat} {w : Cond} (h : w ∈ xnRest own ic X) : w ∈ xnAt own ic X := List.mem_append_right _ (List.mem_append_right _ (List.mem_append_right _ (List.mem_append_right _ h)))
section XTN
variable {p : Program} {l : Launch} {e : Env} {R : Room} {s : State} {m : MethodId} {args : Array Value} {below : List Frame} {meth : Method} {c : Code} {U : State} {locs : List Loc} {cells slots : Nat}
theorem xn_ctor (X : Stand p l e R s m args below meth c U locs cells slots) (hexec : p.tables.exec = Jvm.exec) (htr : e.platform.stackTraces = false) {own cls : String} {ic : Nat}
    (hown : s.vm.findClass own = some m.cls) (hcls : Bundle.fit cls = true)
    (h : ∀ w ∈ xnAt own ic cls, w.before args s = true)
    (hlocs : ∀ x ∈ locs, ∀ cell, s.heap[x.base]? = some cell → cell.vm.isStatics = false)
    {a : Addr} {cX : ClassId} {kX : Class} (hfX : s.vm.findClass cls = some cX) (hkX : s.vm.classes[cX]? = some kX) (hcell : U.heap[a]? = some (freshCell cX kX)) (hnew : s.heap.size ≤ a)
    {msg : Value} (hmsg : msg.isRef = true)
    {g : JFrame} (hg : g.method = m) (hsize : g.locals.size = c.maxLocals) (hlocked : g.locked = none) (hent : g.entered = []) {rest : List Value} (hstack : g.stack = msg :: .ref a :: .ref a :: rest)
    (hd6 : decode c.code g.pc = .ok (.invokespecial ic, 3)) (hd9 : decode c.code (g.pc + 3) = .ok (.athrow, 1)) (hout : ∀ x ∈ c.exceptionTable.toList, covers x (g.pc + 3) = false)
    (hRf : 5 < R.frames) (hRl : 2 * g.monitorRoom + ((Value.ref a :: rest).map fun v => v.category).sum + 81 ≤ R.locals) (hlocks : meth.locks = false) :
    ∃ V : State, Steps p.tables e below (U.setTop g) V ∧ V.status = .running ∧ Ended V below (.threw a) ∧ s.WarmedH V.vm ∧ s.sameButNew ({ V with vm := s.vm } : State) locs cells slots ∧
      ∃ ce, V.heap[a]? = some ce ∧ s.vm.findClass cls = some ce.cls ∧ ce.vm = .none := by
  have howns : e.platform.frameOwnsMonitors = true := by rw [X.admits.platform]
  have hfin : e.platform.finalization = false := by rw [X.admits.platform]
  have hpl : e.platform.magicAccessors = ({} : Platform).magicAccessors := by rw [X.admits.platform]
  have a' : ∀ x, x ∈ xnRest own ic cls → x.holds args s none s [] = true := fun x hx => h x (xnAt_5 hx)
  obtain ⟨T, Z0, L, -, Y⟩ := ThrowableC.of_atoms (args := args) howns hfin hpl (fun x hx => h x (xnAt_1 hx))
  obtain ⟨Z, M, LZ, LM, hnZ⟩ := Init0T.ofS_atoms (args := args) hpl L Y (fun x hx => h x (xnAt_2 hx))
  obtain ⟨P1, L1, hP1m, hP1s⟩ := PassC.ofS_atoms (args := args) (s := s) hpl (X := cls) (Y := xnRT) (index := 13) (bytes := nseB) (Bundle.fit_spec hcls).1 (by decide) (by decide +kernel) (by decide +kernel) (by decide +kernel) (by decide +kernel) (fun x hx => h x (xnAt_3 hx))
  obtain ⟨P2, Ps, hlen, L2, hL2, hP2m, hlink2, hlinks⟩ := Bundle.chainS (args := args) hpl hnZ ["java/lang/Exception"] xnRT (by decide +kernel) (by decide +kernel) (fun x hx => h x (xnAt_4 hx))
  have hlen1 : Ps.length = 1 := hlen
  have hfound : s.vm.findClass cls = some P1.m.cls := findClass_of_methodNamed hP1m
  cases Option.some.inj (hfX.symm.trans hfound)
  obtain ⟨c1, kX', hc1, hk, hord, -, -, hn6⟩ := Cond.instantiable_spec (a' (.instantiable cls 6) (by simp [xnRest]))
  cases Option.some.inj (hc1.symm.trans hfound)
  cases Option.some.inj (hkX.symm.trans hk)
  have hsel0 : selectMethod e.platform s.vm P1.m.cls T.fill0 = .method T.fill0 := by
    obtain ⟨c2, r2, m2, q1, q2, q3, q4, -⟩ := Cond.selects_spec (a' (.selects cls Bundle.tFill0 Bundle.tFill0) (by simp [xnRest]))
    cases Option.some.inj (q1.symm.trans hfound)
    cases Option.some.inj (q2.symm.trans (State.methodFound?_of_named Y.fill0 (by decide)))
    cases Option.some.inj (q3.symm.trans Y.fill0)
    rw [Launch.admits_selectMethod X.admits]; exact q4
  have hselF : selectMethod e.platform s.vm P1.m.cls T.fill = .method T.fill := by
    obtain ⟨c2, r2, m2, q1, q2, q3, q4, -⟩ := Cond.selects_spec (a' (.selects cls Bundle.tFill Bundle.tFill) (by simp [xnRest]))
    cases Option.some.inj (q1.symm.trans hfound)
    cases Option.some.inj (q2.symm.trans (State.methodFound?_of_named Y.fill (by decide)))
    cases Option.some.inj (q3.symm.trans Y.fill)
    rw [Launch.admits_selectMethod X.admits]; exact q4
  obtain ⟨cS0, hcS0, hiss⟩ := Y.statics
  obtain ⟨u0, hu0⟩ := Cond.staticRefV Y.unassigned L.unassignedStatic L.statics hcS0 hiss (a' (.isRef (.static Bundle.tN "UNASSIGNED_STACK" Bundle.steD)) (by simp [xnRest]))
  obtain ⟨sen, hsen⟩ := Cond.staticRefV Y.sentinel L.sentinelStatic L.statics hcS0 hiss (a' (.isRef (.static Bundle.tN "SUPPRESSED_SENTINEL" Bundle.listD)) (by simp [xnRest]))
  obtain ⟨ci198, i198, fB, hk198, hg198, ha198, hsB, -, hnB, htB, hffB⟩ := Cond.ownField (t := .object "java/lang/Object") Y.found L.cls (by decide +kernel) (a' (.fieldLink Bundle.tN 198 Bundle.tN "backtrace" "Ljava/lang/Object;") (by simp [xnRest])) (a' (.lays Bundle.tN Bundle.tN "backtrace" "Ljava/lang/Object;") (by simp [xnRest])) e.platform hpl
  obtain ⟨cellS, hcS', heS, -, hkeep⟩ := X.same.2.2.2.2.2 T.aS cS0 hcS0
  have hcellS : U.heap[T.aS]? = some cellS := hcS'
  have hout' : ∀ i, (⟨T.aS, i⟩ : Loc) ∉ locs := fun i hmem => by
    have := hlocs _ hmem cS0 hcS0
    rw [hiss] at this; cases this
  have hknownS : cellS.vm ≠ .unknown := by
    rw [heS]; intro hu
    rw [show cS0.vm = .unknown from hu] at hiss
    cases hiss
  have hneS : T.aS ≠ a := Nat.ne_of_lt (Nat.lt_of_lt_of_le (Array.getElem?_eq_some_iff.mp hcS0).1 hnew)
  obtain ⟨iM, hffM⟩ := Y.msg
  obtain ⟨tyC, dC, hdC, hdnC⟩ := Cond.laysAt hfound hk Y.cause (a' (.lays cls Bundle.tN "cause" "Ljava/lang/Throwable;") (by simp [xnRest]))
  obtain ⟨tyS, dS, hdS, hdnS⟩ := Cond.laysAt hfound hk Y.stack (a' (.lays cls Bundle.tN "stackTrace" Bundle.steD) (by simp [xnRest]))
  obtain ⟨tyP, dP, hdP, hdnP⟩ := Cond.laysAt hfound hk Y.supp (a' (.lays cls Bundle.tN "suppressedExceptions" Bundle.listD) (by simp [xnRest]))
  obtain ⟨tyM, dM, hdM, hdnM⟩ := Cond.laysAt hfound hk hffM (a' (.lays cls Bundle.tN "detailMessage" "Ljava/lang/String;") (by simp [xnRest]))
  obtain ⟨tyB, dB, hdB, hdnB⟩ := Cond.laysAt hfound hk hffB (a' (.lays cls Bundle.tN "backtrace" "Ljava/lang/Object;") (by simp [xnRest]))
  have bC := Cond.laysApart hdB hdC hdnB hdnC (by rw [hnB, Y.causeName]; decide)
  have bS := Cond.laysApart hdB hdS hdnB hdnS (by rw [hnB, Y.stackName]; decide)
  have bP := Cond.laysApart hdB hdP hdnB hdnP (by rw [hnB, Y.suppName]; decide)
  have hskip : SkipFacts T e.platform s (fun u => u) u0 ((preparedCellV T.toThrowableT (freshCell P1.m.cls kX) a u0 sen).withEntry U.cur) :=
    ⟨{ ci198 := ci198, i198 := i198, fBack := fB }, ⟨hk198, hg198, ha198, hsB⟩, by
      have := fresh_default (c := P1.m.cls) tyB
      rw [htB] at this
      simpa [preparedCellV, Cell.setSlot, Cell.withEntry, Array.getElem?_setIfInBounds, bC, bS, bP, bC.symm, bS.symm, bP.symm, defaultValue] using this, fun _ _ => rfl⟩
  obtain ⟨tm, methC, cdC, kC, vm₁, hnC, -, -, -, -, -, -, -, hW₁, st1⟩ := Steps.initColdS (tb := p.tables) (e := e) (below := below) (s := s) (U := U) X.here hexec X.warmed hpl hown (t := Bundle.initS cls) rfl rfl (Bundle.fit_spec hcls).2
    (a' (.methodLink own ic (Bundle.initS cls)) (by simp [xnRest])) (h (.instanceMethod (Bundle.initS cls)) (xnAt_3 (by simp [Bundle.passSAtoms]))) (bytes := nseB) (maxL := 2) (h (.code (Bundle.initS cls) nseB 2 none) (xnAt_3 (by simp [Bundle.passSAtoms])))
    (f := g) hg (a := a) (msg := msg) (rest := .ref a :: rest) hstack hd6
  cases Option.some.inj (hnC.symm.trans hP1m)
  have X₁ := X.noted hW₁
  obtain ⟨vm₂, X₂, st2⟩ := X₁.ctorMessageOffV hexec (g := { g with stack := .ref a :: rest }) hg hsize T L Z LZ M LM (P1 :: P2 :: Ps)
    (fun P hP => by
      rcases List.mem_cons.mp hP with rfl | hP
      · exact L1
      · rcases List.mem_cons.mp hP with rfl | hP
        · exact L2
        · exact hL2 P hP) ⟨Option.some.inj (hP1s.symm.trans hP2m), hlink2, hlinks⟩ (u0 := u0) (sen := sen) (self := a) hmsg (cell := freshCell P1.m.cls kX) (cellS := cellS)
    hcell (fun _ => by simp) (by simp) rfl rfl hsel0 hselF hcellS hneS hknownS (by rw [hkeep _ (hout' _)]; exact hu0) (by rw [hkeep _ (hout' _)]; exact hsen)
    (Takes.of_laid hk hord tyC (by rw [Y.causeType]; rfl)) (Takes.of_laid hk hord tyS (by rw [Y.stackType]; exact fits_refV_array _ u0)) (Takes.of_laid hk hord tyP (by rw [Y.suppType]; exact fits_refV_object _ sen))
    (Takes.of_laid hk hord tyM (by rw [Y.msgType]; exact fits_refV_object _ ⟨msg, hmsg⟩)) Y.objLocals hskip htr [] hd6
    (by simp only [List.length_cons, hlen1]; omega) (by simp only [List.length_cons, hlen1]; exact hRl)
  obtain ⟨hwalk, hrun, hended, hWU, hsame⟩ := X₂.athrowLeaves hexec (g := { g with stack := .ref a :: rest, pc := g.pc + 3 }) hg hlocked hent hout (a := a) (rest := rest) rfl hd9
  have hlt : a < ((U.setVm vm₁).setVm vm₂).heap.size := (Array.getElem?_eq_some_iff.mp hcell).1
  have hU := heapAt_setCell_self (s := (U.setVm vm₁).setVm vm₂) (plainBareV T.toThrowableT (freshCell P1.m.cls kX) a u0 sen msg) hlt
  refine ⟨_, st1 _ (fun acts => ?_), hrun, hended, hWU, hsame.weaken (fun y hy hlt' => ?_) (Nat.le_refl _) (Nat.le_refl _), _, hU, hfound, rfl⟩
  · rw [doInvoke_state]
    exact st2 _ hwalk
  · rcases List.mem_append.mp hy with h1 | h1
    · exact h1
    · exfalso
      have hb : y.base = a := by
        simp only [List.mem_cons, List.not_mem_nil, or_false] at h1
        rcases h1 with rfl | rfl | rfl | rfl | rfl <;> rfl
      rw [hb] at hlt'
      exact Nat.not_lt.mpr hnew hlt'
end XTN
def xnS (own : String) (ic : Nat) (X : String) : List Cond := (xnAt own ic X).filter vx_no
section XTN2
variable {p : Program} {l : Launch} {e : Env} {R : Room} {s : State} {m : MethodId} {args : Array Value} {below : List Frame} {meth : Method} {c : Code} {H : Heap} {locs : List Loc} {cells slots : Nat}
variable {ls : Array Slot} {rest : List Value} {Qc : Array Value → State → Outcome → State → Prop} {XC : String → State → State → Prop} {free : Addr → Prop}
theorem xn_throw {cc : ByteArray} {pc : Nat} (hexec : p.tables.exec = Jvm.exec) (hb : c.code = cc) (hl : l.stackTraces = false) {own cls text : String} {ik is ic mc ms sa : Nat} {A : Nat → Prop}
    (hown : s.vm.findClass own = some m.cls) (hcls : Bundle.fit cls = true)
    (hk : (Cond.classLink own ik cls).before args s = true) (hini : (Cond.initialized cls).before args s = true) (hstr : vk_R own is text sa s) (hat : ∀ w ∈ xnS own ic cls, w.before args s = true)
    (hgood : ∀ w ∈ Cond.classLink own ik cls :: Cond.initialized cls :: xnS own ic cls, vx_ot w = true)
    (hU : vx_Zq Bundle.tN "UNASSIGNED_STACK" Bundle.steD A s s.heap) (hN : vx_Zq Bundle.tN "SUPPRESSED_SENTINEL" Bundle.listD A s s.heap) (hS : va_S A s.heap H locs) (hsize : ls.size = c.maxLocals)
    (d0 : decode cc pc = .ok (.new ik, 3)) (d3 : decode cc (pc + 3) = .ok (.dup, 1)) (d4 : decode cc (pc + 4) = .ok (.ldc is, 2)) (d6 : decode cc (pc + 6) = .ok (.invokespecial ic, 3)) (d9 : decode cc (pc + 9) = .ok (.athrow, 1))
    (hout : ∀ x ∈ c.exceptionTable.toList, covers x (pc + 9) = false)
    (hRframes : 5 < R.frames) (hRlocals : (rest.map fun v => v.category).sum + 82 ≤ R.locals) (hRcells : cells + 1 ≤ R.cells) (hRslots : slots + 6 ≤ R.slots) (hlocks : meth.locks = false)
    (hx : ∀ t : State, s.vm.Alike t.vm → H.size ≤ t.heap.size → (∀ q : Nat, q < H.size → t.heap[q]? = H[q]?) → XC cls s t)
    (hf : ∀ z ∈ locs, free z.base) (hc : cells + 1 ≤ mc) (hs : slots + 6 ≤ ms) :
    W p l e R s m args below meth c H locs cells slots (vx_MQ below Qc XC args s mc ms free) (F0 m pc ls rest) := by
  intro T hT X
  have htr : e.platform.stackTraces = false := (show e.platform.stackTraces = l.stackTraces by rw [X.admits.platform]).trans hl
  have Y := vx_rebase X (R' := { frames := R.frames, locals := R.locals, cells := 1, slots := 6 }) (Nat.le_refl _) (Nat.le_refl _) hRcells hRslots
  obtain ⟨s', hA⟩ : ∃ z, z = (T.setVm s.vm).setFrames (.invoking m args :: below) := ⟨_, rfl⟩
  rw [← hA] at Y
  have hvm : s'.vm = s.vm := by rw [hA]; rfl
  have hhp : s'.heap = H := by rw [hA]; exact hT
  have hW0 : s.WarmedH s'.vm := by rw [hvm]; exact State.WarmedH.refl s
  have hat' : ∀ w ∈ xnS own ic cls, w.before args s' = true := fun w hw => vx_ot_at hW0 hvm.symm (hgood w (List.mem_cons_of_mem _ (List.mem_cons_of_mem _ hw))) (hat w hw)
  have hk' : (Cond.classLink own ik cls).before args s' = true := vx_ot_at hW0 hvm.symm (hgood _ List.mem_cons_self) hk
  have hini' : (Cond.initialized cls).before args s' = true := vx_ot_at hW0 hvm.symm (hgood _ (List.mem_cons_of_mem _ List.mem_cons_self)) hini
  have hU' : vx_Zq Bundle.tN "UNASSIGNED_STACK" Bundle.steD A s' s'.heap := by rw [hhp]; exact vx_Zq.moved hW0.alike (hU.kept hS.2.1)
  have hN' : vx_Zq Bundle.tN "SUPPRESSED_SENTINEL" Bundle.listD A s' s'.heap := by rw [hhp]; exact vx_Zq.moved hW0.alike (hN.kept hS.2.1)
  have h : ∀ w ∈ xnAt own ic cls, w.before args s' = true := vx_own hat' (vx_isRefq hU'.1) (vx_isRefq hN'.1) hU'.2.word hN'.2.word
  have hown' : s'.vm.findClass own = some m.cls := by rw [hvm]; exact hown
  have hins : (Cond.instantiable cls 6).before args s' = true := h _ (xnAt_5 (by simp [xnRest]))
  obtain ⟨vm₁, cX, kX, hfX, hkX, -, -, X₁, st1⟩ := Y.newCold hexec (own := own) (C := cls) (index := ik) (n := 6) hown' hk' hins hini'
    (g := F0 m pc ls rest) rfl (by rw [hb]; exact d0) (Nat.le_refl _) (Nat.le_refl _)
  generalize hT1 : (T.setVm vm₁).pushCell { cls := cX, slots := kX.instanceTypes.map defaultValue, vm := .none } = T1 at X₁ st1
  have hcat : (Value.ref T.heap.size).category = 1 := rfl
  have hcellA : T1.heap[T.heap.size]? = some (freshCell cX kX) := by rw [← hT1]; exact State.heap_pushCell_size _ _
  have d3' : decode c.code (pc + 3) = .ok (.dup, 1) := by rw [hb]; exact d3
  have d4' : decode c.code (pc + 4) = .ok (.ldc is, 2) := by rw [hb]; exact d4
  have hstr' : vk_R own is text sa s' := vk_R.warm hW0 hstr
  obtain ⟨U, hsteps, hrun, hend, hW, hsame, ce, hce, hO1, hO2⟩ := xn_ctor X₁ hexec htr (own := own) (cls := cls) (ic := ic) hown' hcls h (fun x hx => nomatch hx) hfX hkX hcellA (by rw [hhp, hT]; exact Nat.le_refl _) (msg := .ref sa) rfl
    (g := { method := m, pc := pc + 6, locals := ls, stack := .ref sa :: .ref T.heap.size :: .ref T.heap.size :: rest, locked := none }) rfl hsize rfl rfl (rest := rest) rfl
    (by rw [hb]; exact d6) (by rw [hb]; exact d9) hout hRframes (by simp only [List.map_cons, List.sum_cons, hcat]; omega) hlocks
  obtain ⟨f1, f2⟩ := vx_frame hsame
  rw [hhp] at f1 f2
  have hWs : s.WarmedH U.vm := State.WarmedH.trans hW0 hW
  have hcl : s.vm.findClass cls = some ce.cls := by
    have h9 := hO1
    rw [hvm] at h9
    exact h9
  have hall : s.sameButNew ({ U with vm := s.vm } : State) locs mc ms := by
    subst hA
    obtain ⟨e1, e2⟩ := hsame
    rw [State.setFrames_setFrames] at e1
    have h2 : (T.setVm s.vm).sameButNew ({ U with vm := s.vm } : State) [] (0 + 1) (0 + 6) := ⟨e1, e2⟩
    have h3 := X.same.trans h2
    rw [List.append_nil] at h3
    exact h3.mono hc hs
  refine ⟨U, ?_, .threw T.heap.size, hrun, hend, Or.inr ⟨T.heap.size, rfl, cls, ce, locs, hx U hWs.alike f1 (fun q hq => f2 q hq (fun z hz => nomatch hz)), hce, hO2, hcl, hWs, hall, hf⟩⟩
  refine st1 _ ?_
  show Steps p.tables e below (T1.setTop { method := m, pc := pc + 3, locals := ls, stack := .ref T.heap.size :: rest, locked := none }) _
  jvm_step X₁.here [X₁.here.top, hexec, d3', Value.category]
  exact X₁.ldcString hexec (own := own) (text := text) (index := is) (a := sa) hown' hstr'.1 hstr'.2
    (g := { method := m, pc := pc + 4, locals := ls, stack := .ref T.heap.size :: .ref T.heap.size :: rest, locked := none }) rfl d4' _ hsteps
end XTN2
section XTN3
variable {p : Program} {l : Launch} {e : Env} {R : Room} {s : State} {m : MethodId} {args : Array Value} {below : List Frame} {meth : Method} {c : Code} {Q : State → Prop}
variable {g : xg_T} {cc : ByteArray} {nL : Nat} {own : String} {ret : Option FieldType} {tb : List ExceptionTableEntry} {w : xw_T} {sz k n pc : Nat} {lv : List (Nat × Value)} {rest : List Value}
variable {P : Option Value → xw_T → Nat → Prop} {X : String → xw_T → Nat → Prop} {mc ms : Nat}
theorem x_throwN (C0 : xC p l s m args meth c g cc nL own ret tb) {E tx : String} {ik is ic sa p1 p2 p3 p4 : Nat} (d0 : decode cc pc = .ok (.new ik, 3)) (d3 : decode cc p1 = .ok (.dup, 1)) (d4 : decode cc p2 = .ok (.ldc is, 2)) (d6 : decode cc p3 = .ok (.invokespecial ic, 3)) (d9 : decode cc p4 = .ok (.athrow, 1)) (e1 : pc + 3 = p1) (e2 : pc + 4 = p2) (e3 : pc + 6 = p3) (e4 : pc + 9 = p4) (hcls : Bundle.fit E = true) (hk : Cond.classLink own ik E ∈ xT) (hini : Cond.initialized E ∈ xT) (hstr : vk_R own is tx sa s) (hat : ∀ w ∈ xnS own ic E, w.before args s = true) (hgood : ∀ w ∈ Cond.classLink own ik E :: Cond.initialized E :: xnS own ic E, vx_ot w = true) (hU : vx_Zq Bundle.tN "UNASSIGNED_STACK" Bundle.steD (xA g) s s.heap) (hN : vx_Zq Bundle.tN "SUPPRESSED_SENTINEL" Bundle.listD (xA g) s s.heap) (htb : tb = []) (hRf : 5 < R.frames) (hRl : (rest.map fun v => v.category).sum + 82 ≤ R.locals) (hRc : k + 1 ≤ R.cells) (hRs : n + 6 ≤ R.slots) (hc : k + 1 ≤ mc) (hs : n + 6 ≤ ms) (hX : ∀ sz1, sz ≤ sz1 → X E w sz1) : xV p l e R s m args below meth c (xQ g below P X args s mc ms) g nL w sz k n pc lv rest := by
  intro H locs ls h1 h2 h3 h4
  subst e1 e2 e3 e4
  refine xn_throw C0.1 C0.2.1 C0.2.2.2.2.2.2.2.2.2 C0.2.2.2.1 hcls (C0.2.2.2.2.1 _ hk) (C0.2.2.2.2.1 _ hini) hstr hat hgood hU hN h3 (h4.1.trans C0.2.2.1.symm) d0 d3 d4 d6 d9 (fun x hx => ?_) hRf hRl hRc hRs C0.2.2.2.2.2.1 (fun t _ hz ho => ⟨⟨w, hX _ (by rw [← h1]; exact hz), h2.grow ho⟩, xw_F h3 hz ho t rfl⟩) h3.2.2 hc hs
  rw [C0.2.2.2.2.2.2.2.2.1, htb] at hx
  cases hx
end XTN3

def xNames : List String := ["java/lang/RuntimeException", "java/lang/Exception"]
def xB (E : String) : List Cond := [.castable E E, .declares (Bundle.initS "java/lang/RuntimeException"), .declares (Bundle.initS "java/lang/Exception"), .declares (Bundle.initS Bundle.tN)]
theorem dcl_of {args : Array Value} {s : State} {x : MethodName} (h : va_Decl s x) : (Cond.declares x).before args s = true := by
  obtain ⟨m, meth, h1, h2, h3, h4⟩ := h
  simp [Cond.before, Cond.holds, Cond.value, h1, h2, h3, h4]
set_option maxRecDepth 100000 in
theorem xg_iob : ∀ w ∈ (vx_atS RX7 311 "java/lang/IndexOutOfBoundsException" xNames).filter goodWord, w ∈ xT := by decide +kernel
set_option maxRecDepth 100000 in
theorem xh_iob : ∀ w ∈ (vx_atS RX7 311 "java/lang/IndexOutOfBoundsException" xNames).filter (fun w => !goodWord w), w ∈ xB "java/lang/IndexOutOfBoundsException" := by decide +kernel
set_option maxRecDepth 100000 in
theorem xo_iob : ∀ w ∈ Cond.classLink RX7 307 "java/lang/IndexOutOfBoundsException" :: Cond.initialized "java/lang/IndexOutOfBoundsException" :: vx_atS RX7 311 "java/lang/IndexOutOfBoundsException" xNames, vx_ot w = true := by decide +kernel
set_option maxRecDepth 100000 in
theorem xg_iae : ∀ w ∈ (vx_atS RX7 170 "java/lang/IllegalArgumentException" xNames).filter goodWord, w ∈ xT := by decide +kernel
set_option maxRecDepth 100000 in
theorem xh_iae : ∀ w ∈ (vx_atS RX7 170 "java/lang/IllegalArgumentException" xNames).filter (fun w => !goodWord w), w ∈ xB "java/lang/IllegalArgumentException" := by decide +kernel
set_option maxRecDepth 100000 in
theorem xo_iae : ∀ w ∈ Cond.classLink RX7 166 "java/lang/IllegalArgumentException" :: Cond.initialized "java/lang/IllegalArgumentException" :: vx_atS RX7 170 "java/lang/IllegalArgumentException" xNames, vx_ot w = true := by decide +kernel
set_option maxRecDepth 100000 in
theorem xg_uoe : ∀ w ∈ (vx_atS RX7 324 "java/lang/UnsupportedOperationException" xNames).filter goodWord, w ∈ xT := by decide +kernel
set_option maxRecDepth 100000 in
theorem xh_uoe : ∀ w ∈ (vx_atS RX7 324 "java/lang/UnsupportedOperationException" xNames).filter (fun w => !goodWord w), w ∈ xB "java/lang/UnsupportedOperationException" := by decide +kernel
set_option maxRecDepth 100000 in
theorem xo_uoe : ∀ w ∈ Cond.classLink RX7 320 "java/lang/UnsupportedOperationException" :: Cond.initialized "java/lang/UnsupportedOperationException" :: vx_atS RX7 324 "java/lang/UnsupportedOperationException" xNames, vx_ot w = true := by decide +kernel
set_option maxRecDepth 100000 in
theorem xg_nse : ∀ w ∈ (xnS RX7 141 "java/util/NoSuchElementException").filter goodWord, w ∈ xT := by decide +kernel
set_option maxRecDepth 100000 in
theorem xh_nse : ∀ w ∈ (xnS RX7 141 "java/util/NoSuchElementException").filter (fun w => !goodWord w), w ∈ xB "java/util/NoSuchElementException" := by decide +kernel
set_option maxRecDepth 100000 in
theorem xo_nse : ∀ w ∈ Cond.classLink RX7 137 "java/util/NoSuchElementException" :: Cond.initialized "java/util/NoSuchElementException" :: xnS RX7 141 "java/util/NoSuchElementException", vx_ot w = true := by decide +kernel
set_option maxRecDepth 100000 in
theorem xg_are : ∀ w ∈ (vx_atS RX7 235 "java/lang/ArithmeticException" xNames).filter goodWord, w ∈ xT := by decide +kernel
set_option maxRecDepth 100000 in
theorem xh_are : ∀ w ∈ (vx_atS RX7 235 "java/lang/ArithmeticException" xNames).filter (fun w => !goodWord w), w ∈ xB "java/lang/ArithmeticException" := by decide +kernel
set_option maxRecDepth 100000 in
theorem xo_are : ∀ w ∈ Cond.classLink RX7 231 "java/lang/ArithmeticException" :: Cond.initialized "java/lang/ArithmeticException" :: vx_atS RX7 235 "java/lang/ArithmeticException" xNames, vx_ot w = true := by decide +kernel
set_option maxRecDepth 100000 in
theorem xg_ise : ∀ w ∈ (vx_atS RX7 269 "java/lang/IllegalStateException" xNames).filter goodWord, w ∈ xT := by decide +kernel
set_option maxRecDepth 100000 in
theorem xh_ise : ∀ w ∈ (vx_atS RX7 269 "java/lang/IllegalStateException" xNames).filter (fun w => !goodWord w), w ∈ xB "java/lang/IllegalStateException" := by decide +kernel
set_option maxRecDepth 100000 in
theorem xo_ise : ∀ w ∈ Cond.classLink RX7 265 "java/lang/IllegalStateException" :: Cond.initialized "java/lang/IllegalStateException" :: vx_atS RX7 269 "java/lang/IllegalStateException" xNames, vx_ot w = true := by decide +kernel
theorem xdcl {args : Array Value} {s : State} (hts : ∀ w ∈ xT, w.before args s = true) : (Cond.declares (Bundle.initS "java/lang/RuntimeException")).before args s = true ∧ (Cond.declares (Bundle.initS "java/lang/Exception")).before args s = true ∧ (Cond.declares (Bundle.initS Bundle.tN)).before args s = true :=
  ⟨dcl_of (va_Decl.of (b := Bundle.six) (m := 2) (ret := none) (hts _ (xg_iob _ (by decide +kernel))) (hts _ (xg_iob _ (by decide +kernel)))), dcl_of (va_Decl.of (b := Bundle.six) (m := 2) (ret := none) (hts _ (xg_iob _ (by decide +kernel))) (hts _ (xg_iob _ (by decide +kernel)))), dcl_of (va_Decl.of (hts _ (xg_iob _ (by decide +kernel))) (hts _ (xg_iob _ (List.mem_filter.mpr ⟨List.mem_filter.mpr ⟨List.mem_append_left _ (List.mem_append_left _ (List.mem_append_right _ (List.mem_cons_of_mem _ List.mem_cons_self))), by decide +kernel⟩, by decide +kernel⟩))))⟩
section XHAT
variable {p : Program} {l : Launch} {s : State} {m : MethodId} {args : Array Value} {meth : Method} {c : Code} {g : xg_T} {cc : ByteArray} {nL : Nat} {own : String} {ret : Option FieldType} {tb : List ExceptionTableEntry}
theorem xhat (C0 : xC p l s m args meth c g cc nL own ret tb) {E : String} {L : List Cond} (h1 : ∀ w ∈ L.filter goodWord, w ∈ xT) (h2 : ∀ w ∈ L.filter (fun w => !goodWord w), w ∈ xB E) (hc : (E, E) ∈ xCa) : ∀ w ∈ L, w.before args s = true := by
  have hts := C0.2.2.2.2.1
  obtain ⟨d1, d2, d3⟩ := xdcl hts
  exact vx_hat (fun w hw => hts w (h1 w hw)) h2 (vx_c (va_any rfl (xs_ca C0.2.2.2.2.2.2.2.1.2.2 (E, E) hc)) (vx_c d1 (vx_c d2 (vx_c d3 vx_n))))
end XHAT
