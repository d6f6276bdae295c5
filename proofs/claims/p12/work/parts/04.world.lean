/-! THE WORLD: what the heap holds, as a function of the address; a judgement over it, and a law for each instruction -/
abbrev xw_T : Type := Nat → Option va_E
/-- numbers of the kinds, and a book of numbers: 0 the base, 1 to 7 the array classes, behind them statics and constants -/
abbrev xg_T : Type := va_G × (Nat → Nat)
def xw_H (g : xg_T) (w : xw_T) (H : Heap) : Prop := ∀ (q : Nat) (e : va_E), w q = some e → va_at g.1 vwCl (q, e) H
def xup (w : xw_T) (a : Nat) (e : va_E) : xw_T := fun q => if q = a then some e else w q
theorem xup_s (w : xw_T) (a : Nat) (e : va_E) : xup w a e a = some e := if_pos rfl
theorem xup_n {w : xw_T} {a q : Nat} {e : va_E} (h : q ≠ a) : xup w a e q = w q := if_neg h
theorem xup_2 (w : xw_T) (a : Nat) (e e' : va_E) : xup (xup w a e) a e' = xup w a e' := by
  funext q
  unfold xup
  split <;> rfl
theorem xup_id {w : xw_T} {a : Nat} {e : va_E} (h : w a = some e) : w = xup w a e := by
  funext q
  unfold xup
  split
  · rename_i hq
    rw [hq, h]
  · rfl
def xA (g : xg_T) : Nat → Prop := fun q => g.2 0 ≤ q
def xtys (a : Nat → Nat) : List (ClassId × FieldType) := [(a 1, .int), (a 2, .char), (a 3, .byte), (a 4, .long), (a 5, .double), (a 6, .object RX1), (a 7, .object RX4)]
theorem xw_H.put {g : xg_T} {w : xw_T} {H H1 : Heap} {a : Nat} {e : va_E} (h : xw_H g w H) (he : va_at g.1 vwCl (a, e) H1) (oq : ∀ q : Nat, q ≠ a → H1[q]? = H[q]?) : xw_H g (xup w a e) H1 := by
  intro q e1 h1
  by_cases hq : q = a
  · subst hq
    rw [xup_s] at h1
    cases h1
    exact he
  · rw [xup_n hq] at h1
    exact (h q e1 h1).kept (oq q hq)
theorem xw_H.push {g : xg_T} {w : xw_T} {H H1 : Heap} {e : va_E} (h : xw_H g w H) (he : va_at g.1 vwCl (H.size, e) H1) (oq : ∀ q : Nat, q < H.size → H1[q]? = H[q]?) : xw_H g (xup w H.size e) H1 := by
  intro q e1 h1
  by_cases hq : q = H.size
  · subst hq
    rw [xup_s] at h1
    cases h1
    exact he
  · rw [xup_n hq] at h1
    have hz := (h q e1 h1).lt
    exact (h q e1 h1).kept (oq q hz)
theorem xw_H.grow {g : xg_T} {w : xw_T} {H H1 : Heap} (h : xw_H g w H) (oq : ∀ q : Nat, q < H.size → H1[q]? = H[q]?) : xw_H g w H1 := fun q e h1 => (h q e h1).kept (oq q (h q e h1).lt)
theorem xw_H.one {g : xg_T} {w : xw_T} {H : Heap} {a : Nat} {e : va_E} (h : xw_H g w H) (he : w a = some e) : va_P g.1 vwCl [(a, e)] H := by
  intro k q hk
  have hz : k < 1 := (List.getElem?_eq_some_iff.mp hk).1
  rw [show k = 0 by omega] at hk
  cases hk
  exact h a e he
theorem xw_D {A : Nat → Prop} {a : Nat} {e : va_E} (hA : A a) : va_D A [(a, e)] := by
  refine ⟨fun i j p q hi hj _ => ?_, fun k q hk => ?_⟩
  · have h1 : i < 1 := (List.getElem?_eq_some_iff.mp hi).1
    have h2 : j < 1 := (List.getElem?_eq_some_iff.mp hj).1
    omega
  · have hz : k < 1 := (List.getElem?_eq_some_iff.mp hk).1
    rw [show k = 0 by omega] at hk
    cases hk
    exact hA

/-! WHAT LIES BELOW THE BASE: statics, enum constants, texts; nobody writes them -/
def xlen : List Nat := [0, 5, 4, 6, 4, 5, 5, 6, 6, 5, 5, 4, 6]
def xbyt : List (List Int32) := [[], [32, 100, 97, 109, 112], [100, 117, 115, 116], [98, 114, 111, 107, 101, 110], [116, 105, 112, 115], [108, 105, 110, 101, 32], [102, 105, 108, 108, 32], [115, 99, 114, 101, 119, 32], [108, 97, 98, 101, 108, 32], [113, 117, 97, 121, 32], [108, 111, 97, 100, 32], [115, 97, 105, 108], [104, 111, 117, 114, 115, 32]]
/-- texts that are loaded: owner, entry, text, place in the book -/
def xRs : List (String × Nat × String × Nat) := [(RX1, 21, "", 100), (RX1, 74, " damp", 101), (RX7, 139, "no such character of a label", 140), (RX7, 168, "no such number of a chest", 141), (RX7, 178, "no such place", 142), (RX7, 233, "no chests with leaves", 143), (RX7, 239, "nothing was brought", 144), (RX7, 244, "nothing was refused", 145), (RX7, 259, "no such account", 146), (RX7, 267, "the input buffer is full", 147), (RX7, 289, "there is no change to take back", 148), (RX7, 294, "nothing was saved", 149), (RX7, 302, "a number is out of range", 150), (RX7, 309, "no such garden or kind", 151), (RX7, 315, "no such chest", 152), (RX7, 322, "refused", 153)]
def xCa : List (String × String) := [("java/lang/IndexOutOfBoundsException", "java/lang/IndexOutOfBoundsException"), ("java/lang/IllegalArgumentException", "java/lang/IllegalArgumentException"), ("java/lang/UnsupportedOperationException", "java/lang/UnsupportedOperationException"), ("java/util/NoSuchElementException", "java/util/NoSuchElementException"), ("java/lang/IllegalStateException", "java/lang/IllegalStateException"), ("java/lang/ArithmeticException", "java/lang/ArithmeticException"), ("[B", "java/lang/Cloneable")]
def xUp : List MethodName := [yJ5_ensureCapacityInternal_d00df, yJ5_putStringAt_47b60, yJ5_inflateIfNeededFor_a7421]
def xNc : List (String × String) := [("java/lang/IllegalArgumentException", "java/lang/IndexOutOfBoundsException"), ("java/lang/UnsupportedOperationException", "java/lang/IndexOutOfBoundsException"), ("java/lang/UnsupportedOperationException", "java/lang/IllegalArgumentException"), ("java/util/NoSuchElementException", "java/lang/IndexOutOfBoundsException")]
def xSf : List (String × Nat × String × String × String × String) := [(RX4, 9, "TeaChests", "KINDS", "[LTeaChests$Kind;", "TeaChests"), (RX1, 52, "TeaChests", "KINDS", "[LTeaChests$Kind;", "TeaChests"), (RX2, 90, "TeaChests", "VERBS", "[LTeaChests$Verb;", "TeaChests"), (RX2, 102, "TeaChests", "KINDS", "[LTeaChests$Kind;", "TeaChests")]
def xS (g : xg_T) (s : State) (H : Heap) : Prop :=
  (vk_S 13 xlen xbyt (fun i => g.2 (100 + i)) (fun i => g.2 (120 + i)) (xA g) s H) ∧
  (∀ q ∈ xRs, vk_R q.1 q.2.1 q.2.2.1 (g.2 q.2.2.2) s) ∧
  (vx_Zq Bundle.tN "UNASSIGNED_STACK" Bundle.steD (xA g) s H) ∧
  (vx_Zq Bundle.tN "SUPPRESSED_SENTINEL" Bundle.listD (xA g) s H) ∧
  (∀ q ∈ xCa, va_Nw (.castable q.1 q.2) s) ∧
  (∀ q ∈ xNc, va_Nc q.1 q.2 s) ∧
  (va_AO RX1 s ∧ va_AO RX4 s) ∧
  (∀ q ∈ xSf, va_Nw (.fieldLinkNest q.1 q.2.1 q.2.2.1 q.2.2.2.1 q.2.2.2.2.1 q.2.2.2.2.2) s) ∧
  (va_Nw (.methodLinkNest RX7 32 yX2_init "TeaChests") s) ∧
  (va_Z RX7 "KINDS" "[LTeaChests$Kind;" (.ref (g.2 10)) (xA g) s H ∧ va_T (.object RX5) (g.2 10) 3 (fun j => .ref (g.2 (20 + j))) (xA g) s H) ∧
  (va_Z RX7 "VERBS" "[LTeaChests$Verb;" (.ref (g.2 11)) (xA g) s H ∧ va_T (.object RX6) (g.2 11) 8 (fun j => .ref (g.2 (30 + j))) (xA g) s H) ∧
  (va_Z RX0 "$SwitchMap$TeaChests$Verb" "[I" (.ref (g.2 12)) (xA g) s H ∧ va_T .int (g.2 12) 8 (fun j => .int (nI (j + 1))) (xA g) s H) ∧
  (va_Z RX6 "SAIL" "LTeaChests$Verb;" (.ref (g.2 36)) (xA g) s H ∧ va_Z RX6 "HOURS" "LTeaChests$Verb;" (.ref (g.2 37)) (xA g) s H) ∧
  (va_Ef 3 RX5 "word" "Ljava/lang/String;" (fun i => .ref (g.2 (102 + i))) (fun i => g.2 (20 + i)) (xA g) s H) ∧
  (va_Ef 8 RX6 "word" "Ljava/lang/String;" (fun i => .ref (g.2 (105 + i))) (fun i => g.2 (30 + i)) (xA g) s H) ∧
  (va_Ef 8 "java/lang/Enum" "ordinal" "I" (fun i => .int (nI i)) (fun i => g.2 (30 + i)) (xA g) s H) ∧
  ((∀ i : Nat, i < 8 → va_O RX6 (g.2 (30 + i)) (xA g) s H) ∧ ∀ i j : Nat, i < 8 → j < 8 → g.2 (30 + i) = g.2 (30 + j) → i = j) ∧
  (va_Z "java/lang/String" "COMPACT_STRINGS" "Z" (.int 1) (xA g) s H) ∧
  (∀ q ∈ xUp, (Cond.selects RJ4 q q).before #[] s = true) ∧
  (va_Zq "jdk/internal/util/Preconditions" "SIOOBE_FORMATTER" "Ljava/util/function/BiFunction;" (xA g) s H) ∧
  (va_Z "java/lang/Integer" "DigitTens" "[B" (.ref (g.2 13)) (xA g) s H ∧ va_T .byte (g.2 13) 100 (fun j => .int (nI (48 + j / 10))) (xA g) s H) ∧
  (va_Z "java/lang/Integer" "DigitOnes" "[B" (.ref (g.2 14)) (xA g) s H ∧ va_T .byte (g.2 14) 100 (fun j => .int (nI (48 + j % 10))) (xA g) s H)
section XS
variable {g : xg_T} {s : State} {H : Heap}
theorem xs_str (h : xS g s H) : vk_S 13 xlen xbyt (fun i => g.2 (100 + i)) (fun i => g.2 (120 + i)) (xA g) s H := h.1
theorem xs_ldc (h : xS g s H) : ∀ q ∈ xRs, vk_R q.1 q.2.1 q.2.2.1 (g.2 q.2.2.2) s := h.2.1
theorem xs_us (h : xS g s H) : vx_Zq Bundle.tN "UNASSIGNED_STACK" Bundle.steD (xA g) s H := h.2.2.1
theorem xs_su (h : xS g s H) : vx_Zq Bundle.tN "SUPPRESSED_SENTINEL" Bundle.listD (xA g) s H := h.2.2.2.1
theorem xs_ca (h : xS g s H) : ∀ q ∈ xCa, va_Nw (.castable q.1 q.2) s := h.2.2.2.2.1
theorem xs_nc (h : xS g s H) : ∀ q ∈ xNc, va_Nc q.1 q.2 s := h.2.2.2.2.2.1
theorem xs_ao (h : xS g s H) : va_AO RX1 s ∧ va_AO RX4 s := h.2.2.2.2.2.2.1
theorem xs_nf (h : xS g s H) : ∀ q ∈ xSf, va_Nw (.fieldLinkNest q.1 q.2.1 q.2.2.1 q.2.2.2.1 q.2.2.2.2.1 q.2.2.2.2.2) s := h.2.2.2.2.2.2.2.1
theorem xs_nm (h : xS g s H) : va_Nw (.methodLinkNest RX7 32 yX2_init "TeaChests") s := h.2.2.2.2.2.2.2.2.1
theorem xs_kinds (h : xS g s H) : va_Z RX7 "KINDS" "[LTeaChests$Kind;" (.ref (g.2 10)) (xA g) s H ∧ va_T (.object RX5) (g.2 10) 3 (fun j => .ref (g.2 (20 + j))) (xA g) s H := h.2.2.2.2.2.2.2.2.2.1
theorem xs_verbs (h : xS g s H) : va_Z RX7 "VERBS" "[LTeaChests$Verb;" (.ref (g.2 11)) (xA g) s H ∧ va_T (.object RX6) (g.2 11) 8 (fun j => .ref (g.2 (30 + j))) (xA g) s H := h.2.2.2.2.2.2.2.2.2.2.1
theorem xs_map (h : xS g s H) : va_Z RX0 "$SwitchMap$TeaChests$Verb" "[I" (.ref (g.2 12)) (xA g) s H ∧ va_T .int (g.2 12) 8 (fun j => .int (nI (j + 1))) (xA g) s H := h.2.2.2.2.2.2.2.2.2.2.2.1
theorem xs_sh (h : xS g s H) : va_Z RX6 "SAIL" "LTeaChests$Verb;" (.ref (g.2 36)) (xA g) s H ∧ va_Z RX6 "HOURS" "LTeaChests$Verb;" (.ref (g.2 37)) (xA g) s H := h.2.2.2.2.2.2.2.2.2.2.2.2.1
theorem xs_kw (h : xS g s H) : va_Ef 3 RX5 "word" "Ljava/lang/String;" (fun i => .ref (g.2 (102 + i))) (fun i => g.2 (20 + i)) (xA g) s H := h.2.2.2.2.2.2.2.2.2.2.2.2.2.1
theorem xs_vw (h : xS g s H) : va_Ef 8 RX6 "word" "Ljava/lang/String;" (fun i => .ref (g.2 (105 + i))) (fun i => g.2 (30 + i)) (xA g) s H := h.2.2.2.2.2.2.2.2.2.2.2.2.2.2.1
theorem xs_vo (h : xS g s H) : va_Ef 8 "java/lang/Enum" "ordinal" "I" (fun i => .int (nI i)) (fun i => g.2 (30 + i)) (xA g) s H := h.2.2.2.2.2.2.2.2.2.2.2.2.2.2.2.1
theorem xs_vc (h : xS g s H) : (∀ i : Nat, i < 8 → va_O RX6 (g.2 (30 + i)) (xA g) s H) ∧ ∀ i j : Nat, i < 8 → j < 8 → g.2 (30 + i) = g.2 (30 + j) → i = j := h.2.2.2.2.2.2.2.2.2.2.2.2.2.2.2.2.1
theorem xs_cs (h : xS g s H) : va_Z "java/lang/String" "COMPACT_STRINGS" "Z" (.int 1) (xA g) s H := h.2.2.2.2.2.2.2.2.2.2.2.2.2.2.2.2.2.1
theorem xs_up (h : xS g s H) : ∀ q ∈ xUp, (Cond.selects RJ4 q q).before #[] s = true := h.2.2.2.2.2.2.2.2.2.2.2.2.2.2.2.2.2.2.1
theorem xs_sf (h : xS g s H) : va_Zq "jdk/internal/util/Preconditions" "SIOOBE_FORMATTER" "Ljava/util/function/BiFunction;" (xA g) s H := h.2.2.2.2.2.2.2.2.2.2.2.2.2.2.2.2.2.2.2.1
theorem xs_dt (h : xS g s H) : va_Z "java/lang/Integer" "DigitTens" "[B" (.ref (g.2 13)) (xA g) s H ∧ va_T .byte (g.2 13) 100 (fun j => .int (nI (48 + j / 10))) (xA g) s H := h.2.2.2.2.2.2.2.2.2.2.2.2.2.2.2.2.2.2.2.2.1
theorem xs_do (h : xS g s H) : va_Z "java/lang/Integer" "DigitOnes" "[B" (.ref (g.2 14)) (xA g) s H ∧ va_T .byte (g.2 14) 100 (fun j => .int (nI (48 + j % 10))) (xA g) s H := h.2.2.2.2.2.2.2.2.2.2.2.2.2.2.2.2.2.2.2.2.2
end XS
theorem xS.go {g : xg_T} {s U : State} {H H1 : Heap} (h : xS g s H) (hW : s.WarmedH U.vm) (hq : ∀ a : Nat, a < H.size → ¬ xA g a → H1[a]? = H[a]?) : xS g U H1 :=
  ⟨(h.1.moved hW.alike).kept hq,
  fun q hq2 => (h.2.1 q hq2).warm hW,
  (h.2.2.1.moved hW.alike).kept hq,
  (h.2.2.2.1.moved hW.alike).kept hq,
  fun q hq2 => (h.2.2.2.2.1 q hq2).warmC hW,
  fun q hq2 => (h.2.2.2.2.2.1 q hq2).moved hW.alike,
  ⟨h.2.2.2.2.2.2.1.1.moved hW.alike, h.2.2.2.2.2.2.1.2.moved hW.alike⟩,
  fun q hq2 => (h.2.2.2.2.2.2.2.1 q hq2).warmF hW,
  h.2.2.2.2.2.2.2.2.1.warmM hW,
  ⟨(h.2.2.2.2.2.2.2.2.2.1.1.moved hW.alike).kept hq, (h.2.2.2.2.2.2.2.2.2.1.2.moved hW.alike).kept hq⟩,
  ⟨(h.2.2.2.2.2.2.2.2.2.2.1.1.moved hW.alike).kept hq, (h.2.2.2.2.2.2.2.2.2.2.1.2.moved hW.alike).kept hq⟩,
  ⟨(h.2.2.2.2.2.2.2.2.2.2.2.1.1.moved hW.alike).kept hq, (h.2.2.2.2.2.2.2.2.2.2.2.1.2.moved hW.alike).kept hq⟩,
  ⟨(h.2.2.2.2.2.2.2.2.2.2.2.2.1.1.moved hW.alike).kept hq, (h.2.2.2.2.2.2.2.2.2.2.2.2.1.2.moved hW.alike).kept hq⟩,
  (h.2.2.2.2.2.2.2.2.2.2.2.2.2.1.moved hW.alike).kept hq,
  (h.2.2.2.2.2.2.2.2.2.2.2.2.2.2.1.moved hW.alike).kept hq,
  (h.2.2.2.2.2.2.2.2.2.2.2.2.2.2.2.1.moved hW.alike).kept hq,
  ⟨fun i hi => ((h.2.2.2.2.2.2.2.2.2.2.2.2.2.2.2.2.1.1 i hi).moved hW.alike).kept hq, h.2.2.2.2.2.2.2.2.2.2.2.2.2.2.2.2.1.2⟩,
  (h.2.2.2.2.2.2.2.2.2.2.2.2.2.2.2.2.2.1.moved hW.alike).kept hq,
  fun q hq2 => word_at hW (Or.inl rfl) (h.2.2.2.2.2.2.2.2.2.2.2.2.2.2.2.2.2.2.1 q hq2),
  (h.2.2.2.2.2.2.2.2.2.2.2.2.2.2.2.2.2.2.2.1.moved hW.alike).kept hq,
  ⟨(h.2.2.2.2.2.2.2.2.2.2.2.2.2.2.2.2.2.2.2.2.1.1.moved hW.alike).kept hq, (h.2.2.2.2.2.2.2.2.2.2.2.2.2.2.2.2.2.2.2.2.1.2.moved hW.alike).kept hq⟩,
  ⟨(h.2.2.2.2.2.2.2.2.2.2.2.2.2.2.2.2.2.2.2.2.2.1.moved hW.alike).kept hq, (h.2.2.2.2.2.2.2.2.2.2.2.2.2.2.2.2.2.2.2.2.2.2.moved hW.alike).kept hq⟩⟩

def xG (g : xg_T) (s : State) (H : Heap) : Prop := va_K g.1 vwCl (xtys g.2) s ∧ g.2 0 ≤ H.size ∧ xS g s H
theorem xG.go {g : xg_T} {s U : State} {H H1 : Heap} (h : xG g s H) (hW : s.WarmedH U.vm) (hz : H.size ≤ H1.size) (hq : ∀ a : Nat, a < H.size → ¬ xA g a → H1[a]? = H[a]?) : xG g U H1 := ⟨h.1.moved hW.alike, Nat.le_trans h.2.1 hz, h.2.2.go hW hq⟩
/-- what holds all along a method's walk -/
def xC (p : Program) (l : Launch) (s : State) (m : MethodId) (args : Array Value) (meth : Method) (c : Code) (g : xg_T) (cc : ByteArray) (nL : Nat) (own : String) (ret : Option FieldType) (tb : List ExceptionTableEntry) : Prop :=
  p.tables.exec = Jvm.exec ∧ c.code = cc ∧ c.maxLocals = nL ∧ s.vm.findClass own = some m.cls ∧ (∀ w ∈ xT, w.before args s = true) ∧ meth.locks = false ∧ meth.sig.returnType = ret ∧ xG g s s.heap ∧ c.exceptionTable.toList = tb ∧ l.stackTraces = false
/-- the walk's judgement: at pc, over every heap that holds the world -/
def xV (p : Program) (l : Launch) (e : Env) (R : Room) (s : State) (m : MethodId) (args : Array Value) (below : List Frame) (meth : Method) (c : Code) (Q : State → Prop) (g : xg_T) (nL : Nat) (w : xw_T) (sz k n pc : Nat) (lv : List (Nat × Value)) (st : List Value) : Prop :=
  ∀ (H : Heap) (locs : List Loc) (ls : Array Slot), H.size = sz → xw_H g w H → va_S (xA g) s.heap H locs → lv_has ls nL lv → W p l e R s m args below meth c H locs k n Q (F0 m pc ls st)
section XV
variable {p : Program} {l : Launch} {e : Env} {R : Room} {s : State} {m : MethodId} {args : Array Value} {below : List Frame} {meth : Method} {c : Code} {Q : State → Prop}
variable {g : xg_T} {cc : ByteArray} {nL : Nat} {own : String} {ret : Option FieldType} {tb : List ExceptionTableEntry} {w : xw_T} {sz k n pc : Nat} {lv : List (Nat × Value)} {rest : List Value}
theorem x_iconst {i : Int} {v : Int32} (p1 : Nat) (C0 : xC p l s m args meth c g cc nL own ret tb) (hd : decode cc pc = .ok (.iconst i, 1)) (hp : pc + 1 = p1) (hv : Int32.ofInt i = v) (k1 : xV p l e R s m args below meth c Q g nL w sz k n p1 lv (.int v :: rest)) : xV p l e R s m args below meth c Q g nL w sz k n pc lv rest := by
  intro H locs ls h1 h2 h3 h4
  subst hp
  exact lv_iconst C0.1 C0.2.1 hd hv (k1 H locs ls h1 h2 h3 h4)
theorem x_bipush {i : Int} {v : Int32} (p1 : Nat) (C0 : xC p l s m args meth c g cc nL own ret tb) (hd : decode cc pc = .ok (.bipush i, 2)) (hp : pc + 2 = p1) (hv : (Int8.ofInt i).toInt32 = v) (k1 : xV p l e R s m args below meth c Q g nL w sz k n p1 lv (.int v :: rest)) : xV p l e R s m args below meth c Q g nL w sz k n pc lv rest := by
  intro H locs ls h1 h2 h3 h4
  subst hp
  exact lv_bipush C0.1 C0.2.1 hd hv (k1 H locs ls h1 h2 h3 h4)
theorem x_sipush {i : Int} {v : Int32} (p1 : Nat) (C0 : xC p l s m args meth c g cc nL own ret tb) (hd : decode cc pc = .ok (.sipush i, 3)) (hp : pc + 3 = p1) (hv : (Int16.ofInt i).toInt32 = v) (k1 : xV p l e R s m args below meth c Q g nL w sz k n p1 lv (.int v :: rest)) : xV p l e R s m args below meth c Q g nL w sz k n pc lv rest := by
  intro H locs ls h1 h2 h3 h4
  subst hp
  exact lv_sipush C0.1 C0.2.1 hd hv (k1 H locs ls h1 h2 h3 h4)
theorem x_lconst {i : Fin 2} {v : Int64} (p1 : Nat) (C0 : xC p l s m args meth c g cc nL own ret tb) (hd : decode cc pc = .ok (.lconst i, 1)) (hp : pc + 1 = p1) (hv : Int64.ofNat (i : Nat) = v) (k1 : xV p l e R s m args below meth c Q g nL w sz k n p1 lv (.long v :: rest)) : xV p l e R s m args below meth c Q g nL w sz k n pc lv rest := by
  intro H locs ls h1 h2 h3 h4
  subst hp
  exact lv_lconst C0.1 C0.2.1 hd hv (k1 H locs ls h1 h2 h3 h4)
theorem x_iadd {x y : Int32} (p1 : Nat) (C0 : xC p l s m args meth c g cc nL own ret tb) (hd : decode cc pc = .ok (.iadd, 1)) (hp : pc + 1 = p1)  (k1 : xV p l e R s m args below meth c Q g nL w sz k n p1 lv (.int (x + y) :: rest)) : xV p l e R s m args below meth c Q g nL w sz k n pc lv (.int y :: .int x :: rest) := by
  intro H locs ls h1 h2 h3 h4
  subst hp
  exact lv_iadd C0.1 C0.2.1 hd  (k1 H locs ls h1 h2 h3 h4)
theorem x_isub {x y : Int32} (p1 : Nat) (C0 : xC p l s m args meth c g cc nL own ret tb) (hd : decode cc pc = .ok (.isub, 1)) (hp : pc + 1 = p1)  (k1 : xV p l e R s m args below meth c Q g nL w sz k n p1 lv (.int (x - y) :: rest)) : xV p l e R s m args below meth c Q g nL w sz k n pc lv (.int y :: .int x :: rest) := by
  intro H locs ls h1 h2 h3 h4
  subst hp
  exact lv_isub C0.1 C0.2.1 hd  (k1 H locs ls h1 h2 h3 h4)
theorem x_imul {x y : Int32} (p1 : Nat) (C0 : xC p l s m args meth c g cc nL own ret tb) (hd : decode cc pc = .ok (.imul, 1)) (hp : pc + 1 = p1)  (k1 : xV p l e R s m args below meth c Q g nL w sz k n p1 lv (.int (x * y) :: rest)) : xV p l e R s m args below meth c Q g nL w sz k n pc lv (.int y :: .int x :: rest) := by
  intro H locs ls h1 h2 h3 h4
  subst hp
  exact lv_imul C0.1 C0.2.1 hd  (k1 H locs ls h1 h2 h3 h4)
theorem x_iand {x y : Int32} (p1 : Nat) (C0 : xC p l s m args meth c g cc nL own ret tb) (hd : decode cc pc = .ok (.iand, 1)) (hp : pc + 1 = p1)  (k1 : xV p l e R s m args below meth c Q g nL w sz k n p1 lv (.int (x &&& y) :: rest)) : xV p l e R s m args below meth c Q g nL w sz k n pc lv (.int y :: .int x :: rest) := by
  intro H locs ls h1 h2 h3 h4
  subst hp
  exact lv_iand C0.1 C0.2.1 hd  (k1 H locs ls h1 h2 h3 h4)
theorem x_ior {x y : Int32} (p1 : Nat) (C0 : xC p l s m args meth c g cc nL own ret tb) (hd : decode cc pc = .ok (.ior, 1)) (hp : pc + 1 = p1)  (k1 : xV p l e R s m args below meth c Q g nL w sz k n p1 lv (.int (x ||| y) :: rest)) : xV p l e R s m args below meth c Q g nL w sz k n pc lv (.int y :: .int x :: rest) := by
  intro H locs ls h1 h2 h3 h4
  subst hp
  exact lv_ior C0.1 C0.2.1 hd  (k1 H locs ls h1 h2 h3 h4)
theorem x_ishl {x y : Int32} (p1 : Nat) (C0 : xC p l s m args meth c g cc nL own ret tb) (hd : decode cc pc = .ok (.ishl, 1)) (hp : pc + 1 = p1)  (k1 : xV p l e R s m args below meth c Q g nL w sz k n p1 lv (.int (x <<< (y &&& 31)) :: rest)) : xV p l e R s m args below meth c Q g nL w sz k n pc lv (.int y :: .int x :: rest) := by
  intro H locs ls h1 h2 h3 h4
  subst hp
  exact lv_ishl C0.1 C0.2.1 hd  (k1 H locs ls h1 h2 h3 h4)
theorem x_ishr {x y : Int32} (p1 : Nat) (C0 : xC p l s m args meth c g cc nL own ret tb) (hd : decode cc pc = .ok (.ishr, 1)) (hp : pc + 1 = p1)  (k1 : xV p l e R s m args below meth c Q g nL w sz k n p1 lv (.int (x >>> (y &&& 31)) :: rest)) : xV p l e R s m args below meth c Q g nL w sz k n pc lv (.int y :: .int x :: rest) := by
  intro H locs ls h1 h2 h3 h4
  subst hp
  exact lv_ishr C0.1 C0.2.1 hd  (k1 H locs ls h1 h2 h3 h4)
theorem x_idiv {x y : Int32} (p1 : Nat) (C0 : xC p l s m args meth c g cc nL own ret tb) (hd : decode cc pc = .ok (.idiv, 1)) (hp : pc + 1 = p1) (hne : ¬ y = 0) (k1 : xV p l e R s m args below meth c Q g nL w sz k n p1 lv (.int (x / y) :: rest)) : xV p l e R s m args below meth c Q g nL w sz k n pc lv (.int y :: .int x :: rest) := by
  intro H locs ls h1 h2 h3 h4
  subst hp
  exact lv_idiv C0.1 C0.2.1 hd hne (k1 H locs ls h1 h2 h3 h4)
theorem x_irem {x y : Int32} (p1 : Nat) (C0 : xC p l s m args meth c g cc nL own ret tb) (hd : decode cc pc = .ok (.irem, 1)) (hp : pc + 1 = p1) (hne : ¬ y = 0) (k1 : xV p l e R s m args below meth c Q g nL w sz k n p1 lv (.int (x - x / y * y) :: rest)) : xV p l e R s m args below meth c Q g nL w sz k n pc lv (.int y :: .int x :: rest) := by
  intro H locs ls h1 h2 h3 h4
  subst hp
  exact lv_irem C0.1 C0.2.1 hd hne (k1 H locs ls h1 h2 h3 h4)
theorem x_ineg {x : Int32} (p1 : Nat) (C0 : xC p l s m args meth c g cc nL own ret tb) (hd : decode cc pc = .ok (.ineg, 1)) (hp : pc + 1 = p1)  (k1 : xV p l e R s m args below meth c Q g nL w sz k n p1 lv (.int (-x) :: rest)) : xV p l e R s m args below meth c Q g nL w sz k n pc lv (.int x :: rest) := by
  intro H locs ls h1 h2 h3 h4
  subst hp
  exact lv_ineg C0.1 C0.2.1 hd  (k1 H locs ls h1 h2 h3 h4)
theorem x_i2l {x : Int32} {v : Int64} (p1 : Nat) (C0 : xC p l s m args meth c g cc nL own ret tb) (hd : decode cc pc = .ok (.i2l, 1)) (hp : pc + 1 = p1) (hv : x.toInt64 = v) (k1 : xV p l e R s m args below meth c Q g nL w sz k n p1 lv (.long v :: rest)) : xV p l e R s m args below meth c Q g nL w sz k n pc lv (.int x :: rest) := by
  intro H locs ls h1 h2 h3 h4
  subst hp
  exact lv_i2l C0.1 C0.2.1 hd hv (k1 H locs ls h1 h2 h3 h4)
theorem x_i2b {x v : Int32} (p1 : Nat) (C0 : xC p l s m args meth c g cc nL own ret tb) (hd : decode cc pc = .ok (.i2b, 1)) (hp : pc + 1 = p1) (hv : x.toInt8.toInt32 = v) (k1 : xV p l e R s m args below meth c Q g nL w sz k n p1 lv (.int v :: rest)) : xV p l e R s m args below meth c Q g nL w sz k n pc lv (.int x :: rest) := by
  intro H locs ls h1 h2 h3 h4
  subst hp
  exact lv_i2b C0.1 C0.2.1 hd hv (k1 H locs ls h1 h2 h3 h4)
theorem x_i2c {x v : Int32} (p1 : Nat) (C0 : xC p l s m args meth c g cc nL own ret tb) (hd : decode cc pc = .ok (.i2c, 1)) (hp : pc + 1 = p1) (hv : (x.toUInt32 % 65536).toInt32 = v) (k1 : xV p l e R s m args below meth c Q g nL w sz k n p1 lv (.int v :: rest)) : xV p l e R s m args below meth c Q g nL w sz k n pc lv (.int x :: rest) := by
  intro H locs ls h1 h2 h3 h4
  subst hp
  exact lv_i2c C0.1 C0.2.1 hd hv (k1 H locs ls h1 h2 h3 h4)
theorem x_dup {va : Value} (p1 : Nat) (C0 : xC p l s m args meth c g cc nL own ret tb) (hd : decode cc pc = .ok (.dup, 1)) (hp : pc + 1 = p1) (hc : va.category = 1) (k1 : xV p l e R s m args below meth c Q g nL w sz k n p1 lv (va :: va :: rest)) : xV p l e R s m args below meth c Q g nL w sz k n pc lv (va :: rest) := by
  intro H locs ls h1 h2 h3 h4
  subst hp
  exact lv_dup C0.1 C0.2.1 hd hc (k1 H locs ls h1 h2 h3 h4)
theorem x_pop {va : Value} (p1 : Nat) (C0 : xC p l s m args meth c g cc nL own ret tb) (hd : decode cc pc = .ok (.pop, 1)) (hp : pc + 1 = p1) (hc : va.category = 1) (k1 : xV p l e R s m args below meth c Q g nL w sz k n p1 lv rest) : xV p l e R s m args below meth c Q g nL w sz k n pc lv (va :: rest) := by
  intro H locs ls h1 h2 h3 h4
  subst hp
  exact lv_pop C0.1 C0.2.1 hd hc (k1 H locs ls h1 h2 h3 h4)
theorem x_dup_x1 {va vb : Value} (p1 : Nat) (C0 : xC p l s m args meth c g cc nL own ret tb) (hd : decode cc pc = .ok (.dup_x1, 1)) (hp : pc + 1 = p1) (hc : va.category = 1) (hc2 : vb.category = 1) (k1 : xV p l e R s m args below meth c Q g nL w sz k n p1 lv (va :: vb :: va :: rest)) : xV p l e R s m args below meth c Q g nL w sz k n pc lv (va :: vb :: rest) := by
  intro H locs ls h1 h2 h3 h4
  subst hp
  exact lv_dup_x1 C0.1 C0.2.1 hd hc hc2 (k1 H locs ls h1 h2 h3 h4)
theorem x_dup_x2 {va vb vd : Value} (p1 : Nat) (C0 : xC p l s m args meth c g cc nL own ret tb) (hd : decode cc pc = .ok (.dup_x2, 1)) (hp : pc + 1 = p1) (hc : va.category = 1) (hc2 : vb.category = 1) (hc3 : vd.category = 1) (k1 : xV p l e R s m args below meth c Q g nL w sz k n p1 lv (va :: vb :: vd :: va :: rest)) : xV p l e R s m args below meth c Q g nL w sz k n pc lv (va :: vb :: vd :: rest) := by
  intro H locs ls h1 h2 h3 h4
  subst hp
  exact lv_dup_x2 C0.1 C0.2.1 hd hc hc2 hc3 (k1 H locs ls h1 h2 h3 h4)
theorem x_dup2 {va vb : Value} (p1 : Nat) (C0 : xC p l s m args meth c g cc nL own ret tb) (hd : decode cc pc = .ok (.dup2, 1)) (hp : pc + 1 = p1) (hc : va.category = 1) (hc2 : vb.category = 1) (k1 : xV p l e R s m args below meth c Q g nL w sz k n p1 lv (va :: vb :: va :: vb :: rest)) : xV p l e R s m args below meth c Q g nL w sz k n pc lv (va :: vb :: rest) := by
  intro H locs ls h1 h2 h3 h4
  subst hp
  exact lv_dup2_11 C0.1 C0.2.1 hd hc hc2 (k1 H locs ls h1 h2 h3 h4)
theorem x_null  (p1 : Nat) (C0 : xC p l s m args meth c g cc nL own ret tb) (hd : decode cc pc = .ok (.aconst_null, 1)) (hp : pc + 1 = p1)  (k1 : xV p l e R s m args below meth c Q g nL w sz k n p1 lv (.null :: rest)) : xV p l e R s m args below meth c Q g nL w sz k n pc lv rest := by
  intro H locs ls h1 h2 h3 h4
  subst hp
  exact lv_null C0.1 C0.2.1 hd  (k1 H locs ls h1 h2 h3 h4)
theorem x_iload_n (j : Nat) {q : Fin 4} {i : Nat} {x : Int32} (p1 : Nat) (C0 : xC p l s m args meth c g cc nL own ret tb) (hd : decode cc pc = .ok (.iload_n q, 1)) (hp : pc + 1 = p1) (hi : (q : Nat) = i) (hl : lv[j]? = some (i, .int x)) (k1 : xV p l e R s m args below meth c Q g nL w sz k n p1 lv (.int x :: rest)) : xV p l e R s m args below meth c Q g nL w sz k n pc lv rest := by
  intro H locs ls h1 h2 h3 h4
  subst hp
  exact lv_iload_n C0.1 C0.2.1 hd hi (lv_at h4 j hl) (k1 H locs ls h1 h2 h3 h4)
theorem x_iload (j : Nat) {i : Nat} {x : Int32} (p1 : Nat) (C0 : xC p l s m args meth c g cc nL own ret tb) (hd : decode cc pc = .ok (.iload i, 2)) (hp : pc + 2 = p1) (hl : lv[j]? = some (i, .int x)) (k1 : xV p l e R s m args below meth c Q g nL w sz k n p1 lv (.int x :: rest)) : xV p l e R s m args below meth c Q g nL w sz k n pc lv rest := by
  intro H locs ls h1 h2 h3 h4
  subst hp
  exact lv_iload C0.1 C0.2.1 hd (lv_at h4 j hl) (k1 H locs ls h1 h2 h3 h4)
theorem x_aload_n (j : Nat) {q : Fin 4} {i : Nat} {x : Nat} (p1 : Nat) (C0 : xC p l s m args meth c g cc nL own ret tb) (hd : decode cc pc = .ok (.aload_n q, 1)) (hp : pc + 1 = p1) (hi : (q : Nat) = i) (hl : lv[j]? = some (i, .ref x)) (k1 : xV p l e R s m args below meth c Q g nL w sz k n p1 lv (.ref x :: rest)) : xV p l e R s m args below meth c Q g nL w sz k n pc lv rest := by
  intro H locs ls h1 h2 h3 h4
  subst hp
  exact lv_aload_n C0.1 C0.2.1 hd hi (lv_at h4 j hl) (k1 H locs ls h1 h2 h3 h4)
theorem x_aload (j : Nat) {i : Nat} {x : Nat} (p1 : Nat) (C0 : xC p l s m args meth c g cc nL own ret tb) (hd : decode cc pc = .ok (.aload i, 2)) (hp : pc + 2 = p1) (hl : lv[j]? = some (i, .ref x)) (k1 : xV p l e R s m args below meth c Q g nL w sz k n p1 lv (.ref x :: rest)) : xV p l e R s m args below meth c Q g nL w sz k n pc lv rest := by
  intro H locs ls h1 h2 h3 h4
  subst hp
  exact lv_aload C0.1 C0.2.1 hd (lv_at h4 j hl) (k1 H locs ls h1 h2 h3 h4)
theorem x_lload_n (j : Nat) {q : Fin 4} {i : Nat} {x : Int64} (p1 : Nat) (C0 : xC p l s m args meth c g cc nL own ret tb) (hd : decode cc pc = .ok (.lload_n q, 1)) (hp : pc + 1 = p1) (hi : (q : Nat) = i) (hl : lv[j]? = some (i, .long x)) (k1 : xV p l e R s m args below meth c Q g nL w sz k n p1 lv (.long x :: rest)) : xV p l e R s m args below meth c Q g nL w sz k n pc lv rest := by
  intro H locs ls h1 h2 h3 h4
  subst hp
  exact lv_lload_n C0.1 C0.2.1 hd hi (lv_at h4 j hl) (k1 H locs ls h1 h2 h3 h4)
theorem x_lload (j : Nat) {i : Nat} {x : Int64} (p1 : Nat) (C0 : xC p l s m args meth c g cc nL own ret tb) (hd : decode cc pc = .ok (.lload i, 2)) (hp : pc + 2 = p1) (hl : lv[j]? = some (i, .long x)) (k1 : xV p l e R s m args below meth c Q g nL w sz k n p1 lv (.long x :: rest)) : xV p l e R s m args below meth c Q g nL w sz k n pc lv rest := by
  intro H locs ls h1 h2 h3 h4
  subst hp
  exact lv_lload C0.1 C0.2.1 hd (lv_at h4 j hl) (k1 H locs ls h1 h2 h3 h4)
theorem x_aload_nN (j : Nat) {q : Fin 4} {i : Nat} (p1 : Nat) (C0 : xC p l s m args meth c g cc nL own ret tb) (hd : decode cc pc = .ok (.aload_n q, 1)) (hp : pc + 1 = p1) (hi : (q : Nat) = i) (hl : lv[j]? = some (i, .null)) (k1 : xV p l e R s m args below meth c Q g nL w sz k n p1 lv (.null :: rest)) : xV p l e R s m args below meth c Q g nL w sz k n pc lv rest := by
  intro H locs ls h1 h2 h3 h4
  subst hp
  exact lv_aload_nN C0.1 C0.2.1 hd hi (lv_at h4 j hl) (k1 H locs ls h1 h2 h3 h4)
theorem x_aloadN (j : Nat) {i : Nat} (p1 : Nat) (C0 : xC p l s m args meth c g cc nL own ret tb) (hd : decode cc pc = .ok (.aload i, 2)) (hp : pc + 2 = p1) (hl : lv[j]? = some (i, .null)) (k1 : xV p l e R s m args below meth c Q g nL w sz k n p1 lv (.null :: rest)) : xV p l e R s m args below meth c Q g nL w sz k n pc lv rest := by
  intro H locs ls h1 h2 h3 h4
  subst hp
  exact lv_aloadN C0.1 C0.2.1 hd (lv_at h4 j hl) (k1 H locs ls h1 h2 h3 h4)
theorem x_istore_n (lv1 : List (Nat × Value)) {q : Fin 4} {i : Nat} {x : Int32} (p1 : Nat) (C0 : xC p l s m args meth c g cc nL own ret tb) (hd : decode cc pc = .ok (.istore_n q, 1)) (hp : pc + 1 = p1) (hi : (q : Nat) = i) (hn : i < nL) (hl : (i, Value.int x) :: lv.filter (fun q => !(q.1 == i) && !(q.1 + 1 == i && q.2.category == 2)) = lv1) (k1 : xV p l e R s m args below meth c Q g nL w sz k n p1 lv1 rest) : xV p l e R s m args below meth c Q g nL w sz k n pc lv (.int x :: rest) := by
  intro H locs ls h1 h2 h3 h4
  subst hp
  exact lv_istore_n C0.1 C0.2.1 hd hi h4 hn hl (fun ls1 h5 => k1 H locs ls1 h1 h2 h3 h5)
theorem x_istore (lv1 : List (Nat × Value)) {i : Nat} {x : Int32} (p1 : Nat) (C0 : xC p l s m args meth c g cc nL own ret tb) (hd : decode cc pc = .ok (.istore i, 2)) (hp : pc + 2 = p1) (hn : i < nL) (hl : (i, Value.int x) :: lv.filter (fun q => !(q.1 == i) && !(q.1 + 1 == i && q.2.category == 2)) = lv1) (k1 : xV p l e R s m args below meth c Q g nL w sz k n p1 lv1 rest) : xV p l e R s m args below meth c Q g nL w sz k n pc lv (.int x :: rest) := by
  intro H locs ls h1 h2 h3 h4
  subst hp
  exact lv_istore C0.1 C0.2.1 hd h4 hn hl (fun ls1 h5 => k1 H locs ls1 h1 h2 h3 h5)
theorem x_astore_n (lv1 : List (Nat × Value)) {q : Fin 4} {i : Nat} {x : Nat} (p1 : Nat) (C0 : xC p l s m args meth c g cc nL own ret tb) (hd : decode cc pc = .ok (.astore_n q, 1)) (hp : pc + 1 = p1) (hi : (q : Nat) = i) (hn : i < nL) (hl : (i, Value.ref x) :: lv.filter (fun q => !(q.1 == i) && !(q.1 + 1 == i && q.2.category == 2)) = lv1) (k1 : xV p l e R s m args below meth c Q g nL w sz k n p1 lv1 rest) : xV p l e R s m args below meth c Q g nL w sz k n pc lv (.ref x :: rest) := by
  intro H locs ls h1 h2 h3 h4
  subst hp
  exact lv_astore_n C0.1 C0.2.1 hd hi h4 hn hl (fun ls1 h5 => k1 H locs ls1 h1 h2 h3 h5)
theorem x_astore (lv1 : List (Nat × Value)) {i : Nat} {x : Nat} (p1 : Nat) (C0 : xC p l s m args meth c g cc nL own ret tb) (hd : decode cc pc = .ok (.astore i, 2)) (hp : pc + 2 = p1) (hn : i < nL) (hl : (i, Value.ref x) :: lv.filter (fun q => !(q.1 == i) && !(q.1 + 1 == i && q.2.category == 2)) = lv1) (k1 : xV p l e R s m args below meth c Q g nL w sz k n p1 lv1 rest) : xV p l e R s m args below meth c Q g nL w sz k n pc lv (.ref x :: rest) := by
  intro H locs ls h1 h2 h3 h4
  subst hp
  exact lv_astore C0.1 C0.2.1 hd h4 hn hl (fun ls1 h5 => k1 H locs ls1 h1 h2 h3 h5)
theorem x_astore_nN (lv1 : List (Nat × Value)) {q : Fin 4} {i : Nat} (p1 : Nat) (C0 : xC p l s m args meth c g cc nL own ret tb) (hd : decode cc pc = .ok (.astore_n q, 1)) (hp : pc + 1 = p1) (hi : (q : Nat) = i) (hn : i < nL) (hl : (i, Value.null) :: lv.filter (fun q => !(q.1 == i) && !(q.1 + 1 == i && q.2.category == 2)) = lv1) (k1 : xV p l e R s m args below meth c Q g nL w sz k n p1 lv1 rest) : xV p l e R s m args below meth c Q g nL w sz k n pc lv (.null :: rest) := by
  intro H locs ls h1 h2 h3 h4
  subst hp
  exact lv_astore_nN C0.1 C0.2.1 hd hi h4 hn hl (fun ls1 h5 => k1 H locs ls1 h1 h2 h3 h5)
theorem x_iinc (lv1 : List (Nat × Value)) (j : Nat) {i : Nat} {d : Int} {x v : Int32} (p1 : Nat) (C0 : xC p l s m args meth c g cc nL own ret tb) (hd : decode cc pc = .ok (.iinc i d, 3)) (hp : pc + 3 = p1) (hj : lv[j]? = some (i, .int x)) (hv : x + Int32.ofInt d = v) (hn : i < nL) (hl : (i, Value.int v) :: lv.filter (fun q => !(q.1 == i) && !(q.1 + 1 == i && q.2.category == 2)) = lv1) (k1 : xV p l e R s m args below meth c Q g nL w sz k n p1 lv1 rest) : xV p l e R s m args below meth c Q g nL w sz k n pc lv rest := by
  intro H locs ls h1 h2 h3 h4
  subst hp
  exact lv_iinc C0.1 C0.2.1 hd h4 hj hv hn hl (fun ls1 h5 => k1 H locs ls1 h1 h2 h3 h5)
theorem x_lv (js : List Nat) {lv1 : List (Nat × Value)} {st : List Value} (hl : lv_pick lv js = lv1) (k1 : xV p l e R s m args below meth c Q g nL w sz k n pc lv1 st) : xV p l e R s m args below meth c Q g nL w sz k n pc lv st := fun H locs ls h1 h2 h3 h4 => k1 H locs ls h1 h2 h3 (lv_sub h4 js hl)
theorem x_widen (k2 n2 : Nat) {st : List Value} (hk : k ≤ k2) (hn : n ≤ n2) (k1 : xV p l e R s m args below meth c Q g nL w sz k2 n2 pc lv st) : xV p l e R s m args below meth c Q g nL w sz k n pc lv st := fun H locs ls h1 h2 h3 h4 => W.widen hk hn (k1 H locs ls h1 h2 h3 h4)
theorem x_cell {st : List Value} {a : Nat} {e1 : va_E} (hw : w a = some e1) (k1 : a < sz → xV p l e R s m args below meth c Q g nL w sz k n pc lv st) : xV p l e R s m args below meth c Q g nL w sz k n pc lv st := fun H locs ls h1 h2 h3 h4 => k1 (by rw [← h1]; exact (h2 a e1 hw).lt) H locs ls h1 h2 h3 h4
theorem x_if_eq {x : Int32} (tgt p1 : Nat) (C0 : xC p l s m args meth c g cc nL own ret tb) {off : Int} (hd : decode cc pc = .ok (.ifCond .eq off, 3)) (hp : pc + 3 = p1) (ht : (pc : Int) + off = (tgt : Int)) (kt : x = 0 → xV p l e R s m args below meth c Q g nL w sz k n tgt lv rest) (kf : ¬ x = 0 → xV p l e R s m args below meth c Q g nL w sz k n p1 lv rest) : xV p l e R s m args below meth c Q g nL w sz k n pc lv (.int x :: rest) := by
  intro H locs ls h1 h2 h3 h4
  subst hp
  exact lv_if_eq C0.1 C0.2.1 hd ht (fun q => kt q H locs ls h1 h2 h3 h4) (fun q => kf q H locs ls h1 h2 h3 h4)
theorem x_if_ne {x : Int32} (tgt p1 : Nat) (C0 : xC p l s m args meth c g cc nL own ret tb) {off : Int} (hd : decode cc pc = .ok (.ifCond .ne off, 3)) (hp : pc + 3 = p1) (ht : (pc : Int) + off = (tgt : Int)) (kt : ¬ x = 0 → xV p l e R s m args below meth c Q g nL w sz k n tgt lv rest) (kf : x = 0 → xV p l e R s m args below meth c Q g nL w sz k n p1 lv rest) : xV p l e R s m args below meth c Q g nL w sz k n pc lv (.int x :: rest) := by
  intro H locs ls h1 h2 h3 h4
  subst hp
  exact lv_if_ne C0.1 C0.2.1 hd ht (fun q => kt q H locs ls h1 h2 h3 h4) (fun q => kf q H locs ls h1 h2 h3 h4)
theorem x_if_lt {x : Int32} (tgt p1 : Nat) (C0 : xC p l s m args meth c g cc nL own ret tb) {off : Int} (hd : decode cc pc = .ok (.ifCond .lt off, 3)) (hp : pc + 3 = p1) (ht : (pc : Int) + off = (tgt : Int)) (kt : x < 0 → xV p l e R s m args below meth c Q g nL w sz k n tgt lv rest) (kf : ¬ x < 0 → xV p l e R s m args below meth c Q g nL w sz k n p1 lv rest) : xV p l e R s m args below meth c Q g nL w sz k n pc lv (.int x :: rest) := by
  intro H locs ls h1 h2 h3 h4
  subst hp
  exact lv_if_lt C0.1 C0.2.1 hd ht (fun q => kt q H locs ls h1 h2 h3 h4) (fun q => kf q H locs ls h1 h2 h3 h4)
theorem x_if_ge {x : Int32} (tgt p1 : Nat) (C0 : xC p l s m args meth c g cc nL own ret tb) {off : Int} (hd : decode cc pc = .ok (.ifCond .ge off, 3)) (hp : pc + 3 = p1) (ht : (pc : Int) + off = (tgt : Int)) (kt : 0 ≤ x → xV p l e R s m args below meth c Q g nL w sz k n tgt lv rest) (kf : ¬ 0 ≤ x → xV p l e R s m args below meth c Q g nL w sz k n p1 lv rest) : xV p l e R s m args below meth c Q g nL w sz k n pc lv (.int x :: rest) := by
  intro H locs ls h1 h2 h3 h4
  subst hp
  exact lv_if_ge C0.1 C0.2.1 hd ht (fun q => kt q H locs ls h1 h2 h3 h4) (fun q => kf q H locs ls h1 h2 h3 h4)
theorem x_if_gt {x : Int32} (tgt p1 : Nat) (C0 : xC p l s m args meth c g cc nL own ret tb) {off : Int} (hd : decode cc pc = .ok (.ifCond .gt off, 3)) (hp : pc + 3 = p1) (ht : (pc : Int) + off = (tgt : Int)) (kt : 0 < x → xV p l e R s m args below meth c Q g nL w sz k n tgt lv rest) (kf : ¬ 0 < x → xV p l e R s m args below meth c Q g nL w sz k n p1 lv rest) : xV p l e R s m args below meth c Q g nL w sz k n pc lv (.int x :: rest) := by
  intro H locs ls h1 h2 h3 h4
  subst hp
  exact lv_if_gt C0.1 C0.2.1 hd ht (fun q => kt q H locs ls h1 h2 h3 h4) (fun q => kf q H locs ls h1 h2 h3 h4)
theorem x_if_le {x : Int32} (tgt p1 : Nat) (C0 : xC p l s m args meth c g cc nL own ret tb) {off : Int} (hd : decode cc pc = .ok (.ifCond .le off, 3)) (hp : pc + 3 = p1) (ht : (pc : Int) + off = (tgt : Int)) (kt : x ≤ 0 → xV p l e R s m args below meth c Q g nL w sz k n tgt lv rest) (kf : ¬ x ≤ 0 → xV p l e R s m args below meth c Q g nL w sz k n p1 lv rest) : xV p l e R s m args below meth c Q g nL w sz k n pc lv (.int x :: rest) := by
  intro H locs ls h1 h2 h3 h4
  subst hp
  exact lv_if_le C0.1 C0.2.1 hd ht (fun q => kt q H locs ls h1 h2 h3 h4) (fun q => kf q H locs ls h1 h2 h3 h4)
theorem x_icmp_eq {x y : Int32} (tgt p1 : Nat) (C0 : xC p l s m args meth c g cc nL own ret tb) {off : Int} (hd : decode cc pc = .ok (.if_icmp .eq off, 3)) (hp : pc + 3 = p1) (ht : (pc : Int) + off = (tgt : Int)) (kt : x = y → xV p l e R s m args below meth c Q g nL w sz k n tgt lv rest) (kf : ¬ x = y → xV p l e R s m args below meth c Q g nL w sz k n p1 lv rest) : xV p l e R s m args below meth c Q g nL w sz k n pc lv (.int y :: .int x :: rest) := by
  intro H locs ls h1 h2 h3 h4
  subst hp
  exact lv_icmp_eq C0.1 C0.2.1 hd ht (fun q => kt q H locs ls h1 h2 h3 h4) (fun q => kf q H locs ls h1 h2 h3 h4)
theorem x_icmp_ne {x y : Int32} (tgt p1 : Nat) (C0 : xC p l s m args meth c g cc nL own ret tb) {off : Int} (hd : decode cc pc = .ok (.if_icmp .ne off, 3)) (hp : pc + 3 = p1) (ht : (pc : Int) + off = (tgt : Int)) (kt : ¬ x = y → xV p l e R s m args below meth c Q g nL w sz k n tgt lv rest) (kf : x = y → xV p l e R s m args below meth c Q g nL w sz k n p1 lv rest) : xV p l e R s m args below meth c Q g nL w sz k n pc lv (.int y :: .int x :: rest) := by
  intro H locs ls h1 h2 h3 h4
  subst hp
  exact lv_icmp_ne C0.1 C0.2.1 hd ht (fun q => kt q H locs ls h1 h2 h3 h4) (fun q => kf q H locs ls h1 h2 h3 h4)
theorem x_icmp_lt {x y : Int32} (tgt p1 : Nat) (C0 : xC p l s m args meth c g cc nL own ret tb) {off : Int} (hd : decode cc pc = .ok (.if_icmp .lt off, 3)) (hp : pc + 3 = p1) (ht : (pc : Int) + off = (tgt : Int)) (kt : x < y → xV p l e R s m args below meth c Q g nL w sz k n tgt lv rest) (kf : ¬ x < y → xV p l e R s m args below meth c Q g nL w sz k n p1 lv rest) : xV p l e R s m args below meth c Q g nL w sz k n pc lv (.int y :: .int x :: rest) := by
  intro H locs ls h1 h2 h3 h4
  subst hp
  exact lv_icmp_lt C0.1 C0.2.1 hd ht (fun q => kt q H locs ls h1 h2 h3 h4) (fun q => kf q H locs ls h1 h2 h3 h4)
theorem x_icmp_ge {x y : Int32} (tgt p1 : Nat) (C0 : xC p l s m args meth c g cc nL own ret tb) {off : Int} (hd : decode cc pc = .ok (.if_icmp .ge off, 3)) (hp : pc + 3 = p1) (ht : (pc : Int) + off = (tgt : Int)) (kt : y ≤ x → xV p l e R s m args below meth c Q g nL w sz k n tgt lv rest) (kf : ¬ y ≤ x → xV p l e R s m args below meth c Q g nL w sz k n p1 lv rest) : xV p l e R s m args below meth c Q g nL w sz k n pc lv (.int y :: .int x :: rest) := by
  intro H locs ls h1 h2 h3 h4
  subst hp
  exact lv_icmp_ge C0.1 C0.2.1 hd ht (fun q => kt q H locs ls h1 h2 h3 h4) (fun q => kf q H locs ls h1 h2 h3 h4)
theorem x_icmp_gt {x y : Int32} (tgt p1 : Nat) (C0 : xC p l s m args meth c g cc nL own ret tb) {off : Int} (hd : decode cc pc = .ok (.if_icmp .gt off, 3)) (hp : pc + 3 = p1) (ht : (pc : Int) + off = (tgt : Int)) (kt : y < x → xV p l e R s m args below meth c Q g nL w sz k n tgt lv rest) (kf : ¬ y < x → xV p l e R s m args below meth c Q g nL w sz k n p1 lv rest) : xV p l e R s m args below meth c Q g nL w sz k n pc lv (.int y :: .int x :: rest) := by
  intro H locs ls h1 h2 h3 h4
  subst hp
  exact lv_icmp_gt C0.1 C0.2.1 hd ht (fun q => kt q H locs ls h1 h2 h3 h4) (fun q => kf q H locs ls h1 h2 h3 h4)
theorem x_icmp_le {x y : Int32} (tgt p1 : Nat) (C0 : xC p l s m args meth c g cc nL own ret tb) {off : Int} (hd : decode cc pc = .ok (.if_icmp .le off, 3)) (hp : pc + 3 = p1) (ht : (pc : Int) + off = (tgt : Int)) (kt : x ≤ y → xV p l e R s m args below meth c Q g nL w sz k n tgt lv rest) (kf : ¬ x ≤ y → xV p l e R s m args below meth c Q g nL w sz k n p1 lv rest) : xV p l e R s m args below meth c Q g nL w sz k n pc lv (.int y :: .int x :: rest) := by
  intro H locs ls h1 h2 h3 h4
  subst hp
  exact lv_icmp_le C0.1 C0.2.1 hd ht (fun q => kt q H locs ls h1 h2 h3 h4) (fun q => kf q H locs ls h1 h2 h3 h4)
theorem x_goto (tgt : Nat) (C0 : xC p l s m args meth c g cc nL own ret tb) {off : Int} (hd : decode cc pc = .ok (.goto off, 3)) (ht : (pc : Int) + off = (tgt : Int)) (k1 : xV p l e R s m args below meth c Q g nL w sz k n tgt lv rest) : xV p l e R s m args below meth c Q g nL w sz k n pc lv rest := by
  intro H locs ls h1 h2 h3 h4
  exact lv_goto C0.1 C0.2.1 hd ht (k1 H locs ls h1 h2 h3 h4)
theorem x_ifnonnull (tgt : Nat) {x : Nat} (C0 : xC p l s m args meth c g cc nL own ret tb) {off : Int} (hd : decode cc pc = .ok (.ifnonnull off, 3)) (ht : (pc : Int) + off = (tgt : Int)) (k1 : xV p l e R s m args below meth c Q g nL w sz k n tgt lv rest) : xV p l e R s m args below meth c Q g nL w sz k n pc lv (.ref x :: rest) := by
  intro H locs ls h1 h2 h3 h4
  exact lv_ifnonnull C0.1 C0.2.1 hd ht (k1 H locs ls h1 h2 h3 h4)
theorem x_ifnull {x : Nat} {off : Int} (p1 : Nat) (C0 : xC p l s m args meth c g cc nL own ret tb) (hd : decode cc pc = .ok (.ifnull off, 3)) (hp : pc + 3 = p1) (k1 : xV p l e R s m args below meth c Q g nL w sz k n p1 lv rest) : xV p l e R s m args below meth c Q g nL w sz k n pc lv (.ref x :: rest) := by
  intro H locs ls h1 h2 h3 h4
  subst hp
  exact lv_ifnull C0.1 C0.2.1 hd (k1 H locs ls h1 h2 h3 h4)
theorem x_ifnullN (tgt : Nat) (C0 : xC p l s m args meth c g cc nL own ret tb) {off : Int} (hd : decode cc pc = .ok (.ifnull off, 3)) (ht : (pc : Int) + off = (tgt : Int)) (k1 : xV p l e R s m args below meth c Q g nL w sz k n tgt lv rest) : xV p l e R s m args below meth c Q g nL w sz k n pc lv (.null :: rest) := by
  intro H locs ls h1 h2 h3 h4
  exact lv_ifnullN C0.1 C0.2.1 hd ht (k1 H locs ls h1 h2 h3 h4)
theorem x_ifnonnullN {off : Int} (p1 : Nat) (C0 : xC p l s m args meth c g cc nL own ret tb) (hd : decode cc pc = .ok (.ifnonnull off, 3)) (hp : pc + 3 = p1) (k1 : xV p l e R s m args below meth c Q g nL w sz k n p1 lv rest) : xV p l e R s m args below meth c Q g nL w sz k n pc lv (.null :: rest) := by
  intro H locs ls h1 h2 h3 h4
  subst hp
  exact lv_ifnonnullN C0.1 C0.2.1 hd (k1 H locs ls h1 h2 h3 h4)
theorem x_acmp_ne {rx ry : Option Nat} (tgt p1 : Nat) (C0 : xC p l s m args meth c g cc nL own ret tb) {off : Int} (hd : decode cc pc = .ok (.if_acmp .ne off, 3)) (hp : pc + 3 = p1) (ht : (pc : Int) + off = (tgt : Int)) (kt : ¬ rx = ry → xV p l e R s m args below meth c Q g nL w sz k n tgt lv rest) (kf : rx = ry → xV p l e R s m args below meth c Q g nL w sz k n p1 lv rest) : xV p l e R s m args below meth c Q g nL w sz k n pc lv (va_rf ry :: va_rf rx :: rest) := by
  intro H locs ls h1 h2 h3 h4
  subst hp
  exact lv_acmp_ne C0.1 C0.2.1 hd ht (fun q => kt q H locs ls h1 h2 h3 h4) (fun q => kf q H locs ls h1 h2 h3 h4)
theorem x_tabIn (tgt : Nat) (C0 : xC p l s m args meth c g cc nL own ret tb) {dflt lo hi : Int} {offs : Array Int} {len : Nat} {x : Int32} {off : Int} (hd : decode cc pc = .ok (.tableswitch dflt lo hi offs, len)) (q1 : ¬ x.toInt < lo) (q2 : ¬ hi < x.toInt) (ho : offs[(x.toInt - lo).toNat]? = some off) (ht : (pc : Int) + off = (tgt : Int)) (k1 : xV p l e R s m args below meth c Q g nL w sz k n tgt lv rest) : xV p l e R s m args below meth c Q g nL w sz k n pc lv (.int x :: rest) := by
  intro H locs ls h1 h2 h3 h4
  exact lv_tableIn C0.1 C0.2.1 hd q1 q2 ho ht (k1 H locs ls h1 h2 h3 h4)
theorem x_tabOut (tgt : Nat) (C0 : xC p l s m args meth c g cc nL own ret tb) {dflt lo hi : Int} {offs : Array Int} {len : Nat} {x : Int32} (hd : decode cc pc = .ok (.tableswitch dflt lo hi offs, len)) (q1 : x.toInt < lo ∨ hi < x.toInt) (ht : (pc : Int) + dflt = (tgt : Int)) (k1 : xV p l e R s m args below meth c Q g nL w sz k n tgt lv rest) : xV p l e R s m args below meth c Q g nL w sz k n pc lv (.int x :: rest) := by
  intro H locs ls h1 h2 h3 h4
  exact lv_tableOut C0.1 C0.2.1 hd q1 ht (k1 H locs ls h1 h2 h3 h4)
theorem x_top {x : Int32} (k1 : ∀ y : Int32, y = x → xV p l e R s m args below meth c Q g nL w sz k n pc lv (.int y :: rest)) : xV p l e R s m args below meth c Q g nL w sz k n pc lv (.int x :: rest) := k1 x rfl
theorem x_st {st st1 : List Value} (h : st = st1) (k1 : xV p l e R s m args below meth c Q g nL w sz k n pc lv st1) : xV p l e R s m args below meth c Q g nL w sz k n pc lv st := h ▸ k1
theorem x_w {st : List Value} {w1 : xw_T} (h : w = w1) (k1 : xV p l e R s m args below meth c Q g nL w1 sz k n pc lv st) : xV p l e R s m args below meth c Q g nL w sz k n pc lv st := h ▸ k1
theorem x_getf (kf : Nat) (p1 : Nat) (C0 : xC p l s m args meth c g cc nL own ret tb) {C : String} {T : u_T} {N ci index a : Nat} {fs : List Value} {v : Value} (hd : decode cc pc = .ok (.getfield index, 3)) (hp : pc + 3 = p1) (hw : w a = some (.inr (ci, fs))) (hc : vwCl[ci]? = some (C, T, N)) (hk : kf < N) (hin : ∀ w ∈ u_ws C T N, w ∈ xT) (hlink : (Cond.fieldLink own index (T kf).1 (T kf).2.1 (T kf).2.2.1) ∈ xT) (hv : fs[kf]? = some v) (k1 : xV p l e R s m args below meth c Q g nL w sz k n p1 lv (v :: rest)) : xV p l e R s m args below meth c Q g nL w sz k n pc lv (.ref a :: rest) := by
  intro H locs ls h1 h2 h3 h4
  subst hp
  exact va_get (D := g.1) (v := v) C0.1 C0.2.1 C0.2.2.2.2.1 hin C0.2.2.2.1 C0.2.2.2.2.2.2.2.1.1 (h2.one hw) 0 rfl hc kf hk (C0.2.2.2.2.1 _ hlink) (fun _ h9 => h9) hv hd (k1 H locs ls h1 h2 h3 h4)
theorem x_putf (kf : Nat) (p1 : Nat) (C0 : xC p l s m args meth c g cc nL own ret tb) {C : String} {T : u_T} {N ci index a : Nat} {fs : List Value} {v : Value} {ty0 : Nat → FieldType} {ty : FieldType} (hd : decode cc pc = .ok (.putfield index, 3)) (hp : pc + 3 = p1) (hw : w a = some (.inr (ci, fs))) (hA : xA g a) (hc : vwCl[ci]? = some (C, T, N)) (hk : kf < N) (hin : ∀ w ∈ u_ws C T N, w ∈ xT) (hty : ∀ k, k < N → parseFieldDescriptor (T k).2.2.1 = some (ty0 k)) (hnm : ∀ a, a < N → ∀ b, b < N → a ≠ b → (T a).2.1 ≠ (T b).2.1) (hlink : (Cond.fieldLink own index (T kf).1 (T kf).2.1 (T kf).2.2.1) ∈ xT) (hfin : (T kf).2.2.2 = false) (he : ty0 kf = ty) (hn : narrow ty v = v) (hfit : fits ty v = true) (hl : kf < fs.length) (k1 : xV p l e R s m args below meth c Q g nL (xup w a (.inr (ci, fs.set kf v))) sz k n p1 lv rest) : xV p l e R s m args below meth c Q g nL w sz k n pc lv (v :: .ref a :: rest) := by
  intro H locs ls h1 h2 h3 h4
  subst hp
  have hK := C0.2.2.2.2.2.2.2.1.1
  have hts := C0.2.2.2.2.1
  have hown := C0.2.2.2.1
  have hap := va_apart (own := own) hts hin ty0 hty hnm hK hc
  obtain ⟨r, g1, cell, q1, q2, q3, q4⟩ := h2 a _ hw
  have hr : r = (C, T, N) := Option.some.inj (g1.symm.trans hc)
  subst hr
  obtain ⟨hS, hfc, kC, hkC, hkind⟩ := hK.1 ci _ hc
  obtain ⟨cf, kx, fi, f, hi, hsl⟩ := hS kf hk
  have hlay := hts _ (hin _ (u_in_lay hk))
  unfold u_lay at hlay
  rw [if_neg (by rw [hfin]; decide)] at hlay
  have hst := (u_facts hfc hkC (u_lays hts hin hk) hi).1
  have h6 := u_store hfc hkC hkind hlay hi ((hty kf hk).trans (congrArg some he)) hn hfit
  refine W.putK C0.1 C0.2.1 (f := f) ⟨hown, hts _ hlink, ⟨_, _, _, hi⟩, hst⟩ (by rw [q2]; exact h6) q1 q3 (by rw [hsl]; exact k2_hasslot (q4 kf hk)) rfl rfl hd fun H' e1 e2 e3 => ?_
  rw [hsl] at e1 ⊢
  exact k1 H' _ ls (e2.trans h1) (h2.put ⟨_, hc, t_OB.to (V := updV (vp_V fs) kf v) ⟨_, e1, q2, q3, t_set q4 hap hk v⟩ (fun j _ => vp_updV_set hl v j)⟩ e3) (h3.put e2 e3 hA) h4
theorem x_putF (kf : Nat) (p1 : Nat) (C0 : xC p l s m args meth c g cc nL own ret tb) {C : String} {T : u_T} {N ci index a : Nat} {fs : List Value} {v : Value} {ty0 : Nat → FieldType} {ty : FieldType} (hd : decode cc pc = .ok (.putfield index, 3)) (hp : pc + 3 = p1) (hw : w a = some (.inr (ci, fs))) (hA : xA g a) (hc : vwCl[ci]? = some (C, T, N)) (hk : kf < N) (hin : ∀ w ∈ u_ws C T N, w ∈ xT) (hty : ∀ k, k < N → parseFieldDescriptor (T k).2.2.1 = some (ty0 k)) (hnm : ∀ a, a < N → ∀ b, b < N → a ≠ b → (T a).2.1 ≠ (T b).2.1) (hlink : (Cond.fieldLink own index own (T kf).2.1 (T kf).2.2.1) ∈ xT) (hsame : own = (T kf).1) (hfin : (T kf).2.2.2 = true) (hini : meth.name = "<init>") (he : ty0 kf = ty) (hn : narrow ty v = v) (hfit : fits ty v = true) (hl : kf < fs.length) (k1 : xV p l e R s m args below meth c Q g nL (xup w a (.inr (ci, fs.set kf v))) sz k n p1 lv rest) : xV p l e R s m args below meth c Q g nL w sz k n pc lv (v :: .ref a :: rest) := by
  intro H locs ls h1 h2 h3 h4
  subst hp
  have hK := C0.2.2.2.2.2.2.2.1.1
  have hts := C0.2.2.2.2.1
  have hown := C0.2.2.2.1
  have hap := va_apart (own := own) hts hin ty0 hty hnm hK hc
  obtain ⟨r, g1, cell, q1, q2, q3, q4⟩ := h2 a _ hw
  have hr : r = (C, T, N) := Option.some.inj (g1.symm.trans hc)
  subst hr
  obtain ⟨hS, hfc, kC, hkC, hkind⟩ := hK.1 ci _ hc
  obtain ⟨cf, kx, fi, f, hi, hsl⟩ := hS kf hk
  have hlay := hts _ (hin _ (u_in_lay hk))
  unfold u_lay at hlay
  rw [if_pos hfin] at hlay
  have hst := (u_facts hfc hkC (u_lays hts hin hk) hi).1
  have hcf : m.cls = cf := by
    obtain ⟨_, _, c', _, _, _, -, -, hf', -, -, -, hown2, -⟩ := Cond.laysFinal_spec hlay
    have e1 : c' = cf := by have := hi.symm.trans hf'; simp at this; exact this.1.symm
    rw [← hsame] at hown2
    rw [← e1]; exact Option.some.inj (hown.symm.trans hown2)
  have h6 := u_fits hfc hkC hkind (Or.inr hlay) hi ((hty kf hk).trans (congrArg some he)) hn hfit
  have hi2 : s.fieldFound? own (T kf).2.1 (T kf).2.2.1 = some (cf, kx, fi, f) := by rw [hsame]; exact hi
  refine W.putFinK C0.1 C0.2.1 hown (hts _ hlink) hi2 hst hcf hini (by rw [q2]; exact h6) q1 q3 (by rw [hsl]; exact k2_hasslot (q4 kf hk)) rfl rfl hd fun H' e1 e2 e3 => ?_
  rw [hsl] at e1 ⊢
  exact k1 H' _ ls (e2.trans h1) (h2.put ⟨_, hc, t_OB.to (V := updV (vp_V fs) kf v) ⟨_, e1, q2, q3, t_set q4 hap hk v⟩ (fun j _ => vp_updV_set hl v j)⟩ e3) (h3.put e2 e3 hA) h4
end XV
