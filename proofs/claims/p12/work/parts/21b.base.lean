/-! THE BASE AT THE START -/
abbrev Giv (b : Nat) (s : State) : Prop := (Jvm.Cond.and given_1 narrow_1).before #[.ref b] s = true
section BS
variable {b : Nat} {s : State}
def ev (b : Nat) (s : State) (t : Term) : Nat := match t.eval #[.ref b] s none [] s with | some (.ref a) => a | _ => 0
def bkG (b : Nat) (s : State) (ids : List Nat) : Nat → Nat := fun i => if i < 8 then ids.getD i 0 else ev b s (bkT i)
theorem ev_of {t : Term} {a : Nat} (h : t.eval #[.ref b] s none [] s = some (.ref a)) : ev b s t = a := by
  unfold ev
  rw [h]
theorem bkG_ge {ids : List Nat} {i : Nat} (h : ¬ i < 8) : bkG b s ids i = ev b s (bkT i) := if_neg h
theorem OF_det {o n d : String} {v v' : Value} {a : Nat} {A : Nat → Prop} {U : State} {H : Heap} (h : va_OF o n d v a A U H) (h' : va_OF o n d v' a A U H) : v = v' := by
  obtain ⟨cf, k, i, f, cell, h1, -, h2, -, h3, -⟩ := h
  obtain ⟨cf', k', i', f', cell', g1, -, g2, -, g3, -⟩ := h'
  cases h1.symm.trans g1
  cases h2.symm.trans g2
  exact Option.some.inj (h3.symm.trans g3)
theorem ex_at {t : Term} {C : String} {A : Nat → Prop} (hA : ∀ a : Nat, a < s.heap.size → ¬ A a) (h : (Cond.exactly t C).before #[.ref b] s = true) : t.eval #[.ref b] s none [] s = some (.ref (ev b s t)) ∧ va_O C (ev b s t) A s s.heap := by
  obtain ⟨a, c, cA, kA, q1, q2, q3, q4, q5, q6, -⟩ := Cond.exactly_spec (args := #[.ref b]) (first := s) (o := none) (s := s) (idx := []) (t := t) (cls := C) h
  rw [ev_of q1]
  exact ⟨q1, cA, q3, q5, by rw [q6]; exact q2, hA a (Array.getElem?_eq_some_iff.mp q3).1⟩
theorem ar_at {tm : Term} {ty : FieldType} {N : Nat} {f : Nat → Value} {A : Nat → Prop} (hN : N < 2 ^ 31) (harr : (Cond.arrayOf tm ty).before #[.ref b] s = true) (hlen : (Term.length tm).eval #[.ref b] s none [] s = some (.int (Int32.ofNat N))) (hel : ∀ j : Nat, j < N → (Term.elem tm (.int (Int32.ofNat j))).eval #[.ref b] s none [] s = some (f j)) (hA : ∀ a : Nat, a < s.heap.size → ¬ A a) : tm.eval #[.ref b] s none [] s = some (.ref (ev b s tm)) ∧ va_T ty (ev b s tm) N f A s s.heap := by
  obtain ⟨t, h1, h2⟩ := va_Tof (f := f) (A := A) hN harr hlen hel hA
  rw [ev_of h1]
  exact ⟨h1, h2⟩
/-- the texts' words, by their places -/
theorem sw_N : ∀ i : Nat, i < 13 → xlen.getD i 0 < 2 ^ 31 := by decide +kernel
theorem sw_ex : ∀ i : Nat, i < 13 → Cond.exactly (bkT (100 + i)) "java/lang/String" ∈ nSt := by decide +kernel
theorem sw_co : ∀ i : Nat, i < 13 → Cond.eq (.field (bkT (100 + i)) "java/lang/String" "coder" "B") (.int 0) ∈ nSt := by decide +kernel
theorem sw_ar : ∀ i : Nat, i < 13 → Cond.arrayOf (bkT (120 + i)) .byte ∈ nSt := by decide +kernel
theorem sw_le : ∀ i : Nat, i < 13 → Cond.eq (.length (bkT (120 + i))) (.int (Int32.ofNat (xlen.getD i 0))) ∈ nSt := by decide +kernel
theorem sw_el : ∀ i : Nat, i < 13 → ∀ j : Nat, j < xlen.getD i 0 → Cond.eq (.elem (bkT (120 + i)) (.int (Int32.ofNat j))) (.int ((xbyt.getD i []).getD j 0)) ∈ nSe := by decide +kernel
theorem sw_va : ∀ i : Nat, i < 13 → bkT (120 + i) = .field (bkT (100 + i)) "java/lang/String" "value" "[B" := by decide +kernel
theorem sw_ne : ∀ i : Nat, i < 13 → ∀ j : Nat, j < 13 → Int32.ofNat (xlen.getD i 0) = Int32.ofNat (xlen.getD j 0) → (∀ k : Nat, k < xlen.getD i 0 → (xbyt.getD i []).getD k 0 = (xbyt.getD j []).getD k 0) → i = j := by decide +kernel
theorem sw_len : ∀ i : Nat, i < 13 → ∀ j : Nat, j < 13 → Int32.ofNat (xlen.getD i 0) = Int32.ofNat (xlen.getD j 0) → xlen.getD i 0 = xlen.getD j 0 := by decide +kernel
theorem b_str (h : Giv b s) {A : Nat → Prop} (hA : ∀ a : Nat, a < s.heap.size → ¬ A a) (ids : List Nat) : vk_S 13 xlen xbyt (fun i => bkG b s ids (100 + i)) (fun i => bkG b s ids (120 + i)) A s s.heap := by
  have h1 : ∀ i : Nat, i < 13 → va_O "java/lang/String" (bkG b s ids (100 + i)) A s s.heap ∧ va_OF "java/lang/String" "coder" "B" (.int 0) (bkG b s ids (100 + i)) A s s.heap ∧ va_OF "java/lang/String" "value" "[B" (.ref (bkG b s ids (120 + i))) (bkG b s ids (100 + i)) A s s.heap ∧ va_T .byte (bkG b s ids (120 + i)) (xlen.getD i 0) (fun j => .int ((xbyt.getD i []).getD j 0)) A s s.heap := by
    intro i hi
    rw [bkG_ge (i := 100 + i) (by omega), bkG_ge (i := 120 + i) (by omega)]
    obtain ⟨e1, e2⟩ := ex_at hA (nSt_ok h _ (sw_ex i hi))
    obtain ⟨e3, e4⟩ := ar_at (f := fun j => .int ((xbyt.getD i []).getD j 0)) (sw_N i hi) (nSt_ok h _ (sw_ar i hi)) (va_eqt (nSt_ok h _ (sw_le i hi))) (fun j hj => va_eqt (nSe_ok h _ (sw_el i hi j hj))) hA
    exact ⟨e2, vk_OFof e1 (va_eqt (nSt_ok h _ (sw_co i hi))) hA, vk_OFof e1 (by rw [← sw_va i hi]; exact e3) hA, e4⟩
  refine ⟨h1, fun i j hi hj e => ?_⟩
  obtain ⟨-, -, a1, a2⟩ := h1 i hi
  obtain ⟨-, -, b1, b2⟩ := h1 j hj
  rw [show bkG b s ids (100 + i) = bkG b s ids (100 + j) from e] at a1
  have hv := OF_det a1 b1
  injection hv with hv
  rw [hv] at a2
  obtain ⟨c1, x1, -, -, -, x2, x3, -⟩ := a2
  obtain ⟨c2, y1, -, -, -, y2, y3, -⟩ := b2
  cases x1.symm.trans y1
  have hl := x2.symm.trans y2
  have hl2 := sw_len i hi j hj hl
  refine sw_ne i hi j hj hl (fun k hk => ?_)
  have := Option.some.inj ((x3 k hk).symm.trans (y3 k (by omega)))
  injection this
theorem b_ev (h : Giv b s) (ids : List Nat) (i : Nat) (hi : i < 13) : (bkT (100 + i)).eval #[.ref b] s none [] s = some (.ref (bkG b s ids (100 + i))) := by
  rw [bkG_ge (i := 100 + i) (by omega)]
  exact (ex_at (A := fun _ => False) (fun _ _ h => h) (nSt_ok h _ (sw_ex i hi))).1
theorem mw_ex : ∀ i : Nat, i < 14 → Cond.exactly (bkT (140 + i)) "java/lang/String" ∈ nMs := by decide +kernel
theorem b_ms (h : Giv b s) (ids : List Nat) (i : Nat) (hi : i < 14) : (bkT (140 + i)).eval #[.ref b] s none [] s = some (.ref (bkG b s ids (140 + i))) := by
  rw [bkG_ge (i := 140 + i) (by omega)]
  exact (ex_at (A := fun _ => False) (fun _ _ h => h) (nMs_ok h _ (mw_ex i hi))).1
/-- the enums' constants -/
theorem kw_ex : ∀ i : Nat, i < 3 → Cond.exactly (bkT (20 + i)) RX5 ∈ nEn := by decide +kernel
theorem vw_ex : ∀ i : Nat, i < 8 → Cond.exactly (bkT (30 + i)) RX6 ∈ nEn := by decide +kernel
theorem kw_st : ∀ i : Nat, i < 3 → bkT (20 + i) = Term.static RX5 (["DUST", "BROKEN", "TIPS"].getD i "") "LTeaChests$Kind;" := by decide +kernel
theorem vw_st : ∀ i : Nat, i < 8 → bkT (30 + i) = Term.static RX6 (["LINE", "FILL", "SCREW", "LABEL", "QUAY", "LOAD", "SAIL", "HOURS"].getD i "") "LTeaChests$Verb;" := by decide +kernel
theorem kw_wd : ∀ i : Nat, i < 3 → Cond.eq (.field (Term.static RX5 (["DUST", "BROKEN", "TIPS"].getD i "") "LTeaChests$Kind;") RX5 "word" "Ljava/lang/String;") (bkT (100 + (2 + i))) ∈ nEn := by decide +kernel
theorem vw_wd : ∀ i : Nat, i < 8 → Cond.eq (.field (Term.static RX6 (["LINE", "FILL", "SCREW", "LABEL", "QUAY", "LOAD", "SAIL", "HOURS"].getD i "") "LTeaChests$Verb;") RX6 "word" "Ljava/lang/String;") (bkT (100 + (5 + i))) ∈ nEn := by decide +kernel
theorem vw_or : ∀ i : Nat, i < 8 → Cond.eq (.field (Term.static RX6 (["LINE", "FILL", "SCREW", "LABEL", "QUAY", "LOAD", "SAIL", "HOURS"].getD i "") "LTeaChests$Verb;") "java/lang/Enum" "ordinal" "I") (.int (nI i)) ∈ nEn := by decide +kernel
theorem vw_ne : ∀ i : Nat, i < 8 → ∀ j : Nat, j < 8 → i ≠ j → Cond.not (Cond.eq (bkT (30 + i)) (bkT (30 + j))) ∈ nEn ∨ Cond.not (Cond.eq (bkT (30 + j)) (bkT (30 + i))) ∈ nEn := by decide +kernel
theorem b_k (h : Giv b s) (ids : List Nat) (i : Nat) (hi : i < 3) : (bkT (20 + i)).eval #[.ref b] s none [] s = some (.ref (bkG b s ids (20 + i))) := by
  rw [bkG_ge (i := 20 + i) (by omega)]
  exact (ex_at (A := fun _ => False) (fun _ _ h => h) (nEn_ok h _ (kw_ex i hi))).1
theorem b_v (h : Giv b s) {A : Nat → Prop} (hA : ∀ a : Nat, a < s.heap.size → ¬ A a) (ids : List Nat) (i : Nat) (hi : i < 8) : (bkT (30 + i)).eval #[.ref b] s none [] s = some (.ref (bkG b s ids (30 + i))) ∧ va_O RX6 (bkG b s ids (30 + i)) A s s.heap := by
  rw [bkG_ge (i := 30 + i) (by omega)]
  exact ex_at hA (nEn_ok h _ (vw_ex i hi))
theorem b_kw (h : Giv b s) {A : Nat → Prop} (hA : ∀ a : Nat, a < s.heap.size → ¬ A a) (ids : List Nat) : va_Ef 3 RX5 "word" "Ljava/lang/String;" (fun i => .ref (bkG b s ids (102 + i))) (fun i => bkG b s ids (20 + i)) A s s.heap :=
  va_Efof (nm := ["DUST", "BROKEN", "TIPS"]) (d0 := "LTeaChests$Kind;") (tm := fun i => bkT (100 + (2 + i))) (fun i hi => by rw [← kw_st i hi]; exact b_k h ids i hi) (fun i hi => nEn_ok h _ (kw_wd i hi)) (fun i hi => by rw [show 102 + i = 100 + (2 + i) by omega]; exact b_ev h ids (2 + i) (by omega)) hA
theorem b_vw (h : Giv b s) {A : Nat → Prop} (hA : ∀ a : Nat, a < s.heap.size → ¬ A a) (ids : List Nat) : va_Ef 8 RX6 "word" "Ljava/lang/String;" (fun i => .ref (bkG b s ids (105 + i))) (fun i => bkG b s ids (30 + i)) A s s.heap :=
  va_Efof (nm := ["LINE", "FILL", "SCREW", "LABEL", "QUAY", "LOAD", "SAIL", "HOURS"]) (d0 := "LTeaChests$Verb;") (tm := fun i => bkT (100 + (5 + i))) (fun i hi => by rw [← vw_st i hi]; exact (b_v h hA ids i hi).1) (fun i hi => nEn_ok h _ (vw_wd i hi)) (fun i hi => by rw [show 105 + i = 100 + (5 + i) by omega]; exact b_ev h ids (5 + i) (by omega)) hA
theorem b_vo (h : Giv b s) {A : Nat → Prop} (hA : ∀ a : Nat, a < s.heap.size → ¬ A a) (ids : List Nat) : va_Ef 8 "java/lang/Enum" "ordinal" "I" (fun i => .int (nI i)) (fun i => bkG b s ids (30 + i)) A s s.heap :=
  va_Efof (nm := ["LINE", "FILL", "SCREW", "LABEL", "QUAY", "LOAD", "SAIL", "HOURS"]) (d0 := "LTeaChests$Verb;") (tm := fun i => .int (nI i)) (fun i hi => by rw [← vw_st i hi]; exact (b_v h hA ids i hi).1) (fun i hi => nEn_ok h _ (vw_or i hi)) (fun i hi => rfl) hA
theorem b_vc (h : Giv b s) {A : Nat → Prop} (hA : ∀ a : Nat, a < s.heap.size → ¬ A a) (ids : List Nat) : (∀ i : Nat, i < 8 → va_O RX6 (bkG b s ids (30 + i)) A s s.heap) ∧ ∀ i j : Nat, i < 8 → j < 8 → bkG b s ids (30 + i) = bkG b s ids (30 + j) → i = j := by
  refine ⟨fun i hi => (b_v h hA ids i hi).2, fun i j hi hj e => ?_⟩
  by_cases hij : i = j
  · exact hij
  · rcases vw_ne i hi j hj hij with q | q
    · exact absurd e (va_neR (nEn_ok h _ q) (b_v h hA ids i hi).1 (b_v h hA ids j hj).1)
    · exact absurd e.symm (va_neR (nEn_ok h _ q) (b_v h hA ids j hj).1 (b_v h hA ids i hi).1)
/-- the static rows -/
theorem aw_k : ∀ j : Nat, j < 3 → Cond.eq (.elem (bkT 10) (.int (Int32.ofNat j))) (bkT (20 + j)) ∈ nAr := by decide +kernel
theorem aw_v : ∀ j : Nat, j < 8 → Cond.eq (.elem (bkT 11) (.int (Int32.ofNat j))) (bkT (30 + j)) ∈ nAr := by decide +kernel
theorem aw_m : ∀ j : Nat, j < 8 → Cond.eq (.elem (bkT 12) (.int (Int32.ofNat j))) (.int (nI (j + 1))) ∈ nAr := by decide +kernel
theorem aw_t : ∀ j : Nat, j < 100 → Cond.eq (.elem (bkT 13) (.int (Int32.ofNat j))) (.int (nI (48 + j / 10))) ∈ nDt := fun j hj => List.mem_map.mpr ⟨j, List.mem_range.mpr hj, rfl⟩
theorem aw_o : ∀ j : Nat, j < 100 → Cond.eq (.elem (bkT 14) (.int (Int32.ofNat j))) (.int (nI (48 + j % 10))) ∈ nDo := fun j hj => List.mem_map.mpr ⟨j, List.mem_range.mpr hj, rfl⟩
theorem aw_a : Cond.arrayOf (bkT 10) (.object RX5) ∈ nAr ∧ Cond.arrayOf (bkT 11) (.object RX6) ∈ nAr ∧ Cond.arrayOf (bkT 12) .int ∈ nAr ∧ Cond.arrayOf (bkT 13) .byte ∈ nAr ∧ Cond.arrayOf (bkT 14) .byte ∈ nAr := by decide +kernel
theorem aw_l : Cond.eq (.length (bkT 10)) (.int (Int32.ofNat 3)) ∈ nAr ∧ Cond.eq (.length (bkT 11)) (.int (Int32.ofNat 8)) ∈ nAr ∧ Cond.eq (.length (bkT 12)) (.int (Int32.ofNat 8)) ∈ nAr ∧ Cond.eq (.length (bkT 13)) (.int (Int32.ofNat 100)) ∈ nAr ∧ Cond.eq (.length (bkT 14)) (.int (Int32.ofNat 100)) ∈ nAr := by decide +kernel
theorem b_ar {A : Nat → Prop} (hA : ∀ a : Nat, a < s.heap.size → ¬ A a) (ids : List Nat) (i : Nat) (h8 : ¬ i < 8) {tm : Term} (ht : bkT i = tm) {ty : FieldType} {N : Nat} {f : Nat → Value} (hN : N < 2 ^ 31) (harr : (Cond.arrayOf (bkT i) ty).before #[.ref b] s = true) (hlen : (Cond.eq (.length (bkT i)) (.int (Int32.ofNat N))).before #[.ref b] s = true) (hel : ∀ j : Nat, j < N → (Term.elem (bkT i) (.int (Int32.ofNat j))).eval #[.ref b] s none [] s = some (f j)) : tm.eval #[.ref b] s none [] s = some (.ref (bkG b s ids i)) ∧ va_T ty (bkG b s ids i) N f A s s.heap := by
  subst ht
  rw [bkG_ge h8]
  exact ar_at hN harr (va_eqt hlen) hel hA
theorem up_sel {q z : MethodName} {C : String} {args : Array Value} (hz : (Cond.selects C z z).before args s = true) (hcls : q.cls = z.cls) (hpriv : (Cond.privateMethod q).before args s = true) (hinst : (Cond.instanceMethod q).before args s = true) (hy : q.cls ≠ "java/lang/invoke/MethodHandle" ∧ q.cls ≠ "java/lang/invoke/VarHandle") : (Cond.selects C q q).before args s = true := by
  obtain ⟨c2, r2, m2, q1, q2, q3, q4, kP, hkP, hkPi⟩ := Cond.selects_spec hz
  obtain ⟨mk, methM, hnamed, hmethM, -, -⟩ := Cond.instanceMethod_spec hinst
  have hfound := State.methodFound?_of_named hnamed hy
  have hc : mk.cls = m2.cls := Option.some.inj ((findClass_of_methodNamed hnamed).symm.trans (by rw [hcls]; exact findClass_of_methodNamed q3))
  have hsel : selectMethod {} s.vm c2 mk = .method mk := selectMethod_private hmethM (Cond.privateMethod_at hpriv mk methM hnamed hmethM)
  simp only [Cond.before, Cond.holds, Cond.value, q1, hfound, hnamed, hsel, hc, hkP]
  simp
  exact hkPi
theorem aC_of {args : Array Value} {ty : FieldType} (h : (Cond.arrayClass ty).before args s = true) : ∃ cA : ClassId, s.vm.findClass ("[" ++ ty.toString) = some cA ∧ ArrOfT s cA ty := by
  obtain ⟨c, k, comp, h1, h2, h3⟩ := Cond.arrayClass_spec (first := s) (o := none) (idx := []) h
  exact ⟨c, h1, fun n z => ⟨fun k h => (by cases h), k, h2, comp, h3⟩⟩
theorem aO_of {args : Array Value} {C : String} (h : (Cond.arrayOver (.object C)).before args s = true) : ∃ cA : ClassId, ArrOfT s cA (.object C) ∧ va_RA s cA (.object C) := by
  obtain ⟨comp, c, k, h1, -, h2, h3, h4⟩ := Cond.arrayOver_spec (first := s) (o := none) (idx := []) h
  exact ⟨c, fun n z => ⟨fun k h => (by cases h), k, h2, comp, h3⟩, k, comp, h2, h3, h1, h4⟩
end BS
