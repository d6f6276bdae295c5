/-! THE LAW'S WRAPPERS, EXACTLY -/
def wOf (g : xg_T) (w : xw_T) (f : Nat → Int64) : Prop := w (g.2 0 + 267) = some (oE g f)
/-- after a wrapper: the class's state, and the answer or the code -/
def wU (g : xg_T) (w : xw_T) (sz n : Nat) (tt : Nat → Int32) (vb : Option Nat) (sg : Nat → Int32) (P : xw_T → Nat → Option Value → (Nat → Nat → Int32) → (Nat → Nat → Nat) → (Nat → Int32) → Prop) (X : String → (Nat → Nat → Int32) → (Nat → Nat → Nat) → (Nat → Int32) → Prop) (L : List (String × Int32)) (cv : Int32 → Int64) : Option Value → xw_T → Nat → Prop := fun r w2 sz2 => ∃ (k : Int32) (x' : Nat → Nat → Int32) (la' : Nat → Nat → Nat) (t' : Nat → Int32), r = some (.int k) ∧ sz ≤ sz2 ∧ wFr g w w2 sz 267 ∧ CR g w2 sz2 n x' la' t' tt vb sg ∧ ((k = 0 ∧ ∃ (v : Int32) (f : Nat → Int64), P w2 sz2 (some (.int v)) x' la' t' ∧ wOf g w2 f ∧ f 0 = cv v) ∨ (wO g w2 ∧ ∃ E, X E x' la' t' ∧ k = kc L E))
/-- the state is as before -/
def stP (x : Nat → Nat → Int32) (la : Nat → Nat → Nat) (t : Nat → Int32) (R : Option Value → Prop) (r : Option Value) (x' : Nat → Nat → Int32) (la' : Nat → Nat → Nat) (t' : Nat → Int32) : Prop := R r ∧ x' = x ∧ la' = la ∧ t' = t
def stX (x : Nat → Nat → Int32) (la : Nat → Nat → Nat) (t : Nat → Int32) (L : List String) (E : String) (x' : Nat → Nat → Int32) (la' : Nat → Nat → Nat) (t' : Nat → Int32) : Prop := E ∈ L ∧ x' = x ∧ la' = la ∧ t' = t
def wUd (g : xg_T) (w : xw_T) (sz n : Nat) (x : Nat → Nat → Int32) (la : Nat → Nat → Nat) (t tt : Nat → Int32) (vb : Option Nat) (sg : Nat → Int32) : Option Value → xw_T → Nat → Prop := fun r w2 sz2 => rI r ∧ sz ≤ sz2 ∧ wFr g w w2 sz 268 ∧ wD g w2 ∧ CR g w2 sz2 n x la t tt vb sg
theorem CR.cell {g : xg_T} {w : xw_T} {sz n : Nat} {x : Nat → Nat → Int32} {la : Nat → Nat → Nat} {t tt : Nat → Int32} {vb : Option Nat} {sg : Nat → Int32} (h : CR g w sz n x la t tt vb sg) {a : Nat} {e : va_E} (ha : g.2 0 + 258 ≤ a ∧ a < g.2 0 + 269) : CR g (xup w a e) sz n x la t tt vb sg := h.go (fun q q1 q2 => xup_n (by omega)) (fun q q1 q2 => xup_n (by omega)) (Nat.le_refl _)
def cvI (v : Int32) : Int64 := v.toInt64
def cvB (v : Int32) : Int64 := if v = 0 then 0 else 1


theorem ex_bring {g : xg_T} {x : Nat → Nat → Int32} {la : Nat → Nat → Nat} {t : Nat → Int32} {ga : Int32} {ki : Int32} {po : Int32} {E : String} {x' : Nat → Nat → Int32} {la' : Nat → Nat → Nat} {t' : Nat → Int32} (h : E_X7_bring g x la t ga ki po E x' la' t') : E = "java/lang/IndexOutOfBoundsException" ∨ E = "java/lang/IllegalArgumentException" ∨ E = "java/lang/UnsupportedOperationException" := by
  rcases h with ⟨hE, _, _, _, _⟩ | ⟨_, hE, _, _, _, _⟩ | ⟨_, _, _, _, _, _, _, _, _, _, _, _, hE, _, _, _, _⟩
  · exact Or.inl hE
  · exact Or.inr (Or.inl hE)
  · exact Or.inr (Or.inr (hE))

theorem ex_leaves {g : xg_T} {x : Nat → Nat → Int32} {la : Nat → Nat → Nat} {t : Nat → Int32} {ga : Int32} {ki : Int32} {E : String} {x' : Nat → Nat → Int32} {la' : Nat → Nat → Nat} {t' : Nat → Int32} (h : E_X7_leaves g x la t ga ki E x' la' t') : E = "java/lang/IndexOutOfBoundsException" := by
  obtain ⟨hE, _, _, _, _⟩ := h
  exact hE

theorem ex_buy {g : xg_T} {x : Nat → Nat → Int32} {la : Nat → Nat → Nat} {t : Nat → Int32} {sc : Int32} {mn : Int32} {E : String} {x' : Nat → Nat → Int32} {la' : Nat → Nat → Nat} {t' : Nat → Int32} (h : E_X7_buy g x la t sc mn E x' la' t') : E = "java/lang/IllegalArgumentException" := by
  obtain ⟨hE, _, _, _, _⟩ := h
  exact hE

theorem ex_make {g : xg_T} {x : Nat → Nat → Int32} {la : Nat → Nat → Nat} {t : Nat → Int32} {si : Int32} {E : String} {x' : Nat → Nat → Int32} {la' : Nat → Nat → Nat} {t' : Nat → Int32} (h : E_X7_make g x la t si E x' la' t') : E = "java/lang/IllegalArgumentException" ∨ E = "java/lang/UnsupportedOperationException" := by
  rcases h with ⟨hE, _, _, _, _⟩ | ⟨_, _, _, _, _, _, _, _, _, _, _, _, _, _, hE, _, _, _, _⟩
  · exact Or.inl hE
  · exact Or.inr (hE)

theorem ex_line {g : xg_T} {x : Nat → Nat → Int32} {la : Nat → Nat → Nat} {t : Nat → Int32} {cn : Int32} {E : String} {x' : Nat → Nat → Int32} {la' : Nat → Nat → Nat} {t' : Nat → Int32} (h : E_X7_line g x la t cn E x' la' t') : E = "java/lang/IndexOutOfBoundsException" ∨ E = "java/lang/UnsupportedOperationException" := by
  rcases h with ⟨hE, _, _, _, _⟩ | ⟨_, _, _, _, _, _, _, _, _, _, _, _, _, _, hE, _, _, _, _⟩
  · exact Or.inl hE
  · exact Or.inr (hE)

theorem ex_fill {g : xg_T} {x : Nat → Nat → Int32} {la : Nat → Nat → Nat} {t : Nat → Int32} {cn : Int32} {ga : Int32} {ki : Int32} {po : Int32} {E : String} {x' : Nat → Nat → Int32} {la' : Nat → Nat → Nat} {t' : Nat → Int32} (h : E_X7_fill g x la t cn ga ki po E x' la' t') : E = "java/lang/IndexOutOfBoundsException" ∨ E = "java/lang/IllegalArgumentException" ∨ E = "java/lang/UnsupportedOperationException" := by
  rcases h with ⟨hE, _, _, _, _⟩ | ⟨_, _, _, _, hE, _, _, _, _⟩ | ⟨_, _, _, _, _, hE, _, _, _, _⟩ | ⟨_, _, _, _, _, _, _, _, _, _, _, _, _, _, _, _, _, hE, _, _, _, _⟩
  · exact Or.inl hE
  · exact Or.inl hE
  · exact Or.inr (Or.inl hE)
  · exact Or.inr (Or.inr (hE))

theorem ex_empty {g : xg_T} {x : Nat → Nat → Int32} {la : Nat → Nat → Nat} {t : Nat → Int32} {cn : Int32} {E : String} {x' : Nat → Nat → Int32} {la' : Nat → Nat → Nat} {t' : Nat → Int32} (h : E_X7_empty g x la t cn E x' la' t') : E = "java/lang/IndexOutOfBoundsException" ∨ E = "java/lang/UnsupportedOperationException" := by
  rcases h with ⟨hE, _, _, _, _⟩ | ⟨_, _, _, _, _, _, _, _, _, _, _, _, _, _, _, hE, _, _, _, _⟩
  · exact Or.inl hE
  · exact Or.inr (hE)

theorem ex_screw {g : xg_T} {x : Nat → Nat → Int32} {la : Nat → Nat → Nat} {t : Nat → Int32} {cn : Int32} {mn : Int32} {E : String} {x' : Nat → Nat → Int32} {la' : Nat → Nat → Nat} {t' : Nat → Int32} (h : E_X7_screw g x la t cn mn E x' la' t') : E = "java/lang/IndexOutOfBoundsException" ∨ E = "java/lang/IllegalArgumentException" ∨ E = "java/lang/UnsupportedOperationException" := by
  rcases h with ⟨hE, _, _, _, _⟩ | ⟨_, _, _, _, hE, _, _, _, _⟩ | ⟨_, _, _, _, _, _, _, _, _, _, _, _, _, _, _, hE, _, _, _, _⟩
  · exact Or.inl hE
  · exact Or.inr (Or.inl hE)
  · exact Or.inr (Or.inr (hE))

theorem ex_unscrew {g : xg_T} {x : Nat → Nat → Int32} {la : Nat → Nat → Nat} {t : Nat → Int32} {cn : Int32} {E : String} {x' : Nat → Nat → Int32} {la' : Nat → Nat → Nat} {t' : Nat → Int32} (h : E_X7_unscrew g x la t cn E x' la' t') : E = "java/lang/IndexOutOfBoundsException" ∨ E = "java/lang/UnsupportedOperationException" := by
  rcases h with ⟨hE, _, _, _, _⟩ | ⟨_, _, _, _, _, _, _, _, _, _, _, _, _, _, hE, _, _, _, _⟩
  · exact Or.inl hE
  · exact Or.inr (hE)

theorem ex_label {g : xg_T} {x : Nat → Nat → Int32} {la : Nat → Nat → Nat} {t : Nat → Int32} {cn : Int32} {E : String} {x' : Nat → Nat → Int32} {la' : Nat → Nat → Nat} {t' : Nat → Int32} (h : E_X7_label g x la t cn E x' la' t') : E = "java/lang/IndexOutOfBoundsException" ∨ E = "java/lang/UnsupportedOperationException" := by
  rcases h with ⟨hE, _, _, _, _⟩ | ⟨_, _, _, _, _, _, _, _, _, _, _, _, _, hE, _, _, _, _⟩
  · exact Or.inl hE
  · exact Or.inr (hE)

theorem ex_toQuay {g : xg_T} {x : Nat → Nat → Int32} {la : Nat → Nat → Nat} {t : Nat → Int32} {cn : Int32} {ln : Nat → Nat} {lf : Nat → Nat → Int32}  {E : String} {x' : Nat → Nat → Int32} {la' : Nat → Nat → Nat} {t' : Nat → Int32} (h : E_X7_toQuay g x la t cn ln lf E x' la' t') : E = "java/lang/IndexOutOfBoundsException" ∨ E = "java/lang/UnsupportedOperationException" := by
  rcases h with ⟨hE, _, _, _, _⟩ | ⟨_, _, _, _, _, _, _, _, _, _, _, _, _, _, hE, _, _, _, _⟩
  · exact Or.inl hE
  · exact Or.inr (hE)

theorem ex_load {g : xg_T} {x : Nat → Nat → Int32} {la : Nat → Nat → Nat} {t : Nat → Int32} {cn : Int32} {E : String} {x' : Nat → Nat → Int32} {la' : Nat → Nat → Nat} {t' : Nat → Int32} (h : E_X7_load g x la t cn E x' la' t') : E = "java/lang/IndexOutOfBoundsException" ∨ E = "java/lang/UnsupportedOperationException" := by
  rcases h with ⟨hE, _, _, _, _⟩ | ⟨_, _, _, _, _, _, _, _, _, _, _, _, _, _, hE, _, _, _, _⟩
  · exact Or.inl hE
  · exact Or.inr (hE)

theorem ex_sail {g : xg_T} {x : Nat → Nat → Int32} {la : Nat → Nat → Nat} {t : Nat → Int32} {E : String} {x' : Nat → Nat → Int32} {la' : Nat → Nat → Nat} {t' : Nat → Int32} (h : E_X7_sail g x la t E x' la' t') : E = "java/lang/UnsupportedOperationException" := by
  obtain ⟨_, _, _, _, _, _, _, _, _, _, _, _, hE, _, _, _, _⟩ := h
  exact hE

theorem ex_height {g : xg_T} {x : Nat → Nat → Int32} {la : Nat → Nat → Nat} {t : Nat → Int32} {hs : Int32} {E : String} {x' : Nat → Nat → Int32} {la' : Nat → Nat → Nat} {t' : Nat → Int32} (h : E_X7_height g x la t hs E x' la' t') : E = "java/lang/IllegalArgumentException" := by
  obtain ⟨hE, _, _, _, _⟩ := h
  exact hE

theorem ex_setHumidity {g : xg_T} {x : Nat → Nat → Int32} {la : Nat → Nat → Nat} {t : Nat → Int32} {hu : Int32} {E : String} {x' : Nat → Nat → Int32} {la' : Nat → Nat → Nat} {t' : Nat → Int32} (h : E_X7_setHumidity g x la t hu E x' la' t') : E = "java/lang/IllegalArgumentException" := by
  obtain ⟨hE, _, _, _, _⟩ := h
  exact hE

theorem ex_pass {g : xg_T} {x : Nat → Nat → Int32} {la : Nat → Nat → Nat} {t : Nat → Int32} {hs : Int32} {E : String} {x' : Nat → Nat → Int32} {la' : Nat → Nat → Nat} {t' : Nat → Int32} (h : E_X7_pass g x la t hs E x' la' t') : E = "java/lang/IllegalArgumentException" := by
  obtain ⟨hE, _, _, _, _⟩ := h
  exact hE

theorem ex_undo {g : xg_T} {x : Nat → Nat → Int32} {la : Nat → Nat → Nat} {t : Nat → Int32} {E : String} {x' : Nat → Nat → Int32} {la' : Nat → Nat → Nat} {t' : Nat → Int32} (h : E_X7_undo g x la t E x' la' t') : E = "java/lang/IllegalStateException" := by
  obtain ⟨_, _, _, _, _, _, hE, _, _, _⟩ := h
  exact hE

theorem ex_restore {g : xg_T} {x : Nat → Nat → Int32} {la : Nat → Nat → Nat} {t : Nat → Int32} {E : String} {x' : Nat → Nat → Int32} {la' : Nat → Nat → Nat} {t' : Nat → Int32} (h : E_X7_restore g x la t E x' la' t') : E = "java/lang/IllegalStateException" := by
  obtain ⟨_, hE, _, _, _⟩ := h
  exact hE

theorem lab_go {g : xg_T} {w1 w2 : xw_T} {sz1 : Nat} {x x' : Nat → Nat → Int32} {la la' : Nat → Nat → Nat} {t t' : Nat → Int32} {cn : Int32} {r : Option Value} (h : L_X7_label g w1 sz1 x la t cn r x' la' t') (hq : ∀ q, g.2 0 + 269 ≤ q → q < sz1 → w2 q = w1 q) : L_X7_label g w2 sz1 x la t cn r x' la' t' := by
  obtain ⟨k, x1, la1, b2, xb, lb, t4, h1, h2, h3, h4, hlb, h5, h6, h7, h8, h9, h10⟩ := h
  refine ⟨k, x1, la1, b2, xb, lb, t4, h1, h2, h3, h4, ?_, h5, h6, h7, h8, h9, h10⟩
  rcases hlb with ⟨q1, q2, q3, a, q4, q5⟩ | q
  · exact Or.inl ⟨q1, q2, q3, a, q4, q5.go hq (Nat.le_refl _)⟩
  · exact Or.inr q
def pfL (g : xg_T) (w1 : xw_T) (sz1 n : Nat) (x : Nat → Nat → Int32) (la : Nat → Nat → Nat) (t sg v0 : Nat → Int32) (c0 : Nat) (r : Option Value) (x' : Nat → Nat → Int32) (la' : Nat → Nat → Nat) (t' : Nat → Int32) : Prop := (∃ e : Nat, e ≤ 60 ∧ ctE n sg e ∧ r = some (.int (-100 - nI e)) ∧ x' = x ∧ la' = la ∧ t' = t) ∨ ∃ N : Nat, ctN n sg N ∧ r = some (.int (nI (N + 1))) ∧ (∀ j, j < N + 1 → OKI n sg v0 j) ∧ (∃ ln lf, ALI g w1 sz1 n sg v0 (N + 1) x' la' ln lf) ∧ t' = tC t ∧ ∀ i, i ≠ 0 → x' i = va_up x (c0 % 9 + 2) (cpX (x (c0 % 9 + 2)) (x 0)) i ∧ la' i = va_up la (c0 % 9 + 2) (la 0) i
def pfE (n : Nat) (x : Nat → Nat → Int32) (la : Nat → Nat → Nat) (sg v0 : Nat → Int32) (c0 : Nat) (x' : Nat → Nat → Int32) (la' : Nat → Nat → Nat) : Prop := ∃ N q : Nat, ctN n sg N ∧ q < N + 1 ∧ (∀ j, j < q → OKI n sg v0 j) ∧ NOI n sg v0 q ∧ (∀ z, z < 208 → x' 0 z = x 0 z) ∧ la' 0 = la 0 ∧ ∀ i, i ≠ 0 → x' i = va_up x (c0 % 9 + 2) (cpX (x (c0 % 9 + 2)) (x 0)) i ∧ la' i = va_up la (c0 % 9 + 2) (la 0) i
theorem pf_go {g : xg_T} {w1 w2 : xw_T} {sz1 n : Nat} {x x' : Nat → Nat → Int32} {la la' : Nat → Nat → Nat} {t t' sg v0 : Nat → Int32} {c0 : Nat} {r : Option Value} (h : pfL g w1 sz1 n x la t sg v0 c0 r x' la' t') (hq : ∀ q, g.2 0 + 269 ≤ q → q < sz1 → w2 q = w1 q) : pfL g w2 sz1 n x la t sg v0 c0 r x' la' t' := by
  rcases h with h | ⟨N, h1, h2, h3, ⟨ln, lf, h4, h5⟩, h6, h7⟩
  · exact Or.inl h
  · exact Or.inr ⟨N, h1, h2, h3, ⟨ln, lf, fun k hk => (h4 k hk).go hq (Nat.le_refl _), h5⟩, h6, h7⟩
def wUp (g : xg_T) (w : xw_T) (sz n : Nat) (x : Nat → Nat → Int32) (la : Nat → Nat → Nat) (t sg v0 : Nat → Int32) (c0 : Nat) : Option Value → xw_T → Nat → Prop := fun r w2 sz2 => ∃ (k : Int32) (x' : Nat → Nat → Int32) (la' : Nat → Nat → Nat) (t' tt' : Nat → Int32) (vb' : Option Nat), r = some (.int k) ∧ sz ≤ sz2 ∧ wFr g w w2 sz 267 ∧ CR g w2 sz2 0 x' la' t' tt' vb' sg ∧ ((k = 0 ∧ ∃ (v : Int32) (f : Nat → Int64), pfL g w2 sz2 n x la t sg v0 c0 (some (.int v)) x' la' t' ∧ wOf g w2 f ∧ f 0 = cvI v) ∨ (wO g w2 ∧ k = 1 ∧ t' = t ∧ pfE n x la sg v0 c0 x' la'))
def wFd (g : xg_T) (w : xw_T) (sz n : Nat) (x : Nat → Nat → Int32) (la : Nat → Nat → Nat) (t tt : Nat → Int32) (vb : Option Nat) (sg : Nat → Int32) (c : Int32) : Option Value → xw_T → Nat → Prop := fun r w1 sz1 => wFr g w w1 sz 267 ∧ sz ≤ sz1 ∧ ((n < 60 ∧ r = some (.int 0) ∧ CR g w1 sz1 (n + 1) x la t (upd tt 0 (tt 0 + 1)) vb (upd sg n (vp_nar .char c)) ∧ ∃ f, w1 (g.2 0 + 267) = some (oE g f) ∧ f 0 = (nI (n + 1)).toInt64) ∨ (n = 60 ∧ r = some (.int 1) ∧ CR g w1 sz1 n x la t tt vb sg ∧ wO g w1))

set_option maxHeartbeats 4000000 in
set_option maxRecDepth 100000 in
theorem e_L_bring (l : Launch) (hl : l.stackTraces = false) (g : xg_T) (w : xw_T) (sz n : Nat) (x : Nat → Nat → Int32) (la : Nat → Nat → Nat) (t tt : Nat → Int32) (vb : Option Nat) (sg : Nat → Int32) (hC : CR g w sz n x la t tt vb sg) (hO : wO g w) (a1 : Int32) (a2 : Int32) (a3 : Int32) : xMH l g yL_bring cL_bring 6 (some .int) [((0), (12), (15), (13)), ((0), (12), (19), (15)), ((0), (12), (23), (17))] ({ frames := 8, cells := 8, slots := 64, locals := 127 }) 8 64 [.ref (g.2 0), .int a1, .int a2, .int a3, .ref (g.2 0 + 267)] w sz (wU g w sz n tt vb sg (fun _ _ => L_X7_bring g x la t a1 a2 a3) (E_X7_bring g x la t a1 a2 a3) [("java/lang/IndexOutOfBoundsException", 1), ("java/lang/IllegalArgumentException", 2), ("java/lang/UnsupportedOperationException", 3)] cvI) (fun _ _ _ => False) := by
  obtain ⟨f, hO⟩ := hO
  have hz := hC.2.2.2.2
  refine xMH.of RL hl (by decide +kernel) rfl (Nat.le_of_ble_eq_true rfl) rfl ?_
  intro p e s m args below meth cD C0
  refine x_aload 4 2 C0 dL_bring_0 rfl rfl ?_
  refine x_iconst (v := 0) 3 C0 dL_bring_2 rfl (by decide) ?_
  refine x_aload_n 0 4 C0 dL_bring_3 rfl rfl rfl ?_
  refine x_iload_n 1 5 C0 dL_bring_4 rfl rfl rfl ?_
  refine x_iload_n 2 6 C0 dL_bring_5 rfl rfl rfl ?_
  refine x_iload_n 3 7 C0 dL_bring_6 rfl rfl rfl ?_
  refine x_callV 10 C0 (e_X7_bring l hl g w sz n x la t tt vb sg hC a1 a2 a3) dL_bring_7 rfl mC_X7_bring mM_L_7 mI_X7_bring mV_X7_bring mN_X7 yd_X7_bring rfl rfl ⟨(Nat.le_of_ble_eq_true rfl), (Nat.le_of_ble_eq_true rfl)⟩ hC.1.1 rfl rfl rfl rfl (Nat.le_of_ble_eq_true rfl) ⟨(Nat.le_of_ble_eq_true rfl), (Nat.le_of_ble_eq_true rfl)⟩ (fun E9 w9 sz9 q => ?_) (fun r w1 sz1 _ hP => ?_)
  · obtain ⟨hF9, hz9, x9, la9, t9, hC9, hX9⟩ := q
    rcases ex_bring hX9 with rfl | rfl | rfl
    · refine x_catch "java/lang/IndexOutOfBoundsException" 15 [] ⟨0, 12, 15, 13⟩ [⟨0, 12, 19, 15⟩, ⟨0, 12, 23, 17⟩] C0 rfl (fun _ h => absurd h List.not_mem_nil) (by decide) (by decide) mK_L_13 (by decide +kernel) rfl (fun q9 => ?_)
      refine x_astore [(5, .ref q9), (0, .ref (g.2 0)), (1, .int a1), (2, .int a2), (3, .int a3), (4, .ref (g.2 0 + 267))] 17 C0 dL_bring_15 rfl (by decide) rfl ?_
      refine x_iconst (v := 1) 18 C0 dL_bring_17 rfl (by decide) ?_
      exact x_ireturn C0 dL_bring_18 rfl rfl (Nat.le_of_ble_eq_true rfl) (Nat.le_of_ble_eq_true rfl) ⟨_, _, _, _, rfl, hz9, hF9.wf, hC9, Or.inr ⟨⟨f, hF9.o hz hO⟩, _, hX9, by decide +kernel⟩⟩
    · refine x_catch "java/lang/IllegalArgumentException" 19 [⟨0, 12, 15, 13⟩] ⟨0, 12, 19, 15⟩ [⟨0, 12, 23, 17⟩] C0 rfl (List.forall_mem_cons.mpr ⟨⟨by decide, _, mK_L_13, by decide +kernel⟩, (fun _ h => absurd h List.not_mem_nil)⟩) (by decide) (by decide) mK_L_15 (by decide +kernel) rfl (fun q9 => ?_)
      refine x_astore [(5, .ref q9), (0, .ref (g.2 0)), (1, .int a1), (2, .int a2), (3, .int a3), (4, .ref (g.2 0 + 267))] 21 C0 dL_bring_19 rfl (by decide) rfl ?_
      refine x_iconst (v := 2) 22 C0 dL_bring_21 rfl (by decide) ?_
      exact x_ireturn C0 dL_bring_22 rfl rfl (Nat.le_of_ble_eq_true rfl) (Nat.le_of_ble_eq_true rfl) ⟨_, _, _, _, rfl, hz9, hF9.wf, hC9, Or.inr ⟨⟨f, hF9.o hz hO⟩, _, hX9, by decide +kernel⟩⟩
    · refine x_catch "java/lang/UnsupportedOperationException" 23 [⟨0, 12, 15, 13⟩, ⟨0, 12, 19, 15⟩] ⟨0, 12, 23, 17⟩ [] C0 rfl (List.forall_mem_cons.mpr ⟨⟨by decide, _, mK_L_13, by decide +kernel⟩, (List.forall_mem_cons.mpr ⟨⟨by decide, _, mK_L_15, by decide +kernel⟩, (fun _ h => absurd h List.not_mem_nil)⟩)⟩) (by decide) (by decide) mK_L_17 (by decide +kernel) rfl (fun q9 => ?_)
      refine x_astore [(5, .ref q9), (0, .ref (g.2 0)), (1, .int a1), (2, .int a2), (3, .int a3), (4, .ref (g.2 0 + 267))] 25 C0 dL_bring_23 rfl (by decide) rfl ?_
      refine x_iconst (v := 3) 26 C0 dL_bring_25 rfl (by decide) ?_
      exact x_ireturn C0 dL_bring_26 rfl rfl (Nat.le_of_ble_eq_true rfl) (Nat.le_of_ble_eq_true rfl) ⟨_, _, _, _, rfl, hz9, hF9.wf, hC9, Or.inr ⟨⟨f, hF9.o hz hO⟩, _, hX9, by decide +kernel⟩⟩
  · obtain ⟨⟨v, rfl⟩, hF1, hz1, x1, la1, t1, hC1, hL1⟩ := hP
    refine x_st (st1 := [.int (v), .int 0, .ref (g.2 0 + 267)]) rfl ?_
    refine x_i2l (v := Int32.toInt64 (v)) 11 C0 dL_bring_10 rfl rfl ?_
    refine x_last 3 12 C0 dL_bring_11 rfl (hF1.o hz hO) (by show g.2 0 ≤ _; omega) rfl (by unfold vp_in; decide) ?_
    refine x_goto 27 C0 dL_bring_12 (by decide) ?_
    refine x_iconst (v := 0) 28 C0 dL_bring_27 rfl (by decide) ?_
    exact x_ireturn C0 dL_bring_28 rfl rfl (Nat.le_of_ble_eq_true rfl) (Nat.le_of_ble_eq_true rfl) ⟨_, _, _, _, rfl, hz1, hF1.wup, hC1.cell ⟨by omega, by omega⟩, Or.inl ⟨rfl, v, _, hL1, xup_s _ _ _, rfl⟩⟩

set_option maxHeartbeats 4000000 in
set_option maxRecDepth 100000 in
theorem e_L_leaves (l : Launch) (hl : l.stackTraces = false) (g : xg_T) (w : xw_T) (sz n : Nat) (x : Nat → Nat → Int32) (la : Nat → Nat → Nat) (t tt : Nat → Int32) (vb : Option Nat) (sg : Nat → Int32) (hC : CR g w sz n x la t tt vb sg) (hO : wO g w) (a1 : Int32) (a2 : Int32) : xMH l g yL_leaves cL_leaves 5 (some .int) [((0), (10), (13), (13))] ({ frames := 8, cells := 8, slots := 64, locals := 125 }) 8 64 [.ref (g.2 0), .int a1, .int a2, .ref (g.2 0 + 267)] w sz (wU g w sz n tt vb sg (fun _ _ => L_X7_leaves g x la t a1 a2) (E_X7_leaves g x la t a1 a2) [("java/lang/IndexOutOfBoundsException", 1)] cvI) (fun _ _ _ => False) := by
  obtain ⟨f, hO⟩ := hO
  have hz := hC.2.2.2.2
  refine xMH.of RL hl (by decide +kernel) rfl (Nat.le_of_ble_eq_true rfl) rfl ?_
  intro p e s m args below meth cD C0
  refine x_aload_n 3 1 C0 dL_leaves_0 rfl rfl rfl ?_
  refine x_iconst (v := 0) 2 C0 dL_leaves_1 rfl (by decide) ?_
  refine x_aload_n 0 3 C0 dL_leaves_2 rfl rfl rfl ?_
  refine x_iload_n 1 4 C0 dL_leaves_3 rfl rfl rfl ?_
  refine x_iload_n 2 5 C0 dL_leaves_4 rfl rfl rfl ?_
  refine x_callV 8 C0 (e_X7_leaves l hl g w sz n x la t tt vb sg hC a1 a2) dL_leaves_5 rfl mC_X7_leaves mM_L_19 mI_X7_leaves mV_X7_leaves mN_X7 yd_X7_leaves rfl rfl ⟨(Nat.le_of_ble_eq_true rfl), (Nat.le_of_ble_eq_true rfl)⟩ hC.1.1 rfl rfl rfl rfl (Nat.le_of_ble_eq_true rfl) ⟨(Nat.le_of_ble_eq_true rfl), (Nat.le_of_ble_eq_true rfl)⟩ (fun E9 w9 sz9 q => ?_) (fun r w1 sz1 _ hP => ?_)
  · obtain ⟨hF9, hz9, x9, la9, t9, hC9, hX9⟩ := q
    rcases ex_leaves hX9 with rfl
    refine x_catch "java/lang/IndexOutOfBoundsException" 13 [] ⟨0, 10, 13, 13⟩ [] C0 rfl (fun _ h => absurd h List.not_mem_nil) (by decide) (by decide) mK_L_13 (by decide +kernel) rfl (fun q9 => ?_)
    refine x_astore [(4, .ref q9), (0, .ref (g.2 0)), (1, .int a1), (2, .int a2), (3, .ref (g.2 0 + 267))] 15 C0 dL_leaves_13 rfl (by decide) rfl ?_
    refine x_iconst (v := 1) 16 C0 dL_leaves_15 rfl (by decide) ?_
    exact x_ireturn C0 dL_leaves_16 rfl rfl (Nat.le_of_ble_eq_true rfl) (Nat.le_of_ble_eq_true rfl) ⟨_, _, _, _, rfl, hz9, hF9.wf, hC9, Or.inr ⟨⟨f, hF9.o hz hO⟩, _, hX9, by decide +kernel⟩⟩
  · obtain ⟨⟨v, rfl⟩, hF1, hz1, x1, la1, t1, hC1, hL1⟩ := hP
    refine x_st (st1 := [.int (v), .int 0, .ref (g.2 0 + 267)]) rfl ?_
    refine x_i2l (v := Int32.toInt64 (v)) 9 C0 dL_leaves_8 rfl rfl ?_
    refine x_last 3 10 C0 dL_leaves_9 rfl (hF1.o hz hO) (by show g.2 0 ≤ _; omega) rfl (by unfold vp_in; decide) ?_
    refine x_goto 17 C0 dL_leaves_10 (by decide) ?_
    refine x_iconst (v := 0) 18 C0 dL_leaves_17 rfl (by decide) ?_
    exact x_ireturn C0 dL_leaves_18 rfl rfl (Nat.le_of_ble_eq_true rfl) (Nat.le_of_ble_eq_true rfl) ⟨_, _, _, _, rfl, hz1, hF1.wup, hC1.cell ⟨by omega, by omega⟩, Or.inl ⟨rfl, v, _, hL1, xup_s _ _ _, rfl⟩⟩

set_option maxHeartbeats 4000000 in
set_option maxRecDepth 100000 in
theorem e_L_buy (l : Launch) (hl : l.stackTraces = false) (g : xg_T) (w : xw_T) (sz n : Nat) (x : Nat → Nat → Int32) (la : Nat → Nat → Nat) (t tt : Nat → Int32) (vb : Option Nat) (sg : Nat → Int32) (hC : CR g w sz n x la t tt vb sg) (hO : wO g w) (a1 : Int32) (a2 : Int32) : xMH l g yL_buy cL_buy 5 (some .int) [((0), (10), (13), (15))] ({ frames := 8, cells := 8, slots := 64, locals := 126 }) 8 64 [.ref (g.2 0), .int a1, .int a2, .ref (g.2 0 + 267)] w sz (wU g w sz n tt vb sg (fun _ _ => L_X7_buy g x la t a1 a2) (E_X7_buy g x la t a1 a2) [("java/lang/IllegalArgumentException", 1)] cvI) (fun _ _ _ => False) := by
  obtain ⟨f, hO⟩ := hO
  have hz := hC.2.2.2.2
  refine xMH.of RL hl (by decide +kernel) rfl (Nat.le_of_ble_eq_true rfl) rfl ?_
  intro p e s m args below meth cD C0
  refine x_aload_n 3 1 C0 dL_buy_0 rfl rfl rfl ?_
  refine x_iconst (v := 0) 2 C0 dL_buy_1 rfl (by decide) ?_
  refine x_aload_n 0 3 C0 dL_buy_2 rfl rfl rfl ?_
  refine x_iload_n 1 4 C0 dL_buy_3 rfl rfl rfl ?_
  refine x_iload_n 2 5 C0 dL_buy_4 rfl rfl rfl ?_
  refine x_callV 8 C0 (e_X7_buy l hl g w sz n x la t tt vb sg hC a1 a2) dL_buy_5 rfl mC_X7_buy mM_L_23 mI_X7_buy mV_X7_buy mN_X7 yd_X7_buy rfl rfl ⟨(Nat.le_of_ble_eq_true rfl), (Nat.le_of_ble_eq_true rfl)⟩ hC.1.1 rfl rfl rfl rfl (Nat.le_of_ble_eq_true rfl) ⟨(Nat.le_of_ble_eq_true rfl), (Nat.le_of_ble_eq_true rfl)⟩ (fun E9 w9 sz9 q => ?_) (fun r w1 sz1 _ hP => ?_)
  · obtain ⟨hF9, hz9, x9, la9, t9, hC9, hX9⟩ := q
    rcases ex_buy hX9 with rfl
    refine x_catch "java/lang/IllegalArgumentException" 13 [] ⟨0, 10, 13, 15⟩ [] C0 rfl (fun _ h => absurd h List.not_mem_nil) (by decide) (by decide) mK_L_15 (by decide +kernel) rfl (fun q9 => ?_)
    refine x_astore [(4, .ref q9), (0, .ref (g.2 0)), (1, .int a1), (2, .int a2), (3, .ref (g.2 0 + 267))] 15 C0 dL_buy_13 rfl (by decide) rfl ?_
    refine x_iconst (v := 1) 16 C0 dL_buy_15 rfl (by decide) ?_
    exact x_ireturn C0 dL_buy_16 rfl rfl (Nat.le_of_ble_eq_true rfl) (Nat.le_of_ble_eq_true rfl) ⟨_, _, _, _, rfl, hz9, hF9.wf, hC9, Or.inr ⟨⟨f, hF9.o hz hO⟩, _, hX9, by decide +kernel⟩⟩
  · obtain ⟨⟨v, rfl⟩, hF1, hz1, x1, la1, t1, hC1, hL1⟩ := hP
    refine x_st (st1 := [.int (v), .int 0, .ref (g.2 0 + 267)]) rfl ?_
    refine x_i2l (v := Int32.toInt64 (v)) 9 C0 dL_buy_8 rfl rfl ?_
    refine x_last 3 10 C0 dL_buy_9 rfl (hF1.o hz hO) (by show g.2 0 ≤ _; omega) rfl (by unfold vp_in; decide) ?_
    refine x_goto 17 C0 dL_buy_10 (by decide) ?_
    refine x_iconst (v := 0) 18 C0 dL_buy_17 rfl (by decide) ?_
    exact x_ireturn C0 dL_buy_18 rfl rfl (Nat.le_of_ble_eq_true rfl) (Nat.le_of_ble_eq_true rfl) ⟨_, _, _, _, rfl, hz1, hF1.wup, hC1.cell ⟨by omega, by omega⟩, Or.inl ⟨rfl, v, _, hL1, xup_s _ _ _, rfl⟩⟩

set_option maxHeartbeats 4000000 in
set_option maxRecDepth 100000 in
theorem e_L_make (l : Launch) (hl : l.stackTraces = false) (g : xg_T) (w : xw_T) (sz n : Nat) (x : Nat → Nat → Int32) (la : Nat → Nat → Nat) (t tt : Nat → Int32) (vb : Option Nat) (sg : Nat → Int32) (hC : CR g w sz n x la t tt vb sg) (hO : wO g w) (a1 : Int32) : xMH l g yL_make cL_make 4 (some .int) [((0), (9), (12), (15)), ((0), (9), (15), (17))] ({ frames := 8, cells := 8, slots := 64, locals := 125 }) 8 64 [.ref (g.2 0), .int a1, .ref (g.2 0 + 267)] w sz (wU g w sz n tt vb sg (fun _ _ => L_X7_make g x la t a1) (E_X7_make g x la t a1) [("java/lang/IllegalArgumentException", 1), ("java/lang/UnsupportedOperationException", 2)] cvI) (fun _ _ _ => False) := by
  obtain ⟨f, hO⟩ := hO
  have hz := hC.2.2.2.2
  refine xMH.of RL hl (by decide +kernel) rfl (Nat.le_of_ble_eq_true rfl) rfl ?_
  intro p e s m args below meth cD C0
  refine x_aload_n 2 1 C0 dL_make_0 rfl rfl rfl ?_
  refine x_iconst (v := 0) 2 C0 dL_make_1 rfl (by decide) ?_
  refine x_aload_n 0 3 C0 dL_make_2 rfl rfl rfl ?_
  refine x_iload_n 1 4 C0 dL_make_3 rfl rfl rfl ?_
  refine x_callV 7 C0 (e_X7_make l hl g w sz n x la t tt vb sg hC a1) dL_make_4 rfl mC_X7_make mM_L_27 mI_X7_make mV_X7_make mN_X7 yd_X7_make rfl rfl ⟨(Nat.le_of_ble_eq_true rfl), (Nat.le_of_ble_eq_true rfl)⟩ hC.1.1 rfl rfl rfl rfl (Nat.le_of_ble_eq_true rfl) ⟨(Nat.le_of_ble_eq_true rfl), (Nat.le_of_ble_eq_true rfl)⟩ (fun E9 w9 sz9 q => ?_) (fun r w1 sz1 _ hP => ?_)
  · obtain ⟨hF9, hz9, x9, la9, t9, hC9, hX9⟩ := q
    rcases ex_make hX9 with rfl | rfl
    · refine x_catch "java/lang/IllegalArgumentException" 12 [] ⟨0, 9, 12, 15⟩ [⟨0, 9, 15, 17⟩] C0 rfl (fun _ h => absurd h List.not_mem_nil) (by decide) (by decide) mK_L_15 (by decide +kernel) rfl (fun q9 => ?_)
      refine x_astore_n [(3, .ref q9), (0, .ref (g.2 0)), (1, .int a1), (2, .ref (g.2 0 + 267))] 13 C0 dL_make_12 rfl rfl (by decide) rfl ?_
      refine x_iconst (v := 1) 14 C0 dL_make_13 rfl (by decide) ?_
      exact x_ireturn C0 dL_make_14 rfl rfl (Nat.le_of_ble_eq_true rfl) (Nat.le_of_ble_eq_true rfl) ⟨_, _, _, _, rfl, hz9, hF9.wf, hC9, Or.inr ⟨⟨f, hF9.o hz hO⟩, _, hX9, by decide +kernel⟩⟩
    · refine x_catch "java/lang/UnsupportedOperationException" 15 [⟨0, 9, 12, 15⟩] ⟨0, 9, 15, 17⟩ [] C0 rfl (List.forall_mem_cons.mpr ⟨⟨by decide, _, mK_L_15, by decide +kernel⟩, (fun _ h => absurd h List.not_mem_nil)⟩) (by decide) (by decide) mK_L_17 (by decide +kernel) rfl (fun q9 => ?_)
      refine x_astore_n [(3, .ref q9), (0, .ref (g.2 0)), (1, .int a1), (2, .ref (g.2 0 + 267))] 16 C0 dL_make_15 rfl rfl (by decide) rfl ?_
      refine x_iconst (v := 2) 17 C0 dL_make_16 rfl (by decide) ?_
      exact x_ireturn C0 dL_make_17 rfl rfl (Nat.le_of_ble_eq_true rfl) (Nat.le_of_ble_eq_true rfl) ⟨_, _, _, _, rfl, hz9, hF9.wf, hC9, Or.inr ⟨⟨f, hF9.o hz hO⟩, _, hX9, by decide +kernel⟩⟩
  · obtain ⟨⟨v, rfl⟩, hF1, hz1, x1, la1, t1, hC1, hL1⟩ := hP
    refine x_st (st1 := [.int (v), .int 0, .ref (g.2 0 + 267)]) rfl ?_
    refine x_i2l (v := Int32.toInt64 (v)) 8 C0 dL_make_7 rfl rfl ?_
    refine x_last 3 9 C0 dL_make_8 rfl (hF1.o hz hO) (by show g.2 0 ≤ _; omega) rfl (by unfold vp_in; decide) ?_
    refine x_goto 18 C0 dL_make_9 (by decide) ?_
    refine x_iconst (v := 0) 19 C0 dL_make_18 rfl (by decide) ?_
    exact x_ireturn C0 dL_make_19 rfl rfl (Nat.le_of_ble_eq_true rfl) (Nat.le_of_ble_eq_true rfl) ⟨_, _, _, _, rfl, hz1, hF1.wup, hC1.cell ⟨by omega, by omega⟩, Or.inl ⟨rfl, v, _, hL1, xup_s _ _ _, rfl⟩⟩

set_option maxHeartbeats 4000000 in
set_option maxRecDepth 100000 in
theorem e_L_line (l : Launch) (hl : l.stackTraces = false) (g : xg_T) (w : xw_T) (sz n : Nat) (x : Nat → Nat → Int32) (la : Nat → Nat → Nat) (t tt : Nat → Int32) (vb : Option Nat) (sg : Nat → Int32) (hC : CR g w sz n x la t tt vb sg) (hO : wO g w) (a1 : Int32) : xMH l g yL_line cL_line 4 (some .int) [((0), (9), (12), (13)), ((0), (9), (15), (17))] ({ frames := 8, cells := 8, slots := 64, locals := 126 }) 8 64 [.ref (g.2 0), .int a1, .ref (g.2 0 + 267)] w sz (wU g w sz n tt vb sg (fun _ _ => L_X7_line g x la t a1) (E_X7_line g x la t a1) [("java/lang/IndexOutOfBoundsException", 1), ("java/lang/UnsupportedOperationException", 2)] cvI) (fun _ _ _ => False) := by
  obtain ⟨f, hO⟩ := hO
  have hz := hC.2.2.2.2
  refine xMH.of RL hl (by decide +kernel) rfl (Nat.le_of_ble_eq_true rfl) rfl ?_
  intro p e s m args below meth cD C0
  refine x_aload_n 2 1 C0 dL_line_0 rfl rfl rfl ?_
  refine x_iconst (v := 0) 2 C0 dL_line_1 rfl (by decide) ?_
  refine x_aload_n 0 3 C0 dL_line_2 rfl rfl rfl ?_
  refine x_iload_n 1 4 C0 dL_line_3 rfl rfl rfl ?_
  refine x_callV 7 C0 (e_X7_line l hl g w sz n x la t tt vb sg hC a1) dL_line_4 rfl mC_X7_line mM_L_31 mI_X7_line mV_X7_line mN_X7 yd_X7_line rfl rfl ⟨(Nat.le_of_ble_eq_true rfl), (Nat.le_of_ble_eq_true rfl)⟩ hC.1.1 rfl rfl rfl rfl (Nat.le_of_ble_eq_true rfl) ⟨(Nat.le_of_ble_eq_true rfl), (Nat.le_of_ble_eq_true rfl)⟩ (fun E9 w9 sz9 q => ?_) (fun r w1 sz1 _ hP => ?_)
  · obtain ⟨hF9, hz9, x9, la9, t9, hC9, hX9⟩ := q
    rcases ex_line hX9 with rfl | rfl
    · refine x_catch "java/lang/IndexOutOfBoundsException" 12 [] ⟨0, 9, 12, 13⟩ [⟨0, 9, 15, 17⟩] C0 rfl (fun _ h => absurd h List.not_mem_nil) (by decide) (by decide) mK_L_13 (by decide +kernel) rfl (fun q9 => ?_)
      refine x_astore_n [(3, .ref q9), (0, .ref (g.2 0)), (1, .int a1), (2, .ref (g.2 0 + 267))] 13 C0 dL_line_12 rfl rfl (by decide) rfl ?_
      refine x_iconst (v := 1) 14 C0 dL_line_13 rfl (by decide) ?_
      exact x_ireturn C0 dL_line_14 rfl rfl (Nat.le_of_ble_eq_true rfl) (Nat.le_of_ble_eq_true rfl) ⟨_, _, _, _, rfl, hz9, hF9.wf, hC9, Or.inr ⟨⟨f, hF9.o hz hO⟩, _, hX9, by decide +kernel⟩⟩
    · refine x_catch "java/lang/UnsupportedOperationException" 15 [⟨0, 9, 12, 13⟩] ⟨0, 9, 15, 17⟩ [] C0 rfl (List.forall_mem_cons.mpr ⟨⟨by decide, _, mK_L_13, by decide +kernel⟩, (fun _ h => absurd h List.not_mem_nil)⟩) (by decide) (by decide) mK_L_17 (by decide +kernel) rfl (fun q9 => ?_)
      refine x_astore_n [(3, .ref q9), (0, .ref (g.2 0)), (1, .int a1), (2, .ref (g.2 0 + 267))] 16 C0 dL_line_15 rfl rfl (by decide) rfl ?_
      refine x_iconst (v := 2) 17 C0 dL_line_16 rfl (by decide) ?_
      exact x_ireturn C0 dL_line_17 rfl rfl (Nat.le_of_ble_eq_true rfl) (Nat.le_of_ble_eq_true rfl) ⟨_, _, _, _, rfl, hz9, hF9.wf, hC9, Or.inr ⟨⟨f, hF9.o hz hO⟩, _, hX9, by decide +kernel⟩⟩
  · obtain ⟨⟨v, rfl⟩, hF1, hz1, x1, la1, t1, hC1, hL1⟩ := hP
    refine x_st (st1 := [.int (v), .int 0, .ref (g.2 0 + 267)]) rfl ?_
    refine x_i2l (v := Int32.toInt64 (v)) 8 C0 dL_line_7 rfl rfl ?_
    refine x_last 3 9 C0 dL_line_8 rfl (hF1.o hz hO) (by show g.2 0 ≤ _; omega) rfl (by unfold vp_in; decide) ?_
    refine x_goto 18 C0 dL_line_9 (by decide) ?_
    refine x_iconst (v := 0) 19 C0 dL_line_18 rfl (by decide) ?_
    exact x_ireturn C0 dL_line_19 rfl rfl (Nat.le_of_ble_eq_true rfl) (Nat.le_of_ble_eq_true rfl) ⟨_, _, _, _, rfl, hz1, hF1.wup, hC1.cell ⟨by omega, by omega⟩, Or.inl ⟨rfl, v, _, hL1, xup_s _ _ _, rfl⟩⟩

set_option maxHeartbeats 4000000 in
set_option maxRecDepth 100000 in
theorem e_L_fill (l : Launch) (hl : l.stackTraces = false) (g : xg_T) (w : xw_T) (sz n : Nat) (x : Nat → Nat → Int32) (la : Nat → Nat → Nat) (t tt : Nat → Int32) (vb : Option Nat) (sg : Nat → Int32) (hC : CR g w sz n x la t tt vb sg) (hO : wO g w) (a1 : Int32) (a2 : Int32) (a3 : Int32) (a4 : Int32) : xMH l g yL_fill cL_fill 7 (some .int) [((0), (14), (17), (13)), ((0), (14), (21), (15)), ((0), (14), (25), (17))] ({ frames := 8, cells := 8, slots := 64, locals := 129 }) 8 64 [.ref (g.2 0), .int a1, .int a2, .int a3, .int a4, .ref (g.2 0 + 267)] w sz (wU g w sz n tt vb sg (fun _ _ => L_X7_fill g x la t a1 a2 a3 a4) (E_X7_fill g x la t a1 a2 a3 a4) [("java/lang/IndexOutOfBoundsException", 1), ("java/lang/IllegalArgumentException", 2), ("java/lang/UnsupportedOperationException", 3)] cvI) (fun _ _ _ => False) := by
  obtain ⟨f, hO⟩ := hO
  have hz := hC.2.2.2.2
  refine xMH.of RL hl (by decide +kernel) rfl (Nat.le_of_ble_eq_true rfl) rfl ?_
  intro p e s m args below meth cD C0
  refine x_aload 5 2 C0 dL_fill_0 rfl rfl ?_
  refine x_iconst (v := 0) 3 C0 dL_fill_2 rfl (by decide) ?_
  refine x_aload_n 0 4 C0 dL_fill_3 rfl rfl rfl ?_
  refine x_iload_n 1 5 C0 dL_fill_4 rfl rfl rfl ?_
  refine x_iload_n 2 6 C0 dL_fill_5 rfl rfl rfl ?_
  refine x_iload_n 3 7 C0 dL_fill_6 rfl rfl rfl ?_
  refine x_iload 4 9 C0 dL_fill_7 rfl rfl ?_
  refine x_callV 12 C0 (e_X7_fill l hl g w sz n x la t tt vb sg hC a1 a2 a3 a4) dL_fill_9 rfl mC_X7_fill mM_L_34 mI_X7_fill mV_X7_fill mN_X7 yd_X7_fill rfl rfl ⟨(Nat.le_of_ble_eq_true rfl), (Nat.le_of_ble_eq_true rfl)⟩ hC.1.1 rfl rfl rfl rfl (Nat.le_of_ble_eq_true rfl) ⟨(Nat.le_of_ble_eq_true rfl), (Nat.le_of_ble_eq_true rfl)⟩ (fun E9 w9 sz9 q => ?_) (fun r w1 sz1 _ hP => ?_)
  · obtain ⟨hF9, hz9, x9, la9, t9, hC9, hX9⟩ := q
    rcases ex_fill hX9 with rfl | rfl | rfl
    · refine x_catch "java/lang/IndexOutOfBoundsException" 17 [] ⟨0, 14, 17, 13⟩ [⟨0, 14, 21, 15⟩, ⟨0, 14, 25, 17⟩] C0 rfl (fun _ h => absurd h List.not_mem_nil) (by decide) (by decide) mK_L_13 (by decide +kernel) rfl (fun q9 => ?_)
      refine x_astore [(6, .ref q9), (0, .ref (g.2 0)), (1, .int a1), (2, .int a2), (3, .int a3), (4, .int a4), (5, .ref (g.2 0 + 267))] 19 C0 dL_fill_17 rfl (by decide) rfl ?_
      refine x_iconst (v := 1) 20 C0 dL_fill_19 rfl (by decide) ?_
      exact x_ireturn C0 dL_fill_20 rfl rfl (Nat.le_of_ble_eq_true rfl) (Nat.le_of_ble_eq_true rfl) ⟨_, _, _, _, rfl, hz9, hF9.wf, hC9, Or.inr ⟨⟨f, hF9.o hz hO⟩, _, hX9, by decide +kernel⟩⟩
    · refine x_catch "java/lang/IllegalArgumentException" 21 [⟨0, 14, 17, 13⟩] ⟨0, 14, 21, 15⟩ [⟨0, 14, 25, 17⟩] C0 rfl (List.forall_mem_cons.mpr ⟨⟨by decide, _, mK_L_13, by decide +kernel⟩, (fun _ h => absurd h List.not_mem_nil)⟩) (by decide) (by decide) mK_L_15 (by decide +kernel) rfl (fun q9 => ?_)
      refine x_astore [(6, .ref q9), (0, .ref (g.2 0)), (1, .int a1), (2, .int a2), (3, .int a3), (4, .int a4), (5, .ref (g.2 0 + 267))] 23 C0 dL_fill_21 rfl (by decide) rfl ?_
      refine x_iconst (v := 2) 24 C0 dL_fill_23 rfl (by decide) ?_
      exact x_ireturn C0 dL_fill_24 rfl rfl (Nat.le_of_ble_eq_true rfl) (Nat.le_of_ble_eq_true rfl) ⟨_, _, _, _, rfl, hz9, hF9.wf, hC9, Or.inr ⟨⟨f, hF9.o hz hO⟩, _, hX9, by decide +kernel⟩⟩
    · refine x_catch "java/lang/UnsupportedOperationException" 25 [⟨0, 14, 17, 13⟩, ⟨0, 14, 21, 15⟩] ⟨0, 14, 25, 17⟩ [] C0 rfl (List.forall_mem_cons.mpr ⟨⟨by decide, _, mK_L_13, by decide +kernel⟩, (List.forall_mem_cons.mpr ⟨⟨by decide, _, mK_L_15, by decide +kernel⟩, (fun _ h => absurd h List.not_mem_nil)⟩)⟩) (by decide) (by decide) mK_L_17 (by decide +kernel) rfl (fun q9 => ?_)
      refine x_astore [(6, .ref q9), (0, .ref (g.2 0)), (1, .int a1), (2, .int a2), (3, .int a3), (4, .int a4), (5, .ref (g.2 0 + 267))] 27 C0 dL_fill_25 rfl (by decide) rfl ?_
      refine x_iconst (v := 3) 28 C0 dL_fill_27 rfl (by decide) ?_
      exact x_ireturn C0 dL_fill_28 rfl rfl (Nat.le_of_ble_eq_true rfl) (Nat.le_of_ble_eq_true rfl) ⟨_, _, _, _, rfl, hz9, hF9.wf, hC9, Or.inr ⟨⟨f, hF9.o hz hO⟩, _, hX9, by decide +kernel⟩⟩
  · obtain ⟨⟨v, rfl⟩, hF1, hz1, x1, la1, t1, hC1, hL1⟩ := hP
    refine x_st (st1 := [.int (v), .int 0, .ref (g.2 0 + 267)]) rfl ?_
    refine x_i2l (v := Int32.toInt64 (v)) 13 C0 dL_fill_12 rfl rfl ?_
    refine x_last 3 14 C0 dL_fill_13 rfl (hF1.o hz hO) (by show g.2 0 ≤ _; omega) rfl (by unfold vp_in; decide) ?_
    refine x_goto 29 C0 dL_fill_14 (by decide) ?_
    refine x_iconst (v := 0) 30 C0 dL_fill_29 rfl (by decide) ?_
    exact x_ireturn C0 dL_fill_30 rfl rfl (Nat.le_of_ble_eq_true rfl) (Nat.le_of_ble_eq_true rfl) ⟨_, _, _, _, rfl, hz1, hF1.wup, hC1.cell ⟨by omega, by omega⟩, Or.inl ⟨rfl, v, _, hL1, xup_s _ _ _, rfl⟩⟩

set_option maxHeartbeats 4000000 in
set_option maxRecDepth 100000 in
theorem e_L_empty (l : Launch) (hl : l.stackTraces = false) (g : xg_T) (w : xw_T) (sz n : Nat) (x : Nat → Nat → Int32) (la : Nat → Nat → Nat) (t tt : Nat → Int32) (vb : Option Nat) (sg : Nat → Int32) (hC : CR g w sz n x la t tt vb sg) (hO : wO g w) (a1 : Int32) : xMH l g yL_empty cL_empty 4 (some .int) [((0), (9), (12), (13)), ((0), (9), (15), (17))] ({ frames := 8, cells := 8, slots := 64, locals := 127 }) 8 64 [.ref (g.2 0), .int a1, .ref (g.2 0 + 267)] w sz (wU g w sz n tt vb sg (fun _ _ => L_X7_empty g x la t a1) (E_X7_empty g x la t a1) [("java/lang/IndexOutOfBoundsException", 1), ("java/lang/UnsupportedOperationException", 2)] cvI) (fun _ _ _ => False) := by
  obtain ⟨f, hO⟩ := hO
  have hz := hC.2.2.2.2
  refine xMH.of RL hl (by decide +kernel) rfl (Nat.le_of_ble_eq_true rfl) rfl ?_
  intro p e s m args below meth cD C0
  refine x_aload_n 2 1 C0 dL_empty_0 rfl rfl rfl ?_
  refine x_iconst (v := 0) 2 C0 dL_empty_1 rfl (by decide) ?_
  refine x_aload_n 0 3 C0 dL_empty_2 rfl rfl rfl ?_
  refine x_iload_n 1 4 C0 dL_empty_3 rfl rfl rfl ?_
  refine x_callV 7 C0 (e_X7_empty l hl g w sz n x la t tt vb sg hC a1) dL_empty_4 rfl mC_X7_empty mM_L_38 mI_X7_empty mV_X7_empty mN_X7 yd_X7_empty rfl rfl ⟨(Nat.le_of_ble_eq_true rfl), (Nat.le_of_ble_eq_true rfl)⟩ hC.1.1 rfl rfl rfl rfl (Nat.le_of_ble_eq_true rfl) ⟨(Nat.le_of_ble_eq_true rfl), (Nat.le_of_ble_eq_true rfl)⟩ (fun E9 w9 sz9 q => ?_) (fun r w1 sz1 _ hP => ?_)
  · obtain ⟨hF9, hz9, x9, la9, t9, hC9, hX9⟩ := q
    rcases ex_empty hX9 with rfl | rfl
    · refine x_catch "java/lang/IndexOutOfBoundsException" 12 [] ⟨0, 9, 12, 13⟩ [⟨0, 9, 15, 17⟩] C0 rfl (fun _ h => absurd h List.not_mem_nil) (by decide) (by decide) mK_L_13 (by decide +kernel) rfl (fun q9 => ?_)
      refine x_astore_n [(3, .ref q9), (0, .ref (g.2 0)), (1, .int a1), (2, .ref (g.2 0 + 267))] 13 C0 dL_empty_12 rfl rfl (by decide) rfl ?_
      refine x_iconst (v := 1) 14 C0 dL_empty_13 rfl (by decide) ?_
      exact x_ireturn C0 dL_empty_14 rfl rfl (Nat.le_of_ble_eq_true rfl) (Nat.le_of_ble_eq_true rfl) ⟨_, _, _, _, rfl, hz9, hF9.wf, hC9, Or.inr ⟨⟨f, hF9.o hz hO⟩, _, hX9, by decide +kernel⟩⟩
    · refine x_catch "java/lang/UnsupportedOperationException" 15 [⟨0, 9, 12, 13⟩] ⟨0, 9, 15, 17⟩ [] C0 rfl (List.forall_mem_cons.mpr ⟨⟨by decide, _, mK_L_13, by decide +kernel⟩, (fun _ h => absurd h List.not_mem_nil)⟩) (by decide) (by decide) mK_L_17 (by decide +kernel) rfl (fun q9 => ?_)
      refine x_astore_n [(3, .ref q9), (0, .ref (g.2 0)), (1, .int a1), (2, .ref (g.2 0 + 267))] 16 C0 dL_empty_15 rfl rfl (by decide) rfl ?_
      refine x_iconst (v := 2) 17 C0 dL_empty_16 rfl (by decide) ?_
      exact x_ireturn C0 dL_empty_17 rfl rfl (Nat.le_of_ble_eq_true rfl) (Nat.le_of_ble_eq_true rfl) ⟨_, _, _, _, rfl, hz9, hF9.wf, hC9, Or.inr ⟨⟨f, hF9.o hz hO⟩, _, hX9, by decide +kernel⟩⟩
  · obtain ⟨⟨v, rfl⟩, hF1, hz1, x1, la1, t1, hC1, hL1⟩ := hP
    refine x_st (st1 := [.int (v), .int 0, .ref (g.2 0 + 267)]) rfl ?_
    refine x_i2l (v := Int32.toInt64 (v)) 8 C0 dL_empty_7 rfl rfl ?_
    refine x_last 3 9 C0 dL_empty_8 rfl (hF1.o hz hO) (by show g.2 0 ≤ _; omega) rfl (by unfold vp_in; decide) ?_
    refine x_goto 18 C0 dL_empty_9 (by decide) ?_
    refine x_iconst (v := 0) 19 C0 dL_empty_18 rfl (by decide) ?_
    exact x_ireturn C0 dL_empty_19 rfl rfl (Nat.le_of_ble_eq_true rfl) (Nat.le_of_ble_eq_true rfl) ⟨_, _, _, _, rfl, hz1, hF1.wup, hC1.cell ⟨by omega, by omega⟩, Or.inl ⟨rfl, v, _, hL1, xup_s _ _ _, rfl⟩⟩

set_option maxHeartbeats 4000000 in
set_option maxRecDepth 100000 in
theorem e_L_screw (l : Launch) (hl : l.stackTraces = false) (g : xg_T) (w : xw_T) (sz n : Nat) (x : Nat → Nat → Int32) (la : Nat → Nat → Nat) (t tt : Nat → Int32) (vb : Option Nat) (sg : Nat → Int32) (hC : CR g w sz n x la t tt vb sg) (hO : wO g w) (a1 : Int32) (a2 : Int32) : xMH l g yL_screw cL_screw 5 (some .int) [((0), (17), (20), (13)), ((0), (17), (24), (15)), ((0), (17), (28), (17))] ({ frames := 8, cells := 8, slots := 64, locals := 127 }) 8 64 [.ref (g.2 0), .int a1, .int a2, .ref (g.2 0 + 267)] w sz (wU g w sz n tt vb sg (fun _ _ => L_X7_screw g x la t a1 a2) (E_X7_screw g x la t a1 a2) [("java/lang/IndexOutOfBoundsException", 1), ("java/lang/IllegalArgumentException", 2), ("java/lang/UnsupportedOperationException", 3)] cvB) (fun _ _ _ => False) := by
  obtain ⟨f, hO⟩ := hO
  have hz := hC.2.2.2.2
  refine xMH.of RL hl (by decide +kernel) rfl (Nat.le_of_ble_eq_true rfl) rfl ?_
  intro p e s m args below meth cD C0
  refine x_aload_n 3 1 C0 dL_screw_0 rfl rfl rfl ?_
  refine x_iconst (v := 0) 2 C0 dL_screw_1 rfl (by decide) ?_
  refine x_aload_n 0 3 C0 dL_screw_2 rfl rfl rfl ?_
  refine x_iload_n 1 4 C0 dL_screw_3 rfl rfl rfl ?_
  refine x_iload_n 2 5 C0 dL_screw_4 rfl rfl rfl ?_
  refine x_callV 8 C0 (e_X7_screw l hl g w sz n x la t tt vb sg hC a1 a2) dL_screw_5 rfl mC_X7_screw mM_L_41 mI_X7_screw mV_X7_screw mN_X7 yd_X7_screw rfl rfl ⟨(Nat.le_of_ble_eq_true rfl), (Nat.le_of_ble_eq_true rfl)⟩ hC.1.1 rfl rfl rfl rfl (Nat.le_of_ble_eq_true rfl) ⟨(Nat.le_of_ble_eq_true rfl), (Nat.le_of_ble_eq_true rfl)⟩ (fun E9 w9 sz9 q => ?_) (fun r w1 sz1 _ hP => ?_)
  · obtain ⟨hF9, hz9, x9, la9, t9, hC9, hX9⟩ := q
    rcases ex_screw hX9 with rfl | rfl | rfl
    · refine x_catch "java/lang/IndexOutOfBoundsException" 20 [] ⟨0, 17, 20, 13⟩ [⟨0, 17, 24, 15⟩, ⟨0, 17, 28, 17⟩] C0 rfl (fun _ h => absurd h List.not_mem_nil) (by decide) (by decide) mK_L_13 (by decide +kernel) rfl (fun q9 => ?_)
      refine x_astore [(4, .ref q9), (0, .ref (g.2 0)), (1, .int a1), (2, .int a2), (3, .ref (g.2 0 + 267))] 22 C0 dL_screw_20 rfl (by decide) rfl ?_
      refine x_iconst (v := 1) 23 C0 dL_screw_22 rfl (by decide) ?_
      exact x_ireturn C0 dL_screw_23 rfl rfl (Nat.le_of_ble_eq_true rfl) (Nat.le_of_ble_eq_true rfl) ⟨_, _, _, _, rfl, hz9, hF9.wf, hC9, Or.inr ⟨⟨f, hF9.o hz hO⟩, _, hX9, by decide +kernel⟩⟩
    · refine x_catch "java/lang/IllegalArgumentException" 24 [⟨0, 17, 20, 13⟩] ⟨0, 17, 24, 15⟩ [⟨0, 17, 28, 17⟩] C0 rfl (List.forall_mem_cons.mpr ⟨⟨by decide, _, mK_L_13, by decide +kernel⟩, (fun _ h => absurd h List.not_mem_nil)⟩) (by decide) (by decide) mK_L_15 (by decide +kernel) rfl (fun q9 => ?_)
      refine x_astore [(4, .ref q9), (0, .ref (g.2 0)), (1, .int a1), (2, .int a2), (3, .ref (g.2 0 + 267))] 26 C0 dL_screw_24 rfl (by decide) rfl ?_
      refine x_iconst (v := 2) 27 C0 dL_screw_26 rfl (by decide) ?_
      exact x_ireturn C0 dL_screw_27 rfl rfl (Nat.le_of_ble_eq_true rfl) (Nat.le_of_ble_eq_true rfl) ⟨_, _, _, _, rfl, hz9, hF9.wf, hC9, Or.inr ⟨⟨f, hF9.o hz hO⟩, _, hX9, by decide +kernel⟩⟩
    · refine x_catch "java/lang/UnsupportedOperationException" 28 [⟨0, 17, 20, 13⟩, ⟨0, 17, 24, 15⟩] ⟨0, 17, 28, 17⟩ [] C0 rfl (List.forall_mem_cons.mpr ⟨⟨by decide, _, mK_L_13, by decide +kernel⟩, (List.forall_mem_cons.mpr ⟨⟨by decide, _, mK_L_15, by decide +kernel⟩, (fun _ h => absurd h List.not_mem_nil)⟩)⟩) (by decide) (by decide) mK_L_17 (by decide +kernel) rfl (fun q9 => ?_)
      refine x_astore [(4, .ref q9), (0, .ref (g.2 0)), (1, .int a1), (2, .int a2), (3, .ref (g.2 0 + 267))] 30 C0 dL_screw_28 rfl (by decide) rfl ?_
      refine x_iconst (v := 3) 31 C0 dL_screw_30 rfl (by decide) ?_
      exact x_ireturn C0 dL_screw_31 rfl rfl (Nat.le_of_ble_eq_true rfl) (Nat.le_of_ble_eq_true rfl) ⟨_, _, _, _, rfl, hz9, hF9.wf, hC9, Or.inr ⟨⟨f, hF9.o hz hO⟩, _, hX9, by decide +kernel⟩⟩
  · obtain ⟨⟨v, rfl⟩, hF1, hz1, x1, la1, t1, hC1, hL1⟩ := hP
    refine x_st (st1 := [.int (v), .int 0, .ref (g.2 0 + 267)]) rfl ?_
    refine x_if_eq 15 11 C0 dL_screw_8 rfl (by decide) (fun c1 => ?_) (fun c1 => ?_)
    · refine x_lconst (v := 0) 16 C0 dL_screw_15 rfl (by decide) ?_
      refine x_last 3 17 C0 dL_screw_16 rfl (hF1.o hz hO) (by show g.2 0 ≤ _; omega) rfl (by unfold vp_in; decide) ?_
      refine x_goto 32 C0 dL_screw_17 (by decide) ?_
      refine x_iconst (v := 0) 33 C0 dL_screw_32 rfl (by decide) ?_
      exact x_ireturn C0 dL_screw_33 rfl rfl (Nat.le_of_ble_eq_true rfl) (Nat.le_of_ble_eq_true rfl) ⟨_, _, _, _, rfl, hz1, hF1.wup, hC1.cell ⟨by omega, by omega⟩, Or.inl ⟨rfl, v, _, hL1, xup_s _ _ _, (if_pos c1).symm⟩⟩
    · refine x_lconst (v := 1) 12 C0 dL_screw_11 rfl (by decide) ?_
      refine x_goto 16 C0 dL_screw_12 (by decide) ?_
      refine x_last 3 17 C0 dL_screw_16 rfl (hF1.o hz hO) (by show g.2 0 ≤ _; omega) rfl (by unfold vp_in; decide) ?_
      refine x_goto 32 C0 dL_screw_17 (by decide) ?_
      refine x_iconst (v := 0) 33 C0 dL_screw_32 rfl (by decide) ?_
      exact x_ireturn C0 dL_screw_33 rfl rfl (Nat.le_of_ble_eq_true rfl) (Nat.le_of_ble_eq_true rfl) ⟨_, _, _, _, rfl, hz1, hF1.wup, hC1.cell ⟨by omega, by omega⟩, Or.inl ⟨rfl, v, _, hL1, xup_s _ _ _, (if_neg c1).symm⟩⟩

set_option maxHeartbeats 4000000 in
set_option maxRecDepth 100000 in
theorem e_L_unscrew (l : Launch) (hl : l.stackTraces = false) (g : xg_T) (w : xw_T) (sz n : Nat) (x : Nat → Nat → Int32) (la : Nat → Nat → Nat) (t tt : Nat → Int32) (vb : Option Nat) (sg : Nat → Int32) (hC : CR g w sz n x la t tt vb sg) (hO : wO g w) (a1 : Int32) : xMH l g yL_unscrew cL_unscrew 4 (some .int) [((0), (9), (12), (13)), ((0), (9), (15), (17))] ({ frames := 8, cells := 8, slots := 64, locals := 127 }) 8 64 [.ref (g.2 0), .int a1, .ref (g.2 0 + 267)] w sz (wU g w sz n tt vb sg (fun _ _ => L_X7_unscrew g x la t a1) (E_X7_unscrew g x la t a1) [("java/lang/IndexOutOfBoundsException", 1), ("java/lang/UnsupportedOperationException", 2)] cvI) (fun _ _ _ => False) := by
  obtain ⟨f, hO⟩ := hO
  have hz := hC.2.2.2.2
  refine xMH.of RL hl (by decide +kernel) rfl (Nat.le_of_ble_eq_true rfl) rfl ?_
  intro p e s m args below meth cD C0
  refine x_aload_n 2 1 C0 dL_unscrew_0 rfl rfl rfl ?_
  refine x_iconst (v := 0) 2 C0 dL_unscrew_1 rfl (by decide) ?_
  refine x_aload_n 0 3 C0 dL_unscrew_2 rfl rfl rfl ?_
  refine x_iload_n 1 4 C0 dL_unscrew_3 rfl rfl rfl ?_
  refine x_callV 7 C0 (e_X7_unscrew l hl g w sz n x la t tt vb sg hC a1) dL_unscrew_4 rfl mC_X7_unscrew mM_L_45 mI_X7_unscrew mV_X7_unscrew mN_X7 yd_X7_unscrew rfl rfl ⟨(Nat.le_of_ble_eq_true rfl), (Nat.le_of_ble_eq_true rfl)⟩ hC.1.1 rfl rfl rfl rfl (Nat.le_of_ble_eq_true rfl) ⟨(Nat.le_of_ble_eq_true rfl), (Nat.le_of_ble_eq_true rfl)⟩ (fun E9 w9 sz9 q => ?_) (fun r w1 sz1 _ hP => ?_)
  · obtain ⟨hF9, hz9, x9, la9, t9, hC9, hX9⟩ := q
    rcases ex_unscrew hX9 with rfl | rfl
    · refine x_catch "java/lang/IndexOutOfBoundsException" 12 [] ⟨0, 9, 12, 13⟩ [⟨0, 9, 15, 17⟩] C0 rfl (fun _ h => absurd h List.not_mem_nil) (by decide) (by decide) mK_L_13 (by decide +kernel) rfl (fun q9 => ?_)
      refine x_astore_n [(3, .ref q9), (0, .ref (g.2 0)), (1, .int a1), (2, .ref (g.2 0 + 267))] 13 C0 dL_unscrew_12 rfl rfl (by decide) rfl ?_
      refine x_iconst (v := 1) 14 C0 dL_unscrew_13 rfl (by decide) ?_
      exact x_ireturn C0 dL_unscrew_14 rfl rfl (Nat.le_of_ble_eq_true rfl) (Nat.le_of_ble_eq_true rfl) ⟨_, _, _, _, rfl, hz9, hF9.wf, hC9, Or.inr ⟨⟨f, hF9.o hz hO⟩, _, hX9, by decide +kernel⟩⟩
    · refine x_catch "java/lang/UnsupportedOperationException" 15 [⟨0, 9, 12, 13⟩] ⟨0, 9, 15, 17⟩ [] C0 rfl (List.forall_mem_cons.mpr ⟨⟨by decide, _, mK_L_13, by decide +kernel⟩, (fun _ h => absurd h List.not_mem_nil)⟩) (by decide) (by decide) mK_L_17 (by decide +kernel) rfl (fun q9 => ?_)
      refine x_astore_n [(3, .ref q9), (0, .ref (g.2 0)), (1, .int a1), (2, .ref (g.2 0 + 267))] 16 C0 dL_unscrew_15 rfl rfl (by decide) rfl ?_
      refine x_iconst (v := 2) 17 C0 dL_unscrew_16 rfl (by decide) ?_
      exact x_ireturn C0 dL_unscrew_17 rfl rfl (Nat.le_of_ble_eq_true rfl) (Nat.le_of_ble_eq_true rfl) ⟨_, _, _, _, rfl, hz9, hF9.wf, hC9, Or.inr ⟨⟨f, hF9.o hz hO⟩, _, hX9, by decide +kernel⟩⟩
  · obtain ⟨⟨v, rfl⟩, hF1, hz1, x1, la1, t1, hC1, hL1⟩ := hP
    refine x_st (st1 := [.int (v), .int 0, .ref (g.2 0 + 267)]) rfl ?_
    refine x_i2l (v := Int32.toInt64 (v)) 8 C0 dL_unscrew_7 rfl rfl ?_
    refine x_last 3 9 C0 dL_unscrew_8 rfl (hF1.o hz hO) (by show g.2 0 ≤ _; omega) rfl (by unfold vp_in; decide) ?_
    refine x_goto 18 C0 dL_unscrew_9 (by decide) ?_
    refine x_iconst (v := 0) 19 C0 dL_unscrew_18 rfl (by decide) ?_
    exact x_ireturn C0 dL_unscrew_19 rfl rfl (Nat.le_of_ble_eq_true rfl) (Nat.le_of_ble_eq_true rfl) ⟨_, _, _, _, rfl, hz1, hF1.wup, hC1.cell ⟨by omega, by omega⟩, Or.inl ⟨rfl, v, _, hL1, xup_s _ _ _, rfl⟩⟩

set_option maxHeartbeats 4000000 in
set_option maxRecDepth 100000 in
theorem e_L_label (l : Launch) (hl : l.stackTraces = false) (g : xg_T) (w : xw_T) (sz n : Nat) (x : Nat → Nat → Int32) (la : Nat → Nat → Nat) (t tt : Nat → Int32) (vb : Option Nat) (sg : Nat → Int32) (hC : CR g w sz n x la t tt vb sg) (hO : wO g w) (a1 : Int32) : xMH l g yL_label cL_label 4 (some .int) [((0), (9), (12), (13)), ((0), (9), (15), (17))] ({ frames := 9, cells := 8, slots := 64, locals := 215 }) 8 64 [.ref (g.2 0), .int a1, .ref (g.2 0 + 267)] w sz (wU g w sz n tt vb sg (fun w2 sz2 => L_X7_label g w2 sz2 x la t a1) (E_X7_label g x la t a1) [("java/lang/IndexOutOfBoundsException", 1), ("java/lang/UnsupportedOperationException", 2)] cvI) (fun _ _ _ => False) := by
  obtain ⟨f, hO⟩ := hO
  have hz := hC.2.2.2.2
  refine xMH.of RL hl (by decide +kernel) rfl (Nat.le_of_ble_eq_true rfl) rfl ?_
  intro p e s m args below meth cD C0
  refine x_aload_n 2 1 C0 dL_label_0 rfl rfl rfl ?_
  refine x_iconst (v := 0) 2 C0 dL_label_1 rfl (by decide) ?_
  refine x_aload_n 0 3 C0 dL_label_2 rfl rfl rfl ?_
  refine x_iload_n 1 4 C0 dL_label_3 rfl rfl rfl ?_
  refine x_callV 7 C0 (e_X7_label l hl g w sz n x la t tt vb sg hC a1) dL_label_4 rfl mC_X7_label mM_L_48 mI_X7_label mV_X7_label mN_X7 yd_X7_label rfl rfl ⟨(Nat.le_of_ble_eq_true rfl), (Nat.le_of_ble_eq_true rfl)⟩ hC.1.1 rfl rfl rfl rfl (Nat.le_of_ble_eq_true rfl) ⟨(Nat.le_of_ble_eq_true rfl), (Nat.le_of_ble_eq_true rfl)⟩ (fun E9 w9 sz9 q => ?_) (fun r w1 sz1 _ hP => ?_)
  · obtain ⟨hF9, hz9, x9, la9, t9, hC9, hX9⟩ := q
    rcases ex_label hX9 with rfl | rfl
    · refine x_catch "java/lang/IndexOutOfBoundsException" 12 [] ⟨0, 9, 12, 13⟩ [⟨0, 9, 15, 17⟩] C0 rfl (fun _ h => absurd h List.not_mem_nil) (by decide) (by decide) mK_L_13 (by decide +kernel) rfl (fun q9 => ?_)
      refine x_astore_n [(3, .ref q9), (0, .ref (g.2 0)), (1, .int a1), (2, .ref (g.2 0 + 267))] 13 C0 dL_label_12 rfl rfl (by decide) rfl ?_
      refine x_iconst (v := 1) 14 C0 dL_label_13 rfl (by decide) ?_
      exact x_ireturn C0 dL_label_14 rfl rfl (Nat.le_of_ble_eq_true rfl) (Nat.le_of_ble_eq_true rfl) ⟨_, _, _, _, rfl, hz9, hF9.wf, hC9, Or.inr ⟨⟨f, hF9.o hz hO⟩, _, hX9, by decide +kernel⟩⟩
    · refine x_catch "java/lang/UnsupportedOperationException" 15 [⟨0, 9, 12, 13⟩] ⟨0, 9, 15, 17⟩ [] C0 rfl (List.forall_mem_cons.mpr ⟨⟨by decide, _, mK_L_13, by decide +kernel⟩, (fun _ h => absurd h List.not_mem_nil)⟩) (by decide) (by decide) mK_L_17 (by decide +kernel) rfl (fun q9 => ?_)
      refine x_astore_n [(3, .ref q9), (0, .ref (g.2 0)), (1, .int a1), (2, .ref (g.2 0 + 267))] 16 C0 dL_label_15 rfl rfl (by decide) rfl ?_
      refine x_iconst (v := 2) 17 C0 dL_label_16 rfl (by decide) ?_
      exact x_ireturn C0 dL_label_17 rfl rfl (Nat.le_of_ble_eq_true rfl) (Nat.le_of_ble_eq_true rfl) ⟨_, _, _, _, rfl, hz9, hF9.wf, hC9, Or.inr ⟨⟨f, hF9.o hz hO⟩, _, hX9, by decide +kernel⟩⟩
  · obtain ⟨⟨v, rfl⟩, hF1, hz1, x1, la1, t1, hC1, hL1⟩ := hP
    refine x_st (st1 := [.int (v), .int 0, .ref (g.2 0 + 267)]) rfl ?_
    refine x_i2l (v := Int32.toInt64 (v)) 8 C0 dL_label_7 rfl rfl ?_
    refine x_last 3 9 C0 dL_label_8 rfl (hF1.o hz hO) (by show g.2 0 ≤ _; omega) rfl (by unfold vp_in; decide) ?_
    refine x_goto 18 C0 dL_label_9 (by decide) ?_
    refine x_iconst (v := 0) 19 C0 dL_label_18 rfl (by decide) ?_
    exact x_ireturn C0 dL_label_19 rfl rfl (Nat.le_of_ble_eq_true rfl) (Nat.le_of_ble_eq_true rfl) ⟨_, _, _, _, rfl, hz1, hF1.wup, hC1.cell ⟨by omega, by omega⟩, Or.inl ⟨rfl, v, _, lab_go hL1 (fun q q1 q2 => xup_n (by omega)), xup_s _ _ _, rfl⟩⟩

set_option maxHeartbeats 4000000 in
set_option maxRecDepth 100000 in
theorem e_L_labelled (l : Launch) (hl : l.stackTraces = false) (g : xg_T) (w : xw_T) (sz n : Nat) (x : Nat → Nat → Int32) (la : Nat → Nat → Nat) (t tt : Nat → Int32) (vb : Option Nat) (sg : Nat → Int32) (hC : CR g w sz n x la t tt vb sg) (hO : wO g w) (a1 : Int32) (a2 : Int32) : xMH l g yL_labelled cL_labelled 5 (some .int) [((0), (10), (13), (13)), ((0), (10), (17), (55))] ({ frames := 8, cells := 8, slots := 64, locals := 127 }) 8 64 [.ref (g.2 0), .int a1, .int a2, .ref (g.2 0 + 267)] w sz (wU g w sz n tt vb sg (fun _ _ => stP x la t rI) (stX x la t ["java/lang/IndexOutOfBoundsException", "java/util/NoSuchElementException"]) [("java/lang/IndexOutOfBoundsException", 1), ("java/util/NoSuchElementException", 2)] cvI) (fun _ _ _ => False) := by
  obtain ⟨f, hO⟩ := hO
  have hz := hC.2.2.2.2
  refine xMH.of RL hl (by decide +kernel) rfl (Nat.le_of_ble_eq_true rfl) rfl ?_
  intro p e s m args below meth cD C0
  refine x_aload_n 3 1 C0 dL_labelled_0 rfl rfl rfl ?_
  refine x_iconst (v := 0) 2 C0 dL_labelled_1 rfl (by decide) ?_
  refine x_aload_n 0 3 C0 dL_labelled_2 rfl rfl rfl ?_
  refine x_iload_n 1 4 C0 dL_labelled_3 rfl rfl rfl ?_
  refine x_iload_n 2 5 C0 dL_labelled_4 rfl rfl rfl ?_
  refine x_callV 8 C0 (f_X7_labelled l hl g w sz n x la t tt vb sg hC a1 a2) dL_labelled_5 rfl mC_X7_labelled mM_L_51 mI_X7_labelled mV_X7_labelled mN_X7 yd_X7_labelled rfl rfl ⟨(Nat.le_of_ble_eq_true rfl), (Nat.le_of_ble_eq_true rfl)⟩ hC.1.1 rfl rfl rfl rfl (Nat.le_of_ble_eq_true rfl) ⟨(Nat.le_of_ble_eq_true rfl), (Nat.le_of_ble_eq_true rfl)⟩ (fun E9 w9 sz9 q => ?_) (fun r w1 sz1 _ hP => ?_)
  · obtain ⟨hE, hC9, hF9, hz9⟩ := q
    have hX9 := hE
    simp only [List.mem_cons, List.not_mem_nil, or_false] at hE
    rcases hE with rfl | rfl
    · refine x_catch "java/lang/IndexOutOfBoundsException" 13 [] ⟨0, 10, 13, 13⟩ [⟨0, 10, 17, 55⟩] C0 rfl (fun _ h => absurd h List.not_mem_nil) (by decide) (by decide) mK_L_13 (by decide +kernel) rfl (fun q9 => ?_)
      refine x_astore [(4, .ref q9), (0, .ref (g.2 0)), (1, .int a1), (2, .int a2), (3, .ref (g.2 0 + 267))] 15 C0 dL_labelled_13 rfl (by decide) rfl ?_
      refine x_iconst (v := 1) 16 C0 dL_labelled_15 rfl (by decide) ?_
      exact x_ireturn C0 dL_labelled_16 rfl rfl (Nat.le_of_ble_eq_true rfl) (Nat.le_of_ble_eq_true rfl) ⟨_, _, _, _, rfl, hz9, hF9.wf, hC9, Or.inr ⟨⟨f, hF9.o hz hO⟩, _, ⟨hX9, rfl, rfl, rfl⟩, by decide +kernel⟩⟩
    · refine x_catch "java/util/NoSuchElementException" 17 [⟨0, 10, 13, 13⟩] ⟨0, 10, 17, 55⟩ [] C0 rfl (List.forall_mem_cons.mpr ⟨⟨by decide, _, mK_L_13, by decide +kernel⟩, (fun _ h => absurd h List.not_mem_nil)⟩) (by decide) (by decide) mK_L_55 (by decide +kernel) rfl (fun q9 => ?_)
      refine x_astore [(4, .ref q9), (0, .ref (g.2 0)), (1, .int a1), (2, .int a2), (3, .ref (g.2 0 + 267))] 19 C0 dL_labelled_17 rfl (by decide) rfl ?_
      refine x_iconst (v := 2) 20 C0 dL_labelled_19 rfl (by decide) ?_
      exact x_ireturn C0 dL_labelled_20 rfl rfl (Nat.le_of_ble_eq_true rfl) (Nat.le_of_ble_eq_true rfl) ⟨_, _, _, _, rfl, hz9, hF9.wf, hC9, Or.inr ⟨⟨f, hF9.o hz hO⟩, _, ⟨hX9, rfl, rfl, rfl⟩, by decide +kernel⟩⟩
  · obtain ⟨hR1, hC1, hF1, hz1⟩ := hP
    have hr9 := hR1
    obtain ⟨v, rfl⟩ := hR1
    refine x_st (st1 := [.int (v), .int 0, .ref (g.2 0 + 267)]) rfl ?_
    refine x_i2l (v := Int32.toInt64 (v)) 9 C0 dL_labelled_8 rfl rfl ?_
    refine x_last 3 10 C0 dL_labelled_9 rfl (hF1.o hz hO) (by show g.2 0 ≤ _; omega) rfl (by unfold vp_in; decide) ?_
    refine x_goto 21 C0 dL_labelled_10 (by decide) ?_
    refine x_iconst (v := 0) 22 C0 dL_labelled_21 rfl (by decide) ?_
    exact x_ireturn C0 dL_labelled_22 rfl rfl (Nat.le_of_ble_eq_true rfl) (Nat.le_of_ble_eq_true rfl) ⟨_, _, _, _, rfl, hz1, hF1.wup, hC1.cell ⟨by omega, by omega⟩, Or.inl ⟨rfl, v, _, ⟨hr9, rfl, rfl, rfl⟩, xup_s _ _ _, rfl⟩⟩

set_option maxHeartbeats 4000000 in
set_option maxRecDepth 100000 in
theorem e_L_chest (l : Launch) (hl : l.stackTraces = false) (g : xg_T) (w : xw_T) (sz n : Nat) (x : Nat → Nat → Int32) (la : Nat → Nat → Nat) (t tt : Nat → Int32) (vb : Option Nat) (sg : Nat → Int32) (hC : CR g w sz n x la t tt vb sg) (hO : wO g w) (a1 : Int32) (a2 : Int32) : xMH l g yL_chest cL_chest 5 (some .int) [((0), (10), (13), (13)), ((0), (10), (17), (15))] ({ frames := 8, cells := 8, slots := 64, locals := 127 }) 8 64 [.ref (g.2 0), .int a1, .int a2, .ref (g.2 0 + 267)] w sz (wU g w sz n tt vb sg (fun _ _ => stP x la t rI) (stX x la t ["java/lang/IndexOutOfBoundsException", "java/lang/IllegalArgumentException"]) [("java/lang/IndexOutOfBoundsException", 1), ("java/lang/IllegalArgumentException", 2)] cvI) (fun _ _ _ => False) := by
  obtain ⟨f, hO⟩ := hO
  have hz := hC.2.2.2.2
  refine xMH.of RL hl (by decide +kernel) rfl (Nat.le_of_ble_eq_true rfl) rfl ?_
  intro p e s m args below meth cD C0
  refine x_aload_n 3 1 C0 dL_chest_0 rfl rfl rfl ?_
  refine x_iconst (v := 0) 2 C0 dL_chest_1 rfl (by decide) ?_
  refine x_aload_n 0 3 C0 dL_chest_2 rfl rfl rfl ?_
  refine x_iload_n 1 4 C0 dL_chest_3 rfl rfl rfl ?_
  refine x_iload_n 2 5 C0 dL_chest_4 rfl rfl rfl ?_
  refine x_callV 8 C0 (f_X7_chest l hl g w sz n x la t tt vb sg hC a1 a2) dL_chest_5 rfl mC_X7_chest mM_L_57 mI_X7_chest mV_X7_chest mN_X7 yd_X7_chest rfl rfl ⟨(Nat.le_of_ble_eq_true rfl), (Nat.le_of_ble_eq_true rfl)⟩ hC.1.1 rfl rfl rfl rfl (Nat.le_of_ble_eq_true rfl) ⟨(Nat.le_of_ble_eq_true rfl), (Nat.le_of_ble_eq_true rfl)⟩ (fun E9 w9 sz9 q => ?_) (fun r w1 sz1 _ hP => ?_)
  · obtain ⟨hE, hC9, hF9, hz9⟩ := q
    have hX9 := hE
    simp only [List.mem_cons, List.not_mem_nil, or_false] at hE
    rcases hE with rfl | rfl
    · refine x_catch "java/lang/IndexOutOfBoundsException" 13 [] ⟨0, 10, 13, 13⟩ [⟨0, 10, 17, 15⟩] C0 rfl (fun _ h => absurd h List.not_mem_nil) (by decide) (by decide) mK_L_13 (by decide +kernel) rfl (fun q9 => ?_)
      refine x_astore [(4, .ref q9), (0, .ref (g.2 0)), (1, .int a1), (2, .int a2), (3, .ref (g.2 0 + 267))] 15 C0 dL_chest_13 rfl (by decide) rfl ?_
      refine x_iconst (v := 1) 16 C0 dL_chest_15 rfl (by decide) ?_
      exact x_ireturn C0 dL_chest_16 rfl rfl (Nat.le_of_ble_eq_true rfl) (Nat.le_of_ble_eq_true rfl) ⟨_, _, _, _, rfl, hz9, hF9.wf, hC9, Or.inr ⟨⟨f, hF9.o hz hO⟩, _, ⟨hX9, rfl, rfl, rfl⟩, by decide +kernel⟩⟩
    · refine x_catch "java/lang/IllegalArgumentException" 17 [⟨0, 10, 13, 13⟩] ⟨0, 10, 17, 15⟩ [] C0 rfl (List.forall_mem_cons.mpr ⟨⟨by decide, _, mK_L_13, by decide +kernel⟩, (fun _ h => absurd h List.not_mem_nil)⟩) (by decide) (by decide) mK_L_15 (by decide +kernel) rfl (fun q9 => ?_)
      refine x_astore [(4, .ref q9), (0, .ref (g.2 0)), (1, .int a1), (2, .int a2), (3, .ref (g.2 0 + 267))] 19 C0 dL_chest_17 rfl (by decide) rfl ?_
      refine x_iconst (v := 2) 20 C0 dL_chest_19 rfl (by decide) ?_
      exact x_ireturn C0 dL_chest_20 rfl rfl (Nat.le_of_ble_eq_true rfl) (Nat.le_of_ble_eq_true rfl) ⟨_, _, _, _, rfl, hz9, hF9.wf, hC9, Or.inr ⟨⟨f, hF9.o hz hO⟩, _, ⟨hX9, rfl, rfl, rfl⟩, by decide +kernel⟩⟩
  · obtain ⟨hR1, hC1, hF1, hz1⟩ := hP
    have hr9 := hR1
    obtain ⟨v, rfl⟩ := hR1
    refine x_st (st1 := [.int (v), .int 0, .ref (g.2 0 + 267)]) rfl ?_
    refine x_i2l (v := Int32.toInt64 (v)) 9 C0 dL_chest_8 rfl rfl ?_
    refine x_last 3 10 C0 dL_chest_9 rfl (hF1.o hz hO) (by show g.2 0 ≤ _; omega) rfl (by unfold vp_in; decide) ?_
    refine x_goto 21 C0 dL_chest_10 (by decide) ?_
    refine x_iconst (v := 0) 22 C0 dL_chest_21 rfl (by decide) ?_
    exact x_ireturn C0 dL_chest_22 rfl rfl (Nat.le_of_ble_eq_true rfl) (Nat.le_of_ble_eq_true rfl) ⟨_, _, _, _, rfl, hz1, hF1.wup, hC1.cell ⟨by omega, by omega⟩, Or.inl ⟨rfl, v, _, ⟨hr9, rfl, rfl, rfl⟩, xup_s _ _ _, rfl⟩⟩

set_option maxHeartbeats 4000000 in
set_option maxRecDepth 100000 in
theorem e_L_worth (l : Launch) (hl : l.stackTraces = false) (g : xg_T) (w : xw_T) (sz n : Nat) (x : Nat → Nat → Int32) (la : Nat → Nat → Nat) (t tt : Nat → Int32) (vb : Option Nat) (sg : Nat → Int32) (hC : CR g w sz n x la t tt vb sg) (hO : wO g w) (a1 : Int32) : xMH l g yL_worth cL_worth 4 (some .int) [((0), (9), (12), (13))] ({ frames := 8, cells := 8, slots := 64, locals := 125 }) 8 64 [.ref (g.2 0), .int a1, .ref (g.2 0 + 267)] w sz (wU g w sz n tt vb sg (fun _ _ => stP x la t rI) (stX x la t ["java/lang/IndexOutOfBoundsException"]) [("java/lang/IndexOutOfBoundsException", 1)] cvI) (fun _ _ _ => False) := by
  obtain ⟨f, hO⟩ := hO
  have hz := hC.2.2.2.2
  refine xMH.of RL hl (by decide +kernel) rfl (Nat.le_of_ble_eq_true rfl) rfl ?_
  intro p e s m args below meth cD C0
  refine x_aload_n 2 1 C0 dL_worth_0 rfl rfl rfl ?_
  refine x_iconst (v := 0) 2 C0 dL_worth_1 rfl (by decide) ?_
  refine x_aload_n 0 3 C0 dL_worth_2 rfl rfl rfl ?_
  refine x_iload_n 1 4 C0 dL_worth_3 rfl rfl rfl ?_
  refine x_callV 7 C0 (f_X7_worth l hl g w sz n x la t tt vb sg hC a1) dL_worth_4 rfl mC_X7_worth mM_L_60 mI_X7_worth mV_X7_worth mN_X7 yd_X7_worth rfl rfl ⟨(Nat.le_of_ble_eq_true rfl), (Nat.le_of_ble_eq_true rfl)⟩ hC.1.1 rfl rfl rfl rfl (Nat.le_of_ble_eq_true rfl) ⟨(Nat.le_of_ble_eq_true rfl), (Nat.le_of_ble_eq_true rfl)⟩ (fun E9 w9 sz9 q => ?_) (fun r w1 sz1 _ hP => ?_)
  · obtain ⟨hE, hC9, hF9, hz9⟩ := q
    have hX9 := hE
    simp only [List.mem_cons, List.not_mem_nil, or_false] at hE
    rcases hE with rfl
    refine x_catch "java/lang/IndexOutOfBoundsException" 12 [] ⟨0, 9, 12, 13⟩ [] C0 rfl (fun _ h => absurd h List.not_mem_nil) (by decide) (by decide) mK_L_13 (by decide +kernel) rfl (fun q9 => ?_)
    refine x_astore_n [(3, .ref q9), (0, .ref (g.2 0)), (1, .int a1), (2, .ref (g.2 0 + 267))] 13 C0 dL_worth_12 rfl rfl (by decide) rfl ?_
    refine x_iconst (v := 1) 14 C0 dL_worth_13 rfl (by decide) ?_
    exact x_ireturn C0 dL_worth_14 rfl rfl (Nat.le_of_ble_eq_true rfl) (Nat.le_of_ble_eq_true rfl) ⟨_, _, _, _, rfl, hz9, hF9.wf, hC9, Or.inr ⟨⟨f, hF9.o hz hO⟩, _, ⟨hX9, rfl, rfl, rfl⟩, by decide +kernel⟩⟩
  · obtain ⟨hR1, hC1, hF1, hz1⟩ := hP
    have hr9 := hR1
    obtain ⟨v, rfl⟩ := hR1
    refine x_st (st1 := [.int (v), .int 0, .ref (g.2 0 + 267)]) rfl ?_
    refine x_i2l (v := Int32.toInt64 (v)) 8 C0 dL_worth_7 rfl rfl ?_
    refine x_last 3 9 C0 dL_worth_8 rfl (hF1.o hz hO) (by show g.2 0 ≤ _; omega) rfl (by unfold vp_in; decide) ?_
    refine x_goto 15 C0 dL_worth_9 (by decide) ?_
    refine x_iconst (v := 0) 16 C0 dL_worth_15 rfl (by decide) ?_
    exact x_ireturn C0 dL_worth_16 rfl rfl (Nat.le_of_ble_eq_true rfl) (Nat.le_of_ble_eq_true rfl) ⟨_, _, _, _, rfl, hz1, hF1.wup, hC1.cell ⟨by omega, by omega⟩, Or.inl ⟨rfl, v, _, ⟨hr9, rfl, rfl, rfl⟩, xup_s _ _ _, rfl⟩⟩

set_option maxHeartbeats 4000000 in
set_option maxRecDepth 100000 in
theorem e_L_ranked (l : Launch) (hl : l.stackTraces = false) (g : xg_T) (w : xw_T) (sz n : Nat) (x : Nat → Nat → Int32) (la : Nat → Nat → Nat) (t tt : Nat → Int32) (vb : Option Nat) (sg : Nat → Int32) (hC : CR g w sz n x la t tt vb sg) (hO : wO g w) (a1 : Int32) : xMH l g yL_ranked cL_ranked 4 (some .int) [((0), (9), (12), (55))] ({ frames := 7, cells := 8, slots := 64, locals := 114 }) 8 64 [.ref (g.2 0), .int a1, .ref (g.2 0 + 267)] w sz (wU g w sz n tt vb sg (fun _ _ => stP x la t rI) (stX x la t ["java/util/NoSuchElementException"]) [("java/util/NoSuchElementException", 1)] cvI) (fun _ _ _ => False) := by
  obtain ⟨f, hO⟩ := hO
  have hz := hC.2.2.2.2
  refine xMH.of RL hl (by decide +kernel) rfl (Nat.le_of_ble_eq_true rfl) rfl ?_
  intro p e s m args below meth cD C0
  refine x_aload_n 2 1 C0 dL_ranked_0 rfl rfl rfl ?_
  refine x_iconst (v := 0) 2 C0 dL_ranked_1 rfl (by decide) ?_
  refine x_aload_n 0 3 C0 dL_ranked_2 rfl rfl rfl ?_
  refine x_iload_n 1 4 C0 dL_ranked_3 rfl rfl rfl ?_
  refine x_callV 7 C0 (f_X7_ranked l hl g w sz n x la t tt vb sg hC a1) dL_ranked_4 rfl mC_X7_ranked mM_L_63 mI_X7_ranked mV_X7_ranked mN_X7 yd_X7_ranked rfl rfl ⟨(Nat.le_of_ble_eq_true rfl), (Nat.le_of_ble_eq_true rfl)⟩ hC.1.1 rfl rfl rfl rfl (Nat.le_of_ble_eq_true rfl) ⟨(Nat.le_of_ble_eq_true rfl), (Nat.le_of_ble_eq_true rfl)⟩ (fun E9 w9 sz9 q => ?_) (fun r w1 sz1 _ hP => ?_)
  · obtain ⟨hE, hC9, hF9, hz9⟩ := q
    have hX9 := hE
    simp only [List.mem_cons, List.not_mem_nil, or_false] at hE
    rcases hE with rfl
    refine x_catch "java/util/NoSuchElementException" 12 [] ⟨0, 9, 12, 55⟩ [] C0 rfl (fun _ h => absurd h List.not_mem_nil) (by decide) (by decide) mK_L_55 (by decide +kernel) rfl (fun q9 => ?_)
    refine x_astore_n [(3, .ref q9), (0, .ref (g.2 0)), (1, .int a1), (2, .ref (g.2 0 + 267))] 13 C0 dL_ranked_12 rfl rfl (by decide) rfl ?_
    refine x_iconst (v := 1) 14 C0 dL_ranked_13 rfl (by decide) ?_
    exact x_ireturn C0 dL_ranked_14 rfl rfl (Nat.le_of_ble_eq_true rfl) (Nat.le_of_ble_eq_true rfl) ⟨_, _, _, _, rfl, hz9, hF9.wf, hC9, Or.inr ⟨⟨f, hF9.o hz hO⟩, _, ⟨hX9, rfl, rfl, rfl⟩, by decide +kernel⟩⟩
  · obtain ⟨hR1, hC1, hF1, hz1⟩ := hP
    have hr9 := hR1
    obtain ⟨v, rfl⟩ := hR1
    refine x_st (st1 := [.int (v), .int 0, .ref (g.2 0 + 267)]) rfl ?_
    refine x_i2l (v := Int32.toInt64 (v)) 8 C0 dL_ranked_7 rfl rfl ?_
    refine x_last 3 9 C0 dL_ranked_8 rfl (hF1.o hz hO) (by show g.2 0 ≤ _; omega) rfl (by unfold vp_in; decide) ?_
    refine x_goto 15 C0 dL_ranked_9 (by decide) ?_
    refine x_iconst (v := 0) 16 C0 dL_ranked_15 rfl (by decide) ?_
    exact x_ireturn C0 dL_ranked_16 rfl rfl (Nat.le_of_ble_eq_true rfl) (Nat.le_of_ble_eq_true rfl) ⟨_, _, _, _, rfl, hz1, hF1.wup, hC1.cell ⟨by omega, by omega⟩, Or.inl ⟨rfl, v, _, ⟨hr9, rfl, rfl, rfl⟩, xup_s _ _ _, rfl⟩⟩

set_option maxHeartbeats 4000000 in
set_option maxRecDepth 100000 in
theorem e_L_toQuay (l : Launch) (hl : l.stackTraces = false) (g : xg_T) (w : xw_T) (sz n : Nat) (x : Nat → Nat → Int32) (la : Nat → Nat → Nat) (t tt : Nat → Int32) (vb : Option Nat) (sg : Nat → Int32) (hC : CR g w sz n x la t tt vb sg) (LN0 : Nat → Nat) (LF0 : Nat → Nat → Int32) (hL0 : ∀ k, k < 20 → xTx g w sz (la 0 k) (LN0 k) (LF0 k)) (hO : wO g w) (a1 : Int32) : xMH l g yL_toQuay cL_toQuay 4 (some .int) [((0), (9), (12), (13)), ((0), (9), (15), (17))] ({ frames := 8, cells := 8, slots := 64, locals := 126 }) 8 64 [.ref (g.2 0), .int a1, .ref (g.2 0 + 267)] w sz (wU g w sz n tt vb sg (fun _ _ => L_X7_toQuay g x la t a1 LN0 LF0) (E_X7_toQuay g x la t a1 LN0 LF0) [("java/lang/IndexOutOfBoundsException", 1), ("java/lang/UnsupportedOperationException", 2)] cvI) (fun _ _ _ => False) := by
  obtain ⟨f, hO⟩ := hO
  have hz := hC.2.2.2.2
  refine xMH.of RL hl (by decide +kernel) rfl (Nat.le_of_ble_eq_true rfl) rfl ?_
  intro p e s m args below meth cD C0
  refine x_aload_n 2 1 C0 dL_toQuay_0 rfl rfl rfl ?_
  refine x_iconst (v := 0) 2 C0 dL_toQuay_1 rfl (by decide) ?_
  refine x_aload_n 0 3 C0 dL_toQuay_2 rfl rfl rfl ?_
  refine x_iload_n 1 4 C0 dL_toQuay_3 rfl rfl rfl ?_
  refine x_callV 7 C0 (e_X7_toQuay l hl g w sz n x la t tt vb sg hC a1 LN0 LF0 hL0) dL_toQuay_4 rfl mC_X7_toQuay mM_L_66 mI_X7_toQuay mV_X7_toQuay mN_X7 yd_X7_toQuay rfl rfl ⟨(Nat.le_of_ble_eq_true rfl), (Nat.le_of_ble_eq_true rfl)⟩ hC.1.1 rfl rfl rfl rfl (Nat.le_of_ble_eq_true rfl) ⟨(Nat.le_of_ble_eq_true rfl), (Nat.le_of_ble_eq_true rfl)⟩ (fun E9 w9 sz9 q => ?_) (fun r w1 sz1 _ hP => ?_)
  · obtain ⟨hF9, hz9, x9, la9, t9, hC9, hX9⟩ := q
    rcases ex_toQuay hX9 with rfl | rfl
    · refine x_catch "java/lang/IndexOutOfBoundsException" 12 [] ⟨0, 9, 12, 13⟩ [⟨0, 9, 15, 17⟩] C0 rfl (fun _ h => absurd h List.not_mem_nil) (by decide) (by decide) mK_L_13 (by decide +kernel) rfl (fun q9 => ?_)
      refine x_astore_n [(3, .ref q9), (0, .ref (g.2 0)), (1, .int a1), (2, .ref (g.2 0 + 267))] 13 C0 dL_toQuay_12 rfl rfl (by decide) rfl ?_
      refine x_iconst (v := 1) 14 C0 dL_toQuay_13 rfl (by decide) ?_
      exact x_ireturn C0 dL_toQuay_14 rfl rfl (Nat.le_of_ble_eq_true rfl) (Nat.le_of_ble_eq_true rfl) ⟨_, _, _, _, rfl, hz9, hF9.wf, hC9, Or.inr ⟨⟨f, hF9.o hz hO⟩, _, hX9, by decide +kernel⟩⟩
    · refine x_catch "java/lang/UnsupportedOperationException" 15 [⟨0, 9, 12, 13⟩] ⟨0, 9, 15, 17⟩ [] C0 rfl (List.forall_mem_cons.mpr ⟨⟨by decide, _, mK_L_13, by decide +kernel⟩, (fun _ h => absurd h List.not_mem_nil)⟩) (by decide) (by decide) mK_L_17 (by decide +kernel) rfl (fun q9 => ?_)
      refine x_astore_n [(3, .ref q9), (0, .ref (g.2 0)), (1, .int a1), (2, .ref (g.2 0 + 267))] 16 C0 dL_toQuay_15 rfl rfl (by decide) rfl ?_
      refine x_iconst (v := 2) 17 C0 dL_toQuay_16 rfl (by decide) ?_
      exact x_ireturn C0 dL_toQuay_17 rfl rfl (Nat.le_of_ble_eq_true rfl) (Nat.le_of_ble_eq_true rfl) ⟨_, _, _, _, rfl, hz9, hF9.wf, hC9, Or.inr ⟨⟨f, hF9.o hz hO⟩, _, hX9, by decide +kernel⟩⟩
  · obtain ⟨⟨v, rfl⟩, hF1, hz1, x1, la1, t1, hC1, hL1⟩ := hP
    refine x_st (st1 := [.int (v), .int 0, .ref (g.2 0 + 267)]) rfl ?_
    refine x_i2l (v := Int32.toInt64 (v)) 8 C0 dL_toQuay_7 rfl rfl ?_
    refine x_last 3 9 C0 dL_toQuay_8 rfl (hF1.o hz hO) (by show g.2 0 ≤ _; omega) rfl (by unfold vp_in; decide) ?_
    refine x_goto 18 C0 dL_toQuay_9 (by decide) ?_
    refine x_iconst (v := 0) 19 C0 dL_toQuay_18 rfl (by decide) ?_
    exact x_ireturn C0 dL_toQuay_19 rfl rfl (Nat.le_of_ble_eq_true rfl) (Nat.le_of_ble_eq_true rfl) ⟨_, _, _, _, rfl, hz1, hF1.wup, hC1.cell ⟨by omega, by omega⟩, Or.inl ⟨rfl, v, _, hL1, xup_s _ _ _, rfl⟩⟩

set_option maxHeartbeats 4000000 in
set_option maxRecDepth 100000 in
theorem e_L_load (l : Launch) (hl : l.stackTraces = false) (g : xg_T) (w : xw_T) (sz n : Nat) (x : Nat → Nat → Int32) (la : Nat → Nat → Nat) (t tt : Nat → Int32) (vb : Option Nat) (sg : Nat → Int32) (hC : CR g w sz n x la t tt vb sg) (hO : wO g w) (a1 : Int32) : xMH l g yL_load cL_load 4 (some .int) [((0), (9), (12), (13)), ((0), (9), (15), (17))] ({ frames := 8, cells := 8, slots := 64, locals := 126 }) 8 64 [.ref (g.2 0), .int a1, .ref (g.2 0 + 267)] w sz (wU g w sz n tt vb sg (fun _ _ => L_X7_load g x la t a1) (E_X7_load g x la t a1) [("java/lang/IndexOutOfBoundsException", 1), ("java/lang/UnsupportedOperationException", 2)] cvI) (fun _ _ _ => False) := by
  obtain ⟨f, hO⟩ := hO
  have hz := hC.2.2.2.2
  refine xMH.of RL hl (by decide +kernel) rfl (Nat.le_of_ble_eq_true rfl) rfl ?_
  intro p e s m args below meth cD C0
  refine x_aload_n 2 1 C0 dL_load_0 rfl rfl rfl ?_
  refine x_iconst (v := 0) 2 C0 dL_load_1 rfl (by decide) ?_
  refine x_aload_n 0 3 C0 dL_load_2 rfl rfl rfl ?_
  refine x_iload_n 1 4 C0 dL_load_3 rfl rfl rfl ?_
  refine x_callV 7 C0 (e_X7_load l hl g w sz n x la t tt vb sg hC a1) dL_load_4 rfl mC_X7_load mM_L_69 mI_X7_load mV_X7_load mN_X7 yd_X7_load rfl rfl ⟨(Nat.le_of_ble_eq_true rfl), (Nat.le_of_ble_eq_true rfl)⟩ hC.1.1 rfl rfl rfl rfl (Nat.le_of_ble_eq_true rfl) ⟨(Nat.le_of_ble_eq_true rfl), (Nat.le_of_ble_eq_true rfl)⟩ (fun E9 w9 sz9 q => ?_) (fun r w1 sz1 _ hP => ?_)
  · obtain ⟨hF9, hz9, x9, la9, t9, hC9, hX9⟩ := q
    rcases ex_load hX9 with rfl | rfl
    · refine x_catch "java/lang/IndexOutOfBoundsException" 12 [] ⟨0, 9, 12, 13⟩ [⟨0, 9, 15, 17⟩] C0 rfl (fun _ h => absurd h List.not_mem_nil) (by decide) (by decide) mK_L_13 (by decide +kernel) rfl (fun q9 => ?_)
      refine x_astore_n [(3, .ref q9), (0, .ref (g.2 0)), (1, .int a1), (2, .ref (g.2 0 + 267))] 13 C0 dL_load_12 rfl rfl (by decide) rfl ?_
      refine x_iconst (v := 1) 14 C0 dL_load_13 rfl (by decide) ?_
      exact x_ireturn C0 dL_load_14 rfl rfl (Nat.le_of_ble_eq_true rfl) (Nat.le_of_ble_eq_true rfl) ⟨_, _, _, _, rfl, hz9, hF9.wf, hC9, Or.inr ⟨⟨f, hF9.o hz hO⟩, _, hX9, by decide +kernel⟩⟩
    · refine x_catch "java/lang/UnsupportedOperationException" 15 [⟨0, 9, 12, 13⟩] ⟨0, 9, 15, 17⟩ [] C0 rfl (List.forall_mem_cons.mpr ⟨⟨by decide, _, mK_L_13, by decide +kernel⟩, (fun _ h => absurd h List.not_mem_nil)⟩) (by decide) (by decide) mK_L_17 (by decide +kernel) rfl (fun q9 => ?_)
      refine x_astore_n [(3, .ref q9), (0, .ref (g.2 0)), (1, .int a1), (2, .ref (g.2 0 + 267))] 16 C0 dL_load_15 rfl rfl (by decide) rfl ?_
      refine x_iconst (v := 2) 17 C0 dL_load_16 rfl (by decide) ?_
      exact x_ireturn C0 dL_load_17 rfl rfl (Nat.le_of_ble_eq_true rfl) (Nat.le_of_ble_eq_true rfl) ⟨_, _, _, _, rfl, hz9, hF9.wf, hC9, Or.inr ⟨⟨f, hF9.o hz hO⟩, _, hX9, by decide +kernel⟩⟩
  · obtain ⟨⟨v, rfl⟩, hF1, hz1, x1, la1, t1, hC1, hL1⟩ := hP
    refine x_st (st1 := [.int (v), .int 0, .ref (g.2 0 + 267)]) rfl ?_
    refine x_i2l (v := Int32.toInt64 (v)) 8 C0 dL_load_7 rfl rfl ?_
    refine x_last 3 9 C0 dL_load_8 rfl (hF1.o hz hO) (by show g.2 0 ≤ _; omega) rfl (by unfold vp_in; decide) ?_
    refine x_goto 18 C0 dL_load_9 (by decide) ?_
    refine x_iconst (v := 0) 19 C0 dL_load_18 rfl (by decide) ?_
    exact x_ireturn C0 dL_load_19 rfl rfl (Nat.le_of_ble_eq_true rfl) (Nat.le_of_ble_eq_true rfl) ⟨_, _, _, _, rfl, hz1, hF1.wup, hC1.cell ⟨by omega, by omega⟩, Or.inl ⟨rfl, v, _, hL1, xup_s _ _ _, rfl⟩⟩

set_option maxHeartbeats 4000000 in
set_option maxRecDepth 100000 in
theorem e_L_sail (l : Launch) (hl : l.stackTraces = false) (g : xg_T) (w : xw_T) (sz n : Nat) (x : Nat → Nat → Int32) (la : Nat → Nat → Nat) (t tt : Nat → Int32) (vb : Option Nat) (sg : Nat → Int32) (hC : CR g w sz n x la t tt vb sg) (hO : wO g w) : xMH l g yL_sail cL_sail 3 (some .int) [((0), (8), (11), (17))] ({ frames := 8, cells := 8, slots := 64, locals := 124 }) 8 64 [.ref (g.2 0), .ref (g.2 0 + 267)] w sz (wU g w sz n tt vb sg (fun _ _ => L_X7_sail g x la t) (E_X7_sail g x la t) [("java/lang/UnsupportedOperationException", 1)] cvI) (fun _ _ _ => False) := by
  obtain ⟨f, hO⟩ := hO
  have hz := hC.2.2.2.2
  refine xMH.of RL hl (by decide +kernel) rfl (Nat.le_of_ble_eq_true rfl) rfl ?_
  intro p e s m args below meth cD C0
  refine x_aload_n 1 1 C0 dL_sail_0 rfl rfl rfl ?_
  refine x_iconst (v := 0) 2 C0 dL_sail_1 rfl (by decide) ?_
  refine x_aload_n 0 3 C0 dL_sail_2 rfl rfl rfl ?_
  refine x_callV 6 C0 (e_X7_sail l hl g w sz n x la t tt vb sg hC) dL_sail_3 rfl mC_X7_sail mM_L_72 mI_X7_sail mV_X7_sail mN_X7 yd_X7_sail rfl rfl ⟨(Nat.le_of_ble_eq_true rfl), (Nat.le_of_ble_eq_true rfl)⟩ hC.1.1 rfl rfl rfl rfl (Nat.le_of_ble_eq_true rfl) ⟨(Nat.le_of_ble_eq_true rfl), (Nat.le_of_ble_eq_true rfl)⟩ (fun E9 w9 sz9 q => ?_) (fun r w1 sz1 _ hP => ?_)
  · obtain ⟨hF9, hz9, x9, la9, t9, hC9, hX9⟩ := q
    rcases ex_sail hX9 with rfl
    refine x_catch "java/lang/UnsupportedOperationException" 11 [] ⟨0, 8, 11, 17⟩ [] C0 rfl (fun _ h => absurd h List.not_mem_nil) (by decide) (by decide) mK_L_17 (by decide +kernel) rfl (fun q9 => ?_)
    refine x_astore_n [(2, .ref q9), (0, .ref (g.2 0)), (1, .ref (g.2 0 + 267))] 12 C0 dL_sail_11 rfl rfl (by decide) rfl ?_
    refine x_iconst (v := 1) 13 C0 dL_sail_12 rfl (by decide) ?_
    exact x_ireturn C0 dL_sail_13 rfl rfl (Nat.le_of_ble_eq_true rfl) (Nat.le_of_ble_eq_true rfl) ⟨_, _, _, _, rfl, hz9, hF9.wf, hC9, Or.inr ⟨⟨f, hF9.o hz hO⟩, _, hX9, by decide +kernel⟩⟩
  · obtain ⟨⟨v, rfl⟩, hF1, hz1, x1, la1, t1, hC1, hL1⟩ := hP
    refine x_st (st1 := [.int (v), .int 0, .ref (g.2 0 + 267)]) rfl ?_
    refine x_i2l (v := Int32.toInt64 (v)) 7 C0 dL_sail_6 rfl rfl ?_
    refine x_last 3 8 C0 dL_sail_7 rfl (hF1.o hz hO) (by show g.2 0 ≤ _; omega) rfl (by unfold vp_in; decide) ?_
    refine x_goto 14 C0 dL_sail_8 (by decide) ?_
    refine x_iconst (v := 0) 15 C0 dL_sail_14 rfl (by decide) ?_
    exact x_ireturn C0 dL_sail_15 rfl rfl (Nat.le_of_ble_eq_true rfl) (Nat.le_of_ble_eq_true rfl) ⟨_, _, _, _, rfl, hz1, hF1.wup, hC1.cell ⟨by omega, by omega⟩, Or.inl ⟨rfl, v, _, hL1, xup_s _ _ _, rfl⟩⟩

set_option maxHeartbeats 4000000 in
set_option maxRecDepth 100000 in
theorem e_L_height (l : Launch) (hl : l.stackTraces = false) (g : xg_T) (w : xw_T) (sz n : Nat) (x : Nat → Nat → Int32) (la : Nat → Nat → Nat) (t tt : Nat → Int32) (vb : Option Nat) (sg : Nat → Int32) (hC : CR g w sz n x la t tt vb sg) (hO : wO g w) (a1 : Int32) : xMH l g yL_height cL_height 4 (some .int) [((0), (9), (12), (15))] ({ frames := 8, cells := 8, slots := 64, locals := 125 }) 8 64 [.ref (g.2 0), .int a1, .ref (g.2 0 + 267)] w sz (wU g w sz n tt vb sg (fun _ _ => L_X7_height g x la t a1) (E_X7_height g x la t a1) [("java/lang/IllegalArgumentException", 1)] cvI) (fun _ _ _ => False) := by
  obtain ⟨f, hO⟩ := hO
  have hz := hC.2.2.2.2
  refine xMH.of RL hl (by decide +kernel) rfl (Nat.le_of_ble_eq_true rfl) rfl ?_
  intro p e s m args below meth cD C0
  refine x_aload_n 2 1 C0 dL_height_0 rfl rfl rfl ?_
  refine x_iconst (v := 0) 2 C0 dL_height_1 rfl (by decide) ?_
  refine x_aload_n 0 3 C0 dL_height_2 rfl rfl rfl ?_
  refine x_iload_n 1 4 C0 dL_height_3 rfl rfl rfl ?_
  refine x_callV 7 C0 (e_X7_height l hl g w sz n x la t tt vb sg hC a1) dL_height_4 rfl mC_X7_height mM_L_76 mI_X7_height mV_X7_height mN_X7 yd_X7_height rfl rfl ⟨(Nat.le_of_ble_eq_true rfl), (Nat.le_of_ble_eq_true rfl)⟩ hC.1.1 rfl rfl rfl rfl (Nat.le_of_ble_eq_true rfl) ⟨(Nat.le_of_ble_eq_true rfl), (Nat.le_of_ble_eq_true rfl)⟩ (fun E9 w9 sz9 q => ?_) (fun r w1 sz1 _ hP => ?_)
  · obtain ⟨hF9, hz9, x9, la9, t9, hC9, hX9⟩ := q
    rcases ex_height hX9 with rfl
    refine x_catch "java/lang/IllegalArgumentException" 12 [] ⟨0, 9, 12, 15⟩ [] C0 rfl (fun _ h => absurd h List.not_mem_nil) (by decide) (by decide) mK_L_15 (by decide +kernel) rfl (fun q9 => ?_)
    refine x_astore_n [(3, .ref q9), (0, .ref (g.2 0)), (1, .int a1), (2, .ref (g.2 0 + 267))] 13 C0 dL_height_12 rfl rfl (by decide) rfl ?_
    refine x_iconst (v := 1) 14 C0 dL_height_13 rfl (by decide) ?_
    exact x_ireturn C0 dL_height_14 rfl rfl (Nat.le_of_ble_eq_true rfl) (Nat.le_of_ble_eq_true rfl) ⟨_, _, _, _, rfl, hz9, hF9.wf, hC9, Or.inr ⟨⟨f, hF9.o hz hO⟩, _, hX9, by decide +kernel⟩⟩
  · obtain ⟨⟨v, rfl⟩, hF1, hz1, x1, la1, t1, hC1, hL1⟩ := hP
    refine x_st (st1 := [.int (v), .int 0, .ref (g.2 0 + 267)]) rfl ?_
    refine x_i2l (v := Int32.toInt64 (v)) 8 C0 dL_height_7 rfl rfl ?_
    refine x_last 3 9 C0 dL_height_8 rfl (hF1.o hz hO) (by show g.2 0 ≤ _; omega) rfl (by unfold vp_in; decide) ?_
    refine x_goto 15 C0 dL_height_9 (by decide) ?_
    refine x_iconst (v := 0) 16 C0 dL_height_15 rfl (by decide) ?_
    exact x_ireturn C0 dL_height_16 rfl rfl (Nat.le_of_ble_eq_true rfl) (Nat.le_of_ble_eq_true rfl) ⟨_, _, _, _, rfl, hz1, hF1.wup, hC1.cell ⟨by omega, by omega⟩, Or.inl ⟨rfl, v, _, hL1, xup_s _ _ _, rfl⟩⟩

set_option maxHeartbeats 4000000 in
set_option maxRecDepth 100000 in
theorem e_L_heightAgain (l : Launch) (hl : l.stackTraces = false) (g : xg_T) (w : xw_T) (sz n : Nat) (x : Nat → Nat → Int32) (la : Nat → Nat → Nat) (t tt : Nat → Int32) (vb : Option Nat) (sg : Nat → Int32) (hC : CR g w sz n x la t tt vb sg) (hO : wO g w) (a1 : Int32) : xMH l g yL_heightAgain cL_heightAgain 4 (some .int) [((0), (9), (12), (15))] ({ frames := 8, cells := 8, slots := 64, locals := 129 }) 8 64 [.ref (g.2 0), .int a1, .ref (g.2 0 + 267)] w sz (wU g w sz n tt vb sg (fun _ _ => stP x la t rI) (stX x la t ["java/lang/IllegalArgumentException"]) [("java/lang/IllegalArgumentException", 1)] cvI) (fun _ _ _ => False) := by
  obtain ⟨f, hO⟩ := hO
  have hz := hC.2.2.2.2
  refine xMH.of RL hl (by decide +kernel) rfl (Nat.le_of_ble_eq_true rfl) rfl ?_
  intro p e s m args below meth cD C0
  refine x_aload_n 2 1 C0 dL_heightAgain_0 rfl rfl rfl ?_
  refine x_iconst (v := 0) 2 C0 dL_heightAgain_1 rfl (by decide) ?_
  refine x_aload_n 0 3 C0 dL_heightAgain_2 rfl rfl rfl ?_
  refine x_iload_n 1 4 C0 dL_heightAgain_3 rfl rfl rfl ?_
  refine x_callV 7 C0 (f_X7_heightAgain l hl g w sz n x la t tt vb sg hC a1) dL_heightAgain_4 rfl mC_X7_heightAgain mM_L_79 mI_X7_heightAgain mV_X7_heightAgain mN_X7 yd_X7_heightAgain rfl rfl ⟨(Nat.le_of_ble_eq_true rfl), (Nat.le_of_ble_eq_true rfl)⟩ hC.1.1 rfl rfl rfl rfl (Nat.le_of_ble_eq_true rfl) ⟨(Nat.le_of_ble_eq_true rfl), (Nat.le_of_ble_eq_true rfl)⟩ (fun E9 w9 sz9 q => ?_) (fun r w1 sz1 _ hP => ?_)
  · obtain ⟨hE, hC9, hF9, hz9⟩ := q
    have hX9 := hE
    simp only [List.mem_cons, List.not_mem_nil, or_false] at hE
    rcases hE with rfl
    refine x_catch "java/lang/IllegalArgumentException" 12 [] ⟨0, 9, 12, 15⟩ [] C0 rfl (fun _ h => absurd h List.not_mem_nil) (by decide) (by decide) mK_L_15 (by decide +kernel) rfl (fun q9 => ?_)
    refine x_astore_n [(3, .ref q9), (0, .ref (g.2 0)), (1, .int a1), (2, .ref (g.2 0 + 267))] 13 C0 dL_heightAgain_12 rfl rfl (by decide) rfl ?_
    refine x_iconst (v := 1) 14 C0 dL_heightAgain_13 rfl (by decide) ?_
    exact x_ireturn C0 dL_heightAgain_14 rfl rfl (Nat.le_of_ble_eq_true rfl) (Nat.le_of_ble_eq_true rfl) ⟨_, _, _, _, rfl, hz9, hF9.wf, hC9, Or.inr ⟨⟨f, hF9.o hz hO⟩, _, ⟨hX9, rfl, rfl, rfl⟩, by decide +kernel⟩⟩
  · obtain ⟨hR1, hC1, hF1, hz1⟩ := hP
    have hr9 := hR1
    obtain ⟨v, rfl⟩ := hR1
    refine x_st (st1 := [.int (v), .int 0, .ref (g.2 0 + 267)]) rfl ?_
    refine x_i2l (v := Int32.toInt64 (v)) 8 C0 dL_heightAgain_7 rfl rfl ?_
    refine x_last 3 9 C0 dL_heightAgain_8 rfl (hF1.o hz hO) (by show g.2 0 ≤ _; omega) rfl (by unfold vp_in; decide) ?_
    refine x_goto 15 C0 dL_heightAgain_9 (by decide) ?_
    refine x_iconst (v := 0) 16 C0 dL_heightAgain_15 rfl (by decide) ?_
    exact x_ireturn C0 dL_heightAgain_16 rfl rfl (Nat.le_of_ble_eq_true rfl) (Nat.le_of_ble_eq_true rfl) ⟨_, _, _, _, rfl, hz1, hF1.wup, hC1.cell ⟨by omega, by omega⟩, Or.inl ⟨rfl, v, _, ⟨hr9, rfl, rfl, rfl⟩, xup_s _ _ _, rfl⟩⟩

set_option maxHeartbeats 4000000 in
set_option maxRecDepth 100000 in
theorem e_L_setHumidity (l : Launch) (hl : l.stackTraces = false) (g : xg_T) (w : xw_T) (sz n : Nat) (x : Nat → Nat → Int32) (la : Nat → Nat → Nat) (t tt : Nat → Int32) (vb : Option Nat) (sg : Nat → Int32) (hC : CR g w sz n x la t tt vb sg) (hO : wO g w) (a1 : Int32) : xMH l g yL_setHumidity cL_setHumidity 4 (some .int) [((0), (9), (12), (15))] ({ frames := 8, cells := 8, slots := 64, locals := 126 }) 8 64 [.ref (g.2 0), .int a1, .ref (g.2 0 + 267)] w sz (wU g w sz n tt vb sg (fun _ _ => L_X7_setHumidity g x la t a1) (E_X7_setHumidity g x la t a1) [("java/lang/IllegalArgumentException", 1)] cvI) (fun _ _ _ => False) := by
  obtain ⟨f, hO⟩ := hO
  have hz := hC.2.2.2.2
  refine xMH.of RL hl (by decide +kernel) rfl (Nat.le_of_ble_eq_true rfl) rfl ?_
  intro p e s m args below meth cD C0
  refine x_aload_n 2 1 C0 dL_setHumidity_0 rfl rfl rfl ?_
  refine x_iconst (v := 0) 2 C0 dL_setHumidity_1 rfl (by decide) ?_
  refine x_aload_n 0 3 C0 dL_setHumidity_2 rfl rfl rfl ?_
  refine x_iload_n 1 4 C0 dL_setHumidity_3 rfl rfl rfl ?_
  refine x_callV 7 C0 (e_X7_setHumidity l hl g w sz n x la t tt vb sg hC a1) dL_setHumidity_4 rfl mC_X7_setHumidity mM_L_82 mI_X7_setHumidity mV_X7_setHumidity mN_X7 yd_X7_setHumidity rfl rfl ⟨(Nat.le_of_ble_eq_true rfl), (Nat.le_of_ble_eq_true rfl)⟩ hC.1.1 rfl rfl rfl rfl (Nat.le_of_ble_eq_true rfl) ⟨(Nat.le_of_ble_eq_true rfl), (Nat.le_of_ble_eq_true rfl)⟩ (fun E9 w9 sz9 q => ?_) (fun r w1 sz1 _ hP => ?_)
  · obtain ⟨hF9, hz9, x9, la9, t9, hC9, hX9⟩ := q
    rcases ex_setHumidity hX9 with rfl
    refine x_catch "java/lang/IllegalArgumentException" 12 [] ⟨0, 9, 12, 15⟩ [] C0 rfl (fun _ h => absurd h List.not_mem_nil) (by decide) (by decide) mK_L_15 (by decide +kernel) rfl (fun q9 => ?_)
    refine x_astore_n [(3, .ref q9), (0, .ref (g.2 0)), (1, .int a1), (2, .ref (g.2 0 + 267))] 13 C0 dL_setHumidity_12 rfl rfl (by decide) rfl ?_
    refine x_iconst (v := 1) 14 C0 dL_setHumidity_13 rfl (by decide) ?_
    exact x_ireturn C0 dL_setHumidity_14 rfl rfl (Nat.le_of_ble_eq_true rfl) (Nat.le_of_ble_eq_true rfl) ⟨_, _, _, _, rfl, hz9, hF9.wf, hC9, Or.inr ⟨⟨f, hF9.o hz hO⟩, _, hX9, by decide +kernel⟩⟩
  · obtain ⟨⟨v, rfl⟩, hF1, hz1, x1, la1, t1, hC1, hL1⟩ := hP
    refine x_st (st1 := [.int (v), .int 0, .ref (g.2 0 + 267)]) rfl ?_
    refine x_i2l (v := Int32.toInt64 (v)) 8 C0 dL_setHumidity_7 rfl rfl ?_
    refine x_last 3 9 C0 dL_setHumidity_8 rfl (hF1.o hz hO) (by show g.2 0 ≤ _; omega) rfl (by unfold vp_in; decide) ?_
    refine x_goto 15 C0 dL_setHumidity_9 (by decide) ?_
    refine x_iconst (v := 0) 16 C0 dL_setHumidity_15 rfl (by decide) ?_
    exact x_ireturn C0 dL_setHumidity_16 rfl rfl (Nat.le_of_ble_eq_true rfl) (Nat.le_of_ble_eq_true rfl) ⟨_, _, _, _, rfl, hz1, hF1.wup, hC1.cell ⟨by omega, by omega⟩, Or.inl ⟨rfl, v, _, hL1, xup_s _ _ _, rfl⟩⟩

set_option maxHeartbeats 4000000 in
set_option maxRecDepth 100000 in
theorem e_L_pass (l : Launch) (hl : l.stackTraces = false) (g : xg_T) (w : xw_T) (sz n : Nat) (x : Nat → Nat → Int32) (la : Nat → Nat → Nat) (t tt : Nat → Int32) (vb : Option Nat) (sg : Nat → Int32) (hC : CR g w sz n x la t tt vb sg) (hO : wO g w) (a1 : Int32) : xMH l g yL_pass cL_pass 4 (some .int) [((0), (9), (12), (15))] ({ frames := 8, cells := 8, slots := 64, locals := 125 }) 8 64 [.ref (g.2 0), .int a1, .ref (g.2 0 + 267)] w sz (wU g w sz n tt vb sg (fun _ _ => L_X7_pass g x la t a1) (E_X7_pass g x la t a1) [("java/lang/IllegalArgumentException", 1)] cvI) (fun _ _ _ => False) := by
  obtain ⟨f, hO⟩ := hO
  have hz := hC.2.2.2.2
  refine xMH.of RL hl (by decide +kernel) rfl (Nat.le_of_ble_eq_true rfl) rfl ?_
  intro p e s m args below meth cD C0
  refine x_aload_n 2 1 C0 dL_pass_0 rfl rfl rfl ?_
  refine x_iconst (v := 0) 2 C0 dL_pass_1 rfl (by decide) ?_
  refine x_aload_n 0 3 C0 dL_pass_2 rfl rfl rfl ?_
  refine x_iload_n 1 4 C0 dL_pass_3 rfl rfl rfl ?_
  refine x_callV 7 C0 (e_X7_pass l hl g w sz n x la t tt vb sg hC a1) dL_pass_4 rfl mC_X7_pass mM_L_85 mI_X7_pass mV_X7_pass mN_X7 yd_X7_pass rfl rfl ⟨(Nat.le_of_ble_eq_true rfl), (Nat.le_of_ble_eq_true rfl)⟩ hC.1.1 rfl rfl rfl rfl (Nat.le_of_ble_eq_true rfl) ⟨(Nat.le_of_ble_eq_true rfl), (Nat.le_of_ble_eq_true rfl)⟩ (fun E9 w9 sz9 q => ?_) (fun r w1 sz1 _ hP => ?_)
  · obtain ⟨hF9, hz9, x9, la9, t9, hC9, hX9⟩ := q
    rcases ex_pass hX9 with rfl
    refine x_catch "java/lang/IllegalArgumentException" 12 [] ⟨0, 9, 12, 15⟩ [] C0 rfl (fun _ h => absurd h List.not_mem_nil) (by decide) (by decide) mK_L_15 (by decide +kernel) rfl (fun q9 => ?_)
    refine x_astore_n [(3, .ref q9), (0, .ref (g.2 0)), (1, .int a1), (2, .ref (g.2 0 + 267))] 13 C0 dL_pass_12 rfl rfl (by decide) rfl ?_
    refine x_iconst (v := 1) 14 C0 dL_pass_13 rfl (by decide) ?_
    exact x_ireturn C0 dL_pass_14 rfl rfl (Nat.le_of_ble_eq_true rfl) (Nat.le_of_ble_eq_true rfl) ⟨_, _, _, _, rfl, hz9, hF9.wf, hC9, Or.inr ⟨⟨f, hF9.o hz hO⟩, _, hX9, by decide +kernel⟩⟩
  · obtain ⟨⟨v, rfl⟩, hF1, hz1, x1, la1, t1, hC1, hL1⟩ := hP
    refine x_st (st1 := [.int (v), .int 0, .ref (g.2 0 + 267)]) rfl ?_
    refine x_i2l (v := Int32.toInt64 (v)) 8 C0 dL_pass_7 rfl rfl ?_
    refine x_last 3 9 C0 dL_pass_8 rfl (hF1.o hz hO) (by show g.2 0 ≤ _; omega) rfl (by unfold vp_in; decide) ?_
    refine x_goto 15 C0 dL_pass_9 (by decide) ?_
    refine x_iconst (v := 0) 16 C0 dL_pass_15 rfl (by decide) ?_
    exact x_ireturn C0 dL_pass_16 rfl rfl (Nat.le_of_ble_eq_true rfl) (Nat.le_of_ble_eq_true rfl) ⟨_, _, _, _, rfl, hz1, hF1.wup, hC1.cell ⟨by omega, by omega⟩, Or.inl ⟨rfl, v, _, hL1, xup_s _ _ _, rfl⟩⟩

set_option maxHeartbeats 4000000 in
set_option maxRecDepth 100000 in
theorem e_L_meanDamp (l : Launch) (hl : l.stackTraces = false) (g : xg_T) (w : xw_T) (sz n : Nat) (x : Nat → Nat → Int32) (la : Nat → Nat → Nat) (t tt : Nat → Int32) (vb : Option Nat) (sg : Nat → Int32) (hC : CR g w sz n x la t tt vb sg) (hD : wD g w) : xMH l g yL_meanDamp cL_meanDamp 3 (some .int) [((0), (7), (10), (92))] ({ frames := 7, cells := 8, slots := 64, locals := 103 }) 8 64 [.ref (g.2 0), .ref (g.2 0 + 268)] w sz (wUd g w sz n x la t tt vb sg) (fun _ _ _ => False) := by
  obtain ⟨f, hD⟩ := hD
  have hz := hC.2.2.2.2
  refine xMH.of RL hl (by decide +kernel) rfl (Nat.le_of_ble_eq_true rfl) rfl ?_
  intro p e s m args below meth cD C0
  refine x_aload_n 1 1 C0 dL_meanDamp_0 rfl rfl rfl ?_
  refine x_iconst (v := 0) 2 C0 dL_meanDamp_1 rfl (by decide) ?_
  refine x_aload_n 0 3 C0 dL_meanDamp_2 rfl rfl rfl ?_
  refine x_callV 6 C0 (f_X7_meanDamp l hl g w sz n x la t tt vb sg hC) dL_meanDamp_3 rfl mC_X7_meanDamp mM_L_88 mI_X7_meanDamp mV_X7_meanDamp mN_X7 yd_X7_meanDamp rfl rfl ⟨(Nat.le_of_ble_eq_true rfl), (Nat.le_of_ble_eq_true rfl)⟩ hC.1.1 rfl rfl rfl rfl (Nat.le_of_ble_eq_true rfl) ⟨(Nat.le_of_ble_eq_true rfl), (Nat.le_of_ble_eq_true rfl)⟩ (fun E9 w9 sz9 q => ?_) (fun r w1 sz1 _ hP => ?_)
  · obtain ⟨hE, hC9, hF9, hz9⟩ := q
    have hX9 := hE
    simp only [List.mem_cons, List.not_mem_nil, or_false] at hE
    rcases hE with rfl
    refine x_catch "java/lang/ArithmeticException" 10 [] ⟨0, 7, 10, 92⟩ [] C0 rfl (fun _ h => absurd h List.not_mem_nil) (by decide) (by decide) mK_L_92 (by decide +kernel) rfl (fun q9 => ?_)
    refine x_astore_n [(2, .ref q9), (0, .ref (g.2 0)), (1, .ref (g.2 0 + 268))] 11 C0 dL_meanDamp_10 rfl rfl (by decide) rfl ?_
    refine x_iconst (v := 1) 12 C0 dL_meanDamp_11 rfl (by decide) ?_
    exact x_ireturn C0 dL_meanDamp_12 rfl rfl (Nat.le_of_ble_eq_true rfl) (Nat.le_of_ble_eq_true rfl) ⟨⟨_, rfl⟩, hz9, hF9.wf, ⟨f, hF9.d hz hD⟩, hC9⟩
  · obtain ⟨hR1, hC1, hF1, hz1⟩ := hP
    have hr9 := hR1
    obtain ⟨v, rfl⟩ := hR1
    refine x_st (st1 := [.double (v), .int 0, .ref (g.2 0 + 268)]) rfl ?_
    refine x_dast 4 7 C0 dL_meanDamp_6 rfl (hF1.d hz hD) (by show g.2 0 ≤ _; omega) rfl (by unfold vp_in; decide) ?_
    refine x_goto 13 C0 dL_meanDamp_7 (by decide) ?_
    refine x_iconst (v := 0) 14 C0 dL_meanDamp_13 rfl (by decide) ?_
    exact x_ireturn C0 dL_meanDamp_14 rfl rfl (Nat.le_of_ble_eq_true rfl) (Nat.le_of_ble_eq_true rfl) ⟨⟨_, rfl⟩, hz1, hF1.wup, ⟨_, xup_s _ _ _⟩, hC1.cell ⟨by omega, by omega⟩⟩

set_option maxHeartbeats 4000000 in
set_option maxRecDepth 100000 in
theorem e_L_sailedShare (l : Launch) (hl : l.stackTraces = false) (g : xg_T) (w : xw_T) (sz n : Nat) (x : Nat → Nat → Int32) (la : Nat → Nat → Nat) (t tt : Nat → Int32) (vb : Option Nat) (sg : Nat → Int32) (hC : CR g w sz n x la t tt vb sg) (hD : wD g w) : xMH l g yL_sailedShare cL_sailedShare 3 (some .int) [((0), (8), (11), (92))] ({ frames := 7, cells := 8, slots := 64, locals := 102 }) 8 64 [.ref (g.2 0), .ref (g.2 0 + 268)] w sz (wUd g w sz n x la t tt vb sg) (fun _ _ _ => False) := by
  obtain ⟨f, hD⟩ := hD
  have hz := hC.2.2.2.2
  refine xMH.of RL hl (by decide +kernel) rfl (Nat.le_of_ble_eq_true rfl) rfl ?_
  intro p e s m args below meth cD C0
  refine x_aload_n 1 1 C0 dL_sailedShare_0 rfl rfl rfl ?_
  refine x_iconst (v := 0) 2 C0 dL_sailedShare_1 rfl (by decide) ?_
  refine x_aload_n 0 3 C0 dL_sailedShare_2 rfl rfl rfl ?_
  refine x_callV 6 C0 (f_X7_sailedShare l hl g w sz n x la t tt vb sg hC) dL_sailedShare_3 rfl mC_X7_sailedShare mM_L_94 mI_X7_sailedShare mV_X7_sailedShare mN_X7 yd_X7_sailedShare rfl rfl ⟨(Nat.le_of_ble_eq_true rfl), (Nat.le_of_ble_eq_true rfl)⟩ hC.1.1 rfl rfl rfl rfl (Nat.le_of_ble_eq_true rfl) ⟨(Nat.le_of_ble_eq_true rfl), (Nat.le_of_ble_eq_true rfl)⟩ (fun E9 w9 sz9 q => ?_) (fun r w1 sz1 _ hP => ?_)
  · obtain ⟨hE, hC9, hF9, hz9⟩ := q
    have hX9 := hE
    simp only [List.mem_cons, List.not_mem_nil, or_false] at hE
    rcases hE with rfl
    refine x_catch "java/lang/ArithmeticException" 11 [] ⟨0, 8, 11, 92⟩ [] C0 rfl (fun _ h => absurd h List.not_mem_nil) (by decide) (by decide) mK_L_92 (by decide +kernel) rfl (fun q9 => ?_)
    refine x_astore_n [(2, .ref q9), (0, .ref (g.2 0)), (1, .ref (g.2 0 + 268))] 12 C0 dL_sailedShare_11 rfl rfl (by decide) rfl ?_
    refine x_iconst (v := 1) 13 C0 dL_sailedShare_12 rfl (by decide) ?_
    exact x_ireturn C0 dL_sailedShare_13 rfl rfl (Nat.le_of_ble_eq_true rfl) (Nat.le_of_ble_eq_true rfl) ⟨⟨_, rfl⟩, hz9, hF9.wf, ⟨f, hF9.d hz hD⟩, hC9⟩
  · obtain ⟨hR1, hC1, hF1, hz1⟩ := hP
    have hr9 := hR1
    obtain ⟨v, rfl, hv⟩ := hR1
    refine x_st (st1 := [.float (v), .int 0, .ref (g.2 0 + 268)]) rfl ?_
    refine x_f2d 7 C0 dL_sailedShare_6 rfl (f2d_ok hv) ?_
    refine x_dast 4 8 C0 dL_sailedShare_7 rfl (hF1.d hz hD) (by show g.2 0 ≤ _; omega) rfl (by unfold vp_in; decide) ?_
    refine x_goto 14 C0 dL_sailedShare_8 (by decide) ?_
    refine x_iconst (v := 0) 15 C0 dL_sailedShare_14 rfl (by decide) ?_
    exact x_ireturn C0 dL_sailedShare_15 rfl rfl (Nat.le_of_ble_eq_true rfl) (Nat.le_of_ble_eq_true rfl) ⟨⟨_, rfl⟩, hz1, hF1.wup, ⟨_, xup_s _ _ _⟩, hC1.cell ⟨by omega, by omega⟩⟩

set_option maxHeartbeats 4000000 in
set_option maxRecDepth 100000 in
theorem e_L_reason (l : Launch) (hl : l.stackTraces = false) (g : xg_T) (w : xw_T) (sz n : Nat) (x : Nat → Nat → Int32) (la : Nat → Nat → Nat) (t tt : Nat → Int32) (vb : Option Nat) (sg : Nat → Int32) (hC : CR g w sz n x la t tt vb sg) (hO : wO g w) (a1 : Int32) : xMH l g yL_reason cL_reason 4 (some .int) [((0), (9), (12), (55))] ({ frames := 7, cells := 8, slots := 64, locals := 103 }) 8 64 [.ref (g.2 0), .int a1, .ref (g.2 0 + 267)] w sz (wU g w sz n tt vb sg (fun _ _ => stP x la t rI) (stX x la t ["java/util/NoSuchElementException"]) [("java/util/NoSuchElementException", 1)] cvI) (fun _ _ _ => False) := by
  obtain ⟨f, hO⟩ := hO
  have hz := hC.2.2.2.2
  refine xMH.of RL hl (by decide +kernel) rfl (Nat.le_of_ble_eq_true rfl) rfl ?_
  intro p e s m args below meth cD C0
  refine x_aload_n 2 1 C0 dL_reason_0 rfl rfl rfl ?_
  refine x_iconst (v := 0) 2 C0 dL_reason_1 rfl (by decide) ?_
  refine x_aload_n 0 3 C0 dL_reason_2 rfl rfl rfl ?_
  refine x_iload_n 1 4 C0 dL_reason_3 rfl rfl rfl ?_
  refine x_callV 7 C0 (f_X7_reason l hl g w sz n x la t tt vb sg hC a1) dL_reason_4 rfl mC_X7_reason mM_L_98 mI_X7_reason mV_X7_reason mN_X7 yd_X7_reason rfl rfl ⟨(Nat.le_of_ble_eq_true rfl), (Nat.le_of_ble_eq_true rfl)⟩ hC.1.1 rfl rfl rfl rfl (Nat.le_of_ble_eq_true rfl) ⟨(Nat.le_of_ble_eq_true rfl), (Nat.le_of_ble_eq_true rfl)⟩ (fun E9 w9 sz9 q => ?_) (fun r w1 sz1 _ hP => ?_)
  · obtain ⟨hE, hC9, hF9, hz9⟩ := q
    have hX9 := hE
    simp only [List.mem_cons, List.not_mem_nil, or_false] at hE
    rcases hE with rfl
    refine x_catch "java/util/NoSuchElementException" 12 [] ⟨0, 9, 12, 55⟩ [] C0 rfl (fun _ h => absurd h List.not_mem_nil) (by decide) (by decide) mK_L_55 (by decide +kernel) rfl (fun q9 => ?_)
    refine x_astore_n [(3, .ref q9), (0, .ref (g.2 0)), (1, .int a1), (2, .ref (g.2 0 + 267))] 13 C0 dL_reason_12 rfl rfl (by decide) rfl ?_
    refine x_iconst (v := 1) 14 C0 dL_reason_13 rfl (by decide) ?_
    exact x_ireturn C0 dL_reason_14 rfl rfl (Nat.le_of_ble_eq_true rfl) (Nat.le_of_ble_eq_true rfl) ⟨_, _, _, _, rfl, hz9, hF9.wf, hC9, Or.inr ⟨⟨f, hF9.o hz hO⟩, _, ⟨hX9, rfl, rfl, rfl⟩, by decide +kernel⟩⟩
  · obtain ⟨hR1, hC1, hF1, hz1⟩ := hP
    have hr9 := hR1
    obtain ⟨v, rfl⟩ := hR1
    refine x_st (st1 := [.int (v), .int 0, .ref (g.2 0 + 267)]) rfl ?_
    refine x_i2l (v := Int32.toInt64 (v)) 8 C0 dL_reason_7 rfl rfl ?_
    refine x_last 3 9 C0 dL_reason_8 rfl (hF1.o hz hO) (by show g.2 0 ≤ _; omega) rfl (by unfold vp_in; decide) ?_
    refine x_goto 15 C0 dL_reason_9 (by decide) ?_
    refine x_iconst (v := 0) 16 C0 dL_reason_15 rfl (by decide) ?_
    exact x_ireturn C0 dL_reason_16 rfl rfl (Nat.le_of_ble_eq_true rfl) (Nat.le_of_ble_eq_true rfl) ⟨_, _, _, _, rfl, hz1, hF1.wup, hC1.cell ⟨by omega, by omega⟩, Or.inl ⟨rfl, v, _, ⟨hr9, rfl, rfl, rfl⟩, xup_s _ _ _, rfl⟩⟩

set_option maxHeartbeats 4000000 in
set_option maxRecDepth 100000 in
theorem e_L_account (l : Launch) (hl : l.stackTraces = false) (g : xg_T) (w : xw_T) (sz n : Nat) (x : Nat → Nat → Int32) (la : Nat → Nat → Nat) (t tt : Nat → Int32) (vb : Option Nat) (sg : Nat → Int32) (hC : CR g w sz n x la t tt vb sg) (hO : wO g w) (a1 : Int32) : xMH l g yL_account cL_account 4 (some .int) [((0), (9), (12), (15))] ({ frames := 7, cells := 8, slots := 64, locals := 109 }) 8 64 [.ref (g.2 0), .int a1, .ref (g.2 0 + 267)] w sz (wU g w sz n tt vb sg (fun _ _ => stP x la t rI) (stX x la t ["java/lang/IllegalArgumentException"]) [("java/lang/IllegalArgumentException", 1)] cvI) (fun _ _ _ => False) := by
  obtain ⟨f, hO⟩ := hO
  have hz := hC.2.2.2.2
  refine xMH.of RL hl (by decide +kernel) rfl (Nat.le_of_ble_eq_true rfl) rfl ?_
  intro p e s m args below meth cD C0
  refine x_aload_n 2 1 C0 dL_account_0 rfl rfl rfl ?_
  refine x_iconst (v := 0) 2 C0 dL_account_1 rfl (by decide) ?_
  refine x_aload_n 0 3 C0 dL_account_2 rfl rfl rfl ?_
  refine x_iload_n 1 4 C0 dL_account_3 rfl rfl rfl ?_
  refine x_callV 7 C0 (f_X7_account l hl g w sz n x la t tt vb sg hC a1) dL_account_4 rfl mC_X7_account mM_L_102 mI_X7_account mV_X7_account mN_X7 yd_X7_account rfl rfl ⟨(Nat.le_of_ble_eq_true rfl), (Nat.le_of_ble_eq_true rfl)⟩ hC.1.1 rfl rfl rfl rfl (Nat.le_of_ble_eq_true rfl) ⟨(Nat.le_of_ble_eq_true rfl), (Nat.le_of_ble_eq_true rfl)⟩ (fun E9 w9 sz9 q => ?_) (fun r w1 sz1 _ hP => ?_)
  · obtain ⟨hE, hC9, hF9, hz9⟩ := q
    have hX9 := hE
    simp only [List.mem_cons, List.not_mem_nil, or_false] at hE
    rcases hE with rfl
    refine x_catch "java/lang/IllegalArgumentException" 12 [] ⟨0, 9, 12, 15⟩ [] C0 rfl (fun _ h => absurd h List.not_mem_nil) (by decide) (by decide) mK_L_15 (by decide +kernel) rfl (fun q9 => ?_)
    refine x_astore_n [(3, .ref q9), (0, .ref (g.2 0)), (1, .int a1), (2, .ref (g.2 0 + 267))] 13 C0 dL_account_12 rfl rfl (by decide) rfl ?_
    refine x_iconst (v := 1) 14 C0 dL_account_13 rfl (by decide) ?_
    exact x_ireturn C0 dL_account_14 rfl rfl (Nat.le_of_ble_eq_true rfl) (Nat.le_of_ble_eq_true rfl) ⟨_, _, _, _, rfl, hz9, hF9.wf, hC9, Or.inr ⟨⟨f, hF9.o hz hO⟩, _, ⟨hX9, rfl, rfl, rfl⟩, by decide +kernel⟩⟩
  · obtain ⟨hR1, hC1, hF1, hz1⟩ := hP
    have hr9 := hR1
    obtain ⟨v, rfl⟩ := hR1
    refine x_st (st1 := [.int (v), .int 0, .ref (g.2 0 + 267)]) rfl ?_
    refine x_i2l (v := Int32.toInt64 (v)) 8 C0 dL_account_7 rfl rfl ?_
    refine x_last 3 9 C0 dL_account_8 rfl (hF1.o hz hO) (by show g.2 0 ≤ _; omega) rfl (by unfold vp_in; decide) ?_
    refine x_goto 15 C0 dL_account_9 (by decide) ?_
    refine x_iconst (v := 0) 16 C0 dL_account_15 rfl (by decide) ?_
    exact x_ireturn C0 dL_account_16 rfl rfl (Nat.le_of_ble_eq_true rfl) (Nat.le_of_ble_eq_true rfl) ⟨_, _, _, _, rfl, hz1, hF1.wup, hC1.cell ⟨by omega, by omega⟩, Or.inl ⟨rfl, v, _, ⟨hr9, rfl, rfl, rfl⟩, xup_s _ _ _, rfl⟩⟩

set_option maxHeartbeats 4000000 in
set_option maxRecDepth 100000 in
theorem e_L_feed (l : Launch) (hl : l.stackTraces = false) (g : xg_T) (w : xw_T) (sz n : Nat) (x : Nat → Nat → Int32) (la : Nat → Nat → Nat) (t tt : Nat → Int32) (vb : Option Nat) (sg : Nat → Int32) (hC : CR g w sz n x la t tt vb sg) (hO : wO g w) (a1 : Int32) : xMH l g yL_feed cL_feed 4 (some .int) [((0), (9), (12), (109))] ({ frames := 7, cells := 8, slots := 64, locals := 103 }) 8 64 [.ref (g.2 0), .int a1, .ref (g.2 0 + 267)] w sz (wFd g w sz n x la t tt vb sg a1) (fun _ _ _ => False) := by
  obtain ⟨f, hO⟩ := hO
  have hz := hC.2.2.2.2
  refine xMH.of RL hl (by decide +kernel) rfl (Nat.le_of_ble_eq_true rfl) rfl ?_
  intro p e s m args below meth cD C0
  refine x_aload_n 2 1 C0 dL_feed_0 rfl rfl rfl ?_
  refine x_iconst (v := 0) 2 C0 dL_feed_1 rfl (by decide) ?_
  refine x_aload_n 0 3 C0 dL_feed_2 rfl rfl rfl ?_
  refine x_iload_n 1 4 C0 dL_feed_3 rfl rfl rfl ?_
  refine x_callV 7 C0 (e_X7_feed l hl g w sz n x la t tt vb sg hC a1) dL_feed_4 rfl mC_X7_feed mM_L_105 mI_X7_feed mV_X7_feed mN_X7 yd_X7_feed rfl rfl ⟨(Nat.le_of_ble_eq_true rfl), (Nat.le_of_ble_eq_true rfl)⟩ hC.1.1 rfl rfl rfl rfl (Nat.le_of_ble_eq_true rfl) ⟨(Nat.le_of_ble_eq_true rfl), (Nat.le_of_ble_eq_true rfl)⟩ (fun E9 w9 sz9 q => ?_) (fun r w1 sz1 _ hP => ?_)
  · obtain ⟨rfl, hn, hI9, hF9, hz9⟩ := q
    refine x_catch "java/lang/IllegalStateException" 12 [] ⟨0, 9, 12, 109⟩ [] C0 rfl (fun _ h => absurd h List.not_mem_nil) (by decide) (by decide) mK_L_109 (by decide +kernel) rfl (fun q9 => ?_)
    refine x_astore_n [(3, .ref q9), (0, .ref (g.2 0)), (1, .int a1), (2, .ref (g.2 0 + 267))] 13 C0 dL_feed_12 rfl rfl (by decide) rfl ?_
    refine x_iconst (v := 1) 14 C0 dL_feed_13 rfl (by decide) ?_
    exact x_ireturn C0 dL_feed_14 rfl rfl (Nat.le_of_ble_eq_true rfl) (Nat.le_of_ble_eq_true rfl) ⟨hF9.wf, hz9, Or.inr ⟨hn, rfl, hI9, f, hF9.o hz hO⟩⟩
  · obtain ⟨hn, rfl, hI1, hF1, hz1⟩ := hP
    refine x_st (st1 := [.int (nI (n + 1)), .int 0, .ref (g.2 0 + 267)]) rfl ?_
    refine x_i2l (v := Int32.toInt64 (nI (n + 1))) 8 C0 dL_feed_7 rfl rfl ?_
    refine x_last 3 9 C0 dL_feed_8 rfl (hF1.o hz hO) (by show g.2 0 ≤ _; omega) rfl (by unfold vp_in; decide) ?_
    refine x_goto 15 C0 dL_feed_9 (by decide) ?_
    refine x_iconst (v := 0) 16 C0 dL_feed_15 rfl (by decide) ?_
    exact x_ireturn C0 dL_feed_16 rfl rfl (Nat.le_of_ble_eq_true rfl) (Nat.le_of_ble_eq_true rfl) ⟨hF1.wup, hz1, Or.inl ⟨hn, rfl, hI1.cell ⟨by omega, by omega⟩, _, xup_s _ _ _, rfl⟩⟩

set_option maxHeartbeats 4000000 in
set_option maxRecDepth 100000 in
theorem e_L_perform (l : Launch) (hl : l.stackTraces = false) (g : xg_T) (w : xw_T) (sz n : Nat) (x : Nat → Nat → Int32) (la : Nat → Nat → Nat) (t tt : Nat → Int32) (vb : Option Nat) (sg : Nat → Int32) (hC : CR g w sz n x la t tt vb sg) (v0 : Nat → Int32) (ln : Nat → Nat) (lf : Nat → Nat → Int32) (hL : ∀ k, k < 20 → xTx g w sz (la 0 k) (ln k) (lf k)) (hA0 : alk (x 0) v0) (hB0 : lbl ln lf (x 0) v0) (c0 : Nat) (hc0 : c0 < 2 ^ 31) (ht1 : t 1 = nI c0) (hO : wO g w) : xMH l g yL_perform cL_perform 3 (some .int) [((0), (8), (11), (17))] ({ frames := 11, cells := 256, slots := 2500, locals := 259 }) 256 2500 [.ref (g.2 0), .ref (g.2 0 + 267)] w sz (wUp g w sz n x la t sg v0 c0) (fun _ _ _ => False) := by
  obtain ⟨f, hO⟩ := hO
  have hz := hC.2.2.2.2
  refine xMH.of RL hl (by decide +kernel) rfl (Nat.le_of_ble_eq_true rfl) rfl ?_
  intro p e s m args below meth cD C0
  refine x_aload_n 1 1 C0 dL_perform_0 rfl rfl rfl ?_
  refine x_iconst (v := 0) 2 C0 dL_perform_1 rfl (by decide) ?_
  refine x_aload_n 0 3 C0 dL_perform_2 rfl rfl rfl ?_
  refine x_callV 6 C0 (e_X7_perform l hl g w sz n x la t tt vb sg hC v0 ln lf hL hA0 hB0 c0 hc0 ht1) dL_perform_3 rfl mC_X7_perform mM_L_111 mI_X7_perform mV_X7_perform mN_X7 yd_X7_perform rfl rfl ⟨(Nat.le_of_ble_eq_true rfl), (Nat.le_of_ble_eq_true rfl)⟩ hC.1.1 rfl rfl rfl rfl (Nat.le_of_ble_eq_true rfl) ⟨(Nat.le_of_ble_eq_true rfl), (Nat.le_of_ble_eq_true rfl)⟩ (fun E9 w9 sz9 q => ?_) (fun r w1 sz1 _ hP => ?_)
  · obtain ⟨rfl, hF9, hz9, x9, la9, tt9, vb9, hC9, hX9⟩ := q
    refine x_catch "java/lang/UnsupportedOperationException" 11 [] ⟨0, 8, 11, 17⟩ [] C0 rfl (fun _ h => absurd h List.not_mem_nil) (by decide) (by decide) mK_L_17 (by decide +kernel) rfl (fun q9 => ?_)
    refine x_astore_n [(2, .ref q9), (0, .ref (g.2 0)), (1, .ref (g.2 0 + 267))] 12 C0 dL_perform_11 rfl rfl (by decide) rfl ?_
    refine x_iconst (v := 1) 13 C0 dL_perform_12 rfl (by decide) ?_
    exact x_ireturn C0 dL_perform_13 rfl rfl (Nat.le_of_ble_eq_true rfl) (Nat.le_of_ble_eq_true rfl) ⟨_, x9, la9, t, tt9, vb9, rfl, hz9, hF9.wf, hC9, Or.inr ⟨⟨f, hF9.o hz hO⟩, rfl, rfl, hX9⟩⟩
  · obtain ⟨hF1, hz1, x1, la1, t1, tt1, vb1, hC1, hL1⟩ := hP
    obtain ⟨v, rfl⟩ : ∃ v : Int32, r = some (.int v) := hL1.elim (fun ⟨e, _, _, q, _⟩ => ⟨_, q⟩) (fun ⟨N, _, q, _⟩ => ⟨_, q⟩)
    refine x_st (st1 := [.int (v), .int 0, .ref (g.2 0 + 267)]) rfl ?_
    refine x_i2l (v := Int32.toInt64 (v)) 7 C0 dL_perform_6 rfl rfl ?_
    refine x_last 3 8 C0 dL_perform_7 rfl (hF1.o hz hO) (by show g.2 0 ≤ _; omega) rfl (by unfold vp_in; decide) ?_
    refine x_goto 14 C0 dL_perform_8 (by decide) ?_
    refine x_iconst (v := 0) 15 C0 dL_perform_14 rfl (by decide) ?_
    exact x_ireturn C0 dL_perform_15 rfl rfl (Nat.le_of_ble_eq_true rfl) (Nat.le_of_ble_eq_true rfl) ⟨_, x1, la1, t1, tt1, vb1, rfl, hz1, hF1.wup, hC1.cell ⟨by omega, by omega⟩, Or.inl ⟨rfl, v, _, pf_go hL1 (fun q q1 q2 => xup_n (by omega)), xup_s _ _ _, rfl⟩⟩

set_option maxHeartbeats 4000000 in
set_option maxRecDepth 100000 in
theorem e_L_undo (l : Launch) (hl : l.stackTraces = false) (g : xg_T) (w : xw_T) (sz n : Nat) (x : Nat → Nat → Int32) (la : Nat → Nat → Nat) (t tt : Nat → Int32) (vb : Option Nat) (sg : Nat → Int32) (hC : CR g w sz n x la t tt vb sg) (hO : wO g w) : xMH l g yL_undo cL_undo 3 (some .int) [((0), (8), (11), (109))] ({ frames := 7, cells := 8, slots := 64, locals := 103 }) 8 64 [.ref (g.2 0), .ref (g.2 0 + 267)] w sz (wU g w sz n tt vb sg (fun _ _ => L_X7_undo g x la t) (E_X7_undo g x la t) [("java/lang/IllegalStateException", 1)] cvI) (fun _ _ _ => False) := by
  obtain ⟨f, hO⟩ := hO
  have hz := hC.2.2.2.2
  refine xMH.of RL hl (by decide +kernel) rfl (Nat.le_of_ble_eq_true rfl) rfl ?_
  intro p e s m args below meth cD C0
  refine x_aload_n 1 1 C0 dL_undo_0 rfl rfl rfl ?_
  refine x_iconst (v := 0) 2 C0 dL_undo_1 rfl (by decide) ?_
  refine x_aload_n 0 3 C0 dL_undo_2 rfl rfl rfl ?_
  refine x_callV 6 C0 (e_X7_undo l hl g w sz n x la t tt vb sg hC) dL_undo_3 rfl mC_X7_undo mM_L_114 mI_X7_undo mV_X7_undo mN_X7 yd_X7_undo rfl rfl ⟨(Nat.le_of_ble_eq_true rfl), (Nat.le_of_ble_eq_true rfl)⟩ hC.1.1 rfl rfl rfl rfl (Nat.le_of_ble_eq_true rfl) ⟨(Nat.le_of_ble_eq_true rfl), (Nat.le_of_ble_eq_true rfl)⟩ (fun E9 w9 sz9 q => ?_) (fun r w1 sz1 _ hP => ?_)
  · obtain ⟨hF9, hz9, x9, la9, t9, hC9, hX9⟩ := q
    rcases ex_undo hX9 with rfl
    refine x_catch "java/lang/IllegalStateException" 11 [] ⟨0, 8, 11, 109⟩ [] C0 rfl (fun _ h => absurd h List.not_mem_nil) (by decide) (by decide) mK_L_109 (by decide +kernel) rfl (fun q9 => ?_)
    refine x_astore_n [(2, .ref q9), (0, .ref (g.2 0)), (1, .ref (g.2 0 + 267))] 12 C0 dL_undo_11 rfl rfl (by decide) rfl ?_
    refine x_iconst (v := 1) 13 C0 dL_undo_12 rfl (by decide) ?_
    exact x_ireturn C0 dL_undo_13 rfl rfl (Nat.le_of_ble_eq_true rfl) (Nat.le_of_ble_eq_true rfl) ⟨_, _, _, _, rfl, hz9, hF9.wf, hC9, Or.inr ⟨⟨f, hF9.o hz hO⟩, _, hX9, by decide +kernel⟩⟩
  · obtain ⟨⟨v, rfl⟩, hF1, hz1, x1, la1, t1, hC1, hL1⟩ := hP
    refine x_st (st1 := [.int (v), .int 0, .ref (g.2 0 + 267)]) rfl ?_
    refine x_i2l (v := Int32.toInt64 (v)) 7 C0 dL_undo_6 rfl rfl ?_
    refine x_last 3 8 C0 dL_undo_7 rfl (hF1.o hz hO) (by show g.2 0 ≤ _; omega) rfl (by unfold vp_in; decide) ?_
    refine x_goto 14 C0 dL_undo_8 (by decide) ?_
    refine x_iconst (v := 0) 15 C0 dL_undo_14 rfl (by decide) ?_
    exact x_ireturn C0 dL_undo_15 rfl rfl (Nat.le_of_ble_eq_true rfl) (Nat.le_of_ble_eq_true rfl) ⟨_, _, _, _, rfl, hz1, hF1.wup, hC1.cell ⟨by omega, by omega⟩, Or.inl ⟨rfl, v, _, hL1, xup_s _ _ _, rfl⟩⟩

set_option maxHeartbeats 4000000 in
set_option maxRecDepth 100000 in
theorem e_L_restore (l : Launch) (hl : l.stackTraces = false) (g : xg_T) (w : xw_T) (sz n : Nat) (x : Nat → Nat → Int32) (la : Nat → Nat → Nat) (t tt : Nat → Int32) (vb : Option Nat) (sg : Nat → Int32) (hC : CR g w sz n x la t tt vb sg) (hO : wO g w) : xMH l g yL_restore cL_restore 3 (some .int) [((0), (8), (11), (109))] ({ frames := 7, cells := 8, slots := 64, locals := 102 }) 8 64 [.ref (g.2 0), .ref (g.2 0 + 267)] w sz (wU g w sz n tt vb sg (fun _ _ => L_X7_restore g x la t) (E_X7_restore g x la t) [("java/lang/IllegalStateException", 1)] cvI) (fun _ _ _ => False) := by
  obtain ⟨f, hO⟩ := hO
  have hz := hC.2.2.2.2
  refine xMH.of RL hl (by decide +kernel) rfl (Nat.le_of_ble_eq_true rfl) rfl ?_
  intro p e s m args below meth cD C0
  refine x_aload_n 1 1 C0 dL_restore_0 rfl rfl rfl ?_
  refine x_iconst (v := 0) 2 C0 dL_restore_1 rfl (by decide) ?_
  refine x_aload_n 0 3 C0 dL_restore_2 rfl rfl rfl ?_
  refine x_callV 6 C0 (e_X7_restore l hl g w sz n x la t tt vb sg hC) dL_restore_3 rfl mC_X7_restore mM_L_117 mI_X7_restore mV_X7_restore mN_X7 yd_X7_restore rfl rfl ⟨(Nat.le_of_ble_eq_true rfl), (Nat.le_of_ble_eq_true rfl)⟩ hC.1.1 rfl rfl rfl rfl (Nat.le_of_ble_eq_true rfl) ⟨(Nat.le_of_ble_eq_true rfl), (Nat.le_of_ble_eq_true rfl)⟩ (fun E9 w9 sz9 q => ?_) (fun r w1 sz1 _ hP => ?_)
  · obtain ⟨hF9, hz9, x9, la9, t9, hC9, hX9⟩ := q
    rcases ex_restore hX9 with rfl
    refine x_catch "java/lang/IllegalStateException" 11 [] ⟨0, 8, 11, 109⟩ [] C0 rfl (fun _ h => absurd h List.not_mem_nil) (by decide) (by decide) mK_L_109 (by decide +kernel) rfl (fun q9 => ?_)
    refine x_astore_n [(2, .ref q9), (0, .ref (g.2 0)), (1, .ref (g.2 0 + 267))] 12 C0 dL_restore_11 rfl rfl (by decide) rfl ?_
    refine x_iconst (v := 1) 13 C0 dL_restore_12 rfl (by decide) ?_
    exact x_ireturn C0 dL_restore_13 rfl rfl (Nat.le_of_ble_eq_true rfl) (Nat.le_of_ble_eq_true rfl) ⟨_, _, _, _, rfl, hz9, hF9.wf, hC9, Or.inr ⟨⟨f, hF9.o hz hO⟩, _, hX9, by decide +kernel⟩⟩
  · obtain ⟨⟨v, rfl⟩, hF1, hz1, x1, la1, t1, hC1, hL1⟩ := hP
    refine x_st (st1 := [.int (v), .int 0, .ref (g.2 0 + 267)]) rfl ?_
    refine x_i2l (v := Int32.toInt64 (v)) 7 C0 dL_restore_6 rfl rfl ?_
    refine x_last 3 8 C0 dL_restore_7 rfl (hF1.o hz hO) (by show g.2 0 ≤ _; omega) rfl (by unfold vp_in; decide) ?_
    refine x_goto 14 C0 dL_restore_8 (by decide) ?_
    refine x_iconst (v := 0) 15 C0 dL_restore_14 rfl (by decide) ?_
    exact x_ireturn C0 dL_restore_15 rfl rfl (Nat.le_of_ble_eq_true rfl) (Nat.le_of_ble_eq_true rfl) ⟨_, _, _, _, rfl, hz1, hF1.wup, hC1.cell ⟨by omega, by omega⟩, Or.inl ⟨rfl, v, _, hL1, xup_s _ _ _, rfl⟩⟩
