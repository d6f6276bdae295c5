/-! WHAT THE CLASS'S CHANGES DO, EXACTLY -/
def cQ (g : xg_T) (w : xw_T) (sz n : Nat) (tt : Nat → Int32) (vb : Option Nat) (sg : Nat → Int32) (P : Option Value → (Nat → Nat → Int32) → (Nat → Nat → Nat) → (Nat → Int32) → Prop) : Option Value → xw_T → Nat → Prop := fun r w1 sz1 => rI r ∧ xFr g w w1 sz ∧ sz ≤ sz1 ∧ ∃ x' la' t', CR g w1 sz1 n x' la' t' tt vb sg ∧ P r x' la' t'
def cE (g : xg_T) (w : xw_T) (sz n : Nat) (tt : Nat → Int32) (vb : Option Nat) (sg : Nat → Int32) (P : String → (Nat → Nat → Int32) → (Nat → Nat → Nat) → (Nat → Int32) → Prop) : String → xw_T → Nat → Prop := fun E w1 sz1 => xFr g w w1 sz ∧ sz ≤ sz1 ∧ ∃ x' la' t', CR g w1 sz1 n x' la' t' tt vb sg ∧ P E x' la' t'
def L_X7_line (g : xg_T) (x : Nat → Nat → Int32) (la : Nat → Nat → Nat) (t : Nat → Int32) (cn : Int32) (r : Option Value) (x' : Nat → Nat → Int32) (la' : Nat → Nat → Nat) (t' : Nat → Int32) : Prop :=
  (∃ (k : Nat) (x1 : Nat → Nat → Int32) (la1 : Nat → Nat → Nat) (x3 : Nat → Nat → Int32) (x2 : Nat → Int32) (la3 : Nat → Nat → Nat) (b2 : Int32) (t4 : Nat → Int32), (cn = nI k) ∧ (nI k < x 0 3) ∧ (k < 20) ∧ (∃ j : Nat, j < 9 ∧ (∀ c : Nat, c < 2 ^ 31 → t 1 = nI c → j = c % 9) ∧ x1 = va_up x (j + 2) (cpX (x (j + 2)) (x 0)) ∧ la1 = va_up la (j + 2) (la 0)) ∧ (x3 = va_up x1 0 x2) ∧ (la3 = va_up la1 0 (la1 0)) ∧ (tri (lineOk (x1 0) k) (lineX (x1 0) k) (x1 0) x2 (some (.int b2))) ∧ (¬ b2 = 0) ∧ (t4 = upd (upd t 1 (t 1 + 1)) 2 (if t 2 + 1 < 8 then t 2 + 1 else 8)) ∧ (r = some (.int (x3 0 1))) ∧ (x' = x3) ∧ (la' = la3) ∧ (t' = t4))
def E_X7_line (g : xg_T) (x : Nat → Nat → Int32) (la : Nat → Nat → Nat) (t : Nat → Int32) (cn : Int32) (E : String) (x' : Nat → Nat → Int32) (la' : Nat → Nat → Nat) (t' : Nat → Int32) : Prop :=
  ((E = "java/lang/IndexOutOfBoundsException") ∧ (¬ (0 ≤ cn ∧ cn < x 0 3 ∧ cn < 20)) ∧ (x' = x) ∧ (la' = la) ∧ (t' = t)) ∨
  (∃ (k : Nat) (x1 : Nat → Nat → Int32) (la1 : Nat → Nat → Nat) (x3 : Nat → Nat → Int32) (x2 : Nat → Int32) (la3 : Nat → Nat → Nat) (b2 : Int32), (cn = nI k) ∧ (nI k < x 0 3) ∧ (k < 20) ∧ (∃ j : Nat, j < 9 ∧ (∀ c : Nat, c < 2 ^ 31 → t 1 = nI c → j = c % 9) ∧ x1 = va_up x (j + 2) (cpX (x (j + 2)) (x 0)) ∧ la1 = va_up la (j + 2) (la 0)) ∧ (x3 = va_up x1 0 x2) ∧ (la3 = va_up la1 0 (la1 0)) ∧ (tri (lineOk (x1 0) k) (lineX (x1 0) k) (x1 0) x2 (some (.int b2))) ∧ (E = "java/lang/UnsupportedOperationException") ∧ (b2 = 0) ∧ (x' = x3) ∧ (la' = la3) ∧ (t' = t))
set_option maxHeartbeats 4000000 in
set_option maxRecDepth 100000 in
theorem e_X7_line (l : Launch) (hl : l.stackTraces = false) (g : xg_T) (w : xw_T) (sz n : Nat) (x : Nat → Nat → Int32) (la : Nat → Nat → Nat) (t tt : Nat → Int32) (vb : Option Nat) (sg : Nat → Int32) (hC : CR g w sz n x la t tt vb sg) (cn : Int32) : xM l g yX7_line cX7_line 3 (some .int) ({ frames := 7, cells := 8, slots := 64, locals := 104 }) 8 64 [.ref (g.2 0), .int cn] w sz (cQ g w sz n tt vb sg (fun r x' la' t' => L_X7_line g x la t cn r x' la' t')) (cE g w sz n tt vb sg (fun E x' la' t' => E_X7_line g x la t cn E x' la' t')) := by
  have hz9 := hC.zz
  refine xM.of RX7 hl (by decide +kernel) rfl (Nat.le_of_ble_eq_true rfl) rfl ?_
  intro p e s m args below meth cD C0 hini
  refine x_aload_n 0 1 C0 dX7_line_0 rfl rfl rfl ?_
  refine x_iload_n 1 2 C0 dX7_line_1 rfl rfl rfl ?_
  refine x_callV 5 C0 (k_X7_needChest l hl g _ _ _ x la t tt vb sg hC cn) dX7_line_2 rfl mC_X7_needChest mM_X7_89 mI_X7_needChest mV_X7_needChest mN_X7 yd_X7_needChest rfl rfl ⟨Nat.le_of_ble_eq_true rfl, Nat.le_of_ble_eq_true rfl⟩ hC.1.1 rfl rfl rfl rfl (Nat.le_of_ble_eq_true rfl) ⟨Nat.le_of_ble_eq_true rfl, Nat.le_of_ble_eq_true rfl⟩ (fun E9 w9 sz9 q => by obtain ⟨rfl, rfl, h9, hno9⟩ := q; exact x_out C0 rfl (Nat.le_of_ble_eq_true rfl) (Nat.le_of_ble_eq_true rfl) ⟨xFr.rf, by omega, _, _, _, hC.grow h9, (Or.inl ⟨rfl, hno9, rfl, rfl, rfl⟩)⟩) (fun r w1 sz1 hz hP => ?_)
  obtain ⟨⟨k, hk, hm, rfl, hnk⟩, rfl, rfl⟩ := hP
  have hm0 := hm
  refine x_st (st1 := [.ref (g.2 0 + 1 + 3 + k)]) rfl ?_
  refine x_astore_n [(2, .ref (g.2 0 + 1 + 3 + k)), (0, .ref (g.2 0)), (1, .int cn)] 6 C0 dX7_line_5 rfl rfl (by decide) rfl ?_
  refine x_lv (lv1 := [(0, .ref (g.2 0)), (1, .int cn), (2, .ref (g.2 0 + 1 + 3 + k))]) [1, 2, 0] rfl ?_
  refine x_aload_n 0 7 C0 dX7_line_6 rfl rfl rfl ?_
  refine x_getf (v := .ref (g.2 0 + 47)) 3 10 C0 dX7_line_7 rfl hC.1.1 rfl (by decide) inX7 mF_X7_26 rfl ?_
  refine x_aload_n 0 11 C0 dX7_line_10 rfl rfl rfl ?_
  refine x_getf (v := .ref (g.2 0 + 1)) 0 14 C0 dX7_line_11 rfl hC.1.1 rfl (by decide) inX7 mF_X7_10 rfl ?_
  refine x_callV 17 C0 (k_X3_prepare l hl g _ _ _ x la t tt vb sg hC) dX7_line_14 rfl mC_X3_prepare mM_X7_45 mI_X3_prepare mV_X3_prepare mN_X3 yd_X3_prepare rfl rfl ⟨Nat.le_of_ble_eq_true rfl, Nat.le_of_ble_eq_true rfl⟩ hC.1.2.1 rfl rfl rfl rfl (Nat.le_of_ble_eq_true rfl) ⟨Nat.le_of_ble_eq_true rfl, Nat.le_of_ble_eq_true rfl⟩ (fun _ _ _ q => False.elim q) (fun r w1 sz1 hz hP => ?_)
  obtain ⟨wv1, hwv1⟩ : ∃ z, z = w1 := ⟨_, rfl⟩
  obtain ⟨rfl, x1, la1, hC1, hx1, hl1, hG1, rfl, hXX1⟩ := hP
  refine x_w hwv1.symm ?_
  rw [← hwv1] at hC1 hG1
  have hF1 : xFr g w wv1 sz := xFr.tr (sz1 := sz) xFr.rf hG1 (by omega)
  refine x_st (st1 := []) rfl ?_
  have hm : nI k < x1 0 3 := by rw [hx1]; exact hm
  refine x_aload_n 0 18 C0 dX7_line_17 rfl rfl rfl ?_
  refine x_aload_n 0 19 C0 dX7_line_18 rfl rfl rfl ?_
  refine x_getf (v := .ref (g.2 0 + 1)) 0 22 C0 dX7_line_19 rfl hC1.1.1 rfl (by decide) inX7 mF_X7_10 rfl ?_
  refine x_aload_n 2 23 C0 dX7_line_22 rfl rfl rfl ?_
  refine x_callV 26 C0 (k_X4_tryLine l hl g _ _ _ _ _ hC1.h0 (Nat.le_add_right _ _) k hk) dX7_line_23 rfl mC_X4_tryLine mM_X7_93 mI_X4_tryLine mV_X4_tryLine mN_X4 yd_X4_tryLine rfl rfl ⟨Nat.le_of_ble_eq_true rfl, Nat.le_of_ble_eq_true rfl⟩ (HR.ho hC1.h0) rfl rfl rfl rfl (Nat.le_of_ble_eq_true rfl) ⟨Nat.le_of_ble_eq_true rfl, Nat.le_of_ble_eq_true rfl⟩ (fun _ _ _ q => False.elim q) (fun r w1 sz1 hz hP => ?_)
  obtain ⟨rfl, x2, hw2, hQ2⟩ := hP
  obtain ⟨hk2, b2, rfl, hb2⟩ := hQ2.ok (fun q => hC1.k0.line hk) hC1.k0
  obtain ⟨wv2, hwv2⟩ : ∃ z, z = w1 := ⟨_, rfl⟩
  refine x_w hwv2.symm ?_
  rw [← hwv2] at hw2
  obtain ⟨x3, la3, hx3, hla3, hC3⟩ : ∃ x3 la3, x3 = va_up x1 0 x2 ∧ la3 = va_up la1 0 (la1 0) ∧ CR g wv2 sz n x3 la3 t tt vb sg := ⟨_, _, rfl, rfl, by rw [hw2]; exact hC1.set0 hk2 hC1.l0⟩
  have hF3 : xFr g w wv2 sz := xFr.tr (sz1 := sz) hF1 (by rw [hw2]; exact xFr.hw (by omega)) (by omega)
  refine x_st (st1 := [.int b2, .ref (g.2 0)]) rfl ?_
  refine x_callV 29 C0 (k_X7_conclude l hl g _ _ _ x3 la3 t tt vb sg hC3 b2) dX7_line_26 rfl mC_X7_conclude mM_X7_53 mI_X7_conclude mV_X7_conclude mN_X7 yd_X7_conclude rfl rfl ⟨Nat.le_of_ble_eq_true rfl, Nat.le_of_ble_eq_true rfl⟩ hC3.1.1 rfl rfl rfl rfl (Nat.le_of_ble_eq_true rfl) ⟨Nat.le_of_ble_eq_true rfl, Nat.le_of_ble_eq_true rfl⟩ (fun E9 w9 sz9 q => by obtain ⟨rfl, rfl, h9, hno9⟩ := q; exact x_out C0 rfl (Nat.le_of_ble_eq_true rfl) (Nat.le_of_ble_eq_true rfl) ⟨hF3, by omega, _, _, _, hC3.grow h9, (Or.inr (⟨k, x1, la1, x3, x2, la3, b2, hnk, hm0, hk, hXX1, hx3, hla3, hQ2, rfl, hno9, rfl, rfl, rfl⟩))⟩) (fun r w1 sz1 hz hP => ?_)
  obtain ⟨wv4, hwv4⟩ : ∃ z, z = w1 := ⟨_, rfl⟩
  obtain ⟨rfl, t4, hC4, hG4, rfl, hb94, ht94⟩ := hP
  refine x_w hwv4.symm ?_
  rw [← hwv4] at hC4 hG4
  have hF4 : xFr g w wv4 sz := xFr.tr (sz1 := sz) hF3 hG4 (by omega)
  refine x_st (st1 := []) rfl ?_
  refine x_aload_n 0 30 C0 dX7_line_29 rfl rfl rfl ?_
  refine x_getf (v := .ref (g.2 0 + 1)) 0 33 C0 dX7_line_30 rfl hC4.1.1 rfl (by decide) inX7 mF_X7_10 rfl ?_
  refine x_getf (v := .int (x3 0 1)) 3 36 C0 dX7_line_33 rfl (HR.ho hC4.h0) rfl (by decide) inX4 mF_X7_79 rfl ?_
  exact x_ireturn C0 dX7_line_36 rfl rfl (Nat.le_of_ble_eq_true rfl) (Nat.le_of_ble_eq_true rfl) ⟨⟨_, rfl⟩, hF4, by omega, _, _, _, hC4, ⟨k, x1, la1, x3, x2, la3, b2, t4, hnk, hm0, hk, hXX1, hx3, hla3, hQ2, hb94, ht94, rfl, rfl, rfl, rfl⟩⟩

def L_X7_screw (g : xg_T) (x : Nat → Nat → Int32) (la : Nat → Nat → Nat) (t : Nat → Int32) (cn : Int32) (mn : Int32) (r : Option Value) (x' : Nat → Nat → Int32) (la' : Nat → Nat → Nat) (t' : Nat → Int32) : Prop :=
  (∃ (k : Nat) (x1 : Nat → Nat → Int32) (la1 : Nat → Nat → Nat) (x3 : Nat → Nat → Int32) (x2 : Nat → Int32) (la3 : Nat → Nat → Nat) (b2 : Int32) (t4 : Nat → Int32) (v5 : Int32), (cn = nI k) ∧ (nI k < x 0 3) ∧ (k < 20) ∧ (1 ≤ mn ∧ mn ≤ 8) ∧ (∃ j : Nat, j < 9 ∧ (∀ c : Nat, c < 2 ^ 31 → t 1 = nI c → j = c % 9) ∧ x1 = va_up x (j + 2) (cpX (x (j + 2)) (x 0)) ∧ la1 = va_up la (j + 2) (la 0)) ∧ (x3 = va_up x1 0 x2) ∧ (la3 = va_up la1 0 (la1 0)) ∧ (tri (screwOk (x1 0) k mn) (screwX (x1 0) k mn) (x1 0) x2 (some (.int b2))) ∧ (¬ b2 = 0) ∧ (t4 = upd (upd t 1 (t 1 + 1)) 2 (if t 2 + 1 < 8 then t 2 + 1 else 8)) ∧ (r = some (.int v5)) ∧ (x' = x3) ∧ (la' = la3) ∧ (t' = t4))
def E_X7_screw (g : xg_T) (x : Nat → Nat → Int32) (la : Nat → Nat → Nat) (t : Nat → Int32) (cn : Int32) (mn : Int32) (E : String) (x' : Nat → Nat → Int32) (la' : Nat → Nat → Nat) (t' : Nat → Int32) : Prop :=
  ((E = "java/lang/IndexOutOfBoundsException") ∧ (¬ (0 ≤ cn ∧ cn < x 0 3 ∧ cn < 20)) ∧ (x' = x) ∧ (la' = la) ∧ (t' = t)) ∨
  (∃ (k : Nat), (cn = nI k) ∧ (nI k < x 0 3) ∧ (k < 20) ∧ (E = "java/lang/IllegalArgumentException") ∧ (¬ (1 ≤ mn ∧ mn ≤ 8)) ∧ (x' = x) ∧ (la' = la) ∧ (t' = t)) ∨
  (∃ (k : Nat) (x1 : Nat → Nat → Int32) (la1 : Nat → Nat → Nat) (x3 : Nat → Nat → Int32) (x2 : Nat → Int32) (la3 : Nat → Nat → Nat) (b2 : Int32), (cn = nI k) ∧ (nI k < x 0 3) ∧ (k < 20) ∧ (1 ≤ mn ∧ mn ≤ 8) ∧ (∃ j : Nat, j < 9 ∧ (∀ c : Nat, c < 2 ^ 31 → t 1 = nI c → j = c % 9) ∧ x1 = va_up x (j + 2) (cpX (x (j + 2)) (x 0)) ∧ la1 = va_up la (j + 2) (la 0)) ∧ (x3 = va_up x1 0 x2) ∧ (la3 = va_up la1 0 (la1 0)) ∧ (tri (screwOk (x1 0) k mn) (screwX (x1 0) k mn) (x1 0) x2 (some (.int b2))) ∧ (E = "java/lang/UnsupportedOperationException") ∧ (b2 = 0) ∧ (x' = x3) ∧ (la' = la3) ∧ (t' = t))
set_option maxHeartbeats 4000000 in
set_option maxRecDepth 100000 in
theorem e_X7_screw (l : Launch) (hl : l.stackTraces = false) (g : xg_T) (w : xw_T) (sz n : Nat) (x : Nat → Nat → Int32) (la : Nat → Nat → Nat) (t tt : Nat → Int32) (vb : Option Nat) (sg : Nat → Int32) (hC : CR g w sz n x la t tt vb sg) (cn : Int32) (mn : Int32) : xM l g yX7_screw cX7_screw 4 (some .boolean) ({ frames := 7, cells := 8, slots := 64, locals := 104 }) 8 64 [.ref (g.2 0), .int cn, .int mn] w sz (cQ g w sz n tt vb sg (fun r x' la' t' => L_X7_screw g x la t cn mn r x' la' t')) (cE g w sz n tt vb sg (fun E x' la' t' => E_X7_screw g x la t cn mn E x' la' t')) := by
  have hz9 := hC.zz
  refine xM.of RX7 hl (by decide +kernel) rfl (Nat.le_of_ble_eq_true rfl) rfl ?_
  intro p e s m args below meth cD C0 hini
  refine x_aload_n 0 1 C0 dX7_screw_0 rfl rfl rfl ?_
  refine x_iload_n 1 2 C0 dX7_screw_1 rfl rfl rfl ?_
  refine x_callV 5 C0 (k_X7_needChest l hl g _ _ _ x la t tt vb sg hC cn) dX7_screw_2 rfl mC_X7_needChest mM_X7_89 mI_X7_needChest mV_X7_needChest mN_X7 yd_X7_needChest rfl rfl ⟨Nat.le_of_ble_eq_true rfl, Nat.le_of_ble_eq_true rfl⟩ hC.1.1 rfl rfl rfl rfl (Nat.le_of_ble_eq_true rfl) ⟨Nat.le_of_ble_eq_true rfl, Nat.le_of_ble_eq_true rfl⟩ (fun E9 w9 sz9 q => by obtain ⟨rfl, rfl, h9, hno9⟩ := q; exact x_out C0 rfl (Nat.le_of_ble_eq_true rfl) (Nat.le_of_ble_eq_true rfl) ⟨xFr.rf, by omega, _, _, _, hC.grow h9, (Or.inl ⟨rfl, hno9, rfl, rfl, rfl⟩)⟩) (fun r w1 sz1 hz hP => ?_)
  obtain ⟨⟨k, hk, hm, rfl, hnk⟩, rfl, rfl⟩ := hP
  have hm0 := hm
  refine x_st (st1 := [.ref (g.2 0 + 1 + 3 + k)]) rfl ?_
  refine x_astore_n [(3, .ref (g.2 0 + 1 + 3 + k)), (0, .ref (g.2 0)), (1, .int cn), (2, .int mn)] 6 C0 dX7_screw_5 rfl rfl (by decide) rfl ?_
  refine x_lv (lv1 := [(0, .ref (g.2 0)), (1, .int cn), (2, .int mn), (3, .ref (g.2 0 + 1 + 3 + k))]) [1, 2, 3, 0] rfl ?_
  refine x_iload_n 2 7 C0 dX7_screw_6 rfl rfl rfl ?_
  refine x_iconst (v := 1) 8 C0 dX7_screw_7 rfl (by decide) ?_
  refine x_bipush (v := 8) 10 C0 dX7_screw_8 rfl (by decide) ?_
  refine x_callS 13 C0 (k_X7_needRange l hl g _ _ mn 1 8) dX7_screw_10 rfl mC_X7_needRange mM_X7_41 mS_X7_needRange mN_X7 yd_X7_needRange rfl rfl ⟨Nat.le_of_ble_eq_true rfl, Nat.le_of_ble_eq_true rfl⟩ rfl rfl (Nat.le_of_ble_eq_true rfl) ⟨Nat.le_of_ble_eq_true rfl, Nat.le_of_ble_eq_true rfl⟩ (fun E9 w9 sz9 q => by obtain ⟨rfl, rfl, h9, hno9⟩ := q; exact x_out C0 rfl (Nat.le_of_ble_eq_true rfl) (Nat.le_of_ble_eq_true rfl) ⟨xFr.rf, by omega, _, _, _, hC.grow h9, (Or.inr (Or.inl ⟨k, hnk, hm0, hk, rfl, hno9, rfl, rfl, rfl⟩))⟩) (fun r w1 sz1 hz hP => ?_)
  obtain ⟨rfl, h19, h59, rfl, rfl⟩ := hP
  refine x_st (st1 := []) rfl ?_
  refine x_aload_n 0 14 C0 dX7_screw_13 rfl rfl rfl ?_
  refine x_getf (v := .ref (g.2 0 + 47)) 3 17 C0 dX7_screw_14 rfl hC.1.1 rfl (by decide) inX7 mF_X7_26 rfl ?_
  refine x_aload_n 0 18 C0 dX7_screw_17 rfl rfl rfl ?_
  refine x_getf (v := .ref (g.2 0 + 1)) 0 21 C0 dX7_screw_18 rfl hC.1.1 rfl (by decide) inX7 mF_X7_10 rfl ?_
  refine x_callV 24 C0 (k_X3_prepare l hl g _ _ _ x la t tt vb sg hC) dX7_screw_21 rfl mC_X3_prepare mM_X7_45 mI_X3_prepare mV_X3_prepare mN_X3 yd_X3_prepare rfl rfl ⟨Nat.le_of_ble_eq_true rfl, Nat.le_of_ble_eq_true rfl⟩ hC.1.2.1 rfl rfl rfl rfl (Nat.le_of_ble_eq_true rfl) ⟨Nat.le_of_ble_eq_true rfl, Nat.le_of_ble_eq_true rfl⟩ (fun _ _ _ q => False.elim q) (fun r w1 sz1 hz hP => ?_)
  obtain ⟨wv1, hwv1⟩ : ∃ z, z = w1 := ⟨_, rfl⟩
  obtain ⟨rfl, x1, la1, hC1, hx1, hl1, hG1, rfl, hXX1⟩ := hP
  refine x_w hwv1.symm ?_
  rw [← hwv1] at hC1 hG1
  have hF1 : xFr g w wv1 sz := xFr.tr (sz1 := sz) xFr.rf hG1 (by omega)
  refine x_st (st1 := []) rfl ?_
  have hm : nI k < x1 0 3 := by rw [hx1]; exact hm
  refine x_aload_n 0 25 C0 dX7_screw_24 rfl rfl rfl ?_
  refine x_aload_n 0 26 C0 dX7_screw_25 rfl rfl rfl ?_
  refine x_getf (v := .ref (g.2 0 + 1)) 0 29 C0 dX7_screw_26 rfl hC1.1.1 rfl (by decide) inX7 mF_X7_10 rfl ?_
  refine x_aload_n 3 30 C0 dX7_screw_29 rfl rfl rfl ?_
  refine x_iload_n 2 31 C0 dX7_screw_30 rfl rfl rfl ?_
  refine x_callV 34 C0 (k_X4_tryScrew l hl g _ _ _ _ _ hC1.h0 (Nat.le_add_right _ _) k hk mn) dX7_screw_31 rfl mC_X4_tryScrew mM_X7_113 mI_X4_tryScrew mV_X4_tryScrew mN_X4 yd_X4_tryScrew rfl rfl ⟨Nat.le_of_ble_eq_true rfl, Nat.le_of_ble_eq_true rfl⟩ (HR.ho hC1.h0) rfl rfl rfl rfl (Nat.le_of_ble_eq_true rfl) ⟨Nat.le_of_ble_eq_true rfl, Nat.le_of_ble_eq_true rfl⟩ (fun _ _ _ q => False.elim q) (fun r w1 sz1 hz hP => ?_)
  obtain ⟨rfl, x2, hw2, hQ2⟩ := hP
  obtain ⟨hk2, b2, rfl, hb2⟩ := hQ2.ok (fun q => hC1.k0.screw hk) hC1.k0
  obtain ⟨wv2, hwv2⟩ : ∃ z, z = w1 := ⟨_, rfl⟩
  refine x_w hwv2.symm ?_
  rw [← hwv2] at hw2
  obtain ⟨x3, la3, hx3, hla3, hC3⟩ : ∃ x3 la3, x3 = va_up x1 0 x2 ∧ la3 = va_up la1 0 (la1 0) ∧ CR g wv2 sz n x3 la3 t tt vb sg := ⟨_, _, rfl, rfl, by rw [hw2]; exact hC1.set0 hk2 hC1.l0⟩
  have hF3 : xFr g w wv2 sz := xFr.tr (sz1 := sz) hF1 (by rw [hw2]; exact xFr.hw (by omega)) (by omega)
  refine x_st (st1 := [.int b2, .ref (g.2 0)]) rfl ?_
  refine x_callV 37 C0 (k_X7_conclude l hl g _ _ _ x3 la3 t tt vb sg hC3 b2) dX7_screw_34 rfl mC_X7_conclude mM_X7_53 mI_X7_conclude mV_X7_conclude mN_X7 yd_X7_conclude rfl rfl ⟨Nat.le_of_ble_eq_true rfl, Nat.le_of_ble_eq_true rfl⟩ hC3.1.1 rfl rfl rfl rfl (Nat.le_of_ble_eq_true rfl) ⟨Nat.le_of_ble_eq_true rfl, Nat.le_of_ble_eq_true rfl⟩ (fun E9 w9 sz9 q => by obtain ⟨rfl, rfl, h9, hno9⟩ := q; exact x_out C0 rfl (Nat.le_of_ble_eq_true rfl) (Nat.le_of_ble_eq_true rfl) ⟨hF3, by omega, _, _, _, hC3.grow h9, (Or.inr (Or.inr (⟨k, x1, la1, x3, x2, la3, b2, hnk, hm0, hk, ⟨h19, h59⟩, hXX1, hx3, hla3, hQ2, rfl, hno9, rfl, rfl, rfl⟩)))⟩) (fun r w1 sz1 hz hP => ?_)
  obtain ⟨wv4, hwv4⟩ : ∃ z, z = w1 := ⟨_, rfl⟩
  obtain ⟨rfl, t4, hC4, hG4, rfl, hb94, ht94⟩ := hP
  refine x_w hwv4.symm ?_
  rw [← hwv4] at hC4 hG4
  have hF4 : xFr g w wv4 sz := xFr.tr (sz1 := sz) hF3 hG4 (by omega)
  refine x_st (st1 := []) rfl ?_
  refine x_aload_n 3 38 C0 dX7_screw_37 rfl rfl rfl ?_
  refine x_callV 41 C0 (k_X1_isTight l hl g _ _ _ _ _ _ (HR.c hC4.h0 hk)) dX7_screw_38 rfl mC_X1_isTight mM_X7_117 mI_X1_isTight mV_X1_isTight mN_X1 yd_X1_isTight rfl rfl ⟨Nat.le_of_ble_eq_true rfl, Nat.le_of_ble_eq_true rfl⟩ (HR.c hC4.h0 hk) rfl rfl rfl rfl (Nat.le_of_ble_eq_true rfl) ⟨Nat.le_of_ble_eq_true rfl, Nat.le_of_ble_eq_true rfl⟩ (fun _ _ _ q => False.elim q) (fun r w1 sz1 hz hP => ?_)
  obtain ⟨hr, rfl, rfl⟩ := hP
  obtain ⟨v5, rfl, hv5⟩ : ∃ v : Int32, r = some (.int v) ∧ isB v := ⟨_, hr, isB_bi _⟩
  refine x_st (st1 := [.int v5]) rfl ?_
  exact x_ireturn C0 dX7_screw_41 rfl (hv5.nar) (Nat.le_of_ble_eq_true rfl) (Nat.le_of_ble_eq_true rfl) ⟨⟨_, rfl⟩, hF4, by omega, _, _, _, hC4, ⟨k, x1, la1, x3, x2, la3, b2, t4, v5, hnk, hm0, hk, ⟨h19, h59⟩, hXX1, hx3, hla3, hQ2, hb94, ht94, rfl, rfl, rfl, rfl⟩⟩

def L_X7_unscrew (g : xg_T) (x : Nat → Nat → Int32) (la : Nat → Nat → Nat) (t : Nat → Int32) (cn : Int32) (r : Option Value) (x' : Nat → Nat → Int32) (la' : Nat → Nat → Nat) (t' : Nat → Int32) : Prop :=
  (∃ (k : Nat) (x1 : Nat → Nat → Int32) (la1 : Nat → Nat → Nat) (x3 : Nat → Nat → Int32) (x2 : Nat → Int32) (la3 : Nat → Nat → Nat) (b2 : Int32) (t4 : Nat → Int32), (cn = nI k) ∧ (nI k < x 0 3) ∧ (k < 20) ∧ (∃ j : Nat, j < 9 ∧ (∀ c : Nat, c < 2 ^ 31 → t 1 = nI c → j = c % 9) ∧ x1 = va_up x (j + 2) (cpX (x (j + 2)) (x 0)) ∧ la1 = va_up la (j + 2) (la 0)) ∧ (x3 = va_up x1 0 x2) ∧ (la3 = va_up la1 0 (la1 0)) ∧ (tri ((x1 0) (28 + 9 * k + 7) = 0) (unscrewX (x1 0) k) (x1 0) x2 (some (.int b2))) ∧ (¬ b2 = 0) ∧ (t4 = upd (upd t 1 (t 1 + 1)) 2 (if t 2 + 1 < 8 then t 2 + 1 else 8)) ∧ (r = some (.int (x 0 (28 + 9 * k + 5)))) ∧ (x' = x3) ∧ (la' = la3) ∧ (t' = t4))
def E_X7_unscrew (g : xg_T) (x : Nat → Nat → Int32) (la : Nat → Nat → Nat) (t : Nat → Int32) (cn : Int32) (E : String) (x' : Nat → Nat → Int32) (la' : Nat → Nat → Nat) (t' : Nat → Int32) : Prop :=
  ((E = "java/lang/IndexOutOfBoundsException") ∧ (¬ (0 ≤ cn ∧ cn < x 0 3 ∧ cn < 20)) ∧ (x' = x) ∧ (la' = la) ∧ (t' = t)) ∨
  (∃ (k : Nat) (x1 : Nat → Nat → Int32) (la1 : Nat → Nat → Nat) (x3 : Nat → Nat → Int32) (x2 : Nat → Int32) (la3 : Nat → Nat → Nat) (b2 : Int32), (cn = nI k) ∧ (nI k < x 0 3) ∧ (k < 20) ∧ (∃ j : Nat, j < 9 ∧ (∀ c : Nat, c < 2 ^ 31 → t 1 = nI c → j = c % 9) ∧ x1 = va_up x (j + 2) (cpX (x (j + 2)) (x 0)) ∧ la1 = va_up la (j + 2) (la 0)) ∧ (x3 = va_up x1 0 x2) ∧ (la3 = va_up la1 0 (la1 0)) ∧ (tri ((x1 0) (28 + 9 * k + 7) = 0) (unscrewX (x1 0) k) (x1 0) x2 (some (.int b2))) ∧ (E = "java/lang/UnsupportedOperationException") ∧ (b2 = 0) ∧ (x' = x3) ∧ (la' = la3) ∧ (t' = t))
set_option maxHeartbeats 4000000 in
set_option maxRecDepth 100000 in
theorem e_X7_unscrew (l : Launch) (hl : l.stackTraces = false) (g : xg_T) (w : xw_T) (sz n : Nat) (x : Nat → Nat → Int32) (la : Nat → Nat → Nat) (t tt : Nat → Int32) (vb : Option Nat) (sg : Nat → Int32) (hC : CR g w sz n x la t tt vb sg) (cn : Int32) : xM l g yX7_unscrew cX7_unscrew 4 (some .int) ({ frames := 7, cells := 8, slots := 64, locals := 104 }) 8 64 [.ref (g.2 0), .int cn] w sz (cQ g w sz n tt vb sg (fun r x' la' t' => L_X7_unscrew g x la t cn r x' la' t')) (cE g w sz n tt vb sg (fun E x' la' t' => E_X7_unscrew g x la t cn E x' la' t')) := by
  have hz9 := hC.zz
  refine xM.of RX7 hl (by decide +kernel) rfl (Nat.le_of_ble_eq_true rfl) rfl ?_
  intro p e s m args below meth cD C0 hini
  refine x_aload_n 0 1 C0 dX7_unscrew_0 rfl rfl rfl ?_
  refine x_iload_n 1 2 C0 dX7_unscrew_1 rfl rfl rfl ?_
  refine x_callV 5 C0 (k_X7_needChest l hl g _ _ _ x la t tt vb sg hC cn) dX7_unscrew_2 rfl mC_X7_needChest mM_X7_89 mI_X7_needChest mV_X7_needChest mN_X7 yd_X7_needChest rfl rfl ⟨Nat.le_of_ble_eq_true rfl, Nat.le_of_ble_eq_true rfl⟩ hC.1.1 rfl rfl rfl rfl (Nat.le_of_ble_eq_true rfl) ⟨Nat.le_of_ble_eq_true rfl, Nat.le_of_ble_eq_true rfl⟩ (fun E9 w9 sz9 q => by obtain ⟨rfl, rfl, h9, hno9⟩ := q; exact x_out C0 rfl (Nat.le_of_ble_eq_true rfl) (Nat.le_of_ble_eq_true rfl) ⟨xFr.rf, by omega, _, _, _, hC.grow h9, (Or.inl ⟨rfl, hno9, rfl, rfl, rfl⟩)⟩) (fun r w1 sz1 hz hP => ?_)
  obtain ⟨⟨k, hk, hm, rfl, hnk⟩, rfl, rfl⟩ := hP
  have hm0 := hm
  refine x_st (st1 := [.ref (g.2 0 + 1 + 3 + k)]) rfl ?_
  refine x_astore_n [(2, .ref (g.2 0 + 1 + 3 + k)), (0, .ref (g.2 0)), (1, .int cn)] 6 C0 dX7_unscrew_5 rfl rfl (by decide) rfl ?_
  refine x_lv (lv1 := [(0, .ref (g.2 0)), (1, .int cn), (2, .ref (g.2 0 + 1 + 3 + k))]) [1, 2, 0] rfl ?_
  refine x_aload_n 2 7 C0 dX7_unscrew_6 rfl rfl rfl ?_
  refine x_getf (v := .int (x 0 (28 + 9 * k + 5))) 6 10 C0 dX7_unscrew_7 rfl (HR.c hC.h0 hk) rfl (by decide) inX1 mF_X7_121 rfl ?_
  refine x_istore_n [(3, .int (x 0 (28 + 9 * k + 5))), (0, .ref (g.2 0)), (1, .int cn), (2, .ref (g.2 0 + 1 + 3 + k))] 11 C0 dX7_unscrew_10 rfl rfl (by decide) rfl ?_
  refine x_lv (lv1 := [(0, .ref (g.2 0)), (1, .int cn), (2, .ref (g.2 0 + 1 + 3 + k)), (3, .int (x 0 (28 + 9 * k + 5)))]) [1, 2, 3, 0] rfl ?_
  refine x_aload_n 0 12 C0 dX7_unscrew_11 rfl rfl rfl ?_
  refine x_getf (v := .ref (g.2 0 + 47)) 3 15 C0 dX7_unscrew_12 rfl hC.1.1 rfl (by decide) inX7 mF_X7_26 rfl ?_
  refine x_aload_n 0 16 C0 dX7_unscrew_15 rfl rfl rfl ?_
  refine x_getf (v := .ref (g.2 0 + 1)) 0 19 C0 dX7_unscrew_16 rfl hC.1.1 rfl (by decide) inX7 mF_X7_10 rfl ?_
  refine x_callV 22 C0 (k_X3_prepare l hl g _ _ _ x la t tt vb sg hC) dX7_unscrew_19 rfl mC_X3_prepare mM_X7_45 mI_X3_prepare mV_X3_prepare mN_X3 yd_X3_prepare rfl rfl ⟨Nat.le_of_ble_eq_true rfl, Nat.le_of_ble_eq_true rfl⟩ hC.1.2.1 rfl rfl rfl rfl (Nat.le_of_ble_eq_true rfl) ⟨Nat.le_of_ble_eq_true rfl, Nat.le_of_ble_eq_true rfl⟩ (fun _ _ _ q => False.elim q) (fun r w1 sz1 hz hP => ?_)
  obtain ⟨wv1, hwv1⟩ : ∃ z, z = w1 := ⟨_, rfl⟩
  obtain ⟨rfl, x1, la1, hC1, hx1, hl1, hG1, rfl, hXX1⟩ := hP
  refine x_w hwv1.symm ?_
  rw [← hwv1] at hC1 hG1
  have hF1 : xFr g w wv1 sz := xFr.tr (sz1 := sz) xFr.rf hG1 (by omega)
  refine x_st (st1 := []) rfl ?_
  have hm : nI k < x1 0 3 := by rw [hx1]; exact hm
  refine x_aload_n 0 23 C0 dX7_unscrew_22 rfl rfl rfl ?_
  refine x_aload_n 0 24 C0 dX7_unscrew_23 rfl rfl rfl ?_
  refine x_getf (v := .ref (g.2 0 + 1)) 0 27 C0 dX7_unscrew_24 rfl hC1.1.1 rfl (by decide) inX7 mF_X7_10 rfl ?_
  refine x_aload_n 2 28 C0 dX7_unscrew_27 rfl rfl rfl ?_
  refine x_callV 31 C0 (k_X4_tryUnscrew l hl g _ _ _ _ _ hC1.h0 (Nat.le_add_right _ _) k hk) dX7_unscrew_28 rfl mC_X4_tryUnscrew mM_X7_122 mI_X4_tryUnscrew mV_X4_tryUnscrew mN_X4 yd_X4_tryUnscrew rfl rfl ⟨Nat.le_of_ble_eq_true rfl, Nat.le_of_ble_eq_true rfl⟩ (HR.ho hC1.h0) rfl rfl rfl rfl (Nat.le_of_ble_eq_true rfl) ⟨Nat.le_of_ble_eq_true rfl, Nat.le_of_ble_eq_true rfl⟩ (fun _ _ _ q => False.elim q) (fun r w1 sz1 hz hP => ?_)
  obtain ⟨rfl, x2, hw2, hQ2⟩ := hP
  obtain ⟨hk2, b2, rfl, hb2⟩ := hQ2.ok (fun q => hC1.k0.unscrew hk) hC1.k0
  obtain ⟨wv2, hwv2⟩ : ∃ z, z = w1 := ⟨_, rfl⟩
  refine x_w hwv2.symm ?_
  rw [← hwv2] at hw2
  obtain ⟨x3, la3, hx3, hla3, hC3⟩ : ∃ x3 la3, x3 = va_up x1 0 x2 ∧ la3 = va_up la1 0 (la1 0) ∧ CR g wv2 sz n x3 la3 t tt vb sg := ⟨_, _, rfl, rfl, by rw [hw2]; exact hC1.set0 hk2 hC1.l0⟩
  have hF3 : xFr g w wv2 sz := xFr.tr (sz1 := sz) hF1 (by rw [hw2]; exact xFr.hw (by omega)) (by omega)
  refine x_st (st1 := [.int b2, .ref (g.2 0)]) rfl ?_
  refine x_callV 34 C0 (k_X7_conclude l hl g _ _ _ x3 la3 t tt vb sg hC3 b2) dX7_unscrew_31 rfl mC_X7_conclude mM_X7_53 mI_X7_conclude mV_X7_conclude mN_X7 yd_X7_conclude rfl rfl ⟨Nat.le_of_ble_eq_true rfl, Nat.le_of_ble_eq_true rfl⟩ hC3.1.1 rfl rfl rfl rfl (Nat.le_of_ble_eq_true rfl) ⟨Nat.le_of_ble_eq_true rfl, Nat.le_of_ble_eq_true rfl⟩ (fun E9 w9 sz9 q => by obtain ⟨rfl, rfl, h9, hno9⟩ := q; exact x_out C0 rfl (Nat.le_of_ble_eq_true rfl) (Nat.le_of_ble_eq_true rfl) ⟨hF3, by omega, _, _, _, hC3.grow h9, (Or.inr (⟨k, x1, la1, x3, x2, la3, b2, hnk, hm0, hk, hXX1, hx3, hla3, hQ2, rfl, hno9, rfl, rfl, rfl⟩))⟩) (fun r w1 sz1 hz hP => ?_)
  obtain ⟨wv4, hwv4⟩ : ∃ z, z = w1 := ⟨_, rfl⟩
  obtain ⟨rfl, t4, hC4, hG4, rfl, hb94, ht94⟩ := hP
  refine x_w hwv4.symm ?_
  rw [← hwv4] at hC4 hG4
  have hF4 : xFr g w wv4 sz := xFr.tr (sz1 := sz) hF3 hG4 (by omega)
  refine x_st (st1 := []) rfl ?_
  refine x_iload_n 3 35 C0 dX7_unscrew_34 rfl rfl rfl ?_
  exact x_ireturn C0 dX7_unscrew_35 rfl rfl (Nat.le_of_ble_eq_true rfl) (Nat.le_of_ble_eq_true rfl) ⟨⟨_, rfl⟩, hF4, by omega, _, _, _, hC4, ⟨k, x1, la1, x3, x2, la3, b2, t4, hnk, hm0, hk, hXX1, hx3, hla3, hQ2, hb94, ht94, rfl, rfl, rfl, rfl⟩⟩

def L_X7_bring (g : xg_T) (x : Nat → Nat → Int32) (la : Nat → Nat → Nat) (t : Nat → Int32) (ga : Int32) (ki : Int32) (po : Int32) (r : Option Value) (x' : Nat → Nat → Int32) (la' : Nat → Nat → Nat) (t' : Nat → Int32) : Prop :=
  (∃ (x1 : Nat → Nat → Int32) (la1 : Nat → Nat → Nat) (x3 : Nat → Nat → Int32) (x2 : Nat → Int32) (la3 : Nat → Nat → Nat) (b2 : Int32) (t4 : Nat → Int32) (v5 : Int32), (isLeafB ga ki = true) ∧ (1 ≤ po ∧ po ≤ 500) ∧ (∃ j : Nat, j < 9 ∧ (∀ c : Nat, c < 2 ^ 31 → t 1 = nI c → j = c % 9) ∧ x1 = va_up x (j + 2) (cpX (x (j + 2)) (x 0)) ∧ la1 = va_up la (j + 2) (la 0)) ∧ (x3 = va_up x1 0 x2) ∧ (la3 = va_up la1 0 (la1 0)) ∧ (tri (sGet (x1 0) ga ki + po ≤ 500) (bringX (x1 0) ga ki po) (x1 0) x2 (some (.int b2))) ∧ (¬ b2 = 0) ∧ (t4 = upd (upd t 1 (t 1 + 1)) 2 (if t 2 + 1 < 8 then t 2 + 1 else 8)) ∧ (some (Value.int v5) = some (Value.int (sGet (x3 0) ga ki))) ∧ (r = some (.int v5)) ∧ (x' = x3) ∧ (la' = la3) ∧ (t' = t4))
def E_X7_bring (g : xg_T) (x : Nat → Nat → Int32) (la : Nat → Nat → Nat) (t : Nat → Int32) (ga : Int32) (ki : Int32) (po : Int32) (E : String) (x' : Nat → Nat → Int32) (la' : Nat → Nat → Nat) (t' : Nat → Int32) : Prop :=
  ((E = "java/lang/IndexOutOfBoundsException") ∧ (isLeafB ga ki = false) ∧ (x' = x) ∧ (la' = la) ∧ (t' = t)) ∨
  ((isLeafB ga ki = true) ∧ (E = "java/lang/IllegalArgumentException") ∧ (¬ (1 ≤ po ∧ po ≤ 500)) ∧ (x' = x) ∧ (la' = la) ∧ (t' = t)) ∨
  (∃ (x1 : Nat → Nat → Int32) (la1 : Nat → Nat → Nat) (x3 : Nat → Nat → Int32) (x2 : Nat → Int32) (la3 : Nat → Nat → Nat) (b2 : Int32), (isLeafB ga ki = true) ∧ (1 ≤ po ∧ po ≤ 500) ∧ (∃ j : Nat, j < 9 ∧ (∀ c : Nat, c < 2 ^ 31 → t 1 = nI c → j = c % 9) ∧ x1 = va_up x (j + 2) (cpX (x (j + 2)) (x 0)) ∧ la1 = va_up la (j + 2) (la 0)) ∧ (x3 = va_up x1 0 x2) ∧ (la3 = va_up la1 0 (la1 0)) ∧ (tri (sGet (x1 0) ga ki + po ≤ 500) (bringX (x1 0) ga ki po) (x1 0) x2 (some (.int b2))) ∧ (E = "java/lang/UnsupportedOperationException") ∧ (b2 = 0) ∧ (x' = x3) ∧ (la' = la3) ∧ (t' = t))
set_option maxHeartbeats 4000000 in
set_option maxRecDepth 100000 in
theorem e_X7_bring (l : Launch) (hl : l.stackTraces = false) (g : xg_T) (w : xw_T) (sz n : Nat) (x : Nat → Nat → Int32) (la : Nat → Nat → Nat) (t tt : Nat → Int32) (vb : Option Nat) (sg : Nat → Int32) (hC : CR g w sz n x la t tt vb sg) (ga : Int32) (ki : Int32) (po : Int32) : xM l g yX7_bring cX7_bring 4 (some .int) ({ frames := 7, cells := 8, slots := 64, locals := 104 }) 8 64 [.ref (g.2 0), .int ga, .int ki, .int po] w sz (cQ g w sz n tt vb sg (fun r x' la' t' => L_X7_bring g x la t ga ki po r x' la' t')) (cE g w sz n tt vb sg (fun E x' la' t' => E_X7_bring g x la t ga ki po E x' la' t')) := by
  have hz9 := hC.zz
  refine xM.of RX7 hl (by decide +kernel) rfl (Nat.le_of_ble_eq_true rfl) rfl ?_
  intro p e s m args below meth cD C0 hini
  refine x_iload_n 1 1 C0 dX7_bring_0 rfl rfl rfl ?_
  refine x_iload_n 2 2 C0 dX7_bring_1 rfl rfl rfl ?_
  refine x_callS 5 C0 (k_X7_needLeaf l hl g _ _ ga ki) dX7_bring_2 rfl mC_X7_needLeaf mM_X7_37 mS_X7_needLeaf mN_X7 yd_X7_needLeaf rfl rfl ⟨Nat.le_of_ble_eq_true rfl, Nat.le_of_ble_eq_true rfl⟩ rfl rfl (Nat.le_of_ble_eq_true rfl) ⟨Nat.le_of_ble_eq_true rfl, Nat.le_of_ble_eq_true rfl⟩ (fun E9 w9 sz9 q => by obtain ⟨rfl, rfl, h9, hno9⟩ := q; exact x_out C0 rfl (Nat.le_of_ble_eq_true rfl) (Nat.le_of_ble_eq_true rfl) ⟨xFr.rf, by omega, _, _, _, hC.grow h9, (Or.inl ⟨rfl, hno9, rfl, rfl, rfl⟩)⟩) (fun r w1 sz1 hz hP => ?_)
  obtain ⟨rfl, hB9, rfl, rfl⟩ := hP
  refine x_st (st1 := []) rfl ?_
  refine x_iload_n 3 6 C0 dX7_bring_5 rfl rfl rfl ?_
  refine x_iconst (v := 1) 7 C0 dX7_bring_6 rfl (by decide) ?_
  refine x_sipush (v := 500) 10 C0 dX7_bring_7 rfl (by decide) ?_
  refine x_callS 13 C0 (k_X7_needRange l hl g _ _ po 1 500) dX7_bring_10 rfl mC_X7_needRange mM_X7_41 mS_X7_needRange mN_X7 yd_X7_needRange rfl rfl ⟨Nat.le_of_ble_eq_true rfl, Nat.le_of_ble_eq_true rfl⟩ rfl rfl (Nat.le_of_ble_eq_true rfl) ⟨Nat.le_of_ble_eq_true rfl, Nat.le_of_ble_eq_true rfl⟩ (fun E9 w9 sz9 q => by obtain ⟨rfl, rfl, h9, hno9⟩ := q; exact x_out C0 rfl (Nat.le_of_ble_eq_true rfl) (Nat.le_of_ble_eq_true rfl) ⟨xFr.rf, by omega, _, _, _, hC.grow h9, (Or.inr (Or.inl ⟨hB9, rfl, hno9, rfl, rfl, rfl⟩))⟩) (fun r w1 sz1 hz hP => ?_)
  obtain ⟨rfl, h19, h59, rfl, rfl⟩ := hP
  refine x_st (st1 := []) rfl ?_
  refine x_aload_n 0 14 C0 dX7_bring_13 rfl rfl rfl ?_
  refine x_getf (v := .ref (g.2 0 + 47)) 3 17 C0 dX7_bring_14 rfl hC.1.1 rfl (by decide) inX7 mF_X7_26 rfl ?_
  refine x_aload_n 0 18 C0 dX7_bring_17 rfl rfl rfl ?_
  refine x_getf (v := .ref (g.2 0 + 1)) 0 21 C0 dX7_bring_18 rfl hC.1.1 rfl (by decide) inX7 mF_X7_10 rfl ?_
  refine x_callV 24 C0 (k_X3_prepare l hl g _ _ _ x la t tt vb sg hC) dX7_bring_21 rfl mC_X3_prepare mM_X7_45 mI_X3_prepare mV_X3_prepare mN_X3 yd_X3_prepare rfl rfl ⟨Nat.le_of_ble_eq_true rfl, Nat.le_of_ble_eq_true rfl⟩ hC.1.2.1 rfl rfl rfl rfl (Nat.le_of_ble_eq_true rfl) ⟨Nat.le_of_ble_eq_true rfl, Nat.le_of_ble_eq_true rfl⟩ (fun _ _ _ q => False.elim q) (fun r w1 sz1 hz hP => ?_)
  obtain ⟨wv1, hwv1⟩ : ∃ z, z = w1 := ⟨_, rfl⟩
  obtain ⟨rfl, x1, la1, hC1, hx1, hl1, hG1, rfl, hXX1⟩ := hP
  refine x_w hwv1.symm ?_
  rw [← hwv1] at hC1 hG1
  have hF1 : xFr g w wv1 sz := xFr.tr (sz1 := sz) xFr.rf hG1 (by omega)
  refine x_st (st1 := []) rfl ?_
  refine x_aload_n 0 25 C0 dX7_bring_24 rfl rfl rfl ?_
  refine x_aload_n 0 26 C0 dX7_bring_25 rfl rfl rfl ?_
  refine x_getf (v := .ref (g.2 0 + 1)) 0 29 C0 dX7_bring_26 rfl hC1.1.1 rfl (by decide) inX7 mF_X7_10 rfl ?_
  refine x_iload_n 1 30 C0 dX7_bring_29 rfl rfl rfl ?_
  refine x_iload_n 2 31 C0 dX7_bring_30 rfl rfl rfl ?_
  refine x_iload_n 3 32 C0 dX7_bring_31 rfl rfl rfl ?_
  refine x_callV 35 C0 (k_X4_tryBring l hl g _ _ _ _ _ hC1.h0 (Nat.le_add_right _ _) ga ki po) dX7_bring_32 rfl mC_X4_tryBring mM_X7_49 mI_X4_tryBring mV_X4_tryBring mN_X4 yd_X4_tryBring rfl rfl ⟨Nat.le_of_ble_eq_true rfl, Nat.le_of_ble_eq_true rfl⟩ (HR.ho hC1.h0) rfl rfl rfl rfl (Nat.le_of_ble_eq_true rfl) ⟨Nat.le_of_ble_eq_true rfl, Nat.le_of_ble_eq_true rfl⟩ (fun _ _ _ q => False.elim q) (fun r w1 sz1 hz hP => ?_)
  obtain ⟨rfl, x2, hw2, hQ2⟩ := hP
  obtain ⟨hk2, b2, rfl, hb2⟩ := hQ2.ok (fun q => hC1.k0.bring) hC1.k0
  obtain ⟨wv2, hwv2⟩ : ∃ z, z = w1 := ⟨_, rfl⟩
  refine x_w hwv2.symm ?_
  rw [← hwv2] at hw2
  obtain ⟨x3, la3, hx3, hla3, hC3⟩ : ∃ x3 la3, x3 = va_up x1 0 x2 ∧ la3 = va_up la1 0 (la1 0) ∧ CR g wv2 sz n x3 la3 t tt vb sg := ⟨_, _, rfl, rfl, by rw [hw2]; exact hC1.set0 hk2 hC1.l0⟩
  have hF3 : xFr g w wv2 sz := xFr.tr (sz1 := sz) hF1 (by rw [hw2]; exact xFr.hw (by omega)) (by omega)
  refine x_st (st1 := [.int b2, .ref (g.2 0)]) rfl ?_
  refine x_callV 38 C0 (k_X7_conclude l hl g _ _ _ x3 la3 t tt vb sg hC3 b2) dX7_bring_35 rfl mC_X7_conclude mM_X7_53 mI_X7_conclude mV_X7_conclude mN_X7 yd_X7_conclude rfl rfl ⟨Nat.le_of_ble_eq_true rfl, Nat.le_of_ble_eq_true rfl⟩ hC3.1.1 rfl rfl rfl rfl (Nat.le_of_ble_eq_true rfl) ⟨Nat.le_of_ble_eq_true rfl, Nat.le_of_ble_eq_true rfl⟩ (fun E9 w9 sz9 q => by obtain ⟨rfl, rfl, h9, hno9⟩ := q; exact x_out C0 rfl (Nat.le_of_ble_eq_true rfl) (Nat.le_of_ble_eq_true rfl) ⟨hF3, by omega, _, _, _, hC3.grow h9, (Or.inr (Or.inr (⟨x1, la1, x3, x2, la3, b2, hB9, ⟨h19, h59⟩, hXX1, hx3, hla3, hQ2, rfl, hno9, rfl, rfl, rfl⟩)))⟩) (fun r w1 sz1 hz hP => ?_)
  obtain ⟨wv4, hwv4⟩ : ∃ z, z = w1 := ⟨_, rfl⟩
  obtain ⟨rfl, t4, hC4, hG4, rfl, hb94, ht94⟩ := hP
  refine x_w hwv4.symm ?_
  rw [← hwv4] at hC4 hG4
  have hF4 : xFr g w wv4 sz := xFr.tr (sz1 := sz) hF3 hG4 (by omega)
  refine x_st (st1 := []) rfl ?_
  refine x_aload_n 0 39 C0 dX7_bring_38 rfl rfl rfl ?_
  refine x_getf (v := .ref (g.2 0 + 1)) 0 42 C0 dX7_bring_39 rfl hC4.1.1 rfl (by decide) inX7 mF_X7_10 rfl ?_
  refine x_iload_n 1 43 C0 dX7_bring_42 rfl rfl rfl ?_
  refine x_iload_n 2 44 C0 dX7_bring_43 rfl rfl rfl ?_
  refine x_callV 47 C0 (k_X4_stored l hl g _ _ _ _ _ hC4.h0 ga ki) dX7_bring_44 rfl mC_X4_stored mM_X7_57 mI_X4_stored mV_X4_stored mN_X4 yd_X4_stored rfl rfl ⟨Nat.le_of_ble_eq_true rfl, Nat.le_of_ble_eq_true rfl⟩ (HR.ho hC4.h0) rfl rfl rfl rfl (Nat.le_of_ble_eq_true rfl) ⟨Nat.le_of_ble_eq_true rfl, Nat.le_of_ble_eq_true rfl⟩ (fun _ _ _ q => False.elim q) (fun r w1 sz1 hz hP => ?_)
  obtain ⟨hr, rfl, rfl⟩ := hP
  obtain ⟨v5, rfl⟩ : ∃ v : Int32, r = some (.int v) := ⟨_, hr⟩
  have hr5 := hr
  refine x_st (st1 := [.int v5]) rfl ?_
  exact x_ireturn C0 dX7_bring_47 rfl rfl (Nat.le_of_ble_eq_true rfl) (Nat.le_of_ble_eq_true rfl) ⟨⟨_, rfl⟩, hF4, by omega, _, _, _, hC4, ⟨x1, la1, x3, x2, la3, b2, t4, v5, hB9, ⟨h19, h59⟩, hXX1, hx3, hla3, hQ2, hb94, ht94, hr5, rfl, rfl, rfl, rfl⟩⟩

def L_X7_load (g : xg_T) (x : Nat → Nat → Int32) (la : Nat → Nat → Nat) (t : Nat → Int32) (cn : Int32) (r : Option Value) (x' : Nat → Nat → Int32) (la' : Nat → Nat → Nat) (t' : Nat → Int32) : Prop :=
  (∃ (k : Nat) (x1 : Nat → Nat → Int32) (la1 : Nat → Nat → Nat) (x3 : Nat → Nat → Int32) (x2 : Nat → Int32) (la3 : Nat → Nat → Nat) (b2 : Int32) (t4 : Nat → Int32) (v5 : Int32), (cn = nI k) ∧ (nI k < x 0 3) ∧ (k < 20) ∧ (∃ j : Nat, j < 9 ∧ (∀ c : Nat, c < 2 ^ 31 → t 1 = nI c → j = c % 9) ∧ x1 = va_up x (j + 2) (cpX (x (j + 2)) (x 0)) ∧ la1 = va_up la (j + 2) (la 0)) ∧ (x3 = va_up x1 0 x2) ∧ (la3 = va_up la1 0 (la1 0)) ∧ (tri (loadOk (x1 0) k) (loadX (x1 0) k) (x1 0) x2 (some (.int b2))) ∧ (¬ b2 = 0) ∧ (t4 = upd (upd t 1 (t 1 + 1)) 2 (if t 2 + 1 < 8 then t 2 + 1 else 8)) ∧ (some (Value.int v5) = some (Value.int (hRoom (x3 0) 20))) ∧ (r = some (.int v5)) ∧ (x' = x3) ∧ (la' = la3) ∧ (t' = t4))
def E_X7_load (g : xg_T) (x : Nat → Nat → Int32) (la : Nat → Nat → Nat) (t : Nat → Int32) (cn : Int32) (E : String) (x' : Nat → Nat → Int32) (la' : Nat → Nat → Nat) (t' : Nat → Int32) : Prop :=
  ((E = "java/lang/IndexOutOfBoundsException") ∧ (¬ (0 ≤ cn ∧ cn < x 0 3 ∧ cn < 20)) ∧ (x' = x) ∧ (la' = la) ∧ (t' = t)) ∨
  (∃ (k : Nat) (x1 : Nat → Nat → Int32) (la1 : Nat → Nat → Nat) (x3 : Nat → Nat → Int32) (x2 : Nat → Int32) (la3 : Nat → Nat → Nat) (b2 : Int32), (cn = nI k) ∧ (nI k < x 0 3) ∧ (k < 20) ∧ (∃ j : Nat, j < 9 ∧ (∀ c : Nat, c < 2 ^ 31 → t 1 = nI c → j = c % 9) ∧ x1 = va_up x (j + 2) (cpX (x (j + 2)) (x 0)) ∧ la1 = va_up la (j + 2) (la 0)) ∧ (x3 = va_up x1 0 x2) ∧ (la3 = va_up la1 0 (la1 0)) ∧ (tri (loadOk (x1 0) k) (loadX (x1 0) k) (x1 0) x2 (some (.int b2))) ∧ (E = "java/lang/UnsupportedOperationException") ∧ (b2 = 0) ∧ (x' = x3) ∧ (la' = la3) ∧ (t' = t))
set_option maxHeartbeats 4000000 in
set_option maxRecDepth 100000 in
theorem e_X7_load (l : Launch) (hl : l.stackTraces = false) (g : xg_T) (w : xw_T) (sz n : Nat) (x : Nat → Nat → Int32) (la : Nat → Nat → Nat) (t tt : Nat → Int32) (vb : Option Nat) (sg : Nat → Int32) (hC : CR g w sz n x la t tt vb sg) (cn : Int32) : xM l g yX7_load cX7_load 3 (some .int) ({ frames := 7, cells := 8, slots := 64, locals := 104 }) 8 64 [.ref (g.2 0), .int cn] w sz (cQ g w sz n tt vb sg (fun r x' la' t' => L_X7_load g x la t cn r x' la' t')) (cE g w sz n tt vb sg (fun E x' la' t' => E_X7_load g x la t cn E x' la' t')) := by
  have hz9 := hC.zz
  refine xM.of RX7 hl (by decide +kernel) rfl (Nat.le_of_ble_eq_true rfl) rfl ?_
  intro p e s m args below meth cD C0 hini
  refine x_aload_n 0 1 C0 dX7_load_0 rfl rfl rfl ?_
  refine x_iload_n 1 2 C0 dX7_load_1 rfl rfl rfl ?_
  refine x_callV 5 C0 (k_X7_needChest l hl g _ _ _ x la t tt vb sg hC cn) dX7_load_2 rfl mC_X7_needChest mM_X7_89 mI_X7_needChest mV_X7_needChest mN_X7 yd_X7_needChest rfl rfl ⟨Nat.le_of_ble_eq_true rfl, Nat.le_of_ble_eq_true rfl⟩ hC.1.1 rfl rfl rfl rfl (Nat.le_of_ble_eq_true rfl) ⟨Nat.le_of_ble_eq_true rfl, Nat.le_of_ble_eq_true rfl⟩ (fun E9 w9 sz9 q => by obtain ⟨rfl, rfl, h9, hno9⟩ := q; exact x_out C0 rfl (Nat.le_of_ble_eq_true rfl) (Nat.le_of_ble_eq_true rfl) ⟨xFr.rf, by omega, _, _, _, hC.grow h9, (Or.inl ⟨rfl, hno9, rfl, rfl, rfl⟩)⟩) (fun r w1 sz1 hz hP => ?_)
  obtain ⟨⟨k, hk, hm, rfl, hnk⟩, rfl, rfl⟩ := hP
  have hm0 := hm
  refine x_st (st1 := [.ref (g.2 0 + 1 + 3 + k)]) rfl ?_
  refine x_astore_n [(2, .ref (g.2 0 + 1 + 3 + k)), (0, .ref (g.2 0)), (1, .int cn)] 6 C0 dX7_load_5 rfl rfl (by decide) rfl ?_
  refine x_lv (lv1 := [(0, .ref (g.2 0)), (1, .int cn), (2, .ref (g.2 0 + 1 + 3 + k))]) [1, 2, 0] rfl ?_
  refine x_aload_n 0 7 C0 dX7_load_6 rfl rfl rfl ?_
  refine x_getf (v := .ref (g.2 0 + 47)) 3 10 C0 dX7_load_7 rfl hC.1.1 rfl (by decide) inX7 mF_X7_26 rfl ?_
  refine x_aload_n 0 11 C0 dX7_load_10 rfl rfl rfl ?_
  refine x_getf (v := .ref (g.2 0 + 1)) 0 14 C0 dX7_load_11 rfl hC.1.1 rfl (by decide) inX7 mF_X7_10 rfl ?_
  refine x_callV 17 C0 (k_X3_prepare l hl g _ _ _ x la t tt vb sg hC) dX7_load_14 rfl mC_X3_prepare mM_X7_45 mI_X3_prepare mV_X3_prepare mN_X3 yd_X3_prepare rfl rfl ⟨Nat.le_of_ble_eq_true rfl, Nat.le_of_ble_eq_true rfl⟩ hC.1.2.1 rfl rfl rfl rfl (Nat.le_of_ble_eq_true rfl) ⟨Nat.le_of_ble_eq_true rfl, Nat.le_of_ble_eq_true rfl⟩ (fun _ _ _ q => False.elim q) (fun r w1 sz1 hz hP => ?_)
  obtain ⟨wv1, hwv1⟩ : ∃ z, z = w1 := ⟨_, rfl⟩
  obtain ⟨rfl, x1, la1, hC1, hx1, hl1, hG1, rfl, hXX1⟩ := hP
  refine x_w hwv1.symm ?_
  rw [← hwv1] at hC1 hG1
  have hF1 : xFr g w wv1 sz := xFr.tr (sz1 := sz) xFr.rf hG1 (by omega)
  refine x_st (st1 := []) rfl ?_
  have hm : nI k < x1 0 3 := by rw [hx1]; exact hm
  refine x_aload_n 0 18 C0 dX7_load_17 rfl rfl rfl ?_
  refine x_aload_n 0 19 C0 dX7_load_18 rfl rfl rfl ?_
  refine x_getf (v := .ref (g.2 0 + 1)) 0 22 C0 dX7_load_19 rfl hC1.1.1 rfl (by decide) inX7 mF_X7_10 rfl ?_
  refine x_aload_n 2 23 C0 dX7_load_22 rfl rfl rfl ?_
  refine x_callV 26 C0 (k_X4_tryLoad l hl g _ _ _ _ _ hC1.h0 (Nat.le_add_right _ _) k hk) dX7_load_23 rfl mC_X4_tryLoad mM_X7_186 mI_X4_tryLoad mV_X4_tryLoad mN_X4 yd_X4_tryLoad rfl rfl ⟨Nat.le_of_ble_eq_true rfl, Nat.le_of_ble_eq_true rfl⟩ (HR.ho hC1.h0) rfl rfl rfl rfl (Nat.le_of_ble_eq_true rfl) ⟨Nat.le_of_ble_eq_true rfl, Nat.le_of_ble_eq_true rfl⟩ (fun _ _ _ q => False.elim q) (fun r w1 sz1 hz hP => ?_)
  obtain ⟨rfl, x2, hw2, hQ2⟩ := hP
  obtain ⟨hk2, b2, rfl, hb2⟩ := hQ2.ok (fun q => hC1.k0.load hk) hC1.k0
  obtain ⟨wv2, hwv2⟩ : ∃ z, z = w1 := ⟨_, rfl⟩
  refine x_w hwv2.symm ?_
  rw [← hwv2] at hw2
  obtain ⟨x3, la3, hx3, hla3, hC3⟩ : ∃ x3 la3, x3 = va_up x1 0 x2 ∧ la3 = va_up la1 0 (la1 0) ∧ CR g wv2 sz n x3 la3 t tt vb sg := ⟨_, _, rfl, rfl, by rw [hw2]; exact hC1.set0 hk2 hC1.l0⟩
  have hF3 : xFr g w wv2 sz := xFr.tr (sz1 := sz) hF1 (by rw [hw2]; exact xFr.hw (by omega)) (by omega)
  refine x_st (st1 := [.int b2, .ref (g.2 0)]) rfl ?_
  refine x_callV 29 C0 (k_X7_conclude l hl g _ _ _ x3 la3 t tt vb sg hC3 b2) dX7_load_26 rfl mC_X7_conclude mM_X7_53 mI_X7_conclude mV_X7_conclude mN_X7 yd_X7_conclude rfl rfl ⟨Nat.le_of_ble_eq_true rfl, Nat.le_of_ble_eq_true rfl⟩ hC3.1.1 rfl rfl rfl rfl (Nat.le_of_ble_eq_true rfl) ⟨Nat.le_of_ble_eq_true rfl, Nat.le_of_ble_eq_true rfl⟩ (fun E9 w9 sz9 q => by obtain ⟨rfl, rfl, h9, hno9⟩ := q; exact x_out C0 rfl (Nat.le_of_ble_eq_true rfl) (Nat.le_of_ble_eq_true rfl) ⟨hF3, by omega, _, _, _, hC3.grow h9, (Or.inr (⟨k, x1, la1, x3, x2, la3, b2, hnk, hm0, hk, hXX1, hx3, hla3, hQ2, rfl, hno9, rfl, rfl, rfl⟩))⟩) (fun r w1 sz1 hz hP => ?_)
  obtain ⟨wv4, hwv4⟩ : ∃ z, z = w1 := ⟨_, rfl⟩
  obtain ⟨rfl, t4, hC4, hG4, rfl, hb94, ht94⟩ := hP
  refine x_w hwv4.symm ?_
  rw [← hwv4] at hC4 hG4
  have hF4 : xFr g w wv4 sz := xFr.tr (sz1 := sz) hF3 hG4 (by omega)
  refine x_st (st1 := []) rfl ?_
  refine x_aload_n 0 30 C0 dX7_load_29 rfl rfl rfl ?_
  refine x_getf (v := .ref (g.2 0 + 1)) 0 33 C0 dX7_load_30 rfl hC4.1.1 rfl (by decide) inX7 mF_X7_10 rfl ?_
  refine x_callV 36 C0 (k_X4_shipRoom l hl g _ _ _ _ _ hC4.h0) dX7_load_33 rfl mC_X4_shipRoom mM_X7_189 mI_X4_shipRoom mV_X4_shipRoom mN_X4 yd_X4_shipRoom rfl rfl ⟨Nat.le_of_ble_eq_true rfl, Nat.le_of_ble_eq_true rfl⟩ (HR.ho hC4.h0) rfl rfl rfl rfl (Nat.le_of_ble_eq_true rfl) ⟨Nat.le_of_ble_eq_true rfl, Nat.le_of_ble_eq_true rfl⟩ (fun _ _ _ q => False.elim q) (fun r w1 sz1 hz hP => ?_)
  obtain ⟨hr, rfl, rfl⟩ := hP
  obtain ⟨v5, rfl⟩ : ∃ v : Int32, r = some (.int v) := ⟨_, hr⟩
  have hr5 := hr
  refine x_st (st1 := [.int v5]) rfl ?_
  exact x_ireturn C0 dX7_load_36 rfl rfl (Nat.le_of_ble_eq_true rfl) (Nat.le_of_ble_eq_true rfl) ⟨⟨_, rfl⟩, hF4, by omega, _, _, _, hC4, ⟨k, x1, la1, x3, x2, la3, b2, t4, v5, hnk, hm0, hk, hXX1, hx3, hla3, hQ2, hb94, ht94, hr5, rfl, rfl, rfl, rfl⟩⟩

def L_X7_buy (g : xg_T) (x : Nat → Nat → Int32) (la : Nat → Nat → Nat) (t : Nat → Int32) (sc : Int32) (mn : Int32) (r : Option Value) (x' : Nat → Nat → Int32) (la' : Nat → Nat → Nat) (t' : Nat → Int32) : Prop :=
  (∃ (x1 : Nat → Nat → Int32) (la1 : Nat → Nat → Nat) (t1 : Nat → Int32) (x4 : Nat → Nat → Int32) (la4 : Nat → Nat → Nat), (1 ≤ mn ∧ mn ≤ 99) ∧ (∃ j : Nat, j < 9 ∧ (∀ c : Nat, c < 2 ^ 31 → t 1 = nI c → j = c % 9) ∧ x1 = va_up x (j + 2) (cpX (x (j + 2)) (x 0)) ∧ la1 = va_up la (j + 2) (la 0)) ∧ (t1 = upd (upd t 1 (t 1 + 1)) 2 (if t 2 + 1 < 8 then t 2 + 1 else 8)) ∧ (sc = 0) ∧ (x4 = va_up x1 0 (upd (x1 0) 1 (lo200 (x1 0 1 + mn)))) ∧ (la4 = va_up la1 0 (la1 0)) ∧ (r = some (.int (x4 0 1))) ∧ (x' = x4) ∧ (la' = la4) ∧ (t' = t1)) ∨
  (∃ (x1 : Nat → Nat → Int32) (la1 : Nat → Nat → Nat) (t1 : Nat → Int32) (x6 : Nat → Nat → Int32) (la6 : Nat → Nat → Nat), (1 ≤ mn ∧ mn ≤ 99) ∧ (∃ j : Nat, j < 9 ∧ (∀ c : Nat, c < 2 ^ 31 → t 1 = nI c → j = c % 9) ∧ x1 = va_up x (j + 2) (cpX (x (j + 2)) (x 0)) ∧ la1 = va_up la (j + 2) (la 0)) ∧ (t1 = upd (upd t 1 (t 1 + 1)) 2 (if t 2 + 1 < 8 then t 2 + 1 else 8)) ∧ (¬ (sc = 0)) ∧ (x6 = va_up x1 0 (upd (x1 0) 2 (lo200 (x1 0 2 + mn)))) ∧ (la6 = va_up la1 0 (la1 0)) ∧ (r = some (.int (x6 0 2))) ∧ (x' = x6) ∧ (la' = la6) ∧ (t' = t1))
def E_X7_buy (g : xg_T) (x : Nat → Nat → Int32) (la : Nat → Nat → Nat) (t : Nat → Int32) (sc : Int32) (mn : Int32) (E : String) (x' : Nat → Nat → Int32) (la' : Nat → Nat → Nat) (t' : Nat → Int32) : Prop :=
  ((E = "java/lang/IllegalArgumentException") ∧ (¬ (1 ≤ mn ∧ mn ≤ 99)) ∧ (x' = x) ∧ (la' = la) ∧ (t' = t))
set_option maxHeartbeats 4000000 in
set_option maxRecDepth 100000 in
theorem e_X7_buy (l : Launch) (hl : l.stackTraces = false) (g : xg_T) (w : xw_T) (sz n : Nat) (x : Nat → Nat → Int32) (la : Nat → Nat → Nat) (t tt : Nat → Int32) (vb : Option Nat) (sg : Nat → Int32) (hC : CR g w sz n x la t tt vb sg) (sc : Int32) (mn : Int32) : xM l g yX7_buy cX7_buy 3 (some .int) ({ frames := 7, cells := 8, slots := 64, locals := 104 }) 8 64 [.ref (g.2 0), .int sc, .int mn] w sz (cQ g w sz n tt vb sg (fun r x' la' t' => L_X7_buy g x la t sc mn r x' la' t')) (cE g w sz n tt vb sg (fun E x' la' t' => E_X7_buy g x la t sc mn E x' la' t')) := by
  have hz9 := hC.zz
  refine xM.of RX7 hl (by decide +kernel) rfl (Nat.le_of_ble_eq_true rfl) rfl ?_
  intro p e s m args below meth cD C0 hini
  refine x_iload_n 2 1 C0 dX7_buy_0 rfl rfl rfl ?_
  refine x_iconst (v := 1) 2 C0 dX7_buy_1 rfl (by decide) ?_
  refine x_bipush (v := 99) 4 C0 dX7_buy_2 rfl (by decide) ?_
  refine x_callS 7 C0 (k_X7_needRange l hl g _ _ mn 1 99) dX7_buy_4 rfl mC_X7_needRange mM_X7_41 mS_X7_needRange mN_X7 yd_X7_needRange rfl rfl ⟨Nat.le_of_ble_eq_true rfl, Nat.le_of_ble_eq_true rfl⟩ rfl rfl (Nat.le_of_ble_eq_true rfl) ⟨Nat.le_of_ble_eq_true rfl, Nat.le_of_ble_eq_true rfl⟩ (fun E9 w9 sz9 q => by obtain ⟨rfl, rfl, h9, hno9⟩ := q; exact x_out C0 rfl (Nat.le_of_ble_eq_true rfl) (Nat.le_of_ble_eq_true rfl) ⟨xFr.rf, by omega, _, _, _, hC.grow h9, ⟨rfl, hno9, rfl, rfl, rfl⟩⟩) (fun r w1 sz1 hz hP => ?_)
  obtain ⟨rfl, h19, h59, rfl, rfl⟩ := hP
  refine x_st (st1 := []) rfl ?_
  refine x_aload_n 0 8 C0 dX7_buy_7 rfl rfl rfl ?_
  refine x_callV 11 C0 (k_X7_keepChange l hl g _ _ _ x la t tt vb sg hC) dX7_buy_8 rfl mC_X7_keepChange mM_X7_65 mI_X7_keepChange mV_X7_keepChange mN_X7 yd_X7_keepChange rfl rfl ⟨Nat.le_of_ble_eq_true rfl, Nat.le_of_ble_eq_true rfl⟩ hC.1.1 rfl rfl rfl rfl (Nat.le_of_ble_eq_true rfl) ⟨Nat.le_of_ble_eq_true rfl, Nat.le_of_ble_eq_true rfl⟩ (fun _ _ _ q => False.elim q) (fun r w1 sz1 hz hP => ?_)
  obtain ⟨wv1, hwv1⟩ : ∃ z, z = w1 := ⟨_, rfl⟩
  obtain ⟨rfl, x1, la1, t1, hC1, hG1, rfl, ht91, hXX1⟩ := hP
  refine x_w hwv1.symm ?_
  rw [← hwv1] at hC1 hG1
  have hF1 : xFr g w wv1 sz := xFr.tr (sz1 := sz) xFr.rf hG1 (by omega)
  refine x_st (st1 := []) rfl ?_
  refine x_iload_n 1 12 C0 dX7_buy_11 rfl rfl rfl ?_
  refine x_if_eq 31 15 C0 dX7_buy_12 rfl (by decide) (fun c2 => ?_) (fun c2 => ?_)
  · refine x_aload_n 0 32 C0 dX7_buy_31 rfl rfl rfl ?_
    refine x_getf (v := .ref (g.2 0 + 1)) 0 35 C0 dX7_buy_32 rfl hC1.1.1 rfl (by decide) inX7 mF_X7_10 rfl ?_
    refine x_iload_n 2 36 C0 dX7_buy_35 rfl rfl rfl ?_
    refine x_callV 39 C0 (k_X4_addSheets l hl g _ _ _ _ _ hC1.h0 (Nat.le_add_right _ _) mn) dX7_buy_36 rfl mC_X4_addSheets mM_X7_76 mI_X4_addSheets mV_X4_addSheets mN_X4 yd_X4_addSheets rfl rfl ⟨Nat.le_of_ble_eq_true rfl, Nat.le_of_ble_eq_true rfl⟩ (HR.ho hC1.h0) rfl rfl rfl rfl (Nat.le_of_ble_eq_true rfl) ⟨Nat.le_of_ble_eq_true rfl, Nat.le_of_ble_eq_true rfl⟩ (fun _ _ _ q => False.elim q) (fun r w1 sz1 hz hP => ?_)
    obtain ⟨rfl, hw3, rfl⟩ := hP
    obtain ⟨wv3, hwv3⟩ : ∃ z, z = w1 := ⟨_, rfl⟩
    refine x_w hwv3.symm ?_
    rw [← hwv3] at hw3
    obtain ⟨x4, la4, hx4, hla4, hC4⟩ : ∃ x4 la4, x4 = va_up x1 0 (upd (x1 0) 1 (lo200 (x1 0 1 + mn))) ∧ la4 = va_up la1 0 (la1 0) ∧ CR g wv3 sz n x4 la4 t1 tt vb sg := ⟨_, _, rfl, rfl, by rw [hw3]; exact hC1.set0 (hC1.k0.up (by omega)) hC1.l0⟩
    have hF4 : xFr g w wv3 sz := xFr.tr (sz1 := sz) hF1 (by rw [hw3]; exact xFr.hw (by omega)) (by omega)
    refine x_st (st1 := []) rfl ?_
    refine x_aload_n 0 40 C0 dX7_buy_39 rfl rfl rfl ?_
    refine x_getf (v := .ref (g.2 0 + 1)) 0 43 C0 dX7_buy_40 rfl hC4.1.1 rfl (by decide) inX7 mF_X7_10 rfl ?_
    refine x_getf (v := .int (x4 0 1)) 3 46 C0 dX7_buy_43 rfl (HR.ho hC4.h0) rfl (by decide) inX4 mF_X7_79 rfl ?_
    exact x_ireturn C0 dX7_buy_46 rfl rfl (Nat.le_of_ble_eq_true rfl) (Nat.le_of_ble_eq_true rfl) ⟨⟨_, rfl⟩, hF4, by omega, _, _, _, hC4, (Or.inl ⟨x1, la1, t1, x4, la4, ⟨h19, h59⟩, hXX1, ht91, c2, hx4, hla4, rfl, rfl, rfl, rfl⟩)⟩
  · refine x_aload_n 0 16 C0 dX7_buy_15 rfl rfl rfl ?_
    refine x_getf (v := .ref (g.2 0 + 1)) 0 19 C0 dX7_buy_16 rfl hC1.1.1 rfl (by decide) inX7 mF_X7_10 rfl ?_
    refine x_iload_n 2 20 C0 dX7_buy_19 rfl rfl rfl ?_
    refine x_callV 23 C0 (k_X4_addScrews l hl g _ _ _ _ _ hC1.h0 (Nat.le_add_right _ _) mn) dX7_buy_20 rfl mC_X4_addScrews mM_X7_68 mI_X4_addScrews mV_X4_addScrews mN_X4 yd_X4_addScrews rfl rfl ⟨Nat.le_of_ble_eq_true rfl, Nat.le_of_ble_eq_true rfl⟩ (HR.ho hC1.h0) rfl rfl rfl rfl (Nat.le_of_ble_eq_true rfl) ⟨Nat.le_of_ble_eq_true rfl, Nat.le_of_ble_eq_true rfl⟩ (fun _ _ _ q => False.elim q) (fun r w1 sz1 hz hP => ?_)
    obtain ⟨rfl, hw5, rfl⟩ := hP
    obtain ⟨wv5, hwv5⟩ : ∃ z, z = w1 := ⟨_, rfl⟩
    refine x_w hwv5.symm ?_
    rw [← hwv5] at hw5
    obtain ⟨x6, la6, hx6, hla6, hC6⟩ : ∃ x6 la6, x6 = va_up x1 0 (upd (x1 0) 2 (lo200 (x1 0 2 + mn))) ∧ la6 = va_up la1 0 (la1 0) ∧ CR g wv5 sz n x6 la6 t1 tt vb sg := ⟨_, _, rfl, rfl, by rw [hw5]; exact hC1.set0 (hC1.k0.up (by omega)) hC1.l0⟩
    have hF6 : xFr g w wv5 sz := xFr.tr (sz1 := sz) hF1 (by rw [hw5]; exact xFr.hw (by omega)) (by omega)
    refine x_st (st1 := []) rfl ?_
    refine x_aload_n 0 24 C0 dX7_buy_23 rfl rfl rfl ?_
    refine x_getf (v := .ref (g.2 0 + 1)) 0 27 C0 dX7_buy_24 rfl hC6.1.1 rfl (by decide) inX7 mF_X7_10 rfl ?_
    refine x_getf (v := .int (x6 0 2)) 4 30 C0 dX7_buy_27 rfl (HR.ho hC6.h0) rfl (by decide) inX4 mF_X7_72 rfl ?_
    exact x_ireturn C0 dX7_buy_30 rfl rfl (Nat.le_of_ble_eq_true rfl) (Nat.le_of_ble_eq_true rfl) ⟨⟨_, rfl⟩, hF6, by omega, _, _, _, hC6, (Or.inr (⟨x1, la1, t1, x6, la6, ⟨h19, h59⟩, hXX1, ht91, c2, hx6, hla6, rfl, rfl, rfl, rfl⟩))⟩

def L_X7_make (g : xg_T) (x : Nat → Nat → Int32) (la : Nat → Nat → Nat) (t : Nat → Int32) (si : Int32) (r : Option Value) (x' : Nat → Nat → Int32) (la' : Nat → Nat → Nat) (t' : Nat → Int32) : Prop :=
  (∃ (x1 : Nat → Nat → Int32) (la1 : Nat → Nat → Nat) (x3 : Nat → Nat → Int32) (x2 : Nat → Int32) (la3 : Nat → Nat → Nat) (mk : Nat) (b2 : Int32) (t4 : Nat → Int32), (1 ≤ si ∧ si ≤ 5) ∧ (∃ j : Nat, j < 9 ∧ (∀ c : Nat, c < 2 ^ 31 → t 1 = nI c → j = c % 9) ∧ x1 = va_up x (j + 2) (cpX (x (j + 2)) (x 0)) ∧ la1 = va_up la (j + 2) (la 0)) ∧ (x3 = va_up x1 0 x2) ∧ (la3 = va_up la1 0 (la1 0)) ∧ (mk ≤ 20) ∧ (x1 0 3 = nI mk) ∧ (tri (mk < 20) (makeX (x1 0) mk si) (x1 0) x2 (some (.int b2))) ∧ (¬ b2 = 0) ∧ (t4 = upd (upd t 1 (t 1 + 1)) 2 (if t 2 + 1 < 8 then t 2 + 1 else 8)) ∧ (r = some (.int ((x3 0 3) - 1))) ∧ (x' = x3) ∧ (la' = la3) ∧ (t' = t4))
def E_X7_make (g : xg_T) (x : Nat → Nat → Int32) (la : Nat → Nat → Nat) (t : Nat → Int32) (si : Int32) (E : String) (x' : Nat → Nat → Int32) (la' : Nat → Nat → Nat) (t' : Nat → Int32) : Prop :=
  ((E = "java/lang/IllegalArgumentException") ∧ (¬ (1 ≤ si ∧ si ≤ 5)) ∧ (x' = x) ∧ (la' = la) ∧ (t' = t)) ∨
  (∃ (x1 : Nat → Nat → Int32) (la1 : Nat → Nat → Nat) (x3 : Nat → Nat → Int32) (x2 : Nat → Int32) (la3 : Nat → Nat → Nat) (mk : Nat) (b2 : Int32), (1 ≤ si ∧ si ≤ 5) ∧ (∃ j : Nat, j < 9 ∧ (∀ c : Nat, c < 2 ^ 31 → t 1 = nI c → j = c % 9) ∧ x1 = va_up x (j + 2) (cpX (x (j + 2)) (x 0)) ∧ la1 = va_up la (j + 2) (la 0)) ∧ (x3 = va_up x1 0 x2) ∧ (la3 = va_up la1 0 (la1 0)) ∧ (mk ≤ 20) ∧ (x1 0 3 = nI mk) ∧ (tri (mk < 20) (makeX (x1 0) mk si) (x1 0) x2 (some (.int b2))) ∧ (E = "java/lang/UnsupportedOperationException") ∧ (b2 = 0) ∧ (x' = x3) ∧ (la' = la3) ∧ (t' = t))
set_option maxHeartbeats 4000000 in
set_option maxRecDepth 100000 in
theorem e_X7_make (l : Launch) (hl : l.stackTraces = false) (g : xg_T) (w : xw_T) (sz n : Nat) (x : Nat → Nat → Int32) (la : Nat → Nat → Nat) (t tt : Nat → Int32) (vb : Option Nat) (sg : Nat → Int32) (hC : CR g w sz n x la t tt vb sg) (si : Int32) : xM l g yX7_make cX7_make 2 (some .int) ({ frames := 7, cells := 8, slots := 64, locals := 104 }) 8 64 [.ref (g.2 0), .int si] w sz (cQ g w sz n tt vb sg (fun r x' la' t' => L_X7_make g x la t si r x' la' t')) (cE g w sz n tt vb sg (fun E x' la' t' => E_X7_make g x la t si E x' la' t')) := by
  have hz9 := hC.zz
  refine xM.of RX7 hl (by decide +kernel) rfl (Nat.le_of_ble_eq_true rfl) rfl ?_
  intro p e s m args below meth cD C0 hini
  refine x_iload_n 1 1 C0 dX7_make_0 rfl rfl rfl ?_
  refine x_iconst (v := 1) 2 C0 dX7_make_1 rfl (by decide) ?_
  refine x_iconst (v := 5) 3 C0 dX7_make_2 rfl (by decide) ?_
  refine x_callS 6 C0 (k_X7_needRange l hl g _ _ si 1 5) dX7_make_3 rfl mC_X7_needRange mM_X7_41 mS_X7_needRange mN_X7 yd_X7_needRange rfl rfl ⟨Nat.le_of_ble_eq_true rfl, Nat.le_of_ble_eq_true rfl⟩ rfl rfl (Nat.le_of_ble_eq_true rfl) ⟨Nat.le_of_ble_eq_true rfl, Nat.le_of_ble_eq_true rfl⟩ (fun E9 w9 sz9 q => by obtain ⟨rfl, rfl, h9, hno9⟩ := q; exact x_out C0 rfl (Nat.le_of_ble_eq_true rfl) (Nat.le_of_ble_eq_true rfl) ⟨xFr.rf, by omega, _, _, _, hC.grow h9, (Or.inl ⟨rfl, hno9, rfl, rfl, rfl⟩)⟩) (fun r w1 sz1 hz hP => ?_)
  obtain ⟨rfl, h19, h59, rfl, rfl⟩ := hP
  refine x_st (st1 := []) rfl ?_
  refine x_aload_n 0 7 C0 dX7_make_6 rfl rfl rfl ?_
  refine x_getf (v := .ref (g.2 0 + 47)) 3 10 C0 dX7_make_7 rfl hC.1.1 rfl (by decide) inX7 mF_X7_26 rfl ?_
  refine x_aload_n 0 11 C0 dX7_make_10 rfl rfl rfl ?_
  refine x_getf (v := .ref (g.2 0 + 1)) 0 14 C0 dX7_make_11 rfl hC.1.1 rfl (by decide) inX7 mF_X7_10 rfl ?_
  refine x_callV 17 C0 (k_X3_prepare l hl g _ _ _ x la t tt vb sg hC) dX7_make_14 rfl mC_X3_prepare mM_X7_45 mI_X3_prepare mV_X3_prepare mN_X3 yd_X3_prepare rfl rfl ⟨Nat.le_of_ble_eq_true rfl, Nat.le_of_ble_eq_true rfl⟩ hC.1.2.1 rfl rfl rfl rfl (Nat.le_of_ble_eq_true rfl) ⟨Nat.le_of_ble_eq_true rfl, Nat.le_of_ble_eq_true rfl⟩ (fun _ _ _ q => False.elim q) (fun r w1 sz1 hz hP => ?_)
  obtain ⟨wv1, hwv1⟩ : ∃ z, z = w1 := ⟨_, rfl⟩
  obtain ⟨rfl, x1, la1, hC1, hx1, hl1, hG1, rfl, hXX1⟩ := hP
  refine x_w hwv1.symm ?_
  rw [← hwv1] at hC1 hG1
  have hF1 : xFr g w wv1 sz := xFr.tr (sz1 := sz) xFr.rf hG1 (by omega)
  refine x_st (st1 := []) rfl ?_
  refine x_aload_n 0 18 C0 dX7_make_17 rfl rfl rfl ?_
  refine x_aload_n 0 19 C0 dX7_make_18 rfl rfl rfl ?_
  refine x_getf (v := .ref (g.2 0 + 1)) 0 22 C0 dX7_make_19 rfl hC1.1.1 rfl (by decide) inX7 mF_X7_10 rfl ?_
  refine x_iload_n 1 23 C0 dX7_make_22 rfl rfl rfl ?_
  obtain ⟨mk, hmk, hm3⟩ := hC1.k0.made
  refine x_callV 26 C0 (k_X4_tryMake l hl g _ _ _ _ _ hC1.h0 (Nat.le_add_right _ _) mk hmk hm3 si) dX7_make_23 rfl mC_X4_tryMake mM_X7_82 mI_X4_tryMake mV_X4_tryMake mN_X4 yd_X4_tryMake rfl rfl ⟨Nat.le_of_ble_eq_true rfl, Nat.le_of_ble_eq_true rfl⟩ (HR.ho hC1.h0) rfl rfl rfl rfl (Nat.le_of_ble_eq_true rfl) ⟨Nat.le_of_ble_eq_true rfl, Nat.le_of_ble_eq_true rfl⟩ (fun _ _ _ q => False.elim q) (fun r w1 sz1 hz hP => ?_)
  obtain ⟨rfl, x2, hw2, hQ2⟩ := hP
  obtain ⟨hk2, b2, rfl, hb2⟩ := hQ2.ok (fun q => hC1.k0.make q hm3 h19 h59) hC1.k0
  obtain ⟨wv2, hwv2⟩ : ∃ z, z = w1 := ⟨_, rfl⟩
  refine x_w hwv2.symm ?_
  rw [← hwv2] at hw2
  obtain ⟨x3, la3, hx3, hla3, hC3⟩ : ∃ x3 la3, x3 = va_up x1 0 x2 ∧ la3 = va_up la1 0 (la1 0) ∧ CR g wv2 sz n x3 la3 t tt vb sg := ⟨_, _, rfl, rfl, by rw [hw2]; exact hC1.set0 hk2 hC1.l0⟩
  have hF3 : xFr g w wv2 sz := xFr.tr (sz1 := sz) hF1 (by rw [hw2]; exact xFr.hw (by omega)) (by omega)
  refine x_st (st1 := [.int b2, .ref (g.2 0)]) rfl ?_
  refine x_callV 29 C0 (k_X7_conclude l hl g _ _ _ x3 la3 t tt vb sg hC3 b2) dX7_make_26 rfl mC_X7_conclude mM_X7_53 mI_X7_conclude mV_X7_conclude mN_X7 yd_X7_conclude rfl rfl ⟨Nat.le_of_ble_eq_true rfl, Nat.le_of_ble_eq_true rfl⟩ hC3.1.1 rfl rfl rfl rfl (Nat.le_of_ble_eq_true rfl) ⟨Nat.le_of_ble_eq_true rfl, Nat.le_of_ble_eq_true rfl⟩ (fun E9 w9 sz9 q => by obtain ⟨rfl, rfl, h9, hno9⟩ := q; exact x_out C0 rfl (Nat.le_of_ble_eq_true rfl) (Nat.le_of_ble_eq_true rfl) ⟨hF3, by omega, _, _, _, hC3.grow h9, (Or.inr (⟨x1, la1, x3, x2, la3, mk, b2, ⟨h19, h59⟩, hXX1, hx3, hla3, hmk, hm3, hQ2, rfl, hno9, rfl, rfl, rfl⟩))⟩) (fun r w1 sz1 hz hP => ?_)
  obtain ⟨wv4, hwv4⟩ : ∃ z, z = w1 := ⟨_, rfl⟩
  obtain ⟨rfl, t4, hC4, hG4, rfl, hb94, ht94⟩ := hP
  refine x_w hwv4.symm ?_
  rw [← hwv4] at hC4 hG4
  have hF4 : xFr g w wv4 sz := xFr.tr (sz1 := sz) hF3 hG4 (by omega)
  refine x_st (st1 := []) rfl ?_
  refine x_aload_n 0 30 C0 dX7_make_29 rfl rfl rfl ?_
  refine x_getf (v := .ref (g.2 0 + 1)) 0 33 C0 dX7_make_30 rfl hC4.1.1 rfl (by decide) inX7 mF_X7_10 rfl ?_
  refine x_getf (v := .int (x3 0 3)) 2 36 C0 dX7_make_33 rfl (HR.ho hC4.h0) rfl (by decide) inX4 mF_X7_86 rfl ?_
  refine x_iconst (v := 1) 37 C0 dX7_make_36 rfl (by decide) ?_
  refine x_isub 38 C0 dX7_make_37 rfl ?_
  exact x_ireturn C0 dX7_make_38 rfl rfl (Nat.le_of_ble_eq_true rfl) (Nat.le_of_ble_eq_true rfl) ⟨⟨_, rfl⟩, hF4, by omega, _, _, _, hC4, ⟨x1, la1, x3, x2, la3, mk, b2, t4, ⟨h19, h59⟩, hXX1, hx3, hla3, hmk, hm3, hQ2, hb94, ht94, rfl, rfl, rfl, rfl⟩⟩

def L_X7_sail (g : xg_T) (x : Nat → Nat → Int32) (la : Nat → Nat → Nat) (t : Nat → Int32) (r : Option Value) (x' : Nat → Nat → Int32) (la' : Nat → Nat → Nat) (t' : Nat → Int32) : Prop :=
  (∃ (v1 : Int32) (x2 : Nat → Nat → Int32) (la2 : Nat → Nat → Nat) (x4 : Nat → Nat → Int32) (x3 : Nat → Int32) (la4 : Nat → Nat → Nat) (b3 : Int32) (t5 : Nat → Int32), (some (Value.int v1) = some (Value.int (cargoN (x 0) 20))) ∧ (∃ j : Nat, j < 9 ∧ (∀ c : Nat, c < 2 ^ 31 → t 1 = nI c → j = c % 9) ∧ x2 = va_up x (j + 2) (cpX (x (j + 2)) (x 0)) ∧ la2 = va_up la (j + 2) (la 0)) ∧ (x4 = va_up x2 0 x3) ∧ (la4 = va_up la2 0 (la2 0)) ∧ (tri (sailOk (x2 0)) (sailX (x2 0)) (x2 0) x3 (some (.int b3))) ∧ (¬ b3 = 0) ∧ (t5 = upd (upd t 1 (t 1 + 1)) 2 (if t 2 + 1 < 8 then t 2 + 1 else 8)) ∧ (r = some (.int v1)) ∧ (x' = x4) ∧ (la' = la4) ∧ (t' = t5))
def E_X7_sail (g : xg_T) (x : Nat → Nat → Int32) (la : Nat → Nat → Nat) (t : Nat → Int32) (E : String) (x' : Nat → Nat → Int32) (la' : Nat → Nat → Nat) (t' : Nat → Int32) : Prop :=
  (∃ (v1 : Int32) (x2 : Nat → Nat → Int32) (la2 : Nat → Nat → Nat) (x4 : Nat → Nat → Int32) (x3 : Nat → Int32) (la4 : Nat → Nat → Nat) (b3 : Int32), (some (Value.int v1) = some (Value.int (cargoN (x 0) 20))) ∧ (∃ j : Nat, j < 9 ∧ (∀ c : Nat, c < 2 ^ 31 → t 1 = nI c → j = c % 9) ∧ x2 = va_up x (j + 2) (cpX (x (j + 2)) (x 0)) ∧ la2 = va_up la (j + 2) (la 0)) ∧ (x4 = va_up x2 0 x3) ∧ (la4 = va_up la2 0 (la2 0)) ∧ (tri (sailOk (x2 0)) (sailX (x2 0)) (x2 0) x3 (some (.int b3))) ∧ (E = "java/lang/UnsupportedOperationException") ∧ (b3 = 0) ∧ (x' = x4) ∧ (la' = la4) ∧ (t' = t))
set_option maxHeartbeats 4000000 in
set_option maxRecDepth 100000 in
theorem e_X7_sail (l : Launch) (hl : l.stackTraces = false) (g : xg_T) (w : xw_T) (sz n : Nat) (x : Nat → Nat → Int32) (la : Nat → Nat → Nat) (t tt : Nat → Int32) (vb : Option Nat) (sg : Nat → Int32) (hC : CR g w sz n x la t tt vb sg) : xM l g yX7_sail cX7_sail 2 (some .int) ({ frames := 7, cells := 8, slots := 64, locals := 103 }) 8 64 [.ref (g.2 0)] w sz (cQ g w sz n tt vb sg (fun r x' la' t' => L_X7_sail g x la t r x' la' t')) (cE g w sz n tt vb sg (fun E x' la' t' => E_X7_sail g x la t E x' la' t')) := by
  have hz9 := hC.zz
  refine xM.of RX7 hl (by decide +kernel) rfl (Nat.le_of_ble_eq_true rfl) rfl ?_
  intro p e s m args below meth cD C0 hini
  refine x_aload_n 0 1 C0 dX7_sail_0 rfl rfl rfl ?_
  refine x_getf (v := .ref (g.2 0 + 1)) 0 4 C0 dX7_sail_1 rfl hC.1.1 rfl (by decide) inX7 mF_X7_10 rfl ?_
  refine x_callV 7 C0 (k_X4_shipCoins l hl g _ _ _ _ _ hC.h0) dX7_sail_4 rfl mC_X4_shipCoins mM_X7_192 mI_X4_shipCoins mV_X4_shipCoins mN_X4 yd_X4_shipCoins rfl rfl ⟨Nat.le_of_ble_eq_true rfl, Nat.le_of_ble_eq_true rfl⟩ (HR.ho hC.h0) rfl rfl rfl rfl (Nat.le_of_ble_eq_true rfl) ⟨Nat.le_of_ble_eq_true rfl, Nat.le_of_ble_eq_true rfl⟩ (fun _ _ _ q => False.elim q) (fun r w1 sz1 hz hP => ?_)
  obtain ⟨hr, rfl, rfl⟩ := hP
  obtain ⟨v1, rfl⟩ : ∃ v : Int32, r = some (.int v) := ⟨_, hr⟩
  have hr1 := hr
  refine x_st (st1 := [.int v1]) rfl ?_
  refine x_istore_n [(1, .int v1), (0, .ref (g.2 0))] 8 C0 dX7_sail_7 rfl rfl (by decide) rfl ?_
  refine x_lv (lv1 := [(0, .ref (g.2 0)), (1, .int v1)]) [1, 0] rfl ?_
  refine x_aload_n 0 9 C0 dX7_sail_8 rfl rfl rfl ?_
  refine x_getf (v := .ref (g.2 0 + 47)) 3 12 C0 dX7_sail_9 rfl hC.1.1 rfl (by decide) inX7 mF_X7_26 rfl ?_
  refine x_aload_n 0 13 C0 dX7_sail_12 rfl rfl rfl ?_
  refine x_getf (v := .ref (g.2 0 + 1)) 0 16 C0 dX7_sail_13 rfl hC.1.1 rfl (by decide) inX7 mF_X7_10 rfl ?_
  refine x_callV 19 C0 (k_X3_prepare l hl g _ _ _ x la t tt vb sg hC) dX7_sail_16 rfl mC_X3_prepare mM_X7_45 mI_X3_prepare mV_X3_prepare mN_X3 yd_X3_prepare rfl rfl ⟨Nat.le_of_ble_eq_true rfl, Nat.le_of_ble_eq_true rfl⟩ hC.1.2.1 rfl rfl rfl rfl (Nat.le_of_ble_eq_true rfl) ⟨Nat.le_of_ble_eq_true rfl, Nat.le_of_ble_eq_true rfl⟩ (fun _ _ _ q => False.elim q) (fun r w1 sz1 hz hP => ?_)
  obtain ⟨wv2, hwv2⟩ : ∃ z, z = w1 := ⟨_, rfl⟩
  obtain ⟨rfl, x2, la2, hC2, hx2, hl2, hG2, rfl, hXX2⟩ := hP
  refine x_w hwv2.symm ?_
  rw [← hwv2] at hC2 hG2
  have hF2 : xFr g w wv2 sz := xFr.tr (sz1 := sz) xFr.rf hG2 (by omega)
  refine x_st (st1 := []) rfl ?_
  refine x_aload_n 0 20 C0 dX7_sail_19 rfl rfl rfl ?_
  refine x_aload_n 0 21 C0 dX7_sail_20 rfl rfl rfl ?_
  refine x_getf (v := .ref (g.2 0 + 1)) 0 24 C0 dX7_sail_21 rfl hC2.1.1 rfl (by decide) inX7 mF_X7_10 rfl ?_
  refine x_callV 27 C0 (k_X4_trySail l hl g _ _ _ _ _ hC2.h0 (Nat.le_add_right _ _)) dX7_sail_24 rfl mC_X4_trySail mM_X7_195 mI_X4_trySail mV_X4_trySail mN_X4 yd_X4_trySail rfl rfl ⟨Nat.le_of_ble_eq_true rfl, Nat.le_of_ble_eq_true rfl⟩ (HR.ho hC2.h0) rfl rfl rfl rfl (Nat.le_of_ble_eq_true rfl) ⟨Nat.le_of_ble_eq_true rfl, Nat.le_of_ble_eq_true rfl⟩ (fun _ _ _ q => False.elim q) (fun r w1 sz1 hz hP => ?_)
  obtain ⟨rfl, x3, hw3, hQ3⟩ := hP
  obtain ⟨hk3, b3, rfl, hb3⟩ := hQ3.ok (fun q => hC2.k0.sail) hC2.k0
  obtain ⟨wv3, hwv3⟩ : ∃ z, z = w1 := ⟨_, rfl⟩
  refine x_w hwv3.symm ?_
  rw [← hwv3] at hw3
  obtain ⟨x4, la4, hx4, hla4, hC4⟩ : ∃ x4 la4, x4 = va_up x2 0 x3 ∧ la4 = va_up la2 0 (la2 0) ∧ CR g wv3 sz n x4 la4 t tt vb sg := ⟨_, _, rfl, rfl, by rw [hw3]; exact hC2.set0 hk3 hC2.l0⟩
  have hF4 : xFr g w wv3 sz := xFr.tr (sz1 := sz) hF2 (by rw [hw3]; exact xFr.hw (by omega)) (by omega)
  refine x_st (st1 := [.int b3, .ref (g.2 0)]) rfl ?_
  refine x_callV 30 C0 (k_X7_conclude l hl g _ _ _ x4 la4 t tt vb sg hC4 b3) dX7_sail_27 rfl mC_X7_conclude mM_X7_53 mI_X7_conclude mV_X7_conclude mN_X7 yd_X7_conclude rfl rfl ⟨Nat.le_of_ble_eq_true rfl, Nat.le_of_ble_eq_true rfl⟩ hC4.1.1 rfl rfl rfl rfl (Nat.le_of_ble_eq_true rfl) ⟨Nat.le_of_ble_eq_true rfl, Nat.le_of_ble_eq_true rfl⟩ (fun E9 w9 sz9 q => by obtain ⟨rfl, rfl, h9, hno9⟩ := q; exact x_out C0 rfl (Nat.le_of_ble_eq_true rfl) (Nat.le_of_ble_eq_true rfl) ⟨hF4, by omega, _, _, _, hC4.grow h9, ⟨v1, x2, la2, x4, x3, la4, b3, hr1, hXX2, hx4, hla4, hQ3, rfl, hno9, rfl, rfl, rfl⟩⟩) (fun r w1 sz1 hz hP => ?_)
  obtain ⟨wv5, hwv5⟩ : ∃ z, z = w1 := ⟨_, rfl⟩
  obtain ⟨rfl, t5, hC5, hG5, rfl, hb95, ht95⟩ := hP
  refine x_w hwv5.symm ?_
  rw [← hwv5] at hC5 hG5
  have hF5 : xFr g w wv5 sz := xFr.tr (sz1 := sz) hF4 hG5 (by omega)
  refine x_st (st1 := []) rfl ?_
  refine x_iload_n 1 31 C0 dX7_sail_30 rfl rfl rfl ?_
  exact x_ireturn C0 dX7_sail_31 rfl rfl (Nat.le_of_ble_eq_true rfl) (Nat.le_of_ble_eq_true rfl) ⟨⟨_, rfl⟩, hF5, by omega, _, _, _, hC5, ⟨v1, x2, la2, x4, x3, la4, b3, t5, hr1, hXX2, hx4, hla4, hQ3, hb95, ht95, rfl, rfl, rfl, rfl⟩⟩

def L_X7_setHumidity (g : xg_T) (x : Nat → Nat → Int32) (la : Nat → Nat → Nat) (t : Nat → Int32) (hu : Int32) (r : Option Value) (x' : Nat → Nat → Int32) (la' : Nat → Nat → Nat) (t' : Nat → Int32) : Prop :=
  (∃ (x1 : Nat → Nat → Int32) (la1 : Nat → Nat → Nat) (t1 : Nat → Int32) (x3 : Nat → Nat → Int32) (la3 : Nat → Nat → Nat), (0 ≤ hu ∧ hu ≤ 9) ∧ (∃ j : Nat, j < 9 ∧ (∀ c : Nat, c < 2 ^ 31 → t 1 = nI c → j = c % 9) ∧ x1 = va_up x (j + 2) (cpX (x (j + 2)) (x 0)) ∧ la1 = va_up la (j + 2) (la 0)) ∧ (t1 = upd (upd t 1 (t 1 + 1)) 2 (if t 2 + 1 < 8 then t 2 + 1 else 8)) ∧ (x3 = va_up x1 0 (upd (x1 0) 5 hu)) ∧ (la3 = va_up la1 0 (la1 0)) ∧ (r = some (.int (x 0 5))) ∧ (x' = x3) ∧ (la' = la3) ∧ (t' = t1))
def E_X7_setHumidity (g : xg_T) (x : Nat → Nat → Int32) (la : Nat → Nat → Nat) (t : Nat → Int32) (hu : Int32) (E : String) (x' : Nat → Nat → Int32) (la' : Nat → Nat → Nat) (t' : Nat → Int32) : Prop :=
  ((E = "java/lang/IllegalArgumentException") ∧ (¬ (0 ≤ hu ∧ hu ≤ 9)) ∧ (x' = x) ∧ (la' = la) ∧ (t' = t))
set_option maxHeartbeats 4000000 in
set_option maxRecDepth 100000 in
theorem e_X7_setHumidity (l : Launch) (hl : l.stackTraces = false) (g : xg_T) (w : xw_T) (sz n : Nat) (x : Nat → Nat → Int32) (la : Nat → Nat → Nat) (t tt : Nat → Int32) (vb : Option Nat) (sg : Nat → Int32) (hC : CR g w sz n x la t tt vb sg) (hu : Int32) : xM l g yX7_setHumidity cX7_setHumidity 3 (some .int) ({ frames := 7, cells := 8, slots := 64, locals := 104 }) 8 64 [.ref (g.2 0), .int hu] w sz (cQ g w sz n tt vb sg (fun r x' la' t' => L_X7_setHumidity g x la t hu r x' la' t')) (cE g w sz n tt vb sg (fun E x' la' t' => E_X7_setHumidity g x la t hu E x' la' t')) := by
  have hz9 := hC.zz
  refine xM.of RX7 hl (by decide +kernel) rfl (Nat.le_of_ble_eq_true rfl) rfl ?_
  intro p e s m args below meth cD C0 hini
  refine x_iload_n 1 1 C0 dX7_setHumidity_0 rfl rfl rfl ?_
  refine x_iconst (v := 0) 2 C0 dX7_setHumidity_1 rfl (by decide) ?_
  refine x_bipush (v := 9) 4 C0 dX7_setHumidity_2 rfl (by decide) ?_
  refine x_callS 7 C0 (k_X7_needRange l hl g _ _ hu 0 9) dX7_setHumidity_4 rfl mC_X7_needRange mM_X7_41 mS_X7_needRange mN_X7 yd_X7_needRange rfl rfl ⟨Nat.le_of_ble_eq_true rfl, Nat.le_of_ble_eq_true rfl⟩ rfl rfl (Nat.le_of_ble_eq_true rfl) ⟨Nat.le_of_ble_eq_true rfl, Nat.le_of_ble_eq_true rfl⟩ (fun E9 w9 sz9 q => by obtain ⟨rfl, rfl, h9, hno9⟩ := q; exact x_out C0 rfl (Nat.le_of_ble_eq_true rfl) (Nat.le_of_ble_eq_true rfl) ⟨xFr.rf, by omega, _, _, _, hC.grow h9, ⟨rfl, hno9, rfl, rfl, rfl⟩⟩) (fun r w1 sz1 hz hP => ?_)
  obtain ⟨rfl, h19, h59, rfl, rfl⟩ := hP
  refine x_st (st1 := []) rfl ?_
  refine x_aload_n 0 8 C0 dX7_setHumidity_7 rfl rfl rfl ?_
  refine x_getf (v := .ref (g.2 0 + 1)) 0 11 C0 dX7_setHumidity_8 rfl hC.1.1 rfl (by decide) inX7 mF_X7_10 rfl ?_
  refine x_getf (v := .int (x 0 5)) 6 14 C0 dX7_setHumidity_11 rfl (HR.ho hC.h0) rfl (by decide) inX4 mF_X7_204 rfl ?_
  refine x_istore_n [(2, .int (x 0 5)), (0, .ref (g.2 0)), (1, .int hu)] 15 C0 dX7_setHumidity_14 rfl rfl (by decide) rfl ?_
  refine x_lv (lv1 := [(0, .ref (g.2 0)), (1, .int hu), (2, .int (x 0 5))]) [1, 2, 0] rfl ?_
  refine x_aload_n 0 16 C0 dX7_setHumidity_15 rfl rfl rfl ?_
  refine x_callV 19 C0 (k_X7_keepChange l hl g _ _ _ x la t tt vb sg hC) dX7_setHumidity_16 rfl mC_X7_keepChange mM_X7_65 mI_X7_keepChange mV_X7_keepChange mN_X7 yd_X7_keepChange rfl rfl ⟨Nat.le_of_ble_eq_true rfl, Nat.le_of_ble_eq_true rfl⟩ hC.1.1 rfl rfl rfl rfl (Nat.le_of_ble_eq_true rfl) ⟨Nat.le_of_ble_eq_true rfl, Nat.le_of_ble_eq_true rfl⟩ (fun _ _ _ q => False.elim q) (fun r w1 sz1 hz hP => ?_)
  obtain ⟨wv1, hwv1⟩ : ∃ z, z = w1 := ⟨_, rfl⟩
  obtain ⟨rfl, x1, la1, t1, hC1, hG1, rfl, ht91, hXX1⟩ := hP
  refine x_w hwv1.symm ?_
  rw [← hwv1] at hC1 hG1
  have hF1 : xFr g w wv1 sz := xFr.tr (sz1 := sz) xFr.rf hG1 (by omega)
  refine x_st (st1 := []) rfl ?_
  refine x_aload_n 0 20 C0 dX7_setHumidity_19 rfl rfl rfl ?_
  refine x_getf (v := .ref (g.2 0 + 1)) 0 23 C0 dX7_setHumidity_20 rfl hC1.1.1 rfl (by decide) inX7 mF_X7_10 rfl ?_
  refine x_iload_n 1 24 C0 dX7_setHumidity_23 rfl rfl rfl ?_
  refine x_w (HW_self hC1.h0) ?_
  refine x_putf 6 27 C0 dX7_setHumidity_24 rfl (HR.ho HR_HW) (Nat.le_add_right _ _) rfl (by decide) inX4 tyX4_ok nmX4 mF_X7_204 rfl rfl rfl rfl (Nat.le_of_ble_eq_true rfl) ?_
  refine x_w (w1 := HW g wv1 (g.2 0 + 1) (upd (x1 0) 5 hu) (la1 0)) (HW_putH (by decide) (houseS6 _ _ _)) ?_
  obtain ⟨w2, hw2⟩ : ∃ z, z = HW g wv1 (g.2 0 + 1) (upd (x1 0) 5 hu) (la1 0) := ⟨_, rfl⟩
  refine x_w hw2.symm ?_
  obtain ⟨x3, la3, hx3, hla3, hC3⟩ : ∃ x3 la3, x3 = va_up x1 0 (upd (x1 0) 5 hu) ∧ la3 = va_up la1 0 (la1 0) ∧ CR g w2 sz n x3 la3 t1 tt vb sg := ⟨_, _, rfl, rfl, by rw [hw2]; exact hC1.set0 (hC1.k0.up (by omega)) hC1.l0⟩
  have hF3 : xFr g w w2 sz := xFr.tr (sz1 := sz) hF1 (by rw [hw2]; exact xFr.hw (by omega)) (by omega)
  refine x_iload_n 2 28 C0 dX7_setHumidity_27 rfl rfl rfl ?_
  exact x_ireturn C0 dX7_setHumidity_28 rfl rfl (Nat.le_of_ble_eq_true rfl) (Nat.le_of_ble_eq_true rfl) ⟨⟨_, rfl⟩, hF3, by omega, _, _, _, hC3, ⟨x1, la1, t1, x3, la3, ⟨h19, h59⟩, hXX1, ht91, hx3, hla3, rfl, rfl, rfl, rfl⟩⟩

def L_X7_fill (g : xg_T) (x : Nat → Nat → Int32) (la : Nat → Nat → Nat) (t : Nat → Int32) (cn : Int32) (ga : Int32) (ki : Int32) (po : Int32) (r : Option Value) (x' : Nat → Nat → Int32) (la' : Nat → Nat → Nat) (t' : Nat → Int32) : Prop :=
  (∃ (k : Nat) (x1 : Nat → Nat → Int32) (la1 : Nat → Nat → Nat) (x3 : Nat → Nat → Int32) (x2 : Nat → Int32) (la3 : Nat → Nat → Nat) (la2 : Nat → Nat) (b2 : Int32) (t4 : Nat → Int32) (v5 : Int32), (cn = nI k) ∧ (nI k < x 0 3) ∧ (k < 20) ∧ (isLeafB ga ki = true) ∧ (1 ≤ po ∧ po ≤ 50) ∧ (∃ j : Nat, j < 9 ∧ (∀ c : Nat, c < 2 ^ 31 → t 1 = nI c → j = c % 9) ∧ x1 = va_up x (j + 2) (cpX (x (j + 2)) (x 0)) ∧ la1 = va_up la (j + 2) (la 0)) ∧ (x3 = va_up x1 0 x2) ∧ (la3 = va_up la1 0 la2) ∧ ((fillOk (x1 0) k ga ki po ∧ some (Value.int b2) = some (Value.int 1) ∧ fillX (x1 0) k ga ki po = x2 ∧ va_up (la1 0) k (g.2 100) = la2) ∨ (¬ (fillOk (x1 0) k ga ki po) ∧ some (Value.int b2) = some (Value.int 0) ∧ refd (x1 0) x2 ∧ la1 0 = la2)) ∧ (¬ b2 = 0) ∧ (t4 = upd (upd t 1 (t 1 + 1)) 2 (if t 2 + 1 < 8 then t 2 + 1 else 8)) ∧ (r = some (.int v5)) ∧ (x' = x3) ∧ (la' = la3) ∧ (t' = t4))
def E_X7_fill (g : xg_T) (x : Nat → Nat → Int32) (la : Nat → Nat → Nat) (t : Nat → Int32) (cn : Int32) (ga : Int32) (ki : Int32) (po : Int32) (E : String) (x' : Nat → Nat → Int32) (la' : Nat → Nat → Nat) (t' : Nat → Int32) : Prop :=
  ((E = "java/lang/IndexOutOfBoundsException") ∧ (¬ (0 ≤ cn ∧ cn < x 0 3 ∧ cn < 20)) ∧ (x' = x) ∧ (la' = la) ∧ (t' = t)) ∨
  (∃ (k : Nat), (cn = nI k) ∧ (nI k < x 0 3) ∧ (k < 20) ∧ (E = "java/lang/IndexOutOfBoundsException") ∧ (isLeafB ga ki = false) ∧ (x' = x) ∧ (la' = la) ∧ (t' = t)) ∨
  (∃ (k : Nat), (cn = nI k) ∧ (nI k < x 0 3) ∧ (k < 20) ∧ (isLeafB ga ki = true) ∧ (E = "java/lang/IllegalArgumentException") ∧ (¬ (1 ≤ po ∧ po ≤ 50)) ∧ (x' = x) ∧ (la' = la) ∧ (t' = t)) ∨
  (∃ (k : Nat) (x1 : Nat → Nat → Int32) (la1 : Nat → Nat → Nat) (x3 : Nat → Nat → Int32) (x2 : Nat → Int32) (la3 : Nat → Nat → Nat) (la2 : Nat → Nat) (b2 : Int32), (cn = nI k) ∧ (nI k < x 0 3) ∧ (k < 20) ∧ (isLeafB ga ki = true) ∧ (1 ≤ po ∧ po ≤ 50) ∧ (∃ j : Nat, j < 9 ∧ (∀ c : Nat, c < 2 ^ 31 → t 1 = nI c → j = c % 9) ∧ x1 = va_up x (j + 2) (cpX (x (j + 2)) (x 0)) ∧ la1 = va_up la (j + 2) (la 0)) ∧ (x3 = va_up x1 0 x2) ∧ (la3 = va_up la1 0 la2) ∧ ((fillOk (x1 0) k ga ki po ∧ some (Value.int b2) = some (Value.int 1) ∧ fillX (x1 0) k ga ki po = x2 ∧ va_up (la1 0) k (g.2 100) = la2) ∨ (¬ (fillOk (x1 0) k ga ki po) ∧ some (Value.int b2) = some (Value.int 0) ∧ refd (x1 0) x2 ∧ la1 0 = la2)) ∧ (E = "java/lang/UnsupportedOperationException") ∧ (b2 = 0) ∧ (x' = x3) ∧ (la' = la3) ∧ (t' = t))
set_option maxHeartbeats 4000000 in
set_option maxRecDepth 100000 in
theorem e_X7_fill (l : Launch) (hl : l.stackTraces = false) (g : xg_T) (w : xw_T) (sz n : Nat) (x : Nat → Nat → Int32) (la : Nat → Nat → Nat) (t tt : Nat → Int32) (vb : Option Nat) (sg : Nat → Int32) (hC : CR g w sz n x la t tt vb sg) (cn : Int32) (ga : Int32) (ki : Int32) (po : Int32) : xM l g yX7_fill cX7_fill 6 (some .int) ({ frames := 7, cells := 8, slots := 64, locals := 104 }) 8 64 [.ref (g.2 0), .int cn, .int ga, .int ki, .int po] w sz (cQ g w sz n tt vb sg (fun r x' la' t' => L_X7_fill g x la t cn ga ki po r x' la' t')) (cE g w sz n tt vb sg (fun E x' la' t' => E_X7_fill g x la t cn ga ki po E x' la' t')) := by
  have hz9 := hC.zz
  refine xM.of RX7 hl (by decide +kernel) rfl (Nat.le_of_ble_eq_true rfl) rfl ?_
  intro p e s m args below meth cD C0 hini
  refine x_aload_n 0 1 C0 dX7_fill_0 rfl rfl rfl ?_
  refine x_iload_n 1 2 C0 dX7_fill_1 rfl rfl rfl ?_
  refine x_callV 5 C0 (k_X7_needChest l hl g _ _ _ x la t tt vb sg hC cn) dX7_fill_2 rfl mC_X7_needChest mM_X7_89 mI_X7_needChest mV_X7_needChest mN_X7 yd_X7_needChest rfl rfl ⟨Nat.le_of_ble_eq_true rfl, Nat.le_of_ble_eq_true rfl⟩ hC.1.1 rfl rfl rfl rfl (Nat.le_of_ble_eq_true rfl) ⟨Nat.le_of_ble_eq_true rfl, Nat.le_of_ble_eq_true rfl⟩ (fun E9 w9 sz9 q => by obtain ⟨rfl, rfl, h9, hno9⟩ := q; exact x_out C0 rfl (Nat.le_of_ble_eq_true rfl) (Nat.le_of_ble_eq_true rfl) ⟨xFr.rf, by omega, _, _, _, hC.grow h9, (Or.inl ⟨rfl, hno9, rfl, rfl, rfl⟩)⟩) (fun r w1 sz1 hz hP => ?_)
  obtain ⟨⟨k, hk, hm, rfl, hnk⟩, rfl, rfl⟩ := hP
  have hm0 := hm
  refine x_st (st1 := [.ref (g.2 0 + 1 + 3 + k)]) rfl ?_
  refine x_astore [(5, .ref (g.2 0 + 1 + 3 + k)), (0, .ref (g.2 0)), (1, .int cn), (2, .int ga), (3, .int ki), (4, .int po)] 7 C0 dX7_fill_5 rfl (by decide) rfl ?_
  refine x_lv (lv1 := [(0, .ref (g.2 0)), (1, .int cn), (2, .int ga), (3, .int ki), (4, .int po), (5, .ref (g.2 0 + 1 + 3 + k))]) [1, 2, 3, 4, 5, 0] rfl ?_
  refine x_iload_n 2 8 C0 dX7_fill_7 rfl rfl rfl ?_
  refine x_iload_n 3 9 C0 dX7_fill_8 rfl rfl rfl ?_
  refine x_callS 12 C0 (k_X7_needLeaf l hl g _ _ ga ki) dX7_fill_9 rfl mC_X7_needLeaf mM_X7_37 mS_X7_needLeaf mN_X7 yd_X7_needLeaf rfl rfl ⟨Nat.le_of_ble_eq_true rfl, Nat.le_of_ble_eq_true rfl⟩ rfl rfl (Nat.le_of_ble_eq_true rfl) ⟨Nat.le_of_ble_eq_true rfl, Nat.le_of_ble_eq_true rfl⟩ (fun E9 w9 sz9 q => by obtain ⟨rfl, rfl, h9, hno9⟩ := q; exact x_out C0 rfl (Nat.le_of_ble_eq_true rfl) (Nat.le_of_ble_eq_true rfl) ⟨xFr.rf, by omega, _, _, _, hC.grow h9, (Or.inr (Or.inl ⟨k, hnk, hm0, hk, rfl, hno9, rfl, rfl, rfl⟩))⟩) (fun r w1 sz1 hz hP => ?_)
  obtain ⟨rfl, hB9, rfl, rfl⟩ := hP
  refine x_st (st1 := []) rfl ?_
  refine x_iload 4 14 C0 dX7_fill_12 rfl rfl ?_
  refine x_iconst (v := 1) 15 C0 dX7_fill_14 rfl (by decide) ?_
  refine x_bipush (v := 50) 17 C0 dX7_fill_15 rfl (by decide) ?_
  refine x_callS 20 C0 (k_X7_needRange l hl g _ _ po 1 50) dX7_fill_17 rfl mC_X7_needRange mM_X7_41 mS_X7_needRange mN_X7 yd_X7_needRange rfl rfl ⟨Nat.le_of_ble_eq_true rfl, Nat.le_of_ble_eq_true rfl⟩ rfl rfl (Nat.le_of_ble_eq_true rfl) ⟨Nat.le_of_ble_eq_true rfl, Nat.le_of_ble_eq_true rfl⟩ (fun E9 w9 sz9 q => by obtain ⟨rfl, rfl, h9, hno9⟩ := q; exact x_out C0 rfl (Nat.le_of_ble_eq_true rfl) (Nat.le_of_ble_eq_true rfl) ⟨xFr.rf, by omega, _, _, _, hC.grow h9, (Or.inr (Or.inr (Or.inl ⟨k, hnk, hm0, hk, hB9, rfl, hno9, rfl, rfl, rfl⟩)))⟩) (fun r w1 sz1 hz hP => ?_)
  obtain ⟨rfl, h19, h59, rfl, rfl⟩ := hP
  refine x_st (st1 := []) rfl ?_
  refine x_aload_n 0 21 C0 dX7_fill_20 rfl rfl rfl ?_
  refine x_getf (v := .ref (g.2 0 + 47)) 3 24 C0 dX7_fill_21 rfl hC.1.1 rfl (by decide) inX7 mF_X7_26 rfl ?_
  refine x_aload_n 0 25 C0 dX7_fill_24 rfl rfl rfl ?_
  refine x_getf (v := .ref (g.2 0 + 1)) 0 28 C0 dX7_fill_25 rfl hC.1.1 rfl (by decide) inX7 mF_X7_10 rfl ?_
  refine x_callV 31 C0 (k_X3_prepare l hl g _ _ _ x la t tt vb sg hC) dX7_fill_28 rfl mC_X3_prepare mM_X7_45 mI_X3_prepare mV_X3_prepare mN_X3 yd_X3_prepare rfl rfl ⟨Nat.le_of_ble_eq_true rfl, Nat.le_of_ble_eq_true rfl⟩ hC.1.2.1 rfl rfl rfl rfl (Nat.le_of_ble_eq_true rfl) ⟨Nat.le_of_ble_eq_true rfl, Nat.le_of_ble_eq_true rfl⟩ (fun _ _ _ q => False.elim q) (fun r w1 sz1 hz hP => ?_)
  obtain ⟨wv1, hwv1⟩ : ∃ z, z = w1 := ⟨_, rfl⟩
  obtain ⟨rfl, x1, la1, hC1, hx1, hl1, hG1, rfl, hXX1⟩ := hP
  refine x_w hwv1.symm ?_
  rw [← hwv1] at hC1 hG1
  have hF1 : xFr g w wv1 sz := xFr.tr (sz1 := sz) xFr.rf hG1 (by omega)
  refine x_st (st1 := []) rfl ?_
  have hm : nI k < x1 0 3 := by rw [hx1]; exact hm
  refine x_aload_n 0 32 C0 dX7_fill_31 rfl rfl rfl ?_
  refine x_aload_n 0 33 C0 dX7_fill_32 rfl rfl rfl ?_
  refine x_getf (v := .ref (g.2 0 + 1)) 0 36 C0 dX7_fill_33 rfl hC1.1.1 rfl (by decide) inX7 mF_X7_10 rfl ?_
  refine x_aload 5 38 C0 dX7_fill_36 rfl rfl ?_
  refine x_iload_n 2 39 C0 dX7_fill_38 rfl rfl rfl ?_
  refine x_iload_n 3 40 C0 dX7_fill_39 rfl rfl rfl ?_
  refine x_iload 4 42 C0 dX7_fill_40 rfl rfl ?_
  refine x_callV 45 C0 (k_X4_tryFill l hl g _ _ _ _ _ hC1.h0 (Nat.le_add_right _ _) k hk ga ki po) dX7_fill_42 rfl mC_X4_tryFill mM_X7_97 mI_X4_tryFill mV_X4_tryFill mN_X4 yd_X4_tryFill rfl rfl ⟨Nat.le_of_ble_eq_true rfl, Nat.le_of_ble_eq_true rfl⟩ (HR.ho hC1.h0) rfl rfl rfl rfl (Nat.le_of_ble_eq_true rfl) ⟨Nat.le_of_ble_eq_true rfl, Nat.le_of_ble_eq_true rfl⟩ (fun _ _ _ q => False.elim q) (fun r w1 sz1 hz hP => ?_)
  obtain ⟨rfl, x2, la2, hw2, hQ2⟩ := hP
  obtain ⟨hk2, hl2, b2, rfl, hb2⟩ : hok x2 ∧ lok g wv1 sz la2 ∧ ∃ b : Int32, r = some (.int b) ∧ isB b := by
    rcases hQ2 with ⟨q, q2, rfl, rfl⟩ | ⟨-, q2, q3, rfl⟩
    · exact ⟨hC1.k0.fill hk hm hB9 h19 h59 q, hC1.l0.blank, 1, q2, Or.inr rfl⟩
    · exact ⟨hC1.k0.refu q3, hC1.l0, 0, q2, Or.inl rfl⟩
  obtain ⟨wv2, hwv2⟩ : ∃ z, z = w1 := ⟨_, rfl⟩
  refine x_w hwv2.symm ?_
  rw [← hwv2] at hw2
  obtain ⟨x3, la3, hx3, hla3, hC3⟩ : ∃ x3 la3, x3 = va_up x1 0 x2 ∧ la3 = va_up la1 0 la2 ∧ CR g wv2 sz n x3 la3 t tt vb sg := ⟨_, _, rfl, rfl, by rw [hw2]; exact hC1.set0 hk2 hl2⟩
  have hF3 : xFr g w wv2 sz := xFr.tr (sz1 := sz) hF1 (by rw [hw2]; exact xFr.hw (by omega)) (by omega)
  refine x_st (st1 := [.int b2, .ref (g.2 0)]) rfl ?_
  refine x_callV 48 C0 (k_X7_conclude l hl g _ _ _ x3 la3 t tt vb sg hC3 b2) dX7_fill_45 rfl mC_X7_conclude mM_X7_53 mI_X7_conclude mV_X7_conclude mN_X7 yd_X7_conclude rfl rfl ⟨Nat.le_of_ble_eq_true rfl, Nat.le_of_ble_eq_true rfl⟩ hC3.1.1 rfl rfl rfl rfl (Nat.le_of_ble_eq_true rfl) ⟨Nat.le_of_ble_eq_true rfl, Nat.le_of_ble_eq_true rfl⟩ (fun E9 w9 sz9 q => by obtain ⟨rfl, rfl, h9, hno9⟩ := q; exact x_out C0 rfl (Nat.le_of_ble_eq_true rfl) (Nat.le_of_ble_eq_true rfl) ⟨hF3, by omega, _, _, _, hC3.grow h9, (Or.inr (Or.inr (Or.inr (⟨k, x1, la1, x3, x2, la3, la2, b2, hnk, hm0, hk, hB9, ⟨h19, h59⟩, hXX1, hx3, hla3, hQ2, rfl, hno9, rfl, rfl, rfl⟩))))⟩) (fun r w1 sz1 hz hP => ?_)
  obtain ⟨wv4, hwv4⟩ : ∃ z, z = w1 := ⟨_, rfl⟩
  obtain ⟨rfl, t4, hC4, hG4, rfl, hb94, ht94⟩ := hP
  refine x_w hwv4.symm ?_
  rw [← hwv4] at hC4 hG4
  have hF4 : xFr g w wv4 sz := xFr.tr (sz1 := sz) hF3 hG4 (by omega)
  refine x_st (st1 := []) rfl ?_
  refine x_aload 5 50 C0 dX7_fill_48 rfl rfl ?_
  refine x_callV 53 C0 (k_X1_room l hl g _ _ _ _ _ _ (HR.c hC4.h0 hk)) dX7_fill_50 rfl mC_X1_room mM_X7_101 mI_X1_room mV_X1_room mN_X1 yd_X1_room rfl rfl ⟨Nat.le_of_ble_eq_true rfl, Nat.le_of_ble_eq_true rfl⟩ (HR.c hC4.h0 hk) rfl rfl rfl rfl (Nat.le_of_ble_eq_true rfl) ⟨Nat.le_of_ble_eq_true rfl, Nat.le_of_ble_eq_true rfl⟩ (fun _ _ _ q => False.elim q) (fun r w1 sz1 hz hP => ?_)
  obtain ⟨hr, rfl, rfl⟩ := hP
  obtain ⟨v5, rfl⟩ : ∃ v : Int32, r = some (.int v) := ⟨_, hr⟩
  refine x_st (st1 := [.int v5]) rfl ?_
  exact x_ireturn C0 dX7_fill_53 rfl rfl (Nat.le_of_ble_eq_true rfl) (Nat.le_of_ble_eq_true rfl) ⟨⟨_, rfl⟩, hF4, by omega, _, _, _, hC4, ⟨k, x1, la1, x3, x2, la3, la2, b2, t4, v5, hnk, hm0, hk, hB9, ⟨h19, h59⟩, hXX1, hx3, hla3, hQ2, hb94, ht94, rfl, rfl, rfl, rfl⟩⟩

def L_X7_empty (g : xg_T) (x : Nat → Nat → Int32) (la : Nat → Nat → Nat) (t : Nat → Int32) (cn : Int32) (r : Option Value) (x' : Nat → Nat → Int32) (la' : Nat → Nat → Nat) (t' : Nat → Int32) : Prop :=
  (∃ (k : Nat) (x1 : Nat → Nat → Int32) (la1 : Nat → Nat → Nat) (x3 : Nat → Nat → Int32) (x2 : Nat → Int32) (la3 : Nat → Nat → Nat) (la2 : Nat → Nat) (b2 : Int32) (t4 : Nat → Int32), (cn = nI k) ∧ (nI k < x 0 3) ∧ (k < 20) ∧ (∃ j : Nat, j < 9 ∧ (∀ c : Nat, c < 2 ^ 31 → t 1 = nI c → j = c % 9) ∧ x1 = va_up x (j + 2) (cpX (x (j + 2)) (x 0)) ∧ la1 = va_up la (j + 2) (la 0)) ∧ (x3 = va_up x1 0 x2) ∧ (la3 = va_up la1 0 la2) ∧ ((emptyOk (x1 0) k ∧ some (Value.int b2) = some (Value.int 1) ∧ emptyX (x1 0) k = x2 ∧ va_up (la1 0) k (g.2 100) = la2) ∨ (¬ (emptyOk (x1 0) k) ∧ some (Value.int b2) = some (Value.int 0) ∧ refd (x1 0) x2 ∧ la1 0 = la2)) ∧ (¬ b2 = 0) ∧ (t4 = upd (upd t 1 (t 1 + 1)) 2 (if t 2 + 1 < 8 then t 2 + 1 else 8)) ∧ (r = some (.int (x 0 (28 + 9 * k + 3)))) ∧ (x' = x3) ∧ (la' = la3) ∧ (t' = t4))
def E_X7_empty (g : xg_T) (x : Nat → Nat → Int32) (la : Nat → Nat → Nat) (t : Nat → Int32) (cn : Int32) (E : String) (x' : Nat → Nat → Int32) (la' : Nat → Nat → Nat) (t' : Nat → Int32) : Prop :=
  ((E = "java/lang/IndexOutOfBoundsException") ∧ (¬ (0 ≤ cn ∧ cn < x 0 3 ∧ cn < 20)) ∧ (x' = x) ∧ (la' = la) ∧ (t' = t)) ∨
  (∃ (k : Nat) (x1 : Nat → Nat → Int32) (la1 : Nat → Nat → Nat) (x3 : Nat → Nat → Int32) (x2 : Nat → Int32) (la3 : Nat → Nat → Nat) (la2 : Nat → Nat) (b2 : Int32), (cn = nI k) ∧ (nI k < x 0 3) ∧ (k < 20) ∧ (∃ j : Nat, j < 9 ∧ (∀ c : Nat, c < 2 ^ 31 → t 1 = nI c → j = c % 9) ∧ x1 = va_up x (j + 2) (cpX (x (j + 2)) (x 0)) ∧ la1 = va_up la (j + 2) (la 0)) ∧ (x3 = va_up x1 0 x2) ∧ (la3 = va_up la1 0 la2) ∧ ((emptyOk (x1 0) k ∧ some (Value.int b2) = some (Value.int 1) ∧ emptyX (x1 0) k = x2 ∧ va_up (la1 0) k (g.2 100) = la2) ∨ (¬ (emptyOk (x1 0) k) ∧ some (Value.int b2) = some (Value.int 0) ∧ refd (x1 0) x2 ∧ la1 0 = la2)) ∧ (E = "java/lang/UnsupportedOperationException") ∧ (b2 = 0) ∧ (x' = x3) ∧ (la' = la3) ∧ (t' = t))
set_option maxHeartbeats 4000000 in
set_option maxRecDepth 100000 in
theorem e_X7_empty (l : Launch) (hl : l.stackTraces = false) (g : xg_T) (w : xw_T) (sz n : Nat) (x : Nat → Nat → Int32) (la : Nat → Nat → Nat) (t tt : Nat → Int32) (vb : Option Nat) (sg : Nat → Int32) (hC : CR g w sz n x la t tt vb sg) (cn : Int32) : xM l g yX7_empty cX7_empty 4 (some .int) ({ frames := 7, cells := 8, slots := 64, locals := 104 }) 8 64 [.ref (g.2 0), .int cn] w sz (cQ g w sz n tt vb sg (fun r x' la' t' => L_X7_empty g x la t cn r x' la' t')) (cE g w sz n tt vb sg (fun E x' la' t' => E_X7_empty g x la t cn E x' la' t')) := by
  have hz9 := hC.zz
  refine xM.of RX7 hl (by decide +kernel) rfl (Nat.le_of_ble_eq_true rfl) rfl ?_
  intro p e s m args below meth cD C0 hini
  refine x_aload_n 0 1 C0 dX7_empty_0 rfl rfl rfl ?_
  refine x_iload_n 1 2 C0 dX7_empty_1 rfl rfl rfl ?_
  refine x_callV 5 C0 (k_X7_needChest l hl g _ _ _ x la t tt vb sg hC cn) dX7_empty_2 rfl mC_X7_needChest mM_X7_89 mI_X7_needChest mV_X7_needChest mN_X7 yd_X7_needChest rfl rfl ⟨Nat.le_of_ble_eq_true rfl, Nat.le_of_ble_eq_true rfl⟩ hC.1.1 rfl rfl rfl rfl (Nat.le_of_ble_eq_true rfl) ⟨Nat.le_of_ble_eq_true rfl, Nat.le_of_ble_eq_true rfl⟩ (fun E9 w9 sz9 q => by obtain ⟨rfl, rfl, h9, hno9⟩ := q; exact x_out C0 rfl (Nat.le_of_ble_eq_true rfl) (Nat.le_of_ble_eq_true rfl) ⟨xFr.rf, by omega, _, _, _, hC.grow h9, (Or.inl ⟨rfl, hno9, rfl, rfl, rfl⟩)⟩) (fun r w1 sz1 hz hP => ?_)
  obtain ⟨⟨k, hk, hm, rfl, hnk⟩, rfl, rfl⟩ := hP
  have hm0 := hm
  refine x_st (st1 := [.ref (g.2 0 + 1 + 3 + k)]) rfl ?_
  refine x_astore_n [(2, .ref (g.2 0 + 1 + 3 + k)), (0, .ref (g.2 0)), (1, .int cn)] 6 C0 dX7_empty_5 rfl rfl (by decide) rfl ?_
  refine x_lv (lv1 := [(0, .ref (g.2 0)), (1, .int cn), (2, .ref (g.2 0 + 1 + 3 + k))]) [1, 2, 0] rfl ?_
  refine x_aload_n 2 7 C0 dX7_empty_6 rfl rfl rfl ?_
  refine x_getf (v := .int (x 0 (28 + 9 * k + 3))) 4 10 C0 dX7_empty_7 rfl (HR.c hC.h0 hk) rfl (by decide) inX1 mF_X7_107 rfl ?_
  refine x_istore_n [(3, .int (x 0 (28 + 9 * k + 3))), (0, .ref (g.2 0)), (1, .int cn), (2, .ref (g.2 0 + 1 + 3 + k))] 11 C0 dX7_empty_10 rfl rfl (by decide) rfl ?_
  refine x_lv (lv1 := [(0, .ref (g.2 0)), (1, .int cn), (2, .ref (g.2 0 + 1 + 3 + k)), (3, .int (x 0 (28 + 9 * k + 3)))]) [1, 2, 3, 0] rfl ?_
  refine x_aload_n 0 12 C0 dX7_empty_11 rfl rfl rfl ?_
  refine x_getf (v := .ref (g.2 0 + 47)) 3 15 C0 dX7_empty_12 rfl hC.1.1 rfl (by decide) inX7 mF_X7_26 rfl ?_
  refine x_aload_n 0 16 C0 dX7_empty_15 rfl rfl rfl ?_
  refine x_getf (v := .ref (g.2 0 + 1)) 0 19 C0 dX7_empty_16 rfl hC.1.1 rfl (by decide) inX7 mF_X7_10 rfl ?_
  refine x_callV 22 C0 (k_X3_prepare l hl g _ _ _ x la t tt vb sg hC) dX7_empty_19 rfl mC_X3_prepare mM_X7_45 mI_X3_prepare mV_X3_prepare mN_X3 yd_X3_prepare rfl rfl ⟨Nat.le_of_ble_eq_true rfl, Nat.le_of_ble_eq_true rfl⟩ hC.1.2.1 rfl rfl rfl rfl (Nat.le_of_ble_eq_true rfl) ⟨Nat.le_of_ble_eq_true rfl, Nat.le_of_ble_eq_true rfl⟩ (fun _ _ _ q => False.elim q) (fun r w1 sz1 hz hP => ?_)
  obtain ⟨wv1, hwv1⟩ : ∃ z, z = w1 := ⟨_, rfl⟩
  obtain ⟨rfl, x1, la1, hC1, hx1, hl1, hG1, rfl, hXX1⟩ := hP
  refine x_w hwv1.symm ?_
  rw [← hwv1] at hC1 hG1
  have hF1 : xFr g w wv1 sz := xFr.tr (sz1 := sz) xFr.rf hG1 (by omega)
  refine x_st (st1 := []) rfl ?_
  have hm : nI k < x1 0 3 := by rw [hx1]; exact hm
  refine x_aload_n 0 23 C0 dX7_empty_22 rfl rfl rfl ?_
  refine x_aload_n 0 24 C0 dX7_empty_23 rfl rfl rfl ?_
  refine x_getf (v := .ref (g.2 0 + 1)) 0 27 C0 dX7_empty_24 rfl hC1.1.1 rfl (by decide) inX7 mF_X7_10 rfl ?_
  refine x_aload_n 2 28 C0 dX7_empty_27 rfl rfl rfl ?_
  refine x_callV 31 C0 (k_X4_tryEmpty l hl g _ _ _ _ _ hC1.h0 (Nat.le_add_right _ _) k hk) dX7_empty_28 rfl mC_X4_tryEmpty mM_X7_110 mI_X4_tryEmpty mV_X4_tryEmpty mN_X4 yd_X4_tryEmpty rfl rfl ⟨Nat.le_of_ble_eq_true rfl, Nat.le_of_ble_eq_true rfl⟩ (HR.ho hC1.h0) rfl rfl rfl rfl (Nat.le_of_ble_eq_true rfl) ⟨Nat.le_of_ble_eq_true rfl, Nat.le_of_ble_eq_true rfl⟩ (fun _ _ _ q => False.elim q) (fun r w1 sz1 hz hP => ?_)
  obtain ⟨rfl, x2, la2, hw2, hQ2⟩ := hP
  obtain ⟨hk2, hl2, b2, rfl, hb2⟩ : hok x2 ∧ lok g wv1 sz la2 ∧ ∃ b : Int32, r = some (.int b) ∧ isB b := by
    rcases hQ2 with ⟨q, q2, rfl, rfl⟩ | ⟨-, q2, q3, rfl⟩
    · exact ⟨hC1.k0.empty hk, hC1.l0.blank, 1, q2, Or.inr rfl⟩
    · exact ⟨hC1.k0.refu q3, hC1.l0, 0, q2, Or.inl rfl⟩
  obtain ⟨wv2, hwv2⟩ : ∃ z, z = w1 := ⟨_, rfl⟩
  refine x_w hwv2.symm ?_
  rw [← hwv2] at hw2
  obtain ⟨x3, la3, hx3, hla3, hC3⟩ : ∃ x3 la3, x3 = va_up x1 0 x2 ∧ la3 = va_up la1 0 la2 ∧ CR g wv2 sz n x3 la3 t tt vb sg := ⟨_, _, rfl, rfl, by rw [hw2]; exact hC1.set0 hk2 hl2⟩
  have hF3 : xFr g w wv2 sz := xFr.tr (sz1 := sz) hF1 (by rw [hw2]; exact xFr.hw (by omega)) (by omega)
  refine x_st (st1 := [.int b2, .ref (g.2 0)]) rfl ?_
  refine x_callV 34 C0 (k_X7_conclude l hl g _ _ _ x3 la3 t tt vb sg hC3 b2) dX7_empty_31 rfl mC_X7_conclude mM_X7_53 mI_X7_conclude mV_X7_conclude mN_X7 yd_X7_conclude rfl rfl ⟨Nat.le_of_ble_eq_true rfl, Nat.le_of_ble_eq_true rfl⟩ hC3.1.1 rfl rfl rfl rfl (Nat.le_of_ble_eq_true rfl) ⟨Nat.le_of_ble_eq_true rfl, Nat.le_of_ble_eq_true rfl⟩ (fun E9 w9 sz9 q => by obtain ⟨rfl, rfl, h9, hno9⟩ := q; exact x_out C0 rfl (Nat.le_of_ble_eq_true rfl) (Nat.le_of_ble_eq_true rfl) ⟨hF3, by omega, _, _, _, hC3.grow h9, (Or.inr (⟨k, x1, la1, x3, x2, la3, la2, b2, hnk, hm0, hk, hXX1, hx3, hla3, hQ2, rfl, hno9, rfl, rfl, rfl⟩))⟩) (fun r w1 sz1 hz hP => ?_)
  obtain ⟨wv4, hwv4⟩ : ∃ z, z = w1 := ⟨_, rfl⟩
  obtain ⟨rfl, t4, hC4, hG4, rfl, hb94, ht94⟩ := hP
  refine x_w hwv4.symm ?_
  rw [← hwv4] at hC4 hG4
  have hF4 : xFr g w wv4 sz := xFr.tr (sz1 := sz) hF3 hG4 (by omega)
  refine x_st (st1 := []) rfl ?_
  refine x_iload_n 3 35 C0 dX7_empty_34 rfl rfl rfl ?_
  exact x_ireturn C0 dX7_empty_35 rfl rfl (Nat.le_of_ble_eq_true rfl) (Nat.le_of_ble_eq_true rfl) ⟨⟨_, rfl⟩, hF4, by omega, _, _, _, hC4, ⟨k, x1, la1, x3, x2, la3, la2, b2, t4, hnk, hm0, hk, hXX1, hx3, hla3, hQ2, hb94, ht94, rfl, rfl, rfl, rfl⟩⟩

def L_X7_pass (g : xg_T) (x : Nat → Nat → Int32) (la : Nat → Nat → Nat) (t : Nat → Int32) (hs : Int32) (r : Option Value) (x' : Nat → Nat → Int32) (la' : Nat → Nat → Nat) (t' : Nat → Int32) : Prop :=
  (∃ (x1 : Nat → Nat → Int32) (la1 : Nat → Nat → Nat) (t1 : Nat → Int32) (nh : Nat) (x3 : Nat → Nat → Int32) (la3 : Nat → Nat → Nat) (v4 : Int32), (1 ≤ hs ∧ hs ≤ 72) ∧ (∃ j : Nat, j < 9 ∧ (∀ c : Nat, c < 2 ^ 31 → t 1 = nI c → j = c % 9) ∧ x1 = va_up x (j + 2) (cpX (x (j + 2)) (x 0)) ∧ la1 = va_up la (j + 2) (la 0)) ∧ (t1 = upd (upd t 1 (t 1 + 1)) 2 (if t 2 + 1 < 8 then t 2 + 1 else 8)) ∧ (hs = nI nh) ∧ (nh ≤ 72) ∧ (x3 = va_up x1 0 (passN (x1 0) nh)) ∧ (la3 = va_up la1 0 (la1 0)) ∧ (some (Value.int v4) = some (Value.int (tide (x3 0 0) 0))) ∧ (r = some (.int v4)) ∧ (x' = x3) ∧ (la' = la3) ∧ (t' = t1))
def E_X7_pass (g : xg_T) (x : Nat → Nat → Int32) (la : Nat → Nat → Nat) (t : Nat → Int32) (hs : Int32) (E : String) (x' : Nat → Nat → Int32) (la' : Nat → Nat → Nat) (t' : Nat → Int32) : Prop :=
  ((E = "java/lang/IllegalArgumentException") ∧ (¬ (1 ≤ hs ∧ hs ≤ 72)) ∧ (x' = x) ∧ (la' = la) ∧ (t' = t))
set_option maxHeartbeats 4000000 in
set_option maxRecDepth 100000 in
theorem e_X7_pass (l : Launch) (hl : l.stackTraces = false) (g : xg_T) (w : xw_T) (sz n : Nat) (x : Nat → Nat → Int32) (la : Nat → Nat → Nat) (t tt : Nat → Int32) (vb : Option Nat) (sg : Nat → Int32) (hC : CR g w sz n x la t tt vb sg) (hs : Int32) : xM l g yX7_pass cX7_pass 2 (some .int) ({ frames := 7, cells := 8, slots := 64, locals := 104 }) 8 64 [.ref (g.2 0), .int hs] w sz (cQ g w sz n tt vb sg (fun r x' la' t' => L_X7_pass g x la t hs r x' la' t')) (cE g w sz n tt vb sg (fun E x' la' t' => E_X7_pass g x la t hs E x' la' t')) := by
  have hz9 := hC.zz
  refine xM.of RX7 hl (by decide +kernel) rfl (Nat.le_of_ble_eq_true rfl) rfl ?_
  intro p e s m args below meth cD C0 hini
  refine x_iload_n 1 1 C0 dX7_pass_0 rfl rfl rfl ?_
  refine x_iconst (v := 1) 2 C0 dX7_pass_1 rfl (by decide) ?_
  refine x_bipush (v := 72) 4 C0 dX7_pass_2 rfl (by decide) ?_
  refine x_callS 7 C0 (k_X7_needRange l hl g _ _ hs 1 72) dX7_pass_4 rfl mC_X7_needRange mM_X7_41 mS_X7_needRange mN_X7 yd_X7_needRange rfl rfl ⟨Nat.le_of_ble_eq_true rfl, Nat.le_of_ble_eq_true rfl⟩ rfl rfl (Nat.le_of_ble_eq_true rfl) ⟨Nat.le_of_ble_eq_true rfl, Nat.le_of_ble_eq_true rfl⟩ (fun E9 w9 sz9 q => by obtain ⟨rfl, rfl, h9, hno9⟩ := q; exact x_out C0 rfl (Nat.le_of_ble_eq_true rfl) (Nat.le_of_ble_eq_true rfl) ⟨xFr.rf, by omega, _, _, _, hC.grow h9, ⟨rfl, hno9, rfl, rfl, rfl⟩⟩) (fun r w1 sz1 hz hP => ?_)
  obtain ⟨rfl, h19, h59, rfl, rfl⟩ := hP
  refine x_st (st1 := []) rfl ?_
  refine x_aload_n 0 8 C0 dX7_pass_7 rfl rfl rfl ?_
  refine x_callV 11 C0 (k_X7_keepChange l hl g _ _ _ x la t tt vb sg hC) dX7_pass_8 rfl mC_X7_keepChange mM_X7_65 mI_X7_keepChange mV_X7_keepChange mN_X7 yd_X7_keepChange rfl rfl ⟨Nat.le_of_ble_eq_true rfl, Nat.le_of_ble_eq_true rfl⟩ hC.1.1 rfl rfl rfl rfl (Nat.le_of_ble_eq_true rfl) ⟨Nat.le_of_ble_eq_true rfl, Nat.le_of_ble_eq_true rfl⟩ (fun _ _ _ q => False.elim q) (fun r w1 sz1 hz hP => ?_)
  obtain ⟨wv1, hwv1⟩ : ∃ z, z = w1 := ⟨_, rfl⟩
  obtain ⟨rfl, x1, la1, t1, hC1, hG1, rfl, ht91, hXX1⟩ := hP
  refine x_w hwv1.symm ?_
  rw [← hwv1] at hC1 hG1
  have hF1 : xFr g w wv1 sz := xFr.tr (sz1 := sz) xFr.rf hG1 (by omega)
  refine x_st (st1 := []) rfl ?_
  refine x_aload_n 0 12 C0 dX7_pass_11 rfl rfl rfl ?_
  refine x_getf (v := .ref (g.2 0 + 1)) 0 15 C0 dX7_pass_12 rfl hC1.1.1 rfl (by decide) inX7 mF_X7_10 rfl ?_
  refine x_iload_n 1 16 C0 dX7_pass_15 rfl rfl rfl ?_
  obtain ⟨nh, rfl, -, hnh⟩ := i32_range (a := 1) (b := 72) rfl rfl (by omega) (by omega) h19 h59
  refine x_callV 19 C0 (k_X4_letPass l hl g _ _ _ _ _ hC1.h0 (Nat.le_add_right _ _) nh (by omega)) dX7_pass_16 rfl mC_X4_letPass mM_X7_207 mI_X4_letPass mV_X4_letPass mN_X4 yd_X4_letPass rfl rfl ⟨Nat.le_of_ble_eq_true rfl, Nat.le_of_ble_eq_true rfl⟩ (HR.ho hC1.h0) rfl rfl rfl rfl (Nat.le_of_ble_eq_true rfl) ⟨Nat.le_of_ble_eq_true rfl, Nat.le_of_ble_eq_true rfl⟩ (fun _ _ _ q => False.elim q) (fun r w1 sz1 hz hP => ?_)
  obtain ⟨rfl, hw2, rfl⟩ := hP
  obtain ⟨wv2, hwv2⟩ : ∃ z, z = w1 := ⟨_, rfl⟩
  refine x_w hwv2.symm ?_
  rw [← hwv2] at hw2
  obtain ⟨x3, la3, hx3, hla3, hC3⟩ : ∃ x3 la3, x3 = va_up x1 0 (passN (x1 0) nh) ∧ la3 = va_up la1 0 (la1 0) ∧ CR g wv2 sz n x3 la3 t1 tt vb sg := ⟨_, _, rfl, rfl, by rw [hw2]; exact hC1.set0 (hC1.k0.passH nh) hC1.l0⟩
  have hF3 : xFr g w wv2 sz := xFr.tr (sz1 := sz) hF1 (by rw [hw2]; exact xFr.hw (by omega)) (by omega)
  refine x_st (st1 := [.int 1]) rfl ?_
  refine x_pop 20 C0 dX7_pass_19 rfl rfl ?_
  refine x_aload_n 0 21 C0 dX7_pass_20 rfl rfl rfl ?_
  refine x_getf (v := .ref (g.2 0 + 1)) 0 24 C0 dX7_pass_21 rfl hC3.1.1 rfl (by decide) inX7 mF_X7_10 rfl ?_
  refine x_iconst (v := 0) 25 C0 dX7_pass_24 rfl (by decide) ?_
  refine x_callV 28 C0 (k_X4_heightIn l hl g _ _ _ _ _ hC3.h0 0) dX7_pass_25 rfl mC_X4_heightIn mM_X7_198 mI_X4_heightIn mV_X4_heightIn mN_X4 yd_X4_heightIn rfl rfl ⟨Nat.le_of_ble_eq_true rfl, Nat.le_of_ble_eq_true rfl⟩ (HR.ho hC3.h0) rfl rfl rfl rfl (Nat.le_of_ble_eq_true rfl) ⟨Nat.le_of_ble_eq_true rfl, Nat.le_of_ble_eq_true rfl⟩ (fun _ _ _ q => False.elim q) (fun r w1 sz1 hz hP => ?_)
  obtain ⟨hr, rfl, rfl⟩ := hP
  obtain ⟨v4, rfl⟩ : ∃ v : Int32, r = some (.int v) := ⟨_, hr⟩
  have hr4 := hr
  refine x_st (st1 := [.int v4]) rfl ?_
  exact x_ireturn C0 dX7_pass_28 rfl rfl (Nat.le_of_ble_eq_true rfl) (Nat.le_of_ble_eq_true rfl) ⟨⟨_, rfl⟩, hF3, by omega, _, _, _, hC3, ⟨x1, la1, t1, nh, x3, la3, v4, ⟨h19, h59⟩, hXX1, ht91, rfl, (by omega), hx3, hla3, hr4, rfl, rfl, rfl, rfl⟩⟩

def L_X7_undo (g : xg_T) (x : Nat → Nat → Int32) (la : Nat → Nat → Nat) (t : Nat → Int32) (r : Option Value) (x' : Nat → Nat → Int32) (la' : Nat → Nat → Nat) (t' : Nat → Int32) : Prop :=
  (∃ (b1 : Int32) (x1 : Nat → Nat → Int32) (la1 : Nat → Nat → Nat) (t1 : Nat → Int32), ((t 2 = 0 ∧ some (Value.int b1) = some (Value.int 0) ∧ x1 = x ∧ la1 = la ∧ t1 = t) ∨ (¬ t 2 = 0 ∧ some (Value.int b1) = some (Value.int 1) ∧ t1 = upd (upd t 2 (t 2 - 1)) 1 (t 1 - 1) ∧ ∃ j : Nat, j < 9 ∧ (∀ c : Nat, c < 2 ^ 31 → t 1 - 1 = nI c → j = c % 9) ∧ x1 = va_up x 0 (cpX (x 0) (x (j + 2))) ∧ la1 = va_up la 0 (la (j + 2)))) ∧ (¬ b1 = 0) ∧ (r = some (.int (t1 2))) ∧ (x' = x1) ∧ (la' = la1) ∧ (t' = t1))
def E_X7_undo (g : xg_T) (x : Nat → Nat → Int32) (la : Nat → Nat → Nat) (t : Nat → Int32) (E : String) (x' : Nat → Nat → Int32) (la' : Nat → Nat → Nat) (t' : Nat → Int32) : Prop :=
  (∃ (b1 : Int32) (x1 : Nat → Nat → Int32) (la1 : Nat → Nat → Nat) (t1 : Nat → Int32), ((t 2 = 0 ∧ some (Value.int b1) = some (Value.int 0) ∧ x1 = x ∧ la1 = la ∧ t1 = t) ∨ (¬ t 2 = 0 ∧ some (Value.int b1) = some (Value.int 1) ∧ t1 = upd (upd t 2 (t 2 - 1)) 1 (t 1 - 1) ∧ ∃ j : Nat, j < 9 ∧ (∀ c : Nat, c < 2 ^ 31 → t 1 - 1 = nI c → j = c % 9) ∧ x1 = va_up x 0 (cpX (x 0) (x (j + 2))) ∧ la1 = va_up la 0 (la (j + 2)))) ∧ (b1 = 0) ∧ (E = "java/lang/IllegalStateException") ∧ (x' = x1) ∧ (la' = la1) ∧ (t' = t1))
set_option maxHeartbeats 4000000 in
set_option maxRecDepth 100000 in
theorem e_X7_undo (l : Launch) (hl : l.stackTraces = false) (g : xg_T) (w : xw_T) (sz n : Nat) (x : Nat → Nat → Int32) (la : Nat → Nat → Nat) (t tt : Nat → Int32) (vb : Option Nat) (sg : Nat → Int32) (hC : CR g w sz n x la t tt vb sg) : xM l g yX7_undo cX7_undo 1 (some .int) ({ frames := 6, cells := 8, slots := 64, locals := 83 }) 8 64 [.ref (g.2 0)] w sz (cQ g w sz n tt vb sg (fun r x' la' t' => L_X7_undo g x la t r x' la' t')) (cE g w sz n tt vb sg (fun E x' la' t' => E_X7_undo g x la t E x' la' t')) := by
  have hz9 := hC.zz
  refine xM.of RX7 hl (by decide +kernel) rfl (Nat.le_of_ble_eq_true rfl) rfl ?_
  intro p e s m args below meth cD C0 hini
  refine x_aload_n 0 1 C0 dX7_undo_0 rfl rfl rfl ?_
  refine x_getf (v := .ref (g.2 0 + 47)) 3 4 C0 dX7_undo_1 rfl hC.1.1 rfl (by decide) inX7 mF_X7_26 rfl ?_
  refine x_aload_n 0 5 C0 dX7_undo_4 rfl rfl rfl ?_
  refine x_getf (v := .ref (g.2 0 + 1)) 0 8 C0 dX7_undo_5 rfl hC.1.1 rfl (by decide) inX7 mF_X7_10 rfl ?_
  refine x_callV 11 C0 (k_X3_takeBack l hl g _ _ _ x la t tt vb sg hC) dX7_undo_8 rfl mC_X3_takeBack mM_X7_285 mI_X3_takeBack mV_X3_takeBack mN_X3 yd_X3_takeBack rfl rfl ⟨Nat.le_of_ble_eq_true rfl, Nat.le_of_ble_eq_true rfl⟩ hC.1.2.1 rfl rfl rfl rfl (Nat.le_of_ble_eq_true rfl) ⟨Nat.le_of_ble_eq_true rfl, Nat.le_of_ble_eq_true rfl⟩ (fun _ _ _ q => False.elim q) (fun r w1 sz1 hz hP => ?_)
  obtain ⟨wv1, hwv1⟩ : ∃ z, z = w1 := ⟨_, rfl⟩
  obtain ⟨⟨b1, rfl, hb1⟩, x1, la1, t1, hC1, hG1, rfl, hXX1⟩ := hP
  refine x_w hwv1.symm ?_
  rw [← hwv1] at hC1 hG1
  have hF1 : xFr g w wv1 sz := xFr.tr (sz1 := sz) xFr.rf hG1 (by omega)
  refine x_st (st1 := [.int b1]) rfl ?_
  refine x_if_ne 25 14 C0 dX7_undo_11 rfl (by decide) (fun c2 => ?_) (fun c2 => ?_)
  · refine x_aload_n 0 26 C0 dX7_undo_25 rfl rfl rfl ?_
    refine x_getf (v := .ref (g.2 0 + 47)) 3 29 C0 dX7_undo_26 rfl hC1.1.1 rfl (by decide) inX7 mF_X7_26 rfl ?_
    refine x_getf (v := .int (t1 2)) 2 32 C0 dX7_undo_29 rfl hC1.1.2.1 rfl (by decide) inX3 mF_X7_256 rfl ?_
    exact x_ireturn C0 dX7_undo_32 rfl rfl (Nat.le_of_ble_eq_true rfl) (Nat.le_of_ble_eq_true rfl) ⟨⟨_, rfl⟩, hF1, by omega, _, _, _, hC1, ⟨b1, x1, la1, t1, hXX1, c2, rfl, rfl, rfl, rfl⟩⟩
  · exact x_throwSW xNames C0 dX7_undo_14 dX7_undo_17 dX7_undo_18 dX7_undo_21 dX7_undo_24 rfl rfl rfl rfl (by decide +kernel) (by decide +kernel) mK_X7_265 mN_IllegalStateException (xs_ldc C0.2.2.2.2.2.2.2.1.2.2 (RX7, 289, "there is no change to take back", 148) (by decide +kernel)) (xhat C0 xg_ise xh_ise (by decide +kernel)) xo_ise (xs_us C0.2.2.2.2.2.2.2.1.2.2) (xs_su C0.2.2.2.2.2.2.2.1.2.2) rfl (Nat.le_of_ble_eq_true rfl) (Nat.le_of_ble_eq_true rfl) (Nat.le_of_ble_eq_true rfl) (Nat.le_of_ble_eq_true rfl) (Nat.le_of_ble_eq_true rfl) (Nat.le_of_ble_eq_true rfl) (fun sz9 h9 => ⟨hF1, by omega, _, _, _, hC1.grow h9, ⟨b1, x1, la1, t1, hXX1, c2, rfl, rfl, rfl, rfl⟩⟩)

def L_X7_save (g : xg_T) (x : Nat → Nat → Int32) (la : Nat → Nat → Nat) (t : Nat → Int32) (r : Option Value) (x' : Nat → Nat → Int32) (la' : Nat → Nat → Nat) (t' : Nat → Int32) : Prop :=
  (∃ (x2 : Nat → Nat → Int32) (la2 : Nat → Nat → Nat) (t4 : Nat → Int32), (x2 = va_up x 1 (cpX (x 1) (x 0))) ∧ (la2 = va_up la 1 (la 0)) ∧ (t4 = (upd t 0 1)) ∧ (r = some (.int (x2 0 0))) ∧ (x' = x2) ∧ (la' = la2) ∧ (t' = t4))
set_option maxHeartbeats 4000000 in
set_option maxRecDepth 100000 in
theorem e_X7_save (l : Launch) (hl : l.stackTraces = false) (g : xg_T) (w : xw_T) (sz n : Nat) (x : Nat → Nat → Int32) (la : Nat → Nat → Nat) (t tt : Nat → Int32) (vb : Option Nat) (sg : Nat → Int32) (hC : CR g w sz n x la t tt vb sg) : xM l g yX7_save cX7_save 1 (some .int) ({ frames := 2, cells := 8, slots := 64, locals := 62 }) 8 64 [.ref (g.2 0)] w sz (cQ g w sz n tt vb sg (fun r x' la' t' => L_X7_save g x la t r x' la' t')) (fun _ _ _ => False) := by
  have hz9 := hC.zz
  refine xM.of RX7 hl (by decide +kernel) rfl (Nat.le_of_ble_eq_true rfl) rfl ?_
  intro p e s m args below meth cD C0 hini
  refine x_aload_n 0 1 C0 dX7_save_0 rfl rfl rfl ?_
  refine x_getf (v := .ref (g.2 0 + 24)) 1 4 C0 dX7_save_1 rfl hC.1.1 rfl (by decide) inX7 mF_X7_16 rfl ?_
  refine x_aload_n 0 5 C0 dX7_save_4 rfl rfl rfl ?_
  refine x_getf (v := .ref (g.2 0 + 1)) 0 8 C0 dX7_save_5 rfl hC.1.1 rfl (by decide) inX7 mF_X7_10 rfl ?_
  refine x_callV 11 C0 (k_X4_copyFrom l hl g _ _ _ _ _ hC.hs (by show g.2 0 ≤ _; omega) _ _ _ hC.h0 (by omega) hC.k0.lined) dX7_save_8 rfl mC_X4_copyFrom mM_X7_291 mI_X4_copyFrom mV_X4_copyFrom mN_X4 yd_X4_copyFrom rfl rfl ⟨Nat.le_of_ble_eq_true rfl, Nat.le_of_ble_eq_true rfl⟩ (HR.ho hC.hs) rfl rfl rfl rfl (Nat.le_of_ble_eq_true rfl) ⟨Nat.le_of_ble_eq_true rfl, Nat.le_of_ble_eq_true rfl⟩ (fun _ _ _ q => False.elim q) (fun r w1 sz1 hz hP => ?_)
  obtain ⟨rfl, hw1, rfl⟩ := hP
  obtain ⟨w1, hv1⟩ : ∃ z, z = w1 := ⟨_, rfl⟩
  refine x_w hv1.symm ?_
  rw [← hv1] at hw1
  obtain ⟨x2, la2, hx2, hla2, hC2⟩ : ∃ x2 la2, x2 = va_up x 1 (cpX (x 1) (x 0)) ∧ la2 = va_up la 1 (la 0) ∧ CR g w1 sz n x2 la2 t tt vb sg := ⟨_, _, rfl, rfl, by rw [hw1]; exact hC.set1 hC.k0.cp ((hC.2.1 0 (by omega)).2.2)⟩
  have hF2 : xFr g w w1 sz := xFr.tr (sz1 := sz) xFr.rf (by rw [hw1]; exact xFr.hw (by omega)) (by omega)
  refine x_st (st1 := []) rfl ?_
  refine x_aload_n 0 12 C0 dX7_save_11 rfl rfl rfl ?_
  refine x_iconst (v := 1) 13 C0 dX7_save_12 rfl (by decide) ?_
  refine x_putf 2 16 C0 dX7_save_13 rfl hC2.1.1 (Nat.le_refl _) rfl (by decide) inX7 tyX7_ok nmX7 mF_X7_19 rfl rfl rfl rfl (Nat.le_of_ble_eq_true rfl) ?_
  obtain ⟨w3, hw3⟩ : ∃ z, z = xup w1 (g.2 0) (clE (g.2 0) (upd t 0 1)) := ⟨_, rfl⟩
  refine x_w (w1 := w3) (by rw [hw3]; rfl) ?_
  obtain ⟨t4, ht4, hC4⟩ : ∃ t4, t4 = (upd t 0 1) ∧ CR g w3 sz n x2 la2 t4 tt vb sg := ⟨_, rfl, by rw [hw3]; exact hC2.setCl rfl rfl⟩
  have hF4 : xFr g w w3 sz := xFr.tr (sz1 := sz) hF2 (by rw [hw3]; exact xFr.up (by omega)) (by omega)
  refine x_aload_n 0 17 C0 dX7_save_16 rfl rfl rfl ?_
  refine x_getf (v := .ref (g.2 0 + 1)) 0 20 C0 dX7_save_17 rfl hC4.1.1 rfl (by decide) inX7 mF_X7_10 rfl ?_
  refine x_getf (v := .int (x2 0 0)) 5 23 C0 dX7_save_20 rfl (HR.ho hC4.h0) rfl (by decide) inX4 mF_X7_201 rfl ?_
  exact x_ireturn C0 dX7_save_23 rfl rfl (Nat.le_of_ble_eq_true rfl) (Nat.le_of_ble_eq_true rfl) ⟨⟨_, rfl⟩, hF4, by omega, _, _, _, hC4, ⟨x2, la2, t4, hx2, hla2, ht4, rfl, rfl, rfl, rfl⟩⟩

def L_X7_restore (g : xg_T) (x : Nat → Nat → Int32) (la : Nat → Nat → Nat) (t : Nat → Int32) (r : Option Value) (x' : Nat → Nat → Int32) (la' : Nat → Nat → Nat) (t' : Nat → Int32) : Prop :=
  (∃ (x3 : Nat → Nat → Int32) (la3 : Nat → Nat → Nat) (t4 : Nat → Int32), (¬ t 0 = 0) ∧ (x3 = va_up x 0 (cpX (x 0) (x 1))) ∧ (la3 = va_up la 0 (la 1)) ∧ (t4 = upd t 2 0) ∧ (r = some (.int (x3 0 0))) ∧ (x' = x3) ∧ (la' = la3) ∧ (t' = t4))
def E_X7_restore (g : xg_T) (x : Nat → Nat → Int32) (la : Nat → Nat → Nat) (t : Nat → Int32) (E : String) (x' : Nat → Nat → Int32) (la' : Nat → Nat → Nat) (t' : Nat → Int32) : Prop :=
  ((t 0 = 0) ∧ (E = "java/lang/IllegalStateException") ∧ (x' = x) ∧ (la' = la) ∧ (t' = t))
set_option maxHeartbeats 4000000 in
set_option maxRecDepth 100000 in
theorem e_X7_restore (l : Launch) (hl : l.stackTraces = false) (g : xg_T) (w : xw_T) (sz n : Nat) (x : Nat → Nat → Int32) (la : Nat → Nat → Nat) (t tt : Nat → Int32) (vb : Option Nat) (sg : Nat → Int32) (hC : CR g w sz n x la t tt vb sg) : xM l g yX7_restore cX7_restore 1 (some .int) ({ frames := 6, cells := 8, slots := 64, locals := 82 }) 8 64 [.ref (g.2 0)] w sz (cQ g w sz n tt vb sg (fun r x' la' t' => L_X7_restore g x la t r x' la' t')) (cE g w sz n tt vb sg (fun E x' la' t' => E_X7_restore g x la t E x' la' t')) := by
  have hz9 := hC.zz
  refine xM.of RX7 hl (by decide +kernel) rfl (Nat.le_of_ble_eq_true rfl) rfl ?_
  intro p e s m args below meth cD C0 hini
  refine x_aload_n 0 1 C0 dX7_restore_0 rfl rfl rfl ?_
  refine x_getf (v := .int (t 0)) 2 4 C0 dX7_restore_1 rfl hC.1.1 rfl (by decide) inX7 mF_X7_19 rfl ?_
  refine x_if_ne 18 7 C0 dX7_restore_4 rfl (by decide) (fun c1 => ?_) (fun c1 => ?_)
  · refine x_aload_n 0 19 C0 dX7_restore_18 rfl rfl rfl ?_
    refine x_getf (v := .ref (g.2 0 + 1)) 0 22 C0 dX7_restore_19 rfl hC.1.1 rfl (by decide) inX7 mF_X7_10 rfl ?_
    refine x_aload_n 0 23 C0 dX7_restore_22 rfl rfl rfl ?_
    refine x_getf (v := .ref (g.2 0 + 24)) 1 26 C0 dX7_restore_23 rfl hC.1.1 rfl (by decide) inX7 mF_X7_16 rfl ?_
    refine x_callV 29 C0 (k_X4_copyFrom l hl g _ _ _ _ _ hC.h0 (by show g.2 0 ≤ _; omega) _ _ _ hC.hs (by omega) (hC.2.1 1 (by omega)).2.1.lined) dX7_restore_26 rfl mC_X4_copyFrom mM_X7_291 mI_X4_copyFrom mV_X4_copyFrom mN_X4 yd_X4_copyFrom rfl rfl ⟨Nat.le_of_ble_eq_true rfl, Nat.le_of_ble_eq_true rfl⟩ (HR.ho hC.h0) rfl rfl rfl rfl (Nat.le_of_ble_eq_true rfl) ⟨Nat.le_of_ble_eq_true rfl, Nat.le_of_ble_eq_true rfl⟩ (fun _ _ _ q => False.elim q) (fun r w1 sz1 hz hP => ?_)
    obtain ⟨rfl, hw2, rfl⟩ := hP
    obtain ⟨w2, hv2⟩ : ∃ z, z = w1 := ⟨_, rfl⟩
    refine x_w hv2.symm ?_
    rw [← hv2] at hw2
    obtain ⟨x3, la3, hx3, hla3, hC3⟩ : ∃ x3 la3, x3 = va_up x 0 (cpX (x 0) (x 1)) ∧ la3 = va_up la 0 (la 1) ∧ CR g w2 sz n x3 la3 t tt vb sg := ⟨_, _, rfl, rfl, by rw [hw2]; exact hC.set0 ((hC.2.1 1 (by omega)).2.1).cp ((hC.2.1 1 (by omega)).2.2)⟩
    have hF3 : xFr g w w2 sz := xFr.tr (sz1 := sz) xFr.rf (by rw [hw2]; exact xFr.hw (by omega)) (by omega)
    refine x_st (st1 := []) rfl ?_
    refine x_aload_n 0 30 C0 dX7_restore_29 rfl rfl rfl ?_
    refine x_getf (v := .ref (g.2 0 + 47)) 3 33 C0 dX7_restore_30 rfl hC3.1.1 rfl (by decide) inX7 mF_X7_26 rfl ?_
    refine x_callV 36 C0 (k_X3_forget l hl g _ _ _ x3 la3 t tt vb sg hC3) dX7_restore_33 rfl mC_X3_forget mM_X7_296 mI_X3_forget mV_X3_forget mN_X3 yd_X3_forget rfl rfl ⟨Nat.le_of_ble_eq_true rfl, Nat.le_of_ble_eq_true rfl⟩ hC3.1.2.1 rfl rfl rfl rfl (Nat.le_of_ble_eq_true rfl) ⟨Nat.le_of_ble_eq_true rfl, Nat.le_of_ble_eq_true rfl⟩ (fun _ _ _ q => False.elim q) (fun r w1 sz1 hz hP => ?_)
    obtain ⟨wv4, hwv4⟩ : ∃ z, z = w1 := ⟨_, rfl⟩
    obtain ⟨rfl, t4, hC4, hG4, rfl, hXX4⟩ := hP
    refine x_w hwv4.symm ?_
    rw [← hwv4] at hC4 hG4
    have hF4 : xFr g w wv4 sz := xFr.tr (sz1 := sz) hF3 hG4 (by omega)
    refine x_st (st1 := []) rfl ?_
    refine x_aload_n 0 37 C0 dX7_restore_36 rfl rfl rfl ?_
    refine x_getf (v := .ref (g.2 0 + 1)) 0 40 C0 dX7_restore_37 rfl hC4.1.1 rfl (by decide) inX7 mF_X7_10 rfl ?_
    refine x_getf (v := .int (x3 0 0)) 5 43 C0 dX7_restore_40 rfl (HR.ho hC4.h0) rfl (by decide) inX4 mF_X7_201 rfl ?_
    exact x_ireturn C0 dX7_restore_43 rfl rfl (Nat.le_of_ble_eq_true rfl) (Nat.le_of_ble_eq_true rfl) ⟨⟨_, rfl⟩, hF4, by omega, _, _, _, hC4, ⟨x3, la3, t4, c1, hx3, hla3, hXX4, rfl, rfl, rfl, rfl⟩⟩
  · exact x_throwSW xNames C0 dX7_restore_7 dX7_restore_10 dX7_restore_11 dX7_restore_14 dX7_restore_17 rfl rfl rfl rfl (by decide +kernel) (by decide +kernel) mK_X7_265 mN_IllegalStateException (xs_ldc C0.2.2.2.2.2.2.2.1.2.2 (RX7, 294, "nothing was saved", 149) (by decide +kernel)) (xhat C0 xg_ise xh_ise (by decide +kernel)) xo_ise (xs_us C0.2.2.2.2.2.2.2.1.2.2) (xs_su C0.2.2.2.2.2.2.2.1.2.2) rfl (Nat.le_of_ble_eq_true rfl) (Nat.le_of_ble_eq_true rfl) (Nat.le_of_ble_eq_true rfl) (Nat.le_of_ble_eq_true rfl) (Nat.le_of_ble_eq_true rfl) (Nat.le_of_ble_eq_true rfl) (fun sz9 h9 => ⟨xFr.rf, by omega, _, _, _, hC.grow h9, ⟨c1, rfl, rfl, rfl, rfl⟩⟩)

def L_X7_leaves (g : xg_T) (x : Nat → Nat → Int32) (la : Nat → Nat → Nat) (t : Nat → Int32) (ga : Int32) (ki : Int32) (r : Option Value) (x' : Nat → Nat → Int32) (la' : Nat → Nat → Nat) (t' : Nat → Int32) : Prop :=
  (∃ (v1 : Int32), (isLeafB ga ki = true) ∧ (some (Value.int v1) = some (Value.int (sGet (x 0) ga ki))) ∧ (r = some (.int v1)) ∧ (x' = x) ∧ (la' = la) ∧ (t' = t))
def E_X7_leaves (g : xg_T) (x : Nat → Nat → Int32) (la : Nat → Nat → Nat) (t : Nat → Int32) (ga : Int32) (ki : Int32) (E : String) (x' : Nat → Nat → Int32) (la' : Nat → Nat → Nat) (t' : Nat → Int32) : Prop :=
  ((E = "java/lang/IndexOutOfBoundsException") ∧ (isLeafB ga ki = false) ∧ (x' = x) ∧ (la' = la) ∧ (t' = t))
set_option maxHeartbeats 4000000 in
set_option maxRecDepth 100000 in
theorem e_X7_leaves (l : Launch) (hl : l.stackTraces = false) (g : xg_T) (w : xw_T) (sz n : Nat) (x : Nat → Nat → Int32) (la : Nat → Nat → Nat) (t tt : Nat → Int32) (vb : Option Nat) (sg : Nat → Int32) (hC : CR g w sz n x la t tt vb sg) (ga : Int32) (ki : Int32) : xM l g yX7_leaves cX7_leaves 3 (some .int) ({ frames := 7, cells := 8, slots := 64, locals := 103 }) 8 64 [.ref (g.2 0), .int ga, .int ki] w sz (cQ g w sz n tt vb sg (fun r x' la' t' => L_X7_leaves g x la t ga ki r x' la' t')) (cE g w sz n tt vb sg (fun E x' la' t' => E_X7_leaves g x la t ga ki E x' la' t')) := by
  have hz9 := hC.zz
  refine xM.of RX7 hl (by decide +kernel) rfl (Nat.le_of_ble_eq_true rfl) rfl ?_
  intro p e s m args below meth cD C0 hini
  refine x_iload_n 1 1 C0 dX7_leaves_0 rfl rfl rfl ?_
  refine x_iload_n 2 2 C0 dX7_leaves_1 rfl rfl rfl ?_
  refine x_callS 5 C0 (k_X7_needLeaf l hl g _ _ ga ki) dX7_leaves_2 rfl mC_X7_needLeaf mM_X7_37 mS_X7_needLeaf mN_X7 yd_X7_needLeaf rfl rfl ⟨Nat.le_of_ble_eq_true rfl, Nat.le_of_ble_eq_true rfl⟩ rfl rfl (Nat.le_of_ble_eq_true rfl) ⟨Nat.le_of_ble_eq_true rfl, Nat.le_of_ble_eq_true rfl⟩ (fun E9 w9 sz9 q => by obtain ⟨rfl, rfl, h9, hno9⟩ := q; exact x_out C0 rfl (Nat.le_of_ble_eq_true rfl) (Nat.le_of_ble_eq_true rfl) ⟨xFr.rf, by omega, _, _, _, hC.grow h9, ⟨rfl, hno9, rfl, rfl, rfl⟩⟩) (fun r w1 sz1 hz hP => ?_)
  obtain ⟨rfl, hB9, rfl, rfl⟩ := hP
  refine x_st (st1 := []) rfl ?_
  refine x_aload_n 0 6 C0 dX7_leaves_5 rfl rfl rfl ?_
  refine x_getf (v := .ref (g.2 0 + 1)) 0 9 C0 dX7_leaves_6 rfl hC.1.1 rfl (by decide) inX7 mF_X7_10 rfl ?_
  refine x_iload_n 1 10 C0 dX7_leaves_9 rfl rfl rfl ?_
  refine x_iload_n 2 11 C0 dX7_leaves_10 rfl rfl rfl ?_
  refine x_callV 14 C0 (k_X4_stored l hl g _ _ _ _ _ hC.h0 ga ki) dX7_leaves_11 rfl mC_X4_stored mM_X7_57 mI_X4_stored mV_X4_stored mN_X4 yd_X4_stored rfl rfl ⟨Nat.le_of_ble_eq_true rfl, Nat.le_of_ble_eq_true rfl⟩ (HR.ho hC.h0) rfl rfl rfl rfl (Nat.le_of_ble_eq_true rfl) ⟨Nat.le_of_ble_eq_true rfl, Nat.le_of_ble_eq_true rfl⟩ (fun _ _ _ q => False.elim q) (fun r w1 sz1 hz hP => ?_)
  obtain ⟨hr, rfl, rfl⟩ := hP
  obtain ⟨v1, rfl⟩ : ∃ v : Int32, r = some (.int v) := ⟨_, hr⟩
  have hr1 := hr
  refine x_st (st1 := [.int v1]) rfl ?_
  exact x_ireturn C0 dX7_leaves_14 rfl rfl (Nat.le_of_ble_eq_true rfl) (Nat.le_of_ble_eq_true rfl) ⟨⟨_, rfl⟩, xFr.rf, by omega, _, _, _, hC, ⟨v1, hB9, hr1, rfl, rfl, rfl, rfl⟩⟩

def L_X7_height (g : xg_T) (x : Nat → Nat → Int32) (la : Nat → Nat → Nat) (t : Nat → Int32) (hs : Int32) (r : Option Value) (x' : Nat → Nat → Int32) (la' : Nat → Nat → Nat) (t' : Nat → Int32) : Prop :=
  (∃ (v1 : Int32), (0 ≤ hs ∧ hs ≤ 99) ∧ (some (Value.int v1) = some (Value.int (tide (x 0 0) hs))) ∧ (r = some (.int v1)) ∧ (x' = x) ∧ (la' = la) ∧ (t' = t))
def E_X7_height (g : xg_T) (x : Nat → Nat → Int32) (la : Nat → Nat → Nat) (t : Nat → Int32) (hs : Int32) (E : String) (x' : Nat → Nat → Int32) (la' : Nat → Nat → Nat) (t' : Nat → Int32) : Prop :=
  ((E = "java/lang/IllegalArgumentException") ∧ (¬ (0 ≤ hs ∧ hs ≤ 99)) ∧ (x' = x) ∧ (la' = la) ∧ (t' = t))
set_option maxHeartbeats 4000000 in
set_option maxRecDepth 100000 in
theorem e_X7_height (l : Launch) (hl : l.stackTraces = false) (g : xg_T) (w : xw_T) (sz n : Nat) (x : Nat → Nat → Int32) (la : Nat → Nat → Nat) (t tt : Nat → Int32) (vb : Option Nat) (sg : Nat → Int32) (hC : CR g w sz n x la t tt vb sg) (hs : Int32) : xM l g yX7_height cX7_height 2 (some .int) ({ frames := 7, cells := 8, slots := 64, locals := 104 }) 8 64 [.ref (g.2 0), .int hs] w sz (cQ g w sz n tt vb sg (fun r x' la' t' => L_X7_height g x la t hs r x' la' t')) (cE g w sz n tt vb sg (fun E x' la' t' => E_X7_height g x la t hs E x' la' t')) := by
  have hz9 := hC.zz
  refine xM.of RX7 hl (by decide +kernel) rfl (Nat.le_of_ble_eq_true rfl) rfl ?_
  intro p e s m args below meth cD C0 hini
  refine x_iload_n 1 1 C0 dX7_height_0 rfl rfl rfl ?_
  refine x_iconst (v := 0) 2 C0 dX7_height_1 rfl (by decide) ?_
  refine x_bipush (v := 99) 4 C0 dX7_height_2 rfl (by decide) ?_
  refine x_callS 7 C0 (k_X7_needRange l hl g _ _ hs 0 99) dX7_height_4 rfl mC_X7_needRange mM_X7_41 mS_X7_needRange mN_X7 yd_X7_needRange rfl rfl ⟨Nat.le_of_ble_eq_true rfl, Nat.le_of_ble_eq_true rfl⟩ rfl rfl (Nat.le_of_ble_eq_true rfl) ⟨Nat.le_of_ble_eq_true rfl, Nat.le_of_ble_eq_true rfl⟩ (fun E9 w9 sz9 q => by obtain ⟨rfl, rfl, h9, hno9⟩ := q; exact x_out C0 rfl (Nat.le_of_ble_eq_true rfl) (Nat.le_of_ble_eq_true rfl) ⟨xFr.rf, by omega, _, _, _, hC.grow h9, ⟨rfl, hno9, rfl, rfl, rfl⟩⟩) (fun r w1 sz1 hz hP => ?_)
  obtain ⟨rfl, h19, h59, rfl, rfl⟩ := hP
  refine x_st (st1 := []) rfl ?_
  refine x_aload_n 0 8 C0 dX7_height_7 rfl rfl rfl ?_
  refine x_getf (v := .ref (g.2 0 + 1)) 0 11 C0 dX7_height_8 rfl hC.1.1 rfl (by decide) inX7 mF_X7_10 rfl ?_
  refine x_iload_n 1 12 C0 dX7_height_11 rfl rfl rfl ?_
  refine x_callV 15 C0 (k_X4_heightIn l hl g _ _ _ _ _ hC.h0 hs) dX7_height_12 rfl mC_X4_heightIn mM_X7_198 mI_X4_heightIn mV_X4_heightIn mN_X4 yd_X4_heightIn rfl rfl ⟨Nat.le_of_ble_eq_true rfl, Nat.le_of_ble_eq_true rfl⟩ (HR.ho hC.h0) rfl rfl rfl rfl (Nat.le_of_ble_eq_true rfl) ⟨Nat.le_of_ble_eq_true rfl, Nat.le_of_ble_eq_true rfl⟩ (fun _ _ _ q => False.elim q) (fun r w1 sz1 hz hP => ?_)
  obtain ⟨hr, rfl, rfl⟩ := hP
  obtain ⟨v1, rfl⟩ : ∃ v : Int32, r = some (.int v) := ⟨_, hr⟩
  have hr1 := hr
  refine x_st (st1 := [.int v1]) rfl ?_
  exact x_ireturn C0 dX7_height_15 rfl rfl (Nat.le_of_ble_eq_true rfl) (Nat.le_of_ble_eq_true rfl) ⟨⟨_, rfl⟩, xFr.rf, by omega, _, _, _, hC, ⟨v1, ⟨h19, h59⟩, hr1, rfl, rfl, rfl, rfl⟩⟩

def L_X7_cargo (g : xg_T) (x : Nat → Nat → Int32) (la : Nat → Nat → Nat) (t : Nat → Int32) (r : Option Value) (x' : Nat → Nat → Int32) (la' : Nat → Nat → Nat) (t' : Nat → Int32) : Prop :=
  (∃ (v1 : Int32), (some (Value.int v1) = some (Value.int (cargoN (x 0) 20))) ∧ (r = some (.int v1)) ∧ (x' = x) ∧ (la' = la) ∧ (t' = t))
set_option maxHeartbeats 4000000 in
set_option maxRecDepth 100000 in
theorem e_X7_cargo (l : Launch) (hl : l.stackTraces = false) (g : xg_T) (w : xw_T) (sz n : Nat) (x : Nat → Nat → Int32) (la : Nat → Nat → Nat) (t tt : Nat → Int32) (vb : Option Nat) (sg : Nat → Int32) (hC : CR g w sz n x la t tt vb sg) : xM l g yX7_cargo cX7_cargo 1 (some .int) ({ frames := 2, cells := 8, slots := 64, locals := 45 }) 8 64 [.ref (g.2 0)] w sz (cQ g w sz n tt vb sg (fun r x' la' t' => L_X7_cargo g x la t r x' la' t')) (fun _ _ _ => False) := by
  have hz9 := hC.zz
  refine xM.of RX7 hl (by decide +kernel) rfl (Nat.le_of_ble_eq_true rfl) rfl ?_
  intro p e s m args below meth cD C0 hini
  refine x_aload_n 0 1 C0 dX7_cargo_0 rfl rfl rfl ?_
  refine x_getf (v := .ref (g.2 0 + 1)) 0 4 C0 dX7_cargo_1 rfl hC.1.1 rfl (by decide) inX7 mF_X7_10 rfl ?_
  refine x_callV 7 C0 (k_X4_shipCoins l hl g _ _ _ _ _ hC.h0) dX7_cargo_4 rfl mC_X4_shipCoins mM_X7_192 mI_X4_shipCoins mV_X4_shipCoins mN_X4 yd_X4_shipCoins rfl rfl ⟨Nat.le_of_ble_eq_true rfl, Nat.le_of_ble_eq_true rfl⟩ (HR.ho hC.h0) rfl rfl rfl rfl (Nat.le_of_ble_eq_true rfl) ⟨Nat.le_of_ble_eq_true rfl, Nat.le_of_ble_eq_true rfl⟩ (fun _ _ _ q => False.elim q) (fun r w1 sz1 hz hP => ?_)
  obtain ⟨hr, rfl, rfl⟩ := hP
  obtain ⟨v1, rfl⟩ : ∃ v : Int32, r = some (.int v) := ⟨_, hr⟩
  have hr1 := hr
  refine x_st (st1 := [.int v1]) rfl ?_
  exact x_ireturn C0 dX7_cargo_7 rfl rfl (Nat.le_of_ble_eq_true rfl) (Nat.le_of_ble_eq_true rfl) ⟨⟨_, rfl⟩, xFr.rf, by omega, _, _, _, hC, ⟨v1, hr1, rfl, rfl, rfl, rfl⟩⟩

