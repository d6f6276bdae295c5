/-! THE CLASS'S READS, EXACTLY -/
def L9_X7_fill (g : xg_T) (x : Nat → Nat → Int32) (la : Nat → Nat → Nat) (t : Nat → Int32) (cn : Int32) (ga : Int32) (ki : Int32) (po : Int32) (r : Option Value) (x' : Nat → Nat → Int32) (la' : Nat → Nat → Nat) (t' : Nat → Int32) : Prop :=
  (∃ (k : Nat) (x1 : Nat → Nat → Int32) (la1 : Nat → Nat → Nat) (x3 : Nat → Nat → Int32) (x2 : Nat → Int32) (la3 : Nat → Nat → Nat) (la2 : Nat → Nat) (b2 : Int32) (t4 : Nat → Int32) (v5 : Int32), (cn = nI k) ∧ (nI k < x 0 3) ∧ (k < 20) ∧ (isLeafB ga ki = true) ∧ (1 ≤ po ∧ po ≤ 50) ∧ (∃ j : Nat, j < 9 ∧ (∀ c : Nat, c < 2 ^ 31 → t 1 = nI c → j = c % 9) ∧ x1 = va_up x (j + 2) (cpX (x (j + 2)) (x 0)) ∧ la1 = va_up la (j + 2) (la 0)) ∧ (x3 = va_up x1 0 x2) ∧ (la3 = va_up la1 0 la2) ∧ ((fillOk (x1 0) k ga ki po ∧ some (Value.int b2) = some (Value.int 1) ∧ fillX (x1 0) k ga ki po = x2 ∧ va_up (la1 0) k (g.2 100) = la2) ∨ (¬ (fillOk (x1 0) k ga ki po) ∧ some (Value.int b2) = some (Value.int 0) ∧ refd (x1 0) x2 ∧ la1 0 = la2)) ∧ (¬ b2 = 0) ∧ (t4 = upd (upd t 1 (t 1 + 1)) 2 (if t 2 + 1 < 8 then t 2 + 1 else 8)) ∧ (some (Value.int v5) = some (Value.int (cRoom (row (x3 0) k)))) ∧ (r = some (.int v5)) ∧ (x' = x3) ∧ (la' = la3) ∧ (t' = t4))
def E9_X7_fill (g : xg_T) (x : Nat → Nat → Int32) (la : Nat → Nat → Nat) (t : Nat → Int32) (cn : Int32) (ga : Int32) (ki : Int32) (po : Int32) (E : String) (x' : Nat → Nat → Int32) (la' : Nat → Nat → Nat) (t' : Nat → Int32) : Prop :=
  ((E = "java/lang/IndexOutOfBoundsException") ∧ (¬ (0 ≤ cn ∧ cn < x 0 3 ∧ cn < 20)) ∧ (x' = x) ∧ (la' = la) ∧ (t' = t)) ∨
  (∃ (k : Nat), (cn = nI k) ∧ (nI k < x 0 3) ∧ (k < 20) ∧ (E = "java/lang/IndexOutOfBoundsException") ∧ (isLeafB ga ki = false) ∧ (x' = x) ∧ (la' = la) ∧ (t' = t)) ∨
  (∃ (k : Nat), (cn = nI k) ∧ (nI k < x 0 3) ∧ (k < 20) ∧ (isLeafB ga ki = true) ∧ (E = "java/lang/IllegalArgumentException") ∧ (¬ (1 ≤ po ∧ po ≤ 50)) ∧ (x' = x) ∧ (la' = la) ∧ (t' = t)) ∨
  (∃ (k : Nat) (x1 : Nat → Nat → Int32) (la1 : Nat → Nat → Nat) (x3 : Nat → Nat → Int32) (x2 : Nat → Int32) (la3 : Nat → Nat → Nat) (la2 : Nat → Nat) (b2 : Int32), (cn = nI k) ∧ (nI k < x 0 3) ∧ (k < 20) ∧ (isLeafB ga ki = true) ∧ (1 ≤ po ∧ po ≤ 50) ∧ (∃ j : Nat, j < 9 ∧ (∀ c : Nat, c < 2 ^ 31 → t 1 = nI c → j = c % 9) ∧ x1 = va_up x (j + 2) (cpX (x (j + 2)) (x 0)) ∧ la1 = va_up la (j + 2) (la 0)) ∧ (x3 = va_up x1 0 x2) ∧ (la3 = va_up la1 0 la2) ∧ ((fillOk (x1 0) k ga ki po ∧ some (Value.int b2) = some (Value.int 1) ∧ fillX (x1 0) k ga ki po = x2 ∧ va_up (la1 0) k (g.2 100) = la2) ∨ (¬ (fillOk (x1 0) k ga ki po) ∧ some (Value.int b2) = some (Value.int 0) ∧ refd (x1 0) x2 ∧ la1 0 = la2)) ∧ (E = "java/lang/UnsupportedOperationException") ∧ (b2 = 0) ∧ (x' = x3) ∧ (la' = la3) ∧ (t' = t))
set_option maxHeartbeats 4000000 in
set_option maxRecDepth 100000 in
theorem e9_X7_fill (l : Launch) (hl : l.stackTraces = false) (g : xg_T) (w : xw_T) (sz n : Nat) (x : Nat → Nat → Int32) (la : Nat → Nat → Nat) (t tt : Nat → Int32) (vb : Option Nat) (sg : Nat → Int32) (hC : CR g w sz n x la t tt vb sg) (cn : Int32) (ga : Int32) (ki : Int32) (po : Int32) : xM l g yX7_fill cX7_fill 6 (some .int) ({ frames := 7, cells := 8, slots := 64, locals := 104 }) 8 64 [.ref (g.2 0), .int cn, .int ga, .int ki, .int po] w sz (cQ g w sz n tt vb sg (fun r x' la' t' => L9_X7_fill g x la t cn ga ki po r x' la' t')) (cE g w sz n tt vb sg (fun E x' la' t' => E9_X7_fill g x la t cn ga ki po E x' la' t')) := by
  have hz9 := hC.zz
  refine xM.of RX7 hl (by decide +kernel) rfl (Nat.le_of_ble_eq_true rfl) rfl ?_
  intro p e s m args below meth cD C0 hini
  refine x_aload_n 0 1 C0 dX7_fill_0 rfl rfl rfl ?_
  refine x_iload_n 1 2 C0 dX7_fill_1 rfl rfl rfl ?_
  refine x_callV 5 C0 (k_X7_needChest l hl g _ _ _ x la t tt vb sg hC cn) dX7_fill_2 rfl mC_X7_needChest mM_X7_89 mI_X7_needChest mV_X7_needChest mN_X7 yd_X7_needChest rfl rfl ⟨Nat.le_of_ble_eq_true rfl, Nat.le_of_ble_eq_true rfl⟩ hC.1.1 rfl rfl rfl rfl (Nat.le_of_ble_eq_true rfl) ⟨Nat.le_of_ble_eq_true rfl, Nat.le_of_ble_eq_true rfl⟩ (fun E9 w9 sz9 q => by obtain ⟨rfl, rfl, h9, hno9⟩ := q; exact x_out C0 rfl (Nat.le_of_ble_eq_true rfl) (Nat.le_of_ble_eq_true rfl) ⟨xFr.rf, by omega, _, _, _, hC.grow h9, (Or.inl ⟨rfl, hno9, rfl, rfl, rfl⟩)⟩) (fun r w1 sz1 hz hP => ?_)
  obtain ⟨⟨k, hk, hm, rfl, hnk⟩, rfl, rfl⟩ := hP
  have hm0 := hm
  refine x_st (st1 := [.ref (g.2 0 + 1 + 3 + k)]) rfl ?_
  refine x_astore [(5, .ref (g.2 0 + 1 + 3 + k)), (0, .ref (g.2 0)), (1, .int cn), (2, .int ga), (3, .int ki), (4, .int po)] 7 C0 dX7_fill_5 rfl (by decide) rfl ?_
  refine x_lv (lv1 := [(0, .ref (g.2 0)), (1, .int cn), (2, .int ga), (3, .int ki), (4, .int po), (5, .ref (g.2 0 + 1 + 3 + k))]) [1, 2, 3, 4, 5, 0] rfl ?_
  refine x_iload_n 2 8 C0 dX7_fill_7 rfl rfl rfl ?_
  refine x_iload_n 3 9 C0 dX7_fill_8 rfl rfl rfl ?_
  refine x_callS 12 C0 (k_X7_needLeaf l hl g _ _ ga ki) dX7_fill_9 rfl mC_X7_needLeaf mM_X7_37 mS_X7_needLeaf mN_X7 yd_X7_needLeaf rfl rfl ⟨Nat.le_of_ble_eq_true rfl, Nat.le_of_ble_eq_true rfl⟩ rfl rfl (Nat.le_of_ble_eq_true rfl) ⟨Nat.le_of_ble_eq_true rfl, Nat.le_of_ble_eq_true rfl⟩ (fun E9 w9 sz9 q => by obtain ⟨rfl, rfl, h9, hno9⟩ := q; exact x_out C0 rfl (Nat.le_of_ble_eq_true rfl) (Nat.le_of_ble_eq_true rfl) ⟨xFr.rf, by omega, _, _, _, hC.grow h9, (Or.inr (Or.inl ⟨k, hnk, hm0, hk, rfl, hno9, rfl, rfl, rfl⟩))⟩) (fun r w1 sz1 hz hP => ?_)
  obtain ⟨rfl, hB9, rfl, rfl⟩ := hP
  refine x_st (st1 := []) rfl ?_
  refine x_iload 4 14 C0 dX7_fill_12 rfl rfl ?_
  refine x_iconst (v := 1) 15 C0 dX7_fill_14 rfl (by decide) ?_
  refine x_bipush (v := 50) 17 C0 dX7_fill_15 rfl (by decide) ?_
  refine x_callS 20 C0 (k_X7_needRange l hl g _ _ po 1 50) dX7_fill_17 rfl mC_X7_needRange mM_X7_41 mS_X7_needRange mN_X7 yd_X7_needRange rfl rfl ⟨Nat.le_of_ble_eq_true rfl, Nat.le_of_ble_eq_true rfl⟩ rfl rfl (Nat.le_of_ble_eq_true rfl) ⟨Nat.le_of_ble_eq_true rfl, Nat.le_of_ble_eq_true rfl⟩ (fun E9 w9 sz9 q => by obtain ⟨rfl, rfl, h9, hno9⟩ := q; exact x_out C0 rfl (Nat.le_of_ble_eq_true rfl) (Nat.le_of_ble_eq_true rfl) ⟨xFr.rf, by omega, _, _, _, hC.grow h9, (Or.inr (Or.inr (Or.inl ⟨k, hnk, hm0, hk, hB9, rfl, hno9, rfl, rfl, rfl⟩)))⟩) (fun r w1 sz1 hz hP => ?_)
  obtain ⟨rfl, h19, h59, rfl, rfl⟩ := hP
  refine x_st (st1 := []) rfl ?_
  refine x_aload_n 0 21 C0 dX7_fill_20 rfl rfl rfl ?_
  refine x_getf (v := .ref (g.2 0 + 47)) 3 24 C0 dX7_fill_21 rfl hC.1.1 rfl (by decide) inX7 mF_X7_26 rfl ?_
  refine x_aload_n 0 25 C0 dX7_fill_24 rfl rfl rfl ?_
  refine x_getf (v := .ref (g.2 0 + 1)) 0 28 C0 dX7_fill_25 rfl hC.1.1 rfl (by decide) inX7 mF_X7_10 rfl ?_
  refine x_callV 31 C0 (k_X3_prepare l hl g _ _ _ x la t tt vb sg hC) dX7_fill_28 rfl mC_X3_prepare mM_X7_45 mI_X3_prepare mV_X3_prepare mN_X3 yd_X3_prepare rfl rfl ⟨Nat.le_of_ble_eq_true rfl, Nat.le_of_ble_eq_true rfl⟩ hC.1.2.1 rfl rfl rfl rfl (Nat.le_of_ble_eq_true rfl) ⟨Nat.le_of_ble_eq_true rfl, Nat.le_of_ble_eq_true rfl⟩ (fun _ _ _ q => False.elim q) (fun r w1 sz1 hz hP => ?_)
  obtain ⟨wv1, hwv1⟩ : ∃ z, z = w1 := ⟨_, rfl⟩
  obtain ⟨rfl, x1, la1, hC1, hx1, hl1, hG1, rfl, hXX1⟩ := hP
  refine x_w hwv1.symm ?_
  rw [← hwv1] at hC1 hG1
  have hF1 : xFr g w wv1 sz := xFr.tr (sz1 := sz) xFr.rf hG1 (by omega)
  refine x_st (st1 := []) rfl ?_
  have hm : nI k < x1 0 3 := by rw [hx1]; exact hm
  refine x_aload_n 0 32 C0 dX7_fill_31 rfl rfl rfl ?_
  refine x_aload_n 0 33 C0 dX7_fill_32 rfl rfl rfl ?_
  refine x_getf (v := .ref (g.2 0 + 1)) 0 36 C0 dX7_fill_33 rfl hC1.1.1 rfl (by decide) inX7 mF_X7_10 rfl ?_
  refine x_aload 5 38 C0 dX7_fill_36 rfl rfl ?_
  refine x_iload_n 2 39 C0 dX7_fill_38 rfl rfl rfl ?_
  refine x_iload_n 3 40 C0 dX7_fill_39 rfl rfl rfl ?_
  refine x_iload 4 42 C0 dX7_fill_40 rfl rfl ?_
  refine x_callV 45 C0 (k_X4_tryFill l hl g _ _ _ _ _ hC1.h0 (Nat.le_add_right _ _) k hk ga ki po) dX7_fill_42 rfl mC_X4_tryFill mM_X7_97 mI_X4_tryFill mV_X4_tryFill mN_X4 yd_X4_tryFill rfl rfl ⟨Nat.le_of_ble_eq_true rfl, Nat.le_of_ble_eq_true rfl⟩ (HR.ho hC1.h0) rfl rfl rfl rfl (Nat.le_of_ble_eq_true rfl) ⟨Nat.le_of_ble_eq_true rfl, Nat.le_of_ble_eq_true rfl⟩ (fun _ _ _ q => False.elim q) (fun r w1 sz1 hz hP => ?_)
  obtain ⟨rfl, x2, la2, hw2, hQ2⟩ := hP
  obtain ⟨hk2, hl2, b2, rfl, hb2⟩ : hok x2 ∧ lok g wv1 sz la2 ∧ ∃ b : Int32, r = some (.int b) ∧ isB b := by
    rcases hQ2 with ⟨q, q2, rfl, rfl⟩ | ⟨-, q2, q3, rfl⟩
    · exact ⟨hC1.k0.fill hk hm hB9 h19 h59 q, hC1.l0.blank, 1, q2, Or.inr rfl⟩
    · exact ⟨hC1.k0.refu q3, hC1.l0, 0, q2, Or.inl rfl⟩
  obtain ⟨wv2, hwv2⟩ : ∃ z, z = w1 := ⟨_, rfl⟩
  refine x_w hwv2.symm ?_
  rw [← hwv2] at hw2
  obtain ⟨x3, la3, hx3, hla3, hC3⟩ : ∃ x3 la3, x3 = va_up x1 0 x2 ∧ la3 = va_up la1 0 la2 ∧ CR g wv2 sz n x3 la3 t tt vb sg := ⟨_, _, rfl, rfl, by rw [hw2]; exact hC1.set0 hk2 hl2⟩
  have hF3 : xFr g w wv2 sz := xFr.tr (sz1 := sz) hF1 (by rw [hw2]; exact xFr.hw (by omega)) (by omega)
  refine x_st (st1 := [.int b2, .ref (g.2 0)]) rfl ?_
  refine x_callV 48 C0 (k_X7_conclude l hl g _ _ _ x3 la3 t tt vb sg hC3 b2) dX7_fill_45 rfl mC_X7_conclude mM_X7_53 mI_X7_conclude mV_X7_conclude mN_X7 yd_X7_conclude rfl rfl ⟨Nat.le_of_ble_eq_true rfl, Nat.le_of_ble_eq_true rfl⟩ hC3.1.1 rfl rfl rfl rfl (Nat.le_of_ble_eq_true rfl) ⟨Nat.le_of_ble_eq_true rfl, Nat.le_of_ble_eq_true rfl⟩ (fun E9 w9 sz9 q => by obtain ⟨rfl, rfl, h9, hno9⟩ := q; exact x_out C0 rfl (Nat.le_of_ble_eq_true rfl) (Nat.le_of_ble_eq_true rfl) ⟨hF3, by omega, _, _, _, hC3.grow h9, (Or.inr (Or.inr (Or.inr (⟨k, x1, la1, x3, x2, la3, la2, b2, hnk, hm0, hk, hB9, ⟨h19, h59⟩, hXX1, hx3, hla3, hQ2, rfl, hno9, rfl, rfl, rfl⟩))))⟩) (fun r w1 sz1 hz hP => ?_)
  obtain ⟨wv4, hwv4⟩ : ∃ z, z = w1 := ⟨_, rfl⟩
  obtain ⟨rfl, t4, hC4, hG4, rfl, hb94, ht94⟩ := hP
  refine x_w hwv4.symm ?_
  rw [← hwv4] at hC4 hG4
  have hF4 : xFr g w wv4 sz := xFr.tr (sz1 := sz) hF3 hG4 (by omega)
  refine x_st (st1 := []) rfl ?_
  refine x_aload 5 50 C0 dX7_fill_48 rfl rfl ?_
  refine x_callV 53 C0 (k_X1_room l hl g _ _ _ _ _ _ (HR.c hC4.h0 hk)) dX7_fill_50 rfl mC_X1_room mM_X7_101 mI_X1_room mV_X1_room mN_X1 yd_X1_room rfl rfl ⟨Nat.le_of_ble_eq_true rfl, Nat.le_of_ble_eq_true rfl⟩ (HR.c hC4.h0 hk) rfl rfl rfl rfl (Nat.le_of_ble_eq_true rfl) ⟨Nat.le_of_ble_eq_true rfl, Nat.le_of_ble_eq_true rfl⟩ (fun _ _ _ q => False.elim q) (fun r w1 sz1 hz hP => ?_)
  obtain ⟨hr, rfl, rfl⟩ := hP
  obtain ⟨v5, rfl⟩ : ∃ v : Int32, r = some (.int v) := ⟨_, hr⟩
  have hr5 := hr
  refine x_st (st1 := [.int v5]) rfl ?_
  exact x_ireturn C0 dX7_fill_53 rfl rfl (Nat.le_of_ble_eq_true rfl) (Nat.le_of_ble_eq_true rfl) ⟨⟨_, rfl⟩, hF4, by omega, _, _, _, hC4, ⟨k, x1, la1, x3, x2, la3, la2, b2, t4, v5, hnk, hm0, hk, hB9, ⟨h19, h59⟩, hXX1, hx3, hla3, hQ2, hb94, ht94, hr5, rfl, rfl, rfl, rfl⟩⟩

