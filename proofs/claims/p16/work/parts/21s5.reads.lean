/-! THE CLASS'S READS, EXACTLY -/
def L_X7_ranked (g : xg_T) (x : Nat → Nat → Int32) (la : Nat → Nat → Nat) (t : Nat → Int32) (pl : Int32) (r : Option Value) (x' : Nat → Nat → Int32) (la' : Nat → Nat → Nat) (t' : Nat → Int32) : Prop :=
  (∃ (v1 : Int32), (some (Value.int v1) = some (Value.int (firstN (x 0) pl 20 0))) ∧ (0 ≤ v1) ∧ (r = some (.int v1)) ∧ (x' = x) ∧ (la' = la) ∧ (t' = t))
def E_X7_ranked (g : xg_T) (x : Nat → Nat → Int32) (la : Nat → Nat → Nat) (t : Nat → Int32) (pl : Int32) (E : String) (x' : Nat → Nat → Int32) (la' : Nat → Nat → Nat) (t' : Nat → Int32) : Prop :=
  (∃ (v1 : Int32), (some (Value.int v1) = some (Value.int (firstN (x 0) pl 20 0))) ∧ (¬ (0 ≤ v1)) ∧ (E = "java/util/NoSuchElementException") ∧ (x' = x) ∧ (la' = la) ∧ (t' = t))
set_option maxHeartbeats 4000000 in
set_option maxRecDepth 100000 in
theorem e_X7_ranked (l : Launch) (hl : l.stackTraces = false) (g : xg_T) (w : xw_T) (sz n : Nat) (x : Nat → Nat → Int32) (la : Nat → Nat → Nat) (t tt : Nat → Int32) (vb : Option Nat) (sg : Nat → Int32) (hC : CR g w sz n x la t tt vb sg) (pl : Int32) : xM l g yX7_ranked cX7_ranked 3 (some .int) ({ frames := 6, cells := 8, slots := 64, locals := 92 }) 8 64 [.ref (g.2 0), .int pl] w sz (cQ g w sz n tt vb sg (fun r x' la' t' => L_X7_ranked g x la t pl r x' la' t')) (cE g w sz n tt vb sg (fun E x' la' t' => E_X7_ranked g x la t pl E x' la' t')) := by
  have hz9 := hC.zz
  refine xM.of RX7 hl (by decide +kernel) rfl (Nat.le_of_ble_eq_true rfl) rfl ?_
  intro p e s m args below meth cD C0 hini
  refine x_aload_n 0 1 C0 dX7_ranked_0 rfl rfl rfl ?_
  refine x_getf (v := .ref (g.2 0 + 1)) 0 4 C0 dX7_ranked_1 rfl hC.1.1 rfl (by decide) inX7 mF_X7_10 rfl ?_
  refine x_iload_n 1 5 C0 dX7_ranked_4 rfl rfl rfl ?_
  refine x_callV 8 C0 (k_X4_chestAtPlace l hl g _ _ _ _ _ hC.h0 pl) dX7_ranked_5 rfl mC_X4_chestAtPlace mM_X7_174 mI_X4_chestAtPlace mV_X4_chestAtPlace mN_X4 yd_X4_chestAtPlace rfl rfl ⟨Nat.le_of_ble_eq_true rfl, Nat.le_of_ble_eq_true rfl⟩ (HR.ho hC.h0) rfl rfl rfl rfl (Nat.le_of_ble_eq_true rfl) ⟨Nat.le_of_ble_eq_true rfl, Nat.le_of_ble_eq_true rfl⟩ (fun _ _ _ q => False.elim q) (fun r w1 sz1 hz hP => ?_)
  obtain ⟨hr, rfl, rfl⟩ := hP
  obtain ⟨v1, rfl⟩ : ∃ v : Int32, r = some (.int v) := ⟨_, hr⟩
  have hr1 := hr
  refine x_st (st1 := [.int v1]) rfl ?_
  refine x_istore_n [(2, .int v1), (0, .ref (g.2 0)), (1, .int pl)] 9 C0 dX7_ranked_8 rfl rfl (by decide) rfl ?_
  refine x_lv (lv1 := [(0, .ref (g.2 0)), (1, .int pl), (2, .int v1)]) [1, 2, 0] rfl ?_
  refine x_iload_n 2 10 C0 dX7_ranked_9 rfl rfl rfl ?_
  refine x_if_ge 23 13 C0 dX7_ranked_10 rfl (by decide) (fun c2 => ?_) (fun c2 => ?_)
  · have c2' := Int32.not_lt.mpr c2
    refine x_iload_n 2 24 C0 dX7_ranked_23 rfl rfl rfl ?_
    exact x_ireturn C0 dX7_ranked_24 rfl rfl (Nat.le_of_ble_eq_true rfl) (Nat.le_of_ble_eq_true rfl) ⟨⟨_, rfl⟩, xFr.rf, by omega, _, _, _, hC, ⟨v1, hr1, c2, rfl, rfl, rfl, rfl⟩⟩
  · have c2' := Int32.not_le.mp c2
    exact x_throwN C0 dX7_ranked_13 dX7_ranked_16 dX7_ranked_17 dX7_ranked_19 dX7_ranked_22 rfl rfl rfl rfl (by decide +kernel) mK_X7_137 mN_NoSuchElementException (xs_ldc C0.2.2.2.2.2.2.2.1.2.2 (RX7, 178, "no such place", 142) (by decide +kernel)) (xhat C0 xg_nse xh_nse (by decide +kernel)) xo_nse (xs_us C0.2.2.2.2.2.2.2.1.2.2) (xs_su C0.2.2.2.2.2.2.2.1.2.2) rfl (Nat.le_of_ble_eq_true rfl) (Nat.le_of_ble_eq_true rfl) (Nat.le_of_ble_eq_true rfl) (Nat.le_of_ble_eq_true rfl) (Nat.le_of_ble_eq_true rfl) (Nat.le_of_ble_eq_true rfl) (fun sz9 h9 => ⟨xFr.rf, by omega, _, _, _, hC.grow h9, ⟨v1, hr1, c2, rfl, rfl, rfl, rfl⟩⟩)

