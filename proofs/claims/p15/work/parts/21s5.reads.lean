/-! THE CLASS'S READS, EXACTLY -/
def L_X7_worth (g : xg_T) (x : Nat → Nat → Int32) (la : Nat → Nat → Nat) (t : Nat → Int32) (cn : Int32) (r : Option Value) (x' : Nat → Nat → Int32) (la' : Nat → Nat → Nat) (t' : Nat → Int32) : Prop :=
  (∃ (k : Nat) (v1 : Int32), (cn = nI k) ∧ (nI k < x 0 3) ∧ (k < 20) ∧ (some (Value.int v1) = some (Value.int (cCoins (row (x 0) k)))) ∧ (r = some (.int v1)) ∧ (x' = x) ∧ (la' = la) ∧ (t' = t))
def E_X7_worth (g : xg_T) (x : Nat → Nat → Int32) (la : Nat → Nat → Nat) (t : Nat → Int32) (cn : Int32) (E : String) (x' : Nat → Nat → Int32) (la' : Nat → Nat → Nat) (t' : Nat → Int32) : Prop :=
  ((E = "java/lang/IndexOutOfBoundsException") ∧ (¬ (0 ≤ cn ∧ cn < x 0 3 ∧ cn < 20)) ∧ (x' = x) ∧ (la' = la) ∧ (t' = t))
set_option maxHeartbeats 4000000 in
set_option maxRecDepth 100000 in
theorem e_X7_worth (l : Launch) (hl : l.stackTraces = false) (g : xg_T) (w : xw_T) (sz n : Nat) (x : Nat → Nat → Int32) (la : Nat → Nat → Nat) (t tt : Nat → Int32) (vb : Option Nat) (sg : Nat → Int32) (hC : CR g w sz n x la t tt vb sg) (cn : Int32) : xM l g yX7_worth cX7_worth 2 (some .int) ({ frames := 7, cells := 8, slots := 64, locals := 104 }) 8 64 [.ref (g.2 0), .int cn] w sz (cQ g w sz n tt vb sg (fun r x' la' t' => L_X7_worth g x la t cn r x' la' t')) (cE g w sz n tt vb sg (fun E x' la' t' => E_X7_worth g x la t cn E x' la' t')) := by
  have hz9 := hC.zz
  refine xM.of RX7 hl (by decide +kernel) rfl (Nat.le_of_ble_eq_true rfl) rfl ?_
  intro p e s m args below meth cD C0 hini
  refine x_aload_n 0 1 C0 dX7_worth_0 rfl rfl rfl ?_
  refine x_iload_n 1 2 C0 dX7_worth_1 rfl rfl rfl ?_
  refine x_callV 5 C0 (k_X7_needChest l hl g _ _ _ x la t tt vb sg hC cn) dX7_worth_2 rfl mC_X7_needChest mM_X7_89 mI_X7_needChest mV_X7_needChest mN_X7 yd_X7_needChest rfl rfl ⟨Nat.le_of_ble_eq_true rfl, Nat.le_of_ble_eq_true rfl⟩ hC.1.1 rfl rfl rfl rfl (Nat.le_of_ble_eq_true rfl) ⟨Nat.le_of_ble_eq_true rfl, Nat.le_of_ble_eq_true rfl⟩ (fun E9 w9 sz9 q => by obtain ⟨rfl, rfl, h9, hno9⟩ := q; exact x_out C0 rfl (Nat.le_of_ble_eq_true rfl) (Nat.le_of_ble_eq_true rfl) ⟨xFr.rf, by omega, _, _, _, hC.grow h9, ⟨rfl, hno9, rfl, rfl, rfl⟩⟩) (fun r w1 sz1 hz hP => ?_)
  obtain ⟨⟨k, hk, hm, rfl, hnk⟩, rfl, rfl⟩ := hP
  have hm0 := hm
  refine x_st (st1 := [.ref (g.2 0 + 1 + 3 + k)]) rfl ?_
  refine x_callV 8 C0 (k_X1_coins l hl g _ _ _ _ _ _ (HR.c hC.h0 hk)) dX7_worth_5 rfl mC_X1_coins mM_X7_171 mI_X1_coins mV_X1_coins mN_X1 yd_X1_coins rfl rfl ⟨Nat.le_of_ble_eq_true rfl, Nat.le_of_ble_eq_true rfl⟩ (HR.c hC.h0 hk) rfl rfl rfl rfl (Nat.le_of_ble_eq_true rfl) ⟨Nat.le_of_ble_eq_true rfl, Nat.le_of_ble_eq_true rfl⟩ (fun _ _ _ q => False.elim q) (fun r w1 sz1 hz hP => ?_)
  obtain ⟨hr, rfl, rfl⟩ := hP
  obtain ⟨v1, rfl⟩ : ∃ v : Int32, r = some (.int v) := ⟨_, hr⟩
  have hr1 := hr
  refine x_st (st1 := [.int v1]) rfl ?_
  exact x_ireturn C0 dX7_worth_8 rfl rfl (Nat.le_of_ble_eq_true rfl) (Nat.le_of_ble_eq_true rfl) ⟨⟨_, rfl⟩, xFr.rf, by omega, _, _, _, hC, ⟨k, v1, hnk, hm0, hk, hr1, rfl, rfl, rfl, rfl⟩⟩

