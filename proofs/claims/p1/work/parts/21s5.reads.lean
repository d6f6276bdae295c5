/-! THE CLASS'S READS, EXACTLY -/
def L_X7_worth (g : xg_T) (x : Nat → Nat → Int32) (la : Nat → Nat → Nat) (t : Nat → Int32) (cn : Int32) (r : Option Value) (x' : Nat → Nat → Int32) (la' : Nat → Nat → Nat) (t' : Nat → Int32) : Prop :=
  (∃ (k : Nat) (v1 : Int32), (cn = nI k) ∧ (nI k < x 0 3) ∧ (k < 20) ∧ (some (Value.int v1) = some (Value.int (cCoins (row (x 0) k)))) ∧ (r = some (.int v1)) ∧ (x' = x) ∧ (la' = la) ∧ (t' = t))
def E_X7_worth (g : xg_T) (x : Nat → Nat → Int32) (la : Nat → Nat → Nat) (t : Nat → Int32) (cn : Int32) (E : String) (x' : Nat → Nat → Int32) (la' : Nat → Nat → Nat) (t' : Nat → Int32) : Prop :=
  ((E = "java/lang/IndexOutOfBoundsException") ∧ (¬ (0 ≤ cn ∧ cn < x 0 3 ∧ cn < 20)) ∧ (x' = x) ∧ (la' = la) ∧ (t' = t))
set_option maxHeartbeats 4000000 in
set_option maxRecDepth 100000 in
theorem e_X7_worth (l : Launch) (hl : l.stackTraces = false) (g : xg_T) (w : xw_T) (sz n : Nat) (x : Nat → Nat → Int32) (la : Nat → Nat → Nat) (t tt : Nat → Int32) (vb : Option Nat) (sg : Nat → Int32) (hC : CR g w sz n x la t tt vb sg) (cn : Int32) : xM l g yX7_worth cX7_worth 2 (some .int) ({ frames := 7, cells := 8, slots := 64, locals := 104 }) 8 64 [.ref (g.2 0), .int cn] w sz (cQ g w sz n tt vb sg (fun r x' la' t' => L_X7_worth g x la t cn r x' la' t')) (cE g w sz n tt vb sg (fun E x' la' t' => E_X7_worth g x la t cn E x' la' t')) := by
  have hz9 := hC.zz
  refine xM.of RX7 hl (by decide +kernel) rfl (Nat.le_of_ble_eq_true rfl) rfl ?_
  intro p e s m args below meth cD C0 hini
  refine x_aload_n 0 1 C0 dX7_worth_0 rfl rfl rfl ?_
  refine x_iload_n 1 2 C0 dX7_worth_1 rfl rfl rfl ?_
  refine x_callV 5 C0 (k_X7_needChest l hl g _ _ _ x la t tt vb sg hC cn) dX7_worth_2 rfl mC_X7_needChest mM_X7_89 mI_X7_needChest mV_X7_needChest mN_X7 yd_X7_needChest rfl rfl ⟨Nat.le_of_ble_eq_true rfl, Nat.le_of_ble_eq_true rfl⟩ hC.1.1 rfl rfl rfl rfl (Nat.le_of_ble_eq_true rfl) ⟨Nat.le_of_ble_eq_true rfl, Nat.le_of_ble_eq_true rfl⟩ (fun E9 w9 sz9 q => by obtain ⟨rfl, rfl, h9, hno9⟩ := q; exact x_out C0 rfl (Nat.le_of_ble_eq_true rfl) (Nat.le_of_ble_eq_true rfl) ⟨xFr.rf, by omega, _, _, _, hC.grow h9, ⟨rfl, hno9, rfl, rfl, rfl⟩⟩) (fun r w1 sz1 hz hP => ?_)
  obtain ⟨⟨k, hk, hm, rfl, hnk⟩, rfl, rfl⟩ := hP
  have hm0 := hm
  refine x_st (st1 := [.ref (g.2 0 + 1 + 3 + k)]) rfl ?_
  refine x_callV 8 C0 (k_X1_coins l hl g _ _ _ _ _ _ (HR.c hC.h0 hk)) dX7_worth_5 rfl mC_X1_coins mM_X7_171 mI_X1_coins mV_X1_coins mN_X1 yd_X1_coins rfl rfl ⟨Nat.le_of_ble_eq_true rfl, Nat.le_of_ble_eq_true rfl⟩ (HR.c hC.h0 hk) rfl rfl rfl rfl (Nat.le_of_ble_eq_true rfl) ⟨Nat.le_of_ble_eq_true rfl, Nat.le_of_ble_eq_true rfl⟩ (fun _ _ _ q => False.elim q) (fun r w1 sz1 hz hP => ?_)
  obtain ⟨hr, rfl, rfl⟩ := hP
  obtain ⟨v1, rfl⟩ : ∃ v : Int32, r = some (.int v) := ⟨_, hr⟩
  have hr1 := hr
  refine x_st (st1 := [.int v1]) rfl ?_
  exact x_ireturn C0 dX7_worth_8 rfl rfl (Nat.le_of_ble_eq_true rfl) (Nat.le_of_ble_eq_true rfl) ⟨⟨_, rfl⟩, xFr.rf, by omega, _, _, _, hC, ⟨k, v1, hnk, hm0, hk, hr1, rfl, rfl, rfl, rfl⟩⟩

def L_X7_account (g : xg_T) (x : Nat → Nat → Int32) (la : Nat → Nat → Nat) (t : Nat → Int32) (wh : Int32) (n : Nat) (r : Option Value) (x' : Nat → Nat → Int32) (la' : Nat → Nat → Nat) (t' : Nat → Int32) : Prop :=
  ((wh.toInt = 0) ∧ (r = some (.int (x 0 0))) ∧ (x' = x) ∧ (la' = la) ∧ (t' = t)) ∨
  (∃ (v2 : Int32), (wh.toInt = 1) ∧ (some (Value.int v2) = some (Value.int (sAll (x 0)))) ∧ (r = some (.int v2)) ∧ (x' = x) ∧ (la' = la) ∧ (t' = t)) ∨
  (∃ (v3 : Int32), (wh.toInt = 2) ∧ (some (Value.int v3) = some (Value.int (packedN (x 0) 20))) ∧ (r = some (.int v3)) ∧ (x' = x) ∧ (la' = la) ∧ (t' = t)) ∨
  ((wh.toInt = 3) ∧ (r = some (.int (x 0 7))) ∧ (x' = x) ∧ (la' = la) ∧ (t' = t)) ∨
  ((wh.toInt = 4) ∧ (r = some (.int (x 0 8))) ∧ (x' = x) ∧ (la' = la) ∧ (t' = t)) ∨
  ((wh.toInt = 5) ∧ (r = some (.int (x 0 6))) ∧ (x' = x) ∧ (la' = la) ∧ (t' = t)) ∨
  ((wh.toInt = 6) ∧ (r = some (.int (x 0 1))) ∧ (x' = x) ∧ (la' = la) ∧ (t' = t)) ∨
  ((wh.toInt = 7) ∧ (r = some (.int (x 0 2))) ∧ (x' = x) ∧ (la' = la) ∧ (t' = t)) ∨
  ((wh.toInt = 8) ∧ (r = some (.int (x 0 3))) ∧ (x' = x) ∧ (la' = la) ∧ (t' = t)) ∨
  (∃ (v4 : Int32), (wh.toInt = 9) ∧ (some (Value.int v4) = some (Value.int (nAt (x 0) 0 20))) ∧ (r = some (.int v4)) ∧ (x' = x) ∧ (la' = la) ∧ (t' = t)) ∨
  (∃ (v5 : Int32), (wh.toInt = 10) ∧ (some (Value.int v5) = some (Value.int (nAt (x 0) 1 20))) ∧ (r = some (.int v5)) ∧ (x' = x) ∧ (la' = la) ∧ (t' = t)) ∨
  (∃ (v6 : Int32), (wh.toInt = 11) ∧ (some (Value.int v6) = some (Value.int (nAt (x 0) 2 20))) ∧ (r = some (.int v6)) ∧ (x' = x) ∧ (la' = la) ∧ (t' = t)) ∨
  (∃ (v7 : Int32), (wh.toInt = 12) ∧ (some (Value.int v7) = some (Value.int (hRoom (x 0) 20))) ∧ (r = some (.int v7)) ∧ (x' = x) ∧ (la' = la) ∧ (t' = t)) ∨
  ((wh.toInt = 13) ∧ (r = some (.int (x 0 9))) ∧ (x' = x) ∧ (la' = la) ∧ (t' = t)) ∨
  ((wh.toInt = 14) ∧ (r = some (.int (x 0 4))) ∧ (x' = x) ∧ (la' = la) ∧ (t' = t)) ∨
  ((wh.toInt = 15) ∧ (r = some (.int (x 0 5))) ∧ (x' = x) ∧ (la' = la) ∧ (t' = t)) ∨
  ((wh.toInt = 16) ∧ (r = some (.int (nI n))) ∧ (x' = x) ∧ (la' = la) ∧ (t' = t)) ∨
  ((wh.toInt = 17) ∧ (r = some (.int (t 2))) ∧ (x' = x) ∧ (la' = la) ∧ (t' = t))
def E_X7_account (g : xg_T) (x : Nat → Nat → Int32) (la : Nat → Nat → Nat) (t : Nat → Int32) (wh : Int32) (n : Nat) (E : String) (x' : Nat → Nat → Int32) (la' : Nat → Nat → Nat) (t' : Nat → Int32) : Prop :=
  ((wh.toInt < 0 ∨ 17 < wh.toInt) ∧ (E = "java/lang/IllegalArgumentException") ∧ (x' = x) ∧ (la' = la) ∧ (t' = t))
set_option maxHeartbeats 4000000 in
set_option maxRecDepth 100000 in
theorem e_X7_account (l : Launch) (hl : l.stackTraces = false) (g : xg_T) (w : xw_T) (sz n : Nat) (x : Nat → Nat → Int32) (la : Nat → Nat → Nat) (t tt : Nat → Int32) (vb : Option Nat) (sg : Nat → Int32) (hC : CR g w sz n x la t tt vb sg) (wh : Int32) : xM l g yX7_account cX7_account 2 (some .int) ({ frames := 6, cells := 8, slots := 64, locals := 88 }) 8 64 [.ref (g.2 0), .int wh] w sz (cQ g w sz n tt vb sg (fun r x' la' t' => L_X7_account g x la t wh n r x' la' t')) (cE g w sz n tt vb sg (fun E x' la' t' => E_X7_account g x la t wh n E x' la' t')) := by
  have hz9 := hC.zz
  refine xM.of RX7 hl (by decide +kernel) rfl (Nat.le_of_ble_eq_true rfl) rfl ?_
  intro p e s m args below meth cD C0 hini
  refine x_iload_n 1 1 C0 dX7_account_0 rfl rfl rfl ?_
  have hs1 : (wh.toInt < 0 ∨ 17 < wh.toInt) ∨ (wh.toInt = 0) ∨ (wh.toInt = 1) ∨ (wh.toInt = 2) ∨ (wh.toInt = 3) ∨ (wh.toInt = 4) ∨ (wh.toInt = 5) ∨ (wh.toInt = 6) ∨ (wh.toInt = 7) ∨ (wh.toInt = 8) ∨ (wh.toInt = 9) ∨ (wh.toInt = 10) ∨ (wh.toInt = 11) ∨ (wh.toInt = 12) ∨ (wh.toInt = 13) ∨ (wh.toInt = 14) ∨ (wh.toInt = 15) ∨ (wh.toInt = 16) ∨ (wh.toInt = 17) := by omega
  rcases hs1 with hs1 | hs1 | hs1 | hs1 | hs1 | hs1 | hs1 | hs1 | hs1 | hs1 | hs1 | hs1 | hs1 | hs1 | hs1 | hs1 | hs1 | hs1 | hs1
  · refine x_tabOut 235 C0 dX7_account_1 hs1 (by decide) ?_
    exact x_throwSW xNames C0 dX7_account_235 dX7_account_238 dX7_account_239 dX7_account_242 dX7_account_245 rfl rfl rfl rfl (by decide +kernel) (by decide +kernel) mK_X7_166 mN_IllegalArgumentException (xs_ldc C0.2.2.2.2.2.2.2.1.2.2 (RX7, 259, "no such account", 146) (by decide +kernel)) (xhat C0 xg_iae xh_iae (by decide +kernel)) xo_iae (xs_us C0.2.2.2.2.2.2.2.1.2.2) (xs_su C0.2.2.2.2.2.2.2.1.2.2) rfl (Nat.le_of_ble_eq_true rfl) (Nat.le_of_ble_eq_true rfl) (Nat.le_of_ble_eq_true rfl) (Nat.le_of_ble_eq_true rfl) (Nat.le_of_ble_eq_true rfl) (Nat.le_of_ble_eq_true rfl) (fun sz9 h9 => ⟨xFr.rf, by omega, _, _, _, hC.grow h9, ⟨hs1, rfl, rfl, rfl, rfl⟩⟩)
  · refine x_tabIn 88 C0 dX7_account_1 (by omega) (by omega) (by rw [hs1]; rfl) (by decide) ?_
    refine x_aload_n 0 89 C0 dX7_account_88 rfl rfl rfl ?_
    refine x_getf (v := .ref (g.2 0 + 1)) 0 92 C0 dX7_account_89 rfl hC.1.1 rfl (by decide) inX7 mF_X7_10 rfl ?_
    refine x_getf (v := .int (x 0 0)) 5 95 C0 dX7_account_92 rfl (HR.ho hC.h0) rfl (by decide) inX4 mF_X7_201 rfl ?_
    exact x_ireturn C0 dX7_account_95 rfl rfl (Nat.le_of_ble_eq_true rfl) (Nat.le_of_ble_eq_true rfl) ⟨⟨_, rfl⟩, xFr.rf, by omega, _, _, _, hC, (Or.inl ⟨hs1, rfl, rfl, rfl, rfl⟩)⟩
  · refine x_tabIn 96 C0 dX7_account_1 (by omega) (by omega) (by rw [hs1]; rfl) (by decide) ?_
    refine x_aload_n 0 97 C0 dX7_account_96 rfl rfl rfl ?_
    refine x_getf (v := .ref (g.2 0 + 1)) 0 100 C0 dX7_account_97 rfl hC.1.1 rfl (by decide) inX7 mF_X7_10 rfl ?_
    refine x_callV 103 C0 (k_X4_poundsStored l hl g _ _ _ _ _ hC.h0) dX7_account_100 rfl mC_X4_poundsStored mM_X7_210 mI_X4_poundsStored mV_X4_poundsStored mN_X4 yd_X4_poundsStored rfl rfl ⟨Nat.le_of_ble_eq_true rfl, Nat.le_of_ble_eq_true rfl⟩ (HR.ho hC.h0) rfl rfl rfl rfl (Nat.le_of_ble_eq_true rfl) ⟨Nat.le_of_ble_eq_true rfl, Nat.le_of_ble_eq_true rfl⟩ (fun _ _ _ q => False.elim q) (fun r w1 sz1 hz hP => ?_)
    obtain ⟨hr, rfl, rfl⟩ := hP
    obtain ⟨v2, rfl⟩ : ∃ v : Int32, r = some (.int v) := ⟨_, hr⟩
    have hr2 := hr
    refine x_st (st1 := [.int v2]) rfl ?_
    exact x_ireturn C0 dX7_account_103 rfl rfl (Nat.le_of_ble_eq_true rfl) (Nat.le_of_ble_eq_true rfl) ⟨⟨_, rfl⟩, xFr.rf, by omega, _, _, _, hC, (Or.inr (Or.inl ⟨v2, hs1, hr2, rfl, rfl, rfl, rfl⟩))⟩
  · refine x_tabIn 104 C0 dX7_account_1 (by omega) (by omega) (by rw [hs1]; rfl) (by decide) ?_
    refine x_aload_n 0 105 C0 dX7_account_104 rfl rfl rfl ?_
    refine x_getf (v := .ref (g.2 0 + 1)) 0 108 C0 dX7_account_105 rfl hC.1.1 rfl (by decide) inX7 mF_X7_10 rfl ?_
    refine x_callV 111 C0 (k_X4_poundsInChests l hl g _ _ _ _ _ hC.h0) dX7_account_108 rfl mC_X4_poundsInChests mM_X7_213 mI_X4_poundsInChests mV_X4_poundsInChests mN_X4 yd_X4_poundsInChests rfl rfl ⟨Nat.le_of_ble_eq_true rfl, Nat.le_of_ble_eq_true rfl⟩ (HR.ho hC.h0) rfl rfl rfl rfl (Nat.le_of_ble_eq_true rfl) ⟨Nat.le_of_ble_eq_true rfl, Nat.le_of_ble_eq_true rfl⟩ (fun _ _ _ q => False.elim q) (fun r w1 sz1 hz hP => ?_)
    obtain ⟨hr, rfl, rfl⟩ := hP
    obtain ⟨v3, rfl⟩ : ∃ v : Int32, r = some (.int v) := ⟨_, hr⟩
    have hr3 := hr
    refine x_st (st1 := [.int v3]) rfl ?_
    exact x_ireturn C0 dX7_account_111 rfl rfl (Nat.le_of_ble_eq_true rfl) (Nat.le_of_ble_eq_true rfl) ⟨⟨_, rfl⟩, xFr.rf, by omega, _, _, _, hC, (Or.inr (Or.inr (Or.inl ⟨v3, hs1, hr3, rfl, rfl, rfl, rfl⟩)))⟩
  · refine x_tabIn 112 C0 dX7_account_1 (by omega) (by omega) (by rw [hs1]; rfl) (by decide) ?_
    refine x_aload_n 0 113 C0 dX7_account_112 rfl rfl rfl ?_
    refine x_getf (v := .ref (g.2 0 + 1)) 0 116 C0 dX7_account_113 rfl hC.1.1 rfl (by decide) inX7 mF_X7_10 rfl ?_
    refine x_getf (v := .int (x 0 7)) 10 119 C0 dX7_account_116 rfl (HR.ho hC.h0) rfl (by decide) inX4 mF_X7_216 rfl ?_
    exact x_ireturn C0 dX7_account_119 rfl rfl (Nat.le_of_ble_eq_true rfl) (Nat.le_of_ble_eq_true rfl) ⟨⟨_, rfl⟩, xFr.rf, by omega, _, _, _, hC, (Or.inr (Or.inr (Or.inr (Or.inl ⟨hs1, rfl, rfl, rfl, rfl⟩))))⟩
  · refine x_tabIn 120 C0 dX7_account_1 (by omega) (by omega) (by rw [hs1]; rfl) (by decide) ?_
    refine x_aload_n 0 121 C0 dX7_account_120 rfl rfl rfl ?_
    refine x_getf (v := .ref (g.2 0 + 1)) 0 124 C0 dX7_account_121 rfl hC.1.1 rfl (by decide) inX7 mF_X7_10 rfl ?_
    refine x_getf (v := .int (x 0 8)) 11 127 C0 dX7_account_124 rfl (HR.ho hC.h0) rfl (by decide) inX4 mF_X7_219 rfl ?_
    exact x_ireturn C0 dX7_account_127 rfl rfl (Nat.le_of_ble_eq_true rfl) (Nat.le_of_ble_eq_true rfl) ⟨⟨_, rfl⟩, xFr.rf, by omega, _, _, _, hC, (Or.inr (Or.inr (Or.inr (Or.inr (Or.inl ⟨hs1, rfl, rfl, rfl, rfl⟩)))))⟩
  · refine x_tabIn 128 C0 dX7_account_1 (by omega) (by omega) (by rw [hs1]; rfl) (by decide) ?_
    refine x_aload_n 0 129 C0 dX7_account_128 rfl rfl rfl ?_
    refine x_getf (v := .ref (g.2 0 + 1)) 0 132 C0 dX7_account_129 rfl hC.1.1 rfl (by decide) inX7 mF_X7_10 rfl ?_
    refine x_getf (v := .int (x 0 6)) 9 135 C0 dX7_account_132 rfl (HR.ho hC.h0) rfl (by decide) inX4 mF_X7_222 rfl ?_
    exact x_ireturn C0 dX7_account_135 rfl rfl (Nat.le_of_ble_eq_true rfl) (Nat.le_of_ble_eq_true rfl) ⟨⟨_, rfl⟩, xFr.rf, by omega, _, _, _, hC, (Or.inr (Or.inr (Or.inr (Or.inr (Or.inr (Or.inl ⟨hs1, rfl, rfl, rfl, rfl⟩))))))⟩
  · refine x_tabIn 136 C0 dX7_account_1 (by omega) (by omega) (by rw [hs1]; rfl) (by decide) ?_
    refine x_aload_n 0 137 C0 dX7_account_136 rfl rfl rfl ?_
    refine x_getf (v := .ref (g.2 0 + 1)) 0 140 C0 dX7_account_137 rfl hC.1.1 rfl (by decide) inX7 mF_X7_10 rfl ?_
    refine x_getf (v := .int (x 0 1)) 3 143 C0 dX7_account_140 rfl (HR.ho hC.h0) rfl (by decide) inX4 mF_X7_79 rfl ?_
    exact x_ireturn C0 dX7_account_143 rfl rfl (Nat.le_of_ble_eq_true rfl) (Nat.le_of_ble_eq_true rfl) ⟨⟨_, rfl⟩, xFr.rf, by omega, _, _, _, hC, (Or.inr (Or.inr (Or.inr (Or.inr (Or.inr (Or.inr (Or.inl ⟨hs1, rfl, rfl, rfl, rfl⟩)))))))⟩
  · refine x_tabIn 144 C0 dX7_account_1 (by omega) (by omega) (by rw [hs1]; rfl) (by decide) ?_
    refine x_aload_n 0 145 C0 dX7_account_144 rfl rfl rfl ?_
    refine x_getf (v := .ref (g.2 0 + 1)) 0 148 C0 dX7_account_145 rfl hC.1.1 rfl (by decide) inX7 mF_X7_10 rfl ?_
    refine x_getf (v := .int (x 0 2)) 4 151 C0 dX7_account_148 rfl (HR.ho hC.h0) rfl (by decide) inX4 mF_X7_72 rfl ?_
    exact x_ireturn C0 dX7_account_151 rfl rfl (Nat.le_of_ble_eq_true rfl) (Nat.le_of_ble_eq_true rfl) ⟨⟨_, rfl⟩, xFr.rf, by omega, _, _, _, hC, (Or.inr (Or.inr (Or.inr (Or.inr (Or.inr (Or.inr (Or.inr (Or.inl ⟨hs1, rfl, rfl, rfl, rfl⟩))))))))⟩
  · refine x_tabIn 152 C0 dX7_account_1 (by omega) (by omega) (by rw [hs1]; rfl) (by decide) ?_
    refine x_aload_n 0 153 C0 dX7_account_152 rfl rfl rfl ?_
    refine x_getf (v := .ref (g.2 0 + 1)) 0 156 C0 dX7_account_153 rfl hC.1.1 rfl (by decide) inX7 mF_X7_10 rfl ?_
    refine x_getf (v := .int (x 0 3)) 2 159 C0 dX7_account_156 rfl (HR.ho hC.h0) rfl (by decide) inX4 mF_X7_86 rfl ?_
    exact x_ireturn C0 dX7_account_159 rfl rfl (Nat.le_of_ble_eq_true rfl) (Nat.le_of_ble_eq_true rfl) ⟨⟨_, rfl⟩, xFr.rf, by omega, _, _, _, hC, (Or.inr (Or.inr (Or.inr (Or.inr (Or.inr (Or.inr (Or.inr (Or.inr (Or.inl ⟨hs1, rfl, rfl, rfl, rfl⟩)))))))))⟩
  · refine x_tabIn 160 C0 dX7_account_1 (by omega) (by omega) (by rw [hs1]; rfl) (by decide) ?_
    refine x_aload_n 0 161 C0 dX7_account_160 rfl rfl rfl ?_
    refine x_getf (v := .ref (g.2 0 + 1)) 0 164 C0 dX7_account_161 rfl hC.1.1 rfl (by decide) inX7 mF_X7_10 rfl ?_
    refine x_iconst (v := 0) 165 C0 dX7_account_164 rfl (by decide) ?_
    refine x_callV 168 C0 (k_X4_chestsAt l hl g _ _ _ _ _ hC.h0 0) dX7_account_165 rfl mC_X4_chestsAt mM_X7_183 mI_X4_chestsAt mV_X4_chestsAt mN_X4 yd_X4_chestsAt rfl rfl ⟨Nat.le_of_ble_eq_true rfl, Nat.le_of_ble_eq_true rfl⟩ (HR.ho hC.h0) rfl rfl rfl rfl (Nat.le_of_ble_eq_true rfl) ⟨Nat.le_of_ble_eq_true rfl, Nat.le_of_ble_eq_true rfl⟩ (fun _ _ _ q => False.elim q) (fun r w1 sz1 hz hP => ?_)
    obtain ⟨hr, rfl, rfl⟩ := hP
    obtain ⟨v4, rfl⟩ : ∃ v : Int32, r = some (.int v) := ⟨_, hr⟩
    have hr4 := hr
    refine x_st (st1 := [.int v4]) rfl ?_
    exact x_ireturn C0 dX7_account_168 rfl rfl (Nat.le_of_ble_eq_true rfl) (Nat.le_of_ble_eq_true rfl) ⟨⟨_, rfl⟩, xFr.rf, by omega, _, _, _, hC, (Or.inr (Or.inr (Or.inr (Or.inr (Or.inr (Or.inr (Or.inr (Or.inr (Or.inr (Or.inl ⟨v4, hs1, hr4, rfl, rfl, rfl, rfl⟩))))))))))⟩
  · refine x_tabIn 169 C0 dX7_account_1 (by omega) (by omega) (by rw [hs1]; rfl) (by decide) ?_
    refine x_aload_n 0 170 C0 dX7_account_169 rfl rfl rfl ?_
    refine x_getf (v := .ref (g.2 0 + 1)) 0 173 C0 dX7_account_170 rfl hC.1.1 rfl (by decide) inX7 mF_X7_10 rfl ?_
    refine x_iconst (v := 1) 174 C0 dX7_account_173 rfl (by decide) ?_
    refine x_callV 177 C0 (k_X4_chestsAt l hl g _ _ _ _ _ hC.h0 1) dX7_account_174 rfl mC_X4_chestsAt mM_X7_183 mI_X4_chestsAt mV_X4_chestsAt mN_X4 yd_X4_chestsAt rfl rfl ⟨Nat.le_of_ble_eq_true rfl, Nat.le_of_ble_eq_true rfl⟩ (HR.ho hC.h0) rfl rfl rfl rfl (Nat.le_of_ble_eq_true rfl) ⟨Nat.le_of_ble_eq_true rfl, Nat.le_of_ble_eq_true rfl⟩ (fun _ _ _ q => False.elim q) (fun r w1 sz1 hz hP => ?_)
    obtain ⟨hr, rfl, rfl⟩ := hP
    obtain ⟨v5, rfl⟩ : ∃ v : Int32, r = some (.int v) := ⟨_, hr⟩
    have hr5 := hr
    refine x_st (st1 := [.int v5]) rfl ?_
    exact x_ireturn C0 dX7_account_177 rfl rfl (Nat.le_of_ble_eq_true rfl) (Nat.le_of_ble_eq_true rfl) ⟨⟨_, rfl⟩, xFr.rf, by omega, _, _, _, hC, (Or.inr (Or.inr (Or.inr (Or.inr (Or.inr (Or.inr (Or.inr (Or.inr (Or.inr (Or.inr (Or.inl ⟨v5, hs1, hr5, rfl, rfl, rfl, rfl⟩)))))))))))⟩
  · refine x_tabIn 178 C0 dX7_account_1 (by omega) (by omega) (by rw [hs1]; rfl) (by decide) ?_
    refine x_aload_n 0 179 C0 dX7_account_178 rfl rfl rfl ?_
    refine x_getf (v := .ref (g.2 0 + 1)) 0 182 C0 dX7_account_179 rfl hC.1.1 rfl (by decide) inX7 mF_X7_10 rfl ?_
    refine x_iconst (v := 2) 183 C0 dX7_account_182 rfl (by decide) ?_
    refine x_callV 186 C0 (k_X4_chestsAt l hl g _ _ _ _ _ hC.h0 2) dX7_account_183 rfl mC_X4_chestsAt mM_X7_183 mI_X4_chestsAt mV_X4_chestsAt mN_X4 yd_X4_chestsAt rfl rfl ⟨Nat.le_of_ble_eq_true rfl, Nat.le_of_ble_eq_true rfl⟩ (HR.ho hC.h0) rfl rfl rfl rfl (Nat.le_of_ble_eq_true rfl) ⟨Nat.le_of_ble_eq_true rfl, Nat.le_of_ble_eq_true rfl⟩ (fun _ _ _ q => False.elim q) (fun r w1 sz1 hz hP => ?_)
    obtain ⟨hr, rfl, rfl⟩ := hP
    obtain ⟨v6, rfl⟩ : ∃ v : Int32, r = some (.int v) := ⟨_, hr⟩
    have hr6 := hr
    refine x_st (st1 := [.int v6]) rfl ?_
    exact x_ireturn C0 dX7_account_186 rfl rfl (Nat.le_of_ble_eq_true rfl) (Nat.le_of_ble_eq_true rfl) ⟨⟨_, rfl⟩, xFr.rf, by omega, _, _, _, hC, (Or.inr (Or.inr (Or.inr (Or.inr (Or.inr (Or.inr (Or.inr (Or.inr (Or.inr (Or.inr (Or.inr (Or.inl ⟨v6, hs1, hr6, rfl, rfl, rfl, rfl⟩))))))))))))⟩
  · refine x_tabIn 187 C0 dX7_account_1 (by omega) (by omega) (by rw [hs1]; rfl) (by decide) ?_
    refine x_aload_n 0 188 C0 dX7_account_187 rfl rfl rfl ?_
    refine x_getf (v := .ref (g.2 0 + 1)) 0 191 C0 dX7_account_188 rfl hC.1.1 rfl (by decide) inX7 mF_X7_10 rfl ?_
    refine x_callV 194 C0 (k_X4_shipRoom l hl g _ _ _ _ _ hC.h0) dX7_account_191 rfl mC_X4_shipRoom mM_X7_189 mI_X4_shipRoom mV_X4_shipRoom mN_X4 yd_X4_shipRoom rfl rfl ⟨Nat.le_of_ble_eq_true rfl, Nat.le_of_ble_eq_true rfl⟩ (HR.ho hC.h0) rfl rfl rfl rfl (Nat.le_of_ble_eq_true rfl) ⟨Nat.le_of_ble_eq_true rfl, Nat.le_of_ble_eq_true rfl⟩ (fun _ _ _ q => False.elim q) (fun r w1 sz1 hz hP => ?_)
    obtain ⟨hr, rfl, rfl⟩ := hP
    obtain ⟨v7, rfl⟩ : ∃ v : Int32, r = some (.int v) := ⟨_, hr⟩
    have hr7 := hr
    refine x_st (st1 := [.int v7]) rfl ?_
    exact x_ireturn C0 dX7_account_194 rfl rfl (Nat.le_of_ble_eq_true rfl) (Nat.le_of_ble_eq_true rfl) ⟨⟨_, rfl⟩, xFr.rf, by omega, _, _, _, hC, (Or.inr (Or.inr (Or.inr (Or.inr (Or.inr (Or.inr (Or.inr (Or.inr (Or.inr (Or.inr (Or.inr (Or.inr (Or.inl ⟨v7, hs1, hr7, rfl, rfl, rfl, rfl⟩)))))))))))))⟩
  · refine x_tabIn 195 C0 dX7_account_1 (by omega) (by omega) (by rw [hs1]; rfl) (by decide) ?_
    refine x_aload_n 0 196 C0 dX7_account_195 rfl rfl rfl ?_
    refine x_getf (v := .ref (g.2 0 + 1)) 0 199 C0 dX7_account_196 rfl hC.1.1 rfl (by decide) inX7 mF_X7_10 rfl ?_
    refine x_getf (v := .int (x 0 9)) 8 202 C0 dX7_account_199 rfl (HR.ho hC.h0) rfl (by decide) inX4 mF_X7_249 rfl ?_
    exact x_ireturn C0 dX7_account_202 rfl rfl (Nat.le_of_ble_eq_true rfl) (Nat.le_of_ble_eq_true rfl) ⟨⟨_, rfl⟩, xFr.rf, by omega, _, _, _, hC, (Or.inr (Or.inr (Or.inr (Or.inr (Or.inr (Or.inr (Or.inr (Or.inr (Or.inr (Or.inr (Or.inr (Or.inr (Or.inr (Or.inl ⟨hs1, rfl, rfl, rfl, rfl⟩))))))))))))))⟩
  · refine x_tabIn 203 C0 dX7_account_1 (by omega) (by omega) (by rw [hs1]; rfl) (by decide) ?_
    refine x_aload_n 0 204 C0 dX7_account_203 rfl rfl rfl ?_
    refine x_getf (v := .ref (g.2 0 + 1)) 0 207 C0 dX7_account_204 rfl hC.1.1 rfl (by decide) inX7 mF_X7_10 rfl ?_
    refine x_getf (v := .int (x 0 4)) 7 210 C0 dX7_account_207 rfl (HR.ho hC.h0) rfl (by decide) inX4 mF_X7_252 rfl ?_
    exact x_ireturn C0 dX7_account_210 rfl rfl (Nat.le_of_ble_eq_true rfl) (Nat.le_of_ble_eq_true rfl) ⟨⟨_, rfl⟩, xFr.rf, by omega, _, _, _, hC, (Or.inr (Or.inr (Or.inr (Or.inr (Or.inr (Or.inr (Or.inr (Or.inr (Or.inr (Or.inr (Or.inr (Or.inr (Or.inr (Or.inr (Or.inl ⟨hs1, rfl, rfl, rfl, rfl⟩)))))))))))))))⟩
  · refine x_tabIn 211 C0 dX7_account_1 (by omega) (by omega) (by rw [hs1]; rfl) (by decide) ?_
    refine x_aload_n 0 212 C0 dX7_account_211 rfl rfl rfl ?_
    refine x_getf (v := .ref (g.2 0 + 1)) 0 215 C0 dX7_account_212 rfl hC.1.1 rfl (by decide) inX7 mF_X7_10 rfl ?_
    refine x_getf (v := .int (x 0 5)) 6 218 C0 dX7_account_215 rfl (HR.ho hC.h0) rfl (by decide) inX4 mF_X7_204 rfl ?_
    exact x_ireturn C0 dX7_account_218 rfl rfl (Nat.le_of_ble_eq_true rfl) (Nat.le_of_ble_eq_true rfl) ⟨⟨_, rfl⟩, xFr.rf, by omega, _, _, _, hC, (Or.inr (Or.inr (Or.inr (Or.inr (Or.inr (Or.inr (Or.inr (Or.inr (Or.inr (Or.inr (Or.inr (Or.inr (Or.inr (Or.inr (Or.inr (Or.inl ⟨hs1, rfl, rfl, rfl, rfl⟩))))))))))))))))⟩
  · refine x_tabIn 219 C0 dX7_account_1 (by omega) (by omega) (by rw [hs1]; rfl) (by decide) ?_
    refine x_aload_n 0 220 C0 dX7_account_219 rfl rfl rfl ?_
    refine x_getf (v := .ref (g.2 0 + 256)) 4 223 C0 dX7_account_220 rfl hC.1.1 rfl (by decide) inX7 mF_X7_33 rfl ?_
    refine x_getf (v := .int (tt 0)) 1 226 C0 dX7_account_223 rfl hC.1.2.2.2.1 rfl (by decide) inX2 mF_X7_254 rfl ?_
    refine x_st (st1 := [.int (nI n)]) (by rw [hC.2.2.1.1]) ?_
    exact x_ireturn C0 dX7_account_226 rfl rfl (Nat.le_of_ble_eq_true rfl) (Nat.le_of_ble_eq_true rfl) ⟨⟨_, rfl⟩, xFr.rf, by omega, _, _, _, hC, (Or.inr (Or.inr (Or.inr (Or.inr (Or.inr (Or.inr (Or.inr (Or.inr (Or.inr (Or.inr (Or.inr (Or.inr (Or.inr (Or.inr (Or.inr (Or.inr (Or.inl ⟨hs1, rfl, rfl, rfl, rfl⟩)))))))))))))))))⟩
  · refine x_tabIn 227 C0 dX7_account_1 (by omega) (by omega) (by rw [hs1]; rfl) (by decide) ?_
    refine x_aload_n 0 228 C0 dX7_account_227 rfl rfl rfl ?_
    refine x_getf (v := .ref (g.2 0 + 47)) 3 231 C0 dX7_account_228 rfl hC.1.1 rfl (by decide) inX7 mF_X7_26 rfl ?_
    refine x_getf (v := .int (t 2)) 2 234 C0 dX7_account_231 rfl hC.1.2.1 rfl (by decide) inX3 mF_X7_256 rfl ?_
    exact x_ireturn C0 dX7_account_234 rfl rfl (Nat.le_of_ble_eq_true rfl) (Nat.le_of_ble_eq_true rfl) ⟨⟨_, rfl⟩, xFr.rf, by omega, _, _, _, hC, (Or.inr (Or.inr (Or.inr (Or.inr (Or.inr (Or.inr (Or.inr (Or.inr (Or.inr (Or.inr (Or.inr (Or.inr (Or.inr (Or.inr (Or.inr (Or.inr (Or.inr (⟨hs1, rfl, rfl, rfl, rfl⟩))))))))))))))))))⟩

def L_X7_ranked (g : xg_T) (x : Nat → Nat → Int32) (la : Nat → Nat → Nat) (t : Nat → Int32) (pl : Int32) (r : Option Value) (x' : Nat → Nat → Int32) (la' : Nat → Nat → Nat) (t' : Nat → Int32) : Prop :=
  (∃ (v1 : Int32), (some (Value.int v1) = some (Value.int (firstN (x 0) pl 20 0))) ∧ (0 ≤ v1) ∧ (r = some (.int v1)) ∧ (x' = x) ∧ (la' = la) ∧ (t' = t))
def E_X7_ranked (g : xg_T) (x : Nat → Nat → Int32) (la : Nat → Nat → Nat) (t : Nat → Int32) (pl : Int32) (E : String) (x' : Nat → Nat → Int32) (la' : Nat → Nat → Nat) (t' : Nat → Int32) : Prop :=
  (∃ (v1 : Int32), (some (Value.int v1) = some (Value.int (firstN (x 0) pl 20 0))) ∧ (¬ (0 ≤ v1)) ∧ (E = "java/util/NoSuchElementException") ∧ (x' = x) ∧ (la' = la) ∧ (t' = t))
set_option maxHeartbeats 4000000 in
set_option maxRecDepth 100000 in
theorem e_X7_ranked (l : Launch) (hl : l.stackTraces = false) (g : xg_T) (w : xw_T) (sz n : Nat) (x : Nat → Nat → Int32) (la : Nat → Nat → Nat) (t tt : Nat → Int32) (vb : Option Nat) (sg : Nat → Int32) (hC : CR g w sz n x la t tt vb sg) (pl : Int32) : xM l g yX7_ranked cX7_ranked 3 (some .int) ({ frames := 6, cells := 8, slots := 64, locals := 92 }) 8 64 [.ref (g.2 0), .int pl] w sz (cQ g w sz n tt vb sg (fun r x' la' t' => L_X7_ranked g x la t pl r x' la' t')) (cE g w sz n tt vb sg (fun E x' la' t' => E_X7_ranked g x la t pl E x' la' t')) := by
  have hz9 := hC.zz
  refine xM.of RX7 hl (by decide +kernel) rfl (Nat.le_of_ble_eq_true rfl) rfl ?_
  intro p e s m args below meth cD C0 hini
  refine x_aload_n 0 1 C0 dX7_ranked_0 rfl rfl rfl ?_
  refine x_getf (v := .ref (g.2 0 + 1)) 0 4 C0 dX7_ranked_1 rfl hC.1.1 rfl (by decide) inX7 mF_X7_10 rfl ?_
  refine x_iload_n 1 5 C0 dX7_ranked_4 rfl rfl rfl ?_
  refine x_callV 8 C0 (k_X4_chestAtPlace l hl g _ _ _ _ _ hC.h0 pl) dX7_ranked_5 rfl mC_X4_chestAtPlace mM_X7_174 mI_X4_chestAtPlace mV_X4_chestAtPlace mN_X4 yd_X4_chestAtPlace rfl rfl ⟨Nat.le_of_ble_eq_true rfl, Nat.le_of_ble_eq_true rfl⟩ (HR.ho hC.h0) rfl rfl rfl rfl (Nat.le_of_ble_eq_true rfl) ⟨Nat.le_of_ble_eq_true rfl, Nat.le_of_ble_eq_true rfl⟩ (fun _ _ _ q => False.elim q) (fun r w1 sz1 hz hP => ?_)
  obtain ⟨hr, rfl, rfl⟩ := hP
  obtain ⟨v1, rfl⟩ : ∃ v : Int32, r = some (.int v) := ⟨_, hr⟩
  have hr1 := hr
  refine x_st (st1 := [.int v1]) rfl ?_
  refine x_istore_n [(2, .int v1), (0, .ref (g.2 0)), (1, .int pl)] 9 C0 dX7_ranked_8 rfl rfl (by decide) rfl ?_
  refine x_lv (lv1 := [(0, .ref (g.2 0)), (1, .int pl), (2, .int v1)]) [1, 2, 0] rfl ?_
  refine x_iload_n 2 10 C0 dX7_ranked_9 rfl rfl rfl ?_
  refine x_if_ge 23 13 C0 dX7_ranked_10 rfl (by decide) (fun c2 => ?_) (fun c2 => ?_)
  · have c2' := Int32.not_lt.mpr c2
    refine x_iload_n 2 24 C0 dX7_ranked_23 rfl rfl rfl ?_
    exact x_ireturn C0 dX7_ranked_24 rfl rfl (Nat.le_of_ble_eq_true rfl) (Nat.le_of_ble_eq_true rfl) ⟨⟨_, rfl⟩, xFr.rf, by omega, _, _, _, hC, ⟨v1, hr1, c2, rfl, rfl, rfl, rfl⟩⟩
  · have c2' := Int32.not_le.mp c2
    exact x_throwN C0 dX7_ranked_13 dX7_ranked_16 dX7_ranked_17 dX7_ranked_19 dX7_ranked_22 rfl rfl rfl rfl (by decide +kernel) mK_X7_137 mN_NoSuchElementException (xs_ldc C0.2.2.2.2.2.2.2.1.2.2 (RX7, 178, "no such place", 142) (by decide +kernel)) (xhat C0 xg_nse xh_nse (by decide +kernel)) xo_nse (xs_us C0.2.2.2.2.2.2.2.1.2.2) (xs_su C0.2.2.2.2.2.2.2.1.2.2) rfl (Nat.le_of_ble_eq_true rfl) (Nat.le_of_ble_eq_true rfl) (Nat.le_of_ble_eq_true rfl) (Nat.le_of_ble_eq_true rfl) (Nat.le_of_ble_eq_true rfl) (Nat.le_of_ble_eq_true rfl) (fun sz9 h9 => ⟨xFr.rf, by omega, _, _, _, hC.grow h9, ⟨v1, hr1, c2, rfl, rfl, rfl, rfl⟩⟩)

def L9_X7_screw (g : xg_T) (x : Nat → Nat → Int32) (la : Nat → Nat → Nat) (t : Nat → Int32) (cn : Int32) (mn : Int32) (r : Option Value) (x' : Nat → Nat → Int32) (la' : Nat → Nat → Nat) (t' : Nat → Int32) : Prop :=
  (∃ (k : Nat) (x1 : Nat → Nat → Int32) (la1 : Nat → Nat → Nat) (x3 : Nat → Nat → Int32) (x2 : Nat → Int32) (la3 : Nat → Nat → Nat) (b2 : Int32) (t4 : Nat → Int32) (v5 : Int32), (cn = nI k) ∧ (nI k < x 0 3) ∧ (k < 20) ∧ (1 ≤ mn ∧ mn ≤ 8) ∧ (∃ j : Nat, j < 9 ∧ (∀ c : Nat, c < 2 ^ 31 → t 1 = nI c → j = c % 9) ∧ x1 = va_up x (j + 2) (cpX (x (j + 2)) (x 0)) ∧ la1 = va_up la (j + 2) (la 0)) ∧ (x3 = va_up x1 0 x2) ∧ (la3 = va_up la1 0 (la1 0)) ∧ (tri (screwOk (x1 0) k mn) (screwX (x1 0) k mn) (x1 0) x2 (some (.int b2))) ∧ (¬ b2 = 0) ∧ (t4 = upd (upd t 1 (t 1 + 1)) 2 (if t 2 + 1 < 8 then t 2 + 1 else 8)) ∧ (some (Value.int v5) = some (Value.int (bi (cTight (row (x3 0) k))))) ∧ (r = some (.int v5)) ∧ (x' = x3) ∧ (la' = la3) ∧ (t' = t4))
def E9_X7_screw (g : xg_T) (x : Nat → Nat → Int32) (la : Nat → Nat → Nat) (t : Nat → Int32) (cn : Int32) (mn : Int32) (E : String) (x' : Nat → Nat → Int32) (la' : Nat → Nat → Nat) (t' : Nat → Int32) : Prop :=
  ((E = "java/lang/IndexOutOfBoundsException") ∧ (¬ (0 ≤ cn ∧ cn < x 0 3 ∧ cn < 20)) ∧ (x' = x) ∧ (la' = la) ∧ (t' = t)) ∨
  (∃ (k : Nat), (cn = nI k) ∧ (nI k < x 0 3) ∧ (k < 20) ∧ (E = "java/lang/IllegalArgumentException") ∧ (¬ (1 ≤ mn ∧ mn ≤ 8)) ∧ (x' = x) ∧ (la' = la) ∧ (t' = t)) ∨
  (∃ (k : Nat) (x1 : Nat → Nat → Int32) (la1 : Nat → Nat → Nat) (x3 : Nat → Nat → Int32) (x2 : Nat → Int32) (la3 : Nat → Nat → Nat) (b2 : Int32), (cn = nI k) ∧ (nI k < x 0 3) ∧ (k < 20) ∧ (1 ≤ mn ∧ mn ≤ 8) ∧ (∃ j : Nat, j < 9 ∧ (∀ c : Nat, c < 2 ^ 31 → t 1 = nI c → j = c % 9) ∧ x1 = va_up x (j + 2) (cpX (x (j + 2)) (x 0)) ∧ la1 = va_up la (j + 2) (la 0)) ∧ (x3 = va_up x1 0 x2) ∧ (la3 = va_up la1 0 (la1 0)) ∧ (tri (screwOk (x1 0) k mn) (screwX (x1 0) k mn) (x1 0) x2 (some (.int b2))) ∧ (E = "java/lang/UnsupportedOperationException") ∧ (b2 = 0) ∧ (x' = x3) ∧ (la' = la3) ∧ (t' = t))
set_option maxHeartbeats 4000000 in
set_option maxRecDepth 100000 in
theorem e9_X7_screw (l : Launch) (hl : l.stackTraces = false) (g : xg_T) (w : xw_T) (sz n : Nat) (x : Nat → Nat → Int32) (la : Nat → Nat → Nat) (t tt : Nat → Int32) (vb : Option Nat) (sg : Nat → Int32) (hC : CR g w sz n x la t tt vb sg) (cn : Int32) (mn : Int32) : xM l g yX7_screw cX7_screw 4 (some .boolean) ({ frames := 7, cells := 8, slots := 64, locals := 104 }) 8 64 [.ref (g.2 0), .int cn, .int mn] w sz (cQ g w sz n tt vb sg (fun r x' la' t' => L9_X7_screw g x la t cn mn r x' la' t')) (cE g w sz n tt vb sg (fun E x' la' t' => E9_X7_screw g x la t cn mn E x' la' t')) := by
  have hz9 := hC.zz
  refine xM.of RX7 hl (by decide +kernel) rfl (Nat.le_of_ble_eq_true rfl) rfl ?_
  intro p e s m args below meth cD C0 hini
  refine x_aload_n 0 1 C0 dX7_screw_0 rfl rfl rfl ?_
  refine x_iload_n 1 2 C0 dX7_screw_1 rfl rfl rfl ?_
  refine x_callV 5 C0 (k_X7_needChest l hl g _ _ _ x la t tt vb sg hC cn) dX7_screw_2 rfl mC_X7_needChest mM_X7_89 mI_X7_needChest mV_X7_needChest mN_X7 yd_X7_needChest rfl rfl ⟨Nat.le_of_ble_eq_true rfl, Nat.le_of_ble_eq_true rfl⟩ hC.1.1 rfl rfl rfl rfl (Nat.le_of_ble_eq_true rfl) ⟨Nat.le_of_ble_eq_true rfl, Nat.le_of_ble_eq_true rfl⟩ (fun E9 w9 sz9 q => by obtain ⟨rfl, rfl, h9, hno9⟩ := q; exact x_out C0 rfl (Nat.le_of_ble_eq_true rfl) (Nat.le_of_ble_eq_true rfl) ⟨xFr.rf, by omega, _, _, _, hC.grow h9, (Or.inl ⟨rfl, hno9, rfl, rfl, rfl⟩)⟩) (fun r w1 sz1 hz hP => ?_)
  obtain ⟨⟨k, hk, hm, rfl, hnk⟩, rfl, rfl⟩ := hP
  have hm0 := hm
  refine x_st (st1 := [.ref (g.2 0 + 1 + 3 + k)]) rfl ?_
  refine x_astore_n [(3, .ref (g.2 0 + 1 + 3 + k)), (0, .ref (g.2 0)), (1, .int cn), (2, .int mn)] 6 C0 dX7_screw_5 rfl rfl (by decide) rfl ?_
  refine x_lv (lv1 := [(0, .ref (g.2 0)), (1, .int cn), (2, .int mn), (3, .ref (g.2 0 + 1 + 3 + k))]) [1, 2, 3, 0] rfl ?_
  refine x_iload_n 2 7 C0 dX7_screw_6 rfl rfl rfl ?_
  refine x_iconst (v := 1) 8 C0 dX7_screw_7 rfl (by decide) ?_
  refine x_bipush (v := 8) 10 C0 dX7_screw_8 rfl (by decide) ?_
  refine x_callS 13 C0 (k_X7_needRange l hl g _ _ mn 1 8) dX7_screw_10 rfl mC_X7_needRange mM_X7_41 mS_X7_needRange mN_X7 yd_X7_needRange rfl rfl ⟨Nat.le_of_ble_eq_true rfl, Nat.le_of_ble_eq_true rfl⟩ rfl rfl (Nat.le_of_ble_eq_true rfl) ⟨Nat.le_of_ble_eq_true rfl, Nat.le_of_ble_eq_true rfl⟩ (fun E9 w9 sz9 q => by obtain ⟨rfl, rfl, h9, hno9⟩ := q; exact x_out C0 rfl (Nat.le_of_ble_eq_true rfl) (Nat.le_of_ble_eq_true rfl) ⟨xFr.rf, by omega, _, _, _, hC.grow h9, (Or.inr (Or.inl ⟨k, hnk, hm0, hk, rfl, hno9, rfl, rfl, rfl⟩))⟩) (fun r w1 sz1 hz hP => ?_)
  obtain ⟨rfl, h19, h59, rfl, rfl⟩ := hP
  refine x_st (st1 := []) rfl ?_
  refine x_aload_n 0 14 C0 dX7_screw_13 rfl rfl rfl ?_
  refine x_getf (v := .ref (g.2 0 + 47)) 3 17 C0 dX7_screw_14 rfl hC.1.1 rfl (by decide) inX7 mF_X7_26 rfl ?_
  refine x_aload_n 0 18 C0 dX7_screw_17 rfl rfl rfl ?_
  refine x_getf (v := .ref (g.2 0 + 1)) 0 21 C0 dX7_screw_18 rfl hC.1.1 rfl (by decide) inX7 mF_X7_10 rfl ?_
  refine x_callV 24 C0 (k_X3_prepare l hl g _ _ _ x la t tt vb sg hC) dX7_screw_21 rfl mC_X3_prepare mM_X7_45 mI_X3_prepare mV_X3_prepare mN_X3 yd_X3_prepare rfl rfl ⟨Nat.le_of_ble_eq_true rfl, Nat.le_of_ble_eq_true rfl⟩ hC.1.2.1 rfl rfl rfl rfl (Nat.le_of_ble_eq_true rfl) ⟨Nat.le_of_ble_eq_true rfl, Nat.le_of_ble_eq_true rfl⟩ (fun _ _ _ q => False.elim q) (fun r w1 sz1 hz hP => ?_)
  obtain ⟨wv1, hwv1⟩ : ∃ z, z = w1 := ⟨_, rfl⟩
  obtain ⟨rfl, x1, la1, hC1, hx1, hl1, hG1, rfl, hXX1⟩ := hP
  refine x_w hwv1.symm ?_
  rw [← hwv1] at hC1 hG1
  have hF1 : xFr g w wv1 sz := xFr.tr (sz1 := sz) xFr.rf hG1 (by omega)
  refine x_st (st1 := []) rfl ?_
  have hm : nI k < x1 0 3 := by rw [hx1]; exact hm
  refine x_aload_n 0 25 C0 dX7_screw_24 rfl rfl rfl ?_
  refine x_aload_n 0 26 C0 dX7_screw_25 rfl rfl rfl ?_
  refine x_getf (v := .ref (g.2 0 + 1)) 0 29 C0 dX7_screw_26 rfl hC1.1.1 rfl (by decide) inX7 mF_X7_10 rfl ?_
  refine x_aload_n 3 30 C0 dX7_screw_29 rfl rfl rfl ?_
  refine x_iload_n 2 31 C0 dX7_screw_30 rfl rfl rfl ?_
  refine x_callV 34 C0 (k_X4_tryScrew l hl g _ _ _ _ _ hC1.h0 (Nat.le_add_right _ _) k hk mn) dX7_screw_31 rfl mC_X4_tryScrew mM_X7_113 mI_X4_tryScrew mV_X4_tryScrew mN_X4 yd_X4_tryScrew rfl rfl ⟨Nat.le_of_ble_eq_true rfl, Nat.le_of_ble_eq_true rfl⟩ (HR.ho hC1.h0) rfl rfl rfl rfl (Nat.le_of_ble_eq_true rfl) ⟨Nat.le_of_ble_eq_true rfl, Nat.le_of_ble_eq_true rfl⟩ (fun _ _ _ q => False.elim q) (fun r w1 sz1 hz hP => ?_)
  obtain ⟨rfl, x2, hw2, hQ2⟩ := hP
  obtain ⟨hk2, b2, rfl, hb2⟩ := hQ2.ok (fun q => hC1.k0.screw hk) hC1.k0
  obtain ⟨wv2, hwv2⟩ : ∃ z, z = w1 := ⟨_, rfl⟩
  refine x_w hwv2.symm ?_
  rw [← hwv2] at hw2
  obtain ⟨x3, la3, hx3, hla3, hC3⟩ : ∃ x3 la3, x3 = va_up x1 0 x2 ∧ la3 = va_up la1 0 (la1 0) ∧ CR g wv2 sz n x3 la3 t tt vb sg := ⟨_, _, rfl, rfl, by rw [hw2]; exact hC1.set0 hk2 hC1.l0⟩
  have hF3 : xFr g w wv2 sz := xFr.tr (sz1 := sz) hF1 (by rw [hw2]; exact xFr.hw (by omega)) (by omega)
  refine x_st (st1 := [.int b2, .ref (g.2 0)]) rfl ?_
  refine x_callV 37 C0 (k_X7_conclude l hl g _ _ _ x3 la3 t tt vb sg hC3 b2) dX7_screw_34 rfl mC_X7_conclude mM_X7_53 mI_X7_conclude mV_X7_conclude mN_X7 yd_X7_conclude rfl rfl ⟨Nat.le_of_ble_eq_true rfl, Nat.le_of_ble_eq_true rfl⟩ hC3.1.1 rfl rfl rfl rfl (Nat.le_of_ble_eq_true rfl) ⟨Nat.le_of_ble_eq_true rfl, Nat.le_of_ble_eq_true rfl⟩ (fun E9 w9 sz9 q => by obtain ⟨rfl, rfl, h9, hno9⟩ := q; exact x_out C0 rfl (Nat.le_of_ble_eq_true rfl) (Nat.le_of_ble_eq_true rfl) ⟨hF3, by omega, _, _, _, hC3.grow h9, (Or.inr (Or.inr (⟨k, x1, la1, x3, x2, la3, b2, hnk, hm0, hk, ⟨h19, h59⟩, hXX1, hx3, hla3, hQ2, rfl, hno9, rfl, rfl, rfl⟩)))⟩) (fun r w1 sz1 hz hP => ?_)
  obtain ⟨wv4, hwv4⟩ : ∃ z, z = w1 := ⟨_, rfl⟩
  obtain ⟨rfl, t4, hC4, hG4, rfl, hb94, ht94⟩ := hP
  refine x_w hwv4.symm ?_
  rw [← hwv4] at hC4 hG4
  have hF4 : xFr g w wv4 sz := xFr.tr (sz1 := sz) hF3 hG4 (by omega)
  refine x_st (st1 := []) rfl ?_
  refine x_aload_n 3 38 C0 dX7_screw_37 rfl rfl rfl ?_
  refine x_callV 41 C0 (k_X1_isTight l hl g _ _ _ _ _ _ (HR.c hC4.h0 hk)) dX7_screw_38 rfl mC_X1_isTight mM_X7_117 mI_X1_isTight mV_X1_isTight mN_X1 yd_X1_isTight rfl rfl ⟨Nat.le_of_ble_eq_true rfl, Nat.le_of_ble_eq_true rfl⟩ (HR.c hC4.h0 hk) rfl rfl rfl rfl (Nat.le_of_ble_eq_true rfl) ⟨Nat.le_of_ble_eq_true rfl, Nat.le_of_ble_eq_true rfl⟩ (fun _ _ _ q => False.elim q) (fun r w1 sz1 hz hP => ?_)
  obtain ⟨hr, rfl, rfl⟩ := hP
  obtain ⟨v5, rfl, hv5⟩ : ∃ v : Int32, r = some (.int v) ∧ isB v := ⟨_, hr, isB_bi _⟩
  have hr5 := hr
  refine x_st (st1 := [.int v5]) rfl ?_
  exact x_ireturn C0 dX7_screw_41 rfl (hv5.nar) (Nat.le_of_ble_eq_true rfl) (Nat.le_of_ble_eq_true rfl) ⟨⟨_, rfl⟩, hF4, by omega, _, _, _, hC4, ⟨k, x1, la1, x3, x2, la3, b2, t4, v5, hnk, hm0, hk, ⟨h19, h59⟩, hXX1, hx3, hla3, hQ2, hb94, ht94, hr5, rfl, rfl, rfl, rfl⟩⟩

def L9_X7_fill (g : xg_T) (x : Nat → Nat → Int32) (la : Nat → Nat → Nat) (t : Nat → Int32) (cn : Int32) (ga : Int32) (ki : Int32) (po : Int32) (r : Option Value) (x' : Nat → Nat → Int32) (la' : Nat → Nat → Nat) (t' : Nat → Int32) : Prop :=
  (∃ (k : Nat) (x1 : Nat → Nat → Int32) (la1 : Nat → Nat → Nat) (x3 : Nat → Nat → Int32) (x2 : Nat → Int32) (la3 : Nat → Nat → Nat) (la2 : Nat → Nat) (b2 : Int32) (t4 : Nat → Int32) (v5 : Int32), (cn = nI k) ∧ (nI k < x 0 3) ∧ (k < 20) ∧ (isLeafB ga ki = true) ∧ (1 ≤ po ∧ po ≤ 50) ∧ (∃ j : Nat, j < 9 ∧ (∀ c : Nat, c < 2 ^ 31 → t 1 = nI c → j = c % 9) ∧ x1 = va_up x (j + 2) (cpX (x (j + 2)) (x 0)) ∧ la1 = va_up la (j + 2) (la 0)) ∧ (x3 = va_up x1 0 x2) ∧ (la3 = va_up la1 0 la2) ∧ ((fillOk (x1 0) k ga ki po ∧ some (Value.int b2) = some (Value.int 1) ∧ fillX (x1 0) k ga ki po = x2 ∧ va_up (la1 0) k (g.2 100) = la2) ∨ (¬ (fillOk (x1 0) k ga ki po) ∧ some (Value.int b2) = some (Value.int 0) ∧ refd (x1 0) x2 ∧ la1 0 = la2)) ∧ (¬ b2 = 0) ∧ (t4 = upd (upd t 1 (t 1 + 1)) 2 (if t 2 + 1 < 8 then t 2 + 1 else 8)) ∧ (some (Value.int v5) = some (Value.int (cRoom (row (x3 0) k)))) ∧ (r = some (.int v5)) ∧ (x' = x3) ∧ (la' = la3) ∧ (t' = t4))
def E9_X7_fill (g : xg_T) (x : Nat → Nat → Int32) (la : Nat → Nat → Nat) (t : Nat → Int32) (cn : Int32) (ga : Int32) (ki : Int32) (po : Int32) (E : String) (x' : Nat → Nat → Int32) (la' : Nat → Nat → Nat) (t' : Nat → Int32) : Prop :=
  ((E = "java/lang/IndexOutOfBoundsException") ∧ (¬ (0 ≤ cn ∧ cn < x 0 3 ∧ cn < 20)) ∧ (x' = x) ∧ (la' = la) ∧ (t' = t)) ∨
  (∃ (k : Nat), (cn = nI k) ∧ (nI k < x 0 3) ∧ (k < 20) ∧ (E = "java/lang/IndexOutOfBoundsException") ∧ (isLeafB ga ki = false) ∧ (x' = x) ∧ (la' = la) ∧ (t' = t)) ∨
  (∃ (k : Nat), (cn = nI k) ∧ (nI k < x 0 3) ∧ (k < 20) ∧ (isLeafB ga ki = true) ∧ (E = "java/lang/IllegalArgumentException") ∧ (¬ (1 ≤ po ∧ po ≤ 50)) ∧ (x' = x) ∧ (la' = la) ∧ (t' = t)) ∨
  (∃ (k : Nat) (x1 : Nat → Nat → Int32) (la1 : Nat → Nat → Nat) (x3 : Nat → Nat → Int32) (x2 : Nat → Int32) (la3 : Nat → Nat → Nat) (la2 : Nat → Nat) (b2 : Int32), (cn = nI k) ∧ (nI k < x 0 3) ∧ (k < 20) ∧ (isLeafB ga ki = true) ∧ (1 ≤ po ∧ po ≤ 50) ∧ (∃ j : Nat, j < 9 ∧ (∀ c : Nat, c < 2 ^ 31 → t 1 = nI c → j = c % 9) ∧ x1 = va_up x (j + 2) (cpX (x (j + 2)) (x 0)) ∧ la1 = va_up la (j + 2) (la 0)) ∧ (x3 = va_up x1 0 x2) ∧ (la3 = va_up la1 0 la2) ∧ ((fillOk (x1 0) k ga ki po ∧ some (Value.int b2) = some (Value.int 1) ∧ fillX (x1 0) k ga ki po = x2 ∧ va_up (la1 0) k (g.2 100) = la2) ∨ (¬ (fillOk (x1 0) k ga ki po) ∧ some (Value.int b2) = some (Value.int 0) ∧ refd (x1 0) x2 ∧ la1 0 = la2)) ∧ (E = "java/lang/UnsupportedOperationException") ∧ (b2 = 0) ∧ (x' = x3) ∧ (la' = la3) ∧ (t' = t))
set_option maxHeartbeats 4000000 in
set_option maxRecDepth 100000 in
theorem e9_X7_fill (l : Launch) (hl : l.stackTraces = false) (g : xg_T) (w : xw_T) (sz n : Nat) (x : Nat → Nat → Int32) (la : Nat → Nat → Nat) (t tt : Nat → Int32) (vb : Option Nat) (sg : Nat → Int32) (hC : CR g w sz n x la t tt vb sg) (cn : Int32) (ga : Int32) (ki : Int32) (po : Int32) : xM l g yX7_fill cX7_fill 6 (some .int) ({ frames := 7, cells := 8, slots := 64, locals := 104 }) 8 64 [.ref (g.2 0), .int cn, .int ga, .int ki, .int po] w sz (cQ g w sz n tt vb sg (fun r x' la' t' => L9_X7_fill g x la t cn ga ki po r x' la' t')) (cE g w sz n tt vb sg (fun E x' la' t' => E9_X7_fill g x la t cn ga ki po E x' la' t')) := by
  have hz9 := hC.zz
  refine xM.of RX7 hl (by decide +kernel) rfl (Nat.le_of_ble_eq_true rfl) rfl ?_
  intro p e s m args below meth cD C0 hini
  refine x_aload_n 0 1 C0 dX7_fill_0 rfl rfl rfl ?_
  refine x_iload_n 1 2 C0 dX7_fill_1 rfl rfl rfl ?_
  refine x_callV 5 C0 (k_X7_needChest l hl g _ _ _ x la t tt vb sg hC cn) dX7_fill_2 rfl mC_X7_needChest mM_X7_89 mI_X7_needChest mV_X7_needChest mN_X7 yd_X7_needChest rfl rfl ⟨Nat.le_of_ble_eq_true rfl, Nat.le_of_ble_eq_true rfl⟩ hC.1.1 rfl rfl rfl rfl (Nat.le_of_ble_eq_true rfl) ⟨Nat.le_of_ble_eq_true rfl, Nat.le_of_ble_eq_true rfl⟩ (fun E9 w9 sz9 q => by obtain ⟨rfl, rfl, h9, hno9⟩ := q; exact x_out C0 rfl (Nat.le_of_ble_eq_true rfl) (Nat.le_of_ble_eq_true rfl) ⟨xFr.rf, by omega, _, _, _, hC.grow h9, (Or.inl ⟨rfl, hno9, rfl, rfl, rfl⟩)⟩) (fun r w1 sz1 hz hP => ?_)
  obtain ⟨⟨k, hk, hm, rfl, hnk⟩, rfl, rfl⟩ := hP
  have hm0 := hm
  refine x_st (st1 := [.ref (g.2 0 + 1 + 3 + k)]) rfl ?_
  refine x_astore [(5, .ref (g.2 0 + 1 + 3 + k)), (0, .ref (g.2 0)), (1, .int cn), (2, .int ga), (3, .int ki), (4, .int po)] 7 C0 dX7_fill_5 rfl (by decide) rfl ?_
  refine x_lv (lv1 := [(0, .ref (g.2 0)), (1, .int cn), (2, .int ga), (3, .int ki), (4, .int po), (5, .ref (g.2 0 + 1 + 3 + k))]) [1, 2, 3, 4, 5, 0] rfl ?_
  refine x_iload_n 2 8 C0 dX7_fill_7 rfl rfl rfl ?_
  refine x_iload_n 3 9 C0 dX7_fill_8 rfl rfl rfl ?_
  refine x_callS 12 C0 (k_X7_needLeaf l hl g _ _ ga ki) dX7_fill_9 rfl mC_X7_needLeaf mM_X7_37 mS_X7_needLeaf mN_X7 yd_X7_needLeaf rfl rfl ⟨Nat.le_of_ble_eq_true rfl, Nat.le_of_ble_eq_true rfl⟩ rfl rfl (Nat.le_of_ble_eq_true rfl) ⟨Nat.le_of_ble_eq_true rfl, Nat.le_of_ble_eq_true rfl⟩ (fun E9 w9 sz9 q => by obtain ⟨rfl, rfl, h9, hno9⟩ := q; exact x_out C0 rfl (Nat.le_of_ble_eq_true rfl) (Nat.le_of_ble_eq_true rfl) ⟨xFr.rf, by omega, _, _, _, hC.grow h9, (Or.inr (Or.inl ⟨k, hnk, hm0, hk, rfl, hno9, rfl, rfl, rfl⟩))⟩) (fun r w1 sz1 hz hP => ?_)
  obtain ⟨rfl, hB9, rfl, rfl⟩ := hP
  refine x_st (st1 := []) rfl ?_
  refine x_iload 4 14 C0 dX7_fill_12 rfl rfl ?_
  refine x_iconst (v := 1) 15 C0 dX7_fill_14 rfl (by decide) ?_
  refine x_bipush (v := 50) 17 C0 dX7_fill_15 rfl (by decide) ?_
  refine x_callS 20 C0 (k_X7_needRange l hl g _ _ po 1 50) dX7_fill_17 rfl mC_X7_needRange mM_X7_41 mS_X7_needRange mN_X7 yd_X7_needRange rfl rfl ⟨Nat.le_of_ble_eq_true rfl, Nat.le_of_ble_eq_true rfl⟩ rfl rfl (Nat.le_of_ble_eq_true rfl) ⟨Nat.le_of_ble_eq_true rfl, Nat.le_of_ble_eq_true rfl⟩ (fun E9 w9 sz9 q => by obtain ⟨rfl, rfl, h9, hno9⟩ := q; exact x_out C0 rfl (Nat.le_of_ble_eq_true rfl) (Nat.le_of_ble_eq_true rfl) ⟨xFr.rf, by omega, _, _, _, hC.grow h9, (Or.inr (Or.inr (Or.inl ⟨k, hnk, hm0, hk, hB9, rfl, hno9, rfl, rfl, rfl⟩)))⟩) (fun r w1 sz1 hz hP => ?_)
  obtain ⟨rfl, h19, h59, rfl, rfl⟩ := hP
  refine x_st (st1 := []) rfl ?_
  refine x_aload_n 0 21 C0 dX7_fill_20 rfl rfl rfl ?_
  refine x_getf (v := .ref (g.2 0 + 47)) 3 24 C0 dX7_fill_21 rfl hC.1.1 rfl (by decide) inX7 mF_X7_26 rfl ?_
  refine x_aload_n 0 25 C0 dX7_fill_24 rfl rfl rfl ?_
  refine x_getf (v := .ref (g.2 0 + 1)) 0 28 C0 dX7_fill_25 rfl hC.1.1 rfl (by decide) inX7 mF_X7_10 rfl ?_
  refine x_callV 31 C0 (k_X3_prepare l hl g _ _ _ x la t tt vb sg hC) dX7_fill_28 rfl mC_X3_prepare mM_X7_45 mI_X3_prepare mV_X3_prepare mN_X3 yd_X3_prepare rfl rfl ⟨Nat.le_of_ble_eq_true rfl, Nat.le_of_ble_eq_true rfl⟩ hC.1.2.1 rfl rfl rfl rfl (Nat.le_of_ble_eq_true rfl) ⟨Nat.le_of_ble_eq_true rfl, Nat.le_of_ble_eq_true rfl⟩ (fun _ _ _ q => False.elim q) (fun r w1 sz1 hz hP => ?_)
  obtain ⟨wv1, hwv1⟩ : ∃ z, z = w1 := ⟨_, rfl⟩
  obtain ⟨rfl, x1, la1, hC1, hx1, hl1, hG1, rfl, hXX1⟩ := hP
  refine x_w hwv1.symm ?_
  rw [← hwv1] at hC1 hG1
  have hF1 : xFr g w wv1 sz := xFr.tr (sz1 := sz) xFr.rf hG1 (by omega)
  refine x_st (st1 := []) rfl ?_
  have hm : nI k < x1 0 3 := by rw [hx1]; exact hm
  refine x_aload_n 0 32 C0 dX7_fill_31 rfl rfl rfl ?_
  refine x_aload_n 0 33 C0 dX7_fill_32 rfl rfl rfl ?_
  refine x_getf (v := .ref (g.2 0 + 1)) 0 36 C0 dX7_fill_33 rfl hC1.1.1 rfl (by decide) inX7 mF_X7_10 rfl ?_
  refine x_aload 5 38 C0 dX7_fill_36 rfl rfl ?_
  refine x_iload_n 2 39 C0 dX7_fill_38 rfl rfl rfl ?_
  refine x_iload_n 3 40 C0 dX7_fill_39 rfl rfl rfl ?_
  refine x_iload 4 42 C0 dX7_fill_40 rfl rfl ?_
  refine x_callV 45 C0 (k_X4_tryFill l hl g _ _ _ _ _ hC1.h0 (Nat.le_add_right _ _) k hk ga ki po) dX7_fill_42 rfl mC_X4_tryFill mM_X7_97 mI_X4_tryFill mV_X4_tryFill mN_X4 yd_X4_tryFill rfl rfl ⟨Nat.le_of_ble_eq_true rfl, Nat.le_of_ble_eq_true rfl⟩ (HR.ho hC1.h0) rfl rfl rfl rfl (Nat.le_of_ble_eq_true rfl) ⟨Nat.le_of_ble_eq_true rfl, Nat.le_of_ble_eq_true rfl⟩ (fun _ _ _ q => False.elim q) (fun r w1 sz1 hz hP => ?_)
  obtain ⟨rfl, x2, la2, hw2, hQ2⟩ := hP
  obtain ⟨hk2, hl2, b2, rfl, hb2⟩ : hok x2 ∧ lok g wv1 sz la2 ∧ ∃ b : Int32, r = some (.int b) ∧ isB b := by
    rcases hQ2 with ⟨q, q2, rfl, rfl⟩ | ⟨-, q2, q3, rfl⟩
    · exact ⟨hC1.k0.fill hk hm hB9 h19 h59 q, hC1.l0.blank, 1, q2, Or.inr rfl⟩
    · exact ⟨hC1.k0.refu q3, hC1.l0, 0, q2, Or.inl rfl⟩
  obtain ⟨wv2, hwv2⟩ : ∃ z, z = w1 := ⟨_, rfl⟩
  refine x_w hwv2.symm ?_
  rw [← hwv2] at hw2
  obtain ⟨x3, la3, hx3, hla3, hC3⟩ : ∃ x3 la3, x3 = va_up x1 0 x2 ∧ la3 = va_up la1 0 la2 ∧ CR g wv2 sz n x3 la3 t tt vb sg := ⟨_, _, rfl, rfl, by rw [hw2]; exact hC1.set0 hk2 hl2⟩
  have hF3 : xFr g w wv2 sz := xFr.tr (sz1 := sz) hF1 (by rw [hw2]; exact xFr.hw (by omega)) (by omega)
  refine x_st (st1 := [.int b2, .ref (g.2 0)]) rfl ?_
  refine x_callV 48 C0 (k_X7_conclude l hl g _ _ _ x3 la3 t tt vb sg hC3 b2) dX7_fill_45 rfl mC_X7_conclude mM_X7_53 mI_X7_conclude mV_X7_conclude mN_X7 yd_X7_conclude rfl rfl ⟨Nat.le_of_ble_eq_true rfl, Nat.le_of_ble_eq_true rfl⟩ hC3.1.1 rfl rfl rfl rfl (Nat.le_of_ble_eq_true rfl) ⟨Nat.le_of_ble_eq_true rfl, Nat.le_of_ble_eq_true rfl⟩ (fun E9 w9 sz9 q => by obtain ⟨rfl, rfl, h9, hno9⟩ := q; exact x_out C0 rfl (Nat.le_of_ble_eq_true rfl) (Nat.le_of_ble_eq_true rfl) ⟨hF3, by omega, _, _, _, hC3.grow h9, (Or.inr (Or.inr (Or.inr (⟨k, x1, la1, x3, x2, la3, la2, b2, hnk, hm0, hk, hB9, ⟨h19, h59⟩, hXX1, hx3, hla3, hQ2, rfl, hno9, rfl, rfl, rfl⟩))))⟩) (fun r w1 sz1 hz hP => ?_)
  obtain ⟨wv4, hwv4⟩ : ∃ z, z = w1 := ⟨_, rfl⟩
  obtain ⟨rfl, t4, hC4, hG4, rfl, hb94, ht94⟩ := hP
  refine x_w hwv4.symm ?_
  rw [← hwv4] at hC4 hG4
  have hF4 : xFr g w wv4 sz := xFr.tr (sz1 := sz) hF3 hG4 (by omega)
  refine x_st (st1 := []) rfl ?_
  refine x_aload 5 50 C0 dX7_fill_48 rfl rfl ?_
  refine x_callV 53 C0 (k_X1_room l hl g _ _ _ _ _ _ (HR.c hC4.h0 hk)) dX7_fill_50 rfl mC_X1_room mM_X7_101 mI_X1_room mV_X1_room mN_X1 yd_X1_room rfl rfl ⟨Nat.le_of_ble_eq_true rfl, Nat.le_of_ble_eq_true rfl⟩ (HR.c hC4.h0 hk) rfl rfl rfl rfl (Nat.le_of_ble_eq_true rfl) ⟨Nat.le_of_ble_eq_true rfl, Nat.le_of_ble_eq_true rfl⟩ (fun _ _ _ q => False.elim q) (fun r w1 sz1 hz hP => ?_)
  obtain ⟨hr, rfl, rfl⟩ := hP
  obtain ⟨v5, rfl⟩ : ∃ v : Int32, r = some (.int v) := ⟨_, hr⟩
  have hr5 := hr
  refine x_st (st1 := [.int v5]) rfl ?_
  exact x_ireturn C0 dX7_fill_53 rfl rfl (Nat.le_of_ble_eq_true rfl) (Nat.le_of_ble_eq_true rfl) ⟨⟨_, rfl⟩, hF4, by omega, _, _, _, hC4, ⟨k, x1, la1, x3, x2, la3, la2, b2, t4, v5, hnk, hm0, hk, hB9, ⟨h19, h59⟩, hXX1, hx3, hla3, hQ2, hb94, ht94, hr5, rfl, rfl, rfl, rfl⟩⟩

