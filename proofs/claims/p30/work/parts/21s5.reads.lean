/-! THE CLASS'S READS, EXACTLY -/
def L_X7_account (g : xg_T) (x : Nat → Nat → Int32) (la : Nat → Nat → Nat) (t : Nat → Int32) (wh : Int32) (n : Nat) (r : Option Value) (x' : Nat → Nat → Int32) (la' : Nat → Nat → Nat) (t' : Nat → Int32) : Prop :=
  ((wh.toInt = 0) ∧ (r = some (.int (x 0 0))) ∧ (x' = x) ∧ (la' = la) ∧ (t' = t)) ∨
  (∃ (v2 : Int32), (wh.toInt = 1) ∧ (some (Value.int v2) = some (Value.int (sAll (x 0)))) ∧ (r = some (.int v2)) ∧ (x' = x) ∧ (la' = la) ∧ (t' = t)) ∨
  (∃ (v3 : Int32), (wh.toInt = 2) ∧ (some (Value.int v3) = some (Value.int (packedN (x 0) 20))) ∧ (r = some (.int v3)) ∧ (x' = x) ∧ (la' = la) ∧ (t' = t)) ∨
  ((wh.toInt = 3) ∧ (r = some (.int (x 0 7))) ∧ (x' = x) ∧ (la' = la) ∧ (t' = t)) ∨
  ((wh.toInt = 4) ∧ (r = some (.int (x 0 8))) ∧ (x' = x) ∧ (la' = la) ∧ (t' = t)) ∨
  ((wh.toInt = 5) ∧ (r = some (.int (x 0 6))) ∧ (x' = x) ∧ (la' = la) ∧ (t' = t)) ∨
  ((wh.toInt = 6) ∧ (r = some (.int (x 0 1))) ∧ (x' = x) ∧ (la' = la) ∧ (t' = t)) ∨
  ((wh.toInt = 7) ∧ (r = some (.int (x 0 2))) ∧ (x' = x) ∧ (la' = la) ∧ (t' = t)) ∨
  ((wh.toInt = 8) ∧ (r = some (.int (x 0 3))) ∧ (x' = x) ∧ (la' = la) ∧ (t' = t)) ∨
  (∃ (v4 : Int32), (wh.toInt = 9) ∧ (some (Value.int v4) = some (Value.int (nAt (x 0) 0 20))) ∧ (r = some (.int v4)) ∧ (x' = x) ∧ (la' = la) ∧ (t' = t)) ∨
  (∃ (v5 : Int32), (wh.toInt = 10) ∧ (some (Value.int v5) = some (Value.int (nAt (x 0) 1 20))) ∧ (r = some (.int v5)) ∧ (x' = x) ∧ (la' = la) ∧ (t' = t)) ∨
  (∃ (v6 : Int32), (wh.toInt = 11) ∧ (some (Value.int v6) = some (Value.int (nAt (x 0) 2 20))) ∧ (r = some (.int v6)) ∧ (x' = x) ∧ (la' = la) ∧ (t' = t)) ∨
  (∃ (v7 : Int32), (wh.toInt = 12) ∧ (some (Value.int v7) = some (Value.int (hRoom (x 0) 20))) ∧ (r = some (.int v7)) ∧ (x' = x) ∧ (la' = la) ∧ (t' = t)) ∨
  ((wh.toInt = 13) ∧ (r = some (.int (x 0 9))) ∧ (x' = x) ∧ (la' = la) ∧ (t' = t)) ∨
  ((wh.toInt = 14) ∧ (r = some (.int (x 0 4))) ∧ (x' = x) ∧ (la' = la) ∧ (t' = t)) ∨
  ((wh.toInt = 15) ∧ (r = some (.int (x 0 5))) ∧ (x' = x) ∧ (la' = la) ∧ (t' = t)) ∨
  ((wh.toInt = 16) ∧ (r = some (.int (nI n))) ∧ (x' = x) ∧ (la' = la) ∧ (t' = t)) ∨
  ((wh.toInt = 17) ∧ (r = some (.int (t 2))) ∧ (x' = x) ∧ (la' = la) ∧ (t' = t))
def E_X7_account (g : xg_T) (x : Nat → Nat → Int32) (la : Nat → Nat → Nat) (t : Nat → Int32) (wh : Int32) (n : Nat) (E : String) (x' : Nat → Nat → Int32) (la' : Nat → Nat → Nat) (t' : Nat → Int32) : Prop :=
  ((wh.toInt < 0 ∨ 17 < wh.toInt) ∧ (E = "java/lang/IllegalArgumentException") ∧ (x' = x) ∧ (la' = la) ∧ (t' = t))
set_option maxHeartbeats 4000000 in
set_option maxRecDepth 100000 in
theorem e_X7_account (l : Launch) (hl : l.stackTraces = false) (g : xg_T) (w : xw_T) (sz n : Nat) (x : Nat → Nat → Int32) (la : Nat → Nat → Nat) (t tt : Nat → Int32) (vb : Option Nat) (sg : Nat → Int32) (hC : CR g w sz n x la t tt vb sg) (wh : Int32) : xM l g yX7_account cX7_account 2 (some .int) ({ frames := 6, cells := 8, slots := 64, locals := 88 }) 8 64 [.ref (g.2 0), .int wh] w sz (cQ g w sz n tt vb sg (fun r x' la' t' => L_X7_account g x la t wh n r x' la' t')) (cE g w sz n tt vb sg (fun E x' la' t' => E_X7_account g x la t wh n E x' la' t')) := by
  have hz9 := hC.zz
  refine xM.of RX7 hl (by decide +kernel) rfl (Nat.le_of_ble_eq_true rfl) rfl ?_
  intro p e s m args below meth cD C0 hini
  refine x_iload_n 1 1 C0 dX7_account_0 rfl rfl rfl ?_
  have hs1 : (wh.toInt < 0 ∨ 17 < wh.toInt) ∨ (wh.toInt = 0) ∨ (wh.toInt = 1) ∨ (wh.toInt = 2) ∨ (wh.toInt = 3) ∨ (wh.toInt = 4) ∨ (wh.toInt = 5) ∨ (wh.toInt = 6) ∨ (wh.toInt = 7) ∨ (wh.toInt = 8) ∨ (wh.toInt = 9) ∨ (wh.toInt = 10) ∨ (wh.toInt = 11) ∨ (wh.toInt = 12) ∨ (wh.toInt = 13) ∨ (wh.toInt = 14) ∨ (wh.toInt = 15) ∨ (wh.toInt = 16) ∨ (wh.toInt = 17) := by omega
  rcases hs1 with hs1 | hs1 | hs1 | hs1 | hs1 | hs1 | hs1 | hs1 | hs1 | hs1 | hs1 | hs1 | hs1 | hs1 | hs1 | hs1 | hs1 | hs1 | hs1
  · refine x_tabOut 235 C0 dX7_account_1 hs1 (by decide) ?_
    exact x_throwSW xNames C0 dX7_account_235 dX7_account_238 dX7_account_239 dX7_account_242 dX7_account_245 rfl rfl rfl rfl (by decide +kernel) (by decide +kernel) mK_X7_166 mN_IllegalArgumentException (xs_ldc C0.2.2.2.2.2.2.2.1.2.2 (RX7, 259, "no such account", 146) (by decide +kernel)) (xhat C0 xg_iae xh_iae (by decide +kernel)) xo_iae (xs_us C0.2.2.2.2.2.2.2.1.2.2) (xs_su C0.2.2.2.2.2.2.2.1.2.2) rfl (Nat.le_of_ble_eq_true rfl) (Nat.le_of_ble_eq_true rfl) (Nat.le_of_ble_eq_true rfl) (Nat.le_of_ble_eq_true rfl) (Nat.le_of_ble_eq_true rfl) (Nat.le_of_ble_eq_true rfl) (fun sz9 h9 => ⟨xFr.rf, by omega, _, _, _, hC.grow h9, ⟨hs1, rfl, rfl, rfl, rfl⟩⟩)
  · refine x_tabIn 88 C0 dX7_account_1 (by omega) (by omega) (by rw [hs1]; rfl) (by decide) ?_
    refine x_aload_n 0 89 C0 dX7_account_88 rfl rfl rfl ?_
    refine x_getf (v := .ref (g.2 0 + 1)) 0 92 C0 dX7_account_89 rfl hC.1.1 rfl (by decide) inX7 mF_X7_10 rfl ?_
    refine x_getf (v := .int (x 0 0)) 5 95 C0 dX7_account_92 rfl (HR.ho hC.h0) rfl (by decide) inX4 mF_X7_201 rfl ?_
    exact x_ireturn C0 dX7_account_95 rfl rfl (Nat.le_of_ble_eq_true rfl) (Nat.le_of_ble_eq_true rfl) ⟨⟨_, rfl⟩, xFr.rf, by omega, _, _, _, hC, (Or.inl ⟨hs1, rfl, rfl, rfl, rfl⟩)⟩
  · refine x_tabIn 96 C0 dX7_account_1 (by omega) (by omega) (by rw [hs1]; rfl) (by decide) ?_
    refine x_aload_n 0 97 C0 dX7_account_96 rfl rfl rfl ?_
    refine x_getf (v := .ref (g.2 0 + 1)) 0 100 C0 dX7_account_97 rfl hC.1.1 rfl (by decide) inX7 mF_X7_10 rfl ?_
    refine x_callV 103 C0 (k_X4_poundsStored l hl g _ _ _ _ _ hC.h0) dX7_account_100 rfl mC_X4_poundsStored mM_X7_210 mI_X4_poundsStored mV_X4_poundsStored mN_X4 yd_X4_poundsStored rfl rfl ⟨Nat.le_of_ble_eq_true rfl, Nat.le_of_ble_eq_true rfl⟩ (HR.ho hC.h0) rfl rfl rfl rfl (Nat.le_of_ble_eq_true rfl) ⟨Nat.le_of_ble_eq_true rfl, Nat.le_of_ble_eq_true rfl⟩ (fun _ _ _ q => False.elim q) (fun r w1 sz1 hz hP => ?_)
    obtain ⟨hr, rfl, rfl⟩ := hP
    obtain ⟨v2, rfl⟩ : ∃ v : Int32, r = some (.int v) := ⟨_, hr⟩
    have hr2 := hr
    refine x_st (st1 := [.int v2]) rfl ?_
    exact x_ireturn C0 dX7_account_103 rfl rfl (Nat.le_of_ble_eq_true rfl) (Nat.le_of_ble_eq_true rfl) ⟨⟨_, rfl⟩, xFr.rf, by omega, _, _, _, hC, (Or.inr (Or.inl ⟨v2, hs1, hr2, rfl, rfl, rfl, rfl⟩))⟩
  · refine x_tabIn 104 C0 dX7_account_1 (by omega) (by omega) (by rw [hs1]; rfl) (by decide) ?_
    refine x_aload_n 0 105 C0 dX7_account_104 rfl rfl rfl ?_
    refine x_getf (v := .ref (g.2 0 + 1)) 0 108 C0 dX7_account_105 rfl hC.1.1 rfl (by decide) inX7 mF_X7_10 rfl ?_
    refine x_callV 111 C0 (k_X4_poundsInChests l hl g _ _ _ _ _ hC.h0) dX7_account_108 rfl mC_X4_poundsInChests mM_X7_213 mI_X4_poundsInChests mV_X4_poundsInChests mN_X4 yd_X4_poundsInChests rfl rfl ⟨Nat.le_of_ble_eq_true rfl, Nat.le_of_ble_eq_true rfl⟩ (HR.ho hC.h0) rfl rfl rfl rfl (Nat.le_of_ble_eq_true rfl) ⟨Nat.le_of_ble_eq_true rfl, Nat.le_of_ble_eq_true rfl⟩ (fun _ _ _ q => False.elim q) (fun r w1 sz1 hz hP => ?_)
    obtain ⟨hr, rfl, rfl⟩ := hP
    obtain ⟨v3, rfl⟩ : ∃ v : Int32, r = some (.int v) := ⟨_, hr⟩
    have hr3 := hr
    refine x_st (st1 := [.int v3]) rfl ?_
    exact x_ireturn C0 dX7_account_111 rfl rfl (Nat.le_of_ble_eq_true rfl) (Nat.le_of_ble_eq_true rfl) ⟨⟨_, rfl⟩, xFr.rf, by omega, _, _, _, hC, (Or.inr (Or.inr (Or.inl ⟨v3, hs1, hr3, rfl, rfl, rfl, rfl⟩)))⟩
  · refine x_tabIn 112 C0 dX7_account_1 (by omega) (by omega) (by rw [hs1]; rfl) (by decide) ?_
    refine x_aload_n 0 113 C0 dX7_account_112 rfl rfl rfl ?_
    refine x_getf (v := .ref (g.2 0 + 1)) 0 116 C0 dX7_account_113 rfl hC.1.1 rfl (by decide) inX7 mF_X7_10 rfl ?_
    refine x_getf (v := .int (x 0 7)) 10 119 C0 dX7_account_116 rfl (HR.ho hC.h0) rfl (by decide) inX4 mF_X7_216 rfl ?_
    exact x_ireturn C0 dX7_account_119 rfl rfl (Nat.le_of_ble_eq_true rfl) (Nat.le_of_ble_eq_true rfl) ⟨⟨_, rfl⟩, xFr.rf, by omega, _, _, _, hC, (Or.inr (Or.inr (Or.inr (Or.inl ⟨hs1, rfl, rfl, rfl, rfl⟩))))⟩
  · refine x_tabIn 120 C0 dX7_account_1 (by omega) (by omega) (by rw [hs1]; rfl) (by decide) ?_
    refine x_aload_n 0 121 C0 dX7_account_120 rfl rfl rfl ?_
    refine x_getf (v := .ref (g.2 0 + 1)) 0 124 C0 dX7_account_121 rfl hC.1.1 rfl (by decide) inX7 mF_X7_10 rfl ?_
    refine x_getf (v := .int (x 0 8)) 11 127 C0 dX7_account_124 rfl (HR.ho hC.h0) rfl (by decide) inX4 mF_X7_219 rfl ?_
    exact x_ireturn C0 dX7_account_127 rfl rfl (Nat.le_of_ble_eq_true rfl) (Nat.le_of_ble_eq_true rfl) ⟨⟨_, rfl⟩, xFr.rf, by omega, _, _, _, hC, (Or.inr (Or.inr (Or.inr (Or.inr (Or.inl ⟨hs1, rfl, rfl, rfl, rfl⟩)))))⟩
  · refine x_tabIn 128 C0 dX7_account_1 (by omega) (by omega) (by rw [hs1]; rfl) (by decide) ?_
    refine x_aload_n 0 129 C0 dX7_account_128 rfl rfl rfl ?_
    refine x_getf (v := .ref (g.2 0 + 1)) 0 132 C0 dX7_account_129 rfl hC.1.1 rfl (by decide) inX7 mF_X7_10 rfl ?_
    refine x_getf (v := .int (x 0 6)) 9 135 C0 dX7_account_132 rfl (HR.ho hC.h0) rfl (by decide) inX4 mF_X7_222 rfl ?_
    exact x_ireturn C0 dX7_account_135 rfl rfl (Nat.le_of_ble_eq_true rfl) (Nat.le_of_ble_eq_true rfl) ⟨⟨_, rfl⟩, xFr.rf, by omega, _, _, _, hC, (Or.inr (Or.inr (Or.inr (Or.inr (Or.inr (Or.inl ⟨hs1, rfl, rfl, rfl, rfl⟩))))))⟩
  · refine x_tabIn 136 C0 dX7_account_1 (by omega) (by omega) (by rw [hs1]; rfl) (by decide) ?_
    refine x_aload_n 0 137 C0 dX7_account_136 rfl rfl rfl ?_
    refine x_getf (v := .ref (g.2 0 + 1)) 0 140 C0 dX7_account_137 rfl hC.1.1 rfl (by decide) inX7 mF_X7_10 rfl ?_
    refine x_getf (v := .int (x 0 1)) 3 143 C0 dX7_account_140 rfl (HR.ho hC.h0) rfl (by decide) inX4 mF_X7_79 rfl ?_
    exact x_ireturn C0 dX7_account_143 rfl rfl (Nat.le_of_ble_eq_true rfl) (Nat.le_of_ble_eq_true rfl) ⟨⟨_, rfl⟩, xFr.rf, by omega, _, _, _, hC, (Or.inr (Or.inr (Or.inr (Or.inr (Or.inr (Or.inr (Or.inl ⟨hs1, rfl, rfl, rfl, rfl⟩)))))))⟩
  · refine x_tabIn 144 C0 dX7_account_1 (by omega) (by omega) (by rw [hs1]; rfl) (by decide) ?_
    refine x_aload_n 0 145 C0 dX7_account_144 rfl rfl rfl ?_
    refine x_getf (v := .ref (g.2 0 + 1)) 0 148 C0 dX7_account_145 rfl hC.1.1 rfl (by decide) inX7 mF_X7_10 rfl ?_
    refine x_getf (v := .int (x 0 2)) 4 151 C0 dX7_account_148 rfl (HR.ho hC.h0) rfl (by decide) inX4 mF_X7_72 rfl ?_
    exact x_ireturn C0 dX7_account_151 rfl rfl (Nat.le_of_ble_eq_true rfl) (Nat.le_of_ble_eq_true rfl) ⟨⟨_, rfl⟩, xFr.rf, by omega, _, _, _, hC, (Or.inr (Or.inr (Or.inr (Or.inr (Or.inr (Or.inr (Or.inr (Or.inl ⟨hs1, rfl, rfl, rfl, rfl⟩))))))))⟩
  · refine x_tabIn 152 C0 dX7_account_1 (by omega) (by omega) (by rw [hs1]; rfl) (by decide) ?_
    refine x_aload_n 0 153 C0 dX7_account_152 rfl rfl rfl ?_
    refine x_getf (v := .ref (g.2 0 + 1)) 0 156 C0 dX7_account_153 rfl hC.1.1 rfl (by decide) inX7 mF_X7_10 rfl ?_
    refine x_getf (v := .int (x 0 3)) 2 159 C0 dX7_account_156 rfl (HR.ho hC.h0) rfl (by decide) inX4 mF_X7_86 rfl ?_
    exact x_ireturn C0 dX7_account_159 rfl rfl (Nat.le_of_ble_eq_true rfl) (Nat.le_of_ble_eq_true rfl) ⟨⟨_, rfl⟩, xFr.rf, by omega, _, _, _, hC, (Or.inr (Or.inr (Or.inr (Or.inr (Or.inr (Or.inr (Or.inr (Or.inr (Or.inl ⟨hs1, rfl, rfl, rfl, rfl⟩)))))))))⟩
  · refine x_tabIn 160 C0 dX7_account_1 (by omega) (by omega) (by rw [hs1]; rfl) (by decide) ?_
    refine x_aload_n 0 161 C0 dX7_account_160 rfl rfl rfl ?_
    refine x_getf (v := .ref (g.2 0 + 1)) 0 164 C0 dX7_account_161 rfl hC.1.1 rfl (by decide) inX7 mF_X7_10 rfl ?_
    refine x_iconst (v := 0) 165 C0 dX7_account_164 rfl (by decide) ?_
    refine x_callV 168 C0 (k_X4_chestsAt l hl g _ _ _ _ _ hC.h0 0) dX7_account_165 rfl mC_X4_chestsAt mM_X7_183 mI_X4_chestsAt mV_X4_chestsAt mN_X4 yd_X4_chestsAt rfl rfl ⟨Nat.le_of_ble_eq_true rfl, Nat.le_of_ble_eq_true rfl⟩ (HR.ho hC.h0) rfl rfl rfl rfl (Nat.le_of_ble_eq_true rfl) ⟨Nat.le_of_ble_eq_true rfl, Nat.le_of_ble_eq_true rfl⟩ (fun _ _ _ q => False.elim q) (fun r w1 sz1 hz hP => ?_)
    obtain ⟨hr, rfl, rfl⟩ := hP
    obtain ⟨v4, rfl⟩ : ∃ v : Int32, r = some (.int v) := ⟨_, hr⟩
    have hr4 := hr
    refine x_st (st1 := [.int v4]) rfl ?_
    exact x_ireturn C0 dX7_account_168 rfl rfl (Nat.le_of_ble_eq_true rfl) (Nat.le_of_ble_eq_true rfl) ⟨⟨_, rfl⟩, xFr.rf, by omega, _, _, _, hC, (Or.inr (Or.inr (Or.inr (Or.inr (Or.inr (Or.inr (Or.inr (Or.inr (Or.inr (Or.inl ⟨v4, hs1, hr4, rfl, rfl, rfl, rfl⟩))))))))))⟩
  · refine x_tabIn 169 C0 dX7_account_1 (by omega) (by omega) (by rw [hs1]; rfl) (by decide) ?_
    refine x_aload_n 0 170 C0 dX7_account_169 rfl rfl rfl ?_
    refine x_getf (v := .ref (g.2 0 + 1)) 0 173 C0 dX7_account_170 rfl hC.1.1 rfl (by decide) inX7 mF_X7_10 rfl ?_
    refine x_iconst (v := 1) 174 C0 dX7_account_173 rfl (by decide) ?_
    refine x_callV 177 C0 (k_X4_chestsAt l hl g _ _ _ _ _ hC.h0 1) dX7_account_174 rfl mC_X4_chestsAt mM_X7_183 mI_X4_chestsAt mV_X4_chestsAt mN_X4 yd_X4_chestsAt rfl rfl ⟨Nat.le_of_ble_eq_true rfl, Nat.le_of_ble_eq_true rfl⟩ (HR.ho hC.h0) rfl rfl rfl rfl (Nat.le_of_ble_eq_true rfl) ⟨Nat.le_of_ble_eq_true rfl, Nat.le_of_ble_eq_true rfl⟩ (fun _ _ _ q => False.elim q) (fun r w1 sz1 hz hP => ?_)
    obtain ⟨hr, rfl, rfl⟩ := hP
    obtain ⟨v5, rfl⟩ : ∃ v : Int32, r = some (.int v) := ⟨_, hr⟩
    have hr5 := hr
    refine x_st (st1 := [.int v5]) rfl ?_
    exact x_ireturn C0 dX7_account_177 rfl rfl (Nat.le_of_ble_eq_true rfl) (Nat.le_of_ble_eq_true rfl) ⟨⟨_, rfl⟩, xFr.rf, by omega, _, _, _, hC, (Or.inr (Or.inr (Or.inr (Or.inr (Or.inr (Or.inr (Or.inr (Or.inr (Or.inr (Or.inr (Or.inl ⟨v5, hs1, hr5, rfl, rfl, rfl, rfl⟩)))))))))))⟩
  · refine x_tabIn 178 C0 dX7_account_1 (by omega) (by omega) (by rw [hs1]; rfl) (by decide) ?_
    refine x_aload_n 0 179 C0 dX7_account_178 rfl rfl rfl ?_
    refine x_getf (v := .ref (g.2 0 + 1)) 0 182 C0 dX7_account_179 rfl hC.1.1 rfl (by decide) inX7 mF_X7_10 rfl ?_
    refine x_iconst (v := 2) 183 C0 dX7_account_182 rfl (by decide) ?_
    refine x_callV 186 C0 (k_X4_chestsAt l hl g _ _ _ _ _ hC.h0 2) dX7_account_183 rfl mC_X4_chestsAt mM_X7_183 mI_X4_chestsAt mV_X4_chestsAt mN_X4 yd_X4_chestsAt rfl rfl ⟨Nat.le_of_ble_eq_true rfl, Nat.le_of_ble_eq_true rfl⟩ (HR.ho hC.h0) rfl rfl rfl rfl (Nat.le_of_ble_eq_true rfl) ⟨Nat.le_of_ble_eq_true rfl, Nat.le_of_ble_eq_true rfl⟩ (fun _ _ _ q => False.elim q) (fun r w1 sz1 hz hP => ?_)
    obtain ⟨hr, rfl, rfl⟩ := hP
    obtain ⟨v6, rfl⟩ : ∃ v : Int32, r = some (.int v) := ⟨_, hr⟩
    have hr6 := hr
    refine x_st (st1 := [.int v6]) rfl ?_
    exact x_ireturn C0 dX7_account_186 rfl rfl (Nat.le_of_ble_eq_true rfl) (Nat.le_of_ble_eq_true rfl) ⟨⟨_, rfl⟩, xFr.rf, by omega, _, _, _, hC, (Or.inr (Or.inr (Or.inr (Or.inr (Or.inr (Or.inr (Or.inr (Or.inr (Or.inr (Or.inr (Or.inr (Or.inl ⟨v6, hs1, hr6, rfl, rfl, rfl, rfl⟩))))))))))))⟩
  · refine x_tabIn 187 C0 dX7_account_1 (by omega) (by omega) (by rw [hs1]; rfl) (by decide) ?_
    refine x_aload_n 0 188 C0 dX7_account_187 rfl rfl rfl ?_
    refine x_getf (v := .ref (g.2 0 + 1)) 0 191 C0 dX7_account_188 rfl hC.1.1 rfl (by decide) inX7 mF_X7_10 rfl ?_
    refine x_callV 194 C0 (k_X4_shipRoom l hl g _ _ _ _ _ hC.h0) dX7_account_191 rfl mC_X4_shipRoom mM_X7_189 mI_X4_shipRoom mV_X4_shipRoom mN_X4 yd_X4_shipRoom rfl rfl ⟨Nat.le_of_ble_eq_true rfl, Nat.le_of_ble_eq_true rfl⟩ (HR.ho hC.h0) rfl rfl rfl rfl (Nat.le_of_ble_eq_true rfl) ⟨Nat.le_of_ble_eq_true rfl, Nat.le_of_ble_eq_true rfl⟩ (fun _ _ _ q => False.elim q) (fun r w1 sz1 hz hP => ?_)
    obtain ⟨hr, rfl, rfl⟩ := hP
    obtain ⟨v7, rfl⟩ : ∃ v : Int32, r = some (.int v) := ⟨_, hr⟩
    have hr7 := hr
    refine x_st (st1 := [.int v7]) rfl ?_
    exact x_ireturn C0 dX7_account_194 rfl rfl (Nat.le_of_ble_eq_true rfl) (Nat.le_of_ble_eq_true rfl) ⟨⟨_, rfl⟩, xFr.rf, by omega, _, _, _, hC, (Or.inr (Or.inr (Or.inr (Or.inr (Or.inr (Or.inr (Or.inr (Or.inr (Or.inr (Or.inr (Or.inr (Or.inr (Or.inl ⟨v7, hs1, hr7, rfl, rfl, rfl, rfl⟩)))))))))))))⟩
  · refine x_tabIn 195 C0 dX7_account_1 (by omega) (by omega) (by rw [hs1]; rfl) (by decide) ?_
    refine x_aload_n 0 196 C0 dX7_account_195 rfl rfl rfl ?_
    refine x_getf (v := .ref (g.2 0 + 1)) 0 199 C0 dX7_account_196 rfl hC.1.1 rfl (by decide) inX7 mF_X7_10 rfl ?_
    refine x_getf (v := .int (x 0 9)) 8 202 C0 dX7_account_199 rfl (HR.ho hC.h0) rfl (by decide) inX4 mF_X7_249 rfl ?_
    exact x_ireturn C0 dX7_account_202 rfl rfl (Nat.le_of_ble_eq_true rfl) (Nat.le_of_ble_eq_true rfl) ⟨⟨_, rfl⟩, xFr.rf, by omega, _, _, _, hC, (Or.inr (Or.inr (Or.inr (Or.inr (Or.inr (Or.inr (Or.inr (Or.inr (Or.inr (Or.inr (Or.inr (Or.inr (Or.inr (Or.inl ⟨hs1, rfl, rfl, rfl, rfl⟩))))))))))))))⟩
  · refine x_tabIn 203 C0 dX7_account_1 (by omega) (by omega) (by rw [hs1]; rfl) (by decide) ?_
    refine x_aload_n 0 204 C0 dX7_account_203 rfl rfl rfl ?_
    refine x_getf (v := .ref (g.2 0 + 1)) 0 207 C0 dX7_account_204 rfl hC.1.1 rfl (by decide) inX7 mF_X7_10 rfl ?_
    refine x_getf (v := .int (x 0 4)) 7 210 C0 dX7_account_207 rfl (HR.ho hC.h0) rfl (by decide) inX4 mF_X7_252 rfl ?_
    exact x_ireturn C0 dX7_account_210 rfl rfl (Nat.le_of_ble_eq_true rfl) (Nat.le_of_ble_eq_true rfl) ⟨⟨_, rfl⟩, xFr.rf, by omega, _, _, _, hC, (Or.inr (Or.inr (Or.inr (Or.inr (Or.inr (Or.inr (Or.inr (Or.inr (Or.inr (Or.inr (Or.inr (Or.inr (Or.inr (Or.inr (Or.inl ⟨hs1, rfl, rfl, rfl, rfl⟩)))))))))))))))⟩
  · refine x_tabIn 211 C0 dX7_account_1 (by omega) (by omega) (by rw [hs1]; rfl) (by decide) ?_
    refine x_aload_n 0 212 C0 dX7_account_211 rfl rfl rfl ?_
    refine x_getf (v := .ref (g.2 0 + 1)) 0 215 C0 dX7_account_212 rfl hC.1.1 rfl (by decide) inX7 mF_X7_10 rfl ?_
    refine x_getf (v := .int (x 0 5)) 6 218 C0 dX7_account_215 rfl (HR.ho hC.h0) rfl (by decide) inX4 mF_X7_204 rfl ?_
    exact x_ireturn C0 dX7_account_218 rfl rfl (Nat.le_of_ble_eq_true rfl) (Nat.le_of_ble_eq_true rfl) ⟨⟨_, rfl⟩, xFr.rf, by omega, _, _, _, hC, (Or.inr (Or.inr (Or.inr (Or.inr (Or.inr (Or.inr (Or.inr (Or.inr (Or.inr (Or.inr (Or.inr (Or.inr (Or.inr (Or.inr (Or.inr (Or.inl ⟨hs1, rfl, rfl, rfl, rfl⟩))))))))))))))))⟩
  · refine x_tabIn 219 C0 dX7_account_1 (by omega) (by omega) (by rw [hs1]; rfl) (by decide) ?_
    refine x_aload_n 0 220 C0 dX7_account_219 rfl rfl rfl ?_
    refine x_getf (v := .ref (g.2 0 + 256)) 4 223 C0 dX7_account_220 rfl hC.1.1 rfl (by decide) inX7 mF_X7_33 rfl ?_
    refine x_getf (v := .int (tt 0)) 1 226 C0 dX7_account_223 rfl hC.1.2.2.2.1 rfl (by decide) inX2 mF_X7_254 rfl ?_
    refine x_st (st1 := [.int (nI n)]) (by rw [hC.2.2.1.1]) ?_
    exact x_ireturn C0 dX7_account_226 rfl rfl (Nat.le_of_ble_eq_true rfl) (Nat.le_of_ble_eq_true rfl) ⟨⟨_, rfl⟩, xFr.rf, by omega, _, _, _, hC, (Or.inr (Or.inr (Or.inr (Or.inr (Or.inr (Or.inr (Or.inr (Or.inr (Or.inr (Or.inr (Or.inr (Or.inr (Or.inr (Or.inr (Or.inr (Or.inr (Or.inl ⟨hs1, rfl, rfl, rfl, rfl⟩)))))))))))))))))⟩
  · refine x_tabIn 227 C0 dX7_account_1 (by omega) (by omega) (by rw [hs1]; rfl) (by decide) ?_
    refine x_aload_n 0 228 C0 dX7_account_227 rfl rfl rfl ?_
    refine x_getf (v := .ref (g.2 0 + 47)) 3 231 C0 dX7_account_228 rfl hC.1.1 rfl (by decide) inX7 mF_X7_26 rfl ?_
    refine x_getf (v := .int (t 2)) 2 234 C0 dX7_account_231 rfl hC.1.2.1 rfl (by decide) inX3 mF_X7_256 rfl ?_
    exact x_ireturn C0 dX7_account_234 rfl rfl (Nat.le_of_ble_eq_true rfl) (Nat.le_of_ble_eq_true rfl) ⟨⟨_, rfl⟩, xFr.rf, by omega, _, _, _, hC, (Or.inr (Or.inr (Or.inr (Or.inr (Or.inr (Or.inr (Or.inr (Or.inr (Or.inr (Or.inr (Or.inr (Or.inr (Or.inr (Or.inr (Or.inr (Or.inr (Or.inr (⟨hs1, rfl, rfl, rfl, rfl⟩))))))))))))))))))⟩

