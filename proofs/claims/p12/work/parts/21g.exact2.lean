/-! THE CLASS'S OTHER METHODS -/
def fPo (g : xg_T) (w : xw_T) (sz n : Nat) (x : Nat → Nat → Int32) (la : Nat → Nat → Nat) (t tt : Nat → Int32) (vb : Option Nat) (sg : Nat → Int32) (R : Option Value → Prop) : Option Value → xw_T → Nat → Prop := fun r w1 sz1 => R r ∧ CR g w1 sz1 n x la t tt vb sg ∧ xFr g w w1 sz ∧ sz ≤ sz1
def fXo (g : xg_T) (w : xw_T) (sz n : Nat) (x : Nat → Nat → Int32) (la : Nat → Nat → Nat) (t tt : Nat → Int32) (vb : Option Nat) (sg : Nat → Int32) (L : List String) : String → xw_T → Nat → Prop := fun E w1 sz1 => E ∈ L ∧ CR g w1 sz1 n x la t tt vb sg ∧ xFr g w w1 sz ∧ sz ≤ sz1
def cQW (g : xg_T) (w : xw_T) (sz n : Nat) (tt : Nat → Int32) (vb : Option Nat) (sg : Nat → Int32) (P : xw_T → Nat → Option Value → (Nat → Nat → Int32) → (Nat → Nat → Nat) → (Nat → Int32) → Prop) : Option Value → xw_T → Nat → Prop := fun r w1 sz1 => rI r ∧ xFr g w w1 sz ∧ sz ≤ sz1 ∧ ∃ x' la' t', CR g w1 sz1 n x' la' t' tt vb sg ∧ P w1 sz1 r x' la' t'
/-- a chest labelled, or refused -/
def lbR (g : xg_T) (w1 : xw_T) (sz1 : Nat) (x : Nat → Nat → Int32) (la : Nat → Nat → Nat) (k : Nat) (b : Int32) (x9 : Nat → Nat → Int32) (la9 : Nat → Nat → Nat) : Prop := (labelOk (x 0) k ∧ b = 1 ∧ x9 = va_up x 0 (x 0) ∧ ∃ a : Nat, la9 = va_up la 0 (va_up (la 0) k a) ∧ xTx g w1 sz1 a (labLen (x 0) k) (labTxt (x 0) k)) ∨ (¬ labelOk (x 0) k ∧ b = 0 ∧ ∃ x', refd (x 0) x' ∧ x9 = va_up x 0 x' ∧ la9 = va_up la 0 (la 0))
theorem lbR.go {g : xg_T} {w1 w2 : xw_T} {sz1 sz2 : Nat} {x : Nat → Nat → Int32} {la : Nat → Nat → Nat} {k : Nat} {b : Int32} {x9 : Nat → Nat → Int32} {la9 : Nat → Nat → Nat} (h : lbR g w1 sz1 x la k b x9 la9) (hq : xFr g w1 w2 sz1) (hz : sz1 ≤ sz2) : lbR g w2 sz2 x la k b x9 la9 := by
  rcases h with ⟨h1, h2, h3, a, h4, h5⟩ | h
  · exact Or.inl ⟨h1, h2, h3, a, h4, h5.go (fun q q1 q2 => hq q (by omega) q2) hz⟩
  · exact Or.inr h
theorem CR.labelX {g : xg_T} {w w1 : xw_T} {sz sz1 n : Nat} {x : Nat → Nat → Int32} {la : Nat → Nat → Nat} {t tt : Nat → Int32} {vb : Option Nat} {sg : Nat → Int32} {r : Option Value} (hC : CR g w sz n x la t tt vb sg) {k : Nat} (hk : k < 20)
    (hP : (labelOk (x 0) k ∧ r = some (.int 1) ∧ (∃ w2 : xw_T, xExt (HW g w (g.2 0 + 1) (x 0) (la 0)) w2 sz ∧ w1 = HW g w2 (g.2 0 + 1) (x 0) (va_up (la 0) k (sz + 2)) ∧ xTx g w2 (sz + 1 + 1 + 1 + 1) (sz + 2) (labLen (x 0) k) (labTxt (x 0) k)) ∧ sz + 1 + 1 + 1 + 1 = sz1) ∨ (¬ labelOk (x 0) k ∧ r = some (.int 0) ∧ (∃ x', refd (x 0) x' ∧ w1 = HW g w (g.2 0 + 1) x' (la 0)) ∧ sz = sz1)) :
    ∃ (b : Int32) (x9 : Nat → Nat → Int32) (la9 : Nat → Nat → Nat), r = some (.int b) ∧ isB b ∧ CR g w1 sz1 n x9 la9 t tt vb sg ∧ xFr g w w1 sz ∧ sz ≤ sz1 ∧ lbR g w1 sz1 x la k b x9 la9 := by
  have hz := hC.zz
  rcases hP with ⟨hO, rfl, ⟨w2, hE, rfl, hT⟩, rfl⟩ | ⟨hO, rfl, ⟨x', hr, rfl⟩, rfl⟩
  · have e2 : ∀ q, q < sz → w2 q = w q := fun q hq => (hE q hq).trans (congrFun (HW_self hC.h0) q).symm
    have hC2 : CR g w2 (sz + 1 + 1 + 1 + 1) n x la t tt vb sg := hC.go (fun q _ h2 => e2 q (by omega)) (fun q _ h2 => e2 q h2) (by omega)
    exact ⟨1, _, _, rfl, Or.inr rfl, hC2.set0 hC.k0 (hC2.l0.set hT (labTxt_ch hC.k0 hk hO.2)), fun q q1 q2 => (HW_ne (by omega)).trans (e2 q q2), by omega, Or.inl ⟨hO, rfl, rfl, sz + 2, rfl, hT.go (fun q q1 q2 => HW_ne (by omega)) (Nat.le_refl _)⟩⟩
  · exact ⟨0, _, _, rfl, Or.inl rfl, hC.set0 (hC.k0.refu hr) hC.l0, xFr.hw (by omega), Nat.le_refl _, Or.inr ⟨hO, rfl, x', hr, rfl, rfl⟩⟩
set_option maxHeartbeats 4000000 in
set_option maxRecDepth 100000 in
theorem f_X7_worth (l : Launch) (hl : l.stackTraces = false) (g : xg_T) (w : xw_T) (sz n : Nat) (x : Nat → Nat → Int32) (la : Nat → Nat → Nat) (t tt : Nat → Int32) (vb : Option Nat) (sg : Nat → Int32) (hC : CR g w sz n x la t tt vb sg) (cn : Int32) : xM l g yX7_worth cX7_worth 2 (some .int) ({ frames := 7, cells := 8, slots := 64, locals := 104 }) 8 64 [.ref (g.2 0), .int cn] w sz (fPo g w sz n x la t tt vb sg rI) (fXo g w sz n x la t tt vb sg ["java/lang/IndexOutOfBoundsException"]) := by
  have hz9 := hC.zz
  refine xM.of RX7 hl (by decide +kernel) rfl (Nat.le_of_ble_eq_true rfl) rfl ?_
  intro p e s m args below meth cD C0 hini
  refine x_aload_n 0 1 C0 dX7_worth_0 rfl rfl rfl ?_
  refine x_iload_n 1 2 C0 dX7_worth_1 rfl rfl rfl ?_
  refine x_callV 5 C0 (k_X7_needChest l hl g _ _ _ x la t tt vb sg hC cn) dX7_worth_2 rfl mC_X7_needChest mM_X7_89 mI_X7_needChest mV_X7_needChest mN_X7 yd_X7_needChest rfl rfl ⟨Nat.le_of_ble_eq_true rfl, Nat.le_of_ble_eq_true rfl⟩ hC.1.1 rfl rfl rfl rfl (Nat.le_of_ble_eq_true rfl) ⟨Nat.le_of_ble_eq_true rfl, Nat.le_of_ble_eq_true rfl⟩ (fun E9 w9 sz9 q => by obtain ⟨rfl, rfl, h9, hno9⟩ := q; exact x_out C0 rfl (Nat.le_of_ble_eq_true rfl) (Nat.le_of_ble_eq_true rfl) ⟨by decide, (hC.grow h9), xFr.rf, by omega⟩) (fun r w1 sz1 hz hP => ?_)
  obtain ⟨⟨k, hk, hm, rfl, hnk⟩, rfl, rfl⟩ := hP
  have hm0 := hm
  refine x_st (st1 := [.ref (g.2 0 + 1 + 3 + k)]) rfl ?_
  refine x_callV 8 C0 (k_X1_coins l hl g _ _ _ _ _ _ (HR.c hC.h0 hk)) dX7_worth_5 rfl mC_X1_coins mM_X7_171 mI_X1_coins mV_X1_coins mN_X1 yd_X1_coins rfl rfl ⟨Nat.le_of_ble_eq_true rfl, Nat.le_of_ble_eq_true rfl⟩ (HR.c hC.h0 hk) rfl rfl rfl rfl (Nat.le_of_ble_eq_true rfl) ⟨Nat.le_of_ble_eq_true rfl, Nat.le_of_ble_eq_true rfl⟩ (fun _ _ _ q => False.elim q) (fun r w1 sz1 hz hP => ?_)
  obtain ⟨hr, rfl, rfl⟩ := hP
  obtain ⟨v1, rfl⟩ : ∃ v : Int32, r = some (.int v) := ⟨_, hr⟩
  refine x_st (st1 := [.int v1]) rfl ?_
  exact x_ireturn C0 dX7_worth_8 rfl rfl (Nat.le_of_ble_eq_true rfl) (Nat.le_of_ble_eq_true rfl) ⟨⟨_, rfl⟩, hC, xFr.rf, by omega⟩

set_option maxHeartbeats 4000000 in
set_option maxRecDepth 100000 in
theorem f_X7_chest (l : Launch) (hl : l.stackTraces = false) (g : xg_T) (w : xw_T) (sz n : Nat) (x : Nat → Nat → Int32) (la : Nat → Nat → Nat) (t tt : Nat → Int32) (vb : Option Nat) (sg : Nat → Int32) (hC : CR g w sz n x la t tt vb sg) (cn : Int32) (wh : Int32) : xM l g yX7_chest cX7_chest 4 (some .int) ({ frames := 7, cells := 8, slots := 64, locals := 104 }) 8 64 [.ref (g.2 0), .int cn, .int wh] w sz (fPo g w sz n x la t tt vb sg rI) (fXo g w sz n x la t tt vb sg ["java/lang/IndexOutOfBoundsException", "java/lang/IllegalArgumentException"]) := by
  have hz9 := hC.zz
  refine xM.of RX7 hl (by decide +kernel) rfl (Nat.le_of_ble_eq_true rfl) rfl ?_
  intro p e s m args below meth cD C0 hini
  refine x_aload_n 0 1 C0 dX7_chest_0 rfl rfl rfl ?_
  refine x_iload_n 1 2 C0 dX7_chest_1 rfl rfl rfl ?_
  refine x_callV 5 C0 (k_X7_needChest l hl g _ _ _ x la t tt vb sg hC cn) dX7_chest_2 rfl mC_X7_needChest mM_X7_89 mI_X7_needChest mV_X7_needChest mN_X7 yd_X7_needChest rfl rfl ⟨Nat.le_of_ble_eq_true rfl, Nat.le_of_ble_eq_true rfl⟩ hC.1.1 rfl rfl rfl rfl (Nat.le_of_ble_eq_true rfl) ⟨Nat.le_of_ble_eq_true rfl, Nat.le_of_ble_eq_true rfl⟩ (fun E9 w9 sz9 q => by obtain ⟨rfl, rfl, h9, hno9⟩ := q; exact x_out C0 rfl (Nat.le_of_ble_eq_true rfl) (Nat.le_of_ble_eq_true rfl) ⟨by decide, (hC.grow h9), xFr.rf, by omega⟩) (fun r w1 sz1 hz hP => ?_)
  obtain ⟨⟨k, hk, hm, rfl, hnk⟩, rfl, rfl⟩ := hP
  have hm0 := hm
  refine x_st (st1 := [.ref (g.2 0 + 1 + 3 + k)]) rfl ?_
  refine x_astore_n [(3, .ref (g.2 0 + 1 + 3 + k)), (0, .ref (g.2 0)), (1, .int cn), (2, .int wh)] 6 C0 dX7_chest_5 rfl rfl (by decide) rfl ?_
  refine x_lv (lv1 := [(0, .ref (g.2 0)), (1, .int cn), (2, .int wh), (3, .ref (g.2 0 + 1 + 3 + k))]) [1, 2, 3, 0] rfl ?_
  refine x_iload_n 2 7 C0 dX7_chest_6 rfl rfl rfl ?_
  have hs1 : (wh.toInt < 0 ∨ 9 < wh.toInt) ∨ (wh.toInt = 0) ∨ (wh.toInt = 1) ∨ (wh.toInt = 2) ∨ (wh.toInt = 3) ∨ (wh.toInt = 4) ∨ (wh.toInt = 5) ∨ (wh.toInt = 6) ∨ (wh.toInt = 7) ∨ (wh.toInt = 8) ∨ (wh.toInt = 9) := by omega
  rcases hs1 with hs1 | hs1 | hs1 | hs1 | hs1 | hs1 | hs1 | hs1 | hs1 | hs1 | hs1
  · refine x_tabOut 129 C0 dX7_chest_7 hs1 (by decide) ?_
    exact x_throwS xNames C0 dX7_chest_129 dX7_chest_132 dX7_chest_133 dX7_chest_135 dX7_chest_138 rfl rfl rfl rfl (by decide +kernel) (by decide +kernel) mK_X7_166 mN_IllegalArgumentException (xs_ldc C0.2.2.2.2.2.2.2.1.2.2 (RX7, 168, "no such number of a chest", 141) (by decide +kernel)) (xhat C0 xg_iae xh_iae (by decide +kernel)) xo_iae (xs_us C0.2.2.2.2.2.2.2.1.2.2) (xs_su C0.2.2.2.2.2.2.2.1.2.2) rfl (Nat.le_of_ble_eq_true rfl) (Nat.le_of_ble_eq_true rfl) (Nat.le_of_ble_eq_true rfl) (Nat.le_of_ble_eq_true rfl) (Nat.le_of_ble_eq_true rfl) (Nat.le_of_ble_eq_true rfl) (fun sz9 h9 => ⟨by decide, (hC.grow h9), xFr.rf, by omega⟩)
  · refine x_tabIn 60 C0 dX7_chest_7 (by omega) (by omega) (by rw [hs1]; rfl) (by decide) ?_
    refine x_aload_n 3 61 C0 dX7_chest_60 rfl rfl rfl ?_
    refine x_getf (v := .int (x 0 (28 + 9 * k + 0))) 1 64 C0 dX7_chest_61 rfl (HR.c hC.h0 hk) rfl (by decide) inX1 mF_X7_148 rfl ?_
    exact x_ireturn C0 dX7_chest_64 rfl rfl (Nat.le_of_ble_eq_true rfl) (Nat.le_of_ble_eq_true rfl) ⟨⟨_, rfl⟩, hC, xFr.rf, by omega⟩
  · refine x_tabIn 65 C0 dX7_chest_7 (by omega) (by omega) (by rw [hs1]; rfl) (by decide) ?_
    refine x_aload_n 3 66 C0 dX7_chest_65 rfl rfl rfl ?_
    refine x_getf (v := .int (x 0 (28 + 9 * k + 1))) 2 69 C0 dX7_chest_66 rfl (HR.c hC.h0 hk) rfl (by decide) inX1 mF_X7_151 rfl ?_
    exact x_ireturn C0 dX7_chest_69 rfl rfl (Nat.le_of_ble_eq_true rfl) (Nat.le_of_ble_eq_true rfl) ⟨⟨_, rfl⟩, hC, xFr.rf, by omega⟩
  · refine x_tabIn 70 C0 dX7_chest_7 (by omega) (by omega) (by rw [hs1]; rfl) (by decide) ?_
    refine x_aload_n 3 71 C0 dX7_chest_70 rfl rfl rfl ?_
    refine x_getf (v := .int (x 0 (28 + 9 * k + 2))) 3 74 C0 dX7_chest_71 rfl (HR.c hC.h0 hk) rfl (by decide) inX1 mF_X7_154 rfl ?_
    exact x_ireturn C0 dX7_chest_74 rfl rfl (Nat.le_of_ble_eq_true rfl) (Nat.le_of_ble_eq_true rfl) ⟨⟨_, rfl⟩, hC, xFr.rf, by omega⟩
  · refine x_tabIn 75 C0 dX7_chest_7 (by omega) (by omega) (by rw [hs1]; rfl) (by decide) ?_
    refine x_aload_n 3 76 C0 dX7_chest_75 rfl rfl rfl ?_
    refine x_getf (v := .int (x 0 (28 + 9 * k + 3))) 4 79 C0 dX7_chest_76 rfl (HR.c hC.h0 hk) rfl (by decide) inX1 mF_X7_107 rfl ?_
    exact x_ireturn C0 dX7_chest_79 rfl rfl (Nat.le_of_ble_eq_true rfl) (Nat.le_of_ble_eq_true rfl) ⟨⟨_, rfl⟩, hC, xFr.rf, by omega⟩
  · refine x_tabIn 80 C0 dX7_chest_7 (by omega) (by omega) (by rw [hs1]; rfl) (by decide) ?_
    refine x_aload_n 3 81 C0 dX7_chest_80 rfl rfl rfl ?_
    refine x_getf (v := .int (x 0 (28 + 9 * k + 4))) 5 84 C0 dX7_chest_81 rfl (HR.c hC.h0 hk) rfl (by decide) inX1 mF_X7_157 rfl ?_
    refine x_if_eq 91 87 C0 dX7_chest_84 rfl (by decide) (fun c2 => ?_) (fun c2 => ?_)
    · refine x_iconst (v := 0) 92 C0 dX7_chest_91 rfl (by decide) ?_
      exact x_ireturn C0 dX7_chest_92 rfl rfl (Nat.le_of_ble_eq_true rfl) (Nat.le_of_ble_eq_true rfl) ⟨⟨_, rfl⟩, hC, xFr.rf, by omega⟩
    · refine x_iconst (v := 1) 88 C0 dX7_chest_87 rfl (by decide) ?_
      refine x_goto 92 C0 dX7_chest_88 (by decide) ?_
      exact x_ireturn C0 dX7_chest_92 rfl rfl (Nat.le_of_ble_eq_true rfl) (Nat.le_of_ble_eq_true rfl) ⟨⟨_, rfl⟩, hC, xFr.rf, by omega⟩
  · refine x_tabIn 93 C0 dX7_chest_7 (by omega) (by omega) (by rw [hs1]; rfl) (by decide) ?_
    refine x_aload_n 3 94 C0 dX7_chest_93 rfl rfl rfl ?_
    refine x_getf (v := .int (x 0 (28 + 9 * k + 5))) 6 97 C0 dX7_chest_94 rfl (HR.c hC.h0 hk) rfl (by decide) inX1 mF_X7_121 rfl ?_
    exact x_ireturn C0 dX7_chest_97 rfl rfl (Nat.le_of_ble_eq_true rfl) (Nat.le_of_ble_eq_true rfl) ⟨⟨_, rfl⟩, hC, xFr.rf, by omega⟩
  · refine x_tabIn 98 C0 dX7_chest_7 (by omega) (by omega) (by rw [hs1]; rfl) (by decide) ?_
    refine x_aload_n 3 99 C0 dX7_chest_98 rfl rfl rfl ?_
    refine x_getf (v := .int (x 0 (28 + 9 * k + 6))) 7 102 C0 dX7_chest_99 rfl (HR.c hC.h0 hk) rfl (by decide) inX1 mF_X7_160 rfl ?_
    exact x_ireturn C0 dX7_chest_102 rfl rfl (Nat.le_of_ble_eq_true rfl) (Nat.le_of_ble_eq_true rfl) ⟨⟨_, rfl⟩, hC, xFr.rf, by omega⟩
  · refine x_tabIn 103 C0 dX7_chest_7 (by omega) (by omega) (by rw [hs1]; rfl) (by decide) ?_
    refine x_aload_n 3 104 C0 dX7_chest_103 rfl rfl rfl ?_
    refine x_callV 107 C0 (k_X1_isTight l hl g _ _ _ _ _ _ (HR.c hC.h0 hk)) dX7_chest_104 rfl mC_X1_isTight mM_X7_117 mI_X1_isTight mV_X1_isTight mN_X1 yd_X1_isTight rfl rfl ⟨Nat.le_of_ble_eq_true rfl, Nat.le_of_ble_eq_true rfl⟩ (HR.c hC.h0 hk) rfl rfl rfl rfl (Nat.le_of_ble_eq_true rfl) ⟨Nat.le_of_ble_eq_true rfl, Nat.le_of_ble_eq_true rfl⟩ (fun _ _ _ q => False.elim q) (fun r w1 sz1 hz hP => ?_)
    obtain ⟨hr, rfl, rfl⟩ := hP
    obtain ⟨v3, rfl, hv3⟩ : ∃ v : Int32, r = some (.int v) ∧ isB v := ⟨_, hr, isB_bi _⟩
    refine x_st (st1 := [.int v3]) rfl ?_
    refine x_if_eq 114 110 C0 dX7_chest_107 rfl (by decide) (fun c4 => ?_) (fun c4 => ?_)
    · refine x_iconst (v := 0) 115 C0 dX7_chest_114 rfl (by decide) ?_
      exact x_ireturn C0 dX7_chest_115 rfl rfl (Nat.le_of_ble_eq_true rfl) (Nat.le_of_ble_eq_true rfl) ⟨⟨_, rfl⟩, hC, xFr.rf, by omega⟩
    · refine x_iconst (v := 1) 111 C0 dX7_chest_110 rfl (by decide) ?_
      refine x_goto 115 C0 dX7_chest_111 (by decide) ?_
      exact x_ireturn C0 dX7_chest_115 rfl rfl (Nat.le_of_ble_eq_true rfl) (Nat.le_of_ble_eq_true rfl) ⟨⟨_, rfl⟩, hC, xFr.rf, by omega⟩
  · refine x_tabIn 116 C0 dX7_chest_7 (by omega) (by omega) (by rw [hs1]; rfl) (by decide) ?_
    refine x_aload_n 3 117 C0 dX7_chest_116 rfl rfl rfl ?_
    refine x_getf (v := .int (x 0 (28 + 9 * k + 7))) 8 120 C0 dX7_chest_117 rfl (HR.c hC.h0 hk) rfl (by decide) inX1 mF_X7_163 rfl ?_
    exact x_ireturn C0 dX7_chest_120 rfl rfl (Nat.le_of_ble_eq_true rfl) (Nat.le_of_ble_eq_true rfl) ⟨⟨_, rfl⟩, hC, xFr.rf, by omega⟩
  · refine x_tabIn 121 C0 dX7_chest_7 (by omega) (by omega) (by rw [hs1]; rfl) (by decide) ?_
    refine x_aload_n 3 122 C0 dX7_chest_121 rfl rfl rfl ?_
    refine x_getf (v := .ref (la 0 k)) 9 125 C0 dX7_chest_122 rfl (HR.c hC.h0 hk) rfl (by decide) inX1 mF_X7_128 rfl ?_
    obtain ⟨ln5, lf5, hL5⟩ := hC.l0
    obtain ⟨v5, ft5, hS5, hn5, hj5⟩ := (hL5 k hk).1.str
    refine x_callR 128 (C := RJ0) C0 (k_J0_length_8abf5 l hl g _ _ _ _ _ _ hS5) dX7_chest_125 rfl mC_J0_length_8abf5 mM_X7_132 mI_J0_length_8abf5 mV_J0_length_8abf5 mN_J0 yd_J0_length_8abf5 rfl rfl ⟨Nat.le_of_ble_eq_true rfl, Nat.le_of_ble_eq_true rfl⟩ (xRecv.str C0 hS5) rfl rfl (Nat.le_of_ble_eq_true rfl) ⟨Nat.le_of_ble_eq_true rfl, Nat.le_of_ble_eq_true rfl⟩ (fun _ _ _ q => False.elim q) (fun r w1 sz1 hz hP => ?_)
    obtain ⟨rfl, rfl, rfl⟩ := hP
    refine x_st (st1 := [.int (nI (ln5 k))]) rfl ?_
    exact x_ireturn C0 dX7_chest_128 rfl rfl (Nat.le_of_ble_eq_true rfl) (Nat.le_of_ble_eq_true rfl) ⟨⟨_, rfl⟩, hC, xFr.rf, by omega⟩

set_option maxHeartbeats 4000000 in
set_option maxRecDepth 100000 in
theorem f_X7_account (l : Launch) (hl : l.stackTraces = false) (g : xg_T) (w : xw_T) (sz n : Nat) (x : Nat → Nat → Int32) (la : Nat → Nat → Nat) (t tt : Nat → Int32) (vb : Option Nat) (sg : Nat → Int32) (hC : CR g w sz n x la t tt vb sg) (wh : Int32) : xM l g yX7_account cX7_account 2 (some .int) ({ frames := 6, cells := 8, slots := 64, locals := 88 }) 8 64 [.ref (g.2 0), .int wh] w sz (fPo g w sz n x la t tt vb sg rI) (fXo g w sz n x la t tt vb sg ["java/lang/IllegalArgumentException"]) := by
  have hz9 := hC.zz
  refine xM.of RX7 hl (by decide +kernel) rfl (Nat.le_of_ble_eq_true rfl) rfl ?_
  intro p e s m args below meth cD C0 hini
  refine x_iload_n 1 1 C0 dX7_account_0 rfl rfl rfl ?_
  have hs1 : (wh.toInt < 0 ∨ 17 < wh.toInt) ∨ (wh.toInt = 0) ∨ (wh.toInt = 1) ∨ (wh.toInt = 2) ∨ (wh.toInt = 3) ∨ (wh.toInt = 4) ∨ (wh.toInt = 5) ∨ (wh.toInt = 6) ∨ (wh.toInt = 7) ∨ (wh.toInt = 8) ∨ (wh.toInt = 9) ∨ (wh.toInt = 10) ∨ (wh.toInt = 11) ∨ (wh.toInt = 12) ∨ (wh.toInt = 13) ∨ (wh.toInt = 14) ∨ (wh.toInt = 15) ∨ (wh.toInt = 16) ∨ (wh.toInt = 17) := by omega
  rcases hs1 with hs1 | hs1 | hs1 | hs1 | hs1 | hs1 | hs1 | hs1 | hs1 | hs1 | hs1 | hs1 | hs1 | hs1 | hs1 | hs1 | hs1 | hs1 | hs1
  · refine x_tabOut 235 C0 dX7_account_1 hs1 (by decide) ?_
    exact x_throwSW xNames C0 dX7_account_235 dX7_account_238 dX7_account_239 dX7_account_242 dX7_account_245 rfl rfl rfl rfl (by decide +kernel) (by decide +kernel) mK_X7_166 mN_IllegalArgumentException (xs_ldc C0.2.2.2.2.2.2.2.1.2.2 (RX7, 259, "no such account", 146) (by decide +kernel)) (xhat C0 xg_iae xh_iae (by decide +kernel)) xo_iae (xs_us C0.2.2.2.2.2.2.2.1.2.2) (xs_su C0.2.2.2.2.2.2.2.1.2.2) rfl (Nat.le_of_ble_eq_true rfl) (Nat.le_of_ble_eq_true rfl) (Nat.le_of_ble_eq_true rfl) (Nat.le_of_ble_eq_true rfl) (Nat.le_of_ble_eq_true rfl) (Nat.le_of_ble_eq_true rfl) (fun sz9 h9 => ⟨by decide, (hC.grow h9), xFr.rf, by omega⟩)
  · refine x_tabIn 88 C0 dX7_account_1 (by omega) (by omega) (by rw [hs1]; rfl) (by decide) ?_
    refine x_aload_n 0 89 C0 dX7_account_88 rfl rfl rfl ?_
    refine x_getf (v := .ref (g.2 0 + 1)) 0 92 C0 dX7_account_89 rfl hC.1.1 rfl (by decide) inX7 mF_X7_10 rfl ?_
    refine x_getf (v := .int (x 0 0)) 5 95 C0 dX7_account_92 rfl (HR.ho hC.h0) rfl (by decide) inX4 mF_X7_201 rfl ?_
    exact x_ireturn C0 dX7_account_95 rfl rfl (Nat.le_of_ble_eq_true rfl) (Nat.le_of_ble_eq_true rfl) ⟨⟨_, rfl⟩, hC, xFr.rf, by omega⟩
  · refine x_tabIn 96 C0 dX7_account_1 (by omega) (by omega) (by rw [hs1]; rfl) (by decide) ?_
    refine x_aload_n 0 97 C0 dX7_account_96 rfl rfl rfl ?_
    refine x_getf (v := .ref (g.2 0 + 1)) 0 100 C0 dX7_account_97 rfl hC.1.1 rfl (by decide) inX7 mF_X7_10 rfl ?_
    refine x_callV 103 C0 (k_X4_poundsStored l hl g _ _ _ _ _ hC.h0) dX7_account_100 rfl mC_X4_poundsStored mM_X7_210 mI_X4_poundsStored mV_X4_poundsStored mN_X4 yd_X4_poundsStored rfl rfl ⟨Nat.le_of_ble_eq_true rfl, Nat.le_of_ble_eq_true rfl⟩ (HR.ho hC.h0) rfl rfl rfl rfl (Nat.le_of_ble_eq_true rfl) ⟨Nat.le_of_ble_eq_true rfl, Nat.le_of_ble_eq_true rfl⟩ (fun _ _ _ q => False.elim q) (fun r w1 sz1 hz hP => ?_)
    obtain ⟨hr, rfl, rfl⟩ := hP
    obtain ⟨v2, rfl⟩ : ∃ v : Int32, r = some (.int v) := ⟨_, hr⟩
    have hr2 := hr
    refine x_st (st1 := [.int v2]) rfl ?_
    exact x_ireturn C0 dX7_account_103 rfl rfl (Nat.le_of_ble_eq_true rfl) (Nat.le_of_ble_eq_true rfl) ⟨⟨_, rfl⟩, hC, xFr.rf, by omega⟩
  · refine x_tabIn 104 C0 dX7_account_1 (by omega) (by omega) (by rw [hs1]; rfl) (by decide) ?_
    refine x_aload_n 0 105 C0 dX7_account_104 rfl rfl rfl ?_
    refine x_getf (v := .ref (g.2 0 + 1)) 0 108 C0 dX7_account_105 rfl hC.1.1 rfl (by decide) inX7 mF_X7_10 rfl ?_
    refine x_callV 111 C0 (k_X4_poundsInChests l hl g _ _ _ _ _ hC.h0) dX7_account_108 rfl mC_X4_poundsInChests mM_X7_213 mI_X4_poundsInChests mV_X4_poundsInChests mN_X4 yd_X4_poundsInChests rfl rfl ⟨Nat.le_of_ble_eq_true rfl, Nat.le_of_ble_eq_true rfl⟩ (HR.ho hC.h0) rfl rfl rfl rfl (Nat.le_of_ble_eq_true rfl) ⟨Nat.le_of_ble_eq_true rfl, Nat.le_of_ble_eq_true rfl⟩ (fun _ _ _ q => False.elim q) (fun r w1 sz1 hz hP => ?_)
    obtain ⟨hr, rfl, rfl⟩ := hP
    obtain ⟨v3, rfl⟩ : ∃ v : Int32, r = some (.int v) := ⟨_, hr⟩
    have hr3 := hr
    refine x_st (st1 := [.int v3]) rfl ?_
    exact x_ireturn C0 dX7_account_111 rfl rfl (Nat.le_of_ble_eq_true rfl) (Nat.le_of_ble_eq_true rfl) ⟨⟨_, rfl⟩, hC, xFr.rf, by omega⟩
  · refine x_tabIn 112 C0 dX7_account_1 (by omega) (by omega) (by rw [hs1]; rfl) (by decide) ?_
    refine x_aload_n 0 113 C0 dX7_account_112 rfl rfl rfl ?_
    refine x_getf (v := .ref (g.2 0 + 1)) 0 116 C0 dX7_account_113 rfl hC.1.1 rfl (by decide) inX7 mF_X7_10 rfl ?_
    refine x_getf (v := .int (x 0 7)) 10 119 C0 dX7_account_116 rfl (HR.ho hC.h0) rfl (by decide) inX4 mF_X7_216 rfl ?_
    exact x_ireturn C0 dX7_account_119 rfl rfl (Nat.le_of_ble_eq_true rfl) (Nat.le_of_ble_eq_true rfl) ⟨⟨_, rfl⟩, hC, xFr.rf, by omega⟩
  · refine x_tabIn 120 C0 dX7_account_1 (by omega) (by omega) (by rw [hs1]; rfl) (by decide) ?_
    refine x_aload_n 0 121 C0 dX7_account_120 rfl rfl rfl ?_
    refine x_getf (v := .ref (g.2 0 + 1)) 0 124 C0 dX7_account_121 rfl hC.1.1 rfl (by decide) inX7 mF_X7_10 rfl ?_
    refine x_getf (v := .int (x 0 8)) 11 127 C0 dX7_account_124 rfl (HR.ho hC.h0) rfl (by decide) inX4 mF_X7_219 rfl ?_
    exact x_ireturn C0 dX7_account_127 rfl rfl (Nat.le_of_ble_eq_true rfl) (Nat.le_of_ble_eq_true rfl) ⟨⟨_, rfl⟩, hC, xFr.rf, by omega⟩
  · refine x_tabIn 128 C0 dX7_account_1 (by omega) (by omega) (by rw [hs1]; rfl) (by decide) ?_
    refine x_aload_n 0 129 C0 dX7_account_128 rfl rfl rfl ?_
    refine x_getf (v := .ref (g.2 0 + 1)) 0 132 C0 dX7_account_129 rfl hC.1.1 rfl (by decide) inX7 mF_X7_10 rfl ?_
    refine x_getf (v := .int (x 0 6)) 9 135 C0 dX7_account_132 rfl (HR.ho hC.h0) rfl (by decide) inX4 mF_X7_222 rfl ?_
    exact x_ireturn C0 dX7_account_135 rfl rfl (Nat.le_of_ble_eq_true rfl) (Nat.le_of_ble_eq_true rfl) ⟨⟨_, rfl⟩, hC, xFr.rf, by omega⟩
  · refine x_tabIn 136 C0 dX7_account_1 (by omega) (by omega) (by rw [hs1]; rfl) (by decide) ?_
    refine x_aload_n 0 137 C0 dX7_account_136 rfl rfl rfl ?_
    refine x_getf (v := .ref (g.2 0 + 1)) 0 140 C0 dX7_account_137 rfl hC.1.1 rfl (by decide) inX7 mF_X7_10 rfl ?_
    refine x_getf (v := .int (x 0 1)) 3 143 C0 dX7_account_140 rfl (HR.ho hC.h0) rfl (by decide) inX4 mF_X7_79 rfl ?_
    exact x_ireturn C0 dX7_account_143 rfl rfl (Nat.le_of_ble_eq_true rfl) (Nat.le_of_ble_eq_true rfl) ⟨⟨_, rfl⟩, hC, xFr.rf, by omega⟩
  · refine x_tabIn 144 C0 dX7_account_1 (by omega) (by omega) (by rw [hs1]; rfl) (by decide) ?_
    refine x_aload_n 0 145 C0 dX7_account_144 rfl rfl rfl ?_
    refine x_getf (v := .ref (g.2 0 + 1)) 0 148 C0 dX7_account_145 rfl hC.1.1 rfl (by decide) inX7 mF_X7_10 rfl ?_
    refine x_getf (v := .int (x 0 2)) 4 151 C0 dX7_account_148 rfl (HR.ho hC.h0) rfl (by decide) inX4 mF_X7_72 rfl ?_
    exact x_ireturn C0 dX7_account_151 rfl rfl (Nat.le_of_ble_eq_true rfl) (Nat.le_of_ble_eq_true rfl) ⟨⟨_, rfl⟩, hC, xFr.rf, by omega⟩
  · refine x_tabIn 152 C0 dX7_account_1 (by omega) (by omega) (by rw [hs1]; rfl) (by decide) ?_
    refine x_aload_n 0 153 C0 dX7_account_152 rfl rfl rfl ?_
    refine x_getf (v := .ref (g.2 0 + 1)) 0 156 C0 dX7_account_153 rfl hC.1.1 rfl (by decide) inX7 mF_X7_10 rfl ?_
    refine x_getf (v := .int (x 0 3)) 2 159 C0 dX7_account_156 rfl (HR.ho hC.h0) rfl (by decide) inX4 mF_X7_86 rfl ?_
    exact x_ireturn C0 dX7_account_159 rfl rfl (Nat.le_of_ble_eq_true rfl) (Nat.le_of_ble_eq_true rfl) ⟨⟨_, rfl⟩, hC, xFr.rf, by omega⟩
  · refine x_tabIn 160 C0 dX7_account_1 (by omega) (by omega) (by rw [hs1]; rfl) (by decide) ?_
    refine x_aload_n 0 161 C0 dX7_account_160 rfl rfl rfl ?_
    refine x_getf (v := .ref (g.2 0 + 1)) 0 164 C0 dX7_account_161 rfl hC.1.1 rfl (by decide) inX7 mF_X7_10 rfl ?_
    refine x_iconst (v := 0) 165 C0 dX7_account_164 rfl (by decide) ?_
    refine x_callV 168 C0 (k_X4_chestsAt l hl g _ _ _ _ _ hC.h0 0) dX7_account_165 rfl mC_X4_chestsAt mM_X7_183 mI_X4_chestsAt mV_X4_chestsAt mN_X4 yd_X4_chestsAt rfl rfl ⟨Nat.le_of_ble_eq_true rfl, Nat.le_of_ble_eq_true rfl⟩ (HR.ho hC.h0) rfl rfl rfl rfl (Nat.le_of_ble_eq_true rfl) ⟨Nat.le_of_ble_eq_true rfl, Nat.le_of_ble_eq_true rfl⟩ (fun _ _ _ q => False.elim q) (fun r w1 sz1 hz hP => ?_)
    obtain ⟨hr, rfl, rfl⟩ := hP
    obtain ⟨v4, rfl⟩ : ∃ v : Int32, r = some (.int v) := ⟨_, hr⟩
    have hr4 := hr
    refine x_st (st1 := [.int v4]) rfl ?_
    exact x_ireturn C0 dX7_account_168 rfl rfl (Nat.le_of_ble_eq_true rfl) (Nat.le_of_ble_eq_true rfl) ⟨⟨_, rfl⟩, hC, xFr.rf, by omega⟩
  · refine x_tabIn 169 C0 dX7_account_1 (by omega) (by omega) (by rw [hs1]; rfl) (by decide) ?_
    refine x_aload_n 0 170 C0 dX7_account_169 rfl rfl rfl ?_
    refine x_getf (v := .ref (g.2 0 + 1)) 0 173 C0 dX7_account_170 rfl hC.1.1 rfl (by decide) inX7 mF_X7_10 rfl ?_
    refine x_iconst (v := 1) 174 C0 dX7_account_173 rfl (by decide) ?_
    refine x_callV 177 C0 (k_X4_chestsAt l hl g _ _ _ _ _ hC.h0 1) dX7_account_174 rfl mC_X4_chestsAt mM_X7_183 mI_X4_chestsAt mV_X4_chestsAt mN_X4 yd_X4_chestsAt rfl rfl ⟨Nat.le_of_ble_eq_true rfl, Nat.le_of_ble_eq_true rfl⟩ (HR.ho hC.h0) rfl rfl rfl rfl (Nat.le_of_ble_eq_true rfl) ⟨Nat.le_of_ble_eq_true rfl, Nat.le_of_ble_eq_true rfl⟩ (fun _ _ _ q => False.elim q) (fun r w1 sz1 hz hP => ?_)
    obtain ⟨hr, rfl, rfl⟩ := hP
    obtain ⟨v5, rfl⟩ : ∃ v : Int32, r = some (.int v) := ⟨_, hr⟩
    have hr5 := hr
    refine x_st (st1 := [.int v5]) rfl ?_
    exact x_ireturn C0 dX7_account_177 rfl rfl (Nat.le_of_ble_eq_true rfl) (Nat.le_of_ble_eq_true rfl) ⟨⟨_, rfl⟩, hC, xFr.rf, by omega⟩
  · refine x_tabIn 178 C0 dX7_account_1 (by omega) (by omega) (by rw [hs1]; rfl) (by decide) ?_
    refine x_aload_n 0 179 C0 dX7_account_178 rfl rfl rfl ?_
    refine x_getf (v := .ref (g.2 0 + 1)) 0 182 C0 dX7_account_179 rfl hC.1.1 rfl (by decide) inX7 mF_X7_10 rfl ?_
    refine x_iconst (v := 2) 183 C0 dX7_account_182 rfl (by decide) ?_
    refine x_callV 186 C0 (k_X4_chestsAt l hl g _ _ _ _ _ hC.h0 2) dX7_account_183 rfl mC_X4_chestsAt mM_X7_183 mI_X4_chestsAt mV_X4_chestsAt mN_X4 yd_X4_chestsAt rfl rfl ⟨Nat.le_of_ble_eq_true rfl, Nat.le_of_ble_eq_true rfl⟩ (HR.ho hC.h0) rfl rfl rfl rfl (Nat.le_of_ble_eq_true rfl) ⟨Nat.le_of_ble_eq_true rfl, Nat.le_of_ble_eq_true rfl⟩ (fun _ _ _ q => False.elim q) (fun r w1 sz1 hz hP => ?_)
    obtain ⟨hr, rfl, rfl⟩ := hP
    obtain ⟨v6, rfl⟩ : ∃ v : Int32, r = some (.int v) := ⟨_, hr⟩
    have hr6 := hr
    refine x_st (st1 := [.int v6]) rfl ?_
    exact x_ireturn C0 dX7_account_186 rfl rfl (Nat.le_of_ble_eq_true rfl) (Nat.le_of_ble_eq_true rfl) ⟨⟨_, rfl⟩, hC, xFr.rf, by omega⟩
  · refine x_tabIn 187 C0 dX7_account_1 (by omega) (by omega) (by rw [hs1]; rfl) (by decide) ?_
    refine x_aload_n 0 188 C0 dX7_account_187 rfl rfl rfl ?_
    refine x_getf (v := .ref (g.2 0 + 1)) 0 191 C0 dX7_account_188 rfl hC.1.1 rfl (by decide) inX7 mF_X7_10 rfl ?_
    refine x_callV 194 C0 (k_X4_shipRoom l hl g _ _ _ _ _ hC.h0) dX7_account_191 rfl mC_X4_shipRoom mM_X7_189 mI_X4_shipRoom mV_X4_shipRoom mN_X4 yd_X4_shipRoom rfl rfl ⟨Nat.le_of_ble_eq_true rfl, Nat.le_of_ble_eq_true rfl⟩ (HR.ho hC.h0) rfl rfl rfl rfl (Nat.le_of_ble_eq_true rfl) ⟨Nat.le_of_ble_eq_true rfl, Nat.le_of_ble_eq_true rfl⟩ (fun _ _ _ q => False.elim q) (fun r w1 sz1 hz hP => ?_)
    obtain ⟨hr, rfl, rfl⟩ := hP
    obtain ⟨v7, rfl⟩ : ∃ v : Int32, r = some (.int v) := ⟨_, hr⟩
    have hr7 := hr
    refine x_st (st1 := [.int v7]) rfl ?_
    exact x_ireturn C0 dX7_account_194 rfl rfl (Nat.le_of_ble_eq_true rfl) (Nat.le_of_ble_eq_true rfl) ⟨⟨_, rfl⟩, hC, xFr.rf, by omega⟩
  · refine x_tabIn 195 C0 dX7_account_1 (by omega) (by omega) (by rw [hs1]; rfl) (by decide) ?_
    refine x_aload_n 0 196 C0 dX7_account_195 rfl rfl rfl ?_
    refine x_getf (v := .ref (g.2 0 + 1)) 0 199 C0 dX7_account_196 rfl hC.1.1 rfl (by decide) inX7 mF_X7_10 rfl ?_
    refine x_getf (v := .int (x 0 9)) 8 202 C0 dX7_account_199 rfl (HR.ho hC.h0) rfl (by decide) inX4 mF_X7_249 rfl ?_
    exact x_ireturn C0 dX7_account_202 rfl rfl (Nat.le_of_ble_eq_true rfl) (Nat.le_of_ble_eq_true rfl) ⟨⟨_, rfl⟩, hC, xFr.rf, by omega⟩
  · refine x_tabIn 203 C0 dX7_account_1 (by omega) (by omega) (by rw [hs1]; rfl) (by decide) ?_
    refine x_aload_n 0 204 C0 dX7_account_203 rfl rfl rfl ?_
    refine x_getf (v := .ref (g.2 0 + 1)) 0 207 C0 dX7_account_204 rfl hC.1.1 rfl (by decide) inX7 mF_X7_10 rfl ?_
    refine x_getf (v := .int (x 0 4)) 7 210 C0 dX7_account_207 rfl (HR.ho hC.h0) rfl (by decide) inX4 mF_X7_252 rfl ?_
    exact x_ireturn C0 dX7_account_210 rfl rfl (Nat.le_of_ble_eq_true rfl) (Nat.le_of_ble_eq_true rfl) ⟨⟨_, rfl⟩, hC, xFr.rf, by omega⟩
  · refine x_tabIn 211 C0 dX7_account_1 (by omega) (by omega) (by rw [hs1]; rfl) (by decide) ?_
    refine x_aload_n 0 212 C0 dX7_account_211 rfl rfl rfl ?_
    refine x_getf (v := .ref (g.2 0 + 1)) 0 215 C0 dX7_account_212 rfl hC.1.1 rfl (by decide) inX7 mF_X7_10 rfl ?_
    refine x_getf (v := .int (x 0 5)) 6 218 C0 dX7_account_215 rfl (HR.ho hC.h0) rfl (by decide) inX4 mF_X7_204 rfl ?_
    exact x_ireturn C0 dX7_account_218 rfl rfl (Nat.le_of_ble_eq_true rfl) (Nat.le_of_ble_eq_true rfl) ⟨⟨_, rfl⟩, hC, xFr.rf, by omega⟩
  · refine x_tabIn 219 C0 dX7_account_1 (by omega) (by omega) (by rw [hs1]; rfl) (by decide) ?_
    refine x_aload_n 0 220 C0 dX7_account_219 rfl rfl rfl ?_
    refine x_getf (v := .ref (g.2 0 + 256)) 4 223 C0 dX7_account_220 rfl hC.1.1 rfl (by decide) inX7 mF_X7_33 rfl ?_
    refine x_getf (v := .int (tt 0)) 1 226 C0 dX7_account_223 rfl hC.1.2.2.2.1 rfl (by decide) inX2 mF_X7_254 rfl ?_
    exact x_ireturn C0 dX7_account_226 rfl rfl (Nat.le_of_ble_eq_true rfl) (Nat.le_of_ble_eq_true rfl) ⟨⟨_, rfl⟩, hC, xFr.rf, by omega⟩
  · refine x_tabIn 227 C0 dX7_account_1 (by omega) (by omega) (by rw [hs1]; rfl) (by decide) ?_
    refine x_aload_n 0 228 C0 dX7_account_227 rfl rfl rfl ?_
    refine x_getf (v := .ref (g.2 0 + 47)) 3 231 C0 dX7_account_228 rfl hC.1.1 rfl (by decide) inX7 mF_X7_26 rfl ?_
    refine x_getf (v := .int (t 2)) 2 234 C0 dX7_account_231 rfl hC.1.2.1 rfl (by decide) inX3 mF_X7_256 rfl ?_
    exact x_ireturn C0 dX7_account_234 rfl rfl (Nat.le_of_ble_eq_true rfl) (Nat.le_of_ble_eq_true rfl) ⟨⟨_, rfl⟩, hC, xFr.rf, by omega⟩

set_option maxHeartbeats 4000000 in
set_option maxRecDepth 100000 in
theorem f_X7_ranked (l : Launch) (hl : l.stackTraces = false) (g : xg_T) (w : xw_T) (sz n : Nat) (x : Nat → Nat → Int32) (la : Nat → Nat → Nat) (t tt : Nat → Int32) (vb : Option Nat) (sg : Nat → Int32) (hC : CR g w sz n x la t tt vb sg) (pl : Int32) : xM l g yX7_ranked cX7_ranked 3 (some .int) ({ frames := 6, cells := 8, slots := 64, locals := 92 }) 8 64 [.ref (g.2 0), .int pl] w sz (fPo g w sz n x la t tt vb sg rI) (fXo g w sz n x la t tt vb sg ["java/util/NoSuchElementException"]) := by
  have hz9 := hC.zz
  refine xM.of RX7 hl (by decide +kernel) rfl (Nat.le_of_ble_eq_true rfl) rfl ?_
  intro p e s m args below meth cD C0 hini
  refine x_aload_n 0 1 C0 dX7_ranked_0 rfl rfl rfl ?_
  refine x_getf (v := .ref (g.2 0 + 1)) 0 4 C0 dX7_ranked_1 rfl hC.1.1 rfl (by decide) inX7 mF_X7_10 rfl ?_
  refine x_iload_n 1 5 C0 dX7_ranked_4 rfl rfl rfl ?_
  refine x_callV 8 C0 (k_X4_chestAtPlace l hl g _ _ _ _ _ hC.h0 pl) dX7_ranked_5 rfl mC_X4_chestAtPlace mM_X7_174 mI_X4_chestAtPlace mV_X4_chestAtPlace mN_X4 yd_X4_chestAtPlace rfl rfl ⟨Nat.le_of_ble_eq_true rfl, Nat.le_of_ble_eq_true rfl⟩ (HR.ho hC.h0) rfl rfl rfl rfl (Nat.le_of_ble_eq_true rfl) ⟨Nat.le_of_ble_eq_true rfl, Nat.le_of_ble_eq_true rfl⟩ (fun _ _ _ q => False.elim q) (fun r w1 sz1 hz hP => ?_)
  obtain ⟨hr, rfl, rfl⟩ := hP
  obtain ⟨v1, rfl⟩ : ∃ v : Int32, r = some (.int v) := ⟨_, hr⟩
  have hr1 := hr
  refine x_st (st1 := [.int v1]) rfl ?_
  refine x_istore_n [(2, .int v1), (0, .ref (g.2 0)), (1, .int pl)] 9 C0 dX7_ranked_8 rfl rfl (by decide) rfl ?_
  refine x_lv (lv1 := [(0, .ref (g.2 0)), (1, .int pl), (2, .int v1)]) [1, 2, 0] rfl ?_
  refine x_iload_n 2 10 C0 dX7_ranked_9 rfl rfl rfl ?_
  refine x_if_ge 23 13 C0 dX7_ranked_10 rfl (by decide) (fun c2 => ?_) (fun c2 => ?_)
  · have c2' := Int32.not_lt.mpr c2
    refine x_iload_n 2 24 C0 dX7_ranked_23 rfl rfl rfl ?_
    exact x_ireturn C0 dX7_ranked_24 rfl rfl (Nat.le_of_ble_eq_true rfl) (Nat.le_of_ble_eq_true rfl) ⟨⟨_, rfl⟩, hC, xFr.rf, by omega⟩
  · have c2' := Int32.not_le.mp c2
    exact x_throwN C0 dX7_ranked_13 dX7_ranked_16 dX7_ranked_17 dX7_ranked_19 dX7_ranked_22 rfl rfl rfl rfl (by decide +kernel) mK_X7_137 mN_NoSuchElementException (xs_ldc C0.2.2.2.2.2.2.2.1.2.2 (RX7, 178, "no such place", 142) (by decide +kernel)) (xhat C0 xg_nse xh_nse (by decide +kernel)) xo_nse (xs_us C0.2.2.2.2.2.2.2.1.2.2) (xs_su C0.2.2.2.2.2.2.2.1.2.2) rfl (Nat.le_of_ble_eq_true rfl) (Nat.le_of_ble_eq_true rfl) (Nat.le_of_ble_eq_true rfl) (Nat.le_of_ble_eq_true rfl) (Nat.le_of_ble_eq_true rfl) (Nat.le_of_ble_eq_true rfl) (fun sz9 h9 => ⟨by decide, (hC.grow h9), xFr.rf, by omega⟩)

set_option maxHeartbeats 4000000 in
set_option maxRecDepth 100000 in
theorem f_X7_bestGarden (l : Launch) (hl : l.stackTraces = false) (g : xg_T) (w : xw_T) (sz n : Nat) (x : Nat → Nat → Int32) (la : Nat → Nat → Nat) (t tt : Nat → Int32) (vb : Option Nat) (sg : Nat → Int32) (hC : CR g w sz n x la t tt vb sg) : xM l g yX7_bestGarden cX7_bestGarden 3 (some .int) ({ frames := 4, cells := 8, slots := 64, locals := 90 }) 8 64 [.ref (g.2 0)] w sz (fPo g w sz n x la t tt vb sg rI) (fun _ _ _ => False) := by
  have hz9 := hC.zz
  refine xM.of RX7 hl (by decide +kernel) rfl (Nat.le_of_ble_eq_true rfl) rfl ?_
  intro p e s m args below meth cD C0 hini
  refine x_iconst (v := 0) 1 C0 dX7_bestGarden_0 rfl (by decide) ?_
  refine x_istore_n [(1, .int 0), (0, .ref (g.2 0))] 2 C0 dX7_bestGarden_1 rfl rfl (by decide) rfl ?_
  refine x_lv (lv1 := [(0, .ref (g.2 0)), (1, .int 0)]) [1, 0] rfl ?_
  refine x_iconst (v := 1) 3 C0 dX7_bestGarden_2 rfl (by decide) ?_
  refine x_istore_n [(2, .int 1), (0, .ref (g.2 0)), (1, .int 0)] 4 C0 dX7_bestGarden_3 rfl rfl (by decide) rfl ?_
  refine x_lv (lv1 := [(0, .ref (g.2 0)), (1, .int 0), (2, .int 1)]) [1, 2, 0] rfl ?_
  have loop4 : ∀ (N i : Nat) (b : Int32), i ≤ 6 → 6 - i < N → xV p l e ({ frames := 4, cells := 8, slots := 64, locals := 90 }) s m args below meth cD (xQ g below (fPo g w sz n x la t tt vb sg rI) (fun _ _ _ => False) args s 8 64) g 3 w sz (0) (0) 4 [(0, .ref (g.2 0)), (1, .int b), (2, .int (nI (i)))] [] := by
    intro N
    induction N with
    | zero => intro i b h1 h2; omega
    | succ N ih =>
      intro i b hi hN
      refine x_iload_n 2 5 C0 dX7_bestGarden_4 rfl rfl rfl ?_
      refine x_bipush (v := 6) 7 C0 dX7_bestGarden_5 rfl (by decide) ?_
      refine x_icmp_ge 30 10 C0 dX7_bestGarden_7 rfl (by decide) (fun c1 => ?_) (fun c1 => ?_)
      · refine x_iload_n 1 31 C0 dX7_bestGarden_30 rfl rfl rfl ?_
        exact x_ireturn C0 dX7_bestGarden_31 rfl rfl (Nat.le_of_ble_eq_true rfl) (Nat.le_of_ble_eq_true rfl) ⟨⟨_, rfl⟩, hC, xFr.rf, by omega⟩
      · have hi2 := ix_lt 6 rfl (by decide) hi c1
        refine x_aload_n 0 11 C0 dX7_bestGarden_10 rfl rfl rfl ?_
        refine x_getf (v := .ref (g.2 0 + 1)) 0 14 C0 dX7_bestGarden_11 rfl hC.1.1 rfl (by decide) inX7 mF_X7_10 rfl ?_
        refine x_iload_n 2 15 C0 dX7_bestGarden_14 rfl rfl rfl ?_
        refine x_iload_n 1 16 C0 dX7_bestGarden_15 rfl rfl rfl ?_
        refine x_callV 19 C0 (k_X4_isBetterGarden l hl g _ _ _ _ _ hC.h0 (nI (i)) b) dX7_bestGarden_16 rfl mC_X4_isBetterGarden mM_X7_61 mI_X4_isBetterGarden mV_X4_isBetterGarden mN_X4 yd_X4_isBetterGarden rfl rfl ⟨Nat.le_of_ble_eq_true rfl, Nat.le_of_ble_eq_true rfl⟩ (HR.ho hC.h0) rfl rfl rfl rfl (Nat.le_of_ble_eq_true rfl) ⟨Nat.le_of_ble_eq_true rfl, Nat.le_of_ble_eq_true rfl⟩ (fun _ _ _ q => False.elim q) (fun r w1 sz1 hz hP => ?_)
        obtain ⟨hr, rfl, rfl⟩ := hP
        obtain ⟨v2, rfl, hv2⟩ : ∃ v : Int32, r = some (.int v) ∧ isB v := ⟨_, hr, isB_bi _⟩
        refine x_st (st1 := [.int v2]) rfl ?_
        refine x_if_eq 24 22 C0 dX7_bestGarden_19 rfl (by decide) (fun c3 => ?_) (fun c3 => ?_)
        · refine x_iinc [(2, .int (nI (i + 1))), (0, .ref (g.2 0)), (1, .int b)] 2 27 C0 dX7_bestGarden_24 rfl rfl (nI_1 (i)) (by decide) rfl ?_
          refine x_lv (lv1 := [(0, .ref (g.2 0)), (1, .int b), (2, .int (nI (i + 1)))]) [1, 2, 0] rfl ?_
          refine x_goto 4 C0 dX7_bestGarden_27 (by decide) ?_
          exact x_lv [0, 1, 2] rfl (ih (i + 1) _ (by omega) (by omega))
        · refine x_iload_n 2 23 C0 dX7_bestGarden_22 rfl rfl rfl ?_
          refine x_istore_n [(1, .int (nI (i))), (0, .ref (g.2 0)), (2, .int (nI (i)))] 24 C0 dX7_bestGarden_23 rfl rfl (by decide) rfl ?_
          refine x_lv (lv1 := [(0, .ref (g.2 0)), (1, .int (nI (i))), (2, .int (nI (i)))]) [1, 0, 2] rfl ?_
          refine x_iinc [(2, .int (nI (i + 1))), (0, .ref (g.2 0)), (1, .int (nI (i)))] 2 27 C0 dX7_bestGarden_24 rfl rfl (nI_1 (i)) (by decide) rfl ?_
          refine x_lv (lv1 := [(0, .ref (g.2 0)), (1, .int (nI (i))), (2, .int (nI (i + 1)))]) [1, 2, 0] rfl ?_
          refine x_goto 4 C0 dX7_bestGarden_27 (by decide) ?_
          exact x_lv [0, 1, 2] rfl (ih (i + 1) _ (by omega) (by omega))
  exact x_lv [0, 1, 2] rfl (loop4 7 1 0 (by omega) (by omega))

set_option maxHeartbeats 4000000 in
set_option maxRecDepth 100000 in
theorem f_X7_reachedIn (l : Launch) (hl : l.stackTraces = false) (g : xg_T) (w : xw_T) (sz n : Nat) (x : Nat → Nat → Int32) (la : Nat → Nat → Nat) (t tt : Nat → Int32) (vb : Option Nat) (sg : Nat → Int32) (hC : CR g w sz n x la t tt vb sg) : xM l g yX7_reachedIn cX7_reachedIn 2 (some .int) ({ frames := 2, cells := 8, slots := 64, locals := 34 }) 8 64 [.ref (g.2 0)] w sz (fPo g w sz n x la t tt vb sg rI) (fun _ _ _ => False) := by
  have hz9 := hC.zz
  refine xM.of RX7 hl (by decide +kernel) rfl (Nat.le_of_ble_eq_true rfl) rfl ?_
  intro p e s m args below meth cD C0 hini
  refine x_iconst (v := 0) 1 C0 dX7_reachedIn_0 rfl (by decide) ?_
  refine x_istore_n [(1, .int 0), (0, .ref (g.2 0))] 2 C0 dX7_reachedIn_1 rfl rfl (by decide) rfl ?_
  refine x_lv (lv1 := [(0, .ref (g.2 0)), (1, .int 0)]) [1, 0] rfl ?_
  have loop2 : ∀ (N i : Nat), i ≤ 12 → 12 - i < N → xV p l e ({ frames := 2, cells := 8, slots := 64, locals := 34 }) s m args below meth cD (xQ g below (fPo g w sz n x la t tt vb sg rI) (fun _ _ _ => False) args s 8 64) g 2 w sz (0) (0) 2 [(0, .ref (g.2 0)), (1, .int (nI i))] [] := by
    intro N
    induction N with
    | zero => intro i h1 h2; omega
    | succ N ih =>
      intro i hi hN
      refine x_iload_n 1 3 C0 dX7_reachedIn_2 rfl rfl rfl ?_
      refine x_bipush (v := 12) 5 C0 dX7_reachedIn_3 rfl (by decide) ?_
      refine x_icmp_ge 26 8 C0 dX7_reachedIn_5 rfl (by decide) (fun c1 => ?_) (fun c1 => ?_)
      · refine x_iload_n 1 27 C0 dX7_reachedIn_26 rfl rfl rfl ?_
        exact x_ireturn C0 dX7_reachedIn_27 rfl rfl (Nat.le_of_ble_eq_true rfl) (Nat.le_of_ble_eq_true rfl) ⟨⟨_, rfl⟩, hC, xFr.rf, by omega⟩
      · have hi2 := ix_lt 12 rfl (by decide) hi c1
        refine x_aload_n 0 9 C0 dX7_reachedIn_8 rfl rfl rfl ?_
        refine x_getf (v := .ref (g.2 0 + 1)) 0 12 C0 dX7_reachedIn_9 rfl hC.1.1 rfl (by decide) inX7 mF_X7_10 rfl ?_
        refine x_iload_n 1 13 C0 dX7_reachedIn_12 rfl rfl rfl ?_
        refine x_callV 16 C0 (k_X4_heightIn l hl g _ _ _ _ _ hC.h0 (nI i)) dX7_reachedIn_13 rfl mC_X4_heightIn mM_X7_198 mI_X4_heightIn mV_X4_heightIn mN_X4 yd_X4_heightIn rfl rfl ⟨Nat.le_of_ble_eq_true rfl, Nat.le_of_ble_eq_true rfl⟩ (HR.ho hC.h0) rfl rfl rfl rfl (Nat.le_of_ble_eq_true rfl) ⟨Nat.le_of_ble_eq_true rfl, Nat.le_of_ble_eq_true rfl⟩ (fun _ _ _ q => False.elim q) (fun r w1 sz1 hz hP => ?_)
        obtain ⟨hr, rfl, rfl⟩ := hP
        obtain ⟨v2, rfl⟩ : ∃ v : Int32, r = some (.int v) := ⟨_, hr⟩
        have hr2 := hr
        refine x_st (st1 := [.int v2]) rfl ?_
        refine x_iconst (v := 3) 17 C0 dX7_reachedIn_16 rfl (by decide) ?_
        refine x_icmp_ge 26 20 C0 dX7_reachedIn_17 rfl (by decide) (fun c3 => ?_) (fun c3 => ?_)
        · have c3' := Int32.not_lt.mpr c3
          refine x_iload_n 1 27 C0 dX7_reachedIn_26 rfl rfl rfl ?_
          exact x_ireturn C0 dX7_reachedIn_27 rfl rfl (Nat.le_of_ble_eq_true rfl) (Nat.le_of_ble_eq_true rfl) ⟨⟨_, rfl⟩, hC, xFr.rf, by omega⟩
        · have c3' := Int32.not_le.mp c3
          refine x_iinc [(1, .int (nI (i + 1))), (0, .ref (g.2 0))] 1 23 C0 dX7_reachedIn_20 rfl rfl (nI_1 i) (by decide) rfl ?_
          refine x_lv (lv1 := [(0, .ref (g.2 0)), (1, .int (nI (i + 1)))]) [1, 0] rfl ?_
          refine x_goto 2 C0 dX7_reachedIn_23 (by decide) ?_
          exact x_lv [0, 1] rfl (ih (i + 1) (by omega) (by omega))
  exact x_lv [0, 1] rfl (loop2 13 0 (by omega) (by omega))

set_option maxHeartbeats 4000000 in
set_option maxRecDepth 100000 in
theorem f_X7_isWell (l : Launch) (hl : l.stackTraces = false) (g : xg_T) (w : xw_T) (sz n : Nat) (x : Nat → Nat → Int32) (la : Nat → Nat → Nat) (t tt : Nat → Int32) (vb : Option Nat) (sg : Nat → Int32) (hC : CR g w sz n x la t tt vb sg) : xM l g yX7_isWell cX7_isWell 2 (some .boolean) ({ frames := 4, cells := 8, slots := 64, locals := 88 }) 8 64 [.ref (g.2 0)] w sz (fPo g w sz n x la t tt vb sg rI) (fun _ _ _ => False) := by
  have hz9 := hC.zz
  refine xM.of RX7 hl (by decide +kernel) rfl (Nat.le_of_ble_eq_true rfl) rfl ?_
  intro p e s m args below meth cD C0 hini
  refine x_aload_n 0 1 C0 dX7_isWell_0 rfl rfl rfl ?_
  refine x_getf (v := .ref (g.2 0 + 1)) 0 4 C0 dX7_isWell_1 rfl hC.1.1 rfl (by decide) inX7 mF_X7_10 rfl ?_
  refine x_callV 7 C0 (k_X4_poundsStored l hl g _ _ _ _ _ hC.h0) dX7_isWell_4 rfl mC_X4_poundsStored mM_X7_210 mI_X4_poundsStored mV_X4_poundsStored mN_X4 yd_X4_poundsStored rfl rfl ⟨Nat.le_of_ble_eq_true rfl, Nat.le_of_ble_eq_true rfl⟩ (HR.ho hC.h0) rfl rfl rfl rfl (Nat.le_of_ble_eq_true rfl) ⟨Nat.le_of_ble_eq_true rfl, Nat.le_of_ble_eq_true rfl⟩ (fun _ _ _ q => False.elim q) (fun r w1 sz1 hz hP => ?_)
  obtain ⟨hr, rfl, rfl⟩ := hP
  obtain ⟨v1, rfl⟩ : ∃ v : Int32, r = some (.int v) := ⟨_, hr⟩
  have hr1 := hr
  refine x_st (st1 := [.int v1]) rfl ?_
  refine x_aload_n 0 8 C0 dX7_isWell_7 rfl rfl rfl ?_
  refine x_getf (v := .ref (g.2 0 + 1)) 0 11 C0 dX7_isWell_8 rfl hC.1.1 rfl (by decide) inX7 mF_X7_10 rfl ?_
  refine x_callV 14 C0 (k_X4_poundsInChests l hl g _ _ _ _ _ hC.h0) dX7_isWell_11 rfl mC_X4_poundsInChests mM_X7_213 mI_X4_poundsInChests mV_X4_poundsInChests mN_X4 yd_X4_poundsInChests rfl rfl ⟨Nat.le_of_ble_eq_true rfl, Nat.le_of_ble_eq_true rfl⟩ (HR.ho hC.h0) rfl rfl rfl rfl (Nat.le_of_ble_eq_true rfl) ⟨Nat.le_of_ble_eq_true rfl, Nat.le_of_ble_eq_true rfl⟩ (fun _ _ _ q => False.elim q) (fun r w1 sz1 hz hP => ?_)
  obtain ⟨hr, rfl, rfl⟩ := hP
  obtain ⟨v2, rfl⟩ : ∃ v : Int32, r = some (.int v) := ⟨_, hr⟩
  have hr2 := hr
  refine x_st (st1 := [.int v2, .int v1]) rfl ?_
  refine x_iadd 15 C0 dX7_isWell_14 rfl ?_
  refine x_aload_n 0 16 C0 dX7_isWell_15 rfl rfl rfl ?_
  refine x_getf (v := .ref (g.2 0 + 1)) 0 19 C0 dX7_isWell_16 rfl hC.1.1 rfl (by decide) inX7 mF_X7_10 rfl ?_
  refine x_getf (v := .int (x 0 7)) 10 22 C0 dX7_isWell_19 rfl (HR.ho hC.h0) rfl (by decide) inX4 mF_X7_216 rfl ?_
  refine x_iadd 23 C0 dX7_isWell_22 rfl ?_
  refine x_aload_n 0 24 C0 dX7_isWell_23 rfl rfl rfl ?_
  refine x_getf (v := .ref (g.2 0 + 1)) 0 27 C0 dX7_isWell_24 rfl hC.1.1 rfl (by decide) inX7 mF_X7_10 rfl ?_
  refine x_getf (v := .int (x 0 8)) 11 30 C0 dX7_isWell_27 rfl (HR.ho hC.h0) rfl (by decide) inX4 mF_X7_219 rfl ?_
  refine x_iadd 31 C0 dX7_isWell_30 rfl ?_
  refine x_istore_n [(1, .int (((v1 + v2) + (x 0 7)) + (x 0 8))), (0, .ref (g.2 0))] 32 C0 dX7_isWell_31 rfl rfl (by decide) rfl ?_
  refine x_lv (lv1 := [(0, .ref (g.2 0)), (1, .int (((v1 + v2) + (x 0 7)) + (x 0 8)))]) [1, 0] rfl ?_
  refine x_iload_n 1 33 C0 dX7_isWell_32 rfl rfl rfl ?_
  refine x_aload_n 0 34 C0 dX7_isWell_33 rfl rfl rfl ?_
  refine x_getf (v := .ref (g.2 0 + 1)) 0 37 C0 dX7_isWell_34 rfl hC.1.1 rfl (by decide) inX7 mF_X7_10 rfl ?_
  refine x_getf (v := .int (x 0 6)) 9 40 C0 dX7_isWell_37 rfl (HR.ho hC.h0) rfl (by decide) inX4 mF_X7_222 rfl ?_
  refine x_icmp_ne 57 43 C0 dX7_isWell_40 rfl (by decide) (fun c3 => ?_) (fun c3 => ?_)
  · refine x_iconst (v := 0) 58 C0 dX7_isWell_57 rfl (by decide) ?_
    exact x_ireturn C0 dX7_isWell_58 rfl (rfl) (Nat.le_of_ble_eq_true rfl) (Nat.le_of_ble_eq_true rfl) ⟨⟨_, rfl⟩, hC, xFr.rf, by omega⟩
  · refine x_aload_n 0 44 C0 dX7_isWell_43 rfl rfl rfl ?_
    refine x_getf (v := .ref (g.2 0 + 1)) 0 47 C0 dX7_isWell_44 rfl hC.1.1 rfl (by decide) inX7 mF_X7_10 rfl ?_
    obtain ⟨ln4, lf4, hL4⟩ := hC.l0
    refine x_callV 50 C0 (k_X4_isOutsideInOrder l hl g _ _ _ _ _ hC.h0 ln4 lf4 (by omega) (fun k hk => (hL4 k hk).1)) dX7_isWell_47 rfl mC_X4_isOutsideInOrder mM_X7_225 mI_X4_isOutsideInOrder mV_X4_isOutsideInOrder mN_X4 yd_X4_isOutsideInOrder rfl rfl ⟨Nat.le_of_ble_eq_true rfl, Nat.le_of_ble_eq_true rfl⟩ (HR.ho hC.h0) rfl rfl rfl rfl (Nat.le_of_ble_eq_true rfl) ⟨Nat.le_of_ble_eq_true rfl, Nat.le_of_ble_eq_true rfl⟩ (fun _ _ _ q => False.elim q) (fun r w1 sz1 hz hP => ?_)
    obtain ⟨hr0, rfl, rfl⟩ := hP
    have hr : ∃ b : Bool, r = some (.int (bi b)) := hr0.elim (fun q => ⟨true, q.1⟩) (fun q => ⟨false, q.1⟩)
    obtain ⟨b0, hr⟩ := hr
    obtain ⟨v5, rfl, hv5⟩ : ∃ v : Int32, r = some (.int v) ∧ isB v := ⟨_, hr, isB_bi _⟩
    refine x_st (st1 := [.int v5]) rfl ?_
    refine x_if_eq 57 53 C0 dX7_isWell_50 rfl (by decide) (fun c6 => ?_) (fun c6 => ?_)
    · refine x_iconst (v := 0) 58 C0 dX7_isWell_57 rfl (by decide) ?_
      exact x_ireturn C0 dX7_isWell_58 rfl (rfl) (Nat.le_of_ble_eq_true rfl) (Nat.le_of_ble_eq_true rfl) ⟨⟨_, rfl⟩, hC, xFr.rf, by omega⟩
    · refine x_iconst (v := 1) 54 C0 dX7_isWell_53 rfl (by decide) ?_
      refine x_goto 58 C0 dX7_isWell_54 (by decide) ?_
      exact x_ireturn C0 dX7_isWell_58 rfl (rfl) (Nat.le_of_ble_eq_true rfl) (Nat.le_of_ble_eq_true rfl) ⟨⟨_, rfl⟩, hC, xFr.rf, by omega⟩

set_option maxHeartbeats 4000000 in
set_option maxRecDepth 100000 in
theorem f_X7_meanDamp (l : Launch) (hl : l.stackTraces = false) (g : xg_T) (w : xw_T) (sz n : Nat) (x : Nat → Nat → Int32) (la : Nat → Nat → Nat) (t tt : Nat → Int32) (vb : Option Nat) (sg : Nat → Int32) (hC : CR g w sz n x la t tt vb sg) : xM l g yX7_meanDamp cX7_meanDamp 2 (some .double) ({ frames := 6, cells := 8, slots := 64, locals := 82 }) 8 64 [.ref (g.2 0)] w sz (fPo g w sz n x la t tt vb sg rD) (fXo g w sz n x la t tt vb sg ["java/lang/ArithmeticException"]) := by
  have hz9 := hC.zz
  refine xM.of RX7 hl (by decide +kernel) rfl (Nat.le_of_ble_eq_true rfl) rfl ?_
  intro p e s m args below meth cD C0 hini
  refine x_aload_n 0 1 C0 dX7_meanDamp_0 rfl rfl rfl ?_
  refine x_getf (v := .ref (g.2 0 + 1)) 0 4 C0 dX7_meanDamp_1 rfl hC.1.1 rfl (by decide) inX7 mF_X7_10 rfl ?_
  refine x_callV 7 C0 (k_X4_filledChests l hl g _ _ _ _ _ hC.h0) dX7_meanDamp_4 rfl mC_X4_filledChests mM_X7_228 mI_X4_filledChests mV_X4_filledChests mN_X4 yd_X4_filledChests rfl rfl ⟨Nat.le_of_ble_eq_true rfl, Nat.le_of_ble_eq_true rfl⟩ (HR.ho hC.h0) rfl rfl rfl rfl (Nat.le_of_ble_eq_true rfl) ⟨Nat.le_of_ble_eq_true rfl, Nat.le_of_ble_eq_true rfl⟩ (fun _ _ _ q => False.elim q) (fun r w1 sz1 hz hP => ?_)
  obtain ⟨hr, rfl, rfl⟩ := hP
  obtain ⟨v1, rfl⟩ : ∃ v : Int32, r = some (.int v) := ⟨_, hr⟩
  have hr1 := hr
  refine x_st (st1 := [.int v1]) rfl ?_
  refine x_istore_n [(1, .int v1), (0, .ref (g.2 0))] 8 C0 dX7_meanDamp_7 rfl rfl (by decide) rfl ?_
  refine x_lv (lv1 := [(0, .ref (g.2 0)), (1, .int v1)]) [1, 0] rfl ?_
  refine x_iload_n 1 9 C0 dX7_meanDamp_8 rfl rfl rfl ?_
  refine x_if_ne 22 12 C0 dX7_meanDamp_9 rfl (by decide) (fun c2 => ?_) (fun c2 => ?_)
  · refine x_aload_n 0 23 C0 dX7_meanDamp_22 rfl rfl rfl ?_
    refine x_getf (v := .ref (g.2 0 + 1)) 0 26 C0 dX7_meanDamp_23 rfl hC.1.1 rfl (by decide) inX7 mF_X7_10 rfl ?_
    refine x_callV 29 C0 (k_X4_sumOfDamp l hl g _ _ _ _ _ hC.h0) dX7_meanDamp_26 rfl mC_X4_sumOfDamp mM_X7_236 mI_X4_sumOfDamp mV_X4_sumOfDamp mN_X4 yd_X4_sumOfDamp rfl rfl ⟨Nat.le_of_ble_eq_true rfl, Nat.le_of_ble_eq_true rfl⟩ (HR.ho hC.h0) rfl rfl rfl rfl (Nat.le_of_ble_eq_true rfl) ⟨Nat.le_of_ble_eq_true rfl, Nat.le_of_ble_eq_true rfl⟩ (fun _ _ _ q => False.elim q) (fun r w1 sz1 hz hP => ?_)
    obtain ⟨hr, rfl, rfl⟩ := hP
    obtain ⟨v3, rfl⟩ : ∃ v : Int32, r = some (.int v) := ⟨_, hr⟩
    have hr3 := hr
    refine x_st (st1 := [.int v3]) rfl ?_
    refine x_i2d 30 C0 dX7_meanDamp_29 rfl ?_
    refine x_iload_n 1 31 C0 dX7_meanDamp_30 rfl rfl rfl ?_
    refine x_i2d 32 C0 dX7_meanDamp_31 rfl ?_
    refine x_ddiv 33 C0 dX7_meanDamp_32 rfl (ddiv_ok _ c2) ?_
    exact x_dreturn C0 dX7_meanDamp_33 rfl (Nat.le_of_ble_eq_true rfl) (Nat.le_of_ble_eq_true rfl) ⟨⟨_, rfl⟩, hC, xFr.rf, by omega⟩
  · exact x_throwS xNames C0 dX7_meanDamp_12 dX7_meanDamp_15 dX7_meanDamp_16 dX7_meanDamp_18 dX7_meanDamp_21 rfl rfl rfl rfl (by decide +kernel) (by decide +kernel) mK_X7_231 mN_ArithmeticException (xs_ldc C0.2.2.2.2.2.2.2.1.2.2 (RX7, 233, "no chests with leaves", 143) (by decide +kernel)) (xhat C0 xg_are xh_are (by decide +kernel)) xo_are (xs_us C0.2.2.2.2.2.2.2.1.2.2) (xs_su C0.2.2.2.2.2.2.2.1.2.2) rfl (Nat.le_of_ble_eq_true rfl) (Nat.le_of_ble_eq_true rfl) (Nat.le_of_ble_eq_true rfl) (Nat.le_of_ble_eq_true rfl) (Nat.le_of_ble_eq_true rfl) (Nat.le_of_ble_eq_true rfl) (fun sz9 h9 => ⟨by decide, (hC.grow h9), xFr.rf, by omega⟩)

set_option maxHeartbeats 4000000 in
set_option maxRecDepth 100000 in
theorem f_X7_sailedShare (l : Launch) (hl : l.stackTraces = false) (g : xg_T) (w : xw_T) (sz n : Nat) (x : Nat → Nat → Int32) (la : Nat → Nat → Nat) (t tt : Nat → Int32) (vb : Option Nat) (sg : Nat → Int32) (hC : CR g w sz n x la t tt vb sg) : xM l g yX7_sailedShare cX7_sailedShare 1 (some .float) ({ frames := 6, cells := 8, slots := 64, locals := 82 }) 8 64 [.ref (g.2 0)] w sz (fPo g w sz n x la t tt vb sg rF) (fXo g w sz n x la t tt vb sg ["java/lang/ArithmeticException"]) := by
  have hz9 := hC.zz
  refine xM.of RX7 hl (by decide +kernel) rfl (Nat.le_of_ble_eq_true rfl) rfl ?_
  intro p e s m args below meth cD C0 hini
  refine x_aload_n 0 1 C0 dX7_sailedShare_0 rfl rfl rfl ?_
  refine x_getf (v := .ref (g.2 0 + 1)) 0 4 C0 dX7_sailedShare_1 rfl hC.1.1 rfl (by decide) inX7 mF_X7_10 rfl ?_
  refine x_getf (v := .int (x 0 6)) 9 7 C0 dX7_sailedShare_4 rfl (HR.ho hC.h0) rfl (by decide) inX4 mF_X7_222 rfl ?_
  refine x_if_ne 20 10 C0 dX7_sailedShare_7 rfl (by decide) (fun c1 => ?_) (fun c1 => ?_)
  · refine x_aload_n 0 21 C0 dX7_sailedShare_20 rfl rfl rfl ?_
    refine x_getf (v := .ref (g.2 0 + 1)) 0 24 C0 dX7_sailedShare_21 rfl hC.1.1 rfl (by decide) inX7 mF_X7_10 rfl ?_
    refine x_getf (v := .int (x 0 7)) 10 27 C0 dX7_sailedShare_24 rfl (HR.ho hC.h0) rfl (by decide) inX4 mF_X7_216 rfl ?_
    refine x_i2f 28 C0 dX7_sailedShare_27 rfl ?_
    refine x_aload_n 0 29 C0 dX7_sailedShare_28 rfl rfl rfl ?_
    refine x_getf (v := .ref (g.2 0 + 1)) 0 32 C0 dX7_sailedShare_29 rfl hC.1.1 rfl (by decide) inX7 mF_X7_10 rfl ?_
    refine x_getf (v := .int (x 0 6)) 9 35 C0 dX7_sailedShare_32 rfl (HR.ho hC.h0) rfl (by decide) inX4 mF_X7_222 rfl ?_
    refine x_i2f 36 C0 dX7_sailedShare_35 rfl ?_
    refine x_fdiv 37 C0 dX7_sailedShare_36 rfl (fdiv_ok _ c1) ?_
    exact x_freturn C0 dX7_sailedShare_37 rfl (Nat.le_of_ble_eq_true rfl) (Nat.le_of_ble_eq_true rfl) ⟨⟨_, rfl, fdiv_ok _ c1⟩, hC, xFr.rf, by omega⟩
  · exact x_throwS xNames C0 dX7_sailedShare_10 dX7_sailedShare_13 dX7_sailedShare_14 dX7_sailedShare_16 dX7_sailedShare_19 rfl rfl rfl rfl (by decide +kernel) (by decide +kernel) mK_X7_231 mN_ArithmeticException (xs_ldc C0.2.2.2.2.2.2.2.1.2.2 (RX7, 239, "nothing was brought", 144) (by decide +kernel)) (xhat C0 xg_are xh_are (by decide +kernel)) xo_are (xs_us C0.2.2.2.2.2.2.2.1.2.2) (xs_su C0.2.2.2.2.2.2.2.1.2.2) rfl (Nat.le_of_ble_eq_true rfl) (Nat.le_of_ble_eq_true rfl) (Nat.le_of_ble_eq_true rfl) (Nat.le_of_ble_eq_true rfl) (Nat.le_of_ble_eq_true rfl) (Nat.le_of_ble_eq_true rfl) (fun sz9 h9 => ⟨by decide, (hC.grow h9), xFr.rf, by omega⟩)

set_option maxHeartbeats 4000000 in
set_option maxRecDepth 100000 in
theorem f_X7_reason (l : Launch) (hl : l.stackTraces = false) (g : xg_T) (w : xw_T) (sz n : Nat) (x : Nat → Nat → Int32) (la : Nat → Nat → Nat) (t tt : Nat → Int32) (vb : Option Nat) (sg : Nat → Int32) (hC : CR g w sz n x la t tt vb sg) (de : Int32) : xM l g yX7_reason cX7_reason 2 (some .int) ({ frames := 6, cells := 8, slots := 64, locals := 82 }) 8 64 [.ref (g.2 0), .int de] w sz (fPo g w sz n x la t tt vb sg rI) (fXo g w sz n x la t tt vb sg ["java/util/NoSuchElementException"]) := by
  have hz9 := hC.zz
  refine xM.of RX7 hl (by decide +kernel) rfl (Nat.le_of_ble_eq_true rfl) rfl ?_
  intro p e s m args below meth cD C0 hini
  refine x_aload_n 0 1 C0 dX7_reason_0 rfl rfl rfl ?_
  refine x_getf (v := .ref (g.2 0 + 1)) 0 4 C0 dX7_reason_1 rfl hC.1.1 rfl (by decide) inX7 mF_X7_10 rfl ?_
  refine x_getf (v := .int (x 0 208)) 12 7 C0 dX7_reason_4 rfl (HR.ho hC.h0) rfl (by decide) inX4 mF_X7_241 rfl ?_
  refine x_if_ne 20 10 C0 dX7_reason_7 rfl (by decide) (fun c1 => ?_) (fun c1 => ?_)
  · refine x_iload_n 1 21 C0 dX7_reason_20 rfl rfl rfl ?_
    refine x_if_eq 34 24 C0 dX7_reason_21 rfl (by decide) (fun c2 => ?_) (fun c2 => ?_)
    · refine x_aload_n 0 35 C0 dX7_reason_34 rfl rfl rfl ?_
      refine x_getf (v := .ref (g.2 0 + 1)) 0 38 C0 dX7_reason_35 rfl hC.1.1 rfl (by decide) inX7 mF_X7_10 rfl ?_
      refine x_getf (v := .int (x 0 208)) 12 41 C0 dX7_reason_38 rfl (HR.ho hC.h0) rfl (by decide) inX4 mF_X7_241 rfl ?_
      exact x_ireturn C0 dX7_reason_41 rfl rfl (Nat.le_of_ble_eq_true rfl) (Nat.le_of_ble_eq_true rfl) ⟨⟨_, rfl⟩, hC, xFr.rf, by omega⟩
    · refine x_aload_n 0 25 C0 dX7_reason_24 rfl rfl rfl ?_
      refine x_getf (v := .ref (g.2 0 + 1)) 0 28 C0 dX7_reason_25 rfl hC.1.1 rfl (by decide) inX7 mF_X7_10 rfl ?_
      refine x_getf (v := .int (x 0 209)) 13 31 C0 dX7_reason_28 rfl (HR.ho hC.h0) rfl (by decide) inX4 mF_X7_246 rfl ?_
      refine x_goto 41 C0 dX7_reason_31 (by decide) ?_
      exact x_ireturn C0 dX7_reason_41 rfl rfl (Nat.le_of_ble_eq_true rfl) (Nat.le_of_ble_eq_true rfl) ⟨⟨_, rfl⟩, hC, xFr.rf, by omega⟩
  · exact x_throwN C0 dX7_reason_10 dX7_reason_13 dX7_reason_14 dX7_reason_16 dX7_reason_19 rfl rfl rfl rfl (by decide +kernel) mK_X7_137 mN_NoSuchElementException (xs_ldc C0.2.2.2.2.2.2.2.1.2.2 (RX7, 244, "nothing was refused", 145) (by decide +kernel)) (xhat C0 xg_nse xh_nse (by decide +kernel)) xo_nse (xs_us C0.2.2.2.2.2.2.2.1.2.2) (xs_su C0.2.2.2.2.2.2.2.1.2.2) rfl (Nat.le_of_ble_eq_true rfl) (Nat.le_of_ble_eq_true rfl) (Nat.le_of_ble_eq_true rfl) (Nat.le_of_ble_eq_true rfl) (Nat.le_of_ble_eq_true rfl) (Nat.le_of_ble_eq_true rfl) (fun sz9 h9 => ⟨by decide, (hC.grow h9), xFr.rf, by omega⟩)

set_option maxHeartbeats 4000000 in
set_option maxRecDepth 100000 in
theorem f_X7_heightAgain (l : Launch) (hl : l.stackTraces = false) (g : xg_T) (w : xw_T) (sz n : Nat) (x : Nat → Nat → Int32) (la : Nat → Nat → Nat) (t tt : Nat → Int32) (vb : Option Nat) (sg : Nat → Int32) (hC : CR g w sz n x la t tt vb sg) (hs : Int32) : xM l g yX7_heightAgain cX7_heightAgain 6 (some .int) ({ frames := 7, cells := 8, slots := 64, locals := 104 }) 8 64 [.ref (g.2 0), .int hs] w sz (fPo g w sz n x la t tt vb sg rI) (fXo g w sz n x la t tt vb sg ["java/lang/IllegalArgumentException"]) := by
  have hz9 := hC.zz
  refine xM.of RX7 hl (by decide +kernel) rfl (Nat.le_of_ble_eq_true rfl) rfl ?_
  intro p e s m args below meth cD C0 hini
  refine x_iload_n 1 1 C0 dX7_heightAgain_0 rfl rfl rfl ?_
  refine x_iconst (v := 0) 2 C0 dX7_heightAgain_1 rfl (by decide) ?_
  refine x_bipush (v := 99) 4 C0 dX7_heightAgain_2 rfl (by decide) ?_
  refine x_callS 7 C0 (k_X7_needRange l hl g _ _ hs 0 99) dX7_heightAgain_4 rfl mC_X7_needRange mM_X7_41 mS_X7_needRange mN_X7 yd_X7_needRange rfl rfl ⟨Nat.le_of_ble_eq_true rfl, Nat.le_of_ble_eq_true rfl⟩ rfl rfl (Nat.le_of_ble_eq_true rfl) ⟨Nat.le_of_ble_eq_true rfl, Nat.le_of_ble_eq_true rfl⟩ (fun E9 w9 sz9 q => by obtain ⟨rfl, rfl, h9, hno9⟩ := q; exact x_out C0 rfl (Nat.le_of_ble_eq_true rfl) (Nat.le_of_ble_eq_true rfl) ⟨by decide, (hC.grow h9), xFr.rf, by omega⟩) (fun r w1 sz1 hz hP => ?_)
  obtain ⟨rfl, h19, h59, rfl, rfl⟩ := hP
  refine x_st (st1 := []) rfl ?_
  refine x_aload_n 0 8 C0 dX7_heightAgain_7 rfl rfl rfl ?_
  refine x_getf (v := .ref (g.2 0 + 1)) 0 11 C0 dX7_heightAgain_8 rfl hC.1.1 rfl (by decide) inX7 mF_X7_10 rfl ?_
  refine x_getf (v := .int (x 0 0)) 5 14 C0 dX7_heightAgain_11 rfl (HR.ho hC.h0) rfl (by decide) inX4 mF_X7_201 rfl ?_
  refine x_iload_n 1 15 C0 dX7_heightAgain_14 rfl rfl rfl ?_
  refine x_iadd 16 C0 dX7_heightAgain_15 rfl ?_
  obtain ⟨hr, ehr⟩ : ∃ y : Int32, y = (x 0 0) + hs := ⟨_, rfl⟩
  refine x_st (st1 := [.int hr]) (by rw [ehr]) ?_
  refine x_istore_n [(2, .int hr), (0, .ref (g.2 0)), (1, .int hs)] 17 C0 dX7_heightAgain_16 rfl rfl (by decide) rfl ?_
  refine x_lv (lv1 := [(0, .ref (g.2 0)), (1, .int hs), (2, .int hr)]) [1, 2, 0] rfl ?_
  refine x_bipush (v := 6) 19 C0 dX7_heightAgain_17 rfl (by decide) ?_
  refine x_istore_n [(3, .int 6), (0, .ref (g.2 0)), (1, .int hs), (2, .int hr)] 20 C0 dX7_heightAgain_19 rfl rfl (by decide) rfl ?_
  refine x_lv (lv1 := [(0, .ref (g.2 0)), (1, .int hs), (2, .int hr), (3, .int 6)]) [1, 2, 3, 0] rfl ?_
  refine x_iconst (v := (-1)) 21 C0 dX7_heightAgain_20 rfl (by decide) ?_
  refine x_istore [(4, .int (-1)), (0, .ref (g.2 0)), (1, .int hs), (2, .int hr), (3, .int 6)] 23 C0 dX7_heightAgain_21 rfl (by decide) rfl ?_
  refine x_lv (lv1 := [(0, .ref (g.2 0)), (1, .int hs), (2, .int hr), (3, .int 6), (4, .int (-1))]) [1, 2, 3, 4, 0] rfl ?_
  refine x_iconst (v := 0) 24 C0 dX7_heightAgain_23 rfl (by decide) ?_
  refine x_istore [(5, .int 0), (0, .ref (g.2 0)), (1, .int hs), (2, .int hr), (3, .int 6), (4, .int (-1))] 26 C0 dX7_heightAgain_24 rfl (by decide) rfl ?_
  refine x_lv (lv1 := [(0, .ref (g.2 0)), (1, .int hs), (2, .int hr), (3, .int 6), (4, .int (-1)), (5, .int 0)]) [1, 2, 3, 4, 5, 0] rfl ?_
  have loop26 : ∀ (N i : Nat) (wa chg : Int32), i < 2 ^ 31 → hr.toInt - i < N → xV p l e ({ frames := 7, cells := 8, slots := 64, locals := 104 }) s m args below meth cD (xQ g below (fPo g w sz n x la t tt vb sg rI) (fXo g w sz n x la t tt vb sg ["java/lang/IllegalArgumentException"]) args s 8 64) g 6 w sz (0 + 1) (0 + 6) 26 [(0, .ref (g.2 0)), (1, .int hs), (2, .int hr), (3, .int wa), (4, .int chg), (5, .int (nI i))] [] := by
    intro N
    induction N with
    | zero =>
      intro i wa chg hi hN
      refine x_iload 5 28 C0 dX7_heightAgain_26 rfl rfl ?_
      refine x_iload_n 2 29 C0 dX7_heightAgain_28 rfl rfl rfl ?_
      refine x_icmp_ge 62 32 C0 dX7_heightAgain_29 rfl (by decide) (fun c1 => ?_) (fun c1 => ?_)
      · refine x_iload_n 3 63 C0 dX7_heightAgain_62 rfl rfl rfl ?_
        exact x_ireturn C0 dX7_heightAgain_63 rfl rfl (Nat.le_of_ble_eq_true rfl) (Nat.le_of_ble_eq_true rfl) ⟨⟨_, rfl⟩, hC, xFr.rf, by omega⟩
      · have hi2 := lt_nat hi c1
        have hi3 := Int32.toInt_lt hr
        exfalso
        omega
    | succ N ih =>
      intro i wa chg hi hN
      refine x_iload 5 28 C0 dX7_heightAgain_26 rfl rfl ?_
      refine x_iload_n 2 29 C0 dX7_heightAgain_28 rfl rfl rfl ?_
      refine x_icmp_ge 62 32 C0 dX7_heightAgain_29 rfl (by decide) (fun c2 => ?_) (fun c2 => ?_)
      · refine x_iload_n 3 63 C0 dX7_heightAgain_62 rfl rfl rfl ?_
        exact x_ireturn C0 dX7_heightAgain_63 rfl rfl (Nat.le_of_ble_eq_true rfl) (Nat.le_of_ble_eq_true rfl) ⟨⟨_, rfl⟩, hC, xFr.rf, by omega⟩
      · have hi2 := lt_nat hi c2
        have hi3 := Int32.toInt_lt hr
        refine x_iload_n 3 33 C0 dX7_heightAgain_32 rfl rfl rfl ?_
        refine x_if_ne 42 36 C0 dX7_heightAgain_33 rfl (by decide) (fun c3 => ?_) (fun c3 => ?_)
        · refine x_iload_n 3 43 C0 dX7_heightAgain_42 rfl rfl rfl ?_
          refine x_bipush (v := 6) 45 C0 dX7_heightAgain_43 rfl (by decide) ?_
          refine x_icmp_ne 51 48 C0 dX7_heightAgain_45 rfl (by decide) (fun c4 => ?_) (fun c4 => ?_)
          · refine x_iload_n 3 52 C0 dX7_heightAgain_51 rfl rfl rfl ?_
            refine x_iload 4 54 C0 dX7_heightAgain_52 rfl rfl ?_
            refine x_iadd 55 C0 dX7_heightAgain_54 rfl ?_
            refine x_istore_n [(3, .int (wa + chg)), (0, .ref (g.2 0)), (1, .int hs), (2, .int hr), (4, .int chg), (5, .int (nI i))] 56 C0 dX7_heightAgain_55 rfl rfl (by decide) rfl ?_
            refine x_lv (lv1 := [(0, .ref (g.2 0)), (1, .int hs), (2, .int hr), (3, .int (wa + chg)), (4, .int chg), (5, .int (nI i))]) [1, 2, 3, 0, 4, 5] rfl ?_
            refine x_iinc [(5, .int (nI (i + 1))), (0, .ref (g.2 0)), (1, .int hs), (2, .int hr), (3, .int (wa + chg)), (4, .int chg)] 5 59 C0 dX7_heightAgain_56 rfl rfl (nI_1 i) (by decide) rfl ?_
            refine x_lv (lv1 := [(0, .ref (g.2 0)), (1, .int hs), (2, .int hr), (3, .int (wa + chg)), (4, .int chg), (5, .int (nI (i + 1)))]) [1, 2, 3, 4, 5, 0] rfl ?_
            refine x_goto 26 C0 dX7_heightAgain_59 (by decide) ?_
            exact x_lv [0, 1, 2, 3, 4, 5] rfl (ih (i + 1) _ _ (by omega) (by omega))
          · refine x_iconst (v := (-1)) 49 C0 dX7_heightAgain_48 rfl (by decide) ?_
            refine x_istore [(4, .int (-1)), (0, .ref (g.2 0)), (1, .int hs), (2, .int hr), (3, .int wa), (5, .int (nI i))] 51 C0 dX7_heightAgain_49 rfl (by decide) rfl ?_
            refine x_lv (lv1 := [(0, .ref (g.2 0)), (1, .int hs), (2, .int hr), (3, .int wa), (4, .int (-1)), (5, .int (nI i))]) [1, 2, 3, 4, 0, 5] rfl ?_
            refine x_iload_n 3 52 C0 dX7_heightAgain_51 rfl rfl rfl ?_
            refine x_iload 4 54 C0 dX7_heightAgain_52 rfl rfl ?_
            refine x_iadd 55 C0 dX7_heightAgain_54 rfl ?_
            refine x_istore_n [(3, .int (wa + (-1))), (0, .ref (g.2 0)), (1, .int hs), (2, .int hr), (4, .int (-1)), (5, .int (nI i))] 56 C0 dX7_heightAgain_55 rfl rfl (by decide) rfl ?_
            refine x_lv (lv1 := [(0, .ref (g.2 0)), (1, .int hs), (2, .int hr), (3, .int (wa + (-1))), (4, .int (-1)), (5, .int (nI i))]) [1, 2, 3, 0, 4, 5] rfl ?_
            refine x_iinc [(5, .int (nI (i + 1))), (0, .ref (g.2 0)), (1, .int hs), (2, .int hr), (3, .int (wa + (-1))), (4, .int (-1))] 5 59 C0 dX7_heightAgain_56 rfl rfl (nI_1 i) (by decide) rfl ?_
            refine x_lv (lv1 := [(0, .ref (g.2 0)), (1, .int hs), (2, .int hr), (3, .int (wa + (-1))), (4, .int (-1)), (5, .int (nI (i + 1)))]) [1, 2, 3, 4, 5, 0] rfl ?_
            refine x_goto 26 C0 dX7_heightAgain_59 (by decide) ?_
            exact x_lv [0, 1, 2, 3, 4, 5] rfl (ih (i + 1) _ _ (by omega) (by omega))
        · refine x_iconst (v := 1) 37 C0 dX7_heightAgain_36 rfl (by decide) ?_
          refine x_istore [(4, .int 1), (0, .ref (g.2 0)), (1, .int hs), (2, .int hr), (3, .int wa), (5, .int (nI i))] 39 C0 dX7_heightAgain_37 rfl (by decide) rfl ?_
          refine x_lv (lv1 := [(0, .ref (g.2 0)), (1, .int hs), (2, .int hr), (3, .int wa), (4, .int 1), (5, .int (nI i))]) [1, 2, 3, 4, 0, 5] rfl ?_
          refine x_goto 51 C0 dX7_heightAgain_39 (by decide) ?_
          refine x_iload_n 3 52 C0 dX7_heightAgain_51 rfl rfl rfl ?_
          refine x_iload 4 54 C0 dX7_heightAgain_52 rfl rfl ?_
          refine x_iadd 55 C0 dX7_heightAgain_54 rfl ?_
          refine x_istore_n [(3, .int (wa + 1)), (0, .ref (g.2 0)), (1, .int hs), (2, .int hr), (4, .int 1), (5, .int (nI i))] 56 C0 dX7_heightAgain_55 rfl rfl (by decide) rfl ?_
          refine x_lv (lv1 := [(0, .ref (g.2 0)), (1, .int hs), (2, .int hr), (3, .int (wa + 1)), (4, .int 1), (5, .int (nI i))]) [1, 2, 3, 0, 4, 5] rfl ?_
          refine x_iinc [(5, .int (nI (i + 1))), (0, .ref (g.2 0)), (1, .int hs), (2, .int hr), (3, .int (wa + 1)), (4, .int 1)] 5 59 C0 dX7_heightAgain_56 rfl rfl (nI_1 i) (by decide) rfl ?_
          refine x_lv (lv1 := [(0, .ref (g.2 0)), (1, .int hs), (2, .int hr), (3, .int (wa + 1)), (4, .int 1), (5, .int (nI (i + 1)))]) [1, 2, 3, 4, 5, 0] rfl ?_
          refine x_goto 26 C0 dX7_heightAgain_59 (by decide) ?_
          exact x_lv [0, 1, 2, 3, 4, 5] rfl (ih (i + 1) _ _ (by omega) (by omega))
  exact x_lv [0, 1, 2, 3, 4, 5] rfl (loop26 (hr.toInt.toNat + 1) 0 _ _ (by omega) (by omega))

set_option maxHeartbeats 4000000 in
set_option maxRecDepth 100000 in
theorem f_X7_labelled (l : Launch) (hl : l.stackTraces = false) (g : xg_T) (w : xw_T) (sz n : Nat) (x : Nat → Nat → Int32) (la : Nat → Nat → Nat) (t tt : Nat → Int32) (vb : Option Nat) (sg : Nat → Int32) (hC : CR g w sz n x la t tt vb sg) (cn : Int32) (ix : Int32) : xM l g yX7_labelled cX7_labelled 4 (some .char) ({ frames := 7, cells := 8, slots := 64, locals := 104 }) 8 64 [.ref (g.2 0), .int cn, .int ix] w sz (fPo g w sz n x la t tt vb sg rI) (fXo g w sz n x la t tt vb sg ["java/lang/IndexOutOfBoundsException", "java/util/NoSuchElementException"]) := by
  have hz9 := hC.zz
  refine xM.of RX7 hl (by decide +kernel) rfl (Nat.le_of_ble_eq_true rfl) rfl ?_
  intro p e s m args below meth cD C0 hini
  refine x_aload_n 0 1 C0 dX7_labelled_0 rfl rfl rfl ?_
  refine x_iload_n 1 2 C0 dX7_labelled_1 rfl rfl rfl ?_
  refine x_callV 5 C0 (k_X7_needChest l hl g _ _ _ x la t tt vb sg hC cn) dX7_labelled_2 rfl mC_X7_needChest mM_X7_89 mI_X7_needChest mV_X7_needChest mN_X7 yd_X7_needChest rfl rfl ⟨Nat.le_of_ble_eq_true rfl, Nat.le_of_ble_eq_true rfl⟩ hC.1.1 rfl rfl rfl rfl (Nat.le_of_ble_eq_true rfl) ⟨Nat.le_of_ble_eq_true rfl, Nat.le_of_ble_eq_true rfl⟩ (fun E9 w9 sz9 q => by obtain ⟨rfl, rfl, h9, hno9⟩ := q; exact x_out C0 rfl (Nat.le_of_ble_eq_true rfl) (Nat.le_of_ble_eq_true rfl) ⟨by decide, (hC.grow h9), xFr.rf, by omega⟩) (fun r w1 sz1 hz hP => ?_)
  obtain ⟨⟨k, hk, hm, rfl, hnk⟩, rfl, rfl⟩ := hP
  have hm0 := hm
  refine x_st (st1 := [.ref (g.2 0 + 1 + 3 + k)]) rfl ?_
  refine x_getf (v := .ref (la 0 k)) 9 8 C0 dX7_labelled_5 rfl (HR.c hC.h0 hk) rfl (by decide) inX1 mF_X7_128 rfl ?_
  refine x_astore_n [(3, .ref (la 0 k)), (0, .ref (g.2 0)), (1, .int cn), (2, .int ix)] 9 C0 dX7_labelled_8 rfl rfl (by decide) rfl ?_
  refine x_lv (lv1 := [(0, .ref (g.2 0)), (1, .int cn), (2, .int ix), (3, .ref (la 0 k))]) [1, 2, 3, 0] rfl ?_
  refine x_iload_n 2 10 C0 dX7_labelled_9 rfl rfl rfl ?_
  refine x_if_lt 21 13 C0 dX7_labelled_10 rfl (by decide) (fun c1 => ?_) (fun c1 => ?_)
  · have c1' := Int32.not_le.mpr c1
    exact x_throwN C0 dX7_labelled_21 dX7_labelled_24 dX7_labelled_25 dX7_labelled_27 dX7_labelled_30 rfl rfl rfl rfl (by decide +kernel) mK_X7_137 mN_NoSuchElementException (xs_ldc C0.2.2.2.2.2.2.2.1.2.2 (RX7, 139, "no such character of a label", 140) (by decide +kernel)) (xhat C0 xg_nse xh_nse (by decide +kernel)) xo_nse (xs_us C0.2.2.2.2.2.2.2.1.2.2) (xs_su C0.2.2.2.2.2.2.2.1.2.2) rfl (Nat.le_of_ble_eq_true rfl) (Nat.le_of_ble_eq_true rfl) (Nat.le_of_ble_eq_true rfl) (Nat.le_of_ble_eq_true rfl) (Nat.le_of_ble_eq_true rfl) (Nat.le_of_ble_eq_true rfl) (fun sz9 h9 => ⟨by decide, (hC.grow h9), xFr.rf, by omega⟩)
  · have c1' := Int32.not_lt.mp c1
    refine x_iload_n 2 14 C0 dX7_labelled_13 rfl rfl rfl ?_
    refine x_aload_n 3 15 C0 dX7_labelled_14 rfl rfl rfl ?_
    obtain ⟨ln2, lf2, hL2⟩ := hC.l0
    obtain ⟨v2, ft2, hS2, hn2, hj2⟩ := (hL2 k hk).1.str
    refine x_callR 18 (C := RJ0) C0 (k_J0_length_8abf5 l hl g _ _ _ _ _ _ hS2) dX7_labelled_15 rfl mC_J0_length_8abf5 mM_X7_132 mI_J0_length_8abf5 mV_J0_length_8abf5 mN_J0 yd_J0_length_8abf5 rfl rfl ⟨Nat.le_of_ble_eq_true rfl, Nat.le_of_ble_eq_true rfl⟩ (xRecv.str C0 hS2) rfl rfl (Nat.le_of_ble_eq_true rfl) ⟨Nat.le_of_ble_eq_true rfl, Nat.le_of_ble_eq_true rfl⟩ (fun _ _ _ q => False.elim q) (fun r w1 sz1 hz hP => ?_)
    obtain ⟨rfl, rfl, rfl⟩ := hP
    refine x_st (st1 := [.int (nI (ln2 k)), .int ix]) rfl ?_
    refine x_icmp_lt 31 21 C0 dX7_labelled_18 rfl (by decide) (fun c3 => ?_) (fun c3 => ?_)
    · have c3' := Int32.not_le.mpr c3
      refine x_aload_n 3 32 C0 dX7_labelled_31 rfl rfl rfl ?_
      refine x_iload_n 2 33 C0 dX7_labelled_32 rfl rfl rfl ?_
      obtain ⟨i9, rfl, hi9⟩ := i32_nat (n := ln2 k) rfl (by omega) (Int32.not_lt.mp c1) c3
      have hc9 : isCh (ft2 i9) := by rw [hj2 i9 hi9]; exact (hL2 k hk).2 i9
      refine x_callR 36 (C := RJ0) C0 (k_J0_charAt_5068e l hl g _ _ _ _ _ _ hS2 i9 hi9 hn2 hc9) dX7_labelled_33 rfl mC_J0_charAt_5068e mM_X7_144 mI_J0_charAt_5068e mV_J0_charAt_5068e mN_J0 yd_J0_charAt_5068e rfl rfl ⟨Nat.le_of_ble_eq_true rfl, Nat.le_of_ble_eq_true rfl⟩ (xRecv.str C0 hS2) rfl rfl (Nat.le_of_ble_eq_true rfl) ⟨Nat.le_of_ble_eq_true rfl, Nat.le_of_ble_eq_true rfl⟩ (fun _ _ _ q => False.elim q) (fun r w1 sz1 hz hP => ?_)
      obtain ⟨rfl, rfl, rfl⟩ := hP
      refine x_st (st1 := [.int (ft2 i9)]) rfl ?_
      exact x_ireturn C0 dX7_labelled_36 rfl hc9.2.1 (Nat.le_of_ble_eq_true rfl) (Nat.le_of_ble_eq_true rfl) ⟨⟨_, rfl⟩, hC, xFr.rf, by omega⟩
    · have c3' := Int32.not_lt.mp c3
      exact x_throwN C0 dX7_labelled_21 dX7_labelled_24 dX7_labelled_25 dX7_labelled_27 dX7_labelled_30 rfl rfl rfl rfl (by decide +kernel) mK_X7_137 mN_NoSuchElementException (xs_ldc C0.2.2.2.2.2.2.2.1.2.2 (RX7, 139, "no such character of a label", 140) (by decide +kernel)) (xhat C0 xg_nse xh_nse (by decide +kernel)) xo_nse (xs_us C0.2.2.2.2.2.2.2.1.2.2) (xs_su C0.2.2.2.2.2.2.2.1.2.2) rfl (Nat.le_of_ble_eq_true rfl) (Nat.le_of_ble_eq_true rfl) (Nat.le_of_ble_eq_true rfl) (Nat.le_of_ble_eq_true rfl) (Nat.le_of_ble_eq_true rfl) (Nat.le_of_ble_eq_true rfl) (fun sz9 h9 => ⟨by decide, (hC.grow h9), xFr.rf, by omega⟩)

set_option maxHeartbeats 4000000 in
set_option maxRecDepth 100000 in
theorem e_X2_append (l : Launch) (hl : l.stackTraces = false) (g : xg_T) (w : xw_T) (sz a n : Nat) (tt : Nat → Int32) (vb : Option Nat) (sg : Nat → Int32) (hw : w a = some (.inr (4, txtL a tt vb))) (hs : w (a + 1) = some (siE g sg)) (hA : xA g a) (hT : tOk n tt) (hv : vbOk g vb) (c : Int32) : xM l g yX2_append cX2_append 2 (some .boolean) ({ frames := 0, cells := 0, slots := 0, locals := 0 }) 0 0 [.ref a, .int c] w sz (fun r w1 sz1 => sz = sz1 ∧ ((n < 60 ∧ r = some (.int 1) ∧ w1 = xup (xup w (a + 1) (siE g (upd sg n (vp_nar .char c)))) a (.inr (4, txtL a (upd tt 0 (tt 0 + 1)) vb)) ∧ tOk (n + 1) (upd tt 0 (tt 0 + 1))) ∨ (n = 60 ∧ r = some (.int 0) ∧ w = w1))) (fun _ _ _ => False) := by
  have hn60 := hT.2.1
  refine xM.of RX2 hl (by decide +kernel) rfl (Nat.le_of_ble_eq_true rfl) rfl ?_
  intro p e s m args below meth cD C0 hini
  refine x_aload_n 0 1 C0 dX2_append_0 rfl rfl rfl ?_
  refine x_getf (v := .int (tt 0)) 1 4 C0 dX2_append_1 rfl hw rfl (by decide) inX2 mF_X2_15 rfl ?_
  refine x_aload_n 0 5 C0 dX2_append_4 rfl rfl rfl ?_
  refine x_getf (v := .ref (a + 1)) 0 8 C0 dX2_append_5 rfl hw rfl (by decide) inX2 mF_X2_9 rfl ?_
  refine x_alen 1 9 C0 (v := 60) dX2_append_8 rfl hs rfl rfl ?_
  refine x_icmp_lt 14 12 C0 dX2_append_9 rfl (by decide) (fun c1 => ?_) (fun c1 => ?_)
  · have c1' := Int32.not_le.mpr c1
    refine x_aload_n 0 15 C0 dX2_append_14 rfl rfl rfl ?_
    refine x_getf (v := .ref (a + 1)) 0 18 C0 dX2_append_15 rfl hw rfl (by decide) inX2 mF_X2_9 rfl ?_
    refine x_aload_n 0 19 C0 dX2_append_18 rfl rfl rfl ?_
    refine x_getf (v := .int (tt 0)) 1 22 C0 dX2_append_19 rfl hw rfl (by decide) inX2 mF_X2_15 rfl ?_
    refine x_iload_n 1 23 C0 dX2_append_22 rfl rfl rfl ?_
    have hn6 : n < 60 := by rw [hT.1] at c1; exact (nI_ltI (by omega) (by omega)).mp c1
    refine x_cast 1 24 C0 (v := vp_nar .char c) dX2_append_23 rfl hs (xA_le hA (by omega)) rfl (by rw [hT.1]; exact vp_in_nI hn6 (by decide)) rfl ?_
    refine x_w (w1 := (xup w (a + 1) (siE g (upd sg n (vp_nar .char c))))) (by rw [hT.1, nI_clamp (by omega)]; rfl) ?_
    refine x_aload_n 0 25 C0 dX2_append_24 rfl rfl rfl ?_
    refine x_dup 26 C0 dX2_append_25 rfl rfl ?_
    refine x_getf (v := .int (tt 0)) 1 29 C0 dX2_append_26 rfl ((xup_n (by omega)).trans hw) rfl (by decide) inX2 mF_X2_15 rfl ?_
    refine x_iconst (v := 1) 30 C0 dX2_append_29 rfl (by decide) ?_
    refine x_iadd 31 C0 dX2_append_30 rfl ?_
    refine x_putf 1 34 C0 dX2_append_31 rfl ((xup_n (by omega)).trans hw) hA rfl (by decide) inX2 tyX2_ok nmX2 mF_X2_15 rfl rfl rfl rfl (Nat.le_of_ble_eq_true rfl) ?_
    refine x_w (w1 := (xup (xup w (a + 1) (siE g (upd sg n (vp_nar .char c)))) a (.inr (4, txtL a (upd tt 0 ((tt 0) + 1)) vb)))) rfl ?_
    have hT2 : tOk (n + 1) (upd tt 0 ((tt 0) + 1)) := hT.n (m := n + 1) (by omega) (by rw [hT.1]; exact nI_1 n)
    refine x_iconst (v := 1) 35 C0 dX2_append_34 rfl (by decide) ?_
    exact x_ireturn C0 dX2_append_35 rfl rfl (Nat.le_of_ble_eq_true rfl) (Nat.le_of_ble_eq_true rfl) ⟨rfl, Or.inl ⟨hn6, rfl, rfl, hT2⟩⟩
  · have c1' := Int32.not_lt.mp c1
    refine x_iconst (v := 0) 13 C0 dX2_append_12 rfl (by decide) ?_
    exact x_ireturn C0 dX2_append_13 rfl rfl (Nat.le_of_ble_eq_true rfl) (Nat.le_of_ble_eq_true rfl) ⟨rfl, Or.inr ⟨Nat.le_antisymm hT.2.1 (Nat.le_of_not_lt (fun z => c1 (by rw [hT.1]; exact nI_lt z (by decide)))), rfl, rfl⟩⟩

set_option maxHeartbeats 4000000 in
set_option maxRecDepth 100000 in
theorem e_X7_feed (l : Launch) (hl : l.stackTraces = false) (g : xg_T) (w : xw_T) (sz n : Nat) (x : Nat → Nat → Int32) (la : Nat → Nat → Nat) (t tt : Nat → Int32) (vb : Option Nat) (sg : Nat → Int32) (hC : CR g w sz n x la t tt vb sg) (c : Int32) : xM l g yX7_feed cX7_feed 2 (some .int) ({ frames := 6, cells := 8, slots := 64, locals := 82 }) 8 64 [.ref (g.2 0), .int c] w sz (fun r w1 sz1 => n < 60 ∧ r = some (.int (nI (n + 1))) ∧ CR g w1 sz1 (n + 1) x la t (upd tt 0 (tt 0 + 1)) vb (upd sg n (vp_nar .char c)) ∧ xFr g w w1 sz ∧ sz ≤ sz1) (fun E w1 sz1 => E = "java/lang/IllegalStateException" ∧ n = 60 ∧ CR g w1 sz1 n x la t tt vb sg ∧ xFr g w w1 sz ∧ sz ≤ sz1) := by
  have hz9 := hC.zz
  refine xM.of RX7 hl (by decide +kernel) rfl (Nat.le_of_ble_eq_true rfl) rfl ?_
  intro p e s m args below meth cD C0 hini
  refine x_aload_n 0 1 C0 dX7_feed_0 rfl rfl rfl ?_
  refine x_getf (v := .ref (g.2 0 + 256)) 4 4 C0 dX7_feed_1 rfl hC.1.1 rfl (by decide) inX7 mF_X7_33 rfl ?_
  refine x_iload_n 1 5 C0 dX7_feed_4 rfl rfl rfl ?_
  refine x_callV 8 C0 (e_X2_append l hl g _ _ (g.2 0 + 256) _ _ _ _ hC.1.2.2.2.1 hC.1.2.2.2.2 (Nat.le_add_right _ _) hC.2.2.1 hC.2.2.2.1 c) dX7_feed_5 rfl mC_X2_append mM_X7_261 mI_X2_append mV_X2_append mN_X2 yd_X2_append rfl rfl ⟨Nat.le_of_ble_eq_true rfl, Nat.le_of_ble_eq_true rfl⟩ hC.1.2.2.2.1 rfl rfl rfl rfl (Nat.le_of_ble_eq_true rfl) ⟨Nat.le_of_ble_eq_true rfl, Nat.le_of_ble_eq_true rfl⟩ (fun _ _ _ q => False.elim q) (fun r w1 sz1 hz hP => ?_)
  obtain ⟨wv1, hwv1⟩ : ∃ z, z = w1 := ⟨_, rfl⟩
  refine x_w hwv1.symm ?_
  obtain ⟨rfl, ⟨hn6, rfl, hw1, hT1⟩ | ⟨hn6, rfl, hw1⟩⟩ := hP
  · rw [← hwv1] at hw1
    obtain ⟨t2, ht2⟩ : ∃ z, z = upd tt 0 (tt 0 + 1) := ⟨_, rfl⟩
    obtain ⟨sg2, hs2⟩ : ∃ z, z = upd sg n (vp_nar .char c) := ⟨_, rfl⟩
    rw [← ht2, ← hs2] at hw1
    rw [← ht2] at hT1
    have hC1 : CR g wv1 sz (n + 1) x la t t2 vb sg2 := by rw [hw1]; exact (hC.setSg).setTx hT1 hC.2.2.2.1
    have hF1 : xFr g w wv1 sz := by rw [hw1]; exact xFr.tr (sz1 := sz) (xFr.up (by omega)) (xFr.up (by omega)) (Nat.le_refl _)
    refine x_st (st1 := [.int 1]) rfl ?_
    refine x_if_ne 22 11 C0 dX7_feed_8 rfl (by decide) (fun _ => ?_) (fun q => False.elim (by revert q; decide))
    refine x_aload_n 0 23 C0 dX7_feed_22 rfl rfl rfl ?_
    refine x_getf (v := .ref (g.2 0 + 256)) 4 26 C0 dX7_feed_23 rfl hC1.1.1 rfl (by decide) inX7 mF_X7_33 rfl ?_
    refine x_getf (v := .int (t2 0)) 1 29 C0 dX7_feed_26 rfl hC1.1.2.2.2.1 rfl (by decide) inX2 mF_X7_254 rfl ?_
    exact x_ireturn C0 dX7_feed_29 rfl rfl (Nat.le_of_ble_eq_true rfl) (Nat.le_of_ble_eq_true rfl) ⟨hn6, by rw [hC1.2.2.1.1], by rw [← ht2, ← hs2]; exact hC1, hF1, by omega⟩
  · rw [← hw1] at hwv1
    subst hwv1
    refine x_st (st1 := [.int 0]) rfl ?_
    refine x_if_ne 22 11 C0 dX7_feed_8 rfl (by decide) (fun q => False.elim (by revert q; decide)) (fun _ => ?_)
    exact x_throwSW xNames C0 dX7_feed_11 dX7_feed_14 dX7_feed_15 dX7_feed_18 dX7_feed_21 rfl rfl rfl rfl (by decide +kernel) (by decide +kernel) mK_X7_265 mN_IllegalStateException (xs_ldc C0.2.2.2.2.2.2.2.1.2.2 (RX7, 267, "the input buffer is full", 147) (by decide +kernel)) (xhat C0 xg_ise xh_ise (by decide +kernel)) xo_ise (xs_us C0.2.2.2.2.2.2.2.1.2.2) (xs_su C0.2.2.2.2.2.2.2.1.2.2) rfl (Nat.le_of_ble_eq_true rfl) (Nat.le_of_ble_eq_true rfl) (Nat.le_of_ble_eq_true rfl) (Nat.le_of_ble_eq_true rfl) (Nat.le_of_ble_eq_true rfl) (Nat.le_of_ble_eq_true rfl) (fun sz9 h9 => ⟨rfl, hn6, hC.grow h9, xFr.rf, by omega⟩)

def L_X7_toQuay (g : xg_T) (x : Nat → Nat → Int32) (la : Nat → Nat → Nat) (t : Nat → Int32) (cn : Int32) (ln : Nat → Nat) (lf : Nat → Nat → Int32)  (r : Option Value) (x' : Nat → Nat → Int32) (la' : Nat → Nat → Nat) (t' : Nat → Int32) : Prop :=
  (∃ (k : Nat) (x1 : Nat → Nat → Int32) (la1 : Nat → Nat → Nat) (x4 : Nat → Nat → Int32) (x3 : Nat → Int32) (la4 : Nat → Nat → Nat) (b3 : Int32) (t5 : Nat → Int32) (v6 : Int32), (cn = nI k) ∧ (nI k < x 0 3) ∧ (k < 20) ∧ (∃ j : Nat, j < 9 ∧ (∀ c : Nat, c < 2 ^ 31 → t 1 = nI c → j = c % 9) ∧ x1 = va_up x (j + 2) (cpX (x (j + 2)) (x 0)) ∧ la1 = va_up la (j + 2) (la 0)) ∧ (x4 = va_up x1 0 x3) ∧ (la4 = va_up la1 0 (la1 0)) ∧ (tri (quayOk (x1 0) ln k) (quayX (x1 0) k) (x1 0) x3 (some (.int b3))) ∧ (¬ b3 = 0) ∧ (t5 = upd (upd t 1 (t 1 + 1)) 2 (if t 2 + 1 < 8 then t 2 + 1 else 8)) ∧ (some (Value.int v6) = some (Value.int (nAt (x4 0) 1 20))) ∧ (r = some (.int v6)) ∧ (x' = x4) ∧ (la' = la4) ∧ (t' = t5))
def E_X7_toQuay (g : xg_T) (x : Nat → Nat → Int32) (la : Nat → Nat → Nat) (t : Nat → Int32) (cn : Int32) (ln : Nat → Nat) (lf : Nat → Nat → Int32)  (E : String) (x' : Nat → Nat → Int32) (la' : Nat → Nat → Nat) (t' : Nat → Int32) : Prop :=
  ((E = "java/lang/IndexOutOfBoundsException") ∧ (¬ (0 ≤ cn ∧ cn < x 0 3 ∧ cn < 20)) ∧ (x' = x) ∧ (la' = la) ∧ (t' = t)) ∨
  (∃ (k : Nat) (x1 : Nat → Nat → Int32) (la1 : Nat → Nat → Nat) (x4 : Nat → Nat → Int32) (x3 : Nat → Int32) (la4 : Nat → Nat → Nat) (b3 : Int32), (cn = nI k) ∧ (nI k < x 0 3) ∧ (k < 20) ∧ (∃ j : Nat, j < 9 ∧ (∀ c : Nat, c < 2 ^ 31 → t 1 = nI c → j = c % 9) ∧ x1 = va_up x (j + 2) (cpX (x (j + 2)) (x 0)) ∧ la1 = va_up la (j + 2) (la 0)) ∧ (x4 = va_up x1 0 x3) ∧ (la4 = va_up la1 0 (la1 0)) ∧ (tri (quayOk (x1 0) ln k) (quayX (x1 0) k) (x1 0) x3 (some (.int b3))) ∧ (E = "java/lang/UnsupportedOperationException") ∧ (b3 = 0) ∧ (x' = x4) ∧ (la' = la4) ∧ (t' = t))
set_option maxHeartbeats 4000000 in
set_option maxRecDepth 100000 in
theorem e_X7_toQuay (l : Launch) (hl : l.stackTraces = false) (g : xg_T) (w : xw_T) (sz n : Nat) (x : Nat → Nat → Int32) (la : Nat → Nat → Nat) (t tt : Nat → Int32) (vb : Option Nat) (sg : Nat → Int32) (hC : CR g w sz n x la t tt vb sg) (cn : Int32) (ln : Nat → Nat) (lf : Nat → Nat → Int32) (hL : ∀ k, k < 20 → xTx g w sz (la 0 k) (ln k) (lf k)) : xM l g yX7_toQuay cX7_toQuay 3 (some .int) ({ frames := 7, cells := 8, slots := 64, locals := 104 }) 8 64 [.ref (g.2 0), .int cn] w sz (cQ g w sz n tt vb sg (fun r x' la' t' => L_X7_toQuay g x la t cn ln lf r x' la' t')) (cE g w sz n tt vb sg (fun E x' la' t' => E_X7_toQuay g x la t cn ln lf E x' la' t')) := by
  have hz9 := hC.zz
  refine xM.of RX7 hl (by decide +kernel) rfl (Nat.le_of_ble_eq_true rfl) rfl ?_
  intro p e s m args below meth cD C0 hini
  refine x_aload_n 0 1 C0 dX7_toQuay_0 rfl rfl rfl ?_
  refine x_iload_n 1 2 C0 dX7_toQuay_1 rfl rfl rfl ?_
  refine x_callV 5 C0 (k_X7_needChest l hl g _ _ _ x la t tt vb sg hC cn) dX7_toQuay_2 rfl mC_X7_needChest mM_X7_89 mI_X7_needChest mV_X7_needChest mN_X7 yd_X7_needChest rfl rfl ⟨Nat.le_of_ble_eq_true rfl, Nat.le_of_ble_eq_true rfl⟩ hC.1.1 rfl rfl rfl rfl (Nat.le_of_ble_eq_true rfl) ⟨Nat.le_of_ble_eq_true rfl, Nat.le_of_ble_eq_true rfl⟩ (fun E9 w9 sz9 q => by obtain ⟨rfl, rfl, h9, hno9⟩ := q; exact x_out C0 rfl (Nat.le_of_ble_eq_true rfl) (Nat.le_of_ble_eq_true rfl) ⟨xFr.rf, by omega, _, _, _, hC.grow h9, (Or.inl ⟨rfl, hno9, rfl, rfl, rfl⟩)⟩) (fun r w1 sz1 hz hP => ?_)
  obtain ⟨⟨k, hk, hm, rfl, hnk⟩, rfl, rfl⟩ := hP
  have hm0 := hm
  refine x_st (st1 := [.ref (g.2 0 + 1 + 3 + k)]) rfl ?_
  refine x_astore_n [(2, .ref (g.2 0 + 1 + 3 + k)), (0, .ref (g.2 0)), (1, .int cn)] 6 C0 dX7_toQuay_5 rfl rfl (by decide) rfl ?_
  refine x_lv (lv1 := [(0, .ref (g.2 0)), (1, .int cn), (2, .ref (g.2 0 + 1 + 3 + k))]) [1, 2, 0] rfl ?_
  refine x_aload_n 0 7 C0 dX7_toQuay_6 rfl rfl rfl ?_
  refine x_getf (v := .ref (g.2 0 + 47)) 3 10 C0 dX7_toQuay_7 rfl hC.1.1 rfl (by decide) inX7 mF_X7_26 rfl ?_
  refine x_aload_n 0 11 C0 dX7_toQuay_10 rfl rfl rfl ?_
  refine x_getf (v := .ref (g.2 0 + 1)) 0 14 C0 dX7_toQuay_11 rfl hC.1.1 rfl (by decide) inX7 mF_X7_10 rfl ?_
  refine x_callV 17 C0 (k_X3_prepare l hl g _ _ _ x la t tt vb sg hC) dX7_toQuay_14 rfl mC_X3_prepare mM_X7_45 mI_X3_prepare mV_X3_prepare mN_X3 yd_X3_prepare rfl rfl ⟨Nat.le_of_ble_eq_true rfl, Nat.le_of_ble_eq_true rfl⟩ hC.1.2.1 rfl rfl rfl rfl (Nat.le_of_ble_eq_true rfl) ⟨Nat.le_of_ble_eq_true rfl, Nat.le_of_ble_eq_true rfl⟩ (fun _ _ _ q => False.elim q) (fun r w1 sz1 hz hP => ?_)
  obtain ⟨wv1, hwv1⟩ : ∃ z, z = w1 := ⟨_, rfl⟩
  obtain ⟨rfl, x1, la1, hC1, hx1, hl1, hG1, rfl, hXX1⟩ := hP
  refine x_w hwv1.symm ?_
  rw [← hwv1] at hC1 hG1
  have hF1 : xFr g w wv1 sz := xFr.tr (sz1 := sz) xFr.rf hG1 (by omega)
  refine x_st (st1 := []) rfl ?_
  have hm : nI k < x1 0 3 := by rw [hx1]; exact hm
  refine x_aload_n 0 18 C0 dX7_toQuay_17 rfl rfl rfl ?_
  refine x_aload_n 0 19 C0 dX7_toQuay_18 rfl rfl rfl ?_
  refine x_getf (v := .ref (g.2 0 + 1)) 0 22 C0 dX7_toQuay_19 rfl hC1.1.1 rfl (by decide) inX7 mF_X7_10 rfl ?_
  refine x_aload_n 2 23 C0 dX7_toQuay_22 rfl rfl rfl ?_
  have hL2 : ∀ k, k < 20 → xTx g wv1 sz (la1 0 k) (ln k) (lf k) := fun k hk => by rw [show la1 0 = la 0 from hl1]; exact (hL k hk).go (fun q q1 q2 => hF1 q (by omega) q2) (by omega)
  refine x_callV 26 C0 (k_X4_tryToQuay l hl g _ _ _ _ _ hC1.h0 (Nat.le_add_right _ _) k hk ln lf (by omega) hL2) dX7_toQuay_23 rfl mC_X4_tryToQuay mM_X7_180 mI_X4_tryToQuay mV_X4_tryToQuay mN_X4 yd_X4_tryToQuay rfl rfl ⟨Nat.le_of_ble_eq_true rfl, Nat.le_of_ble_eq_true rfl⟩ (HR.ho hC1.h0) rfl rfl rfl rfl (Nat.le_of_ble_eq_true rfl) ⟨Nat.le_of_ble_eq_true rfl, Nat.le_of_ble_eq_true rfl⟩ (fun _ _ _ q => False.elim q) (fun r w1 sz1 hz hP => ?_)
  obtain ⟨rfl, x3, hw3, hQ3⟩ := hP
  obtain ⟨hk3, b3, rfl, hb3⟩ := hQ3.ok (fun q => hC1.k0.quay hk) hC1.k0
  obtain ⟨wv3, hwv3⟩ : ∃ z, z = w1 := ⟨_, rfl⟩
  refine x_w hwv3.symm ?_
  rw [← hwv3] at hw3
  obtain ⟨x4, la4, hx4, hla4, hC4⟩ : ∃ x4 la4, x4 = va_up x1 0 x3 ∧ la4 = va_up la1 0 (la1 0) ∧ CR g wv3 sz n x4 la4 t tt vb sg := ⟨_, _, rfl, rfl, by rw [hw3]; exact hC1.set0 hk3 hC1.l0⟩
  have hF4 : xFr g w wv3 sz := xFr.tr (sz1 := sz) hF1 (by rw [hw3]; exact xFr.hw (by omega)) (by omega)
  refine x_st (st1 := [.int b3, .ref (g.2 0)]) rfl ?_
  refine x_callV 29 C0 (k_X7_conclude l hl g _ _ _ x4 la4 t tt vb sg hC4 b3) dX7_toQuay_26 rfl mC_X7_conclude mM_X7_53 mI_X7_conclude mV_X7_conclude mN_X7 yd_X7_conclude rfl rfl ⟨Nat.le_of_ble_eq_true rfl, Nat.le_of_ble_eq_true rfl⟩ hC4.1.1 rfl rfl rfl rfl (Nat.le_of_ble_eq_true rfl) ⟨Nat.le_of_ble_eq_true rfl, Nat.le_of_ble_eq_true rfl⟩ (fun E9 w9 sz9 q => by obtain ⟨rfl, rfl, h9, hno9⟩ := q; exact x_out C0 rfl (Nat.le_of_ble_eq_true rfl) (Nat.le_of_ble_eq_true rfl) ⟨hF4, by omega, _, _, _, hC4.grow h9, (Or.inr (⟨k, x1, la1, x4, x3, la4, b3, hnk, hm0, hk, hXX1, hx4, hla4, hQ3, rfl, hno9, rfl, rfl, rfl⟩))⟩) (fun r w1 sz1 hz hP => ?_)
  obtain ⟨wv5, hwv5⟩ : ∃ z, z = w1 := ⟨_, rfl⟩
  obtain ⟨rfl, t5, hC5, hG5, rfl, hb95, ht95⟩ := hP
  refine x_w hwv5.symm ?_
  rw [← hwv5] at hC5 hG5
  have hF5 : xFr g w wv5 sz := xFr.tr (sz1 := sz) hF4 hG5 (by omega)
  refine x_st (st1 := []) rfl ?_
  refine x_aload_n 0 30 C0 dX7_toQuay_29 rfl rfl rfl ?_
  refine x_getf (v := .ref (g.2 0 + 1)) 0 33 C0 dX7_toQuay_30 rfl hC5.1.1 rfl (by decide) inX7 mF_X7_10 rfl ?_
  refine x_iconst (v := 1) 34 C0 dX7_toQuay_33 rfl (by decide) ?_
  refine x_callV 37 C0 (k_X4_chestsAt l hl g _ _ _ _ _ hC5.h0 1) dX7_toQuay_34 rfl mC_X4_chestsAt mM_X7_183 mI_X4_chestsAt mV_X4_chestsAt mN_X4 yd_X4_chestsAt rfl rfl ⟨Nat.le_of_ble_eq_true rfl, Nat.le_of_ble_eq_true rfl⟩ (HR.ho hC5.h0) rfl rfl rfl rfl (Nat.le_of_ble_eq_true rfl) ⟨Nat.le_of_ble_eq_true rfl, Nat.le_of_ble_eq_true rfl⟩ (fun _ _ _ q => False.elim q) (fun r w1 sz1 hz hP => ?_)
  obtain ⟨hr, rfl, rfl⟩ := hP
  obtain ⟨v6, rfl⟩ : ∃ v : Int32, r = some (.int v) := ⟨_, hr⟩
  have hr6 := hr
  refine x_st (st1 := [.int v6]) rfl ?_
  exact x_ireturn C0 dX7_toQuay_37 rfl rfl (Nat.le_of_ble_eq_true rfl) (Nat.le_of_ble_eq_true rfl) ⟨⟨_, rfl⟩, hF5, by omega, _, _, _, hC5, ⟨k, x1, la1, x4, x3, la4, b3, t5, v6, hnk, hm0, hk, hXX1, hx4, hla4, hQ3, hb95, ht95, hr6, rfl, rfl, rfl, rfl⟩⟩

def L_X7_label (g : xg_T) (w1 : xw_T) (sz1 : Nat) (x : Nat → Nat → Int32) (la : Nat → Nat → Nat) (t : Nat → Int32) (cn : Int32) (r : Option Value) (x' : Nat → Nat → Int32) (la' : Nat → Nat → Nat) (t' : Nat → Int32) : Prop :=
  (∃ (k : Nat) (x1 : Nat → Nat → Int32) (la1 : Nat → Nat → Nat) (b2 : Int32) (xb2 : Nat → Nat → Int32) (lb2 : Nat → Nat → Nat) (t3 : Nat → Int32), (cn = nI k) ∧ (nI k < x 0 3) ∧ (k < 20) ∧ (∃ j : Nat, j < 9 ∧ (∀ c : Nat, c < 2 ^ 31 → t 1 = nI c → j = c % 9) ∧ x1 = va_up x (j + 2) (cpX (x (j + 2)) (x 0)) ∧ la1 = va_up la (j + 2) (la 0)) ∧ (lbR g w1 sz1 x1 la1 k b2 xb2 lb2) ∧ (¬ b2 = 0) ∧ (t3 = upd (upd t 1 (t 1 + 1)) 2 (if t 2 + 1 < 8 then t 2 + 1 else 8)) ∧ (r = some (.int (nI (labLen (x1 0) k)))) ∧ (x' = xb2) ∧ (la' = lb2) ∧ (t' = t3))
def E_X7_label (g : xg_T) (x : Nat → Nat → Int32) (la : Nat → Nat → Nat) (t : Nat → Int32) (cn : Int32) (E : String) (x' : Nat → Nat → Int32) (la' : Nat → Nat → Nat) (t' : Nat → Int32) : Prop :=
  ((E = "java/lang/IndexOutOfBoundsException") ∧ (¬ (0 ≤ cn ∧ cn < x 0 3 ∧ cn < 20)) ∧ (x' = x) ∧ (la' = la) ∧ (t' = t)) ∨
  (∃ (k : Nat) (x1 : Nat → Nat → Int32) (la1 : Nat → Nat → Nat) (wv2 : xw_T) (sv2 : Nat) (b2 : Int32) (xb2 : Nat → Nat → Int32) (lb2 : Nat → Nat → Nat), (cn = nI k) ∧ (nI k < x 0 3) ∧ (k < 20) ∧ (∃ j : Nat, j < 9 ∧ (∀ c : Nat, c < 2 ^ 31 → t 1 = nI c → j = c % 9) ∧ x1 = va_up x (j + 2) (cpX (x (j + 2)) (x 0)) ∧ la1 = va_up la (j + 2) (la 0)) ∧ (lbR g wv2 sv2 x1 la1 k b2 xb2 lb2) ∧ (E = "java/lang/UnsupportedOperationException") ∧ (b2 = 0) ∧ (x' = xb2) ∧ (la' = lb2) ∧ (t' = t))
set_option maxHeartbeats 4000000 in
set_option maxRecDepth 100000 in
theorem e_X7_label (l : Launch) (hl : l.stackTraces = false) (g : xg_T) (w : xw_T) (sz n : Nat) (x : Nat → Nat → Int32) (la : Nat → Nat → Nat) (t tt : Nat → Int32) (vb : Option Nat) (sg : Nat → Int32) (hC : CR g w sz n x la t tt vb sg) (cn : Int32) : xM l g yX7_label cX7_label 3 (some .int) ({ frames := 8, cells := 8, slots := 64, locals := 193 }) 8 64 [.ref (g.2 0), .int cn] w sz (cQW g w sz n tt vb sg (fun w1 sz1 r x' la' t' => L_X7_label g w1 sz1 x la t cn r x' la' t')) (cE g w sz n tt vb sg (fun E x' la' t' => E_X7_label g x la t cn E x' la' t')) := by
  have hz9 := hC.zz
  refine xM.of RX7 hl (by decide +kernel) rfl (Nat.le_of_ble_eq_true rfl) rfl ?_
  intro p e s m args below meth cD C0 hini
  refine x_aload_n 0 1 C0 dX7_label_0 rfl rfl rfl ?_
  refine x_iload_n 1 2 C0 dX7_label_1 rfl rfl rfl ?_
  refine x_callV 5 C0 (k_X7_needChest l hl g _ _ _ x la t tt vb sg hC cn) dX7_label_2 rfl mC_X7_needChest mM_X7_89 mI_X7_needChest mV_X7_needChest mN_X7 yd_X7_needChest rfl rfl ⟨Nat.le_of_ble_eq_true rfl, Nat.le_of_ble_eq_true rfl⟩ hC.1.1 rfl rfl rfl rfl (Nat.le_of_ble_eq_true rfl) ⟨Nat.le_of_ble_eq_true rfl, Nat.le_of_ble_eq_true rfl⟩ (fun E9 w9 sz9 q => by obtain ⟨rfl, rfl, h9, hno9⟩ := q; exact x_out C0 rfl (Nat.le_of_ble_eq_true rfl) (Nat.le_of_ble_eq_true rfl) ⟨xFr.rf, by omega, _, _, _, hC.grow h9, (Or.inl ⟨rfl, hno9, rfl, rfl, rfl⟩)⟩) (fun r w1 sz1 hz hP => ?_)
  obtain ⟨⟨k, hk, hm, rfl, hnk⟩, rfl, rfl⟩ := hP
  have hm0 := hm
  refine x_st (st1 := [.ref (g.2 0 + 1 + 3 + k)]) rfl ?_
  refine x_astore_n [(2, .ref (g.2 0 + 1 + 3 + k)), (0, .ref (g.2 0)), (1, .int cn)] 6 C0 dX7_label_5 rfl rfl (by decide) rfl ?_
  refine x_lv (lv1 := [(0, .ref (g.2 0)), (1, .int cn), (2, .ref (g.2 0 + 1 + 3 + k))]) [1, 2, 0] rfl ?_
  refine x_aload_n 0 7 C0 dX7_label_6 rfl rfl rfl ?_
  refine x_getf (v := .ref (g.2 0 + 47)) 3 10 C0 dX7_label_7 rfl hC.1.1 rfl (by decide) inX7 mF_X7_26 rfl ?_
  refine x_aload_n 0 11 C0 dX7_label_10 rfl rfl rfl ?_
  refine x_getf (v := .ref (g.2 0 + 1)) 0 14 C0 dX7_label_11 rfl hC.1.1 rfl (by decide) inX7 mF_X7_10 rfl ?_
  refine x_callV 17 C0 (k_X3_prepare l hl g _ _ _ x la t tt vb sg hC) dX7_label_14 rfl mC_X3_prepare mM_X7_45 mI_X3_prepare mV_X3_prepare mN_X3 yd_X3_prepare rfl rfl ⟨Nat.le_of_ble_eq_true rfl, Nat.le_of_ble_eq_true rfl⟩ hC.1.2.1 rfl rfl rfl rfl (Nat.le_of_ble_eq_true rfl) ⟨Nat.le_of_ble_eq_true rfl, Nat.le_of_ble_eq_true rfl⟩ (fun _ _ _ q => False.elim q) (fun r w1 sz1 hz hP => ?_)
  obtain ⟨wv1, hwv1⟩ : ∃ z, z = w1 := ⟨_, rfl⟩
  obtain ⟨rfl, x1, la1, hC1, hx1, hl1, hG1, rfl, hXX1⟩ := hP
  refine x_w hwv1.symm ?_
  rw [← hwv1] at hC1 hG1
  have hF1 : xFr g w wv1 sz := xFr.tr (sz1 := sz) xFr.rf hG1 (by omega)
  refine x_st (st1 := []) rfl ?_
  have hm : nI k < x1 0 3 := by rw [hx1]; exact hm
  refine x_aload_n 0 18 C0 dX7_label_17 rfl rfl rfl ?_
  refine x_aload_n 0 19 C0 dX7_label_18 rfl rfl rfl ?_
  refine x_getf (v := .ref (g.2 0 + 1)) 0 22 C0 dX7_label_19 rfl hC1.1.1 rfl (by decide) inX7 mF_X7_10 rfl ?_
  refine x_aload_n 2 23 C0 dX7_label_22 rfl rfl rfl ?_
  refine x_callV 26 C0 (k_X4_tryLabel l hl g _ _ _ _ _ hC1.h0 (Nat.le_add_right _ _) k hk (hC1.k0.filled hk) (by omega) (by omega)) dX7_label_23 rfl mC_X4_tryLabel mM_X7_125 mI_X4_tryLabel mV_X4_tryLabel mN_X4 yd_X4_tryLabel rfl rfl ⟨Nat.le_of_ble_eq_true rfl, Nat.le_of_ble_eq_true rfl⟩ (HR.ho hC1.h0) rfl rfl rfl rfl (Nat.le_of_ble_eq_true rfl) ⟨Nat.le_of_ble_eq_true rfl, Nat.le_of_ble_eq_true rfl⟩ (fun _ _ _ q => False.elim q) (fun r w1 sz1 hz hP => ?_)
  obtain ⟨b2, xb2, lb2, rfl, hb2, hC2, hG2, hz2, hLB2⟩ := CR.labelX hC1 hk hP
  obtain ⟨wv2, hwv2⟩ : ∃ z, z = w1 := ⟨_, rfl⟩
  refine x_w hwv2.symm ?_
  rw [← hwv2] at hC2 hG2 hLB2
  obtain ⟨sv2, hsv2⟩ : ∃ z, z = sz1 := ⟨_, rfl⟩
  rw [← hsv2] at hC2 hz2 hLB2 ⊢
  have hF2 : xFr g w wv2 sz := xFr.tr (sz1 := sz) hF1 hG2 (by omega)
  refine x_st (st1 := [.int b2, .ref (g.2 0)]) rfl ?_
  refine x_callV 29 C0 (k_X7_conclude l hl g _ _ _ xb2 lb2 t tt vb sg hC2 b2) dX7_label_26 rfl mC_X7_conclude mM_X7_53 mI_X7_conclude mV_X7_conclude mN_X7 yd_X7_conclude rfl rfl ⟨Nat.le_of_ble_eq_true rfl, Nat.le_of_ble_eq_true rfl⟩ hC2.1.1 rfl rfl rfl rfl (Nat.le_of_ble_eq_true rfl) ⟨Nat.le_of_ble_eq_true rfl, Nat.le_of_ble_eq_true rfl⟩ (fun E9 w9 sz9 q => by obtain ⟨rfl, rfl, h9, hno9⟩ := q; exact x_out C0 rfl (Nat.le_of_ble_eq_true rfl) (Nat.le_of_ble_eq_true rfl) ⟨hF2, by omega, _, _, _, hC2.grow h9, (Or.inr (⟨k, x1, la1, wv2, sv2, b2, xb2, lb2, hnk, hm0, hk, hXX1, hLB2, rfl, hno9, rfl, rfl, rfl⟩))⟩) (fun r w1 sz1 hz hP => ?_)
  obtain ⟨wv3, hwv3⟩ : ∃ z, z = w1 := ⟨_, rfl⟩
  obtain ⟨rfl, t3, hC3, hG3, rfl, hb93, ht93⟩ := hP
  refine x_w hwv3.symm ?_
  rw [← hwv3] at hC3 hG3
  have hF3 : xFr g w wv3 sz := xFr.tr (sz1 := sv2) hF2 hG3 (by omega)
  refine x_st (st1 := []) rfl ?_
  refine x_aload_n 2 30 C0 dX7_label_29 rfl rfl rfl ?_
  refine x_getf (v := .ref (lb2 0 k)) 9 33 C0 dX7_label_30 rfl (HR.c hC3.h0 hk) rfl (by decide) inX1 mF_X7_128 rfl ?_
  obtain ⟨a9, hla9, hT9⟩ : ∃ a : Nat, lb2 = va_up la1 0 (va_up (la1 0) k a) ∧ xTx g wv2 sv2 a (labLen (x1 0) k) (labTxt (x1 0) k) := hLB2.elim (fun q => q.2.2.2) (fun q => absurd q.2.1 hb93)
  have hTT : xTx g wv3 sv2 (lb2 0 k) (labLen (x1 0) k) (labTxt (x1 0) k) := by rw [hla9, va_up_self, va_up_self]; exact hT9.go (fun q q1 q2 => hG3 q (by omega) q2) (by omega)
  obtain ⟨v9, ft9, hS9, hn9, hj9⟩ := hTT.str
  refine x_callR 36 (C := RJ0) C0 (k_J0_length_8abf5 l hl g _ _ _ _ _ _ hS9) dX7_label_33 rfl mC_J0_length_8abf5 mM_X7_132 mI_J0_length_8abf5 mV_J0_length_8abf5 mN_J0 yd_J0_length_8abf5 rfl rfl ⟨Nat.le_of_ble_eq_true rfl, Nat.le_of_ble_eq_true rfl⟩ (xRecv.str C0 hS9) rfl rfl (Nat.le_of_ble_eq_true rfl) ⟨Nat.le_of_ble_eq_true rfl, Nat.le_of_ble_eq_true rfl⟩ (fun _ _ _ q => False.elim q) (fun r w1 sz1 hz hP => ?_)
  obtain ⟨rfl, rfl, rfl⟩ := hP
  refine x_st (st1 := [.int (nI (labLen (x1 0) k))]) rfl ?_
  exact x_ireturn C0 dX7_label_36 rfl rfl (Nat.le_of_ble_eq_true rfl) (Nat.le_of_ble_eq_true rfl) ⟨⟨_, rfl⟩, hF3, by omega, _, _, _, hC3, ⟨k, x1, la1, b2, xb2, lb2, t3, hnk, hm0, hk, hXX1, (hLB2.go hG3 (by omega)), hb93, ht93, rfl, rfl, rfl, rfl⟩⟩

