/-! READS WITH LOOPS, ON BOTH SIDES -/
def Q_X8_sailedShare (n : Nat) (t v : Nat → Int32) (r : Option Value) (z : Int32) : Prop := (¬ v 6 = 0 ∧ z = 0 ∧ r = some (.float (FP.fdiv (FP.i2f (v 7)) (FP.i2f (v 6))))) ∨ (v 6 = 0 ∧ z = 1)
def shC (x : Nat → Int32) (r : Option Value) : Prop := ¬ x 6 = 0 ∧ r = some (.float (FP.fdiv (FP.i2f (x 7)) (FP.i2f (x 6))))
set_option maxHeartbeats 4000000 in
set_option maxRecDepth 100000 in
theorem e_X8_sailedShare (l : Launch) (hl : l.stackTraces = false) (g : xg_T) (w : xw_T) (sz n : Nat) (t v bf sv pa lb ip td sg : Nat → Int32) (hM : MR g w t v bf sv pa lb ip td sg) (hJ : MJ n t v bf sv pa sg) : xM l g yX8_sailedShare cX8_sailedShare 1 (some .float) ({ frames := 1, cells := 0, slots := 0, locals := 21 }) 0 0 [.ref (g.2 0 + 258)] w sz (mRd g w sz n t v bf sv pa ip td sg (fun r z => (∃ q : UInt32, r = some (.float q)) ∧ Q_X8_sailedShare n t v r z)) (fun _ _ _ => False) := by
  refine xM.of RX8 hl (by decide +kernel) rfl (Nat.le_of_ble_eq_true rfl) rfl ?_
  intro p e s m args below meth cD C0 hini
  refine x_aload_n 0 1 C0 dX8_sailedShare_0 rfl rfl rfl ?_
  refine x_iconst (v := 0) 2 C0 dX8_sailedShare_1 rfl (by decide) ?_
  refine x_w (MW_self hM) ?_
  refine x_putf 0 5 C0 dX8_sailedShare_2 rfl MR_MW.o (by show g.2 0 ≤ _; omega) rfl (by decide) inX8 tyX8_ok nmX8 mF_X8_34 rfl rfl rfl rfl (Nat.le_of_ble_eq_true rfl) ?_
  refine x_w (w1 := (MW g w (upd t 0 0) v bf sv pa lb ip td sg)) (MW_o rfl) ?_
  have hJ1 : MJ n (upd t 0 0) v bf sv pa sg := hJ.j_t (by decide)
  refine x_aload_n 0 6 C0 dX8_sailedShare_5 rfl rfl rfl ?_
  refine x_getf (v := .ref (g.2 0 + 258 + 1)) 8 9 C0 dX8_sailedShare_6 rfl MR_MW.o rfl (by decide) inX8 mF_X8_7 rfl ?_
  refine x_bipush (v := 6) 11 C0 dX8_sailedShare_9 rfl (by decide) ?_
  refine x_iald 0 12 C0 dX8_sailedShare_11 rfl MR_MW.r_v rfl (vp_in_nI (n := 6) (by decide) (by decide)) ?_
  refine x_st (st1 := [.int (v 6)]) (congrArg (fun z => Value.int z :: _) (show v (nI 6).toNatClampNeg = v 6 from by rw [nI_clamp (by omega)])) ?_
  refine x_if_ne 24 15 C0 dX8_sailedShare_12 rfl (by decide) (fun c2 => ?_) (fun c2 => ?_)
  · refine x_aload_n 0 25 C0 dX8_sailedShare_24 rfl rfl rfl ?_
    refine x_getf (v := .ref (g.2 0 + 258 + 1)) 8 28 C0 dX8_sailedShare_25 rfl MR_MW.o rfl (by decide) inX8 mF_X8_7 rfl ?_
    refine x_bipush (v := 7) 30 C0 dX8_sailedShare_28 rfl (by decide) ?_
    refine x_iald 0 31 C0 dX8_sailedShare_30 rfl MR_MW.r_v rfl (vp_in_nI (n := 7) (by decide) (by decide)) ?_
    refine x_st (st1 := [.int (v 7)]) (congrArg (fun z => Value.int z :: _) (show v (nI 7).toNatClampNeg = v 7 from by rw [nI_clamp (by omega)])) ?_
    refine x_i2f 32 C0 dX8_sailedShare_31 rfl ?_
    refine x_aload_n 0 33 C0 dX8_sailedShare_32 rfl rfl rfl ?_
    refine x_getf (v := .ref (g.2 0 + 258 + 1)) 8 36 C0 dX8_sailedShare_33 rfl MR_MW.o rfl (by decide) inX8 mF_X8_7 rfl ?_
    refine x_bipush (v := 6) 38 C0 dX8_sailedShare_36 rfl (by decide) ?_
    refine x_iald 0 39 C0 dX8_sailedShare_38 rfl MR_MW.r_v rfl (vp_in_nI (n := 6) (by decide) (by decide)) ?_
    refine x_st (st1 := [.int (v 6), .float (FP.i2f (v 7))]) (congrArg (fun z => Value.int z :: _) (show v (nI 6).toNatClampNeg = v 6 from by rw [nI_clamp (by omega)])) ?_
    refine x_i2f 40 C0 dX8_sailedShare_39 rfl ?_
    refine x_fdiv 41 C0 dX8_sailedShare_40 rfl (fdiv_ok _ c2) ?_
    exact x_freturn C0 dX8_sailedShare_41 rfl (Nat.le_of_ble_eq_true rfl) (Nat.le_of_ble_eq_true rfl) ⟨rfl, _, _, rfl, hJ1, (tL.rf.up (by decide)), ⟨⟨_, rfl⟩, Or.inl ⟨c2, rfl, rfl⟩⟩⟩
  · refine x_aload_n 0 16 C0 dX8_sailedShare_15 rfl rfl rfl ?_
    refine x_iconst (v := 1) 17 C0 dX8_sailedShare_16 rfl (by decide) ?_
    refine x_callV 20 C0 (k_X8_no l hl g _ _ n (upd t 0 0) v bf sv pa lb ip td sg MR_MW hJ1 1) dX8_sailedShare_17 rfl mC_X8_no mM_X8_61 mI_X8_no mV_X8_no mN_X8 yd_X8_no rfl rfl ⟨Nat.le_of_ble_eq_true rfl, Nat.le_of_ble_eq_true rfl⟩ MR_MW.o rfl rfl rfl rfl (Nat.le_of_ble_eq_true rfl) ⟨Nat.le_of_ble_eq_true rfl, Nat.le_of_ble_eq_true rfl⟩ (fun _ _ _ q => False.elim q) (fun r w1 sz1 hz hP => ?_)
    obtain ⟨rfl, rfl, rfl⟩ := hP
    refine x_w MW_MW ?_
    have hJ3 : MJ n (upd (upd t 0 0) 0 1) v bf sv pa sg := (hJ1.j_t (by decide))
    refine x_st (st1 := [.int 0]) rfl ?_
    refine x_i2f 21 C0 dX8_sailedShare_20 rfl ?_
    refine x_goto 41 C0 dX8_sailedShare_21 (by decide) ?_
    exact x_freturn C0 dX8_sailedShare_41 rfl (Nat.le_of_ble_eq_true rfl) (Nat.le_of_ble_eq_true rfl) ⟨rfl, _, _, rfl, hJ3, ((tL.rf.up (by decide)).up (by decide)), ⟨⟨_, rfl⟩, Or.inr ⟨c2, rfl⟩⟩⟩

set_option maxHeartbeats 4000000 in
set_option maxRecDepth 100000 in
theorem f9_X7_sailedShare (l : Launch) (hl : l.stackTraces = false) (g : xg_T) (w : xw_T) (sz n : Nat) (x : Nat → Nat → Int32) (la : Nat → Nat → Nat) (t tt : Nat → Int32) (vb : Option Nat) (sg : Nat → Int32) (hC : CR g w sz n x la t tt vb sg) : xM l g yX7_sailedShare cX7_sailedShare 1 (some .float) ({ frames := 6, cells := 8, slots := 64, locals := 82 }) 8 64 [.ref (g.2 0)] w sz (fPo g w sz n x la t tt vb sg (shC (x 0))) (fun E9 w9 sz9 => x 0 6 = 0 ∧ fXo g w sz n x la t tt vb sg ["java/lang/ArithmeticException"] E9 w9 sz9) := by
  have hz9 := hC.zz
  refine xM.of RX7 hl (by decide +kernel) rfl (Nat.le_of_ble_eq_true rfl) rfl ?_
  intro p e s m args below meth cD C0 hini
  refine x_aload_n 0 1 C0 dX7_sailedShare_0 rfl rfl rfl ?_
  refine x_getf (v := .ref (g.2 0 + 1)) 0 4 C0 dX7_sailedShare_1 rfl hC.1.1 rfl (by decide) inX7 mF_X7_10 rfl ?_
  refine x_getf (v := .int (x 0 6)) 9 7 C0 dX7_sailedShare_4 rfl (HR.ho hC.h0) rfl (by decide) inX4 mF_X7_222 rfl ?_
  refine x_if_ne 20 10 C0 dX7_sailedShare_7 rfl (by decide) (fun c1 => ?_) (fun c1 => ?_)
  · refine x_aload_n 0 21 C0 dX7_sailedShare_20 rfl rfl rfl ?_
    refine x_getf (v := .ref (g.2 0 + 1)) 0 24 C0 dX7_sailedShare_21 rfl hC.1.1 rfl (by decide) inX7 mF_X7_10 rfl ?_
    refine x_getf (v := .int (x 0 7)) 10 27 C0 dX7_sailedShare_24 rfl (HR.ho hC.h0) rfl (by decide) inX4 mF_X7_216 rfl ?_
    refine x_i2f 28 C0 dX7_sailedShare_27 rfl ?_
    refine x_aload_n 0 29 C0 dX7_sailedShare_28 rfl rfl rfl ?_
    refine x_getf (v := .ref (g.2 0 + 1)) 0 32 C0 dX7_sailedShare_29 rfl hC.1.1 rfl (by decide) inX7 mF_X7_10 rfl ?_
    refine x_getf (v := .int (x 0 6)) 9 35 C0 dX7_sailedShare_32 rfl (HR.ho hC.h0) rfl (by decide) inX4 mF_X7_222 rfl ?_
    refine x_i2f 36 C0 dX7_sailedShare_35 rfl ?_
    refine x_fdiv 37 C0 dX7_sailedShare_36 rfl (fdiv_ok _ c1) ?_
    exact x_freturn C0 dX7_sailedShare_37 rfl (Nat.le_of_ble_eq_true rfl) (Nat.le_of_ble_eq_true rfl) ⟨⟨c1, rfl⟩, hC, xFr.rf, by omega⟩
  · exact x_throwS xNames C0 dX7_sailedShare_10 dX7_sailedShare_13 dX7_sailedShare_14 dX7_sailedShare_16 dX7_sailedShare_19 rfl rfl rfl rfl (by decide +kernel) (by decide +kernel) mK_X7_231 mN_ArithmeticException (xs_ldc C0.2.2.2.2.2.2.2.1.2.2 (RX7, 239, "nothing was brought", 144) (by decide +kernel)) (xhat C0 xg_are xh_are (by decide +kernel)) xo_are (xs_us C0.2.2.2.2.2.2.2.1.2.2) (xs_su C0.2.2.2.2.2.2.2.1.2.2) rfl (Nat.le_of_ble_eq_true rfl) (Nat.le_of_ble_eq_true rfl) (Nat.le_of_ble_eq_true rfl) (Nat.le_of_ble_eq_true rfl) (Nat.le_of_ble_eq_true rfl) (Nat.le_of_ble_eq_true rfl) (fun sz9 h9 => ⟨c1, by decide, (hC.grow h9), xFr.rf, by omega⟩)

