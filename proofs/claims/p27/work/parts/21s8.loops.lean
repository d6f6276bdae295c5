/-! READS WITH LOOPS, ON BOTH SIDES -/
def wetR (v : Nat → Int32) (k : Nat) : Bool := !decide (v (28 + 9 * k + 7) = 3) && !decide (v (28 + 9 * k + 3) = 0)
def wetN (v : Nat → Int32) (n : Nat) : Int32 := hFold (wetR v) (fun _ => 1) n
def wetS (v : Nat → Int32) (n : Nat) : Int32 := hFold (wetR v) (fun k => v (28 + 9 * k + 6)) n
theorem wet_no {v : Nat → Int32} {n : Nat} (h : wetR v n = false) : wetN v n = wetN v (n + 1) ∧ wetS v n = wetS v (n + 1) := by
  constructor
  · show _ = hFold _ _ (n + 1)
    rw [hFold, h]
    rfl
  · show _ = hFold _ _ (n + 1)
    rw [hFold, h]
    rfl
theorem wet_yes {v : Nat → Int32} {n : Nat} (h : wetR v n = true) : wetN v n + 1 = wetN v (n + 1) ∧ wetS v n + v (28 + 9 * n + 6) = wetS v (n + 1) := by
  constructor
  · show _ = hFold _ _ (n + 1)
    rw [hFold, h]
    rfl
  · show _ = hFold _ _ (n + 1)
    rw [hFold, h]
    rfl
def mdV (a c : Int32) : UInt64 := FP.ddiv (FP.i2d a) (FP.i2d c)
def Q_X8_meanDamp (n : Nat) (t v : Nat → Int32) (r : Option Value) (z : Int32) : Prop := ∃ m : Nat, m ≤ 20 ∧ v 3 = nI m ∧ ((¬ wetN v m = 0 ∧ z = 0 ∧ r = some (.double (mdV (wetS v m) (wetN v m)))) ∨ (wetN v m = 0 ∧ z = 1))
def mdC (x : Nat → Int32) (r : Option Value) : Prop := ¬ filledN x 20 = 0 ∧ r = some (.double (mdV (dampN x 20) (filledN x 20)))
set_option maxHeartbeats 4000000 in
set_option maxRecDepth 100000 in
theorem e_X8_meanDamp (l : Launch) (hl : l.stackTraces = false) (g : xg_T) (w : xw_T) (sz n : Nat) (t v bf sv pa lb ip td sg : Nat → Int32) (hM : MR g w t v bf sv pa lb ip td sg) (hJ : MJ n t v bf sv pa sg) : xM l g yX8_meanDamp cX8_meanDamp 4 (some .double) ({ frames := 2, cells := 0, slots := 0, locals := 42 }) 0 0 [.ref (g.2 0 + 258)] w sz (mRd g w sz n t v bf sv pa ip td sg (fun r z => (∃ q : UInt64, r = some (.double q)) ∧ Q_X8_meanDamp n t v r z)) (fun _ _ _ => False) := by
  refine xM.of RX8 hl (by decide +kernel) rfl (Nat.le_of_ble_eq_true rfl) rfl ?_
  intro p e s m args below meth cD C0 hini
  refine x_aload_n 0 1 C0 dX8_meanDamp_0 rfl rfl rfl ?_
  refine x_iconst (v := 0) 2 C0 dX8_meanDamp_1 rfl (by decide) ?_
  refine x_w (MW_self hM) ?_
  refine x_putf 0 5 C0 dX8_meanDamp_2 rfl MR_MW.o (by show g.2 0 ≤ _; omega) rfl (by decide) inX8 tyX8_ok nmX8 mF_X8_34 rfl rfl rfl rfl (Nat.le_of_ble_eq_true rfl) ?_
  refine x_w (w1 := (MW g w (upd t 0 0) v bf sv pa lb ip td sg)) (MW_o rfl) ?_
  have hJ1 : MJ n (upd t 0 0) v bf sv pa sg := hJ.j_t (by decide)
  refine x_iconst (v := 0) 6 C0 dX8_meanDamp_5 rfl (by decide) ?_
  refine x_istore_n [(1, .int 0), (0, .ref (g.2 0 + 258))] 7 C0 dX8_meanDamp_6 rfl rfl (by decide) rfl ?_
  refine x_lv (lv1 := [(0, .ref (g.2 0 + 258)), (1, .int 0)]) [1, 0] rfl ?_
  refine x_iconst (v := 0) 8 C0 dX8_meanDamp_7 rfl (by decide) ?_
  refine x_istore_n [(2, .int 0), (0, .ref (g.2 0 + 258)), (1, .int 0)] 9 C0 dX8_meanDamp_8 rfl rfl (by decide) rfl ?_
  refine x_lv (lv1 := [(0, .ref (g.2 0 + 258)), (1, .int 0), (2, .int 0)]) [1, 2, 0] rfl ?_
  refine x_iconst (v := 0) 10 C0 dX8_meanDamp_9 rfl (by decide) ?_
  refine x_istore_n [(3, .int 0), (0, .ref (g.2 0 + 258)), (1, .int 0), (2, .int 0)] 11 C0 dX8_meanDamp_10 rfl rfl (by decide) rfl ?_
  refine x_lv (lv1 := [(0, .ref (g.2 0 + 258)), (1, .int 0), (2, .int 0), (3, .int 0)]) [1, 2, 3, 0] rfl ?_
  have loop11 : ∀ (N i : Nat) (ac : Int32) (ad : Int32), i ≤ 20 → 20 - i < N → ac = wetN v i → ad = wetS v i → (∀ m, m ≤ 20 → v 3 = nI m → i ≤ m) → xV p l e ({ frames := 2, cells := 0, slots := 0, locals := 42 }) s m args below meth cD (xQ g below (mRd g w sz n t v bf sv pa ip td sg (fun r z => (∃ q : UInt64, r = some (.double q)) ∧ Q_X8_meanDamp n t v r z)) (fun _ _ _ => False) args s 0 0) g 4 (MW g w (upd t 0 0) v bf sv pa lb ip td sg) sz (0) (0) 11 [(0, .ref (g.2 0 + 258)), (1, .int ac), (2, .int ad), (3, .int (nI i))] [] := by
    intro N
    induction N with
    | zero => intro i ac ad h1 h2; omega
    | succ N ih =>
      intro i ac ad hi hN hac had him
      refine x_iload_n 3 12 C0 dX8_meanDamp_11 rfl rfl rfl ?_
      refine x_aload_n 0 13 C0 dX8_meanDamp_12 rfl rfl rfl ?_
      refine x_getf (v := .ref (g.2 0 + 258 + 1)) 8 16 C0 dX8_meanDamp_13 rfl MR_MW.o rfl (by decide) inX8 mF_X8_7 rfl ?_
      refine x_iconst (v := 3) 17 C0 dX8_meanDamp_16 rfl (by decide) ?_
      refine x_iald 0 18 C0 dX8_meanDamp_17 rfl MR_MW.r_v rfl (vp_in_nI (n := 3) (by decide) (by decide)) ?_
      refine x_st (st1 := [.int (v 3), .int (nI i)]) (congrArg (fun z => Value.int z :: _) (show v (nI 3).toNatClampNeg = v 3 from by rw [nI_clamp (by omega)])) ?_
      obtain ⟨nC2, hnC2, hv32⟩ := hJ1.1.n
      have hin := him nC2 hnC2 hv32
      have hun : ∀ m, m ≤ 20 → v 3 = nI m → m = nC2 := fun m h1 h2 => (nI_eq (by omega) (by omega)).mp (h2.symm.trans hv32)
      refine x_st (st1 := [.int (nI nC2), .int (nI i)]) (congrArg (fun z => Value.int z :: _) (hv32)) ?_
      refine x_icmp_ge 70 21 C0 dX8_meanDamp_18 rfl (by decide) (fun c3 => ?_) (fun c3 => ?_)
      · have hii : i = nC2 := Nat.le_antisymm hin ((nI_leI (by omega) (by omega)).mp c3)
        subst hii
        refine x_iload_n 1 71 C0 dX8_meanDamp_70 rfl rfl rfl ?_
        refine x_if_ne 83 74 C0 dX8_meanDamp_71 rfl (by decide) (fun c4 => ?_) (fun c4 => ?_)
        · refine x_iload_n 2 84 C0 dX8_meanDamp_83 rfl rfl rfl ?_
          refine x_i2d 85 C0 dX8_meanDamp_84 rfl ?_
          refine x_iload_n 1 86 C0 dX8_meanDamp_85 rfl rfl rfl ?_
          refine x_i2d 87 C0 dX8_meanDamp_86 rfl ?_
          refine x_ddiv 88 C0 dX8_meanDamp_87 rfl (ddiv_ok _ c4) ?_
          exact x_dreturn C0 dX8_meanDamp_88 rfl (Nat.le_of_ble_eq_true rfl) (Nat.le_of_ble_eq_true rfl) ⟨rfl, _, _, rfl, hJ1, (tL.rf.up (by decide)), ⟨⟨_, rfl⟩, i, hnC2, hv32, Or.inl ⟨by rw [← hac]; exact c4, rfl, by rw [← hac, ← had]; rfl⟩⟩⟩
        · refine x_aload_n 0 75 C0 dX8_meanDamp_74 rfl rfl rfl ?_
          refine x_iconst (v := 1) 76 C0 dX8_meanDamp_75 rfl (by decide) ?_
          refine x_callV 79 C0 (k_X8_no l hl g _ _ n (upd t 0 0) v bf sv pa lb ip td sg MR_MW hJ1 1) dX8_meanDamp_76 rfl mC_X8_no mM_X8_61 mI_X8_no mV_X8_no mN_X8 yd_X8_no rfl rfl ⟨Nat.le_of_ble_eq_true rfl, Nat.le_of_ble_eq_true rfl⟩ MR_MW.o rfl rfl rfl rfl (Nat.le_of_ble_eq_true rfl) ⟨Nat.le_of_ble_eq_true rfl, Nat.le_of_ble_eq_true rfl⟩ (fun _ _ _ q => False.elim q) (fun r w1 sz1 hz hP => ?_)
          obtain ⟨rfl, rfl, rfl⟩ := hP
          refine x_w MW_MW ?_
          have hJ5 : MJ n (upd (upd t 0 0) 0 1) v bf sv pa sg := (hJ1.j_t (by decide))
          refine x_st (st1 := [.int 0]) rfl ?_
          refine x_i2d 80 C0 dX8_meanDamp_79 rfl ?_
          refine x_goto 88 C0 dX8_meanDamp_80 (by decide) ?_
          exact x_dreturn C0 dX8_meanDamp_88 rfl (Nat.le_of_ble_eq_true rfl) (Nat.le_of_ble_eq_true rfl) ⟨rfl, _, _, rfl, hJ5, ((tL.rf.up (by decide)).up (by decide)), ⟨⟨_, rfl⟩, i, hnC2, hv32, Or.inr ⟨by rw [← hac]; exact c4, rfl⟩⟩⟩
      · have hi2 : i < nC2 := Nat.lt_of_not_le (fun z => c3 (nI_le (a := nC2) z (by omega)))
        refine x_aload_n 0 22 C0 dX8_meanDamp_21 rfl rfl rfl ?_
        refine x_getf (v := .ref (g.2 0 + 258 + 1)) 8 25 C0 dX8_meanDamp_22 rfl MR_MW.o rfl (by decide) inX8 mF_X8_7 rfl ?_
        refine x_iload_n 3 26 C0 dX8_meanDamp_25 rfl rfl rfl ?_
        refine x_bipush (v := 7) 28 C0 dX8_meanDamp_26 rfl (by decide) ?_
        refine x_callS 31 C0 (k_X8_at l hl g _ _ (nI i) 7) dX8_meanDamp_28 rfl mC_X8_at mM_X8_71 mS_X8_at mN_X8 yd_X8_at rfl rfl ⟨Nat.le_of_ble_eq_true rfl, Nat.le_of_ble_eq_true rfl⟩ rfl rfl (Nat.le_of_ble_eq_true rfl) ⟨Nat.le_of_ble_eq_true rfl, Nat.le_of_ble_eq_true rfl⟩ (fun _ _ _ q => False.elim q) (fun r w1 sz1 hz hP => ?_)
        obtain ⟨rfl, rfl, rfl⟩ := hP
        refine x_st (st1 := [.int (nI (28 + 9 * i + 7)), .ref (g.2 0 + 258 + 1)]) (congrArg (fun z => Value.int z :: _) (at_nI 28 9 i 7)) ?_
        refine x_iald 0 32 C0 dX8_meanDamp_31 rfl MR_MW.r_v rfl (vp_in_nI (n := 28 + 9 * i + 7) (by omega) (by decide)) ?_
        refine x_st (st1 := [.int (v (28 + 9 * i + 7))]) (congrArg (fun z => Value.int z :: _) (show v (nI (28 + 9 * i + 7)).toNatClampNeg = v (28 + 9 * i + 7) from by rw [nI_clamp (by omega)])) ?_
        refine x_iconst (v := 3) 33 C0 dX8_meanDamp_32 rfl (by decide) ?_
        refine x_icmp_eq 64 36 C0 dX8_meanDamp_33 rfl (by decide) (fun c6 => ?_) (fun c6 => ?_)
        · refine x_iinc [(3, .int (nI (i + 1))), (0, .ref (g.2 0 + 258)), (1, .int ac), (2, .int ad)] 3 67 C0 dX8_meanDamp_64 rfl rfl (nI_1 i) (by decide) rfl ?_
          refine x_lv (lv1 := [(0, .ref (g.2 0 + 258)), (1, .int ac), (2, .int ad), (3, .int (nI (i + 1)))]) [1, 2, 3, 0] rfl ?_
          refine x_goto 11 C0 dX8_meanDamp_67 (by decide) ?_
          exact x_lv [0, 1, 2, 3] rfl (ih (i + 1) _ _ (by omega) (by omega) (hac.trans (wet_no (by unfold wetR; rw [decide_eq_true c6]; rfl)).1) (had.trans (wet_no (by unfold wetR; rw [decide_eq_true c6]; rfl)).2) (fun m h1 h2 => by have := hun m h1 h2; omega))
        · refine x_aload_n 0 37 C0 dX8_meanDamp_36 rfl rfl rfl ?_
          refine x_iload_n 3 38 C0 dX8_meanDamp_37 rfl rfl rfl ?_
          refine x_callV 41 C0 (k_X8_isEmpty l hl g _ _ n (upd t 0 0) v bf sv pa lb ip td sg MR_MW hJ1 i (by omega)) dX8_meanDamp_38 rfl mC_X8_isEmpty mM_X8_118 mI_X8_isEmpty mV_X8_isEmpty mN_X8 yd_X8_isEmpty rfl rfl ⟨Nat.le_of_ble_eq_true rfl, Nat.le_of_ble_eq_true rfl⟩ MR_MW.o rfl rfl rfl rfl (Nat.le_of_ble_eq_true rfl) ⟨Nat.le_of_ble_eq_true rfl, Nat.le_of_ble_eq_true rfl⟩ (fun _ _ _ q => False.elim q) (fun r w1 sz1 hz hP => ?_)
          obtain ⟨hR7, rfl, rfl⟩ := hP
          rcases hR7 with ⟨rfl, hq7⟩ | ⟨rfl, hq7⟩
          · refine x_st (st1 := [.int 1]) rfl ?_
            refine x_if_eq 47 44 C0 dX8_meanDamp_41 rfl (by decide) (fun q => False.elim (by revert q; decide)) (fun _ => ?_)
            refine x_goto 64 C0 dX8_meanDamp_44 (by decide) ?_
            refine x_iinc [(3, .int (nI (i + 1))), (0, .ref (g.2 0 + 258)), (1, .int ac), (2, .int ad)] 3 67 C0 dX8_meanDamp_64 rfl rfl (nI_1 i) (by decide) rfl ?_
            refine x_lv (lv1 := [(0, .ref (g.2 0 + 258)), (1, .int ac), (2, .int ad), (3, .int (nI (i + 1)))]) [1, 2, 3, 0] rfl ?_
            refine x_goto 11 C0 dX8_meanDamp_67 (by decide) ?_
            exact x_lv [0, 1, 2, 3] rfl (ih (i + 1) _ _ (by omega) (by omega) (hac.trans (wet_no (by unfold wetR; rw [decide_eq_true hq7]; cases decide (v (28 + 9 * i + 7) = 3) <;> rfl)).1) (had.trans (wet_no (by unfold wetR; rw [decide_eq_true hq7]; cases decide (v (28 + 9 * i + 7) = 3) <;> rfl)).2) (fun m h1 h2 => by have := hun m h1 h2; omega))
          · refine x_st (st1 := [.int 0]) rfl ?_
            refine x_if_eq 47 44 C0 dX8_meanDamp_41 rfl (by decide) (fun _ => ?_) (fun q => False.elim (by revert q; decide))
            refine x_iinc [(1, .int (ac + 1)), (0, .ref (g.2 0 + 258)), (2, .int ad), (3, .int (nI i))] 1 50 C0 dX8_meanDamp_47 rfl rfl rfl (by decide) rfl ?_
            refine x_lv (lv1 := [(0, .ref (g.2 0 + 258)), (1, .int (ac + 1)), (2, .int ad), (3, .int (nI i))]) [1, 0, 2, 3] rfl ?_
            refine x_iload_n 2 51 C0 dX8_meanDamp_50 rfl rfl rfl ?_
            refine x_aload_n 0 52 C0 dX8_meanDamp_51 rfl rfl rfl ?_
            refine x_getf (v := .ref (g.2 0 + 258 + 1)) 8 55 C0 dX8_meanDamp_52 rfl MR_MW.o rfl (by decide) inX8 mF_X8_7 rfl ?_
            refine x_iload_n 3 56 C0 dX8_meanDamp_55 rfl rfl rfl ?_
            refine x_bipush (v := 6) 58 C0 dX8_meanDamp_56 rfl (by decide) ?_
            refine x_callS 61 C0 (k_X8_at l hl g _ _ (nI i) 6) dX8_meanDamp_58 rfl mC_X8_at mM_X8_71 mS_X8_at mN_X8 yd_X8_at rfl rfl ⟨Nat.le_of_ble_eq_true rfl, Nat.le_of_ble_eq_true rfl⟩ rfl rfl (Nat.le_of_ble_eq_true rfl) ⟨Nat.le_of_ble_eq_true rfl, Nat.le_of_ble_eq_true rfl⟩ (fun _ _ _ q => False.elim q) (fun r w1 sz1 hz hP => ?_)
            obtain ⟨rfl, rfl, rfl⟩ := hP
            refine x_st (st1 := [.int (nI (28 + 9 * i + 6)), .ref (g.2 0 + 258 + 1), .int ad]) (congrArg (fun z => Value.int z :: _) (at_nI 28 9 i 6)) ?_
            refine x_iald 0 62 C0 dX8_meanDamp_61 rfl MR_MW.r_v rfl (vp_in_nI (n := 28 + 9 * i + 6) (by omega) (by decide)) ?_
            refine x_st (st1 := [.int (v (28 + 9 * i + 6)), .int ad]) (congrArg (fun z => Value.int z :: _) (show v (nI (28 + 9 * i + 6)).toNatClampNeg = v (28 + 9 * i + 6) from by rw [nI_clamp (by omega)])) ?_
            refine x_iadd 63 C0 dX8_meanDamp_62 rfl ?_
            refine x_istore_n [(2, .int (ad + (v (28 + 9 * i + 6)))), (0, .ref (g.2 0 + 258)), (1, .int (ac + 1)), (3, .int (nI i))] 64 C0 dX8_meanDamp_63 rfl rfl (by decide) rfl ?_
            refine x_lv (lv1 := [(0, .ref (g.2 0 + 258)), (1, .int (ac + 1)), (2, .int (ad + (v (28 + 9 * i + 6)))), (3, .int (nI i))]) [1, 2, 0, 3] rfl ?_
            refine x_iinc [(3, .int (nI (i + 1))), (0, .ref (g.2 0 + 258)), (1, .int (ac + 1)), (2, .int (ad + (v (28 + 9 * i + 6))))] 3 67 C0 dX8_meanDamp_64 rfl rfl (nI_1 i) (by decide) rfl ?_
            refine x_lv (lv1 := [(0, .ref (g.2 0 + 258)), (1, .int (ac + 1)), (2, .int (ad + (v (28 + 9 * i + 6)))), (3, .int (nI (i + 1)))]) [1, 2, 3, 0] rfl ?_
            refine x_goto 11 C0 dX8_meanDamp_67 (by decide) ?_
            exact x_lv [0, 1, 2, 3] rfl (ih (i + 1) _ _ (by omega) (by omega) (by rw [hac]; exact (wet_yes (by unfold wetR; rw [decide_eq_false c6, decide_eq_false hq7]; rfl)).1) (by rw [had]; exact (wet_yes (by unfold wetR; rw [decide_eq_false c6, decide_eq_false hq7]; rfl)).2) (fun m h1 h2 => by have := hun m h1 h2; omega))
  exact x_lv [0, 1, 2, 3] rfl (loop11 (20 + 1) 0 _ _ (by omega) (by omega) rfl rfl (fun m _ _ => Nat.zero_le m))

set_option maxHeartbeats 4000000 in
set_option maxRecDepth 100000 in
theorem f9_X7_meanDamp (l : Launch) (hl : l.stackTraces = false) (g : xg_T) (w : xw_T) (sz n : Nat) (x : Nat → Nat → Int32) (la : Nat → Nat → Nat) (t tt : Nat → Int32) (vb : Option Nat) (sg : Nat → Int32) (hC : CR g w sz n x la t tt vb sg) : xM l g yX7_meanDamp cX7_meanDamp 2 (some .double) ({ frames := 6, cells := 8, slots := 64, locals := 82 }) 8 64 [.ref (g.2 0)] w sz (fPo g w sz n x la t tt vb sg (mdC (x 0))) (fun E9 w9 sz9 => filledN (x 0) 20 = 0 ∧ fXo g w sz n x la t tt vb sg ["java/lang/ArithmeticException"] E9 w9 sz9) := by
  have hz9 := hC.zz
  refine xM.of RX7 hl (by decide +kernel) rfl (Nat.le_of_ble_eq_true rfl) rfl ?_
  intro p e s m args below meth cD C0 hini
  refine x_aload_n 0 1 C0 dX7_meanDamp_0 rfl rfl rfl ?_
  refine x_getf (v := .ref (g.2 0 + 1)) 0 4 C0 dX7_meanDamp_1 rfl hC.1.1 rfl (by decide) inX7 mF_X7_10 rfl ?_
  refine x_callV 7 C0 (k_X4_filledChests l hl g _ _ _ _ _ hC.h0) dX7_meanDamp_4 rfl mC_X4_filledChests mM_X7_228 mI_X4_filledChests mV_X4_filledChests mN_X4 yd_X4_filledChests rfl rfl ⟨Nat.le_of_ble_eq_true rfl, Nat.le_of_ble_eq_true rfl⟩ (HR.ho hC.h0) rfl rfl rfl rfl (Nat.le_of_ble_eq_true rfl) ⟨Nat.le_of_ble_eq_true rfl, Nat.le_of_ble_eq_true rfl⟩ (fun _ _ _ q => False.elim q) (fun r w1 sz1 hz hP => ?_)
  obtain ⟨hr, rfl, rfl⟩ := hP
  obtain ⟨v1, rfl⟩ : ∃ v : Int32, r = some (.int v) := ⟨_, hr⟩
  have hr1 := hr
  have e1 := Value.int.inj (Option.some.inj hr1)
  refine x_st (st1 := [.int v1]) rfl ?_
  refine x_istore_n [(1, .int v1), (0, .ref (g.2 0))] 8 C0 dX7_meanDamp_7 rfl rfl (by decide) rfl ?_
  refine x_lv (lv1 := [(0, .ref (g.2 0)), (1, .int v1)]) [1, 0] rfl ?_
  refine x_iload_n 1 9 C0 dX7_meanDamp_8 rfl rfl rfl ?_
  refine x_if_ne 22 12 C0 dX7_meanDamp_9 rfl (by decide) (fun c2 => ?_) (fun c2 => ?_)
  · refine x_aload_n 0 23 C0 dX7_meanDamp_22 rfl rfl rfl ?_
    refine x_getf (v := .ref (g.2 0 + 1)) 0 26 C0 dX7_meanDamp_23 rfl hC.1.1 rfl (by decide) inX7 mF_X7_10 rfl ?_
    refine x_callV 29 C0 (k_X4_sumOfDamp l hl g _ _ _ _ _ hC.h0) dX7_meanDamp_26 rfl mC_X4_sumOfDamp mM_X7_236 mI_X4_sumOfDamp mV_X4_sumOfDamp mN_X4 yd_X4_sumOfDamp rfl rfl ⟨Nat.le_of_ble_eq_true rfl, Nat.le_of_ble_eq_true rfl⟩ (HR.ho hC.h0) rfl rfl rfl rfl (Nat.le_of_ble_eq_true rfl) ⟨Nat.le_of_ble_eq_true rfl, Nat.le_of_ble_eq_true rfl⟩ (fun _ _ _ q => False.elim q) (fun r w1 sz1 hz hP => ?_)
    obtain ⟨hr, rfl, rfl⟩ := hP
    obtain ⟨v3, rfl⟩ : ∃ v : Int32, r = some (.int v) := ⟨_, hr⟩
    have hr3 := hr
    have e3 := Value.int.inj (Option.some.inj hr3)
    refine x_st (st1 := [.int v3]) rfl ?_
    refine x_i2d 30 C0 dX7_meanDamp_29 rfl ?_
    refine x_iload_n 1 31 C0 dX7_meanDamp_30 rfl rfl rfl ?_
    refine x_i2d 32 C0 dX7_meanDamp_31 rfl ?_
    refine x_ddiv 33 C0 dX7_meanDamp_32 rfl (ddiv_ok _ c2) ?_
    exact x_dreturn C0 dX7_meanDamp_33 rfl (Nat.le_of_ble_eq_true rfl) (Nat.le_of_ble_eq_true rfl) ⟨⟨fun q => c2 (e1.trans q), by rw [← e1, ← e3]; rfl⟩, hC, xFr.rf, by omega⟩
  · exact x_throwS xNames C0 dX7_meanDamp_12 dX7_meanDamp_15 dX7_meanDamp_16 dX7_meanDamp_18 dX7_meanDamp_21 rfl rfl rfl rfl (by decide +kernel) (by decide +kernel) mK_X7_231 mN_ArithmeticException (xs_ldc C0.2.2.2.2.2.2.2.1.2.2 (RX7, 233, "no chests with leaves", 143) (by decide +kernel)) (xhat C0 xg_are xh_are (by decide +kernel)) xo_are (xs_us C0.2.2.2.2.2.2.2.1.2.2) (xs_su C0.2.2.2.2.2.2.2.1.2.2) rfl (Nat.le_of_ble_eq_true rfl) (Nat.le_of_ble_eq_true rfl) (Nat.le_of_ble_eq_true rfl) (Nat.le_of_ble_eq_true rfl) (Nat.le_of_ble_eq_true rfl) (Nat.le_of_ble_eq_true rfl) (fun sz9 h9 => ⟨e1.symm.trans c2, by decide, (hC.grow h9), xFr.rf, by omega⟩)

theorem there_eq {x v : Nat → Int32} (hA : alk x v) {q : Nat} (hq : nI q < x 3) (hq2 : q < 20) : cThere (row x q) = !decide (v (28 + 9 * q + 7) = 3) := by
  rw [hA.row hq hq2 (j := 7) (by omega)]
  have h := (hA.2.2 q hq2).2 hq
  show decide (¬ x (28 + 9 * q + 7) = -1 ∧ ¬ x (28 + 9 * q + 7) = 3) = _
  rw [← decide_not]
  exact decide_eq_decide.mpr ⟨fun z => z.2, fun z => ⟨h, z⟩⟩
theorem there_no {x v : Nat → Int32} (hA : alk x v) {m q : Nat} (hm : m ≤ 20) (e3 : x 3 = nI m) (hq : m ≤ q) (hq2 : q < 20) : cThere (row x q) = false := by
  show decide (¬ x (28 + 9 * q + 7) = -1 ∧ ¬ x (28 + 9 * q + 7) = 3) = false
  rw [hA.blank hm e3 hq hq2 (by omega)]
  decide
theorem hFold_z {q1 q2 : Nat → Bool} {f : Nat → Int32} : ∀ n, (∀ k, k < n → q1 k = q2 k ∨ (q1 k = true ∧ q2 k = false ∧ f k = 0)) → hFold q1 f n = hFold q2 f n := by
  intro n
  induction n with
  | zero => intro _; rfl
  | succ n ih =>
    intro h
    have i := ih (fun k hk => h k (by omega))
    rw [hFold, hFold, i]
    rcases h n (by omega) with e | ⟨e1, e2, e3⟩
    · rw [e]
    · rw [e1, e2, if_pos rfl, if_neg (by decide), e3, Int32.add_zero]
theorem wet_row {k : Nat} {y u : Nat → Int32} (hA : alk y u) (hx : hok y) (h : KP k u) {m : Nat} (hm : m ≤ 20) (e3 : y 3 = nI m) : filledN y 20 = wetN u m ∧ dampN y 20 = wetS u m := by
  have hB : ∀ q, q < m → (cThere (row y q) && decide (0 < y (28 + 9 * q + 3))) = wetR u q := fun q hq => by
    have hl := hA.lt hm e3 hq
    rw [there_eq hA hl (by omega)]
    unfold wetR
    rw [hA.row hl (by omega) (j := 3) (by omega), ← decide_not (p := y (28 + 9 * q + 3) = 0), decide_eq_decide.mpr (hx.po (k := q) (by omega))]
  refine ⟨hFold_al (fun q hq => ⟨hB q hq, rfl⟩) (fun q hq h20 => ?_) hm, ?_⟩
  · show (cThere (row y q) && _) = false
    rw [there_no hA hm e3 hq h20]
    rfl
  · have e1 : dampN y 20 = hFold (fun q => cThere (row y q) && decide (0 < y (28 + 9 * q + 3))) (fun q => y (28 + 9 * q + 6)) 20 := by
      refine hFold_z 20 (fun q hq => ?_)
      by_cases hp : 0 < y (28 + 9 * q + 3)
      · exact Or.inl (by show cThere (row y q) = (cThere (row y q) && decide (0 < y (28 + 9 * q + 3))); rw [decide_eq_true hp, Bool.and_true])
      · cases ht : cThere (row y q) with
        | false => exact Or.inl rfl
        | true =>
          refine Or.inr ⟨rfl, (Bool.true_and _).trans (decide_eq_false hp), ?_⟩
          show y (28 + 9 * q + 6) = 0
          rcases Nat.lt_or_ge q m with hqm | hqm
          · have hl := hA.lt hm e3 hqm
            obtain ⟨z, p, hz5, hp5, -, a4, a5⟩ := h.2.2 q hq
            rw [← hA.row hl hq (j := 6) (by omega)]
            refine a5 ?_
            have h3 : u (28 + 9 * q + 3) = 0 := by
              rw [hA.row hl hq (j := 3) (by omega)]
              exact Classical.byContradiction (fun z => hp ((hx.po hq).mpr z))
            rw [a4] at h3
            rcases Nat.eq_zero_or_pos p with e | e
            · exact e
            · have : p < 2 ^ 31 := by omega
              exact absurd h3 (nI_ne0 e this)
          · rw [hA.blank hm e3 hqm hq (j := 6) (by omega)]
            rfl
    rw [e1]
    refine hFold_al (fun q hq => ⟨hB q hq, (hA.row (hA.lt hm e3 hq) (by omega) (j := 6) (by omega)).symm⟩) (fun q hq h20 => ?_) hm
    show (cThere (row y q) && _) = false
    rw [there_no hA hm e3 hq h20]
    rfl
theorem rd_meanDamp_y {b n : Nat} {x tm tm0 v sv pa : Nat → Int32} {ln : Nat → Nat} {lf : Nat → Nat → Int32} {d : UInt64} {z : Int32} (hA : hAl x ln lf v) (hx : hok x) (hI : KI b tm0 v sv pa) (h0 : ¬ filledN x 20 = 0) (hQ : Q_X8_meanDamp n tm v (some (.double d)) z) : z = 0 ∧ mdV (dampN x 20) (filledN x 20) = d ∧ vf_n64 (mdV (dampN x 20) (filledN x 20)) := by
  obtain ⟨m, hm, e3, hQ⟩ := hQ
  obtain ⟨w1, w2⟩ := wet_row hA.1 hx hI.1 hm ((hA.1.at (q := 3) (by omega)).symm.trans e3)
  have hn : vf_n64 (mdV (dampN x 20) (filledN x 20)) := ddiv_ok _ h0
  rcases hQ with ⟨-, q1, q2⟩ | ⟨q, -⟩
  · exact ⟨q1, by rw [w1, w2]; exact (Value.double.inj (Option.some.inj q2)).symm, hn⟩
  · exact absurd (w1.trans q) h0
theorem rd_meanDamp_n {b n : Nat} {x tm tm0 v sv pa : Nat → Int32} {ln : Nat → Nat} {lf : Nat → Nat → Int32} {d : UInt64} {z : Int32} (hA : hAl x ln lf v) (hx : hok x) (hI : KI b tm0 v sv pa) (h0 : filledN x 20 = 0) (hQ : Q_X8_meanDamp n tm v (some (.double d)) z) : z = 1 := by
  obtain ⟨m, hm, e3, hQ⟩ := hQ
  obtain ⟨w1, w2⟩ := wet_row hA.1 hx hI.1 hm ((hA.1.at (q := 3) (by omega)).symm.trans e3)
  rcases hQ with ⟨q, -⟩ | ⟨-, q1⟩
  · exact absurd (w1.symm.trans h0) q
  · exact q1
