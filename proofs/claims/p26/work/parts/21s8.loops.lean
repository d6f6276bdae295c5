/-! READS WITH LOOPS, ON BOTH SIDES -/
def outR (v : Nat → Int32) (i : Nat) : Prop := (1 ≤ v (28 + 9 * i + 7) ∧ v (28 + 9 * i + 7) ≤ 2) ∧ (¬ rTight v i ∨ v (28 + 9 * i + 8) = 0)
def sumR (v : Nat → Int32) (m : Nat) : Prop := v 6 = ((rStored v 18 + rPacked v m) + v 7) + v 8
def wellR (v : Nat → Int32) (r : Option Value) : Prop := ∃ m : Nat, m ≤ 20 ∧ v 3 = nI m ∧ (((∃ i, i < m ∧ outR v i) ∧ r = some (.int 0)) ∨ ((∀ i, i < m → ¬ outR v i) ∧ ¬ sumR v m ∧ r = some (.int 0)) ∨ ((∀ i, i < m → ¬ outR v i) ∧ sumR v m ∧ r = some (.int 1)))
def wellC (x : Nat → Int32) (ln : Nat → Nat) (r : Option Value) : Prop := (¬ ((sAll x + packedN x 20) + x 7) + x 8 = x 6 ∧ r = some (.int 0)) ∨ ((∃ i, i < 20 ∧ outBad x ln i) ∧ r = some (.int 0)) ∨ (((sAll x + packedN x 20) + x 7) + x 8 = x 6 ∧ (∀ i, i < 20 → ¬ outBad x ln i) ∧ r = some (.int 1))
set_option maxHeartbeats 4000000 in
set_option maxRecDepth 100000 in
theorem e_X8_isWell (l : Launch) (hl : l.stackTraces = false) (g : xg_T) (w : xw_T) (sz n : Nat) (t v bf sv pa lb ip td sg : Nat → Int32) (hM : MR g w t v bf sv pa lb ip td sg) (hJ : MJ n t v bf sv pa sg) : xM l g yX8_isWell cX8_isWell 3 (some .boolean) ({ frames := 2, cells := 0, slots := 0, locals := 43 }) 0 0 [.ref (g.2 0 + 258)] w sz (mRd g w sz n t v bf sv pa ip td sg (fun r _ => wellR v r)) (fun _ _ _ => False) := by
  refine xM.of RX8 hl (by decide +kernel) rfl (Nat.le_of_ble_eq_true rfl) rfl ?_
  intro p e s m args below meth cD C0 hini
  refine x_aload_n 0 1 C0 dX8_isWell_0 rfl rfl rfl ?_
  refine x_iconst (v := 0) 2 C0 dX8_isWell_1 rfl (by decide) ?_
  refine x_w (MW_self hM) ?_
  refine x_putf 0 5 C0 dX8_isWell_2 rfl MR_MW.o (by show g.2 0 ≤ _; omega) rfl (by decide) inX8 tyX8_ok nmX8 mF_X8_34 rfl rfl rfl rfl (Nat.le_of_ble_eq_true rfl) ?_
  refine x_w (w1 := (MW g w (upd t 0 0) v bf sv pa lb ip td sg)) (MW_o rfl) ?_
  have hJ1 : MJ n (upd t 0 0) v bf sv pa sg := hJ.j_t (by decide)
  refine x_iconst (v := 0) 6 C0 dX8_isWell_5 rfl (by decide) ?_
  refine x_istore_n [(1, .int 0), (0, .ref (g.2 0 + 258))] 7 C0 dX8_isWell_6 rfl rfl (by decide) rfl ?_
  refine x_lv (lv1 := [(0, .ref (g.2 0 + 258)), (1, .int 0)]) [1, 0] rfl ?_
  have loop7 : ∀ (N i : Nat), i ≤ 20 → 20 - i < N → (∀ j, j < i → ¬ outR v j) → (∀ m, m ≤ 20 → v 3 = nI m → i ≤ m) → xV p l e ({ frames := 2, cells := 0, slots := 0, locals := 43 }) s m args below meth cD (xQ g below (mRd g w sz n t v bf sv pa ip td sg (fun r _ => wellR v r)) (fun _ _ _ => False) args s 0 0) g 3 (MW g w (upd t 0 0) v bf sv pa lb ip td sg) sz (0) (0) 7 [(0, .ref (g.2 0 + 258)), (1, .int (nI i))] [] := by
    intro N
    induction N with
    | zero => intro i h1 h2; omega
    | succ N ih =>
      intro i hi hN hno him
      refine x_iload_n 1 8 C0 dX8_isWell_7 rfl rfl rfl ?_
      refine x_aload_n 0 9 C0 dX8_isWell_8 rfl rfl rfl ?_
      refine x_getf (v := .ref (g.2 0 + 258 + 1)) 8 12 C0 dX8_isWell_9 rfl MR_MW.o rfl (by decide) inX8 mF_X8_7 rfl ?_
      refine x_iconst (v := 3) 13 C0 dX8_isWell_12 rfl (by decide) ?_
      refine x_iald 0 14 C0 dX8_isWell_13 rfl MR_MW.r_v rfl (vp_in_nI (n := 3) (by decide) (by decide)) ?_
      refine x_st (st1 := [.int (v 3), .int (nI i)]) (congrArg (fun z => Value.int z :: _) (show v (nI 3).toNatClampNeg = v 3 from by rw [nI_clamp (by omega)])) ?_
      obtain ⟨nC2, hnC2, hv32⟩ := hJ1.1.n
      have hin := him nC2 hnC2 hv32
      refine x_st (st1 := [.int (nI nC2), .int (nI i)]) (congrArg (fun z => Value.int z :: _) (hv32)) ?_
      refine x_icmp_ge 68 17 C0 dX8_isWell_14 rfl (by decide) (fun c3 => ?_) (fun c3 => ?_)
      · have hii : i = nC2 := Nat.le_antisymm hin ((nI_leI (by omega) (by omega)).mp c3)
        subst hii
        refine x_aload_n 0 69 C0 dX8_isWell_68 rfl rfl rfl ?_
        refine x_getf (v := .ref (g.2 0 + 258 + 1)) 8 72 C0 dX8_isWell_69 rfl MR_MW.o rfl (by decide) inX8 mF_X8_7 rfl ?_
        refine x_bipush (v := 6) 74 C0 dX8_isWell_72 rfl (by decide) ?_
        refine x_iald 0 75 C0 dX8_isWell_74 rfl MR_MW.r_v rfl (vp_in_nI (n := 6) (by decide) (by decide)) ?_
        refine x_st (st1 := [.int (v 6)]) (congrArg (fun z => Value.int z :: _) (show v (nI 6).toNatClampNeg = v 6 from by rw [nI_clamp (by omega)])) ?_
        refine x_aload_n 0 76 C0 dX8_isWell_75 rfl rfl rfl ?_
        refine x_callV 79 C0 (k_X8_stored l hl g _ _ n (upd t 0 0) v bf sv pa lb ip td sg MR_MW hJ1) dX8_isWell_76 rfl mC_X8_stored mM_X8_189 mI_X8_stored mV_X8_stored mN_X8 yd_X8_stored rfl rfl ⟨Nat.le_of_ble_eq_true rfl, Nat.le_of_ble_eq_true rfl⟩ MR_MW.o rfl rfl rfl rfl (Nat.le_of_ble_eq_true rfl) ⟨Nat.le_of_ble_eq_true rfl, Nat.le_of_ble_eq_true rfl⟩ (fun _ _ _ q => False.elim q) (fun r w1 sz1 hz hP => ?_)
        obtain ⟨rfl, rfl, rfl⟩ := hP
        refine x_st (st1 := [.int (rStored v 18), .int (v 6)]) rfl ?_
        refine x_aload_n 0 80 C0 dX8_isWell_79 rfl rfl rfl ?_
        refine x_callV 83 C0 (k_X8_packed l hl g _ _ n (upd t 0 0) v bf sv pa lb ip td sg MR_MW hJ1) dX8_isWell_80 rfl mC_X8_packed mM_X8_192 mI_X8_packed mV_X8_packed mN_X8 yd_X8_packed rfl rfl ⟨Nat.le_of_ble_eq_true rfl, Nat.le_of_ble_eq_true rfl⟩ MR_MW.o rfl rfl rfl rfl (Nat.le_of_ble_eq_true rfl) ⟨Nat.le_of_ble_eq_true rfl, Nat.le_of_ble_eq_true rfl⟩ (fun _ _ _ q => False.elim q) (fun r w1 sz1 hz hP => ?_)
        obtain ⟨⟨m5, hm5, hw5, rfl⟩, rfl, rfl⟩ := hP
        have hmm : m5 = i := (nI_eq (by omega) (by omega)).mp (hw5.symm.trans hv32)
        subst hmm
        refine x_st (st1 := [.int (rPacked v m5), .int (rStored v 18), .int (v 6)]) rfl ?_
        refine x_iadd 84 C0 dX8_isWell_83 rfl ?_
        refine x_aload_n 0 85 C0 dX8_isWell_84 rfl rfl rfl ?_
        refine x_getf (v := .ref (g.2 0 + 258 + 1)) 8 88 C0 dX8_isWell_85 rfl MR_MW.o rfl (by decide) inX8 mF_X8_7 rfl ?_
        refine x_bipush (v := 7) 90 C0 dX8_isWell_88 rfl (by decide) ?_
        refine x_iald 0 91 C0 dX8_isWell_90 rfl MR_MW.r_v rfl (vp_in_nI (n := 7) (by decide) (by decide)) ?_
        refine x_st (st1 := [.int (v 7), .int ((rStored v 18) + (rPacked v m5)), .int (v 6)]) (congrArg (fun z => Value.int z :: _) (show v (nI 7).toNatClampNeg = v 7 from by rw [nI_clamp (by omega)])) ?_
        refine x_iadd 92 C0 dX8_isWell_91 rfl ?_
        refine x_aload_n 0 93 C0 dX8_isWell_92 rfl rfl rfl ?_
        refine x_getf (v := .ref (g.2 0 + 258 + 1)) 8 96 C0 dX8_isWell_93 rfl MR_MW.o rfl (by decide) inX8 mF_X8_7 rfl ?_
        refine x_bipush (v := 8) 98 C0 dX8_isWell_96 rfl (by decide) ?_
        refine x_iald 0 99 C0 dX8_isWell_98 rfl MR_MW.r_v rfl (vp_in_nI (n := 8) (by decide) (by decide)) ?_
        refine x_st (st1 := [.int (v 8), .int (((rStored v 18) + (rPacked v m5)) + (v 7)), .int (v 6)]) (congrArg (fun z => Value.int z :: _) (show v (nI 8).toNatClampNeg = v 8 from by rw [nI_clamp (by omega)])) ?_
        refine x_iadd 100 C0 dX8_isWell_99 rfl ?_
        refine x_icmp_ne 107 103 C0 dX8_isWell_100 rfl (by decide) (fun c6 => ?_) (fun c6 => ?_)
        · refine x_iconst (v := 0) 108 C0 dX8_isWell_107 rfl (by decide) ?_
          exact x_ireturn C0 dX8_isWell_108 rfl rfl (Nat.le_of_ble_eq_true rfl) (Nat.le_of_ble_eq_true rfl) ⟨rfl, _, _, rfl, hJ1, (tL.rf.up (by decide)), ⟨m5, hm5, hw5, Or.inr (Or.inl ⟨hno, c6, rfl⟩)⟩⟩
        · refine x_iconst (v := 1) 104 C0 dX8_isWell_103 rfl (by decide) ?_
          refine x_goto 108 C0 dX8_isWell_104 (by decide) ?_
          exact x_ireturn C0 dX8_isWell_108 rfl rfl (Nat.le_of_ble_eq_true rfl) (Nat.le_of_ble_eq_true rfl) ⟨rfl, _, _, rfl, hJ1, (tL.rf.up (by decide)), ⟨m5, hm5, hw5, Or.inr (Or.inr ⟨hno, c6, rfl⟩)⟩⟩
      · have hi2 : i < nC2 := Nat.lt_of_not_le (fun z => c3 (nI_le (a := nC2) z (by omega)))
        refine x_aload_n 0 18 C0 dX8_isWell_17 rfl rfl rfl ?_
        refine x_getf (v := .ref (g.2 0 + 258 + 1)) 8 21 C0 dX8_isWell_18 rfl MR_MW.o rfl (by decide) inX8 mF_X8_7 rfl ?_
        refine x_iload_n 1 22 C0 dX8_isWell_21 rfl rfl rfl ?_
        refine x_bipush (v := 7) 24 C0 dX8_isWell_22 rfl (by decide) ?_
        refine x_callS 27 C0 (k_X8_at l hl g _ _ (nI i) 7) dX8_isWell_24 rfl mC_X8_at mM_X8_71 mS_X8_at mN_X8 yd_X8_at rfl rfl ⟨Nat.le_of_ble_eq_true rfl, Nat.le_of_ble_eq_true rfl⟩ rfl rfl (Nat.le_of_ble_eq_true rfl) ⟨Nat.le_of_ble_eq_true rfl, Nat.le_of_ble_eq_true rfl⟩ (fun _ _ _ q => False.elim q) (fun r w1 sz1 hz hP => ?_)
        obtain ⟨rfl, rfl, rfl⟩ := hP
        refine x_st (st1 := [.int (nI (28 + 9 * i + 7)), .ref (g.2 0 + 258 + 1)]) (congrArg (fun z => Value.int z :: _) (at_nI 28 9 i 7)) ?_
        refine x_iald 0 28 C0 dX8_isWell_27 rfl MR_MW.r_v rfl (vp_in_nI (n := 28 + 9 * i + 7) (by omega) (by decide)) ?_
        refine x_st (st1 := [.int (v (28 + 9 * i + 7))]) (congrArg (fun z => Value.int z :: _) (show v (nI (28 + 9 * i + 7)).toNatClampNeg = v (28 + 9 * i + 7) from by rw [nI_clamp (by omega)])) ?_
        refine x_iconst (v := 1) 29 C0 dX8_isWell_28 rfl (by decide) ?_
        refine x_iconst (v := 2) 30 C0 dX8_isWell_29 rfl (by decide) ?_
        refine x_callS 33 C0 (k_X8_isIn l hl g _ _ (v (28 + 9 * i + 7)) 1 2) dX8_isWell_30 rfl mC_X8_isIn mM_X8_67 mS_X8_isIn mN_X8 yd_X8_isIn rfl rfl ⟨Nat.le_of_ble_eq_true rfl, Nat.le_of_ble_eq_true rfl⟩ rfl rfl (Nat.le_of_ble_eq_true rfl) ⟨Nat.le_of_ble_eq_true rfl, Nat.le_of_ble_eq_true rfl⟩ (fun _ _ _ q => False.elim q) (fun r w1 sz1 hz hP => ?_)
        obtain ⟨hr, rfl, rfl⟩ := hP
        rcases hr with ⟨rfl, ha7, hb7⟩ | ⟨rfl, hx7⟩
        · refine x_st (st1 := [.int 1]) rfl ?_
          refine x_istore_n [(2, .int 1), (0, .ref (g.2 0 + 258)), (1, .int (nI i))] 34 C0 dX8_isWell_33 rfl rfl (by decide) rfl ?_
          refine x_lv (lv1 := [(0, .ref (g.2 0 + 258)), (1, .int (nI i)), (2, .int 1)]) [1, 2, 0] rfl ?_
          refine x_iload_n 2 35 C0 dX8_isWell_34 rfl rfl rfl ?_
          refine x_if_eq 62 38 C0 dX8_isWell_35 rfl (by decide) (fun q => False.elim (by revert q; decide)) (fun _ => ?_)
          refine x_aload_n 0 39 C0 dX8_isWell_38 rfl rfl rfl ?_
          refine x_iload_n 1 40 C0 dX8_isWell_39 rfl rfl rfl ?_
          refine x_callV 43 C0 (k_X8_isTight l hl g _ _ n (upd t 0 0) v bf sv pa lb ip td sg MR_MW hJ1 i (by omega)) dX8_isWell_40 rfl mC_X8_isTight mM_X8_127 mI_X8_isTight mV_X8_isTight mN_X8 yd_X8_isTight rfl rfl ⟨Nat.le_of_ble_eq_true rfl, Nat.le_of_ble_eq_true rfl⟩ MR_MW.o rfl rfl rfl rfl (Nat.le_of_ble_eq_true rfl) ⟨Nat.le_of_ble_eq_true rfl, Nat.le_of_ble_eq_true rfl⟩ (fun _ _ _ q => False.elim q) (fun r w1 sz1 hz hP => ?_)
          obtain ⟨hR9, rfl, rfl⟩ := hP
          rcases hR9 with ⟨rfl, hq9⟩ | ⟨rfl, hq9⟩
          · refine x_st (st1 := [.int 1]) rfl ?_
            refine x_if_eq 60 46 C0 dX8_isWell_43 rfl (by decide) (fun q => False.elim (by revert q; decide)) (fun _ => ?_)
            refine x_aload_n 0 47 C0 dX8_isWell_46 rfl rfl rfl ?_
            refine x_getf (v := .ref (g.2 0 + 258 + 1)) 8 50 C0 dX8_isWell_47 rfl MR_MW.o rfl (by decide) inX8 mF_X8_7 rfl ?_
            refine x_iload_n 1 51 C0 dX8_isWell_50 rfl rfl rfl ?_
            refine x_bipush (v := 8) 53 C0 dX8_isWell_51 rfl (by decide) ?_
            refine x_callS 56 C0 (k_X8_at l hl g _ _ (nI i) 8) dX8_isWell_53 rfl mC_X8_at mM_X8_71 mS_X8_at mN_X8 yd_X8_at rfl rfl ⟨Nat.le_of_ble_eq_true rfl, Nat.le_of_ble_eq_true rfl⟩ rfl rfl (Nat.le_of_ble_eq_true rfl) ⟨Nat.le_of_ble_eq_true rfl, Nat.le_of_ble_eq_true rfl⟩ (fun _ _ _ q => False.elim q) (fun r w1 sz1 hz hP => ?_)
            obtain ⟨rfl, rfl, rfl⟩ := hP
            refine x_st (st1 := [.int (nI (28 + 9 * i + 8)), .ref (g.2 0 + 258 + 1)]) (congrArg (fun z => Value.int z :: _) (at_nI 28 9 i 8)) ?_
            refine x_iald 0 57 C0 dX8_isWell_56 rfl MR_MW.r_v rfl (vp_in_nI (n := 28 + 9 * i + 8) (by omega) (by decide)) ?_
            refine x_st (st1 := [.int (v (28 + 9 * i + 8))]) (congrArg (fun z => Value.int z :: _) (show v (nI (28 + 9 * i + 8)).toNatClampNeg = v (28 + 9 * i + 8) from by rw [nI_clamp (by omega)])) ?_
            refine x_if_ne 62 60 C0 dX8_isWell_57 rfl (by decide) (fun c11 => ?_) (fun c11 => ?_)
            · refine x_iinc [(1, .int (nI (i + 1))), (0, .ref (g.2 0 + 258)), (2, .int 1)] 1 65 C0 dX8_isWell_62 rfl rfl (nI_1 i) (by decide) rfl ?_
              refine x_lv (lv1 := [(0, .ref (g.2 0 + 258)), (1, .int (nI (i + 1))), (2, .int 1)]) [1, 0, 2] rfl ?_
              refine x_goto 7 C0 dX8_isWell_65 (by decide) ?_
              exact x_lv [0, 1] rfl (ih (i + 1) (by omega) (by omega) (fun j hj => (Nat.lt_succ_iff_lt_or_eq.mp hj).elim (hno j) (fun q => by rw [q]; exact fun h => h.2.elim (fun z => z hq9) c11)) (fun m hm9 hw9 => by have : m = nC2 := (nI_eq (by omega) (by omega)).mp (hw9.symm.trans hv32); omega))
            · refine x_iconst (v := 0) 61 C0 dX8_isWell_60 rfl (by decide) ?_
              exact x_ireturn C0 dX8_isWell_61 rfl rfl (Nat.le_of_ble_eq_true rfl) (Nat.le_of_ble_eq_true rfl) ⟨rfl, _, _, rfl, hJ1, (tL.rf.up (by decide)), ⟨nC2, hnC2, hv32, Or.inl ⟨⟨i, hi2, ⟨ha7, hb7⟩, Or.inr c11⟩, rfl⟩⟩⟩
          · refine x_st (st1 := [.int 0]) rfl ?_
            refine x_if_eq 60 46 C0 dX8_isWell_43 rfl (by decide) (fun _ => ?_) (fun q => False.elim (by revert q; decide))
            refine x_iconst (v := 0) 61 C0 dX8_isWell_60 rfl (by decide) ?_
            exact x_ireturn C0 dX8_isWell_61 rfl rfl (Nat.le_of_ble_eq_true rfl) (Nat.le_of_ble_eq_true rfl) ⟨rfl, _, _, rfl, hJ1, (tL.rf.up (by decide)), ⟨nC2, hnC2, hv32, Or.inl ⟨⟨i, hi2, ⟨ha7, hb7⟩, Or.inl hq9⟩, rfl⟩⟩⟩
        · refine x_st (st1 := [.int 0]) rfl ?_
          refine x_istore_n [(2, .int 0), (0, .ref (g.2 0 + 258)), (1, .int (nI i))] 34 C0 dX8_isWell_33 rfl rfl (by decide) rfl ?_
          refine x_lv (lv1 := [(0, .ref (g.2 0 + 258)), (1, .int (nI i)), (2, .int 0)]) [1, 2, 0] rfl ?_
          refine x_iload_n 2 35 C0 dX8_isWell_34 rfl rfl rfl ?_
          refine x_if_eq 62 38 C0 dX8_isWell_35 rfl (by decide) (fun _ => ?_) (fun q => False.elim (by revert q; decide))
          refine x_iinc [(1, .int (nI (i + 1))), (0, .ref (g.2 0 + 258)), (2, .int 0)] 1 65 C0 dX8_isWell_62 rfl rfl (nI_1 i) (by decide) rfl ?_
          refine x_lv (lv1 := [(0, .ref (g.2 0 + 258)), (1, .int (nI (i + 1))), (2, .int 0)]) [1, 0, 2] rfl ?_
          refine x_goto 7 C0 dX8_isWell_65 (by decide) ?_
          exact x_lv [0, 1] rfl (ih (i + 1) (by omega) (by omega) (fun j hj => (Nat.lt_succ_iff_lt_or_eq.mp hj).elim (hno j) (fun q => by rw [q]; exact fun h => hx7 h.1)) (fun m hm9 hw9 => by have : m = nC2 := (nI_eq (by omega) (by omega)).mp (hw9.symm.trans hv32); omega))
  exact x_lv [0, 1] rfl (loop7 (20 + 1) 0 (by omega) (by omega) (fun j hj => absurd hj (Nat.not_lt_zero j)) (fun m _ _ => Nat.zero_le m))

set_option maxHeartbeats 4000000 in
set_option maxRecDepth 100000 in
theorem f9_X7_isWell (l : Launch) (hl : l.stackTraces = false) (g : xg_T) (w : xw_T) (sz n : Nat) (x : Nat → Nat → Int32) (la : Nat → Nat → Nat) (t tt : Nat → Int32) (vb : Option Nat) (sg : Nat → Int32) (hC : CR g w sz n x la t tt vb sg) (ln : Nat → Nat) (lf : Nat → Nat → Int32) (hL : ∀ k, k < 20 → xTx g w sz (la 0 k) (ln k) (lf k)) : xM l g yX7_isWell cX7_isWell 2 (some .boolean) ({ frames := 4, cells := 8, slots := 64, locals := 88 }) 8 64 [.ref (g.2 0)] w sz (fPo g w sz n x la t tt vb sg (wellC (x 0) ln)) (fun _ _ _ => False) := by
  have hz9 := hC.zz
  refine xM.of RX7 hl (by decide +kernel) rfl (Nat.le_of_ble_eq_true rfl) rfl ?_
  intro p e s m args below meth cD C0 hini
  refine x_aload_n 0 1 C0 dX7_isWell_0 rfl rfl rfl ?_
  refine x_getf (v := .ref (g.2 0 + 1)) 0 4 C0 dX7_isWell_1 rfl hC.1.1 rfl (by decide) inX7 mF_X7_10 rfl ?_
  refine x_callV 7 C0 (k_X4_poundsStored l hl g _ _ _ _ _ hC.h0) dX7_isWell_4 rfl mC_X4_poundsStored mM_X7_210 mI_X4_poundsStored mV_X4_poundsStored mN_X4 yd_X4_poundsStored rfl rfl ⟨Nat.le_of_ble_eq_true rfl, Nat.le_of_ble_eq_true rfl⟩ (HR.ho hC.h0) rfl rfl rfl rfl (Nat.le_of_ble_eq_true rfl) ⟨Nat.le_of_ble_eq_true rfl, Nat.le_of_ble_eq_true rfl⟩ (fun _ _ _ q => False.elim q) (fun r w1 sz1 hz hP => ?_)
  obtain ⟨hr, rfl, rfl⟩ := hP
  obtain ⟨v1, rfl⟩ : ∃ v : Int32, r = some (.int v) := ⟨_, hr⟩
  have hr1 := hr
  refine x_st (st1 := [.int v1]) rfl ?_
  refine x_aload_n 0 8 C0 dX7_isWell_7 rfl rfl rfl ?_
  refine x_getf (v := .ref (g.2 0 + 1)) 0 11 C0 dX7_isWell_8 rfl hC.1.1 rfl (by decide) inX7 mF_X7_10 rfl ?_
  refine x_callV 14 C0 (k_X4_poundsInChests l hl g _ _ _ _ _ hC.h0) dX7_isWell_11 rfl mC_X4_poundsInChests mM_X7_213 mI_X4_poundsInChests mV_X4_poundsInChests mN_X4 yd_X4_poundsInChests rfl rfl ⟨Nat.le_of_ble_eq_true rfl, Nat.le_of_ble_eq_true rfl⟩ (HR.ho hC.h0) rfl rfl rfl rfl (Nat.le_of_ble_eq_true rfl) ⟨Nat.le_of_ble_eq_true rfl, Nat.le_of_ble_eq_true rfl⟩ (fun _ _ _ q => False.elim q) (fun r w1 sz1 hz hP => ?_)
  obtain ⟨hr, rfl, rfl⟩ := hP
  obtain ⟨v2, rfl⟩ : ∃ v : Int32, r = some (.int v) := ⟨_, hr⟩
  have hr2 := hr
  refine x_st (st1 := [.int v2, .int v1]) rfl ?_
  refine x_iadd 15 C0 dX7_isWell_14 rfl ?_
  refine x_aload_n 0 16 C0 dX7_isWell_15 rfl rfl rfl ?_
  refine x_getf (v := .ref (g.2 0 + 1)) 0 19 C0 dX7_isWell_16 rfl hC.1.1 rfl (by decide) inX7 mF_X7_10 rfl ?_
  refine x_getf (v := .int (x 0 7)) 10 22 C0 dX7_isWell_19 rfl (HR.ho hC.h0) rfl (by decide) inX4 mF_X7_216 rfl ?_
  refine x_iadd 23 C0 dX7_isWell_22 rfl ?_
  refine x_aload_n 0 24 C0 dX7_isWell_23 rfl rfl rfl ?_
  refine x_getf (v := .ref (g.2 0 + 1)) 0 27 C0 dX7_isWell_24 rfl hC.1.1 rfl (by decide) inX7 mF_X7_10 rfl ?_
  refine x_getf (v := .int (x 0 8)) 11 30 C0 dX7_isWell_27 rfl (HR.ho hC.h0) rfl (by decide) inX4 mF_X7_219 rfl ?_
  refine x_iadd 31 C0 dX7_isWell_30 rfl ?_
  refine x_istore_n [(1, .int (((v1 + v2) + (x 0 7)) + (x 0 8))), (0, .ref (g.2 0))] 32 C0 dX7_isWell_31 rfl rfl (by decide) rfl ?_
  refine x_lv (lv1 := [(0, .ref (g.2 0)), (1, .int (((v1 + v2) + (x 0 7)) + (x 0 8)))]) [1, 0] rfl ?_
  refine x_iload_n 1 33 C0 dX7_isWell_32 rfl rfl rfl ?_
  refine x_aload_n 0 34 C0 dX7_isWell_33 rfl rfl rfl ?_
  refine x_getf (v := .ref (g.2 0 + 1)) 0 37 C0 dX7_isWell_34 rfl hC.1.1 rfl (by decide) inX7 mF_X7_10 rfl ?_
  refine x_getf (v := .int (x 0 6)) 9 40 C0 dX7_isWell_37 rfl (HR.ho hC.h0) rfl (by decide) inX4 mF_X7_222 rfl ?_
  refine x_icmp_ne 57 43 C0 dX7_isWell_40 rfl (by decide) (fun c3 => ?_) (fun c3 => ?_)
  · refine x_iconst (v := 0) 58 C0 dX7_isWell_57 rfl (by decide) ?_
    exact x_ireturn C0 dX7_isWell_58 rfl (rfl) (Nat.le_of_ble_eq_true rfl) (Nat.le_of_ble_eq_true rfl) ⟨Or.inl ⟨by rw [← Value.int.inj (Option.some.inj hr1), ← Value.int.inj (Option.some.inj hr2)]; exact c3, rfl⟩, hC, xFr.rf, by omega⟩
  · refine x_aload_n 0 44 C0 dX7_isWell_43 rfl rfl rfl ?_
    refine x_getf (v := .ref (g.2 0 + 1)) 0 47 C0 dX7_isWell_44 rfl hC.1.1 rfl (by decide) inX7 mF_X7_10 rfl ?_
    refine x_callV 50 C0 (k_X4_isOutsideInOrder l hl g _ _ _ _ _ hC.h0 ln lf (by omega) hL) dX7_isWell_47 rfl mC_X4_isOutsideInOrder mM_X7_225 mI_X4_isOutsideInOrder mV_X4_isOutsideInOrder mN_X4 yd_X4_isOutsideInOrder rfl rfl ⟨Nat.le_of_ble_eq_true rfl, Nat.le_of_ble_eq_true rfl⟩ (HR.ho hC.h0) rfl rfl rfl rfl (Nat.le_of_ble_eq_true rfl) ⟨Nat.le_of_ble_eq_true rfl, Nat.le_of_ble_eq_true rfl⟩ (fun _ _ _ q => False.elim q) (fun r w1 sz1 hz hP => ?_)
    obtain ⟨hr0, rfl, rfl⟩ := hP
    have hr : ∃ b : Bool, r = some (.int (bi b)) := hr0.elim (fun q => ⟨true, q.1⟩) (fun q => ⟨false, q.1⟩)
    obtain ⟨b0, hr⟩ := hr
    obtain ⟨v5, rfl, hv5⟩ : ∃ v : Int32, r = some (.int v) ∧ isB v := ⟨_, hr, isB_bi _⟩
    have e1 := Value.int.inj (Option.some.inj hr1)
    have e2 := Value.int.inj (Option.some.inj hr2)
    refine x_st (st1 := [.int v5]) rfl ?_
    refine x_if_eq 57 53 C0 dX7_isWell_50 rfl (by decide) (fun c6 => ?_) (fun c6 => ?_)
    · refine x_iconst (v := 0) 58 C0 dX7_isWell_57 rfl (by decide) ?_
      exact x_ireturn C0 dX7_isWell_58 rfl (rfl) (Nat.le_of_ble_eq_true rfl) (Nat.le_of_ble_eq_true rfl) ⟨Or.inr (Or.inl ⟨hr0.elim (fun q => absurd ((Value.int.inj (Option.some.inj q.1)).symm.trans c6) (by decide)) (fun q => q.2), rfl⟩), hC, xFr.rf, by omega⟩
    · refine x_iconst (v := 1) 54 C0 dX7_isWell_53 rfl (by decide) ?_
      refine x_goto 58 C0 dX7_isWell_54 (by decide) ?_
      exact x_ireturn C0 dX7_isWell_58 rfl (rfl) (Nat.le_of_ble_eq_true rfl) (Nat.le_of_ble_eq_true rfl) ⟨Or.inr (Or.inr ⟨by rw [← e1, ← e2]; exact c3, hr0.elim (fun q => q.2) (fun q => absurd (Value.int.inj (Option.some.inj q.1)) c6), rfl⟩), hC, xFr.rf, by omega⟩

theorem rI7_isWell {x : Nat → Int32} {ln : Nat → Nat} {r : Option Value} (h : wellC x ln r) : ∃ z : Int32, r = some (.int z) := h.elim (fun q => ⟨_, q.2⟩) (fun q => q.elim (fun q => ⟨_, q.2⟩) (fun q => ⟨_, q.2.2⟩))
theorem rI8_isWell {v : Nat → Int32} {r : Option Value} (h : wellR v r) : ∃ z : Int32, r = some (.int z) := h.elim (fun m q => q.2.2.elim (fun q => ⟨_, q.2⟩) (fun q => q.elim (fun q => ⟨_, q.2.2⟩) (fun q => ⟨_, q.2.2⟩)))
theorem one_two {z : Int32} : (z = 1 ∨ z = 2) ↔ (1 ≤ z ∧ z ≤ 2) := by
  constructor
  · rintro (rfl | rfl) <;> decide
  · rintro ⟨h1, h2⟩
    have a1 := Int32.le_iff_toInt_le.mp h1
    have a2 := Int32.le_iff_toInt_le.mp h2
    have b1 : (1 : Int32).toInt = 1 := by decide
    have b2 : (2 : Int32).toInt = 2 := by decide
    rcases (show z.toInt = 1 ∨ z.toInt = 2 by omega) with h | h
    · exact Or.inl (Int32.toInt_inj.mp (h.trans b1.symm))
    · exact Or.inr (Int32.toInt_inj.mp (h.trans b2.symm))
theorem rd_isWell {x v : Nat → Int32} {ln : Nat → Nat} {lf : Nat → Nat → Int32} {r rm : Option Value} (hA : hAl x ln lf v) (hx : hok x) (hQ : wellR v rm) (hL : wellC x ln r) : r = rm := by
  obtain ⟨m, hm, e3, hQ⟩ := hQ
  have e3x : x 3 = nI m := (hA.1.at (q := 3) (by omega)).symm.trans e3
  have hS : sumR v m ↔ ((sAll x + packedN x 20) + x 7) + x 8 = x 6 := by
    unfold sumR
    rw [stored_eq hA.1, packed_eq hA.1 hm e3x, hA.1.at (q := 6) (by omega), hA.1.at (q := 7) (by omega), hA.1.at (q := 8) (by omega)]
    exact eq_comm
  have hO : ∀ i, i < m → (outBad x ln i ↔ outR v i) := fun i hi => by
    have hmi := hA.1.lt hm e3x hi
    unfold outBad outR
    rw [one_two, hA.1.row hmi (by omega) (j := 7) (by omega), tight_eq hA.1 hx hmi (by omega)]
    refine and_congr_right (fun _ => ?_)
    have hl := hA.2.ne hmi (show i < 20 by omega)
    constructor
    · intro h
      by_cases ht : cTight (row x i) = true
      · exact Or.inr (Classical.byContradiction (fun q => h ⟨ht, hl.mpr q⟩))
      · exact Or.inl ht
    · rintro (h | h) ⟨h1, h2⟩
      · exact h h1
      · exact hl.mp h2 h
  have hB : ∀ i, m ≤ i → i < 20 → ¬ outBad x ln i := fun i hi h20 h => by
    have hb := hA.1.blank hm e3x hi h20 (j := 7) (by omega)
    rcases h.1 with q | q
    · exact absurd (hb.symm.trans q) (by decide)
    · exact absurd (hb.symm.trans q) (by decide)
  rcases hQ with ⟨⟨i, hi, ho⟩, rfl⟩ | ⟨ho, hs, rfl⟩ | ⟨ho, hs, rfl⟩
  · rcases hL with ⟨-, rfl⟩ | ⟨-, rfl⟩ | ⟨-, q, rfl⟩
    · rfl
    · rfl
    · exact absurd ((hO i hi).mpr ho) (q i (by omega))
  · rcases hL with ⟨-, rfl⟩ | ⟨-, rfl⟩ | ⟨q, -, rfl⟩
    · rfl
    · rfl
    · exact absurd (hS.mpr q) hs
  · rcases hL with ⟨q, rfl⟩ | ⟨⟨i, hi, q⟩, rfl⟩ | ⟨-, -, rfl⟩
    · exact absurd (hS.mp hs) q
    · rcases Nat.lt_or_ge i m with h | h
      · exact absurd ((hO i h).mp q) (ho i h)
      · exact absurd q (hB i h hi)
    · rfl
