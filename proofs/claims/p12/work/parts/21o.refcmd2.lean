/-! THE REFERENCE'S COMMAND -/
set_option maxHeartbeats 4000000 in
set_option maxRecDepth 100000 in
theorem e_X8_command0 (l : Launch) (hl : l.stackTraces = false) (g : xg_T) (w : xw_T) (sz n : Nat) (t v bf sv pa lb ip td sg : Nat → Int32) (hM : MR g w t v bf sv pa lb ip td sg) (hJ : MJ n t v bf sv pa sg) (h0 : Nat) (hh0 : h0 ≤ 60) (ht0 : t 10 = nI h0) (hdo : t 12 = 0) : xM l g yX8_command cX8_command 3 none ({ frames := 2, cells := 0, slots := 0, locals := 47 }) 0 0 [.ref (g.2 0 + 258)] w sz (mCm g w sz n t v bf sv pa lb ip sg h0 false) (fun _ _ _ => False) := by
  have hn60 := hJ.2.2.2.2.2.2.1
  obtain ⟨k1, k2, k3, k4, k5, k6, k7, k8⟩ := cs_lt n ip hh0
  refine xM.of RX8 hl (by decide +kernel) rfl (Nat.le_of_ble_eq_true rfl) rfl ?_
  intro p e s m args below meth cD C0 hini
  refine x_aload_n 0 1 C0 dX8_command_0 rfl rfl rfl ?_
  refine x_iconst (v := 0) 2 C0 dX8_command_1 rfl (by decide) ?_
  refine x_bipush (v := 7) 4 C0 dX8_command_2 rfl (by decide) ?_
  refine x_st (st1 := [.int (nI 7), .int (nI 0), .ref (g.2 0 + 258)]) rfl ?_
  refine x_callV 7 C0 (e_X8_word l hl g _ _ n t v bf sv pa lb ip td sg hM hJ h0 (mj_h hJ ht0 (by omega)) ht0 0 8 7 (by decide) rfl) dX8_command_4 rfl mC_X8_word mM_X8_208 mI_X8_word mV_X8_word mN_X8 yd_X8_word rfl rfl ⟨Nat.le_of_ble_eq_true rfl, Nat.le_of_ble_eq_true rfl⟩ hM.o rfl rfl rfl rfl (Nat.le_of_ble_eq_true rfl) ⟨Nat.le_of_ble_eq_true rfl, Nat.le_of_ble_eq_true rfl⟩ (fun _ _ _ q => False.elim q) (fun r w1 sz1 hz hP => ?_)
  obtain ⟨rfl, t1, rfl, hJ1, hW1, hR1⟩ := hP
  obtain ⟨hp1, ⟨k1, hk1, hf1, rfl, hwr1⟩ | ⟨hf1, rfl, hwr1⟩⟩ := hR1
  · rcases (show k1 = 0 ∨ k1 = 1 ∨ k1 = 2 ∨ k1 = 3 ∨ k1 = 4 ∨ k1 = 5 ∨ k1 = 6 ∨ k1 = 7 by omega) with rfl | rfl | rfl | rfl | rfl | rfl | rfl | rfl
    · have hW9 : cW n ip h0 = 0 := hf1
      refine x_st (st1 := [.int 0]) rfl ?_
      refine x_istore_n [(1, .int 0), (0, .ref (g.2 0 + 258))] 8 C0 dX8_command_7 rfl rfl (by decide) rfl ?_
      refine x_lv (lv1 := [(0, .ref (g.2 0 + 258)), (1, .int 0)]) [1, 0] rfl ?_
      refine x_aload_n 0 9 C0 dX8_command_8 rfl rfl rfl ?_
      refine x_getf (v := .int (t1 11)) 19 12 C0 dX8_command_9 rfl MR_MW.o rfl (by decide) inX8 mF_X8_204 rfl ?_
      refine x_st (st1 := [.int 0]) (congrArg (fun z => Value.int z :: _) (hwr1)) ?_
      refine x_if_eq 16 15 C0 dX8_command_12 rfl (by decide) (fun _ => ?_) (fun q => False.elim (by revert q; decide))
      refine x_iload_n 1 17 C0 dX8_command_16 rfl rfl rfl ?_
      refine x_bipush (v := 6) 19 C0 dX8_command_17 rfl (by decide) ?_
      refine x_icmp_eq 33 22 C0 dX8_command_19 rfl (by decide) (fun q => False.elim (by revert q; decide)) (fun _ => ?_)
      refine x_aload_n 0 23 C0 dX8_command_22 rfl rfl rfl ?_
      refine x_getf (v := .ref (g.2 0 + 258 + 7)) 15 26 C0 dX8_command_23 rfl MR_MW.o rfl (by decide) inX8 mF_X8_28 rfl ?_
      refine x_iconst (v := 0) 27 C0 dX8_command_26 rfl (by decide) ?_
      refine x_aload_n 0 28 C0 dX8_command_27 rfl rfl rfl ?_
      refine x_iconst (v := 2) 29 C0 dX8_command_28 rfl (by decide) ?_
      refine x_callV 32 C0 (e_X8_number2 l hl g _ _ n t1 v bf sv pa lb ip td sg MR_MW hJ1 (c1 n ip h0) (mj_h hJ1 hp1 (by omega)) hp1) dX8_command_29 rfl mC_X8_number mM_X8_211 mI_X8_number mV_X8_number mN_X8 yd_X8_number rfl rfl ⟨Nat.le_of_ble_eq_true rfl, Nat.le_of_ble_eq_true rfl⟩ MR_MW.o rfl rfl rfl rfl (Nat.le_of_ble_eq_true rfl) ⟨Nat.le_of_ble_eq_true rfl, Nat.le_of_ble_eq_true rfl⟩ (fun _ _ _ q => False.elim q) (fun r w1 sz1 hz hP => ?_)
      obtain ⟨rfl, t4, rfl, hJ4, hW4, hR4⟩ := hP
      refine x_w MW_MW ?_
      rcases hR4 with ⟨hz4, rfl, ht4⟩ | ⟨hz4, hd4, rfl, hwr4, hp4⟩ | ⟨hz4, hd4, rfl, hwr4, hp4⟩
      · exact absurd hwr1 hz4
      · refine x_st (st1 := [.int 0, .int 0, .ref (g.2 0 + 258 + 7)]) rfl ?_
        refine x_iast 0 33 C0 dX8_command_32 rfl MR_MW.r_td (by show g.2 0 ≤ _; omega) rfl (vp_in_nI (n := 0) (by omega) (by decide)) ?_
        refine x_w (w1 := (MW g w t4 v bf sv pa lb ip (upd td 0 0) sg)) (by rw [show (0 : Int32).toNatClampNeg = 0 from nI_clamp (n := 0) (by omega)]; exact MW_td) ?_
        refine x_iload_n 1 34 C0 dX8_command_33 rfl rfl rfl ?_
        refine x_iconst (v := 1) 35 C0 dX8_command_34 rfl (by decide) ?_
        refine x_icmp_eq 43 38 C0 dX8_command_35 rfl (by decide) (fun q => False.elim (by revert q; decide)) (fun _ => ?_)
        refine x_iload_n 1 39 C0 dX8_command_38 rfl rfl rfl ?_
        refine x_iconst (v := 2) 40 C0 dX8_command_39 rfl (by decide) ?_
        refine x_icmp_ne 60 43 C0 dX8_command_40 rfl (by decide) (fun _ => ?_) (fun q => False.elim (by revert q; decide))
        refine x_iload_n 1 61 C0 dX8_command_60 rfl rfl rfl ?_
        refine x_iconst (v := 1) 62 C0 dX8_command_61 rfl (by decide) ?_
        refine x_icmp_ne 112 65 C0 dX8_command_62 rfl (by decide) (fun _ => ?_) (fun q => False.elim (by revert q; decide))
        refine x_aload_n 0 113 C0 dX8_command_112 rfl rfl rfl ?_
        refine x_getf (v := .int (t4 11)) 19 116 C0 dX8_command_113 rfl MR_MW.o rfl (by decide) inX8 mF_X8_204 rfl ?_
        refine x_st (st1 := [.int 1]) (congrArg (fun z => Value.int z :: _) (hwr4)) ?_
        refine x_if_ne 126 119 C0 dX8_command_116 rfl (by decide) (fun _ => ?_) (fun q => False.elim (by revert q; decide))
        exact x_return C0 dX8_command_126 rfl (Nat.le_of_ble_eq_true rfl) (Nat.le_of_ble_eq_true rfl) (cm_no (cr_n0 (by omega) (by omega) hd4) hJ4 (tW.tr hW1 hW4) hp4 hwr4 rfl)
      · refine x_st (st1 := [.int (nI (vN n ip (c1 n ip h0))), .int 0, .ref (g.2 0 + 258 + 7)]) rfl ?_
        refine x_iast 0 33 C0 dX8_command_32 rfl MR_MW.r_td (by show g.2 0 ≤ _; omega) rfl (vp_in_nI (n := 0) (by omega) (by decide)) ?_
        refine x_w (w1 := (MW g w t4 v bf sv pa lb ip (upd td 0 (nI (vN n ip (c1 n ip h0)))) sg)) (by rw [show (0 : Int32).toNatClampNeg = 0 from nI_clamp (n := 0) (by omega)]; exact MW_td) ?_
        refine x_iload_n 1 34 C0 dX8_command_33 rfl rfl rfl ?_
        refine x_iconst (v := 1) 35 C0 dX8_command_34 rfl (by decide) ?_
        refine x_icmp_eq 43 38 C0 dX8_command_35 rfl (by decide) (fun q => False.elim (by revert q; decide)) (fun _ => ?_)
        refine x_iload_n 1 39 C0 dX8_command_38 rfl rfl rfl ?_
        refine x_iconst (v := 2) 40 C0 dX8_command_39 rfl (by decide) ?_
        refine x_icmp_ne 60 43 C0 dX8_command_40 rfl (by decide) (fun _ => ?_) (fun q => False.elim (by revert q; decide))
        refine x_iload_n 1 61 C0 dX8_command_60 rfl rfl rfl ?_
        refine x_iconst (v := 1) 62 C0 dX8_command_61 rfl (by decide) ?_
        refine x_icmp_ne 112 65 C0 dX8_command_62 rfl (by decide) (fun _ => ?_) (fun q => False.elim (by revert q; decide))
        refine x_aload_n 0 113 C0 dX8_command_112 rfl rfl rfl ?_
        refine x_getf (v := .int (t4 11)) 19 116 C0 dX8_command_113 rfl MR_MW.o rfl (by decide) inX8 mF_X8_204 rfl ?_
        refine x_st (st1 := [.int 0]) (congrArg (fun z => Value.int z :: _) (hwr4)) ?_
        refine x_if_ne 126 119 C0 dX8_command_116 rfl (by decide) (fun q => False.elim (by revert q; decide)) (fun _ => ?_)
        refine x_aload_n 0 120 C0 dX8_command_119 rfl rfl rfl ?_
        refine x_getf (v := .int (t4 12)) 20 123 C0 dX8_command_120 rfl MR_MW.o rfl (by decide) inX8 mF_X8_217 rfl ?_
        refine x_st (st1 := [.int 0]) (congrArg (fun z => Value.int z :: _) (((tW.tr hW1 hW4) 12 (by decide) (by decide)).trans hdo)) ?_
        refine x_if_ne 127 126 C0 dX8_command_123 rfl (by decide) (fun q => False.elim (by revert q; decide)) (fun _ => ?_)
        exact x_return C0 dX8_command_126 rfl (Nat.le_of_ble_eq_true rfl) (Nat.le_of_ble_eq_true rfl) (cm_y0 (cr_n1 (by omega) (by omega) (by omega) (by omega) hd4) hJ4 (tW.tr hW1 hW4) hp4 hwr4 rfl)
    · have hW9 : cW n ip h0 = 1 := hf1
      refine x_st (st1 := [.int 1]) rfl ?_
      refine x_istore_n [(1, .int 1), (0, .ref (g.2 0 + 258))] 8 C0 dX8_command_7 rfl rfl (by decide) rfl ?_
      refine x_lv (lv1 := [(0, .ref (g.2 0 + 258)), (1, .int 1)]) [1, 0] rfl ?_
      refine x_aload_n 0 9 C0 dX8_command_8 rfl rfl rfl ?_
      refine x_getf (v := .int (t1 11)) 19 12 C0 dX8_command_9 rfl MR_MW.o rfl (by decide) inX8 mF_X8_204 rfl ?_
      refine x_st (st1 := [.int 0]) (congrArg (fun z => Value.int z :: _) (hwr1)) ?_
      refine x_if_eq 16 15 C0 dX8_command_12 rfl (by decide) (fun _ => ?_) (fun q => False.elim (by revert q; decide))
      refine x_iload_n 1 17 C0 dX8_command_16 rfl rfl rfl ?_
      refine x_bipush (v := 6) 19 C0 dX8_command_17 rfl (by decide) ?_
      refine x_icmp_eq 33 22 C0 dX8_command_19 rfl (by decide) (fun q => False.elim (by revert q; decide)) (fun _ => ?_)
      refine x_aload_n 0 23 C0 dX8_command_22 rfl rfl rfl ?_
      refine x_getf (v := .ref (g.2 0 + 258 + 7)) 15 26 C0 dX8_command_23 rfl MR_MW.o rfl (by decide) inX8 mF_X8_28 rfl ?_
      refine x_iconst (v := 0) 27 C0 dX8_command_26 rfl (by decide) ?_
      refine x_aload_n 0 28 C0 dX8_command_27 rfl rfl rfl ?_
      refine x_iconst (v := 2) 29 C0 dX8_command_28 rfl (by decide) ?_
      refine x_callV 32 C0 (e_X8_number2 l hl g _ _ n t1 v bf sv pa lb ip td sg MR_MW hJ1 (c1 n ip h0) (mj_h hJ1 hp1 (by omega)) hp1) dX8_command_29 rfl mC_X8_number mM_X8_211 mI_X8_number mV_X8_number mN_X8 yd_X8_number rfl rfl ⟨Nat.le_of_ble_eq_true rfl, Nat.le_of_ble_eq_true rfl⟩ MR_MW.o rfl rfl rfl rfl (Nat.le_of_ble_eq_true rfl) ⟨Nat.le_of_ble_eq_true rfl, Nat.le_of_ble_eq_true rfl⟩ (fun _ _ _ q => False.elim q) (fun r w1 sz1 hz hP => ?_)
      obtain ⟨rfl, t18, rfl, hJ18, hW18, hR18⟩ := hP
      refine x_w MW_MW ?_
      rcases hR18 with ⟨hz18, rfl, ht18⟩ | ⟨hz18, hd18, rfl, hwr18, hp18⟩ | ⟨hz18, hd18, rfl, hwr18, hp18⟩
      · exact absurd hwr1 hz18
      · refine x_st (st1 := [.int 0, .int 0, .ref (g.2 0 + 258 + 7)]) rfl ?_
        refine x_iast 0 33 C0 dX8_command_32 rfl MR_MW.r_td (by show g.2 0 ≤ _; omega) rfl (vp_in_nI (n := 0) (by omega) (by decide)) ?_
        refine x_w (w1 := (MW g w t18 v bf sv pa lb ip (upd td 0 0) sg)) (by rw [show (0 : Int32).toNatClampNeg = 0 from nI_clamp (n := 0) (by omega)]; exact MW_td) ?_
        refine x_iload_n 1 34 C0 dX8_command_33 rfl rfl rfl ?_
        refine x_iconst (v := 1) 35 C0 dX8_command_34 rfl (by decide) ?_
        refine x_icmp_eq 43 38 C0 dX8_command_35 rfl (by decide) (fun _ => ?_) (fun q => False.elim (by revert q; decide))
        refine x_aload_n 0 44 C0 dX8_command_43 rfl rfl rfl ?_
        refine x_bipush (v := 32) 46 C0 dX8_command_44 rfl (by decide) ?_
        refine x_callV 49 C0 (e_X8_mark l hl g _ _ n t18 v bf sv pa lb ip (upd td 0 0) sg MR_MW hJ18 (c1 n ip h0) (mj_h hJ18 hp18 (by omega)) hp18 32 (by decide)) dX8_command_46 rfl mC_X8_mark mM_X8_214 mI_X8_mark mV_X8_mark mN_X8 yd_X8_mark rfl rfl ⟨Nat.le_of_ble_eq_true rfl, Nat.le_of_ble_eq_true rfl⟩ MR_MW.o rfl rfl rfl rfl (Nat.le_of_ble_eq_true rfl) ⟨Nat.le_of_ble_eq_true rfl, Nat.le_of_ble_eq_true rfl⟩ (fun _ _ _ q => False.elim q) (fun r w1 sz1 hz hP => ?_)
        obtain ⟨rfl, t21, rfl, hJ21, hW21, hR21⟩ := hP
        refine x_w MW_MW ?_
        rcases hR21 with ⟨hz21, rfl, ht21⟩ | ⟨hz21, hd21, rfl, hwr21, hp21⟩ | ⟨hz21, hd21, rfl, hwr21, hp21⟩
        · have hwr21 : t21 11 = 1 := by rw [ht21]; exact hwr18
          have hp21 : t21 10 = nI (c1 n ip h0) := by rw [ht21]; exact hp18
          refine x_st (st1 := []) rfl ?_
          refine x_aload_n 0 50 C0 dX8_command_49 rfl rfl rfl ?_
          refine x_getf (v := .ref (g.2 0 + 258 + 7)) 15 53 C0 dX8_command_50 rfl MR_MW.o rfl (by decide) inX8 mF_X8_28 rfl ?_
          refine x_iconst (v := 1) 54 C0 dX8_command_53 rfl (by decide) ?_
          refine x_aload_n 0 55 C0 dX8_command_54 rfl rfl rfl ?_
          refine x_iconst (v := 1) 56 C0 dX8_command_55 rfl (by decide) ?_
          refine x_callV 59 C0 (e_X8_number1 l hl g _ _ n t21 v bf sv pa lb ip (upd td 0 0) sg MR_MW hJ21 (c1 n ip h0) (mj_h hJ21 hp21 (by omega)) hp21) dX8_command_56 rfl mC_X8_number mM_X8_211 mI_X8_number mV_X8_number mN_X8 yd_X8_number rfl rfl ⟨Nat.le_of_ble_eq_true rfl, Nat.le_of_ble_eq_true rfl⟩ MR_MW.o rfl rfl rfl rfl (Nat.le_of_ble_eq_true rfl) ⟨Nat.le_of_ble_eq_true rfl, Nat.le_of_ble_eq_true rfl⟩ (fun _ _ _ q => False.elim q) (fun r w1 sz1 hz hP => ?_)
          obtain ⟨rfl, t22, rfl, hJ22, hW22, hR22⟩ := hP
          refine x_w MW_MW ?_
          rcases hR22 with ⟨hz22, rfl, ht22⟩ | ⟨hz22, hd22, rfl, hwr22, hp22⟩ | ⟨hz22, hd22, rfl, hwr22, hp22⟩
          · have hwr22 : t22 11 = 1 := by rw [ht22]; exact hwr21
            have hp22 : t22 10 = nI (c1 n ip h0) := by rw [ht22]; exact hp21
            refine x_st (st1 := [.int 0, .int 1, .ref (g.2 0 + 258 + 7)]) rfl ?_
            refine x_iast 0 60 C0 dX8_command_59 rfl MR_MW.r_td (by show g.2 0 ≤ _; omega) rfl (vp_in_nI (n := 1) (by omega) (by decide)) ?_
            refine x_w (w1 := (MW g w t22 v bf sv pa lb ip (upd (upd td 0 0) 1 0) sg)) (by rw [show (1 : Int32).toNatClampNeg = 1 from nI_clamp (n := 1) (by omega)]; exact MW_td) ?_
            refine x_iload_n 1 61 C0 dX8_command_60 rfl rfl rfl ?_
            refine x_iconst (v := 1) 62 C0 dX8_command_61 rfl (by decide) ?_
            refine x_icmp_ne 112 65 C0 dX8_command_62 rfl (by decide) (fun q => False.elim (by revert q; decide)) (fun _ => ?_)
            refine x_aload_n 0 66 C0 dX8_command_65 rfl rfl rfl ?_
            refine x_bipush (v := 46) 68 C0 dX8_command_66 rfl (by decide) ?_
            refine x_callV 71 C0 (e_X8_mark l hl g _ _ n t22 v bf sv pa lb ip (upd (upd td 0 0) 1 0) sg MR_MW hJ22 (c1 n ip h0) (mj_h hJ22 hp22 (by omega)) hp22 46 (by decide)) dX8_command_68 rfl mC_X8_mark mM_X8_214 mI_X8_mark mV_X8_mark mN_X8 yd_X8_mark rfl rfl ⟨Nat.le_of_ble_eq_true rfl, Nat.le_of_ble_eq_true rfl⟩ MR_MW.o rfl rfl rfl rfl (Nat.le_of_ble_eq_true rfl) ⟨Nat.le_of_ble_eq_true rfl, Nat.le_of_ble_eq_true rfl⟩ (fun _ _ _ q => False.elim q) (fun r w1 sz1 hz hP => ?_)
            obtain ⟨rfl, t25, rfl, hJ25, hW25, hR25⟩ := hP
            refine x_w MW_MW ?_
            rcases hR25 with ⟨hz25, rfl, ht25⟩ | ⟨hz25, hd25, rfl, hwr25, hp25⟩ | ⟨hz25, hd25, rfl, hwr25, hp25⟩
            · have hwr25 : t25 11 = 1 := by rw [ht25]; exact hwr22
              have hp25 : t25 10 = nI (c1 n ip h0) := by rw [ht25]; exact hp22
              refine x_st (st1 := []) rfl ?_
              refine x_aload_n 0 72 C0 dX8_command_71 rfl rfl rfl ?_
              refine x_getf (v := .int (t25 11)) 19 75 C0 dX8_command_72 rfl MR_MW.o rfl (by decide) inX8 mF_X8_204 rfl ?_
              refine x_st (st1 := [.int 1]) (congrArg (fun z => Value.int z :: _) (hwr25)) ?_
              refine x_if_ne 95 78 C0 dX8_command_75 rfl (by decide) (fun _ => ?_) (fun q => False.elim (by revert q; decide))
              refine x_aload_n 0 96 C0 dX8_command_95 rfl rfl rfl ?_
              refine x_bipush (v := 32) 98 C0 dX8_command_96 rfl (by decide) ?_
              refine x_callV 101 C0 (e_X8_mark l hl g _ _ n t25 v bf sv pa lb ip (upd (upd td 0 0) 1 0) sg MR_MW hJ25 (c1 n ip h0) (mj_h hJ25 hp25 (by omega)) hp25 32 (by decide)) dX8_command_98 rfl mC_X8_mark mM_X8_214 mI_X8_mark mV_X8_mark mN_X8 yd_X8_mark rfl rfl ⟨Nat.le_of_ble_eq_true rfl, Nat.le_of_ble_eq_true rfl⟩ MR_MW.o rfl rfl rfl rfl (Nat.le_of_ble_eq_true rfl) ⟨Nat.le_of_ble_eq_true rfl, Nat.le_of_ble_eq_true rfl⟩ (fun _ _ _ q => False.elim q) (fun r w1 sz1 hz hP => ?_)
              obtain ⟨rfl, t27, rfl, hJ27, hW27, hR27⟩ := hP
              refine x_w MW_MW ?_
              rcases hR27 with ⟨hz27, rfl, ht27⟩ | ⟨hz27, hd27, rfl, hwr27, hp27⟩ | ⟨hz27, hd27, rfl, hwr27, hp27⟩
              · have hwr27 : t27 11 = 1 := by rw [ht27]; exact hwr25
                have hp27 : t27 10 = nI (c1 n ip h0) := by rw [ht27]; exact hp25
                refine x_st (st1 := []) rfl ?_
                refine x_aload_n 0 102 C0 dX8_command_101 rfl rfl rfl ?_
                refine x_getf (v := .ref (g.2 0 + 258 + 7)) 15 105 C0 dX8_command_102 rfl MR_MW.o rfl (by decide) inX8 mF_X8_28 rfl ?_
                refine x_iconst (v := 3) 106 C0 dX8_command_105 rfl (by decide) ?_
                refine x_aload_n 0 107 C0 dX8_command_106 rfl rfl rfl ?_
                refine x_iconst (v := 2) 108 C0 dX8_command_107 rfl (by decide) ?_
                refine x_callV 111 C0 (e_X8_number2 l hl g _ _ n t27 v bf sv pa lb ip (upd (upd td 0 0) 1 0) sg MR_MW hJ27 (c1 n ip h0) (mj_h hJ27 hp27 (by omega)) hp27) dX8_command_108 rfl mC_X8_number mM_X8_211 mI_X8_number mV_X8_number mN_X8 yd_X8_number rfl rfl ⟨Nat.le_of_ble_eq_true rfl, Nat.le_of_ble_eq_true rfl⟩ MR_MW.o rfl rfl rfl rfl (Nat.le_of_ble_eq_true rfl) ⟨Nat.le_of_ble_eq_true rfl, Nat.le_of_ble_eq_true rfl⟩ (fun _ _ _ q => False.elim q) (fun r w1 sz1 hz hP => ?_)
                obtain ⟨rfl, t28, rfl, hJ28, hW28, hR28⟩ := hP
                refine x_w MW_MW ?_
                rcases hR28 with ⟨hz28, rfl, ht28⟩ | ⟨hz28, hd28, rfl, hwr28, hp28⟩ | ⟨hz28, hd28, rfl, hwr28, hp28⟩
                · have hwr28 : t28 11 = 1 := by rw [ht28]; exact hwr27
                  have hp28 : t28 10 = nI (c1 n ip h0) := by rw [ht28]; exact hp27
                  refine x_st (st1 := [.int 0, .int 3, .ref (g.2 0 + 258 + 7)]) rfl ?_
                  refine x_iast 0 112 C0 dX8_command_111 rfl MR_MW.r_td (by show g.2 0 ≤ _; omega) rfl (vp_in_nI (n := 3) (by omega) (by decide)) ?_
                  refine x_w (w1 := (MW g w t28 v bf sv pa lb ip (upd (upd (upd td 0 0) 1 0) 3 0) sg)) (by rw [show (3 : Int32).toNatClampNeg = 3 from nI_clamp (n := 3) (by omega)]; exact MW_td) ?_
                  refine x_aload_n 0 113 C0 dX8_command_112 rfl rfl rfl ?_
                  refine x_getf (v := .int (t28 11)) 19 116 C0 dX8_command_113 rfl MR_MW.o rfl (by decide) inX8 mF_X8_204 rfl ?_
                  refine x_st (st1 := [.int 1]) (congrArg (fun z => Value.int z :: _) (hwr28)) ?_
                  refine x_if_ne 126 119 C0 dX8_command_116 rfl (by decide) (fun _ => ?_) (fun q => False.elim (by revert q; decide))
                  exact x_return C0 dX8_command_126 rfl (Nat.le_of_ble_eq_true rfl) (Nat.le_of_ble_eq_true rfl) (cm_no (cr_n0 (by omega) (by omega) hd18) hJ28 (tW.tr (tW.tr (tW.tr (tW.tr (tW.tr (tW.tr hW1 hW18) hW21) hW22) hW25) hW27) hW28) hp28 hwr28 rfl)
                · exact absurd (hwr27.symm.trans hz28) (by decide)
                · exact absurd (hwr27.symm.trans hz28) (by decide)
              · exact absurd (hwr25.symm.trans hz27) (by decide)
              · exact absurd (hwr25.symm.trans hz27) (by decide)
            · exact absurd (hwr22.symm.trans hz25) (by decide)
            · exact absurd (hwr22.symm.trans hz25) (by decide)
          · exact absurd (hwr21.symm.trans hz22) (by decide)
          · exact absurd (hwr21.symm.trans hz22) (by decide)
        · exact absurd (hwr18.symm.trans hz21) (by decide)
        · exact absurd (hwr18.symm.trans hz21) (by decide)
      · refine x_st (st1 := [.int (nI (vN n ip (c1 n ip h0))), .int 0, .ref (g.2 0 + 258 + 7)]) rfl ?_
        refine x_iast 0 33 C0 dX8_command_32 rfl MR_MW.r_td (by show g.2 0 ≤ _; omega) rfl (vp_in_nI (n := 0) (by omega) (by decide)) ?_
        refine x_w (w1 := (MW g w t18 v bf sv pa lb ip (upd td 0 (nI (vN n ip (c1 n ip h0)))) sg)) (by rw [show (0 : Int32).toNatClampNeg = 0 from nI_clamp (n := 0) (by omega)]; exact MW_td) ?_
        refine x_iload_n 1 34 C0 dX8_command_33 rfl rfl rfl ?_
        refine x_iconst (v := 1) 35 C0 dX8_command_34 rfl (by decide) ?_
        refine x_icmp_eq 43 38 C0 dX8_command_35 rfl (by decide) (fun _ => ?_) (fun q => False.elim (by revert q; decide))
        refine x_aload_n 0 44 C0 dX8_command_43 rfl rfl rfl ?_
        refine x_bipush (v := 32) 46 C0 dX8_command_44 rfl (by decide) ?_
        refine x_callV 49 C0 (e_X8_mark l hl g _ _ n t18 v bf sv pa lb ip (upd td 0 (nI (vN n ip (c1 n ip h0)))) sg MR_MW hJ18 (c2 n ip h0) (mj_h hJ18 hp18 (by omega)) hp18 32 (by decide)) dX8_command_46 rfl mC_X8_mark mM_X8_214 mI_X8_mark mV_X8_mark mN_X8 yd_X8_mark rfl rfl ⟨Nat.le_of_ble_eq_true rfl, Nat.le_of_ble_eq_true rfl⟩ MR_MW.o rfl rfl rfl rfl (Nat.le_of_ble_eq_true rfl) ⟨Nat.le_of_ble_eq_true rfl, Nat.le_of_ble_eq_true rfl⟩ (fun _ _ _ q => False.elim q) (fun r w1 sz1 hz hP => ?_)
        obtain ⟨rfl, t33, rfl, hJ33, hW33, hR33⟩ := hP
        refine x_w MW_MW ?_
        rcases hR33 with ⟨hz33, rfl, ht33⟩ | ⟨hz33, hd33, rfl, hwr33, hp33⟩ | ⟨hz33, hd33, rfl, hwr33, hp33⟩
        · exact absurd hwr18 hz33
        · refine x_st (st1 := []) rfl ?_
          refine x_aload_n 0 50 C0 dX8_command_49 rfl rfl rfl ?_
          refine x_getf (v := .ref (g.2 0 + 258 + 7)) 15 53 C0 dX8_command_50 rfl MR_MW.o rfl (by decide) inX8 mF_X8_28 rfl ?_
          refine x_iconst (v := 1) 54 C0 dX8_command_53 rfl (by decide) ?_
          refine x_aload_n 0 55 C0 dX8_command_54 rfl rfl rfl ?_
          refine x_iconst (v := 1) 56 C0 dX8_command_55 rfl (by decide) ?_
          refine x_callV 59 C0 (e_X8_number1 l hl g _ _ n t33 v bf sv pa lb ip (upd td 0 (nI (vN n ip (c1 n ip h0)))) sg MR_MW hJ33 (c2 n ip h0) (mj_h hJ33 hp33 (by omega)) hp33) dX8_command_56 rfl mC_X8_number mM_X8_211 mI_X8_number mV_X8_number mN_X8 yd_X8_number rfl rfl ⟨Nat.le_of_ble_eq_true rfl, Nat.le_of_ble_eq_true rfl⟩ MR_MW.o rfl rfl rfl rfl (Nat.le_of_ble_eq_true rfl) ⟨Nat.le_of_ble_eq_true rfl, Nat.le_of_ble_eq_true rfl⟩ (fun _ _ _ q => False.elim q) (fun r w1 sz1 hz hP => ?_)
          obtain ⟨rfl, t34, rfl, hJ34, hW34, hR34⟩ := hP
          refine x_w MW_MW ?_
          rcases hR34 with ⟨hz34, rfl, ht34⟩ | ⟨hz34, hd34, rfl, hwr34, hp34⟩ | ⟨hz34, hd34, rfl, hwr34, hp34⟩
          · have hwr34 : t34 11 = 1 := by rw [ht34]; exact hwr33
            have hp34 : t34 10 = nI (c2 n ip h0) := by rw [ht34]; exact hp33
            refine x_st (st1 := [.int 0, .int 1, .ref (g.2 0 + 258 + 7)]) rfl ?_
            refine x_iast 0 60 C0 dX8_command_59 rfl MR_MW.r_td (by show g.2 0 ≤ _; omega) rfl (vp_in_nI (n := 1) (by omega) (by decide)) ?_
            refine x_w (w1 := (MW g w t34 v bf sv pa lb ip (upd (upd td 0 (nI (vN n ip (c1 n ip h0)))) 1 0) sg)) (by rw [show (1 : Int32).toNatClampNeg = 1 from nI_clamp (n := 1) (by omega)]; exact MW_td) ?_
            refine x_iload_n 1 61 C0 dX8_command_60 rfl rfl rfl ?_
            refine x_iconst (v := 1) 62 C0 dX8_command_61 rfl (by decide) ?_
            refine x_icmp_ne 112 65 C0 dX8_command_62 rfl (by decide) (fun q => False.elim (by revert q; decide)) (fun _ => ?_)
            refine x_aload_n 0 66 C0 dX8_command_65 rfl rfl rfl ?_
            refine x_bipush (v := 46) 68 C0 dX8_command_66 rfl (by decide) ?_
            refine x_callV 71 C0 (e_X8_mark l hl g _ _ n t34 v bf sv pa lb ip (upd (upd td 0 (nI (vN n ip (c1 n ip h0)))) 1 0) sg MR_MW hJ34 (c2 n ip h0) (mj_h hJ34 hp34 (by omega)) hp34 46 (by decide)) dX8_command_68 rfl mC_X8_mark mM_X8_214 mI_X8_mark mV_X8_mark mN_X8 yd_X8_mark rfl rfl ⟨Nat.le_of_ble_eq_true rfl, Nat.le_of_ble_eq_true rfl⟩ MR_MW.o rfl rfl rfl rfl (Nat.le_of_ble_eq_true rfl) ⟨Nat.le_of_ble_eq_true rfl, Nat.le_of_ble_eq_true rfl⟩ (fun _ _ _ q => False.elim q) (fun r w1 sz1 hz hP => ?_)
            obtain ⟨rfl, t37, rfl, hJ37, hW37, hR37⟩ := hP
            refine x_w MW_MW ?_
            rcases hR37 with ⟨hz37, rfl, ht37⟩ | ⟨hz37, hd37, rfl, hwr37, hp37⟩ | ⟨hz37, hd37, rfl, hwr37, hp37⟩
            · have hwr37 : t37 11 = 1 := by rw [ht37]; exact hwr34
              have hp37 : t37 10 = nI (c2 n ip h0) := by rw [ht37]; exact hp34
              refine x_st (st1 := []) rfl ?_
              refine x_aload_n 0 72 C0 dX8_command_71 rfl rfl rfl ?_
              refine x_getf (v := .int (t37 11)) 19 75 C0 dX8_command_72 rfl MR_MW.o rfl (by decide) inX8 mF_X8_204 rfl ?_
              refine x_st (st1 := [.int 1]) (congrArg (fun z => Value.int z :: _) (hwr37)) ?_
              refine x_if_ne 95 78 C0 dX8_command_75 rfl (by decide) (fun _ => ?_) (fun q => False.elim (by revert q; decide))
              refine x_aload_n 0 96 C0 dX8_command_95 rfl rfl rfl ?_
              refine x_bipush (v := 32) 98 C0 dX8_command_96 rfl (by decide) ?_
              refine x_callV 101 C0 (e_X8_mark l hl g _ _ n t37 v bf sv pa lb ip (upd (upd td 0 (nI (vN n ip (c1 n ip h0)))) 1 0) sg MR_MW hJ37 (c2 n ip h0) (mj_h hJ37 hp37 (by omega)) hp37 32 (by decide)) dX8_command_98 rfl mC_X8_mark mM_X8_214 mI_X8_mark mV_X8_mark mN_X8 yd_X8_mark rfl rfl ⟨Nat.le_of_ble_eq_true rfl, Nat.le_of_ble_eq_true rfl⟩ MR_MW.o rfl rfl rfl rfl (Nat.le_of_ble_eq_true rfl) ⟨Nat.le_of_ble_eq_true rfl, Nat.le_of_ble_eq_true rfl⟩ (fun _ _ _ q => False.elim q) (fun r w1 sz1 hz hP => ?_)
              obtain ⟨rfl, t39, rfl, hJ39, hW39, hR39⟩ := hP
              refine x_w MW_MW ?_
              rcases hR39 with ⟨hz39, rfl, ht39⟩ | ⟨hz39, hd39, rfl, hwr39, hp39⟩ | ⟨hz39, hd39, rfl, hwr39, hp39⟩
              · have hwr39 : t39 11 = 1 := by rw [ht39]; exact hwr37
                have hp39 : t39 10 = nI (c2 n ip h0) := by rw [ht39]; exact hp37
                refine x_st (st1 := []) rfl ?_
                refine x_aload_n 0 102 C0 dX8_command_101 rfl rfl rfl ?_
                refine x_getf (v := .ref (g.2 0 + 258 + 7)) 15 105 C0 dX8_command_102 rfl MR_MW.o rfl (by decide) inX8 mF_X8_28 rfl ?_
                refine x_iconst (v := 3) 106 C0 dX8_command_105 rfl (by decide) ?_
                refine x_aload_n 0 107 C0 dX8_command_106 rfl rfl rfl ?_
                refine x_iconst (v := 2) 108 C0 dX8_command_107 rfl (by decide) ?_
                refine x_callV 111 C0 (e_X8_number2 l hl g _ _ n t39 v bf sv pa lb ip (upd (upd td 0 (nI (vN n ip (c1 n ip h0)))) 1 0) sg MR_MW hJ39 (c2 n ip h0) (mj_h hJ39 hp39 (by omega)) hp39) dX8_command_108 rfl mC_X8_number mM_X8_211 mI_X8_number mV_X8_number mN_X8 yd_X8_number rfl rfl ⟨Nat.le_of_ble_eq_true rfl, Nat.le_of_ble_eq_true rfl⟩ MR_MW.o rfl rfl rfl rfl (Nat.le_of_ble_eq_true rfl) ⟨Nat.le_of_ble_eq_true rfl, Nat.le_of_ble_eq_true rfl⟩ (fun _ _ _ q => False.elim q) (fun r w1 sz1 hz hP => ?_)
                obtain ⟨rfl, t40, rfl, hJ40, hW40, hR40⟩ := hP
                refine x_w MW_MW ?_
                rcases hR40 with ⟨hz40, rfl, ht40⟩ | ⟨hz40, hd40, rfl, hwr40, hp40⟩ | ⟨hz40, hd40, rfl, hwr40, hp40⟩
                · have hwr40 : t40 11 = 1 := by rw [ht40]; exact hwr39
                  have hp40 : t40 10 = nI (c2 n ip h0) := by rw [ht40]; exact hp39
                  refine x_st (st1 := [.int 0, .int 3, .ref (g.2 0 + 258 + 7)]) rfl ?_
                  refine x_iast 0 112 C0 dX8_command_111 rfl MR_MW.r_td (by show g.2 0 ≤ _; omega) rfl (vp_in_nI (n := 3) (by omega) (by decide)) ?_
                  refine x_w (w1 := (MW g w t40 v bf sv pa lb ip (upd (upd (upd td 0 (nI (vN n ip (c1 n ip h0)))) 1 0) 3 0) sg)) (by rw [show (3 : Int32).toNatClampNeg = 3 from nI_clamp (n := 3) (by omega)]; exact MW_td) ?_
                  refine x_aload_n 0 113 C0 dX8_command_112 rfl rfl rfl ?_
                  refine x_getf (v := .int (t40 11)) 19 116 C0 dX8_command_113 rfl MR_MW.o rfl (by decide) inX8 mF_X8_204 rfl ?_
                  refine x_st (st1 := [.int 1]) (congrArg (fun z => Value.int z :: _) (hwr40)) ?_
                  refine x_if_ne 126 119 C0 dX8_command_116 rfl (by decide) (fun _ => ?_) (fun q => False.elim (by revert q; decide))
                  exact x_return C0 dX8_command_126 rfl (Nat.le_of_ble_eq_true rfl) (Nat.le_of_ble_eq_true rfl) (cm_no (cr_b0 (Or.inl hW9) hd18 hd33) hJ40 (tW.tr (tW.tr (tW.tr (tW.tr (tW.tr (tW.tr hW1 hW18) hW33) hW34) hW37) hW39) hW40) hp40 hwr40 rfl)
                · exact absurd (hwr39.symm.trans hz40) (by decide)
                · exact absurd (hwr39.symm.trans hz40) (by decide)
              · exact absurd (hwr37.symm.trans hz39) (by decide)
              · exact absurd (hwr37.symm.trans hz39) (by decide)
            · exact absurd (hwr34.symm.trans hz37) (by decide)
            · exact absurd (hwr34.symm.trans hz37) (by decide)
          · exact absurd (hwr33.symm.trans hz34) (by decide)
          · exact absurd (hwr33.symm.trans hz34) (by decide)
        · refine x_st (st1 := []) rfl ?_
          refine x_aload_n 0 50 C0 dX8_command_49 rfl rfl rfl ?_
          refine x_getf (v := .ref (g.2 0 + 258 + 7)) 15 53 C0 dX8_command_50 rfl MR_MW.o rfl (by decide) inX8 mF_X8_28 rfl ?_
          refine x_iconst (v := 1) 54 C0 dX8_command_53 rfl (by decide) ?_
          refine x_aload_n 0 55 C0 dX8_command_54 rfl rfl rfl ?_
          refine x_iconst (v := 1) 56 C0 dX8_command_55 rfl (by decide) ?_
          refine x_callV 59 C0 (e_X8_number1 l hl g _ _ n t33 v bf sv pa lb ip (upd td 0 (nI (vN n ip (c1 n ip h0)))) sg MR_MW hJ33 (c3 n ip h0) (mj_h hJ33 hp33 (by omega)) hp33) dX8_command_56 rfl mC_X8_number mM_X8_211 mI_X8_number mV_X8_number mN_X8 yd_X8_number rfl rfl ⟨Nat.le_of_ble_eq_true rfl, Nat.le_of_ble_eq_true rfl⟩ MR_MW.o rfl rfl rfl rfl (Nat.le_of_ble_eq_true rfl) ⟨Nat.le_of_ble_eq_true rfl, Nat.le_of_ble_eq_true rfl⟩ (fun _ _ _ q => False.elim q) (fun r w1 sz1 hz hP => ?_)
          obtain ⟨rfl, t43, rfl, hJ43, hW43, hR43⟩ := hP
          refine x_w MW_MW ?_
          rcases hR43 with ⟨hz43, rfl, ht43⟩ | ⟨hz43, hd43, rfl, hwr43, hp43⟩ | ⟨hz43, hd43, rfl, hwr43, hp43⟩
          · exact absurd hwr33 hz43
          · refine x_st (st1 := [.int 0, .int 1, .ref (g.2 0 + 258 + 7)]) rfl ?_
            refine x_iast 0 60 C0 dX8_command_59 rfl MR_MW.r_td (by show g.2 0 ≤ _; omega) rfl (vp_in_nI (n := 1) (by omega) (by decide)) ?_
            refine x_w (w1 := (MW g w t43 v bf sv pa lb ip (upd (upd td 0 (nI (vN n ip (c1 n ip h0)))) 1 0) sg)) (by rw [show (1 : Int32).toNatClampNeg = 1 from nI_clamp (n := 1) (by omega)]; exact MW_td) ?_
            refine x_iload_n 1 61 C0 dX8_command_60 rfl rfl rfl ?_
            refine x_iconst (v := 1) 62 C0 dX8_command_61 rfl (by decide) ?_
            refine x_icmp_ne 112 65 C0 dX8_command_62 rfl (by decide) (fun q => False.elim (by revert q; decide)) (fun _ => ?_)
            refine x_aload_n 0 66 C0 dX8_command_65 rfl rfl rfl ?_
            refine x_bipush (v := 46) 68 C0 dX8_command_66 rfl (by decide) ?_
            refine x_callV 71 C0 (e_X8_mark l hl g _ _ n t43 v bf sv pa lb ip (upd (upd td 0 (nI (vN n ip (c1 n ip h0)))) 1 0) sg MR_MW hJ43 (c3 n ip h0) (mj_h hJ43 hp43 (by omega)) hp43 46 (by decide)) dX8_command_68 rfl mC_X8_mark mM_X8_214 mI_X8_mark mV_X8_mark mN_X8 yd_X8_mark rfl rfl ⟨Nat.le_of_ble_eq_true rfl, Nat.le_of_ble_eq_true rfl⟩ MR_MW.o rfl rfl rfl rfl (Nat.le_of_ble_eq_true rfl) ⟨Nat.le_of_ble_eq_true rfl, Nat.le_of_ble_eq_true rfl⟩ (fun _ _ _ q => False.elim q) (fun r w1 sz1 hz hP => ?_)
            obtain ⟨rfl, t46, rfl, hJ46, hW46, hR46⟩ := hP
            refine x_w MW_MW ?_
            rcases hR46 with ⟨hz46, rfl, ht46⟩ | ⟨hz46, hd46, rfl, hwr46, hp46⟩ | ⟨hz46, hd46, rfl, hwr46, hp46⟩
            · have hwr46 : t46 11 = 1 := by rw [ht46]; exact hwr43
              have hp46 : t46 10 = nI (c3 n ip h0) := by rw [ht46]; exact hp43
              refine x_st (st1 := []) rfl ?_
              refine x_aload_n 0 72 C0 dX8_command_71 rfl rfl rfl ?_
              refine x_getf (v := .int (t46 11)) 19 75 C0 dX8_command_72 rfl MR_MW.o rfl (by decide) inX8 mF_X8_204 rfl ?_
              refine x_st (st1 := [.int 1]) (congrArg (fun z => Value.int z :: _) (hwr46)) ?_
              refine x_if_ne 95 78 C0 dX8_command_75 rfl (by decide) (fun _ => ?_) (fun q => False.elim (by revert q; decide))
              refine x_aload_n 0 96 C0 dX8_command_95 rfl rfl rfl ?_
              refine x_bipush (v := 32) 98 C0 dX8_command_96 rfl (by decide) ?_
              refine x_callV 101 C0 (e_X8_mark l hl g _ _ n t46 v bf sv pa lb ip (upd (upd td 0 (nI (vN n ip (c1 n ip h0)))) 1 0) sg MR_MW hJ46 (c3 n ip h0) (mj_h hJ46 hp46 (by omega)) hp46 32 (by decide)) dX8_command_98 rfl mC_X8_mark mM_X8_214 mI_X8_mark mV_X8_mark mN_X8 yd_X8_mark rfl rfl ⟨Nat.le_of_ble_eq_true rfl, Nat.le_of_ble_eq_true rfl⟩ MR_MW.o rfl rfl rfl rfl (Nat.le_of_ble_eq_true rfl) ⟨Nat.le_of_ble_eq_true rfl, Nat.le_of_ble_eq_true rfl⟩ (fun _ _ _ q => False.elim q) (fun r w1 sz1 hz hP => ?_)
              obtain ⟨rfl, t48, rfl, hJ48, hW48, hR48⟩ := hP
              refine x_w MW_MW ?_
              rcases hR48 with ⟨hz48, rfl, ht48⟩ | ⟨hz48, hd48, rfl, hwr48, hp48⟩ | ⟨hz48, hd48, rfl, hwr48, hp48⟩
              · have hwr48 : t48 11 = 1 := by rw [ht48]; exact hwr46
                have hp48 : t48 10 = nI (c3 n ip h0) := by rw [ht48]; exact hp46
                refine x_st (st1 := []) rfl ?_
                refine x_aload_n 0 102 C0 dX8_command_101 rfl rfl rfl ?_
                refine x_getf (v := .ref (g.2 0 + 258 + 7)) 15 105 C0 dX8_command_102 rfl MR_MW.o rfl (by decide) inX8 mF_X8_28 rfl ?_
                refine x_iconst (v := 3) 106 C0 dX8_command_105 rfl (by decide) ?_
                refine x_aload_n 0 107 C0 dX8_command_106 rfl rfl rfl ?_
                refine x_iconst (v := 2) 108 C0 dX8_command_107 rfl (by decide) ?_
                refine x_callV 111 C0 (e_X8_number2 l hl g _ _ n t48 v bf sv pa lb ip (upd (upd td 0 (nI (vN n ip (c1 n ip h0)))) 1 0) sg MR_MW hJ48 (c3 n ip h0) (mj_h hJ48 hp48 (by omega)) hp48) dX8_command_108 rfl mC_X8_number mM_X8_211 mI_X8_number mV_X8_number mN_X8 yd_X8_number rfl rfl ⟨Nat.le_of_ble_eq_true rfl, Nat.le_of_ble_eq_true rfl⟩ MR_MW.o rfl rfl rfl rfl (Nat.le_of_ble_eq_true rfl) ⟨Nat.le_of_ble_eq_true rfl, Nat.le_of_ble_eq_true rfl⟩ (fun _ _ _ q => False.elim q) (fun r w1 sz1 hz hP => ?_)
                obtain ⟨rfl, t49, rfl, hJ49, hW49, hR49⟩ := hP
                refine x_w MW_MW ?_
                rcases hR49 with ⟨hz49, rfl, ht49⟩ | ⟨hz49, hd49, rfl, hwr49, hp49⟩ | ⟨hz49, hd49, rfl, hwr49, hp49⟩
                · have hwr49 : t49 11 = 1 := by rw [ht49]; exact hwr48
                  have hp49 : t49 10 = nI (c3 n ip h0) := by rw [ht49]; exact hp48
                  refine x_st (st1 := [.int 0, .int 3, .ref (g.2 0 + 258 + 7)]) rfl ?_
                  refine x_iast 0 112 C0 dX8_command_111 rfl MR_MW.r_td (by show g.2 0 ≤ _; omega) rfl (vp_in_nI (n := 3) (by omega) (by decide)) ?_
                  refine x_w (w1 := (MW g w t49 v bf sv pa lb ip (upd (upd (upd td 0 (nI (vN n ip (c1 n ip h0)))) 1 0) 3 0) sg)) (by rw [show (3 : Int32).toNatClampNeg = 3 from nI_clamp (n := 3) (by omega)]; exact MW_td) ?_
                  refine x_aload_n 0 113 C0 dX8_command_112 rfl rfl rfl ?_
                  refine x_getf (v := .int (t49 11)) 19 116 C0 dX8_command_113 rfl MR_MW.o rfl (by decide) inX8 mF_X8_204 rfl ?_
                  refine x_st (st1 := [.int 1]) (congrArg (fun z => Value.int z :: _) (hwr49)) ?_
                  refine x_if_ne 126 119 C0 dX8_command_116 rfl (by decide) (fun _ => ?_) (fun q => False.elim (by revert q; decide))
                  exact x_return C0 dX8_command_126 rfl (Nat.le_of_ble_eq_true rfl) (Nat.le_of_ble_eq_true rfl) (cm_no (cr_d0 (Or.inl hW9) hd18 hd33 hd43) hJ49 (tW.tr (tW.tr (tW.tr (tW.tr (tW.tr (tW.tr hW1 hW18) hW33) hW43) hW46) hW48) hW49) hp49 hwr49 rfl)
                · exact absurd (hwr48.symm.trans hz49) (by decide)
                · exact absurd (hwr48.symm.trans hz49) (by decide)
              · exact absurd (hwr46.symm.trans hz48) (by decide)
              · exact absurd (hwr46.symm.trans hz48) (by decide)
            · exact absurd (hwr43.symm.trans hz46) (by decide)
            · exact absurd (hwr43.symm.trans hz46) (by decide)
          · refine x_st (st1 := [.int (nI (dv n ip (c3 n ip h0))), .int 1, .ref (g.2 0 + 258 + 7)]) rfl ?_
            refine x_iast 0 60 C0 dX8_command_59 rfl MR_MW.r_td (by show g.2 0 ≤ _; omega) rfl (vp_in_nI (n := 1) (by omega) (by decide)) ?_
            refine x_w (w1 := (MW g w t43 v bf sv pa lb ip (upd (upd td 0 (nI (vN n ip (c1 n ip h0)))) 1 (nI (dv n ip (c3 n ip h0)))) sg)) (by rw [show (1 : Int32).toNatClampNeg = 1 from nI_clamp (n := 1) (by omega)]; exact MW_td) ?_
            refine x_iload_n 1 61 C0 dX8_command_60 rfl rfl rfl ?_
            refine x_iconst (v := 1) 62 C0 dX8_command_61 rfl (by decide) ?_
            refine x_icmp_ne 112 65 C0 dX8_command_62 rfl (by decide) (fun q => False.elim (by revert q; decide)) (fun _ => ?_)
            refine x_aload_n 0 66 C0 dX8_command_65 rfl rfl rfl ?_
            refine x_bipush (v := 46) 68 C0 dX8_command_66 rfl (by decide) ?_
            refine x_callV 71 C0 (e_X8_mark l hl g _ _ n t43 v bf sv pa lb ip (upd (upd td 0 (nI (vN n ip (c1 n ip h0)))) 1 (nI (dv n ip (c3 n ip h0)))) sg MR_MW hJ43 (c4 n ip h0) (mj_h hJ43 hp43 (by omega)) hp43 46 (by decide)) dX8_command_68 rfl mC_X8_mark mM_X8_214 mI_X8_mark mV_X8_mark mN_X8 yd_X8_mark rfl rfl ⟨Nat.le_of_ble_eq_true rfl, Nat.le_of_ble_eq_true rfl⟩ MR_MW.o rfl rfl rfl rfl (Nat.le_of_ble_eq_true rfl) ⟨Nat.le_of_ble_eq_true rfl, Nat.le_of_ble_eq_true rfl⟩ (fun _ _ _ q => False.elim q) (fun r w1 sz1 hz hP => ?_)
            obtain ⟨rfl, t54, rfl, hJ54, hW54, hR54⟩ := hP
            refine x_w MW_MW ?_
            rcases hR54 with ⟨hz54, rfl, ht54⟩ | ⟨hz54, hd54, rfl, hwr54, hp54⟩ | ⟨hz54, hd54, rfl, hwr54, hp54⟩
            · exact absurd hwr43 hz54
            · refine x_st (st1 := []) rfl ?_
              refine x_aload_n 0 72 C0 dX8_command_71 rfl rfl rfl ?_
              refine x_getf (v := .int (t54 11)) 19 75 C0 dX8_command_72 rfl MR_MW.o rfl (by decide) inX8 mF_X8_204 rfl ?_
              refine x_st (st1 := [.int 1]) (congrArg (fun z => Value.int z :: _) (hwr54)) ?_
              refine x_if_ne 95 78 C0 dX8_command_75 rfl (by decide) (fun _ => ?_) (fun q => False.elim (by revert q; decide))
              refine x_aload_n 0 96 C0 dX8_command_95 rfl rfl rfl ?_
              refine x_bipush (v := 32) 98 C0 dX8_command_96 rfl (by decide) ?_
              refine x_callV 101 C0 (e_X8_mark l hl g _ _ n t54 v bf sv pa lb ip (upd (upd td 0 (nI (vN n ip (c1 n ip h0)))) 1 (nI (dv n ip (c3 n ip h0)))) sg MR_MW hJ54 (c4 n ip h0) (mj_h hJ54 hp54 (by omega)) hp54 32 (by decide)) dX8_command_98 rfl mC_X8_mark mM_X8_214 mI_X8_mark mV_X8_mark mN_X8 yd_X8_mark rfl rfl ⟨Nat.le_of_ble_eq_true rfl, Nat.le_of_ble_eq_true rfl⟩ MR_MW.o rfl rfl rfl rfl (Nat.le_of_ble_eq_true rfl) ⟨Nat.le_of_ble_eq_true rfl, Nat.le_of_ble_eq_true rfl⟩ (fun _ _ _ q => False.elim q) (fun r w1 sz1 hz hP => ?_)
              obtain ⟨rfl, t56, rfl, hJ56, hW56, hR56⟩ := hP
              refine x_w MW_MW ?_
              rcases hR56 with ⟨hz56, rfl, ht56⟩ | ⟨hz56, hd56, rfl, hwr56, hp56⟩ | ⟨hz56, hd56, rfl, hwr56, hp56⟩
              · have hwr56 : t56 11 = 1 := by rw [ht56]; exact hwr54
                have hp56 : t56 10 = nI (c4 n ip h0) := by rw [ht56]; exact hp54
                refine x_st (st1 := []) rfl ?_
                refine x_aload_n 0 102 C0 dX8_command_101 rfl rfl rfl ?_
                refine x_getf (v := .ref (g.2 0 + 258 + 7)) 15 105 C0 dX8_command_102 rfl MR_MW.o rfl (by decide) inX8 mF_X8_28 rfl ?_
                refine x_iconst (v := 3) 106 C0 dX8_command_105 rfl (by decide) ?_
                refine x_aload_n 0 107 C0 dX8_command_106 rfl rfl rfl ?_
                refine x_iconst (v := 2) 108 C0 dX8_command_107 rfl (by decide) ?_
                refine x_callV 111 C0 (e_X8_number2 l hl g _ _ n t56 v bf sv pa lb ip (upd (upd td 0 (nI (vN n ip (c1 n ip h0)))) 1 (nI (dv n ip (c3 n ip h0)))) sg MR_MW hJ56 (c4 n ip h0) (mj_h hJ56 hp56 (by omega)) hp56) dX8_command_108 rfl mC_X8_number mM_X8_211 mI_X8_number mV_X8_number mN_X8 yd_X8_number rfl rfl ⟨Nat.le_of_ble_eq_true rfl, Nat.le_of_ble_eq_true rfl⟩ MR_MW.o rfl rfl rfl rfl (Nat.le_of_ble_eq_true rfl) ⟨Nat.le_of_ble_eq_true rfl, Nat.le_of_ble_eq_true rfl⟩ (fun _ _ _ q => False.elim q) (fun r w1 sz1 hz hP => ?_)
                obtain ⟨rfl, t57, rfl, hJ57, hW57, hR57⟩ := hP
                refine x_w MW_MW ?_
                rcases hR57 with ⟨hz57, rfl, ht57⟩ | ⟨hz57, hd57, rfl, hwr57, hp57⟩ | ⟨hz57, hd57, rfl, hwr57, hp57⟩
                · have hwr57 : t57 11 = 1 := by rw [ht57]; exact hwr56
                  have hp57 : t57 10 = nI (c4 n ip h0) := by rw [ht57]; exact hp56
                  refine x_st (st1 := [.int 0, .int 3, .ref (g.2 0 + 258 + 7)]) rfl ?_
                  refine x_iast 0 112 C0 dX8_command_111 rfl MR_MW.r_td (by show g.2 0 ≤ _; omega) rfl (vp_in_nI (n := 3) (by omega) (by decide)) ?_
                  refine x_w (w1 := (MW g w t57 v bf sv pa lb ip (upd (upd (upd td 0 (nI (vN n ip (c1 n ip h0)))) 1 (nI (dv n ip (c3 n ip h0)))) 3 0) sg)) (by rw [show (3 : Int32).toNatClampNeg = 3 from nI_clamp (n := 3) (by omega)]; exact MW_td) ?_
                  refine x_aload_n 0 113 C0 dX8_command_112 rfl rfl rfl ?_
                  refine x_getf (v := .int (t57 11)) 19 116 C0 dX8_command_113 rfl MR_MW.o rfl (by decide) inX8 mF_X8_204 rfl ?_
                  refine x_st (st1 := [.int 1]) (congrArg (fun z => Value.int z :: _) (hwr57)) ?_
                  refine x_if_ne 126 119 C0 dX8_command_116 rfl (by decide) (fun _ => ?_) (fun q => False.elim (by revert q; decide))
                  exact x_return C0 dX8_command_126 rfl (Nat.le_of_ble_eq_true rfl) (Nat.le_of_ble_eq_true rfl) (cm_no (cr_p0 hW9 hd18 hd33 hd43 hd54) hJ57 (tW.tr (tW.tr (tW.tr (tW.tr (tW.tr (tW.tr hW1 hW18) hW33) hW43) hW54) hW56) hW57) hp57 hwr57 rfl)
                · exact absurd (hwr56.symm.trans hz57) (by decide)
                · exact absurd (hwr56.symm.trans hz57) (by decide)
              · exact absurd (hwr54.symm.trans hz56) (by decide)
              · exact absurd (hwr54.symm.trans hz56) (by decide)
            · refine x_st (st1 := []) rfl ?_
              refine x_aload_n 0 72 C0 dX8_command_71 rfl rfl rfl ?_
              refine x_getf (v := .int (t54 11)) 19 75 C0 dX8_command_72 rfl MR_MW.o rfl (by decide) inX8 mF_X8_204 rfl ?_
              refine x_st (st1 := [.int 0]) (congrArg (fun z => Value.int z :: _) (hwr54)) ?_
              refine x_if_ne 95 78 C0 dX8_command_75 rfl (by decide) (fun q => False.elim (by revert q; decide)) (fun _ => ?_)
              refine x_aload_n 0 79 C0 dX8_command_78 rfl rfl rfl ?_
              refine x_getf (v := .ref (g.2 0 + 258 + 7)) 15 82 C0 dX8_command_79 rfl MR_MW.o rfl (by decide) inX8 mF_X8_28 rfl ?_
              refine x_iconst (v := 2) 83 C0 dX8_command_82 rfl (by decide) ?_
              refine x_aload_n 0 84 C0 dX8_command_83 rfl rfl rfl ?_
              refine x_bipush (v := 8) 86 C0 dX8_command_84 rfl (by decide) ?_
              refine x_bipush (v := 10) 88 C0 dX8_command_86 rfl (by decide) ?_
              refine x_st (st1 := [.int (nI 10), .int (nI 8), .ref (g.2 0 + 258), .int 2, .ref (g.2 0 + 258 + 7)]) rfl ?_
              refine x_callV 91 C0 (e_X8_word l hl g _ _ n t54 v bf sv pa lb ip (upd (upd td 0 (nI (vN n ip (c1 n ip h0)))) 1 (nI (dv n ip (c3 n ip h0)))) sg MR_MW hJ54 (c5 n ip h0) (mj_h hJ54 hp54 (by omega)) hp54 8 3 10 (by decide) rfl) dX8_command_88 rfl mC_X8_word mM_X8_208 mI_X8_word mV_X8_word mN_X8 yd_X8_word rfl rfl ⟨Nat.le_of_ble_eq_true rfl, Nat.le_of_ble_eq_true rfl⟩ MR_MW.o rfl rfl rfl rfl (Nat.le_of_ble_eq_true rfl) ⟨Nat.le_of_ble_eq_true rfl, Nat.le_of_ble_eq_true rfl⟩ (fun _ _ _ q => False.elim q) (fun r w1 sz1 hz hP => ?_)
              obtain ⟨rfl, t61, rfl, hJ61, hW61, hR61⟩ := hP
              refine x_w MW_MW ?_
              obtain ⟨hp61, ⟨k61, hk61, hf61, rfl, hwr61⟩ | ⟨hf61, rfl, hwr61⟩⟩ := hR61
              · refine x_st (st1 := [.int (nI (8 + k61)), .int 2, .ref (g.2 0 + 258 + 7)]) rfl ?_
                refine x_bipush (v := 8) 93 C0 dX8_command_91 rfl (by decide) ?_
                refine x_isub 94 C0 dX8_command_93 rfl ?_
                refine x_st (st1 := [.int (nI k61), .int 2, .ref (g.2 0 + 258 + 7)]) (congrArg (fun z => Value.int z :: _) ((pk_sub (a := 8 + k61) (b := 8) (by omega)).trans (congrArg nI (by omega)))) ?_
                refine x_iast 0 95 C0 dX8_command_94 rfl MR_MW.r_td (by show g.2 0 ≤ _; omega) rfl (vp_in_nI (n := 2) (by omega) (by decide)) ?_
                refine x_w (w1 := (MW g w t61 v bf sv pa lb ip (upd (upd (upd td 0 (nI (vN n ip (c1 n ip h0)))) 1 (nI (dv n ip (c3 n ip h0)))) 2 (nI k61)) sg)) (by rw [show (2 : Int32).toNatClampNeg = 2 from nI_clamp (n := 2) (by omega)]; exact MW_td) ?_
                refine x_aload_n 0 96 C0 dX8_command_95 rfl rfl rfl ?_
                refine x_bipush (v := 32) 98 C0 dX8_command_96 rfl (by decide) ?_
                refine x_callV 101 C0 (e_X8_mark l hl g _ _ n t61 v bf sv pa lb ip (upd (upd (upd td 0 (nI (vN n ip (c1 n ip h0)))) 1 (nI (dv n ip (c3 n ip h0)))) 2 (nI k61)) sg MR_MW hJ61 (c6 n ip h0) (mj_h hJ61 hp61 (by omega)) hp61 32 (by decide)) dX8_command_98 rfl mC_X8_mark mM_X8_214 mI_X8_mark mV_X8_mark mN_X8 yd_X8_mark rfl rfl ⟨Nat.le_of_ble_eq_true rfl, Nat.le_of_ble_eq_true rfl⟩ MR_MW.o rfl rfl rfl rfl (Nat.le_of_ble_eq_true rfl) ⟨Nat.le_of_ble_eq_true rfl, Nat.le_of_ble_eq_true rfl⟩ (fun _ _ _ q => False.elim q) (fun r w1 sz1 hz hP => ?_)
                obtain ⟨rfl, t63, rfl, hJ63, hW63, hR63⟩ := hP
                refine x_w MW_MW ?_
                rcases hR63 with ⟨hz63, rfl, ht63⟩ | ⟨hz63, hd63, rfl, hwr63, hp63⟩ | ⟨hz63, hd63, rfl, hwr63, hp63⟩
                · exact absurd hwr61 hz63
                · refine x_st (st1 := []) rfl ?_
                  refine x_aload_n 0 102 C0 dX8_command_101 rfl rfl rfl ?_
                  refine x_getf (v := .ref (g.2 0 + 258 + 7)) 15 105 C0 dX8_command_102 rfl MR_MW.o rfl (by decide) inX8 mF_X8_28 rfl ?_
                  refine x_iconst (v := 3) 106 C0 dX8_command_105 rfl (by decide) ?_
                  refine x_aload_n 0 107 C0 dX8_command_106 rfl rfl rfl ?_
                  refine x_iconst (v := 2) 108 C0 dX8_command_107 rfl (by decide) ?_
                  refine x_callV 111 C0 (e_X8_number2 l hl g _ _ n t63 v bf sv pa lb ip (upd (upd (upd td 0 (nI (vN n ip (c1 n ip h0)))) 1 (nI (dv n ip (c3 n ip h0)))) 2 (nI k61)) sg MR_MW hJ63 (c6 n ip h0) (mj_h hJ63 hp63 (by omega)) hp63) dX8_command_108 rfl mC_X8_number mM_X8_211 mI_X8_number mV_X8_number mN_X8 yd_X8_number rfl rfl ⟨Nat.le_of_ble_eq_true rfl, Nat.le_of_ble_eq_true rfl⟩ MR_MW.o rfl rfl rfl rfl (Nat.le_of_ble_eq_true rfl) ⟨Nat.le_of_ble_eq_true rfl, Nat.le_of_ble_eq_true rfl⟩ (fun _ _ _ q => False.elim q) (fun r w1 sz1 hz hP => ?_)
                  obtain ⟨rfl, t64, rfl, hJ64, hW64, hR64⟩ := hP
                  refine x_w MW_MW ?_
                  rcases hR64 with ⟨hz64, rfl, ht64⟩ | ⟨hz64, hd64, rfl, hwr64, hp64⟩ | ⟨hz64, hd64, rfl, hwr64, hp64⟩
                  · have hwr64 : t64 11 = 1 := by rw [ht64]; exact hwr63
                    have hp64 : t64 10 = nI (c6 n ip h0) := by rw [ht64]; exact hp63
                    refine x_st (st1 := [.int 0, .int 3, .ref (g.2 0 + 258 + 7)]) rfl ?_
                    refine x_iast 0 112 C0 dX8_command_111 rfl MR_MW.r_td (by show g.2 0 ≤ _; omega) rfl (vp_in_nI (n := 3) (by omega) (by decide)) ?_
                    refine x_w (w1 := (MW g w t64 v bf sv pa lb ip (upd (upd (upd (upd td 0 (nI (vN n ip (c1 n ip h0)))) 1 (nI (dv n ip (c3 n ip h0)))) 2 (nI k61)) 3 0) sg)) (by rw [show (3 : Int32).toNatClampNeg = 3 from nI_clamp (n := 3) (by omega)]; exact MW_td) ?_
                    refine x_aload_n 0 113 C0 dX8_command_112 rfl rfl rfl ?_
                    refine x_getf (v := .int (t64 11)) 19 116 C0 dX8_command_113 rfl MR_MW.o rfl (by decide) inX8 mF_X8_204 rfl ?_
                    refine x_st (st1 := [.int 1]) (congrArg (fun z => Value.int z :: _) (hwr64)) ?_
                    refine x_if_ne 126 119 C0 dX8_command_116 rfl (by decide) (fun _ => ?_) (fun q => False.elim (by revert q; decide))
                    exact x_return C0 dX8_command_126 rfl (Nat.le_of_ble_eq_true rfl) (Nat.le_of_ble_eq_true rfl) (cm_no (cr_e0 hW9 hd18 hd33 hd43 hd54 (fun z => by have z2 : cK n ip h0 = 8 + k61 := hf61; omega) hd63) hJ64 (tW.tr (tW.tr (tW.tr (tW.tr (tW.tr (tW.tr (tW.tr hW1 hW18) hW33) hW43) hW54) hW61) hW63) hW64) hp64 hwr64 rfl)
                  · exact absurd (hwr63.symm.trans hz64) (by decide)
                  · exact absurd (hwr63.symm.trans hz64) (by decide)
                · refine x_st (st1 := []) rfl ?_
                  refine x_aload_n 0 102 C0 dX8_command_101 rfl rfl rfl ?_
                  refine x_getf (v := .ref (g.2 0 + 258 + 7)) 15 105 C0 dX8_command_102 rfl MR_MW.o rfl (by decide) inX8 mF_X8_28 rfl ?_
                  refine x_iconst (v := 3) 106 C0 dX8_command_105 rfl (by decide) ?_
                  refine x_aload_n 0 107 C0 dX8_command_106 rfl rfl rfl ?_
                  refine x_iconst (v := 2) 108 C0 dX8_command_107 rfl (by decide) ?_
                  refine x_callV 111 C0 (e_X8_number2 l hl g _ _ n t63 v bf sv pa lb ip (upd (upd (upd td 0 (nI (vN n ip (c1 n ip h0)))) 1 (nI (dv n ip (c3 n ip h0)))) 2 (nI k61)) sg MR_MW hJ63 (c7 n ip h0) (mj_h hJ63 hp63 (by omega)) hp63) dX8_command_108 rfl mC_X8_number mM_X8_211 mI_X8_number mV_X8_number mN_X8 yd_X8_number rfl rfl ⟨Nat.le_of_ble_eq_true rfl, Nat.le_of_ble_eq_true rfl⟩ MR_MW.o rfl rfl rfl rfl (Nat.le_of_ble_eq_true rfl) ⟨Nat.le_of_ble_eq_true rfl, Nat.le_of_ble_eq_true rfl⟩ (fun _ _ _ q => False.elim q) (fun r w1 sz1 hz hP => ?_)
                  obtain ⟨rfl, t67, rfl, hJ67, hW67, hR67⟩ := hP
                  refine x_w MW_MW ?_
                  rcases hR67 with ⟨hz67, rfl, ht67⟩ | ⟨hz67, hd67, rfl, hwr67, hp67⟩ | ⟨hz67, hd67, rfl, hwr67, hp67⟩
                  · exact absurd hwr63 hz67
                  · refine x_st (st1 := [.int 0, .int 3, .ref (g.2 0 + 258 + 7)]) rfl ?_
                    refine x_iast 0 112 C0 dX8_command_111 rfl MR_MW.r_td (by show g.2 0 ≤ _; omega) rfl (vp_in_nI (n := 3) (by omega) (by decide)) ?_
                    refine x_w (w1 := (MW g w t67 v bf sv pa lb ip (upd (upd (upd (upd td 0 (nI (vN n ip (c1 n ip h0)))) 1 (nI (dv n ip (c3 n ip h0)))) 2 (nI k61)) 3 0) sg)) (by rw [show (3 : Int32).toNatClampNeg = 3 from nI_clamp (n := 3) (by omega)]; exact MW_td) ?_
                    refine x_aload_n 0 113 C0 dX8_command_112 rfl rfl rfl ?_
                    refine x_getf (v := .int (t67 11)) 19 116 C0 dX8_command_113 rfl MR_MW.o rfl (by decide) inX8 mF_X8_204 rfl ?_
                    refine x_st (st1 := [.int 1]) (congrArg (fun z => Value.int z :: _) (hwr67)) ?_
                    refine x_if_ne 126 119 C0 dX8_command_116 rfl (by decide) (fun _ => ?_) (fun q => False.elim (by revert q; decide))
                    exact x_return C0 dX8_command_126 rfl (Nat.le_of_ble_eq_true rfl) (Nat.le_of_ble_eq_true rfl) (cm_no (cr_m0 hW9 hd18 hd33 hd43 hd54 (fun z => by have z2 : cK n ip h0 = 8 + k61 := hf61; omega) hd63 hd67) hJ67 (tW.tr (tW.tr (tW.tr (tW.tr (tW.tr (tW.tr (tW.tr hW1 hW18) hW33) hW43) hW54) hW61) hW63) hW67) hp67 hwr67 rfl)
                  · refine x_st (st1 := [.int (nI (vN n ip (c7 n ip h0))), .int 3, .ref (g.2 0 + 258 + 7)]) rfl ?_
                    refine x_iast 0 112 C0 dX8_command_111 rfl MR_MW.r_td (by show g.2 0 ≤ _; omega) rfl (vp_in_nI (n := 3) (by omega) (by decide)) ?_
                    refine x_w (w1 := (MW g w t67 v bf sv pa lb ip (upd (upd (upd (upd td 0 (nI (vN n ip (c1 n ip h0)))) 1 (nI (dv n ip (c3 n ip h0)))) 2 (nI k61)) 3 (nI (vN n ip (c7 n ip h0)))) sg)) (by rw [show (3 : Int32).toNatClampNeg = 3 from nI_clamp (n := 3) (by omega)]; exact MW_td) ?_
                    refine x_aload_n 0 113 C0 dX8_command_112 rfl rfl rfl ?_
                    refine x_getf (v := .int (t67 11)) 19 116 C0 dX8_command_113 rfl MR_MW.o rfl (by decide) inX8 mF_X8_204 rfl ?_
                    refine x_st (st1 := [.int 0]) (congrArg (fun z => Value.int z :: _) (hwr67)) ?_
                    refine x_if_ne 126 119 C0 dX8_command_116 rfl (by decide) (fun q => False.elim (by revert q; decide)) (fun _ => ?_)
                    refine x_aload_n 0 120 C0 dX8_command_119 rfl rfl rfl ?_
                    refine x_getf (v := .int (t67 12)) 20 123 C0 dX8_command_120 rfl MR_MW.o rfl (by decide) inX8 mF_X8_217 rfl ?_
                    refine x_st (st1 := [.int 0]) (congrArg (fun z => Value.int z :: _) (((tW.tr (tW.tr (tW.tr (tW.tr (tW.tr (tW.tr (tW.tr hW1 hW18) hW33) hW43) hW54) hW61) hW63) hW67) 12 (by decide) (by decide)).trans hdo)) ?_
                    refine x_if_ne 127 126 C0 dX8_command_123 rfl (by decide) (fun q => False.elim (by revert q; decide)) (fun _ => ?_)
                    exact x_return C0 dX8_command_126 rfl (Nat.le_of_ble_eq_true rfl) (Nat.le_of_ble_eq_true rfl) (cm_y0 (cr_f1 hW9 hd18 hd33 hd43 hd54 (fun z => by have z2 : cK n ip h0 = 8 + k61 := hf61; omega) hd63 hd67) hJ67 (tW.tr (tW.tr (tW.tr (tW.tr (tW.tr (tW.tr (tW.tr hW1 hW18) hW33) hW43) hW54) hW61) hW63) hW67) hp67 hwr67 rfl)
              · refine x_st (st1 := [.int 0, .int 2, .ref (g.2 0 + 258 + 7)]) rfl ?_
                refine x_bipush (v := 8) 93 C0 dX8_command_91 rfl (by decide) ?_
                refine x_isub 94 C0 dX8_command_93 rfl ?_
                refine x_st (st1 := [.int (-8), .int 2, .ref (g.2 0 + 258 + 7)]) (congrArg (fun z => Value.int z :: _) (by decide)) ?_
                refine x_iast 0 95 C0 dX8_command_94 rfl MR_MW.r_td (by show g.2 0 ≤ _; omega) rfl (vp_in_nI (n := 2) (by omega) (by decide)) ?_
                refine x_w (w1 := (MW g w t61 v bf sv pa lb ip (upd (upd (upd td 0 (nI (vN n ip (c1 n ip h0)))) 1 (nI (dv n ip (c3 n ip h0)))) 2 (-8)) sg)) (by rw [show (2 : Int32).toNatClampNeg = 2 from nI_clamp (n := 2) (by omega)]; exact MW_td) ?_
                refine x_aload_n 0 96 C0 dX8_command_95 rfl rfl rfl ?_
                refine x_bipush (v := 32) 98 C0 dX8_command_96 rfl (by decide) ?_
                refine x_callV 101 C0 (e_X8_mark l hl g _ _ n t61 v bf sv pa lb ip (upd (upd (upd td 0 (nI (vN n ip (c1 n ip h0)))) 1 (nI (dv n ip (c3 n ip h0)))) 2 (-8)) sg MR_MW hJ61 (c6 n ip h0) (mj_h hJ61 hp61 (by omega)) hp61 32 (by decide)) dX8_command_98 rfl mC_X8_mark mM_X8_214 mI_X8_mark mV_X8_mark mN_X8 yd_X8_mark rfl rfl ⟨Nat.le_of_ble_eq_true rfl, Nat.le_of_ble_eq_true rfl⟩ MR_MW.o rfl rfl rfl rfl (Nat.le_of_ble_eq_true rfl) ⟨Nat.le_of_ble_eq_true rfl, Nat.le_of_ble_eq_true rfl⟩ (fun _ _ _ q => False.elim q) (fun r w1 sz1 hz hP => ?_)
                obtain ⟨rfl, t74, rfl, hJ74, hW74, hR74⟩ := hP
                refine x_w MW_MW ?_
                rcases hR74 with ⟨hz74, rfl, ht74⟩ | ⟨hz74, hd74, rfl, hwr74, hp74⟩ | ⟨hz74, hd74, rfl, hwr74, hp74⟩
                · have hwr74 : t74 11 = 1 := by rw [ht74]; exact hwr61
                  have hp74 : t74 10 = nI (c6 n ip h0) := by rw [ht74]; exact hp61
                  refine x_st (st1 := []) rfl ?_
                  refine x_aload_n 0 102 C0 dX8_command_101 rfl rfl rfl ?_
                  refine x_getf (v := .ref (g.2 0 + 258 + 7)) 15 105 C0 dX8_command_102 rfl MR_MW.o rfl (by decide) inX8 mF_X8_28 rfl ?_
                  refine x_iconst (v := 3) 106 C0 dX8_command_105 rfl (by decide) ?_
                  refine x_aload_n 0 107 C0 dX8_command_106 rfl rfl rfl ?_
                  refine x_iconst (v := 2) 108 C0 dX8_command_107 rfl (by decide) ?_
                  refine x_callV 111 C0 (e_X8_number2 l hl g _ _ n t74 v bf sv pa lb ip (upd (upd (upd td 0 (nI (vN n ip (c1 n ip h0)))) 1 (nI (dv n ip (c3 n ip h0)))) 2 (-8)) sg MR_MW hJ74 (c6 n ip h0) (mj_h hJ74 hp74 (by omega)) hp74) dX8_command_108 rfl mC_X8_number mM_X8_211 mI_X8_number mV_X8_number mN_X8 yd_X8_number rfl rfl ⟨Nat.le_of_ble_eq_true rfl, Nat.le_of_ble_eq_true rfl⟩ MR_MW.o rfl rfl rfl rfl (Nat.le_of_ble_eq_true rfl) ⟨Nat.le_of_ble_eq_true rfl, Nat.le_of_ble_eq_true rfl⟩ (fun _ _ _ q => False.elim q) (fun r w1 sz1 hz hP => ?_)
                  obtain ⟨rfl, t75, rfl, hJ75, hW75, hR75⟩ := hP
                  refine x_w MW_MW ?_
                  rcases hR75 with ⟨hz75, rfl, ht75⟩ | ⟨hz75, hd75, rfl, hwr75, hp75⟩ | ⟨hz75, hd75, rfl, hwr75, hp75⟩
                  · have hwr75 : t75 11 = 1 := by rw [ht75]; exact hwr74
                    have hp75 : t75 10 = nI (c6 n ip h0) := by rw [ht75]; exact hp74
                    refine x_st (st1 := [.int 0, .int 3, .ref (g.2 0 + 258 + 7)]) rfl ?_
                    refine x_iast 0 112 C0 dX8_command_111 rfl MR_MW.r_td (by show g.2 0 ≤ _; omega) rfl (vp_in_nI (n := 3) (by omega) (by decide)) ?_
                    refine x_w (w1 := (MW g w t75 v bf sv pa lb ip (upd (upd (upd (upd td 0 (nI (vN n ip (c1 n ip h0)))) 1 (nI (dv n ip (c3 n ip h0)))) 2 (-8)) 3 0) sg)) (by rw [show (3 : Int32).toNatClampNeg = 3 from nI_clamp (n := 3) (by omega)]; exact MW_td) ?_
                    refine x_aload_n 0 113 C0 dX8_command_112 rfl rfl rfl ?_
                    refine x_getf (v := .int (t75 11)) 19 116 C0 dX8_command_113 rfl MR_MW.o rfl (by decide) inX8 mF_X8_204 rfl ?_
                    refine x_st (st1 := [.int 1]) (congrArg (fun z => Value.int z :: _) (hwr75)) ?_
                    refine x_if_ne 126 119 C0 dX8_command_116 rfl (by decide) (fun _ => ?_) (fun q => False.elim (by revert q; decide))
                    exact x_return C0 dX8_command_126 rfl (Nat.le_of_ble_eq_true rfl) (Nat.le_of_ble_eq_true rfl) (cm_no (cr_k0 hW9 hd18 hd33 hd43 hd54 hf61) hJ75 (tW.tr (tW.tr (tW.tr (tW.tr (tW.tr (tW.tr (tW.tr hW1 hW18) hW33) hW43) hW54) hW61) hW74) hW75) hp75 hwr75 rfl)
                  · exact absurd (hwr74.symm.trans hz75) (by decide)
                  · exact absurd (hwr74.symm.trans hz75) (by decide)
                · exact absurd (hwr61.symm.trans hz74) (by decide)
                · exact absurd (hwr61.symm.trans hz74) (by decide)
    · have hW9 : cW n ip h0 = 2 := hf1
      refine x_st (st1 := [.int 2]) rfl ?_
      refine x_istore_n [(1, .int 2), (0, .ref (g.2 0 + 258))] 8 C0 dX8_command_7 rfl rfl (by decide) rfl ?_
      refine x_lv (lv1 := [(0, .ref (g.2 0 + 258)), (1, .int 2)]) [1, 0] rfl ?_
      refine x_aload_n 0 9 C0 dX8_command_8 rfl rfl rfl ?_
      refine x_getf (v := .int (t1 11)) 19 12 C0 dX8_command_9 rfl MR_MW.o rfl (by decide) inX8 mF_X8_204 rfl ?_
      refine x_st (st1 := [.int 0]) (congrArg (fun z => Value.int z :: _) (hwr1)) ?_
      refine x_if_eq 16 15 C0 dX8_command_12 rfl (by decide) (fun _ => ?_) (fun q => False.elim (by revert q; decide))
      refine x_iload_n 1 17 C0 dX8_command_16 rfl rfl rfl ?_
      refine x_bipush (v := 6) 19 C0 dX8_command_17 rfl (by decide) ?_
      refine x_icmp_eq 33 22 C0 dX8_command_19 rfl (by decide) (fun q => False.elim (by revert q; decide)) (fun _ => ?_)
      refine x_aload_n 0 23 C0 dX8_command_22 rfl rfl rfl ?_
      refine x_getf (v := .ref (g.2 0 + 258 + 7)) 15 26 C0 dX8_command_23 rfl MR_MW.o rfl (by decide) inX8 mF_X8_28 rfl ?_
      refine x_iconst (v := 0) 27 C0 dX8_command_26 rfl (by decide) ?_
      refine x_aload_n 0 28 C0 dX8_command_27 rfl rfl rfl ?_
      refine x_iconst (v := 2) 29 C0 dX8_command_28 rfl (by decide) ?_
      refine x_callV 32 C0 (e_X8_number2 l hl g _ _ n t1 v bf sv pa lb ip td sg MR_MW hJ1 (c1 n ip h0) (mj_h hJ1 hp1 (by omega)) hp1) dX8_command_29 rfl mC_X8_number mM_X8_211 mI_X8_number mV_X8_number mN_X8 yd_X8_number rfl rfl ⟨Nat.le_of_ble_eq_true rfl, Nat.le_of_ble_eq_true rfl⟩ MR_MW.o rfl rfl rfl rfl (Nat.le_of_ble_eq_true rfl) ⟨Nat.le_of_ble_eq_true rfl, Nat.le_of_ble_eq_true rfl⟩ (fun _ _ _ q => False.elim q) (fun r w1 sz1 hz hP => ?_)
      obtain ⟨rfl, t80, rfl, hJ80, hW80, hR80⟩ := hP
      refine x_w MW_MW ?_
      rcases hR80 with ⟨hz80, rfl, ht80⟩ | ⟨hz80, hd80, rfl, hwr80, hp80⟩ | ⟨hz80, hd80, rfl, hwr80, hp80⟩
      · exact absurd hwr1 hz80
      · refine x_st (st1 := [.int 0, .int 0, .ref (g.2 0 + 258 + 7)]) rfl ?_
        refine x_iast 0 33 C0 dX8_command_32 rfl MR_MW.r_td (by show g.2 0 ≤ _; omega) rfl (vp_in_nI (n := 0) (by omega) (by decide)) ?_
        refine x_w (w1 := (MW g w t80 v bf sv pa lb ip (upd td 0 0) sg)) (by rw [show (0 : Int32).toNatClampNeg = 0 from nI_clamp (n := 0) (by omega)]; exact MW_td) ?_
        refine x_iload_n 1 34 C0 dX8_command_33 rfl rfl rfl ?_
        refine x_iconst (v := 1) 35 C0 dX8_command_34 rfl (by decide) ?_
        refine x_icmp_eq 43 38 C0 dX8_command_35 rfl (by decide) (fun q => False.elim (by revert q; decide)) (fun _ => ?_)
        refine x_iload_n 1 39 C0 dX8_command_38 rfl rfl rfl ?_
        refine x_iconst (v := 2) 40 C0 dX8_command_39 rfl (by decide) ?_
        refine x_icmp_ne 60 43 C0 dX8_command_40 rfl (by decide) (fun q => False.elim (by revert q; decide)) (fun _ => ?_)
        refine x_aload_n 0 44 C0 dX8_command_43 rfl rfl rfl ?_
        refine x_bipush (v := 32) 46 C0 dX8_command_44 rfl (by decide) ?_
        refine x_callV 49 C0 (e_X8_mark l hl g _ _ n t80 v bf sv pa lb ip (upd td 0 0) sg MR_MW hJ80 (c1 n ip h0) (mj_h hJ80 hp80 (by omega)) hp80 32 (by decide)) dX8_command_46 rfl mC_X8_mark mM_X8_214 mI_X8_mark mV_X8_mark mN_X8 yd_X8_mark rfl rfl ⟨Nat.le_of_ble_eq_true rfl, Nat.le_of_ble_eq_true rfl⟩ MR_MW.o rfl rfl rfl rfl (Nat.le_of_ble_eq_true rfl) ⟨Nat.le_of_ble_eq_true rfl, Nat.le_of_ble_eq_true rfl⟩ (fun _ _ _ q => False.elim q) (fun r w1 sz1 hz hP => ?_)
        obtain ⟨rfl, t84, rfl, hJ84, hW84, hR84⟩ := hP
        refine x_w MW_MW ?_
        rcases hR84 with ⟨hz84, rfl, ht84⟩ | ⟨hz84, hd84, rfl, hwr84, hp84⟩ | ⟨hz84, hd84, rfl, hwr84, hp84⟩
        · have hwr84 : t84 11 = 1 := by rw [ht84]; exact hwr80
          have hp84 : t84 10 = nI (c1 n ip h0) := by rw [ht84]; exact hp80
          refine x_st (st1 := []) rfl ?_
          refine x_aload_n 0 50 C0 dX8_command_49 rfl rfl rfl ?_
          refine x_getf (v := .ref (g.2 0 + 258 + 7)) 15 53 C0 dX8_command_50 rfl MR_MW.o rfl (by decide) inX8 mF_X8_28 rfl ?_
          refine x_iconst (v := 1) 54 C0 dX8_command_53 rfl (by decide) ?_
          refine x_aload_n 0 55 C0 dX8_command_54 rfl rfl rfl ?_
          refine x_iconst (v := 1) 56 C0 dX8_command_55 rfl (by decide) ?_
          refine x_callV 59 C0 (e_X8_number1 l hl g _ _ n t84 v bf sv pa lb ip (upd td 0 0) sg MR_MW hJ84 (c1 n ip h0) (mj_h hJ84 hp84 (by omega)) hp84) dX8_command_56 rfl mC_X8_number mM_X8_211 mI_X8_number mV_X8_number mN_X8 yd_X8_number rfl rfl ⟨Nat.le_of_ble_eq_true rfl, Nat.le_of_ble_eq_true rfl⟩ MR_MW.o rfl rfl rfl rfl (Nat.le_of_ble_eq_true rfl) ⟨Nat.le_of_ble_eq_true rfl, Nat.le_of_ble_eq_true rfl⟩ (fun _ _ _ q => False.elim q) (fun r w1 sz1 hz hP => ?_)
          obtain ⟨rfl, t85, rfl, hJ85, hW85, hR85⟩ := hP
          refine x_w MW_MW ?_
          rcases hR85 with ⟨hz85, rfl, ht85⟩ | ⟨hz85, hd85, rfl, hwr85, hp85⟩ | ⟨hz85, hd85, rfl, hwr85, hp85⟩
          · have hwr85 : t85 11 = 1 := by rw [ht85]; exact hwr84
            have hp85 : t85 10 = nI (c1 n ip h0) := by rw [ht85]; exact hp84
            refine x_st (st1 := [.int 0, .int 1, .ref (g.2 0 + 258 + 7)]) rfl ?_
            refine x_iast 0 60 C0 dX8_command_59 rfl MR_MW.r_td (by show g.2 0 ≤ _; omega) rfl (vp_in_nI (n := 1) (by omega) (by decide)) ?_
            refine x_w (w1 := (MW g w t85 v bf sv pa lb ip (upd (upd td 0 0) 1 0) sg)) (by rw [show (1 : Int32).toNatClampNeg = 1 from nI_clamp (n := 1) (by omega)]; exact MW_td) ?_
            refine x_iload_n 1 61 C0 dX8_command_60 rfl rfl rfl ?_
            refine x_iconst (v := 1) 62 C0 dX8_command_61 rfl (by decide) ?_
            refine x_icmp_ne 112 65 C0 dX8_command_62 rfl (by decide) (fun _ => ?_) (fun q => False.elim (by revert q; decide))
            refine x_aload_n 0 113 C0 dX8_command_112 rfl rfl rfl ?_
            refine x_getf (v := .int (t85 11)) 19 116 C0 dX8_command_113 rfl MR_MW.o rfl (by decide) inX8 mF_X8_204 rfl ?_
            refine x_st (st1 := [.int 1]) (congrArg (fun z => Value.int z :: _) (hwr85)) ?_
            refine x_if_ne 126 119 C0 dX8_command_116 rfl (by decide) (fun _ => ?_) (fun q => False.elim (by revert q; decide))
            exact x_return C0 dX8_command_126 rfl (Nat.le_of_ble_eq_true rfl) (Nat.le_of_ble_eq_true rfl) (cm_no (cr_n0 (by omega) (by omega) hd80) hJ85 (tW.tr (tW.tr (tW.tr hW1 hW80) hW84) hW85) hp85 hwr85 rfl)
          · exact absurd (hwr84.symm.trans hz85) (by decide)
          · exact absurd (hwr84.symm.trans hz85) (by decide)
        · exact absurd (hwr80.symm.trans hz84) (by decide)
        · exact absurd (hwr80.symm.trans hz84) (by decide)
      · refine x_st (st1 := [.int (nI (vN n ip (c1 n ip h0))), .int 0, .ref (g.2 0 + 258 + 7)]) rfl ?_
        refine x_iast 0 33 C0 dX8_command_32 rfl MR_MW.r_td (by show g.2 0 ≤ _; omega) rfl (vp_in_nI (n := 0) (by omega) (by decide)) ?_
        refine x_w (w1 := (MW g w t80 v bf sv pa lb ip (upd td 0 (nI (vN n ip (c1 n ip h0)))) sg)) (by rw [show (0 : Int32).toNatClampNeg = 0 from nI_clamp (n := 0) (by omega)]; exact MW_td) ?_
        refine x_iload_n 1 34 C0 dX8_command_33 rfl rfl rfl ?_
        refine x_iconst (v := 1) 35 C0 dX8_command_34 rfl (by decide) ?_
        refine x_icmp_eq 43 38 C0 dX8_command_35 rfl (by decide) (fun q => False.elim (by revert q; decide)) (fun _ => ?_)
        refine x_iload_n 1 39 C0 dX8_command_38 rfl rfl rfl ?_
        refine x_iconst (v := 2) 40 C0 dX8_command_39 rfl (by decide) ?_
        refine x_icmp_ne 60 43 C0 dX8_command_40 rfl (by decide) (fun q => False.elim (by revert q; decide)) (fun _ => ?_)
        refine x_aload_n 0 44 C0 dX8_command_43 rfl rfl rfl ?_
        refine x_bipush (v := 32) 46 C0 dX8_command_44 rfl (by decide) ?_
        refine x_callV 49 C0 (e_X8_mark l hl g _ _ n t80 v bf sv pa lb ip (upd td 0 (nI (vN n ip (c1 n ip h0)))) sg MR_MW hJ80 (c2 n ip h0) (mj_h hJ80 hp80 (by omega)) hp80 32 (by decide)) dX8_command_46 rfl mC_X8_mark mM_X8_214 mI_X8_mark mV_X8_mark mN_X8 yd_X8_mark rfl rfl ⟨Nat.le_of_ble_eq_true rfl, Nat.le_of_ble_eq_true rfl⟩ MR_MW.o rfl rfl rfl rfl (Nat.le_of_ble_eq_true rfl) ⟨Nat.le_of_ble_eq_true rfl, Nat.le_of_ble_eq_true rfl⟩ (fun _ _ _ q => False.elim q) (fun r w1 sz1 hz hP => ?_)
        obtain ⟨rfl, t92, rfl, hJ92, hW92, hR92⟩ := hP
        refine x_w MW_MW ?_
        rcases hR92 with ⟨hz92, rfl, ht92⟩ | ⟨hz92, hd92, rfl, hwr92, hp92⟩ | ⟨hz92, hd92, rfl, hwr92, hp92⟩
        · exact absurd hwr80 hz92
        · refine x_st (st1 := []) rfl ?_
          refine x_aload_n 0 50 C0 dX8_command_49 rfl rfl rfl ?_
          refine x_getf (v := .ref (g.2 0 + 258 + 7)) 15 53 C0 dX8_command_50 rfl MR_MW.o rfl (by decide) inX8 mF_X8_28 rfl ?_
          refine x_iconst (v := 1) 54 C0 dX8_command_53 rfl (by decide) ?_
          refine x_aload_n 0 55 C0 dX8_command_54 rfl rfl rfl ?_
          refine x_iconst (v := 1) 56 C0 dX8_command_55 rfl (by decide) ?_
          refine x_callV 59 C0 (e_X8_number1 l hl g _ _ n t92 v bf sv pa lb ip (upd td 0 (nI (vN n ip (c1 n ip h0)))) sg MR_MW hJ92 (c2 n ip h0) (mj_h hJ92 hp92 (by omega)) hp92) dX8_command_56 rfl mC_X8_number mM_X8_211 mI_X8_number mV_X8_number mN_X8 yd_X8_number rfl rfl ⟨Nat.le_of_ble_eq_true rfl, Nat.le_of_ble_eq_true rfl⟩ MR_MW.o rfl rfl rfl rfl (Nat.le_of_ble_eq_true rfl) ⟨Nat.le_of_ble_eq_true rfl, Nat.le_of_ble_eq_true rfl⟩ (fun _ _ _ q => False.elim q) (fun r w1 sz1 hz hP => ?_)
          obtain ⟨rfl, t93, rfl, hJ93, hW93, hR93⟩ := hP
          refine x_w MW_MW ?_
          rcases hR93 with ⟨hz93, rfl, ht93⟩ | ⟨hz93, hd93, rfl, hwr93, hp93⟩ | ⟨hz93, hd93, rfl, hwr93, hp93⟩
          · have hwr93 : t93 11 = 1 := by rw [ht93]; exact hwr92
            have hp93 : t93 10 = nI (c2 n ip h0) := by rw [ht93]; exact hp92
            refine x_st (st1 := [.int 0, .int 1, .ref (g.2 0 + 258 + 7)]) rfl ?_
            refine x_iast 0 60 C0 dX8_command_59 rfl MR_MW.r_td (by show g.2 0 ≤ _; omega) rfl (vp_in_nI (n := 1) (by omega) (by decide)) ?_
            refine x_w (w1 := (MW g w t93 v bf sv pa lb ip (upd (upd td 0 (nI (vN n ip (c1 n ip h0)))) 1 0) sg)) (by rw [show (1 : Int32).toNatClampNeg = 1 from nI_clamp (n := 1) (by omega)]; exact MW_td) ?_
            refine x_iload_n 1 61 C0 dX8_command_60 rfl rfl rfl ?_
            refine x_iconst (v := 1) 62 C0 dX8_command_61 rfl (by decide) ?_
            refine x_icmp_ne 112 65 C0 dX8_command_62 rfl (by decide) (fun _ => ?_) (fun q => False.elim (by revert q; decide))
            refine x_aload_n 0 113 C0 dX8_command_112 rfl rfl rfl ?_
            refine x_getf (v := .int (t93 11)) 19 116 C0 dX8_command_113 rfl MR_MW.o rfl (by decide) inX8 mF_X8_204 rfl ?_
            refine x_st (st1 := [.int 1]) (congrArg (fun z => Value.int z :: _) (hwr93)) ?_
            refine x_if_ne 126 119 C0 dX8_command_116 rfl (by decide) (fun _ => ?_) (fun q => False.elim (by revert q; decide))
            exact x_return C0 dX8_command_126 rfl (Nat.le_of_ble_eq_true rfl) (Nat.le_of_ble_eq_true rfl) (cm_no (cr_b0 (Or.inr hW9) hd80 hd92) hJ93 (tW.tr (tW.tr (tW.tr hW1 hW80) hW92) hW93) hp93 hwr93 rfl)
          · exact absurd (hwr92.symm.trans hz93) (by decide)
          · exact absurd (hwr92.symm.trans hz93) (by decide)
        · refine x_st (st1 := []) rfl ?_
          refine x_aload_n 0 50 C0 dX8_command_49 rfl rfl rfl ?_
          refine x_getf (v := .ref (g.2 0 + 258 + 7)) 15 53 C0 dX8_command_50 rfl MR_MW.o rfl (by decide) inX8 mF_X8_28 rfl ?_
          refine x_iconst (v := 1) 54 C0 dX8_command_53 rfl (by decide) ?_
          refine x_aload_n 0 55 C0 dX8_command_54 rfl rfl rfl ?_
          refine x_iconst (v := 1) 56 C0 dX8_command_55 rfl (by decide) ?_
          refine x_callV 59 C0 (e_X8_number1 l hl g _ _ n t92 v bf sv pa lb ip (upd td 0 (nI (vN n ip (c1 n ip h0)))) sg MR_MW hJ92 (c3 n ip h0) (mj_h hJ92 hp92 (by omega)) hp92) dX8_command_56 rfl mC_X8_number mM_X8_211 mI_X8_number mV_X8_number mN_X8 yd_X8_number rfl rfl ⟨Nat.le_of_ble_eq_true rfl, Nat.le_of_ble_eq_true rfl⟩ MR_MW.o rfl rfl rfl rfl (Nat.le_of_ble_eq_true rfl) ⟨Nat.le_of_ble_eq_true rfl, Nat.le_of_ble_eq_true rfl⟩ (fun _ _ _ q => False.elim q) (fun r w1 sz1 hz hP => ?_)
          obtain ⟨rfl, t97, rfl, hJ97, hW97, hR97⟩ := hP
          refine x_w MW_MW ?_
          rcases hR97 with ⟨hz97, rfl, ht97⟩ | ⟨hz97, hd97, rfl, hwr97, hp97⟩ | ⟨hz97, hd97, rfl, hwr97, hp97⟩
          · exact absurd hwr92 hz97
          · refine x_st (st1 := [.int 0, .int 1, .ref (g.2 0 + 258 + 7)]) rfl ?_
            refine x_iast 0 60 C0 dX8_command_59 rfl MR_MW.r_td (by show g.2 0 ≤ _; omega) rfl (vp_in_nI (n := 1) (by omega) (by decide)) ?_
            refine x_w (w1 := (MW g w t97 v bf sv pa lb ip (upd (upd td 0 (nI (vN n ip (c1 n ip h0)))) 1 0) sg)) (by rw [show (1 : Int32).toNatClampNeg = 1 from nI_clamp (n := 1) (by omega)]; exact MW_td) ?_
            refine x_iload_n 1 61 C0 dX8_command_60 rfl rfl rfl ?_
            refine x_iconst (v := 1) 62 C0 dX8_command_61 rfl (by decide) ?_
            refine x_icmp_ne 112 65 C0 dX8_command_62 rfl (by decide) (fun _ => ?_) (fun q => False.elim (by revert q; decide))
            refine x_aload_n 0 113 C0 dX8_command_112 rfl rfl rfl ?_
            refine x_getf (v := .int (t97 11)) 19 116 C0 dX8_command_113 rfl MR_MW.o rfl (by decide) inX8 mF_X8_204 rfl ?_
            refine x_st (st1 := [.int 1]) (congrArg (fun z => Value.int z :: _) (hwr97)) ?_
            refine x_if_ne 126 119 C0 dX8_command_116 rfl (by decide) (fun _ => ?_) (fun q => False.elim (by revert q; decide))
            exact x_return C0 dX8_command_126 rfl (Nat.le_of_ble_eq_true rfl) (Nat.le_of_ble_eq_true rfl) (cm_no (cr_d0 (Or.inr hW9) hd80 hd92 hd97) hJ97 (tW.tr (tW.tr (tW.tr hW1 hW80) hW92) hW97) hp97 hwr97 rfl)
          · refine x_st (st1 := [.int (nI (dv n ip (c3 n ip h0))), .int 1, .ref (g.2 0 + 258 + 7)]) rfl ?_
            refine x_iast 0 60 C0 dX8_command_59 rfl MR_MW.r_td (by show g.2 0 ≤ _; omega) rfl (vp_in_nI (n := 1) (by omega) (by decide)) ?_
            refine x_w (w1 := (MW g w t97 v bf sv pa lb ip (upd (upd td 0 (nI (vN n ip (c1 n ip h0)))) 1 (nI (dv n ip (c3 n ip h0)))) sg)) (by rw [show (1 : Int32).toNatClampNeg = 1 from nI_clamp (n := 1) (by omega)]; exact MW_td) ?_
            refine x_iload_n 1 61 C0 dX8_command_60 rfl rfl rfl ?_
            refine x_iconst (v := 1) 62 C0 dX8_command_61 rfl (by decide) ?_
            refine x_icmp_ne 112 65 C0 dX8_command_62 rfl (by decide) (fun _ => ?_) (fun q => False.elim (by revert q; decide))
            refine x_aload_n 0 113 C0 dX8_command_112 rfl rfl rfl ?_
            refine x_getf (v := .int (t97 11)) 19 116 C0 dX8_command_113 rfl MR_MW.o rfl (by decide) inX8 mF_X8_204 rfl ?_
            refine x_st (st1 := [.int 0]) (congrArg (fun z => Value.int z :: _) (hwr97)) ?_
            refine x_if_ne 126 119 C0 dX8_command_116 rfl (by decide) (fun q => False.elim (by revert q; decide)) (fun _ => ?_)
            refine x_aload_n 0 120 C0 dX8_command_119 rfl rfl rfl ?_
            refine x_getf (v := .int (t97 12)) 20 123 C0 dX8_command_120 rfl MR_MW.o rfl (by decide) inX8 mF_X8_217 rfl ?_
            refine x_st (st1 := [.int 0]) (congrArg (fun z => Value.int z :: _) (((tW.tr (tW.tr (tW.tr hW1 hW80) hW92) hW97) 12 (by decide) (by decide)).trans hdo)) ?_
            refine x_if_ne 127 126 C0 dX8_command_123 rfl (by decide) (fun q => False.elim (by revert q; decide)) (fun _ => ?_)
            exact x_return C0 dX8_command_126 rfl (Nat.le_of_ble_eq_true rfl) (Nat.le_of_ble_eq_true rfl) (cm_y0 (cr_s1 hW9 hd80 hd92 hd97) hJ97 (tW.tr (tW.tr (tW.tr hW1 hW80) hW92) hW97) hp97 hwr97 rfl)
    · have hW9 : cW n ip h0 = 3 := hf1
      refine x_st (st1 := [.int 3]) rfl ?_
      refine x_istore_n [(1, .int 3), (0, .ref (g.2 0 + 258))] 8 C0 dX8_command_7 rfl rfl (by decide) rfl ?_
      refine x_lv (lv1 := [(0, .ref (g.2 0 + 258)), (1, .int 3)]) [1, 0] rfl ?_
      refine x_aload_n 0 9 C0 dX8_command_8 rfl rfl rfl ?_
      refine x_getf (v := .int (t1 11)) 19 12 C0 dX8_command_9 rfl MR_MW.o rfl (by decide) inX8 mF_X8_204 rfl ?_
      refine x_st (st1 := [.int 0]) (congrArg (fun z => Value.int z :: _) (hwr1)) ?_
      refine x_if_eq 16 15 C0 dX8_command_12 rfl (by decide) (fun _ => ?_) (fun q => False.elim (by revert q; decide))
      refine x_iload_n 1 17 C0 dX8_command_16 rfl rfl rfl ?_
      refine x_bipush (v := 6) 19 C0 dX8_command_17 rfl (by decide) ?_
      refine x_icmp_eq 33 22 C0 dX8_command_19 rfl (by decide) (fun q => False.elim (by revert q; decide)) (fun _ => ?_)
      refine x_aload_n 0 23 C0 dX8_command_22 rfl rfl rfl ?_
      refine x_getf (v := .ref (g.2 0 + 258 + 7)) 15 26 C0 dX8_command_23 rfl MR_MW.o rfl (by decide) inX8 mF_X8_28 rfl ?_
      refine x_iconst (v := 0) 27 C0 dX8_command_26 rfl (by decide) ?_
      refine x_aload_n 0 28 C0 dX8_command_27 rfl rfl rfl ?_
      refine x_iconst (v := 2) 29 C0 dX8_command_28 rfl (by decide) ?_
      refine x_callV 32 C0 (e_X8_number2 l hl g _ _ n t1 v bf sv pa lb ip td sg MR_MW hJ1 (c1 n ip h0) (mj_h hJ1 hp1 (by omega)) hp1) dX8_command_29 rfl mC_X8_number mM_X8_211 mI_X8_number mV_X8_number mN_X8 yd_X8_number rfl rfl ⟨Nat.le_of_ble_eq_true rfl, Nat.le_of_ble_eq_true rfl⟩ MR_MW.o rfl rfl rfl rfl (Nat.le_of_ble_eq_true rfl) ⟨Nat.le_of_ble_eq_true rfl, Nat.le_of_ble_eq_true rfl⟩ (fun _ _ _ q => False.elim q) (fun r w1 sz1 hz hP => ?_)
      obtain ⟨rfl, t107, rfl, hJ107, hW107, hR107⟩ := hP
      refine x_w MW_MW ?_
      rcases hR107 with ⟨hz107, rfl, ht107⟩ | ⟨hz107, hd107, rfl, hwr107, hp107⟩ | ⟨hz107, hd107, rfl, hwr107, hp107⟩
      · exact absurd hwr1 hz107
      · refine x_st (st1 := [.int 0, .int 0, .ref (g.2 0 + 258 + 7)]) rfl ?_
        refine x_iast 0 33 C0 dX8_command_32 rfl MR_MW.r_td (by show g.2 0 ≤ _; omega) rfl (vp_in_nI (n := 0) (by omega) (by decide)) ?_
        refine x_w (w1 := (MW g w t107 v bf sv pa lb ip (upd td 0 0) sg)) (by rw [show (0 : Int32).toNatClampNeg = 0 from nI_clamp (n := 0) (by omega)]; exact MW_td) ?_
        refine x_iload_n 1 34 C0 dX8_command_33 rfl rfl rfl ?_
        refine x_iconst (v := 1) 35 C0 dX8_command_34 rfl (by decide) ?_
        refine x_icmp_eq 43 38 C0 dX8_command_35 rfl (by decide) (fun q => False.elim (by revert q; decide)) (fun _ => ?_)
        refine x_iload_n 1 39 C0 dX8_command_38 rfl rfl rfl ?_
        refine x_iconst (v := 2) 40 C0 dX8_command_39 rfl (by decide) ?_
        refine x_icmp_ne 60 43 C0 dX8_command_40 rfl (by decide) (fun _ => ?_) (fun q => False.elim (by revert q; decide))
        refine x_iload_n 1 61 C0 dX8_command_60 rfl rfl rfl ?_
        refine x_iconst (v := 1) 62 C0 dX8_command_61 rfl (by decide) ?_
        refine x_icmp_ne 112 65 C0 dX8_command_62 rfl (by decide) (fun _ => ?_) (fun q => False.elim (by revert q; decide))
        refine x_aload_n 0 113 C0 dX8_command_112 rfl rfl rfl ?_
        refine x_getf (v := .int (t107 11)) 19 116 C0 dX8_command_113 rfl MR_MW.o rfl (by decide) inX8 mF_X8_204 rfl ?_
        refine x_st (st1 := [.int 1]) (congrArg (fun z => Value.int z :: _) (hwr107)) ?_
        refine x_if_ne 126 119 C0 dX8_command_116 rfl (by decide) (fun _ => ?_) (fun q => False.elim (by revert q; decide))
        exact x_return C0 dX8_command_126 rfl (Nat.le_of_ble_eq_true rfl) (Nat.le_of_ble_eq_true rfl) (cm_no (cr_n0 (by omega) (by omega) hd107) hJ107 (tW.tr hW1 hW107) hp107 hwr107 rfl)
      · refine x_st (st1 := [.int (nI (vN n ip (c1 n ip h0))), .int 0, .ref (g.2 0 + 258 + 7)]) rfl ?_
        refine x_iast 0 33 C0 dX8_command_32 rfl MR_MW.r_td (by show g.2 0 ≤ _; omega) rfl (vp_in_nI (n := 0) (by omega) (by decide)) ?_
        refine x_w (w1 := (MW g w t107 v bf sv pa lb ip (upd td 0 (nI (vN n ip (c1 n ip h0)))) sg)) (by rw [show (0 : Int32).toNatClampNeg = 0 from nI_clamp (n := 0) (by omega)]; exact MW_td) ?_
        refine x_iload_n 1 34 C0 dX8_command_33 rfl rfl rfl ?_
        refine x_iconst (v := 1) 35 C0 dX8_command_34 rfl (by decide) ?_
        refine x_icmp_eq 43 38 C0 dX8_command_35 rfl (by decide) (fun q => False.elim (by revert q; decide)) (fun _ => ?_)
        refine x_iload_n 1 39 C0 dX8_command_38 rfl rfl rfl ?_
        refine x_iconst (v := 2) 40 C0 dX8_command_39 rfl (by decide) ?_
        refine x_icmp_ne 60 43 C0 dX8_command_40 rfl (by decide) (fun _ => ?_) (fun q => False.elim (by revert q; decide))
        refine x_iload_n 1 61 C0 dX8_command_60 rfl rfl rfl ?_
        refine x_iconst (v := 1) 62 C0 dX8_command_61 rfl (by decide) ?_
        refine x_icmp_ne 112 65 C0 dX8_command_62 rfl (by decide) (fun _ => ?_) (fun q => False.elim (by revert q; decide))
        refine x_aload_n 0 113 C0 dX8_command_112 rfl rfl rfl ?_
        refine x_getf (v := .int (t107 11)) 19 116 C0 dX8_command_113 rfl MR_MW.o rfl (by decide) inX8 mF_X8_204 rfl ?_
        refine x_st (st1 := [.int 0]) (congrArg (fun z => Value.int z :: _) (hwr107)) ?_
        refine x_if_ne 126 119 C0 dX8_command_116 rfl (by decide) (fun q => False.elim (by revert q; decide)) (fun _ => ?_)
        refine x_aload_n 0 120 C0 dX8_command_119 rfl rfl rfl ?_
        refine x_getf (v := .int (t107 12)) 20 123 C0 dX8_command_120 rfl MR_MW.o rfl (by decide) inX8 mF_X8_217 rfl ?_
        refine x_st (st1 := [.int 0]) (congrArg (fun z => Value.int z :: _) (((tW.tr hW1 hW107) 12 (by decide) (by decide)).trans hdo)) ?_
        refine x_if_ne 127 126 C0 dX8_command_123 rfl (by decide) (fun q => False.elim (by revert q; decide)) (fun _ => ?_)
        exact x_return C0 dX8_command_126 rfl (Nat.le_of_ble_eq_true rfl) (Nat.le_of_ble_eq_true rfl) (cm_y0 (cr_n1 (by omega) (by omega) (by omega) (by omega) hd107) hJ107 (tW.tr hW1 hW107) hp107 hwr107 rfl)
    · have hW9 : cW n ip h0 = 4 := hf1
      refine x_st (st1 := [.int 4]) rfl ?_
      refine x_istore_n [(1, .int 4), (0, .ref (g.2 0 + 258))] 8 C0 dX8_command_7 rfl rfl (by decide) rfl ?_
      refine x_lv (lv1 := [(0, .ref (g.2 0 + 258)), (1, .int 4)]) [1, 0] rfl ?_
      refine x_aload_n 0 9 C0 dX8_command_8 rfl rfl rfl ?_
      refine x_getf (v := .int (t1 11)) 19 12 C0 dX8_command_9 rfl MR_MW.o rfl (by decide) inX8 mF_X8_204 rfl ?_
      refine x_st (st1 := [.int 0]) (congrArg (fun z => Value.int z :: _) (hwr1)) ?_
      refine x_if_eq 16 15 C0 dX8_command_12 rfl (by decide) (fun _ => ?_) (fun q => False.elim (by revert q; decide))
      refine x_iload_n 1 17 C0 dX8_command_16 rfl rfl rfl ?_
      refine x_bipush (v := 6) 19 C0 dX8_command_17 rfl (by decide) ?_
      refine x_icmp_eq 33 22 C0 dX8_command_19 rfl (by decide) (fun q => False.elim (by revert q; decide)) (fun _ => ?_)
      refine x_aload_n 0 23 C0 dX8_command_22 rfl rfl rfl ?_
      refine x_getf (v := .ref (g.2 0 + 258 + 7)) 15 26 C0 dX8_command_23 rfl MR_MW.o rfl (by decide) inX8 mF_X8_28 rfl ?_
      refine x_iconst (v := 0) 27 C0 dX8_command_26 rfl (by decide) ?_
      refine x_aload_n 0 28 C0 dX8_command_27 rfl rfl rfl ?_
      refine x_iconst (v := 2) 29 C0 dX8_command_28 rfl (by decide) ?_
      refine x_callV 32 C0 (e_X8_number2 l hl g _ _ n t1 v bf sv pa lb ip td sg MR_MW hJ1 (c1 n ip h0) (mj_h hJ1 hp1 (by omega)) hp1) dX8_command_29 rfl mC_X8_number mM_X8_211 mI_X8_number mV_X8_number mN_X8 yd_X8_number rfl rfl ⟨Nat.le_of_ble_eq_true rfl, Nat.le_of_ble_eq_true rfl⟩ MR_MW.o rfl rfl rfl rfl (Nat.le_of_ble_eq_true rfl) ⟨Nat.le_of_ble_eq_true rfl, Nat.le_of_ble_eq_true rfl⟩ (fun _ _ _ q => False.elim q) (fun r w1 sz1 hz hP => ?_)
      obtain ⟨rfl, t121, rfl, hJ121, hW121, hR121⟩ := hP
      refine x_w MW_MW ?_
      rcases hR121 with ⟨hz121, rfl, ht121⟩ | ⟨hz121, hd121, rfl, hwr121, hp121⟩ | ⟨hz121, hd121, rfl, hwr121, hp121⟩
      · exact absurd hwr1 hz121
      · refine x_st (st1 := [.int 0, .int 0, .ref (g.2 0 + 258 + 7)]) rfl ?_
        refine x_iast 0 33 C0 dX8_command_32 rfl MR_MW.r_td (by show g.2 0 ≤ _; omega) rfl (vp_in_nI (n := 0) (by omega) (by decide)) ?_
        refine x_w (w1 := (MW g w t121 v bf sv pa lb ip (upd td 0 0) sg)) (by rw [show (0 : Int32).toNatClampNeg = 0 from nI_clamp (n := 0) (by omega)]; exact MW_td) ?_
        refine x_iload_n 1 34 C0 dX8_command_33 rfl rfl rfl ?_
        refine x_iconst (v := 1) 35 C0 dX8_command_34 rfl (by decide) ?_
        refine x_icmp_eq 43 38 C0 dX8_command_35 rfl (by decide) (fun q => False.elim (by revert q; decide)) (fun _ => ?_)
        refine x_iload_n 1 39 C0 dX8_command_38 rfl rfl rfl ?_
        refine x_iconst (v := 2) 40 C0 dX8_command_39 rfl (by decide) ?_
        refine x_icmp_ne 60 43 C0 dX8_command_40 rfl (by decide) (fun _ => ?_) (fun q => False.elim (by revert q; decide))
        refine x_iload_n 1 61 C0 dX8_command_60 rfl rfl rfl ?_
        refine x_iconst (v := 1) 62 C0 dX8_command_61 rfl (by decide) ?_
        refine x_icmp_ne 112 65 C0 dX8_command_62 rfl (by decide) (fun _ => ?_) (fun q => False.elim (by revert q; decide))
        refine x_aload_n 0 113 C0 dX8_command_112 rfl rfl rfl ?_
        refine x_getf (v := .int (t121 11)) 19 116 C0 dX8_command_113 rfl MR_MW.o rfl (by decide) inX8 mF_X8_204 rfl ?_
        refine x_st (st1 := [.int 1]) (congrArg (fun z => Value.int z :: _) (hwr121)) ?_
        refine x_if_ne 126 119 C0 dX8_command_116 rfl (by decide) (fun _ => ?_) (fun q => False.elim (by revert q; decide))
        exact x_return C0 dX8_command_126 rfl (Nat.le_of_ble_eq_true rfl) (Nat.le_of_ble_eq_true rfl) (cm_no (cr_n0 (by omega) (by omega) hd121) hJ121 (tW.tr hW1 hW121) hp121 hwr121 rfl)
      · refine x_st (st1 := [.int (nI (vN n ip (c1 n ip h0))), .int 0, .ref (g.2 0 + 258 + 7)]) rfl ?_
        refine x_iast 0 33 C0 dX8_command_32 rfl MR_MW.r_td (by show g.2 0 ≤ _; omega) rfl (vp_in_nI (n := 0) (by omega) (by decide)) ?_
        refine x_w (w1 := (MW g w t121 v bf sv pa lb ip (upd td 0 (nI (vN n ip (c1 n ip h0)))) sg)) (by rw [show (0 : Int32).toNatClampNeg = 0 from nI_clamp (n := 0) (by omega)]; exact MW_td) ?_
        refine x_iload_n 1 34 C0 dX8_command_33 rfl rfl rfl ?_
        refine x_iconst (v := 1) 35 C0 dX8_command_34 rfl (by decide) ?_
        refine x_icmp_eq 43 38 C0 dX8_command_35 rfl (by decide) (fun q => False.elim (by revert q; decide)) (fun _ => ?_)
        refine x_iload_n 1 39 C0 dX8_command_38 rfl rfl rfl ?_
        refine x_iconst (v := 2) 40 C0 dX8_command_39 rfl (by decide) ?_
        refine x_icmp_ne 60 43 C0 dX8_command_40 rfl (by decide) (fun _ => ?_) (fun q => False.elim (by revert q; decide))
        refine x_iload_n 1 61 C0 dX8_command_60 rfl rfl rfl ?_
        refine x_iconst (v := 1) 62 C0 dX8_command_61 rfl (by decide) ?_
        refine x_icmp_ne 112 65 C0 dX8_command_62 rfl (by decide) (fun _ => ?_) (fun q => False.elim (by revert q; decide))
        refine x_aload_n 0 113 C0 dX8_command_112 rfl rfl rfl ?_
        refine x_getf (v := .int (t121 11)) 19 116 C0 dX8_command_113 rfl MR_MW.o rfl (by decide) inX8 mF_X8_204 rfl ?_
        refine x_st (st1 := [.int 0]) (congrArg (fun z => Value.int z :: _) (hwr121)) ?_
        refine x_if_ne 126 119 C0 dX8_command_116 rfl (by decide) (fun q => False.elim (by revert q; decide)) (fun _ => ?_)
        refine x_aload_n 0 120 C0 dX8_command_119 rfl rfl rfl ?_
        refine x_getf (v := .int (t121 12)) 20 123 C0 dX8_command_120 rfl MR_MW.o rfl (by decide) inX8 mF_X8_217 rfl ?_
        refine x_st (st1 := [.int 0]) (congrArg (fun z => Value.int z :: _) (((tW.tr hW1 hW121) 12 (by decide) (by decide)).trans hdo)) ?_
        refine x_if_ne 127 126 C0 dX8_command_123 rfl (by decide) (fun q => False.elim (by revert q; decide)) (fun _ => ?_)
        exact x_return C0 dX8_command_126 rfl (Nat.le_of_ble_eq_true rfl) (Nat.le_of_ble_eq_true rfl) (cm_y0 (cr_n1 (by omega) (by omega) (by omega) (by omega) hd121) hJ121 (tW.tr hW1 hW121) hp121 hwr121 rfl)
    · have hW9 : cW n ip h0 = 5 := hf1
      refine x_st (st1 := [.int 5]) rfl ?_
      refine x_istore_n [(1, .int 5), (0, .ref (g.2 0 + 258))] 8 C0 dX8_command_7 rfl rfl (by decide) rfl ?_
      refine x_lv (lv1 := [(0, .ref (g.2 0 + 258)), (1, .int 5)]) [1, 0] rfl ?_
      refine x_aload_n 0 9 C0 dX8_command_8 rfl rfl rfl ?_
      refine x_getf (v := .int (t1 11)) 19 12 C0 dX8_command_9 rfl MR_MW.o rfl (by decide) inX8 mF_X8_204 rfl ?_
      refine x_st (st1 := [.int 0]) (congrArg (fun z => Value.int z :: _) (hwr1)) ?_
      refine x_if_eq 16 15 C0 dX8_command_12 rfl (by decide) (fun _ => ?_) (fun q => False.elim (by revert q; decide))
      refine x_iload_n 1 17 C0 dX8_command_16 rfl rfl rfl ?_
      refine x_bipush (v := 6) 19 C0 dX8_command_17 rfl (by decide) ?_
      refine x_icmp_eq 33 22 C0 dX8_command_19 rfl (by decide) (fun q => False.elim (by revert q; decide)) (fun _ => ?_)
      refine x_aload_n 0 23 C0 dX8_command_22 rfl rfl rfl ?_
      refine x_getf (v := .ref (g.2 0 + 258 + 7)) 15 26 C0 dX8_command_23 rfl MR_MW.o rfl (by decide) inX8 mF_X8_28 rfl ?_
      refine x_iconst (v := 0) 27 C0 dX8_command_26 rfl (by decide) ?_
      refine x_aload_n 0 28 C0 dX8_command_27 rfl rfl rfl ?_
      refine x_iconst (v := 2) 29 C0 dX8_command_28 rfl (by decide) ?_
      refine x_callV 32 C0 (e_X8_number2 l hl g _ _ n t1 v bf sv pa lb ip td sg MR_MW hJ1 (c1 n ip h0) (mj_h hJ1 hp1 (by omega)) hp1) dX8_command_29 rfl mC_X8_number mM_X8_211 mI_X8_number mV_X8_number mN_X8 yd_X8_number rfl rfl ⟨Nat.le_of_ble_eq_true rfl, Nat.le_of_ble_eq_true rfl⟩ MR_MW.o rfl rfl rfl rfl (Nat.le_of_ble_eq_true rfl) ⟨Nat.le_of_ble_eq_true rfl, Nat.le_of_ble_eq_true rfl⟩ (fun _ _ _ q => False.elim q) (fun r w1 sz1 hz hP => ?_)
      obtain ⟨rfl, t135, rfl, hJ135, hW135, hR135⟩ := hP
      refine x_w MW_MW ?_
      rcases hR135 with ⟨hz135, rfl, ht135⟩ | ⟨hz135, hd135, rfl, hwr135, hp135⟩ | ⟨hz135, hd135, rfl, hwr135, hp135⟩
      · exact absurd hwr1 hz135
      · refine x_st (st1 := [.int 0, .int 0, .ref (g.2 0 + 258 + 7)]) rfl ?_
        refine x_iast 0 33 C0 dX8_command_32 rfl MR_MW.r_td (by show g.2 0 ≤ _; omega) rfl (vp_in_nI (n := 0) (by omega) (by decide)) ?_
        refine x_w (w1 := (MW g w t135 v bf sv pa lb ip (upd td 0 0) sg)) (by rw [show (0 : Int32).toNatClampNeg = 0 from nI_clamp (n := 0) (by omega)]; exact MW_td) ?_
        refine x_iload_n 1 34 C0 dX8_command_33 rfl rfl rfl ?_
        refine x_iconst (v := 1) 35 C0 dX8_command_34 rfl (by decide) ?_
        refine x_icmp_eq 43 38 C0 dX8_command_35 rfl (by decide) (fun q => False.elim (by revert q; decide)) (fun _ => ?_)
        refine x_iload_n 1 39 C0 dX8_command_38 rfl rfl rfl ?_
        refine x_iconst (v := 2) 40 C0 dX8_command_39 rfl (by decide) ?_
        refine x_icmp_ne 60 43 C0 dX8_command_40 rfl (by decide) (fun _ => ?_) (fun q => False.elim (by revert q; decide))
        refine x_iload_n 1 61 C0 dX8_command_60 rfl rfl rfl ?_
        refine x_iconst (v := 1) 62 C0 dX8_command_61 rfl (by decide) ?_
        refine x_icmp_ne 112 65 C0 dX8_command_62 rfl (by decide) (fun _ => ?_) (fun q => False.elim (by revert q; decide))
        refine x_aload_n 0 113 C0 dX8_command_112 rfl rfl rfl ?_
        refine x_getf (v := .int (t135 11)) 19 116 C0 dX8_command_113 rfl MR_MW.o rfl (by decide) inX8 mF_X8_204 rfl ?_
        refine x_st (st1 := [.int 1]) (congrArg (fun z => Value.int z :: _) (hwr135)) ?_
        refine x_if_ne 126 119 C0 dX8_command_116 rfl (by decide) (fun _ => ?_) (fun q => False.elim (by revert q; decide))
        exact x_return C0 dX8_command_126 rfl (Nat.le_of_ble_eq_true rfl) (Nat.le_of_ble_eq_true rfl) (cm_no (cr_n0 (by omega) (by omega) hd135) hJ135 (tW.tr hW1 hW135) hp135 hwr135 rfl)
      · refine x_st (st1 := [.int (nI (vN n ip (c1 n ip h0))), .int 0, .ref (g.2 0 + 258 + 7)]) rfl ?_
        refine x_iast 0 33 C0 dX8_command_32 rfl MR_MW.r_td (by show g.2 0 ≤ _; omega) rfl (vp_in_nI (n := 0) (by omega) (by decide)) ?_
        refine x_w (w1 := (MW g w t135 v bf sv pa lb ip (upd td 0 (nI (vN n ip (c1 n ip h0)))) sg)) (by rw [show (0 : Int32).toNatClampNeg = 0 from nI_clamp (n := 0) (by omega)]; exact MW_td) ?_
        refine x_iload_n 1 34 C0 dX8_command_33 rfl rfl rfl ?_
        refine x_iconst (v := 1) 35 C0 dX8_command_34 rfl (by decide) ?_
        refine x_icmp_eq 43 38 C0 dX8_command_35 rfl (by decide) (fun q => False.elim (by revert q; decide)) (fun _ => ?_)
        refine x_iload_n 1 39 C0 dX8_command_38 rfl rfl rfl ?_
        refine x_iconst (v := 2) 40 C0 dX8_command_39 rfl (by decide) ?_
        refine x_icmp_ne 60 43 C0 dX8_command_40 rfl (by decide) (fun _ => ?_) (fun q => False.elim (by revert q; decide))
        refine x_iload_n 1 61 C0 dX8_command_60 rfl rfl rfl ?_
        refine x_iconst (v := 1) 62 C0 dX8_command_61 rfl (by decide) ?_
        refine x_icmp_ne 112 65 C0 dX8_command_62 rfl (by decide) (fun _ => ?_) (fun q => False.elim (by revert q; decide))
        refine x_aload_n 0 113 C0 dX8_command_112 rfl rfl rfl ?_
        refine x_getf (v := .int (t135 11)) 19 116 C0 dX8_command_113 rfl MR_MW.o rfl (by decide) inX8 mF_X8_204 rfl ?_
        refine x_st (st1 := [.int 0]) (congrArg (fun z => Value.int z :: _) (hwr135)) ?_
        refine x_if_ne 126 119 C0 dX8_command_116 rfl (by decide) (fun q => False.elim (by revert q; decide)) (fun _ => ?_)
        refine x_aload_n 0 120 C0 dX8_command_119 rfl rfl rfl ?_
        refine x_getf (v := .int (t135 12)) 20 123 C0 dX8_command_120 rfl MR_MW.o rfl (by decide) inX8 mF_X8_217 rfl ?_
        refine x_st (st1 := [.int 0]) (congrArg (fun z => Value.int z :: _) (((tW.tr hW1 hW135) 12 (by decide) (by decide)).trans hdo)) ?_
        refine x_if_ne 127 126 C0 dX8_command_123 rfl (by decide) (fun q => False.elim (by revert q; decide)) (fun _ => ?_)
        exact x_return C0 dX8_command_126 rfl (Nat.le_of_ble_eq_true rfl) (Nat.le_of_ble_eq_true rfl) (cm_y0 (cr_n1 (by omega) (by omega) (by omega) (by omega) hd135) hJ135 (tW.tr hW1 hW135) hp135 hwr135 rfl)
    · have hW9 : cW n ip h0 = 6 := hf1
      refine x_st (st1 := [.int 6]) rfl ?_
      refine x_istore_n [(1, .int 6), (0, .ref (g.2 0 + 258))] 8 C0 dX8_command_7 rfl rfl (by decide) rfl ?_
      refine x_lv (lv1 := [(0, .ref (g.2 0 + 258)), (1, .int 6)]) [1, 0] rfl ?_
      refine x_aload_n 0 9 C0 dX8_command_8 rfl rfl rfl ?_
      refine x_getf (v := .int (t1 11)) 19 12 C0 dX8_command_9 rfl MR_MW.o rfl (by decide) inX8 mF_X8_204 rfl ?_
      refine x_st (st1 := [.int 0]) (congrArg (fun z => Value.int z :: _) (hwr1)) ?_
      refine x_if_eq 16 15 C0 dX8_command_12 rfl (by decide) (fun _ => ?_) (fun q => False.elim (by revert q; decide))
      refine x_iload_n 1 17 C0 dX8_command_16 rfl rfl rfl ?_
      refine x_bipush (v := 6) 19 C0 dX8_command_17 rfl (by decide) ?_
      refine x_icmp_eq 33 22 C0 dX8_command_19 rfl (by decide) (fun _ => ?_) (fun q => False.elim (by revert q; decide))
      refine x_iload_n 1 34 C0 dX8_command_33 rfl rfl rfl ?_
      refine x_iconst (v := 1) 35 C0 dX8_command_34 rfl (by decide) ?_
      refine x_icmp_eq 43 38 C0 dX8_command_35 rfl (by decide) (fun q => False.elim (by revert q; decide)) (fun _ => ?_)
      refine x_iload_n 1 39 C0 dX8_command_38 rfl rfl rfl ?_
      refine x_iconst (v := 2) 40 C0 dX8_command_39 rfl (by decide) ?_
      refine x_icmp_ne 60 43 C0 dX8_command_40 rfl (by decide) (fun _ => ?_) (fun q => False.elim (by revert q; decide))
      refine x_iload_n 1 61 C0 dX8_command_60 rfl rfl rfl ?_
      refine x_iconst (v := 1) 62 C0 dX8_command_61 rfl (by decide) ?_
      refine x_icmp_ne 112 65 C0 dX8_command_62 rfl (by decide) (fun _ => ?_) (fun q => False.elim (by revert q; decide))
      refine x_aload_n 0 113 C0 dX8_command_112 rfl rfl rfl ?_
      refine x_getf (v := .int (t1 11)) 19 116 C0 dX8_command_113 rfl MR_MW.o rfl (by decide) inX8 mF_X8_204 rfl ?_
      refine x_st (st1 := [.int 0]) (congrArg (fun z => Value.int z :: _) (hwr1)) ?_
      refine x_if_ne 126 119 C0 dX8_command_116 rfl (by decide) (fun q => False.elim (by revert q; decide)) (fun _ => ?_)
      refine x_aload_n 0 120 C0 dX8_command_119 rfl rfl rfl ?_
      refine x_getf (v := .int (t1 12)) 20 123 C0 dX8_command_120 rfl MR_MW.o rfl (by decide) inX8 mF_X8_217 rfl ?_
      refine x_st (st1 := [.int 0]) (congrArg (fun z => Value.int z :: _) ((hW1 12 (by decide) (by decide)).trans hdo)) ?_
      refine x_if_ne 127 126 C0 dX8_command_123 rfl (by decide) (fun q => False.elim (by revert q; decide)) (fun _ => ?_)
      exact x_return C0 dX8_command_126 rfl (Nat.le_of_ble_eq_true rfl) (Nat.le_of_ble_eq_true rfl) (cm_y0 (cr_sail hW9) hJ1 hW1 hp1 hwr1 rfl)
    · have hW9 : cW n ip h0 = 7 := hf1
      refine x_st (st1 := [.int 7]) rfl ?_
      refine x_istore_n [(1, .int 7), (0, .ref (g.2 0 + 258))] 8 C0 dX8_command_7 rfl rfl (by decide) rfl ?_
      refine x_lv (lv1 := [(0, .ref (g.2 0 + 258)), (1, .int 7)]) [1, 0] rfl ?_
      refine x_aload_n 0 9 C0 dX8_command_8 rfl rfl rfl ?_
      refine x_getf (v := .int (t1 11)) 19 12 C0 dX8_command_9 rfl MR_MW.o rfl (by decide) inX8 mF_X8_204 rfl ?_
      refine x_st (st1 := [.int 0]) (congrArg (fun z => Value.int z :: _) (hwr1)) ?_
      refine x_if_eq 16 15 C0 dX8_command_12 rfl (by decide) (fun _ => ?_) (fun q => False.elim (by revert q; decide))
      refine x_iload_n 1 17 C0 dX8_command_16 rfl rfl rfl ?_
      refine x_bipush (v := 6) 19 C0 dX8_command_17 rfl (by decide) ?_
      refine x_icmp_eq 33 22 C0 dX8_command_19 rfl (by decide) (fun q => False.elim (by revert q; decide)) (fun _ => ?_)
      refine x_aload_n 0 23 C0 dX8_command_22 rfl rfl rfl ?_
      refine x_getf (v := .ref (g.2 0 + 258 + 7)) 15 26 C0 dX8_command_23 rfl MR_MW.o rfl (by decide) inX8 mF_X8_28 rfl ?_
      refine x_iconst (v := 0) 27 C0 dX8_command_26 rfl (by decide) ?_
      refine x_aload_n 0 28 C0 dX8_command_27 rfl rfl rfl ?_
      refine x_iconst (v := 2) 29 C0 dX8_command_28 rfl (by decide) ?_
      refine x_callV 32 C0 (e_X8_number2 l hl g _ _ n t1 v bf sv pa lb ip td sg MR_MW hJ1 (c1 n ip h0) (mj_h hJ1 hp1 (by omega)) hp1) dX8_command_29 rfl mC_X8_number mM_X8_211 mI_X8_number mV_X8_number mN_X8 yd_X8_number rfl rfl ⟨Nat.le_of_ble_eq_true rfl, Nat.le_of_ble_eq_true rfl⟩ MR_MW.o rfl rfl rfl rfl (Nat.le_of_ble_eq_true rfl) ⟨Nat.le_of_ble_eq_true rfl, Nat.le_of_ble_eq_true rfl⟩ (fun _ _ _ q => False.elim q) (fun r w1 sz1 hz hP => ?_)
      obtain ⟨rfl, t156, rfl, hJ156, hW156, hR156⟩ := hP
      refine x_w MW_MW ?_
      rcases hR156 with ⟨hz156, rfl, ht156⟩ | ⟨hz156, hd156, rfl, hwr156, hp156⟩ | ⟨hz156, hd156, rfl, hwr156, hp156⟩
      · exact absurd hwr1 hz156
      · refine x_st (st1 := [.int 0, .int 0, .ref (g.2 0 + 258 + 7)]) rfl ?_
        refine x_iast 0 33 C0 dX8_command_32 rfl MR_MW.r_td (by show g.2 0 ≤ _; omega) rfl (vp_in_nI (n := 0) (by omega) (by decide)) ?_
        refine x_w (w1 := (MW g w t156 v bf sv pa lb ip (upd td 0 0) sg)) (by rw [show (0 : Int32).toNatClampNeg = 0 from nI_clamp (n := 0) (by omega)]; exact MW_td) ?_
        refine x_iload_n 1 34 C0 dX8_command_33 rfl rfl rfl ?_
        refine x_iconst (v := 1) 35 C0 dX8_command_34 rfl (by decide) ?_
        refine x_icmp_eq 43 38 C0 dX8_command_35 rfl (by decide) (fun q => False.elim (by revert q; decide)) (fun _ => ?_)
        refine x_iload_n 1 39 C0 dX8_command_38 rfl rfl rfl ?_
        refine x_iconst (v := 2) 40 C0 dX8_command_39 rfl (by decide) ?_
        refine x_icmp_ne 60 43 C0 dX8_command_40 rfl (by decide) (fun _ => ?_) (fun q => False.elim (by revert q; decide))
        refine x_iload_n 1 61 C0 dX8_command_60 rfl rfl rfl ?_
        refine x_iconst (v := 1) 62 C0 dX8_command_61 rfl (by decide) ?_
        refine x_icmp_ne 112 65 C0 dX8_command_62 rfl (by decide) (fun _ => ?_) (fun q => False.elim (by revert q; decide))
        refine x_aload_n 0 113 C0 dX8_command_112 rfl rfl rfl ?_
        refine x_getf (v := .int (t156 11)) 19 116 C0 dX8_command_113 rfl MR_MW.o rfl (by decide) inX8 mF_X8_204 rfl ?_
        refine x_st (st1 := [.int 1]) (congrArg (fun z => Value.int z :: _) (hwr156)) ?_
        refine x_if_ne 126 119 C0 dX8_command_116 rfl (by decide) (fun _ => ?_) (fun q => False.elim (by revert q; decide))
        exact x_return C0 dX8_command_126 rfl (Nat.le_of_ble_eq_true rfl) (Nat.le_of_ble_eq_true rfl) (cm_no (cr_n0 (by omega) (by omega) hd156) hJ156 (tW.tr hW1 hW156) hp156 hwr156 rfl)
      · refine x_st (st1 := [.int (nI (vN n ip (c1 n ip h0))), .int 0, .ref (g.2 0 + 258 + 7)]) rfl ?_
        refine x_iast 0 33 C0 dX8_command_32 rfl MR_MW.r_td (by show g.2 0 ≤ _; omega) rfl (vp_in_nI (n := 0) (by omega) (by decide)) ?_
        refine x_w (w1 := (MW g w t156 v bf sv pa lb ip (upd td 0 (nI (vN n ip (c1 n ip h0)))) sg)) (by rw [show (0 : Int32).toNatClampNeg = 0 from nI_clamp (n := 0) (by omega)]; exact MW_td) ?_
        refine x_iload_n 1 34 C0 dX8_command_33 rfl rfl rfl ?_
        refine x_iconst (v := 1) 35 C0 dX8_command_34 rfl (by decide) ?_
        refine x_icmp_eq 43 38 C0 dX8_command_35 rfl (by decide) (fun q => False.elim (by revert q; decide)) (fun _ => ?_)
        refine x_iload_n 1 39 C0 dX8_command_38 rfl rfl rfl ?_
        refine x_iconst (v := 2) 40 C0 dX8_command_39 rfl (by decide) ?_
        refine x_icmp_ne 60 43 C0 dX8_command_40 rfl (by decide) (fun _ => ?_) (fun q => False.elim (by revert q; decide))
        refine x_iload_n 1 61 C0 dX8_command_60 rfl rfl rfl ?_
        refine x_iconst (v := 1) 62 C0 dX8_command_61 rfl (by decide) ?_
        refine x_icmp_ne 112 65 C0 dX8_command_62 rfl (by decide) (fun _ => ?_) (fun q => False.elim (by revert q; decide))
        refine x_aload_n 0 113 C0 dX8_command_112 rfl rfl rfl ?_
        refine x_getf (v := .int (t156 11)) 19 116 C0 dX8_command_113 rfl MR_MW.o rfl (by decide) inX8 mF_X8_204 rfl ?_
        refine x_st (st1 := [.int 0]) (congrArg (fun z => Value.int z :: _) (hwr156)) ?_
        refine x_if_ne 126 119 C0 dX8_command_116 rfl (by decide) (fun q => False.elim (by revert q; decide)) (fun _ => ?_)
        refine x_aload_n 0 120 C0 dX8_command_119 rfl rfl rfl ?_
        refine x_getf (v := .int (t156 12)) 20 123 C0 dX8_command_120 rfl MR_MW.o rfl (by decide) inX8 mF_X8_217 rfl ?_
        refine x_st (st1 := [.int 0]) (congrArg (fun z => Value.int z :: _) (((tW.tr hW1 hW156) 12 (by decide) (by decide)).trans hdo)) ?_
        refine x_if_ne 127 126 C0 dX8_command_123 rfl (by decide) (fun q => False.elim (by revert q; decide)) (fun _ => ?_)
        exact x_return C0 dX8_command_126 rfl (Nat.le_of_ble_eq_true rfl) (Nat.le_of_ble_eq_true rfl) (cm_y0 (cr_n1 (by omega) (by omega) (by omega) (by omega) hd156) hJ156 (tW.tr hW1 hW156) hp156 hwr156 rfl)
  · have hW9 : cW n ip h0 = 8 := hf1
    refine x_st (st1 := [.int 0]) rfl ?_
    refine x_istore_n [(1, .int 0), (0, .ref (g.2 0 + 258))] 8 C0 dX8_command_7 rfl rfl (by decide) rfl ?_
    refine x_lv (lv1 := [(0, .ref (g.2 0 + 258)), (1, .int 0)]) [1, 0] rfl ?_
    refine x_aload_n 0 9 C0 dX8_command_8 rfl rfl rfl ?_
    refine x_getf (v := .int (t1 11)) 19 12 C0 dX8_command_9 rfl MR_MW.o rfl (by decide) inX8 mF_X8_204 rfl ?_
    refine x_st (st1 := [.int 1]) (congrArg (fun z => Value.int z :: _) (hwr1)) ?_
    refine x_if_eq 16 15 C0 dX8_command_12 rfl (by decide) (fun q => False.elim (by revert q; decide)) (fun _ => ?_)
    exact x_return C0 dX8_command_15 rfl (Nat.le_of_ble_eq_true rfl) (Nat.le_of_ble_eq_true rfl) (cm_no (cr_0 hW9) hJ1 hW1 hp1 hwr1 rfl)

set_option maxHeartbeats 4000000 in
set_option maxRecDepth 100000 in
theorem e_X8_command1 (l : Launch) (hl : l.stackTraces = false) (g : xg_T) (w : xw_T) (sz n : Nat) (t v bf sv pa lb ip td sg : Nat → Int32) (hM : MR g w t v bf sv pa lb ip td sg) (hJ : MJ n t v bf sv pa sg) (h0 : Nat) (hh0 : h0 ≤ 60) (ht0 : t 10 = nI h0) (hdo : t 12 = 1) : xM l g yX8_command cX8_command 3 none ({ frames := 5, cells := 0, slots := 0, locals := 113 }) 0 0 [.ref (g.2 0 + 258)] w sz (mCm g w sz n t v bf sv pa lb ip sg h0 true) (fun _ _ _ => False) := by
  have hn60 := hJ.2.2.2.2.2.2.1
  obtain ⟨k1, k2, k3, k4, k5, k6, k7, k8⟩ := cs_lt n ip hh0
  refine xM.of RX8 hl (by decide +kernel) rfl (Nat.le_of_ble_eq_true rfl) rfl ?_
  intro p e s m args below meth cD C0 hini
  refine x_aload_n 0 1 C0 dX8_command_0 rfl rfl rfl ?_
  refine x_iconst (v := 0) 2 C0 dX8_command_1 rfl (by decide) ?_
  refine x_bipush (v := 7) 4 C0 dX8_command_2 rfl (by decide) ?_
  refine x_st (st1 := [.int (nI 7), .int (nI 0), .ref (g.2 0 + 258)]) rfl ?_
  refine x_callV 7 C0 (e_X8_word l hl g _ _ n t v bf sv pa lb ip td sg hM hJ h0 (mj_h hJ ht0 (by omega)) ht0 0 8 7 (by decide) rfl) dX8_command_4 rfl mC_X8_word mM_X8_208 mI_X8_word mV_X8_word mN_X8 yd_X8_word rfl rfl ⟨Nat.le_of_ble_eq_true rfl, Nat.le_of_ble_eq_true rfl⟩ hM.o rfl rfl rfl rfl (Nat.le_of_ble_eq_true rfl) ⟨Nat.le_of_ble_eq_true rfl, Nat.le_of_ble_eq_true rfl⟩ (fun _ _ _ q => False.elim q) (fun r w1 sz1 hz hP => ?_)
  obtain ⟨rfl, t1, rfl, hJ1, hW1, hR1⟩ := hP
  obtain ⟨hp1, ⟨k1, hk1, hf1, rfl, hwr1⟩ | ⟨hf1, rfl, hwr1⟩⟩ := hR1
  · rcases (show k1 = 0 ∨ k1 = 1 ∨ k1 = 2 ∨ k1 = 3 ∨ k1 = 4 ∨ k1 = 5 ∨ k1 = 6 ∨ k1 = 7 by omega) with rfl | rfl | rfl | rfl | rfl | rfl | rfl | rfl
    · have hW9 : cW n ip h0 = 0 := hf1
      refine x_st (st1 := [.int 0]) rfl ?_
      refine x_istore_n [(1, .int 0), (0, .ref (g.2 0 + 258))] 8 C0 dX8_command_7 rfl rfl (by decide) rfl ?_
      refine x_lv (lv1 := [(0, .ref (g.2 0 + 258)), (1, .int 0)]) [1, 0] rfl ?_
      refine x_aload_n 0 9 C0 dX8_command_8 rfl rfl rfl ?_
      refine x_getf (v := .int (t1 11)) 19 12 C0 dX8_command_9 rfl MR_MW.o rfl (by decide) inX8 mF_X8_204 rfl ?_
      refine x_st (st1 := [.int 0]) (congrArg (fun z => Value.int z :: _) (hwr1)) ?_
      refine x_if_eq 16 15 C0 dX8_command_12 rfl (by decide) (fun _ => ?_) (fun q => False.elim (by revert q; decide))
      refine x_iload_n 1 17 C0 dX8_command_16 rfl rfl rfl ?_
      refine x_bipush (v := 6) 19 C0 dX8_command_17 rfl (by decide) ?_
      refine x_icmp_eq 33 22 C0 dX8_command_19 rfl (by decide) (fun q => False.elim (by revert q; decide)) (fun _ => ?_)
      refine x_aload_n 0 23 C0 dX8_command_22 rfl rfl rfl ?_
      refine x_getf (v := .ref (g.2 0 + 258 + 7)) 15 26 C0 dX8_command_23 rfl MR_MW.o rfl (by decide) inX8 mF_X8_28 rfl ?_
      refine x_iconst (v := 0) 27 C0 dX8_command_26 rfl (by decide) ?_
      refine x_aload_n 0 28 C0 dX8_command_27 rfl rfl rfl ?_
      refine x_iconst (v := 2) 29 C0 dX8_command_28 rfl (by decide) ?_
      refine x_callV 32 C0 (e_X8_number2 l hl g _ _ n t1 v bf sv pa lb ip td sg MR_MW hJ1 (c1 n ip h0) (mj_h hJ1 hp1 (by omega)) hp1) dX8_command_29 rfl mC_X8_number mM_X8_211 mI_X8_number mV_X8_number mN_X8 yd_X8_number rfl rfl ⟨Nat.le_of_ble_eq_true rfl, Nat.le_of_ble_eq_true rfl⟩ MR_MW.o rfl rfl rfl rfl (Nat.le_of_ble_eq_true rfl) ⟨Nat.le_of_ble_eq_true rfl, Nat.le_of_ble_eq_true rfl⟩ (fun _ _ _ q => False.elim q) (fun r w1 sz1 hz hP => ?_)
      obtain ⟨rfl, t4, rfl, hJ4, hW4, hR4⟩ := hP
      refine x_w MW_MW ?_
      rcases hR4 with ⟨hz4, rfl, ht4⟩ | ⟨hz4, hd4, rfl, hwr4, hp4⟩ | ⟨hz4, hd4, rfl, hwr4, hp4⟩
      · exact absurd hwr1 hz4
      · refine x_st (st1 := [.int 0, .int 0, .ref (g.2 0 + 258 + 7)]) rfl ?_
        refine x_iast 0 33 C0 dX8_command_32 rfl MR_MW.r_td (by show g.2 0 ≤ _; omega) rfl (vp_in_nI (n := 0) (by omega) (by decide)) ?_
        refine x_w (w1 := (MW g w t4 v bf sv pa lb ip (upd td 0 0) sg)) (by rw [show (0 : Int32).toNatClampNeg = 0 from nI_clamp (n := 0) (by omega)]; exact MW_td) ?_
        refine x_iload_n 1 34 C0 dX8_command_33 rfl rfl rfl ?_
        refine x_iconst (v := 1) 35 C0 dX8_command_34 rfl (by decide) ?_
        refine x_icmp_eq 43 38 C0 dX8_command_35 rfl (by decide) (fun q => False.elim (by revert q; decide)) (fun _ => ?_)
        refine x_iload_n 1 39 C0 dX8_command_38 rfl rfl rfl ?_
        refine x_iconst (v := 2) 40 C0 dX8_command_39 rfl (by decide) ?_
        refine x_icmp_ne 60 43 C0 dX8_command_40 rfl (by decide) (fun _ => ?_) (fun q => False.elim (by revert q; decide))
        refine x_iload_n 1 61 C0 dX8_command_60 rfl rfl rfl ?_
        refine x_iconst (v := 1) 62 C0 dX8_command_61 rfl (by decide) ?_
        refine x_icmp_ne 112 65 C0 dX8_command_62 rfl (by decide) (fun _ => ?_) (fun q => False.elim (by revert q; decide))
        refine x_aload_n 0 113 C0 dX8_command_112 rfl rfl rfl ?_
        refine x_getf (v := .int (t4 11)) 19 116 C0 dX8_command_113 rfl MR_MW.o rfl (by decide) inX8 mF_X8_204 rfl ?_
        refine x_st (st1 := [.int 1]) (congrArg (fun z => Value.int z :: _) (hwr4)) ?_
        refine x_if_ne 126 119 C0 dX8_command_116 rfl (by decide) (fun _ => ?_) (fun q => False.elim (by revert q; decide))
        exact x_return C0 dX8_command_126 rfl (Nat.le_of_ble_eq_true rfl) (Nat.le_of_ble_eq_true rfl) (cm_no (cr_n0 (by omega) (by omega) hd4) hJ4 (tW.tr hW1 hW4) hp4 hwr4 rfl)
      · refine x_st (st1 := [.int (nI (vN n ip (c1 n ip h0))), .int 0, .ref (g.2 0 + 258 + 7)]) rfl ?_
        refine x_iast 0 33 C0 dX8_command_32 rfl MR_MW.r_td (by show g.2 0 ≤ _; omega) rfl (vp_in_nI (n := 0) (by omega) (by decide)) ?_
        refine x_w (w1 := (MW g w t4 v bf sv pa lb ip (upd td 0 (nI (vN n ip (c1 n ip h0)))) sg)) (by rw [show (0 : Int32).toNatClampNeg = 0 from nI_clamp (n := 0) (by omega)]; exact MW_td) ?_
        refine x_iload_n 1 34 C0 dX8_command_33 rfl rfl rfl ?_
        refine x_iconst (v := 1) 35 C0 dX8_command_34 rfl (by decide) ?_
        refine x_icmp_eq 43 38 C0 dX8_command_35 rfl (by decide) (fun q => False.elim (by revert q; decide)) (fun _ => ?_)
        refine x_iload_n 1 39 C0 dX8_command_38 rfl rfl rfl ?_
        refine x_iconst (v := 2) 40 C0 dX8_command_39 rfl (by decide) ?_
        refine x_icmp_ne 60 43 C0 dX8_command_40 rfl (by decide) (fun _ => ?_) (fun q => False.elim (by revert q; decide))
        refine x_iload_n 1 61 C0 dX8_command_60 rfl rfl rfl ?_
        refine x_iconst (v := 1) 62 C0 dX8_command_61 rfl (by decide) ?_
        refine x_icmp_ne 112 65 C0 dX8_command_62 rfl (by decide) (fun _ => ?_) (fun q => False.elim (by revert q; decide))
        refine x_aload_n 0 113 C0 dX8_command_112 rfl rfl rfl ?_
        refine x_getf (v := .int (t4 11)) 19 116 C0 dX8_command_113 rfl MR_MW.o rfl (by decide) inX8 mF_X8_204 rfl ?_
        refine x_st (st1 := [.int 0]) (congrArg (fun z => Value.int z :: _) (hwr4)) ?_
        refine x_if_ne 126 119 C0 dX8_command_116 rfl (by decide) (fun q => False.elim (by revert q; decide)) (fun _ => ?_)
        refine x_aload_n 0 120 C0 dX8_command_119 rfl rfl rfl ?_
        refine x_getf (v := .int (t4 12)) 20 123 C0 dX8_command_120 rfl MR_MW.o rfl (by decide) inX8 mF_X8_217 rfl ?_
        refine x_st (st1 := [.int 1]) (congrArg (fun z => Value.int z :: _) (((tW.tr hW1 hW4) 12 (by decide) (by decide)).trans hdo)) ?_
        refine x_if_ne 127 126 C0 dX8_command_123 rfl (by decide) (fun _ => ?_) (fun q => False.elim (by revert q; decide))
        refine x_aload_n 0 128 C0 dX8_command_127 rfl rfl rfl ?_
        refine x_iload_n 1 129 C0 dX8_command_128 rfl rfl rfl ?_
        refine x_callV 132 C0 (e_X8_does0 l hl g _ _ n t4 v bf sv pa lb ip (upd td 0 (nI (vN n ip (c1 n ip h0)))) sg MR_MW hJ4) dX8_command_129 rfl mC_X8_does mM_X8_220 mI_X8_does mV_X8_does mN_X8 yd_X8_does rfl rfl ⟨Nat.le_of_ble_eq_true rfl, Nat.le_of_ble_eq_true rfl⟩ MR_MW.o rfl rfl rfl rfl (Nat.le_of_ble_eq_true rfl) ⟨Nat.le_of_ble_eq_true rfl, Nat.le_of_ble_eq_true rfl⟩ (fun _ _ _ q => False.elim q) (fun r w1 sz1 hz hP => ?_)
        obtain ⟨rfl, t16, v16, lb16, rfl, hJ16, ⟨⟨a16, rfl⟩, he16⟩, hX16⟩ := hP
        refine x_w MW_MW ?_
        refine x_st (st1 := [.int a16]) rfl ?_
        refine x_istore_n [(2, .int a16), (0, .ref (g.2 0 + 258)), (1, .int 0)] 133 C0 dX8_command_132 rfl rfl (by decide) rfl ?_
        refine x_lv (lv1 := [(0, .ref (g.2 0 + 258)), (1, .int 0), (2, .int a16)]) [1, 2, 0] rfl ?_
        exact x_return C0 dX8_command_133 rfl (Nat.le_of_ble_eq_true rfl) (Nat.le_of_ble_eq_true rfl) (cm_y1 (cr_n1 (by omega) (by omega) (by omega) (by omega) hd4) hJ4 (tW.tr hW1 hW4) hp4 hwr4 ⟨_, _, _, _, rfl, hJ16, he16, Or.inl ⟨hW9, by rw [nmA_e (n := n) (ip := ip) (h := h0) (by omega)]; exact hX16⟩⟩)
    · have hW9 : cW n ip h0 = 1 := hf1
      refine x_st (st1 := [.int 1]) rfl ?_
      refine x_istore_n [(1, .int 1), (0, .ref (g.2 0 + 258))] 8 C0 dX8_command_7 rfl rfl (by decide) rfl ?_
      refine x_lv (lv1 := [(0, .ref (g.2 0 + 258)), (1, .int 1)]) [1, 0] rfl ?_
      refine x_aload_n 0 9 C0 dX8_command_8 rfl rfl rfl ?_
      refine x_getf (v := .int (t1 11)) 19 12 C0 dX8_command_9 rfl MR_MW.o rfl (by decide) inX8 mF_X8_204 rfl ?_
      refine x_st (st1 := [.int 0]) (congrArg (fun z => Value.int z :: _) (hwr1)) ?_
      refine x_if_eq 16 15 C0 dX8_command_12 rfl (by decide) (fun _ => ?_) (fun q => False.elim (by revert q; decide))
      refine x_iload_n 1 17 C0 dX8_command_16 rfl rfl rfl ?_
      refine x_bipush (v := 6) 19 C0 dX8_command_17 rfl (by decide) ?_
      refine x_icmp_eq 33 22 C0 dX8_command_19 rfl (by decide) (fun q => False.elim (by revert q; decide)) (fun _ => ?_)
      refine x_aload_n 0 23 C0 dX8_command_22 rfl rfl rfl ?_
      refine x_getf (v := .ref (g.2 0 + 258 + 7)) 15 26 C0 dX8_command_23 rfl MR_MW.o rfl (by decide) inX8 mF_X8_28 rfl ?_
      refine x_iconst (v := 0) 27 C0 dX8_command_26 rfl (by decide) ?_
      refine x_aload_n 0 28 C0 dX8_command_27 rfl rfl rfl ?_
      refine x_iconst (v := 2) 29 C0 dX8_command_28 rfl (by decide) ?_
      refine x_callV 32 C0 (e_X8_number2 l hl g _ _ n t1 v bf sv pa lb ip td sg MR_MW hJ1 (c1 n ip h0) (mj_h hJ1 hp1 (by omega)) hp1) dX8_command_29 rfl mC_X8_number mM_X8_211 mI_X8_number mV_X8_number mN_X8 yd_X8_number rfl rfl ⟨Nat.le_of_ble_eq_true rfl, Nat.le_of_ble_eq_true rfl⟩ MR_MW.o rfl rfl rfl rfl (Nat.le_of_ble_eq_true rfl) ⟨Nat.le_of_ble_eq_true rfl, Nat.le_of_ble_eq_true rfl⟩ (fun _ _ _ q => False.elim q) (fun r w1 sz1 hz hP => ?_)
      obtain ⟨rfl, t19, rfl, hJ19, hW19, hR19⟩ := hP
      refine x_w MW_MW ?_
      rcases hR19 with ⟨hz19, rfl, ht19⟩ | ⟨hz19, hd19, rfl, hwr19, hp19⟩ | ⟨hz19, hd19, rfl, hwr19, hp19⟩
      · exact absurd hwr1 hz19
      · refine x_st (st1 := [.int 0, .int 0, .ref (g.2 0 + 258 + 7)]) rfl ?_
        refine x_iast 0 33 C0 dX8_command_32 rfl MR_MW.r_td (by show g.2 0 ≤ _; omega) rfl (vp_in_nI (n := 0) (by omega) (by decide)) ?_
        refine x_w (w1 := (MW g w t19 v bf sv pa lb ip (upd td 0 0) sg)) (by rw [show (0 : Int32).toNatClampNeg = 0 from nI_clamp (n := 0) (by omega)]; exact MW_td) ?_
        refine x_iload_n 1 34 C0 dX8_command_33 rfl rfl rfl ?_
        refine x_iconst (v := 1) 35 C0 dX8_command_34 rfl (by decide) ?_
        refine x_icmp_eq 43 38 C0 dX8_command_35 rfl (by decide) (fun _ => ?_) (fun q => False.elim (by revert q; decide))
        refine x_aload_n 0 44 C0 dX8_command_43 rfl rfl rfl ?_
        refine x_bipush (v := 32) 46 C0 dX8_command_44 rfl (by decide) ?_
        refine x_callV 49 C0 (e_X8_mark l hl g _ _ n t19 v bf sv pa lb ip (upd td 0 0) sg MR_MW hJ19 (c1 n ip h0) (mj_h hJ19 hp19 (by omega)) hp19 32 (by decide)) dX8_command_46 rfl mC_X8_mark mM_X8_214 mI_X8_mark mV_X8_mark mN_X8 yd_X8_mark rfl rfl ⟨Nat.le_of_ble_eq_true rfl, Nat.le_of_ble_eq_true rfl⟩ MR_MW.o rfl rfl rfl rfl (Nat.le_of_ble_eq_true rfl) ⟨Nat.le_of_ble_eq_true rfl, Nat.le_of_ble_eq_true rfl⟩ (fun _ _ _ q => False.elim q) (fun r w1 sz1 hz hP => ?_)
        obtain ⟨rfl, t22, rfl, hJ22, hW22, hR22⟩ := hP
        refine x_w MW_MW ?_
        rcases hR22 with ⟨hz22, rfl, ht22⟩ | ⟨hz22, hd22, rfl, hwr22, hp22⟩ | ⟨hz22, hd22, rfl, hwr22, hp22⟩
        · have hwr22 : t22 11 = 1 := by rw [ht22]; exact hwr19
          have hp22 : t22 10 = nI (c1 n ip h0) := by rw [ht22]; exact hp19
          refine x_st (st1 := []) rfl ?_
          refine x_aload_n 0 50 C0 dX8_command_49 rfl rfl rfl ?_
          refine x_getf (v := .ref (g.2 0 + 258 + 7)) 15 53 C0 dX8_command_50 rfl MR_MW.o rfl (by decide) inX8 mF_X8_28 rfl ?_
          refine x_iconst (v := 1) 54 C0 dX8_command_53 rfl (by decide) ?_
          refine x_aload_n 0 55 C0 dX8_command_54 rfl rfl rfl ?_
          refine x_iconst (v := 1) 56 C0 dX8_command_55 rfl (by decide) ?_
          refine x_callV 59 C0 (e_X8_number1 l hl g _ _ n t22 v bf sv pa lb ip (upd td 0 0) sg MR_MW hJ22 (c1 n ip h0) (mj_h hJ22 hp22 (by omega)) hp22) dX8_command_56 rfl mC_X8_number mM_X8_211 mI_X8_number mV_X8_number mN_X8 yd_X8_number rfl rfl ⟨Nat.le_of_ble_eq_true rfl, Nat.le_of_ble_eq_true rfl⟩ MR_MW.o rfl rfl rfl rfl (Nat.le_of_ble_eq_true rfl) ⟨Nat.le_of_ble_eq_true rfl, Nat.le_of_ble_eq_true rfl⟩ (fun _ _ _ q => False.elim q) (fun r w1 sz1 hz hP => ?_)
          obtain ⟨rfl, t23, rfl, hJ23, hW23, hR23⟩ := hP
          refine x_w MW_MW ?_
          rcases hR23 with ⟨hz23, rfl, ht23⟩ | ⟨hz23, hd23, rfl, hwr23, hp23⟩ | ⟨hz23, hd23, rfl, hwr23, hp23⟩
          · have hwr23 : t23 11 = 1 := by rw [ht23]; exact hwr22
            have hp23 : t23 10 = nI (c1 n ip h0) := by rw [ht23]; exact hp22
            refine x_st (st1 := [.int 0, .int 1, .ref (g.2 0 + 258 + 7)]) rfl ?_
            refine x_iast 0 60 C0 dX8_command_59 rfl MR_MW.r_td (by show g.2 0 ≤ _; omega) rfl (vp_in_nI (n := 1) (by omega) (by decide)) ?_
            refine x_w (w1 := (MW g w t23 v bf sv pa lb ip (upd (upd td 0 0) 1 0) sg)) (by rw [show (1 : Int32).toNatClampNeg = 1 from nI_clamp (n := 1) (by omega)]; exact MW_td) ?_
            refine x_iload_n 1 61 C0 dX8_command_60 rfl rfl rfl ?_
            refine x_iconst (v := 1) 62 C0 dX8_command_61 rfl (by decide) ?_
            refine x_icmp_ne 112 65 C0 dX8_command_62 rfl (by decide) (fun q => False.elim (by revert q; decide)) (fun _ => ?_)
            refine x_aload_n 0 66 C0 dX8_command_65 rfl rfl rfl ?_
            refine x_bipush (v := 46) 68 C0 dX8_command_66 rfl (by decide) ?_
            refine x_callV 71 C0 (e_X8_mark l hl g _ _ n t23 v bf sv pa lb ip (upd (upd td 0 0) 1 0) sg MR_MW hJ23 (c1 n ip h0) (mj_h hJ23 hp23 (by omega)) hp23 46 (by decide)) dX8_command_68 rfl mC_X8_mark mM_X8_214 mI_X8_mark mV_X8_mark mN_X8 yd_X8_mark rfl rfl ⟨Nat.le_of_ble_eq_true rfl, Nat.le_of_ble_eq_true rfl⟩ MR_MW.o rfl rfl rfl rfl (Nat.le_of_ble_eq_true rfl) ⟨Nat.le_of_ble_eq_true rfl, Nat.le_of_ble_eq_true rfl⟩ (fun _ _ _ q => False.elim q) (fun r w1 sz1 hz hP => ?_)
            obtain ⟨rfl, t26, rfl, hJ26, hW26, hR26⟩ := hP
            refine x_w MW_MW ?_
            rcases hR26 with ⟨hz26, rfl, ht26⟩ | ⟨hz26, hd26, rfl, hwr26, hp26⟩ | ⟨hz26, hd26, rfl, hwr26, hp26⟩
            · have hwr26 : t26 11 = 1 := by rw [ht26]; exact hwr23
              have hp26 : t26 10 = nI (c1 n ip h0) := by rw [ht26]; exact hp23
              refine x_st (st1 := []) rfl ?_
              refine x_aload_n 0 72 C0 dX8_command_71 rfl rfl rfl ?_
              refine x_getf (v := .int (t26 11)) 19 75 C0 dX8_command_72 rfl MR_MW.o rfl (by decide) inX8 mF_X8_204 rfl ?_
              refine x_st (st1 := [.int 1]) (congrArg (fun z => Value.int z :: _) (hwr26)) ?_
              refine x_if_ne 95 78 C0 dX8_command_75 rfl (by decide) (fun _ => ?_) (fun q => False.elim (by revert q; decide))
              refine x_aload_n 0 96 C0 dX8_command_95 rfl rfl rfl ?_
              refine x_bipush (v := 32) 98 C0 dX8_command_96 rfl (by decide) ?_
              refine x_callV 101 C0 (e_X8_mark l hl g _ _ n t26 v bf sv pa lb ip (upd (upd td 0 0) 1 0) sg MR_MW hJ26 (c1 n ip h0) (mj_h hJ26 hp26 (by omega)) hp26 32 (by decide)) dX8_command_98 rfl mC_X8_mark mM_X8_214 mI_X8_mark mV_X8_mark mN_X8 yd_X8_mark rfl rfl ⟨Nat.le_of_ble_eq_true rfl, Nat.le_of_ble_eq_true rfl⟩ MR_MW.o rfl rfl rfl rfl (Nat.le_of_ble_eq_true rfl) ⟨Nat.le_of_ble_eq_true rfl, Nat.le_of_ble_eq_true rfl⟩ (fun _ _ _ q => False.elim q) (fun r w1 sz1 hz hP => ?_)
              obtain ⟨rfl, t28, rfl, hJ28, hW28, hR28⟩ := hP
              refine x_w MW_MW ?_
              rcases hR28 with ⟨hz28, rfl, ht28⟩ | ⟨hz28, hd28, rfl, hwr28, hp28⟩ | ⟨hz28, hd28, rfl, hwr28, hp28⟩
              · have hwr28 : t28 11 = 1 := by rw [ht28]; exact hwr26
                have hp28 : t28 10 = nI (c1 n ip h0) := by rw [ht28]; exact hp26
                refine x_st (st1 := []) rfl ?_
                refine x_aload_n 0 102 C0 dX8_command_101 rfl rfl rfl ?_
                refine x_getf (v := .ref (g.2 0 + 258 + 7)) 15 105 C0 dX8_command_102 rfl MR_MW.o rfl (by decide) inX8 mF_X8_28 rfl ?_
                refine x_iconst (v := 3) 106 C0 dX8_command_105 rfl (by decide) ?_
                refine x_aload_n 0 107 C0 dX8_command_106 rfl rfl rfl ?_
                refine x_iconst (v := 2) 108 C0 dX8_command_107 rfl (by decide) ?_
                refine x_callV 111 C0 (e_X8_number2 l hl g _ _ n t28 v bf sv pa lb ip (upd (upd td 0 0) 1 0) sg MR_MW hJ28 (c1 n ip h0) (mj_h hJ28 hp28 (by omega)) hp28) dX8_command_108 rfl mC_X8_number mM_X8_211 mI_X8_number mV_X8_number mN_X8 yd_X8_number rfl rfl ⟨Nat.le_of_ble_eq_true rfl, Nat.le_of_ble_eq_true rfl⟩ MR_MW.o rfl rfl rfl rfl (Nat.le_of_ble_eq_true rfl) ⟨Nat.le_of_ble_eq_true rfl, Nat.le_of_ble_eq_true rfl⟩ (fun _ _ _ q => False.elim q) (fun r w1 sz1 hz hP => ?_)
                obtain ⟨rfl, t29, rfl, hJ29, hW29, hR29⟩ := hP
                refine x_w MW_MW ?_
                rcases hR29 with ⟨hz29, rfl, ht29⟩ | ⟨hz29, hd29, rfl, hwr29, hp29⟩ | ⟨hz29, hd29, rfl, hwr29, hp29⟩
                · have hwr29 : t29 11 = 1 := by rw [ht29]; exact hwr28
                  have hp29 : t29 10 = nI (c1 n ip h0) := by rw [ht29]; exact hp28
                  refine x_st (st1 := [.int 0, .int 3, .ref (g.2 0 + 258 + 7)]) rfl ?_
                  refine x_iast 0 112 C0 dX8_command_111 rfl MR_MW.r_td (by show g.2 0 ≤ _; omega) rfl (vp_in_nI (n := 3) (by omega) (by decide)) ?_
                  refine x_w (w1 := (MW g w t29 v bf sv pa lb ip (upd (upd (upd td 0 0) 1 0) 3 0) sg)) (by rw [show (3 : Int32).toNatClampNeg = 3 from nI_clamp (n := 3) (by omega)]; exact MW_td) ?_
                  refine x_aload_n 0 113 C0 dX8_command_112 rfl rfl rfl ?_
                  refine x_getf (v := .int (t29 11)) 19 116 C0 dX8_command_113 rfl MR_MW.o rfl (by decide) inX8 mF_X8_204 rfl ?_
                  refine x_st (st1 := [.int 1]) (congrArg (fun z => Value.int z :: _) (hwr29)) ?_
                  refine x_if_ne 126 119 C0 dX8_command_116 rfl (by decide) (fun _ => ?_) (fun q => False.elim (by revert q; decide))
                  exact x_return C0 dX8_command_126 rfl (Nat.le_of_ble_eq_true rfl) (Nat.le_of_ble_eq_true rfl) (cm_no (cr_n0 (by omega) (by omega) hd19) hJ29 (tW.tr (tW.tr (tW.tr (tW.tr (tW.tr (tW.tr hW1 hW19) hW22) hW23) hW26) hW28) hW29) hp29 hwr29 rfl)
                · exact absurd (hwr28.symm.trans hz29) (by decide)
                · exact absurd (hwr28.symm.trans hz29) (by decide)
              · exact absurd (hwr26.symm.trans hz28) (by decide)
              · exact absurd (hwr26.symm.trans hz28) (by decide)
            · exact absurd (hwr23.symm.trans hz26) (by decide)
            · exact absurd (hwr23.symm.trans hz26) (by decide)
          · exact absurd (hwr22.symm.trans hz23) (by decide)
          · exact absurd (hwr22.symm.trans hz23) (by decide)
        · exact absurd (hwr19.symm.trans hz22) (by decide)
        · exact absurd (hwr19.symm.trans hz22) (by decide)
      · refine x_st (st1 := [.int (nI (vN n ip (c1 n ip h0))), .int 0, .ref (g.2 0 + 258 + 7)]) rfl ?_
        refine x_iast 0 33 C0 dX8_command_32 rfl MR_MW.r_td (by show g.2 0 ≤ _; omega) rfl (vp_in_nI (n := 0) (by omega) (by decide)) ?_
        refine x_w (w1 := (MW g w t19 v bf sv pa lb ip (upd td 0 (nI (vN n ip (c1 n ip h0)))) sg)) (by rw [show (0 : Int32).toNatClampNeg = 0 from nI_clamp (n := 0) (by omega)]; exact MW_td) ?_
        refine x_iload_n 1 34 C0 dX8_command_33 rfl rfl rfl ?_
        refine x_iconst (v := 1) 35 C0 dX8_command_34 rfl (by decide) ?_
        refine x_icmp_eq 43 38 C0 dX8_command_35 rfl (by decide) (fun _ => ?_) (fun q => False.elim (by revert q; decide))
        refine x_aload_n 0 44 C0 dX8_command_43 rfl rfl rfl ?_
        refine x_bipush (v := 32) 46 C0 dX8_command_44 rfl (by decide) ?_
        refine x_callV 49 C0 (e_X8_mark l hl g _ _ n t19 v bf sv pa lb ip (upd td 0 (nI (vN n ip (c1 n ip h0)))) sg MR_MW hJ19 (c2 n ip h0) (mj_h hJ19 hp19 (by omega)) hp19 32 (by decide)) dX8_command_46 rfl mC_X8_mark mM_X8_214 mI_X8_mark mV_X8_mark mN_X8 yd_X8_mark rfl rfl ⟨Nat.le_of_ble_eq_true rfl, Nat.le_of_ble_eq_true rfl⟩ MR_MW.o rfl rfl rfl rfl (Nat.le_of_ble_eq_true rfl) ⟨Nat.le_of_ble_eq_true rfl, Nat.le_of_ble_eq_true rfl⟩ (fun _ _ _ q => False.elim q) (fun r w1 sz1 hz hP => ?_)
        obtain ⟨rfl, t34, rfl, hJ34, hW34, hR34⟩ := hP
        refine x_w MW_MW ?_
        rcases hR34 with ⟨hz34, rfl, ht34⟩ | ⟨hz34, hd34, rfl, hwr34, hp34⟩ | ⟨hz34, hd34, rfl, hwr34, hp34⟩
        · exact absurd hwr19 hz34
        · refine x_st (st1 := []) rfl ?_
          refine x_aload_n 0 50 C0 dX8_command_49 rfl rfl rfl ?_
          refine x_getf (v := .ref (g.2 0 + 258 + 7)) 15 53 C0 dX8_command_50 rfl MR_MW.o rfl (by decide) inX8 mF_X8_28 rfl ?_
          refine x_iconst (v := 1) 54 C0 dX8_command_53 rfl (by decide) ?_
          refine x_aload_n 0 55 C0 dX8_command_54 rfl rfl rfl ?_
          refine x_iconst (v := 1) 56 C0 dX8_command_55 rfl (by decide) ?_
          refine x_callV 59 C0 (e_X8_number1 l hl g _ _ n t34 v bf sv pa lb ip (upd td 0 (nI (vN n ip (c1 n ip h0)))) sg MR_MW hJ34 (c2 n ip h0) (mj_h hJ34 hp34 (by omega)) hp34) dX8_command_56 rfl mC_X8_number mM_X8_211 mI_X8_number mV_X8_number mN_X8 yd_X8_number rfl rfl ⟨Nat.le_of_ble_eq_true rfl, Nat.le_of_ble_eq_true rfl⟩ MR_MW.o rfl rfl rfl rfl (Nat.le_of_ble_eq_true rfl) ⟨Nat.le_of_ble_eq_true rfl, Nat.le_of_ble_eq_true rfl⟩ (fun _ _ _ q => False.elim q) (fun r w1 sz1 hz hP => ?_)
          obtain ⟨rfl, t35, rfl, hJ35, hW35, hR35⟩ := hP
          refine x_w MW_MW ?_
          rcases hR35 with ⟨hz35, rfl, ht35⟩ | ⟨hz35, hd35, rfl, hwr35, hp35⟩ | ⟨hz35, hd35, rfl, hwr35, hp35⟩
          · have hwr35 : t35 11 = 1 := by rw [ht35]; exact hwr34
            have hp35 : t35 10 = nI (c2 n ip h0) := by rw [ht35]; exact hp34
            refine x_st (st1 := [.int 0, .int 1, .ref (g.2 0 + 258 + 7)]) rfl ?_
            refine x_iast 0 60 C0 dX8_command_59 rfl MR_MW.r_td (by show g.2 0 ≤ _; omega) rfl (vp_in_nI (n := 1) (by omega) (by decide)) ?_
            refine x_w (w1 := (MW g w t35 v bf sv pa lb ip (upd (upd td 0 (nI (vN n ip (c1 n ip h0)))) 1 0) sg)) (by rw [show (1 : Int32).toNatClampNeg = 1 from nI_clamp (n := 1) (by omega)]; exact MW_td) ?_
            refine x_iload_n 1 61 C0 dX8_command_60 rfl rfl rfl ?_
            refine x_iconst (v := 1) 62 C0 dX8_command_61 rfl (by decide) ?_
            refine x_icmp_ne 112 65 C0 dX8_command_62 rfl (by decide) (fun q => False.elim (by revert q; decide)) (fun _ => ?_)
            refine x_aload_n 0 66 C0 dX8_command_65 rfl rfl rfl ?_
            refine x_bipush (v := 46) 68 C0 dX8_command_66 rfl (by decide) ?_
            refine x_callV 71 C0 (e_X8_mark l hl g _ _ n t35 v bf sv pa lb ip (upd (upd td 0 (nI (vN n ip (c1 n ip h0)))) 1 0) sg MR_MW hJ35 (c2 n ip h0) (mj_h hJ35 hp35 (by omega)) hp35 46 (by decide)) dX8_command_68 rfl mC_X8_mark mM_X8_214 mI_X8_mark mV_X8_mark mN_X8 yd_X8_mark rfl rfl ⟨Nat.le_of_ble_eq_true rfl, Nat.le_of_ble_eq_true rfl⟩ MR_MW.o rfl rfl rfl rfl (Nat.le_of_ble_eq_true rfl) ⟨Nat.le_of_ble_eq_true rfl, Nat.le_of_ble_eq_true rfl⟩ (fun _ _ _ q => False.elim q) (fun r w1 sz1 hz hP => ?_)
            obtain ⟨rfl, t38, rfl, hJ38, hW38, hR38⟩ := hP
            refine x_w MW_MW ?_
            rcases hR38 with ⟨hz38, rfl, ht38⟩ | ⟨hz38, hd38, rfl, hwr38, hp38⟩ | ⟨hz38, hd38, rfl, hwr38, hp38⟩
            · have hwr38 : t38 11 = 1 := by rw [ht38]; exact hwr35
              have hp38 : t38 10 = nI (c2 n ip h0) := by rw [ht38]; exact hp35
              refine x_st (st1 := []) rfl ?_
              refine x_aload_n 0 72 C0 dX8_command_71 rfl rfl rfl ?_
              refine x_getf (v := .int (t38 11)) 19 75 C0 dX8_command_72 rfl MR_MW.o rfl (by decide) inX8 mF_X8_204 rfl ?_
              refine x_st (st1 := [.int 1]) (congrArg (fun z => Value.int z :: _) (hwr38)) ?_
              refine x_if_ne 95 78 C0 dX8_command_75 rfl (by decide) (fun _ => ?_) (fun q => False.elim (by revert q; decide))
              refine x_aload_n 0 96 C0 dX8_command_95 rfl rfl rfl ?_
              refine x_bipush (v := 32) 98 C0 dX8_command_96 rfl (by decide) ?_
              refine x_callV 101 C0 (e_X8_mark l hl g _ _ n t38 v bf sv pa lb ip (upd (upd td 0 (nI (vN n ip (c1 n ip h0)))) 1 0) sg MR_MW hJ38 (c2 n ip h0) (mj_h hJ38 hp38 (by omega)) hp38 32 (by decide)) dX8_command_98 rfl mC_X8_mark mM_X8_214 mI_X8_mark mV_X8_mark mN_X8 yd_X8_mark rfl rfl ⟨Nat.le_of_ble_eq_true rfl, Nat.le_of_ble_eq_true rfl⟩ MR_MW.o rfl rfl rfl rfl (Nat.le_of_ble_eq_true rfl) ⟨Nat.le_of_ble_eq_true rfl, Nat.le_of_ble_eq_true rfl⟩ (fun _ _ _ q => False.elim q) (fun r w1 sz1 hz hP => ?_)
              obtain ⟨rfl, t40, rfl, hJ40, hW40, hR40⟩ := hP
              refine x_w MW_MW ?_
              rcases hR40 with ⟨hz40, rfl, ht40⟩ | ⟨hz40, hd40, rfl, hwr40, hp40⟩ | ⟨hz40, hd40, rfl, hwr40, hp40⟩
              · have hwr40 : t40 11 = 1 := by rw [ht40]; exact hwr38
                have hp40 : t40 10 = nI (c2 n ip h0) := by rw [ht40]; exact hp38
                refine x_st (st1 := []) rfl ?_
                refine x_aload_n 0 102 C0 dX8_command_101 rfl rfl rfl ?_
                refine x_getf (v := .ref (g.2 0 + 258 + 7)) 15 105 C0 dX8_command_102 rfl MR_MW.o rfl (by decide) inX8 mF_X8_28 rfl ?_
                refine x_iconst (v := 3) 106 C0 dX8_command_105 rfl (by decide) ?_
                refine x_aload_n 0 107 C0 dX8_command_106 rfl rfl rfl ?_
                refine x_iconst (v := 2) 108 C0 dX8_command_107 rfl (by decide) ?_
                refine x_callV 111 C0 (e_X8_number2 l hl g _ _ n t40 v bf sv pa lb ip (upd (upd td 0 (nI (vN n ip (c1 n ip h0)))) 1 0) sg MR_MW hJ40 (c2 n ip h0) (mj_h hJ40 hp40 (by omega)) hp40) dX8_command_108 rfl mC_X8_number mM_X8_211 mI_X8_number mV_X8_number mN_X8 yd_X8_number rfl rfl ⟨Nat.le_of_ble_eq_true rfl, Nat.le_of_ble_eq_true rfl⟩ MR_MW.o rfl rfl rfl rfl (Nat.le_of_ble_eq_true rfl) ⟨Nat.le_of_ble_eq_true rfl, Nat.le_of_ble_eq_true rfl⟩ (fun _ _ _ q => False.elim q) (fun r w1 sz1 hz hP => ?_)
                obtain ⟨rfl, t41, rfl, hJ41, hW41, hR41⟩ := hP
                refine x_w MW_MW ?_
                rcases hR41 with ⟨hz41, rfl, ht41⟩ | ⟨hz41, hd41, rfl, hwr41, hp41⟩ | ⟨hz41, hd41, rfl, hwr41, hp41⟩
                · have hwr41 : t41 11 = 1 := by rw [ht41]; exact hwr40
                  have hp41 : t41 10 = nI (c2 n ip h0) := by rw [ht41]; exact hp40
                  refine x_st (st1 := [.int 0, .int 3, .ref (g.2 0 + 258 + 7)]) rfl ?_
                  refine x_iast 0 112 C0 dX8_command_111 rfl MR_MW.r_td (by show g.2 0 ≤ _; omega) rfl (vp_in_nI (n := 3) (by omega) (by decide)) ?_
                  refine x_w (w1 := (MW g w t41 v bf sv pa lb ip (upd (upd (upd td 0 (nI (vN n ip (c1 n ip h0)))) 1 0) 3 0) sg)) (by rw [show (3 : Int32).toNatClampNeg = 3 from nI_clamp (n := 3) (by omega)]; exact MW_td) ?_
                  refine x_aload_n 0 113 C0 dX8_command_112 rfl rfl rfl ?_
                  refine x_getf (v := .int (t41 11)) 19 116 C0 dX8_command_113 rfl MR_MW.o rfl (by decide) inX8 mF_X8_204 rfl ?_
                  refine x_st (st1 := [.int 1]) (congrArg (fun z => Value.int z :: _) (hwr41)) ?_
                  refine x_if_ne 126 119 C0 dX8_command_116 rfl (by decide) (fun _ => ?_) (fun q => False.elim (by revert q; decide))
                  exact x_return C0 dX8_command_126 rfl (Nat.le_of_ble_eq_true rfl) (Nat.le_of_ble_eq_true rfl) (cm_no (cr_b0 (Or.inl hW9) hd19 hd34) hJ41 (tW.tr (tW.tr (tW.tr (tW.tr (tW.tr (tW.tr hW1 hW19) hW34) hW35) hW38) hW40) hW41) hp41 hwr41 rfl)
                · exact absurd (hwr40.symm.trans hz41) (by decide)
                · exact absurd (hwr40.symm.trans hz41) (by decide)
              · exact absurd (hwr38.symm.trans hz40) (by decide)
              · exact absurd (hwr38.symm.trans hz40) (by decide)
            · exact absurd (hwr35.symm.trans hz38) (by decide)
            · exact absurd (hwr35.symm.trans hz38) (by decide)
          · exact absurd (hwr34.symm.trans hz35) (by decide)
          · exact absurd (hwr34.symm.trans hz35) (by decide)
        · refine x_st (st1 := []) rfl ?_
          refine x_aload_n 0 50 C0 dX8_command_49 rfl rfl rfl ?_
          refine x_getf (v := .ref (g.2 0 + 258 + 7)) 15 53 C0 dX8_command_50 rfl MR_MW.o rfl (by decide) inX8 mF_X8_28 rfl ?_
          refine x_iconst (v := 1) 54 C0 dX8_command_53 rfl (by decide) ?_
          refine x_aload_n 0 55 C0 dX8_command_54 rfl rfl rfl ?_
          refine x_iconst (v := 1) 56 C0 dX8_command_55 rfl (by decide) ?_
          refine x_callV 59 C0 (e_X8_number1 l hl g _ _ n t34 v bf sv pa lb ip (upd td 0 (nI (vN n ip (c1 n ip h0)))) sg MR_MW hJ34 (c3 n ip h0) (mj_h hJ34 hp34 (by omega)) hp34) dX8_command_56 rfl mC_X8_number mM_X8_211 mI_X8_number mV_X8_number mN_X8 yd_X8_number rfl rfl ⟨Nat.le_of_ble_eq_true rfl, Nat.le_of_ble_eq_true rfl⟩ MR_MW.o rfl rfl rfl rfl (Nat.le_of_ble_eq_true rfl) ⟨Nat.le_of_ble_eq_true rfl, Nat.le_of_ble_eq_true rfl⟩ (fun _ _ _ q => False.elim q) (fun r w1 sz1 hz hP => ?_)
          obtain ⟨rfl, t44, rfl, hJ44, hW44, hR44⟩ := hP
          refine x_w MW_MW ?_
          rcases hR44 with ⟨hz44, rfl, ht44⟩ | ⟨hz44, hd44, rfl, hwr44, hp44⟩ | ⟨hz44, hd44, rfl, hwr44, hp44⟩
          · exact absurd hwr34 hz44
          · refine x_st (st1 := [.int 0, .int 1, .ref (g.2 0 + 258 + 7)]) rfl ?_
            refine x_iast 0 60 C0 dX8_command_59 rfl MR_MW.r_td (by show g.2 0 ≤ _; omega) rfl (vp_in_nI (n := 1) (by omega) (by decide)) ?_
            refine x_w (w1 := (MW g w t44 v bf sv pa lb ip (upd (upd td 0 (nI (vN n ip (c1 n ip h0)))) 1 0) sg)) (by rw [show (1 : Int32).toNatClampNeg = 1 from nI_clamp (n := 1) (by omega)]; exact MW_td) ?_
            refine x_iload_n 1 61 C0 dX8_command_60 rfl rfl rfl ?_
            refine x_iconst (v := 1) 62 C0 dX8_command_61 rfl (by decide) ?_
            refine x_icmp_ne 112 65 C0 dX8_command_62 rfl (by decide) (fun q => False.elim (by revert q; decide)) (fun _ => ?_)
            refine x_aload_n 0 66 C0 dX8_command_65 rfl rfl rfl ?_
            refine x_bipush (v := 46) 68 C0 dX8_command_66 rfl (by decide) ?_
            refine x_callV 71 C0 (e_X8_mark l hl g _ _ n t44 v bf sv pa lb ip (upd (upd td 0 (nI (vN n ip (c1 n ip h0)))) 1 0) sg MR_MW hJ44 (c3 n ip h0) (mj_h hJ44 hp44 (by omega)) hp44 46 (by decide)) dX8_command_68 rfl mC_X8_mark mM_X8_214 mI_X8_mark mV_X8_mark mN_X8 yd_X8_mark rfl rfl ⟨Nat.le_of_ble_eq_true rfl, Nat.le_of_ble_eq_true rfl⟩ MR_MW.o rfl rfl rfl rfl (Nat.le_of_ble_eq_true rfl) ⟨Nat.le_of_ble_eq_true rfl, Nat.le_of_ble_eq_true rfl⟩ (fun _ _ _ q => False.elim q) (fun r w1 sz1 hz hP => ?_)
            obtain ⟨rfl, t47, rfl, hJ47, hW47, hR47⟩ := hP
            refine x_w MW_MW ?_
            rcases hR47 with ⟨hz47, rfl, ht47⟩ | ⟨hz47, hd47, rfl, hwr47, hp47⟩ | ⟨hz47, hd47, rfl, hwr47, hp47⟩
            · have hwr47 : t47 11 = 1 := by rw [ht47]; exact hwr44
              have hp47 : t47 10 = nI (c3 n ip h0) := by rw [ht47]; exact hp44
              refine x_st (st1 := []) rfl ?_
              refine x_aload_n 0 72 C0 dX8_command_71 rfl rfl rfl ?_
              refine x_getf (v := .int (t47 11)) 19 75 C0 dX8_command_72 rfl MR_MW.o rfl (by decide) inX8 mF_X8_204 rfl ?_
              refine x_st (st1 := [.int 1]) (congrArg (fun z => Value.int z :: _) (hwr47)) ?_
              refine x_if_ne 95 78 C0 dX8_command_75 rfl (by decide) (fun _ => ?_) (fun q => False.elim (by revert q; decide))
              refine x_aload_n 0 96 C0 dX8_command_95 rfl rfl rfl ?_
              refine x_bipush (v := 32) 98 C0 dX8_command_96 rfl (by decide) ?_
              refine x_callV 101 C0 (e_X8_mark l hl g _ _ n t47 v bf sv pa lb ip (upd (upd td 0 (nI (vN n ip (c1 n ip h0)))) 1 0) sg MR_MW hJ47 (c3 n ip h0) (mj_h hJ47 hp47 (by omega)) hp47 32 (by decide)) dX8_command_98 rfl mC_X8_mark mM_X8_214 mI_X8_mark mV_X8_mark mN_X8 yd_X8_mark rfl rfl ⟨Nat.le_of_ble_eq_true rfl, Nat.le_of_ble_eq_true rfl⟩ MR_MW.o rfl rfl rfl rfl (Nat.le_of_ble_eq_true rfl) ⟨Nat.le_of_ble_eq_true rfl, Nat.le_of_ble_eq_true rfl⟩ (fun _ _ _ q => False.elim q) (fun r w1 sz1 hz hP => ?_)
              obtain ⟨rfl, t49, rfl, hJ49, hW49, hR49⟩ := hP
              refine x_w MW_MW ?_
              rcases hR49 with ⟨hz49, rfl, ht49⟩ | ⟨hz49, hd49, rfl, hwr49, hp49⟩ | ⟨hz49, hd49, rfl, hwr49, hp49⟩
              · have hwr49 : t49 11 = 1 := by rw [ht49]; exact hwr47
                have hp49 : t49 10 = nI (c3 n ip h0) := by rw [ht49]; exact hp47
                refine x_st (st1 := []) rfl ?_
                refine x_aload_n 0 102 C0 dX8_command_101 rfl rfl rfl ?_
                refine x_getf (v := .ref (g.2 0 + 258 + 7)) 15 105 C0 dX8_command_102 rfl MR_MW.o rfl (by decide) inX8 mF_X8_28 rfl ?_
                refine x_iconst (v := 3) 106 C0 dX8_command_105 rfl (by decide) ?_
                refine x_aload_n 0 107 C0 dX8_command_106 rfl rfl rfl ?_
                refine x_iconst (v := 2) 108 C0 dX8_command_107 rfl (by decide) ?_
                refine x_callV 111 C0 (e_X8_number2 l hl g _ _ n t49 v bf sv pa lb ip (upd (upd td 0 (nI (vN n ip (c1 n ip h0)))) 1 0) sg MR_MW hJ49 (c3 n ip h0) (mj_h hJ49 hp49 (by omega)) hp49) dX8_command_108 rfl mC_X8_number mM_X8_211 mI_X8_number mV_X8_number mN_X8 yd_X8_number rfl rfl ⟨Nat.le_of_ble_eq_true rfl, Nat.le_of_ble_eq_true rfl⟩ MR_MW.o rfl rfl rfl rfl (Nat.le_of_ble_eq_true rfl) ⟨Nat.le_of_ble_eq_true rfl, Nat.le_of_ble_eq_true rfl⟩ (fun _ _ _ q => False.elim q) (fun r w1 sz1 hz hP => ?_)
                obtain ⟨rfl, t50, rfl, hJ50, hW50, hR50⟩ := hP
                refine x_w MW_MW ?_
                rcases hR50 with ⟨hz50, rfl, ht50⟩ | ⟨hz50, hd50, rfl, hwr50, hp50⟩ | ⟨hz50, hd50, rfl, hwr50, hp50⟩
                · have hwr50 : t50 11 = 1 := by rw [ht50]; exact hwr49
                  have hp50 : t50 10 = nI (c3 n ip h0) := by rw [ht50]; exact hp49
                  refine x_st (st1 := [.int 0, .int 3, .ref (g.2 0 + 258 + 7)]) rfl ?_
                  refine x_iast 0 112 C0 dX8_command_111 rfl MR_MW.r_td (by show g.2 0 ≤ _; omega) rfl (vp_in_nI (n := 3) (by omega) (by decide)) ?_
                  refine x_w (w1 := (MW g w t50 v bf sv pa lb ip (upd (upd (upd td 0 (nI (vN n ip (c1 n ip h0)))) 1 0) 3 0) sg)) (by rw [show (3 : Int32).toNatClampNeg = 3 from nI_clamp (n := 3) (by omega)]; exact MW_td) ?_
                  refine x_aload_n 0 113 C0 dX8_command_112 rfl rfl rfl ?_
                  refine x_getf (v := .int (t50 11)) 19 116 C0 dX8_command_113 rfl MR_MW.o rfl (by decide) inX8 mF_X8_204 rfl ?_
                  refine x_st (st1 := [.int 1]) (congrArg (fun z => Value.int z :: _) (hwr50)) ?_
                  refine x_if_ne 126 119 C0 dX8_command_116 rfl (by decide) (fun _ => ?_) (fun q => False.elim (by revert q; decide))
                  exact x_return C0 dX8_command_126 rfl (Nat.le_of_ble_eq_true rfl) (Nat.le_of_ble_eq_true rfl) (cm_no (cr_d0 (Or.inl hW9) hd19 hd34 hd44) hJ50 (tW.tr (tW.tr (tW.tr (tW.tr (tW.tr (tW.tr hW1 hW19) hW34) hW44) hW47) hW49) hW50) hp50 hwr50 rfl)
                · exact absurd (hwr49.symm.trans hz50) (by decide)
                · exact absurd (hwr49.symm.trans hz50) (by decide)
              · exact absurd (hwr47.symm.trans hz49) (by decide)
              · exact absurd (hwr47.symm.trans hz49) (by decide)
            · exact absurd (hwr44.symm.trans hz47) (by decide)
            · exact absurd (hwr44.symm.trans hz47) (by decide)
          · refine x_st (st1 := [.int (nI (dv n ip (c3 n ip h0))), .int 1, .ref (g.2 0 + 258 + 7)]) rfl ?_
            refine x_iast 0 60 C0 dX8_command_59 rfl MR_MW.r_td (by show g.2 0 ≤ _; omega) rfl (vp_in_nI (n := 1) (by omega) (by decide)) ?_
            refine x_w (w1 := (MW g w t44 v bf sv pa lb ip (upd (upd td 0 (nI (vN n ip (c1 n ip h0)))) 1 (nI (dv n ip (c3 n ip h0)))) sg)) (by rw [show (1 : Int32).toNatClampNeg = 1 from nI_clamp (n := 1) (by omega)]; exact MW_td) ?_
            refine x_iload_n 1 61 C0 dX8_command_60 rfl rfl rfl ?_
            refine x_iconst (v := 1) 62 C0 dX8_command_61 rfl (by decide) ?_
            refine x_icmp_ne 112 65 C0 dX8_command_62 rfl (by decide) (fun q => False.elim (by revert q; decide)) (fun _ => ?_)
            refine x_aload_n 0 66 C0 dX8_command_65 rfl rfl rfl ?_
            refine x_bipush (v := 46) 68 C0 dX8_command_66 rfl (by decide) ?_
            refine x_callV 71 C0 (e_X8_mark l hl g _ _ n t44 v bf sv pa lb ip (upd (upd td 0 (nI (vN n ip (c1 n ip h0)))) 1 (nI (dv n ip (c3 n ip h0)))) sg MR_MW hJ44 (c4 n ip h0) (mj_h hJ44 hp44 (by omega)) hp44 46 (by decide)) dX8_command_68 rfl mC_X8_mark mM_X8_214 mI_X8_mark mV_X8_mark mN_X8 yd_X8_mark rfl rfl ⟨Nat.le_of_ble_eq_true rfl, Nat.le_of_ble_eq_true rfl⟩ MR_MW.o rfl rfl rfl rfl (Nat.le_of_ble_eq_true rfl) ⟨Nat.le_of_ble_eq_true rfl, Nat.le_of_ble_eq_true rfl⟩ (fun _ _ _ q => False.elim q) (fun r w1 sz1 hz hP => ?_)
            obtain ⟨rfl, t55, rfl, hJ55, hW55, hR55⟩ := hP
            refine x_w MW_MW ?_
            rcases hR55 with ⟨hz55, rfl, ht55⟩ | ⟨hz55, hd55, rfl, hwr55, hp55⟩ | ⟨hz55, hd55, rfl, hwr55, hp55⟩
            · exact absurd hwr44 hz55
            · refine x_st (st1 := []) rfl ?_
              refine x_aload_n 0 72 C0 dX8_command_71 rfl rfl rfl ?_
              refine x_getf (v := .int (t55 11)) 19 75 C0 dX8_command_72 rfl MR_MW.o rfl (by decide) inX8 mF_X8_204 rfl ?_
              refine x_st (st1 := [.int 1]) (congrArg (fun z => Value.int z :: _) (hwr55)) ?_
              refine x_if_ne 95 78 C0 dX8_command_75 rfl (by decide) (fun _ => ?_) (fun q => False.elim (by revert q; decide))
              refine x_aload_n 0 96 C0 dX8_command_95 rfl rfl rfl ?_
              refine x_bipush (v := 32) 98 C0 dX8_command_96 rfl (by decide) ?_
              refine x_callV 101 C0 (e_X8_mark l hl g _ _ n t55 v bf sv pa lb ip (upd (upd td 0 (nI (vN n ip (c1 n ip h0)))) 1 (nI (dv n ip (c3 n ip h0)))) sg MR_MW hJ55 (c4 n ip h0) (mj_h hJ55 hp55 (by omega)) hp55 32 (by decide)) dX8_command_98 rfl mC_X8_mark mM_X8_214 mI_X8_mark mV_X8_mark mN_X8 yd_X8_mark rfl rfl ⟨Nat.le_of_ble_eq_true rfl, Nat.le_of_ble_eq_true rfl⟩ MR_MW.o rfl rfl rfl rfl (Nat.le_of_ble_eq_true rfl) ⟨Nat.le_of_ble_eq_true rfl, Nat.le_of_ble_eq_true rfl⟩ (fun _ _ _ q => False.elim q) (fun r w1 sz1 hz hP => ?_)
              obtain ⟨rfl, t57, rfl, hJ57, hW57, hR57⟩ := hP
              refine x_w MW_MW ?_
              rcases hR57 with ⟨hz57, rfl, ht57⟩ | ⟨hz57, hd57, rfl, hwr57, hp57⟩ | ⟨hz57, hd57, rfl, hwr57, hp57⟩
              · have hwr57 : t57 11 = 1 := by rw [ht57]; exact hwr55
                have hp57 : t57 10 = nI (c4 n ip h0) := by rw [ht57]; exact hp55
                refine x_st (st1 := []) rfl ?_
                refine x_aload_n 0 102 C0 dX8_command_101 rfl rfl rfl ?_
                refine x_getf (v := .ref (g.2 0 + 258 + 7)) 15 105 C0 dX8_command_102 rfl MR_MW.o rfl (by decide) inX8 mF_X8_28 rfl ?_
                refine x_iconst (v := 3) 106 C0 dX8_command_105 rfl (by decide) ?_
                refine x_aload_n 0 107 C0 dX8_command_106 rfl rfl rfl ?_
                refine x_iconst (v := 2) 108 C0 dX8_command_107 rfl (by decide) ?_
                refine x_callV 111 C0 (e_X8_number2 l hl g _ _ n t57 v bf sv pa lb ip (upd (upd td 0 (nI (vN n ip (c1 n ip h0)))) 1 (nI (dv n ip (c3 n ip h0)))) sg MR_MW hJ57 (c4 n ip h0) (mj_h hJ57 hp57 (by omega)) hp57) dX8_command_108 rfl mC_X8_number mM_X8_211 mI_X8_number mV_X8_number mN_X8 yd_X8_number rfl rfl ⟨Nat.le_of_ble_eq_true rfl, Nat.le_of_ble_eq_true rfl⟩ MR_MW.o rfl rfl rfl rfl (Nat.le_of_ble_eq_true rfl) ⟨Nat.le_of_ble_eq_true rfl, Nat.le_of_ble_eq_true rfl⟩ (fun _ _ _ q => False.elim q) (fun r w1 sz1 hz hP => ?_)
                obtain ⟨rfl, t58, rfl, hJ58, hW58, hR58⟩ := hP
                refine x_w MW_MW ?_
                rcases hR58 with ⟨hz58, rfl, ht58⟩ | ⟨hz58, hd58, rfl, hwr58, hp58⟩ | ⟨hz58, hd58, rfl, hwr58, hp58⟩
                · have hwr58 : t58 11 = 1 := by rw [ht58]; exact hwr57
                  have hp58 : t58 10 = nI (c4 n ip h0) := by rw [ht58]; exact hp57
                  refine x_st (st1 := [.int 0, .int 3, .ref (g.2 0 + 258 + 7)]) rfl ?_
                  refine x_iast 0 112 C0 dX8_command_111 rfl MR_MW.r_td (by show g.2 0 ≤ _; omega) rfl (vp_in_nI (n := 3) (by omega) (by decide)) ?_
                  refine x_w (w1 := (MW g w t58 v bf sv pa lb ip (upd (upd (upd td 0 (nI (vN n ip (c1 n ip h0)))) 1 (nI (dv n ip (c3 n ip h0)))) 3 0) sg)) (by rw [show (3 : Int32).toNatClampNeg = 3 from nI_clamp (n := 3) (by omega)]; exact MW_td) ?_
                  refine x_aload_n 0 113 C0 dX8_command_112 rfl rfl rfl ?_
                  refine x_getf (v := .int (t58 11)) 19 116 C0 dX8_command_113 rfl MR_MW.o rfl (by decide) inX8 mF_X8_204 rfl ?_
                  refine x_st (st1 := [.int 1]) (congrArg (fun z => Value.int z :: _) (hwr58)) ?_
                  refine x_if_ne 126 119 C0 dX8_command_116 rfl (by decide) (fun _ => ?_) (fun q => False.elim (by revert q; decide))
                  exact x_return C0 dX8_command_126 rfl (Nat.le_of_ble_eq_true rfl) (Nat.le_of_ble_eq_true rfl) (cm_no (cr_p0 hW9 hd19 hd34 hd44 hd55) hJ58 (tW.tr (tW.tr (tW.tr (tW.tr (tW.tr (tW.tr hW1 hW19) hW34) hW44) hW55) hW57) hW58) hp58 hwr58 rfl)
                · exact absurd (hwr57.symm.trans hz58) (by decide)
                · exact absurd (hwr57.symm.trans hz58) (by decide)
              · exact absurd (hwr55.symm.trans hz57) (by decide)
              · exact absurd (hwr55.symm.trans hz57) (by decide)
            · refine x_st (st1 := []) rfl ?_
              refine x_aload_n 0 72 C0 dX8_command_71 rfl rfl rfl ?_
              refine x_getf (v := .int (t55 11)) 19 75 C0 dX8_command_72 rfl MR_MW.o rfl (by decide) inX8 mF_X8_204 rfl ?_
              refine x_st (st1 := [.int 0]) (congrArg (fun z => Value.int z :: _) (hwr55)) ?_
              refine x_if_ne 95 78 C0 dX8_command_75 rfl (by decide) (fun q => False.elim (by revert q; decide)) (fun _ => ?_)
              refine x_aload_n 0 79 C0 dX8_command_78 rfl rfl rfl ?_
              refine x_getf (v := .ref (g.2 0 + 258 + 7)) 15 82 C0 dX8_command_79 rfl MR_MW.o rfl (by decide) inX8 mF_X8_28 rfl ?_
              refine x_iconst (v := 2) 83 C0 dX8_command_82 rfl (by decide) ?_
              refine x_aload_n 0 84 C0 dX8_command_83 rfl rfl rfl ?_
              refine x_bipush (v := 8) 86 C0 dX8_command_84 rfl (by decide) ?_
              refine x_bipush (v := 10) 88 C0 dX8_command_86 rfl (by decide) ?_
              refine x_st (st1 := [.int (nI 10), .int (nI 8), .ref (g.2 0 + 258), .int 2, .ref (g.2 0 + 258 + 7)]) rfl ?_
              refine x_callV 91 C0 (e_X8_word l hl g _ _ n t55 v bf sv pa lb ip (upd (upd td 0 (nI (vN n ip (c1 n ip h0)))) 1 (nI (dv n ip (c3 n ip h0)))) sg MR_MW hJ55 (c5 n ip h0) (mj_h hJ55 hp55 (by omega)) hp55 8 3 10 (by decide) rfl) dX8_command_88 rfl mC_X8_word mM_X8_208 mI_X8_word mV_X8_word mN_X8 yd_X8_word rfl rfl ⟨Nat.le_of_ble_eq_true rfl, Nat.le_of_ble_eq_true rfl⟩ MR_MW.o rfl rfl rfl rfl (Nat.le_of_ble_eq_true rfl) ⟨Nat.le_of_ble_eq_true rfl, Nat.le_of_ble_eq_true rfl⟩ (fun _ _ _ q => False.elim q) (fun r w1 sz1 hz hP => ?_)
              obtain ⟨rfl, t62, rfl, hJ62, hW62, hR62⟩ := hP
              refine x_w MW_MW ?_
              obtain ⟨hp62, ⟨k62, hk62, hf62, rfl, hwr62⟩ | ⟨hf62, rfl, hwr62⟩⟩ := hR62
              · refine x_st (st1 := [.int (nI (8 + k62)), .int 2, .ref (g.2 0 + 258 + 7)]) rfl ?_
                refine x_bipush (v := 8) 93 C0 dX8_command_91 rfl (by decide) ?_
                refine x_isub 94 C0 dX8_command_93 rfl ?_
                refine x_st (st1 := [.int (nI k62), .int 2, .ref (g.2 0 + 258 + 7)]) (congrArg (fun z => Value.int z :: _) ((pk_sub (a := 8 + k62) (b := 8) (by omega)).trans (congrArg nI (by omega)))) ?_
                refine x_iast 0 95 C0 dX8_command_94 rfl MR_MW.r_td (by show g.2 0 ≤ _; omega) rfl (vp_in_nI (n := 2) (by omega) (by decide)) ?_
                refine x_w (w1 := (MW g w t62 v bf sv pa lb ip (upd (upd (upd td 0 (nI (vN n ip (c1 n ip h0)))) 1 (nI (dv n ip (c3 n ip h0)))) 2 (nI k62)) sg)) (by rw [show (2 : Int32).toNatClampNeg = 2 from nI_clamp (n := 2) (by omega)]; exact MW_td) ?_
                refine x_aload_n 0 96 C0 dX8_command_95 rfl rfl rfl ?_
                refine x_bipush (v := 32) 98 C0 dX8_command_96 rfl (by decide) ?_
                refine x_callV 101 C0 (e_X8_mark l hl g _ _ n t62 v bf sv pa lb ip (upd (upd (upd td 0 (nI (vN n ip (c1 n ip h0)))) 1 (nI (dv n ip (c3 n ip h0)))) 2 (nI k62)) sg MR_MW hJ62 (c6 n ip h0) (mj_h hJ62 hp62 (by omega)) hp62 32 (by decide)) dX8_command_98 rfl mC_X8_mark mM_X8_214 mI_X8_mark mV_X8_mark mN_X8 yd_X8_mark rfl rfl ⟨Nat.le_of_ble_eq_true rfl, Nat.le_of_ble_eq_true rfl⟩ MR_MW.o rfl rfl rfl rfl (Nat.le_of_ble_eq_true rfl) ⟨Nat.le_of_ble_eq_true rfl, Nat.le_of_ble_eq_true rfl⟩ (fun _ _ _ q => False.elim q) (fun r w1 sz1 hz hP => ?_)
                obtain ⟨rfl, t64, rfl, hJ64, hW64, hR64⟩ := hP
                refine x_w MW_MW ?_
                rcases hR64 with ⟨hz64, rfl, ht64⟩ | ⟨hz64, hd64, rfl, hwr64, hp64⟩ | ⟨hz64, hd64, rfl, hwr64, hp64⟩
                · exact absurd hwr62 hz64
                · refine x_st (st1 := []) rfl ?_
                  refine x_aload_n 0 102 C0 dX8_command_101 rfl rfl rfl ?_
                  refine x_getf (v := .ref (g.2 0 + 258 + 7)) 15 105 C0 dX8_command_102 rfl MR_MW.o rfl (by decide) inX8 mF_X8_28 rfl ?_
                  refine x_iconst (v := 3) 106 C0 dX8_command_105 rfl (by decide) ?_
                  refine x_aload_n 0 107 C0 dX8_command_106 rfl rfl rfl ?_
                  refine x_iconst (v := 2) 108 C0 dX8_command_107 rfl (by decide) ?_
                  refine x_callV 111 C0 (e_X8_number2 l hl g _ _ n t64 v bf sv pa lb ip (upd (upd (upd td 0 (nI (vN n ip (c1 n ip h0)))) 1 (nI (dv n ip (c3 n ip h0)))) 2 (nI k62)) sg MR_MW hJ64 (c6 n ip h0) (mj_h hJ64 hp64 (by omega)) hp64) dX8_command_108 rfl mC_X8_number mM_X8_211 mI_X8_number mV_X8_number mN_X8 yd_X8_number rfl rfl ⟨Nat.le_of_ble_eq_true rfl, Nat.le_of_ble_eq_true rfl⟩ MR_MW.o rfl rfl rfl rfl (Nat.le_of_ble_eq_true rfl) ⟨Nat.le_of_ble_eq_true rfl, Nat.le_of_ble_eq_true rfl⟩ (fun _ _ _ q => False.elim q) (fun r w1 sz1 hz hP => ?_)
                  obtain ⟨rfl, t65, rfl, hJ65, hW65, hR65⟩ := hP
                  refine x_w MW_MW ?_
                  rcases hR65 with ⟨hz65, rfl, ht65⟩ | ⟨hz65, hd65, rfl, hwr65, hp65⟩ | ⟨hz65, hd65, rfl, hwr65, hp65⟩
                  · have hwr65 : t65 11 = 1 := by rw [ht65]; exact hwr64
                    have hp65 : t65 10 = nI (c6 n ip h0) := by rw [ht65]; exact hp64
                    refine x_st (st1 := [.int 0, .int 3, .ref (g.2 0 + 258 + 7)]) rfl ?_
                    refine x_iast 0 112 C0 dX8_command_111 rfl MR_MW.r_td (by show g.2 0 ≤ _; omega) rfl (vp_in_nI (n := 3) (by omega) (by decide)) ?_
                    refine x_w (w1 := (MW g w t65 v bf sv pa lb ip (upd (upd (upd (upd td 0 (nI (vN n ip (c1 n ip h0)))) 1 (nI (dv n ip (c3 n ip h0)))) 2 (nI k62)) 3 0) sg)) (by rw [show (3 : Int32).toNatClampNeg = 3 from nI_clamp (n := 3) (by omega)]; exact MW_td) ?_
                    refine x_aload_n 0 113 C0 dX8_command_112 rfl rfl rfl ?_
                    refine x_getf (v := .int (t65 11)) 19 116 C0 dX8_command_113 rfl MR_MW.o rfl (by decide) inX8 mF_X8_204 rfl ?_
                    refine x_st (st1 := [.int 1]) (congrArg (fun z => Value.int z :: _) (hwr65)) ?_
                    refine x_if_ne 126 119 C0 dX8_command_116 rfl (by decide) (fun _ => ?_) (fun q => False.elim (by revert q; decide))
                    exact x_return C0 dX8_command_126 rfl (Nat.le_of_ble_eq_true rfl) (Nat.le_of_ble_eq_true rfl) (cm_no (cr_e0 hW9 hd19 hd34 hd44 hd55 (fun z => by have z2 : cK n ip h0 = 8 + k62 := hf62; omega) hd64) hJ65 (tW.tr (tW.tr (tW.tr (tW.tr (tW.tr (tW.tr (tW.tr hW1 hW19) hW34) hW44) hW55) hW62) hW64) hW65) hp65 hwr65 rfl)
                  · exact absurd (hwr64.symm.trans hz65) (by decide)
                  · exact absurd (hwr64.symm.trans hz65) (by decide)
                · refine x_st (st1 := []) rfl ?_
                  refine x_aload_n 0 102 C0 dX8_command_101 rfl rfl rfl ?_
                  refine x_getf (v := .ref (g.2 0 + 258 + 7)) 15 105 C0 dX8_command_102 rfl MR_MW.o rfl (by decide) inX8 mF_X8_28 rfl ?_
                  refine x_iconst (v := 3) 106 C0 dX8_command_105 rfl (by decide) ?_
                  refine x_aload_n 0 107 C0 dX8_command_106 rfl rfl rfl ?_
                  refine x_iconst (v := 2) 108 C0 dX8_command_107 rfl (by decide) ?_
                  refine x_callV 111 C0 (e_X8_number2 l hl g _ _ n t64 v bf sv pa lb ip (upd (upd (upd td 0 (nI (vN n ip (c1 n ip h0)))) 1 (nI (dv n ip (c3 n ip h0)))) 2 (nI k62)) sg MR_MW hJ64 (c7 n ip h0) (mj_h hJ64 hp64 (by omega)) hp64) dX8_command_108 rfl mC_X8_number mM_X8_211 mI_X8_number mV_X8_number mN_X8 yd_X8_number rfl rfl ⟨Nat.le_of_ble_eq_true rfl, Nat.le_of_ble_eq_true rfl⟩ MR_MW.o rfl rfl rfl rfl (Nat.le_of_ble_eq_true rfl) ⟨Nat.le_of_ble_eq_true rfl, Nat.le_of_ble_eq_true rfl⟩ (fun _ _ _ q => False.elim q) (fun r w1 sz1 hz hP => ?_)
                  obtain ⟨rfl, t68, rfl, hJ68, hW68, hR68⟩ := hP
                  refine x_w MW_MW ?_
                  rcases hR68 with ⟨hz68, rfl, ht68⟩ | ⟨hz68, hd68, rfl, hwr68, hp68⟩ | ⟨hz68, hd68, rfl, hwr68, hp68⟩
                  · exact absurd hwr64 hz68
                  · refine x_st (st1 := [.int 0, .int 3, .ref (g.2 0 + 258 + 7)]) rfl ?_
                    refine x_iast 0 112 C0 dX8_command_111 rfl MR_MW.r_td (by show g.2 0 ≤ _; omega) rfl (vp_in_nI (n := 3) (by omega) (by decide)) ?_
                    refine x_w (w1 := (MW g w t68 v bf sv pa lb ip (upd (upd (upd (upd td 0 (nI (vN n ip (c1 n ip h0)))) 1 (nI (dv n ip (c3 n ip h0)))) 2 (nI k62)) 3 0) sg)) (by rw [show (3 : Int32).toNatClampNeg = 3 from nI_clamp (n := 3) (by omega)]; exact MW_td) ?_
                    refine x_aload_n 0 113 C0 dX8_command_112 rfl rfl rfl ?_
                    refine x_getf (v := .int (t68 11)) 19 116 C0 dX8_command_113 rfl MR_MW.o rfl (by decide) inX8 mF_X8_204 rfl ?_
                    refine x_st (st1 := [.int 1]) (congrArg (fun z => Value.int z :: _) (hwr68)) ?_
                    refine x_if_ne 126 119 C0 dX8_command_116 rfl (by decide) (fun _ => ?_) (fun q => False.elim (by revert q; decide))
                    exact x_return C0 dX8_command_126 rfl (Nat.le_of_ble_eq_true rfl) (Nat.le_of_ble_eq_true rfl) (cm_no (cr_m0 hW9 hd19 hd34 hd44 hd55 (fun z => by have z2 : cK n ip h0 = 8 + k62 := hf62; omega) hd64 hd68) hJ68 (tW.tr (tW.tr (tW.tr (tW.tr (tW.tr (tW.tr (tW.tr hW1 hW19) hW34) hW44) hW55) hW62) hW64) hW68) hp68 hwr68 rfl)
                  · refine x_st (st1 := [.int (nI (vN n ip (c7 n ip h0))), .int 3, .ref (g.2 0 + 258 + 7)]) rfl ?_
                    refine x_iast 0 112 C0 dX8_command_111 rfl MR_MW.r_td (by show g.2 0 ≤ _; omega) rfl (vp_in_nI (n := 3) (by omega) (by decide)) ?_
                    refine x_w (w1 := (MW g w t68 v bf sv pa lb ip (upd (upd (upd (upd td 0 (nI (vN n ip (c1 n ip h0)))) 1 (nI (dv n ip (c3 n ip h0)))) 2 (nI k62)) 3 (nI (vN n ip (c7 n ip h0)))) sg)) (by rw [show (3 : Int32).toNatClampNeg = 3 from nI_clamp (n := 3) (by omega)]; exact MW_td) ?_
                    refine x_aload_n 0 113 C0 dX8_command_112 rfl rfl rfl ?_
                    refine x_getf (v := .int (t68 11)) 19 116 C0 dX8_command_113 rfl MR_MW.o rfl (by decide) inX8 mF_X8_204 rfl ?_
                    refine x_st (st1 := [.int 0]) (congrArg (fun z => Value.int z :: _) (hwr68)) ?_
                    refine x_if_ne 126 119 C0 dX8_command_116 rfl (by decide) (fun q => False.elim (by revert q; decide)) (fun _ => ?_)
                    refine x_aload_n 0 120 C0 dX8_command_119 rfl rfl rfl ?_
                    refine x_getf (v := .int (t68 12)) 20 123 C0 dX8_command_120 rfl MR_MW.o rfl (by decide) inX8 mF_X8_217 rfl ?_
                    refine x_st (st1 := [.int 1]) (congrArg (fun z => Value.int z :: _) (((tW.tr (tW.tr (tW.tr (tW.tr (tW.tr (tW.tr (tW.tr hW1 hW19) hW34) hW44) hW55) hW62) hW64) hW68) 12 (by decide) (by decide)).trans hdo)) ?_
                    refine x_if_ne 127 126 C0 dX8_command_123 rfl (by decide) (fun _ => ?_) (fun q => False.elim (by revert q; decide))
                    refine x_aload_n 0 128 C0 dX8_command_127 rfl rfl rfl ?_
                    refine x_iload_n 1 129 C0 dX8_command_128 rfl rfl rfl ?_
                    refine x_callV 132 C0 (e_X8_does1 l hl g _ _ n t68 v bf sv pa lb ip (upd (upd (upd (upd td 0 (nI (vN n ip (c1 n ip h0)))) 1 (nI (dv n ip (c3 n ip h0)))) 2 (nI k62)) 3 (nI (vN n ip (c7 n ip h0)))) sg MR_MW hJ68) dX8_command_129 rfl mC_X8_does mM_X8_220 mI_X8_does mV_X8_does mN_X8 yd_X8_does rfl rfl ⟨Nat.le_of_ble_eq_true rfl, Nat.le_of_ble_eq_true rfl⟩ MR_MW.o rfl rfl rfl rfl (Nat.le_of_ble_eq_true rfl) ⟨Nat.le_of_ble_eq_true rfl, Nat.le_of_ble_eq_true rfl⟩ (fun _ _ _ q => False.elim q) (fun r w1 sz1 hz hP => ?_)
                    obtain ⟨rfl, t74, v74, lb74, rfl, hJ74, ⟨⟨a74, rfl⟩, he74⟩, hX74⟩ := hP
                    refine x_w MW_MW ?_
                    refine x_st (st1 := [.int a74]) rfl ?_
                    refine x_istore_n [(2, .int a74), (0, .ref (g.2 0 + 258)), (1, .int 1)] 133 C0 dX8_command_132 rfl rfl (by decide) rfl ?_
                    refine x_lv (lv1 := [(0, .ref (g.2 0 + 258)), (1, .int 1), (2, .int a74)]) [1, 2, 0] rfl ?_
                    exact x_return C0 dX8_command_133 rfl (Nat.le_of_ble_eq_true rfl) (Nat.le_of_ble_eq_true rfl) (cm_y1 (cr_f1 hW9 hd19 hd34 hd44 hd55 (fun z => by have z2 : cK n ip h0 = 8 + k62 := hf62; omega) hd64 hd68) hJ68 (tW.tr (tW.tr (tW.tr (tW.tr (tW.tr (tW.tr (tW.tr hW1 hW19) hW34) hW44) hW55) hW62) hW64) hW68) hp68 hwr68 ⟨_, _, _, _, rfl, hJ74, he74, Or.inr (Or.inl ⟨hW9, by rw [nmA_e (n := n) (ip := ip) (h := h0) (by omega), nmB_e (n := n) (ip := ip) (h := h0) (by omega), nmK_e (n := n) (ip := ip) (h := h0) hW9 hf62, nmD_e (n := n) (ip := ip) (h := h0) hW9]; exact hX74⟩)⟩)
              · refine x_st (st1 := [.int 0, .int 2, .ref (g.2 0 + 258 + 7)]) rfl ?_
                refine x_bipush (v := 8) 93 C0 dX8_command_91 rfl (by decide) ?_
                refine x_isub 94 C0 dX8_command_93 rfl ?_
                refine x_st (st1 := [.int (-8), .int 2, .ref (g.2 0 + 258 + 7)]) (congrArg (fun z => Value.int z :: _) (by decide)) ?_
                refine x_iast 0 95 C0 dX8_command_94 rfl MR_MW.r_td (by show g.2 0 ≤ _; omega) rfl (vp_in_nI (n := 2) (by omega) (by decide)) ?_
                refine x_w (w1 := (MW g w t62 v bf sv pa lb ip (upd (upd (upd td 0 (nI (vN n ip (c1 n ip h0)))) 1 (nI (dv n ip (c3 n ip h0)))) 2 (-8)) sg)) (by rw [show (2 : Int32).toNatClampNeg = 2 from nI_clamp (n := 2) (by omega)]; exact MW_td) ?_
                refine x_aload_n 0 96 C0 dX8_command_95 rfl rfl rfl ?_
                refine x_bipush (v := 32) 98 C0 dX8_command_96 rfl (by decide) ?_
                refine x_callV 101 C0 (e_X8_mark l hl g _ _ n t62 v bf sv pa lb ip (upd (upd (upd td 0 (nI (vN n ip (c1 n ip h0)))) 1 (nI (dv n ip (c3 n ip h0)))) 2 (-8)) sg MR_MW hJ62 (c6 n ip h0) (mj_h hJ62 hp62 (by omega)) hp62 32 (by decide)) dX8_command_98 rfl mC_X8_mark mM_X8_214 mI_X8_mark mV_X8_mark mN_X8 yd_X8_mark rfl rfl ⟨Nat.le_of_ble_eq_true rfl, Nat.le_of_ble_eq_true rfl⟩ MR_MW.o rfl rfl rfl rfl (Nat.le_of_ble_eq_true rfl) ⟨Nat.le_of_ble_eq_true rfl, Nat.le_of_ble_eq_true rfl⟩ (fun _ _ _ q => False.elim q) (fun r w1 sz1 hz hP => ?_)
                obtain ⟨rfl, t76, rfl, hJ76, hW76, hR76⟩ := hP
                refine x_w MW_MW ?_
                rcases hR76 with ⟨hz76, rfl, ht76⟩ | ⟨hz76, hd76, rfl, hwr76, hp76⟩ | ⟨hz76, hd76, rfl, hwr76, hp76⟩
                · have hwr76 : t76 11 = 1 := by rw [ht76]; exact hwr62
                  have hp76 : t76 10 = nI (c6 n ip h0) := by rw [ht76]; exact hp62
                  refine x_st (st1 := []) rfl ?_
                  refine x_aload_n 0 102 C0 dX8_command_101 rfl rfl rfl ?_
                  refine x_getf (v := .ref (g.2 0 + 258 + 7)) 15 105 C0 dX8_command_102 rfl MR_MW.o rfl (by decide) inX8 mF_X8_28 rfl ?_
                  refine x_iconst (v := 3) 106 C0 dX8_command_105 rfl (by decide) ?_
                  refine x_aload_n 0 107 C0 dX8_command_106 rfl rfl rfl ?_
                  refine x_iconst (v := 2) 108 C0 dX8_command_107 rfl (by decide) ?_
                  refine x_callV 111 C0 (e_X8_number2 l hl g _ _ n t76 v bf sv pa lb ip (upd (upd (upd td 0 (nI (vN n ip (c1 n ip h0)))) 1 (nI (dv n ip (c3 n ip h0)))) 2 (-8)) sg MR_MW hJ76 (c6 n ip h0) (mj_h hJ76 hp76 (by omega)) hp76) dX8_command_108 rfl mC_X8_number mM_X8_211 mI_X8_number mV_X8_number mN_X8 yd_X8_number rfl rfl ⟨Nat.le_of_ble_eq_true rfl, Nat.le_of_ble_eq_true rfl⟩ MR_MW.o rfl rfl rfl rfl (Nat.le_of_ble_eq_true rfl) ⟨Nat.le_of_ble_eq_true rfl, Nat.le_of_ble_eq_true rfl⟩ (fun _ _ _ q => False.elim q) (fun r w1 sz1 hz hP => ?_)
                  obtain ⟨rfl, t77, rfl, hJ77, hW77, hR77⟩ := hP
                  refine x_w MW_MW ?_
                  rcases hR77 with ⟨hz77, rfl, ht77⟩ | ⟨hz77, hd77, rfl, hwr77, hp77⟩ | ⟨hz77, hd77, rfl, hwr77, hp77⟩
                  · have hwr77 : t77 11 = 1 := by rw [ht77]; exact hwr76
                    have hp77 : t77 10 = nI (c6 n ip h0) := by rw [ht77]; exact hp76
                    refine x_st (st1 := [.int 0, .int 3, .ref (g.2 0 + 258 + 7)]) rfl ?_
                    refine x_iast 0 112 C0 dX8_command_111 rfl MR_MW.r_td (by show g.2 0 ≤ _; omega) rfl (vp_in_nI (n := 3) (by omega) (by decide)) ?_
                    refine x_w (w1 := (MW g w t77 v bf sv pa lb ip (upd (upd (upd (upd td 0 (nI (vN n ip (c1 n ip h0)))) 1 (nI (dv n ip (c3 n ip h0)))) 2 (-8)) 3 0) sg)) (by rw [show (3 : Int32).toNatClampNeg = 3 from nI_clamp (n := 3) (by omega)]; exact MW_td) ?_
                    refine x_aload_n 0 113 C0 dX8_command_112 rfl rfl rfl ?_
                    refine x_getf (v := .int (t77 11)) 19 116 C0 dX8_command_113 rfl MR_MW.o rfl (by decide) inX8 mF_X8_204 rfl ?_
                    refine x_st (st1 := [.int 1]) (congrArg (fun z => Value.int z :: _) (hwr77)) ?_
                    refine x_if_ne 126 119 C0 dX8_command_116 rfl (by decide) (fun _ => ?_) (fun q => False.elim (by revert q; decide))
                    exact x_return C0 dX8_command_126 rfl (Nat.le_of_ble_eq_true rfl) (Nat.le_of_ble_eq_true rfl) (cm_no (cr_k0 hW9 hd19 hd34 hd44 hd55 hf62) hJ77 (tW.tr (tW.tr (tW.tr (tW.tr (tW.tr (tW.tr (tW.tr hW1 hW19) hW34) hW44) hW55) hW62) hW76) hW77) hp77 hwr77 rfl)
                  · exact absurd (hwr76.symm.trans hz77) (by decide)
                  · exact absurd (hwr76.symm.trans hz77) (by decide)
                · exact absurd (hwr62.symm.trans hz76) (by decide)
                · exact absurd (hwr62.symm.trans hz76) (by decide)
    · have hW9 : cW n ip h0 = 2 := hf1
      refine x_st (st1 := [.int 2]) rfl ?_
      refine x_istore_n [(1, .int 2), (0, .ref (g.2 0 + 258))] 8 C0 dX8_command_7 rfl rfl (by decide) rfl ?_
      refine x_lv (lv1 := [(0, .ref (g.2 0 + 258)), (1, .int 2)]) [1, 0] rfl ?_
      refine x_aload_n 0 9 C0 dX8_command_8 rfl rfl rfl ?_
      refine x_getf (v := .int (t1 11)) 19 12 C0 dX8_command_9 rfl MR_MW.o rfl (by decide) inX8 mF_X8_204 rfl ?_
      refine x_st (st1 := [.int 0]) (congrArg (fun z => Value.int z :: _) (hwr1)) ?_
      refine x_if_eq 16 15 C0 dX8_command_12 rfl (by decide) (fun _ => ?_) (fun q => False.elim (by revert q; decide))
      refine x_iload_n 1 17 C0 dX8_command_16 rfl rfl rfl ?_
      refine x_bipush (v := 6) 19 C0 dX8_command_17 rfl (by decide) ?_
      refine x_icmp_eq 33 22 C0 dX8_command_19 rfl (by decide) (fun q => False.elim (by revert q; decide)) (fun _ => ?_)
      refine x_aload_n 0 23 C0 dX8_command_22 rfl rfl rfl ?_
      refine x_getf (v := .ref (g.2 0 + 258 + 7)) 15 26 C0 dX8_command_23 rfl MR_MW.o rfl (by decide) inX8 mF_X8_28 rfl ?_
      refine x_iconst (v := 0) 27 C0 dX8_command_26 rfl (by decide) ?_
      refine x_aload_n 0 28 C0 dX8_command_27 rfl rfl rfl ?_
      refine x_iconst (v := 2) 29 C0 dX8_command_28 rfl (by decide) ?_
      refine x_callV 32 C0 (e_X8_number2 l hl g _ _ n t1 v bf sv pa lb ip td sg MR_MW hJ1 (c1 n ip h0) (mj_h hJ1 hp1 (by omega)) hp1) dX8_command_29 rfl mC_X8_number mM_X8_211 mI_X8_number mV_X8_number mN_X8 yd_X8_number rfl rfl ⟨Nat.le_of_ble_eq_true rfl, Nat.le_of_ble_eq_true rfl⟩ MR_MW.o rfl rfl rfl rfl (Nat.le_of_ble_eq_true rfl) ⟨Nat.le_of_ble_eq_true rfl, Nat.le_of_ble_eq_true rfl⟩ (fun _ _ _ q => False.elim q) (fun r w1 sz1 hz hP => ?_)
      obtain ⟨rfl, t82, rfl, hJ82, hW82, hR82⟩ := hP
      refine x_w MW_MW ?_
      rcases hR82 with ⟨hz82, rfl, ht82⟩ | ⟨hz82, hd82, rfl, hwr82, hp82⟩ | ⟨hz82, hd82, rfl, hwr82, hp82⟩
      · exact absurd hwr1 hz82
      · refine x_st (st1 := [.int 0, .int 0, .ref (g.2 0 + 258 + 7)]) rfl ?_
        refine x_iast 0 33 C0 dX8_command_32 rfl MR_MW.r_td (by show g.2 0 ≤ _; omega) rfl (vp_in_nI (n := 0) (by omega) (by decide)) ?_
        refine x_w (w1 := (MW g w t82 v bf sv pa lb ip (upd td 0 0) sg)) (by rw [show (0 : Int32).toNatClampNeg = 0 from nI_clamp (n := 0) (by omega)]; exact MW_td) ?_
        refine x_iload_n 1 34 C0 dX8_command_33 rfl rfl rfl ?_
        refine x_iconst (v := 1) 35 C0 dX8_command_34 rfl (by decide) ?_
        refine x_icmp_eq 43 38 C0 dX8_command_35 rfl (by decide) (fun q => False.elim (by revert q; decide)) (fun _ => ?_)
        refine x_iload_n 1 39 C0 dX8_command_38 rfl rfl rfl ?_
        refine x_iconst (v := 2) 40 C0 dX8_command_39 rfl (by decide) ?_
        refine x_icmp_ne 60 43 C0 dX8_command_40 rfl (by decide) (fun q => False.elim (by revert q; decide)) (fun _ => ?_)
        refine x_aload_n 0 44 C0 dX8_command_43 rfl rfl rfl ?_
        refine x_bipush (v := 32) 46 C0 dX8_command_44 rfl (by decide) ?_
        refine x_callV 49 C0 (e_X8_mark l hl g _ _ n t82 v bf sv pa lb ip (upd td 0 0) sg MR_MW hJ82 (c1 n ip h0) (mj_h hJ82 hp82 (by omega)) hp82 32 (by decide)) dX8_command_46 rfl mC_X8_mark mM_X8_214 mI_X8_mark mV_X8_mark mN_X8 yd_X8_mark rfl rfl ⟨Nat.le_of_ble_eq_true rfl, Nat.le_of_ble_eq_true rfl⟩ MR_MW.o rfl rfl rfl rfl (Nat.le_of_ble_eq_true rfl) ⟨Nat.le_of_ble_eq_true rfl, Nat.le_of_ble_eq_true rfl⟩ (fun _ _ _ q => False.elim q) (fun r w1 sz1 hz hP => ?_)
        obtain ⟨rfl, t86, rfl, hJ86, hW86, hR86⟩ := hP
        refine x_w MW_MW ?_
        rcases hR86 with ⟨hz86, rfl, ht86⟩ | ⟨hz86, hd86, rfl, hwr86, hp86⟩ | ⟨hz86, hd86, rfl, hwr86, hp86⟩
        · have hwr86 : t86 11 = 1 := by rw [ht86]; exact hwr82
          have hp86 : t86 10 = nI (c1 n ip h0) := by rw [ht86]; exact hp82
          refine x_st (st1 := []) rfl ?_
          refine x_aload_n 0 50 C0 dX8_command_49 rfl rfl rfl ?_
          refine x_getf (v := .ref (g.2 0 + 258 + 7)) 15 53 C0 dX8_command_50 rfl MR_MW.o rfl (by decide) inX8 mF_X8_28 rfl ?_
          refine x_iconst (v := 1) 54 C0 dX8_command_53 rfl (by decide) ?_
          refine x_aload_n 0 55 C0 dX8_command_54 rfl rfl rfl ?_
          refine x_iconst (v := 1) 56 C0 dX8_command_55 rfl (by decide) ?_
          refine x_callV 59 C0 (e_X8_number1 l hl g _ _ n t86 v bf sv pa lb ip (upd td 0 0) sg MR_MW hJ86 (c1 n ip h0) (mj_h hJ86 hp86 (by omega)) hp86) dX8_command_56 rfl mC_X8_number mM_X8_211 mI_X8_number mV_X8_number mN_X8 yd_X8_number rfl rfl ⟨Nat.le_of_ble_eq_true rfl, Nat.le_of_ble_eq_true rfl⟩ MR_MW.o rfl rfl rfl rfl (Nat.le_of_ble_eq_true rfl) ⟨Nat.le_of_ble_eq_true rfl, Nat.le_of_ble_eq_true rfl⟩ (fun _ _ _ q => False.elim q) (fun r w1 sz1 hz hP => ?_)
          obtain ⟨rfl, t87, rfl, hJ87, hW87, hR87⟩ := hP
          refine x_w MW_MW ?_
          rcases hR87 with ⟨hz87, rfl, ht87⟩ | ⟨hz87, hd87, rfl, hwr87, hp87⟩ | ⟨hz87, hd87, rfl, hwr87, hp87⟩
          · have hwr87 : t87 11 = 1 := by rw [ht87]; exact hwr86
            have hp87 : t87 10 = nI (c1 n ip h0) := by rw [ht87]; exact hp86
            refine x_st (st1 := [.int 0, .int 1, .ref (g.2 0 + 258 + 7)]) rfl ?_
            refine x_iast 0 60 C0 dX8_command_59 rfl MR_MW.r_td (by show g.2 0 ≤ _; omega) rfl (vp_in_nI (n := 1) (by omega) (by decide)) ?_
            refine x_w (w1 := (MW g w t87 v bf sv pa lb ip (upd (upd td 0 0) 1 0) sg)) (by rw [show (1 : Int32).toNatClampNeg = 1 from nI_clamp (n := 1) (by omega)]; exact MW_td) ?_
            refine x_iload_n 1 61 C0 dX8_command_60 rfl rfl rfl ?_
            refine x_iconst (v := 1) 62 C0 dX8_command_61 rfl (by decide) ?_
            refine x_icmp_ne 112 65 C0 dX8_command_62 rfl (by decide) (fun _ => ?_) (fun q => False.elim (by revert q; decide))
            refine x_aload_n 0 113 C0 dX8_command_112 rfl rfl rfl ?_
            refine x_getf (v := .int (t87 11)) 19 116 C0 dX8_command_113 rfl MR_MW.o rfl (by decide) inX8 mF_X8_204 rfl ?_
            refine x_st (st1 := [.int 1]) (congrArg (fun z => Value.int z :: _) (hwr87)) ?_
            refine x_if_ne 126 119 C0 dX8_command_116 rfl (by decide) (fun _ => ?_) (fun q => False.elim (by revert q; decide))
            exact x_return C0 dX8_command_126 rfl (Nat.le_of_ble_eq_true rfl) (Nat.le_of_ble_eq_true rfl) (cm_no (cr_n0 (by omega) (by omega) hd82) hJ87 (tW.tr (tW.tr (tW.tr hW1 hW82) hW86) hW87) hp87 hwr87 rfl)
          · exact absurd (hwr86.symm.trans hz87) (by decide)
          · exact absurd (hwr86.symm.trans hz87) (by decide)
        · exact absurd (hwr82.symm.trans hz86) (by decide)
        · exact absurd (hwr82.symm.trans hz86) (by decide)
      · refine x_st (st1 := [.int (nI (vN n ip (c1 n ip h0))), .int 0, .ref (g.2 0 + 258 + 7)]) rfl ?_
        refine x_iast 0 33 C0 dX8_command_32 rfl MR_MW.r_td (by show g.2 0 ≤ _; omega) rfl (vp_in_nI (n := 0) (by omega) (by decide)) ?_
        refine x_w (w1 := (MW g w t82 v bf sv pa lb ip (upd td 0 (nI (vN n ip (c1 n ip h0)))) sg)) (by rw [show (0 : Int32).toNatClampNeg = 0 from nI_clamp (n := 0) (by omega)]; exact MW_td) ?_
        refine x_iload_n 1 34 C0 dX8_command_33 rfl rfl rfl ?_
        refine x_iconst (v := 1) 35 C0 dX8_command_34 rfl (by decide) ?_
        refine x_icmp_eq 43 38 C0 dX8_command_35 rfl (by decide) (fun q => False.elim (by revert q; decide)) (fun _ => ?_)
        refine x_iload_n 1 39 C0 dX8_command_38 rfl rfl rfl ?_
        refine x_iconst (v := 2) 40 C0 dX8_command_39 rfl (by decide) ?_
        refine x_icmp_ne 60 43 C0 dX8_command_40 rfl (by decide) (fun q => False.elim (by revert q; decide)) (fun _ => ?_)
        refine x_aload_n 0 44 C0 dX8_command_43 rfl rfl rfl ?_
        refine x_bipush (v := 32) 46 C0 dX8_command_44 rfl (by decide) ?_
        refine x_callV 49 C0 (e_X8_mark l hl g _ _ n t82 v bf sv pa lb ip (upd td 0 (nI (vN n ip (c1 n ip h0)))) sg MR_MW hJ82 (c2 n ip h0) (mj_h hJ82 hp82 (by omega)) hp82 32 (by decide)) dX8_command_46 rfl mC_X8_mark mM_X8_214 mI_X8_mark mV_X8_mark mN_X8 yd_X8_mark rfl rfl ⟨Nat.le_of_ble_eq_true rfl, Nat.le_of_ble_eq_true rfl⟩ MR_MW.o rfl rfl rfl rfl (Nat.le_of_ble_eq_true rfl) ⟨Nat.le_of_ble_eq_true rfl, Nat.le_of_ble_eq_true rfl⟩ (fun _ _ _ q => False.elim q) (fun r w1 sz1 hz hP => ?_)
        obtain ⟨rfl, t94, rfl, hJ94, hW94, hR94⟩ := hP
        refine x_w MW_MW ?_
        rcases hR94 with ⟨hz94, rfl, ht94⟩ | ⟨hz94, hd94, rfl, hwr94, hp94⟩ | ⟨hz94, hd94, rfl, hwr94, hp94⟩
        · exact absurd hwr82 hz94
        · refine x_st (st1 := []) rfl ?_
          refine x_aload_n 0 50 C0 dX8_command_49 rfl rfl rfl ?_
          refine x_getf (v := .ref (g.2 0 + 258 + 7)) 15 53 C0 dX8_command_50 rfl MR_MW.o rfl (by decide) inX8 mF_X8_28 rfl ?_
          refine x_iconst (v := 1) 54 C0 dX8_command_53 rfl (by decide) ?_
          refine x_aload_n 0 55 C0 dX8_command_54 rfl rfl rfl ?_
          refine x_iconst (v := 1) 56 C0 dX8_command_55 rfl (by decide) ?_
          refine x_callV 59 C0 (e_X8_number1 l hl g _ _ n t94 v bf sv pa lb ip (upd td 0 (nI (vN n ip (c1 n ip h0)))) sg MR_MW hJ94 (c2 n ip h0) (mj_h hJ94 hp94 (by omega)) hp94) dX8_command_56 rfl mC_X8_number mM_X8_211 mI_X8_number mV_X8_number mN_X8 yd_X8_number rfl rfl ⟨Nat.le_of_ble_eq_true rfl, Nat.le_of_ble_eq_true rfl⟩ MR_MW.o rfl rfl rfl rfl (Nat.le_of_ble_eq_true rfl) ⟨Nat.le_of_ble_eq_true rfl, Nat.le_of_ble_eq_true rfl⟩ (fun _ _ _ q => False.elim q) (fun r w1 sz1 hz hP => ?_)
          obtain ⟨rfl, t95, rfl, hJ95, hW95, hR95⟩ := hP
          refine x_w MW_MW ?_
          rcases hR95 with ⟨hz95, rfl, ht95⟩ | ⟨hz95, hd95, rfl, hwr95, hp95⟩ | ⟨hz95, hd95, rfl, hwr95, hp95⟩
          · have hwr95 : t95 11 = 1 := by rw [ht95]; exact hwr94
            have hp95 : t95 10 = nI (c2 n ip h0) := by rw [ht95]; exact hp94
            refine x_st (st1 := [.int 0, .int 1, .ref (g.2 0 + 258 + 7)]) rfl ?_
            refine x_iast 0 60 C0 dX8_command_59 rfl MR_MW.r_td (by show g.2 0 ≤ _; omega) rfl (vp_in_nI (n := 1) (by omega) (by decide)) ?_
            refine x_w (w1 := (MW g w t95 v bf sv pa lb ip (upd (upd td 0 (nI (vN n ip (c1 n ip h0)))) 1 0) sg)) (by rw [show (1 : Int32).toNatClampNeg = 1 from nI_clamp (n := 1) (by omega)]; exact MW_td) ?_
            refine x_iload_n 1 61 C0 dX8_command_60 rfl rfl rfl ?_
            refine x_iconst (v := 1) 62 C0 dX8_command_61 rfl (by decide) ?_
            refine x_icmp_ne 112 65 C0 dX8_command_62 rfl (by decide) (fun _ => ?_) (fun q => False.elim (by revert q; decide))
            refine x_aload_n 0 113 C0 dX8_command_112 rfl rfl rfl ?_
            refine x_getf (v := .int (t95 11)) 19 116 C0 dX8_command_113 rfl MR_MW.o rfl (by decide) inX8 mF_X8_204 rfl ?_
            refine x_st (st1 := [.int 1]) (congrArg (fun z => Value.int z :: _) (hwr95)) ?_
            refine x_if_ne 126 119 C0 dX8_command_116 rfl (by decide) (fun _ => ?_) (fun q => False.elim (by revert q; decide))
            exact x_return C0 dX8_command_126 rfl (Nat.le_of_ble_eq_true rfl) (Nat.le_of_ble_eq_true rfl) (cm_no (cr_b0 (Or.inr hW9) hd82 hd94) hJ95 (tW.tr (tW.tr (tW.tr hW1 hW82) hW94) hW95) hp95 hwr95 rfl)
          · exact absurd (hwr94.symm.trans hz95) (by decide)
          · exact absurd (hwr94.symm.trans hz95) (by decide)
        · refine x_st (st1 := []) rfl ?_
          refine x_aload_n 0 50 C0 dX8_command_49 rfl rfl rfl ?_
          refine x_getf (v := .ref (g.2 0 + 258 + 7)) 15 53 C0 dX8_command_50 rfl MR_MW.o rfl (by decide) inX8 mF_X8_28 rfl ?_
          refine x_iconst (v := 1) 54 C0 dX8_command_53 rfl (by decide) ?_
          refine x_aload_n 0 55 C0 dX8_command_54 rfl rfl rfl ?_
          refine x_iconst (v := 1) 56 C0 dX8_command_55 rfl (by decide) ?_
          refine x_callV 59 C0 (e_X8_number1 l hl g _ _ n t94 v bf sv pa lb ip (upd td 0 (nI (vN n ip (c1 n ip h0)))) sg MR_MW hJ94 (c3 n ip h0) (mj_h hJ94 hp94 (by omega)) hp94) dX8_command_56 rfl mC_X8_number mM_X8_211 mI_X8_number mV_X8_number mN_X8 yd_X8_number rfl rfl ⟨Nat.le_of_ble_eq_true rfl, Nat.le_of_ble_eq_true rfl⟩ MR_MW.o rfl rfl rfl rfl (Nat.le_of_ble_eq_true rfl) ⟨Nat.le_of_ble_eq_true rfl, Nat.le_of_ble_eq_true rfl⟩ (fun _ _ _ q => False.elim q) (fun r w1 sz1 hz hP => ?_)
          obtain ⟨rfl, t99, rfl, hJ99, hW99, hR99⟩ := hP
          refine x_w MW_MW ?_
          rcases hR99 with ⟨hz99, rfl, ht99⟩ | ⟨hz99, hd99, rfl, hwr99, hp99⟩ | ⟨hz99, hd99, rfl, hwr99, hp99⟩
          · exact absurd hwr94 hz99
          · refine x_st (st1 := [.int 0, .int 1, .ref (g.2 0 + 258 + 7)]) rfl ?_
            refine x_iast 0 60 C0 dX8_command_59 rfl MR_MW.r_td (by show g.2 0 ≤ _; omega) rfl (vp_in_nI (n := 1) (by omega) (by decide)) ?_
            refine x_w (w1 := (MW g w t99 v bf sv pa lb ip (upd (upd td 0 (nI (vN n ip (c1 n ip h0)))) 1 0) sg)) (by rw [show (1 : Int32).toNatClampNeg = 1 from nI_clamp (n := 1) (by omega)]; exact MW_td) ?_
            refine x_iload_n 1 61 C0 dX8_command_60 rfl rfl rfl ?_
            refine x_iconst (v := 1) 62 C0 dX8_command_61 rfl (by decide) ?_
            refine x_icmp_ne 112 65 C0 dX8_command_62 rfl (by decide) (fun _ => ?_) (fun q => False.elim (by revert q; decide))
            refine x_aload_n 0 113 C0 dX8_command_112 rfl rfl rfl ?_
            refine x_getf (v := .int (t99 11)) 19 116 C0 dX8_command_113 rfl MR_MW.o rfl (by decide) inX8 mF_X8_204 rfl ?_
            refine x_st (st1 := [.int 1]) (congrArg (fun z => Value.int z :: _) (hwr99)) ?_
            refine x_if_ne 126 119 C0 dX8_command_116 rfl (by decide) (fun _ => ?_) (fun q => False.elim (by revert q; decide))
            exact x_return C0 dX8_command_126 rfl (Nat.le_of_ble_eq_true rfl) (Nat.le_of_ble_eq_true rfl) (cm_no (cr_d0 (Or.inr hW9) hd82 hd94 hd99) hJ99 (tW.tr (tW.tr (tW.tr hW1 hW82) hW94) hW99) hp99 hwr99 rfl)
          · refine x_st (st1 := [.int (nI (dv n ip (c3 n ip h0))), .int 1, .ref (g.2 0 + 258 + 7)]) rfl ?_
            refine x_iast 0 60 C0 dX8_command_59 rfl MR_MW.r_td (by show g.2 0 ≤ _; omega) rfl (vp_in_nI (n := 1) (by omega) (by decide)) ?_
            refine x_w (w1 := (MW g w t99 v bf sv pa lb ip (upd (upd td 0 (nI (vN n ip (c1 n ip h0)))) 1 (nI (dv n ip (c3 n ip h0)))) sg)) (by rw [show (1 : Int32).toNatClampNeg = 1 from nI_clamp (n := 1) (by omega)]; exact MW_td) ?_
            refine x_iload_n 1 61 C0 dX8_command_60 rfl rfl rfl ?_
            refine x_iconst (v := 1) 62 C0 dX8_command_61 rfl (by decide) ?_
            refine x_icmp_ne 112 65 C0 dX8_command_62 rfl (by decide) (fun _ => ?_) (fun q => False.elim (by revert q; decide))
            refine x_aload_n 0 113 C0 dX8_command_112 rfl rfl rfl ?_
            refine x_getf (v := .int (t99 11)) 19 116 C0 dX8_command_113 rfl MR_MW.o rfl (by decide) inX8 mF_X8_204 rfl ?_
            refine x_st (st1 := [.int 0]) (congrArg (fun z => Value.int z :: _) (hwr99)) ?_
            refine x_if_ne 126 119 C0 dX8_command_116 rfl (by decide) (fun q => False.elim (by revert q; decide)) (fun _ => ?_)
            refine x_aload_n 0 120 C0 dX8_command_119 rfl rfl rfl ?_
            refine x_getf (v := .int (t99 12)) 20 123 C0 dX8_command_120 rfl MR_MW.o rfl (by decide) inX8 mF_X8_217 rfl ?_
            refine x_st (st1 := [.int 1]) (congrArg (fun z => Value.int z :: _) (((tW.tr (tW.tr (tW.tr hW1 hW82) hW94) hW99) 12 (by decide) (by decide)).trans hdo)) ?_
            refine x_if_ne 127 126 C0 dX8_command_123 rfl (by decide) (fun _ => ?_) (fun q => False.elim (by revert q; decide))
            refine x_aload_n 0 128 C0 dX8_command_127 rfl rfl rfl ?_
            refine x_iload_n 1 129 C0 dX8_command_128 rfl rfl rfl ?_
            refine x_callV 132 C0 (e_X8_does2 l hl g _ _ n t99 v bf sv pa lb ip (upd (upd td 0 (nI (vN n ip (c1 n ip h0)))) 1 (nI (dv n ip (c3 n ip h0)))) sg MR_MW hJ99) dX8_command_129 rfl mC_X8_does mM_X8_220 mI_X8_does mV_X8_does mN_X8 yd_X8_does rfl rfl ⟨Nat.le_of_ble_eq_true rfl, Nat.le_of_ble_eq_true rfl⟩ MR_MW.o rfl rfl rfl rfl (Nat.le_of_ble_eq_true rfl) ⟨Nat.le_of_ble_eq_true rfl, Nat.le_of_ble_eq_true rfl⟩ (fun _ _ _ q => False.elim q) (fun r w1 sz1 hz hP => ?_)
            obtain ⟨rfl, t107, v107, lb107, rfl, hJ107, ⟨⟨a107, rfl⟩, he107⟩, hX107⟩ := hP
            refine x_w MW_MW ?_
            refine x_st (st1 := [.int a107]) rfl ?_
            refine x_istore_n [(2, .int a107), (0, .ref (g.2 0 + 258)), (1, .int 2)] 133 C0 dX8_command_132 rfl rfl (by decide) rfl ?_
            refine x_lv (lv1 := [(0, .ref (g.2 0 + 258)), (1, .int 2), (2, .int a107)]) [1, 2, 0] rfl ?_
            exact x_return C0 dX8_command_133 rfl (Nat.le_of_ble_eq_true rfl) (Nat.le_of_ble_eq_true rfl) (cm_y1 (cr_s1 hW9 hd82 hd94 hd99) hJ99 (tW.tr (tW.tr (tW.tr hW1 hW82) hW94) hW99) hp99 hwr99 ⟨_, _, _, _, rfl, hJ107, he107, Or.inr (Or.inr (Or.inl ⟨hW9, by rw [nmA_e (n := n) (ip := ip) (h := h0) (by omega), nmB_e (n := n) (ip := ip) (h := h0) (by omega)]; exact hX107⟩))⟩)
    · have hW9 : cW n ip h0 = 3 := hf1
      refine x_st (st1 := [.int 3]) rfl ?_
      refine x_istore_n [(1, .int 3), (0, .ref (g.2 0 + 258))] 8 C0 dX8_command_7 rfl rfl (by decide) rfl ?_
      refine x_lv (lv1 := [(0, .ref (g.2 0 + 258)), (1, .int 3)]) [1, 0] rfl ?_
      refine x_aload_n 0 9 C0 dX8_command_8 rfl rfl rfl ?_
      refine x_getf (v := .int (t1 11)) 19 12 C0 dX8_command_9 rfl MR_MW.o rfl (by decide) inX8 mF_X8_204 rfl ?_
      refine x_st (st1 := [.int 0]) (congrArg (fun z => Value.int z :: _) (hwr1)) ?_
      refine x_if_eq 16 15 C0 dX8_command_12 rfl (by decide) (fun _ => ?_) (fun q => False.elim (by revert q; decide))
      refine x_iload_n 1 17 C0 dX8_command_16 rfl rfl rfl ?_
      refine x_bipush (v := 6) 19 C0 dX8_command_17 rfl (by decide) ?_
      refine x_icmp_eq 33 22 C0 dX8_command_19 rfl (by decide) (fun q => False.elim (by revert q; decide)) (fun _ => ?_)
      refine x_aload_n 0 23 C0 dX8_command_22 rfl rfl rfl ?_
      refine x_getf (v := .ref (g.2 0 + 258 + 7)) 15 26 C0 dX8_command_23 rfl MR_MW.o rfl (by decide) inX8 mF_X8_28 rfl ?_
      refine x_iconst (v := 0) 27 C0 dX8_command_26 rfl (by decide) ?_
      refine x_aload_n 0 28 C0 dX8_command_27 rfl rfl rfl ?_
      refine x_iconst (v := 2) 29 C0 dX8_command_28 rfl (by decide) ?_
      refine x_callV 32 C0 (e_X8_number2 l hl g _ _ n t1 v bf sv pa lb ip td sg MR_MW hJ1 (c1 n ip h0) (mj_h hJ1 hp1 (by omega)) hp1) dX8_command_29 rfl mC_X8_number mM_X8_211 mI_X8_number mV_X8_number mN_X8 yd_X8_number rfl rfl ⟨Nat.le_of_ble_eq_true rfl, Nat.le_of_ble_eq_true rfl⟩ MR_MW.o rfl rfl rfl rfl (Nat.le_of_ble_eq_true rfl) ⟨Nat.le_of_ble_eq_true rfl, Nat.le_of_ble_eq_true rfl⟩ (fun _ _ _ q => False.elim q) (fun r w1 sz1 hz hP => ?_)
      obtain ⟨rfl, t110, rfl, hJ110, hW110, hR110⟩ := hP
      refine x_w MW_MW ?_
      rcases hR110 with ⟨hz110, rfl, ht110⟩ | ⟨hz110, hd110, rfl, hwr110, hp110⟩ | ⟨hz110, hd110, rfl, hwr110, hp110⟩
      · exact absurd hwr1 hz110
      · refine x_st (st1 := [.int 0, .int 0, .ref (g.2 0 + 258 + 7)]) rfl ?_
        refine x_iast 0 33 C0 dX8_command_32 rfl MR_MW.r_td (by show g.2 0 ≤ _; omega) rfl (vp_in_nI (n := 0) (by omega) (by decide)) ?_
        refine x_w (w1 := (MW g w t110 v bf sv pa lb ip (upd td 0 0) sg)) (by rw [show (0 : Int32).toNatClampNeg = 0 from nI_clamp (n := 0) (by omega)]; exact MW_td) ?_
        refine x_iload_n 1 34 C0 dX8_command_33 rfl rfl rfl ?_
        refine x_iconst (v := 1) 35 C0 dX8_command_34 rfl (by decide) ?_
        refine x_icmp_eq 43 38 C0 dX8_command_35 rfl (by decide) (fun q => False.elim (by revert q; decide)) (fun _ => ?_)
        refine x_iload_n 1 39 C0 dX8_command_38 rfl rfl rfl ?_
        refine x_iconst (v := 2) 40 C0 dX8_command_39 rfl (by decide) ?_
        refine x_icmp_ne 60 43 C0 dX8_command_40 rfl (by decide) (fun _ => ?_) (fun q => False.elim (by revert q; decide))
        refine x_iload_n 1 61 C0 dX8_command_60 rfl rfl rfl ?_
        refine x_iconst (v := 1) 62 C0 dX8_command_61 rfl (by decide) ?_
        refine x_icmp_ne 112 65 C0 dX8_command_62 rfl (by decide) (fun _ => ?_) (fun q => False.elim (by revert q; decide))
        refine x_aload_n 0 113 C0 dX8_command_112 rfl rfl rfl ?_
        refine x_getf (v := .int (t110 11)) 19 116 C0 dX8_command_113 rfl MR_MW.o rfl (by decide) inX8 mF_X8_204 rfl ?_
        refine x_st (st1 := [.int 1]) (congrArg (fun z => Value.int z :: _) (hwr110)) ?_
        refine x_if_ne 126 119 C0 dX8_command_116 rfl (by decide) (fun _ => ?_) (fun q => False.elim (by revert q; decide))
        exact x_return C0 dX8_command_126 rfl (Nat.le_of_ble_eq_true rfl) (Nat.le_of_ble_eq_true rfl) (cm_no (cr_n0 (by omega) (by omega) hd110) hJ110 (tW.tr hW1 hW110) hp110 hwr110 rfl)
      · refine x_st (st1 := [.int (nI (vN n ip (c1 n ip h0))), .int 0, .ref (g.2 0 + 258 + 7)]) rfl ?_
        refine x_iast 0 33 C0 dX8_command_32 rfl MR_MW.r_td (by show g.2 0 ≤ _; omega) rfl (vp_in_nI (n := 0) (by omega) (by decide)) ?_
        refine x_w (w1 := (MW g w t110 v bf sv pa lb ip (upd td 0 (nI (vN n ip (c1 n ip h0)))) sg)) (by rw [show (0 : Int32).toNatClampNeg = 0 from nI_clamp (n := 0) (by omega)]; exact MW_td) ?_
        refine x_iload_n 1 34 C0 dX8_command_33 rfl rfl rfl ?_
        refine x_iconst (v := 1) 35 C0 dX8_command_34 rfl (by decide) ?_
        refine x_icmp_eq 43 38 C0 dX8_command_35 rfl (by decide) (fun q => False.elim (by revert q; decide)) (fun _ => ?_)
        refine x_iload_n 1 39 C0 dX8_command_38 rfl rfl rfl ?_
        refine x_iconst (v := 2) 40 C0 dX8_command_39 rfl (by decide) ?_
        refine x_icmp_ne 60 43 C0 dX8_command_40 rfl (by decide) (fun _ => ?_) (fun q => False.elim (by revert q; decide))
        refine x_iload_n 1 61 C0 dX8_command_60 rfl rfl rfl ?_
        refine x_iconst (v := 1) 62 C0 dX8_command_61 rfl (by decide) ?_
        refine x_icmp_ne 112 65 C0 dX8_command_62 rfl (by decide) (fun _ => ?_) (fun q => False.elim (by revert q; decide))
        refine x_aload_n 0 113 C0 dX8_command_112 rfl rfl rfl ?_
        refine x_getf (v := .int (t110 11)) 19 116 C0 dX8_command_113 rfl MR_MW.o rfl (by decide) inX8 mF_X8_204 rfl ?_
        refine x_st (st1 := [.int 0]) (congrArg (fun z => Value.int z :: _) (hwr110)) ?_
        refine x_if_ne 126 119 C0 dX8_command_116 rfl (by decide) (fun q => False.elim (by revert q; decide)) (fun _ => ?_)
        refine x_aload_n 0 120 C0 dX8_command_119 rfl rfl rfl ?_
        refine x_getf (v := .int (t110 12)) 20 123 C0 dX8_command_120 rfl MR_MW.o rfl (by decide) inX8 mF_X8_217 rfl ?_
        refine x_st (st1 := [.int 1]) (congrArg (fun z => Value.int z :: _) (((tW.tr hW1 hW110) 12 (by decide) (by decide)).trans hdo)) ?_
        refine x_if_ne 127 126 C0 dX8_command_123 rfl (by decide) (fun _ => ?_) (fun q => False.elim (by revert q; decide))
        refine x_aload_n 0 128 C0 dX8_command_127 rfl rfl rfl ?_
        refine x_iload_n 1 129 C0 dX8_command_128 rfl rfl rfl ?_
        refine x_callV 132 C0 (e_X8_does3 l hl g _ _ n t110 v bf sv pa lb ip (upd td 0 (nI (vN n ip (c1 n ip h0)))) sg MR_MW hJ110) dX8_command_129 rfl mC_X8_does mM_X8_220 mI_X8_does mV_X8_does mN_X8 yd_X8_does rfl rfl ⟨Nat.le_of_ble_eq_true rfl, Nat.le_of_ble_eq_true rfl⟩ MR_MW.o rfl rfl rfl rfl (Nat.le_of_ble_eq_true rfl) ⟨Nat.le_of_ble_eq_true rfl, Nat.le_of_ble_eq_true rfl⟩ (fun _ _ _ q => False.elim q) (fun r w1 sz1 hz hP => ?_)
        obtain ⟨rfl, t122, v122, lb122, rfl, hJ122, ⟨⟨a122, rfl⟩, he122⟩, hX122⟩ := hP
        refine x_w MW_MW ?_
        refine x_st (st1 := [.int a122]) rfl ?_
        refine x_istore_n [(2, .int a122), (0, .ref (g.2 0 + 258)), (1, .int 3)] 133 C0 dX8_command_132 rfl rfl (by decide) rfl ?_
        refine x_lv (lv1 := [(0, .ref (g.2 0 + 258)), (1, .int 3), (2, .int a122)]) [1, 2, 0] rfl ?_
        exact x_return C0 dX8_command_133 rfl (Nat.le_of_ble_eq_true rfl) (Nat.le_of_ble_eq_true rfl) (cm_y1 (cr_n1 (by omega) (by omega) (by omega) (by omega) hd110) hJ110 (tW.tr hW1 hW110) hp110 hwr110 ⟨_, _, _, _, rfl, hJ122, he122, Or.inr (Or.inr (Or.inr (Or.inl ⟨hW9, by rw [nmA_e (n := n) (ip := ip) (h := h0) (by omega)]; exact hX122⟩)))⟩)
    · have hW9 : cW n ip h0 = 4 := hf1
      refine x_st (st1 := [.int 4]) rfl ?_
      refine x_istore_n [(1, .int 4), (0, .ref (g.2 0 + 258))] 8 C0 dX8_command_7 rfl rfl (by decide) rfl ?_
      refine x_lv (lv1 := [(0, .ref (g.2 0 + 258)), (1, .int 4)]) [1, 0] rfl ?_
      refine x_aload_n 0 9 C0 dX8_command_8 rfl rfl rfl ?_
      refine x_getf (v := .int (t1 11)) 19 12 C0 dX8_command_9 rfl MR_MW.o rfl (by decide) inX8 mF_X8_204 rfl ?_
      refine x_st (st1 := [.int 0]) (congrArg (fun z => Value.int z :: _) (hwr1)) ?_
      refine x_if_eq 16 15 C0 dX8_command_12 rfl (by decide) (fun _ => ?_) (fun q => False.elim (by revert q; decide))
      refine x_iload_n 1 17 C0 dX8_command_16 rfl rfl rfl ?_
      refine x_bipush (v := 6) 19 C0 dX8_command_17 rfl (by decide) ?_
      refine x_icmp_eq 33 22 C0 dX8_command_19 rfl (by decide) (fun q => False.elim (by revert q; decide)) (fun _ => ?_)
      refine x_aload_n 0 23 C0 dX8_command_22 rfl rfl rfl ?_
      refine x_getf (v := .ref (g.2 0 + 258 + 7)) 15 26 C0 dX8_command_23 rfl MR_MW.o rfl (by decide) inX8 mF_X8_28 rfl ?_
      refine x_iconst (v := 0) 27 C0 dX8_command_26 rfl (by decide) ?_
      refine x_aload_n 0 28 C0 dX8_command_27 rfl rfl rfl ?_
      refine x_iconst (v := 2) 29 C0 dX8_command_28 rfl (by decide) ?_
      refine x_callV 32 C0 (e_X8_number2 l hl g _ _ n t1 v bf sv pa lb ip td sg MR_MW hJ1 (c1 n ip h0) (mj_h hJ1 hp1 (by omega)) hp1) dX8_command_29 rfl mC_X8_number mM_X8_211 mI_X8_number mV_X8_number mN_X8 yd_X8_number rfl rfl ⟨Nat.le_of_ble_eq_true rfl, Nat.le_of_ble_eq_true rfl⟩ MR_MW.o rfl rfl rfl rfl (Nat.le_of_ble_eq_true rfl) ⟨Nat.le_of_ble_eq_true rfl, Nat.le_of_ble_eq_true rfl⟩ (fun _ _ _ q => False.elim q) (fun r w1 sz1 hz hP => ?_)
      obtain ⟨rfl, t125, rfl, hJ125, hW125, hR125⟩ := hP
      refine x_w MW_MW ?_
      rcases hR125 with ⟨hz125, rfl, ht125⟩ | ⟨hz125, hd125, rfl, hwr125, hp125⟩ | ⟨hz125, hd125, rfl, hwr125, hp125⟩
      · exact absurd hwr1 hz125
      · refine x_st (st1 := [.int 0, .int 0, .ref (g.2 0 + 258 + 7)]) rfl ?_
        refine x_iast 0 33 C0 dX8_command_32 rfl MR_MW.r_td (by show g.2 0 ≤ _; omega) rfl (vp_in_nI (n := 0) (by omega) (by decide)) ?_
        refine x_w (w1 := (MW g w t125 v bf sv pa lb ip (upd td 0 0) sg)) (by rw [show (0 : Int32).toNatClampNeg = 0 from nI_clamp (n := 0) (by omega)]; exact MW_td) ?_
        refine x_iload_n 1 34 C0 dX8_command_33 rfl rfl rfl ?_
        refine x_iconst (v := 1) 35 C0 dX8_command_34 rfl (by decide) ?_
        refine x_icmp_eq 43 38 C0 dX8_command_35 rfl (by decide) (fun q => False.elim (by revert q; decide)) (fun _ => ?_)
        refine x_iload_n 1 39 C0 dX8_command_38 rfl rfl rfl ?_
        refine x_iconst (v := 2) 40 C0 dX8_command_39 rfl (by decide) ?_
        refine x_icmp_ne 60 43 C0 dX8_command_40 rfl (by decide) (fun _ => ?_) (fun q => False.elim (by revert q; decide))
        refine x_iload_n 1 61 C0 dX8_command_60 rfl rfl rfl ?_
        refine x_iconst (v := 1) 62 C0 dX8_command_61 rfl (by decide) ?_
        refine x_icmp_ne 112 65 C0 dX8_command_62 rfl (by decide) (fun _ => ?_) (fun q => False.elim (by revert q; decide))
        refine x_aload_n 0 113 C0 dX8_command_112 rfl rfl rfl ?_
        refine x_getf (v := .int (t125 11)) 19 116 C0 dX8_command_113 rfl MR_MW.o rfl (by decide) inX8 mF_X8_204 rfl ?_
        refine x_st (st1 := [.int 1]) (congrArg (fun z => Value.int z :: _) (hwr125)) ?_
        refine x_if_ne 126 119 C0 dX8_command_116 rfl (by decide) (fun _ => ?_) (fun q => False.elim (by revert q; decide))
        exact x_return C0 dX8_command_126 rfl (Nat.le_of_ble_eq_true rfl) (Nat.le_of_ble_eq_true rfl) (cm_no (cr_n0 (by omega) (by omega) hd125) hJ125 (tW.tr hW1 hW125) hp125 hwr125 rfl)
      · refine x_st (st1 := [.int (nI (vN n ip (c1 n ip h0))), .int 0, .ref (g.2 0 + 258 + 7)]) rfl ?_
        refine x_iast 0 33 C0 dX8_command_32 rfl MR_MW.r_td (by show g.2 0 ≤ _; omega) rfl (vp_in_nI (n := 0) (by omega) (by decide)) ?_
        refine x_w (w1 := (MW g w t125 v bf sv pa lb ip (upd td 0 (nI (vN n ip (c1 n ip h0)))) sg)) (by rw [show (0 : Int32).toNatClampNeg = 0 from nI_clamp (n := 0) (by omega)]; exact MW_td) ?_
        refine x_iload_n 1 34 C0 dX8_command_33 rfl rfl rfl ?_
        refine x_iconst (v := 1) 35 C0 dX8_command_34 rfl (by decide) ?_
        refine x_icmp_eq 43 38 C0 dX8_command_35 rfl (by decide) (fun q => False.elim (by revert q; decide)) (fun _ => ?_)
        refine x_iload_n 1 39 C0 dX8_command_38 rfl rfl rfl ?_
        refine x_iconst (v := 2) 40 C0 dX8_command_39 rfl (by decide) ?_
        refine x_icmp_ne 60 43 C0 dX8_command_40 rfl (by decide) (fun _ => ?_) (fun q => False.elim (by revert q; decide))
        refine x_iload_n 1 61 C0 dX8_command_60 rfl rfl rfl ?_
        refine x_iconst (v := 1) 62 C0 dX8_command_61 rfl (by decide) ?_
        refine x_icmp_ne 112 65 C0 dX8_command_62 rfl (by decide) (fun _ => ?_) (fun q => False.elim (by revert q; decide))
        refine x_aload_n 0 113 C0 dX8_command_112 rfl rfl rfl ?_
        refine x_getf (v := .int (t125 11)) 19 116 C0 dX8_command_113 rfl MR_MW.o rfl (by decide) inX8 mF_X8_204 rfl ?_
        refine x_st (st1 := [.int 0]) (congrArg (fun z => Value.int z :: _) (hwr125)) ?_
        refine x_if_ne 126 119 C0 dX8_command_116 rfl (by decide) (fun q => False.elim (by revert q; decide)) (fun _ => ?_)
        refine x_aload_n 0 120 C0 dX8_command_119 rfl rfl rfl ?_
        refine x_getf (v := .int (t125 12)) 20 123 C0 dX8_command_120 rfl MR_MW.o rfl (by decide) inX8 mF_X8_217 rfl ?_
        refine x_st (st1 := [.int 1]) (congrArg (fun z => Value.int z :: _) (((tW.tr hW1 hW125) 12 (by decide) (by decide)).trans hdo)) ?_
        refine x_if_ne 127 126 C0 dX8_command_123 rfl (by decide) (fun _ => ?_) (fun q => False.elim (by revert q; decide))
        refine x_aload_n 0 128 C0 dX8_command_127 rfl rfl rfl ?_
        refine x_iload_n 1 129 C0 dX8_command_128 rfl rfl rfl ?_
        refine x_callV 132 C0 (e_X8_does4 l hl g _ _ n t125 v bf sv pa lb ip (upd td 0 (nI (vN n ip (c1 n ip h0)))) sg MR_MW hJ125) dX8_command_129 rfl mC_X8_does mM_X8_220 mI_X8_does mV_X8_does mN_X8 yd_X8_does rfl rfl ⟨Nat.le_of_ble_eq_true rfl, Nat.le_of_ble_eq_true rfl⟩ MR_MW.o rfl rfl rfl rfl (Nat.le_of_ble_eq_true rfl) ⟨Nat.le_of_ble_eq_true rfl, Nat.le_of_ble_eq_true rfl⟩ (fun _ _ _ q => False.elim q) (fun r w1 sz1 hz hP => ?_)
        obtain ⟨rfl, t137, v137, lb137, rfl, hJ137, ⟨⟨a137, rfl⟩, he137⟩, hX137⟩ := hP
        refine x_w MW_MW ?_
        refine x_st (st1 := [.int a137]) rfl ?_
        refine x_istore_n [(2, .int a137), (0, .ref (g.2 0 + 258)), (1, .int 4)] 133 C0 dX8_command_132 rfl rfl (by decide) rfl ?_
        refine x_lv (lv1 := [(0, .ref (g.2 0 + 258)), (1, .int 4), (2, .int a137)]) [1, 2, 0] rfl ?_
        exact x_return C0 dX8_command_133 rfl (Nat.le_of_ble_eq_true rfl) (Nat.le_of_ble_eq_true rfl) (cm_y1 (cr_n1 (by omega) (by omega) (by omega) (by omega) hd125) hJ125 (tW.tr hW1 hW125) hp125 hwr125 ⟨_, _, _, _, rfl, hJ137, he137, Or.inr (Or.inr (Or.inr (Or.inr (Or.inl ⟨hW9, by rw [nmA_e (n := n) (ip := ip) (h := h0) (by omega)]; exact hX137⟩))))⟩)
    · have hW9 : cW n ip h0 = 5 := hf1
      refine x_st (st1 := [.int 5]) rfl ?_
      refine x_istore_n [(1, .int 5), (0, .ref (g.2 0 + 258))] 8 C0 dX8_command_7 rfl rfl (by decide) rfl ?_
      refine x_lv (lv1 := [(0, .ref (g.2 0 + 258)), (1, .int 5)]) [1, 0] rfl ?_
      refine x_aload_n 0 9 C0 dX8_command_8 rfl rfl rfl ?_
      refine x_getf (v := .int (t1 11)) 19 12 C0 dX8_command_9 rfl MR_MW.o rfl (by decide) inX8 mF_X8_204 rfl ?_
      refine x_st (st1 := [.int 0]) (congrArg (fun z => Value.int z :: _) (hwr1)) ?_
      refine x_if_eq 16 15 C0 dX8_command_12 rfl (by decide) (fun _ => ?_) (fun q => False.elim (by revert q; decide))
      refine x_iload_n 1 17 C0 dX8_command_16 rfl rfl rfl ?_
      refine x_bipush (v := 6) 19 C0 dX8_command_17 rfl (by decide) ?_
      refine x_icmp_eq 33 22 C0 dX8_command_19 rfl (by decide) (fun q => False.elim (by revert q; decide)) (fun _ => ?_)
      refine x_aload_n 0 23 C0 dX8_command_22 rfl rfl rfl ?_
      refine x_getf (v := .ref (g.2 0 + 258 + 7)) 15 26 C0 dX8_command_23 rfl MR_MW.o rfl (by decide) inX8 mF_X8_28 rfl ?_
      refine x_iconst (v := 0) 27 C0 dX8_command_26 rfl (by decide) ?_
      refine x_aload_n 0 28 C0 dX8_command_27 rfl rfl rfl ?_
      refine x_iconst (v := 2) 29 C0 dX8_command_28 rfl (by decide) ?_
      refine x_callV 32 C0 (e_X8_number2 l hl g _ _ n t1 v bf sv pa lb ip td sg MR_MW hJ1 (c1 n ip h0) (mj_h hJ1 hp1 (by omega)) hp1) dX8_command_29 rfl mC_X8_number mM_X8_211 mI_X8_number mV_X8_number mN_X8 yd_X8_number rfl rfl ⟨Nat.le_of_ble_eq_true rfl, Nat.le_of_ble_eq_true rfl⟩ MR_MW.o rfl rfl rfl rfl (Nat.le_of_ble_eq_true rfl) ⟨Nat.le_of_ble_eq_true rfl, Nat.le_of_ble_eq_true rfl⟩ (fun _ _ _ q => False.elim q) (fun r w1 sz1 hz hP => ?_)
      obtain ⟨rfl, t140, rfl, hJ140, hW140, hR140⟩ := hP
      refine x_w MW_MW ?_
      rcases hR140 with ⟨hz140, rfl, ht140⟩ | ⟨hz140, hd140, rfl, hwr140, hp140⟩ | ⟨hz140, hd140, rfl, hwr140, hp140⟩
      · exact absurd hwr1 hz140
      · refine x_st (st1 := [.int 0, .int 0, .ref (g.2 0 + 258 + 7)]) rfl ?_
        refine x_iast 0 33 C0 dX8_command_32 rfl MR_MW.r_td (by show g.2 0 ≤ _; omega) rfl (vp_in_nI (n := 0) (by omega) (by decide)) ?_
        refine x_w (w1 := (MW g w t140 v bf sv pa lb ip (upd td 0 0) sg)) (by rw [show (0 : Int32).toNatClampNeg = 0 from nI_clamp (n := 0) (by omega)]; exact MW_td) ?_
        refine x_iload_n 1 34 C0 dX8_command_33 rfl rfl rfl ?_
        refine x_iconst (v := 1) 35 C0 dX8_command_34 rfl (by decide) ?_
        refine x_icmp_eq 43 38 C0 dX8_command_35 rfl (by decide) (fun q => False.elim (by revert q; decide)) (fun _ => ?_)
        refine x_iload_n 1 39 C0 dX8_command_38 rfl rfl rfl ?_
        refine x_iconst (v := 2) 40 C0 dX8_command_39 rfl (by decide) ?_
        refine x_icmp_ne 60 43 C0 dX8_command_40 rfl (by decide) (fun _ => ?_) (fun q => False.elim (by revert q; decide))
        refine x_iload_n 1 61 C0 dX8_command_60 rfl rfl rfl ?_
        refine x_iconst (v := 1) 62 C0 dX8_command_61 rfl (by decide) ?_
        refine x_icmp_ne 112 65 C0 dX8_command_62 rfl (by decide) (fun _ => ?_) (fun q => False.elim (by revert q; decide))
        refine x_aload_n 0 113 C0 dX8_command_112 rfl rfl rfl ?_
        refine x_getf (v := .int (t140 11)) 19 116 C0 dX8_command_113 rfl MR_MW.o rfl (by decide) inX8 mF_X8_204 rfl ?_
        refine x_st (st1 := [.int 1]) (congrArg (fun z => Value.int z :: _) (hwr140)) ?_
        refine x_if_ne 126 119 C0 dX8_command_116 rfl (by decide) (fun _ => ?_) (fun q => False.elim (by revert q; decide))
        exact x_return C0 dX8_command_126 rfl (Nat.le_of_ble_eq_true rfl) (Nat.le_of_ble_eq_true rfl) (cm_no (cr_n0 (by omega) (by omega) hd140) hJ140 (tW.tr hW1 hW140) hp140 hwr140 rfl)
      · refine x_st (st1 := [.int (nI (vN n ip (c1 n ip h0))), .int 0, .ref (g.2 0 + 258 + 7)]) rfl ?_
        refine x_iast 0 33 C0 dX8_command_32 rfl MR_MW.r_td (by show g.2 0 ≤ _; omega) rfl (vp_in_nI (n := 0) (by omega) (by decide)) ?_
        refine x_w (w1 := (MW g w t140 v bf sv pa lb ip (upd td 0 (nI (vN n ip (c1 n ip h0)))) sg)) (by rw [show (0 : Int32).toNatClampNeg = 0 from nI_clamp (n := 0) (by omega)]; exact MW_td) ?_
        refine x_iload_n 1 34 C0 dX8_command_33 rfl rfl rfl ?_
        refine x_iconst (v := 1) 35 C0 dX8_command_34 rfl (by decide) ?_
        refine x_icmp_eq 43 38 C0 dX8_command_35 rfl (by decide) (fun q => False.elim (by revert q; decide)) (fun _ => ?_)
        refine x_iload_n 1 39 C0 dX8_command_38 rfl rfl rfl ?_
        refine x_iconst (v := 2) 40 C0 dX8_command_39 rfl (by decide) ?_
        refine x_icmp_ne 60 43 C0 dX8_command_40 rfl (by decide) (fun _ => ?_) (fun q => False.elim (by revert q; decide))
        refine x_iload_n 1 61 C0 dX8_command_60 rfl rfl rfl ?_
        refine x_iconst (v := 1) 62 C0 dX8_command_61 rfl (by decide) ?_
        refine x_icmp_ne 112 65 C0 dX8_command_62 rfl (by decide) (fun _ => ?_) (fun q => False.elim (by revert q; decide))
        refine x_aload_n 0 113 C0 dX8_command_112 rfl rfl rfl ?_
        refine x_getf (v := .int (t140 11)) 19 116 C0 dX8_command_113 rfl MR_MW.o rfl (by decide) inX8 mF_X8_204 rfl ?_
        refine x_st (st1 := [.int 0]) (congrArg (fun z => Value.int z :: _) (hwr140)) ?_
        refine x_if_ne 126 119 C0 dX8_command_116 rfl (by decide) (fun q => False.elim (by revert q; decide)) (fun _ => ?_)
        refine x_aload_n 0 120 C0 dX8_command_119 rfl rfl rfl ?_
        refine x_getf (v := .int (t140 12)) 20 123 C0 dX8_command_120 rfl MR_MW.o rfl (by decide) inX8 mF_X8_217 rfl ?_
        refine x_st (st1 := [.int 1]) (congrArg (fun z => Value.int z :: _) (((tW.tr hW1 hW140) 12 (by decide) (by decide)).trans hdo)) ?_
        refine x_if_ne 127 126 C0 dX8_command_123 rfl (by decide) (fun _ => ?_) (fun q => False.elim (by revert q; decide))
        refine x_aload_n 0 128 C0 dX8_command_127 rfl rfl rfl ?_
        refine x_iload_n 1 129 C0 dX8_command_128 rfl rfl rfl ?_
        refine x_callV 132 C0 (e_X8_does5 l hl g _ _ n t140 v bf sv pa lb ip (upd td 0 (nI (vN n ip (c1 n ip h0)))) sg MR_MW hJ140) dX8_command_129 rfl mC_X8_does mM_X8_220 mI_X8_does mV_X8_does mN_X8 yd_X8_does rfl rfl ⟨Nat.le_of_ble_eq_true rfl, Nat.le_of_ble_eq_true rfl⟩ MR_MW.o rfl rfl rfl rfl (Nat.le_of_ble_eq_true rfl) ⟨Nat.le_of_ble_eq_true rfl, Nat.le_of_ble_eq_true rfl⟩ (fun _ _ _ q => False.elim q) (fun r w1 sz1 hz hP => ?_)
        obtain ⟨rfl, t152, v152, lb152, rfl, hJ152, ⟨⟨a152, rfl⟩, he152⟩, hX152⟩ := hP
        refine x_w MW_MW ?_
        refine x_st (st1 := [.int a152]) rfl ?_
        refine x_istore_n [(2, .int a152), (0, .ref (g.2 0 + 258)), (1, .int 5)] 133 C0 dX8_command_132 rfl rfl (by decide) rfl ?_
        refine x_lv (lv1 := [(0, .ref (g.2 0 + 258)), (1, .int 5), (2, .int a152)]) [1, 2, 0] rfl ?_
        exact x_return C0 dX8_command_133 rfl (Nat.le_of_ble_eq_true rfl) (Nat.le_of_ble_eq_true rfl) (cm_y1 (cr_n1 (by omega) (by omega) (by omega) (by omega) hd140) hJ140 (tW.tr hW1 hW140) hp140 hwr140 ⟨_, _, _, _, rfl, hJ152, he152, Or.inr (Or.inr (Or.inr (Or.inr (Or.inr (Or.inl ⟨hW9, by rw [nmA_e (n := n) (ip := ip) (h := h0) (by omega)]; exact hX152⟩)))))⟩)
    · have hW9 : cW n ip h0 = 6 := hf1
      refine x_st (st1 := [.int 6]) rfl ?_
      refine x_istore_n [(1, .int 6), (0, .ref (g.2 0 + 258))] 8 C0 dX8_command_7 rfl rfl (by decide) rfl ?_
      refine x_lv (lv1 := [(0, .ref (g.2 0 + 258)), (1, .int 6)]) [1, 0] rfl ?_
      refine x_aload_n 0 9 C0 dX8_command_8 rfl rfl rfl ?_
      refine x_getf (v := .int (t1 11)) 19 12 C0 dX8_command_9 rfl MR_MW.o rfl (by decide) inX8 mF_X8_204 rfl ?_
      refine x_st (st1 := [.int 0]) (congrArg (fun z => Value.int z :: _) (hwr1)) ?_
      refine x_if_eq 16 15 C0 dX8_command_12 rfl (by decide) (fun _ => ?_) (fun q => False.elim (by revert q; decide))
      refine x_iload_n 1 17 C0 dX8_command_16 rfl rfl rfl ?_
      refine x_bipush (v := 6) 19 C0 dX8_command_17 rfl (by decide) ?_
      refine x_icmp_eq 33 22 C0 dX8_command_19 rfl (by decide) (fun _ => ?_) (fun q => False.elim (by revert q; decide))
      refine x_iload_n 1 34 C0 dX8_command_33 rfl rfl rfl ?_
      refine x_iconst (v := 1) 35 C0 dX8_command_34 rfl (by decide) ?_
      refine x_icmp_eq 43 38 C0 dX8_command_35 rfl (by decide) (fun q => False.elim (by revert q; decide)) (fun _ => ?_)
      refine x_iload_n 1 39 C0 dX8_command_38 rfl rfl rfl ?_
      refine x_iconst (v := 2) 40 C0 dX8_command_39 rfl (by decide) ?_
      refine x_icmp_ne 60 43 C0 dX8_command_40 rfl (by decide) (fun _ => ?_) (fun q => False.elim (by revert q; decide))
      refine x_iload_n 1 61 C0 dX8_command_60 rfl rfl rfl ?_
      refine x_iconst (v := 1) 62 C0 dX8_command_61 rfl (by decide) ?_
      refine x_icmp_ne 112 65 C0 dX8_command_62 rfl (by decide) (fun _ => ?_) (fun q => False.elim (by revert q; decide))
      refine x_aload_n 0 113 C0 dX8_command_112 rfl rfl rfl ?_
      refine x_getf (v := .int (t1 11)) 19 116 C0 dX8_command_113 rfl MR_MW.o rfl (by decide) inX8 mF_X8_204 rfl ?_
      refine x_st (st1 := [.int 0]) (congrArg (fun z => Value.int z :: _) (hwr1)) ?_
      refine x_if_ne 126 119 C0 dX8_command_116 rfl (by decide) (fun q => False.elim (by revert q; decide)) (fun _ => ?_)
      refine x_aload_n 0 120 C0 dX8_command_119 rfl rfl rfl ?_
      refine x_getf (v := .int (t1 12)) 20 123 C0 dX8_command_120 rfl MR_MW.o rfl (by decide) inX8 mF_X8_217 rfl ?_
      refine x_st (st1 := [.int 1]) (congrArg (fun z => Value.int z :: _) ((hW1 12 (by decide) (by decide)).trans hdo)) ?_
      refine x_if_ne 127 126 C0 dX8_command_123 rfl (by decide) (fun _ => ?_) (fun q => False.elim (by revert q; decide))
      refine x_aload_n 0 128 C0 dX8_command_127 rfl rfl rfl ?_
      refine x_iload_n 1 129 C0 dX8_command_128 rfl rfl rfl ?_
      refine x_callV 132 C0 (e_X8_does6 l hl g _ _ n t1 v bf sv pa lb ip td sg MR_MW hJ1) dX8_command_129 rfl mC_X8_does mM_X8_220 mI_X8_does mV_X8_does mN_X8 yd_X8_does rfl rfl ⟨Nat.le_of_ble_eq_true rfl, Nat.le_of_ble_eq_true rfl⟩ MR_MW.o rfl rfl rfl rfl (Nat.le_of_ble_eq_true rfl) ⟨Nat.le_of_ble_eq_true rfl, Nat.le_of_ble_eq_true rfl⟩ (fun _ _ _ q => False.elim q) (fun r w1 sz1 hz hP => ?_)
      obtain ⟨rfl, t160, v160, lb160, rfl, hJ160, ⟨⟨a160, rfl⟩, he160⟩, hX160⟩ := hP
      refine x_w MW_MW ?_
      refine x_st (st1 := [.int a160]) rfl ?_
      refine x_istore_n [(2, .int a160), (0, .ref (g.2 0 + 258)), (1, .int 6)] 133 C0 dX8_command_132 rfl rfl (by decide) rfl ?_
      refine x_lv (lv1 := [(0, .ref (g.2 0 + 258)), (1, .int 6), (2, .int a160)]) [1, 2, 0] rfl ?_
      exact x_return C0 dX8_command_133 rfl (Nat.le_of_ble_eq_true rfl) (Nat.le_of_ble_eq_true rfl) (cm_y1 (cr_sail hW9) hJ1 hW1 hp1 hwr1 ⟨_, _, _, _, rfl, hJ160, he160, Or.inr (Or.inr (Or.inr (Or.inr (Or.inr (Or.inr (Or.inl ⟨hW9, hX160⟩))))))⟩)
    · have hW9 : cW n ip h0 = 7 := hf1
      refine x_st (st1 := [.int 7]) rfl ?_
      refine x_istore_n [(1, .int 7), (0, .ref (g.2 0 + 258))] 8 C0 dX8_command_7 rfl rfl (by decide) rfl ?_
      refine x_lv (lv1 := [(0, .ref (g.2 0 + 258)), (1, .int 7)]) [1, 0] rfl ?_
      refine x_aload_n 0 9 C0 dX8_command_8 rfl rfl rfl ?_
      refine x_getf (v := .int (t1 11)) 19 12 C0 dX8_command_9 rfl MR_MW.o rfl (by decide) inX8 mF_X8_204 rfl ?_
      refine x_st (st1 := [.int 0]) (congrArg (fun z => Value.int z :: _) (hwr1)) ?_
      refine x_if_eq 16 15 C0 dX8_command_12 rfl (by decide) (fun _ => ?_) (fun q => False.elim (by revert q; decide))
      refine x_iload_n 1 17 C0 dX8_command_16 rfl rfl rfl ?_
      refine x_bipush (v := 6) 19 C0 dX8_command_17 rfl (by decide) ?_
      refine x_icmp_eq 33 22 C0 dX8_command_19 rfl (by decide) (fun q => False.elim (by revert q; decide)) (fun _ => ?_)
      refine x_aload_n 0 23 C0 dX8_command_22 rfl rfl rfl ?_
      refine x_getf (v := .ref (g.2 0 + 258 + 7)) 15 26 C0 dX8_command_23 rfl MR_MW.o rfl (by decide) inX8 mF_X8_28 rfl ?_
      refine x_iconst (v := 0) 27 C0 dX8_command_26 rfl (by decide) ?_
      refine x_aload_n 0 28 C0 dX8_command_27 rfl rfl rfl ?_
      refine x_iconst (v := 2) 29 C0 dX8_command_28 rfl (by decide) ?_
      refine x_callV 32 C0 (e_X8_number2 l hl g _ _ n t1 v bf sv pa lb ip td sg MR_MW hJ1 (c1 n ip h0) (mj_h hJ1 hp1 (by omega)) hp1) dX8_command_29 rfl mC_X8_number mM_X8_211 mI_X8_number mV_X8_number mN_X8 yd_X8_number rfl rfl ⟨Nat.le_of_ble_eq_true rfl, Nat.le_of_ble_eq_true rfl⟩ MR_MW.o rfl rfl rfl rfl (Nat.le_of_ble_eq_true rfl) ⟨Nat.le_of_ble_eq_true rfl, Nat.le_of_ble_eq_true rfl⟩ (fun _ _ _ q => False.elim q) (fun r w1 sz1 hz hP => ?_)
      obtain ⟨rfl, t163, rfl, hJ163, hW163, hR163⟩ := hP
      refine x_w MW_MW ?_
      rcases hR163 with ⟨hz163, rfl, ht163⟩ | ⟨hz163, hd163, rfl, hwr163, hp163⟩ | ⟨hz163, hd163, rfl, hwr163, hp163⟩
      · exact absurd hwr1 hz163
      · refine x_st (st1 := [.int 0, .int 0, .ref (g.2 0 + 258 + 7)]) rfl ?_
        refine x_iast 0 33 C0 dX8_command_32 rfl MR_MW.r_td (by show g.2 0 ≤ _; omega) rfl (vp_in_nI (n := 0) (by omega) (by decide)) ?_
        refine x_w (w1 := (MW g w t163 v bf sv pa lb ip (upd td 0 0) sg)) (by rw [show (0 : Int32).toNatClampNeg = 0 from nI_clamp (n := 0) (by omega)]; exact MW_td) ?_
        refine x_iload_n 1 34 C0 dX8_command_33 rfl rfl rfl ?_
        refine x_iconst (v := 1) 35 C0 dX8_command_34 rfl (by decide) ?_
        refine x_icmp_eq 43 38 C0 dX8_command_35 rfl (by decide) (fun q => False.elim (by revert q; decide)) (fun _ => ?_)
        refine x_iload_n 1 39 C0 dX8_command_38 rfl rfl rfl ?_
        refine x_iconst (v := 2) 40 C0 dX8_command_39 rfl (by decide) ?_
        refine x_icmp_ne 60 43 C0 dX8_command_40 rfl (by decide) (fun _ => ?_) (fun q => False.elim (by revert q; decide))
        refine x_iload_n 1 61 C0 dX8_command_60 rfl rfl rfl ?_
        refine x_iconst (v := 1) 62 C0 dX8_command_61 rfl (by decide) ?_
        refine x_icmp_ne 112 65 C0 dX8_command_62 rfl (by decide) (fun _ => ?_) (fun q => False.elim (by revert q; decide))
        refine x_aload_n 0 113 C0 dX8_command_112 rfl rfl rfl ?_
        refine x_getf (v := .int (t163 11)) 19 116 C0 dX8_command_113 rfl MR_MW.o rfl (by decide) inX8 mF_X8_204 rfl ?_
        refine x_st (st1 := [.int 1]) (congrArg (fun z => Value.int z :: _) (hwr163)) ?_
        refine x_if_ne 126 119 C0 dX8_command_116 rfl (by decide) (fun _ => ?_) (fun q => False.elim (by revert q; decide))
        exact x_return C0 dX8_command_126 rfl (Nat.le_of_ble_eq_true rfl) (Nat.le_of_ble_eq_true rfl) (cm_no (cr_n0 (by omega) (by omega) hd163) hJ163 (tW.tr hW1 hW163) hp163 hwr163 rfl)
      · refine x_st (st1 := [.int (nI (vN n ip (c1 n ip h0))), .int 0, .ref (g.2 0 + 258 + 7)]) rfl ?_
        refine x_iast 0 33 C0 dX8_command_32 rfl MR_MW.r_td (by show g.2 0 ≤ _; omega) rfl (vp_in_nI (n := 0) (by omega) (by decide)) ?_
        refine x_w (w1 := (MW g w t163 v bf sv pa lb ip (upd td 0 (nI (vN n ip (c1 n ip h0)))) sg)) (by rw [show (0 : Int32).toNatClampNeg = 0 from nI_clamp (n := 0) (by omega)]; exact MW_td) ?_
        refine x_iload_n 1 34 C0 dX8_command_33 rfl rfl rfl ?_
        refine x_iconst (v := 1) 35 C0 dX8_command_34 rfl (by decide) ?_
        refine x_icmp_eq 43 38 C0 dX8_command_35 rfl (by decide) (fun q => False.elim (by revert q; decide)) (fun _ => ?_)
        refine x_iload_n 1 39 C0 dX8_command_38 rfl rfl rfl ?_
        refine x_iconst (v := 2) 40 C0 dX8_command_39 rfl (by decide) ?_
        refine x_icmp_ne 60 43 C0 dX8_command_40 rfl (by decide) (fun _ => ?_) (fun q => False.elim (by revert q; decide))
        refine x_iload_n 1 61 C0 dX8_command_60 rfl rfl rfl ?_
        refine x_iconst (v := 1) 62 C0 dX8_command_61 rfl (by decide) ?_
        refine x_icmp_ne 112 65 C0 dX8_command_62 rfl (by decide) (fun _ => ?_) (fun q => False.elim (by revert q; decide))
        refine x_aload_n 0 113 C0 dX8_command_112 rfl rfl rfl ?_
        refine x_getf (v := .int (t163 11)) 19 116 C0 dX8_command_113 rfl MR_MW.o rfl (by decide) inX8 mF_X8_204 rfl ?_
        refine x_st (st1 := [.int 0]) (congrArg (fun z => Value.int z :: _) (hwr163)) ?_
        refine x_if_ne 126 119 C0 dX8_command_116 rfl (by decide) (fun q => False.elim (by revert q; decide)) (fun _ => ?_)
        refine x_aload_n 0 120 C0 dX8_command_119 rfl rfl rfl ?_
        refine x_getf (v := .int (t163 12)) 20 123 C0 dX8_command_120 rfl MR_MW.o rfl (by decide) inX8 mF_X8_217 rfl ?_
        refine x_st (st1 := [.int 1]) (congrArg (fun z => Value.int z :: _) (((tW.tr hW1 hW163) 12 (by decide) (by decide)).trans hdo)) ?_
        refine x_if_ne 127 126 C0 dX8_command_123 rfl (by decide) (fun _ => ?_) (fun q => False.elim (by revert q; decide))
        refine x_aload_n 0 128 C0 dX8_command_127 rfl rfl rfl ?_
        refine x_iload_n 1 129 C0 dX8_command_128 rfl rfl rfl ?_
        refine x_callV 132 C0 (e_X8_does7 l hl g _ _ n t163 v bf sv pa lb ip (upd td 0 (nI (vN n ip (c1 n ip h0)))) sg MR_MW hJ163) dX8_command_129 rfl mC_X8_does mM_X8_220 mI_X8_does mV_X8_does mN_X8 yd_X8_does rfl rfl ⟨Nat.le_of_ble_eq_true rfl, Nat.le_of_ble_eq_true rfl⟩ MR_MW.o rfl rfl rfl rfl (Nat.le_of_ble_eq_true rfl) ⟨Nat.le_of_ble_eq_true rfl, Nat.le_of_ble_eq_true rfl⟩ (fun _ _ _ q => False.elim q) (fun r w1 sz1 hz hP => ?_)
        obtain ⟨rfl, t175, v175, lb175, rfl, hJ175, ⟨⟨a175, rfl⟩, he175⟩, hX175⟩ := hP
        refine x_w MW_MW ?_
        refine x_st (st1 := [.int a175]) rfl ?_
        refine x_istore_n [(2, .int a175), (0, .ref (g.2 0 + 258)), (1, .int 7)] 133 C0 dX8_command_132 rfl rfl (by decide) rfl ?_
        refine x_lv (lv1 := [(0, .ref (g.2 0 + 258)), (1, .int 7), (2, .int a175)]) [1, 2, 0] rfl ?_
        exact x_return C0 dX8_command_133 rfl (Nat.le_of_ble_eq_true rfl) (Nat.le_of_ble_eq_true rfl) (cm_y1 (cr_n1 (by omega) (by omega) (by omega) (by omega) hd163) hJ163 (tW.tr hW1 hW163) hp163 hwr163 ⟨_, _, _, _, rfl, hJ175, he175, Or.inr (Or.inr (Or.inr (Or.inr (Or.inr (Or.inr (Or.inr (⟨hW9, by rw [nmA_e (n := n) (ip := ip) (h := h0) (by omega)]; exact hX175⟩)))))))⟩)
  · have hW9 : cW n ip h0 = 8 := hf1
    refine x_st (st1 := [.int 0]) rfl ?_
    refine x_istore_n [(1, .int 0), (0, .ref (g.2 0 + 258))] 8 C0 dX8_command_7 rfl rfl (by decide) rfl ?_
    refine x_lv (lv1 := [(0, .ref (g.2 0 + 258)), (1, .int 0)]) [1, 0] rfl ?_
    refine x_aload_n 0 9 C0 dX8_command_8 rfl rfl rfl ?_
    refine x_getf (v := .int (t1 11)) 19 12 C0 dX8_command_9 rfl MR_MW.o rfl (by decide) inX8 mF_X8_204 rfl ?_
    refine x_st (st1 := [.int 1]) (congrArg (fun z => Value.int z :: _) (hwr1)) ?_
    refine x_if_eq 16 15 C0 dX8_command_12 rfl (by decide) (fun q => False.elim (by revert q; decide)) (fun _ => ?_)
    exact x_return C0 dX8_command_15 rfl (Nat.le_of_ble_eq_true rfl) (Nat.le_of_ble_eq_true rfl) (cm_no (cr_0 hW9) hJ1 hW1 hp1 hwr1 rfl)

