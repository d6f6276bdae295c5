/-! THE REFERENCE'S COMMANDS, EXACTLY -/
theorem cs_lt (n : Nat) (ip : Nat → Int32) {h : Nat} (hh : h ≤ 60) : c1 n ip h < 200 ∧ c2 n ip h < 200 ∧ c3 n ip h < 200 ∧ c4 n ip h < 200 ∧ c5 n ip h < 200 ∧ c6 n ip h < 200 ∧ c7 n ip h < 200 ∧ c8 n ip h < 200 := by
  have k1 : c1 n ip h ≤ h + 6 := pwd_le n ip _ _ _
  have k2 : c2 n ip h ≤ c1 n ip h + 2 := qN_le n ip _
  have k3 : c3 n ip h = c2 n ip h + 1 := rfl
  have k4 : c4 n ip h = c3 n ip h + 1 := rfl
  have k5 : c5 n ip h = c4 n ip h + 1 := rfl
  have k6 : c6 n ip h ≤ c5 n ip h + 6 := pwd_le n ip _ _ _
  have k7 : c7 n ip h = c6 n ip h + 1 := rfl
  have k8 : c8 n ip h ≤ c7 n ip h + 2 := qN_le n ip _
  omega
/-- an end of the reference's command: whether it stands there, and what it did -/
def mCm (g : xg_T) (w : xw_T) (sz n : Nat) (t v bf sv pa lb ip sg : Nat → Int32) (h0 : Nat) (doing : Bool) : Option Value → xw_T → Nat → Prop := fun r w1 sz1 => sz = sz1 ∧ r = none ∧ ∃ tp td', MJ n tp v bf sv pa sg ∧ tW t tp ∧ tp 10 = nI (cRes n ip h0).2 ∧ tp 11 = (if (cRes n ip h0).1 = true then 0 else 1) ∧ (((doing = false ∨ (cRes n ip h0).1 = false) ∧ w1 = MW g w tp v bf sv pa lb ip td' sg) ∨ (doing = true ∧ (cRes n ip h0).1 = true ∧ ∃ (r9 : Option Value) (t' v' lb' : Nat → Int32), w1 = MW g w t' v' bf sv pa lb' ip td' sg ∧ MJ n t' v' bf sv pa sg ∧ tK tp t' ∧ DOES (cW n ip h0) (nmA n ip h0) (nmB n ip h0) (nmK n ip h0) (nmD n ip h0) tp v r9 t' v'))
theorem cm_no {g : xg_T} {w w1 : xw_T} {sz n : Nat} {t v bf sv pa lb ip sg : Nat → Int32} {h0 c : Nat} {doing : Bool} {tp td' : Nat → Int32} (hR : cRes n ip h0 = (false, c)) (hJ : MJ n tp v bf sv pa sg) (hW : tW t tp) (h10 : tp 10 = nI c) (h11 : tp 11 = 1) (hw : w1 = MW g w tp v bf sv pa lb ip td' sg) : mCm g w sz n t v bf sv pa lb ip sg h0 doing none w1 sz := ⟨rfl, rfl, tp, td', hJ, hW, by rw [hR]; exact h10, by rw [hR]; exact h11, Or.inl ⟨Or.inr (by rw [hR]), hw⟩⟩
theorem cm_y0 {g : xg_T} {w w1 : xw_T} {sz n : Nat} {t v bf sv pa lb ip sg : Nat → Int32} {h0 c : Nat} {tp td' : Nat → Int32} (hR : cRes n ip h0 = (true, c)) (hJ : MJ n tp v bf sv pa sg) (hW : tW t tp) (h10 : tp 10 = nI c) (h11 : tp 11 = 0) (hw : w1 = MW g w tp v bf sv pa lb ip td' sg) : mCm g w sz n t v bf sv pa lb ip sg h0 false none w1 sz := ⟨rfl, rfl, tp, td', hJ, hW, by rw [hR]; exact h10, by rw [hR]; exact h11, Or.inl ⟨Or.inl rfl, hw⟩⟩
theorem cm_y1 {g : xg_T} {w w1 : xw_T} {sz n : Nat} {t v bf sv pa lb ip sg : Nat → Int32} {h0 c : Nat} {tp td' : Nat → Int32} (hR : cRes n ip h0 = (true, c)) (hJ : MJ n tp v bf sv pa sg) (hW : tW t tp) (h10 : tp 10 = nI c) (h11 : tp 11 = 0) (hd : ∃ (r9 : Option Value) (t' v' lb' : Nat → Int32), w1 = MW g w t' v' bf sv pa lb' ip td' sg ∧ MJ n t' v' bf sv pa sg ∧ tK tp t' ∧ DOES (cW n ip h0) (nmA n ip h0) (nmB n ip h0) (nmK n ip h0) (nmD n ip h0) tp v r9 t' v') : mCm g w sz n t v bf sv pa lb ip sg h0 true none w1 sz := ⟨rfl, rfl, tp, td', hJ, hW, by rw [hR]; exact h10, by rw [hR]; exact h11, Or.inr ⟨rfl, by rw [hR], hd⟩⟩
theorem a_sb (a b c : Int32) : a + b - c = a + (b - c) := by rw [Int32.sub_eq_add_neg, Int32.add_assoc, ← Int32.sub_eq_add_neg]
theorem tW.rf {t : Nat → Int32} : tW t t := fun _ _ _ => rfl
theorem tW.tr {a b c : Nat → Int32} (h : tW a b) (h2 : tW b c) : tW a c := fun i h1 h3 => (h2 i h1 h3).trans (h i h1 h3)
section NMS
variable {n : Nat} {ip : Nat → Int32} {h : Nat}
theorem nmA_e (hW : ¬ cW n ip h = 6) : nmA n ip h = vN n ip (c1 n ip h) := if_neg hW
theorem nmB_e (hW : cW n ip h = 1 ∨ cW n ip h = 2) : nmB n ip h = dv n ip (c3 n ip h) := if_pos hW
theorem nmK_e (hW : cW n ip h = 1) {k : Nat} (hk : cK n ip h = 8 + k) : nmK n ip h = k := by
  unfold nmK
  rw [if_pos hW, hk]
  omega
theorem nmD_e (hW : cW n ip h = 1) : nmD n ip h = vN n ip (c7 n ip h) := if_pos hW
end NMS

set_option maxHeartbeats 4000000 in
set_option maxRecDepth 100000 in
theorem e_X8_number1 (l : Launch) (hl : l.stackTraces = false) (g : xg_T) (w : xw_T) (sz n : Nat) (t v bf sv pa lb ip td sg : Nat → Int32) (hM : MR g w t v bf sv pa lb ip td sg) (hJ : MJ n t v bf sv pa sg) (h0 : Nat) (hh0 : h0 ≤ 60) (ht0 : t 10 = nI h0) : xM l g yX8_number cX8_number 4 (some .int) ({ frames := 1, cells := 0, slots := 0, locals := 22 }) 0 0 [.ref (g.2 0 + 258), .int 1] w sz (mQ g w sz n t v bf sv pa lb ip td sg (fun r t' => (¬ t 11 = 0 ∧ r = some (.int 0) ∧ t' = t) ∨ (t 11 = 0 ∧ ¬ dgt n ip h0 = true ∧ r = some (.int 0) ∧ t' 11 = 1 ∧ t' 10 = nI h0) ∨ (t 11 = 0 ∧ dgt n ip h0 = true ∧ r = some (.int (nI (dv n ip h0))) ∧ t' 11 = 0 ∧ t' 10 = nI (h0 + 1)))) (fun _ _ _ => False) := by
  have hn60 := hJ.2.2.2.2.2.2.1
  refine xM.of RX8 hl (by decide +kernel) rfl (Nat.le_of_ble_eq_true rfl) rfl ?_
  intro p e s m args below meth cD C0 hini
  refine x_aload_n 0 1 C0 dX8_number_0 rfl rfl rfl ?_
  refine x_getf (v := .int (t 11)) 19 4 C0 dX8_number_1 rfl hM.o rfl (by decide) inX8 mF_X8_204 rfl ?_
  refine x_if_eq 9 7 C0 dX8_number_4 rfl (by decide) (fun c1 => ?_) (fun c1 => ?_)
  · refine x_aload_n 0 10 C0 dX8_number_9 rfl rfl rfl ?_
    refine x_aload_n 0 11 C0 dX8_number_10 rfl rfl rfl ?_
    refine x_callV 14 C0 (e_X8_sign l hl g _ _ n t v bf sv pa lb ip td sg hM hJ h0 (mj_h hJ ht0 (by omega)) ht0) dX8_number_11 rfl mC_X8_sign mM_X8_201 mI_X8_sign mV_X8_sign mN_X8 yd_X8_sign rfl rfl ⟨Nat.le_of_ble_eq_true rfl, Nat.le_of_ble_eq_true rfl⟩ hM.o rfl rfl rfl rfl (Nat.le_of_ble_eq_true rfl) ⟨Nat.le_of_ble_eq_true rfl, Nat.le_of_ble_eq_true rfl⟩ (fun _ _ _ q => False.elim q) (fun r w1 sz1 hz hP => ?_)
    obtain ⟨rfl, rfl, rfl⟩ := hP
    refine x_st (st1 := [.int (sgn n ip h0), .ref (g.2 0 + 258)]) rfl ?_
    refine x_bipush (v := 48) 16 C0 dX8_number_14 rfl (by decide) ?_
    refine x_bipush (v := 57) 18 C0 dX8_number_16 rfl (by decide) ?_
    refine x_callS 21 C0 (k_X8_isIn l hl g _ _ (sgn n ip h0) 48 57) dX8_number_18 rfl mC_X8_isIn mM_X8_67 mS_X8_isIn mN_X8 yd_X8_isIn rfl rfl ⟨Nat.le_of_ble_eq_true rfl, Nat.le_of_ble_eq_true rfl⟩ rfl rfl (Nat.le_of_ble_eq_true rfl) ⟨Nat.le_of_ble_eq_true rfl, Nat.le_of_ble_eq_true rfl⟩ (fun _ _ _ q => False.elim q) (fun r w1 sz1 hz hP => ?_)
    obtain ⟨hr, rfl, rfl⟩ := hP
    rcases hr with ⟨rfl, ha2, hb2⟩ | ⟨rfl, hx2⟩
    · refine x_st (st1 := [.int 1, .ref (g.2 0 + 258)]) rfl ?_
      refine x_if_ne 28 24 C0 dX8_number_21 rfl (by decide) (fun _ => ?_) (fun q => False.elim (by revert q; decide))
      refine x_iconst (v := 0) 29 C0 dX8_number_28 rfl (by decide) ?_
      refine x_w (MW_self hM) ?_
      refine x_putf 19 32 C0 dX8_number_29 rfl MR_MW.o (by show g.2 0 ≤ _; omega) rfl (by decide) inX8 tyX8_ok nmX8 mF_X8_204 rfl rfl rfl rfl (Nat.le_of_ble_eq_true rfl) ?_
      refine x_w (w1 := (MW g w (upd t 11 0) v bf sv pa lb ip td sg)) (MW_o rfl) ?_
      have hJ4 : MJ n (upd t 11 0) v bf sv pa sg := hJ.j_t (by decide)
      refine x_iconst (v := 0) 33 C0 dX8_number_32 rfl (by decide) ?_
      refine x_istore_n [(2, .int 0), (0, .ref (g.2 0 + 258)), (1, .int 1)] 34 C0 dX8_number_33 rfl rfl (by decide) rfl ?_
      refine x_lv (lv1 := [(0, .ref (g.2 0 + 258)), (1, .int 1), (2, .int 0)]) [1, 2, 0] rfl ?_
      refine x_iconst (v := 0) 35 C0 dX8_number_34 rfl (by decide) ?_
      refine x_istore_n [(3, .int 0), (0, .ref (g.2 0 + 258)), (1, .int 1), (2, .int 0)] 36 C0 dX8_number_35 rfl rfl (by decide) rfl ?_
      refine x_lv (lv1 := [(0, .ref (g.2 0 + 258)), (1, .int 1), (2, .int 0), (3, .int 0)]) [1, 2, 3, 0] rfl ?_
      refine x_iload_n 3 37 C0 dX8_number_36 rfl rfl rfl ?_
      refine x_iload_n 1 38 C0 dX8_number_37 rfl rfl rfl ?_
      refine x_icmp_ge 91 41 C0 dX8_number_38 rfl (by decide) (fun q => False.elim (by revert q; decide)) (fun _ => ?_)
      refine x_aload_n 0 42 C0 dX8_number_41 rfl rfl rfl ?_
      refine x_getf (v := .int 0) 19 45 C0 dX8_number_42 rfl MR_MW.o rfl (by decide) inX8 mF_X8_204 rfl ?_
      refine x_if_ne 91 48 C0 dX8_number_45 rfl (by decide) (fun q => False.elim (by revert q; decide)) (fun _ => ?_)
      refine x_aload_n 0 49 C0 dX8_number_48 rfl rfl rfl ?_
      refine x_callV 52 C0 (e_X8_sign l hl g _ _ n (upd t 11 0) v bf sv pa lb ip td sg MR_MW hJ4 h0 (mj_h hJ4 ht0 (by omega)) ht0) dX8_number_49 rfl mC_X8_sign mM_X8_201 mI_X8_sign mV_X8_sign mN_X8 yd_X8_sign rfl rfl ⟨Nat.le_of_ble_eq_true rfl, Nat.le_of_ble_eq_true rfl⟩ MR_MW.o rfl rfl rfl rfl (Nat.le_of_ble_eq_true rfl) ⟨Nat.le_of_ble_eq_true rfl, Nat.le_of_ble_eq_true rfl⟩ (fun _ _ _ q => False.elim q) (fun r w1 sz1 hz hP => ?_)
      obtain ⟨rfl, rfl, rfl⟩ := hP
      refine x_st (st1 := [.int (sgn n ip h0)]) rfl ?_
      refine x_bipush (v := 48) 54 C0 dX8_number_52 rfl (by decide) ?_
      refine x_bipush (v := 57) 56 C0 dX8_number_54 rfl (by decide) ?_
      refine x_callS 59 C0 (k_X8_isIn l hl g _ _ (sgn n ip h0) 48 57) dX8_number_56 rfl mC_X8_isIn mM_X8_67 mS_X8_isIn mN_X8 yd_X8_isIn rfl rfl ⟨Nat.le_of_ble_eq_true rfl, Nat.le_of_ble_eq_true rfl⟩ rfl rfl (Nat.le_of_ble_eq_true rfl) ⟨Nat.le_of_ble_eq_true rfl, Nat.le_of_ble_eq_true rfl⟩ (fun _ _ _ q => False.elim q) (fun r w1 sz1 hz hP => ?_)
      obtain ⟨hr, rfl, rfl⟩ := hP
      rcases hr with ⟨rfl, ha7, hb7⟩ | ⟨rfl, hx7⟩
      · refine x_st (st1 := [.int 1]) rfl ?_
        refine x_if_eq 91 62 C0 dX8_number_59 rfl (by decide) (fun q => False.elim (by revert q; decide)) (fun _ => ?_)
        refine x_bipush (v := 10) 64 C0 dX8_number_62 rfl (by decide) ?_
        refine x_iload_n 2 65 C0 dX8_number_64 rfl rfl rfl ?_
        refine x_imul 66 C0 dX8_number_65 rfl ?_
        refine x_st (st1 := [.int 0]) (congrArg (fun z => Value.int z :: _) (by decide)) ?_
        refine x_aload_n 0 67 C0 dX8_number_66 rfl rfl rfl ?_
        refine x_callV 70 C0 (e_X8_sign l hl g _ _ n (upd t 11 0) v bf sv pa lb ip td sg MR_MW hJ4 h0 (mj_h hJ4 ht0 (by omega)) ht0) dX8_number_67 rfl mC_X8_sign mM_X8_201 mI_X8_sign mV_X8_sign mN_X8 yd_X8_sign rfl rfl ⟨Nat.le_of_ble_eq_true rfl, Nat.le_of_ble_eq_true rfl⟩ MR_MW.o rfl rfl rfl rfl (Nat.le_of_ble_eq_true rfl) ⟨Nat.le_of_ble_eq_true rfl, Nat.le_of_ble_eq_true rfl⟩ (fun _ _ _ q => False.elim q) (fun r w1 sz1 hz hP => ?_)
        obtain ⟨rfl, rfl, rfl⟩ := hP
        refine x_st (st1 := [.int (sgn n ip h0), .int 0]) rfl ?_
        refine x_iadd 71 C0 dX8_number_70 rfl ?_
        refine x_bipush (v := 48) 73 C0 dX8_number_71 rfl (by decide) ?_
        refine x_isub 74 C0 dX8_number_73 rfl ?_
        have hd1 : dgt n ip h0 = true := dgt_mk ha7 hb7
        refine x_st (st1 := [.int (nI (dv n ip h0))]) (congrArg (fun z => Value.int z :: _) (by rw [Int32.zero_add]; exact (dv_ok hd1).2)) ?_
        refine x_istore_n [(2, .int (nI (dv n ip h0))), (0, .ref (g.2 0 + 258)), (1, .int 1), (3, .int 0)] 75 C0 dX8_number_74 rfl rfl (by decide) rfl ?_
        refine x_lv (lv1 := [(0, .ref (g.2 0 + 258)), (1, .int 1), (2, .int (nI (dv n ip h0))), (3, .int 0)]) [1, 2, 0, 3] rfl ?_
        refine x_aload_n 0 76 C0 dX8_number_75 rfl rfl rfl ?_
        refine x_dup 77 C0 dX8_number_76 rfl rfl ?_
        refine x_getf (v := .int (t 10)) 18 80 C0 dX8_number_77 rfl MR_MW.o rfl (by decide) inX8 mF_X8_198 rfl ?_
        refine x_st (st1 := [.int (nI h0), .ref (g.2 0 + 258)]) (congrArg (fun z => Value.int z :: _) (ht0)) ?_
        refine x_iconst (v := 1) 81 C0 dX8_number_80 rfl (by decide) ?_
        refine x_iadd 82 C0 dX8_number_81 rfl ?_
        refine x_st (st1 := [.int (nI (h0 + 1)), .ref (g.2 0 + 258)]) (congrArg (fun z => Value.int z :: _) (nI_add h0 1)) ?_
        refine x_putf 18 85 C0 dX8_number_82 rfl MR_MW.o (by show g.2 0 ≤ _; omega) rfl (by decide) inX8 tyX8_ok nmX8 mF_X8_198 rfl rfl rfl rfl (Nat.le_of_ble_eq_true rfl) ?_
        refine x_w (w1 := (MW g w (upd (upd t 11 0) 10 (nI (h0 + 1))) v bf sv pa lb ip td sg)) (MW_o rfl) ?_
        have hlt0 := dgt_in hn60 (by omega) hd1
        have hJ9 : MJ n (upd (upd t 11 0) 10 (nI (h0 + 1))) v bf sv pa sg := hJ4.j_h (m := h0 + 1) (by omega) rfl
        refine x_iinc [(3, .int 1), (0, .ref (g.2 0 + 258)), (1, .int 1), (2, .int (nI (dv n ip h0)))] 3 88 C0 dX8_number_85 rfl rfl (by decide) (by decide) rfl ?_
        refine x_lv (lv1 := [(0, .ref (g.2 0 + 258)), (1, .int 1), (2, .int (nI (dv n ip h0))), (3, .int 1)]) [1, 2, 3, 0] rfl ?_
        refine x_goto 36 C0 dX8_number_88 (by decide) ?_
        refine x_iload_n 3 37 C0 dX8_number_36 rfl rfl rfl ?_
        refine x_iload_n 1 38 C0 dX8_number_37 rfl rfl rfl ?_
        refine x_icmp_ge 91 41 C0 dX8_number_38 rfl (by decide) (fun _ => ?_) (fun q => False.elim (by revert q; decide))
        refine x_iload_n 2 92 C0 dX8_number_91 rfl rfl rfl ?_
        exact x_ireturn C0 dX8_number_92 rfl rfl (Nat.le_of_ble_eq_true rfl) (Nat.le_of_ble_eq_true rfl) ⟨rfl, _, rfl, hJ9, fun q z1 z2 => (if_neg z1).trans (if_neg z2), Or.inr (Or.inr ⟨c1, hd1, rfl, rfl, rfl⟩)⟩
      · refine x_st (st1 := [.int 0]) rfl ?_
        exact absurd ⟨ha2, hb2⟩ hx7
    · refine x_st (st1 := [.int 0, .ref (g.2 0 + 258)]) rfl ?_
      refine x_if_ne 28 24 C0 dX8_number_21 rfl (by decide) (fun q => False.elim (by revert q; decide)) (fun _ => ?_)
      refine x_iconst (v := 1) 25 C0 dX8_number_24 rfl (by decide) ?_
      refine x_goto 29 C0 dX8_number_25 (by decide) ?_
      refine x_w (MW_self hM) ?_
      refine x_putf 19 32 C0 dX8_number_29 rfl MR_MW.o (by show g.2 0 ≤ _; omega) rfl (by decide) inX8 tyX8_ok nmX8 mF_X8_204 rfl rfl rfl rfl (Nat.le_of_ble_eq_true rfl) ?_
      refine x_w (w1 := (MW g w (upd t 11 1) v bf sv pa lb ip td sg)) (MW_o rfl) ?_
      have hJ12 : MJ n (upd t 11 1) v bf sv pa sg := hJ.j_t (by decide)
      refine x_iconst (v := 0) 33 C0 dX8_number_32 rfl (by decide) ?_
      refine x_istore_n [(2, .int 0), (0, .ref (g.2 0 + 258)), (1, .int 1)] 34 C0 dX8_number_33 rfl rfl (by decide) rfl ?_
      refine x_lv (lv1 := [(0, .ref (g.2 0 + 258)), (1, .int 1), (2, .int 0)]) [1, 2, 0] rfl ?_
      refine x_iconst (v := 0) 35 C0 dX8_number_34 rfl (by decide) ?_
      refine x_istore_n [(3, .int 0), (0, .ref (g.2 0 + 258)), (1, .int 1), (2, .int 0)] 36 C0 dX8_number_35 rfl rfl (by decide) rfl ?_
      refine x_lv (lv1 := [(0, .ref (g.2 0 + 258)), (1, .int 1), (2, .int 0), (3, .int 0)]) [1, 2, 3, 0] rfl ?_
      refine x_iload_n 3 37 C0 dX8_number_36 rfl rfl rfl ?_
      refine x_iload_n 1 38 C0 dX8_number_37 rfl rfl rfl ?_
      refine x_icmp_ge 91 41 C0 dX8_number_38 rfl (by decide) (fun q => False.elim (by revert q; decide)) (fun _ => ?_)
      refine x_aload_n 0 42 C0 dX8_number_41 rfl rfl rfl ?_
      refine x_getf (v := .int 1) 19 45 C0 dX8_number_42 rfl MR_MW.o rfl (by decide) inX8 mF_X8_204 rfl ?_
      refine x_if_ne 91 48 C0 dX8_number_45 rfl (by decide) (fun _ => ?_) (fun q => False.elim (by revert q; decide))
      refine x_iload_n 2 92 C0 dX8_number_91 rfl rfl rfl ?_
      exact x_ireturn C0 dX8_number_92 rfl rfl (Nat.le_of_ble_eq_true rfl) (Nat.le_of_ble_eq_true rfl) ⟨rfl, _, rfl, hJ12, fun q z1 z2 => if_neg z2, Or.inr (Or.inl ⟨c1, fun z => hx2 (dgt_of z), rfl, rfl, ht0⟩)⟩
  · refine x_iconst (v := 0) 8 C0 dX8_number_7 rfl (by decide) ?_
    exact x_ireturn C0 dX8_number_8 rfl rfl (Nat.le_of_ble_eq_true rfl) (Nat.le_of_ble_eq_true rfl) ⟨rfl, _, MW_self hM, hJ, tW.rf, Or.inl ⟨c1, rfl, rfl⟩⟩

set_option maxHeartbeats 4000000 in
set_option maxRecDepth 100000 in
theorem e_X8_number2 (l : Launch) (hl : l.stackTraces = false) (g : xg_T) (w : xw_T) (sz n : Nat) (t v bf sv pa lb ip td sg : Nat → Int32) (hM : MR g w t v bf sv pa lb ip td sg) (hJ : MJ n t v bf sv pa sg) (h0 : Nat) (hh0 : h0 ≤ 60) (ht0 : t 10 = nI h0) : xM l g yX8_number cX8_number 4 (some .int) ({ frames := 1, cells := 0, slots := 0, locals := 22 }) 0 0 [.ref (g.2 0 + 258), .int 2] w sz (mQ g w sz n t v bf sv pa lb ip td sg (fun r t' => (¬ t 11 = 0 ∧ r = some (.int 0) ∧ t' = t) ∨ (t 11 = 0 ∧ ¬ dgt n ip h0 = true ∧ r = some (.int 0) ∧ t' 11 = 1 ∧ t' 10 = nI h0) ∨ (t 11 = 0 ∧ dgt n ip h0 = true ∧ r = some (.int (nI (vN n ip h0))) ∧ t' 11 = 0 ∧ t' 10 = nI (qN n ip h0)))) (fun _ _ _ => False) := by
  have hn60 := hJ.2.2.2.2.2.2.1
  refine xM.of RX8 hl (by decide +kernel) rfl (Nat.le_of_ble_eq_true rfl) rfl ?_
  intro p e s m args below meth cD C0 hini
  refine x_aload_n 0 1 C0 dX8_number_0 rfl rfl rfl ?_
  refine x_getf (v := .int (t 11)) 19 4 C0 dX8_number_1 rfl hM.o rfl (by decide) inX8 mF_X8_204 rfl ?_
  refine x_if_eq 9 7 C0 dX8_number_4 rfl (by decide) (fun c1 => ?_) (fun c1 => ?_)
  · refine x_aload_n 0 10 C0 dX8_number_9 rfl rfl rfl ?_
    refine x_aload_n 0 11 C0 dX8_number_10 rfl rfl rfl ?_
    refine x_callV 14 C0 (e_X8_sign l hl g _ _ n t v bf sv pa lb ip td sg hM hJ h0 (mj_h hJ ht0 (by omega)) ht0) dX8_number_11 rfl mC_X8_sign mM_X8_201 mI_X8_sign mV_X8_sign mN_X8 yd_X8_sign rfl rfl ⟨Nat.le_of_ble_eq_true rfl, Nat.le_of_ble_eq_true rfl⟩ hM.o rfl rfl rfl rfl (Nat.le_of_ble_eq_true rfl) ⟨Nat.le_of_ble_eq_true rfl, Nat.le_of_ble_eq_true rfl⟩ (fun _ _ _ q => False.elim q) (fun r w1 sz1 hz hP => ?_)
    obtain ⟨rfl, rfl, rfl⟩ := hP
    refine x_st (st1 := [.int (sgn n ip h0), .ref (g.2 0 + 258)]) rfl ?_
    refine x_bipush (v := 48) 16 C0 dX8_number_14 rfl (by decide) ?_
    refine x_bipush (v := 57) 18 C0 dX8_number_16 rfl (by decide) ?_
    refine x_callS 21 C0 (k_X8_isIn l hl g _ _ (sgn n ip h0) 48 57) dX8_number_18 rfl mC_X8_isIn mM_X8_67 mS_X8_isIn mN_X8 yd_X8_isIn rfl rfl ⟨Nat.le_of_ble_eq_true rfl, Nat.le_of_ble_eq_true rfl⟩ rfl rfl (Nat.le_of_ble_eq_true rfl) ⟨Nat.le_of_ble_eq_true rfl, Nat.le_of_ble_eq_true rfl⟩ (fun _ _ _ q => False.elim q) (fun r w1 sz1 hz hP => ?_)
    obtain ⟨hr, rfl, rfl⟩ := hP
    rcases hr with ⟨rfl, ha2, hb2⟩ | ⟨rfl, hx2⟩
    · refine x_st (st1 := [.int 1, .ref (g.2 0 + 258)]) rfl ?_
      refine x_if_ne 28 24 C0 dX8_number_21 rfl (by decide) (fun _ => ?_) (fun q => False.elim (by revert q; decide))
      refine x_iconst (v := 0) 29 C0 dX8_number_28 rfl (by decide) ?_
      refine x_w (MW_self hM) ?_
      refine x_putf 19 32 C0 dX8_number_29 rfl MR_MW.o (by show g.2 0 ≤ _; omega) rfl (by decide) inX8 tyX8_ok nmX8 mF_X8_204 rfl rfl rfl rfl (Nat.le_of_ble_eq_true rfl) ?_
      refine x_w (w1 := (MW g w (upd t 11 0) v bf sv pa lb ip td sg)) (MW_o rfl) ?_
      have hJ4 : MJ n (upd t 11 0) v bf sv pa sg := hJ.j_t (by decide)
      refine x_iconst (v := 0) 33 C0 dX8_number_32 rfl (by decide) ?_
      refine x_istore_n [(2, .int 0), (0, .ref (g.2 0 + 258)), (1, .int 2)] 34 C0 dX8_number_33 rfl rfl (by decide) rfl ?_
      refine x_lv (lv1 := [(0, .ref (g.2 0 + 258)), (1, .int 2), (2, .int 0)]) [1, 2, 0] rfl ?_
      refine x_iconst (v := 0) 35 C0 dX8_number_34 rfl (by decide) ?_
      refine x_istore_n [(3, .int 0), (0, .ref (g.2 0 + 258)), (1, .int 2), (2, .int 0)] 36 C0 dX8_number_35 rfl rfl (by decide) rfl ?_
      refine x_lv (lv1 := [(0, .ref (g.2 0 + 258)), (1, .int 2), (2, .int 0), (3, .int 0)]) [1, 2, 3, 0] rfl ?_
      refine x_iload_n 3 37 C0 dX8_number_36 rfl rfl rfl ?_
      refine x_iload_n 1 38 C0 dX8_number_37 rfl rfl rfl ?_
      refine x_icmp_ge 91 41 C0 dX8_number_38 rfl (by decide) (fun q => False.elim (by revert q; decide)) (fun _ => ?_)
      refine x_aload_n 0 42 C0 dX8_number_41 rfl rfl rfl ?_
      refine x_getf (v := .int 0) 19 45 C0 dX8_number_42 rfl MR_MW.o rfl (by decide) inX8 mF_X8_204 rfl ?_
      refine x_if_ne 91 48 C0 dX8_number_45 rfl (by decide) (fun q => False.elim (by revert q; decide)) (fun _ => ?_)
      refine x_aload_n 0 49 C0 dX8_number_48 rfl rfl rfl ?_
      refine x_callV 52 C0 (e_X8_sign l hl g _ _ n (upd t 11 0) v bf sv pa lb ip td sg MR_MW hJ4 h0 (mj_h hJ4 ht0 (by omega)) ht0) dX8_number_49 rfl mC_X8_sign mM_X8_201 mI_X8_sign mV_X8_sign mN_X8 yd_X8_sign rfl rfl ⟨Nat.le_of_ble_eq_true rfl, Nat.le_of_ble_eq_true rfl⟩ MR_MW.o rfl rfl rfl rfl (Nat.le_of_ble_eq_true rfl) ⟨Nat.le_of_ble_eq_true rfl, Nat.le_of_ble_eq_true rfl⟩ (fun _ _ _ q => False.elim q) (fun r w1 sz1 hz hP => ?_)
      obtain ⟨rfl, rfl, rfl⟩ := hP
      refine x_st (st1 := [.int (sgn n ip h0)]) rfl ?_
      refine x_bipush (v := 48) 54 C0 dX8_number_52 rfl (by decide) ?_
      refine x_bipush (v := 57) 56 C0 dX8_number_54 rfl (by decide) ?_
      refine x_callS 59 C0 (k_X8_isIn l hl g _ _ (sgn n ip h0) 48 57) dX8_number_56 rfl mC_X8_isIn mM_X8_67 mS_X8_isIn mN_X8 yd_X8_isIn rfl rfl ⟨Nat.le_of_ble_eq_true rfl, Nat.le_of_ble_eq_true rfl⟩ rfl rfl (Nat.le_of_ble_eq_true rfl) ⟨Nat.le_of_ble_eq_true rfl, Nat.le_of_ble_eq_true rfl⟩ (fun _ _ _ q => False.elim q) (fun r w1 sz1 hz hP => ?_)
      obtain ⟨hr, rfl, rfl⟩ := hP
      rcases hr with ⟨rfl, ha7, hb7⟩ | ⟨rfl, hx7⟩
      · refine x_st (st1 := [.int 1]) rfl ?_
        refine x_if_eq 91 62 C0 dX8_number_59 rfl (by decide) (fun q => False.elim (by revert q; decide)) (fun _ => ?_)
        refine x_bipush (v := 10) 64 C0 dX8_number_62 rfl (by decide) ?_
        refine x_iload_n 2 65 C0 dX8_number_64 rfl rfl rfl ?_
        refine x_imul 66 C0 dX8_number_65 rfl ?_
        refine x_st (st1 := [.int 0]) (congrArg (fun z => Value.int z :: _) (by decide)) ?_
        refine x_aload_n 0 67 C0 dX8_number_66 rfl rfl rfl ?_
        refine x_callV 70 C0 (e_X8_sign l hl g _ _ n (upd t 11 0) v bf sv pa lb ip td sg MR_MW hJ4 h0 (mj_h hJ4 ht0 (by omega)) ht0) dX8_number_67 rfl mC_X8_sign mM_X8_201 mI_X8_sign mV_X8_sign mN_X8 yd_X8_sign rfl rfl ⟨Nat.le_of_ble_eq_true rfl, Nat.le_of_ble_eq_true rfl⟩ MR_MW.o rfl rfl rfl rfl (Nat.le_of_ble_eq_true rfl) ⟨Nat.le_of_ble_eq_true rfl, Nat.le_of_ble_eq_true rfl⟩ (fun _ _ _ q => False.elim q) (fun r w1 sz1 hz hP => ?_)
        obtain ⟨rfl, rfl, rfl⟩ := hP
        refine x_st (st1 := [.int (sgn n ip h0), .int 0]) rfl ?_
        refine x_iadd 71 C0 dX8_number_70 rfl ?_
        refine x_bipush (v := 48) 73 C0 dX8_number_71 rfl (by decide) ?_
        refine x_isub 74 C0 dX8_number_73 rfl ?_
        have hd1 : dgt n ip h0 = true := dgt_mk ha7 hb7
        refine x_st (st1 := [.int (nI (dv n ip h0))]) (congrArg (fun z => Value.int z :: _) (by rw [Int32.zero_add]; exact (dv_ok hd1).2)) ?_
        refine x_istore_n [(2, .int (nI (dv n ip h0))), (0, .ref (g.2 0 + 258)), (1, .int 2), (3, .int 0)] 75 C0 dX8_number_74 rfl rfl (by decide) rfl ?_
        refine x_lv (lv1 := [(0, .ref (g.2 0 + 258)), (1, .int 2), (2, .int (nI (dv n ip h0))), (3, .int 0)]) [1, 2, 0, 3] rfl ?_
        refine x_aload_n 0 76 C0 dX8_number_75 rfl rfl rfl ?_
        refine x_dup 77 C0 dX8_number_76 rfl rfl ?_
        refine x_getf (v := .int (t 10)) 18 80 C0 dX8_number_77 rfl MR_MW.o rfl (by decide) inX8 mF_X8_198 rfl ?_
        refine x_st (st1 := [.int (nI h0), .ref (g.2 0 + 258)]) (congrArg (fun z => Value.int z :: _) (ht0)) ?_
        refine x_iconst (v := 1) 81 C0 dX8_number_80 rfl (by decide) ?_
        refine x_iadd 82 C0 dX8_number_81 rfl ?_
        refine x_st (st1 := [.int (nI (h0 + 1)), .ref (g.2 0 + 258)]) (congrArg (fun z => Value.int z :: _) (nI_add h0 1)) ?_
        refine x_putf 18 85 C0 dX8_number_82 rfl MR_MW.o (by show g.2 0 ≤ _; omega) rfl (by decide) inX8 tyX8_ok nmX8 mF_X8_198 rfl rfl rfl rfl (Nat.le_of_ble_eq_true rfl) ?_
        refine x_w (w1 := (MW g w (upd (upd t 11 0) 10 (nI (h0 + 1))) v bf sv pa lb ip td sg)) (MW_o rfl) ?_
        have hlt0 := dgt_in hn60 (by omega) hd1
        have hJ9 : MJ n (upd (upd t 11 0) 10 (nI (h0 + 1))) v bf sv pa sg := hJ4.j_h (m := h0 + 1) (by omega) rfl
        refine x_iinc [(3, .int 1), (0, .ref (g.2 0 + 258)), (1, .int 2), (2, .int (nI (dv n ip h0)))] 3 88 C0 dX8_number_85 rfl rfl (by decide) (by decide) rfl ?_
        refine x_lv (lv1 := [(0, .ref (g.2 0 + 258)), (1, .int 2), (2, .int (nI (dv n ip h0))), (3, .int 1)]) [1, 2, 3, 0] rfl ?_
        refine x_goto 36 C0 dX8_number_88 (by decide) ?_
        refine x_iload_n 3 37 C0 dX8_number_36 rfl rfl rfl ?_
        refine x_iload_n 1 38 C0 dX8_number_37 rfl rfl rfl ?_
        refine x_icmp_ge 91 41 C0 dX8_number_38 rfl (by decide) (fun q => False.elim (by revert q; decide)) (fun _ => ?_)
        refine x_aload_n 0 42 C0 dX8_number_41 rfl rfl rfl ?_
        refine x_getf (v := .int 0) 19 45 C0 dX8_number_42 rfl MR_MW.o rfl (by decide) inX8 mF_X8_204 rfl ?_
        refine x_if_ne 91 48 C0 dX8_number_45 rfl (by decide) (fun q => False.elim (by revert q; decide)) (fun _ => ?_)
        refine x_aload_n 0 49 C0 dX8_number_48 rfl rfl rfl ?_
        refine x_callV 52 C0 (e_X8_sign l hl g _ _ n (upd (upd t 11 0) 10 (nI (h0 + 1))) v bf sv pa lb ip td sg MR_MW hJ9 (h0 + 1) (mj_h hJ9 rfl (by omega)) rfl) dX8_number_49 rfl mC_X8_sign mM_X8_201 mI_X8_sign mV_X8_sign mN_X8 yd_X8_sign rfl rfl ⟨Nat.le_of_ble_eq_true rfl, Nat.le_of_ble_eq_true rfl⟩ MR_MW.o rfl rfl rfl rfl (Nat.le_of_ble_eq_true rfl) ⟨Nat.le_of_ble_eq_true rfl, Nat.le_of_ble_eq_true rfl⟩ (fun _ _ _ q => False.elim q) (fun r w1 sz1 hz hP => ?_)
        obtain ⟨rfl, rfl, rfl⟩ := hP
        refine x_st (st1 := [.int (sgn n ip (h0 + 1))]) rfl ?_
        refine x_bipush (v := 48) 54 C0 dX8_number_52 rfl (by decide) ?_
        refine x_bipush (v := 57) 56 C0 dX8_number_54 rfl (by decide) ?_
        refine x_callS 59 C0 (k_X8_isIn l hl g _ _ (sgn n ip (h0 + 1)) 48 57) dX8_number_56 rfl mC_X8_isIn mM_X8_67 mS_X8_isIn mN_X8 yd_X8_isIn rfl rfl ⟨Nat.le_of_ble_eq_true rfl, Nat.le_of_ble_eq_true rfl⟩ rfl rfl (Nat.le_of_ble_eq_true rfl) ⟨Nat.le_of_ble_eq_true rfl, Nat.le_of_ble_eq_true rfl⟩ (fun _ _ _ q => False.elim q) (fun r w1 sz1 hz hP => ?_)
        obtain ⟨hr, rfl, rfl⟩ := hP
        rcases hr with ⟨rfl, ha12, hb12⟩ | ⟨rfl, hx12⟩
        · refine x_st (st1 := [.int 1]) rfl ?_
          refine x_if_eq 91 62 C0 dX8_number_59 rfl (by decide) (fun q => False.elim (by revert q; decide)) (fun _ => ?_)
          refine x_bipush (v := 10) 64 C0 dX8_number_62 rfl (by decide) ?_
          refine x_iload_n 2 65 C0 dX8_number_64 rfl rfl rfl ?_
          refine x_imul 66 C0 dX8_number_65 rfl ?_
          refine x_st (st1 := [.int (nI (10 * (dv n ip h0)))]) (congrArg (fun z => Value.int z :: _) (nI_mulN 10 (dv n ip h0))) ?_
          refine x_aload_n 0 67 C0 dX8_number_66 rfl rfl rfl ?_
          refine x_callV 70 C0 (e_X8_sign l hl g _ _ n (upd (upd t 11 0) 10 (nI (h0 + 1))) v bf sv pa lb ip td sg MR_MW hJ9 (h0 + 1) (mj_h hJ9 rfl (by omega)) rfl) dX8_number_67 rfl mC_X8_sign mM_X8_201 mI_X8_sign mV_X8_sign mN_X8 yd_X8_sign rfl rfl ⟨Nat.le_of_ble_eq_true rfl, Nat.le_of_ble_eq_true rfl⟩ MR_MW.o rfl rfl rfl rfl (Nat.le_of_ble_eq_true rfl) ⟨Nat.le_of_ble_eq_true rfl, Nat.le_of_ble_eq_true rfl⟩ (fun _ _ _ q => False.elim q) (fun r w1 sz1 hz hP => ?_)
          obtain ⟨rfl, rfl, rfl⟩ := hP
          refine x_st (st1 := [.int (sgn n ip (h0 + 1)), .int (nI (10 * (dv n ip h0)))]) rfl ?_
          refine x_iadd 71 C0 dX8_number_70 rfl ?_
          refine x_bipush (v := 48) 73 C0 dX8_number_71 rfl (by decide) ?_
          refine x_isub 74 C0 dX8_number_73 rfl ?_
          have hd2 : dgt n ip (h0 + 1) = true := dgt_mk ha12 hb12
          refine x_st (st1 := [.int (nI (10 * dv n ip h0 + dv n ip (h0 + 1)))]) (congrArg (fun z => Value.int z :: _) (by rw [a_sb, (dv_ok hd2).2, nI_add])) ?_
          refine x_istore_n [(2, .int (nI (10 * dv n ip h0 + dv n ip (h0 + 1)))), (0, .ref (g.2 0 + 258)), (1, .int 2), (3, .int 1)] 75 C0 dX8_number_74 rfl rfl (by decide) rfl ?_
          refine x_lv (lv1 := [(0, .ref (g.2 0 + 258)), (1, .int 2), (2, .int (nI (10 * dv n ip h0 + dv n ip (h0 + 1)))), (3, .int 1)]) [1, 2, 0, 3] rfl ?_
          refine x_aload_n 0 76 C0 dX8_number_75 rfl rfl rfl ?_
          refine x_dup 77 C0 dX8_number_76 rfl rfl ?_
          refine x_getf (v := .int (nI (h0 + 1))) 18 80 C0 dX8_number_77 rfl MR_MW.o rfl (by decide) inX8 mF_X8_198 rfl ?_
          refine x_st (st1 := [.int (nI (h0 + 1)), .ref (g.2 0 + 258)]) (congrArg (fun z => Value.int z :: _) (rfl)) ?_
          refine x_iconst (v := 1) 81 C0 dX8_number_80 rfl (by decide) ?_
          refine x_iadd 82 C0 dX8_number_81 rfl ?_
          refine x_st (st1 := [.int (nI (h0 + 1 + 1)), .ref (g.2 0 + 258)]) (congrArg (fun z => Value.int z :: _) (nI_add (h0 + 1) 1)) ?_
          refine x_putf 18 85 C0 dX8_number_82 rfl MR_MW.o (by show g.2 0 ≤ _; omega) rfl (by decide) inX8 tyX8_ok nmX8 mF_X8_198 rfl rfl rfl rfl (Nat.le_of_ble_eq_true rfl) ?_
          refine x_w (w1 := (MW g w (upd (upd (upd t 11 0) 10 (nI (h0 + 1))) 10 (nI (h0 + 1 + 1))) v bf sv pa lb ip td sg)) (MW_o rfl) ?_
          have hlt1 := dgt_in hn60 (by omega) hd2
          have hJ14 : MJ n (upd (upd (upd t 11 0) 10 (nI (h0 + 1))) 10 (nI (h0 + 1 + 1))) v bf sv pa sg := hJ9.j_h (m := h0 + 1 + 1) (by omega) rfl
          refine x_iinc [(3, .int 2), (0, .ref (g.2 0 + 258)), (1, .int 2), (2, .int (nI (10 * dv n ip h0 + dv n ip (h0 + 1))))] 3 88 C0 dX8_number_85 rfl rfl (by decide) (by decide) rfl ?_
          refine x_lv (lv1 := [(0, .ref (g.2 0 + 258)), (1, .int 2), (2, .int (nI (10 * dv n ip h0 + dv n ip (h0 + 1)))), (3, .int 2)]) [1, 2, 3, 0] rfl ?_
          refine x_goto 36 C0 dX8_number_88 (by decide) ?_
          refine x_iload_n 3 37 C0 dX8_number_36 rfl rfl rfl ?_
          refine x_iload_n 1 38 C0 dX8_number_37 rfl rfl rfl ?_
          refine x_icmp_ge 91 41 C0 dX8_number_38 rfl (by decide) (fun _ => ?_) (fun q => False.elim (by revert q; decide))
          refine x_iload_n 2 92 C0 dX8_number_91 rfl rfl rfl ?_
          exact x_ireturn C0 dX8_number_92 rfl rfl (Nat.le_of_ble_eq_true rfl) (Nat.le_of_ble_eq_true rfl) ⟨rfl, _, rfl, hJ14, fun q z1 z2 => (if_neg z1).trans ((if_neg z1).trans (if_neg z2)), Or.inr (Or.inr ⟨c1, hd1, by unfold vN; rw [if_pos hd2], rfl, by unfold qN; rw [if_pos hd2]; rfl⟩)⟩
        · refine x_st (st1 := [.int 0]) rfl ?_
          refine x_if_eq 91 62 C0 dX8_number_59 rfl (by decide) (fun _ => ?_) (fun q => False.elim (by revert q; decide))
          refine x_iload_n 2 92 C0 dX8_number_91 rfl rfl rfl ?_
          exact x_ireturn C0 dX8_number_92 rfl rfl (Nat.le_of_ble_eq_true rfl) (Nat.le_of_ble_eq_true rfl) ⟨rfl, _, rfl, hJ9, fun q z1 z2 => (if_neg z1).trans (if_neg z2), Or.inr (Or.inr ⟨c1, hd1, by unfold vN; rw [if_neg (fun z => hx12 (dgt_of z))], rfl, by unfold qN; rw [if_neg (fun z => hx12 (dgt_of z))]; rfl⟩)⟩
      · refine x_st (st1 := [.int 0]) rfl ?_
        exact absurd ⟨ha2, hb2⟩ hx7
    · refine x_st (st1 := [.int 0, .ref (g.2 0 + 258)]) rfl ?_
      refine x_if_ne 28 24 C0 dX8_number_21 rfl (by decide) (fun q => False.elim (by revert q; decide)) (fun _ => ?_)
      refine x_iconst (v := 1) 25 C0 dX8_number_24 rfl (by decide) ?_
      refine x_goto 29 C0 dX8_number_25 (by decide) ?_
      refine x_w (MW_self hM) ?_
      refine x_putf 19 32 C0 dX8_number_29 rfl MR_MW.o (by show g.2 0 ≤ _; omega) rfl (by decide) inX8 tyX8_ok nmX8 mF_X8_204 rfl rfl rfl rfl (Nat.le_of_ble_eq_true rfl) ?_
      refine x_w (w1 := (MW g w (upd t 11 1) v bf sv pa lb ip td sg)) (MW_o rfl) ?_
      have hJ18 : MJ n (upd t 11 1) v bf sv pa sg := hJ.j_t (by decide)
      refine x_iconst (v := 0) 33 C0 dX8_number_32 rfl (by decide) ?_
      refine x_istore_n [(2, .int 0), (0, .ref (g.2 0 + 258)), (1, .int 2)] 34 C0 dX8_number_33 rfl rfl (by decide) rfl ?_
      refine x_lv (lv1 := [(0, .ref (g.2 0 + 258)), (1, .int 2), (2, .int 0)]) [1, 2, 0] rfl ?_
      refine x_iconst (v := 0) 35 C0 dX8_number_34 rfl (by decide) ?_
      refine x_istore_n [(3, .int 0), (0, .ref (g.2 0 + 258)), (1, .int 2), (2, .int 0)] 36 C0 dX8_number_35 rfl rfl (by decide) rfl ?_
      refine x_lv (lv1 := [(0, .ref (g.2 0 + 258)), (1, .int 2), (2, .int 0), (3, .int 0)]) [1, 2, 3, 0] rfl ?_
      refine x_iload_n 3 37 C0 dX8_number_36 rfl rfl rfl ?_
      refine x_iload_n 1 38 C0 dX8_number_37 rfl rfl rfl ?_
      refine x_icmp_ge 91 41 C0 dX8_number_38 rfl (by decide) (fun q => False.elim (by revert q; decide)) (fun _ => ?_)
      refine x_aload_n 0 42 C0 dX8_number_41 rfl rfl rfl ?_
      refine x_getf (v := .int 1) 19 45 C0 dX8_number_42 rfl MR_MW.o rfl (by decide) inX8 mF_X8_204 rfl ?_
      refine x_if_ne 91 48 C0 dX8_number_45 rfl (by decide) (fun _ => ?_) (fun q => False.elim (by revert q; decide))
      refine x_iload_n 2 92 C0 dX8_number_91 rfl rfl rfl ?_
      exact x_ireturn C0 dX8_number_92 rfl rfl (Nat.le_of_ble_eq_true rfl) (Nat.le_of_ble_eq_true rfl) ⟨rfl, _, rfl, hJ18, fun q z1 z2 => if_neg z2, Or.inr (Or.inl ⟨c1, fun z => hx2 (dgt_of z), rfl, rfl, ht0⟩)⟩
  · refine x_iconst (v := 0) 8 C0 dX8_number_7 rfl (by decide) ?_
    exact x_ireturn C0 dX8_number_8 rfl rfl (Nat.le_of_ble_eq_true rfl) (Nat.le_of_ble_eq_true rfl) ⟨rfl, _, MW_self hM, hJ, tW.rf, Or.inl ⟨c1, rfl, rfl⟩⟩

set_option maxHeartbeats 4000000 in
set_option maxRecDepth 100000 in
theorem e_X8_mark (l : Launch) (hl : l.stackTraces = false) (g : xg_T) (w : xw_T) (sz n : Nat) (t v bf sv pa lb ip td sg : Nat → Int32) (hM : MR g w t v bf sv pa lb ip td sg) (hJ : MJ n t v bf sv pa sg) (h0 : Nat) (hh0 : h0 ≤ 60) (ht0 : t 10 = nI h0) (sn : Int32) (hsn : ¬ sn = -1) : xM l g yX8_mark cX8_mark 2 none ({ frames := 1, cells := 0, slots := 0, locals := 20 }) 0 0 [.ref (g.2 0 + 258), .int sn] w sz (mQ g w sz n t v bf sv pa lb ip td sg (fun r t' => (¬ t 11 = 0 ∧ r = none ∧ t' = t) ∨ (t 11 = 0 ∧ ¬ sgn n ip h0 = sn ∧ r = none ∧ t' 11 = 1 ∧ t' 10 = nI h0) ∨ (t 11 = 0 ∧ sgn n ip h0 = sn ∧ r = none ∧ t' 11 = 0 ∧ t' 10 = nI (h0 + 1)))) (fun _ _ _ => False) := by
  have hn60 := hJ.2.2.2.2.2.2.1
  refine xM.of RX8 hl (by decide +kernel) rfl (Nat.le_of_ble_eq_true rfl) rfl ?_
  intro p e s m args below meth cD C0 hini
  refine x_aload_n 0 1 C0 dX8_mark_0 rfl rfl rfl ?_
  refine x_getf (v := .int (t 11)) 19 4 C0 dX8_mark_1 rfl hM.o rfl (by decide) inX8 mF_X8_204 rfl ?_
  refine x_if_eq 8 7 C0 dX8_mark_4 rfl (by decide) (fun c1 => ?_) (fun c1 => ?_)
  · refine x_aload_n 0 9 C0 dX8_mark_8 rfl rfl rfl ?_
    refine x_aload_n 0 10 C0 dX8_mark_9 rfl rfl rfl ?_
    refine x_callV 13 C0 (e_X8_sign l hl g _ _ n t v bf sv pa lb ip td sg hM hJ h0 (mj_h hJ ht0 (by omega)) ht0) dX8_mark_10 rfl mC_X8_sign mM_X8_201 mI_X8_sign mV_X8_sign mN_X8 yd_X8_sign rfl rfl ⟨Nat.le_of_ble_eq_true rfl, Nat.le_of_ble_eq_true rfl⟩ hM.o rfl rfl rfl rfl (Nat.le_of_ble_eq_true rfl) ⟨Nat.le_of_ble_eq_true rfl, Nat.le_of_ble_eq_true rfl⟩ (fun _ _ _ q => False.elim q) (fun r w1 sz1 hz hP => ?_)
    obtain ⟨rfl, rfl, rfl⟩ := hP
    refine x_st (st1 := [.int (sgn n ip h0), .ref (g.2 0 + 258)]) rfl ?_
    refine x_iload_n 1 14 C0 dX8_mark_13 rfl rfl rfl ?_
    refine x_icmp_eq 21 17 C0 dX8_mark_14 rfl (by decide) (fun c2 => ?_) (fun c2 => ?_)
    · refine x_iconst (v := 0) 22 C0 dX8_mark_21 rfl (by decide) ?_
      refine x_w (MW_self hM) ?_
      refine x_putf 19 25 C0 dX8_mark_22 rfl MR_MW.o (by show g.2 0 ≤ _; omega) rfl (by decide) inX8 tyX8_ok nmX8 mF_X8_204 rfl rfl rfl rfl (Nat.le_of_ble_eq_true rfl) ?_
      refine x_w (w1 := (MW g w (upd t 11 0) v bf sv pa lb ip td sg)) (MW_o rfl) ?_
      have hJ3 : MJ n (upd t 11 0) v bf sv pa sg := hJ.j_t (by decide)
      refine x_aload_n 0 26 C0 dX8_mark_25 rfl rfl rfl ?_
      refine x_dup 27 C0 dX8_mark_26 rfl rfl ?_
      refine x_getf (v := .int (t 10)) 18 30 C0 dX8_mark_27 rfl MR_MW.o rfl (by decide) inX8 mF_X8_198 rfl ?_
      refine x_st (st1 := [.int (nI h0), .ref (g.2 0 + 258)]) (congrArg (fun z => Value.int z :: _) (ht0)) ?_
      refine x_aload_n 0 31 C0 dX8_mark_30 rfl rfl rfl ?_
      refine x_getf (v := .int 0) 19 34 C0 dX8_mark_31 rfl MR_MW.o rfl (by decide) inX8 mF_X8_204 rfl ?_
      refine x_if_eq 41 37 C0 dX8_mark_34 rfl (by decide) (fun _ => ?_) (fun q => False.elim (by revert q; decide))
      refine x_iconst (v := 1) 42 C0 dX8_mark_41 rfl (by decide) ?_
      refine x_iadd 43 C0 dX8_mark_42 rfl ?_
      refine x_st (st1 := [.int (nI (h0 + 1)), .ref (g.2 0 + 258)]) (congrArg (fun z => Value.int z :: _) (nI_add h0 1)) ?_
      refine x_putf 18 46 C0 dX8_mark_43 rfl MR_MW.o (by show g.2 0 ≤ _; omega) rfl (by decide) inX8 tyX8_ok nmX8 mF_X8_198 rfl rfl rfl rfl (Nat.le_of_ble_eq_true rfl) ?_
      refine x_w (w1 := (MW g w (upd (upd t 11 0) 10 (nI (h0 + 1))) v bf sv pa lb ip td sg)) (MW_o rfl) ?_
      have hlt : h0 < n := sgn_in hn60 (by omega) (fun e => hsn (c2.symm.trans e))
      have hJ5 : MJ n (upd (upd t 11 0) 10 (nI (h0 + 1))) v bf sv pa sg := hJ3.j_h (m := h0 + 1) (by omega) rfl
      exact x_return C0 dX8_mark_46 rfl (Nat.le_of_ble_eq_true rfl) (Nat.le_of_ble_eq_true rfl) ⟨rfl, _, rfl, hJ5, fun q z1 z2 => (if_neg z1).trans (if_neg z2), Or.inr (Or.inr ⟨c1, c2, rfl, rfl, rfl⟩)⟩
    · refine x_iconst (v := 1) 18 C0 dX8_mark_17 rfl (by decide) ?_
      refine x_goto 22 C0 dX8_mark_18 (by decide) ?_
      refine x_w (MW_self hM) ?_
      refine x_putf 19 25 C0 dX8_mark_22 rfl MR_MW.o (by show g.2 0 ≤ _; omega) rfl (by decide) inX8 tyX8_ok nmX8 mF_X8_204 rfl rfl rfl rfl (Nat.le_of_ble_eq_true rfl) ?_
      refine x_w (w1 := (MW g w (upd t 11 1) v bf sv pa lb ip td sg)) (MW_o rfl) ?_
      have hJ6 : MJ n (upd t 11 1) v bf sv pa sg := hJ.j_t (by decide)
      refine x_aload_n 0 26 C0 dX8_mark_25 rfl rfl rfl ?_
      refine x_dup 27 C0 dX8_mark_26 rfl rfl ?_
      refine x_getf (v := .int (t 10)) 18 30 C0 dX8_mark_27 rfl MR_MW.o rfl (by decide) inX8 mF_X8_198 rfl ?_
      refine x_st (st1 := [.int (nI h0), .ref (g.2 0 + 258)]) (congrArg (fun z => Value.int z :: _) (ht0)) ?_
      refine x_aload_n 0 31 C0 dX8_mark_30 rfl rfl rfl ?_
      refine x_getf (v := .int 1) 19 34 C0 dX8_mark_31 rfl MR_MW.o rfl (by decide) inX8 mF_X8_204 rfl ?_
      refine x_if_eq 41 37 C0 dX8_mark_34 rfl (by decide) (fun q => False.elim (by revert q; decide)) (fun _ => ?_)
      refine x_iconst (v := 0) 38 C0 dX8_mark_37 rfl (by decide) ?_
      refine x_goto 42 C0 dX8_mark_38 (by decide) ?_
      refine x_iadd 43 C0 dX8_mark_42 rfl ?_
      refine x_st (st1 := [.int (nI (h0 + 0)), .ref (g.2 0 + 258)]) (congrArg (fun z => Value.int z :: _) (nI_add h0 0)) ?_
      refine x_putf 18 46 C0 dX8_mark_43 rfl MR_MW.o (by show g.2 0 ≤ _; omega) rfl (by decide) inX8 tyX8_ok nmX8 mF_X8_198 rfl rfl rfl rfl (Nat.le_of_ble_eq_true rfl) ?_
      refine x_w (w1 := (MW g w (upd (upd t 11 1) 10 (nI (h0 + 0))) v bf sv pa lb ip td sg)) (MW_o rfl) ?_
      have hJ8 : MJ n (upd (upd t 11 1) 10 (nI (h0 + 0))) v bf sv pa sg := hJ6.j_h (m := h0 + 0) (by omega) rfl
      exact x_return C0 dX8_mark_46 rfl (Nat.le_of_ble_eq_true rfl) (Nat.le_of_ble_eq_true rfl) ⟨rfl, _, rfl, hJ8, fun q z1 z2 => (if_neg z1).trans (if_neg z2), Or.inr (Or.inl ⟨c1, c2, rfl, rfl, rfl⟩)⟩
  · exact x_return C0 dX8_mark_7 rfl (Nat.le_of_ble_eq_true rfl) (Nat.le_of_ble_eq_true rfl) ⟨rfl, _, MW_self hM, hJ, tW.rf, Or.inl ⟨c1, rfl, rfl⟩⟩

set_option maxHeartbeats 4000000 in
set_option maxRecDepth 100000 in
theorem e_X8_does0 (l : Launch) (hl : l.stackTraces = false) (g : xg_T) (w : xw_T) (sz n : Nat) (t v bf sv pa lb ip td sg : Nat → Int32) (hM : MR g w t v bf sv pa lb ip td sg) (hJ : MJ n t v bf sv pa sg) : xM l g yX8_does cX8_does 2 (some .int) ({ frames := 4, cells := 0, slots := 0, locals := 87 }) 0 0 [.ref (g.2 0 + 258), .int 0] w sz (mX g w sz n bf sv pa ip td sg (fun r t' v' => mT t r t' v' ∧ R_X8_linesChest t v (td 0) r t' v')) (fun _ _ _ => False) := by
  refine xM.of RX8 hl (by decide +kernel) rfl (Nat.le_of_ble_eq_true rfl) rfl ?_
  intro p e s m args below meth cD C0 hini
  refine x_iload_n 1 1 C0 dX8_does_0 rfl rfl rfl ?_
  refine x_tabIn 44 C0 (x := 0) dX8_does_1 (by decide) (by decide) rfl (by decide) ?_
  refine x_aload_n 0 45 C0 dX8_does_44 rfl rfl rfl ?_
  refine x_aload_n 0 46 C0 dX8_does_45 rfl rfl rfl ?_
  refine x_getf (v := .ref (g.2 0 + 258 + 7)) 15 49 C0 dX8_does_46 rfl hM.o rfl (by decide) inX8 mF_X8_28 rfl ?_
  refine x_iconst (v := 0) 50 C0 dX8_does_49 rfl (by decide) ?_
  refine x_iald 0 51 C0 dX8_does_50 rfl hM.r_td rfl (vp_in_nI (n := 0) (by decide) (by decide)) ?_
  refine x_st (st1 := [.int (td 0), .ref (g.2 0 + 258)]) (congrArg (fun z => Value.int z :: _) (show td (nI 0).toNatClampNeg = td 0 from by rw [nI_clamp (by omega)])) ?_
  refine x_callV 54 C0 (k_X8_linesChest l hl g _ _ n t v bf sv pa lb ip td sg hM hJ (td 0)) dX8_does_51 rfl mC_X8_linesChest mM_X8_115 mI_X8_linesChest mV_X8_linesChest mN_X8 yd_X8_linesChest rfl rfl ⟨Nat.le_of_ble_eq_true rfl, Nat.le_of_ble_eq_true rfl⟩ hM.o rfl rfl rfl rfl (Nat.le_of_ble_eq_true rfl) ⟨Nat.le_of_ble_eq_true rfl, Nat.le_of_ble_eq_true rfl⟩ (fun _ _ _ q => False.elim q) (fun r w1 sz1 hz hP => ?_)
  obtain ⟨rfl, t1, v1, lb1, rfl, hJ1, ⟨⟨a1, rfl⟩, he1⟩, hX1⟩ := hP
  refine x_st (st1 := [.int a1]) rfl ?_
  exact x_ireturn C0 dX8_does_54 rfl rfl (Nat.le_of_ble_eq_true rfl) (Nat.le_of_ble_eq_true rfl) ⟨rfl, _, _, _, rfl, hJ1, ⟨⟨_, rfl⟩, he1⟩, hX1⟩

set_option maxHeartbeats 4000000 in
set_option maxRecDepth 100000 in
theorem e_X8_does1 (l : Launch) (hl : l.stackTraces = false) (g : xg_T) (w : xw_T) (sz n : Nat) (t v bf sv pa lb ip td sg : Nat → Int32) (hM : MR g w t v bf sv pa lb ip td sg) (hJ : MJ n t v bf sv pa sg) : xM l g yX8_does cX8_does 2 (some .int) ({ frames := 4, cells := 0, slots := 0, locals := 92 }) 0 0 [.ref (g.2 0 + 258), .int 1] w sz (mX g w sz n bf sv pa ip td sg (fun r t' v' => mT t r t' v' ∧ R_X8_fills t v (td 0) (td 1) (td 2) (td 3) r t' v')) (fun _ _ _ => False) := by
  refine xM.of RX8 hl (by decide +kernel) rfl (Nat.le_of_ble_eq_true rfl) rfl ?_
  intro p e s m args below meth cD C0 hini
  refine x_iload_n 1 1 C0 dX8_does_0 rfl rfl rfl ?_
  refine x_tabIn 55 C0 (x := 1) dX8_does_1 (by decide) (by decide) rfl (by decide) ?_
  refine x_aload_n 0 56 C0 dX8_does_55 rfl rfl rfl ?_
  refine x_aload_n 0 57 C0 dX8_does_56 rfl rfl rfl ?_
  refine x_getf (v := .ref (g.2 0 + 258 + 7)) 15 60 C0 dX8_does_57 rfl hM.o rfl (by decide) inX8 mF_X8_28 rfl ?_
  refine x_iconst (v := 0) 61 C0 dX8_does_60 rfl (by decide) ?_
  refine x_iald 0 62 C0 dX8_does_61 rfl hM.r_td rfl (vp_in_nI (n := 0) (by decide) (by decide)) ?_
  refine x_st (st1 := [.int (td 0), .ref (g.2 0 + 258)]) (congrArg (fun z => Value.int z :: _) (show td (nI 0).toNatClampNeg = td 0 from by rw [nI_clamp (by omega)])) ?_
  refine x_aload_n 0 63 C0 dX8_does_62 rfl rfl rfl ?_
  refine x_getf (v := .ref (g.2 0 + 258 + 7)) 15 66 C0 dX8_does_63 rfl hM.o rfl (by decide) inX8 mF_X8_28 rfl ?_
  refine x_iconst (v := 1) 67 C0 dX8_does_66 rfl (by decide) ?_
  refine x_iald 0 68 C0 dX8_does_67 rfl hM.r_td rfl (vp_in_nI (n := 1) (by decide) (by decide)) ?_
  refine x_st (st1 := [.int (td 1), .int (td 0), .ref (g.2 0 + 258)]) (congrArg (fun z => Value.int z :: _) (show td (nI 1).toNatClampNeg = td 1 from by rw [nI_clamp (by omega)])) ?_
  refine x_aload_n 0 69 C0 dX8_does_68 rfl rfl rfl ?_
  refine x_getf (v := .ref (g.2 0 + 258 + 7)) 15 72 C0 dX8_does_69 rfl hM.o rfl (by decide) inX8 mF_X8_28 rfl ?_
  refine x_iconst (v := 2) 73 C0 dX8_does_72 rfl (by decide) ?_
  refine x_iald 0 74 C0 dX8_does_73 rfl hM.r_td rfl (vp_in_nI (n := 2) (by decide) (by decide)) ?_
  refine x_st (st1 := [.int (td 2), .int (td 1), .int (td 0), .ref (g.2 0 + 258)]) (congrArg (fun z => Value.int z :: _) (show td (nI 2).toNatClampNeg = td 2 from by rw [nI_clamp (by omega)])) ?_
  refine x_aload_n 0 75 C0 dX8_does_74 rfl rfl rfl ?_
  refine x_getf (v := .ref (g.2 0 + 258 + 7)) 15 78 C0 dX8_does_75 rfl hM.o rfl (by decide) inX8 mF_X8_28 rfl ?_
  refine x_iconst (v := 3) 79 C0 dX8_does_78 rfl (by decide) ?_
  refine x_iald 0 80 C0 dX8_does_79 rfl hM.r_td rfl (vp_in_nI (n := 3) (by decide) (by decide)) ?_
  refine x_st (st1 := [.int (td 3), .int (td 2), .int (td 1), .int (td 0), .ref (g.2 0 + 258)]) (congrArg (fun z => Value.int z :: _) (show td (nI 3).toNatClampNeg = td 3 from by rw [nI_clamp (by omega)])) ?_
  refine x_callV 83 C0 (k_X8_fills l hl g _ _ n t v bf sv pa lb ip td sg hM hJ (td 0) (td 1) (td 2) (td 3)) dX8_does_80 rfl mC_X8_fills mM_X8_121 mI_X8_fills mV_X8_fills mN_X8 yd_X8_fills rfl rfl ⟨Nat.le_of_ble_eq_true rfl, Nat.le_of_ble_eq_true rfl⟩ hM.o rfl rfl rfl rfl (Nat.le_of_ble_eq_true rfl) ⟨Nat.le_of_ble_eq_true rfl, Nat.le_of_ble_eq_true rfl⟩ (fun _ _ _ q => False.elim q) (fun r w1 sz1 hz hP => ?_)
  obtain ⟨rfl, t1, v1, lb1, rfl, hJ1, ⟨⟨a1, rfl⟩, he1⟩, hX1⟩ := hP
  refine x_st (st1 := [.int a1]) rfl ?_
  exact x_ireturn C0 dX8_does_83 rfl rfl (Nat.le_of_ble_eq_true rfl) (Nat.le_of_ble_eq_true rfl) ⟨rfl, _, _, _, rfl, hJ1, ⟨⟨_, rfl⟩, he1⟩, hX1⟩

set_option maxHeartbeats 4000000 in
set_option maxRecDepth 100000 in
theorem e_X8_does2 (l : Launch) (hl : l.stackTraces = false) (g : xg_T) (w : xw_T) (sz n : Nat) (t v bf sv pa lb ip td sg : Nat → Int32) (hM : MR g w t v bf sv pa lb ip td sg) (hJ : MJ n t v bf sv pa sg) : xM l g yX8_does cX8_does 2 (some .int) ({ frames := 3, cells := 0, slots := 0, locals := 65 }) 0 0 [.ref (g.2 0 + 258), .int 2] w sz (mX g w sz n bf sv pa ip td sg (fun r t' v' => mT t r t' v' ∧ R_X8_screws t v (td 0) (td 1) r t' v')) (fun _ _ _ => False) := by
  refine xM.of RX8 hl (by decide +kernel) rfl (Nat.le_of_ble_eq_true rfl) rfl ?_
  intro p e s m args below meth cD C0 hini
  refine x_iload_n 1 1 C0 dX8_does_0 rfl rfl rfl ?_
  refine x_tabIn 84 C0 (x := 2) dX8_does_1 (by decide) (by decide) rfl (by decide) ?_
  refine x_aload_n 0 85 C0 dX8_does_84 rfl rfl rfl ?_
  refine x_aload_n 0 86 C0 dX8_does_85 rfl rfl rfl ?_
  refine x_getf (v := .ref (g.2 0 + 258 + 7)) 15 89 C0 dX8_does_86 rfl hM.o rfl (by decide) inX8 mF_X8_28 rfl ?_
  refine x_iconst (v := 0) 90 C0 dX8_does_89 rfl (by decide) ?_
  refine x_iald 0 91 C0 dX8_does_90 rfl hM.r_td rfl (vp_in_nI (n := 0) (by decide) (by decide)) ?_
  refine x_st (st1 := [.int (td 0), .ref (g.2 0 + 258)]) (congrArg (fun z => Value.int z :: _) (show td (nI 0).toNatClampNeg = td 0 from by rw [nI_clamp (by omega)])) ?_
  refine x_aload_n 0 92 C0 dX8_does_91 rfl rfl rfl ?_
  refine x_getf (v := .ref (g.2 0 + 258 + 7)) 15 95 C0 dX8_does_92 rfl hM.o rfl (by decide) inX8 mF_X8_28 rfl ?_
  refine x_iconst (v := 1) 96 C0 dX8_does_95 rfl (by decide) ?_
  refine x_iald 0 97 C0 dX8_does_96 rfl hM.r_td rfl (vp_in_nI (n := 1) (by decide) (by decide)) ?_
  refine x_st (st1 := [.int (td 1), .int (td 0), .ref (g.2 0 + 258)]) (congrArg (fun z => Value.int z :: _) (show td (nI 1).toNatClampNeg = td 1 from by rw [nI_clamp (by omega)])) ?_
  refine x_callV 100 C0 (k_X8_screws l hl g _ _ n t v bf sv pa lb ip td sg hM hJ (td 0) (td 1)) dX8_does_97 rfl mC_X8_screws mM_X8_130 mI_X8_screws mV_X8_screws mN_X8 yd_X8_screws rfl rfl ⟨Nat.le_of_ble_eq_true rfl, Nat.le_of_ble_eq_true rfl⟩ hM.o rfl rfl rfl rfl (Nat.le_of_ble_eq_true rfl) ⟨Nat.le_of_ble_eq_true rfl, Nat.le_of_ble_eq_true rfl⟩ (fun _ _ _ q => False.elim q) (fun r w1 sz1 hz hP => ?_)
  obtain ⟨rfl, t1, v1, lb1, rfl, hJ1, ⟨⟨a1, rfl⟩, he1⟩, hX1⟩ := hP
  refine x_st (st1 := [.int a1]) rfl ?_
  exact x_ireturn C0 dX8_does_100 rfl rfl (Nat.le_of_ble_eq_true rfl) (Nat.le_of_ble_eq_true rfl) ⟨rfl, _, _, _, rfl, hJ1, ⟨⟨_, rfl⟩, he1⟩, hX1⟩

set_option maxHeartbeats 4000000 in
set_option maxRecDepth 100000 in
theorem e_X8_does3 (l : Launch) (hl : l.stackTraces = false) (g : xg_T) (w : xw_T) (sz n : Nat) (t v bf sv pa lb ip td sg : Nat → Int32) (hM : MR g w t v bf sv pa lb ip td sg) (hJ : MJ n t v bf sv pa sg) : xM l g yX8_does cX8_does 2 (some .int) ({ frames := 3, cells := 0, slots := 0, locals := 66 }) 0 0 [.ref (g.2 0 + 258), .int 3] w sz (mX g w sz n bf sv pa ip td sg (fun r t' v' => mT t r t' v' ∧ R_X8_labels t v (td 0) r t' v')) (fun _ _ _ => False) := by
  refine xM.of RX8 hl (by decide +kernel) rfl (Nat.le_of_ble_eq_true rfl) rfl ?_
  intro p e s m args below meth cD C0 hini
  refine x_iload_n 1 1 C0 dX8_does_0 rfl rfl rfl ?_
  refine x_tabIn 101 C0 (x := 3) dX8_does_1 (by decide) (by decide) rfl (by decide) ?_
  refine x_aload_n 0 102 C0 dX8_does_101 rfl rfl rfl ?_
  refine x_aload_n 0 103 C0 dX8_does_102 rfl rfl rfl ?_
  refine x_getf (v := .ref (g.2 0 + 258 + 7)) 15 106 C0 dX8_does_103 rfl hM.o rfl (by decide) inX8 mF_X8_28 rfl ?_
  refine x_iconst (v := 0) 107 C0 dX8_does_106 rfl (by decide) ?_
  refine x_iald 0 108 C0 dX8_does_107 rfl hM.r_td rfl (vp_in_nI (n := 0) (by decide) (by decide)) ?_
  refine x_st (st1 := [.int (td 0), .ref (g.2 0 + 258)]) (congrArg (fun z => Value.int z :: _) (show td (nI 0).toNatClampNeg = td 0 from by rw [nI_clamp (by omega)])) ?_
  refine x_callV 111 C0 (k_X8_labels l hl g _ _ n t v bf sv pa lb ip td sg hM hJ (td 0)) dX8_does_108 rfl mC_X8_labels mM_X8_146 mI_X8_labels mV_X8_labels mN_X8 yd_X8_labels rfl rfl ⟨Nat.le_of_ble_eq_true rfl, Nat.le_of_ble_eq_true rfl⟩ hM.o rfl rfl rfl rfl (Nat.le_of_ble_eq_true rfl) ⟨Nat.le_of_ble_eq_true rfl, Nat.le_of_ble_eq_true rfl⟩ (fun _ _ _ q => False.elim q) (fun r w1 sz1 hz hP => ?_)
  obtain ⟨rfl, t1, v1, lb1, rfl, hJ1, ⟨⟨a1, rfl⟩, he1⟩, hX1⟩ := hP
  refine x_st (st1 := [.int a1]) rfl ?_
  exact x_ireturn C0 dX8_does_111 rfl rfl (Nat.le_of_ble_eq_true rfl) (Nat.le_of_ble_eq_true rfl) ⟨rfl, _, _, _, rfl, hJ1, ⟨⟨_, rfl⟩, he1⟩, hX1⟩

set_option maxHeartbeats 4000000 in
set_option maxRecDepth 100000 in
theorem e_X8_does4 (l : Launch) (hl : l.stackTraces = false) (g : xg_T) (w : xw_T) (sz n : Nat) (t v bf sv pa lb ip td sg : Nat → Int32) (hM : MR g w t v bf sv pa lb ip td sg) (hJ : MJ n t v bf sv pa sg) : xM l g yX8_does cX8_does 2 (some .int) ({ frames := 3, cells := 0, slots := 0, locals := 65 }) 0 0 [.ref (g.2 0 + 258), .int 4] w sz (mX g w sz n bf sv pa ip td sg (fun r t' v' => mT t r t' v' ∧ R_X8_goesOut t v (td 0) r t' v')) (fun _ _ _ => False) := by
  refine xM.of RX8 hl (by decide +kernel) rfl (Nat.le_of_ble_eq_true rfl) rfl ?_
  intro p e s m args below meth cD C0 hini
  refine x_iload_n 1 1 C0 dX8_does_0 rfl rfl rfl ?_
  refine x_tabIn 112 C0 (x := 4) dX8_does_1 (by decide) (by decide) rfl (by decide) ?_
  refine x_aload_n 0 113 C0 dX8_does_112 rfl rfl rfl ?_
  refine x_aload_n 0 114 C0 dX8_does_113 rfl rfl rfl ?_
  refine x_getf (v := .ref (g.2 0 + 258 + 7)) 15 117 C0 dX8_does_114 rfl hM.o rfl (by decide) inX8 mF_X8_28 rfl ?_
  refine x_iconst (v := 0) 118 C0 dX8_does_117 rfl (by decide) ?_
  refine x_iald 0 119 C0 dX8_does_118 rfl hM.r_td rfl (vp_in_nI (n := 0) (by decide) (by decide)) ?_
  refine x_st (st1 := [.int (td 0), .ref (g.2 0 + 258)]) (congrArg (fun z => Value.int z :: _) (show td (nI 0).toNatClampNeg = td 0 from by rw [nI_clamp (by omega)])) ?_
  refine x_callV 122 C0 (k_X8_goesOut l hl g _ _ n t v bf sv pa lb ip td sg hM hJ (td 0)) dX8_does_119 rfl mC_X8_goesOut mM_X8_158 mI_X8_goesOut mV_X8_goesOut mN_X8 yd_X8_goesOut rfl rfl ⟨Nat.le_of_ble_eq_true rfl, Nat.le_of_ble_eq_true rfl⟩ hM.o rfl rfl rfl rfl (Nat.le_of_ble_eq_true rfl) ⟨Nat.le_of_ble_eq_true rfl, Nat.le_of_ble_eq_true rfl⟩ (fun _ _ _ q => False.elim q) (fun r w1 sz1 hz hP => ?_)
  obtain ⟨rfl, t1, v1, lb1, rfl, hJ1, ⟨⟨a1, rfl⟩, he1⟩, hX1⟩ := hP
  refine x_st (st1 := [.int a1]) rfl ?_
  exact x_ireturn C0 dX8_does_122 rfl rfl (Nat.le_of_ble_eq_true rfl) (Nat.le_of_ble_eq_true rfl) ⟨rfl, _, _, _, rfl, hJ1, ⟨⟨_, rfl⟩, he1⟩, hX1⟩

set_option maxHeartbeats 4000000 in
set_option maxRecDepth 100000 in
theorem e_X8_does5 (l : Launch) (hl : l.stackTraces = false) (g : xg_T) (w : xw_T) (sz n : Nat) (t v bf sv pa lb ip td sg : Nat → Int32) (hM : MR g w t v bf sv pa lb ip td sg) (hJ : MJ n t v bf sv pa sg) : xM l g yX8_does cX8_does 2 (some .int) ({ frames := 3, cells := 0, slots := 0, locals := 64 }) 0 0 [.ref (g.2 0 + 258), .int 5] w sz (mX g w sz n bf sv pa ip td sg (fun r t' v' => mT t r t' v' ∧ R_X8_loads t v (td 0) r t' v')) (fun _ _ _ => False) := by
  refine xM.of RX8 hl (by decide +kernel) rfl (Nat.le_of_ble_eq_true rfl) rfl ?_
  intro p e s m args below meth cD C0 hini
  refine x_iload_n 1 1 C0 dX8_does_0 rfl rfl rfl ?_
  refine x_tabIn 123 C0 (x := 5) dX8_does_1 (by decide) (by decide) rfl (by decide) ?_
  refine x_aload_n 0 124 C0 dX8_does_123 rfl rfl rfl ?_
  refine x_aload_n 0 125 C0 dX8_does_124 rfl rfl rfl ?_
  refine x_getf (v := .ref (g.2 0 + 258 + 7)) 15 128 C0 dX8_does_125 rfl hM.o rfl (by decide) inX8 mF_X8_28 rfl ?_
  refine x_iconst (v := 0) 129 C0 dX8_does_128 rfl (by decide) ?_
  refine x_iald 0 130 C0 dX8_does_129 rfl hM.r_td rfl (vp_in_nI (n := 0) (by decide) (by decide)) ?_
  refine x_st (st1 := [.int (td 0), .ref (g.2 0 + 258)]) (congrArg (fun z => Value.int z :: _) (show td (nI 0).toNatClampNeg = td 0 from by rw [nI_clamp (by omega)])) ?_
  refine x_callV 133 C0 (k_X8_loads l hl g _ _ n t v bf sv pa lb ip td sg hM hJ (td 0)) dX8_does_130 rfl mC_X8_loads mM_X8_168 mI_X8_loads mV_X8_loads mN_X8 yd_X8_loads rfl rfl ⟨Nat.le_of_ble_eq_true rfl, Nat.le_of_ble_eq_true rfl⟩ hM.o rfl rfl rfl rfl (Nat.le_of_ble_eq_true rfl) ⟨Nat.le_of_ble_eq_true rfl, Nat.le_of_ble_eq_true rfl⟩ (fun _ _ _ q => False.elim q) (fun r w1 sz1 hz hP => ?_)
  obtain ⟨rfl, t1, v1, lb1, rfl, hJ1, ⟨⟨a1, rfl⟩, he1⟩, hX1⟩ := hP
  refine x_st (st1 := [.int a1]) rfl ?_
  exact x_ireturn C0 dX8_does_133 rfl rfl (Nat.le_of_ble_eq_true rfl) (Nat.le_of_ble_eq_true rfl) ⟨rfl, _, _, _, rfl, hJ1, ⟨⟨_, rfl⟩, he1⟩, hX1⟩

set_option maxHeartbeats 4000000 in
set_option maxRecDepth 100000 in
theorem e_X8_does6 (l : Launch) (hl : l.stackTraces = false) (g : xg_T) (w : xw_T) (sz n : Nat) (t v bf sv pa lb ip td sg : Nat → Int32) (hM : MR g w t v bf sv pa lb ip td sg) (hJ : MJ n t v bf sv pa sg) : xM l g yX8_does cX8_does 2 (some .int) ({ frames := 4, cells := 0, slots := 0, locals := 87 }) 0 0 [.ref (g.2 0 + 258), .int 6] w sz (mX g w sz n bf sv pa ip td sg (fun r t' v' => mT t r t' v' ∧ R_X8_sails t v r t' v')) (fun _ _ _ => False) := by
  refine xM.of RX8 hl (by decide +kernel) rfl (Nat.le_of_ble_eq_true rfl) rfl ?_
  intro p e s m args below meth cD C0 hini
  refine x_iload_n 1 1 C0 dX8_does_0 rfl rfl rfl ?_
  refine x_tabIn 134 C0 (x := 6) dX8_does_1 (by decide) (by decide) rfl (by decide) ?_
  refine x_aload_n 0 135 C0 dX8_does_134 rfl rfl rfl ?_
  refine x_callV 138 C0 (k_X8_sails l hl g _ _ n t v bf sv pa lb ip td sg hM hJ) dX8_does_135 rfl mC_X8_sails mM_X8_174 mI_X8_sails mV_X8_sails mN_X8 yd_X8_sails rfl rfl ⟨Nat.le_of_ble_eq_true rfl, Nat.le_of_ble_eq_true rfl⟩ hM.o rfl rfl rfl rfl (Nat.le_of_ble_eq_true rfl) ⟨Nat.le_of_ble_eq_true rfl, Nat.le_of_ble_eq_true rfl⟩ (fun _ _ _ q => False.elim q) (fun r w1 sz1 hz hP => ?_)
  obtain ⟨rfl, t1, v1, lb1, rfl, hJ1, ⟨⟨a1, rfl⟩, he1⟩, hX1⟩ := hP
  refine x_st (st1 := [.int a1]) rfl ?_
  exact x_ireturn C0 dX8_does_138 rfl rfl (Nat.le_of_ble_eq_true rfl) (Nat.le_of_ble_eq_true rfl) ⟨rfl, _, _, _, rfl, hJ1, ⟨⟨_, rfl⟩, he1⟩, hX1⟩

set_option maxHeartbeats 4000000 in
set_option maxRecDepth 100000 in
theorem e_X8_does7 (l : Launch) (hl : l.stackTraces = false) (g : xg_T) (w : xw_T) (sz n : Nat) (t v bf sv pa lb ip td sg : Nat → Int32) (hM : MR g w t v bf sv pa lb ip td sg) (hJ : MJ n t v bf sv pa sg) : xM l g yX8_does cX8_does 2 (some .int) ({ frames := 4, cells := 0, slots := 0, locals := 85 }) 0 0 [.ref (g.2 0 + 258), .int 7] w sz (mX g w sz n bf sv pa ip td sg (fun r t' v' => mT t r t' v' ∧ R_X8_passes t v (td 0) r t' v')) (fun _ _ _ => False) := by
  refine xM.of RX8 hl (by decide +kernel) rfl (Nat.le_of_ble_eq_true rfl) rfl ?_
  intro p e s m args below meth cD C0 hini
  refine x_iload_n 1 1 C0 dX8_does_0 rfl rfl rfl ?_
  refine x_tabOut 139 C0 (x := 7) dX8_does_1 (by decide) (by decide) ?_
  refine x_aload_n 0 140 C0 dX8_does_139 rfl rfl rfl ?_
  refine x_aload_n 0 141 C0 dX8_does_140 rfl rfl rfl ?_
  refine x_getf (v := .ref (g.2 0 + 258 + 7)) 15 144 C0 dX8_does_141 rfl hM.o rfl (by decide) inX8 mF_X8_28 rfl ?_
  refine x_iconst (v := 0) 145 C0 dX8_does_144 rfl (by decide) ?_
  refine x_iald 0 146 C0 dX8_does_145 rfl hM.r_td rfl (vp_in_nI (n := 0) (by decide) (by decide)) ?_
  refine x_st (st1 := [.int (td 0), .ref (g.2 0 + 258)]) (congrArg (fun z => Value.int z :: _) (show td (nI 0).toNatClampNeg = td 0 from by rw [nI_clamp (by omega)])) ?_
  refine x_callV 149 C0 (k_X8_passes l hl g _ _ n t v bf sv pa lb ip td sg hM hJ (td 0) (td 0) rfl) dX8_does_146 rfl mC_X8_passes mM_X8_186 mI_X8_passes mV_X8_passes mN_X8 yd_X8_passes rfl rfl ⟨Nat.le_of_ble_eq_true rfl, Nat.le_of_ble_eq_true rfl⟩ hM.o rfl rfl rfl rfl (Nat.le_of_ble_eq_true rfl) ⟨Nat.le_of_ble_eq_true rfl, Nat.le_of_ble_eq_true rfl⟩ (fun _ _ _ q => False.elim q) (fun r w1 sz1 hz hP => ?_)
  obtain ⟨rfl, t1, v1, lb1, rfl, hJ1, ⟨⟨a1, rfl⟩, he1⟩, hX1⟩ := hP
  refine x_st (st1 := [.int a1]) rfl ?_
  exact x_ireturn C0 dX8_does_149 rfl rfl (Nat.le_of_ble_eq_true rfl) (Nat.le_of_ble_eq_true rfl) ⟨rfl, _, _, _, rfl, hJ1, ⟨⟨_, rfl⟩, he1⟩, hX1⟩

