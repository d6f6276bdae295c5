/-! READS WITH LOOPS, ON BOTH SIDES -/
def bstR (v : Nat → Int32) : Nat → Nat
  | 0 => 0
  | n + 1 => if 0 < rAll v (n + 1) - rAll v (bstR v n) ∨ (rAll v (n + 1) - rAll v (bstR v n) = 0 ∧ v (10 + 3 * bstR v n + 2) < v (10 + 3 * (n + 1) + 2)) then n + 1 else bstR v n
def bstC (y : Nat → Int32) : Nat → Int32
  | 0 => 0
  | n + 1 => if sBetter y (nI (n + 1)) (bstC y n) = true then nI (n + 1) else bstC y n
theorem bsr_yes {v : Nat → Int32} {i b : Nat} (h1 : 1 ≤ i) (hb : b = bstR v (i - 1)) (h : 0 < rAll v i - rAll v b ∨ (rAll v i - rAll v b = 0 ∧ v (10 + 3 * b + 2) < v (10 + 3 * i + 2))) : i = bstR v (i + 1 - 1) := by
  obtain ⟨n, rfl⟩ : ∃ n, i = n + 1 := ⟨i - 1, by omega⟩
  subst hb
  show n + 1 = (if 0 < rAll v (n + 1) - rAll v (bstR v n) ∨ (rAll v (n + 1) - rAll v (bstR v n) = 0 ∧ v (10 + 3 * bstR v n + 2) < v (10 + 3 * (n + 1) + 2)) then n + 1 else bstR v n)
  exact (if_pos h).symm
theorem bsr_no {v : Nat → Int32} {i b : Nat} (h1 : 1 ≤ i) (hb : b = bstR v (i - 1)) (h : ¬ (0 < rAll v i - rAll v b ∨ (rAll v i - rAll v b = 0 ∧ v (10 + 3 * b + 2) < v (10 + 3 * i + 2)))) : b = bstR v (i + 1 - 1) := by
  obtain ⟨n, rfl⟩ : ∃ n, i = n + 1 := ⟨i - 1, by omega⟩
  subst hb
  show bstR v n = (if 0 < rAll v (n + 1) - rAll v (bstR v n) ∨ (rAll v (n + 1) - rAll v (bstR v n) = 0 ∧ v (10 + 3 * bstR v n + 2) < v (10 + 3 * (n + 1) + 2)) then n + 1 else bstR v n)
  exact (if_neg h).symm
theorem bsc_yes {y : Nat → Int32} {i : Nat} {b : Int32} (h1 : 1 ≤ i) (hb : b = bstC y (i - 1)) (h : sBetter y (nI i) b = true) : nI i = bstC y (i + 1 - 1) := by
  obtain ⟨n, rfl⟩ : ∃ n, i = n + 1 := ⟨i - 1, by omega⟩
  subst hb
  show nI (n + 1) = (if sBetter y (nI (n + 1)) (bstC y n) = true then nI (n + 1) else bstC y n)
  exact (if_pos h).symm
theorem bsc_no {y : Nat → Int32} {i : Nat} {b : Int32} (h1 : 1 ≤ i) (hb : b = bstC y (i - 1)) (h : sBetter y (nI i) b = false) : b = bstC y (i + 1 - 1) := by
  obtain ⟨n, rfl⟩ : ∃ n, i = n + 1 := ⟨i - 1, by omega⟩
  subst hb
  show bstC y n = (if sBetter y (nI (n + 1)) (bstC y n) = true then nI (n + 1) else bstC y n)
  exact (if_neg (fun q => absurd (h.symm.trans q) (by decide))).symm
set_option maxHeartbeats 4000000 in
set_option maxRecDepth 100000 in
theorem e_X8_bestGarden (l : Launch) (hl : l.stackTraces = false) (g : xg_T) (w : xw_T) (sz n : Nat) (t v bf sv pa lb ip td sg : Nat → Int32) (hM : MR g w t v bf sv pa lb ip td sg) (hJ : MJ n t v bf sv pa sg) : xM l g yX8_bestGarden cX8_bestGarden 4 (some .int) ({ frames := 2, cells := 0, slots := 0, locals := 42 }) 0 0 [.ref (g.2 0 + 258)] w sz (mRd g w sz n t v bf sv pa ip td sg (fun r _ => r = some (.int (nI (bstR v 5))))) (fun _ _ _ => False) := by
  refine xM.of RX8 hl (by decide +kernel) rfl (Nat.le_of_ble_eq_true rfl) rfl ?_
  intro p e s m args below meth cD C0 hini
  refine x_aload_n 0 1 C0 dX8_bestGarden_0 rfl rfl rfl ?_
  refine x_iconst (v := 0) 2 C0 dX8_bestGarden_1 rfl (by decide) ?_
  refine x_w (MW_self hM) ?_
  refine x_putf 0 5 C0 dX8_bestGarden_2 rfl MR_MW.o (by show g.2 0 ≤ _; omega) rfl (by decide) inX8 tyX8_ok nmX8 mF_X8_34 rfl rfl rfl rfl (Nat.le_of_ble_eq_true rfl) ?_
  refine x_w (w1 := (MW g w (upd t 0 0) v bf sv pa lb ip td sg)) (MW_o rfl) ?_
  have hJ1 : MJ n (upd t 0 0) v bf sv pa sg := hJ.j_t (by decide)
  refine x_iconst (v := 0) 6 C0 dX8_bestGarden_5 rfl (by decide) ?_
  refine x_istore_n [(1, .int 0), (0, .ref (g.2 0 + 258))] 7 C0 dX8_bestGarden_6 rfl rfl (by decide) rfl ?_
  refine x_lv (lv1 := [(0, .ref (g.2 0 + 258)), (1, .int 0)]) [1, 0] rfl ?_
  refine x_iconst (v := 1) 8 C0 dX8_bestGarden_7 rfl (by decide) ?_
  refine x_istore_n [(2, .int 1), (0, .ref (g.2 0 + 258)), (1, .int 0)] 9 C0 dX8_bestGarden_8 rfl rfl (by decide) rfl ?_
  refine x_lv (lv1 := [(0, .ref (g.2 0 + 258)), (1, .int 0), (2, .int 1)]) [1, 2, 0] rfl ?_
  have loop9 : ∀ (N i : Nat) (bq : Nat), i ≤ 6 → 6 - i < N → (bq < 6 ∧ 1 ≤ i ∧ bq = bstR v (i - 1)) → xV p l e ({ frames := 2, cells := 0, slots := 0, locals := 42 }) s m args below meth cD (xQ g below (mRd g w sz n t v bf sv pa ip td sg (fun r _ => r = some (.int (nI (bstR v 5))))) (fun _ _ _ => False) args s 0 0) g 4 (MW g w (upd t 0 0) v bf sv pa lb ip td sg) sz (0) (0) 9 [(0, .ref (g.2 0 + 258)), (1, .int (nI bq)), (2, .int (nI i))] [] := by
    intro N
    induction N with
    | zero => intro i bq h1 h2; omega
    | succ N ih =>
      intro i bq hi hN hV
      obtain ⟨hV, h1, hb⟩ := hV
      refine x_iload_n 2 10 C0 dX8_bestGarden_9 rfl rfl rfl ?_
      refine x_bipush (v := 6) 12 C0 dX8_bestGarden_10 rfl (by decide) ?_
      refine x_icmp_ge 66 15 C0 dX8_bestGarden_12 rfl (by decide) (fun c2 => ?_) (fun c2 => ?_)
      · refine x_iload_n 1 67 C0 dX8_bestGarden_66 rfl rfl rfl ?_
        exact x_ireturn C0 dX8_bestGarden_67 rfl rfl (Nat.le_of_ble_eq_true rfl) (Nat.le_of_ble_eq_true rfl) ⟨rfl, _, _, rfl, hJ1, (tL.rf.up (by decide)), (by have e := ix_eq 6 rfl (by decide) hi c2; subst e; exact congrArg (fun q => some (Value.int (nI q))) hb)⟩
      · have hi2 : i < 6 := Nat.lt_of_not_le (fun z => c2 (nI_le (a := 6) z (by omega)))
        refine x_aload_n 0 16 C0 dX8_bestGarden_15 rfl rfl rfl ?_
        refine x_iload_n 2 17 C0 dX8_bestGarden_16 rfl rfl rfl ?_
        refine x_callV 20 C0 (k_X8_allOf l hl g _ _ n (upd t 0 0) v bf sv pa lb ip td sg MR_MW hJ1 i (by omega)) dX8_bestGarden_17 rfl mC_X8_allOf mM_X8_96 mI_X8_allOf mV_X8_allOf mN_X8 yd_X8_allOf rfl rfl ⟨Nat.le_of_ble_eq_true rfl, Nat.le_of_ble_eq_true rfl⟩ MR_MW.o rfl rfl rfl rfl (Nat.le_of_ble_eq_true rfl) ⟨Nat.le_of_ble_eq_true rfl, Nat.le_of_ble_eq_true rfl⟩ (fun _ _ _ q => False.elim q) (fun r w1 sz1 hz hP => ?_)
        obtain ⟨rfl, rfl, rfl⟩ := hP
        refine x_st (st1 := [.int (rAll v i)]) rfl ?_
        refine x_aload_n 0 21 C0 dX8_bestGarden_20 rfl rfl rfl ?_
        refine x_iload_n 1 22 C0 dX8_bestGarden_21 rfl rfl rfl ?_
        refine x_callV 25 C0 (k_X8_allOf l hl g _ _ n (upd t 0 0) v bf sv pa lb ip td sg MR_MW hJ1 bq (by omega)) dX8_bestGarden_22 rfl mC_X8_allOf mM_X8_96 mI_X8_allOf mV_X8_allOf mN_X8 yd_X8_allOf rfl rfl ⟨Nat.le_of_ble_eq_true rfl, Nat.le_of_ble_eq_true rfl⟩ MR_MW.o rfl rfl rfl rfl (Nat.le_of_ble_eq_true rfl) ⟨Nat.le_of_ble_eq_true rfl, Nat.le_of_ble_eq_true rfl⟩ (fun _ _ _ q => False.elim q) (fun r w1 sz1 hz hP => ?_)
        obtain ⟨rfl, rfl, rfl⟩ := hP
        refine x_st (st1 := [.int (rAll v bq), .int (rAll v i)]) rfl ?_
        refine x_isub 26 C0 dX8_bestGarden_25 rfl ?_
        refine x_istore_n [(3, .int ((rAll v i) - (rAll v bq))), (0, .ref (g.2 0 + 258)), (1, .int (nI bq)), (2, .int (nI i))] 27 C0 dX8_bestGarden_26 rfl rfl (by decide) rfl ?_
        refine x_lv (lv1 := [(0, .ref (g.2 0 + 258)), (1, .int (nI bq)), (2, .int (nI i)), (3, .int ((rAll v i) - (rAll v bq)))]) [1, 2, 3, 0] rfl ?_
        refine x_iload_n 3 28 C0 dX8_bestGarden_27 rfl rfl rfl ?_
        refine x_if_gt 58 31 C0 dX8_bestGarden_28 rfl (by decide) (fun c3 => ?_) (fun c3 => ?_)
        · have c3' := Int32.not_le.mpr c3
          refine x_iload_n 2 59 C0 dX8_bestGarden_58 rfl rfl rfl ?_
          refine x_istore_n [(1, .int (nI i)), (0, .ref (g.2 0 + 258)), (2, .int (nI i)), (3, .int ((rAll v i) - (rAll v bq)))] 60 C0 dX8_bestGarden_59 rfl rfl (by decide) rfl ?_
          refine x_lv (lv1 := [(0, .ref (g.2 0 + 258)), (1, .int (nI i)), (2, .int (nI i)), (3, .int ((rAll v i) - (rAll v bq)))]) [1, 0, 2, 3] rfl ?_
          refine x_iinc [(2, .int (nI (i + 1))), (0, .ref (g.2 0 + 258)), (1, .int (nI i)), (3, .int ((rAll v i) - (rAll v bq)))] 2 63 C0 dX8_bestGarden_60 rfl rfl (nI_1 i) (by decide) rfl ?_
          refine x_lv (lv1 := [(0, .ref (g.2 0 + 258)), (1, .int (nI i)), (2, .int (nI (i + 1))), (3, .int ((rAll v i) - (rAll v bq)))]) [1, 2, 0, 3] rfl ?_
          refine x_goto 9 C0 dX8_bestGarden_63 (by decide) ?_
          exact x_lv [0, 1, 2] rfl (ih (i + 1) _ (by omega) (by omega) ⟨by omega, by omega, bsr_yes h1 hb (Or.inl c3)⟩)
        · have c3' := Int32.not_lt.mp c3
          refine x_iload_n 3 32 C0 dX8_bestGarden_31 rfl rfl rfl ?_
          refine x_if_ne 60 35 C0 dX8_bestGarden_32 rfl (by decide) (fun c4 => ?_) (fun c4 => ?_)
          · refine x_iinc [(2, .int (nI (i + 1))), (0, .ref (g.2 0 + 258)), (1, .int (nI bq)), (3, .int ((rAll v i) - (rAll v bq)))] 2 63 C0 dX8_bestGarden_60 rfl rfl (nI_1 i) (by decide) rfl ?_
            refine x_lv (lv1 := [(0, .ref (g.2 0 + 258)), (1, .int (nI bq)), (2, .int (nI (i + 1))), (3, .int ((rAll v i) - (rAll v bq)))]) [1, 2, 0, 3] rfl ?_
            refine x_goto 9 C0 dX8_bestGarden_63 (by decide) ?_
            exact x_lv [0, 1, 2] rfl (ih (i + 1) _ (by omega) (by omega) ⟨by omega, by omega, bsr_no h1 hb (fun h => h.elim c3 (fun q => c4 q.1))⟩)
          · refine x_aload_n 0 36 C0 dX8_bestGarden_35 rfl rfl rfl ?_
            refine x_getf (v := .ref (g.2 0 + 258 + 1)) 8 39 C0 dX8_bestGarden_36 rfl MR_MW.o rfl (by decide) inX8 mF_X8_7 rfl ?_
            refine x_iload_n 2 40 C0 dX8_bestGarden_39 rfl rfl rfl ?_
            refine x_iconst (v := 2) 41 C0 dX8_bestGarden_40 rfl (by decide) ?_
            refine x_callS 44 C0 (k_X8_leaf l hl g _ _ (nI i) 2) dX8_bestGarden_41 rfl mC_X8_leaf mM_X8_79 mS_X8_leaf mN_X8 yd_X8_leaf rfl rfl ⟨Nat.le_of_ble_eq_true rfl, Nat.le_of_ble_eq_true rfl⟩ rfl rfl (Nat.le_of_ble_eq_true rfl) ⟨Nat.le_of_ble_eq_true rfl, Nat.le_of_ble_eq_true rfl⟩ (fun _ _ _ q => False.elim q) (fun r w1 sz1 hz hP => ?_)
            obtain ⟨rfl, rfl, rfl⟩ := hP
            refine x_st (st1 := [.int (nI (10 + 3 * i + 2)), .ref (g.2 0 + 258 + 1)]) (congrArg (fun z => Value.int z :: _) (at_nI 10 3 i 2)) ?_
            refine x_iald 0 45 C0 dX8_bestGarden_44 rfl MR_MW.r_v rfl (vp_in_nI (n := 10 + 3 * i + 2) (by omega) (by decide)) ?_
            refine x_st (st1 := [.int (v (10 + 3 * i + 2))]) (congrArg (fun z => Value.int z :: _) (show v (nI (10 + 3 * i + 2)).toNatClampNeg = v (10 + 3 * i + 2) from by rw [nI_clamp (by omega)])) ?_
            refine x_aload_n 0 46 C0 dX8_bestGarden_45 rfl rfl rfl ?_
            refine x_getf (v := .ref (g.2 0 + 258 + 1)) 8 49 C0 dX8_bestGarden_46 rfl MR_MW.o rfl (by decide) inX8 mF_X8_7 rfl ?_
            refine x_iload_n 1 50 C0 dX8_bestGarden_49 rfl rfl rfl ?_
            refine x_iconst (v := 2) 51 C0 dX8_bestGarden_50 rfl (by decide) ?_
            refine x_callS 54 C0 (k_X8_leaf l hl g _ _ (nI bq) 2) dX8_bestGarden_51 rfl mC_X8_leaf mM_X8_79 mS_X8_leaf mN_X8 yd_X8_leaf rfl rfl ⟨Nat.le_of_ble_eq_true rfl, Nat.le_of_ble_eq_true rfl⟩ rfl rfl (Nat.le_of_ble_eq_true rfl) ⟨Nat.le_of_ble_eq_true rfl, Nat.le_of_ble_eq_true rfl⟩ (fun _ _ _ q => False.elim q) (fun r w1 sz1 hz hP => ?_)
            obtain ⟨rfl, rfl, rfl⟩ := hP
            refine x_st (st1 := [.int (nI (10 + 3 * bq + 2)), .ref (g.2 0 + 258 + 1), .int (v (10 + 3 * i + 2))]) (congrArg (fun z => Value.int z :: _) (at_nI 10 3 bq 2)) ?_
            refine x_iald 0 55 C0 dX8_bestGarden_54 rfl MR_MW.r_v rfl (vp_in_nI (n := 10 + 3 * bq + 2) (by omega) (by decide)) ?_
            refine x_st (st1 := [.int (v (10 + 3 * bq + 2)), .int (v (10 + 3 * i + 2))]) (congrArg (fun z => Value.int z :: _) (show v (nI (10 + 3 * bq + 2)).toNatClampNeg = v (10 + 3 * bq + 2) from by rw [nI_clamp (by omega)])) ?_
            refine x_icmp_le 60 58 C0 dX8_bestGarden_55 rfl (by decide) (fun c5 => ?_) (fun c5 => ?_)
            · have c5' := Int32.not_lt.mpr c5
              refine x_iinc [(2, .int (nI (i + 1))), (0, .ref (g.2 0 + 258)), (1, .int (nI bq)), (3, .int ((rAll v i) - (rAll v bq)))] 2 63 C0 dX8_bestGarden_60 rfl rfl (nI_1 i) (by decide) rfl ?_
              refine x_lv (lv1 := [(0, .ref (g.2 0 + 258)), (1, .int (nI bq)), (2, .int (nI (i + 1))), (3, .int ((rAll v i) - (rAll v bq)))]) [1, 2, 0, 3] rfl ?_
              refine x_goto 9 C0 dX8_bestGarden_63 (by decide) ?_
              exact x_lv [0, 1, 2] rfl (ih (i + 1) _ (by omega) (by omega) ⟨by omega, by omega, bsr_no h1 hb (fun h => h.elim c3 (fun q => Int32.not_lt.mpr c5 q.2))⟩)
            · have c5' := Int32.not_le.mp c5
              refine x_iload_n 2 59 C0 dX8_bestGarden_58 rfl rfl rfl ?_
              refine x_istore_n [(1, .int (nI i)), (0, .ref (g.2 0 + 258)), (2, .int (nI i)), (3, .int ((rAll v i) - (rAll v bq)))] 60 C0 dX8_bestGarden_59 rfl rfl (by decide) rfl ?_
              refine x_lv (lv1 := [(0, .ref (g.2 0 + 258)), (1, .int (nI i)), (2, .int (nI i)), (3, .int ((rAll v i) - (rAll v bq)))]) [1, 0, 2, 3] rfl ?_
              refine x_iinc [(2, .int (nI (i + 1))), (0, .ref (g.2 0 + 258)), (1, .int (nI i)), (3, .int ((rAll v i) - (rAll v bq)))] 2 63 C0 dX8_bestGarden_60 rfl rfl (nI_1 i) (by decide) rfl ?_
              refine x_lv (lv1 := [(0, .ref (g.2 0 + 258)), (1, .int (nI i)), (2, .int (nI (i + 1))), (3, .int ((rAll v i) - (rAll v bq)))]) [1, 2, 0, 3] rfl ?_
              refine x_goto 9 C0 dX8_bestGarden_63 (by decide) ?_
              exact x_lv [0, 1, 2] rfl (ih (i + 1) _ (by omega) (by omega) ⟨by omega, by omega, bsr_yes h1 hb (Or.inr ⟨c4, c5'⟩)⟩)
  exact x_lv [0, 1, 2] rfl (loop9 (6 + 1) 1 0 (by omega) (by omega) ⟨by decide, Nat.le_refl 1, rfl⟩)

set_option maxHeartbeats 4000000 in
set_option maxRecDepth 100000 in
theorem f9_X7_bestGarden (l : Launch) (hl : l.stackTraces = false) (g : xg_T) (w : xw_T) (sz n : Nat) (x : Nat → Nat → Int32) (la : Nat → Nat → Nat) (t tt : Nat → Int32) (vb : Option Nat) (sg : Nat → Int32) (hC : CR g w sz n x la t tt vb sg) : xM l g yX7_bestGarden cX7_bestGarden 3 (some .int) ({ frames := 4, cells := 8, slots := 64, locals := 90 }) 8 64 [.ref (g.2 0)] w sz (fPo g w sz n x la t tt vb sg (fun r => r = some (.int (bstC (x 0) 5)))) (fun _ _ _ => False) := by
  have hz9 := hC.zz
  refine xM.of RX7 hl (by decide +kernel) rfl (Nat.le_of_ble_eq_true rfl) rfl ?_
  intro p e s m args below meth cD C0 hini
  refine x_iconst (v := 0) 1 C0 dX7_bestGarden_0 rfl (by decide) ?_
  refine x_istore_n [(1, .int 0), (0, .ref (g.2 0))] 2 C0 dX7_bestGarden_1 rfl rfl (by decide) rfl ?_
  refine x_lv (lv1 := [(0, .ref (g.2 0)), (1, .int 0)]) [1, 0] rfl ?_
  refine x_iconst (v := 1) 3 C0 dX7_bestGarden_2 rfl (by decide) ?_
  refine x_istore_n [(2, .int 1), (0, .ref (g.2 0)), (1, .int 0)] 4 C0 dX7_bestGarden_3 rfl rfl (by decide) rfl ?_
  refine x_lv (lv1 := [(0, .ref (g.2 0)), (1, .int 0), (2, .int 1)]) [1, 2, 0] rfl ?_
  have loop4 : ∀ (N i : Nat) (b : Int32), i ≤ 6 → 6 - i < N → 1 ≤ i → b = bstC (x 0) (i - 1) → xV p l e ({ frames := 4, cells := 8, slots := 64, locals := 90 }) s m args below meth cD (xQ g below (fPo g w sz n x la t tt vb sg (fun r => r = some (.int (bstC (x 0) 5)))) (fun _ _ _ => False) args s 8 64) g 3 w sz (0) (0) 4 [(0, .ref (g.2 0)), (1, .int b), (2, .int (nI (i)))] [] := by
    intro N
    induction N with
    | zero => intro i b h1 h2; omega
    | succ N ih =>
      intro i b hi hN h1 hb
      refine x_iload_n 2 5 C0 dX7_bestGarden_4 rfl rfl rfl ?_
      refine x_bipush (v := 6) 7 C0 dX7_bestGarden_5 rfl (by decide) ?_
      refine x_icmp_ge 30 10 C0 dX7_bestGarden_7 rfl (by decide) (fun c1 => ?_) (fun c1 => ?_)
      · refine x_iload_n 1 31 C0 dX7_bestGarden_30 rfl rfl rfl ?_
        exact x_ireturn C0 dX7_bestGarden_31 rfl rfl (Nat.le_of_ble_eq_true rfl) (Nat.le_of_ble_eq_true rfl) ⟨by have e := ix_eq 6 rfl (by decide) hi c1; subst e; exact congrArg (fun q => some (Value.int q)) hb, hC, xFr.rf, by omega⟩
      · have hi2 := ix_lt 6 rfl (by decide) hi c1
        refine x_aload_n 0 11 C0 dX7_bestGarden_10 rfl rfl rfl ?_
        refine x_getf (v := .ref (g.2 0 + 1)) 0 14 C0 dX7_bestGarden_11 rfl hC.1.1 rfl (by decide) inX7 mF_X7_10 rfl ?_
        refine x_iload_n 2 15 C0 dX7_bestGarden_14 rfl rfl rfl ?_
        refine x_iload_n 1 16 C0 dX7_bestGarden_15 rfl rfl rfl ?_
        refine x_callV 19 C0 (k_X4_isBetterGarden l hl g _ _ _ _ _ hC.h0 (nI (i)) b) dX7_bestGarden_16 rfl mC_X4_isBetterGarden mM_X7_61 mI_X4_isBetterGarden mV_X4_isBetterGarden mN_X4 yd_X4_isBetterGarden rfl rfl ⟨Nat.le_of_ble_eq_true rfl, Nat.le_of_ble_eq_true rfl⟩ (HR.ho hC.h0) rfl rfl rfl rfl (Nat.le_of_ble_eq_true rfl) ⟨Nat.le_of_ble_eq_true rfl, Nat.le_of_ble_eq_true rfl⟩ (fun _ _ _ q => False.elim q) (fun r w1 sz1 hz hP => ?_)
        obtain ⟨hr, rfl, rfl⟩ := hP
        obtain ⟨v2, rfl, hv2⟩ : ∃ v : Int32, r = some (.int v) ∧ isB v := ⟨_, hr, isB_bi _⟩
        refine x_st (st1 := [.int v2]) rfl ?_
        refine x_if_eq 24 22 C0 dX7_bestGarden_19 rfl (by decide) (fun c3 => ?_) (fun c3 => ?_)
        · refine x_iinc [(2, .int (nI (i + 1))), (0, .ref (g.2 0)), (1, .int b)] 2 27 C0 dX7_bestGarden_24 rfl rfl (nI_1 (i)) (by decide) rfl ?_
          refine x_lv (lv1 := [(0, .ref (g.2 0)), (1, .int b), (2, .int (nI (i + 1)))]) [1, 2, 0] rfl ?_
          refine x_goto 4 C0 dX7_bestGarden_27 (by decide) ?_
          exact x_lv [0, 1, 2] rfl (ih (i + 1) _ (by omega) (by omega) (by omega) (bsc_no h1 hb (bi_yes ((Value.int.inj (Option.some.inj hr)).symm.trans c3))))
        · refine x_iload_n 2 23 C0 dX7_bestGarden_22 rfl rfl rfl ?_
          refine x_istore_n [(1, .int (nI (i))), (0, .ref (g.2 0)), (2, .int (nI (i)))] 24 C0 dX7_bestGarden_23 rfl rfl (by decide) rfl ?_
          refine x_lv (lv1 := [(0, .ref (g.2 0)), (1, .int (nI (i))), (2, .int (nI (i)))]) [1, 0, 2] rfl ?_
          refine x_iinc [(2, .int (nI (i + 1))), (0, .ref (g.2 0)), (1, .int (nI (i)))] 2 27 C0 dX7_bestGarden_24 rfl rfl (nI_1 (i)) (by decide) rfl ?_
          refine x_lv (lv1 := [(0, .ref (g.2 0)), (1, .int (nI (i))), (2, .int (nI (i + 1)))]) [1, 2, 0] rfl ?_
          refine x_goto 4 C0 dX7_bestGarden_27 (by decide) ?_
          exact x_lv [0, 1, 2] rfl (ih (i + 1) _ (by omega) (by omega) (by omega) (bsc_yes h1 hb (bi_no (fun q => c3 ((Value.int.inj (Option.some.inj hr)).trans q)))))
  exact x_lv [0, 1, 2] rfl (loop4 7 1 0 (by omega) (by omega) (Nat.le_refl 1) rfl)

theorem rAll_n {b : Nat} {v : Nat → Int32} (h : KP b v) {a : Nat} (ha : a < 6) : ∃ A : Nat, A ≤ 1500 ∧ rAll v a = nI A := by
  obtain ⟨s0, h0, e0⟩ := h.2.1 (10 + 3 * a + 0) (by omega) (by omega)
  obtain ⟨s1, h1, e1⟩ := h.2.1 (10 + 3 * a + 1) (by omega) (by omega)
  obtain ⟨s2, h2, e2⟩ := h.2.1 (10 + 3 * a + 2) (by omega) (by omega)
  refine ⟨s0 + s1 + s2, by omega, ?_⟩
  unfold rAll
  rw [e0, e1, e2, nI_add, nI_add]
theorem sub_nI {a b : Nat} (ha : a ≤ 1500) (hb : b ≤ 1500) : (0 < nI a - nI b ↔ nI b < nI a) ∧ (nI a - nI b = 0 ↔ nI a = nI b) := by
  have e := pk_sub_toInt (a := a) (b := b) (by omega) (by omega)
  have z : (0 : Int32).toInt = 0 := by decide
  refine ⟨?_, ?_⟩
  · rw [Int32.lt_iff_toInt_lt, e, z, nI_ltI (by omega) (by omega)]
    omega
  · rw [← Int32.toInt_inj, e, z, nI_eq (by omega) (by omega)]
    omega
theorem bett_eq {k : Nat} {y u : Nat → Int32} (hA : alk y u) (h : KP k u) {a b : Nat} (ha : a < 6) (hb : b < 6) : sBetter y (nI a) (nI b) = true ↔ (0 < rAll u a - rAll u b ∨ (rAll u a - rAll u b = 0 ∧ u (10 + 3 * b + 2) < u (10 + 3 * a + 2))) := by
  obtain ⟨A, hA1, eA⟩ := rAll_n h ha
  obtain ⟨B, hB1, eB⟩ := rAll_n h hb
  obtain ⟨s1, s2⟩ := sub_nI hA1 hB1
  have f : ∀ c, c < 6 → sOf y (nI c) = rAll u c := fun c hc => by
    rw [sOf_n hA hc]
    unfold rAll
    rw [Int32.zero_add]
  have f2 : ∀ c, c < 6 → sGet y (nI c) 2 = u (10 + 3 * c + 2) := fun c hc => (sGet_n (b := 2) hc (by omega)).trans (hA.at (by omega)).symm
  unfold sBetter
  rw [decide_eq_true_iff, f a ha, f b hb, f2 a ha, f2 b hb, eA, eB, s1, s2]
theorem bst_eq {k : Nat} {y u : Nat → Int32} (hA : alk y u) (h : KP k u) : ∀ n, n ≤ 5 → bstR u n ≤ n ∧ bstC y n = nI (bstR u n) := by
  intro n
  induction n with
  | zero => intro _; exact ⟨Nat.le_refl _, rfl⟩
  | succ n ih =>
    intro hn
    obtain ⟨i1, i2⟩ := ih (by omega)
    have e := bett_eq hA h (a := n + 1) (b := bstR u n) (by omega) (by omega)
    by_cases c : 0 < rAll u (n + 1) - rAll u (bstR u n) ∨ (rAll u (n + 1) - rAll u (bstR u n) = 0 ∧ u (10 + 3 * bstR u n + 2) < u (10 + 3 * (n + 1) + 2))
    · have e1 : bstR u (n + 1) = n + 1 := if_pos c
      have e2 : bstC y (n + 1) = nI (n + 1) := if_pos (by rw [i2]; exact e.mpr c)
      rw [e1, e2]
      exact ⟨Nat.le_refl _, rfl⟩
    · have e1 : bstR u (n + 1) = bstR u n := if_neg c
      have e2 : bstC y (n + 1) = bstC y n := if_neg (by rw [i2]; exact fun q => c (e.mp q))
      rw [e1, e2]
      exact ⟨by omega, i2⟩
theorem rI7_bestGarden {x : Nat → Int32} {r : Option Value} (h : r = some (.int (bstC x 5))) : ∃ z : Int32, r = some (.int z) := ⟨_, h⟩
theorem rI8_bestGarden {v : Nat → Int32} {r : Option Value} (h : r = some (.int (nI (bstR v 5)))) : ∃ z : Int32, r = some (.int z) := ⟨_, h⟩
theorem rd_bestGarden {b : Nat} {x tm v sv pa : Nat → Int32} {ln : Nat → Nat} {lf : Nat → Nat → Int32} {r rm : Option Value} (hA : hAl x ln lf v) (hI : KI b tm v sv pa) (hQ : rm = some (.int (nI (bstR v 5)))) (hL : r = some (.int (bstC x 5))) : r = rm := by
  rw [hL, hQ, (bst_eq hA.1 hI.1 5 (Nat.le_refl _)).2]
