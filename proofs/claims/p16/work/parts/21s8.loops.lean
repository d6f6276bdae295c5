/-! READS WITH LOOPS, ON BOTH SIDES -/
def aheadB (v : Nat → Int32) (a b : Nat) : Bool := decide ((¬ rWorth v a - rWorth v b = 0 ∧ 0 < rWorth v a - rWorth v b) ∨ (rWorth v a - rWorth v b = 0 ∧ (0 < v (28 + 9 * b + 6) - v (28 + 9 * a + 6) ∨ (v (28 + 9 * b + 6) - v (28 + 9 * a + 6) = 0 ∧ a < b))))
def cntQ (v : Nat → Int32) (c q : Nat) : Bool := !decide (q = c) && (!decide (v (28 + 9 * q + 7) = 3) && aheadB v q c)
def cntR (v : Nat → Int32) (c n : Nat) : Int32 := hFold (cntQ v c) (fun _ => 1) n
theorem cnt_no {v : Nat → Int32} {c n : Nat} (h : cntQ v c n = false) : cntR v c n + 0 = cntR v c (n + 1) := by
  rw [Int32.add_zero]
  show _ = hFold _ _ (n + 1)
  rw [hFold, h]
  rfl
theorem cnt_yes {v : Nat → Int32} {c n : Nat} (h : cntQ v c n = true) : cntR v c n + 1 = cntR v c (n + 1) := by
  show _ = hFold _ _ (n + 1)
  rw [hFold, h]
  rfl
def isPR (v : Nat → Int32) (pl : Int32) (m c : Nat) : Prop := ¬ v (28 + 9 * c + 7) = 3 ∧ cntR v c m = pl
def Q_X8_ranked (n : Nat) (t v : Nat → Int32) (pl : Int32) (r : Option Value) (z : Int32) : Prop := ∃ m : Nat, m ≤ 20 ∧ v 3 = nI m ∧ ((∃ c, c < m ∧ isPR v pl m c ∧ (∀ j, j < c → ¬ isPR v pl m j) ∧ z = 0 ∧ r = some (.int (nI c))) ∨ ((∀ j, j < m → ¬ isPR v pl m j) ∧ z = 1 ∧ r = some (.int 0)))
set_option maxHeartbeats 4000000 in
set_option maxRecDepth 100000 in
theorem e_X8_isAhead (l : Launch) (hl : l.stackTraces = false) (g : xg_T) (w : xw_T) (sz n : Nat) (t v bf sv pa lb ip td sg : Nat → Int32) (hM : MR g w t v bf sv pa lb ip td sg) (hJ : MJ n t v bf sv pa sg) (ka kb : Nat) (hka : ka < 20) (hkb : kb < 20) : xM l g yX8_isAhead cX8_isAhead 4 (some .boolean) ({ frames := 2, cells := 0, slots := 0, locals := 43 }) 0 0 [.ref (g.2 0 + 258), .int (nI ka), .int (nI kb)] w sz (fun r w1 sz1 => ((r = some (.int 1) ∧ aheadB v ka kb = true) ∨ (r = some (.int 0) ∧ aheadB v ka kb = false)) ∧ w = w1 ∧ sz = sz1) (fun _ _ _ => False) := by
  refine xM.of RX8 hl (by decide +kernel) rfl (Nat.le_of_ble_eq_true rfl) rfl ?_
  intro p e s m args below meth cD C0 hini
  refine x_aload_n 0 1 C0 dX8_isAhead_0 rfl rfl rfl ?_
  refine x_iload_n 1 2 C0 dX8_isAhead_1 rfl rfl rfl ?_
  refine x_callV 5 C0 (k_X8_worthOf l hl g _ _ n t v bf sv pa lb ip td sg hM hJ ka (by omega)) dX8_isAhead_2 rfl mC_X8_worthOf mM_X8_149 mI_X8_worthOf mV_X8_worthOf mN_X8 yd_X8_worthOf rfl rfl ⟨Nat.le_of_ble_eq_true rfl, Nat.le_of_ble_eq_true rfl⟩ hM.o rfl rfl rfl rfl (Nat.le_of_ble_eq_true rfl) ⟨Nat.le_of_ble_eq_true rfl, Nat.le_of_ble_eq_true rfl⟩ (fun _ _ _ q => False.elim q) (fun r w1 sz1 hz hP => ?_)
  obtain ⟨rfl, rfl, rfl⟩ := hP
  refine x_st (st1 := [.int (rWorth v ka)]) rfl ?_
  refine x_aload_n 0 6 C0 dX8_isAhead_5 rfl rfl rfl ?_
  refine x_iload_n 2 7 C0 dX8_isAhead_6 rfl rfl rfl ?_
  refine x_callV 10 C0 (k_X8_worthOf l hl g _ _ n t v bf sv pa lb ip td sg hM hJ kb (by omega)) dX8_isAhead_7 rfl mC_X8_worthOf mM_X8_149 mI_X8_worthOf mV_X8_worthOf mN_X8 yd_X8_worthOf rfl rfl ⟨Nat.le_of_ble_eq_true rfl, Nat.le_of_ble_eq_true rfl⟩ hM.o rfl rfl rfl rfl (Nat.le_of_ble_eq_true rfl) ⟨Nat.le_of_ble_eq_true rfl, Nat.le_of_ble_eq_true rfl⟩ (fun _ _ _ q => False.elim q) (fun r w1 sz1 hz hP => ?_)
  obtain ⟨rfl, rfl, rfl⟩ := hP
  refine x_st (st1 := [.int (rWorth v kb), .int (rWorth v ka)]) rfl ?_
  refine x_isub 11 C0 dX8_isAhead_10 rfl ?_
  refine x_istore_n [(3, .int ((rWorth v ka) - (rWorth v kb))), (0, .ref (g.2 0 + 258)), (1, .int (nI ka)), (2, .int (nI kb))] 12 C0 dX8_isAhead_11 rfl rfl (by decide) rfl ?_
  refine x_lv (lv1 := [(0, .ref (g.2 0 + 258)), (1, .int (nI ka)), (2, .int (nI kb)), (3, .int ((rWorth v ka) - (rWorth v kb)))]) [1, 2, 3, 0] rfl ?_
  refine x_iload_n 3 13 C0 dX8_isAhead_12 rfl rfl rfl ?_
  refine x_if_eq 26 16 C0 dX8_isAhead_13 rfl (by decide) (fun c1 => ?_) (fun c1 => ?_)
  · refine x_aload_n 0 27 C0 dX8_isAhead_26 rfl rfl rfl ?_
    refine x_getf (v := .ref (g.2 0 + 258 + 1)) 8 30 C0 dX8_isAhead_27 rfl hM.o rfl (by decide) inX8 mF_X8_7 rfl ?_
    refine x_iload_n 2 31 C0 dX8_isAhead_30 rfl rfl rfl ?_
    refine x_bipush (v := 6) 33 C0 dX8_isAhead_31 rfl (by decide) ?_
    refine x_callS 36 C0 (k_X8_at l hl g _ _ (nI kb) 6) dX8_isAhead_33 rfl mC_X8_at mM_X8_71 mS_X8_at mN_X8 yd_X8_at rfl rfl ⟨Nat.le_of_ble_eq_true rfl, Nat.le_of_ble_eq_true rfl⟩ rfl rfl (Nat.le_of_ble_eq_true rfl) ⟨Nat.le_of_ble_eq_true rfl, Nat.le_of_ble_eq_true rfl⟩ (fun _ _ _ q => False.elim q) (fun r w1 sz1 hz hP => ?_)
    obtain ⟨rfl, rfl, rfl⟩ := hP
    refine x_st (st1 := [.int (nI (28 + 9 * kb + 6)), .ref (g.2 0 + 258 + 1)]) (congrArg (fun z => Value.int z :: _) (at_nI 28 9 kb 6)) ?_
    refine x_iald 0 37 C0 dX8_isAhead_36 rfl hM.r_v rfl (vp_in_nI (n := 28 + 9 * kb + 6) (by omega) (by decide)) ?_
    refine x_st (st1 := [.int (v (28 + 9 * kb + 6))]) (congrArg (fun z => Value.int z :: _) (show v (nI (28 + 9 * kb + 6)).toNatClampNeg = v (28 + 9 * kb + 6) from by rw [nI_clamp (by omega)])) ?_
    refine x_aload_n 0 38 C0 dX8_isAhead_37 rfl rfl rfl ?_
    refine x_getf (v := .ref (g.2 0 + 258 + 1)) 8 41 C0 dX8_isAhead_38 rfl hM.o rfl (by decide) inX8 mF_X8_7 rfl ?_
    refine x_iload_n 1 42 C0 dX8_isAhead_41 rfl rfl rfl ?_
    refine x_bipush (v := 6) 44 C0 dX8_isAhead_42 rfl (by decide) ?_
    refine x_callS 47 C0 (k_X8_at l hl g _ _ (nI ka) 6) dX8_isAhead_44 rfl mC_X8_at mM_X8_71 mS_X8_at mN_X8 yd_X8_at rfl rfl ⟨Nat.le_of_ble_eq_true rfl, Nat.le_of_ble_eq_true rfl⟩ rfl rfl (Nat.le_of_ble_eq_true rfl) ⟨Nat.le_of_ble_eq_true rfl, Nat.le_of_ble_eq_true rfl⟩ (fun _ _ _ q => False.elim q) (fun r w1 sz1 hz hP => ?_)
    obtain ⟨rfl, rfl, rfl⟩ := hP
    refine x_st (st1 := [.int (nI (28 + 9 * ka + 6)), .ref (g.2 0 + 258 + 1), .int (v (28 + 9 * kb + 6))]) (congrArg (fun z => Value.int z :: _) (at_nI 28 9 ka 6)) ?_
    refine x_iald 0 48 C0 dX8_isAhead_47 rfl hM.r_v rfl (vp_in_nI (n := 28 + 9 * ka + 6) (by omega) (by decide)) ?_
    refine x_st (st1 := [.int (v (28 + 9 * ka + 6)), .int (v (28 + 9 * kb + 6))]) (congrArg (fun z => Value.int z :: _) (show v (nI (28 + 9 * ka + 6)).toNatClampNeg = v (28 + 9 * ka + 6) from by rw [nI_clamp (by omega)])) ?_
    refine x_isub 49 C0 dX8_isAhead_48 rfl ?_
    refine x_istore_n [(3, .int ((v (28 + 9 * kb + 6)) - (v (28 + 9 * ka + 6)))), (0, .ref (g.2 0 + 258)), (1, .int (nI ka)), (2, .int (nI kb))] 50 C0 dX8_isAhead_49 rfl rfl (by decide) rfl ?_
    refine x_lv (lv1 := [(0, .ref (g.2 0 + 258)), (1, .int (nI ka)), (2, .int (nI kb)), (3, .int ((v (28 + 9 * kb + 6)) - (v (28 + 9 * ka + 6))))]) [1, 2, 3, 0] rfl ?_
    refine x_iload_n 3 51 C0 dX8_isAhead_50 rfl rfl rfl ?_
    refine x_if_gt 63 54 C0 dX8_isAhead_51 rfl (by decide) (fun c2 => ?_) (fun c2 => ?_)
    · have c2' := Int32.not_le.mpr c2
      refine x_iconst (v := 1) 64 C0 dX8_isAhead_63 rfl (by decide) ?_
      refine x_goto 68 C0 dX8_isAhead_64 (by decide) ?_
      exact x_ireturn C0 dX8_isAhead_68 rfl rfl (Nat.le_of_ble_eq_true rfl) (Nat.le_of_ble_eq_true rfl) ⟨Or.inl ⟨rfl, decide_eq_true (Or.inr ⟨c1, Or.inl c2⟩)⟩, rfl, rfl⟩
    · have c2' := Int32.not_lt.mp c2
      refine x_iload_n 3 55 C0 dX8_isAhead_54 rfl rfl rfl ?_
      refine x_if_ne 67 58 C0 dX8_isAhead_55 rfl (by decide) (fun c3 => ?_) (fun c3 => ?_)
      · refine x_iconst (v := 0) 68 C0 dX8_isAhead_67 rfl (by decide) ?_
        exact x_ireturn C0 dX8_isAhead_68 rfl rfl (Nat.le_of_ble_eq_true rfl) (Nat.le_of_ble_eq_true rfl) ⟨Or.inr ⟨rfl, decide_eq_false (fun h => h.elim (fun q => q.1 c1) (fun q => q.2.elim (fun z => c2 z) (fun z => c3 z.1)))⟩, rfl, rfl⟩
      · refine x_iload_n 1 59 C0 dX8_isAhead_58 rfl rfl rfl ?_
        refine x_iload_n 2 60 C0 dX8_isAhead_59 rfl rfl rfl ?_
        refine x_icmp_ge 67 63 C0 dX8_isAhead_60 rfl (by decide) (fun c4 => ?_) (fun c4 => ?_)
        · have c4' := Int32.not_lt.mpr c4
          refine x_iconst (v := 0) 68 C0 dX8_isAhead_67 rfl (by decide) ?_
          exact x_ireturn C0 dX8_isAhead_68 rfl rfl (Nat.le_of_ble_eq_true rfl) (Nat.le_of_ble_eq_true rfl) ⟨Or.inr ⟨rfl, decide_eq_false (fun h => h.elim (fun q => q.1 c1) (fun q => q.2.elim (fun z => c2 z) (fun z => Nat.not_lt.mpr ((nI_leI (by omega) (by omega)).mp c4) z.2)))⟩, rfl, rfl⟩
        · have c4' := Int32.not_le.mp c4
          refine x_iconst (v := 1) 64 C0 dX8_isAhead_63 rfl (by decide) ?_
          refine x_goto 68 C0 dX8_isAhead_64 (by decide) ?_
          exact x_ireturn C0 dX8_isAhead_68 rfl rfl (Nat.le_of_ble_eq_true rfl) (Nat.le_of_ble_eq_true rfl) ⟨Or.inl ⟨rfl, decide_eq_true (Or.inr ⟨c1, Or.inr ⟨c3, Nat.lt_of_not_le (fun z => c4 (nI_le (a := kb) z (by omega)))⟩⟩)⟩, rfl, rfl⟩
  · refine x_iload_n 3 17 C0 dX8_isAhead_16 rfl rfl rfl ?_
    refine x_if_le 24 20 C0 dX8_isAhead_17 rfl (by decide) (fun c5 => ?_) (fun c5 => ?_)
    · have c5' := Int32.not_lt.mpr c5
      refine x_iconst (v := 0) 25 C0 dX8_isAhead_24 rfl (by decide) ?_
      exact x_ireturn C0 dX8_isAhead_25 rfl rfl (Nat.le_of_ble_eq_true rfl) (Nat.le_of_ble_eq_true rfl) ⟨Or.inr ⟨rfl, decide_eq_false (fun h => h.elim (fun q => Int32.not_lt.mpr c5 q.2) (fun q => c1 q.1))⟩, rfl, rfl⟩
    · have c5' := Int32.not_le.mp c5
      refine x_iconst (v := 1) 21 C0 dX8_isAhead_20 rfl (by decide) ?_
      refine x_goto 25 C0 dX8_isAhead_21 (by decide) ?_
      exact x_ireturn C0 dX8_isAhead_25 rfl rfl (Nat.le_of_ble_eq_true rfl) (Nat.le_of_ble_eq_true rfl) ⟨Or.inl ⟨rfl, decide_eq_true (Or.inl ⟨c1, Int32.not_le.mp c5⟩)⟩, rfl, rfl⟩

set_option maxHeartbeats 4000000 in
set_option maxRecDepth 100000 in
theorem e_X8_ranked (l : Launch) (hl : l.stackTraces = false) (g : xg_T) (w : xw_T) (sz n : Nat) (t v bf sv pa lb ip td sg : Nat → Int32) (hM : MR g w t v bf sv pa lb ip td sg) (hJ : MJ n t v bf sv pa sg) (pl : Int32) : xM l g yX8_ranked cX8_ranked 5 (some .int) ({ frames := 3, cells := 0, slots := 0, locals := 66 }) 0 0 [.ref (g.2 0 + 258), .int pl] w sz (mRd g w sz n t v bf sv pa ip td sg (fun r z => (∃ q : Int32, r = some (.int q)) ∧ Q_X8_ranked n t v pl r z)) (fun _ _ _ => False) := by
  refine xM.of RX8 hl (by decide +kernel) rfl (Nat.le_of_ble_eq_true rfl) rfl ?_
  intro p e s m args below meth cD C0 hini
  refine x_aload_n 0 1 C0 dX8_ranked_0 rfl rfl rfl ?_
  refine x_iconst (v := 0) 2 C0 dX8_ranked_1 rfl (by decide) ?_
  refine x_w (MW_self hM) ?_
  refine x_putf 0 5 C0 dX8_ranked_2 rfl MR_MW.o (by show g.2 0 ≤ _; omega) rfl (by decide) inX8 tyX8_ok nmX8 mF_X8_34 rfl rfl rfl rfl (Nat.le_of_ble_eq_true rfl) ?_
  refine x_w (w1 := (MW g w (upd t 0 0) v bf sv pa lb ip td sg)) (MW_o rfl) ?_
  have hJ1 : MJ n (upd t 0 0) v bf sv pa sg := hJ.j_t (by decide)
  refine x_iconst (v := 0) 6 C0 dX8_ranked_5 rfl (by decide) ?_
  refine x_istore_n [(2, .int 0), (0, .ref (g.2 0 + 258)), (1, .int pl)] 7 C0 dX8_ranked_6 rfl rfl (by decide) rfl ?_
  refine x_lv (lv1 := [(0, .ref (g.2 0 + 258)), (1, .int pl), (2, .int 0)]) [1, 2, 0] rfl ?_
  have loop7 : ∀ (N i : Nat), i ≤ 20 → 20 - i < N → (∀ m, m ≤ 20 → v 3 = nI m → i ≤ m ∧ ∀ j, j < i → ¬ isPR v pl m j) → xV p l e ({ frames := 3, cells := 0, slots := 0, locals := 66 }) s m args below meth cD (xQ g below (mRd g w sz n t v bf sv pa ip td sg (fun r z => (∃ q : Int32, r = some (.int q)) ∧ Q_X8_ranked n t v pl r z)) (fun _ _ _ => False) args s 0 0) g 5 (MW g w (upd t 0 0) v bf sv pa lb ip td sg) sz (0) (0) 7 [(0, .ref (g.2 0 + 258)), (1, .int pl), (2, .int (nI i))] [] := by
    intro N
    induction N with
    | zero => intro i h1 h2; omega
    | succ N ih =>
      intro i hi hN him
      refine x_iload_n 2 8 C0 dX8_ranked_7 rfl rfl rfl ?_
      refine x_aload_n 0 9 C0 dX8_ranked_8 rfl rfl rfl ?_
      refine x_getf (v := .ref (g.2 0 + 258 + 1)) 8 12 C0 dX8_ranked_9 rfl MR_MW.o rfl (by decide) inX8 mF_X8_7 rfl ?_
      refine x_iconst (v := 3) 13 C0 dX8_ranked_12 rfl (by decide) ?_
      refine x_iald 0 14 C0 dX8_ranked_13 rfl MR_MW.r_v rfl (vp_in_nI (n := 3) (by decide) (by decide)) ?_
      refine x_st (st1 := [.int (v 3), .int (nI i)]) (congrArg (fun z => Value.int z :: _) (show v (nI 3).toNatClampNeg = v 3 from by rw [nI_clamp (by omega)])) ?_
      obtain ⟨nC2, hnC2, hv32⟩ := hJ1.1.n
      obtain ⟨hin, hno⟩ := him nC2 hnC2 hv32
      have hun : ∀ m, m ≤ 20 → v 3 = nI m → m = nC2 := fun m h1 h2 => (nI_eq (by omega) (by omega)).mp (h2.symm.trans hv32)
      refine x_st (st1 := [.int (nI nC2), .int (nI i)]) (congrArg (fun z => Value.int z :: _) (hv32)) ?_
      refine x_icmp_ge 110 17 C0 dX8_ranked_14 rfl (by decide) (fun c3 => ?_) (fun c3 => ?_)
      · refine x_aload_n 0 111 C0 dX8_ranked_110 rfl rfl rfl ?_
        refine x_iconst (v := 1) 112 C0 dX8_ranked_111 rfl (by decide) ?_
        refine x_callV 115 C0 (k_X8_no l hl g _ _ n (upd t 0 0) v bf sv pa lb ip td sg MR_MW hJ1 1) dX8_ranked_112 rfl mC_X8_no mM_X8_61 mI_X8_no mV_X8_no mN_X8 yd_X8_no rfl rfl ⟨Nat.le_of_ble_eq_true rfl, Nat.le_of_ble_eq_true rfl⟩ MR_MW.o rfl rfl rfl rfl (Nat.le_of_ble_eq_true rfl) ⟨Nat.le_of_ble_eq_true rfl, Nat.le_of_ble_eq_true rfl⟩ (fun _ _ _ q => False.elim q) (fun r w1 sz1 hz hP => ?_)
        obtain ⟨rfl, rfl, rfl⟩ := hP
        refine x_w MW_MW ?_
        have hJ4 : MJ n (upd (upd t 0 0) 0 1) v bf sv pa sg := (hJ1.j_t (by decide))
        refine x_st (st1 := [.int 0]) rfl ?_
        exact x_ireturn C0 dX8_ranked_115 rfl rfl (Nat.le_of_ble_eq_true rfl) (Nat.le_of_ble_eq_true rfl) ⟨rfl, _, _, rfl, hJ4, ((tL.rf.up (by decide)).up (by decide)), ⟨⟨_, rfl⟩, nC2, hnC2, hv32, Or.inr ⟨fun j hj => hno j (by have := (nI_leI (a := nC2) (b := i) (by omega) (by omega)).mp c3; omega), rfl, rfl⟩⟩⟩
      · have hi2 : i < nC2 := Nat.lt_of_not_le (fun z => c3 (nI_le (a := nC2) z (by omega)))
        refine x_aload_n 0 18 C0 dX8_ranked_17 rfl rfl rfl ?_
        refine x_getf (v := .ref (g.2 0 + 258 + 1)) 8 21 C0 dX8_ranked_18 rfl MR_MW.o rfl (by decide) inX8 mF_X8_7 rfl ?_
        refine x_iload_n 2 22 C0 dX8_ranked_21 rfl rfl rfl ?_
        refine x_bipush (v := 7) 24 C0 dX8_ranked_22 rfl (by decide) ?_
        refine x_callS 27 C0 (k_X8_at l hl g _ _ (nI i) 7) dX8_ranked_24 rfl mC_X8_at mM_X8_71 mS_X8_at mN_X8 yd_X8_at rfl rfl ⟨Nat.le_of_ble_eq_true rfl, Nat.le_of_ble_eq_true rfl⟩ rfl rfl (Nat.le_of_ble_eq_true rfl) ⟨Nat.le_of_ble_eq_true rfl, Nat.le_of_ble_eq_true rfl⟩ (fun _ _ _ q => False.elim q) (fun r w1 sz1 hz hP => ?_)
        obtain ⟨rfl, rfl, rfl⟩ := hP
        refine x_st (st1 := [.int (nI (28 + 9 * i + 7)), .ref (g.2 0 + 258 + 1)]) (congrArg (fun z => Value.int z :: _) (at_nI 28 9 i 7)) ?_
        refine x_iald 0 28 C0 dX8_ranked_27 rfl MR_MW.r_v rfl (vp_in_nI (n := 28 + 9 * i + 7) (by omega) (by decide)) ?_
        refine x_st (st1 := [.int (v (28 + 9 * i + 7))]) (congrArg (fun z => Value.int z :: _) (show v (nI (28 + 9 * i + 7)).toNatClampNeg = v (28 + 9 * i + 7) from by rw [nI_clamp (by omega)])) ?_
        refine x_iconst (v := 3) 29 C0 dX8_ranked_28 rfl (by decide) ?_
        refine x_icmp_ne 35 32 C0 dX8_ranked_29 rfl (by decide) (fun c5 => ?_) (fun c5 => ?_)
        · refine x_iconst (v := 0) 36 C0 dX8_ranked_35 rfl (by decide) ?_
          refine x_istore_n [(3, .int 0), (0, .ref (g.2 0 + 258)), (1, .int pl), (2, .int (nI i))] 37 C0 dX8_ranked_36 rfl rfl (by decide) rfl ?_
          refine x_lv (lv1 := [(0, .ref (g.2 0 + 258)), (1, .int pl), (2, .int (nI i)), (3, .int 0)]) [1, 2, 3, 0] rfl ?_
          refine x_iconst (v := 0) 38 C0 dX8_ranked_37 rfl (by decide) ?_
          refine x_istore [(4, .int 0), (0, .ref (g.2 0 + 258)), (1, .int pl), (2, .int (nI i)), (3, .int 0)] 40 C0 dX8_ranked_38 rfl (by decide) rfl ?_
          refine x_lv (lv1 := [(0, .ref (g.2 0 + 258)), (1, .int pl), (2, .int (nI i)), (3, .int 0), (4, .int 0)]) [1, 2, 3, 4, 0] rfl ?_
          have loop40 : ∀ (Nj ij : Nat) (ac : Int32), ij ≤ 20 → 20 - ij < Nj → ij ≤ nC2 → ac = cntR v i ij → xV p l e ({ frames := 3, cells := 0, slots := 0, locals := 66 }) s m args below meth cD (xQ g below (mRd g w sz n t v bf sv pa ip td sg (fun r z => (∃ q : Int32, r = some (.int q)) ∧ Q_X8_ranked n t v pl r z)) (fun _ _ _ => False) args s 0 0) g 5 (MW g w (upd t 0 0) v bf sv pa lb ip td sg) sz (0 + 0) (0 + 0) 40 [(0, .ref (g.2 0 + 258)), (1, .int pl), (2, .int (nI i)), (3, .int ac), (4, .int (nI ij))] [] := by
            intro Nj
            induction Nj with
            | zero => intro ij ac h1 h2; omega
            | succ Nj ihj =>
              intro ij ac hij hNj hijn hac
              refine x_iload 4 42 C0 dX8_ranked_40 rfl rfl ?_
              refine x_aload_n 0 43 C0 dX8_ranked_42 rfl rfl rfl ?_
              refine x_getf (v := .ref (g.2 0 + 258 + 1)) 8 46 C0 dX8_ranked_43 rfl MR_MW.o rfl (by decide) inX8 mF_X8_7 rfl ?_
              refine x_iconst (v := 3) 47 C0 dX8_ranked_46 rfl (by decide) ?_
              refine x_iald 0 48 C0 dX8_ranked_47 rfl MR_MW.r_v rfl (vp_in_nI (n := 3) (by decide) (by decide)) ?_
              refine x_st (st1 := [.int (v 3), .int (nI ij)]) (congrArg (fun z => Value.int z :: _) (show v (nI 3).toNatClampNeg = v 3 from by rw [nI_clamp (by omega)])) ?_
              refine x_st (st1 := [.int (nI nC2), .int (nI ij)]) (congrArg (fun z => Value.int z :: _) (hv32)) ?_
              refine x_icmp_ge 97 51 C0 dX8_ranked_48 rfl (by decide) (fun c6 => ?_) (fun c6 => ?_)
              · refine x_iload_n 3 98 C0 dX8_ranked_97 rfl rfl rfl ?_
                refine x_iload_n 1 99 C0 dX8_ranked_98 rfl rfl rfl ?_
                refine x_icmp_ne 104 102 C0 dX8_ranked_99 rfl (by decide) (fun c7 => ?_) (fun c7 => ?_)
                · refine x_iinc [(2, .int (nI (i + 1))), (0, .ref (g.2 0 + 258)), (1, .int pl), (3, .int ac), (4, .int (nI ij))] 2 107 C0 dX8_ranked_104 rfl rfl (nI_1 i) (by decide) rfl ?_
                  refine x_lv (lv1 := [(0, .ref (g.2 0 + 258)), (1, .int pl), (2, .int (nI (i + 1))), (3, .int ac), (4, .int (nI ij))]) [1, 2, 0, 3, 4] rfl ?_
                  refine x_goto 7 C0 dX8_ranked_107 (by decide) ?_
                  exact x_lv [0, 1, 2] rfl (ih (i + 1) (by omega) (by omega) (fun m h1 h2 => by obtain rfl := hun m h1 h2; exact ⟨by omega, fun j hj => (Nat.lt_succ_iff_lt_or_eq.mp hj).elim (hno j) (fun q => by rw [q]; exact fun h => c7 (hac.trans (by rw [← h.2]; exact congrArg (cntR v i) (Nat.le_antisymm hijn ((nI_leI (by omega) (by omega)).mp c6)))))⟩))
                · refine x_iload_n 2 103 C0 dX8_ranked_102 rfl rfl rfl ?_
                  exact x_ireturn C0 dX8_ranked_103 rfl rfl (Nat.le_of_ble_eq_true rfl) (Nat.le_of_ble_eq_true rfl) ⟨rfl, _, _, rfl, hJ1, (tL.rf.up (by decide)), ⟨⟨_, rfl⟩, nC2, hnC2, hv32, Or.inl ⟨i, hi2, ⟨c5, by rw [← c7, hac, (show ij = nC2 from Nat.le_antisymm hijn ((nI_leI (by omega) (by omega)).mp c6))]⟩, hno, rfl, rfl⟩⟩⟩
              · have hi2j : ij < nC2 := Nat.lt_of_not_le (fun z => c6 (nI_le (a := nC2) z (by omega)))
                refine x_iload_n 3 52 C0 dX8_ranked_51 rfl rfl rfl ?_
                refine x_iload 4 54 C0 dX8_ranked_52 rfl rfl ?_
                refine x_iload_n 2 55 C0 dX8_ranked_54 rfl rfl rfl ?_
                refine x_icmp_eq 88 58 C0 dX8_ranked_55 rfl (by decide) (fun c8 => ?_) (fun c8 => ?_)
                · refine x_iconst (v := 0) 89 C0 dX8_ranked_88 rfl (by decide) ?_
                  refine x_iadd 90 C0 dX8_ranked_89 rfl ?_
                  refine x_istore_n [(3, .int (ac + 0)), (0, .ref (g.2 0 + 258)), (1, .int pl), (2, .int (nI i)), (4, .int (nI ij))] 91 C0 dX8_ranked_90 rfl rfl (by decide) rfl ?_
                  refine x_lv (lv1 := [(0, .ref (g.2 0 + 258)), (1, .int pl), (2, .int (nI i)), (3, .int (ac + 0)), (4, .int (nI ij))]) [1, 2, 3, 0, 4] rfl ?_
                  refine x_iinc [(4, .int (nI (ij + 1))), (0, .ref (g.2 0 + 258)), (1, .int pl), (2, .int (nI i)), (3, .int (ac + 0))] 4 94 C0 dX8_ranked_91 rfl rfl (nI_1 ij) (by decide) rfl ?_
                  refine x_lv (lv1 := [(0, .ref (g.2 0 + 258)), (1, .int pl), (2, .int (nI i)), (3, .int (ac + 0)), (4, .int (nI (ij + 1)))]) [1, 2, 3, 4, 0] rfl ?_
                  refine x_goto 40 C0 dX8_ranked_94 (by decide) ?_
                  exact x_lv [0, 1, 2, 3, 4] rfl (ihj (ij + 1) _ (by omega) (by omega) (by omega) (by rw [hac]; exact cnt_no (by unfold cntQ; rw [decide_eq_true ((nI_eq (by omega) (by omega)).mp c8)]; rfl)))
                · refine x_aload_n 0 59 C0 dX8_ranked_58 rfl rfl rfl ?_
                  refine x_getf (v := .ref (g.2 0 + 258 + 1)) 8 62 C0 dX8_ranked_59 rfl MR_MW.o rfl (by decide) inX8 mF_X8_7 rfl ?_
                  refine x_iload 4 64 C0 dX8_ranked_62 rfl rfl ?_
                  refine x_bipush (v := 7) 66 C0 dX8_ranked_64 rfl (by decide) ?_
                  refine x_callS 69 C0 (k_X8_at l hl g _ _ (nI ij) 7) dX8_ranked_66 rfl mC_X8_at mM_X8_71 mS_X8_at mN_X8 yd_X8_at rfl rfl ⟨Nat.le_of_ble_eq_true rfl, Nat.le_of_ble_eq_true rfl⟩ rfl rfl (Nat.le_of_ble_eq_true rfl) ⟨Nat.le_of_ble_eq_true rfl, Nat.le_of_ble_eq_true rfl⟩ (fun _ _ _ q => False.elim q) (fun r w1 sz1 hz hP => ?_)
                  obtain ⟨rfl, rfl, rfl⟩ := hP
                  refine x_st (st1 := [.int (nI (28 + 9 * ij + 7)), .ref (g.2 0 + 258 + 1), .int ac]) (congrArg (fun z => Value.int z :: _) (at_nI 28 9 ij 7)) ?_
                  refine x_iald 0 70 C0 dX8_ranked_69 rfl MR_MW.r_v rfl (vp_in_nI (n := 28 + 9 * ij + 7) (by omega) (by decide)) ?_
                  refine x_st (st1 := [.int (v (28 + 9 * ij + 7)), .int ac]) (congrArg (fun z => Value.int z :: _) (show v (nI (28 + 9 * ij + 7)).toNatClampNeg = v (28 + 9 * ij + 7) from by rw [nI_clamp (by omega)])) ?_
                  refine x_iconst (v := 3) 71 C0 dX8_ranked_70 rfl (by decide) ?_
                  refine x_icmp_eq 88 74 C0 dX8_ranked_71 rfl (by decide) (fun c9 => ?_) (fun c9 => ?_)
                  · refine x_iconst (v := 0) 89 C0 dX8_ranked_88 rfl (by decide) ?_
                    refine x_iadd 90 C0 dX8_ranked_89 rfl ?_
                    refine x_istore_n [(3, .int (ac + 0)), (0, .ref (g.2 0 + 258)), (1, .int pl), (2, .int (nI i)), (4, .int (nI ij))] 91 C0 dX8_ranked_90 rfl rfl (by decide) rfl ?_
                    refine x_lv (lv1 := [(0, .ref (g.2 0 + 258)), (1, .int pl), (2, .int (nI i)), (3, .int (ac + 0)), (4, .int (nI ij))]) [1, 2, 3, 0, 4] rfl ?_
                    refine x_iinc [(4, .int (nI (ij + 1))), (0, .ref (g.2 0 + 258)), (1, .int pl), (2, .int (nI i)), (3, .int (ac + 0))] 4 94 C0 dX8_ranked_91 rfl rfl (nI_1 ij) (by decide) rfl ?_
                    refine x_lv (lv1 := [(0, .ref (g.2 0 + 258)), (1, .int pl), (2, .int (nI i)), (3, .int (ac + 0)), (4, .int (nI (ij + 1)))]) [1, 2, 3, 4, 0] rfl ?_
                    refine x_goto 40 C0 dX8_ranked_94 (by decide) ?_
                    exact x_lv [0, 1, 2, 3, 4] rfl (ihj (ij + 1) _ (by omega) (by omega) (by omega) (by rw [hac]; exact cnt_no (by unfold cntQ; rw [decide_eq_true c9]; cases decide (ij = i) <;> rfl)))
                  · refine x_aload_n 0 75 C0 dX8_ranked_74 rfl rfl rfl ?_
                    refine x_iload 4 77 C0 dX8_ranked_75 rfl rfl ?_
                    refine x_iload_n 2 78 C0 dX8_ranked_77 rfl rfl rfl ?_
                    refine x_callV 81 C0 (e_X8_isAhead l hl g _ _ n (upd t 0 0) v bf sv pa lb ip td sg MR_MW hJ1 ij i (by omega) (by omega)) dX8_ranked_78 rfl mC_X8_isAhead mM_X8_152 mI_X8_isAhead mV_X8_isAhead mN_X8 yd_X8_isAhead rfl rfl ⟨Nat.le_of_ble_eq_true rfl, Nat.le_of_ble_eq_true rfl⟩ MR_MW.o rfl rfl rfl rfl (Nat.le_of_ble_eq_true rfl) ⟨Nat.le_of_ble_eq_true rfl, Nat.le_of_ble_eq_true rfl⟩ (fun _ _ _ q => False.elim q) (fun r w1 sz1 hz hP => ?_)
                    obtain ⟨hR10, rfl, rfl⟩ := hP
                    rcases hR10 with ⟨rfl, hq10⟩ | ⟨rfl, hq10⟩
                    · refine x_st (st1 := [.int 1, .int ac]) rfl ?_
                      refine x_if_eq 88 84 C0 dX8_ranked_81 rfl (by decide) (fun q => False.elim (by revert q; decide)) (fun _ => ?_)
                      refine x_iconst (v := 1) 85 C0 dX8_ranked_84 rfl (by decide) ?_
                      refine x_goto 89 C0 dX8_ranked_85 (by decide) ?_
                      refine x_iadd 90 C0 dX8_ranked_89 rfl ?_
                      refine x_istore_n [(3, .int (ac + 1)), (0, .ref (g.2 0 + 258)), (1, .int pl), (2, .int (nI i)), (4, .int (nI ij))] 91 C0 dX8_ranked_90 rfl rfl (by decide) rfl ?_
                      refine x_lv (lv1 := [(0, .ref (g.2 0 + 258)), (1, .int pl), (2, .int (nI i)), (3, .int (ac + 1)), (4, .int (nI ij))]) [1, 2, 3, 0, 4] rfl ?_
                      refine x_iinc [(4, .int (nI (ij + 1))), (0, .ref (g.2 0 + 258)), (1, .int pl), (2, .int (nI i)), (3, .int (ac + 1))] 4 94 C0 dX8_ranked_91 rfl rfl (nI_1 ij) (by decide) rfl ?_
                      refine x_lv (lv1 := [(0, .ref (g.2 0 + 258)), (1, .int pl), (2, .int (nI i)), (3, .int (ac + 1)), (4, .int (nI (ij + 1)))]) [1, 2, 3, 4, 0] rfl ?_
                      refine x_goto 40 C0 dX8_ranked_94 (by decide) ?_
                      exact x_lv [0, 1, 2, 3, 4] rfl (ihj (ij + 1) _ (by omega) (by omega) (by omega) (by rw [hac]; exact cnt_yes (by unfold cntQ; rw [decide_eq_false (fun e => c8 (congrArg nI e)), decide_eq_false c9, hq10]; rfl)))
                    · refine x_st (st1 := [.int 0, .int ac]) rfl ?_
                      refine x_if_eq 88 84 C0 dX8_ranked_81 rfl (by decide) (fun _ => ?_) (fun q => False.elim (by revert q; decide))
                      refine x_iconst (v := 0) 89 C0 dX8_ranked_88 rfl (by decide) ?_
                      refine x_iadd 90 C0 dX8_ranked_89 rfl ?_
                      refine x_istore_n [(3, .int (ac + 0)), (0, .ref (g.2 0 + 258)), (1, .int pl), (2, .int (nI i)), (4, .int (nI ij))] 91 C0 dX8_ranked_90 rfl rfl (by decide) rfl ?_
                      refine x_lv (lv1 := [(0, .ref (g.2 0 + 258)), (1, .int pl), (2, .int (nI i)), (3, .int (ac + 0)), (4, .int (nI ij))]) [1, 2, 3, 0, 4] rfl ?_
                      refine x_iinc [(4, .int (nI (ij + 1))), (0, .ref (g.2 0 + 258)), (1, .int pl), (2, .int (nI i)), (3, .int (ac + 0))] 4 94 C0 dX8_ranked_91 rfl rfl (nI_1 ij) (by decide) rfl ?_
                      refine x_lv (lv1 := [(0, .ref (g.2 0 + 258)), (1, .int pl), (2, .int (nI i)), (3, .int (ac + 0)), (4, .int (nI (ij + 1)))]) [1, 2, 3, 4, 0] rfl ?_
                      refine x_goto 40 C0 dX8_ranked_94 (by decide) ?_
                      exact x_lv [0, 1, 2, 3, 4] rfl (ihj (ij + 1) _ (by omega) (by omega) (by omega) (by rw [hac]; exact cnt_no (by unfold cntQ; rw [hq10]; cases decide (ij = i) <;> cases decide (v (28 + 9 * ij + 7) = 3) <;> rfl)))
          exact x_lv [0, 1, 2, 3, 4] rfl (loop40 (20 + 1) 0 _ (by omega) (by omega) (Nat.zero_le _) rfl)
        · refine x_goto 104 C0 dX8_ranked_32 (by decide) ?_
          refine x_iinc [(2, .int (nI (i + 1))), (0, .ref (g.2 0 + 258)), (1, .int pl)] 2 107 C0 dX8_ranked_104 rfl rfl (nI_1 i) (by decide) rfl ?_
          refine x_lv (lv1 := [(0, .ref (g.2 0 + 258)), (1, .int pl), (2, .int (nI (i + 1)))]) [1, 2, 0] rfl ?_
          refine x_goto 7 C0 dX8_ranked_107 (by decide) ?_
          exact x_lv [0, 1, 2] rfl (ih (i + 1) (by omega) (by omega) (fun m h1 h2 => by obtain rfl := hun m h1 h2; exact ⟨by omega, fun j hj => (Nat.lt_succ_iff_lt_or_eq.mp hj).elim (hno j) (fun q => by rw [q]; exact fun h => h.1 c5)⟩))
  exact x_lv [0, 1, 2] rfl (loop7 (20 + 1) 0 (by omega) (by omega) (fun m _ _ => ⟨Nat.zero_le m, fun j hj => absurd hj (Nat.not_lt_zero j)⟩))

theorem worth_dec : ∀ p, p < 51 → ∀ k, k < 3 → ∀ d, d < 21 → -1000 ≤ (nI p * (nI k + 1) - nI p * nI d / 20).toInt ∧ (nI p * (nI k + 1) - nI p * nI d / 20).toInt ≤ 1000 := by decide +kernel
theorem sub_cmp {a b : Int32} (h1 : -1000 ≤ a.toInt) (h2 : a.toInt ≤ 1000) (h3 : -1000 ≤ b.toInt) (h4 : b.toInt ≤ 1000) : (0 < a - b ↔ b < a) ∧ (a - b = 0 ↔ a = b) := by
  have e : (a - b).toInt = a.toInt - b.toInt := by
    rw [Int32.toInt_sub]
    exact Int.bmod_eq_of_le (by omega) (by omega)
  have z : (0 : Int32).toInt = 0 := by decide
  refine ⟨?_, ?_⟩
  · rw [Int32.lt_iff_toInt_lt, Int32.lt_iff_toInt_lt, e, z]
    omega
  · rw [← Int32.toInt_inj, ← Int32.toInt_inj, e, z]
    omega
theorem worth_small {x v : Nat → Int32} (hx : hok x) (hA : alk x v) {k : Nat} (hk : k < 20) : -1000 ≤ (cCoins (row x k)).toInt ∧ (cCoins (row x k)).toInt ≤ 1000 := by
  obtain ⟨n, hn, e3, h⟩ := hx
  obtain ⟨⟨z, p, hz, hp, -, e0, ep, hg⟩, -⟩ := h k hk
  obtain ⟨⟨d, hd, ed⟩, -⟩ := hA.2.2 k hk
  show -1000 ≤ (x (28 + 9 * k + 3) * (x (28 + 9 * k + 2) + 1) - x (28 + 9 * k + 3) * x (28 + 9 * k + 6) / 20).toInt ∧ (x (28 + 9 * k + 3) * (x (28 + 9 * k + 2) + 1) - x (28 + 9 * k + 3) * x (28 + 9 * k + 6) / 20).toInt ≤ 1000
  by_cases hp0 : p = 0
  · subst hp0
    rw [ep, show nI 0 = 0 from rfl, Int32.zero_mul, Int32.zero_mul]
    decide
  · obtain ⟨ga, ki, -, hki, -, e2⟩ := hg hp0
    rw [ep, e2, ed]
    exact worth_dec p (by omega) ki hki d (by omega)
theorem damp_small {x v : Nat → Int32} (hA : alk x v) {k : Nat} (hk : k < 20) : -1000 ≤ (row x k 6).toInt ∧ (row x k 6).toInt ≤ 1000 := by
  obtain ⟨⟨d, hd, ed⟩, -⟩ := hA.2.2 k hk
  rw [show row x k 6 = nI d from ed, nI_toInt (by omega)]
  omega
theorem before_eq {x v : Nat → Int32} (hx : hok x) (hA : alk x v) {q c : Nat} (hq : nI q < x 3) (hc : nI c < x 3) (hq2 : q < 20) (hc2 : c < 20) : cBefore (nI q) (row x q) (nI c) (row x c) = aheadB v q c := by
  obtain ⟨a1, a2⟩ := worth_small hx hA hq2
  obtain ⟨b1, b2⟩ := worth_small hx hA hc2
  obtain ⟨d1, d2⟩ := damp_small hA hq2
  obtain ⟨f1, f2⟩ := damp_small hA hc2
  obtain ⟨s1, s2⟩ := sub_cmp a1 a2 b1 b2
  obtain ⟨s3, s4⟩ := sub_cmp f1 f2 d1 d2
  unfold cBefore aheadB
  rw [worth_eq hA hq hq2, worth_eq hA hc hc2, hA.row hq hq2 (j := 6) (by omega), hA.row hc hc2 (j := 6) (by omega)]
  rw [Bool.eq_iff_iff, decide_eq_true_iff]
  change _ ↔ (¬ cCoins (row x q) - cCoins (row x c) = 0 ∧ 0 < cCoins (row x q) - cCoins (row x c)) ∨ (cCoins (row x q) - cCoins (row x c) = 0 ∧ (0 < row x c 6 - row x q 6 ∨ (row x c 6 - row x q 6 = 0 ∧ q < c)))
  by_cases h1 : cCoins (row x q) = cCoins (row x c)
  · rw [if_neg (fun h => h h1)]
    by_cases h2 : row x q 6 = row x c 6
    · rw [if_neg (fun h => h h2), decide_eq_true_iff, nI_ltI (by omega) (by omega)]
      constructor
      · intro h
        exact Or.inr ⟨s2.mpr h1, Or.inr ⟨s4.mpr h2.symm, h⟩⟩
      · rintro (h | ⟨-, h | h⟩)
        · exact absurd (s2.mpr h1) h.1
        · exact absurd (s3.mp h) (by rw [h2]; exact Int32.lt_irrefl)
        · exact h.2
    · rw [if_pos h2, decide_eq_true_iff]
      constructor
      · intro h
        exact Or.inr ⟨s2.mpr h1, Or.inl (s3.mpr h)⟩
      · rintro (h | ⟨-, h | h⟩)
        · exact absurd (s2.mpr h1) h.1
        · exact s3.mp h
        · exact absurd (s4.mp h.1).symm h2
  · rw [if_pos h1, decide_eq_true_iff]
    constructor
    · intro h
      exact Or.inl ⟨fun z => h1 (s2.mp z), s1.mpr h⟩
    · rintro (h | h)
      · exact s1.mp h.2
      · exact absurd (s2.mp h.1) h1
theorem ahead_self {v : Nat → Int32} {c : Nat} : aheadB v c c = false := decide_eq_false (fun h => h.elim (fun q => q.1 (Int32.sub_self _)) (fun q => q.2.elim (fun z => absurd z (by rw [Int32.sub_self]; decide)) (fun z => Nat.lt_irrefl _ z.2)))
theorem there_eq {x v : Nat → Int32} (hA : alk x v) {q : Nat} (hq : nI q < x 3) (hq2 : q < 20) : cThere (row x q) = !decide (v (28 + 9 * q + 7) = 3) := by
  rw [hA.row hq hq2 (j := 7) (by omega)]
  have h := (hA.2.2 q hq2).2 hq
  show decide (¬ x (28 + 9 * q + 7) = -1 ∧ ¬ x (28 + 9 * q + 7) = 3) = _
  rw [← decide_not]
  exact decide_eq_decide.mpr ⟨fun z => z.2, fun z => ⟨h, z⟩⟩
theorem there_no {x v : Nat → Int32} (hA : alk x v) {m q : Nat} (hm : m ≤ 20) (e3 : x 3 = nI m) (hq : m ≤ q) (hq2 : q < 20) : cThere (row x q) = false := by
  show decide (¬ x (28 + 9 * q + 7) = -1 ∧ ¬ x (28 + 9 * q + 7) = 3) = false
  rw [hA.blank hm e3 hq hq2 (by omega)]
  decide
theorem place_eq {x v : Nat → Int32} (hx : hok x) (hA : alk x v) {m c : Nat} (hm : m ≤ 20) (e3 : x 3 = nI m) (hc : c < m) : placeN x c 20 = cntR v c m := by
  refine hFold_al (fun q hq => ⟨?_, rfl⟩) (fun q hq h20 => ?_) hm
  · show (cThere (row x q) && cBefore (nI q) (row x q) (nI c) (row x c)) = cntQ v c q
    rw [before_eq hx hA (hA.lt hm e3 hq) (hA.lt hm e3 hc) (by omega) (by omega), there_eq hA (hA.lt hm e3 hq) (by omega)]
    unfold cntQ
    by_cases e : q = c
    · subst e
      rw [ahead_self]
      cases decide (v (28 + 9 * q + 7) = 3) <;> simp
    · rw [decide_eq_false e]
      rfl
  · show (cThere (row x q) && _) = false
    rw [there_no hA hm e3 hq h20]
    rfl
theorem isPl_eq {x v : Nat → Int32} (hx : hok x) (hA : alk x v) {m c : Nat} {pl : Int32} (hm : m ≤ 20) (e3 : x 3 = nI m) (hc : c < m) : isPl x pl c = true ↔ isPR v pl m c := by
  unfold isPl isPR
  rw [Bool.and_eq_true, decide_eq_true_iff, place_eq hx hA hm e3 hc, there_eq hA (hA.lt hm e3 hc) (by omega), Bool.not_eq_true', decide_eq_false_iff_not]
theorem firstN_spec {x : Nat → Int32} {pl : Int32} : ∀ d i : Nat, (∃ c, i ≤ c ∧ c < i + d ∧ isPl x pl c = true ∧ (∀ j, i ≤ j → j < c → ¬ isPl x pl j = true) ∧ firstN x pl d i = nI c) ∨ ((∀ j, i ≤ j → j < i + d → ¬ isPl x pl j = true) ∧ firstN x pl d i = -1) := by
  intro d
  induction d with
  | zero => intro i; exact Or.inr ⟨fun j h1 h2 => absurd h2 (by omega), rfl⟩
  | succ d ih =>
    intro i
    by_cases h : isPl x pl i = true
    · exact Or.inl ⟨i, Nat.le_refl _, by omega, h, fun j h1 h2 => absurd h2 (by omega), by rw [firstN, if_pos h]⟩
    · have e : firstN x pl (d + 1) i = firstN x pl d (i + 1) := by rw [firstN, if_neg h]
      rcases ih (i + 1) with ⟨c, h1, h2, h3, h4, h5⟩ | ⟨h1, h2⟩
      · refine Or.inl ⟨c, by omega, by omega, h3, fun j hj hjc => ?_, e.trans h5⟩
        by_cases hji : j = i
        · subst hji; exact h
        · exact h4 j (by omega) hjc
      · refine Or.inr ⟨fun j hj hjd => ?_, e.trans h2⟩
        by_cases hji : j = i
        · subst hji; exact h
        · exact h1 j (by omega) (by omega)
section RKD
variable {g : xg_T} {x x' : Nat → Nat → Int32} {la la' : Nat → Nat → Nat} {t t' v tm : Nat → Int32} {r rm : Option Value} {E : String} {z : Int32} {n : Nat} {ln : Nat → Nat} {lf : Nat → Nat → Int32} {pl : Int32}
theorem st_ranked (h : L_X7_ranked g x la t pl r x' la' t') : x' = x ∧ la' = la ∧ t' = t := by
  obtain ⟨v1, -, -, -, h⟩ := h
  exact h
theorem sx_ranked (h : E_X7_ranked g x la t pl E x' la' t') : x' = x ∧ la' = la ∧ t' = t := by
  obtain ⟨v1, -, -, -, h⟩ := h
  exact h
theorem kc_ranked (hE : E_X7_ranked g x la t pl E x' la' t') : ¬ kc [("java/util/NoSuchElementException", 1)] E = 0 := by
  obtain ⟨v1, -, -, rfl, -⟩ := hE
  decide +kernel
theorem rk_no {m : Nat} (hA : hAl (x 0) ln lf v) (hx : hok (x 0)) (hm : m ≤ 20) (e3 : x 0 3 = nI m) (h : ∀ j, j < 20 → ¬ isPl (x 0) pl j = true) : ∀ j, j < m → ¬ isPR v pl m j := fun j hj q => h j (by omega) ((isPl_eq hx hA.1 hm e3 hj).mpr q)
theorem rk_lt {m c : Nat} (hA : hAl (x 0) ln lf v) (hm : m ≤ 20) (e3 : x 0 3 = nI m) (hc : c < 20) (h : isPl (x 0) pl c = true) : c < m := by
  rcases Nat.lt_or_ge c m with q | q
  · exact q
  · unfold isPl at h
    rw [there_no hA.1 hm e3 q hc, Bool.false_and] at h
    exact absurd h (by decide)
theorem rd_ranked_y (pl : Int32) (hA : hAl (x 0) ln lf v) (hx : hok (x 0)) (hQ : Q_X8_ranked n tm v pl rm z) (hL : L_X7_ranked g x la t pl r x' la' t') : r = rm ∧ z = 0 := by
  obtain ⟨v1, hv, h0, rfl, -⟩ := hL
  obtain ⟨m, hm, e3, hQ⟩ := hQ
  have e3x : x 0 3 = nI m := (hA.1.at (q := 3) (by omega)).symm.trans e3
  have hv1 := Value.int.inj (Option.some.inj hv)
  rcases firstN_spec (x := x 0) (pl := pl) 20 0 with ⟨c, -, hc, hp, hno, e⟩ | ⟨-, e⟩
  · have hcm := rk_lt hA hm e3x (by omega) hp
    rcases hQ with ⟨c2, hc2, hp2, hno2, q1, rfl⟩ | ⟨hq, -⟩
    · refine ⟨?_, q1⟩
      have : c = c2 := by
        rcases Nat.lt_trichotomy c c2 with q | q | q
        · exact absurd ((isPl_eq hx hA.1 hm e3x hcm).mp hp) (hno2 c q)
        · exact q
        · exact absurd ((isPl_eq hx hA.1 hm e3x hc2).mpr hp2) (hno c2 (Nat.zero_le _) q)
      rw [hv1, e, this]
    · exact absurd ((isPl_eq hx hA.1 hm e3x hcm).mp hp) (hq c hcm)
  · rw [hv1, e] at h0
    exact absurd h0 (by decide)
theorem rd_ranked_n (pl : Int32) (hA : hAl (x 0) ln lf v) (hx : hok (x 0)) (hQ : Q_X8_ranked n tm v pl rm z) (hE : E_X7_ranked g x la t pl E x' la' t') : z = kc [("java/util/NoSuchElementException", 1)] E := by
  obtain ⟨v1, hv, h0, rfl, -⟩ := hE
  obtain ⟨m, hm, e3, hQ⟩ := hQ
  have e3x : x 0 3 = nI m := (hA.1.at (q := 3) (by omega)).symm.trans e3
  have hv1 := Value.int.inj (Option.some.inj hv)
  rcases firstN_spec (x := x 0) (pl := pl) 20 0 with ⟨c, -, hc, hp, hno, e⟩ | ⟨hno, e⟩
  · rw [hv1, e] at h0
    exact absurd (nI_pos' (by omega)) h0
  · rcases hQ with ⟨c2, hc2, hp2, -⟩ | ⟨-, q1, -⟩
    · exact absurd ((isPl_eq hx hA.1 hm e3x hc2).mpr hp2) (hno c2 (Nat.zero_le _) (by omega))
    · exact q1.trans (by decide +kernel)
end RKD
