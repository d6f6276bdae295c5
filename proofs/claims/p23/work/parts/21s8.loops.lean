/-! READS WITH LOOPS, ON BOTH SIDES -/
def fstR (v : Nat → Int32) (r : Option Value) : Prop := ∃ i : Nat, i ≤ 9 ∧ r = some (.int (nI i)) ∧ 3 ≤ hgt (v 0 + nI i) ∧ ∀ j, j < i → ¬ 3 ≤ hgt (v 0 + nI j)
def fstC (x : Nat → Int32) (r : Option Value) : Prop := ∃ i : Nat, i ≤ 12 ∧ r = some (.int (nI i)) ∧ (i < 12 → 3 ≤ tide (x 0) (nI i)) ∧ ∀ j, j < i → ¬ 3 ≤ tide (x 0) (nI j)
theorem far_9 (y : Int32) : far y + 0 ≤ 9 := by
  unfold far
  split
  · omega
  · have := Int.emod_nonneg y.toInt (show (12 : Int) ≠ 0 by decide)
    omega
set_option maxHeartbeats 4000000 in
set_option maxRecDepth 100000 in
theorem e_X8_reachedIn (l : Launch) (hl : l.stackTraces = false) (g : xg_T) (w : xw_T) (sz n : Nat) (t v bf sv pa lb ip td sg : Nat → Int32) (hM : MR g w t v bf sv pa lb ip td sg) (hJ : MJ n t v bf sv pa sg) : xM l g yX8_reachedIn cX8_reachedIn 2 (some .int) ({ frames := 1, cells := 0, slots := 0, locals := 21 }) 0 0 [.ref (g.2 0 + 258)] w sz (mRd g w sz n t v bf sv pa ip td sg (fun r _ => fstR v r)) (fun _ _ _ => False) := by
  refine xM.of RX8 hl (by decide +kernel) rfl (Nat.le_of_ble_eq_true rfl) rfl ?_
  intro p e s m args below meth cD C0 hini
  refine x_aload_n 0 1 C0 dX8_reachedIn_0 rfl rfl rfl ?_
  refine x_iconst (v := 0) 2 C0 dX8_reachedIn_1 rfl (by decide) ?_
  refine x_w (MW_self hM) ?_
  refine x_putf 0 5 C0 dX8_reachedIn_2 rfl MR_MW.o (by show g.2 0 ≤ _; omega) rfl (by decide) inX8 tyX8_ok nmX8 mF_X8_34 rfl rfl rfl rfl (Nat.le_of_ble_eq_true rfl) ?_
  refine x_w (w1 := (MW g w (upd t 0 0) v bf sv pa lb ip td sg)) (MW_o rfl) ?_
  have hJ1 : MJ n (upd t 0 0) v bf sv pa sg := hJ.j_t (by decide)
  refine x_iconst (v := 0) 6 C0 dX8_reachedIn_5 rfl (by decide) ?_
  refine x_istore_n [(1, .int 0), (0, .ref (g.2 0 + 258))] 7 C0 dX8_reachedIn_6 rfl rfl (by decide) rfl ?_
  refine x_lv (lv1 := [(0, .ref (g.2 0 + 258)), (1, .int 0)]) [1, 0] rfl ?_
  have loop7 : ∀ (N i : Nat), far (v 0 + nI i) < N → far (v 0 + nI i) + i ≤ 9 → (∀ j, j < i → ¬ 3 ≤ hgt (v 0 + nI j)) → xV p l e ({ frames := 1, cells := 0, slots := 0, locals := 21 }) s m args below meth cD (xQ g below (mRd g w sz n t v bf sv pa ip td sg (fun r _ => fstR v r)) (fun _ _ _ => False) args s 0 0) g 2 (MW g w (upd t 0 0) v bf sv pa lb ip td sg) sz (0) (0) 7 [(0, .ref (g.2 0 + 258)), (1, .int (nI i))] [] := by
    intro N
    induction N with
    | zero => intro i h1; omega
    | succ N ih =>
      intro i hN h9 hno
      refine x_aload_n 0 8 C0 dX8_reachedIn_7 rfl rfl rfl ?_
      refine x_getf (v := .ref (g.2 0 + 258 + 1)) 8 11 C0 dX8_reachedIn_8 rfl MR_MW.o rfl (by decide) inX8 mF_X8_7 rfl ?_
      refine x_iconst (v := 0) 12 C0 dX8_reachedIn_11 rfl (by decide) ?_
      refine x_iald 0 13 C0 dX8_reachedIn_12 rfl MR_MW.r_v rfl (vp_in_nI (n := 0) (by decide) (by decide)) ?_
      refine x_st (st1 := [.int (v 0)]) (congrArg (fun z => Value.int z :: _) (show v (nI 0).toNatClampNeg = v 0 from by rw [nI_clamp (by omega)])) ?_
      refine x_iload_n 1 14 C0 dX8_reachedIn_13 rfl rfl rfl ?_
      refine x_iadd 15 C0 dX8_reachedIn_14 rfl ?_
      refine x_callS 18 C0 (k_X8_heightAt l hl g _ _ ((v 0) + (nI i))) dX8_reachedIn_15 rfl mC_X8_heightAt mM_X8_161 mS_X8_heightAt mN_X8 yd_X8_heightAt rfl rfl ⟨Nat.le_of_ble_eq_true rfl, Nat.le_of_ble_eq_true rfl⟩ rfl rfl (Nat.le_of_ble_eq_true rfl) ⟨Nat.le_of_ble_eq_true rfl, Nat.le_of_ble_eq_true rfl⟩ (fun _ _ _ q => False.elim q) (fun r w1 sz1 hz hP => ?_)
      obtain ⟨rfl, rfl, rfl⟩ := hP
      refine x_st (st1 := [.int (hgt ((v 0) + (nI i)))]) rfl ?_
      refine x_iconst (v := 3) 19 C0 dX8_reachedIn_18 rfl (by decide) ?_
      refine x_icmp_ge 28 22 C0 dX8_reachedIn_19 rfl (by decide) (fun c2 => ?_) (fun c2 => ?_)
      · have c2' := Int32.not_lt.mpr c2
        refine x_iload_n 1 29 C0 dX8_reachedIn_28 rfl rfl rfl ?_
        exact x_ireturn C0 dX8_reachedIn_29 rfl rfl (Nat.le_of_ble_eq_true rfl) (Nat.le_of_ble_eq_true rfl) ⟨rfl, _, _, rfl, hJ1, (tL.rf.up (by decide)), ⟨i, by omega, rfl, c2, hno⟩⟩
      · have c2' := Int32.not_le.mp c2
        refine x_iinc [(1, .int (nI (i + 1))), (0, .ref (g.2 0 + 258))] 1 25 C0 dX8_reachedIn_22 rfl rfl (nI_1 i) (by decide) rfl ?_
        refine x_lv (lv1 := [(0, .ref (g.2 0 + 258)), (1, .int (nI (i + 1)))]) [1, 0] rfl ?_
        refine x_goto 7 C0 dX8_reachedIn_25 (by decide) ?_
        exact x_lv [0, 1] rfl (ih (i + 1) (by rw [show v 0 + nI (i + 1) = v 0 + nI i + 1 by rw [nI_succ, Int32.add_assoc]]; have := far_1 c2; omega) (by rw [show v 0 + nI (i + 1) = v 0 + nI i + 1 by rw [nI_succ, Int32.add_assoc]]; have := far_1 c2; omega) (fun j hj => (Nat.lt_succ_iff_lt_or_eq.mp hj).elim (hno j) (fun q => by rw [q]; exact c2)))
  exact x_lv [0, 1] rfl (loop7 _ 0 (Nat.lt_succ_self _) (by rw [show v 0 + nI 0 = v 0 from Int32.add_zero _]; exact far_9 _) (fun j hj => absurd hj (Nat.not_lt_zero j)))

set_option maxHeartbeats 4000000 in
set_option maxRecDepth 100000 in
theorem f9_X7_reachedIn (l : Launch) (hl : l.stackTraces = false) (g : xg_T) (w : xw_T) (sz n : Nat) (x : Nat → Nat → Int32) (la : Nat → Nat → Nat) (t tt : Nat → Int32) (vb : Option Nat) (sg : Nat → Int32) (hC : CR g w sz n x la t tt vb sg) : xM l g yX7_reachedIn cX7_reachedIn 2 (some .int) ({ frames := 2, cells := 8, slots := 64, locals := 34 }) 8 64 [.ref (g.2 0)] w sz (fPo g w sz n x la t tt vb sg (fstC (x 0))) (fun _ _ _ => False) := by
  have hz9 := hC.zz
  refine xM.of RX7 hl (by decide +kernel) rfl (Nat.le_of_ble_eq_true rfl) rfl ?_
  intro p e s m args below meth cD C0 hini
  refine x_iconst (v := 0) 1 C0 dX7_reachedIn_0 rfl (by decide) ?_
  refine x_istore_n [(1, .int 0), (0, .ref (g.2 0))] 2 C0 dX7_reachedIn_1 rfl rfl (by decide) rfl ?_
  refine x_lv (lv1 := [(0, .ref (g.2 0)), (1, .int 0)]) [1, 0] rfl ?_
  have loop2 : ∀ (N i : Nat), i ≤ 12 → 12 - i < N → (∀ j, j < i → ¬ 3 ≤ tide (x 0 0) (nI j)) → xV p l e ({ frames := 2, cells := 8, slots := 64, locals := 34 }) s m args below meth cD (xQ g below (fPo g w sz n x la t tt vb sg (fstC (x 0))) (fun _ _ _ => False) args s 8 64) g 2 w sz (0) (0) 2 [(0, .ref (g.2 0)), (1, .int (nI i))] [] := by
    intro N
    induction N with
    | zero => intro i h1 h2; omega
    | succ N ih =>
      intro i hi hN hno
      refine x_iload_n 1 3 C0 dX7_reachedIn_2 rfl rfl rfl ?_
      refine x_bipush (v := 12) 5 C0 dX7_reachedIn_3 rfl (by decide) ?_
      refine x_icmp_ge 26 8 C0 dX7_reachedIn_5 rfl (by decide) (fun c1 => ?_) (fun c1 => ?_)
      · refine x_iload_n 1 27 C0 dX7_reachedIn_26 rfl rfl rfl ?_
        exact x_ireturn C0 dX7_reachedIn_27 rfl rfl (Nat.le_of_ble_eq_true rfl) (Nat.le_of_ble_eq_true rfl) ⟨⟨i, hi, rfl, fun q => absurd (show nI i < nI 12 from nI_lt (b := 12) q (by omega)) (Int32.not_lt.mpr c1), hno⟩, hC, xFr.rf, by omega⟩
      · have hi2 := ix_lt 12 rfl (by decide) hi c1
        refine x_aload_n 0 9 C0 dX7_reachedIn_8 rfl rfl rfl ?_
        refine x_getf (v := .ref (g.2 0 + 1)) 0 12 C0 dX7_reachedIn_9 rfl hC.1.1 rfl (by decide) inX7 mF_X7_10 rfl ?_
        refine x_iload_n 1 13 C0 dX7_reachedIn_12 rfl rfl rfl ?_
        refine x_callV 16 C0 (k_X4_heightIn l hl g _ _ _ _ _ hC.h0 (nI i)) dX7_reachedIn_13 rfl mC_X4_heightIn mM_X7_198 mI_X4_heightIn mV_X4_heightIn mN_X4 yd_X4_heightIn rfl rfl ⟨Nat.le_of_ble_eq_true rfl, Nat.le_of_ble_eq_true rfl⟩ (HR.ho hC.h0) rfl rfl rfl rfl (Nat.le_of_ble_eq_true rfl) ⟨Nat.le_of_ble_eq_true rfl, Nat.le_of_ble_eq_true rfl⟩ (fun _ _ _ q => False.elim q) (fun r w1 sz1 hz hP => ?_)
        obtain ⟨hr, rfl, rfl⟩ := hP
        obtain ⟨v2, rfl⟩ : ∃ v : Int32, r = some (.int v) := ⟨_, hr⟩
        have hr2 := hr
        refine x_st (st1 := [.int v2]) rfl ?_
        refine x_iconst (v := 3) 17 C0 dX7_reachedIn_16 rfl (by decide) ?_
        refine x_icmp_ge 26 20 C0 dX7_reachedIn_17 rfl (by decide) (fun c3 => ?_) (fun c3 => ?_)
        · have c3' := Int32.not_lt.mpr c3
          refine x_iload_n 1 27 C0 dX7_reachedIn_26 rfl rfl rfl ?_
          exact x_ireturn C0 dX7_reachedIn_27 rfl rfl (Nat.le_of_ble_eq_true rfl) (Nat.le_of_ble_eq_true rfl) ⟨⟨i, hi, rfl, fun _ => by rw [← Value.int.inj (Option.some.inj hr2)]; exact c3, hno⟩, hC, xFr.rf, by omega⟩
        · have c3' := Int32.not_le.mp c3
          refine x_iinc [(1, .int (nI (i + 1))), (0, .ref (g.2 0))] 1 23 C0 dX7_reachedIn_20 rfl rfl (nI_1 i) (by decide) rfl ?_
          refine x_lv (lv1 := [(0, .ref (g.2 0)), (1, .int (nI (i + 1)))]) [1, 0] rfl ?_
          refine x_goto 2 C0 dX7_reachedIn_23 (by decide) ?_
          exact x_lv [0, 1] rfl (ih (i + 1) (by omega) (by omega) (fun j hj => (Nat.lt_succ_iff_lt_or_eq.mp hj).elim (hno j) (fun q => by rw [q, ← Value.int.inj (Option.some.inj hr2)]; exact c3)))
  exact x_lv [0, 1] rfl (loop2 13 0 (by omega) (by omega) (fun j hj => absurd hj (Nat.not_lt_zero j)))

theorem rI7_reachedIn {x : Nat → Int32} {r : Option Value} (h : fstC x r) : ∃ z : Int32, r = some (.int z) := h.elim (fun i q => ⟨_, q.2.1⟩)
theorem rI8_reachedIn {v : Nat → Int32} {r : Option Value} (h : fstR v r) : ∃ z : Int32, r = some (.int z) := h.elim (fun i q => ⟨_, q.2.1⟩)
theorem rd_reachedIn {x v : Nat → Int32} {ln : Nat → Nat} {lf : Nat → Nat → Int32} {r rm : Option Value} (hA : hAl x ln lf v) (hQ : fstR v rm) (hL : fstC x r) : r = rm := by
  obtain ⟨i, hi, rfl, h1, h2⟩ := hL
  obtain ⟨k, hk, rfl, h3, h4⟩ := hQ
  have e : ∀ q : Nat, tide (x 0) (nI q) = hgt (v 0 + nI q) := fun q => by rw [tide_hgt, hA.1.at (by omega)]
  rcases Nat.lt_trichotomy i k with h | rfl | h
  · exact absurd (by rw [← e]; exact h1 (by omega)) (h4 i h)
  · rfl
  · exact absurd (by rw [e]; exact h3) (h2 k h)
