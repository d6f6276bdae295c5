/-! READS WITH LOOPS, ON BOTH SIDES -/
def L_X7_reason (g : xg_T) (x : Nat → Nat → Int32) (la : Nat → Nat → Nat) (t : Nat → Int32) (de : Int32) (r : Option Value) (x' : Nat → Nat → Int32) (la' : Nat → Nat → Nat) (t' : Nat → Int32) : Prop :=
  ((¬ x 0 208 = 0) ∧ (rI r) ∧ (x' = x) ∧ (la' = la) ∧ (t' = t))
def E_X7_reason (g : xg_T) (x : Nat → Nat → Int32) (la : Nat → Nat → Nat) (t : Nat → Int32) (de : Int32) (E : String) (x' : Nat → Nat → Int32) (la' : Nat → Nat → Nat) (t' : Nat → Int32) : Prop :=
  ((E = "java/util/NoSuchElementException") ∧ (x 0 208 = 0) ∧ (x' = x) ∧ (la' = la) ∧ (t' = t))
set_option maxHeartbeats 4000000 in
set_option maxRecDepth 100000 in
theorem e_X7_reason (l : Launch) (hl : l.stackTraces = false) (g : xg_T) (w : xw_T) (sz n : Nat) (x : Nat → Nat → Int32) (la : Nat → Nat → Nat) (t tt : Nat → Int32) (vb : Option Nat) (sg : Nat → Int32) (hC : CR g w sz n x la t tt vb sg) (de : Int32) : xM l g yX7_reason cX7_reason 2 (some .int) ({ frames := 6, cells := 8, slots := 64, locals := 82 }) 8 64 [.ref (g.2 0), .int de] w sz (cQ g w sz n tt vb sg (fun r x' la' t' => L_X7_reason g x la t de r x' la' t')) (cE g w sz n tt vb sg (fun E x' la' t' => E_X7_reason g x la t de E x' la' t')) := by
  have hz9 := hC.zz
  refine xM.of RX7 hl (by decide +kernel) rfl (Nat.le_of_ble_eq_true rfl) rfl ?_
  intro p e s m args below meth cD C0 hini
  refine x_aload_n 0 1 C0 dX7_reason_0 rfl rfl rfl ?_
  refine x_getf (v := .ref (g.2 0 + 1)) 0 4 C0 dX7_reason_1 rfl hC.1.1 rfl (by decide) inX7 mF_X7_10 rfl ?_
  refine x_getf (v := .int (x 0 208)) 12 7 C0 dX7_reason_4 rfl (HR.ho hC.h0) rfl (by decide) inX4 mF_X7_241 rfl ?_
  refine x_if_ne 20 10 C0 dX7_reason_7 rfl (by decide) (fun c1 => ?_) (fun c1 => ?_)
  · refine x_iload_n 1 21 C0 dX7_reason_20 rfl rfl rfl ?_
    refine x_if_eq 34 24 C0 dX7_reason_21 rfl (by decide) (fun c2 => ?_) (fun c2 => ?_)
    · refine x_aload_n 0 35 C0 dX7_reason_34 rfl rfl rfl ?_
      refine x_getf (v := .ref (g.2 0 + 1)) 0 38 C0 dX7_reason_35 rfl hC.1.1 rfl (by decide) inX7 mF_X7_10 rfl ?_
      refine x_getf (v := .int (x 0 208)) 12 41 C0 dX7_reason_38 rfl (HR.ho hC.h0) rfl (by decide) inX4 mF_X7_241 rfl ?_
      exact x_ireturn C0 dX7_reason_41 rfl rfl (Nat.le_of_ble_eq_true rfl) (Nat.le_of_ble_eq_true rfl) ⟨⟨_, rfl⟩, xFr.rf, by omega, _, _, _, hC, ⟨c1, ⟨_, rfl⟩, rfl, rfl, rfl⟩⟩
    · refine x_aload_n 0 25 C0 dX7_reason_24 rfl rfl rfl ?_
      refine x_getf (v := .ref (g.2 0 + 1)) 0 28 C0 dX7_reason_25 rfl hC.1.1 rfl (by decide) inX7 mF_X7_10 rfl ?_
      refine x_getf (v := .int (x 0 209)) 13 31 C0 dX7_reason_28 rfl (HR.ho hC.h0) rfl (by decide) inX4 mF_X7_246 rfl ?_
      refine x_goto 41 C0 dX7_reason_31 (by decide) ?_
      exact x_ireturn C0 dX7_reason_41 rfl rfl (Nat.le_of_ble_eq_true rfl) (Nat.le_of_ble_eq_true rfl) ⟨⟨_, rfl⟩, xFr.rf, by omega, _, _, _, hC, ⟨c1, ⟨_, rfl⟩, rfl, rfl, rfl⟩⟩
  · exact x_throwN C0 dX7_reason_10 dX7_reason_13 dX7_reason_14 dX7_reason_16 dX7_reason_19 rfl rfl rfl rfl (by decide +kernel) mK_X7_137 mN_NoSuchElementException (xs_ldc C0.2.2.2.2.2.2.2.1.2.2 (RX7, 244, "nothing was refused", 145) (by decide +kernel)) (xhat C0 xg_nse xh_nse (by decide +kernel)) xo_nse (xs_us C0.2.2.2.2.2.2.2.1.2.2) (xs_su C0.2.2.2.2.2.2.2.1.2.2) rfl (Nat.le_of_ble_eq_true rfl) (Nat.le_of_ble_eq_true rfl) (Nat.le_of_ble_eq_true rfl) (Nat.le_of_ble_eq_true rfl) (Nat.le_of_ble_eq_true rfl) (Nat.le_of_ble_eq_true rfl) (fun sz9 h9 => ⟨xFr.rf, by omega, _, _, _, hC.grow h9, ⟨rfl, c1, rfl, rfl, rfl⟩⟩)

section RRE
variable {g : xg_T} {x x' : Nat → Nat → Int32} {la la' : Nat → Nat → Nat} {t t' v tm : Nat → Int32} {r rm : Option Value} {E : String} {z : Int32} {n : Nat}
theorem st_reason {de : Int32} (h : L_X7_reason g x la t de r x' la' t') : x' = x ∧ la' = la ∧ t' = t := h.2.2
theorem sx_reason {de : Int32} (h : E_X7_reason g x la t de E x' la' t') : x' = x ∧ la' = la ∧ t' = t := h.2.2
theorem kc_reason {de : Int32} (hE : E_X7_reason g x la t de E x' la' t') : ¬ kc [("java/util/NoSuchElementException", 1)] E = 0 := by
  obtain ⟨rfl, -⟩ := hE
  decide +kernel
theorem rd_reason_y (de : Int32) (hR : x 0 208 = 0 ∧ tm 3 = 0) (_ : Q_X8_reason n tm v de rm z) (hL : L_X7_reason g x la t de r x' la' t') : r = rm ∧ z = 0 := absurd hR.1 hL.1
theorem rd_reason_n (de : Int32) (hR : x 0 208 = 0 ∧ tm 3 = 0) (hQ : Q_X8_reason n tm v de rm z) (hE : E_X7_reason g x la t de E x' la' t') : z = kc [("java/util/NoSuchElementException", 1)] E := by
  obtain ⟨rfl, -⟩ := hE
  rcases hQ with ⟨q, -⟩ | ⟨q, -⟩ | ⟨-, q1, -⟩
  · exact absurd hR.2 q
  · exact absurd hR.2 q
  · exact q1.trans (by decide +kernel)
end RRE

def fstR (v : Nat → Int32) (r : Option Value) : Prop := ∃ i : Nat, i ≤ 9 ∧ r = some (.int (nI i)) ∧ 3 ≤ hgt (v 0 + nI i) ∧ ∀ j, j < i → ¬ 3 ≤ hgt (v 0 + nI j)
def fstC (x : Nat → Int32) (r : Option Value) : Prop := ∃ i : Nat, i ≤ 12 ∧ r = some (.int (nI i)) ∧ (i < 12 → 3 ≤ tide (x 0) (nI i)) ∧ ∀ j, j < i → ¬ 3 ≤ tide (x 0) (nI j)
theorem far_9 (y : Int32) : far y + 0 ≤ 9 := by
  unfold far
  split
  · omega
  · have := Int.emod_nonneg y.toInt (show (12 : Int) ≠ 0 by decide)
    omega
set_option maxHeartbeats 4000000 in
set_option maxRecDepth 100000 in
theorem e_X8_reachedIn (l : Launch) (hl : l.stackTraces = false) (g : xg_T) (w : xw_T) (sz n : Nat) (t v bf sv pa lb ip td sg : Nat → Int32) (hM : MR g w t v bf sv pa lb ip td sg) (hJ : MJ n t v bf sv pa sg) : xM l g yX8_reachedIn cX8_reachedIn 2 (some .int) ({ frames := 1, cells := 0, slots := 0, locals := 21 }) 0 0 [.ref (g.2 0 + 258)] w sz (mRd g w sz n t v bf sv pa ip td sg (fun r _ => fstR v r)) (fun _ _ _ => False) := by
  refine xM.of RX8 hl (by decide +kernel) rfl (Nat.le_of_ble_eq_true rfl) rfl ?_
  intro p e s m args below meth cD C0 hini
  refine x_aload_n 0 1 C0 dX8_reachedIn_0 rfl rfl rfl ?_
  refine x_iconst (v := 0) 2 C0 dX8_reachedIn_1 rfl (by decide) ?_
  refine x_w (MW_self hM) ?_
  refine x_putf 0 5 C0 dX8_reachedIn_2 rfl MR_MW.o (by show g.2 0 ≤ _; omega) rfl (by decide) inX8 tyX8_ok nmX8 mF_X8_34 rfl rfl rfl rfl (Nat.le_of_ble_eq_true rfl) ?_
  refine x_w (w1 := (MW g w (upd t 0 0) v bf sv pa lb ip td sg)) (MW_o rfl) ?_
  have hJ1 : MJ n (upd t 0 0) v bf sv pa sg := hJ.j_t (by decide)
  refine x_iconst (v := 0) 6 C0 dX8_reachedIn_5 rfl (by decide) ?_
  refine x_istore_n [(1, .int 0), (0, .ref (g.2 0 + 258))] 7 C0 dX8_reachedIn_6 rfl rfl (by decide) rfl ?_
  refine x_lv (lv1 := [(0, .ref (g.2 0 + 258)), (1, .int 0)]) [1, 0] rfl ?_
  have loop7 : ∀ (N i : Nat), far (v 0 + nI i) < N → far (v 0 + nI i) + i ≤ 9 → (∀ j, j < i → ¬ 3 ≤ hgt (v 0 + nI j)) → xV p l e ({ frames := 1, cells := 0, slots := 0, locals := 21 }) s m args below meth cD (xQ g below (mRd g w sz n t v bf sv pa ip td sg (fun r _ => fstR v r)) (fun _ _ _ => False) args s 0 0) g 2 (MW g w (upd t 0 0) v bf sv pa lb ip td sg) sz (0) (0) 7 [(0, .ref (g.2 0 + 258)), (1, .int (nI i))] [] := by
    intro N
    induction N with
    | zero => intro i h1; omega
    | succ N ih =>
      intro i hN h9 hno
      refine x_aload_n 0 8 C0 dX8_reachedIn_7 rfl rfl rfl ?_
      refine x_getf (v := .ref (g.2 0 + 258 + 1)) 8 11 C0 dX8_reachedIn_8 rfl MR_MW.o rfl (by decide) inX8 mF_X8_7 rfl ?_
      refine x_iconst (v := 0) 12 C0 dX8_reachedIn_11 rfl (by decide) ?_
      refine x_iald 0 13 C0 dX8_reachedIn_12 rfl MR_MW.r_v rfl (vp_in_nI (n := 0) (by decide) (by decide)) ?_
      refine x_st (st1 := [.int (v 0)]) (congrArg (fun z => Value.int z :: _) (show v (nI 0).toNatClampNeg = v 0 from by rw [nI_clamp (by omega)])) ?_
      refine x_iload_n 1 14 C0 dX8_reachedIn_13 rfl rfl rfl ?_
      refine x_iadd 15 C0 dX8_reachedIn_14 rfl ?_
      refine x_callS 18 C0 (k_X8_heightAt l hl g _ _ ((v 0) + (nI i))) dX8_reachedIn_15 rfl mC_X8_heightAt mM_X8_161 mS_X8_heightAt mN_X8 yd_X8_heightAt rfl rfl ⟨Nat.le_of_ble_eq_true rfl, Nat.le_of_ble_eq_true rfl⟩ rfl rfl (Nat.le_of_ble_eq_true rfl) ⟨Nat.le_of_ble_eq_true rfl, Nat.le_of_ble_eq_true rfl⟩ (fun _ _ _ q => False.elim q) (fun r w1 sz1 hz hP => ?_)
      obtain ⟨rfl, rfl, rfl⟩ := hP
      refine x_st (st1 := [.int (hgt ((v 0) + (nI i)))]) rfl ?_
      refine x_iconst (v := 3) 19 C0 dX8_reachedIn_18 rfl (by decide) ?_
      refine x_icmp_ge 28 22 C0 dX8_reachedIn_19 rfl (by decide) (fun c2 => ?_) (fun c2 => ?_)
      · have c2' := Int32.not_lt.mpr c2
        refine x_iload_n 1 29 C0 dX8_reachedIn_28 rfl rfl rfl ?_
        exact x_ireturn C0 dX8_reachedIn_29 rfl rfl (Nat.le_of_ble_eq_true rfl) (Nat.le_of_ble_eq_true rfl) ⟨rfl, _, _, rfl, hJ1, (tL.rf.up (by decide)), ⟨i, by omega, rfl, c2, hno⟩⟩
      · have c2' := Int32.not_le.mp c2
        refine x_iinc [(1, .int (nI (i + 1))), (0, .ref (g.2 0 + 258))] 1 25 C0 dX8_reachedIn_22 rfl rfl (nI_1 i) (by decide) rfl ?_
        refine x_lv (lv1 := [(0, .ref (g.2 0 + 258)), (1, .int (nI (i + 1)))]) [1, 0] rfl ?_
        refine x_goto 7 C0 dX8_reachedIn_25 (by decide) ?_
        exact x_lv [0, 1] rfl (ih (i + 1) (by rw [show v 0 + nI (i + 1) = v 0 + nI i + 1 by rw [nI_succ, Int32.add_assoc]]; have := far_1 c2; omega) (by rw [show v 0 + nI (i + 1) = v 0 + nI i + 1 by rw [nI_succ, Int32.add_assoc]]; have := far_1 c2; omega) (fun j hj => (Nat.lt_succ_iff_lt_or_eq.mp hj).elim (hno j) (fun q => by rw [q]; exact c2)))
  exact x_lv [0, 1] rfl (loop7 _ 0 (Nat.lt_succ_self _) (by rw [show v 0 + nI 0 = v 0 from Int32.add_zero _]; exact far_9 _) (fun j hj => absurd hj (Nat.not_lt_zero j)))

set_option maxHeartbeats 4000000 in
set_option maxRecDepth 100000 in
theorem f9_X7_reachedIn (l : Launch) (hl : l.stackTraces = false) (g : xg_T) (w : xw_T) (sz n : Nat) (x : Nat → Nat → Int32) (la : Nat → Nat → Nat) (t tt : Nat → Int32) (vb : Option Nat) (sg : Nat → Int32) (hC : CR g w sz n x la t tt vb sg) : xM l g yX7_reachedIn cX7_reachedIn 2 (some .int) ({ frames := 2, cells := 8, slots := 64, locals := 34 }) 8 64 [.ref (g.2 0)] w sz (fPo g w sz n x la t tt vb sg (fstC (x 0))) (fun _ _ _ => False) := by
  have hz9 := hC.zz
  refine xM.of RX7 hl (by decide +kernel) rfl (Nat.le_of_ble_eq_true rfl) rfl ?_
  intro p e s m args below meth cD C0 hini
  refine x_iconst (v := 0) 1 C0 dX7_reachedIn_0 rfl (by decide) ?_
  refine x_istore_n [(1, .int 0), (0, .ref (g.2 0))] 2 C0 dX7_reachedIn_1 rfl rfl (by decide) rfl ?_
  refine x_lv (lv1 := [(0, .ref (g.2 0)), (1, .int 0)]) [1, 0] rfl ?_
  have loop2 : ∀ (N i : Nat), i ≤ 12 → 12 - i < N → (∀ j, j < i → ¬ 3 ≤ tide (x 0 0) (nI j)) → xV p l e ({ frames := 2, cells := 8, slots := 64, locals := 34 }) s m args below meth cD (xQ g below (fPo g w sz n x la t tt vb sg (fstC (x 0))) (fun _ _ _ => False) args s 8 64) g 2 w sz (0) (0) 2 [(0, .ref (g.2 0)), (1, .int (nI i))] [] := by
    intro N
    induction N with
    | zero => intro i h1 h2; omega
    | succ N ih =>
      intro i hi hN hno
      refine x_iload_n 1 3 C0 dX7_reachedIn_2 rfl rfl rfl ?_
      refine x_bipush (v := 12) 5 C0 dX7_reachedIn_3 rfl (by decide) ?_
      refine x_icmp_ge 26 8 C0 dX7_reachedIn_5 rfl (by decide) (fun c1 => ?_) (fun c1 => ?_)
      · refine x_iload_n 1 27 C0 dX7_reachedIn_26 rfl rfl rfl ?_
        exact x_ireturn C0 dX7_reachedIn_27 rfl rfl (Nat.le_of_ble_eq_true rfl) (Nat.le_of_ble_eq_true rfl) ⟨⟨i, hi, rfl, fun q => absurd (show nI i < nI 12 from nI_lt (b := 12) q (by omega)) (Int32.not_lt.mpr c1), hno⟩, hC, xFr.rf, by omega⟩
      · have hi2 := ix_lt 12 rfl (by decide) hi c1
        refine x_aload_n 0 9 C0 dX7_reachedIn_8 rfl rfl rfl ?_
        refine x_getf (v := .ref (g.2 0 + 1)) 0 12 C0 dX7_reachedIn_9 rfl hC.1.1 rfl (by decide) inX7 mF_X7_10 rfl ?_
        refine x_iload_n 1 13 C0 dX7_reachedIn_12 rfl rfl rfl ?_
        refine x_callV 16 C0 (k_X4_heightIn l hl g _ _ _ _ _ hC.h0 (nI i)) dX7_reachedIn_13 rfl mC_X4_heightIn mM_X7_198 mI_X4_heightIn mV_X4_heightIn mN_X4 yd_X4_heightIn rfl rfl ⟨Nat.le_of_ble_eq_true rfl, Nat.le_of_ble_eq_true rfl⟩ (HR.ho hC.h0) rfl rfl rfl rfl (Nat.le_of_ble_eq_true rfl) ⟨Nat.le_of_ble_eq_true rfl, Nat.le_of_ble_eq_true rfl⟩ (fun _ _ _ q => False.elim q) (fun r w1 sz1 hz hP => ?_)
        obtain ⟨hr, rfl, rfl⟩ := hP
        obtain ⟨v2, rfl⟩ : ∃ v : Int32, r = some (.int v) := ⟨_, hr⟩
        have hr2 := hr
        refine x_st (st1 := [.int v2]) rfl ?_
        refine x_iconst (v := 3) 17 C0 dX7_reachedIn_16 rfl (by decide) ?_
        refine x_icmp_ge 26 20 C0 dX7_reachedIn_17 rfl (by decide) (fun c3 => ?_) (fun c3 => ?_)
        · have c3' := Int32.not_lt.mpr c3
          refine x_iload_n 1 27 C0 dX7_reachedIn_26 rfl rfl rfl ?_
          exact x_ireturn C0 dX7_reachedIn_27 rfl rfl (Nat.le_of_ble_eq_true rfl) (Nat.le_of_ble_eq_true rfl) ⟨⟨i, hi, rfl, fun _ => by rw [← Value.int.inj (Option.some.inj hr2)]; exact c3, hno⟩, hC, xFr.rf, by omega⟩
        · have c3' := Int32.not_le.mp c3
          refine x_iinc [(1, .int (nI (i + 1))), (0, .ref (g.2 0))] 1 23 C0 dX7_reachedIn_20 rfl rfl (nI_1 i) (by decide) rfl ?_
          refine x_lv (lv1 := [(0, .ref (g.2 0)), (1, .int (nI (i + 1)))]) [1, 0] rfl ?_
          refine x_goto 2 C0 dX7_reachedIn_23 (by decide) ?_
          exact x_lv [0, 1] rfl (ih (i + 1) (by omega) (by omega) (fun j hj => (Nat.lt_succ_iff_lt_or_eq.mp hj).elim (hno j) (fun q => by rw [q, ← Value.int.inj (Option.some.inj hr2)]; exact c3)))
  exact x_lv [0, 1] rfl (loop2 13 0 (by omega) (by omega) (fun j hj => absurd hj (Nat.not_lt_zero j)))

theorem rI7_reachedIn {x : Nat → Int32} {r : Option Value} (h : fstC x r) : ∃ z : Int32, r = some (.int z) := h.elim (fun i q => ⟨_, q.2.1⟩)
theorem rI8_reachedIn {v : Nat → Int32} {r : Option Value} (h : fstR v r) : ∃ z : Int32, r = some (.int z) := h.elim (fun i q => ⟨_, q.2.1⟩)
theorem rd_reachedIn {x v : Nat → Int32} {ln : Nat → Nat} {lf : Nat → Nat → Int32} {r rm : Option Value} (hA : hAl x ln lf v) (hQ : fstR v rm) (hL : fstC x r) : r = rm := by
  obtain ⟨i, hi, rfl, h1, h2⟩ := hL
  obtain ⟨k, hk, rfl, h3, h4⟩ := hQ
  have e : ∀ q : Nat, tide (x 0) (nI q) = hgt (v 0 + nI q) := fun q => by rw [tide_hgt, hA.1.at (by omega)]
  rcases Nat.lt_trichotomy i k with h | rfl | h
  · exact absurd (by rw [← e]; exact h1 (by omega)) (h4 i h)
  · rfl
  · exact absurd (by rw [e]; exact h3) (h2 k h)

def outR (v : Nat → Int32) (i : Nat) : Prop := (1 ≤ v (28 + 9 * i + 7) ∧ v (28 + 9 * i + 7) ≤ 2) ∧ (¬ rTight v i ∨ v (28 + 9 * i + 8) = 0)
def sumR (v : Nat → Int32) (m : Nat) : Prop := v 6 = ((rStored v 18 + rPacked v m) + v 7) + v 8
def wellR (v : Nat → Int32) (r : Option Value) : Prop := ∃ m : Nat, m ≤ 20 ∧ v 3 = nI m ∧ (((∃ i, i < m ∧ outR v i) ∧ r = some (.int 0)) ∨ ((∀ i, i < m → ¬ outR v i) ∧ ¬ sumR v m ∧ r = some (.int 0)) ∨ ((∀ i, i < m → ¬ outR v i) ∧ sumR v m ∧ r = some (.int 1)))
def wellC (x : Nat → Int32) (ln : Nat → Nat) (r : Option Value) : Prop := (¬ ((sAll x + packedN x 20) + x 7) + x 8 = x 6 ∧ r = some (.int 0)) ∨ ((∃ i, i < 20 ∧ outBad x ln i) ∧ r = some (.int 0)) ∨ (((sAll x + packedN x 20) + x 7) + x 8 = x 6 ∧ (∀ i, i < 20 → ¬ outBad x ln i) ∧ r = some (.int 1))
set_option maxHeartbeats 4000000 in
set_option maxRecDepth 100000 in
theorem e_X8_isWell (l : Launch) (hl : l.stackTraces = false) (g : xg_T) (w : xw_T) (sz n : Nat) (t v bf sv pa lb ip td sg : Nat → Int32) (hM : MR g w t v bf sv pa lb ip td sg) (hJ : MJ n t v bf sv pa sg) : xM l g yX8_isWell cX8_isWell 3 (some .boolean) ({ frames := 2, cells := 0, slots := 0, locals := 43 }) 0 0 [.ref (g.2 0 + 258)] w sz (mRd g w sz n t v bf sv pa ip td sg (fun r _ => wellR v r)) (fun _ _ _ => False) := by
  refine xM.of RX8 hl (by decide +kernel) rfl (Nat.le_of_ble_eq_true rfl) rfl ?_
  intro p e s m args below meth cD C0 hini
  refine x_aload_n 0 1 C0 dX8_isWell_0 rfl rfl rfl ?_
  refine x_iconst (v := 0) 2 C0 dX8_isWell_1 rfl (by decide) ?_
  refine x_w (MW_self hM) ?_
  refine x_putf 0 5 C0 dX8_isWell_2 rfl MR_MW.o (by show g.2 0 ≤ _; omega) rfl (by decide) inX8 tyX8_ok nmX8 mF_X8_34 rfl rfl rfl rfl (Nat.le_of_ble_eq_true rfl) ?_
  refine x_w (w1 := (MW g w (upd t 0 0) v bf sv pa lb ip td sg)) (MW_o rfl) ?_
  have hJ1 : MJ n (upd t 0 0) v bf sv pa sg := hJ.j_t (by decide)
  refine x_iconst (v := 0) 6 C0 dX8_isWell_5 rfl (by decide) ?_
  refine x_istore_n [(1, .int 0), (0, .ref (g.2 0 + 258))] 7 C0 dX8_isWell_6 rfl rfl (by decide) rfl ?_
  refine x_lv (lv1 := [(0, .ref (g.2 0 + 258)), (1, .int 0)]) [1, 0] rfl ?_
  have loop7 : ∀ (N i : Nat), i ≤ 20 → 20 - i < N → (∀ j, j < i → ¬ outR v j) → (∀ m, m ≤ 20 → v 3 = nI m → i ≤ m) → xV p l e ({ frames := 2, cells := 0, slots := 0, locals := 43 }) s m args below meth cD (xQ g below (mRd g w sz n t v bf sv pa ip td sg (fun r _ => wellR v r)) (fun _ _ _ => False) args s 0 0) g 3 (MW g w (upd t 0 0) v bf sv pa lb ip td sg) sz (0) (0) 7 [(0, .ref (g.2 0 + 258)), (1, .int (nI i))] [] := by
    intro N
    induction N with
    | zero => intro i h1 h2; omega
    | succ N ih =>
      intro i hi hN hno him
      refine x_iload_n 1 8 C0 dX8_isWell_7 rfl rfl rfl ?_
      refine x_aload_n 0 9 C0 dX8_isWell_8 rfl rfl rfl ?_
      refine x_getf (v := .ref (g.2 0 + 258 + 1)) 8 12 C0 dX8_isWell_9 rfl MR_MW.o rfl (by decide) inX8 mF_X8_7 rfl ?_
      refine x_iconst (v := 3) 13 C0 dX8_isWell_12 rfl (by decide) ?_
      refine x_iald 0 14 C0 dX8_isWell_13 rfl MR_MW.r_v rfl (vp_in_nI (n := 3) (by decide) (by decide)) ?_
      refine x_st (st1 := [.int (v 3), .int (nI i)]) (congrArg (fun z => Value.int z :: _) (show v (nI 3).toNatClampNeg = v 3 from by rw [nI_clamp (by omega)])) ?_
      obtain ⟨nC2, hnC2, hv32⟩ := hJ1.1.n
      have hin := him nC2 hnC2 hv32
      refine x_st (st1 := [.int (nI nC2), .int (nI i)]) (congrArg (fun z => Value.int z :: _) (hv32)) ?_
      refine x_icmp_ge 68 17 C0 dX8_isWell_14 rfl (by decide) (fun c3 => ?_) (fun c3 => ?_)
      · have hii : i = nC2 := Nat.le_antisymm hin ((nI_leI (by omega) (by omega)).mp c3)
        subst hii
        refine x_aload_n 0 69 C0 dX8_isWell_68 rfl rfl rfl ?_
        refine x_getf (v := .ref (g.2 0 + 258 + 1)) 8 72 C0 dX8_isWell_69 rfl MR_MW.o rfl (by decide) inX8 mF_X8_7 rfl ?_
        refine x_bipush (v := 6) 74 C0 dX8_isWell_72 rfl (by decide) ?_
        refine x_iald 0 75 C0 dX8_isWell_74 rfl MR_MW.r_v rfl (vp_in_nI (n := 6) (by decide) (by decide)) ?_
        refine x_st (st1 := [.int (v 6)]) (congrArg (fun z => Value.int z :: _) (show v (nI 6).toNatClampNeg = v 6 from by rw [nI_clamp (by omega)])) ?_
        refine x_aload_n 0 76 C0 dX8_isWell_75 rfl rfl rfl ?_
        refine x_callV 79 C0 (k_X8_stored l hl g _ _ n (upd t 0 0) v bf sv pa lb ip td sg MR_MW hJ1) dX8_isWell_76 rfl mC_X8_stored mM_X8_189 mI_X8_stored mV_X8_stored mN_X8 yd_X8_stored rfl rfl ⟨Nat.le_of_ble_eq_true rfl, Nat.le_of_ble_eq_true rfl⟩ MR_MW.o rfl rfl rfl rfl (Nat.le_of_ble_eq_true rfl) ⟨Nat.le_of_ble_eq_true rfl, Nat.le_of_ble_eq_true rfl⟩ (fun _ _ _ q => False.elim q) (fun r w1 sz1 hz hP => ?_)
        obtain ⟨rfl, rfl, rfl⟩ := hP
        refine x_st (st1 := [.int (rStored v 18), .int (v 6)]) rfl ?_
        refine x_aload_n 0 80 C0 dX8_isWell_79 rfl rfl rfl ?_
        refine x_callV 83 C0 (k_X8_packed l hl g _ _ n (upd t 0 0) v bf sv pa lb ip td sg MR_MW hJ1) dX8_isWell_80 rfl mC_X8_packed mM_X8_192 mI_X8_packed mV_X8_packed mN_X8 yd_X8_packed rfl rfl ⟨Nat.le_of_ble_eq_true rfl, Nat.le_of_ble_eq_true rfl⟩ MR_MW.o rfl rfl rfl rfl (Nat.le_of_ble_eq_true rfl) ⟨Nat.le_of_ble_eq_true rfl, Nat.le_of_ble_eq_true rfl⟩ (fun _ _ _ q => False.elim q) (fun r w1 sz1 hz hP => ?_)
        obtain ⟨⟨m5, hm5, hw5, rfl⟩, rfl, rfl⟩ := hP
        have hmm : m5 = i := (nI_eq (by omega) (by omega)).mp (hw5.symm.trans hv32)
        subst hmm
        refine x_st (st1 := [.int (rPacked v m5), .int (rStored v 18), .int (v 6)]) rfl ?_
        refine x_iadd 84 C0 dX8_isWell_83 rfl ?_
        refine x_aload_n 0 85 C0 dX8_isWell_84 rfl rfl rfl ?_
        refine x_getf (v := .ref (g.2 0 + 258 + 1)) 8 88 C0 dX8_isWell_85 rfl MR_MW.o rfl (by decide) inX8 mF_X8_7 rfl ?_
        refine x_bipush (v := 7) 90 C0 dX8_isWell_88 rfl (by decide) ?_
        refine x_iald 0 91 C0 dX8_isWell_90 rfl MR_MW.r_v rfl (vp_in_nI (n := 7) (by decide) (by decide)) ?_
        refine x_st (st1 := [.int (v 7), .int ((rStored v 18) + (rPacked v m5)), .int (v 6)]) (congrArg (fun z => Value.int z :: _) (show v (nI 7).toNatClampNeg = v 7 from by rw [nI_clamp (by omega)])) ?_
        refine x_iadd 92 C0 dX8_isWell_91 rfl ?_
        refine x_aload_n 0 93 C0 dX8_isWell_92 rfl rfl rfl ?_
        refine x_getf (v := .ref (g.2 0 + 258 + 1)) 8 96 C0 dX8_isWell_93 rfl MR_MW.o rfl (by decide) inX8 mF_X8_7 rfl ?_
        refine x_bipush (v := 8) 98 C0 dX8_isWell_96 rfl (by decide) ?_
        refine x_iald 0 99 C0 dX8_isWell_98 rfl MR_MW.r_v rfl (vp_in_nI (n := 8) (by decide) (by decide)) ?_
        refine x_st (st1 := [.int (v 8), .int (((rStored v 18) + (rPacked v m5)) + (v 7)), .int (v 6)]) (congrArg (fun z => Value.int z :: _) (show v (nI 8).toNatClampNeg = v 8 from by rw [nI_clamp (by omega)])) ?_
        refine x_iadd 100 C0 dX8_isWell_99 rfl ?_
        refine x_icmp_ne 107 103 C0 dX8_isWell_100 rfl (by decide) (fun c6 => ?_) (fun c6 => ?_)
        · refine x_iconst (v := 0) 108 C0 dX8_isWell_107 rfl (by decide) ?_
          exact x_ireturn C0 dX8_isWell_108 rfl rfl (Nat.le_of_ble_eq_true rfl) (Nat.le_of_ble_eq_true rfl) ⟨rfl, _, _, rfl, hJ1, (tL.rf.up (by decide)), ⟨m5, hm5, hw5, Or.inr (Or.inl ⟨hno, c6, rfl⟩)⟩⟩
        · refine x_iconst (v := 1) 104 C0 dX8_isWell_103 rfl (by decide) ?_
          refine x_goto 108 C0 dX8_isWell_104 (by decide) ?_
          exact x_ireturn C0 dX8_isWell_108 rfl rfl (Nat.le_of_ble_eq_true rfl) (Nat.le_of_ble_eq_true rfl) ⟨rfl, _, _, rfl, hJ1, (tL.rf.up (by decide)), ⟨m5, hm5, hw5, Or.inr (Or.inr ⟨hno, c6, rfl⟩)⟩⟩
      · have hi2 : i < nC2 := Nat.lt_of_not_le (fun z => c3 (nI_le (a := nC2) z (by omega)))
        refine x_aload_n 0 18 C0 dX8_isWell_17 rfl rfl rfl ?_
        refine x_getf (v := .ref (g.2 0 + 258 + 1)) 8 21 C0 dX8_isWell_18 rfl MR_MW.o rfl (by decide) inX8 mF_X8_7 rfl ?_
        refine x_iload_n 1 22 C0 dX8_isWell_21 rfl rfl rfl ?_
        refine x_bipush (v := 7) 24 C0 dX8_isWell_22 rfl (by decide) ?_
        refine x_callS 27 C0 (k_X8_at l hl g _ _ (nI i) 7) dX8_isWell_24 rfl mC_X8_at mM_X8_71 mS_X8_at mN_X8 yd_X8_at rfl rfl ⟨Nat.le_of_ble_eq_true rfl, Nat.le_of_ble_eq_true rfl⟩ rfl rfl (Nat.le_of_ble_eq_true rfl) ⟨Nat.le_of_ble_eq_true rfl, Nat.le_of_ble_eq_true rfl⟩ (fun _ _ _ q => False.elim q) (fun r w1 sz1 hz hP => ?_)
        obtain ⟨rfl, rfl, rfl⟩ := hP
        refine x_st (st1 := [.int (nI (28 + 9 * i + 7)), .ref (g.2 0 + 258 + 1)]) (congrArg (fun z => Value.int z :: _) (at_nI 28 9 i 7)) ?_
        refine x_iald 0 28 C0 dX8_isWell_27 rfl MR_MW.r_v rfl (vp_in_nI (n := 28 + 9 * i + 7) (by omega) (by decide)) ?_
        refine x_st (st1 := [.int (v (28 + 9 * i + 7))]) (congrArg (fun z => Value.int z :: _) (show v (nI (28 + 9 * i + 7)).toNatClampNeg = v (28 + 9 * i + 7) from by rw [nI_clamp (by omega)])) ?_
        refine x_iconst (v := 1) 29 C0 dX8_isWell_28 rfl (by decide) ?_
        refine x_iconst (v := 2) 30 C0 dX8_isWell_29 rfl (by decide) ?_
        refine x_callS 33 C0 (k_X8_isIn l hl g _ _ (v (28 + 9 * i + 7)) 1 2) dX8_isWell_30 rfl mC_X8_isIn mM_X8_67 mS_X8_isIn mN_X8 yd_X8_isIn rfl rfl ⟨Nat.le_of_ble_eq_true rfl, Nat.le_of_ble_eq_true rfl⟩ rfl rfl (Nat.le_of_ble_eq_true rfl) ⟨Nat.le_of_ble_eq_true rfl, Nat.le_of_ble_eq_true rfl⟩ (fun _ _ _ q => False.elim q) (fun r w1 sz1 hz hP => ?_)
        obtain ⟨hr, rfl, rfl⟩ := hP
        rcases hr with ⟨rfl, ha7, hb7⟩ | ⟨rfl, hx7⟩
        · refine x_st (st1 := [.int 1]) rfl ?_
          refine x_istore_n [(2, .int 1), (0, .ref (g.2 0 + 258)), (1, .int (nI i))] 34 C0 dX8_isWell_33 rfl rfl (by decide) rfl ?_
          refine x_lv (lv1 := [(0, .ref (g.2 0 + 258)), (1, .int (nI i)), (2, .int 1)]) [1, 2, 0] rfl ?_
          refine x_iload_n 2 35 C0 dX8_isWell_34 rfl rfl rfl ?_
          refine x_if_eq 62 38 C0 dX8_isWell_35 rfl (by decide) (fun q => False.elim (by revert q; decide)) (fun _ => ?_)
          refine x_aload_n 0 39 C0 dX8_isWell_38 rfl rfl rfl ?_
          refine x_iload_n 1 40 C0 dX8_isWell_39 rfl rfl rfl ?_
          refine x_callV 43 C0 (k_X8_isTight l hl g _ _ n (upd t 0 0) v bf sv pa lb ip td sg MR_MW hJ1 i (by omega)) dX8_isWell_40 rfl mC_X8_isTight mM_X8_127 mI_X8_isTight mV_X8_isTight mN_X8 yd_X8_isTight rfl rfl ⟨Nat.le_of_ble_eq_true rfl, Nat.le_of_ble_eq_true rfl⟩ MR_MW.o rfl rfl rfl rfl (Nat.le_of_ble_eq_true rfl) ⟨Nat.le_of_ble_eq_true rfl, Nat.le_of_ble_eq_true rfl⟩ (fun _ _ _ q => False.elim q) (fun r w1 sz1 hz hP => ?_)
          obtain ⟨hR9, rfl, rfl⟩ := hP
          rcases hR9 with ⟨rfl, hq9⟩ | ⟨rfl, hq9⟩
          · refine x_st (st1 := [.int 1]) rfl ?_
            refine x_if_eq 60 46 C0 dX8_isWell_43 rfl (by decide) (fun q => False.elim (by revert q; decide)) (fun _ => ?_)
            refine x_aload_n 0 47 C0 dX8_isWell_46 rfl rfl rfl ?_
            refine x_getf (v := .ref (g.2 0 + 258 + 1)) 8 50 C0 dX8_isWell_47 rfl MR_MW.o rfl (by decide) inX8 mF_X8_7 rfl ?_
            refine x_iload_n 1 51 C0 dX8_isWell_50 rfl rfl rfl ?_
            refine x_bipush (v := 8) 53 C0 dX8_isWell_51 rfl (by decide) ?_
            refine x_callS 56 C0 (k_X8_at l hl g _ _ (nI i) 8) dX8_isWell_53 rfl mC_X8_at mM_X8_71 mS_X8_at mN_X8 yd_X8_at rfl rfl ⟨Nat.le_of_ble_eq_true rfl, Nat.le_of_ble_eq_true rfl⟩ rfl rfl (Nat.le_of_ble_eq_true rfl) ⟨Nat.le_of_ble_eq_true rfl, Nat.le_of_ble_eq_true rfl⟩ (fun _ _ _ q => False.elim q) (fun r w1 sz1 hz hP => ?_)
            obtain ⟨rfl, rfl, rfl⟩ := hP
            refine x_st (st1 := [.int (nI (28 + 9 * i + 8)), .ref (g.2 0 + 258 + 1)]) (congrArg (fun z => Value.int z :: _) (at_nI 28 9 i 8)) ?_
            refine x_iald 0 57 C0 dX8_isWell_56 rfl MR_MW.r_v rfl (vp_in_nI (n := 28 + 9 * i + 8) (by omega) (by decide)) ?_
            refine x_st (st1 := [.int (v (28 + 9 * i + 8))]) (congrArg (fun z => Value.int z :: _) (show v (nI (28 + 9 * i + 8)).toNatClampNeg = v (28 + 9 * i + 8) from by rw [nI_clamp (by omega)])) ?_
            refine x_if_ne 62 60 C0 dX8_isWell_57 rfl (by decide) (fun c11 => ?_) (fun c11 => ?_)
            · refine x_iinc [(1, .int (nI (i + 1))), (0, .ref (g.2 0 + 258)), (2, .int 1)] 1 65 C0 dX8_isWell_62 rfl rfl (nI_1 i) (by decide) rfl ?_
              refine x_lv (lv1 := [(0, .ref (g.2 0 + 258)), (1, .int (nI (i + 1))), (2, .int 1)]) [1, 0, 2] rfl ?_
              refine x_goto 7 C0 dX8_isWell_65 (by decide) ?_
              exact x_lv [0, 1] rfl (ih (i + 1) (by omega) (by omega) (fun j hj => (Nat.lt_succ_iff_lt_or_eq.mp hj).elim (hno j) (fun q => by rw [q]; exact fun h => h.2.elim (fun z => z hq9) c11)) (fun m hm9 hw9 => by have : m = nC2 := (nI_eq (by omega) (by omega)).mp (hw9.symm.trans hv32); omega))
            · refine x_iconst (v := 0) 61 C0 dX8_isWell_60 rfl (by decide) ?_
              exact x_ireturn C0 dX8_isWell_61 rfl rfl (Nat.le_of_ble_eq_true rfl) (Nat.le_of_ble_eq_true rfl) ⟨rfl, _, _, rfl, hJ1, (tL.rf.up (by decide)), ⟨nC2, hnC2, hv32, Or.inl ⟨⟨i, hi2, ⟨ha7, hb7⟩, Or.inr c11⟩, rfl⟩⟩⟩
          · refine x_st (st1 := [.int 0]) rfl ?_
            refine x_if_eq 60 46 C0 dX8_isWell_43 rfl (by decide) (fun _ => ?_) (fun q => False.elim (by revert q; decide))
            refine x_iconst (v := 0) 61 C0 dX8_isWell_60 rfl (by decide) ?_
            exact x_ireturn C0 dX8_isWell_61 rfl rfl (Nat.le_of_ble_eq_true rfl) (Nat.le_of_ble_eq_true rfl) ⟨rfl, _, _, rfl, hJ1, (tL.rf.up (by decide)), ⟨nC2, hnC2, hv32, Or.inl ⟨⟨i, hi2, ⟨ha7, hb7⟩, Or.inl hq9⟩, rfl⟩⟩⟩
        · refine x_st (st1 := [.int 0]) rfl ?_
          refine x_istore_n [(2, .int 0), (0, .ref (g.2 0 + 258)), (1, .int (nI i))] 34 C0 dX8_isWell_33 rfl rfl (by decide) rfl ?_
          refine x_lv (lv1 := [(0, .ref (g.2 0 + 258)), (1, .int (nI i)), (2, .int 0)]) [1, 2, 0] rfl ?_
          refine x_iload_n 2 35 C0 dX8_isWell_34 rfl rfl rfl ?_
          refine x_if_eq 62 38 C0 dX8_isWell_35 rfl (by decide) (fun _ => ?_) (fun q => False.elim (by revert q; decide))
          refine x_iinc [(1, .int (nI (i + 1))), (0, .ref (g.2 0 + 258)), (2, .int 0)] 1 65 C0 dX8_isWell_62 rfl rfl (nI_1 i) (by decide) rfl ?_
          refine x_lv (lv1 := [(0, .ref (g.2 0 + 258)), (1, .int (nI (i + 1))), (2, .int 0)]) [1, 0, 2] rfl ?_
          refine x_goto 7 C0 dX8_isWell_65 (by decide) ?_
          exact x_lv [0, 1] rfl (ih (i + 1) (by omega) (by omega) (fun j hj => (Nat.lt_succ_iff_lt_or_eq.mp hj).elim (hno j) (fun q => by rw [q]; exact fun h => hx7 h.1)) (fun m hm9 hw9 => by have : m = nC2 := (nI_eq (by omega) (by omega)).mp (hw9.symm.trans hv32); omega))
  exact x_lv [0, 1] rfl (loop7 (20 + 1) 0 (by omega) (by omega) (fun j hj => absurd hj (Nat.not_lt_zero j)) (fun m _ _ => Nat.zero_le m))

set_option maxHeartbeats 4000000 in
set_option maxRecDepth 100000 in
theorem f9_X7_isWell (l : Launch) (hl : l.stackTraces = false) (g : xg_T) (w : xw_T) (sz n : Nat) (x : Nat → Nat → Int32) (la : Nat → Nat → Nat) (t tt : Nat → Int32) (vb : Option Nat) (sg : Nat → Int32) (hC : CR g w sz n x la t tt vb sg) (ln : Nat → Nat) (lf : Nat → Nat → Int32) (hL : ∀ k, k < 20 → xTx g w sz (la 0 k) (ln k) (lf k)) : xM l g yX7_isWell cX7_isWell 2 (some .boolean) ({ frames := 4, cells := 8, slots := 64, locals := 88 }) 8 64 [.ref (g.2 0)] w sz (fPo g w sz n x la t tt vb sg (wellC (x 0) ln)) (fun _ _ _ => False) := by
  have hz9 := hC.zz
  refine xM.of RX7 hl (by decide +kernel) rfl (Nat.le_of_ble_eq_true rfl) rfl ?_
  intro p e s m args below meth cD C0 hini
  refine x_aload_n 0 1 C0 dX7_isWell_0 rfl rfl rfl ?_
  refine x_getf (v := .ref (g.2 0 + 1)) 0 4 C0 dX7_isWell_1 rfl hC.1.1 rfl (by decide) inX7 mF_X7_10 rfl ?_
  refine x_callV 7 C0 (k_X4_poundsStored l hl g _ _ _ _ _ hC.h0) dX7_isWell_4 rfl mC_X4_poundsStored mM_X7_210 mI_X4_poundsStored mV_X4_poundsStored mN_X4 yd_X4_poundsStored rfl rfl ⟨Nat.le_of_ble_eq_true rfl, Nat.le_of_ble_eq_true rfl⟩ (HR.ho hC.h0) rfl rfl rfl rfl (Nat.le_of_ble_eq_true rfl) ⟨Nat.le_of_ble_eq_true rfl, Nat.le_of_ble_eq_true rfl⟩ (fun _ _ _ q => False.elim q) (fun r w1 sz1 hz hP => ?_)
  obtain ⟨hr, rfl, rfl⟩ := hP
  obtain ⟨v1, rfl⟩ : ∃ v : Int32, r = some (.int v) := ⟨_, hr⟩
  have hr1 := hr
  refine x_st (st1 := [.int v1]) rfl ?_
  refine x_aload_n 0 8 C0 dX7_isWell_7 rfl rfl rfl ?_
  refine x_getf (v := .ref (g.2 0 + 1)) 0 11 C0 dX7_isWell_8 rfl hC.1.1 rfl (by decide) inX7 mF_X7_10 rfl ?_
  refine x_callV 14 C0 (k_X4_poundsInChests l hl g _ _ _ _ _ hC.h0) dX7_isWell_11 rfl mC_X4_poundsInChests mM_X7_213 mI_X4_poundsInChests mV_X4_poundsInChests mN_X4 yd_X4_poundsInChests rfl rfl ⟨Nat.le_of_ble_eq_true rfl, Nat.le_of_ble_eq_true rfl⟩ (HR.ho hC.h0) rfl rfl rfl rfl (Nat.le_of_ble_eq_true rfl) ⟨Nat.le_of_ble_eq_true rfl, Nat.le_of_ble_eq_true rfl⟩ (fun _ _ _ q => False.elim q) (fun r w1 sz1 hz hP => ?_)
  obtain ⟨hr, rfl, rfl⟩ := hP
  obtain ⟨v2, rfl⟩ : ∃ v : Int32, r = some (.int v) := ⟨_, hr⟩
  have hr2 := hr
  refine x_st (st1 := [.int v2, .int v1]) rfl ?_
  refine x_iadd 15 C0 dX7_isWell_14 rfl ?_
  refine x_aload_n 0 16 C0 dX7_isWell_15 rfl rfl rfl ?_
  refine x_getf (v := .ref (g.2 0 + 1)) 0 19 C0 dX7_isWell_16 rfl hC.1.1 rfl (by decide) inX7 mF_X7_10 rfl ?_
  refine x_getf (v := .int (x 0 7)) 10 22 C0 dX7_isWell_19 rfl (HR.ho hC.h0) rfl (by decide) inX4 mF_X7_216 rfl ?_
  refine x_iadd 23 C0 dX7_isWell_22 rfl ?_
  refine x_aload_n 0 24 C0 dX7_isWell_23 rfl rfl rfl ?_
  refine x_getf (v := .ref (g.2 0 + 1)) 0 27 C0 dX7_isWell_24 rfl hC.1.1 rfl (by decide) inX7 mF_X7_10 rfl ?_
  refine x_getf (v := .int (x 0 8)) 11 30 C0 dX7_isWell_27 rfl (HR.ho hC.h0) rfl (by decide) inX4 mF_X7_219 rfl ?_
  refine x_iadd 31 C0 dX7_isWell_30 rfl ?_
  refine x_istore_n [(1, .int (((v1 + v2) + (x 0 7)) + (x 0 8))), (0, .ref (g.2 0))] 32 C0 dX7_isWell_31 rfl rfl (by decide) rfl ?_
  refine x_lv (lv1 := [(0, .ref (g.2 0)), (1, .int (((v1 + v2) + (x 0 7)) + (x 0 8)))]) [1, 0] rfl ?_
  refine x_iload_n 1 33 C0 dX7_isWell_32 rfl rfl rfl ?_
  refine x_aload_n 0 34 C0 dX7_isWell_33 rfl rfl rfl ?_
  refine x_getf (v := .ref (g.2 0 + 1)) 0 37 C0 dX7_isWell_34 rfl hC.1.1 rfl (by decide) inX7 mF_X7_10 rfl ?_
  refine x_getf (v := .int (x 0 6)) 9 40 C0 dX7_isWell_37 rfl (HR.ho hC.h0) rfl (by decide) inX4 mF_X7_222 rfl ?_
  refine x_icmp_ne 57 43 C0 dX7_isWell_40 rfl (by decide) (fun c3 => ?_) (fun c3 => ?_)
  · refine x_iconst (v := 0) 58 C0 dX7_isWell_57 rfl (by decide) ?_
    exact x_ireturn C0 dX7_isWell_58 rfl (rfl) (Nat.le_of_ble_eq_true rfl) (Nat.le_of_ble_eq_true rfl) ⟨Or.inl ⟨by rw [← Value.int.inj (Option.some.inj hr1), ← Value.int.inj (Option.some.inj hr2)]; exact c3, rfl⟩, hC, xFr.rf, by omega⟩
  · refine x_aload_n 0 44 C0 dX7_isWell_43 rfl rfl rfl ?_
    refine x_getf (v := .ref (g.2 0 + 1)) 0 47 C0 dX7_isWell_44 rfl hC.1.1 rfl (by decide) inX7 mF_X7_10 rfl ?_
    refine x_callV 50 C0 (k_X4_isOutsideInOrder l hl g _ _ _ _ _ hC.h0 ln lf (by omega) hL) dX7_isWell_47 rfl mC_X4_isOutsideInOrder mM_X7_225 mI_X4_isOutsideInOrder mV_X4_isOutsideInOrder mN_X4 yd_X4_isOutsideInOrder rfl rfl ⟨Nat.le_of_ble_eq_true rfl, Nat.le_of_ble_eq_true rfl⟩ (HR.ho hC.h0) rfl rfl rfl rfl (Nat.le_of_ble_eq_true rfl) ⟨Nat.le_of_ble_eq_true rfl, Nat.le_of_ble_eq_true rfl⟩ (fun _ _ _ q => False.elim q) (fun r w1 sz1 hz hP => ?_)
    obtain ⟨hr0, rfl, rfl⟩ := hP
    have hr : ∃ b : Bool, r = some (.int (bi b)) := hr0.elim (fun q => ⟨true, q.1⟩) (fun q => ⟨false, q.1⟩)
    obtain ⟨b0, hr⟩ := hr
    obtain ⟨v5, rfl, hv5⟩ : ∃ v : Int32, r = some (.int v) ∧ isB v := ⟨_, hr, isB_bi _⟩
    have e1 := Value.int.inj (Option.some.inj hr1)
    have e2 := Value.int.inj (Option.some.inj hr2)
    refine x_st (st1 := [.int v5]) rfl ?_
    refine x_if_eq 57 53 C0 dX7_isWell_50 rfl (by decide) (fun c6 => ?_) (fun c6 => ?_)
    · refine x_iconst (v := 0) 58 C0 dX7_isWell_57 rfl (by decide) ?_
      exact x_ireturn C0 dX7_isWell_58 rfl (rfl) (Nat.le_of_ble_eq_true rfl) (Nat.le_of_ble_eq_true rfl) ⟨Or.inr (Or.inl ⟨hr0.elim (fun q => absurd ((Value.int.inj (Option.some.inj q.1)).symm.trans c6) (by decide)) (fun q => q.2), rfl⟩), hC, xFr.rf, by omega⟩
    · refine x_iconst (v := 1) 54 C0 dX7_isWell_53 rfl (by decide) ?_
      refine x_goto 58 C0 dX7_isWell_54 (by decide) ?_
      exact x_ireturn C0 dX7_isWell_58 rfl (rfl) (Nat.le_of_ble_eq_true rfl) (Nat.le_of_ble_eq_true rfl) ⟨Or.inr (Or.inr ⟨by rw [← e1, ← e2]; exact c3, hr0.elim (fun q => q.2) (fun q => absurd (Value.int.inj (Option.some.inj q.1)) c6), rfl⟩), hC, xFr.rf, by omega⟩

theorem rI7_isWell {x : Nat → Int32} {ln : Nat → Nat} {r : Option Value} (h : wellC x ln r) : ∃ z : Int32, r = some (.int z) := h.elim (fun q => ⟨_, q.2⟩) (fun q => q.elim (fun q => ⟨_, q.2⟩) (fun q => ⟨_, q.2.2⟩))
theorem rI8_isWell {v : Nat → Int32} {r : Option Value} (h : wellR v r) : ∃ z : Int32, r = some (.int z) := h.elim (fun m q => q.2.2.elim (fun q => ⟨_, q.2⟩) (fun q => q.elim (fun q => ⟨_, q.2.2⟩) (fun q => ⟨_, q.2.2⟩)))
theorem one_two {z : Int32} : (z = 1 ∨ z = 2) ↔ (1 ≤ z ∧ z ≤ 2) := by
  constructor
  · rintro (rfl | rfl) <;> decide
  · rintro ⟨h1, h2⟩
    have a1 := Int32.le_iff_toInt_le.mp h1
    have a2 := Int32.le_iff_toInt_le.mp h2
    have b1 : (1 : Int32).toInt = 1 := by decide
    have b2 : (2 : Int32).toInt = 2 := by decide
    rcases (show z.toInt = 1 ∨ z.toInt = 2 by omega) with h | h
    · exact Or.inl (Int32.toInt_inj.mp (h.trans b1.symm))
    · exact Or.inr (Int32.toInt_inj.mp (h.trans b2.symm))
theorem rd_isWell {x v : Nat → Int32} {ln : Nat → Nat} {lf : Nat → Nat → Int32} {r rm : Option Value} (hA : hAl x ln lf v) (hx : hok x) (hQ : wellR v rm) (hL : wellC x ln r) : r = rm := by
  obtain ⟨m, hm, e3, hQ⟩ := hQ
  have e3x : x 3 = nI m := (hA.1.at (q := 3) (by omega)).symm.trans e3
  have hS : sumR v m ↔ ((sAll x + packedN x 20) + x 7) + x 8 = x 6 := by
    unfold sumR
    rw [stored_eq hA.1, packed_eq hA.1 hm e3x, hA.1.at (q := 6) (by omega), hA.1.at (q := 7) (by omega), hA.1.at (q := 8) (by omega)]
    exact eq_comm
  have hO : ∀ i, i < m → (outBad x ln i ↔ outR v i) := fun i hi => by
    have hmi := hA.1.lt hm e3x hi
    unfold outBad outR
    rw [one_two, hA.1.row hmi (by omega) (j := 7) (by omega), tight_eq hA.1 hx hmi (by omega)]
    refine and_congr_right (fun _ => ?_)
    have hl := hA.2.ne hmi (show i < 20 by omega)
    constructor
    · intro h
      by_cases ht : cTight (row x i) = true
      · exact Or.inr (Classical.byContradiction (fun q => h ⟨ht, hl.mpr q⟩))
      · exact Or.inl ht
    · rintro (h | h) ⟨h1, h2⟩
      · exact h h1
      · exact hl.mp h2 h
  have hB : ∀ i, m ≤ i → i < 20 → ¬ outBad x ln i := fun i hi h20 h => by
    have hb := hA.1.blank hm e3x hi h20 (j := 7) (by omega)
    rcases h.1 with q | q
    · exact absurd (hb.symm.trans q) (by decide)
    · exact absurd (hb.symm.trans q) (by decide)
  rcases hQ with ⟨⟨i, hi, ho⟩, rfl⟩ | ⟨ho, hs, rfl⟩ | ⟨ho, hs, rfl⟩
  · rcases hL with ⟨-, rfl⟩ | ⟨-, rfl⟩ | ⟨-, q, rfl⟩
    · rfl
    · rfl
    · exact absurd ((hO i hi).mpr ho) (q i (by omega))
  · rcases hL with ⟨-, rfl⟩ | ⟨-, rfl⟩ | ⟨q, -, rfl⟩
    · rfl
    · rfl
    · exact absurd (hS.mpr q) hs
  · rcases hL with ⟨q, rfl⟩ | ⟨⟨i, hi, q⟩, rfl⟩ | ⟨-, -, rfl⟩
    · exact absurd (hS.mp hs) q
    · rcases Nat.lt_or_ge i m with h | h
      · exact absurd ((hO i h).mp q) (ho i h)
      · exact absurd q (hB i h hi)
    · rfl

def aheadB (v : Nat → Int32) (a b : Nat) : Bool := decide ((¬ rWorth v a - rWorth v b = 0 ∧ 0 < rWorth v a - rWorth v b) ∨ (rWorth v a - rWorth v b = 0 ∧ (0 < v (28 + 9 * b + 6) - v (28 + 9 * a + 6) ∨ (v (28 + 9 * b + 6) - v (28 + 9 * a + 6) = 0 ∧ a < b))))
def cntQ (v : Nat → Int32) (c q : Nat) : Bool := !decide (q = c) && (!decide (v (28 + 9 * q + 7) = 3) && aheadB v q c)
def cntR (v : Nat → Int32) (c n : Nat) : Int32 := hFold (cntQ v c) (fun _ => 1) n
theorem cnt_no {v : Nat → Int32} {c n : Nat} (h : cntQ v c n = false) : cntR v c n + 0 = cntR v c (n + 1) := by
  rw [Int32.add_zero]
  show _ = hFold _ _ (n + 1)
  rw [hFold, h]
  rfl
theorem cnt_yes {v : Nat → Int32} {c n : Nat} (h : cntQ v c n = true) : cntR v c n + 1 = cntR v c (n + 1) := by
  show _ = hFold _ _ (n + 1)
  rw [hFold, h]
  rfl
def isPR (v : Nat → Int32) (pl : Int32) (m c : Nat) : Prop := ¬ v (28 + 9 * c + 7) = 3 ∧ cntR v c m = pl
def Q_X8_ranked (n : Nat) (t v : Nat → Int32) (pl : Int32) (r : Option Value) (z : Int32) : Prop := ∃ m : Nat, m ≤ 20 ∧ v 3 = nI m ∧ ((∃ c, c < m ∧ isPR v pl m c ∧ (∀ j, j < c → ¬ isPR v pl m j) ∧ z = 0 ∧ r = some (.int (nI c))) ∨ ((∀ j, j < m → ¬ isPR v pl m j) ∧ z = 1 ∧ r = some (.int 0)))
set_option maxHeartbeats 4000000 in
set_option maxRecDepth 100000 in
theorem e_X8_isAhead (l : Launch) (hl : l.stackTraces = false) (g : xg_T) (w : xw_T) (sz n : Nat) (t v bf sv pa lb ip td sg : Nat → Int32) (hM : MR g w t v bf sv pa lb ip td sg) (hJ : MJ n t v bf sv pa sg) (ka kb : Nat) (hka : ka < 20) (hkb : kb < 20) : xM l g yX8_isAhead cX8_isAhead 4 (some .boolean) ({ frames := 2, cells := 0, slots := 0, locals := 43 }) 0 0 [.ref (g.2 0 + 258), .int (nI ka), .int (nI kb)] w sz (fun r w1 sz1 => ((r = some (.int 1) ∧ aheadB v ka kb = true) ∨ (r = some (.int 0) ∧ aheadB v ka kb = false)) ∧ w = w1 ∧ sz = sz1) (fun _ _ _ => False) := by
  refine xM.of RX8 hl (by decide +kernel) rfl (Nat.le_of_ble_eq_true rfl) rfl ?_
  intro p e s m args below meth cD C0 hini
  refine x_aload_n 0 1 C0 dX8_isAhead_0 rfl rfl rfl ?_
  refine x_iload_n 1 2 C0 dX8_isAhead_1 rfl rfl rfl ?_
  refine x_callV 5 C0 (k_X8_worthOf l hl g _ _ n t v bf sv pa lb ip td sg hM hJ ka (by omega)) dX8_isAhead_2 rfl mC_X8_worthOf mM_X8_149 mI_X8_worthOf mV_X8_worthOf mN_X8 yd_X8_worthOf rfl rfl ⟨Nat.le_of_ble_eq_true rfl, Nat.le_of_ble_eq_true rfl⟩ hM.o rfl rfl rfl rfl (Nat.le_of_ble_eq_true rfl) ⟨Nat.le_of_ble_eq_true rfl, Nat.le_of_ble_eq_true rfl⟩ (fun _ _ _ q => False.elim q) (fun r w1 sz1 hz hP => ?_)
  obtain ⟨rfl, rfl, rfl⟩ := hP
  refine x_st (st1 := [.int (rWorth v ka)]) rfl ?_
  refine x_aload_n 0 6 C0 dX8_isAhead_5 rfl rfl rfl ?_
  refine x_iload_n 2 7 C0 dX8_isAhead_6 rfl rfl rfl ?_
  refine x_callV 10 C0 (k_X8_worthOf l hl g _ _ n t v bf sv pa lb ip td sg hM hJ kb (by omega)) dX8_isAhead_7 rfl mC_X8_worthOf mM_X8_149 mI_X8_worthOf mV_X8_worthOf mN_X8 yd_X8_worthOf rfl rfl ⟨Nat.le_of_ble_eq_true rfl, Nat.le_of_ble_eq_true rfl⟩ hM.o rfl rfl rfl rfl (Nat.le_of_ble_eq_true rfl) ⟨Nat.le_of_ble_eq_true rfl, Nat.le_of_ble_eq_true rfl⟩ (fun _ _ _ q => False.elim q) (fun r w1 sz1 hz hP => ?_)
  obtain ⟨rfl, rfl, rfl⟩ := hP
  refine x_st (st1 := [.int (rWorth v kb), .int (rWorth v ka)]) rfl ?_
  refine x_isub 11 C0 dX8_isAhead_10 rfl ?_
  refine x_istore_n [(3, .int ((rWorth v ka) - (rWorth v kb))), (0, .ref (g.2 0 + 258)), (1, .int (nI ka)), (2, .int (nI kb))] 12 C0 dX8_isAhead_11 rfl rfl (by decide) rfl ?_
  refine x_lv (lv1 := [(0, .ref (g.2 0 + 258)), (1, .int (nI ka)), (2, .int (nI kb)), (3, .int ((rWorth v ka) - (rWorth v kb)))]) [1, 2, 3, 0] rfl ?_
  refine x_iload_n 3 13 C0 dX8_isAhead_12 rfl rfl rfl ?_
  refine x_if_eq 26 16 C0 dX8_isAhead_13 rfl (by decide) (fun c1 => ?_) (fun c1 => ?_)
  · refine x_aload_n 0 27 C0 dX8_isAhead_26 rfl rfl rfl ?_
    refine x_getf (v := .ref (g.2 0 + 258 + 1)) 8 30 C0 dX8_isAhead_27 rfl hM.o rfl (by decide) inX8 mF_X8_7 rfl ?_
    refine x_iload_n 2 31 C0 dX8_isAhead_30 rfl rfl rfl ?_
    refine x_bipush (v := 6) 33 C0 dX8_isAhead_31 rfl (by decide) ?_
    refine x_callS 36 C0 (k_X8_at l hl g _ _ (nI kb) 6) dX8_isAhead_33 rfl mC_X8_at mM_X8_71 mS_X8_at mN_X8 yd_X8_at rfl rfl ⟨Nat.le_of_ble_eq_true rfl, Nat.le_of_ble_eq_true rfl⟩ rfl rfl (Nat.le_of_ble_eq_true rfl) ⟨Nat.le_of_ble_eq_true rfl, Nat.le_of_ble_eq_true rfl⟩ (fun _ _ _ q => False.elim q) (fun r w1 sz1 hz hP => ?_)
    obtain ⟨rfl, rfl, rfl⟩ := hP
    refine x_st (st1 := [.int (nI (28 + 9 * kb + 6)), .ref (g.2 0 + 258 + 1)]) (congrArg (fun z => Value.int z :: _) (at_nI 28 9 kb 6)) ?_
    refine x_iald 0 37 C0 dX8_isAhead_36 rfl hM.r_v rfl (vp_in_nI (n := 28 + 9 * kb + 6) (by omega) (by decide)) ?_
    refine x_st (st1 := [.int (v (28 + 9 * kb + 6))]) (congrArg (fun z => Value.int z :: _) (show v (nI (28 + 9 * kb + 6)).toNatClampNeg = v (28 + 9 * kb + 6) from by rw [nI_clamp (by omega)])) ?_
    refine x_aload_n 0 38 C0 dX8_isAhead_37 rfl rfl rfl ?_
    refine x_getf (v := .ref (g.2 0 + 258 + 1)) 8 41 C0 dX8_isAhead_38 rfl hM.o rfl (by decide) inX8 mF_X8_7 rfl ?_
    refine x_iload_n 1 42 C0 dX8_isAhead_41 rfl rfl rfl ?_
    refine x_bipush (v := 6) 44 C0 dX8_isAhead_42 rfl (by decide) ?_
    refine x_callS 47 C0 (k_X8_at l hl g _ _ (nI ka) 6) dX8_isAhead_44 rfl mC_X8_at mM_X8_71 mS_X8_at mN_X8 yd_X8_at rfl rfl ⟨Nat.le_of_ble_eq_true rfl, Nat.le_of_ble_eq_true rfl⟩ rfl rfl (Nat.le_of_ble_eq_true rfl) ⟨Nat.le_of_ble_eq_true rfl, Nat.le_of_ble_eq_true rfl⟩ (fun _ _ _ q => False.elim q) (fun r w1 sz1 hz hP => ?_)
    obtain ⟨rfl, rfl, rfl⟩ := hP
    refine x_st (st1 := [.int (nI (28 + 9 * ka + 6)), .ref (g.2 0 + 258 + 1), .int (v (28 + 9 * kb + 6))]) (congrArg (fun z => Value.int z :: _) (at_nI 28 9 ka 6)) ?_
    refine x_iald 0 48 C0 dX8_isAhead_47 rfl hM.r_v rfl (vp_in_nI (n := 28 + 9 * ka + 6) (by omega) (by decide)) ?_
    refine x_st (st1 := [.int (v (28 + 9 * ka + 6)), .int (v (28 + 9 * kb + 6))]) (congrArg (fun z => Value.int z :: _) (show v (nI (28 + 9 * ka + 6)).toNatClampNeg = v (28 + 9 * ka + 6) from by rw [nI_clamp (by omega)])) ?_
    refine x_isub 49 C0 dX8_isAhead_48 rfl ?_
    refine x_istore_n [(3, .int ((v (28 + 9 * kb + 6)) - (v (28 + 9 * ka + 6)))), (0, .ref (g.2 0 + 258)), (1, .int (nI ka)), (2, .int (nI kb))] 50 C0 dX8_isAhead_49 rfl rfl (by decide) rfl ?_
    refine x_lv (lv1 := [(0, .ref (g.2 0 + 258)), (1, .int (nI ka)), (2, .int (nI kb)), (3, .int ((v (28 + 9 * kb + 6)) - (v (28 + 9 * ka + 6))))]) [1, 2, 3, 0] rfl ?_
    refine x_iload_n 3 51 C0 dX8_isAhead_50 rfl rfl rfl ?_
    refine x_if_gt 63 54 C0 dX8_isAhead_51 rfl (by decide) (fun c2 => ?_) (fun c2 => ?_)
    · have c2' := Int32.not_le.mpr c2
      refine x_iconst (v := 1) 64 C0 dX8_isAhead_63 rfl (by decide) ?_
      refine x_goto 68 C0 dX8_isAhead_64 (by decide) ?_
      exact x_ireturn C0 dX8_isAhead_68 rfl rfl (Nat.le_of_ble_eq_true rfl) (Nat.le_of_ble_eq_true rfl) ⟨Or.inl ⟨rfl, decide_eq_true (Or.inr ⟨c1, Or.inl c2⟩)⟩, rfl, rfl⟩
    · have c2' := Int32.not_lt.mp c2
      refine x_iload_n 3 55 C0 dX8_isAhead_54 rfl rfl rfl ?_
      refine x_if_ne 67 58 C0 dX8_isAhead_55 rfl (by decide) (fun c3 => ?_) (fun c3 => ?_)
      · refine x_iconst (v := 0) 68 C0 dX8_isAhead_67 rfl (by decide) ?_
        exact x_ireturn C0 dX8_isAhead_68 rfl rfl (Nat.le_of_ble_eq_true rfl) (Nat.le_of_ble_eq_true rfl) ⟨Or.inr ⟨rfl, decide_eq_false (fun h => h.elim (fun q => q.1 c1) (fun q => q.2.elim (fun z => c2 z) (fun z => c3 z.1)))⟩, rfl, rfl⟩
      · refine x_iload_n 1 59 C0 dX8_isAhead_58 rfl rfl rfl ?_
        refine x_iload_n 2 60 C0 dX8_isAhead_59 rfl rfl rfl ?_
        refine x_icmp_ge 67 63 C0 dX8_isAhead_60 rfl (by decide) (fun c4 => ?_) (fun c4 => ?_)
        · have c4' := Int32.not_lt.mpr c4
          refine x_iconst (v := 0) 68 C0 dX8_isAhead_67 rfl (by decide) ?_
          exact x_ireturn C0 dX8_isAhead_68 rfl rfl (Nat.le_of_ble_eq_true rfl) (Nat.le_of_ble_eq_true rfl) ⟨Or.inr ⟨rfl, decide_eq_false (fun h => h.elim (fun q => q.1 c1) (fun q => q.2.elim (fun z => c2 z) (fun z => Nat.not_lt.mpr ((nI_leI (by omega) (by omega)).mp c4) z.2)))⟩, rfl, rfl⟩
        · have c4' := Int32.not_le.mp c4
          refine x_iconst (v := 1) 64 C0 dX8_isAhead_63 rfl (by decide) ?_
          refine x_goto 68 C0 dX8_isAhead_64 (by decide) ?_
          exact x_ireturn C0 dX8_isAhead_68 rfl rfl (Nat.le_of_ble_eq_true rfl) (Nat.le_of_ble_eq_true rfl) ⟨Or.inl ⟨rfl, decide_eq_true (Or.inr ⟨c1, Or.inr ⟨c3, Nat.lt_of_not_le (fun z => c4 (nI_le (a := kb) z (by omega)))⟩⟩)⟩, rfl, rfl⟩
  · refine x_iload_n 3 17 C0 dX8_isAhead_16 rfl rfl rfl ?_
    refine x_if_le 24 20 C0 dX8_isAhead_17 rfl (by decide) (fun c5 => ?_) (fun c5 => ?_)
    · have c5' := Int32.not_lt.mpr c5
      refine x_iconst (v := 0) 25 C0 dX8_isAhead_24 rfl (by decide) ?_
      exact x_ireturn C0 dX8_isAhead_25 rfl rfl (Nat.le_of_ble_eq_true rfl) (Nat.le_of_ble_eq_true rfl) ⟨Or.inr ⟨rfl, decide_eq_false (fun h => h.elim (fun q => Int32.not_lt.mpr c5 q.2) (fun q => c1 q.1))⟩, rfl, rfl⟩
    · have c5' := Int32.not_le.mp c5
      refine x_iconst (v := 1) 21 C0 dX8_isAhead_20 rfl (by decide) ?_
      refine x_goto 25 C0 dX8_isAhead_21 (by decide) ?_
      exact x_ireturn C0 dX8_isAhead_25 rfl rfl (Nat.le_of_ble_eq_true rfl) (Nat.le_of_ble_eq_true rfl) ⟨Or.inl ⟨rfl, decide_eq_true (Or.inl ⟨c1, Int32.not_le.mp c5⟩)⟩, rfl, rfl⟩

set_option maxHeartbeats 4000000 in
set_option maxRecDepth 100000 in
theorem e_X8_ranked (l : Launch) (hl : l.stackTraces = false) (g : xg_T) (w : xw_T) (sz n : Nat) (t v bf sv pa lb ip td sg : Nat → Int32) (hM : MR g w t v bf sv pa lb ip td sg) (hJ : MJ n t v bf sv pa sg) (pl : Int32) : xM l g yX8_ranked cX8_ranked 5 (some .int) ({ frames := 3, cells := 0, slots := 0, locals := 66 }) 0 0 [.ref (g.2 0 + 258), .int pl] w sz (mRd g w sz n t v bf sv pa ip td sg (fun r z => (∃ q : Int32, r = some (.int q)) ∧ Q_X8_ranked n t v pl r z)) (fun _ _ _ => False) := by
  refine xM.of RX8 hl (by decide +kernel) rfl (Nat.le_of_ble_eq_true rfl) rfl ?_
  intro p e s m args below meth cD C0 hini
  refine x_aload_n 0 1 C0 dX8_ranked_0 rfl rfl rfl ?_
  refine x_iconst (v := 0) 2 C0 dX8_ranked_1 rfl (by decide) ?_
  refine x_w (MW_self hM) ?_
  refine x_putf 0 5 C0 dX8_ranked_2 rfl MR_MW.o (by show g.2 0 ≤ _; omega) rfl (by decide) inX8 tyX8_ok nmX8 mF_X8_34 rfl rfl rfl rfl (Nat.le_of_ble_eq_true rfl) ?_
  refine x_w (w1 := (MW g w (upd t 0 0) v bf sv pa lb ip td sg)) (MW_o rfl) ?_
  have hJ1 : MJ n (upd t 0 0) v bf sv pa sg := hJ.j_t (by decide)
  refine x_iconst (v := 0) 6 C0 dX8_ranked_5 rfl (by decide) ?_
  refine x_istore_n [(2, .int 0), (0, .ref (g.2 0 + 258)), (1, .int pl)] 7 C0 dX8_ranked_6 rfl rfl (by decide) rfl ?_
  refine x_lv (lv1 := [(0, .ref (g.2 0 + 258)), (1, .int pl), (2, .int 0)]) [1, 2, 0] rfl ?_
  have loop7 : ∀ (N i : Nat), i ≤ 20 → 20 - i < N → (∀ m, m ≤ 20 → v 3 = nI m → i ≤ m ∧ ∀ j, j < i → ¬ isPR v pl m j) → xV p l e ({ frames := 3, cells := 0, slots := 0, locals := 66 }) s m args below meth cD (xQ g below (mRd g w sz n t v bf sv pa ip td sg (fun r z => (∃ q : Int32, r = some (.int q)) ∧ Q_X8_ranked n t v pl r z)) (fun _ _ _ => False) args s 0 0) g 5 (MW g w (upd t 0 0) v bf sv pa lb ip td sg) sz (0) (0) 7 [(0, .ref (g.2 0 + 258)), (1, .int pl), (2, .int (nI i))] [] := by
    intro N
    induction N with
    | zero => intro i h1 h2; omega
    | succ N ih =>
      intro i hi hN him
      refine x_iload_n 2 8 C0 dX8_ranked_7 rfl rfl rfl ?_
      refine x_aload_n 0 9 C0 dX8_ranked_8 rfl rfl rfl ?_
      refine x_getf (v := .ref (g.2 0 + 258 + 1)) 8 12 C0 dX8_ranked_9 rfl MR_MW.o rfl (by decide) inX8 mF_X8_7 rfl ?_
      refine x_iconst (v := 3) 13 C0 dX8_ranked_12 rfl (by decide) ?_
      refine x_iald 0 14 C0 dX8_ranked_13 rfl MR_MW.r_v rfl (vp_in_nI (n := 3) (by decide) (by decide)) ?_
      refine x_st (st1 := [.int (v 3), .int (nI i)]) (congrArg (fun z => Value.int z :: _) (show v (nI 3).toNatClampNeg = v 3 from by rw [nI_clamp (by omega)])) ?_
      obtain ⟨nC2, hnC2, hv32⟩ := hJ1.1.n
      obtain ⟨hin, hno⟩ := him nC2 hnC2 hv32
      have hun : ∀ m, m ≤ 20 → v 3 = nI m → m = nC2 := fun m h1 h2 => (nI_eq (by omega) (by omega)).mp (h2.symm.trans hv32)
      refine x_st (st1 := [.int (nI nC2), .int (nI i)]) (congrArg (fun z => Value.int z :: _) (hv32)) ?_
      refine x_icmp_ge 110 17 C0 dX8_ranked_14 rfl (by decide) (fun c3 => ?_) (fun c3 => ?_)
      · refine x_aload_n 0 111 C0 dX8_ranked_110 rfl rfl rfl ?_
        refine x_iconst (v := 1) 112 C0 dX8_ranked_111 rfl (by decide) ?_
        refine x_callV 115 C0 (k_X8_no l hl g _ _ n (upd t 0 0) v bf sv pa lb ip td sg MR_MW hJ1 1) dX8_ranked_112 rfl mC_X8_no mM_X8_61 mI_X8_no mV_X8_no mN_X8 yd_X8_no rfl rfl ⟨Nat.le_of_ble_eq_true rfl, Nat.le_of_ble_eq_true rfl⟩ MR_MW.o rfl rfl rfl rfl (Nat.le_of_ble_eq_true rfl) ⟨Nat.le_of_ble_eq_true rfl, Nat.le_of_ble_eq_true rfl⟩ (fun _ _ _ q => False.elim q) (fun r w1 sz1 hz hP => ?_)
        obtain ⟨rfl, rfl, rfl⟩ := hP
        refine x_w MW_MW ?_
        have hJ4 : MJ n (upd (upd t 0 0) 0 1) v bf sv pa sg := (hJ1.j_t (by decide))
        refine x_st (st1 := [.int 0]) rfl ?_
        exact x_ireturn C0 dX8_ranked_115 rfl rfl (Nat.le_of_ble_eq_true rfl) (Nat.le_of_ble_eq_true rfl) ⟨rfl, _, _, rfl, hJ4, ((tL.rf.up (by decide)).up (by decide)), ⟨⟨_, rfl⟩, nC2, hnC2, hv32, Or.inr ⟨fun j hj => hno j (by have := (nI_leI (a := nC2) (b := i) (by omega) (by omega)).mp c3; omega), rfl, rfl⟩⟩⟩
      · have hi2 : i < nC2 := Nat.lt_of_not_le (fun z => c3 (nI_le (a := nC2) z (by omega)))
        refine x_aload_n 0 18 C0 dX8_ranked_17 rfl rfl rfl ?_
        refine x_getf (v := .ref (g.2 0 + 258 + 1)) 8 21 C0 dX8_ranked_18 rfl MR_MW.o rfl (by decide) inX8 mF_X8_7 rfl ?_
        refine x_iload_n 2 22 C0 dX8_ranked_21 rfl rfl rfl ?_
        refine x_bipush (v := 7) 24 C0 dX8_ranked_22 rfl (by decide) ?_
        refine x_callS 27 C0 (k_X8_at l hl g _ _ (nI i) 7) dX8_ranked_24 rfl mC_X8_at mM_X8_71 mS_X8_at mN_X8 yd_X8_at rfl rfl ⟨Nat.le_of_ble_eq_true rfl, Nat.le_of_ble_eq_true rfl⟩ rfl rfl (Nat.le_of_ble_eq_true rfl) ⟨Nat.le_of_ble_eq_true rfl, Nat.le_of_ble_eq_true rfl⟩ (fun _ _ _ q => False.elim q) (fun r w1 sz1 hz hP => ?_)
        obtain ⟨rfl, rfl, rfl⟩ := hP
        refine x_st (st1 := [.int (nI (28 + 9 * i + 7)), .ref (g.2 0 + 258 + 1)]) (congrArg (fun z => Value.int z :: _) (at_nI 28 9 i 7)) ?_
        refine x_iald 0 28 C0 dX8_ranked_27 rfl MR_MW.r_v rfl (vp_in_nI (n := 28 + 9 * i + 7) (by omega) (by decide)) ?_
        refine x_st (st1 := [.int (v (28 + 9 * i + 7))]) (congrArg (fun z => Value.int z :: _) (show v (nI (28 + 9 * i + 7)).toNatClampNeg = v (28 + 9 * i + 7) from by rw [nI_clamp (by omega)])) ?_
        refine x_iconst (v := 3) 29 C0 dX8_ranked_28 rfl (by decide) ?_
        refine x_icmp_ne 35 32 C0 dX8_ranked_29 rfl (by decide) (fun c5 => ?_) (fun c5 => ?_)
        · refine x_iconst (v := 0) 36 C0 dX8_ranked_35 rfl (by decide) ?_
          refine x_istore_n [(3, .int 0), (0, .ref (g.2 0 + 258)), (1, .int pl), (2, .int (nI i))] 37 C0 dX8_ranked_36 rfl rfl (by decide) rfl ?_
          refine x_lv (lv1 := [(0, .ref (g.2 0 + 258)), (1, .int pl), (2, .int (nI i)), (3, .int 0)]) [1, 2, 3, 0] rfl ?_
          refine x_iconst (v := 0) 38 C0 dX8_ranked_37 rfl (by decide) ?_
          refine x_istore [(4, .int 0), (0, .ref (g.2 0 + 258)), (1, .int pl), (2, .int (nI i)), (3, .int 0)] 40 C0 dX8_ranked_38 rfl (by decide) rfl ?_
          refine x_lv (lv1 := [(0, .ref (g.2 0 + 258)), (1, .int pl), (2, .int (nI i)), (3, .int 0), (4, .int 0)]) [1, 2, 3, 4, 0] rfl ?_
          have loop40 : ∀ (Nj ij : Nat) (ac : Int32), ij ≤ 20 → 20 - ij < Nj → ij ≤ nC2 → ac = cntR v i ij → xV p l e ({ frames := 3, cells := 0, slots := 0, locals := 66 }) s m args below meth cD (xQ g below (mRd g w sz n t v bf sv pa ip td sg (fun r z => (∃ q : Int32, r = some (.int q)) ∧ Q_X8_ranked n t v pl r z)) (fun _ _ _ => False) args s 0 0) g 5 (MW g w (upd t 0 0) v bf sv pa lb ip td sg) sz (0 + 0) (0 + 0) 40 [(0, .ref (g.2 0 + 258)), (1, .int pl), (2, .int (nI i)), (3, .int ac), (4, .int (nI ij))] [] := by
            intro Nj
            induction Nj with
            | zero => intro ij ac h1 h2; omega
            | succ Nj ihj =>
              intro ij ac hij hNj hijn hac
              refine x_iload 4 42 C0 dX8_ranked_40 rfl rfl ?_
              refine x_aload_n 0 43 C0 dX8_ranked_42 rfl rfl rfl ?_
              refine x_getf (v := .ref (g.2 0 + 258 + 1)) 8 46 C0 dX8_ranked_43 rfl MR_MW.o rfl (by decide) inX8 mF_X8_7 rfl ?_
              refine x_iconst (v := 3) 47 C0 dX8_ranked_46 rfl (by decide) ?_
              refine x_iald 0 48 C0 dX8_ranked_47 rfl MR_MW.r_v rfl (vp_in_nI (n := 3) (by decide) (by decide)) ?_
              refine x_st (st1 := [.int (v 3), .int (nI ij)]) (congrArg (fun z => Value.int z :: _) (show v (nI 3).toNatClampNeg = v 3 from by rw [nI_clamp (by omega)])) ?_
              refine x_st (st1 := [.int (nI nC2), .int (nI ij)]) (congrArg (fun z => Value.int z :: _) (hv32)) ?_
              refine x_icmp_ge 97 51 C0 dX8_ranked_48 rfl (by decide) (fun c6 => ?_) (fun c6 => ?_)
              · refine x_iload_n 3 98 C0 dX8_ranked_97 rfl rfl rfl ?_
                refine x_iload_n 1 99 C0 dX8_ranked_98 rfl rfl rfl ?_
                refine x_icmp_ne 104 102 C0 dX8_ranked_99 rfl (by decide) (fun c7 => ?_) (fun c7 => ?_)
                · refine x_iinc [(2, .int (nI (i + 1))), (0, .ref (g.2 0 + 258)), (1, .int pl), (3, .int ac), (4, .int (nI ij))] 2 107 C0 dX8_ranked_104 rfl rfl (nI_1 i) (by decide) rfl ?_
                  refine x_lv (lv1 := [(0, .ref (g.2 0 + 258)), (1, .int pl), (2, .int (nI (i + 1))), (3, .int ac), (4, .int (nI ij))]) [1, 2, 0, 3, 4] rfl ?_
                  refine x_goto 7 C0 dX8_ranked_107 (by decide) ?_
                  exact x_lv [0, 1, 2] rfl (ih (i + 1) (by omega) (by omega) (fun m h1 h2 => by obtain rfl := hun m h1 h2; exact ⟨by omega, fun j hj => (Nat.lt_succ_iff_lt_or_eq.mp hj).elim (hno j) (fun q => by rw [q]; exact fun h => c7 (hac.trans (by rw [← h.2]; exact congrArg (cntR v i) (Nat.le_antisymm hijn ((nI_leI (by omega) (by omega)).mp c6)))))⟩))
                · refine x_iload_n 2 103 C0 dX8_ranked_102 rfl rfl rfl ?_
                  exact x_ireturn C0 dX8_ranked_103 rfl rfl (Nat.le_of_ble_eq_true rfl) (Nat.le_of_ble_eq_true rfl) ⟨rfl, _, _, rfl, hJ1, (tL.rf.up (by decide)), ⟨⟨_, rfl⟩, nC2, hnC2, hv32, Or.inl ⟨i, hi2, ⟨c5, by rw [← c7, hac, (show ij = nC2 from Nat.le_antisymm hijn ((nI_leI (by omega) (by omega)).mp c6))]⟩, hno, rfl, rfl⟩⟩⟩
              · have hi2j : ij < nC2 := Nat.lt_of_not_le (fun z => c6 (nI_le (a := nC2) z (by omega)))
                refine x_iload_n 3 52 C0 dX8_ranked_51 rfl rfl rfl ?_
                refine x_iload 4 54 C0 dX8_ranked_52 rfl rfl ?_
                refine x_iload_n 2 55 C0 dX8_ranked_54 rfl rfl rfl ?_
                refine x_icmp_eq 88 58 C0 dX8_ranked_55 rfl (by decide) (fun c8 => ?_) (fun c8 => ?_)
                · refine x_iconst (v := 0) 89 C0 dX8_ranked_88 rfl (by decide) ?_
                  refine x_iadd 90 C0 dX8_ranked_89 rfl ?_
                  refine x_istore_n [(3, .int (ac + 0)), (0, .ref (g.2 0 + 258)), (1, .int pl), (2, .int (nI i)), (4, .int (nI ij))] 91 C0 dX8_ranked_90 rfl rfl (by decide) rfl ?_
                  refine x_lv (lv1 := [(0, .ref (g.2 0 + 258)), (1, .int pl), (2, .int (nI i)), (3, .int (ac + 0)), (4, .int (nI ij))]) [1, 2, 3, 0, 4] rfl ?_
                  refine x_iinc [(4, .int (nI (ij + 1))), (0, .ref (g.2 0 + 258)), (1, .int pl), (2, .int (nI i)), (3, .int (ac + 0))] 4 94 C0 dX8_ranked_91 rfl rfl (nI_1 ij) (by decide) rfl ?_
                  refine x_lv (lv1 := [(0, .ref (g.2 0 + 258)), (1, .int pl), (2, .int (nI i)), (3, .int (ac + 0)), (4, .int (nI (ij + 1)))]) [1, 2, 3, 4, 0] rfl ?_
                  refine x_goto 40 C0 dX8_ranked_94 (by decide) ?_
                  exact x_lv [0, 1, 2, 3, 4] rfl (ihj (ij + 1) _ (by omega) (by omega) (by omega) (by rw [hac]; exact cnt_no (by unfold cntQ; rw [decide_eq_true ((nI_eq (by omega) (by omega)).mp c8)]; rfl)))
                · refine x_aload_n 0 59 C0 dX8_ranked_58 rfl rfl rfl ?_
                  refine x_getf (v := .ref (g.2 0 + 258 + 1)) 8 62 C0 dX8_ranked_59 rfl MR_MW.o rfl (by decide) inX8 mF_X8_7 rfl ?_
                  refine x_iload 4 64 C0 dX8_ranked_62 rfl rfl ?_
                  refine x_bipush (v := 7) 66 C0 dX8_ranked_64 rfl (by decide) ?_
                  refine x_callS 69 C0 (k_X8_at l hl g _ _ (nI ij) 7) dX8_ranked_66 rfl mC_X8_at mM_X8_71 mS_X8_at mN_X8 yd_X8_at rfl rfl ⟨Nat.le_of_ble_eq_true rfl, Nat.le_of_ble_eq_true rfl⟩ rfl rfl (Nat.le_of_ble_eq_true rfl) ⟨Nat.le_of_ble_eq_true rfl, Nat.le_of_ble_eq_true rfl⟩ (fun _ _ _ q => False.elim q) (fun r w1 sz1 hz hP => ?_)
                  obtain ⟨rfl, rfl, rfl⟩ := hP
                  refine x_st (st1 := [.int (nI (28 + 9 * ij + 7)), .ref (g.2 0 + 258 + 1), .int ac]) (congrArg (fun z => Value.int z :: _) (at_nI 28 9 ij 7)) ?_
                  refine x_iald 0 70 C0 dX8_ranked_69 rfl MR_MW.r_v rfl (vp_in_nI (n := 28 + 9 * ij + 7) (by omega) (by decide)) ?_
                  refine x_st (st1 := [.int (v (28 + 9 * ij + 7)), .int ac]) (congrArg (fun z => Value.int z :: _) (show v (nI (28 + 9 * ij + 7)).toNatClampNeg = v (28 + 9 * ij + 7) from by rw [nI_clamp (by omega)])) ?_
                  refine x_iconst (v := 3) 71 C0 dX8_ranked_70 rfl (by decide) ?_
                  refine x_icmp_eq 88 74 C0 dX8_ranked_71 rfl (by decide) (fun c9 => ?_) (fun c9 => ?_)
                  · refine x_iconst (v := 0) 89 C0 dX8_ranked_88 rfl (by decide) ?_
                    refine x_iadd 90 C0 dX8_ranked_89 rfl ?_
                    refine x_istore_n [(3, .int (ac + 0)), (0, .ref (g.2 0 + 258)), (1, .int pl), (2, .int (nI i)), (4, .int (nI ij))] 91 C0 dX8_ranked_90 rfl rfl (by decide) rfl ?_
                    refine x_lv (lv1 := [(0, .ref (g.2 0 + 258)), (1, .int pl), (2, .int (nI i)), (3, .int (ac + 0)), (4, .int (nI ij))]) [1, 2, 3, 0, 4] rfl ?_
                    refine x_iinc [(4, .int (nI (ij + 1))), (0, .ref (g.2 0 + 258)), (1, .int pl), (2, .int (nI i)), (3, .int (ac + 0))] 4 94 C0 dX8_ranked_91 rfl rfl (nI_1 ij) (by decide) rfl ?_
                    refine x_lv (lv1 := [(0, .ref (g.2 0 + 258)), (1, .int pl), (2, .int (nI i)), (3, .int (ac + 0)), (4, .int (nI (ij + 1)))]) [1, 2, 3, 4, 0] rfl ?_
                    refine x_goto 40 C0 dX8_ranked_94 (by decide) ?_
                    exact x_lv [0, 1, 2, 3, 4] rfl (ihj (ij + 1) _ (by omega) (by omega) (by omega) (by rw [hac]; exact cnt_no (by unfold cntQ; rw [decide_eq_true c9]; cases decide (ij = i) <;> rfl)))
                  · refine x_aload_n 0 75 C0 dX8_ranked_74 rfl rfl rfl ?_
                    refine x_iload 4 77 C0 dX8_ranked_75 rfl rfl ?_
                    refine x_iload_n 2 78 C0 dX8_ranked_77 rfl rfl rfl ?_
                    refine x_callV 81 C0 (e_X8_isAhead l hl g _ _ n (upd t 0 0) v bf sv pa lb ip td sg MR_MW hJ1 ij i (by omega) (by omega)) dX8_ranked_78 rfl mC_X8_isAhead mM_X8_152 mI_X8_isAhead mV_X8_isAhead mN_X8 yd_X8_isAhead rfl rfl ⟨Nat.le_of_ble_eq_true rfl, Nat.le_of_ble_eq_true rfl⟩ MR_MW.o rfl rfl rfl rfl (Nat.le_of_ble_eq_true rfl) ⟨Nat.le_of_ble_eq_true rfl, Nat.le_of_ble_eq_true rfl⟩ (fun _ _ _ q => False.elim q) (fun r w1 sz1 hz hP => ?_)
                    obtain ⟨hR10, rfl, rfl⟩ := hP
                    rcases hR10 with ⟨rfl, hq10⟩ | ⟨rfl, hq10⟩
                    · refine x_st (st1 := [.int 1, .int ac]) rfl ?_
                      refine x_if_eq 88 84 C0 dX8_ranked_81 rfl (by decide) (fun q => False.elim (by revert q; decide)) (fun _ => ?_)
                      refine x_iconst (v := 1) 85 C0 dX8_ranked_84 rfl (by decide) ?_
                      refine x_goto 89 C0 dX8_ranked_85 (by decide) ?_
                      refine x_iadd 90 C0 dX8_ranked_89 rfl ?_
                      refine x_istore_n [(3, .int (ac + 1)), (0, .ref (g.2 0 + 258)), (1, .int pl), (2, .int (nI i)), (4, .int (nI ij))] 91 C0 dX8_ranked_90 rfl rfl (by decide) rfl ?_
                      refine x_lv (lv1 := [(0, .ref (g.2 0 + 258)), (1, .int pl), (2, .int (nI i)), (3, .int (ac + 1)), (4, .int (nI ij))]) [1, 2, 3, 0, 4] rfl ?_
                      refine x_iinc [(4, .int (nI (ij + 1))), (0, .ref (g.2 0 + 258)), (1, .int pl), (2, .int (nI i)), (3, .int (ac + 1))] 4 94 C0 dX8_ranked_91 rfl rfl (nI_1 ij) (by decide) rfl ?_
                      refine x_lv (lv1 := [(0, .ref (g.2 0 + 258)), (1, .int pl), (2, .int (nI i)), (3, .int (ac + 1)), (4, .int (nI (ij + 1)))]) [1, 2, 3, 4, 0] rfl ?_
                      refine x_goto 40 C0 dX8_ranked_94 (by decide) ?_
                      exact x_lv [0, 1, 2, 3, 4] rfl (ihj (ij + 1) _ (by omega) (by omega) (by omega) (by rw [hac]; exact cnt_yes (by unfold cntQ; rw [decide_eq_false (fun e => c8 (congrArg nI e)), decide_eq_false c9, hq10]; rfl)))
                    · refine x_st (st1 := [.int 0, .int ac]) rfl ?_
                      refine x_if_eq 88 84 C0 dX8_ranked_81 rfl (by decide) (fun _ => ?_) (fun q => False.elim (by revert q; decide))
                      refine x_iconst (v := 0) 89 C0 dX8_ranked_88 rfl (by decide) ?_
                      refine x_iadd 90 C0 dX8_ranked_89 rfl ?_
                      refine x_istore_n [(3, .int (ac + 0)), (0, .ref (g.2 0 + 258)), (1, .int pl), (2, .int (nI i)), (4, .int (nI ij))] 91 C0 dX8_ranked_90 rfl rfl (by decide) rfl ?_
                      refine x_lv (lv1 := [(0, .ref (g.2 0 + 258)), (1, .int pl), (2, .int (nI i)), (3, .int (ac + 0)), (4, .int (nI ij))]) [1, 2, 3, 0, 4] rfl ?_
                      refine x_iinc [(4, .int (nI (ij + 1))), (0, .ref (g.2 0 + 258)), (1, .int pl), (2, .int (nI i)), (3, .int (ac + 0))] 4 94 C0 dX8_ranked_91 rfl rfl (nI_1 ij) (by decide) rfl ?_
                      refine x_lv (lv1 := [(0, .ref (g.2 0 + 258)), (1, .int pl), (2, .int (nI i)), (3, .int (ac + 0)), (4, .int (nI (ij + 1)))]) [1, 2, 3, 4, 0] rfl ?_
                      refine x_goto 40 C0 dX8_ranked_94 (by decide) ?_
                      exact x_lv [0, 1, 2, 3, 4] rfl (ihj (ij + 1) _ (by omega) (by omega) (by omega) (by rw [hac]; exact cnt_no (by unfold cntQ; rw [hq10]; cases decide (ij = i) <;> cases decide (v (28 + 9 * ij + 7) = 3) <;> rfl)))
          exact x_lv [0, 1, 2, 3, 4] rfl (loop40 (20 + 1) 0 _ (by omega) (by omega) (Nat.zero_le _) rfl)
        · refine x_goto 104 C0 dX8_ranked_32 (by decide) ?_
          refine x_iinc [(2, .int (nI (i + 1))), (0, .ref (g.2 0 + 258)), (1, .int pl)] 2 107 C0 dX8_ranked_104 rfl rfl (nI_1 i) (by decide) rfl ?_
          refine x_lv (lv1 := [(0, .ref (g.2 0 + 258)), (1, .int pl), (2, .int (nI (i + 1)))]) [1, 2, 0] rfl ?_
          refine x_goto 7 C0 dX8_ranked_107 (by decide) ?_
          exact x_lv [0, 1, 2] rfl (ih (i + 1) (by omega) (by omega) (fun m h1 h2 => by obtain rfl := hun m h1 h2; exact ⟨by omega, fun j hj => (Nat.lt_succ_iff_lt_or_eq.mp hj).elim (hno j) (fun q => by rw [q]; exact fun h => h.1 c5)⟩))
  exact x_lv [0, 1, 2] rfl (loop7 (20 + 1) 0 (by omega) (by omega) (fun m _ _ => ⟨Nat.zero_le m, fun j hj => absurd hj (Nat.not_lt_zero j)⟩))

theorem worth_dec : ∀ p, p < 51 → ∀ k, k < 3 → ∀ d, d < 21 → -1000 ≤ (nI p * (nI k + 1) - nI p * nI d / 20).toInt ∧ (nI p * (nI k + 1) - nI p * nI d / 20).toInt ≤ 1000 := by decide +kernel
theorem sub_cmp {a b : Int32} (h1 : -1000 ≤ a.toInt) (h2 : a.toInt ≤ 1000) (h3 : -1000 ≤ b.toInt) (h4 : b.toInt ≤ 1000) : (0 < a - b ↔ b < a) ∧ (a - b = 0 ↔ a = b) := by
  have e : (a - b).toInt = a.toInt - b.toInt := by
    rw [Int32.toInt_sub]
    exact Int.bmod_eq_of_le (by omega) (by omega)
  have z : (0 : Int32).toInt = 0 := by decide
  refine ⟨?_, ?_⟩
  · rw [Int32.lt_iff_toInt_lt, Int32.lt_iff_toInt_lt, e, z]
    omega
  · rw [← Int32.toInt_inj, ← Int32.toInt_inj, e, z]
    omega
theorem worth_small {x v : Nat → Int32} (hx : hok x) (hA : alk x v) {k : Nat} (hk : k < 20) : -1000 ≤ (cCoins (row x k)).toInt ∧ (cCoins (row x k)).toInt ≤ 1000 := by
  obtain ⟨n, hn, e3, h⟩ := hx
  obtain ⟨⟨z, p, hz, hp, -, e0, ep, hg⟩, -⟩ := h k hk
  obtain ⟨⟨d, hd, ed⟩, -⟩ := hA.2.2 k hk
  show -1000 ≤ (x (28 + 9 * k + 3) * (x (28 + 9 * k + 2) + 1) - x (28 + 9 * k + 3) * x (28 + 9 * k + 6) / 20).toInt ∧ (x (28 + 9 * k + 3) * (x (28 + 9 * k + 2) + 1) - x (28 + 9 * k + 3) * x (28 + 9 * k + 6) / 20).toInt ≤ 1000
  by_cases hp0 : p = 0
  · subst hp0
    rw [ep, show nI 0 = 0 from rfl, Int32.zero_mul, Int32.zero_mul]
    decide
  · obtain ⟨ga, ki, -, hki, -, e2⟩ := hg hp0
    rw [ep, e2, ed]
    exact worth_dec p (by omega) ki hki d (by omega)
theorem damp_small {x v : Nat → Int32} (hA : alk x v) {k : Nat} (hk : k < 20) : -1000 ≤ (row x k 6).toInt ∧ (row x k 6).toInt ≤ 1000 := by
  obtain ⟨⟨d, hd, ed⟩, -⟩ := hA.2.2 k hk
  rw [show row x k 6 = nI d from ed, nI_toInt (by omega)]
  omega
theorem before_eq {x v : Nat → Int32} (hx : hok x) (hA : alk x v) {q c : Nat} (hq : nI q < x 3) (hc : nI c < x 3) (hq2 : q < 20) (hc2 : c < 20) : cBefore (nI q) (row x q) (nI c) (row x c) = aheadB v q c := by
  obtain ⟨a1, a2⟩ := worth_small hx hA hq2
  obtain ⟨b1, b2⟩ := worth_small hx hA hc2
  obtain ⟨d1, d2⟩ := damp_small hA hq2
  obtain ⟨f1, f2⟩ := damp_small hA hc2
  obtain ⟨s1, s2⟩ := sub_cmp a1 a2 b1 b2
  obtain ⟨s3, s4⟩ := sub_cmp f1 f2 d1 d2
  unfold cBefore aheadB
  rw [worth_eq hA hq hq2, worth_eq hA hc hc2, hA.row hq hq2 (j := 6) (by omega), hA.row hc hc2 (j := 6) (by omega)]
  rw [Bool.eq_iff_iff, decide_eq_true_iff]
  change _ ↔ (¬ cCoins (row x q) - cCoins (row x c) = 0 ∧ 0 < cCoins (row x q) - cCoins (row x c)) ∨ (cCoins (row x q) - cCoins (row x c) = 0 ∧ (0 < row x c 6 - row x q 6 ∨ (row x c 6 - row x q 6 = 0 ∧ q < c)))
  by_cases h1 : cCoins (row x q) = cCoins (row x c)
  · rw [if_neg (fun h => h h1)]
    by_cases h2 : row x q 6 = row x c 6
    · rw [if_neg (fun h => h h2), decide_eq_true_iff, nI_ltI (by omega) (by omega)]
      constructor
      · intro h
        exact Or.inr ⟨s2.mpr h1, Or.inr ⟨s4.mpr h2.symm, h⟩⟩
      · rintro (h | ⟨-, h | h⟩)
        · exact absurd (s2.mpr h1) h.1
        · exact absurd (s3.mp h) (by rw [h2]; exact Int32.lt_irrefl)
        · exact h.2
    · rw [if_pos h2, decide_eq_true_iff]
      constructor
      · intro h
        exact Or.inr ⟨s2.mpr h1, Or.inl (s3.mpr h)⟩
      · rintro (h | ⟨-, h | h⟩)
        · exact absurd (s2.mpr h1) h.1
        · exact s3.mp h
        · exact absurd (s4.mp h.1).symm h2
  · rw [if_pos h1, decide_eq_true_iff]
    constructor
    · intro h
      exact Or.inl ⟨fun z => h1 (s2.mp z), s1.mpr h⟩
    · rintro (h | h)
      · exact s1.mp h.2
      · exact absurd (s2.mp h.1) h1
theorem ahead_self {v : Nat → Int32} {c : Nat} : aheadB v c c = false := decide_eq_false (fun h => h.elim (fun q => q.1 (Int32.sub_self _)) (fun q => q.2.elim (fun z => absurd z (by rw [Int32.sub_self]; decide)) (fun z => Nat.lt_irrefl _ z.2)))
theorem there_eq {x v : Nat → Int32} (hA : alk x v) {q : Nat} (hq : nI q < x 3) (hq2 : q < 20) : cThere (row x q) = !decide (v (28 + 9 * q + 7) = 3) := by
  rw [hA.row hq hq2 (j := 7) (by omega)]
  have h := (hA.2.2 q hq2).2 hq
  show decide (¬ x (28 + 9 * q + 7) = -1 ∧ ¬ x (28 + 9 * q + 7) = 3) = _
  rw [← decide_not]
  exact decide_eq_decide.mpr ⟨fun z => z.2, fun z => ⟨h, z⟩⟩
theorem there_no {x v : Nat → Int32} (hA : alk x v) {m q : Nat} (hm : m ≤ 20) (e3 : x 3 = nI m) (hq : m ≤ q) (hq2 : q < 20) : cThere (row x q) = false := by
  show decide (¬ x (28 + 9 * q + 7) = -1 ∧ ¬ x (28 + 9 * q + 7) = 3) = false
  rw [hA.blank hm e3 hq hq2 (by omega)]
  decide
theorem place_eq {x v : Nat → Int32} (hx : hok x) (hA : alk x v) {m c : Nat} (hm : m ≤ 20) (e3 : x 3 = nI m) (hc : c < m) : placeN x c 20 = cntR v c m := by
  refine hFold_al (fun q hq => ⟨?_, rfl⟩) (fun q hq h20 => ?_) hm
  · show (cThere (row x q) && cBefore (nI q) (row x q) (nI c) (row x c)) = cntQ v c q
    rw [before_eq hx hA (hA.lt hm e3 hq) (hA.lt hm e3 hc) (by omega) (by omega), there_eq hA (hA.lt hm e3 hq) (by omega)]
    unfold cntQ
    by_cases e : q = c
    · subst e
      rw [ahead_self]
      cases decide (v (28 + 9 * q + 7) = 3) <;> simp
    · rw [decide_eq_false e]
      rfl
  · show (cThere (row x q) && _) = false
    rw [there_no hA hm e3 hq h20]
    rfl
theorem isPl_eq {x v : Nat → Int32} (hx : hok x) (hA : alk x v) {m c : Nat} {pl : Int32} (hm : m ≤ 20) (e3 : x 3 = nI m) (hc : c < m) : isPl x pl c = true ↔ isPR v pl m c := by
  unfold isPl isPR
  rw [Bool.and_eq_true, decide_eq_true_iff, place_eq hx hA hm e3 hc, there_eq hA (hA.lt hm e3 hc) (by omega), Bool.not_eq_true', decide_eq_false_iff_not]
theorem firstN_spec {x : Nat → Int32} {pl : Int32} : ∀ d i : Nat, (∃ c, i ≤ c ∧ c < i + d ∧ isPl x pl c = true ∧ (∀ j, i ≤ j → j < c → ¬ isPl x pl j = true) ∧ firstN x pl d i = nI c) ∨ ((∀ j, i ≤ j → j < i + d → ¬ isPl x pl j = true) ∧ firstN x pl d i = -1) := by
  intro d
  induction d with
  | zero => intro i; exact Or.inr ⟨fun j h1 h2 => absurd h2 (by omega), rfl⟩
  | succ d ih =>
    intro i
    by_cases h : isPl x pl i = true
    · exact Or.inl ⟨i, Nat.le_refl _, by omega, h, fun j h1 h2 => absurd h2 (by omega), by rw [firstN, if_pos h]⟩
    · have e : firstN x pl (d + 1) i = firstN x pl d (i + 1) := by rw [firstN, if_neg h]
      rcases ih (i + 1) with ⟨c, h1, h2, h3, h4, h5⟩ | ⟨h1, h2⟩
      · refine Or.inl ⟨c, by omega, by omega, h3, fun j hj hjc => ?_, e.trans h5⟩
        by_cases hji : j = i
        · subst hji; exact h
        · exact h4 j (by omega) hjc
      · refine Or.inr ⟨fun j hj hjd => ?_, e.trans h2⟩
        by_cases hji : j = i
        · subst hji; exact h
        · exact h1 j (by omega) (by omega)
section RKD
variable {g : xg_T} {x x' : Nat → Nat → Int32} {la la' : Nat → Nat → Nat} {t t' v tm : Nat → Int32} {r rm : Option Value} {E : String} {z : Int32} {n : Nat} {ln : Nat → Nat} {lf : Nat → Nat → Int32} {pl : Int32}
theorem st_ranked (h : L_X7_ranked g x la t pl r x' la' t') : x' = x ∧ la' = la ∧ t' = t := by
  obtain ⟨v1, -, -, -, h⟩ := h
  exact h
theorem sx_ranked (h : E_X7_ranked g x la t pl E x' la' t') : x' = x ∧ la' = la ∧ t' = t := by
  obtain ⟨v1, -, -, -, h⟩ := h
  exact h
theorem kc_ranked (hE : E_X7_ranked g x la t pl E x' la' t') : ¬ kc [("java/util/NoSuchElementException", 1)] E = 0 := by
  obtain ⟨v1, -, -, rfl, -⟩ := hE
  decide +kernel
theorem rk_no {m : Nat} (hA : hAl (x 0) ln lf v) (hx : hok (x 0)) (hm : m ≤ 20) (e3 : x 0 3 = nI m) (h : ∀ j, j < 20 → ¬ isPl (x 0) pl j = true) : ∀ j, j < m → ¬ isPR v pl m j := fun j hj q => h j (by omega) ((isPl_eq hx hA.1 hm e3 hj).mpr q)
theorem rk_lt {m c : Nat} (hA : hAl (x 0) ln lf v) (hm : m ≤ 20) (e3 : x 0 3 = nI m) (hc : c < 20) (h : isPl (x 0) pl c = true) : c < m := by
  rcases Nat.lt_or_ge c m with q | q
  · exact q
  · unfold isPl at h
    rw [there_no hA.1 hm e3 q hc, Bool.false_and] at h
    exact absurd h (by decide)
theorem rd_ranked_y (pl : Int32) (hA : hAl (x 0) ln lf v) (hx : hok (x 0)) (hQ : Q_X8_ranked n tm v pl rm z) (hL : L_X7_ranked g x la t pl r x' la' t') : r = rm ∧ z = 0 := by
  obtain ⟨v1, hv, h0, rfl, -⟩ := hL
  obtain ⟨m, hm, e3, hQ⟩ := hQ
  have e3x : x 0 3 = nI m := (hA.1.at (q := 3) (by omega)).symm.trans e3
  have hv1 := Value.int.inj (Option.some.inj hv)
  rcases firstN_spec (x := x 0) (pl := pl) 20 0 with ⟨c, -, hc, hp, hno, e⟩ | ⟨-, e⟩
  · have hcm := rk_lt hA hm e3x (by omega) hp
    rcases hQ with ⟨c2, hc2, hp2, hno2, q1, rfl⟩ | ⟨hq, -⟩
    · refine ⟨?_, q1⟩
      have : c = c2 := by
        rcases Nat.lt_trichotomy c c2 with q | q | q
        · exact absurd ((isPl_eq hx hA.1 hm e3x hcm).mp hp) (hno2 c q)
        · exact q
        · exact absurd ((isPl_eq hx hA.1 hm e3x hc2).mpr hp2) (hno c2 (Nat.zero_le _) q)
      rw [hv1, e, this]
    · exact absurd ((isPl_eq hx hA.1 hm e3x hcm).mp hp) (hq c hcm)
  · rw [hv1, e] at h0
    exact absurd h0 (by decide)
theorem rd_ranked_n (pl : Int32) (hA : hAl (x 0) ln lf v) (hx : hok (x 0)) (hQ : Q_X8_ranked n tm v pl rm z) (hE : E_X7_ranked g x la t pl E x' la' t') : z = kc [("java/util/NoSuchElementException", 1)] E := by
  obtain ⟨v1, hv, h0, rfl, -⟩ := hE
  obtain ⟨m, hm, e3, hQ⟩ := hQ
  have e3x : x 0 3 = nI m := (hA.1.at (q := 3) (by omega)).symm.trans e3
  have hv1 := Value.int.inj (Option.some.inj hv)
  rcases firstN_spec (x := x 0) (pl := pl) 20 0 with ⟨c, -, hc, hp, hno, e⟩ | ⟨hno, e⟩
  · rw [hv1, e] at h0
    exact absurd (nI_pos' (by omega)) h0
  · rcases hQ with ⟨c2, hc2, hp2, -⟩ | ⟨-, q1, -⟩
    · exact absurd ((isPl_eq hx hA.1 hm e3x hc2).mpr hp2) (hno c2 (Nat.zero_le _) (by omega))
    · exact q1.trans (by decide +kernel)
end RKD

def Q_X8_sailedShare (n : Nat) (t v : Nat → Int32) (r : Option Value) (z : Int32) : Prop := (¬ v 6 = 0 ∧ z = 0 ∧ r = some (.float (FP.fdiv (FP.i2f (v 7)) (FP.i2f (v 6))))) ∨ (v 6 = 0 ∧ z = 1)
def shC (x : Nat → Int32) (r : Option Value) : Prop := ¬ x 6 = 0 ∧ r = some (.float (FP.fdiv (FP.i2f (x 7)) (FP.i2f (x 6))))
set_option maxHeartbeats 4000000 in
set_option maxRecDepth 100000 in
theorem e_X8_sailedShare (l : Launch) (hl : l.stackTraces = false) (g : xg_T) (w : xw_T) (sz n : Nat) (t v bf sv pa lb ip td sg : Nat → Int32) (hM : MR g w t v bf sv pa lb ip td sg) (hJ : MJ n t v bf sv pa sg) : xM l g yX8_sailedShare cX8_sailedShare 1 (some .float) ({ frames := 1, cells := 0, slots := 0, locals := 21 }) 0 0 [.ref (g.2 0 + 258)] w sz (mRd g w sz n t v bf sv pa ip td sg (fun r z => (∃ q : UInt32, r = some (.float q)) ∧ Q_X8_sailedShare n t v r z)) (fun _ _ _ => False) := by
  refine xM.of RX8 hl (by decide +kernel) rfl (Nat.le_of_ble_eq_true rfl) rfl ?_
  intro p e s m args below meth cD C0 hini
  refine x_aload_n 0 1 C0 dX8_sailedShare_0 rfl rfl rfl ?_
  refine x_iconst (v := 0) 2 C0 dX8_sailedShare_1 rfl (by decide) ?_
  refine x_w (MW_self hM) ?_
  refine x_putf 0 5 C0 dX8_sailedShare_2 rfl MR_MW.o (by show g.2 0 ≤ _; omega) rfl (by decide) inX8 tyX8_ok nmX8 mF_X8_34 rfl rfl rfl rfl (Nat.le_of_ble_eq_true rfl) ?_
  refine x_w (w1 := (MW g w (upd t 0 0) v bf sv pa lb ip td sg)) (MW_o rfl) ?_
  have hJ1 : MJ n (upd t 0 0) v bf sv pa sg := hJ.j_t (by decide)
  refine x_aload_n 0 6 C0 dX8_sailedShare_5 rfl rfl rfl ?_
  refine x_getf (v := .ref (g.2 0 + 258 + 1)) 8 9 C0 dX8_sailedShare_6 rfl MR_MW.o rfl (by decide) inX8 mF_X8_7 rfl ?_
  refine x_bipush (v := 6) 11 C0 dX8_sailedShare_9 rfl (by decide) ?_
  refine x_iald 0 12 C0 dX8_sailedShare_11 rfl MR_MW.r_v rfl (vp_in_nI (n := 6) (by decide) (by decide)) ?_
  refine x_st (st1 := [.int (v 6)]) (congrArg (fun z => Value.int z :: _) (show v (nI 6).toNatClampNeg = v 6 from by rw [nI_clamp (by omega)])) ?_
  refine x_if_ne 24 15 C0 dX8_sailedShare_12 rfl (by decide) (fun c2 => ?_) (fun c2 => ?_)
  · refine x_aload_n 0 25 C0 dX8_sailedShare_24 rfl rfl rfl ?_
    refine x_getf (v := .ref (g.2 0 + 258 + 1)) 8 28 C0 dX8_sailedShare_25 rfl MR_MW.o rfl (by decide) inX8 mF_X8_7 rfl ?_
    refine x_bipush (v := 7) 30 C0 dX8_sailedShare_28 rfl (by decide) ?_
    refine x_iald 0 31 C0 dX8_sailedShare_30 rfl MR_MW.r_v rfl (vp_in_nI (n := 7) (by decide) (by decide)) ?_
    refine x_st (st1 := [.int (v 7)]) (congrArg (fun z => Value.int z :: _) (show v (nI 7).toNatClampNeg = v 7 from by rw [nI_clamp (by omega)])) ?_
    refine x_i2f 32 C0 dX8_sailedShare_31 rfl ?_
    refine x_aload_n 0 33 C0 dX8_sailedShare_32 rfl rfl rfl ?_
    refine x_getf (v := .ref (g.2 0 + 258 + 1)) 8 36 C0 dX8_sailedShare_33 rfl MR_MW.o rfl (by decide) inX8 mF_X8_7 rfl ?_
    refine x_bipush (v := 6) 38 C0 dX8_sailedShare_36 rfl (by decide) ?_
    refine x_iald 0 39 C0 dX8_sailedShare_38 rfl MR_MW.r_v rfl (vp_in_nI (n := 6) (by decide) (by decide)) ?_
    refine x_st (st1 := [.int (v 6), .float (FP.i2f (v 7))]) (congrArg (fun z => Value.int z :: _) (show v (nI 6).toNatClampNeg = v 6 from by rw [nI_clamp (by omega)])) ?_
    refine x_i2f 40 C0 dX8_sailedShare_39 rfl ?_
    refine x_fdiv 41 C0 dX8_sailedShare_40 rfl (fdiv_ok _ c2) ?_
    exact x_freturn C0 dX8_sailedShare_41 rfl (Nat.le_of_ble_eq_true rfl) (Nat.le_of_ble_eq_true rfl) ⟨rfl, _, _, rfl, hJ1, (tL.rf.up (by decide)), ⟨⟨_, rfl⟩, Or.inl ⟨c2, rfl, rfl⟩⟩⟩
  · refine x_aload_n 0 16 C0 dX8_sailedShare_15 rfl rfl rfl ?_
    refine x_iconst (v := 1) 17 C0 dX8_sailedShare_16 rfl (by decide) ?_
    refine x_callV 20 C0 (k_X8_no l hl g _ _ n (upd t 0 0) v bf sv pa lb ip td sg MR_MW hJ1 1) dX8_sailedShare_17 rfl mC_X8_no mM_X8_61 mI_X8_no mV_X8_no mN_X8 yd_X8_no rfl rfl ⟨Nat.le_of_ble_eq_true rfl, Nat.le_of_ble_eq_true rfl⟩ MR_MW.o rfl rfl rfl rfl (Nat.le_of_ble_eq_true rfl) ⟨Nat.le_of_ble_eq_true rfl, Nat.le_of_ble_eq_true rfl⟩ (fun _ _ _ q => False.elim q) (fun r w1 sz1 hz hP => ?_)
    obtain ⟨rfl, rfl, rfl⟩ := hP
    refine x_w MW_MW ?_
    have hJ3 : MJ n (upd (upd t 0 0) 0 1) v bf sv pa sg := (hJ1.j_t (by decide))
    refine x_st (st1 := [.int 0]) rfl ?_
    refine x_i2f 21 C0 dX8_sailedShare_20 rfl ?_
    refine x_goto 41 C0 dX8_sailedShare_21 (by decide) ?_
    exact x_freturn C0 dX8_sailedShare_41 rfl (Nat.le_of_ble_eq_true rfl) (Nat.le_of_ble_eq_true rfl) ⟨rfl, _, _, rfl, hJ3, ((tL.rf.up (by decide)).up (by decide)), ⟨⟨_, rfl⟩, Or.inr ⟨c2, rfl⟩⟩⟩

set_option maxHeartbeats 4000000 in
set_option maxRecDepth 100000 in
theorem f9_X7_sailedShare (l : Launch) (hl : l.stackTraces = false) (g : xg_T) (w : xw_T) (sz n : Nat) (x : Nat → Nat → Int32) (la : Nat → Nat → Nat) (t tt : Nat → Int32) (vb : Option Nat) (sg : Nat → Int32) (hC : CR g w sz n x la t tt vb sg) : xM l g yX7_sailedShare cX7_sailedShare 1 (some .float) ({ frames := 6, cells := 8, slots := 64, locals := 82 }) 8 64 [.ref (g.2 0)] w sz (fPo g w sz n x la t tt vb sg (shC (x 0))) (fun E9 w9 sz9 => x 0 6 = 0 ∧ fXo g w sz n x la t tt vb sg ["java/lang/ArithmeticException"] E9 w9 sz9) := by
  have hz9 := hC.zz
  refine xM.of RX7 hl (by decide +kernel) rfl (Nat.le_of_ble_eq_true rfl) rfl ?_
  intro p e s m args below meth cD C0 hini
  refine x_aload_n 0 1 C0 dX7_sailedShare_0 rfl rfl rfl ?_
  refine x_getf (v := .ref (g.2 0 + 1)) 0 4 C0 dX7_sailedShare_1 rfl hC.1.1 rfl (by decide) inX7 mF_X7_10 rfl ?_
  refine x_getf (v := .int (x 0 6)) 9 7 C0 dX7_sailedShare_4 rfl (HR.ho hC.h0) rfl (by decide) inX4 mF_X7_222 rfl ?_
  refine x_if_ne 20 10 C0 dX7_sailedShare_7 rfl (by decide) (fun c1 => ?_) (fun c1 => ?_)
  · refine x_aload_n 0 21 C0 dX7_sailedShare_20 rfl rfl rfl ?_
    refine x_getf (v := .ref (g.2 0 + 1)) 0 24 C0 dX7_sailedShare_21 rfl hC.1.1 rfl (by decide) inX7 mF_X7_10 rfl ?_
    refine x_getf (v := .int (x 0 7)) 10 27 C0 dX7_sailedShare_24 rfl (HR.ho hC.h0) rfl (by decide) inX4 mF_X7_216 rfl ?_
    refine x_i2f 28 C0 dX7_sailedShare_27 rfl ?_
    refine x_aload_n 0 29 C0 dX7_sailedShare_28 rfl rfl rfl ?_
    refine x_getf (v := .ref (g.2 0 + 1)) 0 32 C0 dX7_sailedShare_29 rfl hC.1.1 rfl (by decide) inX7 mF_X7_10 rfl ?_
    refine x_getf (v := .int (x 0 6)) 9 35 C0 dX7_sailedShare_32 rfl (HR.ho hC.h0) rfl (by decide) inX4 mF_X7_222 rfl ?_
    refine x_i2f 36 C0 dX7_sailedShare_35 rfl ?_
    refine x_fdiv 37 C0 dX7_sailedShare_36 rfl (fdiv_ok _ c1) ?_
    exact x_freturn C0 dX7_sailedShare_37 rfl (Nat.le_of_ble_eq_true rfl) (Nat.le_of_ble_eq_true rfl) ⟨⟨c1, rfl⟩, hC, xFr.rf, by omega⟩
  · exact x_throwS xNames C0 dX7_sailedShare_10 dX7_sailedShare_13 dX7_sailedShare_14 dX7_sailedShare_16 dX7_sailedShare_19 rfl rfl rfl rfl (by decide +kernel) (by decide +kernel) mK_X7_231 mN_ArithmeticException (xs_ldc C0.2.2.2.2.2.2.2.1.2.2 (RX7, 239, "nothing was brought", 144) (by decide +kernel)) (xhat C0 xg_are xh_are (by decide +kernel)) xo_are (xs_us C0.2.2.2.2.2.2.2.1.2.2) (xs_su C0.2.2.2.2.2.2.2.1.2.2) rfl (Nat.le_of_ble_eq_true rfl) (Nat.le_of_ble_eq_true rfl) (Nat.le_of_ble_eq_true rfl) (Nat.le_of_ble_eq_true rfl) (Nat.le_of_ble_eq_true rfl) (Nat.le_of_ble_eq_true rfl) (fun sz9 h9 => ⟨c1, by decide, (hC.grow h9), xFr.rf, by omega⟩)


def bstR (v : Nat → Int32) : Nat → Nat
  | 0 => 0
  | n + 1 => if 0 < rAll v (n + 1) - rAll v (bstR v n) ∨ (rAll v (n + 1) - rAll v (bstR v n) = 0 ∧ v (10 + 3 * bstR v n + 2) < v (10 + 3 * (n + 1) + 2)) then n + 1 else bstR v n
def bstC (y : Nat → Int32) : Nat → Int32
  | 0 => 0
  | n + 1 => if sBetter y (nI (n + 1)) (bstC y n) = true then nI (n + 1) else bstC y n
theorem bsr_yes {v : Nat → Int32} {i b : Nat} (h1 : 1 ≤ i) (hb : b = bstR v (i - 1)) (h : 0 < rAll v i - rAll v b ∨ (rAll v i - rAll v b = 0 ∧ v (10 + 3 * b + 2) < v (10 + 3 * i + 2))) : i = bstR v (i + 1 - 1) := by
  obtain ⟨n, rfl⟩ : ∃ n, i = n + 1 := ⟨i - 1, by omega⟩
  subst hb
  show n + 1 = (if 0 < rAll v (n + 1) - rAll v (bstR v n) ∨ (rAll v (n + 1) - rAll v (bstR v n) = 0 ∧ v (10 + 3 * bstR v n + 2) < v (10 + 3 * (n + 1) + 2)) then n + 1 else bstR v n)
  exact (if_pos h).symm
theorem bsr_no {v : Nat → Int32} {i b : Nat} (h1 : 1 ≤ i) (hb : b = bstR v (i - 1)) (h : ¬ (0 < rAll v i - rAll v b ∨ (rAll v i - rAll v b = 0 ∧ v (10 + 3 * b + 2) < v (10 + 3 * i + 2)))) : b = bstR v (i + 1 - 1) := by
  obtain ⟨n, rfl⟩ : ∃ n, i = n + 1 := ⟨i - 1, by omega⟩
  subst hb
  show bstR v n = (if 0 < rAll v (n + 1) - rAll v (bstR v n) ∨ (rAll v (n + 1) - rAll v (bstR v n) = 0 ∧ v (10 + 3 * bstR v n + 2) < v (10 + 3 * (n + 1) + 2)) then n + 1 else bstR v n)
  exact (if_neg h).symm
theorem bsc_yes {y : Nat → Int32} {i : Nat} {b : Int32} (h1 : 1 ≤ i) (hb : b = bstC y (i - 1)) (h : sBetter y (nI i) b = true) : nI i = bstC y (i + 1 - 1) := by
  obtain ⟨n, rfl⟩ : ∃ n, i = n + 1 := ⟨i - 1, by omega⟩
  subst hb
  show nI (n + 1) = (if sBetter y (nI (n + 1)) (bstC y n) = true then nI (n + 1) else bstC y n)
  exact (if_pos h).symm
theorem bsc_no {y : Nat → Int32} {i : Nat} {b : Int32} (h1 : 1 ≤ i) (hb : b = bstC y (i - 1)) (h : sBetter y (nI i) b = false) : b = bstC y (i + 1 - 1) := by
  obtain ⟨n, rfl⟩ : ∃ n, i = n + 1 := ⟨i - 1, by omega⟩
  subst hb
  show bstC y n = (if sBetter y (nI (n + 1)) (bstC y n) = true then nI (n + 1) else bstC y n)
  exact (if_neg (fun q => absurd (h.symm.trans q) (by decide))).symm
set_option maxHeartbeats 4000000 in
set_option maxRecDepth 100000 in
theorem e_X8_bestGarden (l : Launch) (hl : l.stackTraces = false) (g : xg_T) (w : xw_T) (sz n : Nat) (t v bf sv pa lb ip td sg : Nat → Int32) (hM : MR g w t v bf sv pa lb ip td sg) (hJ : MJ n t v bf sv pa sg) : xM l g yX8_bestGarden cX8_bestGarden 4 (some .int) ({ frames := 2, cells := 0, slots := 0, locals := 42 }) 0 0 [.ref (g.2 0 + 258)] w sz (mRd g w sz n t v bf sv pa ip td sg (fun r _ => r = some (.int (nI (bstR v 5))))) (fun _ _ _ => False) := by
  refine xM.of RX8 hl (by decide +kernel) rfl (Nat.le_of_ble_eq_true rfl) rfl ?_
  intro p e s m args below meth cD C0 hini
  refine x_aload_n 0 1 C0 dX8_bestGarden_0 rfl rfl rfl ?_
  refine x_iconst (v := 0) 2 C0 dX8_bestGarden_1 rfl (by decide) ?_
  refine x_w (MW_self hM) ?_
  refine x_putf 0 5 C0 dX8_bestGarden_2 rfl MR_MW.o (by show g.2 0 ≤ _; omega) rfl (by decide) inX8 tyX8_ok nmX8 mF_X8_34 rfl rfl rfl rfl (Nat.le_of_ble_eq_true rfl) ?_
  refine x_w (w1 := (MW g w (upd t 0 0) v bf sv pa lb ip td sg)) (MW_o rfl) ?_
  have hJ1 : MJ n (upd t 0 0) v bf sv pa sg := hJ.j_t (by decide)
  refine x_iconst (v := 0) 6 C0 dX8_bestGarden_5 rfl (by decide) ?_
  refine x_istore_n [(1, .int 0), (0, .ref (g.2 0 + 258))] 7 C0 dX8_bestGarden_6 rfl rfl (by decide) rfl ?_
  refine x_lv (lv1 := [(0, .ref (g.2 0 + 258)), (1, .int 0)]) [1, 0] rfl ?_
  refine x_iconst (v := 1) 8 C0 dX8_bestGarden_7 rfl (by decide) ?_
  refine x_istore_n [(2, .int 1), (0, .ref (g.2 0 + 258)), (1, .int 0)] 9 C0 dX8_bestGarden_8 rfl rfl (by decide) rfl ?_
  refine x_lv (lv1 := [(0, .ref (g.2 0 + 258)), (1, .int 0), (2, .int 1)]) [1, 2, 0] rfl ?_
  have loop9 : ∀ (N i : Nat) (bq : Nat), i ≤ 6 → 6 - i < N → (bq < 6 ∧ 1 ≤ i ∧ bq = bstR v (i - 1)) → xV p l e ({ frames := 2, cells := 0, slots := 0, locals := 42 }) s m args below meth cD (xQ g below (mRd g w sz n t v bf sv pa ip td sg (fun r _ => r = some (.int (nI (bstR v 5))))) (fun _ _ _ => False) args s 0 0) g 4 (MW g w (upd t 0 0) v bf sv pa lb ip td sg) sz (0) (0) 9 [(0, .ref (g.2 0 + 258)), (1, .int (nI bq)), (2, .int (nI i))] [] := by
    intro N
    induction N with
    | zero => intro i bq h1 h2; omega
    | succ N ih =>
      intro i bq hi hN hV
      obtain ⟨hV, h1, hb⟩ := hV
      refine x_iload_n 2 10 C0 dX8_bestGarden_9 rfl rfl rfl ?_
      refine x_bipush (v := 6) 12 C0 dX8_bestGarden_10 rfl (by decide) ?_
      refine x_icmp_ge 66 15 C0 dX8_bestGarden_12 rfl (by decide) (fun c2 => ?_) (fun c2 => ?_)
      · refine x_iload_n 1 67 C0 dX8_bestGarden_66 rfl rfl rfl ?_
        exact x_ireturn C0 dX8_bestGarden_67 rfl rfl (Nat.le_of_ble_eq_true rfl) (Nat.le_of_ble_eq_true rfl) ⟨rfl, _, _, rfl, hJ1, (tL.rf.up (by decide)), (by have e := ix_eq 6 rfl (by decide) hi c2; subst e; exact congrArg (fun q => some (Value.int (nI q))) hb)⟩
      · have hi2 : i < 6 := Nat.lt_of_not_le (fun z => c2 (nI_le (a := 6) z (by omega)))
        refine x_aload_n 0 16 C0 dX8_bestGarden_15 rfl rfl rfl ?_
        refine x_iload_n 2 17 C0 dX8_bestGarden_16 rfl rfl rfl ?_
        refine x_callV 20 C0 (k_X8_allOf l hl g _ _ n (upd t 0 0) v bf sv pa lb ip td sg MR_MW hJ1 i (by omega)) dX8_bestGarden_17 rfl mC_X8_allOf mM_X8_96 mI_X8_allOf mV_X8_allOf mN_X8 yd_X8_allOf rfl rfl ⟨Nat.le_of_ble_eq_true rfl, Nat.le_of_ble_eq_true rfl⟩ MR_MW.o rfl rfl rfl rfl (Nat.le_of_ble_eq_true rfl) ⟨Nat.le_of_ble_eq_true rfl, Nat.le_of_ble_eq_true rfl⟩ (fun _ _ _ q => False.elim q) (fun r w1 sz1 hz hP => ?_)
        obtain ⟨rfl, rfl, rfl⟩ := hP
        refine x_st (st1 := [.int (rAll v i)]) rfl ?_
        refine x_aload_n 0 21 C0 dX8_bestGarden_20 rfl rfl rfl ?_
        refine x_iload_n 1 22 C0 dX8_bestGarden_21 rfl rfl rfl ?_
        refine x_callV 25 C0 (k_X8_allOf l hl g _ _ n (upd t 0 0) v bf sv pa lb ip td sg MR_MW hJ1 bq (by omega)) dX8_bestGarden_22 rfl mC_X8_allOf mM_X8_96 mI_X8_allOf mV_X8_allOf mN_X8 yd_X8_allOf rfl rfl ⟨Nat.le_of_ble_eq_true rfl, Nat.le_of_ble_eq_true rfl⟩ MR_MW.o rfl rfl rfl rfl (Nat.le_of_ble_eq_true rfl) ⟨Nat.le_of_ble_eq_true rfl, Nat.le_of_ble_eq_true rfl⟩ (fun _ _ _ q => False.elim q) (fun r w1 sz1 hz hP => ?_)
        obtain ⟨rfl, rfl, rfl⟩ := hP
        refine x_st (st1 := [.int (rAll v bq), .int (rAll v i)]) rfl ?_
        refine x_isub 26 C0 dX8_bestGarden_25 rfl ?_
        refine x_istore_n [(3, .int ((rAll v i) - (rAll v bq))), (0, .ref (g.2 0 + 258)), (1, .int (nI bq)), (2, .int (nI i))] 27 C0 dX8_bestGarden_26 rfl rfl (by decide) rfl ?_
        refine x_lv (lv1 := [(0, .ref (g.2 0 + 258)), (1, .int (nI bq)), (2, .int (nI i)), (3, .int ((rAll v i) - (rAll v bq)))]) [1, 2, 3, 0] rfl ?_
        refine x_iload_n 3 28 C0 dX8_bestGarden_27 rfl rfl rfl ?_
        refine x_if_gt 58 31 C0 dX8_bestGarden_28 rfl (by decide) (fun c3 => ?_) (fun c3 => ?_)
        · have c3' := Int32.not_le.mpr c3
          refine x_iload_n 2 59 C0 dX8_bestGarden_58 rfl rfl rfl ?_
          refine x_istore_n [(1, .int (nI i)), (0, .ref (g.2 0 + 258)), (2, .int (nI i)), (3, .int ((rAll v i) - (rAll v bq)))] 60 C0 dX8_bestGarden_59 rfl rfl (by decide) rfl ?_
          refine x_lv (lv1 := [(0, .ref (g.2 0 + 258)), (1, .int (nI i)), (2, .int (nI i)), (3, .int ((rAll v i) - (rAll v bq)))]) [1, 0, 2, 3] rfl ?_
          refine x_iinc [(2, .int (nI (i + 1))), (0, .ref (g.2 0 + 258)), (1, .int (nI i)), (3, .int ((rAll v i) - (rAll v bq)))] 2 63 C0 dX8_bestGarden_60 rfl rfl (nI_1 i) (by decide) rfl ?_
          refine x_lv (lv1 := [(0, .ref (g.2 0 + 258)), (1, .int (nI i)), (2, .int (nI (i + 1))), (3, .int ((rAll v i) - (rAll v bq)))]) [1, 2, 0, 3] rfl ?_
          refine x_goto 9 C0 dX8_bestGarden_63 (by decide) ?_
          exact x_lv [0, 1, 2] rfl (ih (i + 1) _ (by omega) (by omega) ⟨by omega, by omega, bsr_yes h1 hb (Or.inl c3)⟩)
        · have c3' := Int32.not_lt.mp c3
          refine x_iload_n 3 32 C0 dX8_bestGarden_31 rfl rfl rfl ?_
          refine x_if_ne 60 35 C0 dX8_bestGarden_32 rfl (by decide) (fun c4 => ?_) (fun c4 => ?_)
          · refine x_iinc [(2, .int (nI (i + 1))), (0, .ref (g.2 0 + 258)), (1, .int (nI bq)), (3, .int ((rAll v i) - (rAll v bq)))] 2 63 C0 dX8_bestGarden_60 rfl rfl (nI_1 i) (by decide) rfl ?_
            refine x_lv (lv1 := [(0, .ref (g.2 0 + 258)), (1, .int (nI bq)), (2, .int (nI (i + 1))), (3, .int ((rAll v i) - (rAll v bq)))]) [1, 2, 0, 3] rfl ?_
            refine x_goto 9 C0 dX8_bestGarden_63 (by decide) ?_
            exact x_lv [0, 1, 2] rfl (ih (i + 1) _ (by omega) (by omega) ⟨by omega, by omega, bsr_no h1 hb (fun h => h.elim c3 (fun q => c4 q.1))⟩)
          · refine x_aload_n 0 36 C0 dX8_bestGarden_35 rfl rfl rfl ?_
            refine x_getf (v := .ref (g.2 0 + 258 + 1)) 8 39 C0 dX8_bestGarden_36 rfl MR_MW.o rfl (by decide) inX8 mF_X8_7 rfl ?_
            refine x_iload_n 2 40 C0 dX8_bestGarden_39 rfl rfl rfl ?_
            refine x_iconst (v := 2) 41 C0 dX8_bestGarden_40 rfl (by decide) ?_
            refine x_callS 44 C0 (k_X8_leaf l hl g _ _ (nI i) 2) dX8_bestGarden_41 rfl mC_X8_leaf mM_X8_79 mS_X8_leaf mN_X8 yd_X8_leaf rfl rfl ⟨Nat.le_of_ble_eq_true rfl, Nat.le_of_ble_eq_true rfl⟩ rfl rfl (Nat.le_of_ble_eq_true rfl) ⟨Nat.le_of_ble_eq_true rfl, Nat.le_of_ble_eq_true rfl⟩ (fun _ _ _ q => False.elim q) (fun r w1 sz1 hz hP => ?_)
            obtain ⟨rfl, rfl, rfl⟩ := hP
            refine x_st (st1 := [.int (nI (10 + 3 * i + 2)), .ref (g.2 0 + 258 + 1)]) (congrArg (fun z => Value.int z :: _) (at_nI 10 3 i 2)) ?_
            refine x_iald 0 45 C0 dX8_bestGarden_44 rfl MR_MW.r_v rfl (vp_in_nI (n := 10 + 3 * i + 2) (by omega) (by decide)) ?_
            refine x_st (st1 := [.int (v (10 + 3 * i + 2))]) (congrArg (fun z => Value.int z :: _) (show v (nI (10 + 3 * i + 2)).toNatClampNeg = v (10 + 3 * i + 2) from by rw [nI_clamp (by omega)])) ?_
            refine x_aload_n 0 46 C0 dX8_bestGarden_45 rfl rfl rfl ?_
            refine x_getf (v := .ref (g.2 0 + 258 + 1)) 8 49 C0 dX8_bestGarden_46 rfl MR_MW.o rfl (by decide) inX8 mF_X8_7 rfl ?_
            refine x_iload_n 1 50 C0 dX8_bestGarden_49 rfl rfl rfl ?_
            refine x_iconst (v := 2) 51 C0 dX8_bestGarden_50 rfl (by decide) ?_
            refine x_callS 54 C0 (k_X8_leaf l hl g _ _ (nI bq) 2) dX8_bestGarden_51 rfl mC_X8_leaf mM_X8_79 mS_X8_leaf mN_X8 yd_X8_leaf rfl rfl ⟨Nat.le_of_ble_eq_true rfl, Nat.le_of_ble_eq_true rfl⟩ rfl rfl (Nat.le_of_ble_eq_true rfl) ⟨Nat.le_of_ble_eq_true rfl, Nat.le_of_ble_eq_true rfl⟩ (fun _ _ _ q => False.elim q) (fun r w1 sz1 hz hP => ?_)
            obtain ⟨rfl, rfl, rfl⟩ := hP
            refine x_st (st1 := [.int (nI (10 + 3 * bq + 2)), .ref (g.2 0 + 258 + 1), .int (v (10 + 3 * i + 2))]) (congrArg (fun z => Value.int z :: _) (at_nI 10 3 bq 2)) ?_
            refine x_iald 0 55 C0 dX8_bestGarden_54 rfl MR_MW.r_v rfl (vp_in_nI (n := 10 + 3 * bq + 2) (by omega) (by decide)) ?_
            refine x_st (st1 := [.int (v (10 + 3 * bq + 2)), .int (v (10 + 3 * i + 2))]) (congrArg (fun z => Value.int z :: _) (show v (nI (10 + 3 * bq + 2)).toNatClampNeg = v (10 + 3 * bq + 2) from by rw [nI_clamp (by omega)])) ?_
            refine x_icmp_le 60 58 C0 dX8_bestGarden_55 rfl (by decide) (fun c5 => ?_) (fun c5 => ?_)
            · have c5' := Int32.not_lt.mpr c5
              refine x_iinc [(2, .int (nI (i + 1))), (0, .ref (g.2 0 + 258)), (1, .int (nI bq)), (3, .int ((rAll v i) - (rAll v bq)))] 2 63 C0 dX8_bestGarden_60 rfl rfl (nI_1 i) (by decide) rfl ?_
              refine x_lv (lv1 := [(0, .ref (g.2 0 + 258)), (1, .int (nI bq)), (2, .int (nI (i + 1))), (3, .int ((rAll v i) - (rAll v bq)))]) [1, 2, 0, 3] rfl ?_
              refine x_goto 9 C0 dX8_bestGarden_63 (by decide) ?_
              exact x_lv [0, 1, 2] rfl (ih (i + 1) _ (by omega) (by omega) ⟨by omega, by omega, bsr_no h1 hb (fun h => h.elim c3 (fun q => Int32.not_lt.mpr c5 q.2))⟩)
            · have c5' := Int32.not_le.mp c5
              refine x_iload_n 2 59 C0 dX8_bestGarden_58 rfl rfl rfl ?_
              refine x_istore_n [(1, .int (nI i)), (0, .ref (g.2 0 + 258)), (2, .int (nI i)), (3, .int ((rAll v i) - (rAll v bq)))] 60 C0 dX8_bestGarden_59 rfl rfl (by decide) rfl ?_
              refine x_lv (lv1 := [(0, .ref (g.2 0 + 258)), (1, .int (nI i)), (2, .int (nI i)), (3, .int ((rAll v i) - (rAll v bq)))]) [1, 0, 2, 3] rfl ?_
              refine x_iinc [(2, .int (nI (i + 1))), (0, .ref (g.2 0 + 258)), (1, .int (nI i)), (3, .int ((rAll v i) - (rAll v bq)))] 2 63 C0 dX8_bestGarden_60 rfl rfl (nI_1 i) (by decide) rfl ?_
              refine x_lv (lv1 := [(0, .ref (g.2 0 + 258)), (1, .int (nI i)), (2, .int (nI (i + 1))), (3, .int ((rAll v i) - (rAll v bq)))]) [1, 2, 0, 3] rfl ?_
              refine x_goto 9 C0 dX8_bestGarden_63 (by decide) ?_
              exact x_lv [0, 1, 2] rfl (ih (i + 1) _ (by omega) (by omega) ⟨by omega, by omega, bsr_yes h1 hb (Or.inr ⟨c4, c5'⟩)⟩)
  exact x_lv [0, 1, 2] rfl (loop9 (6 + 1) 1 0 (by omega) (by omega) ⟨by decide, Nat.le_refl 1, rfl⟩)

set_option maxHeartbeats 4000000 in
set_option maxRecDepth 100000 in
theorem f9_X7_bestGarden (l : Launch) (hl : l.stackTraces = false) (g : xg_T) (w : xw_T) (sz n : Nat) (x : Nat → Nat → Int32) (la : Nat → Nat → Nat) (t tt : Nat → Int32) (vb : Option Nat) (sg : Nat → Int32) (hC : CR g w sz n x la t tt vb sg) : xM l g yX7_bestGarden cX7_bestGarden 3 (some .int) ({ frames := 4, cells := 8, slots := 64, locals := 90 }) 8 64 [.ref (g.2 0)] w sz (fPo g w sz n x la t tt vb sg (fun r => r = some (.int (bstC (x 0) 5)))) (fun _ _ _ => False) := by
  have hz9 := hC.zz
  refine xM.of RX7 hl (by decide +kernel) rfl (Nat.le_of_ble_eq_true rfl) rfl ?_
  intro p e s m args below meth cD C0 hini
  refine x_iconst (v := 0) 1 C0 dX7_bestGarden_0 rfl (by decide) ?_
  refine x_istore_n [(1, .int 0), (0, .ref (g.2 0))] 2 C0 dX7_bestGarden_1 rfl rfl (by decide) rfl ?_
  refine x_lv (lv1 := [(0, .ref (g.2 0)), (1, .int 0)]) [1, 0] rfl ?_
  refine x_iconst (v := 1) 3 C0 dX7_bestGarden_2 rfl (by decide) ?_
  refine x_istore_n [(2, .int 1), (0, .ref (g.2 0)), (1, .int 0)] 4 C0 dX7_bestGarden_3 rfl rfl (by decide) rfl ?_
  refine x_lv (lv1 := [(0, .ref (g.2 0)), (1, .int 0), (2, .int 1)]) [1, 2, 0] rfl ?_
  have loop4 : ∀ (N i : Nat) (b : Int32), i ≤ 6 → 6 - i < N → 1 ≤ i → b = bstC (x 0) (i - 1) → xV p l e ({ frames := 4, cells := 8, slots := 64, locals := 90 }) s m args below meth cD (xQ g below (fPo g w sz n x la t tt vb sg (fun r => r = some (.int (bstC (x 0) 5)))) (fun _ _ _ => False) args s 8 64) g 3 w sz (0) (0) 4 [(0, .ref (g.2 0)), (1, .int b), (2, .int (nI (i)))] [] := by
    intro N
    induction N with
    | zero => intro i b h1 h2; omega
    | succ N ih =>
      intro i b hi hN h1 hb
      refine x_iload_n 2 5 C0 dX7_bestGarden_4 rfl rfl rfl ?_
      refine x_bipush (v := 6) 7 C0 dX7_bestGarden_5 rfl (by decide) ?_
      refine x_icmp_ge 30 10 C0 dX7_bestGarden_7 rfl (by decide) (fun c1 => ?_) (fun c1 => ?_)
      · refine x_iload_n 1 31 C0 dX7_bestGarden_30 rfl rfl rfl ?_
        exact x_ireturn C0 dX7_bestGarden_31 rfl rfl (Nat.le_of_ble_eq_true rfl) (Nat.le_of_ble_eq_true rfl) ⟨by have e := ix_eq 6 rfl (by decide) hi c1; subst e; exact congrArg (fun q => some (Value.int q)) hb, hC, xFr.rf, by omega⟩
      · have hi2 := ix_lt 6 rfl (by decide) hi c1
        refine x_aload_n 0 11 C0 dX7_bestGarden_10 rfl rfl rfl ?_
        refine x_getf (v := .ref (g.2 0 + 1)) 0 14 C0 dX7_bestGarden_11 rfl hC.1.1 rfl (by decide) inX7 mF_X7_10 rfl ?_
        refine x_iload_n 2 15 C0 dX7_bestGarden_14 rfl rfl rfl ?_
        refine x_iload_n 1 16 C0 dX7_bestGarden_15 rfl rfl rfl ?_
        refine x_callV 19 C0 (k_X4_isBetterGarden l hl g _ _ _ _ _ hC.h0 (nI (i)) b) dX7_bestGarden_16 rfl mC_X4_isBetterGarden mM_X7_61 mI_X4_isBetterGarden mV_X4_isBetterGarden mN_X4 yd_X4_isBetterGarden rfl rfl ⟨Nat.le_of_ble_eq_true rfl, Nat.le_of_ble_eq_true rfl⟩ (HR.ho hC.h0) rfl rfl rfl rfl (Nat.le_of_ble_eq_true rfl) ⟨Nat.le_of_ble_eq_true rfl, Nat.le_of_ble_eq_true rfl⟩ (fun _ _ _ q => False.elim q) (fun r w1 sz1 hz hP => ?_)
        obtain ⟨hr, rfl, rfl⟩ := hP
        obtain ⟨v2, rfl, hv2⟩ : ∃ v : Int32, r = some (.int v) ∧ isB v := ⟨_, hr, isB_bi _⟩
        refine x_st (st1 := [.int v2]) rfl ?_
        refine x_if_eq 24 22 C0 dX7_bestGarden_19 rfl (by decide) (fun c3 => ?_) (fun c3 => ?_)
        · refine x_iinc [(2, .int (nI (i + 1))), (0, .ref (g.2 0)), (1, .int b)] 2 27 C0 dX7_bestGarden_24 rfl rfl (nI_1 (i)) (by decide) rfl ?_
          refine x_lv (lv1 := [(0, .ref (g.2 0)), (1, .int b), (2, .int (nI (i + 1)))]) [1, 2, 0] rfl ?_
          refine x_goto 4 C0 dX7_bestGarden_27 (by decide) ?_
          exact x_lv [0, 1, 2] rfl (ih (i + 1) _ (by omega) (by omega) (by omega) (bsc_no h1 hb (bi_yes ((Value.int.inj (Option.some.inj hr)).symm.trans c3))))
        · refine x_iload_n 2 23 C0 dX7_bestGarden_22 rfl rfl rfl ?_
          refine x_istore_n [(1, .int (nI (i))), (0, .ref (g.2 0)), (2, .int (nI (i)))] 24 C0 dX7_bestGarden_23 rfl rfl (by decide) rfl ?_
          refine x_lv (lv1 := [(0, .ref (g.2 0)), (1, .int (nI (i))), (2, .int (nI (i)))]) [1, 0, 2] rfl ?_
          refine x_iinc [(2, .int (nI (i + 1))), (0, .ref (g.2 0)), (1, .int (nI (i)))] 2 27 C0 dX7_bestGarden_24 rfl rfl (nI_1 (i)) (by decide) rfl ?_
          refine x_lv (lv1 := [(0, .ref (g.2 0)), (1, .int (nI (i))), (2, .int (nI (i + 1)))]) [1, 2, 0] rfl ?_
          refine x_goto 4 C0 dX7_bestGarden_27 (by decide) ?_
          exact x_lv [0, 1, 2] rfl (ih (i + 1) _ (by omega) (by omega) (by omega) (bsc_yes h1 hb (bi_no (fun q => c3 ((Value.int.inj (Option.some.inj hr)).trans q)))))
  exact x_lv [0, 1, 2] rfl (loop4 7 1 0 (by omega) (by omega) (Nat.le_refl 1) rfl)

theorem rAll_n {b : Nat} {v : Nat → Int32} (h : KP b v) {a : Nat} (ha : a < 6) : ∃ A : Nat, A ≤ 1500 ∧ rAll v a = nI A := by
  obtain ⟨s0, h0, e0⟩ := h.2.1 (10 + 3 * a + 0) (by omega) (by omega)
  obtain ⟨s1, h1, e1⟩ := h.2.1 (10 + 3 * a + 1) (by omega) (by omega)
  obtain ⟨s2, h2, e2⟩ := h.2.1 (10 + 3 * a + 2) (by omega) (by omega)
  refine ⟨s0 + s1 + s2, by omega, ?_⟩
  unfold rAll
  rw [e0, e1, e2, nI_add, nI_add]
theorem sub_nI {a b : Nat} (ha : a ≤ 1500) (hb : b ≤ 1500) : (0 < nI a - nI b ↔ nI b < nI a) ∧ (nI a - nI b = 0 ↔ nI a = nI b) := by
  have e := pk_sub_toInt (a := a) (b := b) (by omega) (by omega)
  have z : (0 : Int32).toInt = 0 := by decide
  refine ⟨?_, ?_⟩
  · rw [Int32.lt_iff_toInt_lt, e, z, nI_ltI (by omega) (by omega)]
    omega
  · rw [← Int32.toInt_inj, e, z, nI_eq (by omega) (by omega)]
    omega
theorem bett_eq {k : Nat} {y u : Nat → Int32} (hA : alk y u) (h : KP k u) {a b : Nat} (ha : a < 6) (hb : b < 6) : sBetter y (nI a) (nI b) = true ↔ (0 < rAll u a - rAll u b ∨ (rAll u a - rAll u b = 0 ∧ u (10 + 3 * b + 2) < u (10 + 3 * a + 2))) := by
  obtain ⟨A, hA1, eA⟩ := rAll_n h ha
  obtain ⟨B, hB1, eB⟩ := rAll_n h hb
  obtain ⟨s1, s2⟩ := sub_nI hA1 hB1
  have f : ∀ c, c < 6 → sOf y (nI c) = rAll u c := fun c hc => by
    rw [sOf_n hA hc]
    unfold rAll
    rw [Int32.zero_add]
  have f2 : ∀ c, c < 6 → sGet y (nI c) 2 = u (10 + 3 * c + 2) := fun c hc => (sGet_n (b := 2) hc (by omega)).trans (hA.at (by omega)).symm
  unfold sBetter
  rw [decide_eq_true_iff, f a ha, f b hb, f2 a ha, f2 b hb, eA, eB, s1, s2]
theorem bst_eq {k : Nat} {y u : Nat → Int32} (hA : alk y u) (h : KP k u) : ∀ n, n ≤ 5 → bstR u n ≤ n ∧ bstC y n = nI (bstR u n) := by
  intro n
  induction n with
  | zero => intro _; exact ⟨Nat.le_refl _, rfl⟩
  | succ n ih =>
    intro hn
    obtain ⟨i1, i2⟩ := ih (by omega)
    have e := bett_eq hA h (a := n + 1) (b := bstR u n) (by omega) (by omega)
    by_cases c : 0 < rAll u (n + 1) - rAll u (bstR u n) ∨ (rAll u (n + 1) - rAll u (bstR u n) = 0 ∧ u (10 + 3 * bstR u n + 2) < u (10 + 3 * (n + 1) + 2))
    · have e1 : bstR u (n + 1) = n + 1 := if_pos c
      have e2 : bstC y (n + 1) = nI (n + 1) := if_pos (by rw [i2]; exact e.mpr c)
      rw [e1, e2]
      exact ⟨Nat.le_refl _, rfl⟩
    · have e1 : bstR u (n + 1) = bstR u n := if_neg c
      have e2 : bstC y (n + 1) = bstC y n := if_neg (by rw [i2]; exact fun q => c (e.mp q))
      rw [e1, e2]
      exact ⟨by omega, i2⟩
theorem rI7_bestGarden {x : Nat → Int32} {r : Option Value} (h : r = some (.int (bstC x 5))) : ∃ z : Int32, r = some (.int z) := ⟨_, h⟩
theorem rI8_bestGarden {v : Nat → Int32} {r : Option Value} (h : r = some (.int (nI (bstR v 5)))) : ∃ z : Int32, r = some (.int z) := ⟨_, h⟩
theorem rd_bestGarden {b : Nat} {x tm v sv pa : Nat → Int32} {ln : Nat → Nat} {lf : Nat → Nat → Int32} {r rm : Option Value} (hA : hAl x ln lf v) (hI : KI b tm v sv pa) (hQ : rm = some (.int (nI (bstR v 5)))) (hL : r = some (.int (bstC x 5))) : r = rm := by
  rw [hL, hQ, (bst_eq hA.1 hI.1 5 (Nat.le_refl _)).2]

/-! the tide, hour by hour -/
def wC (w c : Int32) : Int32 := if w = 0 then 1 else if w = 6 then -1 else c
def wS : Nat → Int32 × Int32
  | 0 => (6, -1)
  | n + 1 => ((wS n).1 + wC (wS n).1 (wS n).2, wC (wS n).1 (wS n).2)
theorem wS_s {i : Nat} {wa chg c9 : Int32} (hw : wa = (wS i).1) (hg : chg = (wS i).2) (hc : wC wa chg = c9) : wa + c9 = (wS (i + 1)).1 ∧ c9 = (wS (i + 1)).2 := by
  subst hc hw hg
  exact ⟨rfl, rfl⟩
theorem wS_13 : ∀ n, wS (n + 13) = wS (n + 1) := by
  intro n
  induction n with
  | zero => decide
  | succ n ih =>
    show ((wS (n + 13)).1 + wC (wS (n + 13)).1 (wS (n + 13)).2, wC (wS (n + 13)).1 (wS (n + 13)).2) = _
    rw [ih]
    rfl
theorem wS_r (r : Nat) : ∀ q, wS (12 * q + r + 1) = wS (r + 1) := by
  intro q
  induction q with
  | zero => rw [show 12 * 0 + r + 1 = r + 1 by omega]
  | succ q ih => rw [show 12 * (q + 1) + r + 1 = 12 * q + r + 13 by omega, wS_13, ih]
def hg9 (y : Int32) : Int32 := if 6 - y < 0 then -(6 - y) else 6 - y
theorem wS_f : ∀ r, r < 12 → (wS (r + 1)).1 = hg9 (nI ((r + 1) % 12)) := by decide
theorem hgt_wS {n : Nat} (hn : n < 2 ^ 31) : hgt (nI n) = (wS n).1 := by
  have e : nI n - nI n / 12 * 12 = nI (n % 12) := pk_rem (d := 12) hn (by omega) (by omega)
  have e2 : hgt (nI n) = hg9 (nI (n % 12)) := by
    show (if 6 - (nI n - nI n / 12 * 12) < 0 then -(6 - (nI n - nI n / 12 * 12)) else 6 - (nI n - nI n / 12 * 12)) = _
    rw [e]
    rfl
  rw [e2]
  cases n with
  | zero => decide
  | succ m =>
    have h := wS_r (m % 12) (m / 12)
    rw [show 12 * (m / 12) + m % 12 + 1 = m + 1 by omega] at h
    rw [h, wS_f (m % 12) (by omega), show (m % 12 + 1) % 12 = (m + 1) % 12 by omega]
theorem wa_end {hr : Int32} {i : Nat} {wa : Int32} (hi : i < 2 ^ 31) (hle : i ≤ hr.toInt.toNat) (hw : wa = (wS i).1) (c : hr ≤ nI i) : some (Value.int wa) = some (.int (wS hr.toInt.toNat).1) := by
  have h := Int32.le_iff_toInt_le.mp c
  rw [nI_toInt hi] at h
  rw [hw, show i = hr.toInt.toNat by omega]
def L_X7_heightAgain (g : xg_T) (x : Nat → Nat → Int32) (la : Nat → Nat → Nat) (t : Nat → Int32) (hs : Int32) (r : Option Value) (x' : Nat → Nat → Int32) (la' : Nat → Nat → Nat) (t' : Nat → Int32) : Prop :=
  ((0 ≤ hs ∧ hs ≤ 99) ∧ (r = some (.int (wS (x 0 0 + hs).toInt.toNat).1)) ∧ (x' = x) ∧ (la' = la) ∧ (t' = t))
def E_X7_heightAgain (g : xg_T) (x : Nat → Nat → Int32) (la : Nat → Nat → Nat) (t : Nat → Int32) (hs : Int32) (E : String) (x' : Nat → Nat → Int32) (la' : Nat → Nat → Nat) (t' : Nat → Int32) : Prop :=
  ((E = "java/lang/IllegalArgumentException") ∧ (¬ (0 ≤ hs ∧ hs ≤ 99)) ∧ (x' = x) ∧ (la' = la) ∧ (t' = t))
set_option maxHeartbeats 4000000 in
set_option maxRecDepth 100000 in
theorem e_X7_heightAgain (l : Launch) (hl : l.stackTraces = false) (g : xg_T) (w : xw_T) (sz n : Nat) (x : Nat → Nat → Int32) (la : Nat → Nat → Nat) (t tt : Nat → Int32) (vb : Option Nat) (sg : Nat → Int32) (hC : CR g w sz n x la t tt vb sg) (hs : Int32) : xM l g yX7_heightAgain cX7_heightAgain 6 (some .int) ({ frames := 7, cells := 8, slots := 64, locals := 104 }) 8 64 [.ref (g.2 0), .int hs] w sz (cQ g w sz n tt vb sg (fun r x' la' t' => L_X7_heightAgain g x la t hs r x' la' t')) (cE g w sz n tt vb sg (fun E x' la' t' => E_X7_heightAgain g x la t hs E x' la' t')) := by
  have hz9 := hC.zz
  refine xM.of RX7 hl (by decide +kernel) rfl (Nat.le_of_ble_eq_true rfl) rfl ?_
  intro p e s m args below meth cD C0 hini
  refine x_iload_n 1 1 C0 dX7_heightAgain_0 rfl rfl rfl ?_
  refine x_iconst (v := 0) 2 C0 dX7_heightAgain_1 rfl (by decide) ?_
  refine x_bipush (v := 99) 4 C0 dX7_heightAgain_2 rfl (by decide) ?_
  refine x_callS 7 C0 (k_X7_needRange l hl g _ _ hs 0 99) dX7_heightAgain_4 rfl mC_X7_needRange mM_X7_41 mS_X7_needRange mN_X7 yd_X7_needRange rfl rfl ⟨Nat.le_of_ble_eq_true rfl, Nat.le_of_ble_eq_true rfl⟩ rfl rfl (Nat.le_of_ble_eq_true rfl) ⟨Nat.le_of_ble_eq_true rfl, Nat.le_of_ble_eq_true rfl⟩ (fun E9 w9 sz9 q => by obtain ⟨rfl, rfl, h9, hno9⟩ := q; exact x_out C0 rfl (Nat.le_of_ble_eq_true rfl) (Nat.le_of_ble_eq_true rfl) ⟨xFr.rf, by omega, _, _, _, hC.grow h9, ⟨rfl, hno9, rfl, rfl, rfl⟩⟩) (fun r w1 sz1 hz hP => ?_)
  obtain ⟨rfl, h19, h59, rfl, rfl⟩ := hP
  refine x_st (st1 := []) rfl ?_
  refine x_aload_n 0 8 C0 dX7_heightAgain_7 rfl rfl rfl ?_
  refine x_getf (v := .ref (g.2 0 + 1)) 0 11 C0 dX7_heightAgain_8 rfl hC.1.1 rfl (by decide) inX7 mF_X7_10 rfl ?_
  refine x_getf (v := .int (x 0 0)) 5 14 C0 dX7_heightAgain_11 rfl (HR.ho hC.h0) rfl (by decide) inX4 mF_X7_201 rfl ?_
  refine x_iload_n 1 15 C0 dX7_heightAgain_14 rfl rfl rfl ?_
  refine x_iadd 16 C0 dX7_heightAgain_15 rfl ?_
  obtain ⟨hr, ehr⟩ : ∃ y : Int32, y = (x 0 0) + hs := ⟨_, rfl⟩
  refine x_st (st1 := [.int hr]) (by rw [ehr]) ?_
  refine x_istore_n [(2, .int hr), (0, .ref (g.2 0)), (1, .int hs)] 17 C0 dX7_heightAgain_16 rfl rfl (by decide) rfl ?_
  refine x_lv (lv1 := [(0, .ref (g.2 0)), (1, .int hs), (2, .int hr)]) [1, 2, 0] rfl ?_
  refine x_bipush (v := 6) 19 C0 dX7_heightAgain_17 rfl (by decide) ?_
  refine x_istore_n [(3, .int 6), (0, .ref (g.2 0)), (1, .int hs), (2, .int hr)] 20 C0 dX7_heightAgain_19 rfl rfl (by decide) rfl ?_
  refine x_lv (lv1 := [(0, .ref (g.2 0)), (1, .int hs), (2, .int hr), (3, .int 6)]) [1, 2, 3, 0] rfl ?_
  refine x_iconst (v := (-1)) 21 C0 dX7_heightAgain_20 rfl (by decide) ?_
  refine x_istore [(4, .int (-1)), (0, .ref (g.2 0)), (1, .int hs), (2, .int hr), (3, .int 6)] 23 C0 dX7_heightAgain_21 rfl (by decide) rfl ?_
  refine x_lv (lv1 := [(0, .ref (g.2 0)), (1, .int hs), (2, .int hr), (3, .int 6), (4, .int (-1))]) [1, 2, 3, 4, 0] rfl ?_
  refine x_iconst (v := 0) 24 C0 dX7_heightAgain_23 rfl (by decide) ?_
  refine x_istore [(5, .int 0), (0, .ref (g.2 0)), (1, .int hs), (2, .int hr), (3, .int 6), (4, .int (-1))] 26 C0 dX7_heightAgain_24 rfl (by decide) rfl ?_
  refine x_lv (lv1 := [(0, .ref (g.2 0)), (1, .int hs), (2, .int hr), (3, .int 6), (4, .int (-1)), (5, .int 0)]) [1, 2, 3, 4, 5, 0] rfl ?_
  have loop26 : ∀ (N i : Nat) (wa chg : Int32), i < 2 ^ 31 → hr.toInt - i < N → i ≤ hr.toInt.toNat → wa = (wS i).1 → chg = (wS i).2 → xV p l e ({ frames := 7, cells := 8, slots := 64, locals := 104 }) s m args below meth cD (xQ g below (cQ g w sz n tt vb sg (fun r x' la' t' => L_X7_heightAgain g x la t hs r x' la' t')) (cE g w sz n tt vb sg (fun E x' la' t' => E_X7_heightAgain g x la t hs E x' la' t')) args s 8 64) g 6 w sz (0 + 1) (0 + 6) 26 [(0, .ref (g.2 0)), (1, .int hs), (2, .int hr), (3, .int wa), (4, .int chg), (5, .int (nI i))] [] := by
    intro N
    induction N with
    | zero =>
      intro i wa chg hi hN hle hw hg
      refine x_iload 5 28 C0 dX7_heightAgain_26 rfl rfl ?_
      refine x_iload_n 2 29 C0 dX7_heightAgain_28 rfl rfl rfl ?_
      refine x_icmp_ge 62 32 C0 dX7_heightAgain_29 rfl (by decide) (fun c1 => ?_) (fun c1 => ?_)
      · refine x_iload_n 3 63 C0 dX7_heightAgain_62 rfl rfl rfl ?_
        exact x_ireturn C0 dX7_heightAgain_63 rfl rfl (Nat.le_of_ble_eq_true rfl) (Nat.le_of_ble_eq_true rfl) ⟨⟨_, rfl⟩, xFr.rf, by omega, _, _, _, hC, ⟨⟨h19, h59⟩, by rw [← ehr]; exact wa_end hi hle hw c1, rfl, rfl, rfl⟩⟩
      · have hi2 := lt_nat hi c1
        have hi3 := Int32.toInt_lt hr
        exfalso
        omega
    | succ N ih =>
      intro i wa chg hi hN hle hw hg
      refine x_iload 5 28 C0 dX7_heightAgain_26 rfl rfl ?_
      refine x_iload_n 2 29 C0 dX7_heightAgain_28 rfl rfl rfl ?_
      refine x_icmp_ge 62 32 C0 dX7_heightAgain_29 rfl (by decide) (fun c2 => ?_) (fun c2 => ?_)
      · refine x_iload_n 3 63 C0 dX7_heightAgain_62 rfl rfl rfl ?_
        exact x_ireturn C0 dX7_heightAgain_63 rfl rfl (Nat.le_of_ble_eq_true rfl) (Nat.le_of_ble_eq_true rfl) ⟨⟨_, rfl⟩, xFr.rf, by omega, _, _, _, hC, ⟨⟨h19, h59⟩, by rw [← ehr]; exact wa_end hi hle hw c2, rfl, rfl, rfl⟩⟩
      · have hi2 := lt_nat hi c2
        have hi3 := Int32.toInt_lt hr
        refine x_iload_n 3 33 C0 dX7_heightAgain_32 rfl rfl rfl ?_
        refine x_if_ne 42 36 C0 dX7_heightAgain_33 rfl (by decide) (fun c3 => ?_) (fun c3 => ?_)
        · refine x_iload_n 3 43 C0 dX7_heightAgain_42 rfl rfl rfl ?_
          refine x_bipush (v := 6) 45 C0 dX7_heightAgain_43 rfl (by decide) ?_
          refine x_icmp_ne 51 48 C0 dX7_heightAgain_45 rfl (by decide) (fun c4 => ?_) (fun c4 => ?_)
          · refine x_iload_n 3 52 C0 dX7_heightAgain_51 rfl rfl rfl ?_
            refine x_iload 4 54 C0 dX7_heightAgain_52 rfl rfl ?_
            refine x_iadd 55 C0 dX7_heightAgain_54 rfl ?_
            refine x_istore_n [(3, .int (wa + chg)), (0, .ref (g.2 0)), (1, .int hs), (2, .int hr), (4, .int chg), (5, .int (nI i))] 56 C0 dX7_heightAgain_55 rfl rfl (by decide) rfl ?_
            refine x_lv (lv1 := [(0, .ref (g.2 0)), (1, .int hs), (2, .int hr), (3, .int (wa + chg)), (4, .int chg), (5, .int (nI i))]) [1, 2, 3, 0, 4, 5] rfl ?_
            refine x_iinc [(5, .int (nI (i + 1))), (0, .ref (g.2 0)), (1, .int hs), (2, .int hr), (3, .int (wa + chg)), (4, .int chg)] 5 59 C0 dX7_heightAgain_56 rfl rfl (nI_1 i) (by decide) rfl ?_
            refine x_lv (lv1 := [(0, .ref (g.2 0)), (1, .int hs), (2, .int hr), (3, .int (wa + chg)), (4, .int chg), (5, .int (nI (i + 1)))]) [1, 2, 3, 4, 5, 0] rfl ?_
            refine x_goto 26 C0 dX7_heightAgain_59 (by decide) ?_
            exact x_lv [0, 1, 2, 3, 4, 5] rfl (ih (i + 1) _ _ (by omega) (by omega) (by omega) (wS_s hw hg (by unfold wC; rw [if_neg c3, if_neg c4])).1 (wS_s hw hg (by unfold wC; rw [if_neg c3, if_neg c4])).2)
          · refine x_iconst (v := (-1)) 49 C0 dX7_heightAgain_48 rfl (by decide) ?_
            refine x_istore [(4, .int (-1)), (0, .ref (g.2 0)), (1, .int hs), (2, .int hr), (3, .int wa), (5, .int (nI i))] 51 C0 dX7_heightAgain_49 rfl (by decide) rfl ?_
            refine x_lv (lv1 := [(0, .ref (g.2 0)), (1, .int hs), (2, .int hr), (3, .int wa), (4, .int (-1)), (5, .int (nI i))]) [1, 2, 3, 4, 0, 5] rfl ?_
            refine x_iload_n 3 52 C0 dX7_heightAgain_51 rfl rfl rfl ?_
            refine x_iload 4 54 C0 dX7_heightAgain_52 rfl rfl ?_
            refine x_iadd 55 C0 dX7_heightAgain_54 rfl ?_
            refine x_istore_n [(3, .int (wa + (-1))), (0, .ref (g.2 0)), (1, .int hs), (2, .int hr), (4, .int (-1)), (5, .int (nI i))] 56 C0 dX7_heightAgain_55 rfl rfl (by decide) rfl ?_
            refine x_lv (lv1 := [(0, .ref (g.2 0)), (1, .int hs), (2, .int hr), (3, .int (wa + (-1))), (4, .int (-1)), (5, .int (nI i))]) [1, 2, 3, 0, 4, 5] rfl ?_
            refine x_iinc [(5, .int (nI (i + 1))), (0, .ref (g.2 0)), (1, .int hs), (2, .int hr), (3, .int (wa + (-1))), (4, .int (-1))] 5 59 C0 dX7_heightAgain_56 rfl rfl (nI_1 i) (by decide) rfl ?_
            refine x_lv (lv1 := [(0, .ref (g.2 0)), (1, .int hs), (2, .int hr), (3, .int (wa + (-1))), (4, .int (-1)), (5, .int (nI (i + 1)))]) [1, 2, 3, 4, 5, 0] rfl ?_
            refine x_goto 26 C0 dX7_heightAgain_59 (by decide) ?_
            exact x_lv [0, 1, 2, 3, 4, 5] rfl (ih (i + 1) _ _ (by omega) (by omega) (by omega) (wS_s hw hg (by unfold wC; rw [if_neg c3, if_pos c4])).1 (wS_s hw hg (by unfold wC; rw [if_neg c3, if_pos c4])).2)
        · refine x_iconst (v := 1) 37 C0 dX7_heightAgain_36 rfl (by decide) ?_
          refine x_istore [(4, .int 1), (0, .ref (g.2 0)), (1, .int hs), (2, .int hr), (3, .int wa), (5, .int (nI i))] 39 C0 dX7_heightAgain_37 rfl (by decide) rfl ?_
          refine x_lv (lv1 := [(0, .ref (g.2 0)), (1, .int hs), (2, .int hr), (3, .int wa), (4, .int 1), (5, .int (nI i))]) [1, 2, 3, 4, 0, 5] rfl ?_
          refine x_goto 51 C0 dX7_heightAgain_39 (by decide) ?_
          refine x_iload_n 3 52 C0 dX7_heightAgain_51 rfl rfl rfl ?_
          refine x_iload 4 54 C0 dX7_heightAgain_52 rfl rfl ?_
          refine x_iadd 55 C0 dX7_heightAgain_54 rfl ?_
          refine x_istore_n [(3, .int (wa + 1)), (0, .ref (g.2 0)), (1, .int hs), (2, .int hr), (4, .int 1), (5, .int (nI i))] 56 C0 dX7_heightAgain_55 rfl rfl (by decide) rfl ?_
          refine x_lv (lv1 := [(0, .ref (g.2 0)), (1, .int hs), (2, .int hr), (3, .int (wa + 1)), (4, .int 1), (5, .int (nI i))]) [1, 2, 3, 0, 4, 5] rfl ?_
          refine x_iinc [(5, .int (nI (i + 1))), (0, .ref (g.2 0)), (1, .int hs), (2, .int hr), (3, .int (wa + 1)), (4, .int 1)] 5 59 C0 dX7_heightAgain_56 rfl rfl (nI_1 i) (by decide) rfl ?_
          refine x_lv (lv1 := [(0, .ref (g.2 0)), (1, .int hs), (2, .int hr), (3, .int (wa + 1)), (4, .int 1), (5, .int (nI (i + 1)))]) [1, 2, 3, 4, 5, 0] rfl ?_
          refine x_goto 26 C0 dX7_heightAgain_59 (by decide) ?_
          exact x_lv [0, 1, 2, 3, 4, 5] rfl (ih (i + 1) _ _ (by omega) (by omega) (by omega) (wS_s hw hg (by unfold wC; rw [if_pos c3])).1 (wS_s hw hg (by unfold wC; rw [if_pos c3])).2)
  exact x_lv [0, 1, 2, 3, 4, 5] rfl (loop26 (hr.toInt.toNat + 1) 0 _ _ (by omega) (by omega) (Nat.zero_le _) rfl rfl)

section RHA
variable {g : xg_T} {x x' : Nat → Nat → Int32} {la la' : Nat → Nat → Nat} {t t' v tm tm0 sv pa : Nat → Int32} {r rm : Option Value} {E : String} {z : Int32} {n B : Nat} {ln : Nat → Nat} {lf : Nat → Nat → Int32}
theorem st_heightAgain {hs : Int32} (h : L_X7_heightAgain g x la t hs r x' la' t') : x' = x ∧ la' = la ∧ t' = t := h.2.2
theorem sx_heightAgain {hs : Int32} (h : E_X7_heightAgain g x la t hs E x' la' t') : x' = x ∧ la' = la ∧ t' = t := h.2.2
theorem kc_heightAgain {hs : Int32} (hE : E_X7_heightAgain g x la t hs E x' la' t') : ¬ kc [("java/lang/IllegalArgumentException", 1)] E = 0 := by
  obtain ⟨rfl, -⟩ := hE
  decide +kernel
theorem rd_heightAgain_y (hs : Int32) (hA : hAl (x 0) ln lf v) (hI : KI (4320 * B) tm0 v sv pa) (hB : B ≤ 512) (hQ : Q_X8_heightAgain n tm v hs rm z) (hL : L_X7_heightAgain g x la t hs r x' la' t') : r = rm ∧ z = 0 := by
  obtain ⟨hp, rfl, -⟩ := hL
  obtain ⟨c, hc, e0⟩ := hI.1.1
  obtain ⟨h, h9, rfl⟩ := nI_of2 (M := 99) (n := 99) rfl (Int32.not_lt.mpr hp.1) hp.2
  obtain ⟨a1, t1, hq, hz, rfl⟩ := hQ
  rcases hq with ⟨-, q1, q2⟩ | ⟨q, -⟩
  · refine ⟨?_, hz.trans q1⟩
    rw [q2, ← hA.1.at (q := 0) (by omega), e0, nI_add, nI_toInt (by omega), Int.toNat_natCast, hgt_wS (by omega)]
  · exact absurd hp q
theorem rd_heightAgain_n (hs : Int32) (_ : hAl (x 0) ln lf v) (_ : KI (4320 * B) tm0 v sv pa) (_ : B ≤ 512) (hQ : Q_X8_heightAgain n tm v hs rm z) (hE : E_X7_heightAgain g x la t hs E x' la' t') : z = kc [("java/lang/IllegalArgumentException", 1)] E := by
  obtain ⟨rfl, hp, -⟩ := hE
  obtain ⟨a1, t1, hq, hz, -⟩ := hQ
  rcases hq with ⟨q, -⟩ | ⟨-, q1, -⟩
  · exact absurd q hp
  · exact (hz.trans q1).trans (by decide +kernel)
end RHA

def wetR (v : Nat → Int32) (k : Nat) : Bool := !decide (v (28 + 9 * k + 7) = 3) && !decide (v (28 + 9 * k + 3) = 0)
def wetN (v : Nat → Int32) (n : Nat) : Int32 := hFold (wetR v) (fun _ => 1) n
def wetS (v : Nat → Int32) (n : Nat) : Int32 := hFold (wetR v) (fun k => v (28 + 9 * k + 6)) n
theorem wet_no {v : Nat → Int32} {n : Nat} (h : wetR v n = false) : wetN v n = wetN v (n + 1) ∧ wetS v n = wetS v (n + 1) := by
  constructor
  · show _ = hFold _ _ (n + 1)
    rw [hFold, h]
    rfl
  · show _ = hFold _ _ (n + 1)
    rw [hFold, h]
    rfl
theorem wet_yes {v : Nat → Int32} {n : Nat} (h : wetR v n = true) : wetN v n + 1 = wetN v (n + 1) ∧ wetS v n + v (28 + 9 * n + 6) = wetS v (n + 1) := by
  constructor
  · show _ = hFold _ _ (n + 1)
    rw [hFold, h]
    rfl
  · show _ = hFold _ _ (n + 1)
    rw [hFold, h]
    rfl
def mdV (a c : Int32) : UInt64 := FP.ddiv (FP.i2d a) (FP.i2d c)
def Q_X8_meanDamp (n : Nat) (t v : Nat → Int32) (r : Option Value) (z : Int32) : Prop := ∃ m : Nat, m ≤ 20 ∧ v 3 = nI m ∧ ((¬ wetN v m = 0 ∧ z = 0 ∧ r = some (.double (mdV (wetS v m) (wetN v m)))) ∨ (wetN v m = 0 ∧ z = 1))
def mdC (x : Nat → Int32) (r : Option Value) : Prop := ¬ filledN x 20 = 0 ∧ r = some (.double (mdV (dampN x 20) (filledN x 20)))
set_option maxHeartbeats 4000000 in
set_option maxRecDepth 100000 in
theorem e_X8_meanDamp (l : Launch) (hl : l.stackTraces = false) (g : xg_T) (w : xw_T) (sz n : Nat) (t v bf sv pa lb ip td sg : Nat → Int32) (hM : MR g w t v bf sv pa lb ip td sg) (hJ : MJ n t v bf sv pa sg) : xM l g yX8_meanDamp cX8_meanDamp 4 (some .double) ({ frames := 2, cells := 0, slots := 0, locals := 42 }) 0 0 [.ref (g.2 0 + 258)] w sz (mRd g w sz n t v bf sv pa ip td sg (fun r z => (∃ q : UInt64, r = some (.double q)) ∧ Q_X8_meanDamp n t v r z)) (fun _ _ _ => False) := by
  refine xM.of RX8 hl (by decide +kernel) rfl (Nat.le_of_ble_eq_true rfl) rfl ?_
  intro p e s m args below meth cD C0 hini
  refine x_aload_n 0 1 C0 dX8_meanDamp_0 rfl rfl rfl ?_
  refine x_iconst (v := 0) 2 C0 dX8_meanDamp_1 rfl (by decide) ?_
  refine x_w (MW_self hM) ?_
  refine x_putf 0 5 C0 dX8_meanDamp_2 rfl MR_MW.o (by show g.2 0 ≤ _; omega) rfl (by decide) inX8 tyX8_ok nmX8 mF_X8_34 rfl rfl rfl rfl (Nat.le_of_ble_eq_true rfl) ?_
  refine x_w (w1 := (MW g w (upd t 0 0) v bf sv pa lb ip td sg)) (MW_o rfl) ?_
  have hJ1 : MJ n (upd t 0 0) v bf sv pa sg := hJ.j_t (by decide)
  refine x_iconst (v := 0) 6 C0 dX8_meanDamp_5 rfl (by decide) ?_
  refine x_istore_n [(1, .int 0), (0, .ref (g.2 0 + 258))] 7 C0 dX8_meanDamp_6 rfl rfl (by decide) rfl ?_
  refine x_lv (lv1 := [(0, .ref (g.2 0 + 258)), (1, .int 0)]) [1, 0] rfl ?_
  refine x_iconst (v := 0) 8 C0 dX8_meanDamp_7 rfl (by decide) ?_
  refine x_istore_n [(2, .int 0), (0, .ref (g.2 0 + 258)), (1, .int 0)] 9 C0 dX8_meanDamp_8 rfl rfl (by decide) rfl ?_
  refine x_lv (lv1 := [(0, .ref (g.2 0 + 258)), (1, .int 0), (2, .int 0)]) [1, 2, 0] rfl ?_
  refine x_iconst (v := 0) 10 C0 dX8_meanDamp_9 rfl (by decide) ?_
  refine x_istore_n [(3, .int 0), (0, .ref (g.2 0 + 258)), (1, .int 0), (2, .int 0)] 11 C0 dX8_meanDamp_10 rfl rfl (by decide) rfl ?_
  refine x_lv (lv1 := [(0, .ref (g.2 0 + 258)), (1, .int 0), (2, .int 0), (3, .int 0)]) [1, 2, 3, 0] rfl ?_
  have loop11 : ∀ (N i : Nat) (ac : Int32) (ad : Int32), i ≤ 20 → 20 - i < N → ac = wetN v i → ad = wetS v i → (∀ m, m ≤ 20 → v 3 = nI m → i ≤ m) → xV p l e ({ frames := 2, cells := 0, slots := 0, locals := 42 }) s m args below meth cD (xQ g below (mRd g w sz n t v bf sv pa ip td sg (fun r z => (∃ q : UInt64, r = some (.double q)) ∧ Q_X8_meanDamp n t v r z)) (fun _ _ _ => False) args s 0 0) g 4 (MW g w (upd t 0 0) v bf sv pa lb ip td sg) sz (0) (0) 11 [(0, .ref (g.2 0 + 258)), (1, .int ac), (2, .int ad), (3, .int (nI i))] [] := by
    intro N
    induction N with
    | zero => intro i ac ad h1 h2; omega
    | succ N ih =>
      intro i ac ad hi hN hac had him
      refine x_iload_n 3 12 C0 dX8_meanDamp_11 rfl rfl rfl ?_
      refine x_aload_n 0 13 C0 dX8_meanDamp_12 rfl rfl rfl ?_
      refine x_getf (v := .ref (g.2 0 + 258 + 1)) 8 16 C0 dX8_meanDamp_13 rfl MR_MW.o rfl (by decide) inX8 mF_X8_7 rfl ?_
      refine x_iconst (v := 3) 17 C0 dX8_meanDamp_16 rfl (by decide) ?_
      refine x_iald 0 18 C0 dX8_meanDamp_17 rfl MR_MW.r_v rfl (vp_in_nI (n := 3) (by decide) (by decide)) ?_
      refine x_st (st1 := [.int (v 3), .int (nI i)]) (congrArg (fun z => Value.int z :: _) (show v (nI 3).toNatClampNeg = v 3 from by rw [nI_clamp (by omega)])) ?_
      obtain ⟨nC2, hnC2, hv32⟩ := hJ1.1.n
      have hin := him nC2 hnC2 hv32
      have hun : ∀ m, m ≤ 20 → v 3 = nI m → m = nC2 := fun m h1 h2 => (nI_eq (by omega) (by omega)).mp (h2.symm.trans hv32)
      refine x_st (st1 := [.int (nI nC2), .int (nI i)]) (congrArg (fun z => Value.int z :: _) (hv32)) ?_
      refine x_icmp_ge 70 21 C0 dX8_meanDamp_18 rfl (by decide) (fun c3 => ?_) (fun c3 => ?_)
      · have hii : i = nC2 := Nat.le_antisymm hin ((nI_leI (by omega) (by omega)).mp c3)
        subst hii
        refine x_iload_n 1 71 C0 dX8_meanDamp_70 rfl rfl rfl ?_
        refine x_if_ne 83 74 C0 dX8_meanDamp_71 rfl (by decide) (fun c4 => ?_) (fun c4 => ?_)
        · refine x_iload_n 2 84 C0 dX8_meanDamp_83 rfl rfl rfl ?_
          refine x_i2d 85 C0 dX8_meanDamp_84 rfl ?_
          refine x_iload_n 1 86 C0 dX8_meanDamp_85 rfl rfl rfl ?_
          refine x_i2d 87 C0 dX8_meanDamp_86 rfl ?_
          refine x_ddiv 88 C0 dX8_meanDamp_87 rfl (ddiv_ok _ c4) ?_
          exact x_dreturn C0 dX8_meanDamp_88 rfl (Nat.le_of_ble_eq_true rfl) (Nat.le_of_ble_eq_true rfl) ⟨rfl, _, _, rfl, hJ1, (tL.rf.up (by decide)), ⟨⟨_, rfl⟩, i, hnC2, hv32, Or.inl ⟨by rw [← hac]; exact c4, rfl, by rw [← hac, ← had]; rfl⟩⟩⟩
        · refine x_aload_n 0 75 C0 dX8_meanDamp_74 rfl rfl rfl ?_
          refine x_iconst (v := 1) 76 C0 dX8_meanDamp_75 rfl (by decide) ?_
          refine x_callV 79 C0 (k_X8_no l hl g _ _ n (upd t 0 0) v bf sv pa lb ip td sg MR_MW hJ1 1) dX8_meanDamp_76 rfl mC_X8_no mM_X8_61 mI_X8_no mV_X8_no mN_X8 yd_X8_no rfl rfl ⟨Nat.le_of_ble_eq_true rfl, Nat.le_of_ble_eq_true rfl⟩ MR_MW.o rfl rfl rfl rfl (Nat.le_of_ble_eq_true rfl) ⟨Nat.le_of_ble_eq_true rfl, Nat.le_of_ble_eq_true rfl⟩ (fun _ _ _ q => False.elim q) (fun r w1 sz1 hz hP => ?_)
          obtain ⟨rfl, rfl, rfl⟩ := hP
          refine x_w MW_MW ?_
          have hJ5 : MJ n (upd (upd t 0 0) 0 1) v bf sv pa sg := (hJ1.j_t (by decide))
          refine x_st (st1 := [.int 0]) rfl ?_
          refine x_i2d 80 C0 dX8_meanDamp_79 rfl ?_
          refine x_goto 88 C0 dX8_meanDamp_80 (by decide) ?_
          exact x_dreturn C0 dX8_meanDamp_88 rfl (Nat.le_of_ble_eq_true rfl) (Nat.le_of_ble_eq_true rfl) ⟨rfl, _, _, rfl, hJ5, ((tL.rf.up (by decide)).up (by decide)), ⟨⟨_, rfl⟩, i, hnC2, hv32, Or.inr ⟨by rw [← hac]; exact c4, rfl⟩⟩⟩
      · have hi2 : i < nC2 := Nat.lt_of_not_le (fun z => c3 (nI_le (a := nC2) z (by omega)))
        refine x_aload_n 0 22 C0 dX8_meanDamp_21 rfl rfl rfl ?_
        refine x_getf (v := .ref (g.2 0 + 258 + 1)) 8 25 C0 dX8_meanDamp_22 rfl MR_MW.o rfl (by decide) inX8 mF_X8_7 rfl ?_
        refine x_iload_n 3 26 C0 dX8_meanDamp_25 rfl rfl rfl ?_
        refine x_bipush (v := 7) 28 C0 dX8_meanDamp_26 rfl (by decide) ?_
        refine x_callS 31 C0 (k_X8_at l hl g _ _ (nI i) 7) dX8_meanDamp_28 rfl mC_X8_at mM_X8_71 mS_X8_at mN_X8 yd_X8_at rfl rfl ⟨Nat.le_of_ble_eq_true rfl, Nat.le_of_ble_eq_true rfl⟩ rfl rfl (Nat.le_of_ble_eq_true rfl) ⟨Nat.le_of_ble_eq_true rfl, Nat.le_of_ble_eq_true rfl⟩ (fun _ _ _ q => False.elim q) (fun r w1 sz1 hz hP => ?_)
        obtain ⟨rfl, rfl, rfl⟩ := hP
        refine x_st (st1 := [.int (nI (28 + 9 * i + 7)), .ref (g.2 0 + 258 + 1)]) (congrArg (fun z => Value.int z :: _) (at_nI 28 9 i 7)) ?_
        refine x_iald 0 32 C0 dX8_meanDamp_31 rfl MR_MW.r_v rfl (vp_in_nI (n := 28 + 9 * i + 7) (by omega) (by decide)) ?_
        refine x_st (st1 := [.int (v (28 + 9 * i + 7))]) (congrArg (fun z => Value.int z :: _) (show v (nI (28 + 9 * i + 7)).toNatClampNeg = v (28 + 9 * i + 7) from by rw [nI_clamp (by omega)])) ?_
        refine x_iconst (v := 3) 33 C0 dX8_meanDamp_32 rfl (by decide) ?_
        refine x_icmp_eq 64 36 C0 dX8_meanDamp_33 rfl (by decide) (fun c6 => ?_) (fun c6 => ?_)
        · refine x_iinc [(3, .int (nI (i + 1))), (0, .ref (g.2 0 + 258)), (1, .int ac), (2, .int ad)] 3 67 C0 dX8_meanDamp_64 rfl rfl (nI_1 i) (by decide) rfl ?_
          refine x_lv (lv1 := [(0, .ref (g.2 0 + 258)), (1, .int ac), (2, .int ad), (3, .int (nI (i + 1)))]) [1, 2, 3, 0] rfl ?_
          refine x_goto 11 C0 dX8_meanDamp_67 (by decide) ?_
          exact x_lv [0, 1, 2, 3] rfl (ih (i + 1) _ _ (by omega) (by omega) (hac.trans (wet_no (by unfold wetR; rw [decide_eq_true c6]; rfl)).1) (had.trans (wet_no (by unfold wetR; rw [decide_eq_true c6]; rfl)).2) (fun m h1 h2 => by have := hun m h1 h2; omega))
        · refine x_aload_n 0 37 C0 dX8_meanDamp_36 rfl rfl rfl ?_
          refine x_iload_n 3 38 C0 dX8_meanDamp_37 rfl rfl rfl ?_
          refine x_callV 41 C0 (k_X8_isEmpty l hl g _ _ n (upd t 0 0) v bf sv pa lb ip td sg MR_MW hJ1 i (by omega)) dX8_meanDamp_38 rfl mC_X8_isEmpty mM_X8_118 mI_X8_isEmpty mV_X8_isEmpty mN_X8 yd_X8_isEmpty rfl rfl ⟨Nat.le_of_ble_eq_true rfl, Nat.le_of_ble_eq_true rfl⟩ MR_MW.o rfl rfl rfl rfl (Nat.le_of_ble_eq_true rfl) ⟨Nat.le_of_ble_eq_true rfl, Nat.le_of_ble_eq_true rfl⟩ (fun _ _ _ q => False.elim q) (fun r w1 sz1 hz hP => ?_)
          obtain ⟨hR7, rfl, rfl⟩ := hP
          rcases hR7 with ⟨rfl, hq7⟩ | ⟨rfl, hq7⟩
          · refine x_st (st1 := [.int 1]) rfl ?_
            refine x_if_eq 47 44 C0 dX8_meanDamp_41 rfl (by decide) (fun q => False.elim (by revert q; decide)) (fun _ => ?_)
            refine x_goto 64 C0 dX8_meanDamp_44 (by decide) ?_
            refine x_iinc [(3, .int (nI (i + 1))), (0, .ref (g.2 0 + 258)), (1, .int ac), (2, .int ad)] 3 67 C0 dX8_meanDamp_64 rfl rfl (nI_1 i) (by decide) rfl ?_
            refine x_lv (lv1 := [(0, .ref (g.2 0 + 258)), (1, .int ac), (2, .int ad), (3, .int (nI (i + 1)))]) [1, 2, 3, 0] rfl ?_
            refine x_goto 11 C0 dX8_meanDamp_67 (by decide) ?_
            exact x_lv [0, 1, 2, 3] rfl (ih (i + 1) _ _ (by omega) (by omega) (hac.trans (wet_no (by unfold wetR; rw [decide_eq_true hq7]; cases decide (v (28 + 9 * i + 7) = 3) <;> rfl)).1) (had.trans (wet_no (by unfold wetR; rw [decide_eq_true hq7]; cases decide (v (28 + 9 * i + 7) = 3) <;> rfl)).2) (fun m h1 h2 => by have := hun m h1 h2; omega))
          · refine x_st (st1 := [.int 0]) rfl ?_
            refine x_if_eq 47 44 C0 dX8_meanDamp_41 rfl (by decide) (fun _ => ?_) (fun q => False.elim (by revert q; decide))
            refine x_iinc [(1, .int (ac + 1)), (0, .ref (g.2 0 + 258)), (2, .int ad), (3, .int (nI i))] 1 50 C0 dX8_meanDamp_47 rfl rfl rfl (by decide) rfl ?_
            refine x_lv (lv1 := [(0, .ref (g.2 0 + 258)), (1, .int (ac + 1)), (2, .int ad), (3, .int (nI i))]) [1, 0, 2, 3] rfl ?_
            refine x_iload_n 2 51 C0 dX8_meanDamp_50 rfl rfl rfl ?_
            refine x_aload_n 0 52 C0 dX8_meanDamp_51 rfl rfl rfl ?_
            refine x_getf (v := .ref (g.2 0 + 258 + 1)) 8 55 C0 dX8_meanDamp_52 rfl MR_MW.o rfl (by decide) inX8 mF_X8_7 rfl ?_
            refine x_iload_n 3 56 C0 dX8_meanDamp_55 rfl rfl rfl ?_
            refine x_bipush (v := 6) 58 C0 dX8_meanDamp_56 rfl (by decide) ?_
            refine x_callS 61 C0 (k_X8_at l hl g _ _ (nI i) 6) dX8_meanDamp_58 rfl mC_X8_at mM_X8_71 mS_X8_at mN_X8 yd_X8_at rfl rfl ⟨Nat.le_of_ble_eq_true rfl, Nat.le_of_ble_eq_true rfl⟩ rfl rfl (Nat.le_of_ble_eq_true rfl) ⟨Nat.le_of_ble_eq_true rfl, Nat.le_of_ble_eq_true rfl⟩ (fun _ _ _ q => False.elim q) (fun r w1 sz1 hz hP => ?_)
            obtain ⟨rfl, rfl, rfl⟩ := hP
            refine x_st (st1 := [.int (nI (28 + 9 * i + 6)), .ref (g.2 0 + 258 + 1), .int ad]) (congrArg (fun z => Value.int z :: _) (at_nI 28 9 i 6)) ?_
            refine x_iald 0 62 C0 dX8_meanDamp_61 rfl MR_MW.r_v rfl (vp_in_nI (n := 28 + 9 * i + 6) (by omega) (by decide)) ?_
            refine x_st (st1 := [.int (v (28 + 9 * i + 6)), .int ad]) (congrArg (fun z => Value.int z :: _) (show v (nI (28 + 9 * i + 6)).toNatClampNeg = v (28 + 9 * i + 6) from by rw [nI_clamp (by omega)])) ?_
            refine x_iadd 63 C0 dX8_meanDamp_62 rfl ?_
            refine x_istore_n [(2, .int (ad + (v (28 + 9 * i + 6)))), (0, .ref (g.2 0 + 258)), (1, .int (ac + 1)), (3, .int (nI i))] 64 C0 dX8_meanDamp_63 rfl rfl (by decide) rfl ?_
            refine x_lv (lv1 := [(0, .ref (g.2 0 + 258)), (1, .int (ac + 1)), (2, .int (ad + (v (28 + 9 * i + 6)))), (3, .int (nI i))]) [1, 2, 0, 3] rfl ?_
            refine x_iinc [(3, .int (nI (i + 1))), (0, .ref (g.2 0 + 258)), (1, .int (ac + 1)), (2, .int (ad + (v (28 + 9 * i + 6))))] 3 67 C0 dX8_meanDamp_64 rfl rfl (nI_1 i) (by decide) rfl ?_
            refine x_lv (lv1 := [(0, .ref (g.2 0 + 258)), (1, .int (ac + 1)), (2, .int (ad + (v (28 + 9 * i + 6)))), (3, .int (nI (i + 1)))]) [1, 2, 3, 0] rfl ?_
            refine x_goto 11 C0 dX8_meanDamp_67 (by decide) ?_
            exact x_lv [0, 1, 2, 3] rfl (ih (i + 1) _ _ (by omega) (by omega) (by rw [hac]; exact (wet_yes (by unfold wetR; rw [decide_eq_false c6, decide_eq_false hq7]; rfl)).1) (by rw [had]; exact (wet_yes (by unfold wetR; rw [decide_eq_false c6, decide_eq_false hq7]; rfl)).2) (fun m h1 h2 => by have := hun m h1 h2; omega))
  exact x_lv [0, 1, 2, 3] rfl (loop11 (20 + 1) 0 _ _ (by omega) (by omega) rfl rfl (fun m _ _ => Nat.zero_le m))

set_option maxHeartbeats 4000000 in
set_option maxRecDepth 100000 in
theorem f9_X7_meanDamp (l : Launch) (hl : l.stackTraces = false) (g : xg_T) (w : xw_T) (sz n : Nat) (x : Nat → Nat → Int32) (la : Nat → Nat → Nat) (t tt : Nat → Int32) (vb : Option Nat) (sg : Nat → Int32) (hC : CR g w sz n x la t tt vb sg) : xM l g yX7_meanDamp cX7_meanDamp 2 (some .double) ({ frames := 6, cells := 8, slots := 64, locals := 82 }) 8 64 [.ref (g.2 0)] w sz (fPo g w sz n x la t tt vb sg (mdC (x 0))) (fun E9 w9 sz9 => filledN (x 0) 20 = 0 ∧ fXo g w sz n x la t tt vb sg ["java/lang/ArithmeticException"] E9 w9 sz9) := by
  have hz9 := hC.zz
  refine xM.of RX7 hl (by decide +kernel) rfl (Nat.le_of_ble_eq_true rfl) rfl ?_
  intro p e s m args below meth cD C0 hini
  refine x_aload_n 0 1 C0 dX7_meanDamp_0 rfl rfl rfl ?_
  refine x_getf (v := .ref (g.2 0 + 1)) 0 4 C0 dX7_meanDamp_1 rfl hC.1.1 rfl (by decide) inX7 mF_X7_10 rfl ?_
  refine x_callV 7 C0 (k_X4_filledChests l hl g _ _ _ _ _ hC.h0) dX7_meanDamp_4 rfl mC_X4_filledChests mM_X7_228 mI_X4_filledChests mV_X4_filledChests mN_X4 yd_X4_filledChests rfl rfl ⟨Nat.le_of_ble_eq_true rfl, Nat.le_of_ble_eq_true rfl⟩ (HR.ho hC.h0) rfl rfl rfl rfl (Nat.le_of_ble_eq_true rfl) ⟨Nat.le_of_ble_eq_true rfl, Nat.le_of_ble_eq_true rfl⟩ (fun _ _ _ q => False.elim q) (fun r w1 sz1 hz hP => ?_)
  obtain ⟨hr, rfl, rfl⟩ := hP
  obtain ⟨v1, rfl⟩ : ∃ v : Int32, r = some (.int v) := ⟨_, hr⟩
  have hr1 := hr
  have e1 := Value.int.inj (Option.some.inj hr1)
  refine x_st (st1 := [.int v1]) rfl ?_
  refine x_istore_n [(1, .int v1), (0, .ref (g.2 0))] 8 C0 dX7_meanDamp_7 rfl rfl (by decide) rfl ?_
  refine x_lv (lv1 := [(0, .ref (g.2 0)), (1, .int v1)]) [1, 0] rfl ?_
  refine x_iload_n 1 9 C0 dX7_meanDamp_8 rfl rfl rfl ?_
  refine x_if_ne 22 12 C0 dX7_meanDamp_9 rfl (by decide) (fun c2 => ?_) (fun c2 => ?_)
  · refine x_aload_n 0 23 C0 dX7_meanDamp_22 rfl rfl rfl ?_
    refine x_getf (v := .ref (g.2 0 + 1)) 0 26 C0 dX7_meanDamp_23 rfl hC.1.1 rfl (by decide) inX7 mF_X7_10 rfl ?_
    refine x_callV 29 C0 (k_X4_sumOfDamp l hl g _ _ _ _ _ hC.h0) dX7_meanDamp_26 rfl mC_X4_sumOfDamp mM_X7_236 mI_X4_sumOfDamp mV_X4_sumOfDamp mN_X4 yd_X4_sumOfDamp rfl rfl ⟨Nat.le_of_ble_eq_true rfl, Nat.le_of_ble_eq_true rfl⟩ (HR.ho hC.h0) rfl rfl rfl rfl (Nat.le_of_ble_eq_true rfl) ⟨Nat.le_of_ble_eq_true rfl, Nat.le_of_ble_eq_true rfl⟩ (fun _ _ _ q => False.elim q) (fun r w1 sz1 hz hP => ?_)
    obtain ⟨hr, rfl, rfl⟩ := hP
    obtain ⟨v3, rfl⟩ : ∃ v : Int32, r = some (.int v) := ⟨_, hr⟩
    have hr3 := hr
    have e3 := Value.int.inj (Option.some.inj hr3)
    refine x_st (st1 := [.int v3]) rfl ?_
    refine x_i2d 30 C0 dX7_meanDamp_29 rfl ?_
    refine x_iload_n 1 31 C0 dX7_meanDamp_30 rfl rfl rfl ?_
    refine x_i2d 32 C0 dX7_meanDamp_31 rfl ?_
    refine x_ddiv 33 C0 dX7_meanDamp_32 rfl (ddiv_ok _ c2) ?_
    exact x_dreturn C0 dX7_meanDamp_33 rfl (Nat.le_of_ble_eq_true rfl) (Nat.le_of_ble_eq_true rfl) ⟨⟨fun q => c2 (e1.trans q), by rw [← e1, ← e3]; rfl⟩, hC, xFr.rf, by omega⟩
  · exact x_throwS xNames C0 dX7_meanDamp_12 dX7_meanDamp_15 dX7_meanDamp_16 dX7_meanDamp_18 dX7_meanDamp_21 rfl rfl rfl rfl (by decide +kernel) (by decide +kernel) mK_X7_231 mN_ArithmeticException (xs_ldc C0.2.2.2.2.2.2.2.1.2.2 (RX7, 233, "no chests with leaves", 143) (by decide +kernel)) (xhat C0 xg_are xh_are (by decide +kernel)) xo_are (xs_us C0.2.2.2.2.2.2.2.1.2.2) (xs_su C0.2.2.2.2.2.2.2.1.2.2) rfl (Nat.le_of_ble_eq_true rfl) (Nat.le_of_ble_eq_true rfl) (Nat.le_of_ble_eq_true rfl) (Nat.le_of_ble_eq_true rfl) (Nat.le_of_ble_eq_true rfl) (Nat.le_of_ble_eq_true rfl) (fun sz9 h9 => ⟨e1.symm.trans c2, by decide, (hC.grow h9), xFr.rf, by omega⟩)

theorem hFold_z {q1 q2 : Nat → Bool} {f : Nat → Int32} : ∀ n, (∀ k, k < n → q1 k = q2 k ∨ (q1 k = true ∧ q2 k = false ∧ f k = 0)) → hFold q1 f n = hFold q2 f n := by
  intro n
  induction n with
  | zero => intro _; rfl
  | succ n ih =>
    intro h
    have i := ih (fun k hk => h k (by omega))
    rw [hFold, hFold, i]
    rcases h n (by omega) with e | ⟨e1, e2, e3⟩
    · rw [e]
    · rw [e1, e2, if_pos rfl, if_neg (by decide), e3, Int32.add_zero]
theorem wet_row {k : Nat} {y u : Nat → Int32} (hA : alk y u) (hx : hok y) (h : KP k u) {m : Nat} (hm : m ≤ 20) (e3 : y 3 = nI m) : filledN y 20 = wetN u m ∧ dampN y 20 = wetS u m := by
  have hB : ∀ q, q < m → (cThere (row y q) && decide (0 < y (28 + 9 * q + 3))) = wetR u q := fun q hq => by
    have hl := hA.lt hm e3 hq
    rw [there_eq hA hl (by omega)]
    unfold wetR
    rw [hA.row hl (by omega) (j := 3) (by omega), ← decide_not (p := y (28 + 9 * q + 3) = 0), decide_eq_decide.mpr (hx.po (k := q) (by omega))]
  refine ⟨hFold_al (fun q hq => ⟨hB q hq, rfl⟩) (fun q hq h20 => ?_) hm, ?_⟩
  · show (cThere (row y q) && _) = false
    rw [there_no hA hm e3 hq h20]
    rfl
  · have e1 : dampN y 20 = hFold (fun q => cThere (row y q) && decide (0 < y (28 + 9 * q + 3))) (fun q => y (28 + 9 * q + 6)) 20 := by
      refine hFold_z 20 (fun q hq => ?_)
      by_cases hp : 0 < y (28 + 9 * q + 3)
      · exact Or.inl (by show cThere (row y q) = (cThere (row y q) && decide (0 < y (28 + 9 * q + 3))); rw [decide_eq_true hp, Bool.and_true])
      · cases ht : cThere (row y q) with
        | false => exact Or.inl rfl
        | true =>
          refine Or.inr ⟨rfl, (Bool.true_and _).trans (decide_eq_false hp), ?_⟩
          show y (28 + 9 * q + 6) = 0
          rcases Nat.lt_or_ge q m with hqm | hqm
          · have hl := hA.lt hm e3 hqm
            obtain ⟨z, p, hz5, hp5, -, a4, a5⟩ := h.2.2 q hq
            rw [← hA.row hl hq (j := 6) (by omega)]
            refine a5 ?_
            have h3 : u (28 + 9 * q + 3) = 0 := by
              rw [hA.row hl hq (j := 3) (by omega)]
              exact Classical.byContradiction (fun z => hp ((hx.po hq).mpr z))
            rw [a4] at h3
            rcases Nat.eq_zero_or_pos p with e | e
            · exact e
            · have : p < 2 ^ 31 := by omega
              exact absurd h3 (nI_ne0 e this)
          · rw [hA.blank hm e3 hqm hq (j := 6) (by omega)]
            rfl
    rw [e1]
    refine hFold_al (fun q hq => ⟨hB q hq, (hA.row (hA.lt hm e3 hq) (by omega) (j := 6) (by omega)).symm⟩) (fun q hq h20 => ?_) hm
    show (cThere (row y q) && _) = false
    rw [there_no hA hm e3 hq h20]
    rfl
theorem rd_meanDamp_y {b n : Nat} {x tm tm0 v sv pa : Nat → Int32} {ln : Nat → Nat} {lf : Nat → Nat → Int32} {d : UInt64} {z : Int32} (hA : hAl x ln lf v) (hx : hok x) (hI : KI b tm0 v sv pa) (h0 : ¬ filledN x 20 = 0) (hQ : Q_X8_meanDamp n tm v (some (.double d)) z) : z = 0 ∧ mdV (dampN x 20) (filledN x 20) = d ∧ vf_n64 (mdV (dampN x 20) (filledN x 20)) := by
  obtain ⟨m, hm, e3, hQ⟩ := hQ
  obtain ⟨w1, w2⟩ := wet_row hA.1 hx hI.1 hm ((hA.1.at (q := 3) (by omega)).symm.trans e3)
  have hn : vf_n64 (mdV (dampN x 20) (filledN x 20)) := ddiv_ok _ h0
  rcases hQ with ⟨-, q1, q2⟩ | ⟨q, -⟩
  · exact ⟨q1, by rw [w1, w2]; exact (Value.double.inj (Option.some.inj q2)).symm, hn⟩
  · exact absurd (w1.trans q) h0
theorem rd_meanDamp_n {b n : Nat} {x tm tm0 v sv pa : Nat → Int32} {ln : Nat → Nat} {lf : Nat → Nat → Int32} {d : UInt64} {z : Int32} (hA : hAl x ln lf v) (hx : hok x) (hI : KI b tm0 v sv pa) (h0 : filledN x 20 = 0) (hQ : Q_X8_meanDamp n tm v (some (.double d)) z) : z = 1 := by
  obtain ⟨m, hm, e3, hQ⟩ := hQ
  obtain ⟨w1, w2⟩ := wet_row hA.1 hx hI.1 hm ((hA.1.at (q := 3) (by omega)).symm.trans e3)
  rcases hQ with ⟨q, -⟩ | ⟨-, q1⟩
  · exact absurd (w1.symm.trans h0) q
  · exact q1
