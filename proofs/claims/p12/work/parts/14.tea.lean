/-! THE CLASS: each method ends or throws what it may, and the object keeps its state in order -/
theorem i32_range {v : Int32} {a b : Nat} {A Bq : Int32} (hA : A = nI a) (hB : Bq = nI b) (ha : a < 1000) (hb : b < 1000) (h1 : A ≤ v) (h2 : v ≤ Bq) : ∃ q : Nat, v = nI q ∧ a ≤ q ∧ q ≤ b := by
  subst hA hB
  obtain ⟨q, rfl, hq⟩ := i32_nat (a := v) (n := b + 1) rfl (by omega) (Int32.le_trans (nI_pos' (by omega)) h1) (Int32.lt_of_le_of_lt h2 (nI_lt (by omega) (by omega)))
  exact ⟨q, rfl, (nI_leI (by omega) (by omega)).mp h1, by omega⟩
theorem lt_nat {i : Nat} {h : Int32} (hi : i < 2 ^ 31) (c : ¬ h ≤ nI i) : (i : Int) < h.toInt := by
  rw [Int32.le_iff_toInt_le, nI_toInt hi] at c
  omega
/-- a chest labelled, or refused -/
theorem CR.label {g : xg_T} {w w1 : xw_T} {sz sz1 n : Nat} {x : Nat → Nat → Int32} {la : Nat → Nat → Nat} {t tt : Nat → Int32} {vb : Option Nat} {sg : Nat → Int32} {r : Option Value} (hC : CR g w sz n x la t tt vb sg) {k : Nat} (hk : k < 20)
    (hP : (labelOk (x 0) k ∧ r = some (.int 1) ∧ (∃ w2 : xw_T, xExt (HW g w (g.2 0 + 1) (x 0) (la 0)) w2 sz ∧ w1 = HW g w2 (g.2 0 + 1) (x 0) (va_up (la 0) k (sz + 2)) ∧ xTx g w2 (sz + 1 + 1 + 1 + 1) (sz + 2) (labLen (x 0) k) (labTxt (x 0) k)) ∧ sz + 1 + 1 + 1 + 1 = sz1) ∨ (¬ labelOk (x 0) k ∧ r = some (.int 0) ∧ (∃ x', refd (x 0) x' ∧ w1 = HW g w (g.2 0 + 1) x' (la 0)) ∧ sz = sz1)) :
    ∃ (b : Int32) (x9 : Nat → Nat → Int32) (la9 : Nat → Nat → Nat), r = some (.int b) ∧ isB b ∧ CR g w1 sz1 n x9 la9 t tt vb sg ∧ xFr g w w1 sz ∧ sz ≤ sz1 := by
  have hz := hC.zz
  rcases hP with ⟨hO, rfl, ⟨w2, hE, rfl, hT⟩, rfl⟩ | ⟨-, rfl, ⟨x', hr, rfl⟩, rfl⟩
  · have e2 : ∀ q, q < sz → w2 q = w q := fun q hq => (hE q hq).trans (congrFun (HW_self hC.h0) q).symm
    have hC2 : CR g w2 (sz + 1 + 1 + 1 + 1) n x la t tt vb sg := hC.go (fun q _ h2 => e2 q (by omega)) (fun q _ h2 => e2 q h2) (by omega)
    exact ⟨1, _, _, rfl, Or.inr rfl, hC2.set0 hC.k0 (hC2.l0.set hT (labTxt_ch hC.k0 hk hO.2)), fun q q1 q2 => (HW_ne (by omega)).trans (e2 q q2), by omega⟩
  · exact ⟨0, _, _, rfl, Or.inl rfl, hC.set0 (hC.k0.refu hr) hC.l0, xFr.hw (by omega), Nat.le_refl _⟩

set_option maxHeartbeats 4000000 in
set_option maxRecDepth 100000 in
theorem k_X7_isWithin (l : Launch) (hl : l.stackTraces = false) (g : xg_T) (w : xw_T) (sz : Nat) (v a b : Int32) : xM l g yX7_isWithin cX7_isWithin 3 (some .boolean) ({ frames := 0, cells := 0, slots := 0, locals := 0 }) 0 0 [.int v, .int a, .int b] w sz (fun r w1 sz1 => ((r = some (.int 1) ∧ a ≤ v ∧ v ≤ b) ∨ (r = some (.int 0) ∧ ¬ (a ≤ v ∧ v ≤ b))) ∧ w = w1 ∧ sz = sz1) (fun _ _ _ => False) := by
  refine xM.of RX7 hl (by decide +kernel) rfl (Nat.le_of_ble_eq_true rfl) rfl ?_
  intro p e s m args below meth cD C0 hini
  refine x_iload_n 0 1 C0 dX7_isWithin_0 rfl rfl rfl ?_
  refine x_iload_n 1 2 C0 dX7_isWithin_1 rfl rfl rfl ?_
  refine x_icmp_lt 14 5 C0 dX7_isWithin_2 rfl (by decide) (fun c1 => ?_) (fun c1 => ?_)
  · have c1' := Int32.not_le.mpr c1
    refine x_iconst (v := 0) 15 C0 dX7_isWithin_14 rfl (by decide) ?_
    exact x_ireturn C0 dX7_isWithin_15 rfl rfl (Nat.le_of_ble_eq_true rfl) (Nat.le_of_ble_eq_true rfl) ⟨Or.inr ⟨rfl, fun z => absurd z.1 c1'⟩, rfl, rfl⟩
  · have c1' := Int32.not_lt.mp c1
    refine x_iload_n 0 6 C0 dX7_isWithin_5 rfl rfl rfl ?_
    refine x_iload_n 2 7 C0 dX7_isWithin_6 rfl rfl rfl ?_
    refine x_icmp_gt 14 10 C0 dX7_isWithin_7 rfl (by decide) (fun c2 => ?_) (fun c2 => ?_)
    · have c2' := Int32.not_le.mpr c2
      refine x_iconst (v := 0) 15 C0 dX7_isWithin_14 rfl (by decide) ?_
      exact x_ireturn C0 dX7_isWithin_15 rfl rfl (Nat.le_of_ble_eq_true rfl) (Nat.le_of_ble_eq_true rfl) ⟨Or.inr ⟨rfl, fun z => absurd z.2 c2'⟩, rfl, rfl⟩
    · have c2' := Int32.not_lt.mp c2
      refine x_iconst (v := 1) 11 C0 dX7_isWithin_10 rfl (by decide) ?_
      refine x_goto 15 C0 dX7_isWithin_11 (by decide) ?_
      exact x_ireturn C0 dX7_isWithin_15 rfl rfl (Nat.le_of_ble_eq_true rfl) (Nat.le_of_ble_eq_true rfl) ⟨Or.inl ⟨rfl, c1', c2'⟩, rfl, rfl⟩

set_option maxHeartbeats 4000000 in
set_option maxRecDepth 100000 in
theorem k_X7_needRange (l : Launch) (hl : l.stackTraces = false) (g : xg_T) (w : xw_T) (sz : Nat) (v a b : Int32) : xM l g yX7_needRange cX7_needRange 3 none ({ frames := 6, cells := 1, slots := 6, locals := 82 }) 1 6 [.int v, .int a, .int b] w sz (fun r w1 sz1 => r = none ∧ a ≤ v ∧ v ≤ b ∧ w = w1 ∧ sz = sz1) (fun E w1 sz1 => E = "java/lang/IllegalArgumentException" ∧ w = w1 ∧ sz ≤ sz1 ∧ ¬ (a ≤ v ∧ v ≤ b)) := by
  refine xM.of RX7 hl (by decide +kernel) rfl (Nat.le_of_ble_eq_true rfl) rfl ?_
  intro p e s m args below meth cD C0 hini
  refine x_iload_n 0 1 C0 dX7_needRange_0 rfl rfl rfl ?_
  refine x_iload_n 1 2 C0 dX7_needRange_1 rfl rfl rfl ?_
  refine x_iload_n 2 3 C0 dX7_needRange_2 rfl rfl rfl ?_
  refine x_callS 6 C0 (k_X7_isWithin l hl g _ _ v a b) dX7_needRange_3 rfl mC_X7_isWithin mM_X7_299 mS_X7_isWithin mN_X7 yd_X7_isWithin rfl rfl ⟨Nat.le_of_ble_eq_true rfl, Nat.le_of_ble_eq_true rfl⟩ rfl rfl (Nat.le_of_ble_eq_true rfl) ⟨Nat.le_of_ble_eq_true rfl, Nat.le_of_ble_eq_true rfl⟩ (fun _ _ _ q => False.elim q) (fun r w1 sz1 hz hP => ?_)
  obtain ⟨hr, rfl, rfl⟩ := hP
  rcases hr with ⟨rfl, ha1, hb1⟩ | ⟨rfl, hx1⟩
  · refine x_st (st1 := [.int 1]) rfl ?_
    refine x_if_ne 20 9 C0 dX7_needRange_6 rfl (by decide) (fun _ => ?_) (fun q => False.elim (by revert q; decide))
    exact x_return C0 dX7_needRange_20 rfl (Nat.le_of_ble_eq_true rfl) (Nat.le_of_ble_eq_true rfl) ⟨rfl, ha1, hb1, rfl, rfl⟩
  · refine x_st (st1 := [.int 0]) rfl ?_
    refine x_if_ne 20 9 C0 dX7_needRange_6 rfl (by decide) (fun q => False.elim (by revert q; decide)) (fun _ => ?_)
    exact x_throwSW xNames C0 dX7_needRange_9 dX7_needRange_12 dX7_needRange_13 dX7_needRange_16 dX7_needRange_19 rfl rfl rfl rfl (by decide +kernel) (by decide +kernel) mK_X7_166 mN_IllegalArgumentException (xs_ldc C0.2.2.2.2.2.2.2.1.2.2 (RX7, 302, "a number is out of range", 150) (by decide +kernel)) (xhat C0 xg_iae xh_iae (by decide +kernel)) xo_iae (xs_us C0.2.2.2.2.2.2.2.1.2.2) (xs_su C0.2.2.2.2.2.2.2.1.2.2) rfl (Nat.le_of_ble_eq_true rfl) (Nat.le_of_ble_eq_true rfl) (Nat.le_of_ble_eq_true rfl) (Nat.le_of_ble_eq_true rfl) (Nat.le_of_ble_eq_true rfl) (Nat.le_of_ble_eq_true rfl) (fun sz9 h9 => ⟨rfl, rfl, h9, hx1⟩)

set_option maxHeartbeats 4000000 in
set_option maxRecDepth 100000 in
theorem k_X7_needLeaf (l : Launch) (hl : l.stackTraces = false) (g : xg_T) (w : xw_T) (sz : Nat) (ga ki : Int32) : xM l g yX7_needLeaf cX7_needLeaf 2 none ({ frames := 6, cells := 1, slots := 6, locals := 82 }) 1 6 [.int ga, .int ki] w sz (fun r w1 sz1 => r = none ∧ isLeafB ga ki = true ∧ w = w1 ∧ sz = sz1) (fun E w1 sz1 => E = "java/lang/IndexOutOfBoundsException" ∧ w = w1 ∧ sz ≤ sz1 ∧ isLeafB ga ki = false) := by
  refine xM.of RX7 hl (by decide +kernel) rfl (Nat.le_of_ble_eq_true rfl) rfl ?_
  intro p e s m args below meth cD C0 hini
  refine x_iload_n 0 1 C0 dX7_needLeaf_0 rfl rfl rfl ?_
  refine x_iload_n 1 2 C0 dX7_needLeaf_1 rfl rfl rfl ?_
  refine x_callS 5 C0 (k_X4_isLeaf l hl g _ _ ga ki) dX7_needLeaf_2 rfl mC_X4_isLeaf mM_X7_304 mS_X4_isLeaf mN_X4 yd_X4_isLeaf rfl rfl ⟨Nat.le_of_ble_eq_true rfl, Nat.le_of_ble_eq_true rfl⟩ rfl rfl (Nat.le_of_ble_eq_true rfl) ⟨Nat.le_of_ble_eq_true rfl, Nat.le_of_ble_eq_true rfl⟩ (fun _ _ _ q => False.elim q) (fun r w1 sz1 hz hP => ?_)
  obtain ⟨rfl, rfl, rfl⟩ := hP
  cases hB9 : isLeafB ga ki
  · refine x_st (st1 := [.int 0]) rfl ?_
    refine x_if_ne 19 8 C0 dX7_needLeaf_5 rfl (by decide) (fun q => False.elim (by revert q; decide)) (fun _ => ?_)
    exact x_throwSW xNames C0 dX7_needLeaf_8 dX7_needLeaf_11 dX7_needLeaf_12 dX7_needLeaf_15 dX7_needLeaf_18 rfl rfl rfl rfl (by decide +kernel) (by decide +kernel) mK_X7_307 mN_IndexOutOfBoundsException (xs_ldc C0.2.2.2.2.2.2.2.1.2.2 (RX7, 309, "no such garden or kind", 151) (by decide +kernel)) (xhat C0 xg_iob xh_iob (by decide +kernel)) xo_iob (xs_us C0.2.2.2.2.2.2.2.1.2.2) (xs_su C0.2.2.2.2.2.2.2.1.2.2) rfl (Nat.le_of_ble_eq_true rfl) (Nat.le_of_ble_eq_true rfl) (Nat.le_of_ble_eq_true rfl) (Nat.le_of_ble_eq_true rfl) (Nat.le_of_ble_eq_true rfl) (Nat.le_of_ble_eq_true rfl) (fun sz9 h9 => ⟨rfl, rfl, h9, (by first | exact hB9 | rfl)⟩)
  · refine x_st (st1 := [.int 1]) rfl ?_
    refine x_if_ne 19 8 C0 dX7_needLeaf_5 rfl (by decide) (fun _ => ?_) (fun q => False.elim (by revert q; decide))
    exact x_return C0 dX7_needLeaf_19 rfl (Nat.le_of_ble_eq_true rfl) (Nat.le_of_ble_eq_true rfl) ⟨rfl, by first | exact hB9 | rfl, rfl, rfl⟩

set_option maxHeartbeats 4000000 in
set_option maxRecDepth 100000 in
theorem k_X7_needChest (l : Launch) (hl : l.stackTraces = false) (g : xg_T) (w : xw_T) (sz n : Nat) (x : Nat → Nat → Int32) (la : Nat → Nat → Nat) (t tt : Nat → Int32) (vb : Option Nat) (sg : Nat → Int32) (hC : CR g w sz n x la t tt vb sg) (nn : Int32) : xM l g yX7_needChest cX7_needChest 3 (some (.object "TeaChests$Chest")) ({ frames := 6, cells := 1, slots := 6, locals := 82 }) 1 6 [.ref (g.2 0), .int nn] w sz (fun r w1 sz1 => (∃ k : Nat, k < 20 ∧ nI k < x 0 3 ∧ r = some (.ref (g.2 0 + 1 + 3 + k)) ∧ nn = nI k) ∧ w = w1 ∧ sz = sz1) (fun E w1 sz1 => E = "java/lang/IndexOutOfBoundsException" ∧ w = w1 ∧ sz ≤ sz1 ∧ ¬ (0 ≤ nn ∧ nn < x 0 3 ∧ nn < 20)) := by
  refine xM.of RX7 hl (by decide +kernel) rfl (Nat.le_of_ble_eq_true rfl) rfl ?_
  intro p e s m args below meth cD C0 hini
  refine x_aload_n 0 1 C0 dX7_needChest_0 rfl rfl rfl ?_
  refine x_getf (v := .ref (g.2 0 + 1)) 0 4 C0 dX7_needChest_1 rfl hC.1.1 rfl (by decide) inX7 mF_X7_10 rfl ?_
  refine x_iload_n 1 5 C0 dX7_needChest_4 rfl rfl rfl ?_
  refine x_callV 8 C0 (k_X4_find l hl g _ _ _ _ _ hC.h0 nn) dX7_needChest_5 rfl mC_X4_find mM_X7_312 mI_X4_find mV_X4_find mN_X4 yd_X4_find rfl rfl ⟨Nat.le_of_ble_eq_true rfl, Nat.le_of_ble_eq_true rfl⟩ (HR.ho hC.h0) rfl rfl rfl rfl (Nat.le_of_ble_eq_true rfl) ⟨Nat.le_of_ble_eq_true rfl, Nat.le_of_ble_eq_true rfl⟩ (fun _ _ _ q => False.elim q) (fun r w1 sz1 hz hP => ?_)
  obtain ⟨hr, rfl, rfl⟩ := hP
  rcases hr with ⟨k, hk, hnk, hm, rfl⟩ | ⟨hno, rfl⟩
  · rw [hnk] at hm
    have hm0 := hm
    refine x_st (st1 := [.ref (g.2 0 + 1 + 3 + k)]) rfl ?_
    refine x_astore_n [(2, .ref (g.2 0 + 1 + 3 + k)), (0, .ref (g.2 0)), (1, .int nn)] 9 C0 dX7_needChest_8 rfl rfl (by decide) rfl ?_
    refine x_lv (lv1 := [(0, .ref (g.2 0)), (1, .int nn), (2, .ref (g.2 0 + 1 + 3 + k))]) [1, 2, 0] rfl ?_
    refine x_aload_n 2 10 C0 dX7_needChest_9 rfl rfl rfl ?_
    refine x_ifnonnull 24 C0 dX7_needChest_10 (by decide) ?_
    refine x_aload_n 2 25 C0 dX7_needChest_24 rfl rfl rfl ?_
    exact x_areturn C0 dX7_needChest_25 rfl (Or.inl ⟨_, rfl⟩) (Or.inr ⟨_, rfl⟩) (Nat.le_of_ble_eq_true rfl) (Nat.le_of_ble_eq_true rfl) ⟨⟨k, hk, hm, rfl, hnk⟩, rfl, rfl⟩
  · refine x_st (st1 := [.null]) rfl ?_
    refine x_astore_nN [(2, .null), (0, .ref (g.2 0)), (1, .int nn)] 9 C0 dX7_needChest_8 rfl rfl (by decide) rfl ?_
    refine x_lv (lv1 := [(0, .ref (g.2 0)), (1, .int nn), (2, .null)]) [1, 2, 0] rfl ?_
    refine x_aload_nN 2 10 C0 dX7_needChest_9 rfl rfl rfl ?_
    refine x_ifnonnullN 13 C0 dX7_needChest_10 rfl ?_
    exact x_throwSW xNames C0 dX7_needChest_13 dX7_needChest_16 dX7_needChest_17 dX7_needChest_20 dX7_needChest_23 rfl rfl rfl rfl (by decide +kernel) (by decide +kernel) mK_X7_307 mN_IndexOutOfBoundsException (xs_ldc C0.2.2.2.2.2.2.2.1.2.2 (RX7, 315, "no such chest", 152) (by decide +kernel)) (xhat C0 xg_iob xh_iob (by decide +kernel)) xo_iob (xs_us C0.2.2.2.2.2.2.2.1.2.2) (xs_su C0.2.2.2.2.2.2.2.1.2.2) rfl (Nat.le_of_ble_eq_true rfl) (Nat.le_of_ble_eq_true rfl) (Nat.le_of_ble_eq_true rfl) (Nat.le_of_ble_eq_true rfl) (Nat.le_of_ble_eq_true rfl) (Nat.le_of_ble_eq_true rfl) (fun sz9 h9 => ⟨rfl, rfl, h9, hno⟩)

set_option maxHeartbeats 4000000 in
set_option maxRecDepth 100000 in
theorem k_X7_keepChange (l : Launch) (hl : l.stackTraces = false) (g : xg_T) (w : xw_T) (sz n : Nat) (x : Nat → Nat → Int32) (la : Nat → Nat → Nat) (t tt : Nat → Int32) (vb : Option Nat) (sg : Nat → Int32) (hC : CR g w sz n x la t tt vb sg) : xM l g yX7_keepChange cX7_keepChange 1 none ({ frames := 3, cells := 0, slots := 0, locals := 83 }) 0 0 [.ref (g.2 0)] w sz (fun r w1 sz1 => r = none ∧ ∃ x' la' t', CR g w1 sz1 n x' la' t' tt vb sg ∧ xFr g w w1 sz ∧ sz = sz1 ∧ t' = upd (upd t 1 (t 1 + 1)) 2 (if t 2 + 1 < 8 then t 2 + 1 else 8) ∧ ∃ j : Nat, j < 9 ∧ (∀ c : Nat, c < 2 ^ 31 → t 1 = nI c → j = c % 9) ∧ x' = va_up x (j + 2) (cpX (x (j + 2)) (x 0)) ∧ la' = va_up la (j + 2) (la 0)) (fun _ _ _ => False) := by
  have hz9 := hC.zz
  refine xM.of RX7 hl (by decide +kernel) rfl (Nat.le_of_ble_eq_true rfl) rfl ?_
  intro p e s m args below meth cD C0 hini
  refine x_aload_n 0 1 C0 dX7_keepChange_0 rfl rfl rfl ?_
  refine x_getf (v := .ref (g.2 0 + 47)) 3 4 C0 dX7_keepChange_1 rfl hC.1.1 rfl (by decide) inX7 mF_X7_26 rfl ?_
  refine x_aload_n 0 5 C0 dX7_keepChange_4 rfl rfl rfl ?_
  refine x_getf (v := .ref (g.2 0 + 1)) 0 8 C0 dX7_keepChange_5 rfl hC.1.1 rfl (by decide) inX7 mF_X7_10 rfl ?_
  refine x_callV 11 C0 (k_X3_prepare l hl g _ _ _ x la t tt vb sg hC) dX7_keepChange_8 rfl mC_X3_prepare mM_X7_45 mI_X3_prepare mV_X3_prepare mN_X3 yd_X3_prepare rfl rfl ⟨Nat.le_of_ble_eq_true rfl, Nat.le_of_ble_eq_true rfl⟩ hC.1.2.1 rfl rfl rfl rfl (Nat.le_of_ble_eq_true rfl) ⟨Nat.le_of_ble_eq_true rfl, Nat.le_of_ble_eq_true rfl⟩ (fun _ _ _ q => False.elim q) (fun r w1 sz1 hz hP => ?_)
  obtain ⟨wv1, hwv1⟩ : ∃ z, z = w1 := ⟨_, rfl⟩
  obtain ⟨rfl, x1, la1, hC1, hx1, hl1, hG1, rfl, hXX1⟩ := hP
  refine x_w hwv1.symm ?_
  rw [← hwv1] at hC1 hG1
  have hF1 : xFr g w wv1 sz := xFr.tr (sz1 := sz) xFr.rf hG1 (by omega)
  refine x_st (st1 := []) rfl ?_
  refine x_aload_n 0 12 C0 dX7_keepChange_11 rfl rfl rfl ?_
  refine x_getf (v := .ref (g.2 0 + 47)) 3 15 C0 dX7_keepChange_12 rfl hC1.1.1 rfl (by decide) inX7 mF_X7_26 rfl ?_
  refine x_callV 18 C0 (k_X3_commit l hl g _ _ _ x1 la1 t tt vb sg hC1) dX7_keepChange_15 rfl mC_X3_commit mM_X7_317 mI_X3_commit mV_X3_commit mN_X3 yd_X3_commit rfl rfl ⟨Nat.le_of_ble_eq_true rfl, Nat.le_of_ble_eq_true rfl⟩ hC1.1.2.1 rfl rfl rfl rfl (Nat.le_of_ble_eq_true rfl) ⟨Nat.le_of_ble_eq_true rfl, Nat.le_of_ble_eq_true rfl⟩ (fun _ _ _ q => False.elim q) (fun r w1 sz1 hz hP => ?_)
  obtain ⟨wv2, hwv2⟩ : ∃ z, z = w1 := ⟨_, rfl⟩
  obtain ⟨rfl, t2, hC2, hG2, rfl, hXX2⟩ := hP
  refine x_w hwv2.symm ?_
  rw [← hwv2] at hC2 hG2
  have hF2 : xFr g w wv2 sz := xFr.tr (sz1 := sz) hF1 hG2 (by omega)
  refine x_st (st1 := []) rfl ?_
  exact x_return C0 dX7_keepChange_18 rfl (Nat.le_of_ble_eq_true rfl) (Nat.le_of_ble_eq_true rfl) ⟨rfl, _, _, _, hC2, hF2, rfl, hXX2, hXX1⟩

set_option maxHeartbeats 4000000 in
set_option maxRecDepth 100000 in
theorem k_X7_conclude (l : Launch) (hl : l.stackTraces = false) (g : xg_T) (w : xw_T) (sz n : Nat) (x : Nat → Nat → Int32) (la : Nat → Nat → Nat) (t tt : Nat → Int32) (vb : Option Nat) (sg : Nat → Int32) (hC : CR g w sz n x la t tt vb sg) (b : Int32) : xM l g yX7_conclude cX7_conclude 2 none ({ frames := 6, cells := 1, slots := 6, locals := 82 }) 1 6 [.ref (g.2 0), .int b] w sz (fun r w1 sz1 => r = none ∧ ∃ t', CR g w1 sz1 n x la t' tt vb sg ∧ xFr g w w1 sz ∧ sz = sz1 ∧ ¬ b = 0 ∧ t' = upd (upd t 1 (t 1 + 1)) 2 (if t 2 + 1 < 8 then t 2 + 1 else 8)) (fun E w1 sz1 => E = "java/lang/UnsupportedOperationException" ∧ w = w1 ∧ sz ≤ sz1 ∧ b = 0) := by
  have hz9 := hC.zz
  refine xM.of RX7 hl (by decide +kernel) rfl (Nat.le_of_ble_eq_true rfl) rfl ?_
  intro p e s m args below meth cD C0 hini
  refine x_iload_n 1 1 C0 dX7_conclude_0 rfl rfl rfl ?_
  refine x_if_ne 15 4 C0 dX7_conclude_1 rfl (by decide) (fun c1 => ?_) (fun c1 => ?_)
  · refine x_aload_n 0 16 C0 dX7_conclude_15 rfl rfl rfl ?_
    refine x_getf (v := .ref (g.2 0 + 47)) 3 19 C0 dX7_conclude_16 rfl hC.1.1 rfl (by decide) inX7 mF_X7_26 rfl ?_
    refine x_callV 22 C0 (k_X3_commit l hl g _ _ _ x la t tt vb sg hC) dX7_conclude_19 rfl mC_X3_commit mM_X7_317 mI_X3_commit mV_X3_commit mN_X3 yd_X3_commit rfl rfl ⟨Nat.le_of_ble_eq_true rfl, Nat.le_of_ble_eq_true rfl⟩ hC.1.2.1 rfl rfl rfl rfl (Nat.le_of_ble_eq_true rfl) ⟨Nat.le_of_ble_eq_true rfl, Nat.le_of_ble_eq_true rfl⟩ (fun _ _ _ q => False.elim q) (fun r w1 sz1 hz hP => ?_)
    obtain ⟨wv2, hwv2⟩ : ∃ z, z = w1 := ⟨_, rfl⟩
    obtain ⟨rfl, t2, hC2, hG2, rfl, hXX2⟩ := hP
    refine x_w hwv2.symm ?_
    rw [← hwv2] at hC2 hG2
    have hF2 : xFr g w wv2 sz := xFr.tr (sz1 := sz) xFr.rf hG2 (by omega)
    refine x_st (st1 := []) rfl ?_
    exact x_return C0 dX7_conclude_22 rfl (Nat.le_of_ble_eq_true rfl) (Nat.le_of_ble_eq_true rfl) ⟨rfl, _, hC2, hF2, rfl, c1, hXX2⟩
  · exact x_throwSW xNames C0 dX7_conclude_4 dX7_conclude_7 dX7_conclude_8 dX7_conclude_11 dX7_conclude_14 rfl rfl rfl rfl (by decide +kernel) (by decide +kernel) mK_X7_320 mN_UnsupportedOperationException (xs_ldc C0.2.2.2.2.2.2.2.1.2.2 (RX7, 322, "refused", 153) (by decide +kernel)) (xhat C0 xg_uoe xh_uoe (by decide +kernel)) xo_uoe (xs_us C0.2.2.2.2.2.2.2.1.2.2) (xs_su C0.2.2.2.2.2.2.2.1.2.2) rfl (Nat.le_of_ble_eq_true rfl) (Nat.le_of_ble_eq_true rfl) (Nat.le_of_ble_eq_true rfl) (Nat.le_of_ble_eq_true rfl) (Nat.le_of_ble_eq_true rfl) (Nat.le_of_ble_eq_true rfl) (fun sz9 h9 => ⟨rfl, rfl, h9, c1⟩)

set_option maxHeartbeats 4000000 in
set_option maxRecDepth 100000 in
theorem k_X7_bring (l : Launch) (hl : l.stackTraces = false) (g : xg_T) (w : xw_T) (sz n : Nat) (x : Nat → Nat → Int32) (la : Nat → Nat → Nat) (t tt : Nat → Int32) (vb : Option Nat) (sg : Nat → Int32) (hC : CR g w sz n x la t tt vb sg) (ga : Int32) (ki : Int32) (po : Int32) : xM l g yX7_bring cX7_bring 4 (some .int) ({ frames := 7, cells := 8, slots := 64, locals := 104 }) 8 64 [.ref (g.2 0), .int ga, .int ki, .int po] w sz (cPo g w sz n rI) (cXo g w sz n ["java/lang/IndexOutOfBoundsException", "java/lang/IllegalArgumentException", "java/lang/UnsupportedOperationException"]) := by
  have hz9 := hC.zz
  refine xM.of RX7 hl (by decide +kernel) rfl (Nat.le_of_ble_eq_true rfl) rfl ?_
  intro p e s m args below meth cD C0 hini
  refine x_iload_n 1 1 C0 dX7_bring_0 rfl rfl rfl ?_
  refine x_iload_n 2 2 C0 dX7_bring_1 rfl rfl rfl ?_
  refine x_callS 5 C0 (k_X7_needLeaf l hl g _ _ ga ki) dX7_bring_2 rfl mC_X7_needLeaf mM_X7_37 mS_X7_needLeaf mN_X7 yd_X7_needLeaf rfl rfl ⟨Nat.le_of_ble_eq_true rfl, Nat.le_of_ble_eq_true rfl⟩ rfl rfl (Nat.le_of_ble_eq_true rfl) ⟨Nat.le_of_ble_eq_true rfl, Nat.le_of_ble_eq_true rfl⟩ (fun E9 w9 sz9 q => by obtain ⟨rfl, rfl, h9, hno9⟩ := q; exact x_out C0 rfl (Nat.le_of_ble_eq_true rfl) (Nat.le_of_ble_eq_true rfl) ⟨by decide, (hC.grow h9).ci, xFr.rf, by omega⟩) (fun r w1 sz1 hz hP => ?_)
  obtain ⟨rfl, hB9, rfl, rfl⟩ := hP
  refine x_st (st1 := []) rfl ?_
  refine x_iload_n 3 6 C0 dX7_bring_5 rfl rfl rfl ?_
  refine x_iconst (v := 1) 7 C0 dX7_bring_6 rfl (by decide) ?_
  refine x_sipush (v := 500) 10 C0 dX7_bring_7 rfl (by decide) ?_
  refine x_callS 13 C0 (k_X7_needRange l hl g _ _ po 1 500) dX7_bring_10 rfl mC_X7_needRange mM_X7_41 mS_X7_needRange mN_X7 yd_X7_needRange rfl rfl ⟨Nat.le_of_ble_eq_true rfl, Nat.le_of_ble_eq_true rfl⟩ rfl rfl (Nat.le_of_ble_eq_true rfl) ⟨Nat.le_of_ble_eq_true rfl, Nat.le_of_ble_eq_true rfl⟩ (fun E9 w9 sz9 q => by obtain ⟨rfl, rfl, h9, hno9⟩ := q; exact x_out C0 rfl (Nat.le_of_ble_eq_true rfl) (Nat.le_of_ble_eq_true rfl) ⟨by decide, (hC.grow h9).ci, xFr.rf, by omega⟩) (fun r w1 sz1 hz hP => ?_)
  obtain ⟨rfl, h19, h59, rfl, rfl⟩ := hP
  refine x_st (st1 := []) rfl ?_
  refine x_aload_n 0 14 C0 dX7_bring_13 rfl rfl rfl ?_
  refine x_getf (v := .ref (g.2 0 + 47)) 3 17 C0 dX7_bring_14 rfl hC.1.1 rfl (by decide) inX7 mF_X7_26 rfl ?_
  refine x_aload_n 0 18 C0 dX7_bring_17 rfl rfl rfl ?_
  refine x_getf (v := .ref (g.2 0 + 1)) 0 21 C0 dX7_bring_18 rfl hC.1.1 rfl (by decide) inX7 mF_X7_10 rfl ?_
  refine x_callV 24 C0 (k_X3_prepare l hl g _ _ _ x la t tt vb sg hC) dX7_bring_21 rfl mC_X3_prepare mM_X7_45 mI_X3_prepare mV_X3_prepare mN_X3 yd_X3_prepare rfl rfl ⟨Nat.le_of_ble_eq_true rfl, Nat.le_of_ble_eq_true rfl⟩ hC.1.2.1 rfl rfl rfl rfl (Nat.le_of_ble_eq_true rfl) ⟨Nat.le_of_ble_eq_true rfl, Nat.le_of_ble_eq_true rfl⟩ (fun _ _ _ q => False.elim q) (fun r w1 sz1 hz hP => ?_)
  obtain ⟨wv1, hwv1⟩ : ∃ z, z = w1 := ⟨_, rfl⟩
  obtain ⟨rfl, x1, la1, hC1, hx1, hl1, hG1, rfl, hXX1⟩ := hP
  refine x_w hwv1.symm ?_
  rw [← hwv1] at hC1 hG1
  have hF1 : xFr g w wv1 sz := xFr.tr (sz1 := sz) xFr.rf hG1 (by omega)
  refine x_st (st1 := []) rfl ?_
  refine x_aload_n 0 25 C0 dX7_bring_24 rfl rfl rfl ?_
  refine x_aload_n 0 26 C0 dX7_bring_25 rfl rfl rfl ?_
  refine x_getf (v := .ref (g.2 0 + 1)) 0 29 C0 dX7_bring_26 rfl hC1.1.1 rfl (by decide) inX7 mF_X7_10 rfl ?_
  refine x_iload_n 1 30 C0 dX7_bring_29 rfl rfl rfl ?_
  refine x_iload_n 2 31 C0 dX7_bring_30 rfl rfl rfl ?_
  refine x_iload_n 3 32 C0 dX7_bring_31 rfl rfl rfl ?_
  refine x_callV 35 C0 (k_X4_tryBring l hl g _ _ _ _ _ hC1.h0 (Nat.le_add_right _ _) ga ki po) dX7_bring_32 rfl mC_X4_tryBring mM_X7_49 mI_X4_tryBring mV_X4_tryBring mN_X4 yd_X4_tryBring rfl rfl ⟨Nat.le_of_ble_eq_true rfl, Nat.le_of_ble_eq_true rfl⟩ (HR.ho hC1.h0) rfl rfl rfl rfl (Nat.le_of_ble_eq_true rfl) ⟨Nat.le_of_ble_eq_true rfl, Nat.le_of_ble_eq_true rfl⟩ (fun _ _ _ q => False.elim q) (fun r w1 sz1 hz hP => ?_)
  obtain ⟨rfl, x2, hw2, hQ2⟩ := hP
  obtain ⟨hk2, b2, rfl, hb2⟩ := hQ2.ok (fun q => hC1.k0.bring) hC1.k0
  obtain ⟨wv2, hwv2⟩ : ∃ z, z = w1 := ⟨_, rfl⟩
  refine x_w hwv2.symm ?_
  rw [← hwv2] at hw2
  obtain ⟨x3, la3, hx3, hla3, hC3⟩ : ∃ x3 la3, x3 = va_up x1 0 x2 ∧ la3 = va_up la1 0 (la1 0) ∧ CR g wv2 sz n x3 la3 t tt vb sg := ⟨_, _, rfl, rfl, by rw [hw2]; exact hC1.set0 hk2 hC1.l0⟩
  have hF3 : xFr g w wv2 sz := xFr.tr (sz1 := sz) hF1 (by rw [hw2]; exact xFr.hw (by omega)) (by omega)
  refine x_st (st1 := [.int b2, .ref (g.2 0)]) rfl ?_
  refine x_callV 38 C0 (k_X7_conclude l hl g _ _ _ x3 la3 t tt vb sg hC3 b2) dX7_bring_35 rfl mC_X7_conclude mM_X7_53 mI_X7_conclude mV_X7_conclude mN_X7 yd_X7_conclude rfl rfl ⟨Nat.le_of_ble_eq_true rfl, Nat.le_of_ble_eq_true rfl⟩ hC3.1.1 rfl rfl rfl rfl (Nat.le_of_ble_eq_true rfl) ⟨Nat.le_of_ble_eq_true rfl, Nat.le_of_ble_eq_true rfl⟩ (fun E9 w9 sz9 q => by obtain ⟨rfl, rfl, h9, hno9⟩ := q; exact x_out C0 rfl (Nat.le_of_ble_eq_true rfl) (Nat.le_of_ble_eq_true rfl) ⟨by decide, (hC3.grow h9).ci, hF3, by omega⟩) (fun r w1 sz1 hz hP => ?_)
  obtain ⟨wv4, hwv4⟩ : ∃ z, z = w1 := ⟨_, rfl⟩
  obtain ⟨rfl, t4, hC4, hG4, rfl, hb94, ht94⟩ := hP
  refine x_w hwv4.symm ?_
  rw [← hwv4] at hC4 hG4
  have hF4 : xFr g w wv4 sz := xFr.tr (sz1 := sz) hF3 hG4 (by omega)
  refine x_st (st1 := []) rfl ?_
  refine x_aload_n 0 39 C0 dX7_bring_38 rfl rfl rfl ?_
  refine x_getf (v := .ref (g.2 0 + 1)) 0 42 C0 dX7_bring_39 rfl hC4.1.1 rfl (by decide) inX7 mF_X7_10 rfl ?_
  refine x_iload_n 1 43 C0 dX7_bring_42 rfl rfl rfl ?_
  refine x_iload_n 2 44 C0 dX7_bring_43 rfl rfl rfl ?_
  refine x_callV 47 C0 (k_X4_stored l hl g _ _ _ _ _ hC4.h0 ga ki) dX7_bring_44 rfl mC_X4_stored mM_X7_57 mI_X4_stored mV_X4_stored mN_X4 yd_X4_stored rfl rfl ⟨Nat.le_of_ble_eq_true rfl, Nat.le_of_ble_eq_true rfl⟩ (HR.ho hC4.h0) rfl rfl rfl rfl (Nat.le_of_ble_eq_true rfl) ⟨Nat.le_of_ble_eq_true rfl, Nat.le_of_ble_eq_true rfl⟩ (fun _ _ _ q => False.elim q) (fun r w1 sz1 hz hP => ?_)
  obtain ⟨hr, rfl, rfl⟩ := hP
  obtain ⟨v5, rfl⟩ : ∃ v : Int32, r = some (.int v) := ⟨_, hr⟩
  have hr5 := hr
  refine x_st (st1 := [.int v5]) rfl ?_
  exact x_ireturn C0 dX7_bring_47 rfl rfl (Nat.le_of_ble_eq_true rfl) (Nat.le_of_ble_eq_true rfl) ⟨⟨_, rfl⟩, hC4.ci, hF4, by omega⟩

set_option maxHeartbeats 4000000 in
set_option maxRecDepth 100000 in
theorem k_X7_leaves (l : Launch) (hl : l.stackTraces = false) (g : xg_T) (w : xw_T) (sz n : Nat) (x : Nat → Nat → Int32) (la : Nat → Nat → Nat) (t tt : Nat → Int32) (vb : Option Nat) (sg : Nat → Int32) (hC : CR g w sz n x la t tt vb sg) (ga : Int32) (ki : Int32) : xM l g yX7_leaves cX7_leaves 3 (some .int) ({ frames := 7, cells := 8, slots := 64, locals := 103 }) 8 64 [.ref (g.2 0), .int ga, .int ki] w sz (cPo g w sz n rI) (cXo g w sz n ["java/lang/IndexOutOfBoundsException"]) := by
  have hz9 := hC.zz
  refine xM.of RX7 hl (by decide +kernel) rfl (Nat.le_of_ble_eq_true rfl) rfl ?_
  intro p e s m args below meth cD C0 hini
  refine x_iload_n 1 1 C0 dX7_leaves_0 rfl rfl rfl ?_
  refine x_iload_n 2 2 C0 dX7_leaves_1 rfl rfl rfl ?_
  refine x_callS 5 C0 (k_X7_needLeaf l hl g _ _ ga ki) dX7_leaves_2 rfl mC_X7_needLeaf mM_X7_37 mS_X7_needLeaf mN_X7 yd_X7_needLeaf rfl rfl ⟨Nat.le_of_ble_eq_true rfl, Nat.le_of_ble_eq_true rfl⟩ rfl rfl (Nat.le_of_ble_eq_true rfl) ⟨Nat.le_of_ble_eq_true rfl, Nat.le_of_ble_eq_true rfl⟩ (fun E9 w9 sz9 q => by obtain ⟨rfl, rfl, h9, hno9⟩ := q; exact x_out C0 rfl (Nat.le_of_ble_eq_true rfl) (Nat.le_of_ble_eq_true rfl) ⟨by decide, (hC.grow h9).ci, xFr.rf, by omega⟩) (fun r w1 sz1 hz hP => ?_)
  obtain ⟨rfl, hB9, rfl, rfl⟩ := hP
  refine x_st (st1 := []) rfl ?_
  refine x_aload_n 0 6 C0 dX7_leaves_5 rfl rfl rfl ?_
  refine x_getf (v := .ref (g.2 0 + 1)) 0 9 C0 dX7_leaves_6 rfl hC.1.1 rfl (by decide) inX7 mF_X7_10 rfl ?_
  refine x_iload_n 1 10 C0 dX7_leaves_9 rfl rfl rfl ?_
  refine x_iload_n 2 11 C0 dX7_leaves_10 rfl rfl rfl ?_
  refine x_callV 14 C0 (k_X4_stored l hl g _ _ _ _ _ hC.h0 ga ki) dX7_leaves_11 rfl mC_X4_stored mM_X7_57 mI_X4_stored mV_X4_stored mN_X4 yd_X4_stored rfl rfl ⟨Nat.le_of_ble_eq_true rfl, Nat.le_of_ble_eq_true rfl⟩ (HR.ho hC.h0) rfl rfl rfl rfl (Nat.le_of_ble_eq_true rfl) ⟨Nat.le_of_ble_eq_true rfl, Nat.le_of_ble_eq_true rfl⟩ (fun _ _ _ q => False.elim q) (fun r w1 sz1 hz hP => ?_)
  obtain ⟨hr, rfl, rfl⟩ := hP
  obtain ⟨v1, rfl⟩ : ∃ v : Int32, r = some (.int v) := ⟨_, hr⟩
  have hr1 := hr
  refine x_st (st1 := [.int v1]) rfl ?_
  exact x_ireturn C0 dX7_leaves_14 rfl rfl (Nat.le_of_ble_eq_true rfl) (Nat.le_of_ble_eq_true rfl) ⟨⟨_, rfl⟩, hC.ci, xFr.rf, by omega⟩

set_option maxHeartbeats 4000000 in
set_option maxRecDepth 100000 in
theorem k_X7_bestGarden (l : Launch) (hl : l.stackTraces = false) (g : xg_T) (w : xw_T) (sz n : Nat) (x : Nat → Nat → Int32) (la : Nat → Nat → Nat) (t tt : Nat → Int32) (vb : Option Nat) (sg : Nat → Int32) (hC : CR g w sz n x la t tt vb sg) : xM l g yX7_bestGarden cX7_bestGarden 3 (some .int) ({ frames := 4, cells := 8, slots := 64, locals := 90 }) 8 64 [.ref (g.2 0)] w sz (cPo g w sz n rI) (fun _ _ _ => False) := by
  have hz9 := hC.zz
  refine xM.of RX7 hl (by decide +kernel) rfl (Nat.le_of_ble_eq_true rfl) rfl ?_
  intro p e s m args below meth cD C0 hini
  refine x_iconst (v := 0) 1 C0 dX7_bestGarden_0 rfl (by decide) ?_
  refine x_istore_n [(1, .int 0), (0, .ref (g.2 0))] 2 C0 dX7_bestGarden_1 rfl rfl (by decide) rfl ?_
  refine x_lv (lv1 := [(0, .ref (g.2 0)), (1, .int 0)]) [1, 0] rfl ?_
  refine x_iconst (v := 1) 3 C0 dX7_bestGarden_2 rfl (by decide) ?_
  refine x_istore_n [(2, .int 1), (0, .ref (g.2 0)), (1, .int 0)] 4 C0 dX7_bestGarden_3 rfl rfl (by decide) rfl ?_
  refine x_lv (lv1 := [(0, .ref (g.2 0)), (1, .int 0), (2, .int 1)]) [1, 2, 0] rfl ?_
  have loop4 : ∀ (N i : Nat) (b : Int32), i ≤ 6 → 6 - i < N → xV p l e ({ frames := 4, cells := 8, slots := 64, locals := 90 }) s m args below meth cD (xQ g below (cPo g w sz n rI) (fun _ _ _ => False) args s 8 64) g 3 w sz (0) (0) 4 [(0, .ref (g.2 0)), (1, .int b), (2, .int (nI (i)))] [] := by
    intro N
    induction N with
    | zero => intro i b h1 h2; omega
    | succ N ih =>
      intro i b hi hN
      refine x_iload_n 2 5 C0 dX7_bestGarden_4 rfl rfl rfl ?_
      refine x_bipush (v := 6) 7 C0 dX7_bestGarden_5 rfl (by decide) ?_
      refine x_icmp_ge 30 10 C0 dX7_bestGarden_7 rfl (by decide) (fun c1 => ?_) (fun c1 => ?_)
      · refine x_iload_n 1 31 C0 dX7_bestGarden_30 rfl rfl rfl ?_
        exact x_ireturn C0 dX7_bestGarden_31 rfl rfl (Nat.le_of_ble_eq_true rfl) (Nat.le_of_ble_eq_true rfl) ⟨⟨_, rfl⟩, hC.ci, xFr.rf, by omega⟩
      · have hi2 := ix_lt 6 rfl (by decide) hi c1
        refine x_aload_n 0 11 C0 dX7_bestGarden_10 rfl rfl rfl ?_
        refine x_getf (v := .ref (g.2 0 + 1)) 0 14 C0 dX7_bestGarden_11 rfl hC.1.1 rfl (by decide) inX7 mF_X7_10 rfl ?_
        refine x_iload_n 2 15 C0 dX7_bestGarden_14 rfl rfl rfl ?_
        refine x_iload_n 1 16 C0 dX7_bestGarden_15 rfl rfl rfl ?_
        refine x_callV 19 C0 (k_X4_isBetterGarden l hl g _ _ _ _ _ hC.h0 (nI (i)) b) dX7_bestGarden_16 rfl mC_X4_isBetterGarden mM_X7_61 mI_X4_isBetterGarden mV_X4_isBetterGarden mN_X4 yd_X4_isBetterGarden rfl rfl ⟨Nat.le_of_ble_eq_true rfl, Nat.le_of_ble_eq_true rfl⟩ (HR.ho hC.h0) rfl rfl rfl rfl (Nat.le_of_ble_eq_true rfl) ⟨Nat.le_of_ble_eq_true rfl, Nat.le_of_ble_eq_true rfl⟩ (fun _ _ _ q => False.elim q) (fun r w1 sz1 hz hP => ?_)
        obtain ⟨hr, rfl, rfl⟩ := hP
        obtain ⟨v2, rfl, hv2⟩ : ∃ v : Int32, r = some (.int v) ∧ isB v := ⟨_, hr, isB_bi _⟩
        refine x_st (st1 := [.int v2]) rfl ?_
        refine x_if_eq 24 22 C0 dX7_bestGarden_19 rfl (by decide) (fun c3 => ?_) (fun c3 => ?_)
        · refine x_iinc [(2, .int (nI (i + 1))), (0, .ref (g.2 0)), (1, .int b)] 2 27 C0 dX7_bestGarden_24 rfl rfl (nI_1 (i)) (by decide) rfl ?_
          refine x_lv (lv1 := [(0, .ref (g.2 0)), (1, .int b), (2, .int (nI (i + 1)))]) [1, 2, 0] rfl ?_
          refine x_goto 4 C0 dX7_bestGarden_27 (by decide) ?_
          exact x_lv [0, 1, 2] rfl (ih (i + 1) _ (by omega) (by omega))
        · refine x_iload_n 2 23 C0 dX7_bestGarden_22 rfl rfl rfl ?_
          refine x_istore_n [(1, .int (nI (i))), (0, .ref (g.2 0)), (2, .int (nI (i)))] 24 C0 dX7_bestGarden_23 rfl rfl (by decide) rfl ?_
          refine x_lv (lv1 := [(0, .ref (g.2 0)), (1, .int (nI (i))), (2, .int (nI (i)))]) [1, 0, 2] rfl ?_
          refine x_iinc [(2, .int (nI (i + 1))), (0, .ref (g.2 0)), (1, .int (nI (i)))] 2 27 C0 dX7_bestGarden_24 rfl rfl (nI_1 (i)) (by decide) rfl ?_
          refine x_lv (lv1 := [(0, .ref (g.2 0)), (1, .int (nI (i))), (2, .int (nI (i + 1)))]) [1, 2, 0] rfl ?_
          refine x_goto 4 C0 dX7_bestGarden_27 (by decide) ?_
          exact x_lv [0, 1, 2] rfl (ih (i + 1) _ (by omega) (by omega))
  exact x_lv [0, 1, 2] rfl (loop4 7 1 0 (by omega) (by omega))

set_option maxHeartbeats 4000000 in
set_option maxRecDepth 100000 in
theorem k_X7_buy (l : Launch) (hl : l.stackTraces = false) (g : xg_T) (w : xw_T) (sz n : Nat) (x : Nat → Nat → Int32) (la : Nat → Nat → Nat) (t tt : Nat → Int32) (vb : Option Nat) (sg : Nat → Int32) (hC : CR g w sz n x la t tt vb sg) (sc : Int32) (mn : Int32) : xM l g yX7_buy cX7_buy 3 (some .int) ({ frames := 7, cells := 8, slots := 64, locals := 104 }) 8 64 [.ref (g.2 0), .int sc, .int mn] w sz (cPo g w sz n rI) (cXo g w sz n ["java/lang/IllegalArgumentException"]) := by
  have hz9 := hC.zz
  refine xM.of RX7 hl (by decide +kernel) rfl (Nat.le_of_ble_eq_true rfl) rfl ?_
  intro p e s m args below meth cD C0 hini
  refine x_iload_n 2 1 C0 dX7_buy_0 rfl rfl rfl ?_
  refine x_iconst (v := 1) 2 C0 dX7_buy_1 rfl (by decide) ?_
  refine x_bipush (v := 99) 4 C0 dX7_buy_2 rfl (by decide) ?_
  refine x_callS 7 C0 (k_X7_needRange l hl g _ _ mn 1 99) dX7_buy_4 rfl mC_X7_needRange mM_X7_41 mS_X7_needRange mN_X7 yd_X7_needRange rfl rfl ⟨Nat.le_of_ble_eq_true rfl, Nat.le_of_ble_eq_true rfl⟩ rfl rfl (Nat.le_of_ble_eq_true rfl) ⟨Nat.le_of_ble_eq_true rfl, Nat.le_of_ble_eq_true rfl⟩ (fun E9 w9 sz9 q => by obtain ⟨rfl, rfl, h9, hno9⟩ := q; exact x_out C0 rfl (Nat.le_of_ble_eq_true rfl) (Nat.le_of_ble_eq_true rfl) ⟨by decide, (hC.grow h9).ci, xFr.rf, by omega⟩) (fun r w1 sz1 hz hP => ?_)
  obtain ⟨rfl, h19, h59, rfl, rfl⟩ := hP
  refine x_st (st1 := []) rfl ?_
  refine x_aload_n 0 8 C0 dX7_buy_7 rfl rfl rfl ?_
  refine x_callV 11 C0 (k_X7_keepChange l hl g _ _ _ x la t tt vb sg hC) dX7_buy_8 rfl mC_X7_keepChange mM_X7_65 mI_X7_keepChange mV_X7_keepChange mN_X7 yd_X7_keepChange rfl rfl ⟨Nat.le_of_ble_eq_true rfl, Nat.le_of_ble_eq_true rfl⟩ hC.1.1 rfl rfl rfl rfl (Nat.le_of_ble_eq_true rfl) ⟨Nat.le_of_ble_eq_true rfl, Nat.le_of_ble_eq_true rfl⟩ (fun _ _ _ q => False.elim q) (fun r w1 sz1 hz hP => ?_)
  obtain ⟨wv1, hwv1⟩ : ∃ z, z = w1 := ⟨_, rfl⟩
  obtain ⟨rfl, x1, la1, t1, hC1, hG1, rfl, ht91, hXX1⟩ := hP
  refine x_w hwv1.symm ?_
  rw [← hwv1] at hC1 hG1
  have hF1 : xFr g w wv1 sz := xFr.tr (sz1 := sz) xFr.rf hG1 (by omega)
  refine x_st (st1 := []) rfl ?_
  refine x_iload_n 1 12 C0 dX7_buy_11 rfl rfl rfl ?_
  refine x_if_eq 31 15 C0 dX7_buy_12 rfl (by decide) (fun c2 => ?_) (fun c2 => ?_)
  · refine x_aload_n 0 32 C0 dX7_buy_31 rfl rfl rfl ?_
    refine x_getf (v := .ref (g.2 0 + 1)) 0 35 C0 dX7_buy_32 rfl hC1.1.1 rfl (by decide) inX7 mF_X7_10 rfl ?_
    refine x_iload_n 2 36 C0 dX7_buy_35 rfl rfl rfl ?_
    refine x_callV 39 C0 (k_X4_addSheets l hl g _ _ _ _ _ hC1.h0 (Nat.le_add_right _ _) mn) dX7_buy_36 rfl mC_X4_addSheets mM_X7_76 mI_X4_addSheets mV_X4_addSheets mN_X4 yd_X4_addSheets rfl rfl ⟨Nat.le_of_ble_eq_true rfl, Nat.le_of_ble_eq_true rfl⟩ (HR.ho hC1.h0) rfl rfl rfl rfl (Nat.le_of_ble_eq_true rfl) ⟨Nat.le_of_ble_eq_true rfl, Nat.le_of_ble_eq_true rfl⟩ (fun _ _ _ q => False.elim q) (fun r w1 sz1 hz hP => ?_)
    obtain ⟨rfl, hw3, rfl⟩ := hP
    obtain ⟨wv3, hwv3⟩ : ∃ z, z = w1 := ⟨_, rfl⟩
    refine x_w hwv3.symm ?_
    rw [← hwv3] at hw3
    obtain ⟨x4, la4, hx4, hla4, hC4⟩ : ∃ x4 la4, x4 = va_up x1 0 (upd (x1 0) 1 (lo200 (x1 0 1 + mn))) ∧ la4 = va_up la1 0 (la1 0) ∧ CR g wv3 sz n x4 la4 t1 tt vb sg := ⟨_, _, rfl, rfl, by rw [hw3]; exact hC1.set0 (hC1.k0.up (by omega)) hC1.l0⟩
    have hF4 : xFr g w wv3 sz := xFr.tr (sz1 := sz) hF1 (by rw [hw3]; exact xFr.hw (by omega)) (by omega)
    refine x_st (st1 := []) rfl ?_
    refine x_aload_n 0 40 C0 dX7_buy_39 rfl rfl rfl ?_
    refine x_getf (v := .ref (g.2 0 + 1)) 0 43 C0 dX7_buy_40 rfl hC4.1.1 rfl (by decide) inX7 mF_X7_10 rfl ?_
    refine x_getf (v := .int (x4 0 1)) 3 46 C0 dX7_buy_43 rfl (HR.ho hC4.h0) rfl (by decide) inX4 mF_X7_79 rfl ?_
    exact x_ireturn C0 dX7_buy_46 rfl rfl (Nat.le_of_ble_eq_true rfl) (Nat.le_of_ble_eq_true rfl) ⟨⟨_, rfl⟩, hC4.ci, hF4, by omega⟩
  · refine x_aload_n 0 16 C0 dX7_buy_15 rfl rfl rfl ?_
    refine x_getf (v := .ref (g.2 0 + 1)) 0 19 C0 dX7_buy_16 rfl hC1.1.1 rfl (by decide) inX7 mF_X7_10 rfl ?_
    refine x_iload_n 2 20 C0 dX7_buy_19 rfl rfl rfl ?_
    refine x_callV 23 C0 (k_X4_addScrews l hl g _ _ _ _ _ hC1.h0 (Nat.le_add_right _ _) mn) dX7_buy_20 rfl mC_X4_addScrews mM_X7_68 mI_X4_addScrews mV_X4_addScrews mN_X4 yd_X4_addScrews rfl rfl ⟨Nat.le_of_ble_eq_true rfl, Nat.le_of_ble_eq_true rfl⟩ (HR.ho hC1.h0) rfl rfl rfl rfl (Nat.le_of_ble_eq_true rfl) ⟨Nat.le_of_ble_eq_true rfl, Nat.le_of_ble_eq_true rfl⟩ (fun _ _ _ q => False.elim q) (fun r w1 sz1 hz hP => ?_)
    obtain ⟨rfl, hw5, rfl⟩ := hP
    obtain ⟨wv5, hwv5⟩ : ∃ z, z = w1 := ⟨_, rfl⟩
    refine x_w hwv5.symm ?_
    rw [← hwv5] at hw5
    obtain ⟨x6, la6, hx6, hla6, hC6⟩ : ∃ x6 la6, x6 = va_up x1 0 (upd (x1 0) 2 (lo200 (x1 0 2 + mn))) ∧ la6 = va_up la1 0 (la1 0) ∧ CR g wv5 sz n x6 la6 t1 tt vb sg := ⟨_, _, rfl, rfl, by rw [hw5]; exact hC1.set0 (hC1.k0.up (by omega)) hC1.l0⟩
    have hF6 : xFr g w wv5 sz := xFr.tr (sz1 := sz) hF1 (by rw [hw5]; exact xFr.hw (by omega)) (by omega)
    refine x_st (st1 := []) rfl ?_
    refine x_aload_n 0 24 C0 dX7_buy_23 rfl rfl rfl ?_
    refine x_getf (v := .ref (g.2 0 + 1)) 0 27 C0 dX7_buy_24 rfl hC6.1.1 rfl (by decide) inX7 mF_X7_10 rfl ?_
    refine x_getf (v := .int (x6 0 2)) 4 30 C0 dX7_buy_27 rfl (HR.ho hC6.h0) rfl (by decide) inX4 mF_X7_72 rfl ?_
    exact x_ireturn C0 dX7_buy_30 rfl rfl (Nat.le_of_ble_eq_true rfl) (Nat.le_of_ble_eq_true rfl) ⟨⟨_, rfl⟩, hC6.ci, hF6, by omega⟩

set_option maxHeartbeats 4000000 in
set_option maxRecDepth 100000 in
theorem k_X7_make (l : Launch) (hl : l.stackTraces = false) (g : xg_T) (w : xw_T) (sz n : Nat) (x : Nat → Nat → Int32) (la : Nat → Nat → Nat) (t tt : Nat → Int32) (vb : Option Nat) (sg : Nat → Int32) (hC : CR g w sz n x la t tt vb sg) (si : Int32) : xM l g yX7_make cX7_make 2 (some .int) ({ frames := 7, cells := 8, slots := 64, locals := 104 }) 8 64 [.ref (g.2 0), .int si] w sz (cPo g w sz n rI) (cXo g w sz n ["java/lang/IllegalArgumentException", "java/lang/UnsupportedOperationException"]) := by
  have hz9 := hC.zz
  refine xM.of RX7 hl (by decide +kernel) rfl (Nat.le_of_ble_eq_true rfl) rfl ?_
  intro p e s m args below meth cD C0 hini
  refine x_iload_n 1 1 C0 dX7_make_0 rfl rfl rfl ?_
  refine x_iconst (v := 1) 2 C0 dX7_make_1 rfl (by decide) ?_
  refine x_iconst (v := 5) 3 C0 dX7_make_2 rfl (by decide) ?_
  refine x_callS 6 C0 (k_X7_needRange l hl g _ _ si 1 5) dX7_make_3 rfl mC_X7_needRange mM_X7_41 mS_X7_needRange mN_X7 yd_X7_needRange rfl rfl ⟨Nat.le_of_ble_eq_true rfl, Nat.le_of_ble_eq_true rfl⟩ rfl rfl (Nat.le_of_ble_eq_true rfl) ⟨Nat.le_of_ble_eq_true rfl, Nat.le_of_ble_eq_true rfl⟩ (fun E9 w9 sz9 q => by obtain ⟨rfl, rfl, h9, hno9⟩ := q; exact x_out C0 rfl (Nat.le_of_ble_eq_true rfl) (Nat.le_of_ble_eq_true rfl) ⟨by decide, (hC.grow h9).ci, xFr.rf, by omega⟩) (fun r w1 sz1 hz hP => ?_)
  obtain ⟨rfl, h19, h59, rfl, rfl⟩ := hP
  refine x_st (st1 := []) rfl ?_
  refine x_aload_n 0 7 C0 dX7_make_6 rfl rfl rfl ?_
  refine x_getf (v := .ref (g.2 0 + 47)) 3 10 C0 dX7_make_7 rfl hC.1.1 rfl (by decide) inX7 mF_X7_26 rfl ?_
  refine x_aload_n 0 11 C0 dX7_make_10 rfl rfl rfl ?_
  refine x_getf (v := .ref (g.2 0 + 1)) 0 14 C0 dX7_make_11 rfl hC.1.1 rfl (by decide) inX7 mF_X7_10 rfl ?_
  refine x_callV 17 C0 (k_X3_prepare l hl g _ _ _ x la t tt vb sg hC) dX7_make_14 rfl mC_X3_prepare mM_X7_45 mI_X3_prepare mV_X3_prepare mN_X3 yd_X3_prepare rfl rfl ⟨Nat.le_of_ble_eq_true rfl, Nat.le_of_ble_eq_true rfl⟩ hC.1.2.1 rfl rfl rfl rfl (Nat.le_of_ble_eq_true rfl) ⟨Nat.le_of_ble_eq_true rfl, Nat.le_of_ble_eq_true rfl⟩ (fun _ _ _ q => False.elim q) (fun r w1 sz1 hz hP => ?_)
  obtain ⟨wv1, hwv1⟩ : ∃ z, z = w1 := ⟨_, rfl⟩
  obtain ⟨rfl, x1, la1, hC1, hx1, hl1, hG1, rfl, hXX1⟩ := hP
  refine x_w hwv1.symm ?_
  rw [← hwv1] at hC1 hG1
  have hF1 : xFr g w wv1 sz := xFr.tr (sz1 := sz) xFr.rf hG1 (by omega)
  refine x_st (st1 := []) rfl ?_
  refine x_aload_n 0 18 C0 dX7_make_17 rfl rfl rfl ?_
  refine x_aload_n 0 19 C0 dX7_make_18 rfl rfl rfl ?_
  refine x_getf (v := .ref (g.2 0 + 1)) 0 22 C0 dX7_make_19 rfl hC1.1.1 rfl (by decide) inX7 mF_X7_10 rfl ?_
  refine x_iload_n 1 23 C0 dX7_make_22 rfl rfl rfl ?_
  obtain ⟨mk, hmk, hm3⟩ := hC1.k0.made
  refine x_callV 26 C0 (k_X4_tryMake l hl g _ _ _ _ _ hC1.h0 (Nat.le_add_right _ _) mk hmk hm3 si) dX7_make_23 rfl mC_X4_tryMake mM_X7_82 mI_X4_tryMake mV_X4_tryMake mN_X4 yd_X4_tryMake rfl rfl ⟨Nat.le_of_ble_eq_true rfl, Nat.le_of_ble_eq_true rfl⟩ (HR.ho hC1.h0) rfl rfl rfl rfl (Nat.le_of_ble_eq_true rfl) ⟨Nat.le_of_ble_eq_true rfl, Nat.le_of_ble_eq_true rfl⟩ (fun _ _ _ q => False.elim q) (fun r w1 sz1 hz hP => ?_)
  obtain ⟨rfl, x2, hw2, hQ2⟩ := hP
  obtain ⟨hk2, b2, rfl, hb2⟩ := hQ2.ok (fun q => hC1.k0.make q hm3 h19 h59) hC1.k0
  obtain ⟨wv2, hwv2⟩ : ∃ z, z = w1 := ⟨_, rfl⟩
  refine x_w hwv2.symm ?_
  rw [← hwv2] at hw2
  obtain ⟨x3, la3, hx3, hla3, hC3⟩ : ∃ x3 la3, x3 = va_up x1 0 x2 ∧ la3 = va_up la1 0 (la1 0) ∧ CR g wv2 sz n x3 la3 t tt vb sg := ⟨_, _, rfl, rfl, by rw [hw2]; exact hC1.set0 hk2 hC1.l0⟩
  have hF3 : xFr g w wv2 sz := xFr.tr (sz1 := sz) hF1 (by rw [hw2]; exact xFr.hw (by omega)) (by omega)
  refine x_st (st1 := [.int b2, .ref (g.2 0)]) rfl ?_
  refine x_callV 29 C0 (k_X7_conclude l hl g _ _ _ x3 la3 t tt vb sg hC3 b2) dX7_make_26 rfl mC_X7_conclude mM_X7_53 mI_X7_conclude mV_X7_conclude mN_X7 yd_X7_conclude rfl rfl ⟨Nat.le_of_ble_eq_true rfl, Nat.le_of_ble_eq_true rfl⟩ hC3.1.1 rfl rfl rfl rfl (Nat.le_of_ble_eq_true rfl) ⟨Nat.le_of_ble_eq_true rfl, Nat.le_of_ble_eq_true rfl⟩ (fun E9 w9 sz9 q => by obtain ⟨rfl, rfl, h9, hno9⟩ := q; exact x_out C0 rfl (Nat.le_of_ble_eq_true rfl) (Nat.le_of_ble_eq_true rfl) ⟨by decide, (hC3.grow h9).ci, hF3, by omega⟩) (fun r w1 sz1 hz hP => ?_)
  obtain ⟨wv4, hwv4⟩ : ∃ z, z = w1 := ⟨_, rfl⟩
  obtain ⟨rfl, t4, hC4, hG4, rfl, hb94, ht94⟩ := hP
  refine x_w hwv4.symm ?_
  rw [← hwv4] at hC4 hG4
  have hF4 : xFr g w wv4 sz := xFr.tr (sz1 := sz) hF3 hG4 (by omega)
  refine x_st (st1 := []) rfl ?_
  refine x_aload_n 0 30 C0 dX7_make_29 rfl rfl rfl ?_
  refine x_getf (v := .ref (g.2 0 + 1)) 0 33 C0 dX7_make_30 rfl hC4.1.1 rfl (by decide) inX7 mF_X7_10 rfl ?_
  refine x_getf (v := .int (x3 0 3)) 2 36 C0 dX7_make_33 rfl (HR.ho hC4.h0) rfl (by decide) inX4 mF_X7_86 rfl ?_
  refine x_iconst (v := 1) 37 C0 dX7_make_36 rfl (by decide) ?_
  refine x_isub 38 C0 dX7_make_37 rfl ?_
  exact x_ireturn C0 dX7_make_38 rfl rfl (Nat.le_of_ble_eq_true rfl) (Nat.le_of_ble_eq_true rfl) ⟨⟨_, rfl⟩, hC4.ci, hF4, by omega⟩

set_option maxHeartbeats 4000000 in
set_option maxRecDepth 100000 in
theorem k_X7_line (l : Launch) (hl : l.stackTraces = false) (g : xg_T) (w : xw_T) (sz n : Nat) (x : Nat → Nat → Int32) (la : Nat → Nat → Nat) (t tt : Nat → Int32) (vb : Option Nat) (sg : Nat → Int32) (hC : CR g w sz n x la t tt vb sg) (cn : Int32) : xM l g yX7_line cX7_line 3 (some .int) ({ frames := 7, cells := 8, slots := 64, locals := 104 }) 8 64 [.ref (g.2 0), .int cn] w sz (cPo g w sz n rI) (cXo g w sz n ["java/lang/IndexOutOfBoundsException", "java/lang/UnsupportedOperationException"]) := by
  have hz9 := hC.zz
  refine xM.of RX7 hl (by decide +kernel) rfl (Nat.le_of_ble_eq_true rfl) rfl ?_
  intro p e s m args below meth cD C0 hini
  refine x_aload_n 0 1 C0 dX7_line_0 rfl rfl rfl ?_
  refine x_iload_n 1 2 C0 dX7_line_1 rfl rfl rfl ?_
  refine x_callV 5 C0 (k_X7_needChest l hl g _ _ _ x la t tt vb sg hC cn) dX7_line_2 rfl mC_X7_needChest mM_X7_89 mI_X7_needChest mV_X7_needChest mN_X7 yd_X7_needChest rfl rfl ⟨Nat.le_of_ble_eq_true rfl, Nat.le_of_ble_eq_true rfl⟩ hC.1.1 rfl rfl rfl rfl (Nat.le_of_ble_eq_true rfl) ⟨Nat.le_of_ble_eq_true rfl, Nat.le_of_ble_eq_true rfl⟩ (fun E9 w9 sz9 q => by obtain ⟨rfl, rfl, h9, hno9⟩ := q; exact x_out C0 rfl (Nat.le_of_ble_eq_true rfl) (Nat.le_of_ble_eq_true rfl) ⟨by decide, (hC.grow h9).ci, xFr.rf, by omega⟩) (fun r w1 sz1 hz hP => ?_)
  obtain ⟨⟨k, hk, hm, rfl, hnk⟩, rfl, rfl⟩ := hP
  have hm0 := hm
  refine x_st (st1 := [.ref (g.2 0 + 1 + 3 + k)]) rfl ?_
  refine x_astore_n [(2, .ref (g.2 0 + 1 + 3 + k)), (0, .ref (g.2 0)), (1, .int cn)] 6 C0 dX7_line_5 rfl rfl (by decide) rfl ?_
  refine x_lv (lv1 := [(0, .ref (g.2 0)), (1, .int cn), (2, .ref (g.2 0 + 1 + 3 + k))]) [1, 2, 0] rfl ?_
  refine x_aload_n 0 7 C0 dX7_line_6 rfl rfl rfl ?_
  refine x_getf (v := .ref (g.2 0 + 47)) 3 10 C0 dX7_line_7 rfl hC.1.1 rfl (by decide) inX7 mF_X7_26 rfl ?_
  refine x_aload_n 0 11 C0 dX7_line_10 rfl rfl rfl ?_
  refine x_getf (v := .ref (g.2 0 + 1)) 0 14 C0 dX7_line_11 rfl hC.1.1 rfl (by decide) inX7 mF_X7_10 rfl ?_
  refine x_callV 17 C0 (k_X3_prepare l hl g _ _ _ x la t tt vb sg hC) dX7_line_14 rfl mC_X3_prepare mM_X7_45 mI_X3_prepare mV_X3_prepare mN_X3 yd_X3_prepare rfl rfl ⟨Nat.le_of_ble_eq_true rfl, Nat.le_of_ble_eq_true rfl⟩ hC.1.2.1 rfl rfl rfl rfl (Nat.le_of_ble_eq_true rfl) ⟨Nat.le_of_ble_eq_true rfl, Nat.le_of_ble_eq_true rfl⟩ (fun _ _ _ q => False.elim q) (fun r w1 sz1 hz hP => ?_)
  obtain ⟨wv1, hwv1⟩ : ∃ z, z = w1 := ⟨_, rfl⟩
  obtain ⟨rfl, x1, la1, hC1, hx1, hl1, hG1, rfl, hXX1⟩ := hP
  refine x_w hwv1.symm ?_
  rw [← hwv1] at hC1 hG1
  have hF1 : xFr g w wv1 sz := xFr.tr (sz1 := sz) xFr.rf hG1 (by omega)
  refine x_st (st1 := []) rfl ?_
  have hm : nI k < x1 0 3 := by rw [hx1]; exact hm
  refine x_aload_n 0 18 C0 dX7_line_17 rfl rfl rfl ?_
  refine x_aload_n 0 19 C0 dX7_line_18 rfl rfl rfl ?_
  refine x_getf (v := .ref (g.2 0 + 1)) 0 22 C0 dX7_line_19 rfl hC1.1.1 rfl (by decide) inX7 mF_X7_10 rfl ?_
  refine x_aload_n 2 23 C0 dX7_line_22 rfl rfl rfl ?_
  refine x_callV 26 C0 (k_X4_tryLine l hl g _ _ _ _ _ hC1.h0 (Nat.le_add_right _ _) k hk) dX7_line_23 rfl mC_X4_tryLine mM_X7_93 mI_X4_tryLine mV_X4_tryLine mN_X4 yd_X4_tryLine rfl rfl ⟨Nat.le_of_ble_eq_true rfl, Nat.le_of_ble_eq_true rfl⟩ (HR.ho hC1.h0) rfl rfl rfl rfl (Nat.le_of_ble_eq_true rfl) ⟨Nat.le_of_ble_eq_true rfl, Nat.le_of_ble_eq_true rfl⟩ (fun _ _ _ q => False.elim q) (fun r w1 sz1 hz hP => ?_)
  obtain ⟨rfl, x2, hw2, hQ2⟩ := hP
  obtain ⟨hk2, b2, rfl, hb2⟩ := hQ2.ok (fun q => hC1.k0.line hk) hC1.k0
  obtain ⟨wv2, hwv2⟩ : ∃ z, z = w1 := ⟨_, rfl⟩
  refine x_w hwv2.symm ?_
  rw [← hwv2] at hw2
  obtain ⟨x3, la3, hx3, hla3, hC3⟩ : ∃ x3 la3, x3 = va_up x1 0 x2 ∧ la3 = va_up la1 0 (la1 0) ∧ CR g wv2 sz n x3 la3 t tt vb sg := ⟨_, _, rfl, rfl, by rw [hw2]; exact hC1.set0 hk2 hC1.l0⟩
  have hF3 : xFr g w wv2 sz := xFr.tr (sz1 := sz) hF1 (by rw [hw2]; exact xFr.hw (by omega)) (by omega)
  refine x_st (st1 := [.int b2, .ref (g.2 0)]) rfl ?_
  refine x_callV 29 C0 (k_X7_conclude l hl g _ _ _ x3 la3 t tt vb sg hC3 b2) dX7_line_26 rfl mC_X7_conclude mM_X7_53 mI_X7_conclude mV_X7_conclude mN_X7 yd_X7_conclude rfl rfl ⟨Nat.le_of_ble_eq_true rfl, Nat.le_of_ble_eq_true rfl⟩ hC3.1.1 rfl rfl rfl rfl (Nat.le_of_ble_eq_true rfl) ⟨Nat.le_of_ble_eq_true rfl, Nat.le_of_ble_eq_true rfl⟩ (fun E9 w9 sz9 q => by obtain ⟨rfl, rfl, h9, hno9⟩ := q; exact x_out C0 rfl (Nat.le_of_ble_eq_true rfl) (Nat.le_of_ble_eq_true rfl) ⟨by decide, (hC3.grow h9).ci, hF3, by omega⟩) (fun r w1 sz1 hz hP => ?_)
  obtain ⟨wv4, hwv4⟩ : ∃ z, z = w1 := ⟨_, rfl⟩
  obtain ⟨rfl, t4, hC4, hG4, rfl, hb94, ht94⟩ := hP
  refine x_w hwv4.symm ?_
  rw [← hwv4] at hC4 hG4
  have hF4 : xFr g w wv4 sz := xFr.tr (sz1 := sz) hF3 hG4 (by omega)
  refine x_st (st1 := []) rfl ?_
  refine x_aload_n 0 30 C0 dX7_line_29 rfl rfl rfl ?_
  refine x_getf (v := .ref (g.2 0 + 1)) 0 33 C0 dX7_line_30 rfl hC4.1.1 rfl (by decide) inX7 mF_X7_10 rfl ?_
  refine x_getf (v := .int (x3 0 1)) 3 36 C0 dX7_line_33 rfl (HR.ho hC4.h0) rfl (by decide) inX4 mF_X7_79 rfl ?_
  exact x_ireturn C0 dX7_line_36 rfl rfl (Nat.le_of_ble_eq_true rfl) (Nat.le_of_ble_eq_true rfl) ⟨⟨_, rfl⟩, hC4.ci, hF4, by omega⟩

set_option maxHeartbeats 4000000 in
set_option maxRecDepth 100000 in
theorem k_X7_fill (l : Launch) (hl : l.stackTraces = false) (g : xg_T) (w : xw_T) (sz n : Nat) (x : Nat → Nat → Int32) (la : Nat → Nat → Nat) (t tt : Nat → Int32) (vb : Option Nat) (sg : Nat → Int32) (hC : CR g w sz n x la t tt vb sg) (cn : Int32) (ga : Int32) (ki : Int32) (po : Int32) : xM l g yX7_fill cX7_fill 6 (some .int) ({ frames := 7, cells := 8, slots := 64, locals := 104 }) 8 64 [.ref (g.2 0), .int cn, .int ga, .int ki, .int po] w sz (cPo g w sz n rI) (cXo g w sz n ["java/lang/IndexOutOfBoundsException", "java/lang/IllegalArgumentException", "java/lang/UnsupportedOperationException"]) := by
  have hz9 := hC.zz
  refine xM.of RX7 hl (by decide +kernel) rfl (Nat.le_of_ble_eq_true rfl) rfl ?_
  intro p e s m args below meth cD C0 hini
  refine x_aload_n 0 1 C0 dX7_fill_0 rfl rfl rfl ?_
  refine x_iload_n 1 2 C0 dX7_fill_1 rfl rfl rfl ?_
  refine x_callV 5 C0 (k_X7_needChest l hl g _ _ _ x la t tt vb sg hC cn) dX7_fill_2 rfl mC_X7_needChest mM_X7_89 mI_X7_needChest mV_X7_needChest mN_X7 yd_X7_needChest rfl rfl ⟨Nat.le_of_ble_eq_true rfl, Nat.le_of_ble_eq_true rfl⟩ hC.1.1 rfl rfl rfl rfl (Nat.le_of_ble_eq_true rfl) ⟨Nat.le_of_ble_eq_true rfl, Nat.le_of_ble_eq_true rfl⟩ (fun E9 w9 sz9 q => by obtain ⟨rfl, rfl, h9, hno9⟩ := q; exact x_out C0 rfl (Nat.le_of_ble_eq_true rfl) (Nat.le_of_ble_eq_true rfl) ⟨by decide, (hC.grow h9).ci, xFr.rf, by omega⟩) (fun r w1 sz1 hz hP => ?_)
  obtain ⟨⟨k, hk, hm, rfl, hnk⟩, rfl, rfl⟩ := hP
  have hm0 := hm
  refine x_st (st1 := [.ref (g.2 0 + 1 + 3 + k)]) rfl ?_
  refine x_astore [(5, .ref (g.2 0 + 1 + 3 + k)), (0, .ref (g.2 0)), (1, .int cn), (2, .int ga), (3, .int ki), (4, .int po)] 7 C0 dX7_fill_5 rfl (by decide) rfl ?_
  refine x_lv (lv1 := [(0, .ref (g.2 0)), (1, .int cn), (2, .int ga), (3, .int ki), (4, .int po), (5, .ref (g.2 0 + 1 + 3 + k))]) [1, 2, 3, 4, 5, 0] rfl ?_
  refine x_iload_n 2 8 C0 dX7_fill_7 rfl rfl rfl ?_
  refine x_iload_n 3 9 C0 dX7_fill_8 rfl rfl rfl ?_
  refine x_callS 12 C0 (k_X7_needLeaf l hl g _ _ ga ki) dX7_fill_9 rfl mC_X7_needLeaf mM_X7_37 mS_X7_needLeaf mN_X7 yd_X7_needLeaf rfl rfl ⟨Nat.le_of_ble_eq_true rfl, Nat.le_of_ble_eq_true rfl⟩ rfl rfl (Nat.le_of_ble_eq_true rfl) ⟨Nat.le_of_ble_eq_true rfl, Nat.le_of_ble_eq_true rfl⟩ (fun E9 w9 sz9 q => by obtain ⟨rfl, rfl, h9, hno9⟩ := q; exact x_out C0 rfl (Nat.le_of_ble_eq_true rfl) (Nat.le_of_ble_eq_true rfl) ⟨by decide, (hC.grow h9).ci, xFr.rf, by omega⟩) (fun r w1 sz1 hz hP => ?_)
  obtain ⟨rfl, hB9, rfl, rfl⟩ := hP
  refine x_st (st1 := []) rfl ?_
  refine x_iload 4 14 C0 dX7_fill_12 rfl rfl ?_
  refine x_iconst (v := 1) 15 C0 dX7_fill_14 rfl (by decide) ?_
  refine x_bipush (v := 50) 17 C0 dX7_fill_15 rfl (by decide) ?_
  refine x_callS 20 C0 (k_X7_needRange l hl g _ _ po 1 50) dX7_fill_17 rfl mC_X7_needRange mM_X7_41 mS_X7_needRange mN_X7 yd_X7_needRange rfl rfl ⟨Nat.le_of_ble_eq_true rfl, Nat.le_of_ble_eq_true rfl⟩ rfl rfl (Nat.le_of_ble_eq_true rfl) ⟨Nat.le_of_ble_eq_true rfl, Nat.le_of_ble_eq_true rfl⟩ (fun E9 w9 sz9 q => by obtain ⟨rfl, rfl, h9, hno9⟩ := q; exact x_out C0 rfl (Nat.le_of_ble_eq_true rfl) (Nat.le_of_ble_eq_true rfl) ⟨by decide, (hC.grow h9).ci, xFr.rf, by omega⟩) (fun r w1 sz1 hz hP => ?_)
  obtain ⟨rfl, h19, h59, rfl, rfl⟩ := hP
  refine x_st (st1 := []) rfl ?_
  refine x_aload_n 0 21 C0 dX7_fill_20 rfl rfl rfl ?_
  refine x_getf (v := .ref (g.2 0 + 47)) 3 24 C0 dX7_fill_21 rfl hC.1.1 rfl (by decide) inX7 mF_X7_26 rfl ?_
  refine x_aload_n 0 25 C0 dX7_fill_24 rfl rfl rfl ?_
  refine x_getf (v := .ref (g.2 0 + 1)) 0 28 C0 dX7_fill_25 rfl hC.1.1 rfl (by decide) inX7 mF_X7_10 rfl ?_
  refine x_callV 31 C0 (k_X3_prepare l hl g _ _ _ x la t tt vb sg hC) dX7_fill_28 rfl mC_X3_prepare mM_X7_45 mI_X3_prepare mV_X3_prepare mN_X3 yd_X3_prepare rfl rfl ⟨Nat.le_of_ble_eq_true rfl, Nat.le_of_ble_eq_true rfl⟩ hC.1.2.1 rfl rfl rfl rfl (Nat.le_of_ble_eq_true rfl) ⟨Nat.le_of_ble_eq_true rfl, Nat.le_of_ble_eq_true rfl⟩ (fun _ _ _ q => False.elim q) (fun r w1 sz1 hz hP => ?_)
  obtain ⟨wv1, hwv1⟩ : ∃ z, z = w1 := ⟨_, rfl⟩
  obtain ⟨rfl, x1, la1, hC1, hx1, hl1, hG1, rfl, hXX1⟩ := hP
  refine x_w hwv1.symm ?_
  rw [← hwv1] at hC1 hG1
  have hF1 : xFr g w wv1 sz := xFr.tr (sz1 := sz) xFr.rf hG1 (by omega)
  refine x_st (st1 := []) rfl ?_
  have hm : nI k < x1 0 3 := by rw [hx1]; exact hm
  refine x_aload_n 0 32 C0 dX7_fill_31 rfl rfl rfl ?_
  refine x_aload_n 0 33 C0 dX7_fill_32 rfl rfl rfl ?_
  refine x_getf (v := .ref (g.2 0 + 1)) 0 36 C0 dX7_fill_33 rfl hC1.1.1 rfl (by decide) inX7 mF_X7_10 rfl ?_
  refine x_aload 5 38 C0 dX7_fill_36 rfl rfl ?_
  refine x_iload_n 2 39 C0 dX7_fill_38 rfl rfl rfl ?_
  refine x_iload_n 3 40 C0 dX7_fill_39 rfl rfl rfl ?_
  refine x_iload 4 42 C0 dX7_fill_40 rfl rfl ?_
  refine x_callV 45 C0 (k_X4_tryFill l hl g _ _ _ _ _ hC1.h0 (Nat.le_add_right _ _) k hk ga ki po) dX7_fill_42 rfl mC_X4_tryFill mM_X7_97 mI_X4_tryFill mV_X4_tryFill mN_X4 yd_X4_tryFill rfl rfl ⟨Nat.le_of_ble_eq_true rfl, Nat.le_of_ble_eq_true rfl⟩ (HR.ho hC1.h0) rfl rfl rfl rfl (Nat.le_of_ble_eq_true rfl) ⟨Nat.le_of_ble_eq_true rfl, Nat.le_of_ble_eq_true rfl⟩ (fun _ _ _ q => False.elim q) (fun r w1 sz1 hz hP => ?_)
  obtain ⟨rfl, x2, la2, hw2, hQ2⟩ := hP
  obtain ⟨hk2, hl2, b2, rfl, hb2⟩ : hok x2 ∧ lok g wv1 sz la2 ∧ ∃ b : Int32, r = some (.int b) ∧ isB b := by
    rcases hQ2 with ⟨q, q2, rfl, rfl⟩ | ⟨-, q2, q3, rfl⟩
    · exact ⟨hC1.k0.fill hk hm hB9 h19 h59 q, hC1.l0.blank, 1, q2, Or.inr rfl⟩
    · exact ⟨hC1.k0.refu q3, hC1.l0, 0, q2, Or.inl rfl⟩
  obtain ⟨wv2, hwv2⟩ : ∃ z, z = w1 := ⟨_, rfl⟩
  refine x_w hwv2.symm ?_
  rw [← hwv2] at hw2
  obtain ⟨x3, la3, hx3, hla3, hC3⟩ : ∃ x3 la3, x3 = va_up x1 0 x2 ∧ la3 = va_up la1 0 la2 ∧ CR g wv2 sz n x3 la3 t tt vb sg := ⟨_, _, rfl, rfl, by rw [hw2]; exact hC1.set0 hk2 hl2⟩
  have hF3 : xFr g w wv2 sz := xFr.tr (sz1 := sz) hF1 (by rw [hw2]; exact xFr.hw (by omega)) (by omega)
  refine x_st (st1 := [.int b2, .ref (g.2 0)]) rfl ?_
  refine x_callV 48 C0 (k_X7_conclude l hl g _ _ _ x3 la3 t tt vb sg hC3 b2) dX7_fill_45 rfl mC_X7_conclude mM_X7_53 mI_X7_conclude mV_X7_conclude mN_X7 yd_X7_conclude rfl rfl ⟨Nat.le_of_ble_eq_true rfl, Nat.le_of_ble_eq_true rfl⟩ hC3.1.1 rfl rfl rfl rfl (Nat.le_of_ble_eq_true rfl) ⟨Nat.le_of_ble_eq_true rfl, Nat.le_of_ble_eq_true rfl⟩ (fun E9 w9 sz9 q => by obtain ⟨rfl, rfl, h9, hno9⟩ := q; exact x_out C0 rfl (Nat.le_of_ble_eq_true rfl) (Nat.le_of_ble_eq_true rfl) ⟨by decide, (hC3.grow h9).ci, hF3, by omega⟩) (fun r w1 sz1 hz hP => ?_)
  obtain ⟨wv4, hwv4⟩ : ∃ z, z = w1 := ⟨_, rfl⟩
  obtain ⟨rfl, t4, hC4, hG4, rfl, hb94, ht94⟩ := hP
  refine x_w hwv4.symm ?_
  rw [← hwv4] at hC4 hG4
  have hF4 : xFr g w wv4 sz := xFr.tr (sz1 := sz) hF3 hG4 (by omega)
  refine x_st (st1 := []) rfl ?_
  refine x_aload 5 50 C0 dX7_fill_48 rfl rfl ?_
  refine x_callV 53 C0 (k_X1_room l hl g _ _ _ _ _ _ (HR.c hC4.h0 hk)) dX7_fill_50 rfl mC_X1_room mM_X7_101 mI_X1_room mV_X1_room mN_X1 yd_X1_room rfl rfl ⟨Nat.le_of_ble_eq_true rfl, Nat.le_of_ble_eq_true rfl⟩ (HR.c hC4.h0 hk) rfl rfl rfl rfl (Nat.le_of_ble_eq_true rfl) ⟨Nat.le_of_ble_eq_true rfl, Nat.le_of_ble_eq_true rfl⟩ (fun _ _ _ q => False.elim q) (fun r w1 sz1 hz hP => ?_)
  obtain ⟨hr, rfl, rfl⟩ := hP
  obtain ⟨v5, rfl⟩ : ∃ v : Int32, r = some (.int v) := ⟨_, hr⟩
  refine x_st (st1 := [.int v5]) rfl ?_
  exact x_ireturn C0 dX7_fill_53 rfl rfl (Nat.le_of_ble_eq_true rfl) (Nat.le_of_ble_eq_true rfl) ⟨⟨_, rfl⟩, hC4.ci, hF4, by omega⟩

set_option maxHeartbeats 4000000 in
set_option maxRecDepth 100000 in
theorem k_X7_empty (l : Launch) (hl : l.stackTraces = false) (g : xg_T) (w : xw_T) (sz n : Nat) (x : Nat → Nat → Int32) (la : Nat → Nat → Nat) (t tt : Nat → Int32) (vb : Option Nat) (sg : Nat → Int32) (hC : CR g w sz n x la t tt vb sg) (cn : Int32) : xM l g yX7_empty cX7_empty 4 (some .int) ({ frames := 7, cells := 8, slots := 64, locals := 104 }) 8 64 [.ref (g.2 0), .int cn] w sz (cPo g w sz n rI) (cXo g w sz n ["java/lang/IndexOutOfBoundsException", "java/lang/UnsupportedOperationException"]) := by
  have hz9 := hC.zz
  refine xM.of RX7 hl (by decide +kernel) rfl (Nat.le_of_ble_eq_true rfl) rfl ?_
  intro p e s m args below meth cD C0 hini
  refine x_aload_n 0 1 C0 dX7_empty_0 rfl rfl rfl ?_
  refine x_iload_n 1 2 C0 dX7_empty_1 rfl rfl rfl ?_
  refine x_callV 5 C0 (k_X7_needChest l hl g _ _ _ x la t tt vb sg hC cn) dX7_empty_2 rfl mC_X7_needChest mM_X7_89 mI_X7_needChest mV_X7_needChest mN_X7 yd_X7_needChest rfl rfl ⟨Nat.le_of_ble_eq_true rfl, Nat.le_of_ble_eq_true rfl⟩ hC.1.1 rfl rfl rfl rfl (Nat.le_of_ble_eq_true rfl) ⟨Nat.le_of_ble_eq_true rfl, Nat.le_of_ble_eq_true rfl⟩ (fun E9 w9 sz9 q => by obtain ⟨rfl, rfl, h9, hno9⟩ := q; exact x_out C0 rfl (Nat.le_of_ble_eq_true rfl) (Nat.le_of_ble_eq_true rfl) ⟨by decide, (hC.grow h9).ci, xFr.rf, by omega⟩) (fun r w1 sz1 hz hP => ?_)
  obtain ⟨⟨k, hk, hm, rfl, hnk⟩, rfl, rfl⟩ := hP
  have hm0 := hm
  refine x_st (st1 := [.ref (g.2 0 + 1 + 3 + k)]) rfl ?_
  refine x_astore_n [(2, .ref (g.2 0 + 1 + 3 + k)), (0, .ref (g.2 0)), (1, .int cn)] 6 C0 dX7_empty_5 rfl rfl (by decide) rfl ?_
  refine x_lv (lv1 := [(0, .ref (g.2 0)), (1, .int cn), (2, .ref (g.2 0 + 1 + 3 + k))]) [1, 2, 0] rfl ?_
  refine x_aload_n 2 7 C0 dX7_empty_6 rfl rfl rfl ?_
  refine x_getf (v := .int (x 0 (28 + 9 * k + 3))) 4 10 C0 dX7_empty_7 rfl (HR.c hC.h0 hk) rfl (by decide) inX1 mF_X7_107 rfl ?_
  refine x_istore_n [(3, .int (x 0 (28 + 9 * k + 3))), (0, .ref (g.2 0)), (1, .int cn), (2, .ref (g.2 0 + 1 + 3 + k))] 11 C0 dX7_empty_10 rfl rfl (by decide) rfl ?_
  refine x_lv (lv1 := [(0, .ref (g.2 0)), (1, .int cn), (2, .ref (g.2 0 + 1 + 3 + k)), (3, .int (x 0 (28 + 9 * k + 3)))]) [1, 2, 3, 0] rfl ?_
  refine x_aload_n 0 12 C0 dX7_empty_11 rfl rfl rfl ?_
  refine x_getf (v := .ref (g.2 0 + 47)) 3 15 C0 dX7_empty_12 rfl hC.1.1 rfl (by decide) inX7 mF_X7_26 rfl ?_
  refine x_aload_n 0 16 C0 dX7_empty_15 rfl rfl rfl ?_
  refine x_getf (v := .ref (g.2 0 + 1)) 0 19 C0 dX7_empty_16 rfl hC.1.1 rfl (by decide) inX7 mF_X7_10 rfl ?_
  refine x_callV 22 C0 (k_X3_prepare l hl g _ _ _ x la t tt vb sg hC) dX7_empty_19 rfl mC_X3_prepare mM_X7_45 mI_X3_prepare mV_X3_prepare mN_X3 yd_X3_prepare rfl rfl ⟨Nat.le_of_ble_eq_true rfl, Nat.le_of_ble_eq_true rfl⟩ hC.1.2.1 rfl rfl rfl rfl (Nat.le_of_ble_eq_true rfl) ⟨Nat.le_of_ble_eq_true rfl, Nat.le_of_ble_eq_true rfl⟩ (fun _ _ _ q => False.elim q) (fun r w1 sz1 hz hP => ?_)
  obtain ⟨wv1, hwv1⟩ : ∃ z, z = w1 := ⟨_, rfl⟩
  obtain ⟨rfl, x1, la1, hC1, hx1, hl1, hG1, rfl, hXX1⟩ := hP
  refine x_w hwv1.symm ?_
  rw [← hwv1] at hC1 hG1
  have hF1 : xFr g w wv1 sz := xFr.tr (sz1 := sz) xFr.rf hG1 (by omega)
  refine x_st (st1 := []) rfl ?_
  have hm : nI k < x1 0 3 := by rw [hx1]; exact hm
  refine x_aload_n 0 23 C0 dX7_empty_22 rfl rfl rfl ?_
  refine x_aload_n 0 24 C0 dX7_empty_23 rfl rfl rfl ?_
  refine x_getf (v := .ref (g.2 0 + 1)) 0 27 C0 dX7_empty_24 rfl hC1.1.1 rfl (by decide) inX7 mF_X7_10 rfl ?_
  refine x_aload_n 2 28 C0 dX7_empty_27 rfl rfl rfl ?_
  refine x_callV 31 C0 (k_X4_tryEmpty l hl g _ _ _ _ _ hC1.h0 (Nat.le_add_right _ _) k hk) dX7_empty_28 rfl mC_X4_tryEmpty mM_X7_110 mI_X4_tryEmpty mV_X4_tryEmpty mN_X4 yd_X4_tryEmpty rfl rfl ⟨Nat.le_of_ble_eq_true rfl, Nat.le_of_ble_eq_true rfl⟩ (HR.ho hC1.h0) rfl rfl rfl rfl (Nat.le_of_ble_eq_true rfl) ⟨Nat.le_of_ble_eq_true rfl, Nat.le_of_ble_eq_true rfl⟩ (fun _ _ _ q => False.elim q) (fun r w1 sz1 hz hP => ?_)
  obtain ⟨rfl, x2, la2, hw2, hQ2⟩ := hP
  obtain ⟨hk2, hl2, b2, rfl, hb2⟩ : hok x2 ∧ lok g wv1 sz la2 ∧ ∃ b : Int32, r = some (.int b) ∧ isB b := by
    rcases hQ2 with ⟨q, q2, rfl, rfl⟩ | ⟨-, q2, q3, rfl⟩
    · exact ⟨hC1.k0.empty hk, hC1.l0.blank, 1, q2, Or.inr rfl⟩
    · exact ⟨hC1.k0.refu q3, hC1.l0, 0, q2, Or.inl rfl⟩
  obtain ⟨wv2, hwv2⟩ : ∃ z, z = w1 := ⟨_, rfl⟩
  refine x_w hwv2.symm ?_
  rw [← hwv2] at hw2
  obtain ⟨x3, la3, hx3, hla3, hC3⟩ : ∃ x3 la3, x3 = va_up x1 0 x2 ∧ la3 = va_up la1 0 la2 ∧ CR g wv2 sz n x3 la3 t tt vb sg := ⟨_, _, rfl, rfl, by rw [hw2]; exact hC1.set0 hk2 hl2⟩
  have hF3 : xFr g w wv2 sz := xFr.tr (sz1 := sz) hF1 (by rw [hw2]; exact xFr.hw (by omega)) (by omega)
  refine x_st (st1 := [.int b2, .ref (g.2 0)]) rfl ?_
  refine x_callV 34 C0 (k_X7_conclude l hl g _ _ _ x3 la3 t tt vb sg hC3 b2) dX7_empty_31 rfl mC_X7_conclude mM_X7_53 mI_X7_conclude mV_X7_conclude mN_X7 yd_X7_conclude rfl rfl ⟨Nat.le_of_ble_eq_true rfl, Nat.le_of_ble_eq_true rfl⟩ hC3.1.1 rfl rfl rfl rfl (Nat.le_of_ble_eq_true rfl) ⟨Nat.le_of_ble_eq_true rfl, Nat.le_of_ble_eq_true rfl⟩ (fun E9 w9 sz9 q => by obtain ⟨rfl, rfl, h9, hno9⟩ := q; exact x_out C0 rfl (Nat.le_of_ble_eq_true rfl) (Nat.le_of_ble_eq_true rfl) ⟨by decide, (hC3.grow h9).ci, hF3, by omega⟩) (fun r w1 sz1 hz hP => ?_)
  obtain ⟨wv4, hwv4⟩ : ∃ z, z = w1 := ⟨_, rfl⟩
  obtain ⟨rfl, t4, hC4, hG4, rfl, hb94, ht94⟩ := hP
  refine x_w hwv4.symm ?_
  rw [← hwv4] at hC4 hG4
  have hF4 : xFr g w wv4 sz := xFr.tr (sz1 := sz) hF3 hG4 (by omega)
  refine x_st (st1 := []) rfl ?_
  refine x_iload_n 3 35 C0 dX7_empty_34 rfl rfl rfl ?_
  exact x_ireturn C0 dX7_empty_35 rfl rfl (Nat.le_of_ble_eq_true rfl) (Nat.le_of_ble_eq_true rfl) ⟨⟨_, rfl⟩, hC4.ci, hF4, by omega⟩

set_option maxHeartbeats 4000000 in
set_option maxRecDepth 100000 in
theorem k_X7_screw (l : Launch) (hl : l.stackTraces = false) (g : xg_T) (w : xw_T) (sz n : Nat) (x : Nat → Nat → Int32) (la : Nat → Nat → Nat) (t tt : Nat → Int32) (vb : Option Nat) (sg : Nat → Int32) (hC : CR g w sz n x la t tt vb sg) (cn : Int32) (mn : Int32) : xM l g yX7_screw cX7_screw 4 (some .boolean) ({ frames := 7, cells := 8, slots := 64, locals := 104 }) 8 64 [.ref (g.2 0), .int cn, .int mn] w sz (cPo g w sz n rI) (cXo g w sz n ["java/lang/IndexOutOfBoundsException", "java/lang/IllegalArgumentException", "java/lang/UnsupportedOperationException"]) := by
  have hz9 := hC.zz
  refine xM.of RX7 hl (by decide +kernel) rfl (Nat.le_of_ble_eq_true rfl) rfl ?_
  intro p e s m args below meth cD C0 hini
  refine x_aload_n 0 1 C0 dX7_screw_0 rfl rfl rfl ?_
  refine x_iload_n 1 2 C0 dX7_screw_1 rfl rfl rfl ?_
  refine x_callV 5 C0 (k_X7_needChest l hl g _ _ _ x la t tt vb sg hC cn) dX7_screw_2 rfl mC_X7_needChest mM_X7_89 mI_X7_needChest mV_X7_needChest mN_X7 yd_X7_needChest rfl rfl ⟨Nat.le_of_ble_eq_true rfl, Nat.le_of_ble_eq_true rfl⟩ hC.1.1 rfl rfl rfl rfl (Nat.le_of_ble_eq_true rfl) ⟨Nat.le_of_ble_eq_true rfl, Nat.le_of_ble_eq_true rfl⟩ (fun E9 w9 sz9 q => by obtain ⟨rfl, rfl, h9, hno9⟩ := q; exact x_out C0 rfl (Nat.le_of_ble_eq_true rfl) (Nat.le_of_ble_eq_true rfl) ⟨by decide, (hC.grow h9).ci, xFr.rf, by omega⟩) (fun r w1 sz1 hz hP => ?_)
  obtain ⟨⟨k, hk, hm, rfl, hnk⟩, rfl, rfl⟩ := hP
  have hm0 := hm
  refine x_st (st1 := [.ref (g.2 0 + 1 + 3 + k)]) rfl ?_
  refine x_astore_n [(3, .ref (g.2 0 + 1 + 3 + k)), (0, .ref (g.2 0)), (1, .int cn), (2, .int mn)] 6 C0 dX7_screw_5 rfl rfl (by decide) rfl ?_
  refine x_lv (lv1 := [(0, .ref (g.2 0)), (1, .int cn), (2, .int mn), (3, .ref (g.2 0 + 1 + 3 + k))]) [1, 2, 3, 0] rfl ?_
  refine x_iload_n 2 7 C0 dX7_screw_6 rfl rfl rfl ?_
  refine x_iconst (v := 1) 8 C0 dX7_screw_7 rfl (by decide) ?_
  refine x_bipush (v := 8) 10 C0 dX7_screw_8 rfl (by decide) ?_
  refine x_callS 13 C0 (k_X7_needRange l hl g _ _ mn 1 8) dX7_screw_10 rfl mC_X7_needRange mM_X7_41 mS_X7_needRange mN_X7 yd_X7_needRange rfl rfl ⟨Nat.le_of_ble_eq_true rfl, Nat.le_of_ble_eq_true rfl⟩ rfl rfl (Nat.le_of_ble_eq_true rfl) ⟨Nat.le_of_ble_eq_true rfl, Nat.le_of_ble_eq_true rfl⟩ (fun E9 w9 sz9 q => by obtain ⟨rfl, rfl, h9, hno9⟩ := q; exact x_out C0 rfl (Nat.le_of_ble_eq_true rfl) (Nat.le_of_ble_eq_true rfl) ⟨by decide, (hC.grow h9).ci, xFr.rf, by omega⟩) (fun r w1 sz1 hz hP => ?_)
  obtain ⟨rfl, h19, h59, rfl, rfl⟩ := hP
  refine x_st (st1 := []) rfl ?_
  refine x_aload_n 0 14 C0 dX7_screw_13 rfl rfl rfl ?_
  refine x_getf (v := .ref (g.2 0 + 47)) 3 17 C0 dX7_screw_14 rfl hC.1.1 rfl (by decide) inX7 mF_X7_26 rfl ?_
  refine x_aload_n 0 18 C0 dX7_screw_17 rfl rfl rfl ?_
  refine x_getf (v := .ref (g.2 0 + 1)) 0 21 C0 dX7_screw_18 rfl hC.1.1 rfl (by decide) inX7 mF_X7_10 rfl ?_
  refine x_callV 24 C0 (k_X3_prepare l hl g _ _ _ x la t tt vb sg hC) dX7_screw_21 rfl mC_X3_prepare mM_X7_45 mI_X3_prepare mV_X3_prepare mN_X3 yd_X3_prepare rfl rfl ⟨Nat.le_of_ble_eq_true rfl, Nat.le_of_ble_eq_true rfl⟩ hC.1.2.1 rfl rfl rfl rfl (Nat.le_of_ble_eq_true rfl) ⟨Nat.le_of_ble_eq_true rfl, Nat.le_of_ble_eq_true rfl⟩ (fun _ _ _ q => False.elim q) (fun r w1 sz1 hz hP => ?_)
  obtain ⟨wv1, hwv1⟩ : ∃ z, z = w1 := ⟨_, rfl⟩
  obtain ⟨rfl, x1, la1, hC1, hx1, hl1, hG1, rfl, hXX1⟩ := hP
  refine x_w hwv1.symm ?_
  rw [← hwv1] at hC1 hG1
  have hF1 : xFr g w wv1 sz := xFr.tr (sz1 := sz) xFr.rf hG1 (by omega)
  refine x_st (st1 := []) rfl ?_
  have hm : nI k < x1 0 3 := by rw [hx1]; exact hm
  refine x_aload_n 0 25 C0 dX7_screw_24 rfl rfl rfl ?_
  refine x_aload_n 0 26 C0 dX7_screw_25 rfl rfl rfl ?_
  refine x_getf (v := .ref (g.2 0 + 1)) 0 29 C0 dX7_screw_26 rfl hC1.1.1 rfl (by decide) inX7 mF_X7_10 rfl ?_
  refine x_aload_n 3 30 C0 dX7_screw_29 rfl rfl rfl ?_
  refine x_iload_n 2 31 C0 dX7_screw_30 rfl rfl rfl ?_
  refine x_callV 34 C0 (k_X4_tryScrew l hl g _ _ _ _ _ hC1.h0 (Nat.le_add_right _ _) k hk mn) dX7_screw_31 rfl mC_X4_tryScrew mM_X7_113 mI_X4_tryScrew mV_X4_tryScrew mN_X4 yd_X4_tryScrew rfl rfl ⟨Nat.le_of_ble_eq_true rfl, Nat.le_of_ble_eq_true rfl⟩ (HR.ho hC1.h0) rfl rfl rfl rfl (Nat.le_of_ble_eq_true rfl) ⟨Nat.le_of_ble_eq_true rfl, Nat.le_of_ble_eq_true rfl⟩ (fun _ _ _ q => False.elim q) (fun r w1 sz1 hz hP => ?_)
  obtain ⟨rfl, x2, hw2, hQ2⟩ := hP
  obtain ⟨hk2, b2, rfl, hb2⟩ := hQ2.ok (fun q => hC1.k0.screw hk) hC1.k0
  obtain ⟨wv2, hwv2⟩ : ∃ z, z = w1 := ⟨_, rfl⟩
  refine x_w hwv2.symm ?_
  rw [← hwv2] at hw2
  obtain ⟨x3, la3, hx3, hla3, hC3⟩ : ∃ x3 la3, x3 = va_up x1 0 x2 ∧ la3 = va_up la1 0 (la1 0) ∧ CR g wv2 sz n x3 la3 t tt vb sg := ⟨_, _, rfl, rfl, by rw [hw2]; exact hC1.set0 hk2 hC1.l0⟩
  have hF3 : xFr g w wv2 sz := xFr.tr (sz1 := sz) hF1 (by rw [hw2]; exact xFr.hw (by omega)) (by omega)
  refine x_st (st1 := [.int b2, .ref (g.2 0)]) rfl ?_
  refine x_callV 37 C0 (k_X7_conclude l hl g _ _ _ x3 la3 t tt vb sg hC3 b2) dX7_screw_34 rfl mC_X7_conclude mM_X7_53 mI_X7_conclude mV_X7_conclude mN_X7 yd_X7_conclude rfl rfl ⟨Nat.le_of_ble_eq_true rfl, Nat.le_of_ble_eq_true rfl⟩ hC3.1.1 rfl rfl rfl rfl (Nat.le_of_ble_eq_true rfl) ⟨Nat.le_of_ble_eq_true rfl, Nat.le_of_ble_eq_true rfl⟩ (fun E9 w9 sz9 q => by obtain ⟨rfl, rfl, h9, hno9⟩ := q; exact x_out C0 rfl (Nat.le_of_ble_eq_true rfl) (Nat.le_of_ble_eq_true rfl) ⟨by decide, (hC3.grow h9).ci, hF3, by omega⟩) (fun r w1 sz1 hz hP => ?_)
  obtain ⟨wv4, hwv4⟩ : ∃ z, z = w1 := ⟨_, rfl⟩
  obtain ⟨rfl, t4, hC4, hG4, rfl, hb94, ht94⟩ := hP
  refine x_w hwv4.symm ?_
  rw [← hwv4] at hC4 hG4
  have hF4 : xFr g w wv4 sz := xFr.tr (sz1 := sz) hF3 hG4 (by omega)
  refine x_st (st1 := []) rfl ?_
  refine x_aload_n 3 38 C0 dX7_screw_37 rfl rfl rfl ?_
  refine x_callV 41 C0 (k_X1_isTight l hl g _ _ _ _ _ _ (HR.c hC4.h0 hk)) dX7_screw_38 rfl mC_X1_isTight mM_X7_117 mI_X1_isTight mV_X1_isTight mN_X1 yd_X1_isTight rfl rfl ⟨Nat.le_of_ble_eq_true rfl, Nat.le_of_ble_eq_true rfl⟩ (HR.c hC4.h0 hk) rfl rfl rfl rfl (Nat.le_of_ble_eq_true rfl) ⟨Nat.le_of_ble_eq_true rfl, Nat.le_of_ble_eq_true rfl⟩ (fun _ _ _ q => False.elim q) (fun r w1 sz1 hz hP => ?_)
  obtain ⟨hr, rfl, rfl⟩ := hP
  obtain ⟨v5, rfl, hv5⟩ : ∃ v : Int32, r = some (.int v) ∧ isB v := ⟨_, hr, isB_bi _⟩
  refine x_st (st1 := [.int v5]) rfl ?_
  exact x_ireturn C0 dX7_screw_41 rfl (hv5.nar) (Nat.le_of_ble_eq_true rfl) (Nat.le_of_ble_eq_true rfl) ⟨⟨_, rfl⟩, hC4.ci, hF4, by omega⟩

set_option maxHeartbeats 4000000 in
set_option maxRecDepth 100000 in
theorem k_X7_unscrew (l : Launch) (hl : l.stackTraces = false) (g : xg_T) (w : xw_T) (sz n : Nat) (x : Nat → Nat → Int32) (la : Nat → Nat → Nat) (t tt : Nat → Int32) (vb : Option Nat) (sg : Nat → Int32) (hC : CR g w sz n x la t tt vb sg) (cn : Int32) : xM l g yX7_unscrew cX7_unscrew 4 (some .int) ({ frames := 7, cells := 8, slots := 64, locals := 104 }) 8 64 [.ref (g.2 0), .int cn] w sz (cPo g w sz n rI) (cXo g w sz n ["java/lang/IndexOutOfBoundsException", "java/lang/UnsupportedOperationException"]) := by
  have hz9 := hC.zz
  refine xM.of RX7 hl (by decide +kernel) rfl (Nat.le_of_ble_eq_true rfl) rfl ?_
  intro p e s m args below meth cD C0 hini
  refine x_aload_n 0 1 C0 dX7_unscrew_0 rfl rfl rfl ?_
  refine x_iload_n 1 2 C0 dX7_unscrew_1 rfl rfl rfl ?_
  refine x_callV 5 C0 (k_X7_needChest l hl g _ _ _ x la t tt vb sg hC cn) dX7_unscrew_2 rfl mC_X7_needChest mM_X7_89 mI_X7_needChest mV_X7_needChest mN_X7 yd_X7_needChest rfl rfl ⟨Nat.le_of_ble_eq_true rfl, Nat.le_of_ble_eq_true rfl⟩ hC.1.1 rfl rfl rfl rfl (Nat.le_of_ble_eq_true rfl) ⟨Nat.le_of_ble_eq_true rfl, Nat.le_of_ble_eq_true rfl⟩ (fun E9 w9 sz9 q => by obtain ⟨rfl, rfl, h9, hno9⟩ := q; exact x_out C0 rfl (Nat.le_of_ble_eq_true rfl) (Nat.le_of_ble_eq_true rfl) ⟨by decide, (hC.grow h9).ci, xFr.rf, by omega⟩) (fun r w1 sz1 hz hP => ?_)
  obtain ⟨⟨k, hk, hm, rfl, hnk⟩, rfl, rfl⟩ := hP
  have hm0 := hm
  refine x_st (st1 := [.ref (g.2 0 + 1 + 3 + k)]) rfl ?_
  refine x_astore_n [(2, .ref (g.2 0 + 1 + 3 + k)), (0, .ref (g.2 0)), (1, .int cn)] 6 C0 dX7_unscrew_5 rfl rfl (by decide) rfl ?_
  refine x_lv (lv1 := [(0, .ref (g.2 0)), (1, .int cn), (2, .ref (g.2 0 + 1 + 3 + k))]) [1, 2, 0] rfl ?_
  refine x_aload_n 2 7 C0 dX7_unscrew_6 rfl rfl rfl ?_
  refine x_getf (v := .int (x 0 (28 + 9 * k + 5))) 6 10 C0 dX7_unscrew_7 rfl (HR.c hC.h0 hk) rfl (by decide) inX1 mF_X7_121 rfl ?_
  refine x_istore_n [(3, .int (x 0 (28 + 9 * k + 5))), (0, .ref (g.2 0)), (1, .int cn), (2, .ref (g.2 0 + 1 + 3 + k))] 11 C0 dX7_unscrew_10 rfl rfl (by decide) rfl ?_
  refine x_lv (lv1 := [(0, .ref (g.2 0)), (1, .int cn), (2, .ref (g.2 0 + 1 + 3 + k)), (3, .int (x 0 (28 + 9 * k + 5)))]) [1, 2, 3, 0] rfl ?_
  refine x_aload_n 0 12 C0 dX7_unscrew_11 rfl rfl rfl ?_
  refine x_getf (v := .ref (g.2 0 + 47)) 3 15 C0 dX7_unscrew_12 rfl hC.1.1 rfl (by decide) inX7 mF_X7_26 rfl ?_
  refine x_aload_n 0 16 C0 dX7_unscrew_15 rfl rfl rfl ?_
  refine x_getf (v := .ref (g.2 0 + 1)) 0 19 C0 dX7_unscrew_16 rfl hC.1.1 rfl (by decide) inX7 mF_X7_10 rfl ?_
  refine x_callV 22 C0 (k_X3_prepare l hl g _ _ _ x la t tt vb sg hC) dX7_unscrew_19 rfl mC_X3_prepare mM_X7_45 mI_X3_prepare mV_X3_prepare mN_X3 yd_X3_prepare rfl rfl ⟨Nat.le_of_ble_eq_true rfl, Nat.le_of_ble_eq_true rfl⟩ hC.1.2.1 rfl rfl rfl rfl (Nat.le_of_ble_eq_true rfl) ⟨Nat.le_of_ble_eq_true rfl, Nat.le_of_ble_eq_true rfl⟩ (fun _ _ _ q => False.elim q) (fun r w1 sz1 hz hP => ?_)
  obtain ⟨wv1, hwv1⟩ : ∃ z, z = w1 := ⟨_, rfl⟩
  obtain ⟨rfl, x1, la1, hC1, hx1, hl1, hG1, rfl, hXX1⟩ := hP
  refine x_w hwv1.symm ?_
  rw [← hwv1] at hC1 hG1
  have hF1 : xFr g w wv1 sz := xFr.tr (sz1 := sz) xFr.rf hG1 (by omega)
  refine x_st (st1 := []) rfl ?_
  have hm : nI k < x1 0 3 := by rw [hx1]; exact hm
  refine x_aload_n 0 23 C0 dX7_unscrew_22 rfl rfl rfl ?_
  refine x_aload_n 0 24 C0 dX7_unscrew_23 rfl rfl rfl ?_
  refine x_getf (v := .ref (g.2 0 + 1)) 0 27 C0 dX7_unscrew_24 rfl hC1.1.1 rfl (by decide) inX7 mF_X7_10 rfl ?_
  refine x_aload_n 2 28 C0 dX7_unscrew_27 rfl rfl rfl ?_
  refine x_callV 31 C0 (k_X4_tryUnscrew l hl g _ _ _ _ _ hC1.h0 (Nat.le_add_right _ _) k hk) dX7_unscrew_28 rfl mC_X4_tryUnscrew mM_X7_122 mI_X4_tryUnscrew mV_X4_tryUnscrew mN_X4 yd_X4_tryUnscrew rfl rfl ⟨Nat.le_of_ble_eq_true rfl, Nat.le_of_ble_eq_true rfl⟩ (HR.ho hC1.h0) rfl rfl rfl rfl (Nat.le_of_ble_eq_true rfl) ⟨Nat.le_of_ble_eq_true rfl, Nat.le_of_ble_eq_true rfl⟩ (fun _ _ _ q => False.elim q) (fun r w1 sz1 hz hP => ?_)
  obtain ⟨rfl, x2, hw2, hQ2⟩ := hP
  obtain ⟨hk2, b2, rfl, hb2⟩ := hQ2.ok (fun q => hC1.k0.unscrew hk) hC1.k0
  obtain ⟨wv2, hwv2⟩ : ∃ z, z = w1 := ⟨_, rfl⟩
  refine x_w hwv2.symm ?_
  rw [← hwv2] at hw2
  obtain ⟨x3, la3, hx3, hla3, hC3⟩ : ∃ x3 la3, x3 = va_up x1 0 x2 ∧ la3 = va_up la1 0 (la1 0) ∧ CR g wv2 sz n x3 la3 t tt vb sg := ⟨_, _, rfl, rfl, by rw [hw2]; exact hC1.set0 hk2 hC1.l0⟩
  have hF3 : xFr g w wv2 sz := xFr.tr (sz1 := sz) hF1 (by rw [hw2]; exact xFr.hw (by omega)) (by omega)
  refine x_st (st1 := [.int b2, .ref (g.2 0)]) rfl ?_
  refine x_callV 34 C0 (k_X7_conclude l hl g _ _ _ x3 la3 t tt vb sg hC3 b2) dX7_unscrew_31 rfl mC_X7_conclude mM_X7_53 mI_X7_conclude mV_X7_conclude mN_X7 yd_X7_conclude rfl rfl ⟨Nat.le_of_ble_eq_true rfl, Nat.le_of_ble_eq_true rfl⟩ hC3.1.1 rfl rfl rfl rfl (Nat.le_of_ble_eq_true rfl) ⟨Nat.le_of_ble_eq_true rfl, Nat.le_of_ble_eq_true rfl⟩ (fun E9 w9 sz9 q => by obtain ⟨rfl, rfl, h9, hno9⟩ := q; exact x_out C0 rfl (Nat.le_of_ble_eq_true rfl) (Nat.le_of_ble_eq_true rfl) ⟨by decide, (hC3.grow h9).ci, hF3, by omega⟩) (fun r w1 sz1 hz hP => ?_)
  obtain ⟨wv4, hwv4⟩ : ∃ z, z = w1 := ⟨_, rfl⟩
  obtain ⟨rfl, t4, hC4, hG4, rfl, hb94, ht94⟩ := hP
  refine x_w hwv4.symm ?_
  rw [← hwv4] at hC4 hG4
  have hF4 : xFr g w wv4 sz := xFr.tr (sz1 := sz) hF3 hG4 (by omega)
  refine x_st (st1 := []) rfl ?_
  refine x_iload_n 3 35 C0 dX7_unscrew_34 rfl rfl rfl ?_
  exact x_ireturn C0 dX7_unscrew_35 rfl rfl (Nat.le_of_ble_eq_true rfl) (Nat.le_of_ble_eq_true rfl) ⟨⟨_, rfl⟩, hC4.ci, hF4, by omega⟩

set_option maxHeartbeats 4000000 in
set_option maxRecDepth 100000 in
theorem k_X7_label (l : Launch) (hl : l.stackTraces = false) (g : xg_T) (w : xw_T) (sz n : Nat) (x : Nat → Nat → Int32) (la : Nat → Nat → Nat) (t tt : Nat → Int32) (vb : Option Nat) (sg : Nat → Int32) (hC : CR g w sz n x la t tt vb sg) (cn : Int32) : xM l g yX7_label cX7_label 3 (some .int) ({ frames := 8, cells := 8, slots := 64, locals := 193 }) 8 64 [.ref (g.2 0), .int cn] w sz (cPo g w sz n rI) (cXo g w sz n ["java/lang/IndexOutOfBoundsException", "java/lang/UnsupportedOperationException"]) := by
  have hz9 := hC.zz
  refine xM.of RX7 hl (by decide +kernel) rfl (Nat.le_of_ble_eq_true rfl) rfl ?_
  intro p e s m args below meth cD C0 hini
  refine x_aload_n 0 1 C0 dX7_label_0 rfl rfl rfl ?_
  refine x_iload_n 1 2 C0 dX7_label_1 rfl rfl rfl ?_
  refine x_callV 5 C0 (k_X7_needChest l hl g _ _ _ x la t tt vb sg hC cn) dX7_label_2 rfl mC_X7_needChest mM_X7_89 mI_X7_needChest mV_X7_needChest mN_X7 yd_X7_needChest rfl rfl ⟨Nat.le_of_ble_eq_true rfl, Nat.le_of_ble_eq_true rfl⟩ hC.1.1 rfl rfl rfl rfl (Nat.le_of_ble_eq_true rfl) ⟨Nat.le_of_ble_eq_true rfl, Nat.le_of_ble_eq_true rfl⟩ (fun E9 w9 sz9 q => by obtain ⟨rfl, rfl, h9, hno9⟩ := q; exact x_out C0 rfl (Nat.le_of_ble_eq_true rfl) (Nat.le_of_ble_eq_true rfl) ⟨by decide, (hC.grow h9).ci, xFr.rf, by omega⟩) (fun r w1 sz1 hz hP => ?_)
  obtain ⟨⟨k, hk, hm, rfl, hnk⟩, rfl, rfl⟩ := hP
  have hm0 := hm
  refine x_st (st1 := [.ref (g.2 0 + 1 + 3 + k)]) rfl ?_
  refine x_astore_n [(2, .ref (g.2 0 + 1 + 3 + k)), (0, .ref (g.2 0)), (1, .int cn)] 6 C0 dX7_label_5 rfl rfl (by decide) rfl ?_
  refine x_lv (lv1 := [(0, .ref (g.2 0)), (1, .int cn), (2, .ref (g.2 0 + 1 + 3 + k))]) [1, 2, 0] rfl ?_
  refine x_aload_n 0 7 C0 dX7_label_6 rfl rfl rfl ?_
  refine x_getf (v := .ref (g.2 0 + 47)) 3 10 C0 dX7_label_7 rfl hC.1.1 rfl (by decide) inX7 mF_X7_26 rfl ?_
  refine x_aload_n 0 11 C0 dX7_label_10 rfl rfl rfl ?_
  refine x_getf (v := .ref (g.2 0 + 1)) 0 14 C0 dX7_label_11 rfl hC.1.1 rfl (by decide) inX7 mF_X7_10 rfl ?_
  refine x_callV 17 C0 (k_X3_prepare l hl g _ _ _ x la t tt vb sg hC) dX7_label_14 rfl mC_X3_prepare mM_X7_45 mI_X3_prepare mV_X3_prepare mN_X3 yd_X3_prepare rfl rfl ⟨Nat.le_of_ble_eq_true rfl, Nat.le_of_ble_eq_true rfl⟩ hC.1.2.1 rfl rfl rfl rfl (Nat.le_of_ble_eq_true rfl) ⟨Nat.le_of_ble_eq_true rfl, Nat.le_of_ble_eq_true rfl⟩ (fun _ _ _ q => False.elim q) (fun r w1 sz1 hz hP => ?_)
  obtain ⟨wv1, hwv1⟩ : ∃ z, z = w1 := ⟨_, rfl⟩
  obtain ⟨rfl, x1, la1, hC1, hx1, hl1, hG1, rfl, hXX1⟩ := hP
  refine x_w hwv1.symm ?_
  rw [← hwv1] at hC1 hG1
  have hF1 : xFr g w wv1 sz := xFr.tr (sz1 := sz) xFr.rf hG1 (by omega)
  refine x_st (st1 := []) rfl ?_
  have hm : nI k < x1 0 3 := by rw [hx1]; exact hm
  refine x_aload_n 0 18 C0 dX7_label_17 rfl rfl rfl ?_
  refine x_aload_n 0 19 C0 dX7_label_18 rfl rfl rfl ?_
  refine x_getf (v := .ref (g.2 0 + 1)) 0 22 C0 dX7_label_19 rfl hC1.1.1 rfl (by decide) inX7 mF_X7_10 rfl ?_
  refine x_aload_n 2 23 C0 dX7_label_22 rfl rfl rfl ?_
  refine x_callV 26 C0 (k_X4_tryLabel l hl g _ _ _ _ _ hC1.h0 (Nat.le_add_right _ _) k hk (hC1.k0.filled hk) (by omega) (by omega)) dX7_label_23 rfl mC_X4_tryLabel mM_X7_125 mI_X4_tryLabel mV_X4_tryLabel mN_X4 yd_X4_tryLabel rfl rfl ⟨Nat.le_of_ble_eq_true rfl, Nat.le_of_ble_eq_true rfl⟩ (HR.ho hC1.h0) rfl rfl rfl rfl (Nat.le_of_ble_eq_true rfl) ⟨Nat.le_of_ble_eq_true rfl, Nat.le_of_ble_eq_true rfl⟩ (fun _ _ _ q => False.elim q) (fun r w1 sz1 hz hP => ?_)
  obtain ⟨b2, xb2, lb2, rfl, hb2, hC2, hG2, hz2⟩ := CR.label hC1 hk hP
  obtain ⟨wv2, hwv2⟩ : ∃ z, z = w1 := ⟨_, rfl⟩
  refine x_w hwv2.symm ?_
  rw [← hwv2] at hC2 hG2
  obtain ⟨sv2, hsv2⟩ : ∃ z, z = sz1 := ⟨_, rfl⟩
  rw [← hsv2] at hC2 hz2 ⊢
  have hF2 : xFr g w wv2 sz := xFr.tr (sz1 := sz) hF1 hG2 (by omega)
  refine x_st (st1 := [.int b2, .ref (g.2 0)]) rfl ?_
  refine x_callV 29 C0 (k_X7_conclude l hl g _ _ _ xb2 lb2 t tt vb sg hC2 b2) dX7_label_26 rfl mC_X7_conclude mM_X7_53 mI_X7_conclude mV_X7_conclude mN_X7 yd_X7_conclude rfl rfl ⟨Nat.le_of_ble_eq_true rfl, Nat.le_of_ble_eq_true rfl⟩ hC2.1.1 rfl rfl rfl rfl (Nat.le_of_ble_eq_true rfl) ⟨Nat.le_of_ble_eq_true rfl, Nat.le_of_ble_eq_true rfl⟩ (fun E9 w9 sz9 q => by obtain ⟨rfl, rfl, h9, hno9⟩ := q; exact x_out C0 rfl (Nat.le_of_ble_eq_true rfl) (Nat.le_of_ble_eq_true rfl) ⟨by decide, (hC2.grow h9).ci, hF2, by omega⟩) (fun r w1 sz1 hz hP => ?_)
  obtain ⟨wv3, hwv3⟩ : ∃ z, z = w1 := ⟨_, rfl⟩
  obtain ⟨rfl, t3, hC3, hG3, rfl, hb93, ht93⟩ := hP
  refine x_w hwv3.symm ?_
  rw [← hwv3] at hC3 hG3
  have hF3 : xFr g w wv3 sz := xFr.tr (sz1 := sv2) hF2 hG3 (by omega)
  refine x_st (st1 := []) rfl ?_
  refine x_aload_n 2 30 C0 dX7_label_29 rfl rfl rfl ?_
  refine x_getf (v := .ref (lb2 0 k)) 9 33 C0 dX7_label_30 rfl (HR.c hC3.h0 hk) rfl (by decide) inX1 mF_X7_128 rfl ?_
  obtain ⟨ln4, lf4, hL4⟩ := hC3.l0
  obtain ⟨v4, ft4, hS4, hn4, hj4⟩ := (hL4 k hk).1.str
  refine x_callR 36 (C := RJ0) C0 (k_J0_length_8abf5 l hl g _ _ _ _ _ _ hS4) dX7_label_33 rfl mC_J0_length_8abf5 mM_X7_132 mI_J0_length_8abf5 mV_J0_length_8abf5 mN_J0 yd_J0_length_8abf5 rfl rfl ⟨Nat.le_of_ble_eq_true rfl, Nat.le_of_ble_eq_true rfl⟩ (xRecv.str C0 hS4) rfl rfl (Nat.le_of_ble_eq_true rfl) ⟨Nat.le_of_ble_eq_true rfl, Nat.le_of_ble_eq_true rfl⟩ (fun _ _ _ q => False.elim q) (fun r w1 sz1 hz hP => ?_)
  obtain ⟨rfl, rfl, rfl⟩ := hP
  refine x_st (st1 := [.int (nI (ln4 k))]) rfl ?_
  exact x_ireturn C0 dX7_label_36 rfl rfl (Nat.le_of_ble_eq_true rfl) (Nat.le_of_ble_eq_true rfl) ⟨⟨_, rfl⟩, hC3.ci, hF3, by omega⟩

set_option maxHeartbeats 4000000 in
set_option maxRecDepth 100000 in
theorem k_X7_labelled (l : Launch) (hl : l.stackTraces = false) (g : xg_T) (w : xw_T) (sz n : Nat) (x : Nat → Nat → Int32) (la : Nat → Nat → Nat) (t tt : Nat → Int32) (vb : Option Nat) (sg : Nat → Int32) (hC : CR g w sz n x la t tt vb sg) (cn : Int32) (ix : Int32) : xM l g yX7_labelled cX7_labelled 4 (some .char) ({ frames := 7, cells := 8, slots := 64, locals := 104 }) 8 64 [.ref (g.2 0), .int cn, .int ix] w sz (cPo g w sz n rI) (cXo g w sz n ["java/lang/IndexOutOfBoundsException", "java/util/NoSuchElementException"]) := by
  have hz9 := hC.zz
  refine xM.of RX7 hl (by decide +kernel) rfl (Nat.le_of_ble_eq_true rfl) rfl ?_
  intro p e s m args below meth cD C0 hini
  refine x_aload_n 0 1 C0 dX7_labelled_0 rfl rfl rfl ?_
  refine x_iload_n 1 2 C0 dX7_labelled_1 rfl rfl rfl ?_
  refine x_callV 5 C0 (k_X7_needChest l hl g _ _ _ x la t tt vb sg hC cn) dX7_labelled_2 rfl mC_X7_needChest mM_X7_89 mI_X7_needChest mV_X7_needChest mN_X7 yd_X7_needChest rfl rfl ⟨Nat.le_of_ble_eq_true rfl, Nat.le_of_ble_eq_true rfl⟩ hC.1.1 rfl rfl rfl rfl (Nat.le_of_ble_eq_true rfl) ⟨Nat.le_of_ble_eq_true rfl, Nat.le_of_ble_eq_true rfl⟩ (fun E9 w9 sz9 q => by obtain ⟨rfl, rfl, h9, hno9⟩ := q; exact x_out C0 rfl (Nat.le_of_ble_eq_true rfl) (Nat.le_of_ble_eq_true rfl) ⟨by decide, (hC.grow h9).ci, xFr.rf, by omega⟩) (fun r w1 sz1 hz hP => ?_)
  obtain ⟨⟨k, hk, hm, rfl, hnk⟩, rfl, rfl⟩ := hP
  have hm0 := hm
  refine x_st (st1 := [.ref (g.2 0 + 1 + 3 + k)]) rfl ?_
  refine x_getf (v := .ref (la 0 k)) 9 8 C0 dX7_labelled_5 rfl (HR.c hC.h0 hk) rfl (by decide) inX1 mF_X7_128 rfl ?_
  refine x_astore_n [(3, .ref (la 0 k)), (0, .ref (g.2 0)), (1, .int cn), (2, .int ix)] 9 C0 dX7_labelled_8 rfl rfl (by decide) rfl ?_
  refine x_lv (lv1 := [(0, .ref (g.2 0)), (1, .int cn), (2, .int ix), (3, .ref (la 0 k))]) [1, 2, 3, 0] rfl ?_
  refine x_iload_n 2 10 C0 dX7_labelled_9 rfl rfl rfl ?_
  refine x_if_lt 21 13 C0 dX7_labelled_10 rfl (by decide) (fun c1 => ?_) (fun c1 => ?_)
  · have c1' := Int32.not_le.mpr c1
    exact x_throwN C0 dX7_labelled_21 dX7_labelled_24 dX7_labelled_25 dX7_labelled_27 dX7_labelled_30 rfl rfl rfl rfl (by decide +kernel) mK_X7_137 mN_NoSuchElementException (xs_ldc C0.2.2.2.2.2.2.2.1.2.2 (RX7, 139, "no such character of a label", 140) (by decide +kernel)) (xhat C0 xg_nse xh_nse (by decide +kernel)) xo_nse (xs_us C0.2.2.2.2.2.2.2.1.2.2) (xs_su C0.2.2.2.2.2.2.2.1.2.2) rfl (Nat.le_of_ble_eq_true rfl) (Nat.le_of_ble_eq_true rfl) (Nat.le_of_ble_eq_true rfl) (Nat.le_of_ble_eq_true rfl) (Nat.le_of_ble_eq_true rfl) (Nat.le_of_ble_eq_true rfl) (fun sz9 h9 => ⟨by decide, (hC.grow h9).ci, xFr.rf, by omega⟩)
  · have c1' := Int32.not_lt.mp c1
    refine x_iload_n 2 14 C0 dX7_labelled_13 rfl rfl rfl ?_
    refine x_aload_n 3 15 C0 dX7_labelled_14 rfl rfl rfl ?_
    obtain ⟨ln2, lf2, hL2⟩ := hC.l0
    obtain ⟨v2, ft2, hS2, hn2, hj2⟩ := (hL2 k hk).1.str
    refine x_callR 18 (C := RJ0) C0 (k_J0_length_8abf5 l hl g _ _ _ _ _ _ hS2) dX7_labelled_15 rfl mC_J0_length_8abf5 mM_X7_132 mI_J0_length_8abf5 mV_J0_length_8abf5 mN_J0 yd_J0_length_8abf5 rfl rfl ⟨Nat.le_of_ble_eq_true rfl, Nat.le_of_ble_eq_true rfl⟩ (xRecv.str C0 hS2) rfl rfl (Nat.le_of_ble_eq_true rfl) ⟨Nat.le_of_ble_eq_true rfl, Nat.le_of_ble_eq_true rfl⟩ (fun _ _ _ q => False.elim q) (fun r w1 sz1 hz hP => ?_)
    obtain ⟨rfl, rfl, rfl⟩ := hP
    refine x_st (st1 := [.int (nI (ln2 k)), .int ix]) rfl ?_
    refine x_icmp_lt 31 21 C0 dX7_labelled_18 rfl (by decide) (fun c3 => ?_) (fun c3 => ?_)
    · have c3' := Int32.not_le.mpr c3
      refine x_aload_n 3 32 C0 dX7_labelled_31 rfl rfl rfl ?_
      refine x_iload_n 2 33 C0 dX7_labelled_32 rfl rfl rfl ?_
      obtain ⟨i9, rfl, hi9⟩ := i32_nat (n := ln2 k) rfl (by omega) (Int32.not_lt.mp c1) c3
      have hc9 : isCh (ft2 i9) := by rw [hj2 i9 hi9]; exact (hL2 k hk).2 i9
      refine x_callR 36 (C := RJ0) C0 (k_J0_charAt_5068e l hl g _ _ _ _ _ _ hS2 i9 hi9 hn2 hc9) dX7_labelled_33 rfl mC_J0_charAt_5068e mM_X7_144 mI_J0_charAt_5068e mV_J0_charAt_5068e mN_J0 yd_J0_charAt_5068e rfl rfl ⟨Nat.le_of_ble_eq_true rfl, Nat.le_of_ble_eq_true rfl⟩ (xRecv.str C0 hS2) rfl rfl (Nat.le_of_ble_eq_true rfl) ⟨Nat.le_of_ble_eq_true rfl, Nat.le_of_ble_eq_true rfl⟩ (fun _ _ _ q => False.elim q) (fun r w1 sz1 hz hP => ?_)
      obtain ⟨rfl, rfl, rfl⟩ := hP
      refine x_st (st1 := [.int (ft2 i9)]) rfl ?_
      exact x_ireturn C0 dX7_labelled_36 rfl hc9.2.1 (Nat.le_of_ble_eq_true rfl) (Nat.le_of_ble_eq_true rfl) ⟨⟨_, rfl⟩, hC.ci, xFr.rf, by omega⟩
    · have c3' := Int32.not_lt.mp c3
      exact x_throwN C0 dX7_labelled_21 dX7_labelled_24 dX7_labelled_25 dX7_labelled_27 dX7_labelled_30 rfl rfl rfl rfl (by decide +kernel) mK_X7_137 mN_NoSuchElementException (xs_ldc C0.2.2.2.2.2.2.2.1.2.2 (RX7, 139, "no such character of a label", 140) (by decide +kernel)) (xhat C0 xg_nse xh_nse (by decide +kernel)) xo_nse (xs_us C0.2.2.2.2.2.2.2.1.2.2) (xs_su C0.2.2.2.2.2.2.2.1.2.2) rfl (Nat.le_of_ble_eq_true rfl) (Nat.le_of_ble_eq_true rfl) (Nat.le_of_ble_eq_true rfl) (Nat.le_of_ble_eq_true rfl) (Nat.le_of_ble_eq_true rfl) (Nat.le_of_ble_eq_true rfl) (fun sz9 h9 => ⟨by decide, (hC.grow h9).ci, xFr.rf, by omega⟩)

set_option maxHeartbeats 4000000 in
set_option maxRecDepth 100000 in
theorem k_X7_chest (l : Launch) (hl : l.stackTraces = false) (g : xg_T) (w : xw_T) (sz n : Nat) (x : Nat → Nat → Int32) (la : Nat → Nat → Nat) (t tt : Nat → Int32) (vb : Option Nat) (sg : Nat → Int32) (hC : CR g w sz n x la t tt vb sg) (cn : Int32) (wh : Int32) : xM l g yX7_chest cX7_chest 4 (some .int) ({ frames := 7, cells := 8, slots := 64, locals := 104 }) 8 64 [.ref (g.2 0), .int cn, .int wh] w sz (cPo g w sz n rI) (cXo g w sz n ["java/lang/IndexOutOfBoundsException", "java/lang/IllegalArgumentException"]) := by
  have hz9 := hC.zz
  refine xM.of RX7 hl (by decide +kernel) rfl (Nat.le_of_ble_eq_true rfl) rfl ?_
  intro p e s m args below meth cD C0 hini
  refine x_aload_n 0 1 C0 dX7_chest_0 rfl rfl rfl ?_
  refine x_iload_n 1 2 C0 dX7_chest_1 rfl rfl rfl ?_
  refine x_callV 5 C0 (k_X7_needChest l hl g _ _ _ x la t tt vb sg hC cn) dX7_chest_2 rfl mC_X7_needChest mM_X7_89 mI_X7_needChest mV_X7_needChest mN_X7 yd_X7_needChest rfl rfl ⟨Nat.le_of_ble_eq_true rfl, Nat.le_of_ble_eq_true rfl⟩ hC.1.1 rfl rfl rfl rfl (Nat.le_of_ble_eq_true rfl) ⟨Nat.le_of_ble_eq_true rfl, Nat.le_of_ble_eq_true rfl⟩ (fun E9 w9 sz9 q => by obtain ⟨rfl, rfl, h9, hno9⟩ := q; exact x_out C0 rfl (Nat.le_of_ble_eq_true rfl) (Nat.le_of_ble_eq_true rfl) ⟨by decide, (hC.grow h9).ci, xFr.rf, by omega⟩) (fun r w1 sz1 hz hP => ?_)
  obtain ⟨⟨k, hk, hm, rfl, hnk⟩, rfl, rfl⟩ := hP
  have hm0 := hm
  refine x_st (st1 := [.ref (g.2 0 + 1 + 3 + k)]) rfl ?_
  refine x_astore_n [(3, .ref (g.2 0 + 1 + 3 + k)), (0, .ref (g.2 0)), (1, .int cn), (2, .int wh)] 6 C0 dX7_chest_5 rfl rfl (by decide) rfl ?_
  refine x_lv (lv1 := [(0, .ref (g.2 0)), (1, .int cn), (2, .int wh), (3, .ref (g.2 0 + 1 + 3 + k))]) [1, 2, 3, 0] rfl ?_
  refine x_iload_n 2 7 C0 dX7_chest_6 rfl rfl rfl ?_
  have hs1 : (wh.toInt < 0 ∨ 9 < wh.toInt) ∨ (wh.toInt = 0) ∨ (wh.toInt = 1) ∨ (wh.toInt = 2) ∨ (wh.toInt = 3) ∨ (wh.toInt = 4) ∨ (wh.toInt = 5) ∨ (wh.toInt = 6) ∨ (wh.toInt = 7) ∨ (wh.toInt = 8) ∨ (wh.toInt = 9) := by omega
  rcases hs1 with hs1 | hs1 | hs1 | hs1 | hs1 | hs1 | hs1 | hs1 | hs1 | hs1 | hs1
  · refine x_tabOut 129 C0 dX7_chest_7 hs1 (by decide) ?_
    exact x_throwS xNames C0 dX7_chest_129 dX7_chest_132 dX7_chest_133 dX7_chest_135 dX7_chest_138 rfl rfl rfl rfl (by decide +kernel) (by decide +kernel) mK_X7_166 mN_IllegalArgumentException (xs_ldc C0.2.2.2.2.2.2.2.1.2.2 (RX7, 168, "no such number of a chest", 141) (by decide +kernel)) (xhat C0 xg_iae xh_iae (by decide +kernel)) xo_iae (xs_us C0.2.2.2.2.2.2.2.1.2.2) (xs_su C0.2.2.2.2.2.2.2.1.2.2) rfl (Nat.le_of_ble_eq_true rfl) (Nat.le_of_ble_eq_true rfl) (Nat.le_of_ble_eq_true rfl) (Nat.le_of_ble_eq_true rfl) (Nat.le_of_ble_eq_true rfl) (Nat.le_of_ble_eq_true rfl) (fun sz9 h9 => ⟨by decide, (hC.grow h9).ci, xFr.rf, by omega⟩)
  · refine x_tabIn 60 C0 dX7_chest_7 (by omega) (by omega) (by rw [hs1]; rfl) (by decide) ?_
    refine x_aload_n 3 61 C0 dX7_chest_60 rfl rfl rfl ?_
    refine x_getf (v := .int (x 0 (28 + 9 * k + 0))) 1 64 C0 dX7_chest_61 rfl (HR.c hC.h0 hk) rfl (by decide) inX1 mF_X7_148 rfl ?_
    exact x_ireturn C0 dX7_chest_64 rfl rfl (Nat.le_of_ble_eq_true rfl) (Nat.le_of_ble_eq_true rfl) ⟨⟨_, rfl⟩, hC.ci, xFr.rf, by omega⟩
  · refine x_tabIn 65 C0 dX7_chest_7 (by omega) (by omega) (by rw [hs1]; rfl) (by decide) ?_
    refine x_aload_n 3 66 C0 dX7_chest_65 rfl rfl rfl ?_
    refine x_getf (v := .int (x 0 (28 + 9 * k + 1))) 2 69 C0 dX7_chest_66 rfl (HR.c hC.h0 hk) rfl (by decide) inX1 mF_X7_151 rfl ?_
    exact x_ireturn C0 dX7_chest_69 rfl rfl (Nat.le_of_ble_eq_true rfl) (Nat.le_of_ble_eq_true rfl) ⟨⟨_, rfl⟩, hC.ci, xFr.rf, by omega⟩
  · refine x_tabIn 70 C0 dX7_chest_7 (by omega) (by omega) (by rw [hs1]; rfl) (by decide) ?_
    refine x_aload_n 3 71 C0 dX7_chest_70 rfl rfl rfl ?_
    refine x_getf (v := .int (x 0 (28 + 9 * k + 2))) 3 74 C0 dX7_chest_71 rfl (HR.c hC.h0 hk) rfl (by decide) inX1 mF_X7_154 rfl ?_
    exact x_ireturn C0 dX7_chest_74 rfl rfl (Nat.le_of_ble_eq_true rfl) (Nat.le_of_ble_eq_true rfl) ⟨⟨_, rfl⟩, hC.ci, xFr.rf, by omega⟩
  · refine x_tabIn 75 C0 dX7_chest_7 (by omega) (by omega) (by rw [hs1]; rfl) (by decide) ?_
    refine x_aload_n 3 76 C0 dX7_chest_75 rfl rfl rfl ?_
    refine x_getf (v := .int (x 0 (28 + 9 * k + 3))) 4 79 C0 dX7_chest_76 rfl (HR.c hC.h0 hk) rfl (by decide) inX1 mF_X7_107 rfl ?_
    exact x_ireturn C0 dX7_chest_79 rfl rfl (Nat.le_of_ble_eq_true rfl) (Nat.le_of_ble_eq_true rfl) ⟨⟨_, rfl⟩, hC.ci, xFr.rf, by omega⟩
  · refine x_tabIn 80 C0 dX7_chest_7 (by omega) (by omega) (by rw [hs1]; rfl) (by decide) ?_
    refine x_aload_n 3 81 C0 dX7_chest_80 rfl rfl rfl ?_
    refine x_getf (v := .int (x 0 (28 + 9 * k + 4))) 5 84 C0 dX7_chest_81 rfl (HR.c hC.h0 hk) rfl (by decide) inX1 mF_X7_157 rfl ?_
    refine x_if_eq 91 87 C0 dX7_chest_84 rfl (by decide) (fun c2 => ?_) (fun c2 => ?_)
    · refine x_iconst (v := 0) 92 C0 dX7_chest_91 rfl (by decide) ?_
      exact x_ireturn C0 dX7_chest_92 rfl rfl (Nat.le_of_ble_eq_true rfl) (Nat.le_of_ble_eq_true rfl) ⟨⟨_, rfl⟩, hC.ci, xFr.rf, by omega⟩
    · refine x_iconst (v := 1) 88 C0 dX7_chest_87 rfl (by decide) ?_
      refine x_goto 92 C0 dX7_chest_88 (by decide) ?_
      exact x_ireturn C0 dX7_chest_92 rfl rfl (Nat.le_of_ble_eq_true rfl) (Nat.le_of_ble_eq_true rfl) ⟨⟨_, rfl⟩, hC.ci, xFr.rf, by omega⟩
  · refine x_tabIn 93 C0 dX7_chest_7 (by omega) (by omega) (by rw [hs1]; rfl) (by decide) ?_
    refine x_aload_n 3 94 C0 dX7_chest_93 rfl rfl rfl ?_
    refine x_getf (v := .int (x 0 (28 + 9 * k + 5))) 6 97 C0 dX7_chest_94 rfl (HR.c hC.h0 hk) rfl (by decide) inX1 mF_X7_121 rfl ?_
    exact x_ireturn C0 dX7_chest_97 rfl rfl (Nat.le_of_ble_eq_true rfl) (Nat.le_of_ble_eq_true rfl) ⟨⟨_, rfl⟩, hC.ci, xFr.rf, by omega⟩
  · refine x_tabIn 98 C0 dX7_chest_7 (by omega) (by omega) (by rw [hs1]; rfl) (by decide) ?_
    refine x_aload_n 3 99 C0 dX7_chest_98 rfl rfl rfl ?_
    refine x_getf (v := .int (x 0 (28 + 9 * k + 6))) 7 102 C0 dX7_chest_99 rfl (HR.c hC.h0 hk) rfl (by decide) inX1 mF_X7_160 rfl ?_
    exact x_ireturn C0 dX7_chest_102 rfl rfl (Nat.le_of_ble_eq_true rfl) (Nat.le_of_ble_eq_true rfl) ⟨⟨_, rfl⟩, hC.ci, xFr.rf, by omega⟩
  · refine x_tabIn 103 C0 dX7_chest_7 (by omega) (by omega) (by rw [hs1]; rfl) (by decide) ?_
    refine x_aload_n 3 104 C0 dX7_chest_103 rfl rfl rfl ?_
    refine x_callV 107 C0 (k_X1_isTight l hl g _ _ _ _ _ _ (HR.c hC.h0 hk)) dX7_chest_104 rfl mC_X1_isTight mM_X7_117 mI_X1_isTight mV_X1_isTight mN_X1 yd_X1_isTight rfl rfl ⟨Nat.le_of_ble_eq_true rfl, Nat.le_of_ble_eq_true rfl⟩ (HR.c hC.h0 hk) rfl rfl rfl rfl (Nat.le_of_ble_eq_true rfl) ⟨Nat.le_of_ble_eq_true rfl, Nat.le_of_ble_eq_true rfl⟩ (fun _ _ _ q => False.elim q) (fun r w1 sz1 hz hP => ?_)
    obtain ⟨hr, rfl, rfl⟩ := hP
    obtain ⟨v3, rfl, hv3⟩ : ∃ v : Int32, r = some (.int v) ∧ isB v := ⟨_, hr, isB_bi _⟩
    refine x_st (st1 := [.int v3]) rfl ?_
    refine x_if_eq 114 110 C0 dX7_chest_107 rfl (by decide) (fun c4 => ?_) (fun c4 => ?_)
    · refine x_iconst (v := 0) 115 C0 dX7_chest_114 rfl (by decide) ?_
      exact x_ireturn C0 dX7_chest_115 rfl rfl (Nat.le_of_ble_eq_true rfl) (Nat.le_of_ble_eq_true rfl) ⟨⟨_, rfl⟩, hC.ci, xFr.rf, by omega⟩
    · refine x_iconst (v := 1) 111 C0 dX7_chest_110 rfl (by decide) ?_
      refine x_goto 115 C0 dX7_chest_111 (by decide) ?_
      exact x_ireturn C0 dX7_chest_115 rfl rfl (Nat.le_of_ble_eq_true rfl) (Nat.le_of_ble_eq_true rfl) ⟨⟨_, rfl⟩, hC.ci, xFr.rf, by omega⟩
  · refine x_tabIn 116 C0 dX7_chest_7 (by omega) (by omega) (by rw [hs1]; rfl) (by decide) ?_
    refine x_aload_n 3 117 C0 dX7_chest_116 rfl rfl rfl ?_
    refine x_getf (v := .int (x 0 (28 + 9 * k + 7))) 8 120 C0 dX7_chest_117 rfl (HR.c hC.h0 hk) rfl (by decide) inX1 mF_X7_163 rfl ?_
    exact x_ireturn C0 dX7_chest_120 rfl rfl (Nat.le_of_ble_eq_true rfl) (Nat.le_of_ble_eq_true rfl) ⟨⟨_, rfl⟩, hC.ci, xFr.rf, by omega⟩
  · refine x_tabIn 121 C0 dX7_chest_7 (by omega) (by omega) (by rw [hs1]; rfl) (by decide) ?_
    refine x_aload_n 3 122 C0 dX7_chest_121 rfl rfl rfl ?_
    refine x_getf (v := .ref (la 0 k)) 9 125 C0 dX7_chest_122 rfl (HR.c hC.h0 hk) rfl (by decide) inX1 mF_X7_128 rfl ?_
    obtain ⟨ln5, lf5, hL5⟩ := hC.l0
    obtain ⟨v5, ft5, hS5, hn5, hj5⟩ := (hL5 k hk).1.str
    refine x_callR 128 (C := RJ0) C0 (k_J0_length_8abf5 l hl g _ _ _ _ _ _ hS5) dX7_chest_125 rfl mC_J0_length_8abf5 mM_X7_132 mI_J0_length_8abf5 mV_J0_length_8abf5 mN_J0 yd_J0_length_8abf5 rfl rfl ⟨Nat.le_of_ble_eq_true rfl, Nat.le_of_ble_eq_true rfl⟩ (xRecv.str C0 hS5) rfl rfl (Nat.le_of_ble_eq_true rfl) ⟨Nat.le_of_ble_eq_true rfl, Nat.le_of_ble_eq_true rfl⟩ (fun _ _ _ q => False.elim q) (fun r w1 sz1 hz hP => ?_)
    obtain ⟨rfl, rfl, rfl⟩ := hP
    refine x_st (st1 := [.int (nI (ln5 k))]) rfl ?_
    exact x_ireturn C0 dX7_chest_128 rfl rfl (Nat.le_of_ble_eq_true rfl) (Nat.le_of_ble_eq_true rfl) ⟨⟨_, rfl⟩, hC.ci, xFr.rf, by omega⟩

set_option maxHeartbeats 4000000 in
set_option maxRecDepth 100000 in
theorem k_X7_worth (l : Launch) (hl : l.stackTraces = false) (g : xg_T) (w : xw_T) (sz n : Nat) (x : Nat → Nat → Int32) (la : Nat → Nat → Nat) (t tt : Nat → Int32) (vb : Option Nat) (sg : Nat → Int32) (hC : CR g w sz n x la t tt vb sg) (cn : Int32) : xM l g yX7_worth cX7_worth 2 (some .int) ({ frames := 7, cells := 8, slots := 64, locals := 104 }) 8 64 [.ref (g.2 0), .int cn] w sz (cPo g w sz n rI) (cXo g w sz n ["java/lang/IndexOutOfBoundsException"]) := by
  have hz9 := hC.zz
  refine xM.of RX7 hl (by decide +kernel) rfl (Nat.le_of_ble_eq_true rfl) rfl ?_
  intro p e s m args below meth cD C0 hini
  refine x_aload_n 0 1 C0 dX7_worth_0 rfl rfl rfl ?_
  refine x_iload_n 1 2 C0 dX7_worth_1 rfl rfl rfl ?_
  refine x_callV 5 C0 (k_X7_needChest l hl g _ _ _ x la t tt vb sg hC cn) dX7_worth_2 rfl mC_X7_needChest mM_X7_89 mI_X7_needChest mV_X7_needChest mN_X7 yd_X7_needChest rfl rfl ⟨Nat.le_of_ble_eq_true rfl, Nat.le_of_ble_eq_true rfl⟩ hC.1.1 rfl rfl rfl rfl (Nat.le_of_ble_eq_true rfl) ⟨Nat.le_of_ble_eq_true rfl, Nat.le_of_ble_eq_true rfl⟩ (fun E9 w9 sz9 q => by obtain ⟨rfl, rfl, h9, hno9⟩ := q; exact x_out C0 rfl (Nat.le_of_ble_eq_true rfl) (Nat.le_of_ble_eq_true rfl) ⟨by decide, (hC.grow h9).ci, xFr.rf, by omega⟩) (fun r w1 sz1 hz hP => ?_)
  obtain ⟨⟨k, hk, hm, rfl, hnk⟩, rfl, rfl⟩ := hP
  have hm0 := hm
  refine x_st (st1 := [.ref (g.2 0 + 1 + 3 + k)]) rfl ?_
  refine x_callV 8 C0 (k_X1_coins l hl g _ _ _ _ _ _ (HR.c hC.h0 hk)) dX7_worth_5 rfl mC_X1_coins mM_X7_171 mI_X1_coins mV_X1_coins mN_X1 yd_X1_coins rfl rfl ⟨Nat.le_of_ble_eq_true rfl, Nat.le_of_ble_eq_true rfl⟩ (HR.c hC.h0 hk) rfl rfl rfl rfl (Nat.le_of_ble_eq_true rfl) ⟨Nat.le_of_ble_eq_true rfl, Nat.le_of_ble_eq_true rfl⟩ (fun _ _ _ q => False.elim q) (fun r w1 sz1 hz hP => ?_)
  obtain ⟨hr, rfl, rfl⟩ := hP
  obtain ⟨v1, rfl⟩ : ∃ v : Int32, r = some (.int v) := ⟨_, hr⟩
  refine x_st (st1 := [.int v1]) rfl ?_
  exact x_ireturn C0 dX7_worth_8 rfl rfl (Nat.le_of_ble_eq_true rfl) (Nat.le_of_ble_eq_true rfl) ⟨⟨_, rfl⟩, hC.ci, xFr.rf, by omega⟩

set_option maxHeartbeats 4000000 in
set_option maxRecDepth 100000 in
theorem k_X7_ranked (l : Launch) (hl : l.stackTraces = false) (g : xg_T) (w : xw_T) (sz n : Nat) (x : Nat → Nat → Int32) (la : Nat → Nat → Nat) (t tt : Nat → Int32) (vb : Option Nat) (sg : Nat → Int32) (hC : CR g w sz n x la t tt vb sg) (pl : Int32) : xM l g yX7_ranked cX7_ranked 3 (some .int) ({ frames := 6, cells := 8, slots := 64, locals := 92 }) 8 64 [.ref (g.2 0), .int pl] w sz (cPo g w sz n rI) (cXo g w sz n ["java/util/NoSuchElementException"]) := by
  have hz9 := hC.zz
  refine xM.of RX7 hl (by decide +kernel) rfl (Nat.le_of_ble_eq_true rfl) rfl ?_
  intro p e s m args below meth cD C0 hini
  refine x_aload_n 0 1 C0 dX7_ranked_0 rfl rfl rfl ?_
  refine x_getf (v := .ref (g.2 0 + 1)) 0 4 C0 dX7_ranked_1 rfl hC.1.1 rfl (by decide) inX7 mF_X7_10 rfl ?_
  refine x_iload_n 1 5 C0 dX7_ranked_4 rfl rfl rfl ?_
  refine x_callV 8 C0 (k_X4_chestAtPlace l hl g _ _ _ _ _ hC.h0 pl) dX7_ranked_5 rfl mC_X4_chestAtPlace mM_X7_174 mI_X4_chestAtPlace mV_X4_chestAtPlace mN_X4 yd_X4_chestAtPlace rfl rfl ⟨Nat.le_of_ble_eq_true rfl, Nat.le_of_ble_eq_true rfl⟩ (HR.ho hC.h0) rfl rfl rfl rfl (Nat.le_of_ble_eq_true rfl) ⟨Nat.le_of_ble_eq_true rfl, Nat.le_of_ble_eq_true rfl⟩ (fun _ _ _ q => False.elim q) (fun r w1 sz1 hz hP => ?_)
  obtain ⟨hr, rfl, rfl⟩ := hP
  obtain ⟨v1, rfl⟩ : ∃ v : Int32, r = some (.int v) := ⟨_, hr⟩
  have hr1 := hr
  refine x_st (st1 := [.int v1]) rfl ?_
  refine x_istore_n [(2, .int v1), (0, .ref (g.2 0)), (1, .int pl)] 9 C0 dX7_ranked_8 rfl rfl (by decide) rfl ?_
  refine x_lv (lv1 := [(0, .ref (g.2 0)), (1, .int pl), (2, .int v1)]) [1, 2, 0] rfl ?_
  refine x_iload_n 2 10 C0 dX7_ranked_9 rfl rfl rfl ?_
  refine x_if_ge 23 13 C0 dX7_ranked_10 rfl (by decide) (fun c2 => ?_) (fun c2 => ?_)
  · have c2' := Int32.not_lt.mpr c2
    refine x_iload_n 2 24 C0 dX7_ranked_23 rfl rfl rfl ?_
    exact x_ireturn C0 dX7_ranked_24 rfl rfl (Nat.le_of_ble_eq_true rfl) (Nat.le_of_ble_eq_true rfl) ⟨⟨_, rfl⟩, hC.ci, xFr.rf, by omega⟩
  · have c2' := Int32.not_le.mp c2
    exact x_throwN C0 dX7_ranked_13 dX7_ranked_16 dX7_ranked_17 dX7_ranked_19 dX7_ranked_22 rfl rfl rfl rfl (by decide +kernel) mK_X7_137 mN_NoSuchElementException (xs_ldc C0.2.2.2.2.2.2.2.1.2.2 (RX7, 178, "no such place", 142) (by decide +kernel)) (xhat C0 xg_nse xh_nse (by decide +kernel)) xo_nse (xs_us C0.2.2.2.2.2.2.2.1.2.2) (xs_su C0.2.2.2.2.2.2.2.1.2.2) rfl (Nat.le_of_ble_eq_true rfl) (Nat.le_of_ble_eq_true rfl) (Nat.le_of_ble_eq_true rfl) (Nat.le_of_ble_eq_true rfl) (Nat.le_of_ble_eq_true rfl) (Nat.le_of_ble_eq_true rfl) (fun sz9 h9 => ⟨by decide, (hC.grow h9).ci, xFr.rf, by omega⟩)

set_option maxHeartbeats 4000000 in
set_option maxRecDepth 100000 in
theorem k_X7_toQuay (l : Launch) (hl : l.stackTraces = false) (g : xg_T) (w : xw_T) (sz n : Nat) (x : Nat → Nat → Int32) (la : Nat → Nat → Nat) (t tt : Nat → Int32) (vb : Option Nat) (sg : Nat → Int32) (hC : CR g w sz n x la t tt vb sg) (cn : Int32) : xM l g yX7_toQuay cX7_toQuay 3 (some .int) ({ frames := 7, cells := 8, slots := 64, locals := 104 }) 8 64 [.ref (g.2 0), .int cn] w sz (cPo g w sz n rI) (cXo g w sz n ["java/lang/IndexOutOfBoundsException", "java/lang/UnsupportedOperationException"]) := by
  have hz9 := hC.zz
  refine xM.of RX7 hl (by decide +kernel) rfl (Nat.le_of_ble_eq_true rfl) rfl ?_
  intro p e s m args below meth cD C0 hini
  refine x_aload_n 0 1 C0 dX7_toQuay_0 rfl rfl rfl ?_
  refine x_iload_n 1 2 C0 dX7_toQuay_1 rfl rfl rfl ?_
  refine x_callV 5 C0 (k_X7_needChest l hl g _ _ _ x la t tt vb sg hC cn) dX7_toQuay_2 rfl mC_X7_needChest mM_X7_89 mI_X7_needChest mV_X7_needChest mN_X7 yd_X7_needChest rfl rfl ⟨Nat.le_of_ble_eq_true rfl, Nat.le_of_ble_eq_true rfl⟩ hC.1.1 rfl rfl rfl rfl (Nat.le_of_ble_eq_true rfl) ⟨Nat.le_of_ble_eq_true rfl, Nat.le_of_ble_eq_true rfl⟩ (fun E9 w9 sz9 q => by obtain ⟨rfl, rfl, h9, hno9⟩ := q; exact x_out C0 rfl (Nat.le_of_ble_eq_true rfl) (Nat.le_of_ble_eq_true rfl) ⟨by decide, (hC.grow h9).ci, xFr.rf, by omega⟩) (fun r w1 sz1 hz hP => ?_)
  obtain ⟨⟨k, hk, hm, rfl, hnk⟩, rfl, rfl⟩ := hP
  have hm0 := hm
  refine x_st (st1 := [.ref (g.2 0 + 1 + 3 + k)]) rfl ?_
  refine x_astore_n [(2, .ref (g.2 0 + 1 + 3 + k)), (0, .ref (g.2 0)), (1, .int cn)] 6 C0 dX7_toQuay_5 rfl rfl (by decide) rfl ?_
  refine x_lv (lv1 := [(0, .ref (g.2 0)), (1, .int cn), (2, .ref (g.2 0 + 1 + 3 + k))]) [1, 2, 0] rfl ?_
  refine x_aload_n 0 7 C0 dX7_toQuay_6 rfl rfl rfl ?_
  refine x_getf (v := .ref (g.2 0 + 47)) 3 10 C0 dX7_toQuay_7 rfl hC.1.1 rfl (by decide) inX7 mF_X7_26 rfl ?_
  refine x_aload_n 0 11 C0 dX7_toQuay_10 rfl rfl rfl ?_
  refine x_getf (v := .ref (g.2 0 + 1)) 0 14 C0 dX7_toQuay_11 rfl hC.1.1 rfl (by decide) inX7 mF_X7_10 rfl ?_
  refine x_callV 17 C0 (k_X3_prepare l hl g _ _ _ x la t tt vb sg hC) dX7_toQuay_14 rfl mC_X3_prepare mM_X7_45 mI_X3_prepare mV_X3_prepare mN_X3 yd_X3_prepare rfl rfl ⟨Nat.le_of_ble_eq_true rfl, Nat.le_of_ble_eq_true rfl⟩ hC.1.2.1 rfl rfl rfl rfl (Nat.le_of_ble_eq_true rfl) ⟨Nat.le_of_ble_eq_true rfl, Nat.le_of_ble_eq_true rfl⟩ (fun _ _ _ q => False.elim q) (fun r w1 sz1 hz hP => ?_)
  obtain ⟨wv1, hwv1⟩ : ∃ z, z = w1 := ⟨_, rfl⟩
  obtain ⟨rfl, x1, la1, hC1, hx1, hl1, hG1, rfl, hXX1⟩ := hP
  refine x_w hwv1.symm ?_
  rw [← hwv1] at hC1 hG1
  have hF1 : xFr g w wv1 sz := xFr.tr (sz1 := sz) xFr.rf hG1 (by omega)
  refine x_st (st1 := []) rfl ?_
  have hm : nI k < x1 0 3 := by rw [hx1]; exact hm
  refine x_aload_n 0 18 C0 dX7_toQuay_17 rfl rfl rfl ?_
  refine x_aload_n 0 19 C0 dX7_toQuay_18 rfl rfl rfl ?_
  refine x_getf (v := .ref (g.2 0 + 1)) 0 22 C0 dX7_toQuay_19 rfl hC1.1.1 rfl (by decide) inX7 mF_X7_10 rfl ?_
  refine x_aload_n 2 23 C0 dX7_toQuay_22 rfl rfl rfl ?_
  obtain ⟨ln2, lf2, hL2⟩ := hC1.l0
  refine x_callV 26 C0 (k_X4_tryToQuay l hl g _ _ _ _ _ hC1.h0 (Nat.le_add_right _ _) k hk ln2 lf2 (by omega) (fun k hk => (hL2 k hk).1)) dX7_toQuay_23 rfl mC_X4_tryToQuay mM_X7_180 mI_X4_tryToQuay mV_X4_tryToQuay mN_X4 yd_X4_tryToQuay rfl rfl ⟨Nat.le_of_ble_eq_true rfl, Nat.le_of_ble_eq_true rfl⟩ (HR.ho hC1.h0) rfl rfl rfl rfl (Nat.le_of_ble_eq_true rfl) ⟨Nat.le_of_ble_eq_true rfl, Nat.le_of_ble_eq_true rfl⟩ (fun _ _ _ q => False.elim q) (fun r w1 sz1 hz hP => ?_)
  obtain ⟨rfl, x3, hw3, hQ3⟩ := hP
  obtain ⟨hk3, b3, rfl, hb3⟩ := hQ3.ok (fun q => hC1.k0.quay hk) hC1.k0
  obtain ⟨wv3, hwv3⟩ : ∃ z, z = w1 := ⟨_, rfl⟩
  refine x_w hwv3.symm ?_
  rw [← hwv3] at hw3
  obtain ⟨x4, la4, hx4, hla4, hC4⟩ : ∃ x4 la4, x4 = va_up x1 0 x3 ∧ la4 = va_up la1 0 (la1 0) ∧ CR g wv3 sz n x4 la4 t tt vb sg := ⟨_, _, rfl, rfl, by rw [hw3]; exact hC1.set0 hk3 hC1.l0⟩
  have hF4 : xFr g w wv3 sz := xFr.tr (sz1 := sz) hF1 (by rw [hw3]; exact xFr.hw (by omega)) (by omega)
  refine x_st (st1 := [.int b3, .ref (g.2 0)]) rfl ?_
  refine x_callV 29 C0 (k_X7_conclude l hl g _ _ _ x4 la4 t tt vb sg hC4 b3) dX7_toQuay_26 rfl mC_X7_conclude mM_X7_53 mI_X7_conclude mV_X7_conclude mN_X7 yd_X7_conclude rfl rfl ⟨Nat.le_of_ble_eq_true rfl, Nat.le_of_ble_eq_true rfl⟩ hC4.1.1 rfl rfl rfl rfl (Nat.le_of_ble_eq_true rfl) ⟨Nat.le_of_ble_eq_true rfl, Nat.le_of_ble_eq_true rfl⟩ (fun E9 w9 sz9 q => by obtain ⟨rfl, rfl, h9, hno9⟩ := q; exact x_out C0 rfl (Nat.le_of_ble_eq_true rfl) (Nat.le_of_ble_eq_true rfl) ⟨by decide, (hC4.grow h9).ci, hF4, by omega⟩) (fun r w1 sz1 hz hP => ?_)
  obtain ⟨wv5, hwv5⟩ : ∃ z, z = w1 := ⟨_, rfl⟩
  obtain ⟨rfl, t5, hC5, hG5, rfl, hb95, ht95⟩ := hP
  refine x_w hwv5.symm ?_
  rw [← hwv5] at hC5 hG5
  have hF5 : xFr g w wv5 sz := xFr.tr (sz1 := sz) hF4 hG5 (by omega)
  refine x_st (st1 := []) rfl ?_
  refine x_aload_n 0 30 C0 dX7_toQuay_29 rfl rfl rfl ?_
  refine x_getf (v := .ref (g.2 0 + 1)) 0 33 C0 dX7_toQuay_30 rfl hC5.1.1 rfl (by decide) inX7 mF_X7_10 rfl ?_
  refine x_iconst (v := 1) 34 C0 dX7_toQuay_33 rfl (by decide) ?_
  refine x_callV 37 C0 (k_X4_chestsAt l hl g _ _ _ _ _ hC5.h0 1) dX7_toQuay_34 rfl mC_X4_chestsAt mM_X7_183 mI_X4_chestsAt mV_X4_chestsAt mN_X4 yd_X4_chestsAt rfl rfl ⟨Nat.le_of_ble_eq_true rfl, Nat.le_of_ble_eq_true rfl⟩ (HR.ho hC5.h0) rfl rfl rfl rfl (Nat.le_of_ble_eq_true rfl) ⟨Nat.le_of_ble_eq_true rfl, Nat.le_of_ble_eq_true rfl⟩ (fun _ _ _ q => False.elim q) (fun r w1 sz1 hz hP => ?_)
  obtain ⟨hr, rfl, rfl⟩ := hP
  obtain ⟨v6, rfl⟩ : ∃ v : Int32, r = some (.int v) := ⟨_, hr⟩
  have hr6 := hr
  refine x_st (st1 := [.int v6]) rfl ?_
  exact x_ireturn C0 dX7_toQuay_37 rfl rfl (Nat.le_of_ble_eq_true rfl) (Nat.le_of_ble_eq_true rfl) ⟨⟨_, rfl⟩, hC5.ci, hF5, by omega⟩

set_option maxHeartbeats 4000000 in
set_option maxRecDepth 100000 in
theorem k_X7_load (l : Launch) (hl : l.stackTraces = false) (g : xg_T) (w : xw_T) (sz n : Nat) (x : Nat → Nat → Int32) (la : Nat → Nat → Nat) (t tt : Nat → Int32) (vb : Option Nat) (sg : Nat → Int32) (hC : CR g w sz n x la t tt vb sg) (cn : Int32) : xM l g yX7_load cX7_load 3 (some .int) ({ frames := 7, cells := 8, slots := 64, locals := 104 }) 8 64 [.ref (g.2 0), .int cn] w sz (cPo g w sz n rI) (cXo g w sz n ["java/lang/IndexOutOfBoundsException", "java/lang/UnsupportedOperationException"]) := by
  have hz9 := hC.zz
  refine xM.of RX7 hl (by decide +kernel) rfl (Nat.le_of_ble_eq_true rfl) rfl ?_
  intro p e s m args below meth cD C0 hini
  refine x_aload_n 0 1 C0 dX7_load_0 rfl rfl rfl ?_
  refine x_iload_n 1 2 C0 dX7_load_1 rfl rfl rfl ?_
  refine x_callV 5 C0 (k_X7_needChest l hl g _ _ _ x la t tt vb sg hC cn) dX7_load_2 rfl mC_X7_needChest mM_X7_89 mI_X7_needChest mV_X7_needChest mN_X7 yd_X7_needChest rfl rfl ⟨Nat.le_of_ble_eq_true rfl, Nat.le_of_ble_eq_true rfl⟩ hC.1.1 rfl rfl rfl rfl (Nat.le_of_ble_eq_true rfl) ⟨Nat.le_of_ble_eq_true rfl, Nat.le_of_ble_eq_true rfl⟩ (fun E9 w9 sz9 q => by obtain ⟨rfl, rfl, h9, hno9⟩ := q; exact x_out C0 rfl (Nat.le_of_ble_eq_true rfl) (Nat.le_of_ble_eq_true rfl) ⟨by decide, (hC.grow h9).ci, xFr.rf, by omega⟩) (fun r w1 sz1 hz hP => ?_)
  obtain ⟨⟨k, hk, hm, rfl, hnk⟩, rfl, rfl⟩ := hP
  have hm0 := hm
  refine x_st (st1 := [.ref (g.2 0 + 1 + 3 + k)]) rfl ?_
  refine x_astore_n [(2, .ref (g.2 0 + 1 + 3 + k)), (0, .ref (g.2 0)), (1, .int cn)] 6 C0 dX7_load_5 rfl rfl (by decide) rfl ?_
  refine x_lv (lv1 := [(0, .ref (g.2 0)), (1, .int cn), (2, .ref (g.2 0 + 1 + 3 + k))]) [1, 2, 0] rfl ?_
  refine x_aload_n 0 7 C0 dX7_load_6 rfl rfl rfl ?_
  refine x_getf (v := .ref (g.2 0 + 47)) 3 10 C0 dX7_load_7 rfl hC.1.1 rfl (by decide) inX7 mF_X7_26 rfl ?_
  refine x_aload_n 0 11 C0 dX7_load_10 rfl rfl rfl ?_
  refine x_getf (v := .ref (g.2 0 + 1)) 0 14 C0 dX7_load_11 rfl hC.1.1 rfl (by decide) inX7 mF_X7_10 rfl ?_
  refine x_callV 17 C0 (k_X3_prepare l hl g _ _ _ x la t tt vb sg hC) dX7_load_14 rfl mC_X3_prepare mM_X7_45 mI_X3_prepare mV_X3_prepare mN_X3 yd_X3_prepare rfl rfl ⟨Nat.le_of_ble_eq_true rfl, Nat.le_of_ble_eq_true rfl⟩ hC.1.2.1 rfl rfl rfl rfl (Nat.le_of_ble_eq_true rfl) ⟨Nat.le_of_ble_eq_true rfl, Nat.le_of_ble_eq_true rfl⟩ (fun _ _ _ q => False.elim q) (fun r w1 sz1 hz hP => ?_)
  obtain ⟨wv1, hwv1⟩ : ∃ z, z = w1 := ⟨_, rfl⟩
  obtain ⟨rfl, x1, la1, hC1, hx1, hl1, hG1, rfl, hXX1⟩ := hP
  refine x_w hwv1.symm ?_
  rw [← hwv1] at hC1 hG1
  have hF1 : xFr g w wv1 sz := xFr.tr (sz1 := sz) xFr.rf hG1 (by omega)
  refine x_st (st1 := []) rfl ?_
  have hm : nI k < x1 0 3 := by rw [hx1]; exact hm
  refine x_aload_n 0 18 C0 dX7_load_17 rfl rfl rfl ?_
  refine x_aload_n 0 19 C0 dX7_load_18 rfl rfl rfl ?_
  refine x_getf (v := .ref (g.2 0 + 1)) 0 22 C0 dX7_load_19 rfl hC1.1.1 rfl (by decide) inX7 mF_X7_10 rfl ?_
  refine x_aload_n 2 23 C0 dX7_load_22 rfl rfl rfl ?_
  refine x_callV 26 C0 (k_X4_tryLoad l hl g _ _ _ _ _ hC1.h0 (Nat.le_add_right _ _) k hk) dX7_load_23 rfl mC_X4_tryLoad mM_X7_186 mI_X4_tryLoad mV_X4_tryLoad mN_X4 yd_X4_tryLoad rfl rfl ⟨Nat.le_of_ble_eq_true rfl, Nat.le_of_ble_eq_true rfl⟩ (HR.ho hC1.h0) rfl rfl rfl rfl (Nat.le_of_ble_eq_true rfl) ⟨Nat.le_of_ble_eq_true rfl, Nat.le_of_ble_eq_true rfl⟩ (fun _ _ _ q => False.elim q) (fun r w1 sz1 hz hP => ?_)
  obtain ⟨rfl, x2, hw2, hQ2⟩ := hP
  obtain ⟨hk2, b2, rfl, hb2⟩ := hQ2.ok (fun q => hC1.k0.load hk) hC1.k0
  obtain ⟨wv2, hwv2⟩ : ∃ z, z = w1 := ⟨_, rfl⟩
  refine x_w hwv2.symm ?_
  rw [← hwv2] at hw2
  obtain ⟨x3, la3, hx3, hla3, hC3⟩ : ∃ x3 la3, x3 = va_up x1 0 x2 ∧ la3 = va_up la1 0 (la1 0) ∧ CR g wv2 sz n x3 la3 t tt vb sg := ⟨_, _, rfl, rfl, by rw [hw2]; exact hC1.set0 hk2 hC1.l0⟩
  have hF3 : xFr g w wv2 sz := xFr.tr (sz1 := sz) hF1 (by rw [hw2]; exact xFr.hw (by omega)) (by omega)
  refine x_st (st1 := [.int b2, .ref (g.2 0)]) rfl ?_
  refine x_callV 29 C0 (k_X7_conclude l hl g _ _ _ x3 la3 t tt vb sg hC3 b2) dX7_load_26 rfl mC_X7_conclude mM_X7_53 mI_X7_conclude mV_X7_conclude mN_X7 yd_X7_conclude rfl rfl ⟨Nat.le_of_ble_eq_true rfl, Nat.le_of_ble_eq_true rfl⟩ hC3.1.1 rfl rfl rfl rfl (Nat.le_of_ble_eq_true rfl) ⟨Nat.le_of_ble_eq_true rfl, Nat.le_of_ble_eq_true rfl⟩ (fun E9 w9 sz9 q => by obtain ⟨rfl, rfl, h9, hno9⟩ := q; exact x_out C0 rfl (Nat.le_of_ble_eq_true rfl) (Nat.le_of_ble_eq_true rfl) ⟨by decide, (hC3.grow h9).ci, hF3, by omega⟩) (fun r w1 sz1 hz hP => ?_)
  obtain ⟨wv4, hwv4⟩ : ∃ z, z = w1 := ⟨_, rfl⟩
  obtain ⟨rfl, t4, hC4, hG4, rfl, hb94, ht94⟩ := hP
  refine x_w hwv4.symm ?_
  rw [← hwv4] at hC4 hG4
  have hF4 : xFr g w wv4 sz := xFr.tr (sz1 := sz) hF3 hG4 (by omega)
  refine x_st (st1 := []) rfl ?_
  refine x_aload_n 0 30 C0 dX7_load_29 rfl rfl rfl ?_
  refine x_getf (v := .ref (g.2 0 + 1)) 0 33 C0 dX7_load_30 rfl hC4.1.1 rfl (by decide) inX7 mF_X7_10 rfl ?_
  refine x_callV 36 C0 (k_X4_shipRoom l hl g _ _ _ _ _ hC4.h0) dX7_load_33 rfl mC_X4_shipRoom mM_X7_189 mI_X4_shipRoom mV_X4_shipRoom mN_X4 yd_X4_shipRoom rfl rfl ⟨Nat.le_of_ble_eq_true rfl, Nat.le_of_ble_eq_true rfl⟩ (HR.ho hC4.h0) rfl rfl rfl rfl (Nat.le_of_ble_eq_true rfl) ⟨Nat.le_of_ble_eq_true rfl, Nat.le_of_ble_eq_true rfl⟩ (fun _ _ _ q => False.elim q) (fun r w1 sz1 hz hP => ?_)
  obtain ⟨hr, rfl, rfl⟩ := hP
  obtain ⟨v5, rfl⟩ : ∃ v : Int32, r = some (.int v) := ⟨_, hr⟩
  have hr5 := hr
  refine x_st (st1 := [.int v5]) rfl ?_
  exact x_ireturn C0 dX7_load_36 rfl rfl (Nat.le_of_ble_eq_true rfl) (Nat.le_of_ble_eq_true rfl) ⟨⟨_, rfl⟩, hC4.ci, hF4, by omega⟩

set_option maxHeartbeats 4000000 in
set_option maxRecDepth 100000 in
theorem k_X7_sail (l : Launch) (hl : l.stackTraces = false) (g : xg_T) (w : xw_T) (sz n : Nat) (x : Nat → Nat → Int32) (la : Nat → Nat → Nat) (t tt : Nat → Int32) (vb : Option Nat) (sg : Nat → Int32) (hC : CR g w sz n x la t tt vb sg) : xM l g yX7_sail cX7_sail 2 (some .int) ({ frames := 7, cells := 8, slots := 64, locals := 103 }) 8 64 [.ref (g.2 0)] w sz (cPo g w sz n rI) (cXo g w sz n ["java/lang/UnsupportedOperationException"]) := by
  have hz9 := hC.zz
  refine xM.of RX7 hl (by decide +kernel) rfl (Nat.le_of_ble_eq_true rfl) rfl ?_
  intro p e s m args below meth cD C0 hini
  refine x_aload_n 0 1 C0 dX7_sail_0 rfl rfl rfl ?_
  refine x_getf (v := .ref (g.2 0 + 1)) 0 4 C0 dX7_sail_1 rfl hC.1.1 rfl (by decide) inX7 mF_X7_10 rfl ?_
  refine x_callV 7 C0 (k_X4_shipCoins l hl g _ _ _ _ _ hC.h0) dX7_sail_4 rfl mC_X4_shipCoins mM_X7_192 mI_X4_shipCoins mV_X4_shipCoins mN_X4 yd_X4_shipCoins rfl rfl ⟨Nat.le_of_ble_eq_true rfl, Nat.le_of_ble_eq_true rfl⟩ (HR.ho hC.h0) rfl rfl rfl rfl (Nat.le_of_ble_eq_true rfl) ⟨Nat.le_of_ble_eq_true rfl, Nat.le_of_ble_eq_true rfl⟩ (fun _ _ _ q => False.elim q) (fun r w1 sz1 hz hP => ?_)
  obtain ⟨hr, rfl, rfl⟩ := hP
  obtain ⟨v1, rfl⟩ : ∃ v : Int32, r = some (.int v) := ⟨_, hr⟩
  have hr1 := hr
  refine x_st (st1 := [.int v1]) rfl ?_
  refine x_istore_n [(1, .int v1), (0, .ref (g.2 0))] 8 C0 dX7_sail_7 rfl rfl (by decide) rfl ?_
  refine x_lv (lv1 := [(0, .ref (g.2 0)), (1, .int v1)]) [1, 0] rfl ?_
  refine x_aload_n 0 9 C0 dX7_sail_8 rfl rfl rfl ?_
  refine x_getf (v := .ref (g.2 0 + 47)) 3 12 C0 dX7_sail_9 rfl hC.1.1 rfl (by decide) inX7 mF_X7_26 rfl ?_
  refine x_aload_n 0 13 C0 dX7_sail_12 rfl rfl rfl ?_
  refine x_getf (v := .ref (g.2 0 + 1)) 0 16 C0 dX7_sail_13 rfl hC.1.1 rfl (by decide) inX7 mF_X7_10 rfl ?_
  refine x_callV 19 C0 (k_X3_prepare l hl g _ _ _ x la t tt vb sg hC) dX7_sail_16 rfl mC_X3_prepare mM_X7_45 mI_X3_prepare mV_X3_prepare mN_X3 yd_X3_prepare rfl rfl ⟨Nat.le_of_ble_eq_true rfl, Nat.le_of_ble_eq_true rfl⟩ hC.1.2.1 rfl rfl rfl rfl (Nat.le_of_ble_eq_true rfl) ⟨Nat.le_of_ble_eq_true rfl, Nat.le_of_ble_eq_true rfl⟩ (fun _ _ _ q => False.elim q) (fun r w1 sz1 hz hP => ?_)
  obtain ⟨wv2, hwv2⟩ : ∃ z, z = w1 := ⟨_, rfl⟩
  obtain ⟨rfl, x2, la2, hC2, hx2, hl2, hG2, rfl, hXX2⟩ := hP
  refine x_w hwv2.symm ?_
  rw [← hwv2] at hC2 hG2
  have hF2 : xFr g w wv2 sz := xFr.tr (sz1 := sz) xFr.rf hG2 (by omega)
  refine x_st (st1 := []) rfl ?_
  refine x_aload_n 0 20 C0 dX7_sail_19 rfl rfl rfl ?_
  refine x_aload_n 0 21 C0 dX7_sail_20 rfl rfl rfl ?_
  refine x_getf (v := .ref (g.2 0 + 1)) 0 24 C0 dX7_sail_21 rfl hC2.1.1 rfl (by decide) inX7 mF_X7_10 rfl ?_
  refine x_callV 27 C0 (k_X4_trySail l hl g _ _ _ _ _ hC2.h0 (Nat.le_add_right _ _)) dX7_sail_24 rfl mC_X4_trySail mM_X7_195 mI_X4_trySail mV_X4_trySail mN_X4 yd_X4_trySail rfl rfl ⟨Nat.le_of_ble_eq_true rfl, Nat.le_of_ble_eq_true rfl⟩ (HR.ho hC2.h0) rfl rfl rfl rfl (Nat.le_of_ble_eq_true rfl) ⟨Nat.le_of_ble_eq_true rfl, Nat.le_of_ble_eq_true rfl⟩ (fun _ _ _ q => False.elim q) (fun r w1 sz1 hz hP => ?_)
  obtain ⟨rfl, x3, hw3, hQ3⟩ := hP
  obtain ⟨hk3, b3, rfl, hb3⟩ := hQ3.ok (fun q => hC2.k0.sail) hC2.k0
  obtain ⟨wv3, hwv3⟩ : ∃ z, z = w1 := ⟨_, rfl⟩
  refine x_w hwv3.symm ?_
  rw [← hwv3] at hw3
  obtain ⟨x4, la4, hx4, hla4, hC4⟩ : ∃ x4 la4, x4 = va_up x2 0 x3 ∧ la4 = va_up la2 0 (la2 0) ∧ CR g wv3 sz n x4 la4 t tt vb sg := ⟨_, _, rfl, rfl, by rw [hw3]; exact hC2.set0 hk3 hC2.l0⟩
  have hF4 : xFr g w wv3 sz := xFr.tr (sz1 := sz) hF2 (by rw [hw3]; exact xFr.hw (by omega)) (by omega)
  refine x_st (st1 := [.int b3, .ref (g.2 0)]) rfl ?_
  refine x_callV 30 C0 (k_X7_conclude l hl g _ _ _ x4 la4 t tt vb sg hC4 b3) dX7_sail_27 rfl mC_X7_conclude mM_X7_53 mI_X7_conclude mV_X7_conclude mN_X7 yd_X7_conclude rfl rfl ⟨Nat.le_of_ble_eq_true rfl, Nat.le_of_ble_eq_true rfl⟩ hC4.1.1 rfl rfl rfl rfl (Nat.le_of_ble_eq_true rfl) ⟨Nat.le_of_ble_eq_true rfl, Nat.le_of_ble_eq_true rfl⟩ (fun E9 w9 sz9 q => by obtain ⟨rfl, rfl, h9, hno9⟩ := q; exact x_out C0 rfl (Nat.le_of_ble_eq_true rfl) (Nat.le_of_ble_eq_true rfl) ⟨by decide, (hC4.grow h9).ci, hF4, by omega⟩) (fun r w1 sz1 hz hP => ?_)
  obtain ⟨wv5, hwv5⟩ : ∃ z, z = w1 := ⟨_, rfl⟩
  obtain ⟨rfl, t5, hC5, hG5, rfl, hb95, ht95⟩ := hP
  refine x_w hwv5.symm ?_
  rw [← hwv5] at hC5 hG5
  have hF5 : xFr g w wv5 sz := xFr.tr (sz1 := sz) hF4 hG5 (by omega)
  refine x_st (st1 := []) rfl ?_
  refine x_iload_n 1 31 C0 dX7_sail_30 rfl rfl rfl ?_
  exact x_ireturn C0 dX7_sail_31 rfl rfl (Nat.le_of_ble_eq_true rfl) (Nat.le_of_ble_eq_true rfl) ⟨⟨_, rfl⟩, hC5.ci, hF5, by omega⟩

set_option maxHeartbeats 4000000 in
set_option maxRecDepth 100000 in
theorem k_X7_cargo (l : Launch) (hl : l.stackTraces = false) (g : xg_T) (w : xw_T) (sz n : Nat) (x : Nat → Nat → Int32) (la : Nat → Nat → Nat) (t tt : Nat → Int32) (vb : Option Nat) (sg : Nat → Int32) (hC : CR g w sz n x la t tt vb sg) : xM l g yX7_cargo cX7_cargo 1 (some .int) ({ frames := 2, cells := 8, slots := 64, locals := 45 }) 8 64 [.ref (g.2 0)] w sz (cPo g w sz n rI) (fun _ _ _ => False) := by
  have hz9 := hC.zz
  refine xM.of RX7 hl (by decide +kernel) rfl (Nat.le_of_ble_eq_true rfl) rfl ?_
  intro p e s m args below meth cD C0 hini
  refine x_aload_n 0 1 C0 dX7_cargo_0 rfl rfl rfl ?_
  refine x_getf (v := .ref (g.2 0 + 1)) 0 4 C0 dX7_cargo_1 rfl hC.1.1 rfl (by decide) inX7 mF_X7_10 rfl ?_
  refine x_callV 7 C0 (k_X4_shipCoins l hl g _ _ _ _ _ hC.h0) dX7_cargo_4 rfl mC_X4_shipCoins mM_X7_192 mI_X4_shipCoins mV_X4_shipCoins mN_X4 yd_X4_shipCoins rfl rfl ⟨Nat.le_of_ble_eq_true rfl, Nat.le_of_ble_eq_true rfl⟩ (HR.ho hC.h0) rfl rfl rfl rfl (Nat.le_of_ble_eq_true rfl) ⟨Nat.le_of_ble_eq_true rfl, Nat.le_of_ble_eq_true rfl⟩ (fun _ _ _ q => False.elim q) (fun r w1 sz1 hz hP => ?_)
  obtain ⟨hr, rfl, rfl⟩ := hP
  obtain ⟨v1, rfl⟩ : ∃ v : Int32, r = some (.int v) := ⟨_, hr⟩
  have hr1 := hr
  refine x_st (st1 := [.int v1]) rfl ?_
  exact x_ireturn C0 dX7_cargo_7 rfl rfl (Nat.le_of_ble_eq_true rfl) (Nat.le_of_ble_eq_true rfl) ⟨⟨_, rfl⟩, hC.ci, xFr.rf, by omega⟩

set_option maxHeartbeats 4000000 in
set_option maxRecDepth 100000 in
theorem k_X7_height (l : Launch) (hl : l.stackTraces = false) (g : xg_T) (w : xw_T) (sz n : Nat) (x : Nat → Nat → Int32) (la : Nat → Nat → Nat) (t tt : Nat → Int32) (vb : Option Nat) (sg : Nat → Int32) (hC : CR g w sz n x la t tt vb sg) (hs : Int32) : xM l g yX7_height cX7_height 2 (some .int) ({ frames := 7, cells := 8, slots := 64, locals := 104 }) 8 64 [.ref (g.2 0), .int hs] w sz (cPo g w sz n rI) (cXo g w sz n ["java/lang/IllegalArgumentException"]) := by
  have hz9 := hC.zz
  refine xM.of RX7 hl (by decide +kernel) rfl (Nat.le_of_ble_eq_true rfl) rfl ?_
  intro p e s m args below meth cD C0 hini
  refine x_iload_n 1 1 C0 dX7_height_0 rfl rfl rfl ?_
  refine x_iconst (v := 0) 2 C0 dX7_height_1 rfl (by decide) ?_
  refine x_bipush (v := 99) 4 C0 dX7_height_2 rfl (by decide) ?_
  refine x_callS 7 C0 (k_X7_needRange l hl g _ _ hs 0 99) dX7_height_4 rfl mC_X7_needRange mM_X7_41 mS_X7_needRange mN_X7 yd_X7_needRange rfl rfl ⟨Nat.le_of_ble_eq_true rfl, Nat.le_of_ble_eq_true rfl⟩ rfl rfl (Nat.le_of_ble_eq_true rfl) ⟨Nat.le_of_ble_eq_true rfl, Nat.le_of_ble_eq_true rfl⟩ (fun E9 w9 sz9 q => by obtain ⟨rfl, rfl, h9, hno9⟩ := q; exact x_out C0 rfl (Nat.le_of_ble_eq_true rfl) (Nat.le_of_ble_eq_true rfl) ⟨by decide, (hC.grow h9).ci, xFr.rf, by omega⟩) (fun r w1 sz1 hz hP => ?_)
  obtain ⟨rfl, h19, h59, rfl, rfl⟩ := hP
  refine x_st (st1 := []) rfl ?_
  refine x_aload_n 0 8 C0 dX7_height_7 rfl rfl rfl ?_
  refine x_getf (v := .ref (g.2 0 + 1)) 0 11 C0 dX7_height_8 rfl hC.1.1 rfl (by decide) inX7 mF_X7_10 rfl ?_
  refine x_iload_n 1 12 C0 dX7_height_11 rfl rfl rfl ?_
  refine x_callV 15 C0 (k_X4_heightIn l hl g _ _ _ _ _ hC.h0 hs) dX7_height_12 rfl mC_X4_heightIn mM_X7_198 mI_X4_heightIn mV_X4_heightIn mN_X4 yd_X4_heightIn rfl rfl ⟨Nat.le_of_ble_eq_true rfl, Nat.le_of_ble_eq_true rfl⟩ (HR.ho hC.h0) rfl rfl rfl rfl (Nat.le_of_ble_eq_true rfl) ⟨Nat.le_of_ble_eq_true rfl, Nat.le_of_ble_eq_true rfl⟩ (fun _ _ _ q => False.elim q) (fun r w1 sz1 hz hP => ?_)
  obtain ⟨hr, rfl, rfl⟩ := hP
  obtain ⟨v1, rfl⟩ : ∃ v : Int32, r = some (.int v) := ⟨_, hr⟩
  have hr1 := hr
  refine x_st (st1 := [.int v1]) rfl ?_
  exact x_ireturn C0 dX7_height_15 rfl rfl (Nat.le_of_ble_eq_true rfl) (Nat.le_of_ble_eq_true rfl) ⟨⟨_, rfl⟩, hC.ci, xFr.rf, by omega⟩

set_option maxHeartbeats 4000000 in
set_option maxRecDepth 100000 in
theorem k_X7_heightAgain (l : Launch) (hl : l.stackTraces = false) (g : xg_T) (w : xw_T) (sz n : Nat) (x : Nat → Nat → Int32) (la : Nat → Nat → Nat) (t tt : Nat → Int32) (vb : Option Nat) (sg : Nat → Int32) (hC : CR g w sz n x la t tt vb sg) (hs : Int32) : xM l g yX7_heightAgain cX7_heightAgain 6 (some .int) ({ frames := 7, cells := 8, slots := 64, locals := 104 }) 8 64 [.ref (g.2 0), .int hs] w sz (cPo g w sz n rI) (cXo g w sz n ["java/lang/IllegalArgumentException"]) := by
  have hz9 := hC.zz
  refine xM.of RX7 hl (by decide +kernel) rfl (Nat.le_of_ble_eq_true rfl) rfl ?_
  intro p e s m args below meth cD C0 hini
  refine x_iload_n 1 1 C0 dX7_heightAgain_0 rfl rfl rfl ?_
  refine x_iconst (v := 0) 2 C0 dX7_heightAgain_1 rfl (by decide) ?_
  refine x_bipush (v := 99) 4 C0 dX7_heightAgain_2 rfl (by decide) ?_
  refine x_callS 7 C0 (k_X7_needRange l hl g _ _ hs 0 99) dX7_heightAgain_4 rfl mC_X7_needRange mM_X7_41 mS_X7_needRange mN_X7 yd_X7_needRange rfl rfl ⟨Nat.le_of_ble_eq_true rfl, Nat.le_of_ble_eq_true rfl⟩ rfl rfl (Nat.le_of_ble_eq_true rfl) ⟨Nat.le_of_ble_eq_true rfl, Nat.le_of_ble_eq_true rfl⟩ (fun E9 w9 sz9 q => by obtain ⟨rfl, rfl, h9, hno9⟩ := q; exact x_out C0 rfl (Nat.le_of_ble_eq_true rfl) (Nat.le_of_ble_eq_true rfl) ⟨by decide, (hC.grow h9).ci, xFr.rf, by omega⟩) (fun r w1 sz1 hz hP => ?_)
  obtain ⟨rfl, h19, h59, rfl, rfl⟩ := hP
  refine x_st (st1 := []) rfl ?_
  refine x_aload_n 0 8 C0 dX7_heightAgain_7 rfl rfl rfl ?_
  refine x_getf (v := .ref (g.2 0 + 1)) 0 11 C0 dX7_heightAgain_8 rfl hC.1.1 rfl (by decide) inX7 mF_X7_10 rfl ?_
  refine x_getf (v := .int (x 0 0)) 5 14 C0 dX7_heightAgain_11 rfl (HR.ho hC.h0) rfl (by decide) inX4 mF_X7_201 rfl ?_
  refine x_iload_n 1 15 C0 dX7_heightAgain_14 rfl rfl rfl ?_
  refine x_iadd 16 C0 dX7_heightAgain_15 rfl ?_
  obtain ⟨hr, ehr⟩ : ∃ y : Int32, y = (x 0 0) + hs := ⟨_, rfl⟩
  refine x_st (st1 := [.int hr]) (by rw [ehr]) ?_
  refine x_istore_n [(2, .int hr), (0, .ref (g.2 0)), (1, .int hs)] 17 C0 dX7_heightAgain_16 rfl rfl (by decide) rfl ?_
  refine x_lv (lv1 := [(0, .ref (g.2 0)), (1, .int hs), (2, .int hr)]) [1, 2, 0] rfl ?_
  refine x_bipush (v := 6) 19 C0 dX7_heightAgain_17 rfl (by decide) ?_
  refine x_istore_n [(3, .int 6), (0, .ref (g.2 0)), (1, .int hs), (2, .int hr)] 20 C0 dX7_heightAgain_19 rfl rfl (by decide) rfl ?_
  refine x_lv (lv1 := [(0, .ref (g.2 0)), (1, .int hs), (2, .int hr), (3, .int 6)]) [1, 2, 3, 0] rfl ?_
  refine x_iconst (v := (-1)) 21 C0 dX7_heightAgain_20 rfl (by decide) ?_
  refine x_istore [(4, .int (-1)), (0, .ref (g.2 0)), (1, .int hs), (2, .int hr), (3, .int 6)] 23 C0 dX7_heightAgain_21 rfl (by decide) rfl ?_
  refine x_lv (lv1 := [(0, .ref (g.2 0)), (1, .int hs), (2, .int hr), (3, .int 6), (4, .int (-1))]) [1, 2, 3, 4, 0] rfl ?_
  refine x_iconst (v := 0) 24 C0 dX7_heightAgain_23 rfl (by decide) ?_
  refine x_istore [(5, .int 0), (0, .ref (g.2 0)), (1, .int hs), (2, .int hr), (3, .int 6), (4, .int (-1))] 26 C0 dX7_heightAgain_24 rfl (by decide) rfl ?_
  refine x_lv (lv1 := [(0, .ref (g.2 0)), (1, .int hs), (2, .int hr), (3, .int 6), (4, .int (-1)), (5, .int 0)]) [1, 2, 3, 4, 5, 0] rfl ?_
  have loop26 : ∀ (N i : Nat) (wa chg : Int32), i < 2 ^ 31 → hr.toInt - i < N → xV p l e ({ frames := 7, cells := 8, slots := 64, locals := 104 }) s m args below meth cD (xQ g below (cPo g w sz n rI) (cXo g w sz n ["java/lang/IllegalArgumentException"]) args s 8 64) g 6 w sz (0 + 1) (0 + 6) 26 [(0, .ref (g.2 0)), (1, .int hs), (2, .int hr), (3, .int wa), (4, .int chg), (5, .int (nI i))] [] := by
    intro N
    induction N with
    | zero =>
      intro i wa chg hi hN
      refine x_iload 5 28 C0 dX7_heightAgain_26 rfl rfl ?_
      refine x_iload_n 2 29 C0 dX7_heightAgain_28 rfl rfl rfl ?_
      refine x_icmp_ge 62 32 C0 dX7_heightAgain_29 rfl (by decide) (fun c1 => ?_) (fun c1 => ?_)
      · refine x_iload_n 3 63 C0 dX7_heightAgain_62 rfl rfl rfl ?_
        exact x_ireturn C0 dX7_heightAgain_63 rfl rfl (Nat.le_of_ble_eq_true rfl) (Nat.le_of_ble_eq_true rfl) ⟨⟨_, rfl⟩, hC.ci, xFr.rf, by omega⟩
      · have hi2 := lt_nat hi c1
        have hi3 := Int32.toInt_lt hr
        exfalso
        omega
    | succ N ih =>
      intro i wa chg hi hN
      refine x_iload 5 28 C0 dX7_heightAgain_26 rfl rfl ?_
      refine x_iload_n 2 29 C0 dX7_heightAgain_28 rfl rfl rfl ?_
      refine x_icmp_ge 62 32 C0 dX7_heightAgain_29 rfl (by decide) (fun c2 => ?_) (fun c2 => ?_)
      · refine x_iload_n 3 63 C0 dX7_heightAgain_62 rfl rfl rfl ?_
        exact x_ireturn C0 dX7_heightAgain_63 rfl rfl (Nat.le_of_ble_eq_true rfl) (Nat.le_of_ble_eq_true rfl) ⟨⟨_, rfl⟩, hC.ci, xFr.rf, by omega⟩
      · have hi2 := lt_nat hi c2
        have hi3 := Int32.toInt_lt hr
        refine x_iload_n 3 33 C0 dX7_heightAgain_32 rfl rfl rfl ?_
        refine x_if_ne 42 36 C0 dX7_heightAgain_33 rfl (by decide) (fun c3 => ?_) (fun c3 => ?_)
        · refine x_iload_n 3 43 C0 dX7_heightAgain_42 rfl rfl rfl ?_
          refine x_bipush (v := 6) 45 C0 dX7_heightAgain_43 rfl (by decide) ?_
          refine x_icmp_ne 51 48 C0 dX7_heightAgain_45 rfl (by decide) (fun c4 => ?_) (fun c4 => ?_)
          · refine x_iload_n 3 52 C0 dX7_heightAgain_51 rfl rfl rfl ?_
            refine x_iload 4 54 C0 dX7_heightAgain_52 rfl rfl ?_
            refine x_iadd 55 C0 dX7_heightAgain_54 rfl ?_
            refine x_istore_n [(3, .int (wa + chg)), (0, .ref (g.2 0)), (1, .int hs), (2, .int hr), (4, .int chg), (5, .int (nI i))] 56 C0 dX7_heightAgain_55 rfl rfl (by decide) rfl ?_
            refine x_lv (lv1 := [(0, .ref (g.2 0)), (1, .int hs), (2, .int hr), (3, .int (wa + chg)), (4, .int chg), (5, .int (nI i))]) [1, 2, 3, 0, 4, 5] rfl ?_
            refine x_iinc [(5, .int (nI (i + 1))), (0, .ref (g.2 0)), (1, .int hs), (2, .int hr), (3, .int (wa + chg)), (4, .int chg)] 5 59 C0 dX7_heightAgain_56 rfl rfl (nI_1 i) (by decide) rfl ?_
            refine x_lv (lv1 := [(0, .ref (g.2 0)), (1, .int hs), (2, .int hr), (3, .int (wa + chg)), (4, .int chg), (5, .int (nI (i + 1)))]) [1, 2, 3, 4, 5, 0] rfl ?_
            refine x_goto 26 C0 dX7_heightAgain_59 (by decide) ?_
            exact x_lv [0, 1, 2, 3, 4, 5] rfl (ih (i + 1) _ _ (by omega) (by omega))
          · refine x_iconst (v := (-1)) 49 C0 dX7_heightAgain_48 rfl (by decide) ?_
            refine x_istore [(4, .int (-1)), (0, .ref (g.2 0)), (1, .int hs), (2, .int hr), (3, .int wa), (5, .int (nI i))] 51 C0 dX7_heightAgain_49 rfl (by decide) rfl ?_
            refine x_lv (lv1 := [(0, .ref (g.2 0)), (1, .int hs), (2, .int hr), (3, .int wa), (4, .int (-1)), (5, .int (nI i))]) [1, 2, 3, 4, 0, 5] rfl ?_
            refine x_iload_n 3 52 C0 dX7_heightAgain_51 rfl rfl rfl ?_
            refine x_iload 4 54 C0 dX7_heightAgain_52 rfl rfl ?_
            refine x_iadd 55 C0 dX7_heightAgain_54 rfl ?_
            refine x_istore_n [(3, .int (wa + (-1))), (0, .ref (g.2 0)), (1, .int hs), (2, .int hr), (4, .int (-1)), (5, .int (nI i))] 56 C0 dX7_heightAgain_55 rfl rfl (by decide) rfl ?_
            refine x_lv (lv1 := [(0, .ref (g.2 0)), (1, .int hs), (2, .int hr), (3, .int (wa + (-1))), (4, .int (-1)), (5, .int (nI i))]) [1, 2, 3, 0, 4, 5] rfl ?_
            refine x_iinc [(5, .int (nI (i + 1))), (0, .ref (g.2 0)), (1, .int hs), (2, .int hr), (3, .int (wa + (-1))), (4, .int (-1))] 5 59 C0 dX7_heightAgain_56 rfl rfl (nI_1 i) (by decide) rfl ?_
            refine x_lv (lv1 := [(0, .ref (g.2 0)), (1, .int hs), (2, .int hr), (3, .int (wa + (-1))), (4, .int (-1)), (5, .int (nI (i + 1)))]) [1, 2, 3, 4, 5, 0] rfl ?_
            refine x_goto 26 C0 dX7_heightAgain_59 (by decide) ?_
            exact x_lv [0, 1, 2, 3, 4, 5] rfl (ih (i + 1) _ _ (by omega) (by omega))
        · refine x_iconst (v := 1) 37 C0 dX7_heightAgain_36 rfl (by decide) ?_
          refine x_istore [(4, .int 1), (0, .ref (g.2 0)), (1, .int hs), (2, .int hr), (3, .int wa), (5, .int (nI i))] 39 C0 dX7_heightAgain_37 rfl (by decide) rfl ?_
          refine x_lv (lv1 := [(0, .ref (g.2 0)), (1, .int hs), (2, .int hr), (3, .int wa), (4, .int 1), (5, .int (nI i))]) [1, 2, 3, 4, 0, 5] rfl ?_
          refine x_goto 51 C0 dX7_heightAgain_39 (by decide) ?_
          refine x_iload_n 3 52 C0 dX7_heightAgain_51 rfl rfl rfl ?_
          refine x_iload 4 54 C0 dX7_heightAgain_52 rfl rfl ?_
          refine x_iadd 55 C0 dX7_heightAgain_54 rfl ?_
          refine x_istore_n [(3, .int (wa + 1)), (0, .ref (g.2 0)), (1, .int hs), (2, .int hr), (4, .int 1), (5, .int (nI i))] 56 C0 dX7_heightAgain_55 rfl rfl (by decide) rfl ?_
          refine x_lv (lv1 := [(0, .ref (g.2 0)), (1, .int hs), (2, .int hr), (3, .int (wa + 1)), (4, .int 1), (5, .int (nI i))]) [1, 2, 3, 0, 4, 5] rfl ?_
          refine x_iinc [(5, .int (nI (i + 1))), (0, .ref (g.2 0)), (1, .int hs), (2, .int hr), (3, .int (wa + 1)), (4, .int 1)] 5 59 C0 dX7_heightAgain_56 rfl rfl (nI_1 i) (by decide) rfl ?_
          refine x_lv (lv1 := [(0, .ref (g.2 0)), (1, .int hs), (2, .int hr), (3, .int (wa + 1)), (4, .int 1), (5, .int (nI (i + 1)))]) [1, 2, 3, 4, 5, 0] rfl ?_
          refine x_goto 26 C0 dX7_heightAgain_59 (by decide) ?_
          exact x_lv [0, 1, 2, 3, 4, 5] rfl (ih (i + 1) _ _ (by omega) (by omega))
  exact x_lv [0, 1, 2, 3, 4, 5] rfl (loop26 (hr.toInt.toNat + 1) 0 _ _ (by omega) (by omega))

set_option maxHeartbeats 4000000 in
set_option maxRecDepth 100000 in
theorem k_X7_reachedIn (l : Launch) (hl : l.stackTraces = false) (g : xg_T) (w : xw_T) (sz n : Nat) (x : Nat → Nat → Int32) (la : Nat → Nat → Nat) (t tt : Nat → Int32) (vb : Option Nat) (sg : Nat → Int32) (hC : CR g w sz n x la t tt vb sg) : xM l g yX7_reachedIn cX7_reachedIn 2 (some .int) ({ frames := 2, cells := 8, slots := 64, locals := 34 }) 8 64 [.ref (g.2 0)] w sz (cPo g w sz n rI) (fun _ _ _ => False) := by
  have hz9 := hC.zz
  refine xM.of RX7 hl (by decide +kernel) rfl (Nat.le_of_ble_eq_true rfl) rfl ?_
  intro p e s m args below meth cD C0 hini
  refine x_iconst (v := 0) 1 C0 dX7_reachedIn_0 rfl (by decide) ?_
  refine x_istore_n [(1, .int 0), (0, .ref (g.2 0))] 2 C0 dX7_reachedIn_1 rfl rfl (by decide) rfl ?_
  refine x_lv (lv1 := [(0, .ref (g.2 0)), (1, .int 0)]) [1, 0] rfl ?_
  have loop2 : ∀ (N i : Nat), i ≤ 12 → 12 - i < N → xV p l e ({ frames := 2, cells := 8, slots := 64, locals := 34 }) s m args below meth cD (xQ g below (cPo g w sz n rI) (fun _ _ _ => False) args s 8 64) g 2 w sz (0) (0) 2 [(0, .ref (g.2 0)), (1, .int (nI i))] [] := by
    intro N
    induction N with
    | zero => intro i h1 h2; omega
    | succ N ih =>
      intro i hi hN
      refine x_iload_n 1 3 C0 dX7_reachedIn_2 rfl rfl rfl ?_
      refine x_bipush (v := 12) 5 C0 dX7_reachedIn_3 rfl (by decide) ?_
      refine x_icmp_ge 26 8 C0 dX7_reachedIn_5 rfl (by decide) (fun c1 => ?_) (fun c1 => ?_)
      · refine x_iload_n 1 27 C0 dX7_reachedIn_26 rfl rfl rfl ?_
        exact x_ireturn C0 dX7_reachedIn_27 rfl rfl (Nat.le_of_ble_eq_true rfl) (Nat.le_of_ble_eq_true rfl) ⟨⟨_, rfl⟩, hC.ci, xFr.rf, by omega⟩
      · have hi2 := ix_lt 12 rfl (by decide) hi c1
        refine x_aload_n 0 9 C0 dX7_reachedIn_8 rfl rfl rfl ?_
        refine x_getf (v := .ref (g.2 0 + 1)) 0 12 C0 dX7_reachedIn_9 rfl hC.1.1 rfl (by decide) inX7 mF_X7_10 rfl ?_
        refine x_iload_n 1 13 C0 dX7_reachedIn_12 rfl rfl rfl ?_
        refine x_callV 16 C0 (k_X4_heightIn l hl g _ _ _ _ _ hC.h0 (nI i)) dX7_reachedIn_13 rfl mC_X4_heightIn mM_X7_198 mI_X4_heightIn mV_X4_heightIn mN_X4 yd_X4_heightIn rfl rfl ⟨Nat.le_of_ble_eq_true rfl, Nat.le_of_ble_eq_true rfl⟩ (HR.ho hC.h0) rfl rfl rfl rfl (Nat.le_of_ble_eq_true rfl) ⟨Nat.le_of_ble_eq_true rfl, Nat.le_of_ble_eq_true rfl⟩ (fun _ _ _ q => False.elim q) (fun r w1 sz1 hz hP => ?_)
        obtain ⟨hr, rfl, rfl⟩ := hP
        obtain ⟨v2, rfl⟩ : ∃ v : Int32, r = some (.int v) := ⟨_, hr⟩
        have hr2 := hr
        refine x_st (st1 := [.int v2]) rfl ?_
        refine x_iconst (v := 3) 17 C0 dX7_reachedIn_16 rfl (by decide) ?_
        refine x_icmp_ge 26 20 C0 dX7_reachedIn_17 rfl (by decide) (fun c3 => ?_) (fun c3 => ?_)
        · have c3' := Int32.not_lt.mpr c3
          refine x_iload_n 1 27 C0 dX7_reachedIn_26 rfl rfl rfl ?_
          exact x_ireturn C0 dX7_reachedIn_27 rfl rfl (Nat.le_of_ble_eq_true rfl) (Nat.le_of_ble_eq_true rfl) ⟨⟨_, rfl⟩, hC.ci, xFr.rf, by omega⟩
        · have c3' := Int32.not_le.mp c3
          refine x_iinc [(1, .int (nI (i + 1))), (0, .ref (g.2 0))] 1 23 C0 dX7_reachedIn_20 rfl rfl (nI_1 i) (by decide) rfl ?_
          refine x_lv (lv1 := [(0, .ref (g.2 0)), (1, .int (nI (i + 1)))]) [1, 0] rfl ?_
          refine x_goto 2 C0 dX7_reachedIn_23 (by decide) ?_
          exact x_lv [0, 1] rfl (ih (i + 1) (by omega) (by omega))
  exact x_lv [0, 1] rfl (loop2 13 0 (by omega) (by omega))

set_option maxHeartbeats 4000000 in
set_option maxRecDepth 100000 in
theorem k_X7_setHumidity (l : Launch) (hl : l.stackTraces = false) (g : xg_T) (w : xw_T) (sz n : Nat) (x : Nat → Nat → Int32) (la : Nat → Nat → Nat) (t tt : Nat → Int32) (vb : Option Nat) (sg : Nat → Int32) (hC : CR g w sz n x la t tt vb sg) (hu : Int32) : xM l g yX7_setHumidity cX7_setHumidity 3 (some .int) ({ frames := 7, cells := 8, slots := 64, locals := 104 }) 8 64 [.ref (g.2 0), .int hu] w sz (cPo g w sz n rI) (cXo g w sz n ["java/lang/IllegalArgumentException"]) := by
  have hz9 := hC.zz
  refine xM.of RX7 hl (by decide +kernel) rfl (Nat.le_of_ble_eq_true rfl) rfl ?_
  intro p e s m args below meth cD C0 hini
  refine x_iload_n 1 1 C0 dX7_setHumidity_0 rfl rfl rfl ?_
  refine x_iconst (v := 0) 2 C0 dX7_setHumidity_1 rfl (by decide) ?_
  refine x_bipush (v := 9) 4 C0 dX7_setHumidity_2 rfl (by decide) ?_
  refine x_callS 7 C0 (k_X7_needRange l hl g _ _ hu 0 9) dX7_setHumidity_4 rfl mC_X7_needRange mM_X7_41 mS_X7_needRange mN_X7 yd_X7_needRange rfl rfl ⟨Nat.le_of_ble_eq_true rfl, Nat.le_of_ble_eq_true rfl⟩ rfl rfl (Nat.le_of_ble_eq_true rfl) ⟨Nat.le_of_ble_eq_true rfl, Nat.le_of_ble_eq_true rfl⟩ (fun E9 w9 sz9 q => by obtain ⟨rfl, rfl, h9, hno9⟩ := q; exact x_out C0 rfl (Nat.le_of_ble_eq_true rfl) (Nat.le_of_ble_eq_true rfl) ⟨by decide, (hC.grow h9).ci, xFr.rf, by omega⟩) (fun r w1 sz1 hz hP => ?_)
  obtain ⟨rfl, h19, h59, rfl, rfl⟩ := hP
  refine x_st (st1 := []) rfl ?_
  refine x_aload_n 0 8 C0 dX7_setHumidity_7 rfl rfl rfl ?_
  refine x_getf (v := .ref (g.2 0 + 1)) 0 11 C0 dX7_setHumidity_8 rfl hC.1.1 rfl (by decide) inX7 mF_X7_10 rfl ?_
  refine x_getf (v := .int (x 0 5)) 6 14 C0 dX7_setHumidity_11 rfl (HR.ho hC.h0) rfl (by decide) inX4 mF_X7_204 rfl ?_
  refine x_istore_n [(2, .int (x 0 5)), (0, .ref (g.2 0)), (1, .int hu)] 15 C0 dX7_setHumidity_14 rfl rfl (by decide) rfl ?_
  refine x_lv (lv1 := [(0, .ref (g.2 0)), (1, .int hu), (2, .int (x 0 5))]) [1, 2, 0] rfl ?_
  refine x_aload_n 0 16 C0 dX7_setHumidity_15 rfl rfl rfl ?_
  refine x_callV 19 C0 (k_X7_keepChange l hl g _ _ _ x la t tt vb sg hC) dX7_setHumidity_16 rfl mC_X7_keepChange mM_X7_65 mI_X7_keepChange mV_X7_keepChange mN_X7 yd_X7_keepChange rfl rfl ⟨Nat.le_of_ble_eq_true rfl, Nat.le_of_ble_eq_true rfl⟩ hC.1.1 rfl rfl rfl rfl (Nat.le_of_ble_eq_true rfl) ⟨Nat.le_of_ble_eq_true rfl, Nat.le_of_ble_eq_true rfl⟩ (fun _ _ _ q => False.elim q) (fun r w1 sz1 hz hP => ?_)
  obtain ⟨wv1, hwv1⟩ : ∃ z, z = w1 := ⟨_, rfl⟩
  obtain ⟨rfl, x1, la1, t1, hC1, hG1, rfl, ht91, hXX1⟩ := hP
  refine x_w hwv1.symm ?_
  rw [← hwv1] at hC1 hG1
  have hF1 : xFr g w wv1 sz := xFr.tr (sz1 := sz) xFr.rf hG1 (by omega)
  refine x_st (st1 := []) rfl ?_
  refine x_aload_n 0 20 C0 dX7_setHumidity_19 rfl rfl rfl ?_
  refine x_getf (v := .ref (g.2 0 + 1)) 0 23 C0 dX7_setHumidity_20 rfl hC1.1.1 rfl (by decide) inX7 mF_X7_10 rfl ?_
  refine x_iload_n 1 24 C0 dX7_setHumidity_23 rfl rfl rfl ?_
  refine x_w (HW_self hC1.h0) ?_
  refine x_putf 6 27 C0 dX7_setHumidity_24 rfl (HR.ho HR_HW) (Nat.le_add_right _ _) rfl (by decide) inX4 tyX4_ok nmX4 mF_X7_204 rfl rfl rfl rfl (Nat.le_of_ble_eq_true rfl) ?_
  refine x_w (w1 := HW g wv1 (g.2 0 + 1) (upd (x1 0) 5 hu) (la1 0)) (HW_putH (by decide) (houseS6 _ _ _)) ?_
  obtain ⟨w2, hw2⟩ : ∃ z, z = HW g wv1 (g.2 0 + 1) (upd (x1 0) 5 hu) (la1 0) := ⟨_, rfl⟩
  refine x_w hw2.symm ?_
  obtain ⟨x3, la3, hx3, hla3, hC3⟩ : ∃ x3 la3, x3 = va_up x1 0 (upd (x1 0) 5 hu) ∧ la3 = va_up la1 0 (la1 0) ∧ CR g w2 sz n x3 la3 t1 tt vb sg := ⟨_, _, rfl, rfl, by rw [hw2]; exact hC1.set0 (hC1.k0.up (by omega)) hC1.l0⟩
  have hF3 : xFr g w w2 sz := xFr.tr (sz1 := sz) hF1 (by rw [hw2]; exact xFr.hw (by omega)) (by omega)
  refine x_iload_n 2 28 C0 dX7_setHumidity_27 rfl rfl rfl ?_
  exact x_ireturn C0 dX7_setHumidity_28 rfl rfl (Nat.le_of_ble_eq_true rfl) (Nat.le_of_ble_eq_true rfl) ⟨⟨_, rfl⟩, hC3.ci, hF3, by omega⟩

set_option maxHeartbeats 4000000 in
set_option maxRecDepth 100000 in
theorem k_X7_pass (l : Launch) (hl : l.stackTraces = false) (g : xg_T) (w : xw_T) (sz n : Nat) (x : Nat → Nat → Int32) (la : Nat → Nat → Nat) (t tt : Nat → Int32) (vb : Option Nat) (sg : Nat → Int32) (hC : CR g w sz n x la t tt vb sg) (hs : Int32) : xM l g yX7_pass cX7_pass 2 (some .int) ({ frames := 7, cells := 8, slots := 64, locals := 104 }) 8 64 [.ref (g.2 0), .int hs] w sz (cPo g w sz n rI) (cXo g w sz n ["java/lang/IllegalArgumentException"]) := by
  have hz9 := hC.zz
  refine xM.of RX7 hl (by decide +kernel) rfl (Nat.le_of_ble_eq_true rfl) rfl ?_
  intro p e s m args below meth cD C0 hini
  refine x_iload_n 1 1 C0 dX7_pass_0 rfl rfl rfl ?_
  refine x_iconst (v := 1) 2 C0 dX7_pass_1 rfl (by decide) ?_
  refine x_bipush (v := 72) 4 C0 dX7_pass_2 rfl (by decide) ?_
  refine x_callS 7 C0 (k_X7_needRange l hl g _ _ hs 1 72) dX7_pass_4 rfl mC_X7_needRange mM_X7_41 mS_X7_needRange mN_X7 yd_X7_needRange rfl rfl ⟨Nat.le_of_ble_eq_true rfl, Nat.le_of_ble_eq_true rfl⟩ rfl rfl (Nat.le_of_ble_eq_true rfl) ⟨Nat.le_of_ble_eq_true rfl, Nat.le_of_ble_eq_true rfl⟩ (fun E9 w9 sz9 q => by obtain ⟨rfl, rfl, h9, hno9⟩ := q; exact x_out C0 rfl (Nat.le_of_ble_eq_true rfl) (Nat.le_of_ble_eq_true rfl) ⟨by decide, (hC.grow h9).ci, xFr.rf, by omega⟩) (fun r w1 sz1 hz hP => ?_)
  obtain ⟨rfl, h19, h59, rfl, rfl⟩ := hP
  refine x_st (st1 := []) rfl ?_
  refine x_aload_n 0 8 C0 dX7_pass_7 rfl rfl rfl ?_
  refine x_callV 11 C0 (k_X7_keepChange l hl g _ _ _ x la t tt vb sg hC) dX7_pass_8 rfl mC_X7_keepChange mM_X7_65 mI_X7_keepChange mV_X7_keepChange mN_X7 yd_X7_keepChange rfl rfl ⟨Nat.le_of_ble_eq_true rfl, Nat.le_of_ble_eq_true rfl⟩ hC.1.1 rfl rfl rfl rfl (Nat.le_of_ble_eq_true rfl) ⟨Nat.le_of_ble_eq_true rfl, Nat.le_of_ble_eq_true rfl⟩ (fun _ _ _ q => False.elim q) (fun r w1 sz1 hz hP => ?_)
  obtain ⟨wv1, hwv1⟩ : ∃ z, z = w1 := ⟨_, rfl⟩
  obtain ⟨rfl, x1, la1, t1, hC1, hG1, rfl, ht91, hXX1⟩ := hP
  refine x_w hwv1.symm ?_
  rw [← hwv1] at hC1 hG1
  have hF1 : xFr g w wv1 sz := xFr.tr (sz1 := sz) xFr.rf hG1 (by omega)
  refine x_st (st1 := []) rfl ?_
  refine x_aload_n 0 12 C0 dX7_pass_11 rfl rfl rfl ?_
  refine x_getf (v := .ref (g.2 0 + 1)) 0 15 C0 dX7_pass_12 rfl hC1.1.1 rfl (by decide) inX7 mF_X7_10 rfl ?_
  refine x_iload_n 1 16 C0 dX7_pass_15 rfl rfl rfl ?_
  obtain ⟨nh, rfl, -, hnh⟩ := i32_range (a := 1) (b := 72) rfl rfl (by omega) (by omega) h19 h59
  refine x_callV 19 C0 (k_X4_letPass l hl g _ _ _ _ _ hC1.h0 (Nat.le_add_right _ _) nh (by omega)) dX7_pass_16 rfl mC_X4_letPass mM_X7_207 mI_X4_letPass mV_X4_letPass mN_X4 yd_X4_letPass rfl rfl ⟨Nat.le_of_ble_eq_true rfl, Nat.le_of_ble_eq_true rfl⟩ (HR.ho hC1.h0) rfl rfl rfl rfl (Nat.le_of_ble_eq_true rfl) ⟨Nat.le_of_ble_eq_true rfl, Nat.le_of_ble_eq_true rfl⟩ (fun _ _ _ q => False.elim q) (fun r w1 sz1 hz hP => ?_)
  obtain ⟨rfl, hw2, rfl⟩ := hP
  obtain ⟨wv2, hwv2⟩ : ∃ z, z = w1 := ⟨_, rfl⟩
  refine x_w hwv2.symm ?_
  rw [← hwv2] at hw2
  obtain ⟨x3, la3, hx3, hla3, hC3⟩ : ∃ x3 la3, x3 = va_up x1 0 (passN (x1 0) nh) ∧ la3 = va_up la1 0 (la1 0) ∧ CR g wv2 sz n x3 la3 t1 tt vb sg := ⟨_, _, rfl, rfl, by rw [hw2]; exact hC1.set0 (hC1.k0.passH nh) hC1.l0⟩
  have hF3 : xFr g w wv2 sz := xFr.tr (sz1 := sz) hF1 (by rw [hw2]; exact xFr.hw (by omega)) (by omega)
  refine x_st (st1 := [.int 1]) rfl ?_
  refine x_pop 20 C0 dX7_pass_19 rfl rfl ?_
  refine x_aload_n 0 21 C0 dX7_pass_20 rfl rfl rfl ?_
  refine x_getf (v := .ref (g.2 0 + 1)) 0 24 C0 dX7_pass_21 rfl hC3.1.1 rfl (by decide) inX7 mF_X7_10 rfl ?_
  refine x_iconst (v := 0) 25 C0 dX7_pass_24 rfl (by decide) ?_
  refine x_callV 28 C0 (k_X4_heightIn l hl g _ _ _ _ _ hC3.h0 0) dX7_pass_25 rfl mC_X4_heightIn mM_X7_198 mI_X4_heightIn mV_X4_heightIn mN_X4 yd_X4_heightIn rfl rfl ⟨Nat.le_of_ble_eq_true rfl, Nat.le_of_ble_eq_true rfl⟩ (HR.ho hC3.h0) rfl rfl rfl rfl (Nat.le_of_ble_eq_true rfl) ⟨Nat.le_of_ble_eq_true rfl, Nat.le_of_ble_eq_true rfl⟩ (fun _ _ _ q => False.elim q) (fun r w1 sz1 hz hP => ?_)
  obtain ⟨hr, rfl, rfl⟩ := hP
  obtain ⟨v4, rfl⟩ : ∃ v : Int32, r = some (.int v) := ⟨_, hr⟩
  have hr4 := hr
  refine x_st (st1 := [.int v4]) rfl ?_
  exact x_ireturn C0 dX7_pass_28 rfl rfl (Nat.le_of_ble_eq_true rfl) (Nat.le_of_ble_eq_true rfl) ⟨⟨_, rfl⟩, hC3.ci, hF3, by omega⟩

set_option maxHeartbeats 4000000 in
set_option maxRecDepth 100000 in
theorem k_X7_isWell (l : Launch) (hl : l.stackTraces = false) (g : xg_T) (w : xw_T) (sz n : Nat) (x : Nat → Nat → Int32) (la : Nat → Nat → Nat) (t tt : Nat → Int32) (vb : Option Nat) (sg : Nat → Int32) (hC : CR g w sz n x la t tt vb sg) : xM l g yX7_isWell cX7_isWell 2 (some .boolean) ({ frames := 4, cells := 8, slots := 64, locals := 88 }) 8 64 [.ref (g.2 0)] w sz (cPo g w sz n rI) (fun _ _ _ => False) := by
  have hz9 := hC.zz
  refine xM.of RX7 hl (by decide +kernel) rfl (Nat.le_of_ble_eq_true rfl) rfl ?_
  intro p e s m args below meth cD C0 hini
  refine x_aload_n 0 1 C0 dX7_isWell_0 rfl rfl rfl ?_
  refine x_getf (v := .ref (g.2 0 + 1)) 0 4 C0 dX7_isWell_1 rfl hC.1.1 rfl (by decide) inX7 mF_X7_10 rfl ?_
  refine x_callV 7 C0 (k_X4_poundsStored l hl g _ _ _ _ _ hC.h0) dX7_isWell_4 rfl mC_X4_poundsStored mM_X7_210 mI_X4_poundsStored mV_X4_poundsStored mN_X4 yd_X4_poundsStored rfl rfl ⟨Nat.le_of_ble_eq_true rfl, Nat.le_of_ble_eq_true rfl⟩ (HR.ho hC.h0) rfl rfl rfl rfl (Nat.le_of_ble_eq_true rfl) ⟨Nat.le_of_ble_eq_true rfl, Nat.le_of_ble_eq_true rfl⟩ (fun _ _ _ q => False.elim q) (fun r w1 sz1 hz hP => ?_)
  obtain ⟨hr, rfl, rfl⟩ := hP
  obtain ⟨v1, rfl⟩ : ∃ v : Int32, r = some (.int v) := ⟨_, hr⟩
  have hr1 := hr
  refine x_st (st1 := [.int v1]) rfl ?_
  refine x_aload_n 0 8 C0 dX7_isWell_7 rfl rfl rfl ?_
  refine x_getf (v := .ref (g.2 0 + 1)) 0 11 C0 dX7_isWell_8 rfl hC.1.1 rfl (by decide) inX7 mF_X7_10 rfl ?_
  refine x_callV 14 C0 (k_X4_poundsInChests l hl g _ _ _ _ _ hC.h0) dX7_isWell_11 rfl mC_X4_poundsInChests mM_X7_213 mI_X4_poundsInChests mV_X4_poundsInChests mN_X4 yd_X4_poundsInChests rfl rfl ⟨Nat.le_of_ble_eq_true rfl, Nat.le_of_ble_eq_true rfl⟩ (HR.ho hC.h0) rfl rfl rfl rfl (Nat.le_of_ble_eq_true rfl) ⟨Nat.le_of_ble_eq_true rfl, Nat.le_of_ble_eq_true rfl⟩ (fun _ _ _ q => False.elim q) (fun r w1 sz1 hz hP => ?_)
  obtain ⟨hr, rfl, rfl⟩ := hP
  obtain ⟨v2, rfl⟩ : ∃ v : Int32, r = some (.int v) := ⟨_, hr⟩
  have hr2 := hr
  refine x_st (st1 := [.int v2, .int v1]) rfl ?_
  refine x_iadd 15 C0 dX7_isWell_14 rfl ?_
  refine x_aload_n 0 16 C0 dX7_isWell_15 rfl rfl rfl ?_
  refine x_getf (v := .ref (g.2 0 + 1)) 0 19 C0 dX7_isWell_16 rfl hC.1.1 rfl (by decide) inX7 mF_X7_10 rfl ?_
  refine x_getf (v := .int (x 0 7)) 10 22 C0 dX7_isWell_19 rfl (HR.ho hC.h0) rfl (by decide) inX4 mF_X7_216 rfl ?_
  refine x_iadd 23 C0 dX7_isWell_22 rfl ?_
  refine x_aload_n 0 24 C0 dX7_isWell_23 rfl rfl rfl ?_
  refine x_getf (v := .ref (g.2 0 + 1)) 0 27 C0 dX7_isWell_24 rfl hC.1.1 rfl (by decide) inX7 mF_X7_10 rfl ?_
  refine x_getf (v := .int (x 0 8)) 11 30 C0 dX7_isWell_27 rfl (HR.ho hC.h0) rfl (by decide) inX4 mF_X7_219 rfl ?_
  refine x_iadd 31 C0 dX7_isWell_30 rfl ?_
  refine x_istore_n [(1, .int (((v1 + v2) + (x 0 7)) + (x 0 8))), (0, .ref (g.2 0))] 32 C0 dX7_isWell_31 rfl rfl (by decide) rfl ?_
  refine x_lv (lv1 := [(0, .ref (g.2 0)), (1, .int (((v1 + v2) + (x 0 7)) + (x 0 8)))]) [1, 0] rfl ?_
  refine x_iload_n 1 33 C0 dX7_isWell_32 rfl rfl rfl ?_
  refine x_aload_n 0 34 C0 dX7_isWell_33 rfl rfl rfl ?_
  refine x_getf (v := .ref (g.2 0 + 1)) 0 37 C0 dX7_isWell_34 rfl hC.1.1 rfl (by decide) inX7 mF_X7_10 rfl ?_
  refine x_getf (v := .int (x 0 6)) 9 40 C0 dX7_isWell_37 rfl (HR.ho hC.h0) rfl (by decide) inX4 mF_X7_222 rfl ?_
  refine x_icmp_ne 57 43 C0 dX7_isWell_40 rfl (by decide) (fun c3 => ?_) (fun c3 => ?_)
  · refine x_iconst (v := 0) 58 C0 dX7_isWell_57 rfl (by decide) ?_
    exact x_ireturn C0 dX7_isWell_58 rfl (rfl) (Nat.le_of_ble_eq_true rfl) (Nat.le_of_ble_eq_true rfl) ⟨⟨_, rfl⟩, hC.ci, xFr.rf, by omega⟩
  · refine x_aload_n 0 44 C0 dX7_isWell_43 rfl rfl rfl ?_
    refine x_getf (v := .ref (g.2 0 + 1)) 0 47 C0 dX7_isWell_44 rfl hC.1.1 rfl (by decide) inX7 mF_X7_10 rfl ?_
    obtain ⟨ln4, lf4, hL4⟩ := hC.l0
    refine x_callV 50 C0 (k_X4_isOutsideInOrder l hl g _ _ _ _ _ hC.h0 ln4 lf4 (by omega) (fun k hk => (hL4 k hk).1)) dX7_isWell_47 rfl mC_X4_isOutsideInOrder mM_X7_225 mI_X4_isOutsideInOrder mV_X4_isOutsideInOrder mN_X4 yd_X4_isOutsideInOrder rfl rfl ⟨Nat.le_of_ble_eq_true rfl, Nat.le_of_ble_eq_true rfl⟩ (HR.ho hC.h0) rfl rfl rfl rfl (Nat.le_of_ble_eq_true rfl) ⟨Nat.le_of_ble_eq_true rfl, Nat.le_of_ble_eq_true rfl⟩ (fun _ _ _ q => False.elim q) (fun r w1 sz1 hz hP => ?_)
    obtain ⟨hr0, rfl, rfl⟩ := hP
    have hr : ∃ b : Bool, r = some (.int (bi b)) := hr0.elim (fun q => ⟨true, q.1⟩) (fun q => ⟨false, q.1⟩)
    obtain ⟨b0, hr⟩ := hr
    obtain ⟨v5, rfl, hv5⟩ : ∃ v : Int32, r = some (.int v) ∧ isB v := ⟨_, hr, isB_bi _⟩
    refine x_st (st1 := [.int v5]) rfl ?_
    refine x_if_eq 57 53 C0 dX7_isWell_50 rfl (by decide) (fun c6 => ?_) (fun c6 => ?_)
    · refine x_iconst (v := 0) 58 C0 dX7_isWell_57 rfl (by decide) ?_
      exact x_ireturn C0 dX7_isWell_58 rfl (rfl) (Nat.le_of_ble_eq_true rfl) (Nat.le_of_ble_eq_true rfl) ⟨⟨_, rfl⟩, hC.ci, xFr.rf, by omega⟩
    · refine x_iconst (v := 1) 54 C0 dX7_isWell_53 rfl (by decide) ?_
      refine x_goto 58 C0 dX7_isWell_54 (by decide) ?_
      exact x_ireturn C0 dX7_isWell_58 rfl (rfl) (Nat.le_of_ble_eq_true rfl) (Nat.le_of_ble_eq_true rfl) ⟨⟨_, rfl⟩, hC.ci, xFr.rf, by omega⟩

set_option maxHeartbeats 4000000 in
set_option maxRecDepth 100000 in
theorem k_X7_meanDamp (l : Launch) (hl : l.stackTraces = false) (g : xg_T) (w : xw_T) (sz n : Nat) (x : Nat → Nat → Int32) (la : Nat → Nat → Nat) (t tt : Nat → Int32) (vb : Option Nat) (sg : Nat → Int32) (hC : CR g w sz n x la t tt vb sg) : xM l g yX7_meanDamp cX7_meanDamp 2 (some .double) ({ frames := 6, cells := 8, slots := 64, locals := 82 }) 8 64 [.ref (g.2 0)] w sz (cPo g w sz n rD) (cXo g w sz n ["java/lang/ArithmeticException"]) := by
  have hz9 := hC.zz
  refine xM.of RX7 hl (by decide +kernel) rfl (Nat.le_of_ble_eq_true rfl) rfl ?_
  intro p e s m args below meth cD C0 hini
  refine x_aload_n 0 1 C0 dX7_meanDamp_0 rfl rfl rfl ?_
  refine x_getf (v := .ref (g.2 0 + 1)) 0 4 C0 dX7_meanDamp_1 rfl hC.1.1 rfl (by decide) inX7 mF_X7_10 rfl ?_
  refine x_callV 7 C0 (k_X4_filledChests l hl g _ _ _ _ _ hC.h0) dX7_meanDamp_4 rfl mC_X4_filledChests mM_X7_228 mI_X4_filledChests mV_X4_filledChests mN_X4 yd_X4_filledChests rfl rfl ⟨Nat.le_of_ble_eq_true rfl, Nat.le_of_ble_eq_true rfl⟩ (HR.ho hC.h0) rfl rfl rfl rfl (Nat.le_of_ble_eq_true rfl) ⟨Nat.le_of_ble_eq_true rfl, Nat.le_of_ble_eq_true rfl⟩ (fun _ _ _ q => False.elim q) (fun r w1 sz1 hz hP => ?_)
  obtain ⟨hr, rfl, rfl⟩ := hP
  obtain ⟨v1, rfl⟩ : ∃ v : Int32, r = some (.int v) := ⟨_, hr⟩
  have hr1 := hr
  refine x_st (st1 := [.int v1]) rfl ?_
  refine x_istore_n [(1, .int v1), (0, .ref (g.2 0))] 8 C0 dX7_meanDamp_7 rfl rfl (by decide) rfl ?_
  refine x_lv (lv1 := [(0, .ref (g.2 0)), (1, .int v1)]) [1, 0] rfl ?_
  refine x_iload_n 1 9 C0 dX7_meanDamp_8 rfl rfl rfl ?_
  refine x_if_ne 22 12 C0 dX7_meanDamp_9 rfl (by decide) (fun c2 => ?_) (fun c2 => ?_)
  · refine x_aload_n 0 23 C0 dX7_meanDamp_22 rfl rfl rfl ?_
    refine x_getf (v := .ref (g.2 0 + 1)) 0 26 C0 dX7_meanDamp_23 rfl hC.1.1 rfl (by decide) inX7 mF_X7_10 rfl ?_
    refine x_callV 29 C0 (k_X4_sumOfDamp l hl g _ _ _ _ _ hC.h0) dX7_meanDamp_26 rfl mC_X4_sumOfDamp mM_X7_236 mI_X4_sumOfDamp mV_X4_sumOfDamp mN_X4 yd_X4_sumOfDamp rfl rfl ⟨Nat.le_of_ble_eq_true rfl, Nat.le_of_ble_eq_true rfl⟩ (HR.ho hC.h0) rfl rfl rfl rfl (Nat.le_of_ble_eq_true rfl) ⟨Nat.le_of_ble_eq_true rfl, Nat.le_of_ble_eq_true rfl⟩ (fun _ _ _ q => False.elim q) (fun r w1 sz1 hz hP => ?_)
    obtain ⟨hr, rfl, rfl⟩ := hP
    obtain ⟨v3, rfl⟩ : ∃ v : Int32, r = some (.int v) := ⟨_, hr⟩
    have hr3 := hr
    refine x_st (st1 := [.int v3]) rfl ?_
    refine x_i2d 30 C0 dX7_meanDamp_29 rfl ?_
    refine x_iload_n 1 31 C0 dX7_meanDamp_30 rfl rfl rfl ?_
    refine x_i2d 32 C0 dX7_meanDamp_31 rfl ?_
    refine x_ddiv 33 C0 dX7_meanDamp_32 rfl (ddiv_ok _ c2) ?_
    exact x_dreturn C0 dX7_meanDamp_33 rfl (Nat.le_of_ble_eq_true rfl) (Nat.le_of_ble_eq_true rfl) ⟨⟨_, rfl⟩, hC.ci, xFr.rf, by omega⟩
  · exact x_throwS xNames C0 dX7_meanDamp_12 dX7_meanDamp_15 dX7_meanDamp_16 dX7_meanDamp_18 dX7_meanDamp_21 rfl rfl rfl rfl (by decide +kernel) (by decide +kernel) mK_X7_231 mN_ArithmeticException (xs_ldc C0.2.2.2.2.2.2.2.1.2.2 (RX7, 233, "no chests with leaves", 143) (by decide +kernel)) (xhat C0 xg_are xh_are (by decide +kernel)) xo_are (xs_us C0.2.2.2.2.2.2.2.1.2.2) (xs_su C0.2.2.2.2.2.2.2.1.2.2) rfl (Nat.le_of_ble_eq_true rfl) (Nat.le_of_ble_eq_true rfl) (Nat.le_of_ble_eq_true rfl) (Nat.le_of_ble_eq_true rfl) (Nat.le_of_ble_eq_true rfl) (Nat.le_of_ble_eq_true rfl) (fun sz9 h9 => ⟨by decide, (hC.grow h9).ci, xFr.rf, by omega⟩)

set_option maxHeartbeats 4000000 in
set_option maxRecDepth 100000 in
theorem k_X7_sailedShare (l : Launch) (hl : l.stackTraces = false) (g : xg_T) (w : xw_T) (sz n : Nat) (x : Nat → Nat → Int32) (la : Nat → Nat → Nat) (t tt : Nat → Int32) (vb : Option Nat) (sg : Nat → Int32) (hC : CR g w sz n x la t tt vb sg) : xM l g yX7_sailedShare cX7_sailedShare 1 (some .float) ({ frames := 6, cells := 8, slots := 64, locals := 82 }) 8 64 [.ref (g.2 0)] w sz (cPo g w sz n rF) (cXo g w sz n ["java/lang/ArithmeticException"]) := by
  have hz9 := hC.zz
  refine xM.of RX7 hl (by decide +kernel) rfl (Nat.le_of_ble_eq_true rfl) rfl ?_
  intro p e s m args below meth cD C0 hini
  refine x_aload_n 0 1 C0 dX7_sailedShare_0 rfl rfl rfl ?_
  refine x_getf (v := .ref (g.2 0 + 1)) 0 4 C0 dX7_sailedShare_1 rfl hC.1.1 rfl (by decide) inX7 mF_X7_10 rfl ?_
  refine x_getf (v := .int (x 0 6)) 9 7 C0 dX7_sailedShare_4 rfl (HR.ho hC.h0) rfl (by decide) inX4 mF_X7_222 rfl ?_
  refine x_if_ne 20 10 C0 dX7_sailedShare_7 rfl (by decide) (fun c1 => ?_) (fun c1 => ?_)
  · refine x_aload_n 0 21 C0 dX7_sailedShare_20 rfl rfl rfl ?_
    refine x_getf (v := .ref (g.2 0 + 1)) 0 24 C0 dX7_sailedShare_21 rfl hC.1.1 rfl (by decide) inX7 mF_X7_10 rfl ?_
    refine x_getf (v := .int (x 0 7)) 10 27 C0 dX7_sailedShare_24 rfl (HR.ho hC.h0) rfl (by decide) inX4 mF_X7_216 rfl ?_
    refine x_i2f 28 C0 dX7_sailedShare_27 rfl ?_
    refine x_aload_n 0 29 C0 dX7_sailedShare_28 rfl rfl rfl ?_
    refine x_getf (v := .ref (g.2 0 + 1)) 0 32 C0 dX7_sailedShare_29 rfl hC.1.1 rfl (by decide) inX7 mF_X7_10 rfl ?_
    refine x_getf (v := .int (x 0 6)) 9 35 C0 dX7_sailedShare_32 rfl (HR.ho hC.h0) rfl (by decide) inX4 mF_X7_222 rfl ?_
    refine x_i2f 36 C0 dX7_sailedShare_35 rfl ?_
    refine x_fdiv 37 C0 dX7_sailedShare_36 rfl (fdiv_ok _ c1) ?_
    exact x_freturn C0 dX7_sailedShare_37 rfl (Nat.le_of_ble_eq_true rfl) (Nat.le_of_ble_eq_true rfl) ⟨⟨_, rfl, fdiv_ok _ c1⟩, hC.ci, xFr.rf, by omega⟩
  · exact x_throwS xNames C0 dX7_sailedShare_10 dX7_sailedShare_13 dX7_sailedShare_14 dX7_sailedShare_16 dX7_sailedShare_19 rfl rfl rfl rfl (by decide +kernel) (by decide +kernel) mK_X7_231 mN_ArithmeticException (xs_ldc C0.2.2.2.2.2.2.2.1.2.2 (RX7, 239, "nothing was brought", 144) (by decide +kernel)) (xhat C0 xg_are xh_are (by decide +kernel)) xo_are (xs_us C0.2.2.2.2.2.2.2.1.2.2) (xs_su C0.2.2.2.2.2.2.2.1.2.2) rfl (Nat.le_of_ble_eq_true rfl) (Nat.le_of_ble_eq_true rfl) (Nat.le_of_ble_eq_true rfl) (Nat.le_of_ble_eq_true rfl) (Nat.le_of_ble_eq_true rfl) (Nat.le_of_ble_eq_true rfl) (fun sz9 h9 => ⟨by decide, (hC.grow h9).ci, xFr.rf, by omega⟩)

set_option maxHeartbeats 4000000 in
set_option maxRecDepth 100000 in
theorem k_X7_reason (l : Launch) (hl : l.stackTraces = false) (g : xg_T) (w : xw_T) (sz n : Nat) (x : Nat → Nat → Int32) (la : Nat → Nat → Nat) (t tt : Nat → Int32) (vb : Option Nat) (sg : Nat → Int32) (hC : CR g w sz n x la t tt vb sg) (de : Int32) : xM l g yX7_reason cX7_reason 2 (some .int) ({ frames := 6, cells := 8, slots := 64, locals := 82 }) 8 64 [.ref (g.2 0), .int de] w sz (cPo g w sz n rI) (cXo g w sz n ["java/util/NoSuchElementException"]) := by
  have hz9 := hC.zz
  refine xM.of RX7 hl (by decide +kernel) rfl (Nat.le_of_ble_eq_true rfl) rfl ?_
  intro p e s m args below meth cD C0 hini
  refine x_aload_n 0 1 C0 dX7_reason_0 rfl rfl rfl ?_
  refine x_getf (v := .ref (g.2 0 + 1)) 0 4 C0 dX7_reason_1 rfl hC.1.1 rfl (by decide) inX7 mF_X7_10 rfl ?_
  refine x_getf (v := .int (x 0 208)) 12 7 C0 dX7_reason_4 rfl (HR.ho hC.h0) rfl (by decide) inX4 mF_X7_241 rfl ?_
  refine x_if_ne 20 10 C0 dX7_reason_7 rfl (by decide) (fun c1 => ?_) (fun c1 => ?_)
  · refine x_iload_n 1 21 C0 dX7_reason_20 rfl rfl rfl ?_
    refine x_if_eq 34 24 C0 dX7_reason_21 rfl (by decide) (fun c2 => ?_) (fun c2 => ?_)
    · refine x_aload_n 0 35 C0 dX7_reason_34 rfl rfl rfl ?_
      refine x_getf (v := .ref (g.2 0 + 1)) 0 38 C0 dX7_reason_35 rfl hC.1.1 rfl (by decide) inX7 mF_X7_10 rfl ?_
      refine x_getf (v := .int (x 0 208)) 12 41 C0 dX7_reason_38 rfl (HR.ho hC.h0) rfl (by decide) inX4 mF_X7_241 rfl ?_
      exact x_ireturn C0 dX7_reason_41 rfl rfl (Nat.le_of_ble_eq_true rfl) (Nat.le_of_ble_eq_true rfl) ⟨⟨_, rfl⟩, hC.ci, xFr.rf, by omega⟩
    · refine x_aload_n 0 25 C0 dX7_reason_24 rfl rfl rfl ?_
      refine x_getf (v := .ref (g.2 0 + 1)) 0 28 C0 dX7_reason_25 rfl hC.1.1 rfl (by decide) inX7 mF_X7_10 rfl ?_
      refine x_getf (v := .int (x 0 209)) 13 31 C0 dX7_reason_28 rfl (HR.ho hC.h0) rfl (by decide) inX4 mF_X7_246 rfl ?_
      refine x_goto 41 C0 dX7_reason_31 (by decide) ?_
      exact x_ireturn C0 dX7_reason_41 rfl rfl (Nat.le_of_ble_eq_true rfl) (Nat.le_of_ble_eq_true rfl) ⟨⟨_, rfl⟩, hC.ci, xFr.rf, by omega⟩
  · exact x_throwN C0 dX7_reason_10 dX7_reason_13 dX7_reason_14 dX7_reason_16 dX7_reason_19 rfl rfl rfl rfl (by decide +kernel) mK_X7_137 mN_NoSuchElementException (xs_ldc C0.2.2.2.2.2.2.2.1.2.2 (RX7, 244, "nothing was refused", 145) (by decide +kernel)) (xhat C0 xg_nse xh_nse (by decide +kernel)) xo_nse (xs_us C0.2.2.2.2.2.2.2.1.2.2) (xs_su C0.2.2.2.2.2.2.2.1.2.2) rfl (Nat.le_of_ble_eq_true rfl) (Nat.le_of_ble_eq_true rfl) (Nat.le_of_ble_eq_true rfl) (Nat.le_of_ble_eq_true rfl) (Nat.le_of_ble_eq_true rfl) (Nat.le_of_ble_eq_true rfl) (fun sz9 h9 => ⟨by decide, (hC.grow h9).ci, xFr.rf, by omega⟩)

set_option maxHeartbeats 4000000 in
set_option maxRecDepth 100000 in
theorem k_X7_account (l : Launch) (hl : l.stackTraces = false) (g : xg_T) (w : xw_T) (sz n : Nat) (x : Nat → Nat → Int32) (la : Nat → Nat → Nat) (t tt : Nat → Int32) (vb : Option Nat) (sg : Nat → Int32) (hC : CR g w sz n x la t tt vb sg) (wh : Int32) : xM l g yX7_account cX7_account 2 (some .int) ({ frames := 6, cells := 8, slots := 64, locals := 88 }) 8 64 [.ref (g.2 0), .int wh] w sz (cPo g w sz n rI) (cXo g w sz n ["java/lang/IllegalArgumentException"]) := by
  have hz9 := hC.zz
  refine xM.of RX7 hl (by decide +kernel) rfl (Nat.le_of_ble_eq_true rfl) rfl ?_
  intro p e s m args below meth cD C0 hini
  refine x_iload_n 1 1 C0 dX7_account_0 rfl rfl rfl ?_
  have hs1 : (wh.toInt < 0 ∨ 17 < wh.toInt) ∨ (wh.toInt = 0) ∨ (wh.toInt = 1) ∨ (wh.toInt = 2) ∨ (wh.toInt = 3) ∨ (wh.toInt = 4) ∨ (wh.toInt = 5) ∨ (wh.toInt = 6) ∨ (wh.toInt = 7) ∨ (wh.toInt = 8) ∨ (wh.toInt = 9) ∨ (wh.toInt = 10) ∨ (wh.toInt = 11) ∨ (wh.toInt = 12) ∨ (wh.toInt = 13) ∨ (wh.toInt = 14) ∨ (wh.toInt = 15) ∨ (wh.toInt = 16) ∨ (wh.toInt = 17) := by omega
  rcases hs1 with hs1 | hs1 | hs1 | hs1 | hs1 | hs1 | hs1 | hs1 | hs1 | hs1 | hs1 | hs1 | hs1 | hs1 | hs1 | hs1 | hs1 | hs1 | hs1
  · refine x_tabOut 235 C0 dX7_account_1 hs1 (by decide) ?_
    exact x_throwSW xNames C0 dX7_account_235 dX7_account_238 dX7_account_239 dX7_account_242 dX7_account_245 rfl rfl rfl rfl (by decide +kernel) (by decide +kernel) mK_X7_166 mN_IllegalArgumentException (xs_ldc C0.2.2.2.2.2.2.2.1.2.2 (RX7, 259, "no such account", 146) (by decide +kernel)) (xhat C0 xg_iae xh_iae (by decide +kernel)) xo_iae (xs_us C0.2.2.2.2.2.2.2.1.2.2) (xs_su C0.2.2.2.2.2.2.2.1.2.2) rfl (Nat.le_of_ble_eq_true rfl) (Nat.le_of_ble_eq_true rfl) (Nat.le_of_ble_eq_true rfl) (Nat.le_of_ble_eq_true rfl) (Nat.le_of_ble_eq_true rfl) (Nat.le_of_ble_eq_true rfl) (fun sz9 h9 => ⟨by decide, (hC.grow h9).ci, xFr.rf, by omega⟩)
  · refine x_tabIn 88 C0 dX7_account_1 (by omega) (by omega) (by rw [hs1]; rfl) (by decide) ?_
    refine x_aload_n 0 89 C0 dX7_account_88 rfl rfl rfl ?_
    refine x_getf (v := .ref (g.2 0 + 1)) 0 92 C0 dX7_account_89 rfl hC.1.1 rfl (by decide) inX7 mF_X7_10 rfl ?_
    refine x_getf (v := .int (x 0 0)) 5 95 C0 dX7_account_92 rfl (HR.ho hC.h0) rfl (by decide) inX4 mF_X7_201 rfl ?_
    exact x_ireturn C0 dX7_account_95 rfl rfl (Nat.le_of_ble_eq_true rfl) (Nat.le_of_ble_eq_true rfl) ⟨⟨_, rfl⟩, hC.ci, xFr.rf, by omega⟩
  · refine x_tabIn 96 C0 dX7_account_1 (by omega) (by omega) (by rw [hs1]; rfl) (by decide) ?_
    refine x_aload_n 0 97 C0 dX7_account_96 rfl rfl rfl ?_
    refine x_getf (v := .ref (g.2 0 + 1)) 0 100 C0 dX7_account_97 rfl hC.1.1 rfl (by decide) inX7 mF_X7_10 rfl ?_
    refine x_callV 103 C0 (k_X4_poundsStored l hl g _ _ _ _ _ hC.h0) dX7_account_100 rfl mC_X4_poundsStored mM_X7_210 mI_X4_poundsStored mV_X4_poundsStored mN_X4 yd_X4_poundsStored rfl rfl ⟨Nat.le_of_ble_eq_true rfl, Nat.le_of_ble_eq_true rfl⟩ (HR.ho hC.h0) rfl rfl rfl rfl (Nat.le_of_ble_eq_true rfl) ⟨Nat.le_of_ble_eq_true rfl, Nat.le_of_ble_eq_true rfl⟩ (fun _ _ _ q => False.elim q) (fun r w1 sz1 hz hP => ?_)
    obtain ⟨hr, rfl, rfl⟩ := hP
    obtain ⟨v2, rfl⟩ : ∃ v : Int32, r = some (.int v) := ⟨_, hr⟩
    have hr2 := hr
    refine x_st (st1 := [.int v2]) rfl ?_
    exact x_ireturn C0 dX7_account_103 rfl rfl (Nat.le_of_ble_eq_true rfl) (Nat.le_of_ble_eq_true rfl) ⟨⟨_, rfl⟩, hC.ci, xFr.rf, by omega⟩
  · refine x_tabIn 104 C0 dX7_account_1 (by omega) (by omega) (by rw [hs1]; rfl) (by decide) ?_
    refine x_aload_n 0 105 C0 dX7_account_104 rfl rfl rfl ?_
    refine x_getf (v := .ref (g.2 0 + 1)) 0 108 C0 dX7_account_105 rfl hC.1.1 rfl (by decide) inX7 mF_X7_10 rfl ?_
    refine x_callV 111 C0 (k_X4_poundsInChests l hl g _ _ _ _ _ hC.h0) dX7_account_108 rfl mC_X4_poundsInChests mM_X7_213 mI_X4_poundsInChests mV_X4_poundsInChests mN_X4 yd_X4_poundsInChests rfl rfl ⟨Nat.le_of_ble_eq_true rfl, Nat.le_of_ble_eq_true rfl⟩ (HR.ho hC.h0) rfl rfl rfl rfl (Nat.le_of_ble_eq_true rfl) ⟨Nat.le_of_ble_eq_true rfl, Nat.le_of_ble_eq_true rfl⟩ (fun _ _ _ q => False.elim q) (fun r w1 sz1 hz hP => ?_)
    obtain ⟨hr, rfl, rfl⟩ := hP
    obtain ⟨v3, rfl⟩ : ∃ v : Int32, r = some (.int v) := ⟨_, hr⟩
    have hr3 := hr
    refine x_st (st1 := [.int v3]) rfl ?_
    exact x_ireturn C0 dX7_account_111 rfl rfl (Nat.le_of_ble_eq_true rfl) (Nat.le_of_ble_eq_true rfl) ⟨⟨_, rfl⟩, hC.ci, xFr.rf, by omega⟩
  · refine x_tabIn 112 C0 dX7_account_1 (by omega) (by omega) (by rw [hs1]; rfl) (by decide) ?_
    refine x_aload_n 0 113 C0 dX7_account_112 rfl rfl rfl ?_
    refine x_getf (v := .ref (g.2 0 + 1)) 0 116 C0 dX7_account_113 rfl hC.1.1 rfl (by decide) inX7 mF_X7_10 rfl ?_
    refine x_getf (v := .int (x 0 7)) 10 119 C0 dX7_account_116 rfl (HR.ho hC.h0) rfl (by decide) inX4 mF_X7_216 rfl ?_
    exact x_ireturn C0 dX7_account_119 rfl rfl (Nat.le_of_ble_eq_true rfl) (Nat.le_of_ble_eq_true rfl) ⟨⟨_, rfl⟩, hC.ci, xFr.rf, by omega⟩
  · refine x_tabIn 120 C0 dX7_account_1 (by omega) (by omega) (by rw [hs1]; rfl) (by decide) ?_
    refine x_aload_n 0 121 C0 dX7_account_120 rfl rfl rfl ?_
    refine x_getf (v := .ref (g.2 0 + 1)) 0 124 C0 dX7_account_121 rfl hC.1.1 rfl (by decide) inX7 mF_X7_10 rfl ?_
    refine x_getf (v := .int (x 0 8)) 11 127 C0 dX7_account_124 rfl (HR.ho hC.h0) rfl (by decide) inX4 mF_X7_219 rfl ?_
    exact x_ireturn C0 dX7_account_127 rfl rfl (Nat.le_of_ble_eq_true rfl) (Nat.le_of_ble_eq_true rfl) ⟨⟨_, rfl⟩, hC.ci, xFr.rf, by omega⟩
  · refine x_tabIn 128 C0 dX7_account_1 (by omega) (by omega) (by rw [hs1]; rfl) (by decide) ?_
    refine x_aload_n 0 129 C0 dX7_account_128 rfl rfl rfl ?_
    refine x_getf (v := .ref (g.2 0 + 1)) 0 132 C0 dX7_account_129 rfl hC.1.1 rfl (by decide) inX7 mF_X7_10 rfl ?_
    refine x_getf (v := .int (x 0 6)) 9 135 C0 dX7_account_132 rfl (HR.ho hC.h0) rfl (by decide) inX4 mF_X7_222 rfl ?_
    exact x_ireturn C0 dX7_account_135 rfl rfl (Nat.le_of_ble_eq_true rfl) (Nat.le_of_ble_eq_true rfl) ⟨⟨_, rfl⟩, hC.ci, xFr.rf, by omega⟩
  · refine x_tabIn 136 C0 dX7_account_1 (by omega) (by omega) (by rw [hs1]; rfl) (by decide) ?_
    refine x_aload_n 0 137 C0 dX7_account_136 rfl rfl rfl ?_
    refine x_getf (v := .ref (g.2 0 + 1)) 0 140 C0 dX7_account_137 rfl hC.1.1 rfl (by decide) inX7 mF_X7_10 rfl ?_
    refine x_getf (v := .int (x 0 1)) 3 143 C0 dX7_account_140 rfl (HR.ho hC.h0) rfl (by decide) inX4 mF_X7_79 rfl ?_
    exact x_ireturn C0 dX7_account_143 rfl rfl (Nat.le_of_ble_eq_true rfl) (Nat.le_of_ble_eq_true rfl) ⟨⟨_, rfl⟩, hC.ci, xFr.rf, by omega⟩
  · refine x_tabIn 144 C0 dX7_account_1 (by omega) (by omega) (by rw [hs1]; rfl) (by decide) ?_
    refine x_aload_n 0 145 C0 dX7_account_144 rfl rfl rfl ?_
    refine x_getf (v := .ref (g.2 0 + 1)) 0 148 C0 dX7_account_145 rfl hC.1.1 rfl (by decide) inX7 mF_X7_10 rfl ?_
    refine x_getf (v := .int (x 0 2)) 4 151 C0 dX7_account_148 rfl (HR.ho hC.h0) rfl (by decide) inX4 mF_X7_72 rfl ?_
    exact x_ireturn C0 dX7_account_151 rfl rfl (Nat.le_of_ble_eq_true rfl) (Nat.le_of_ble_eq_true rfl) ⟨⟨_, rfl⟩, hC.ci, xFr.rf, by omega⟩
  · refine x_tabIn 152 C0 dX7_account_1 (by omega) (by omega) (by rw [hs1]; rfl) (by decide) ?_
    refine x_aload_n 0 153 C0 dX7_account_152 rfl rfl rfl ?_
    refine x_getf (v := .ref (g.2 0 + 1)) 0 156 C0 dX7_account_153 rfl hC.1.1 rfl (by decide) inX7 mF_X7_10 rfl ?_
    refine x_getf (v := .int (x 0 3)) 2 159 C0 dX7_account_156 rfl (HR.ho hC.h0) rfl (by decide) inX4 mF_X7_86 rfl ?_
    exact x_ireturn C0 dX7_account_159 rfl rfl (Nat.le_of_ble_eq_true rfl) (Nat.le_of_ble_eq_true rfl) ⟨⟨_, rfl⟩, hC.ci, xFr.rf, by omega⟩
  · refine x_tabIn 160 C0 dX7_account_1 (by omega) (by omega) (by rw [hs1]; rfl) (by decide) ?_
    refine x_aload_n 0 161 C0 dX7_account_160 rfl rfl rfl ?_
    refine x_getf (v := .ref (g.2 0 + 1)) 0 164 C0 dX7_account_161 rfl hC.1.1 rfl (by decide) inX7 mF_X7_10 rfl ?_
    refine x_iconst (v := 0) 165 C0 dX7_account_164 rfl (by decide) ?_
    refine x_callV 168 C0 (k_X4_chestsAt l hl g _ _ _ _ _ hC.h0 0) dX7_account_165 rfl mC_X4_chestsAt mM_X7_183 mI_X4_chestsAt mV_X4_chestsAt mN_X4 yd_X4_chestsAt rfl rfl ⟨Nat.le_of_ble_eq_true rfl, Nat.le_of_ble_eq_true rfl⟩ (HR.ho hC.h0) rfl rfl rfl rfl (Nat.le_of_ble_eq_true rfl) ⟨Nat.le_of_ble_eq_true rfl, Nat.le_of_ble_eq_true rfl⟩ (fun _ _ _ q => False.elim q) (fun r w1 sz1 hz hP => ?_)
    obtain ⟨hr, rfl, rfl⟩ := hP
    obtain ⟨v4, rfl⟩ : ∃ v : Int32, r = some (.int v) := ⟨_, hr⟩
    have hr4 := hr
    refine x_st (st1 := [.int v4]) rfl ?_
    exact x_ireturn C0 dX7_account_168 rfl rfl (Nat.le_of_ble_eq_true rfl) (Nat.le_of_ble_eq_true rfl) ⟨⟨_, rfl⟩, hC.ci, xFr.rf, by omega⟩
  · refine x_tabIn 169 C0 dX7_account_1 (by omega) (by omega) (by rw [hs1]; rfl) (by decide) ?_
    refine x_aload_n 0 170 C0 dX7_account_169 rfl rfl rfl ?_
    refine x_getf (v := .ref (g.2 0 + 1)) 0 173 C0 dX7_account_170 rfl hC.1.1 rfl (by decide) inX7 mF_X7_10 rfl ?_
    refine x_iconst (v := 1) 174 C0 dX7_account_173 rfl (by decide) ?_
    refine x_callV 177 C0 (k_X4_chestsAt l hl g _ _ _ _ _ hC.h0 1) dX7_account_174 rfl mC_X4_chestsAt mM_X7_183 mI_X4_chestsAt mV_X4_chestsAt mN_X4 yd_X4_chestsAt rfl rfl ⟨Nat.le_of_ble_eq_true rfl, Nat.le_of_ble_eq_true rfl⟩ (HR.ho hC.h0) rfl rfl rfl rfl (Nat.le_of_ble_eq_true rfl) ⟨Nat.le_of_ble_eq_true rfl, Nat.le_of_ble_eq_true rfl⟩ (fun _ _ _ q => False.elim q) (fun r w1 sz1 hz hP => ?_)
    obtain ⟨hr, rfl, rfl⟩ := hP
    obtain ⟨v5, rfl⟩ : ∃ v : Int32, r = some (.int v) := ⟨_, hr⟩
    have hr5 := hr
    refine x_st (st1 := [.int v5]) rfl ?_
    exact x_ireturn C0 dX7_account_177 rfl rfl (Nat.le_of_ble_eq_true rfl) (Nat.le_of_ble_eq_true rfl) ⟨⟨_, rfl⟩, hC.ci, xFr.rf, by omega⟩
  · refine x_tabIn 178 C0 dX7_account_1 (by omega) (by omega) (by rw [hs1]; rfl) (by decide) ?_
    refine x_aload_n 0 179 C0 dX7_account_178 rfl rfl rfl ?_
    refine x_getf (v := .ref (g.2 0 + 1)) 0 182 C0 dX7_account_179 rfl hC.1.1 rfl (by decide) inX7 mF_X7_10 rfl ?_
    refine x_iconst (v := 2) 183 C0 dX7_account_182 rfl (by decide) ?_
    refine x_callV 186 C0 (k_X4_chestsAt l hl g _ _ _ _ _ hC.h0 2) dX7_account_183 rfl mC_X4_chestsAt mM_X7_183 mI_X4_chestsAt mV_X4_chestsAt mN_X4 yd_X4_chestsAt rfl rfl ⟨Nat.le_of_ble_eq_true rfl, Nat.le_of_ble_eq_true rfl⟩ (HR.ho hC.h0) rfl rfl rfl rfl (Nat.le_of_ble_eq_true rfl) ⟨Nat.le_of_ble_eq_true rfl, Nat.le_of_ble_eq_true rfl⟩ (fun _ _ _ q => False.elim q) (fun r w1 sz1 hz hP => ?_)
    obtain ⟨hr, rfl, rfl⟩ := hP
    obtain ⟨v6, rfl⟩ : ∃ v : Int32, r = some (.int v) := ⟨_, hr⟩
    have hr6 := hr
    refine x_st (st1 := [.int v6]) rfl ?_
    exact x_ireturn C0 dX7_account_186 rfl rfl (Nat.le_of_ble_eq_true rfl) (Nat.le_of_ble_eq_true rfl) ⟨⟨_, rfl⟩, hC.ci, xFr.rf, by omega⟩
  · refine x_tabIn 187 C0 dX7_account_1 (by omega) (by omega) (by rw [hs1]; rfl) (by decide) ?_
    refine x_aload_n 0 188 C0 dX7_account_187 rfl rfl rfl ?_
    refine x_getf (v := .ref (g.2 0 + 1)) 0 191 C0 dX7_account_188 rfl hC.1.1 rfl (by decide) inX7 mF_X7_10 rfl ?_
    refine x_callV 194 C0 (k_X4_shipRoom l hl g _ _ _ _ _ hC.h0) dX7_account_191 rfl mC_X4_shipRoom mM_X7_189 mI_X4_shipRoom mV_X4_shipRoom mN_X4 yd_X4_shipRoom rfl rfl ⟨Nat.le_of_ble_eq_true rfl, Nat.le_of_ble_eq_true rfl⟩ (HR.ho hC.h0) rfl rfl rfl rfl (Nat.le_of_ble_eq_true rfl) ⟨Nat.le_of_ble_eq_true rfl, Nat.le_of_ble_eq_true rfl⟩ (fun _ _ _ q => False.elim q) (fun r w1 sz1 hz hP => ?_)
    obtain ⟨hr, rfl, rfl⟩ := hP
    obtain ⟨v7, rfl⟩ : ∃ v : Int32, r = some (.int v) := ⟨_, hr⟩
    have hr7 := hr
    refine x_st (st1 := [.int v7]) rfl ?_
    exact x_ireturn C0 dX7_account_194 rfl rfl (Nat.le_of_ble_eq_true rfl) (Nat.le_of_ble_eq_true rfl) ⟨⟨_, rfl⟩, hC.ci, xFr.rf, by omega⟩
  · refine x_tabIn 195 C0 dX7_account_1 (by omega) (by omega) (by rw [hs1]; rfl) (by decide) ?_
    refine x_aload_n 0 196 C0 dX7_account_195 rfl rfl rfl ?_
    refine x_getf (v := .ref (g.2 0 + 1)) 0 199 C0 dX7_account_196 rfl hC.1.1 rfl (by decide) inX7 mF_X7_10 rfl ?_
    refine x_getf (v := .int (x 0 9)) 8 202 C0 dX7_account_199 rfl (HR.ho hC.h0) rfl (by decide) inX4 mF_X7_249 rfl ?_
    exact x_ireturn C0 dX7_account_202 rfl rfl (Nat.le_of_ble_eq_true rfl) (Nat.le_of_ble_eq_true rfl) ⟨⟨_, rfl⟩, hC.ci, xFr.rf, by omega⟩
  · refine x_tabIn 203 C0 dX7_account_1 (by omega) (by omega) (by rw [hs1]; rfl) (by decide) ?_
    refine x_aload_n 0 204 C0 dX7_account_203 rfl rfl rfl ?_
    refine x_getf (v := .ref (g.2 0 + 1)) 0 207 C0 dX7_account_204 rfl hC.1.1 rfl (by decide) inX7 mF_X7_10 rfl ?_
    refine x_getf (v := .int (x 0 4)) 7 210 C0 dX7_account_207 rfl (HR.ho hC.h0) rfl (by decide) inX4 mF_X7_252 rfl ?_
    exact x_ireturn C0 dX7_account_210 rfl rfl (Nat.le_of_ble_eq_true rfl) (Nat.le_of_ble_eq_true rfl) ⟨⟨_, rfl⟩, hC.ci, xFr.rf, by omega⟩
  · refine x_tabIn 211 C0 dX7_account_1 (by omega) (by omega) (by rw [hs1]; rfl) (by decide) ?_
    refine x_aload_n 0 212 C0 dX7_account_211 rfl rfl rfl ?_
    refine x_getf (v := .ref (g.2 0 + 1)) 0 215 C0 dX7_account_212 rfl hC.1.1 rfl (by decide) inX7 mF_X7_10 rfl ?_
    refine x_getf (v := .int (x 0 5)) 6 218 C0 dX7_account_215 rfl (HR.ho hC.h0) rfl (by decide) inX4 mF_X7_204 rfl ?_
    exact x_ireturn C0 dX7_account_218 rfl rfl (Nat.le_of_ble_eq_true rfl) (Nat.le_of_ble_eq_true rfl) ⟨⟨_, rfl⟩, hC.ci, xFr.rf, by omega⟩
  · refine x_tabIn 219 C0 dX7_account_1 (by omega) (by omega) (by rw [hs1]; rfl) (by decide) ?_
    refine x_aload_n 0 220 C0 dX7_account_219 rfl rfl rfl ?_
    refine x_getf (v := .ref (g.2 0 + 256)) 4 223 C0 dX7_account_220 rfl hC.1.1 rfl (by decide) inX7 mF_X7_33 rfl ?_
    refine x_getf (v := .int (tt 0)) 1 226 C0 dX7_account_223 rfl hC.1.2.2.2.1 rfl (by decide) inX2 mF_X7_254 rfl ?_
    exact x_ireturn C0 dX7_account_226 rfl rfl (Nat.le_of_ble_eq_true rfl) (Nat.le_of_ble_eq_true rfl) ⟨⟨_, rfl⟩, hC.ci, xFr.rf, by omega⟩
  · refine x_tabIn 227 C0 dX7_account_1 (by omega) (by omega) (by rw [hs1]; rfl) (by decide) ?_
    refine x_aload_n 0 228 C0 dX7_account_227 rfl rfl rfl ?_
    refine x_getf (v := .ref (g.2 0 + 47)) 3 231 C0 dX7_account_228 rfl hC.1.1 rfl (by decide) inX7 mF_X7_26 rfl ?_
    refine x_getf (v := .int (t 2)) 2 234 C0 dX7_account_231 rfl hC.1.2.1 rfl (by decide) inX3 mF_X7_256 rfl ?_
    exact x_ireturn C0 dX7_account_234 rfl rfl (Nat.le_of_ble_eq_true rfl) (Nat.le_of_ble_eq_true rfl) ⟨⟨_, rfl⟩, hC.ci, xFr.rf, by omega⟩

set_option maxHeartbeats 4000000 in
set_option maxRecDepth 100000 in
theorem k_X7_feed (l : Launch) (hl : l.stackTraces = false) (g : xg_T) (w : xw_T) (sz n : Nat) (x : Nat → Nat → Int32) (la : Nat → Nat → Nat) (t tt : Nat → Int32) (vb : Option Nat) (sg : Nat → Int32) (hC : CR g w sz n x la t tt vb sg) (c : Int32) : xM l g yX7_feed cX7_feed 2 (some .int) ({ frames := 6, cells := 8, slots := 64, locals := 82 }) 8 64 [.ref (g.2 0), .int c] w sz (fun r w1 sz1 => n < 60 ∧ r = some (.int (nI (n + 1))) ∧ CI g w1 sz1 (n + 1) ∧ xFr g w w1 sz ∧ sz ≤ sz1) (fun E w1 sz1 => E = "java/lang/IllegalStateException" ∧ n = 60 ∧ CI g w1 sz1 n ∧ xFr g w w1 sz ∧ sz ≤ sz1) := by
  have hz9 := hC.zz
  refine xM.of RX7 hl (by decide +kernel) rfl (Nat.le_of_ble_eq_true rfl) rfl ?_
  intro p e s m args below meth cD C0 hini
  refine x_aload_n 0 1 C0 dX7_feed_0 rfl rfl rfl ?_
  refine x_getf (v := .ref (g.2 0 + 256)) 4 4 C0 dX7_feed_1 rfl hC.1.1 rfl (by decide) inX7 mF_X7_33 rfl ?_
  refine x_iload_n 1 5 C0 dX7_feed_4 rfl rfl rfl ?_
  refine x_callV 8 C0 (k_X2_append l hl g _ _ (g.2 0 + 256) _ _ _ _ hC.1.2.2.2.1 hC.1.2.2.2.2 (Nat.le_add_right _ _) hC.2.2.1 hC.2.2.2.1 c) dX7_feed_5 rfl mC_X2_append mM_X7_261 mI_X2_append mV_X2_append mN_X2 yd_X2_append rfl rfl ⟨Nat.le_of_ble_eq_true rfl, Nat.le_of_ble_eq_true rfl⟩ hC.1.2.2.2.1 rfl rfl rfl rfl (Nat.le_of_ble_eq_true rfl) ⟨Nat.le_of_ble_eq_true rfl, Nat.le_of_ble_eq_true rfl⟩ (fun _ _ _ q => False.elim q) (fun r w1 sz1 hz hP => ?_)
  obtain ⟨wv1, hwv1⟩ : ∃ z, z = w1 := ⟨_, rfl⟩
  refine x_w hwv1.symm ?_
  obtain ⟨rfl, ⟨hn6, rfl, sg2, t2, hw1, hT1⟩ | ⟨hn6, rfl, hw1⟩⟩ := hP
  · rw [← hwv1] at hw1
    have hC1 : CR g wv1 sz (n + 1) x la t t2 vb sg2 := by rw [hw1]; exact (hC.setSg).setTx hT1 hC.2.2.2.1
    have hF1 : xFr g w wv1 sz := by rw [hw1]; exact xFr.tr (sz1 := sz) (xFr.up (by omega)) (xFr.up (by omega)) (Nat.le_refl _)
    refine x_st (st1 := [.int 1]) rfl ?_
    refine x_if_ne 22 11 C0 dX7_feed_8 rfl (by decide) (fun _ => ?_) (fun q => False.elim (by revert q; decide))
    refine x_aload_n 0 23 C0 dX7_feed_22 rfl rfl rfl ?_
    refine x_getf (v := .ref (g.2 0 + 256)) 4 26 C0 dX7_feed_23 rfl hC1.1.1 rfl (by decide) inX7 mF_X7_33 rfl ?_
    refine x_getf (v := .int (t2 0)) 1 29 C0 dX7_feed_26 rfl hC1.1.2.2.2.1 rfl (by decide) inX2 mF_X7_254 rfl ?_
    exact x_ireturn C0 dX7_feed_29 rfl rfl (Nat.le_of_ble_eq_true rfl) (Nat.le_of_ble_eq_true rfl) ⟨hn6, by rw [hC1.2.2.1.1], hC1.ci, hF1, by omega⟩
  · rw [← hw1] at hwv1
    subst hwv1
    refine x_st (st1 := [.int 0]) rfl ?_
    refine x_if_ne 22 11 C0 dX7_feed_8 rfl (by decide) (fun q => False.elim (by revert q; decide)) (fun _ => ?_)
    exact x_throwSW xNames C0 dX7_feed_11 dX7_feed_14 dX7_feed_15 dX7_feed_18 dX7_feed_21 rfl rfl rfl rfl (by decide +kernel) (by decide +kernel) mK_X7_265 mN_IllegalStateException (xs_ldc C0.2.2.2.2.2.2.2.1.2.2 (RX7, 267, "the input buffer is full", 147) (by decide +kernel)) (xhat C0 xg_ise xh_ise (by decide +kernel)) xo_ise (xs_us C0.2.2.2.2.2.2.2.1.2.2) (xs_su C0.2.2.2.2.2.2.2.1.2.2) rfl (Nat.le_of_ble_eq_true rfl) (Nat.le_of_ble_eq_true rfl) (Nat.le_of_ble_eq_true rfl) (Nat.le_of_ble_eq_true rfl) (Nat.le_of_ble_eq_true rfl) (Nat.le_of_ble_eq_true rfl) (fun sz9 h9 => ⟨rfl, hn6, (hC.grow h9).ci, xFr.rf, by omega⟩)

set_option maxHeartbeats 4000000 in
set_option maxRecDepth 100000 in
theorem k_X7_carryOutRead (l : Launch) (hl : l.stackTraces = false) (g : xg_T) (w : xw_T) (sz n : Nat) (x : Nat → Nat → Int32) (la : Nat → Nat → Nat) (t tt : Nat → Int32) (vb : Option Nat) (sg : Nat → Int32) (hC : CR g w sz n x la t tt vb sg) : xM l g yX7_carryOutRead cX7_carryOutRead 3 (some .boolean) ({ frames := 8, cells := 4, slots := 40, locals := 193 }) 4 40 [.ref (g.2 0)] w sz (cPo g w sz n rB) (fun _ _ _ => False) := by
  have hz9 := hC.zz
  refine xM.of RX7 hl (by decide +kernel) rfl (Nat.le_of_ble_eq_true rfl) rfl ?_
  intro p e s m args below meth cD C0 hini
  refine x_aload_n 0 1 C0 dX7_carryOutRead_0 rfl rfl rfl ?_
  refine x_getf (v := .ref (g.2 0 + 256)) 4 4 C0 dX7_carryOutRead_1 rfl hC.1.1 rfl (by decide) inX7 mF_X7_33 rfl ?_
  rcases hC.2.2.2.1 with hvb | ⟨iv, hiv, hvb⟩
  · refine x_getf (v := va_rf vb) 4 7 C0 dX7_carryOutRead_4 rfl hC.1.2.2.2.1 rfl (by decide) inX2 mF_X7_337 rfl ?_
    refine x_st (st1 := [.null]) (by rw [hvb]; rfl) ?_
    refine x_astore_nN [(1, .null), (0, .ref (g.2 0))] 8 C0 dX7_carryOutRead_7 rfl rfl (by decide) rfl ?_
    refine x_lv (lv1 := [(0, .ref (g.2 0)), (1, .null)]) [1, 0] rfl ?_
    refine x_aload_nN 1 9 C0 dX7_carryOutRead_8 rfl rfl rfl ?_
    refine x_gets 12 C0 dX7_carryOutRead_9 rfl (xs_sh C0.2.2.2.2.2.2.2.1.2.2).1 mF_X7_341 ?_
    refine x_acmp_ne (rx := none) (ry := some (g.2 36)) 23 15 C0 dX7_carryOutRead_12 rfl (by decide) (fun c1 => ?_) (fun c1 => ?_)
    · refine x_aload_nN 1 24 C0 dX7_carryOutRead_23 rfl rfl rfl ?_
      refine x_gets 27 C0 dX7_carryOutRead_24 rfl (xs_sh C0.2.2.2.2.2.2.2.1.2.2).2 mF_X7_346 ?_
      refine x_acmp_ne (rx := none) (ry := some (g.2 37)) 69 30 C0 dX7_carryOutRead_27 rfl (by decide) (fun c2 => ?_) (fun c2 => ?_)
      · refine x_aload_n 0 70 C0 dX7_carryOutRead_69 rfl rfl rfl ?_
        refine x_getf (v := .ref (g.2 0 + 1)) 0 73 C0 dX7_carryOutRead_70 rfl hC.1.1 rfl (by decide) inX7 mF_X7_10 rfl ?_
        refine x_aload_n 0 74 C0 dX7_carryOutRead_73 rfl rfl rfl ?_
        refine x_getf (v := .ref (g.2 0 + 256)) 4 77 C0 dX7_carryOutRead_74 rfl hC.1.1 rfl (by decide) inX7 mF_X7_33 rfl ?_
        refine x_getf (v := .int (tt 3)) 5 80 C0 dX7_carryOutRead_77 rfl hC.1.2.2.2.1 rfl (by decide) inX2 mF_X7_352 rfl ?_
        refine x_callV 83 C0 (k_X4_find l hl g _ _ _ _ _ hC.h0 (tt 3)) dX7_carryOutRead_80 rfl mC_X4_find mM_X7_312 mI_X4_find mV_X4_find mN_X4 yd_X4_find rfl rfl ⟨Nat.le_of_ble_eq_true rfl, Nat.le_of_ble_eq_true rfl⟩ (HR.ho hC.h0) rfl rfl rfl rfl (Nat.le_of_ble_eq_true rfl) ⟨Nat.le_of_ble_eq_true rfl, Nat.le_of_ble_eq_true rfl⟩ (fun _ _ _ q => False.elim q) (fun r w1 sz1 hz hP => ?_)
        obtain ⟨hr, rfl, rfl⟩ := hP
        rcases hr with ⟨k, hk, hnk, hm, rfl⟩ | ⟨hno, rfl⟩
        · rw [hnk] at hm
          have hm0 := hm
          refine x_st (st1 := [.ref (g.2 0 + 1 + 3 + k)]) rfl ?_
          refine x_astore_n [(2, .ref (g.2 0 + 1 + 3 + k)), (0, .ref (g.2 0)), (1, .null)] 84 C0 dX7_carryOutRead_83 rfl rfl (by decide) rfl ?_
          refine x_lv (lv1 := [(0, .ref (g.2 0)), (1, .null), (2, .ref (g.2 0 + 1 + 3 + k))]) [1, 2, 0] rfl ?_
          refine x_aload_nN 1 85 C0 dX7_carryOutRead_84 rfl rfl rfl ?_
          refine x_ifnullN 92 C0 dX7_carryOutRead_85 (by decide) ?_
          refine x_iconst (v := 0) 93 C0 dX7_carryOutRead_92 rfl (by decide) ?_
          exact x_ireturn C0 dX7_carryOutRead_93 rfl (rfl) (Nat.le_of_ble_eq_true rfl) (Nat.le_of_ble_eq_true rfl) ⟨⟨_, rfl, Or.inl rfl⟩, hC.ci, xFr.rf, by omega⟩
        · refine x_st (st1 := [.null]) rfl ?_
          refine x_astore_nN [(2, .null), (0, .ref (g.2 0)), (1, .null)] 84 C0 dX7_carryOutRead_83 rfl rfl (by decide) rfl ?_
          refine x_lv (lv1 := [(0, .ref (g.2 0)), (1, .null), (2, .null)]) [1, 2, 0] rfl ?_
          refine x_aload_nN 1 85 C0 dX7_carryOutRead_84 rfl rfl rfl ?_
          refine x_ifnullN 92 C0 dX7_carryOutRead_85 (by decide) ?_
          refine x_iconst (v := 0) 93 C0 dX7_carryOutRead_92 rfl (by decide) ?_
          exact x_ireturn C0 dX7_carryOutRead_93 rfl (rfl) (Nat.le_of_ble_eq_true rfl) (Nat.le_of_ble_eq_true rfl) ⟨⟨_, rfl, Or.inl rfl⟩, hC.ci, xFr.rf, by omega⟩
      · refine x_aload_n 0 31 C0 dX7_carryOutRead_30 rfl rfl rfl ?_
        refine x_getf (v := .ref (g.2 0 + 256)) 4 34 C0 dX7_carryOutRead_31 rfl hC.1.1 rfl (by decide) inX7 mF_X7_33 rfl ?_
        refine x_getf (v := .int (tt 6)) 8 37 C0 dX7_carryOutRead_34 rfl hC.1.2.2.2.1 rfl (by decide) inX2 mF_X7_349 rfl ?_
        refine x_iconst (v := 1) 38 C0 dX7_carryOutRead_37 rfl (by decide) ?_
        refine x_bipush (v := 72) 40 C0 dX7_carryOutRead_38 rfl (by decide) ?_
        refine x_callS 43 C0 (k_X7_isWithin l hl g _ _ (tt 6) 1 72) dX7_carryOutRead_40 rfl mC_X7_isWithin mM_X7_299 mS_X7_isWithin mN_X7 yd_X7_isWithin rfl rfl ⟨Nat.le_of_ble_eq_true rfl, Nat.le_of_ble_eq_true rfl⟩ rfl rfl (Nat.le_of_ble_eq_true rfl) ⟨Nat.le_of_ble_eq_true rfl, Nat.le_of_ble_eq_true rfl⟩ (fun _ _ _ q => False.elim q) (fun r w1 sz1 hz hP => ?_)
        obtain ⟨hr, rfl, rfl⟩ := hP
        rcases hr with ⟨rfl, ha3, hb3⟩ | ⟨rfl, hx3⟩
        · refine x_st (st1 := [.int 1]) rfl ?_
          refine x_if_eq 67 46 C0 dX7_carryOutRead_43 rfl (by decide) (fun q => False.elim (by revert q; decide)) (fun _ => ?_)
          refine x_aload_n 0 47 C0 dX7_carryOutRead_46 rfl rfl rfl ?_
          refine x_getf (v := .ref (g.2 0 + 1)) 0 50 C0 dX7_carryOutRead_47 rfl hC.1.1 rfl (by decide) inX7 mF_X7_10 rfl ?_
          refine x_aload_n 0 51 C0 dX7_carryOutRead_50 rfl rfl rfl ?_
          refine x_getf (v := .ref (g.2 0 + 256)) 4 54 C0 dX7_carryOutRead_51 rfl hC.1.1 rfl (by decide) inX7 mF_X7_33 rfl ?_
          refine x_getf (v := .int (tt 6)) 8 57 C0 dX7_carryOutRead_54 rfl hC.1.2.2.2.1 rfl (by decide) inX2 mF_X7_349 rfl ?_
          obtain ⟨nh, hnh9, -, hnh⟩ := i32_range (a := 1) (b := 72) rfl rfl (by omega) (by omega) ha3 hb3
          refine x_st (st1 := [.int (nI nh), .ref (g.2 0 + 1)]) (by rw [hnh9]) ?_
          refine x_callV 60 C0 (k_X4_letPass l hl g _ _ _ _ _ hC.h0 (Nat.le_add_right _ _) nh (by omega)) dX7_carryOutRead_57 rfl mC_X4_letPass mM_X7_207 mI_X4_letPass mV_X4_letPass mN_X4 yd_X4_letPass rfl rfl ⟨Nat.le_of_ble_eq_true rfl, Nat.le_of_ble_eq_true rfl⟩ (HR.ho hC.h0) rfl rfl rfl rfl (Nat.le_of_ble_eq_true rfl) ⟨Nat.le_of_ble_eq_true rfl, Nat.le_of_ble_eq_true rfl⟩ (fun _ _ _ q => False.elim q) (fun r w1 sz1 hz hP => ?_)
          obtain ⟨rfl, hw5, rfl⟩ := hP
          obtain ⟨wv5, hwv5⟩ : ∃ z, z = w1 := ⟨_, rfl⟩
          refine x_w hwv5.symm ?_
          rw [← hwv5] at hw5
          obtain ⟨x6, la6, hx6, hla6, hC6⟩ : ∃ x6 la6, x6 = va_up x 0 (passN (x 0) nh) ∧ la6 = va_up la 0 (la 0) ∧ CR g wv5 sz n x6 la6 t tt vb sg := ⟨_, _, rfl, rfl, by rw [hw5]; exact hC.set0 (hC.k0.passH nh) hC.l0⟩
          have hF6 : xFr g w wv5 sz := xFr.tr (sz1 := sz) xFr.rf (by rw [hw5]; exact xFr.hw (by omega)) (by omega)
          refine x_st (st1 := [.int 1]) rfl ?_
          refine x_if_eq 67 63 C0 dX7_carryOutRead_60 rfl (by decide) (fun q => False.elim (by revert q; decide)) (fun _ => ?_)
          refine x_iconst (v := 1) 64 C0 dX7_carryOutRead_63 rfl (by decide) ?_
          refine x_goto 68 C0 dX7_carryOutRead_64 (by decide) ?_
          exact x_ireturn C0 dX7_carryOutRead_68 rfl (rfl) (Nat.le_of_ble_eq_true rfl) (Nat.le_of_ble_eq_true rfl) ⟨⟨_, rfl, Or.inr rfl⟩, hC6.ci, hF6, by omega⟩
        · refine x_st (st1 := [.int 0]) rfl ?_
          refine x_if_eq 67 46 C0 dX7_carryOutRead_43 rfl (by decide) (fun _ => ?_) (fun q => False.elim (by revert q; decide))
          refine x_iconst (v := 0) 68 C0 dX7_carryOutRead_67 rfl (by decide) ?_
          exact x_ireturn C0 dX7_carryOutRead_68 rfl (rfl) (Nat.le_of_ble_eq_true rfl) (Nat.le_of_ble_eq_true rfl) ⟨⟨_, rfl, Or.inl rfl⟩, hC.ci, xFr.rf, by omega⟩
    · refine x_aload_n 0 16 C0 dX7_carryOutRead_15 rfl rfl rfl ?_
      refine x_getf (v := .ref (g.2 0 + 1)) 0 19 C0 dX7_carryOutRead_16 rfl hC.1.1 rfl (by decide) inX7 mF_X7_10 rfl ?_
      refine x_callV 22 C0 (k_X4_trySail l hl g _ _ _ _ _ hC.h0 (Nat.le_add_right _ _)) dX7_carryOutRead_19 rfl mC_X4_trySail mM_X7_195 mI_X4_trySail mV_X4_trySail mN_X4 yd_X4_trySail rfl rfl ⟨Nat.le_of_ble_eq_true rfl, Nat.le_of_ble_eq_true rfl⟩ (HR.ho hC.h0) rfl rfl rfl rfl (Nat.le_of_ble_eq_true rfl) ⟨Nat.le_of_ble_eq_true rfl, Nat.le_of_ble_eq_true rfl⟩ (fun _ _ _ q => False.elim q) (fun r w1 sz1 hz hP => ?_)
      obtain ⟨rfl, x9, hw9, hQ9⟩ := hP
      obtain ⟨hk9, b9, rfl, hb9⟩ := hQ9.ok (fun q => hC.k0.sail) hC.k0
      obtain ⟨wv9, hwv9⟩ : ∃ z, z = w1 := ⟨_, rfl⟩
      refine x_w hwv9.symm ?_
      rw [← hwv9] at hw9
      obtain ⟨x10, la10, hx10, hla10, hC10⟩ : ∃ x10 la10, x10 = va_up x 0 x9 ∧ la10 = va_up la 0 (la 0) ∧ CR g wv9 sz n x10 la10 t tt vb sg := ⟨_, _, rfl, rfl, by rw [hw9]; exact hC.set0 hk9 hC.l0⟩
      have hF10 : xFr g w wv9 sz := xFr.tr (sz1 := sz) xFr.rf (by rw [hw9]; exact xFr.hw (by omega)) (by omega)
      refine x_st (st1 := [.int b9]) rfl ?_
      exact x_ireturn C0 dX7_carryOutRead_22 rfl (hb9.nar) (Nat.le_of_ble_eq_true rfl) (Nat.le_of_ble_eq_true rfl) ⟨⟨_, rfl, hb9⟩, hC10.ci, hF10, by omega⟩
  · refine x_getf (v := va_rf vb) 4 7 C0 dX7_carryOutRead_4 rfl hC.1.2.2.2.1 rfl (by decide) inX2 mF_X7_337 rfl ?_
    refine x_st (st1 := [.ref (g.2 (30 + iv))]) (by rw [hvb]; rfl) ?_
    refine x_astore_n [(1, .ref (g.2 (30 + iv))), (0, .ref (g.2 0))] 8 C0 dX7_carryOutRead_7 rfl rfl (by decide) rfl ?_
    refine x_lv (lv1 := [(0, .ref (g.2 0)), (1, .ref (g.2 (30 + iv)))]) [1, 0] rfl ?_
    refine x_aload_n 1 9 C0 dX7_carryOutRead_8 rfl rfl rfl ?_
    refine x_gets 12 C0 dX7_carryOutRead_9 rfl (xs_sh C0.2.2.2.2.2.2.2.1.2.2).1 mF_X7_341 ?_
    refine x_acmp_ne (rx := (some (g.2 (30 + iv)))) (ry := some (g.2 36)) 23 15 C0 dX7_carryOutRead_12 rfl (by decide) (fun c11 => ?_) (fun c11 => ?_)
    · refine x_aload_n 1 24 C0 dX7_carryOutRead_23 rfl rfl rfl ?_
      refine x_gets 27 C0 dX7_carryOutRead_24 rfl (xs_sh C0.2.2.2.2.2.2.2.1.2.2).2 mF_X7_346 ?_
      refine x_acmp_ne (rx := (some (g.2 (30 + iv)))) (ry := some (g.2 37)) 69 30 C0 dX7_carryOutRead_27 rfl (by decide) (fun c12 => ?_) (fun c12 => ?_)
      · refine x_aload_n 0 70 C0 dX7_carryOutRead_69 rfl rfl rfl ?_
        refine x_getf (v := .ref (g.2 0 + 1)) 0 73 C0 dX7_carryOutRead_70 rfl hC.1.1 rfl (by decide) inX7 mF_X7_10 rfl ?_
        refine x_aload_n 0 74 C0 dX7_carryOutRead_73 rfl rfl rfl ?_
        refine x_getf (v := .ref (g.2 0 + 256)) 4 77 C0 dX7_carryOutRead_74 rfl hC.1.1 rfl (by decide) inX7 mF_X7_33 rfl ?_
        refine x_getf (v := .int (tt 3)) 5 80 C0 dX7_carryOutRead_77 rfl hC.1.2.2.2.1 rfl (by decide) inX2 mF_X7_352 rfl ?_
        refine x_callV 83 C0 (k_X4_find l hl g _ _ _ _ _ hC.h0 (tt 3)) dX7_carryOutRead_80 rfl mC_X4_find mM_X7_312 mI_X4_find mV_X4_find mN_X4 yd_X4_find rfl rfl ⟨Nat.le_of_ble_eq_true rfl, Nat.le_of_ble_eq_true rfl⟩ (HR.ho hC.h0) rfl rfl rfl rfl (Nat.le_of_ble_eq_true rfl) ⟨Nat.le_of_ble_eq_true rfl, Nat.le_of_ble_eq_true rfl⟩ (fun _ _ _ q => False.elim q) (fun r w1 sz1 hz hP => ?_)
        obtain ⟨hr, rfl, rfl⟩ := hP
        rcases hr with ⟨k, hk, hnk, hm, rfl⟩ | ⟨hno, rfl⟩
        · rw [hnk] at hm
          have hm0 := hm
          refine x_st (st1 := [.ref (g.2 0 + 1 + 3 + k)]) rfl ?_
          refine x_astore_n [(2, .ref (g.2 0 + 1 + 3 + k)), (0, .ref (g.2 0)), (1, .ref (g.2 (30 + iv)))] 84 C0 dX7_carryOutRead_83 rfl rfl (by decide) rfl ?_
          refine x_lv (lv1 := [(0, .ref (g.2 0)), (1, .ref (g.2 (30 + iv))), (2, .ref (g.2 0 + 1 + 3 + k))]) [1, 2, 0] rfl ?_
          refine x_aload_n 1 85 C0 dX7_carryOutRead_84 rfl rfl rfl ?_
          refine x_ifnull 88 C0 dX7_carryOutRead_85 rfl ?_
          refine x_aload_n 2 89 C0 dX7_carryOutRead_88 rfl rfl rfl ?_
          refine x_ifnonnull 94 C0 dX7_carryOutRead_89 (by decide) ?_
          refine x_gets 97 C0 dX7_carryOutRead_94 rfl (xs_map C0.2.2.2.2.2.2.2.1.2.2).1 mF_X7_355 ?_
          refine x_aload_n 1 98 C0 dX7_carryOutRead_97 rfl rfl rfl ?_
          refine x_callU 101 (x := ⟨RX6, "ordinal", "()I"⟩) (owner := RJx29ce0) (C := RX6) C0 (k_Jx29ce0_ordinal_8abf5 l hl g _ _ iv hiv) dX7_carryOutRead_98 rfl mC_Jx29ce0_ordinal_8abf5 mM_X7_361 mE_X6_Jx29ce0_ordinal_10780 mI_Jx29ce0_ordinal_8abf5 (C0.2.2.2.2.1 _ mV_X6_TeaChests_Verb_ordinal_Jx29ce0_ordinal_8abf5) (xDecl C0 mI_Jx29ce0_ordinal_8abf5 mC_Jx29ce0_ordinal_8abf5) mN_Jx29ce0 yd_Jx29ce0_ordinal_8abf5 rfl rfl ⟨Nat.le_of_ble_eq_true rfl, Nat.le_of_ble_eq_true rfl⟩ (xRecv.co ((xs_vc C0.2.2.2.2.2.2.2.1.2.2).1 iv hiv)) rfl rfl (Nat.le_of_ble_eq_true rfl) ⟨Nat.le_of_ble_eq_true rfl, Nat.le_of_ble_eq_true rfl⟩ (fun _ _ _ q => False.elim q) (fun r w1 sz1 hz hP => ?_)
          obtain ⟨rfl, rfl, rfl⟩ := hP
          refine x_st (st1 := [.int (nI iv), .ref (g.2 12)]) rfl ?_
          refine x_ti 102 C0 (v := .int (nI (iv + 1))) dX7_carryOutRead_101 rfl (xs_map C0.2.2.2.2.2.2.2.1.2.2).2 (vp_in_nI hiv (by decide)) (by rw [nI_clamp (by omega)]) ?_
          obtain ⟨o13, ho13⟩ : ∃ z : Int32, z = nI (iv + 1) := ⟨_, rfl⟩
          refine x_st (st1 := [.int o13]) (by rw [ho13]) ?_
          have hs14 : (o13.toInt < 1 ∨ 6 < o13.toInt) ∨ (o13.toInt = 1) ∨ (o13.toInt = 2) ∨ (o13.toInt = 3) ∨ (o13.toInt = 4) ∨ (o13.toInt = 5) ∨ (o13.toInt = 6) := by omega
          rcases hs14 with hs14 | hs14 | hs14 | hs14 | hs14 | hs14 | hs14
          · refine x_tabOut 290 C0 dX7_carryOutRead_102 hs14 (by decide) ?_
            refine x_iconst (v := 0) 291 C0 dX7_carryOutRead_290 rfl (by decide) ?_
            exact x_ireturn C0 dX7_carryOutRead_291 rfl (rfl) (Nat.le_of_ble_eq_true rfl) (Nat.le_of_ble_eq_true rfl) ⟨⟨_, rfl, Or.inl rfl⟩, hC.ci, xFr.rf, by omega⟩
          · refine x_tabIn 140 C0 dX7_carryOutRead_102 (by omega) (by omega) (by rw [hs14]; rfl) (by decide) ?_
            refine x_aload_n 0 141 C0 dX7_carryOutRead_140 rfl rfl rfl ?_
            refine x_getf (v := .ref (g.2 0 + 1)) 0 144 C0 dX7_carryOutRead_141 rfl hC.1.1 rfl (by decide) inX7 mF_X7_10 rfl ?_
            refine x_aload_n 2 145 C0 dX7_carryOutRead_144 rfl rfl rfl ?_
            refine x_callV 148 C0 (k_X4_tryLine l hl g _ _ _ _ _ hC.h0 (Nat.le_add_right _ _) k hk) dX7_carryOutRead_145 rfl mC_X4_tryLine mM_X7_93 mI_X4_tryLine mV_X4_tryLine mN_X4 yd_X4_tryLine rfl rfl ⟨Nat.le_of_ble_eq_true rfl, Nat.le_of_ble_eq_true rfl⟩ (HR.ho hC.h0) rfl rfl rfl rfl (Nat.le_of_ble_eq_true rfl) ⟨Nat.le_of_ble_eq_true rfl, Nat.le_of_ble_eq_true rfl⟩ (fun _ _ _ q => False.elim q) (fun r w1 sz1 hz hP => ?_)
            obtain ⟨rfl, x15, hw15, hQ15⟩ := hP
            obtain ⟨hk15, b15, rfl, hb15⟩ := hQ15.ok (fun q => hC.k0.line hk) hC.k0
            obtain ⟨wv15, hwv15⟩ : ∃ z, z = w1 := ⟨_, rfl⟩
            refine x_w hwv15.symm ?_
            rw [← hwv15] at hw15
            obtain ⟨x16, la16, hx16, hla16, hC16⟩ : ∃ x16 la16, x16 = va_up x 0 x15 ∧ la16 = va_up la 0 (la 0) ∧ CR g wv15 sz n x16 la16 t tt vb sg := ⟨_, _, rfl, rfl, by rw [hw15]; exact hC.set0 hk15 hC.l0⟩
            have hF16 : xFr g w wv15 sz := xFr.tr (sz1 := sz) xFr.rf (by rw [hw15]; exact xFr.hw (by omega)) (by omega)
            refine x_st (st1 := [.int b15]) rfl ?_
            exact x_ireturn C0 dX7_carryOutRead_148 rfl (hb15.nar) (Nat.le_of_ble_eq_true rfl) (Nat.le_of_ble_eq_true rfl) ⟨⟨_, rfl, hb15⟩, hC16.ci, hF16, by omega⟩
          · refine x_tabIn 149 C0 dX7_carryOutRead_102 (by omega) (by omega) (by rw [hs14]; rfl) (by decide) ?_
            refine x_aload_n 0 150 C0 dX7_carryOutRead_149 rfl rfl rfl ?_
            refine x_getf (v := .ref (g.2 0 + 256)) 4 153 C0 dX7_carryOutRead_150 rfl hC.1.1 rfl (by decide) inX7 mF_X7_33 rfl ?_
            refine x_getf (v := .int (tt 4)) 6 156 C0 dX7_carryOutRead_153 rfl hC.1.2.2.2.1 rfl (by decide) inX2 mF_X7_364 rfl ?_
            refine x_aload_n 0 157 C0 dX7_carryOutRead_156 rfl rfl rfl ?_
            refine x_getf (v := .ref (g.2 0 + 256)) 4 160 C0 dX7_carryOutRead_157 rfl hC.1.1 rfl (by decide) inX7 mF_X7_33 rfl ?_
            refine x_getf (v := .int (tt 5)) 7 163 C0 dX7_carryOutRead_160 rfl hC.1.2.2.2.1 rfl (by decide) inX2 mF_X7_365 rfl ?_
            refine x_callS 166 C0 (k_X4_isLeaf l hl g _ _ (tt 4) (tt 5)) dX7_carryOutRead_163 rfl mC_X4_isLeaf mM_X7_304 mS_X4_isLeaf mN_X4 yd_X4_isLeaf rfl rfl ⟨Nat.le_of_ble_eq_true rfl, Nat.le_of_ble_eq_true rfl⟩ rfl rfl (Nat.le_of_ble_eq_true rfl) ⟨Nat.le_of_ble_eq_true rfl, Nat.le_of_ble_eq_true rfl⟩ (fun _ _ _ q => False.elim q) (fun r w1 sz1 hz hP => ?_)
            obtain ⟨rfl, rfl, rfl⟩ := hP
            cases hB9 : isLeafB (tt 4) (tt 5)
            · refine x_st (st1 := [.int 0]) rfl ?_
              refine x_if_eq 221 169 C0 dX7_carryOutRead_166 rfl (by decide) (fun _ => ?_) (fun q => False.elim (by revert q; decide))
              refine x_iconst (v := 0) 222 C0 dX7_carryOutRead_221 rfl (by decide) ?_
              exact x_ireturn C0 dX7_carryOutRead_222 rfl (rfl) (Nat.le_of_ble_eq_true rfl) (Nat.le_of_ble_eq_true rfl) ⟨⟨_, rfl, Or.inl rfl⟩, hC.ci, xFr.rf, by omega⟩
            · refine x_st (st1 := [.int 1]) rfl ?_
              refine x_if_eq 221 169 C0 dX7_carryOutRead_166 rfl (by decide) (fun q => False.elim (by revert q; decide)) (fun _ => ?_)
              refine x_aload_n 0 170 C0 dX7_carryOutRead_169 rfl rfl rfl ?_
              refine x_getf (v := .ref (g.2 0 + 256)) 4 173 C0 dX7_carryOutRead_170 rfl hC.1.1 rfl (by decide) inX7 mF_X7_33 rfl ?_
              refine x_getf (v := .int (tt 6)) 8 176 C0 dX7_carryOutRead_173 rfl hC.1.2.2.2.1 rfl (by decide) inX2 mF_X7_349 rfl ?_
              refine x_iconst (v := 1) 177 C0 dX7_carryOutRead_176 rfl (by decide) ?_
              refine x_bipush (v := 50) 179 C0 dX7_carryOutRead_177 rfl (by decide) ?_
              refine x_callS 182 C0 (k_X7_isWithin l hl g _ _ (tt 6) 1 50) dX7_carryOutRead_179 rfl mC_X7_isWithin mM_X7_299 mS_X7_isWithin mN_X7 yd_X7_isWithin rfl rfl ⟨Nat.le_of_ble_eq_true rfl, Nat.le_of_ble_eq_true rfl⟩ rfl rfl (Nat.le_of_ble_eq_true rfl) ⟨Nat.le_of_ble_eq_true rfl, Nat.le_of_ble_eq_true rfl⟩ (fun _ _ _ q => False.elim q) (fun r w1 sz1 hz hP => ?_)
              obtain ⟨hr, rfl, rfl⟩ := hP
              rcases hr with ⟨rfl, ha19, hb19⟩ | ⟨rfl, hx19⟩
              · refine x_st (st1 := [.int 1]) rfl ?_
                refine x_if_eq 221 185 C0 dX7_carryOutRead_182 rfl (by decide) (fun q => False.elim (by revert q; decide)) (fun _ => ?_)
                refine x_aload_n 0 186 C0 dX7_carryOutRead_185 rfl rfl rfl ?_
                refine x_getf (v := .ref (g.2 0 + 1)) 0 189 C0 dX7_carryOutRead_186 rfl hC.1.1 rfl (by decide) inX7 mF_X7_10 rfl ?_
                refine x_aload_n 2 190 C0 dX7_carryOutRead_189 rfl rfl rfl ?_
                refine x_aload_n 0 191 C0 dX7_carryOutRead_190 rfl rfl rfl ?_
                refine x_getf (v := .ref (g.2 0 + 256)) 4 194 C0 dX7_carryOutRead_191 rfl hC.1.1 rfl (by decide) inX7 mF_X7_33 rfl ?_
                refine x_getf (v := .int (tt 4)) 6 197 C0 dX7_carryOutRead_194 rfl hC.1.2.2.2.1 rfl (by decide) inX2 mF_X7_364 rfl ?_
                refine x_aload_n 0 198 C0 dX7_carryOutRead_197 rfl rfl rfl ?_
                refine x_getf (v := .ref (g.2 0 + 256)) 4 201 C0 dX7_carryOutRead_198 rfl hC.1.1 rfl (by decide) inX7 mF_X7_33 rfl ?_
                refine x_getf (v := .int (tt 5)) 7 204 C0 dX7_carryOutRead_201 rfl hC.1.2.2.2.1 rfl (by decide) inX2 mF_X7_365 rfl ?_
                refine x_aload_n 0 205 C0 dX7_carryOutRead_204 rfl rfl rfl ?_
                refine x_getf (v := .ref (g.2 0 + 256)) 4 208 C0 dX7_carryOutRead_205 rfl hC.1.1 rfl (by decide) inX7 mF_X7_33 rfl ?_
                refine x_getf (v := .int (tt 6)) 8 211 C0 dX7_carryOutRead_208 rfl hC.1.2.2.2.1 rfl (by decide) inX2 mF_X7_349 rfl ?_
                have h19 := ha19
                have h59 := hb19
                refine x_callV 214 C0 (k_X4_tryFill l hl g _ _ _ _ _ hC.h0 (Nat.le_add_right _ _) k hk (tt 4) (tt 5) (tt 6)) dX7_carryOutRead_211 rfl mC_X4_tryFill mM_X7_97 mI_X4_tryFill mV_X4_tryFill mN_X4 yd_X4_tryFill rfl rfl ⟨Nat.le_of_ble_eq_true rfl, Nat.le_of_ble_eq_true rfl⟩ (HR.ho hC.h0) rfl rfl rfl rfl (Nat.le_of_ble_eq_true rfl) ⟨Nat.le_of_ble_eq_true rfl, Nat.le_of_ble_eq_true rfl⟩ (fun _ _ _ q => False.elim q) (fun r w1 sz1 hz hP => ?_)
                obtain ⟨rfl, x21, la21, hw21, hQ21⟩ := hP
                obtain ⟨hk21, hl21, b21, rfl, hb21⟩ : hok x21 ∧ lok g w sz la21 ∧ ∃ b : Int32, r = some (.int b) ∧ isB b := by
                  rcases hQ21 with ⟨q, q2, rfl, rfl⟩ | ⟨-, q2, q3, rfl⟩
                  · exact ⟨hC.k0.fill hk hm hB9 h19 h59 q, hC.l0.blank, 1, q2, Or.inr rfl⟩
                  · exact ⟨hC.k0.refu q3, hC.l0, 0, q2, Or.inl rfl⟩
                obtain ⟨wv21, hwv21⟩ : ∃ z, z = w1 := ⟨_, rfl⟩
                refine x_w hwv21.symm ?_
                rw [← hwv21] at hw21
                obtain ⟨x22, la22, hx22, hla22, hC22⟩ : ∃ x22 la22, x22 = va_up x 0 x21 ∧ la22 = va_up la 0 la21 ∧ CR g wv21 sz n x22 la22 t tt vb sg := ⟨_, _, rfl, rfl, by rw [hw21]; exact hC.set0 hk21 hl21⟩
                have hF22 : xFr g w wv21 sz := xFr.tr (sz1 := sz) xFr.rf (by rw [hw21]; exact xFr.hw (by omega)) (by omega)
                refine x_st (st1 := [.int b21]) rfl ?_
                refine x_if_eq 221 217 C0 dX7_carryOutRead_214 rfl (by decide) (fun c23 => ?_) (fun c23 => ?_)
                · refine x_iconst (v := 0) 222 C0 dX7_carryOutRead_221 rfl (by decide) ?_
                  exact x_ireturn C0 dX7_carryOutRead_222 rfl (rfl) (Nat.le_of_ble_eq_true rfl) (Nat.le_of_ble_eq_true rfl) ⟨⟨_, rfl, Or.inl rfl⟩, hC22.ci, hF22, by omega⟩
                · refine x_iconst (v := 1) 218 C0 dX7_carryOutRead_217 rfl (by decide) ?_
                  refine x_goto 222 C0 dX7_carryOutRead_218 (by decide) ?_
                  exact x_ireturn C0 dX7_carryOutRead_222 rfl (rfl) (Nat.le_of_ble_eq_true rfl) (Nat.le_of_ble_eq_true rfl) ⟨⟨_, rfl, Or.inr rfl⟩, hC22.ci, hF22, by omega⟩
              · refine x_st (st1 := [.int 0]) rfl ?_
                refine x_if_eq 221 185 C0 dX7_carryOutRead_182 rfl (by decide) (fun _ => ?_) (fun q => False.elim (by revert q; decide))
                refine x_iconst (v := 0) 222 C0 dX7_carryOutRead_221 rfl (by decide) ?_
                exact x_ireturn C0 dX7_carryOutRead_222 rfl (rfl) (Nat.le_of_ble_eq_true rfl) (Nat.le_of_ble_eq_true rfl) ⟨⟨_, rfl, Or.inl rfl⟩, hC.ci, xFr.rf, by omega⟩
          · refine x_tabIn 223 C0 dX7_carryOutRead_102 (by omega) (by omega) (by rw [hs14]; rfl) (by decide) ?_
            refine x_aload_n 0 224 C0 dX7_carryOutRead_223 rfl rfl rfl ?_
            refine x_getf (v := .ref (g.2 0 + 256)) 4 227 C0 dX7_carryOutRead_224 rfl hC.1.1 rfl (by decide) inX7 mF_X7_33 rfl ?_
            refine x_getf (v := .int (tt 6)) 8 230 C0 dX7_carryOutRead_227 rfl hC.1.2.2.2.1 rfl (by decide) inX2 mF_X7_349 rfl ?_
            refine x_iconst (v := 1) 231 C0 dX7_carryOutRead_230 rfl (by decide) ?_
            refine x_bipush (v := 8) 233 C0 dX7_carryOutRead_231 rfl (by decide) ?_
            refine x_callS 236 C0 (k_X7_isWithin l hl g _ _ (tt 6) 1 8) dX7_carryOutRead_233 rfl mC_X7_isWithin mM_X7_299 mS_X7_isWithin mN_X7 yd_X7_isWithin rfl rfl ⟨Nat.le_of_ble_eq_true rfl, Nat.le_of_ble_eq_true rfl⟩ rfl rfl (Nat.le_of_ble_eq_true rfl) ⟨Nat.le_of_ble_eq_true rfl, Nat.le_of_ble_eq_true rfl⟩ (fun _ _ _ q => False.elim q) (fun r w1 sz1 hz hP => ?_)
            obtain ⟨hr, rfl, rfl⟩ := hP
            rcases hr with ⟨rfl, ha25, hb25⟩ | ⟨rfl, hx25⟩
            · refine x_st (st1 := [.int 1]) rfl ?_
              refine x_if_eq 261 239 C0 dX7_carryOutRead_236 rfl (by decide) (fun q => False.elim (by revert q; decide)) (fun _ => ?_)
              refine x_aload_n 0 240 C0 dX7_carryOutRead_239 rfl rfl rfl ?_
              refine x_getf (v := .ref (g.2 0 + 1)) 0 243 C0 dX7_carryOutRead_240 rfl hC.1.1 rfl (by decide) inX7 mF_X7_10 rfl ?_
              refine x_aload_n 2 244 C0 dX7_carryOutRead_243 rfl rfl rfl ?_
              refine x_aload_n 0 245 C0 dX7_carryOutRead_244 rfl rfl rfl ?_
              refine x_getf (v := .ref (g.2 0 + 256)) 4 248 C0 dX7_carryOutRead_245 rfl hC.1.1 rfl (by decide) inX7 mF_X7_33 rfl ?_
              refine x_getf (v := .int (tt 6)) 8 251 C0 dX7_carryOutRead_248 rfl hC.1.2.2.2.1 rfl (by decide) inX2 mF_X7_349 rfl ?_
              refine x_callV 254 C0 (k_X4_tryScrew l hl g _ _ _ _ _ hC.h0 (Nat.le_add_right _ _) k hk (tt 6)) dX7_carryOutRead_251 rfl mC_X4_tryScrew mM_X7_113 mI_X4_tryScrew mV_X4_tryScrew mN_X4 yd_X4_tryScrew rfl rfl ⟨Nat.le_of_ble_eq_true rfl, Nat.le_of_ble_eq_true rfl⟩ (HR.ho hC.h0) rfl rfl rfl rfl (Nat.le_of_ble_eq_true rfl) ⟨Nat.le_of_ble_eq_true rfl, Nat.le_of_ble_eq_true rfl⟩ (fun _ _ _ q => False.elim q) (fun r w1 sz1 hz hP => ?_)
              obtain ⟨rfl, x27, hw27, hQ27⟩ := hP
              obtain ⟨hk27, b27, rfl, hb27⟩ := hQ27.ok (fun q => hC.k0.screw hk) hC.k0
              obtain ⟨wv27, hwv27⟩ : ∃ z, z = w1 := ⟨_, rfl⟩
              refine x_w hwv27.symm ?_
              rw [← hwv27] at hw27
              obtain ⟨x28, la28, hx28, hla28, hC28⟩ : ∃ x28 la28, x28 = va_up x 0 x27 ∧ la28 = va_up la 0 (la 0) ∧ CR g wv27 sz n x28 la28 t tt vb sg := ⟨_, _, rfl, rfl, by rw [hw27]; exact hC.set0 hk27 hC.l0⟩
              have hF28 : xFr g w wv27 sz := xFr.tr (sz1 := sz) xFr.rf (by rw [hw27]; exact xFr.hw (by omega)) (by omega)
              refine x_st (st1 := [.int b27]) rfl ?_
              refine x_if_eq 261 257 C0 dX7_carryOutRead_254 rfl (by decide) (fun c29 => ?_) (fun c29 => ?_)
              · refine x_iconst (v := 0) 262 C0 dX7_carryOutRead_261 rfl (by decide) ?_
                exact x_ireturn C0 dX7_carryOutRead_262 rfl (rfl) (Nat.le_of_ble_eq_true rfl) (Nat.le_of_ble_eq_true rfl) ⟨⟨_, rfl, Or.inl rfl⟩, hC28.ci, hF28, by omega⟩
              · refine x_iconst (v := 1) 258 C0 dX7_carryOutRead_257 rfl (by decide) ?_
                refine x_goto 262 C0 dX7_carryOutRead_258 (by decide) ?_
                exact x_ireturn C0 dX7_carryOutRead_262 rfl (rfl) (Nat.le_of_ble_eq_true rfl) (Nat.le_of_ble_eq_true rfl) ⟨⟨_, rfl, Or.inr rfl⟩, hC28.ci, hF28, by omega⟩
            · refine x_st (st1 := [.int 0]) rfl ?_
              refine x_if_eq 261 239 C0 dX7_carryOutRead_236 rfl (by decide) (fun _ => ?_) (fun q => False.elim (by revert q; decide))
              refine x_iconst (v := 0) 262 C0 dX7_carryOutRead_261 rfl (by decide) ?_
              exact x_ireturn C0 dX7_carryOutRead_262 rfl (rfl) (Nat.le_of_ble_eq_true rfl) (Nat.le_of_ble_eq_true rfl) ⟨⟨_, rfl, Or.inl rfl⟩, hC.ci, xFr.rf, by omega⟩
          · refine x_tabIn 263 C0 dX7_carryOutRead_102 (by omega) (by omega) (by rw [hs14]; rfl) (by decide) ?_
            refine x_aload_n 0 264 C0 dX7_carryOutRead_263 rfl rfl rfl ?_
            refine x_getf (v := .ref (g.2 0 + 1)) 0 267 C0 dX7_carryOutRead_264 rfl hC.1.1 rfl (by decide) inX7 mF_X7_10 rfl ?_
            refine x_aload_n 2 268 C0 dX7_carryOutRead_267 rfl rfl rfl ?_
            refine x_callV 271 C0 (k_X4_tryLabel l hl g _ _ _ _ _ hC.h0 (Nat.le_add_right _ _) k hk (hC.k0.filled hk) (by omega) (by omega)) dX7_carryOutRead_268 rfl mC_X4_tryLabel mM_X7_125 mI_X4_tryLabel mV_X4_tryLabel mN_X4 yd_X4_tryLabel rfl rfl ⟨Nat.le_of_ble_eq_true rfl, Nat.le_of_ble_eq_true rfl⟩ (HR.ho hC.h0) rfl rfl rfl rfl (Nat.le_of_ble_eq_true rfl) ⟨Nat.le_of_ble_eq_true rfl, Nat.le_of_ble_eq_true rfl⟩ (fun _ _ _ q => False.elim q) (fun r w1 sz1 hz hP => ?_)
            obtain ⟨b31, xb31, lb31, rfl, hb31, hC31, hG31, hz31⟩ := CR.label hC hk hP
            obtain ⟨wv31, hwv31⟩ : ∃ z, z = w1 := ⟨_, rfl⟩
            refine x_w hwv31.symm ?_
            rw [← hwv31] at hC31 hG31
            obtain ⟨sv31, hsv31⟩ : ∃ z, z = sz1 := ⟨_, rfl⟩
            rw [← hsv31] at hC31 hz31 ⊢
            have hF31 : xFr g w wv31 sz := xFr.tr (sz1 := sz) xFr.rf hG31 (by omega)
            refine x_st (st1 := [.int b31]) rfl ?_
            exact x_ireturn C0 dX7_carryOutRead_271 rfl (hb31.nar) (Nat.le_of_ble_eq_true rfl) (Nat.le_of_ble_eq_true rfl) ⟨⟨_, rfl, hb31⟩, hC31.ci, hF31, by omega⟩
          · refine x_tabIn 272 C0 dX7_carryOutRead_102 (by omega) (by omega) (by rw [hs14]; rfl) (by decide) ?_
            refine x_aload_n 0 273 C0 dX7_carryOutRead_272 rfl rfl rfl ?_
            refine x_getf (v := .ref (g.2 0 + 1)) 0 276 C0 dX7_carryOutRead_273 rfl hC.1.1 rfl (by decide) inX7 mF_X7_10 rfl ?_
            refine x_aload_n 2 277 C0 dX7_carryOutRead_276 rfl rfl rfl ?_
            obtain ⟨ln32, lf32, hL32⟩ := hC.l0
            refine x_callV 280 C0 (k_X4_tryToQuay l hl g _ _ _ _ _ hC.h0 (Nat.le_add_right _ _) k hk ln32 lf32 (by omega) (fun k hk => (hL32 k hk).1)) dX7_carryOutRead_277 rfl mC_X4_tryToQuay mM_X7_180 mI_X4_tryToQuay mV_X4_tryToQuay mN_X4 yd_X4_tryToQuay rfl rfl ⟨Nat.le_of_ble_eq_true rfl, Nat.le_of_ble_eq_true rfl⟩ (HR.ho hC.h0) rfl rfl rfl rfl (Nat.le_of_ble_eq_true rfl) ⟨Nat.le_of_ble_eq_true rfl, Nat.le_of_ble_eq_true rfl⟩ (fun _ _ _ q => False.elim q) (fun r w1 sz1 hz hP => ?_)
            obtain ⟨rfl, x33, hw33, hQ33⟩ := hP
            obtain ⟨hk33, b33, rfl, hb33⟩ := hQ33.ok (fun q => hC.k0.quay hk) hC.k0
            obtain ⟨wv33, hwv33⟩ : ∃ z, z = w1 := ⟨_, rfl⟩
            refine x_w hwv33.symm ?_
            rw [← hwv33] at hw33
            obtain ⟨x34, la34, hx34, hla34, hC34⟩ : ∃ x34 la34, x34 = va_up x 0 x33 ∧ la34 = va_up la 0 (la 0) ∧ CR g wv33 sz n x34 la34 t tt vb sg := ⟨_, _, rfl, rfl, by rw [hw33]; exact hC.set0 hk33 hC.l0⟩
            have hF34 : xFr g w wv33 sz := xFr.tr (sz1 := sz) xFr.rf (by rw [hw33]; exact xFr.hw (by omega)) (by omega)
            refine x_st (st1 := [.int b33]) rfl ?_
            exact x_ireturn C0 dX7_carryOutRead_280 rfl (hb33.nar) (Nat.le_of_ble_eq_true rfl) (Nat.le_of_ble_eq_true rfl) ⟨⟨_, rfl, hb33⟩, hC34.ci, hF34, by omega⟩
          · refine x_tabIn 281 C0 dX7_carryOutRead_102 (by omega) (by omega) (by rw [hs14]; rfl) (by decide) ?_
            refine x_aload_n 0 282 C0 dX7_carryOutRead_281 rfl rfl rfl ?_
            refine x_getf (v := .ref (g.2 0 + 1)) 0 285 C0 dX7_carryOutRead_282 rfl hC.1.1 rfl (by decide) inX7 mF_X7_10 rfl ?_
            refine x_aload_n 2 286 C0 dX7_carryOutRead_285 rfl rfl rfl ?_
            refine x_callV 289 C0 (k_X4_tryLoad l hl g _ _ _ _ _ hC.h0 (Nat.le_add_right _ _) k hk) dX7_carryOutRead_286 rfl mC_X4_tryLoad mM_X7_186 mI_X4_tryLoad mV_X4_tryLoad mN_X4 yd_X4_tryLoad rfl rfl ⟨Nat.le_of_ble_eq_true rfl, Nat.le_of_ble_eq_true rfl⟩ (HR.ho hC.h0) rfl rfl rfl rfl (Nat.le_of_ble_eq_true rfl) ⟨Nat.le_of_ble_eq_true rfl, Nat.le_of_ble_eq_true rfl⟩ (fun _ _ _ q => False.elim q) (fun r w1 sz1 hz hP => ?_)
            obtain ⟨rfl, x35, hw35, hQ35⟩ := hP
            obtain ⟨hk35, b35, rfl, hb35⟩ := hQ35.ok (fun q => hC.k0.load hk) hC.k0
            obtain ⟨wv35, hwv35⟩ : ∃ z, z = w1 := ⟨_, rfl⟩
            refine x_w hwv35.symm ?_
            rw [← hwv35] at hw35
            obtain ⟨x36, la36, hx36, hla36, hC36⟩ : ∃ x36 la36, x36 = va_up x 0 x35 ∧ la36 = va_up la 0 (la 0) ∧ CR g wv35 sz n x36 la36 t tt vb sg := ⟨_, _, rfl, rfl, by rw [hw35]; exact hC.set0 hk35 hC.l0⟩
            have hF36 : xFr g w wv35 sz := xFr.tr (sz1 := sz) xFr.rf (by rw [hw35]; exact xFr.hw (by omega)) (by omega)
            refine x_st (st1 := [.int b35]) rfl ?_
            exact x_ireturn C0 dX7_carryOutRead_289 rfl (hb35.nar) (Nat.le_of_ble_eq_true rfl) (Nat.le_of_ble_eq_true rfl) ⟨⟨_, rfl, hb35⟩, hC36.ci, hF36, by omega⟩
        · refine x_st (st1 := [.null]) rfl ?_
          refine x_astore_nN [(2, .null), (0, .ref (g.2 0)), (1, .ref (g.2 (30 + iv)))] 84 C0 dX7_carryOutRead_83 rfl rfl (by decide) rfl ?_
          refine x_lv (lv1 := [(0, .ref (g.2 0)), (1, .ref (g.2 (30 + iv))), (2, .null)]) [1, 2, 0] rfl ?_
          refine x_aload_n 1 85 C0 dX7_carryOutRead_84 rfl rfl rfl ?_
          refine x_ifnull 88 C0 dX7_carryOutRead_85 rfl ?_
          refine x_aload_nN 2 89 C0 dX7_carryOutRead_88 rfl rfl rfl ?_
          refine x_ifnonnullN 92 C0 dX7_carryOutRead_89 rfl ?_
          refine x_iconst (v := 0) 93 C0 dX7_carryOutRead_92 rfl (by decide) ?_
          exact x_ireturn C0 dX7_carryOutRead_93 rfl (rfl) (Nat.le_of_ble_eq_true rfl) (Nat.le_of_ble_eq_true rfl) ⟨⟨_, rfl, Or.inl rfl⟩, hC.ci, xFr.rf, by omega⟩
      · refine x_aload_n 0 31 C0 dX7_carryOutRead_30 rfl rfl rfl ?_
        refine x_getf (v := .ref (g.2 0 + 256)) 4 34 C0 dX7_carryOutRead_31 rfl hC.1.1 rfl (by decide) inX7 mF_X7_33 rfl ?_
        refine x_getf (v := .int (tt 6)) 8 37 C0 dX7_carryOutRead_34 rfl hC.1.2.2.2.1 rfl (by decide) inX2 mF_X7_349 rfl ?_
        refine x_iconst (v := 1) 38 C0 dX7_carryOutRead_37 rfl (by decide) ?_
        refine x_bipush (v := 72) 40 C0 dX7_carryOutRead_38 rfl (by decide) ?_
        refine x_callS 43 C0 (k_X7_isWithin l hl g _ _ (tt 6) 1 72) dX7_carryOutRead_40 rfl mC_X7_isWithin mM_X7_299 mS_X7_isWithin mN_X7 yd_X7_isWithin rfl rfl ⟨Nat.le_of_ble_eq_true rfl, Nat.le_of_ble_eq_true rfl⟩ rfl rfl (Nat.le_of_ble_eq_true rfl) ⟨Nat.le_of_ble_eq_true rfl, Nat.le_of_ble_eq_true rfl⟩ (fun _ _ _ q => False.elim q) (fun r w1 sz1 hz hP => ?_)
        obtain ⟨hr, rfl, rfl⟩ := hP
        rcases hr with ⟨rfl, ha37, hb37⟩ | ⟨rfl, hx37⟩
        · refine x_st (st1 := [.int 1]) rfl ?_
          refine x_if_eq 67 46 C0 dX7_carryOutRead_43 rfl (by decide) (fun q => False.elim (by revert q; decide)) (fun _ => ?_)
          refine x_aload_n 0 47 C0 dX7_carryOutRead_46 rfl rfl rfl ?_
          refine x_getf (v := .ref (g.2 0 + 1)) 0 50 C0 dX7_carryOutRead_47 rfl hC.1.1 rfl (by decide) inX7 mF_X7_10 rfl ?_
          refine x_aload_n 0 51 C0 dX7_carryOutRead_50 rfl rfl rfl ?_
          refine x_getf (v := .ref (g.2 0 + 256)) 4 54 C0 dX7_carryOutRead_51 rfl hC.1.1 rfl (by decide) inX7 mF_X7_33 rfl ?_
          refine x_getf (v := .int (tt 6)) 8 57 C0 dX7_carryOutRead_54 rfl hC.1.2.2.2.1 rfl (by decide) inX2 mF_X7_349 rfl ?_
          obtain ⟨nh, hnh9, -, hnh⟩ := i32_range (a := 1) (b := 72) rfl rfl (by omega) (by omega) ha37 hb37
          refine x_st (st1 := [.int (nI nh), .ref (g.2 0 + 1)]) (by rw [hnh9]) ?_
          refine x_callV 60 C0 (k_X4_letPass l hl g _ _ _ _ _ hC.h0 (Nat.le_add_right _ _) nh (by omega)) dX7_carryOutRead_57 rfl mC_X4_letPass mM_X7_207 mI_X4_letPass mV_X4_letPass mN_X4 yd_X4_letPass rfl rfl ⟨Nat.le_of_ble_eq_true rfl, Nat.le_of_ble_eq_true rfl⟩ (HR.ho hC.h0) rfl rfl rfl rfl (Nat.le_of_ble_eq_true rfl) ⟨Nat.le_of_ble_eq_true rfl, Nat.le_of_ble_eq_true rfl⟩ (fun _ _ _ q => False.elim q) (fun r w1 sz1 hz hP => ?_)
          obtain ⟨rfl, hw39, rfl⟩ := hP
          obtain ⟨wv39, hwv39⟩ : ∃ z, z = w1 := ⟨_, rfl⟩
          refine x_w hwv39.symm ?_
          rw [← hwv39] at hw39
          obtain ⟨x40, la40, hx40, hla40, hC40⟩ : ∃ x40 la40, x40 = va_up x 0 (passN (x 0) nh) ∧ la40 = va_up la 0 (la 0) ∧ CR g wv39 sz n x40 la40 t tt vb sg := ⟨_, _, rfl, rfl, by rw [hw39]; exact hC.set0 (hC.k0.passH nh) hC.l0⟩
          have hF40 : xFr g w wv39 sz := xFr.tr (sz1 := sz) xFr.rf (by rw [hw39]; exact xFr.hw (by omega)) (by omega)
          refine x_st (st1 := [.int 1]) rfl ?_
          refine x_if_eq 67 63 C0 dX7_carryOutRead_60 rfl (by decide) (fun q => False.elim (by revert q; decide)) (fun _ => ?_)
          refine x_iconst (v := 1) 64 C0 dX7_carryOutRead_63 rfl (by decide) ?_
          refine x_goto 68 C0 dX7_carryOutRead_64 (by decide) ?_
          exact x_ireturn C0 dX7_carryOutRead_68 rfl (rfl) (Nat.le_of_ble_eq_true rfl) (Nat.le_of_ble_eq_true rfl) ⟨⟨_, rfl, Or.inr rfl⟩, hC40.ci, hF40, by omega⟩
        · refine x_st (st1 := [.int 0]) rfl ?_
          refine x_if_eq 67 46 C0 dX7_carryOutRead_43 rfl (by decide) (fun _ => ?_) (fun q => False.elim (by revert q; decide))
          refine x_iconst (v := 0) 68 C0 dX7_carryOutRead_67 rfl (by decide) ?_
          exact x_ireturn C0 dX7_carryOutRead_68 rfl (rfl) (Nat.le_of_ble_eq_true rfl) (Nat.le_of_ble_eq_true rfl) ⟨⟨_, rfl, Or.inl rfl⟩, hC.ci, xFr.rf, by omega⟩
    · refine x_aload_n 0 16 C0 dX7_carryOutRead_15 rfl rfl rfl ?_
      refine x_getf (v := .ref (g.2 0 + 1)) 0 19 C0 dX7_carryOutRead_16 rfl hC.1.1 rfl (by decide) inX7 mF_X7_10 rfl ?_
      refine x_callV 22 C0 (k_X4_trySail l hl g _ _ _ _ _ hC.h0 (Nat.le_add_right _ _)) dX7_carryOutRead_19 rfl mC_X4_trySail mM_X7_195 mI_X4_trySail mV_X4_trySail mN_X4 yd_X4_trySail rfl rfl ⟨Nat.le_of_ble_eq_true rfl, Nat.le_of_ble_eq_true rfl⟩ (HR.ho hC.h0) rfl rfl rfl rfl (Nat.le_of_ble_eq_true rfl) ⟨Nat.le_of_ble_eq_true rfl, Nat.le_of_ble_eq_true rfl⟩ (fun _ _ _ q => False.elim q) (fun r w1 sz1 hz hP => ?_)
      obtain ⟨rfl, x43, hw43, hQ43⟩ := hP
      obtain ⟨hk43, b43, rfl, hb43⟩ := hQ43.ok (fun q => hC.k0.sail) hC.k0
      obtain ⟨wv43, hwv43⟩ : ∃ z, z = w1 := ⟨_, rfl⟩
      refine x_w hwv43.symm ?_
      rw [← hwv43] at hw43
      obtain ⟨x44, la44, hx44, hla44, hC44⟩ : ∃ x44 la44, x44 = va_up x 0 x43 ∧ la44 = va_up la 0 (la 0) ∧ CR g wv43 sz n x44 la44 t tt vb sg := ⟨_, _, rfl, rfl, by rw [hw43]; exact hC.set0 hk43 hC.l0⟩
      have hF44 : xFr g w wv43 sz := xFr.tr (sz1 := sz) xFr.rf (by rw [hw43]; exact xFr.hw (by omega)) (by omega)
      refine x_st (st1 := [.int b43]) rfl ?_
      exact x_ireturn C0 dX7_carryOutRead_22 rfl (hb43.nar) (Nat.le_of_ble_eq_true rfl) (Nat.le_of_ble_eq_true rfl) ⟨⟨_, rfl, hb43⟩, hC44.ci, hF44, by omega⟩

set_option maxHeartbeats 4000000 in
set_option maxRecDepth 100000 in
theorem k_X7_carryOutAll (l : Launch) (hl : l.stackTraces = false) (g : xg_T) (w : xw_T) (sz n : Nat) (x : Nat → Nat → Int32) (la : Nat → Nat → Nat) (t tt : Nat → Int32) (vb : Option Nat) (sg : Nat → Int32) (hC : CR g w sz n x la t tt vb sg) (mq : Nat) (hm60 : mq ≤ 60) : xM l g yX7_carryOutAll cX7_carryOutAll 3 (some .int) ({ frames := 9, cells := 240, slots := 2400, locals := 215 }) 240 2400 [.ref (g.2 0), .int (nI mq)] w sz (cPo g w sz n (fun r => ∃ q : Nat, q ≤ mq ∧ r = some (.int (nI q)))) (fun _ _ _ => False) := by
  have hz9 := hC.zz
  refine xM.of RX7 hl (by decide +kernel) rfl (Nat.le_of_ble_eq_true rfl) rfl ?_
  intro p e s m args below meth cD C0 hini
  refine x_aload_n 0 1 C0 dX7_carryOutAll_0 rfl rfl rfl ?_
  refine x_getf (v := .ref (g.2 0 + 256)) 4 4 C0 dX7_carryOutAll_1 rfl hC.1.1 rfl (by decide) inX7 mF_X7_33 rfl ?_
  refine x_callV 7 C0 (k_X2_rewind l hl g _ _ (g.2 0 + 256) _ _ _ _ hC.1.2.2.2.1 hC.1.2.2.2.2 (Nat.le_add_right _ _) hC.2.2.1 hC.2.2.2.1) dX7_carryOutAll_4 rfl mC_X2_rewind mM_X7_325 mI_X2_rewind mV_X2_rewind mN_X2 yd_X2_rewind rfl rfl ⟨Nat.le_of_ble_eq_true rfl, Nat.le_of_ble_eq_true rfl⟩ hC.1.2.2.2.1 rfl rfl rfl rfl (Nat.le_of_ble_eq_true rfl) ⟨Nat.le_of_ble_eq_true rfl, Nat.le_of_ble_eq_true rfl⟩ (fun _ _ _ q => False.elim q) (fun r w1 sz1 hz hP => ?_)
  obtain ⟨wv1, hwv1⟩ : ∃ z, z = w1 := ⟨_, rfl⟩
  refine x_w hwv1.symm ?_
  obtain ⟨rfl, tt1, vb1, hw1, hT1, hv1, rfl⟩ := hP
  rw [← hwv1] at hw1
  obtain ⟨tt2, vb2, hC2⟩ : ∃ tt2 vb2, CR g wv1 sz n x la t tt2 vb2 sg := ⟨_, _, by rw [hw1]; exact hC.setTx hT1 hv1⟩
  have hF2 : xFr g w wv1 sz := xFr.tr (sz1 := sz) xFr.rf (by rw [hw1]; exact xFr.up (by omega)) (by omega)
  refine x_st (st1 := []) rfl ?_
  refine x_iconst (v := 0) 8 C0 dX7_carryOutAll_7 rfl (by decide) ?_
  refine x_istore_n [(2, .int 0), (0, .ref (g.2 0)), (1, .int (nI mq))] 9 C0 dX7_carryOutAll_8 rfl rfl (by decide) rfl ?_
  refine x_lv (lv1 := [(0, .ref (g.2 0)), (1, .int (nI mq)), (2, .int 0)]) [1, 2, 0] rfl ?_
  have loop9 : ∀ (N i szl : Nat) (wl : xw_T) (xl : Nat → Nat → Int32) (lal : Nat → Nat → Nat) (tl ttl : Nat → Int32) (vbl : Option Nat) (sgl : Nat → Int32), i ≤ mq → mq - i < N → sz ≤ szl → CR g wl szl n xl lal tl ttl vbl sgl → xFr g w wl sz → mq ≤ 60 → xV p l e ({ frames := 9, cells := 240, slots := 2400, locals := 215 }) s m args below meth cD (xQ g below (cPo g w sz n (fun r => ∃ q : Nat, q ≤ mq ∧ r = some (.int (nI q)))) (fun _ _ _ => False) args s 240 2400) g 3 wl szl (4 * i) (40 * i) 9 [(0, .ref (g.2 0)), (1, .int (nI mq)), (2, .int (nI i))] [] := by
    intro N
    induction N with
    | zero => intro i szl wl xl lal tl ttl vbl sgl h1 h2; omega
    | succ N ih =>
      intro i szl wl xl lal tl ttl vbl sgl hi hN hzl hCl hFl _
      have hz8 := hCl.zz
      refine x_iload_n 2 10 C0 dX7_carryOutAll_9 rfl rfl rfl ?_
      refine x_iload_n 1 11 C0 dX7_carryOutAll_10 rfl rfl rfl ?_
      refine x_icmp_ge 49 14 C0 dX7_carryOutAll_11 rfl (by decide) (fun c3 => ?_) (fun c3 => ?_)
      · refine x_iload_n 1 50 C0 dX7_carryOutAll_49 rfl rfl rfl ?_
        exact x_widen 240 2400 (by show 4 * i ≤ 240; omega) (by show 40 * i ≤ 2400; omega) (x_ireturn C0 dX7_carryOutAll_50 rfl rfl (Nat.le_of_ble_eq_true rfl) (Nat.le_of_ble_eq_true rfl) ⟨⟨mq, by omega, rfl⟩, hCl.ci, hFl, by omega⟩)
      · have hi2 := ix_lt mq rfl (by omega) hi c3
        refine x_aload_n 0 15 C0 dX7_carryOutAll_14 rfl rfl rfl ?_
        refine x_getf (v := .ref (g.2 0 + 256)) 4 18 C0 dX7_carryOutAll_15 rfl hCl.1.1 rfl (by decide) inX7 mF_X7_33 rfl ?_
        refine x_callV 21 C0 (k_X2_readCommand l hl g _ _ (g.2 0 + 256) _ _ _ _ hCl.1.2.2.2.1 hCl.1.2.2.2.2 (Nat.le_add_right _ _) hCl.2.2.1 hCl.2.2.2.1) dX7_carryOutAll_18 rfl mC_X2_readCommand mM_X7_328 mI_X2_readCommand mV_X2_readCommand mN_X2 yd_X2_readCommand rfl rfl ⟨Nat.le_of_ble_eq_true rfl, Nat.le_of_ble_eq_true rfl⟩ hCl.1.2.2.2.1 rfl rfl rfl rfl (Nat.le_of_ble_eq_true rfl) ⟨by show _ ≤ 240; omega, by show _ ≤ 2400; omega⟩ (fun _ _ _ q => False.elim q) (fun r w1 sz1 hz hP => ?_)
        obtain ⟨wv4, hwv4⟩ : ∃ z, z = w1 := ⟨_, rfl⟩
        refine x_w hwv4.symm ?_
        obtain ⟨rfl, tt4, vb4, hw4, hT4, hv4, b4, rfl, hb4⟩ := hP
        rw [← hwv4] at hw4
        obtain ⟨tt5, vb5, hC5⟩ : ∃ tt5 vb5, CR g wv4 szl n xl lal tl tt5 vb5 sgl := ⟨_, _, by rw [hw4]; exact hCl.setTx hT4 hv4⟩
        have hF5 : xFr g w wv4 sz := xFr.tr (sz1 := szl) hFl (by rw [hw4]; exact xFr.up (by omega)) (by omega)
        refine x_st (st1 := [.int b4]) rfl ?_
        refine x_if_eq 31 24 C0 dX7_carryOutAll_21 rfl (by decide) (fun c6 => ?_) (fun c6 => ?_)
        · refine x_iload_n 2 32 C0 dX7_carryOutAll_31 rfl rfl rfl ?_
          exact x_widen 240 2400 (by show 4 * i ≤ 240; omega) (by show 40 * i ≤ 2400; omega) (x_ireturn C0 dX7_carryOutAll_32 rfl rfl (Nat.le_of_ble_eq_true rfl) (Nat.le_of_ble_eq_true rfl) ⟨⟨i, by omega, rfl⟩, hC5.ci, hF5, by omega⟩)
        · refine x_aload_n 0 25 C0 dX7_carryOutAll_24 rfl rfl rfl ?_
          refine x_callV 28 C0 (k_X7_carryOutRead l hl g _ _ _ xl lal tl tt5 vb5 sgl hC5) dX7_carryOutAll_25 rfl mC_X7_carryOutRead mM_X7_331 mI_X7_carryOutRead mV_X7_carryOutRead mN_X7 yd_X7_carryOutRead rfl rfl ⟨Nat.le_of_ble_eq_true rfl, Nat.le_of_ble_eq_true rfl⟩ hC5.1.1 rfl rfl rfl rfl (Nat.le_of_ble_eq_true rfl) ⟨by show _ ≤ 240; omega, by show _ ≤ 2400; omega⟩ (fun _ _ _ q => False.elim q) (fun r w1 sz1 hz hP => ?_)
          obtain ⟨wv7, hwv7⟩ : ∃ z, z = w1 := ⟨_, rfl⟩
          obtain ⟨sv7, hsv7⟩ : ∃ z, z = sz1 := ⟨_, rfl⟩
          rw [← hwv7, ← hsv7] at hP ⊢
          obtain ⟨⟨b7, rfl, hb7⟩, ⟨x7, la7, t7, tt7, vb7, sg7, hC7⟩, hG7, hz7⟩ := hP
          have hF7 : xFr g w wv7 sz := xFr.tr (sz1 := szl) hF5 hG7 (by omega)
          refine x_st (st1 := [.int b7]) rfl ?_
          refine x_if_ne 33 31 C0 dX7_carryOutAll_28 rfl (by decide) (fun c8 => ?_) (fun c8 => ?_)
          · refine x_aload_n 0 34 C0 dX7_carryOutAll_33 rfl rfl rfl ?_
            refine x_getf (v := .ref (g.2 0 + 256)) 4 37 C0 dX7_carryOutAll_34 rfl hC7.1.1 rfl (by decide) inX7 mF_X7_33 rfl ?_
            refine x_bipush (v := 59) 39 C0 dX7_carryOutAll_37 rfl (by decide) ?_
            refine x_callV 42 C0 (k_X2_readSign l hl g _ _ (g.2 0 + 256) _ _ _ _ hC7.1.2.2.2.1 hC7.1.2.2.2.2 (Nat.le_add_right _ _) hC7.2.2.1 hC7.2.2.2.1 59 (by decide)) dX7_carryOutAll_39 rfl mC_X2_readSign mM_X7_334 mI_X2_readSign mV_X2_readSign mN_X2 yd_X2_readSign rfl rfl ⟨Nat.le_of_ble_eq_true rfl, Nat.le_of_ble_eq_true rfl⟩ hC7.1.2.2.2.1 rfl rfl rfl rfl (Nat.le_of_ble_eq_true rfl) ⟨by show _ ≤ 240; omega, by show _ ≤ 2400; omega⟩ (fun _ _ _ q => False.elim q) (fun r w1 sz1 hz hP => ?_)
            obtain ⟨wv9, hwv9⟩ : ∃ z, z = w1 := ⟨_, rfl⟩
            refine x_w hwv9.symm ?_
            obtain ⟨rfl, tt9, vb9, hw9, hT9, hv9, b9, rfl, hb9⟩ := hP
            rw [← hwv9] at hw9
            obtain ⟨tt10, vb10, hC10⟩ : ∃ tt10 vb10, CR g wv9 sv7 n x7 la7 t7 tt10 vb10 sg7 := ⟨_, _, by rw [hw9]; exact hC7.setTx hT9 hv9⟩
            have hF10 : xFr g w wv9 sz := xFr.tr (sz1 := sv7) hF7 (by rw [hw9]; exact xFr.up (by omega)) (by omega)
            refine x_st (st1 := [.int b9]) rfl ?_
            refine x_pop 43 C0 dX7_carryOutAll_42 rfl rfl ?_
            refine x_iinc [(2, .int (nI (i + 1))), (0, .ref (g.2 0)), (1, .int (nI mq))] 2 46 C0 dX7_carryOutAll_43 rfl rfl (nI_1 i) (by decide) rfl ?_
            refine x_lv (lv1 := [(0, .ref (g.2 0)), (1, .int (nI mq)), (2, .int (nI (i + 1)))]) [1, 2, 0] rfl ?_
            refine x_goto 9 C0 dX7_carryOutAll_46 (by decide) ?_
            exact x_lv [0, 1, 2] rfl (x_widen (4 * (i + 1)) (40 * (i + 1)) (by show 4 * i + 4 ≤ 4 * (i + 1); omega) (by show 40 * i + 40 ≤ 40 * (i + 1); omega) (ih (i + 1) _ _ _ _ _ _ _ _ (by omega) (by omega) (by omega) hC10 hF10 (by omega)))
          · refine x_iload_n 2 32 C0 dX7_carryOutAll_31 rfl rfl rfl ?_
            exact x_widen 240 2400 (by show 4 * i + 4 ≤ 240; omega) (by show 40 * i + 40 ≤ 2400; omega) (x_ireturn C0 dX7_carryOutAll_32 rfl rfl (Nat.le_of_ble_eq_true rfl) (Nat.le_of_ble_eq_true rfl) ⟨⟨i, by omega, rfl⟩, hC7.ci, hF7, by omega⟩)
  exact x_lv [0, 1, 2] rfl (loop9 (mq + 1) 0 _ _ _ _ _ _ _ _ (by omega) (by omega) (Nat.le_refl _) hC2 hF2 hm60)

set_option maxHeartbeats 4000000 in
set_option maxRecDepth 100000 in
theorem k_X7_perform (l : Launch) (hl : l.stackTraces = false) (g : xg_T) (w : xw_T) (sz n : Nat) (x : Nat → Nat → Int32) (la : Nat → Nat → Nat) (t tt : Nat → Int32) (vb : Option Nat) (sg : Nat → Int32) (hC : CR g w sz n x la t tt vb sg) : xM l g yX7_perform cX7_perform 3 (some .int) ({ frames := 10, cells := 256, slots := 2500, locals := 237 }) 256 2500 [.ref (g.2 0)] w sz (cPo g w sz 0 rI) (cXo g w sz 0 ["java/lang/UnsupportedOperationException"]) := by
  have hz9 := hC.zz
  refine xM.of RX7 hl (by decide +kernel) rfl (Nat.le_of_ble_eq_true rfl) rfl ?_
  intro p e s m args below meth cD C0 hini
  refine x_aload_n 0 1 C0 dX7_perform_0 rfl rfl rfl ?_
  refine x_getf (v := .ref (g.2 0 + 256)) 4 4 C0 dX7_perform_1 rfl hC.1.1 rfl (by decide) inX7 mF_X7_33 rfl ?_
  refine x_callV 7 C0 (k_X2_countCommands l hl g _ _ (g.2 0 + 256) _ _ _ _ hC.1.2.2.2.1 hC.1.2.2.2.2 (Nat.le_add_right _ _) hC.2.2.1 hC.2.2.2.1) dX7_perform_4 rfl mC_X2_countCommands mM_X7_270 mI_X2_countCommands mV_X2_countCommands mN_X2 yd_X2_countCommands rfl rfl ⟨Nat.le_of_ble_eq_true rfl, Nat.le_of_ble_eq_true rfl⟩ hC.1.2.2.2.1 rfl rfl rfl rfl (Nat.le_of_ble_eq_true rfl) ⟨Nat.le_of_ble_eq_true rfl, Nat.le_of_ble_eq_true rfl⟩ (fun _ _ _ q => False.elim q) (fun r w1 sz1 hz hP => ?_)
  obtain ⟨wv1, hwv1⟩ : ∃ z, z = w1 := ⟨_, rfl⟩
  refine x_w hwv1.symm ?_
  obtain ⟨rfl, tt1, vb1, hw1, hT1, hv1, b1, rfl, hb1⟩ := hP
  rw [← hwv1] at hw1
  obtain ⟨tt2, vb2, hC2⟩ : ∃ tt2 vb2, CR g wv1 sz n x la t tt2 vb2 sg := ⟨_, _, by rw [hw1]; exact hC.setTx hT1 hv1⟩
  have hF2 : xFr g w wv1 sz := xFr.tr (sz1 := sz) xFr.rf (by rw [hw1]; exact xFr.up (by omega)) (by omega)
  refine x_st (st1 := [.int b1]) rfl ?_
  refine x_istore_n [(1, .int b1), (0, .ref (g.2 0))] 8 C0 dX7_perform_7 rfl rfl (by decide) rfl ?_
  refine x_lv (lv1 := [(0, .ref (g.2 0)), (1, .int b1)]) [1, 0] rfl ?_
  refine x_iload_n 1 9 C0 dX7_perform_8 rfl rfl rfl ?_
  refine x_if_ge 21 12 C0 dX7_perform_9 rfl (by decide) (fun c3 => ?_) (fun c3 => ?_)
  · have c3' := Int32.not_lt.mpr c3
    obtain ⟨m, hm60, hmv⟩ : ∃ m : Nat, m ≤ 60 ∧ b1 = nI m := hb1.elim id (fun z => absurd z (Int32.not_lt.mpr c3))
    subst hmv
    refine x_aload_n 0 22 C0 dX7_perform_21 rfl rfl rfl ?_
    refine x_getf (v := .ref (g.2 0 + 47)) 3 25 C0 dX7_perform_22 rfl hC2.1.1 rfl (by decide) inX7 mF_X7_26 rfl ?_
    refine x_aload_n 0 26 C0 dX7_perform_25 rfl rfl rfl ?_
    refine x_getf (v := .ref (g.2 0 + 1)) 0 29 C0 dX7_perform_26 rfl hC2.1.1 rfl (by decide) inX7 mF_X7_10 rfl ?_
    refine x_callV 32 C0 (k_X3_prepare l hl g _ _ _ x la t tt2 vb2 sg hC2) dX7_perform_29 rfl mC_X3_prepare mM_X7_45 mI_X3_prepare mV_X3_prepare mN_X3 yd_X3_prepare rfl rfl ⟨Nat.le_of_ble_eq_true rfl, Nat.le_of_ble_eq_true rfl⟩ hC2.1.2.1 rfl rfl rfl rfl (Nat.le_of_ble_eq_true rfl) ⟨Nat.le_of_ble_eq_true rfl, Nat.le_of_ble_eq_true rfl⟩ (fun _ _ _ q => False.elim q) (fun r w1 sz1 hz hP => ?_)
    obtain ⟨wv4, hwv4⟩ : ∃ z, z = w1 := ⟨_, rfl⟩
    obtain ⟨rfl, x4, la4, hC4, hx4, hl4, hG4, rfl, hXX4⟩ := hP
    refine x_w hwv4.symm ?_
    rw [← hwv4] at hC4 hG4
    have hF4 : xFr g w wv4 sz := xFr.tr (sz1 := sz) hF2 hG4 (by omega)
    refine x_st (st1 := []) rfl ?_
    refine x_aload_n 0 33 C0 dX7_perform_32 rfl rfl rfl ?_
    refine x_iload_n 1 34 C0 dX7_perform_33 rfl rfl rfl ?_
    refine x_callV 37 C0 (k_X7_carryOutAll l hl g _ _ _ x4 la4 t tt2 vb2 sg hC4 m hm60) dX7_perform_34 rfl mC_X7_carryOutAll mM_X7_276 mI_X7_carryOutAll mV_X7_carryOutAll mN_X7 yd_X7_carryOutAll rfl rfl ⟨Nat.le_of_ble_eq_true rfl, Nat.le_of_ble_eq_true rfl⟩ hC4.1.1 rfl rfl rfl rfl (Nat.le_of_ble_eq_true rfl) ⟨Nat.le_of_ble_eq_true rfl, Nat.le_of_ble_eq_true rfl⟩ (fun _ _ _ q => False.elim q) (fun r w1 sz1 hz hP => ?_)
    obtain ⟨wv5, hwv5⟩ : ∃ z, z = w1 := ⟨_, rfl⟩
    obtain ⟨sv5, hsv5⟩ : ∃ z, z = sz1 := ⟨_, rfl⟩
    rw [← hwv5, ← hsv5] at hP ⊢
    obtain ⟨⟨q5, hq5, rfl⟩, ⟨x5, la5, t5, tt5, vb5, sg5, hC5⟩, hG5, hz5⟩ := hP
    have hF5 : xFr g w wv5 sz := xFr.tr (sz1 := sz) hF4 hG5 (by omega)
    refine x_st (st1 := [.int (nI q5)]) rfl ?_
    refine x_istore_n [(2, .int (nI q5)), (0, .ref (g.2 0)), (1, .int (nI m))] 38 C0 dX7_perform_37 rfl rfl (by decide) rfl ?_
    refine x_lv (lv1 := [(0, .ref (g.2 0)), (1, .int (nI m)), (2, .int (nI q5))]) [1, 2, 0] rfl ?_
    refine x_aload_n 0 39 C0 dX7_perform_38 rfl rfl rfl ?_
    refine x_getf (v := .ref (g.2 0 + 256)) 4 42 C0 dX7_perform_39 rfl hC5.1.1 rfl (by decide) inX7 mF_X7_33 rfl ?_
    refine x_callV 45 C0 (k_X2_clear l hl g _ _ (g.2 0 + 256) _ _ _ _ hC5.1.2.2.2.1 hC5.1.2.2.2.2 (Nat.le_add_right _ _) hC5.2.2.1 hC5.2.2.2.1) dX7_perform_42 rfl mC_X2_clear mM_X7_273 mI_X2_clear mV_X2_clear mN_X2 yd_X2_clear rfl rfl ⟨Nat.le_of_ble_eq_true rfl, Nat.le_of_ble_eq_true rfl⟩ hC5.1.2.2.2.1 rfl rfl rfl rfl (Nat.le_of_ble_eq_true rfl) ⟨Nat.le_of_ble_eq_true rfl, Nat.le_of_ble_eq_true rfl⟩ (fun _ _ _ q => False.elim q) (fun r w1 sz1 hz hP => ?_)
    obtain ⟨wv6, hwv6⟩ : ∃ z, z = w1 := ⟨_, rfl⟩
    refine x_w hwv6.symm ?_
    obtain ⟨rfl, tt6, vb6, hw6, hT6, hv6, rfl⟩ := hP
    rw [← hwv6] at hw6
    have hC6 : CR g wv6 sv5 0 x5 la5 t5 tt6 vb6 sg5 := by rw [hw6]; exact hC5.setTx hT6 hv6
    have hF6 : xFr g w wv6 sz := xFr.tr (sz1 := sv5) hF5 (by rw [hw6]; exact xFr.up (by omega)) (by omega)
    refine x_st (st1 := []) rfl ?_
    refine x_iload_n 2 46 C0 dX7_perform_45 rfl rfl rfl ?_
    refine x_iload_n 1 47 C0 dX7_perform_46 rfl rfl rfl ?_
    refine x_icmp_ge 72 50 C0 dX7_perform_47 rfl (by decide) (fun c7 => ?_) (fun c7 => ?_)
    · have c7' := Int32.not_lt.mpr c7
      refine x_aload_n 0 73 C0 dX7_perform_72 rfl rfl rfl ?_
      refine x_iload_n 2 74 C0 dX7_perform_73 rfl rfl rfl ?_
      refine x_iload_n 1 75 C0 dX7_perform_74 rfl rfl rfl ?_
      refine x_icmp_ne 82 78 C0 dX7_perform_75 rfl (by decide) (fun c8 => ?_) (fun c8 => ?_)
      · refine x_iconst (v := 0) 83 C0 dX7_perform_82 rfl (by decide) ?_
        refine x_callV 86 C0 (k_X7_conclude l hl g _ _ _ x5 la5 t5 tt6 vb6 sg5 hC6 0) dX7_perform_83 rfl mC_X7_conclude mM_X7_53 mI_X7_conclude mV_X7_conclude mN_X7 yd_X7_conclude rfl rfl ⟨Nat.le_of_ble_eq_true rfl, Nat.le_of_ble_eq_true rfl⟩ hC6.1.1 rfl rfl rfl rfl (Nat.le_of_ble_eq_true rfl) ⟨Nat.le_of_ble_eq_true rfl, Nat.le_of_ble_eq_true rfl⟩ (fun E9 w9 sz9 q => by obtain ⟨rfl, rfl, h9, hno9⟩ := q; exact x_out C0 rfl (Nat.le_of_ble_eq_true rfl) (Nat.le_of_ble_eq_true rfl) ⟨by decide, (hC6.grow h9).ci, hF6, by omega⟩) (fun r w1 sz1 hz hP => ?_)
        obtain ⟨wv9, hwv9⟩ : ∃ z, z = w1 := ⟨_, rfl⟩
        obtain ⟨rfl, t9, hC9, hG9, rfl, hb99, ht99⟩ := hP
        refine x_w hwv9.symm ?_
        rw [← hwv9] at hC9 hG9
        have hF9 : xFr g w wv9 sz := xFr.tr (sz1 := sv5) hF6 hG9 (by omega)
        refine x_st (st1 := []) rfl ?_
        refine x_iload_n 1 87 C0 dX7_perform_86 rfl rfl rfl ?_
        exact x_ireturn C0 dX7_perform_87 rfl rfl (Nat.le_of_ble_eq_true rfl) (Nat.le_of_ble_eq_true rfl) ⟨⟨_, rfl⟩, hC9.ci, hF9, by omega⟩
      · refine x_iconst (v := 1) 79 C0 dX7_perform_78 rfl (by decide) ?_
        refine x_goto 83 C0 dX7_perform_79 (by decide) ?_
        refine x_callV 86 C0 (k_X7_conclude l hl g _ _ _ x5 la5 t5 tt6 vb6 sg5 hC6 1) dX7_perform_83 rfl mC_X7_conclude mM_X7_53 mI_X7_conclude mV_X7_conclude mN_X7 yd_X7_conclude rfl rfl ⟨Nat.le_of_ble_eq_true rfl, Nat.le_of_ble_eq_true rfl⟩ hC6.1.1 rfl rfl rfl rfl (Nat.le_of_ble_eq_true rfl) ⟨Nat.le_of_ble_eq_true rfl, Nat.le_of_ble_eq_true rfl⟩ (fun E9 w9 sz9 q => by obtain ⟨rfl, rfl, h9, hno9⟩ := q; exact x_out C0 rfl (Nat.le_of_ble_eq_true rfl) (Nat.le_of_ble_eq_true rfl) ⟨by decide, (hC6.grow h9).ci, hF6, by omega⟩) (fun r w1 sz1 hz hP => ?_)
        obtain ⟨wv10, hwv10⟩ : ∃ z, z = w1 := ⟨_, rfl⟩
        obtain ⟨rfl, t10, hC10, hG10, rfl, hb910, ht910⟩ := hP
        refine x_w hwv10.symm ?_
        rw [← hwv10] at hC10 hG10
        have hF10 : xFr g w wv10 sz := xFr.tr (sz1 := sv5) hF6 hG10 (by omega)
        refine x_st (st1 := []) rfl ?_
        refine x_iload_n 1 87 C0 dX7_perform_86 rfl rfl rfl ?_
        exact x_ireturn C0 dX7_perform_87 rfl rfl (Nat.le_of_ble_eq_true rfl) (Nat.le_of_ble_eq_true rfl) ⟨⟨_, rfl⟩, hC10.ci, hF10, by omega⟩
    · have c7' := Int32.not_le.mp c7
      refine x_aload_n 0 51 C0 dX7_perform_50 rfl rfl rfl ?_
      refine x_getf (v := .ref (g.2 0 + 47)) 3 54 C0 dX7_perform_51 rfl hC6.1.1 rfl (by decide) inX7 mF_X7_26 rfl ?_
      refine x_aload_n 0 55 C0 dX7_perform_54 rfl rfl rfl ?_
      refine x_getf (v := .ref (g.2 0 + 1)) 0 58 C0 dX7_perform_55 rfl hC6.1.1 rfl (by decide) inX7 mF_X7_10 rfl ?_
      refine x_callV 61 C0 (k_X3_dropPrepared l hl g _ _ _ x5 la5 t5 tt6 vb6 sg5 hC6) dX7_perform_58 rfl mC_X3_dropPrepared mM_X7_279 mI_X3_dropPrepared mV_X3_dropPrepared mN_X3 yd_X3_dropPrepared rfl rfl ⟨Nat.le_of_ble_eq_true rfl, Nat.le_of_ble_eq_true rfl⟩ hC6.1.2.1 rfl rfl rfl rfl (Nat.le_of_ble_eq_true rfl) ⟨Nat.le_of_ble_eq_true rfl, Nat.le_of_ble_eq_true rfl⟩ (fun _ _ _ q => False.elim q) (fun r w1 sz1 hz hP => ?_)
      obtain ⟨wv11, hwv11⟩ : ∃ z, z = w1 := ⟨_, rfl⟩
      obtain ⟨rfl, x11, la11, t11, hC11, hG11, rfl, hXX11⟩ := hP
      refine x_w hwv11.symm ?_
      rw [← hwv11] at hC11 hG11
      have hF11 : xFr g w wv11 sz := xFr.tr (sz1 := sv5) hF6 hG11 (by omega)
      refine x_st (st1 := []) rfl ?_
      refine x_aload_n 0 62 C0 dX7_perform_61 rfl rfl rfl ?_
      refine x_getf (v := .ref (g.2 0 + 1)) 0 65 C0 dX7_perform_62 rfl hC11.1.1 rfl (by decide) inX7 mF_X7_10 rfl ?_
      refine x_bipush (v := 19) 67 C0 dX7_perform_65 rfl (by decide) ?_
      refine x_iload_n 2 68 C0 dX7_perform_67 rfl rfl rfl ?_
      refine x_callV 71 C0 (k_X4_refuse l hl g _ _ _ _ _ hC11.h0 (Nat.le_add_right _ _) 19 (nI q5)) dX7_perform_68 rfl mC_X4_refuse mM_X7_282 mI_X4_refuse mV_X4_refuse mN_X4 yd_X4_refuse rfl rfl ⟨Nat.le_of_ble_eq_true rfl, Nat.le_of_ble_eq_true rfl⟩ (HR.ho hC11.h0) rfl rfl rfl rfl (Nat.le_of_ble_eq_true rfl) ⟨Nat.le_of_ble_eq_true rfl, Nat.le_of_ble_eq_true rfl⟩ (fun _ _ _ q => False.elim q) (fun r w1 sz1 hz hP => ?_)
      obtain ⟨rfl, hw12, rfl⟩ := hP
      obtain ⟨wv12, hwv12⟩ : ∃ z, z = w1 := ⟨_, rfl⟩
      refine x_w hwv12.symm ?_
      rw [← hwv12] at hw12
      obtain ⟨x13, la13, hC13⟩ : ∃ x13 la13, CR g wv12 sv5 0 x13 la13 t11 tt6 vb6 sg5 := ⟨_, _, by rw [hw12]; exact hC11.set0 ((hC11.k0.up (by omega)).up (by omega)) hC11.l0⟩
      have hF13 : xFr g w wv12 sz := xFr.tr (sz1 := sv5) hF11 (by rw [hw12]; exact xFr.hw (by omega)) (by omega)
      refine x_st (st1 := [.int 0]) rfl ?_
      refine x_pop 72 C0 dX7_perform_71 rfl rfl ?_
      refine x_aload_n 0 73 C0 dX7_perform_72 rfl rfl rfl ?_
      refine x_iload_n 2 74 C0 dX7_perform_73 rfl rfl rfl ?_
      refine x_iload_n 1 75 C0 dX7_perform_74 rfl rfl rfl ?_
      refine x_icmp_ne 82 78 C0 dX7_perform_75 rfl (by decide) (fun c14 => ?_) (fun c14 => ?_)
      · refine x_iconst (v := 0) 83 C0 dX7_perform_82 rfl (by decide) ?_
        refine x_callV 86 C0 (k_X7_conclude l hl g _ _ _ x13 la13 t11 tt6 vb6 sg5 hC13 0) dX7_perform_83 rfl mC_X7_conclude mM_X7_53 mI_X7_conclude mV_X7_conclude mN_X7 yd_X7_conclude rfl rfl ⟨Nat.le_of_ble_eq_true rfl, Nat.le_of_ble_eq_true rfl⟩ hC13.1.1 rfl rfl rfl rfl (Nat.le_of_ble_eq_true rfl) ⟨Nat.le_of_ble_eq_true rfl, Nat.le_of_ble_eq_true rfl⟩ (fun E9 w9 sz9 q => by obtain ⟨rfl, rfl, h9, hno9⟩ := q; exact x_out C0 rfl (Nat.le_of_ble_eq_true rfl) (Nat.le_of_ble_eq_true rfl) ⟨by decide, (hC13.grow h9).ci, hF13, by omega⟩) (fun r w1 sz1 hz hP => ?_)
        obtain ⟨wv15, hwv15⟩ : ∃ z, z = w1 := ⟨_, rfl⟩
        obtain ⟨rfl, t15, hC15, hG15, rfl, hb915, ht915⟩ := hP
        refine x_w hwv15.symm ?_
        rw [← hwv15] at hC15 hG15
        have hF15 : xFr g w wv15 sz := xFr.tr (sz1 := sv5) hF13 hG15 (by omega)
        refine x_st (st1 := []) rfl ?_
        refine x_iload_n 1 87 C0 dX7_perform_86 rfl rfl rfl ?_
        exact x_ireturn C0 dX7_perform_87 rfl rfl (Nat.le_of_ble_eq_true rfl) (Nat.le_of_ble_eq_true rfl) ⟨⟨_, rfl⟩, hC15.ci, hF15, by omega⟩
      · refine x_iconst (v := 1) 79 C0 dX7_perform_78 rfl (by decide) ?_
        refine x_goto 83 C0 dX7_perform_79 (by decide) ?_
        refine x_callV 86 C0 (k_X7_conclude l hl g _ _ _ x13 la13 t11 tt6 vb6 sg5 hC13 1) dX7_perform_83 rfl mC_X7_conclude mM_X7_53 mI_X7_conclude mV_X7_conclude mN_X7 yd_X7_conclude rfl rfl ⟨Nat.le_of_ble_eq_true rfl, Nat.le_of_ble_eq_true rfl⟩ hC13.1.1 rfl rfl rfl rfl (Nat.le_of_ble_eq_true rfl) ⟨Nat.le_of_ble_eq_true rfl, Nat.le_of_ble_eq_true rfl⟩ (fun E9 w9 sz9 q => by obtain ⟨rfl, rfl, h9, hno9⟩ := q; exact x_out C0 rfl (Nat.le_of_ble_eq_true rfl) (Nat.le_of_ble_eq_true rfl) ⟨by decide, (hC13.grow h9).ci, hF13, by omega⟩) (fun r w1 sz1 hz hP => ?_)
        obtain ⟨wv16, hwv16⟩ : ∃ z, z = w1 := ⟨_, rfl⟩
        obtain ⟨rfl, t16, hC16, hG16, rfl, hb916, ht916⟩ := hP
        refine x_w hwv16.symm ?_
        rw [← hwv16] at hC16 hG16
        have hF16 : xFr g w wv16 sz := xFr.tr (sz1 := sv5) hF13 hG16 (by omega)
        refine x_st (st1 := []) rfl ?_
        refine x_iload_n 1 87 C0 dX7_perform_86 rfl rfl rfl ?_
        exact x_ireturn C0 dX7_perform_87 rfl rfl (Nat.le_of_ble_eq_true rfl) (Nat.le_of_ble_eq_true rfl) ⟨⟨_, rfl⟩, hC16.ci, hF16, by omega⟩
  · have c3' := Int32.not_le.mp c3
    refine x_aload_n 0 13 C0 dX7_perform_12 rfl rfl rfl ?_
    refine x_getf (v := .ref (g.2 0 + 256)) 4 16 C0 dX7_perform_13 rfl hC2.1.1 rfl (by decide) inX7 mF_X7_33 rfl ?_
    refine x_callV 19 C0 (k_X2_clear l hl g _ _ (g.2 0 + 256) _ _ _ _ hC2.1.2.2.2.1 hC2.1.2.2.2.2 (Nat.le_add_right _ _) hC2.2.2.1 hC2.2.2.2.1) dX7_perform_16 rfl mC_X2_clear mM_X7_273 mI_X2_clear mV_X2_clear mN_X2 yd_X2_clear rfl rfl ⟨Nat.le_of_ble_eq_true rfl, Nat.le_of_ble_eq_true rfl⟩ hC2.1.2.2.2.1 rfl rfl rfl rfl (Nat.le_of_ble_eq_true rfl) ⟨Nat.le_of_ble_eq_true rfl, Nat.le_of_ble_eq_true rfl⟩ (fun _ _ _ q => False.elim q) (fun r w1 sz1 hz hP => ?_)
    obtain ⟨wv17, hwv17⟩ : ∃ z, z = w1 := ⟨_, rfl⟩
    refine x_w hwv17.symm ?_
    obtain ⟨rfl, tt17, vb17, hw17, hT17, hv17, rfl⟩ := hP
    rw [← hwv17] at hw17
    have hC17 : CR g wv17 sz 0 x la t tt17 vb17 sg := by rw [hw17]; exact hC2.setTx hT17 hv17
    have hF17 : xFr g w wv17 sz := xFr.tr (sz1 := sz) hF2 (by rw [hw17]; exact xFr.up (by omega)) (by omega)
    refine x_st (st1 := []) rfl ?_
    refine x_iload_n 1 20 C0 dX7_perform_19 rfl rfl rfl ?_
    exact x_ireturn C0 dX7_perform_20 rfl rfl (Nat.le_of_ble_eq_true rfl) (Nat.le_of_ble_eq_true rfl) ⟨⟨_, rfl⟩, hC17.ci, hF17, by omega⟩

set_option maxHeartbeats 4000000 in
set_option maxRecDepth 100000 in
theorem k_X7_undo (l : Launch) (hl : l.stackTraces = false) (g : xg_T) (w : xw_T) (sz n : Nat) (x : Nat → Nat → Int32) (la : Nat → Nat → Nat) (t tt : Nat → Int32) (vb : Option Nat) (sg : Nat → Int32) (hC : CR g w sz n x la t tt vb sg) : xM l g yX7_undo cX7_undo 1 (some .int) ({ frames := 6, cells := 8, slots := 64, locals := 83 }) 8 64 [.ref (g.2 0)] w sz (cPo g w sz n rI) (cXo g w sz n ["java/lang/IllegalStateException"]) := by
  have hz9 := hC.zz
  refine xM.of RX7 hl (by decide +kernel) rfl (Nat.le_of_ble_eq_true rfl) rfl ?_
  intro p e s m args below meth cD C0 hini
  refine x_aload_n 0 1 C0 dX7_undo_0 rfl rfl rfl ?_
  refine x_getf (v := .ref (g.2 0 + 47)) 3 4 C0 dX7_undo_1 rfl hC.1.1 rfl (by decide) inX7 mF_X7_26 rfl ?_
  refine x_aload_n 0 5 C0 dX7_undo_4 rfl rfl rfl ?_
  refine x_getf (v := .ref (g.2 0 + 1)) 0 8 C0 dX7_undo_5 rfl hC.1.1 rfl (by decide) inX7 mF_X7_10 rfl ?_
  refine x_callV 11 C0 (k_X3_takeBack l hl g _ _ _ x la t tt vb sg hC) dX7_undo_8 rfl mC_X3_takeBack mM_X7_285 mI_X3_takeBack mV_X3_takeBack mN_X3 yd_X3_takeBack rfl rfl ⟨Nat.le_of_ble_eq_true rfl, Nat.le_of_ble_eq_true rfl⟩ hC.1.2.1 rfl rfl rfl rfl (Nat.le_of_ble_eq_true rfl) ⟨Nat.le_of_ble_eq_true rfl, Nat.le_of_ble_eq_true rfl⟩ (fun _ _ _ q => False.elim q) (fun r w1 sz1 hz hP => ?_)
  obtain ⟨wv1, hwv1⟩ : ∃ z, z = w1 := ⟨_, rfl⟩
  obtain ⟨⟨b1, rfl, hb1⟩, x1, la1, t1, hC1, hG1, rfl, hXX1⟩ := hP
  refine x_w hwv1.symm ?_
  rw [← hwv1] at hC1 hG1
  have hF1 : xFr g w wv1 sz := xFr.tr (sz1 := sz) xFr.rf hG1 (by omega)
  refine x_st (st1 := [.int b1]) rfl ?_
  refine x_if_ne 25 14 C0 dX7_undo_11 rfl (by decide) (fun c2 => ?_) (fun c2 => ?_)
  · refine x_aload_n 0 26 C0 dX7_undo_25 rfl rfl rfl ?_
    refine x_getf (v := .ref (g.2 0 + 47)) 3 29 C0 dX7_undo_26 rfl hC1.1.1 rfl (by decide) inX7 mF_X7_26 rfl ?_
    refine x_getf (v := .int (t1 2)) 2 32 C0 dX7_undo_29 rfl hC1.1.2.1 rfl (by decide) inX3 mF_X7_256 rfl ?_
    exact x_ireturn C0 dX7_undo_32 rfl rfl (Nat.le_of_ble_eq_true rfl) (Nat.le_of_ble_eq_true rfl) ⟨⟨_, rfl⟩, hC1.ci, hF1, by omega⟩
  · exact x_throwSW xNames C0 dX7_undo_14 dX7_undo_17 dX7_undo_18 dX7_undo_21 dX7_undo_24 rfl rfl rfl rfl (by decide +kernel) (by decide +kernel) mK_X7_265 mN_IllegalStateException (xs_ldc C0.2.2.2.2.2.2.2.1.2.2 (RX7, 289, "there is no change to take back", 148) (by decide +kernel)) (xhat C0 xg_ise xh_ise (by decide +kernel)) xo_ise (xs_us C0.2.2.2.2.2.2.2.1.2.2) (xs_su C0.2.2.2.2.2.2.2.1.2.2) rfl (Nat.le_of_ble_eq_true rfl) (Nat.le_of_ble_eq_true rfl) (Nat.le_of_ble_eq_true rfl) (Nat.le_of_ble_eq_true rfl) (Nat.le_of_ble_eq_true rfl) (Nat.le_of_ble_eq_true rfl) (fun sz9 h9 => ⟨by decide, (hC1.grow h9).ci, hF1, by omega⟩)

set_option maxHeartbeats 4000000 in
set_option maxRecDepth 100000 in
theorem k_X7_save (l : Launch) (hl : l.stackTraces = false) (g : xg_T) (w : xw_T) (sz n : Nat) (x : Nat → Nat → Int32) (la : Nat → Nat → Nat) (t tt : Nat → Int32) (vb : Option Nat) (sg : Nat → Int32) (hC : CR g w sz n x la t tt vb sg) : xM l g yX7_save cX7_save 1 (some .int) ({ frames := 2, cells := 8, slots := 64, locals := 62 }) 8 64 [.ref (g.2 0)] w sz (cPo g w sz n rI) (fun _ _ _ => False) := by
  have hz9 := hC.zz
  refine xM.of RX7 hl (by decide +kernel) rfl (Nat.le_of_ble_eq_true rfl) rfl ?_
  intro p e s m args below meth cD C0 hini
  refine x_aload_n 0 1 C0 dX7_save_0 rfl rfl rfl ?_
  refine x_getf (v := .ref (g.2 0 + 24)) 1 4 C0 dX7_save_1 rfl hC.1.1 rfl (by decide) inX7 mF_X7_16 rfl ?_
  refine x_aload_n 0 5 C0 dX7_save_4 rfl rfl rfl ?_
  refine x_getf (v := .ref (g.2 0 + 1)) 0 8 C0 dX7_save_5 rfl hC.1.1 rfl (by decide) inX7 mF_X7_10 rfl ?_
  refine x_callV 11 C0 (k_X4_copyFrom l hl g _ _ _ _ _ hC.hs (by show g.2 0 ≤ _; omega) _ _ _ hC.h0 (by omega) hC.k0.lined) dX7_save_8 rfl mC_X4_copyFrom mM_X7_291 mI_X4_copyFrom mV_X4_copyFrom mN_X4 yd_X4_copyFrom rfl rfl ⟨Nat.le_of_ble_eq_true rfl, Nat.le_of_ble_eq_true rfl⟩ (HR.ho hC.hs) rfl rfl rfl rfl (Nat.le_of_ble_eq_true rfl) ⟨Nat.le_of_ble_eq_true rfl, Nat.le_of_ble_eq_true rfl⟩ (fun _ _ _ q => False.elim q) (fun r w1 sz1 hz hP => ?_)
  obtain ⟨rfl, hw1, rfl⟩ := hP
  obtain ⟨w1, hv1⟩ : ∃ z, z = w1 := ⟨_, rfl⟩
  refine x_w hv1.symm ?_
  rw [← hv1] at hw1
  obtain ⟨x2, la2, hx2, hla2, hC2⟩ : ∃ x2 la2, x2 = va_up x 1 (cpX (x 1) (x 0)) ∧ la2 = va_up la 1 (la 0) ∧ CR g w1 sz n x2 la2 t tt vb sg := ⟨_, _, rfl, rfl, by rw [hw1]; exact hC.set1 hC.k0.cp ((hC.2.1 0 (by omega)).2.2)⟩
  have hF2 : xFr g w w1 sz := xFr.tr (sz1 := sz) xFr.rf (by rw [hw1]; exact xFr.hw (by omega)) (by omega)
  refine x_st (st1 := []) rfl ?_
  refine x_aload_n 0 12 C0 dX7_save_11 rfl rfl rfl ?_
  refine x_iconst (v := 1) 13 C0 dX7_save_12 rfl (by decide) ?_
  refine x_putf 2 16 C0 dX7_save_13 rfl hC2.1.1 (Nat.le_refl _) rfl (by decide) inX7 tyX7_ok nmX7 mF_X7_19 rfl rfl rfl rfl (Nat.le_of_ble_eq_true rfl) ?_
  obtain ⟨w3, hw3⟩ : ∃ z, z = xup w1 (g.2 0) (clE (g.2 0) (upd t 0 1)) := ⟨_, rfl⟩
  refine x_w (w1 := w3) (by rw [hw3]; rfl) ?_
  obtain ⟨t4, ht4, hC4⟩ : ∃ t4, t4 = (upd t 0 1) ∧ CR g w3 sz n x2 la2 t4 tt vb sg := ⟨_, rfl, by rw [hw3]; exact hC2.setCl rfl rfl⟩
  have hF4 : xFr g w w3 sz := xFr.tr (sz1 := sz) hF2 (by rw [hw3]; exact xFr.up (by omega)) (by omega)
  refine x_aload_n 0 17 C0 dX7_save_16 rfl rfl rfl ?_
  refine x_getf (v := .ref (g.2 0 + 1)) 0 20 C0 dX7_save_17 rfl hC4.1.1 rfl (by decide) inX7 mF_X7_10 rfl ?_
  refine x_getf (v := .int (x2 0 0)) 5 23 C0 dX7_save_20 rfl (HR.ho hC4.h0) rfl (by decide) inX4 mF_X7_201 rfl ?_
  exact x_ireturn C0 dX7_save_23 rfl rfl (Nat.le_of_ble_eq_true rfl) (Nat.le_of_ble_eq_true rfl) ⟨⟨_, rfl⟩, hC4.ci, hF4, by omega⟩

set_option maxHeartbeats 4000000 in
set_option maxRecDepth 100000 in
theorem k_X7_restore (l : Launch) (hl : l.stackTraces = false) (g : xg_T) (w : xw_T) (sz n : Nat) (x : Nat → Nat → Int32) (la : Nat → Nat → Nat) (t tt : Nat → Int32) (vb : Option Nat) (sg : Nat → Int32) (hC : CR g w sz n x la t tt vb sg) : xM l g yX7_restore cX7_restore 1 (some .int) ({ frames := 6, cells := 8, slots := 64, locals := 82 }) 8 64 [.ref (g.2 0)] w sz (cPo g w sz n rI) (cXo g w sz n ["java/lang/IllegalStateException"]) := by
  have hz9 := hC.zz
  refine xM.of RX7 hl (by decide +kernel) rfl (Nat.le_of_ble_eq_true rfl) rfl ?_
  intro p e s m args below meth cD C0 hini
  refine x_aload_n 0 1 C0 dX7_restore_0 rfl rfl rfl ?_
  refine x_getf (v := .int (t 0)) 2 4 C0 dX7_restore_1 rfl hC.1.1 rfl (by decide) inX7 mF_X7_19 rfl ?_
  refine x_if_ne 18 7 C0 dX7_restore_4 rfl (by decide) (fun c1 => ?_) (fun c1 => ?_)
  · refine x_aload_n 0 19 C0 dX7_restore_18 rfl rfl rfl ?_
    refine x_getf (v := .ref (g.2 0 + 1)) 0 22 C0 dX7_restore_19 rfl hC.1.1 rfl (by decide) inX7 mF_X7_10 rfl ?_
    refine x_aload_n 0 23 C0 dX7_restore_22 rfl rfl rfl ?_
    refine x_getf (v := .ref (g.2 0 + 24)) 1 26 C0 dX7_restore_23 rfl hC.1.1 rfl (by decide) inX7 mF_X7_16 rfl ?_
    refine x_callV 29 C0 (k_X4_copyFrom l hl g _ _ _ _ _ hC.h0 (by show g.2 0 ≤ _; omega) _ _ _ hC.hs (by omega) (hC.2.1 1 (by omega)).2.1.lined) dX7_restore_26 rfl mC_X4_copyFrom mM_X7_291 mI_X4_copyFrom mV_X4_copyFrom mN_X4 yd_X4_copyFrom rfl rfl ⟨Nat.le_of_ble_eq_true rfl, Nat.le_of_ble_eq_true rfl⟩ (HR.ho hC.h0) rfl rfl rfl rfl (Nat.le_of_ble_eq_true rfl) ⟨Nat.le_of_ble_eq_true rfl, Nat.le_of_ble_eq_true rfl⟩ (fun _ _ _ q => False.elim q) (fun r w1 sz1 hz hP => ?_)
    obtain ⟨rfl, hw2, rfl⟩ := hP
    obtain ⟨w2, hv2⟩ : ∃ z, z = w1 := ⟨_, rfl⟩
    refine x_w hv2.symm ?_
    rw [← hv2] at hw2
    obtain ⟨x3, la3, hx3, hla3, hC3⟩ : ∃ x3 la3, x3 = va_up x 0 (cpX (x 0) (x 1)) ∧ la3 = va_up la 0 (la 1) ∧ CR g w2 sz n x3 la3 t tt vb sg := ⟨_, _, rfl, rfl, by rw [hw2]; exact hC.set0 ((hC.2.1 1 (by omega)).2.1).cp ((hC.2.1 1 (by omega)).2.2)⟩
    have hF3 : xFr g w w2 sz := xFr.tr (sz1 := sz) xFr.rf (by rw [hw2]; exact xFr.hw (by omega)) (by omega)
    refine x_st (st1 := []) rfl ?_
    refine x_aload_n 0 30 C0 dX7_restore_29 rfl rfl rfl ?_
    refine x_getf (v := .ref (g.2 0 + 47)) 3 33 C0 dX7_restore_30 rfl hC3.1.1 rfl (by decide) inX7 mF_X7_26 rfl ?_
    refine x_callV 36 C0 (k_X3_forget l hl g _ _ _ x3 la3 t tt vb sg hC3) dX7_restore_33 rfl mC_X3_forget mM_X7_296 mI_X3_forget mV_X3_forget mN_X3 yd_X3_forget rfl rfl ⟨Nat.le_of_ble_eq_true rfl, Nat.le_of_ble_eq_true rfl⟩ hC3.1.2.1 rfl rfl rfl rfl (Nat.le_of_ble_eq_true rfl) ⟨Nat.le_of_ble_eq_true rfl, Nat.le_of_ble_eq_true rfl⟩ (fun _ _ _ q => False.elim q) (fun r w1 sz1 hz hP => ?_)
    obtain ⟨wv4, hwv4⟩ : ∃ z, z = w1 := ⟨_, rfl⟩
    obtain ⟨rfl, t4, hC4, hG4, rfl, hXX4⟩ := hP
    refine x_w hwv4.symm ?_
    rw [← hwv4] at hC4 hG4
    have hF4 : xFr g w wv4 sz := xFr.tr (sz1 := sz) hF3 hG4 (by omega)
    refine x_st (st1 := []) rfl ?_
    refine x_aload_n 0 37 C0 dX7_restore_36 rfl rfl rfl ?_
    refine x_getf (v := .ref (g.2 0 + 1)) 0 40 C0 dX7_restore_37 rfl hC4.1.1 rfl (by decide) inX7 mF_X7_10 rfl ?_
    refine x_getf (v := .int (x3 0 0)) 5 43 C0 dX7_restore_40 rfl (HR.ho hC4.h0) rfl (by decide) inX4 mF_X7_201 rfl ?_
    exact x_ireturn C0 dX7_restore_43 rfl rfl (Nat.le_of_ble_eq_true rfl) (Nat.le_of_ble_eq_true rfl) ⟨⟨_, rfl⟩, hC4.ci, hF4, by omega⟩
  · exact x_throwSW xNames C0 dX7_restore_7 dX7_restore_10 dX7_restore_11 dX7_restore_14 dX7_restore_17 rfl rfl rfl rfl (by decide +kernel) (by decide +kernel) mK_X7_265 mN_IllegalStateException (xs_ldc C0.2.2.2.2.2.2.2.1.2.2 (RX7, 294, "nothing was saved", 149) (by decide +kernel)) (xhat C0 xg_ise xh_ise (by decide +kernel)) xo_ise (xs_us C0.2.2.2.2.2.2.2.1.2.2) (xs_su C0.2.2.2.2.2.2.2.1.2.2) rfl (Nat.le_of_ble_eq_true rfl) (Nat.le_of_ble_eq_true rfl) (Nat.le_of_ble_eq_true rfl) (Nat.le_of_ble_eq_true rfl) (Nat.le_of_ble_eq_true rfl) (Nat.le_of_ble_eq_true rfl) (fun sz9 h9 => ⟨by decide, (hC.grow h9).ci, xFr.rf, by omega⟩)

