set_option maxHeartbeats 4000000 in
set_option maxRecDepth 100000 in
theorem k_X3_spareRow (l : Launch) (hl : l.stackTraces = false) (g : xg_T) (w : xw_T) (sz n : Nat) (x : Nat → Nat → Int32) (la : Nat → Nat → Nat) (t tt : Nat → Int32) (vb : Option Nat) (sg : Nat → Int32) (hC : CR g w sz n x la t tt vb sg) : xM l g yX3_spareRow cX3_spareRow 1 (some (.object "TeaChests$House")) ({ frames := 1, cells := 0, slots := 0, locals := 22 }) 0 0 [.ref (g.2 0 + 47)] w sz (fun r w1 sz1 => (∃ j : Nat, j < 9 ∧ (∀ c : Nat, c < 2 ^ 31 → t 1 = nI c → j = c % 9) ∧ r = some (.ref (g.2 0 + 49 + 23 * j))) ∧ w = w1 ∧ sz = sz1) (fun _ _ _ => False) := by
  refine xM.of RX3 hl (by decide +kernel) rfl (Nat.le_of_ble_eq_true rfl) rfl ?_
  intro p e s m args below meth cD C0 hini
  refine x_aload_n 0 1 C0 dX3_spareRow_0 rfl rfl rfl ?_
  refine x_getf (v := .ref (g.2 0 + 48)) 0 4 C0 dX3_spareRow_1 rfl hC.1.2.1 rfl (by decide) inX3 mF_X3_13 rfl ?_
  refine x_aload_n 0 5 C0 dX3_spareRow_4 rfl rfl rfl ?_
  refine x_getf (v := .int (t 1)) 1 8 C0 dX3_spareRow_5 rfl hC.1.2.1 rfl (by decide) inX3 mF_X3_18 rfl ?_
  refine x_bipush (v := 9) 10 C0 dX3_spareRow_8 rfl (by decide) ?_
  refine x_callS 13 C0 (k_J9_floorMod_7cf53 l hl g _ _ (t 1)) dX3_spareRow_10 rfl mC_J9_floorMod_7cf53 mM_X3_22 mS_J9_floorMod_7cf53 mN_J9 yd_J9_floorMod_7cf53 rfl rfl ⟨Nat.le_of_ble_eq_true rfl, Nat.le_of_ble_eq_true rfl⟩ rfl rfl (Nat.le_of_ble_eq_true rfl) ⟨Nat.le_of_ble_eq_true rfl, Nat.le_of_ble_eq_true rfl⟩ (fun _ _ _ q => False.elim q) (fun r w1 sz1 hz hP => ?_)
  obtain ⟨⟨j, hj, rfl, hjc⟩, rfl, rfl⟩ := hP
  refine x_st (st1 := [.int (nI j), .ref (g.2 0 + 48)]) rfl ?_
  refine x_aald 6 14 C0 dX3_spareRow_13 rfl hC.1.2.2.1 rfl (vp_in_nI hj (by decide)) ?_
  refine x_st (st1 := [.ref (g.2 0 + 49 + 23 * j)]) (congrArg (· :: _) (rowRef hj)) ?_
  exact x_areturn C0 dX3_spareRow_14 rfl (Or.inl ⟨_, rfl⟩) (Or.inr ⟨_, rfl⟩) (Nat.le_of_ble_eq_true rfl) (Nat.le_of_ble_eq_true rfl) ⟨⟨j, hj, hjc, rfl⟩, rfl, rfl⟩

set_option maxHeartbeats 4000000 in
set_option maxRecDepth 100000 in
theorem k_X3_prepare (l : Launch) (hl : l.stackTraces = false) (g : xg_T) (w : xw_T) (sz n : Nat) (x : Nat → Nat → Int32) (la : Nat → Nat → Nat) (t tt : Nat → Int32) (vb : Option Nat) (sg : Nat → Int32) (hC : CR g w sz n x la t tt vb sg) : xM l g yX3_prepare cX3_prepare 2 none ({ frames := 2, cells := 0, slots := 0, locals := 62 }) 0 0 [.ref (g.2 0 + 47), .ref (g.2 0 + 1)] w sz (fun r w1 sz1 => r = none ∧ ∃ x' la', CR g w1 sz1 n x' la' t tt vb sg ∧ x' 0 = x 0 ∧ la' 0 = la 0 ∧ xFr g w w1 sz ∧ sz = sz1 ∧ ∃ j : Nat, j < 9 ∧ (∀ c : Nat, c < 2 ^ 31 → t 1 = nI c → j = c % 9) ∧ x' = va_up x (j + 2) (cpX (x (j + 2)) (x 0)) ∧ la' = va_up la (j + 2) (la 0)) (fun _ _ _ => False) := by
  have hz9 := hC.zz
  refine xM.of RX3 hl (by decide +kernel) rfl (Nat.le_of_ble_eq_true rfl) rfl ?_
  intro p e s m args below meth cD C0 hini
  refine x_aload_n 0 1 C0 dX3_prepare_0 rfl rfl rfl ?_
  refine x_callV 4 C0 (k_X3_spareRow l hl g _ _ _ x la t tt vb sg hC) dX3_prepare_1 rfl mC_X3_spareRow mM_X3_28 mI_X3_spareRow mV_X3_spareRow mN_X3 yd_X3_spareRow rfl rfl ⟨Nat.le_of_ble_eq_true rfl, Nat.le_of_ble_eq_true rfl⟩ hC.1.2.1 rfl rfl rfl rfl (Nat.le_of_ble_eq_true rfl) ⟨Nat.le_of_ble_eq_true rfl, Nat.le_of_ble_eq_true rfl⟩ (fun _ _ _ q => False.elim q) (fun r w1 sz1 hz hP => ?_)
  obtain ⟨⟨j, hj, hjc, rfl⟩, rfl, rfl⟩ := hP
  refine x_st (st1 := [.ref (g.2 0 + 49 + 23 * j)]) rfl ?_
  refine x_aload_n 1 5 C0 dX3_prepare_4 rfl rfl rfl ?_
  refine x_callV 8 C0 (k_X4_copyFrom l hl g _ _ _ _ _ (hC.hr hj) (by show g.2 0 ≤ _; omega) _ _ _ hC.h0 (by omega) hC.k0.lined) dX3_prepare_5 rfl mC_X4_copyFrom mM_X3_32 mI_X4_copyFrom mV_X4_copyFrom mN_X4 yd_X4_copyFrom rfl rfl ⟨Nat.le_of_ble_eq_true rfl, Nat.le_of_ble_eq_true rfl⟩ (HR.ho (hC.hr hj)) rfl rfl rfl rfl (Nat.le_of_ble_eq_true rfl) ⟨Nat.le_of_ble_eq_true rfl, Nat.le_of_ble_eq_true rfl⟩ (fun _ _ _ q => False.elim q) (fun r w1 sz1 hz hP => ?_)
  obtain ⟨rfl, hw1, rfl⟩ := hP
  obtain ⟨w1, hv1⟩ : ∃ z, z = w1 := ⟨_, rfl⟩
  refine x_w hv1.symm ?_
  rw [← hv1] at hw1
  have hx1 : ∀ z : Nat → Int32, va_up x (j + 2) z 0 = x 0 := fun z => va_up_ne _ _ (by omega)
  have hl1 : ∀ z : Nat → Nat, va_up la (j + 2) z 0 = la 0 := fun z => va_up_ne _ _ (by omega)
  obtain ⟨x1, la1, hxe1, hle1, hC1, hx01, hl01⟩ : ∃ x9 la9, x9 = va_up x (j + 2) (cpX (x (j + 2)) (x 0)) ∧ la9 = va_up la (j + 2) (la 0) ∧ CR g w1 sz n x9 la9 t tt vb sg ∧ x9 0 = x 0 ∧ la9 0 = la 0 := ⟨_, _, rfl, rfl, by rw [hw1]; exact hC.setr hj hC.k0.cp ((hC.2.1 0 (by omega)).2.2), hx1 _, hl1 _⟩
  have hF1 : xFr g w w1 sz := xFr.tr (sz1 := sz) xFr.rf (by rw [hw1]; exact xFr.hw (by omega)) (by omega)
  refine x_st (st1 := []) rfl ?_
  exact x_return C0 dX3_prepare_8 rfl (Nat.le_of_ble_eq_true rfl) (Nat.le_of_ble_eq_true rfl) ⟨rfl, _, _, hC1, hx01, hl01, hF1, rfl, j, hj, hjc, hxe1, hle1⟩

set_option maxHeartbeats 4000000 in
set_option maxRecDepth 100000 in
theorem k_X3_commit (l : Launch) (hl : l.stackTraces = false) (g : xg_T) (w : xw_T) (sz n : Nat) (x : Nat → Nat → Int32) (la : Nat → Nat → Nat) (t tt : Nat → Int32) (vb : Option Nat) (sg : Nat → Int32) (hC : CR g w sz n x la t tt vb sg) : xM l g yX3_commit cX3_commit 1 none ({ frames := 1, cells := 0, slots := 0, locals := 14 }) 0 0 [.ref (g.2 0 + 47)] w sz (fun r w1 sz1 => r = none ∧ ∃ t', CR g w1 sz1 n x la t' tt vb sg ∧ xFr g w w1 sz ∧ sz = sz1 ∧ t' = upd (upd t 1 (t 1 + 1)) 2 (if t 2 + 1 < 8 then t 2 + 1 else 8)) (fun _ _ _ => False) := by
  have hz9 := hC.zz
  refine xM.of RX3 hl (by decide +kernel) rfl (Nat.le_of_ble_eq_true rfl) rfl ?_
  intro p e s m args below meth cD C0 hini
  refine x_aload_n 0 1 C0 dX3_commit_0 rfl rfl rfl ?_
  refine x_dup 2 C0 dX3_commit_1 rfl rfl ?_
  refine x_getf (v := .int (t 1)) 1 5 C0 dX3_commit_2 rfl hC.1.2.1 rfl (by decide) inX3 mF_X3_18 rfl ?_
  refine x_iconst (v := 1) 6 C0 dX3_commit_5 rfl (by decide) ?_
  refine x_iadd 7 C0 dX3_commit_6 rfl ?_
  refine x_putf 1 10 C0 dX3_commit_7 rfl hC.1.2.1 (Nat.le_add_right _ _) rfl (by decide) inX3 tyX3_ok nmX3 mF_X3_18 rfl rfl rfl rfl (Nat.le_of_ble_eq_true rfl) ?_
  obtain ⟨w1, hw1⟩ : ∃ z, z = xup w (g.2 0 + 47) (hiE (g.2 0) (upd t 1 ((t 1) + 1))) := ⟨_, rfl⟩
  refine x_w (w1 := w1) (by rw [hw1]; rfl) ?_
  obtain ⟨t2, ht2, hC2⟩ : ∃ t2, t2 = (upd t 1 ((t 1) + 1)) ∧ CR g w1 sz n x la t2 tt vb sg := ⟨_, rfl, by rw [hw1]; exact hC.setHi rfl⟩
  have hF2 : xFr g w w1 sz := xFr.tr (sz1 := sz) xFr.rf (by rw [hw1]; exact xFr.up (by omega)) (by omega)
  refine x_aload_n 0 11 C0 dX3_commit_10 rfl rfl rfl ?_
  refine x_bipush (v := 8) 13 C0 dX3_commit_11 rfl (by decide) ?_
  refine x_aload_n 0 14 C0 dX3_commit_13 rfl rfl rfl ?_
  refine x_getf (v := .int (t2 2)) 2 17 C0 dX3_commit_14 rfl hC2.1.2.1 rfl (by decide) inX3 mF_X3_36 rfl ?_
  refine x_iconst (v := 1) 18 C0 dX3_commit_17 rfl (by decide) ?_
  refine x_iadd 19 C0 dX3_commit_18 rfl ?_
  refine x_mmin 22 C0 dX3_commit_19 rfl mM_X3_39 mS_Math_min mN_J9 mC_Math_min (Nat.le_of_ble_eq_true rfl) (Nat.le_of_ble_eq_true rfl) (Nat.le_of_ble_eq_true rfl) (Nat.le_of_ble_eq_true rfl) ?_
  refine x_putf 2 25 C0 dX3_commit_22 rfl hC2.1.2.1 (Nat.le_add_right _ _) rfl (by decide) inX3 tyX3_ok nmX3 mF_X3_36 rfl rfl rfl rfl (Nat.le_of_ble_eq_true rfl) ?_
  obtain ⟨w3, hw3⟩ : ∃ z, z = xup w1 (g.2 0 + 47) (hiE (g.2 0) (upd t2 2 (if (t2 2) + 1 < 8 then (t2 2) + 1 else 8))) := ⟨_, rfl⟩
  refine x_w (w1 := w3) (by rw [hw3]; rfl) ?_
  obtain ⟨t4, ht4, hC4⟩ : ∃ t4, t4 = (upd t2 2 (if (t2 2) + 1 < 8 then (t2 2) + 1 else 8)) ∧ CR g w3 sz n x la t4 tt vb sg := ⟨_, rfl, by rw [hw3]; exact hC2.setHi rfl⟩
  have hF4 : xFr g w w3 sz := xFr.tr (sz1 := sz) hF2 (by rw [hw3]; exact xFr.up (by omega)) (by omega)
  exact x_return C0 dX3_commit_25 rfl (Nat.le_of_ble_eq_true rfl) (Nat.le_of_ble_eq_true rfl) ⟨rfl, _, hC4, hF4, rfl, (by first | (rw [ht4, ht2]; done) | (rw [ht4, ht2]; rfl))⟩

set_option maxHeartbeats 4000000 in
set_option maxRecDepth 100000 in
theorem k_X3_forget (l : Launch) (hl : l.stackTraces = false) (g : xg_T) (w : xw_T) (sz n : Nat) (x : Nat → Nat → Int32) (la : Nat → Nat → Nat) (t tt : Nat → Int32) (vb : Option Nat) (sg : Nat → Int32) (hC : CR g w sz n x la t tt vb sg) : xM l g yX3_forget cX3_forget 1 none ({ frames := 0, cells := 0, slots := 0, locals := 0 }) 0 0 [.ref (g.2 0 + 47)] w sz (fun r w1 sz1 => r = none ∧ ∃ t', CR g w1 sz1 n x la t' tt vb sg ∧ xFr g w w1 sz ∧ sz = sz1 ∧ t' = upd t 2 0) (fun _ _ _ => False) := by
  have hz9 := hC.zz
  refine xM.of RX3 hl (by decide +kernel) rfl (Nat.le_of_ble_eq_true rfl) rfl ?_
  intro p e s m args below meth cD C0 hini
  refine x_aload_n 0 1 C0 dX3_forget_0 rfl rfl rfl ?_
  refine x_iconst (v := 0) 2 C0 dX3_forget_1 rfl (by decide) ?_
  refine x_putf 2 5 C0 dX3_forget_2 rfl hC.1.2.1 (Nat.le_add_right _ _) rfl (by decide) inX3 tyX3_ok nmX3 mF_X3_36 rfl rfl rfl rfl (Nat.le_of_ble_eq_true rfl) ?_
  obtain ⟨w1, hw1⟩ : ∃ z, z = xup w (g.2 0 + 47) (hiE (g.2 0) (upd t 2 0)) := ⟨_, rfl⟩
  refine x_w (w1 := w1) (by rw [hw1]; rfl) ?_
  obtain ⟨t2, ht2, hC2⟩ : ∃ t2, t2 = (upd t 2 0) ∧ CR g w1 sz n x la t2 tt vb sg := ⟨_, rfl, by rw [hw1]; exact hC.setHi rfl⟩
  have hF2 : xFr g w w1 sz := xFr.tr (sz1 := sz) xFr.rf (by rw [hw1]; exact xFr.up (by omega)) (by omega)
  exact x_return C0 dX3_forget_5 rfl (Nat.le_of_ble_eq_true rfl) (Nat.le_of_ble_eq_true rfl) ⟨rfl, _, hC2, hF2, rfl, (by first | (rw [ht2]; done) | (rw [ht2]; rfl))⟩

set_option maxHeartbeats 4000000 in
set_option maxRecDepth 100000 in
theorem k_X3_dropPrepared (l : Launch) (hl : l.stackTraces = false) (g : xg_T) (w : xw_T) (sz n : Nat) (x : Nat → Nat → Int32) (la : Nat → Nat → Nat) (t tt : Nat → Int32) (vb : Option Nat) (sg : Nat → Int32) (hC : CR g w sz n x la t tt vb sg) : xM l g yX3_dropPrepared cX3_dropPrepared 2 none ({ frames := 2, cells := 0, slots := 0, locals := 62 }) 0 0 [.ref (g.2 0 + 47), .ref (g.2 0 + 1)] w sz (fun r w1 sz1 => r = none ∧ ∃ x' la' t', CR g w1 sz1 n x' la' t' tt vb sg ∧ xFr g w w1 sz ∧ sz = sz1 ∧ t' = t ∧ ∃ j : Nat, j < 9 ∧ (∀ c : Nat, c < 2 ^ 31 → t 1 = nI c → j = c % 9) ∧ x' = va_up x 0 (cpX (x 0) (x (j + 2))) ∧ la' = va_up la 0 (la (j + 2))) (fun _ _ _ => False) := by
  have hz9 := hC.zz
  refine xM.of RX3 hl (by decide +kernel) rfl (Nat.le_of_ble_eq_true rfl) rfl ?_
  intro p e s m args below meth cD C0 hini
  refine x_aload_n 1 1 C0 dX3_dropPrepared_0 rfl rfl rfl ?_
  refine x_aload_n 0 2 C0 dX3_dropPrepared_1 rfl rfl rfl ?_
  refine x_callV 5 C0 (k_X3_spareRow l hl g _ _ _ x la t tt vb sg hC) dX3_dropPrepared_2 rfl mC_X3_spareRow mM_X3_28 mI_X3_spareRow mV_X3_spareRow mN_X3 yd_X3_spareRow rfl rfl ⟨Nat.le_of_ble_eq_true rfl, Nat.le_of_ble_eq_true rfl⟩ hC.1.2.1 rfl rfl rfl rfl (Nat.le_of_ble_eq_true rfl) ⟨Nat.le_of_ble_eq_true rfl, Nat.le_of_ble_eq_true rfl⟩ (fun _ _ _ q => False.elim q) (fun r w1 sz1 hz hP => ?_)
  obtain ⟨⟨j, hj, hjc, rfl⟩, rfl, rfl⟩ := hP
  refine x_st (st1 := [.ref (g.2 0 + 49 + 23 * j), .ref (g.2 0 + 1)]) rfl ?_
  refine x_callV 8 C0 (k_X4_copyFrom l hl g _ _ _ _ _ hC.h0 (by show g.2 0 ≤ _; omega) _ _ _ (hC.hr hj) (by omega) (hC.2.1 (j + 2) (by omega)).2.1.lined) dX3_dropPrepared_5 rfl mC_X4_copyFrom mM_X3_32 mI_X4_copyFrom mV_X4_copyFrom mN_X4 yd_X4_copyFrom rfl rfl ⟨Nat.le_of_ble_eq_true rfl, Nat.le_of_ble_eq_true rfl⟩ (HR.ho hC.h0) rfl rfl rfl rfl (Nat.le_of_ble_eq_true rfl) ⟨Nat.le_of_ble_eq_true rfl, Nat.le_of_ble_eq_true rfl⟩ (fun _ _ _ q => False.elim q) (fun r w1 sz1 hz hP => ?_)
  obtain ⟨rfl, hw1, rfl⟩ := hP
  obtain ⟨w1, hv1⟩ : ∃ z, z = w1 := ⟨_, rfl⟩
  refine x_w hv1.symm ?_
  rw [← hv1] at hw1
  obtain ⟨x2, la2, hx2, hla2, hC2⟩ : ∃ x2 la2, x2 = va_up x 0 (cpX (x 0) (x (j + 2))) ∧ la2 = va_up la 0 (la (j + 2)) ∧ CR g w1 sz n x2 la2 t tt vb sg := ⟨_, _, rfl, rfl, by rw [hw1]; exact hC.set0 ((hC.2.1 (j + 2) (by omega)).2.1).cp ((hC.2.1 (j + 2) (by omega)).2.2)⟩
  have hF2 : xFr g w w1 sz := xFr.tr (sz1 := sz) xFr.rf (by rw [hw1]; exact xFr.hw (by omega)) (by omega)
  refine x_st (st1 := []) rfl ?_
  exact x_return C0 dX3_dropPrepared_8 rfl (Nat.le_of_ble_eq_true rfl) (Nat.le_of_ble_eq_true rfl) ⟨rfl, _, _, _, hC2, hF2, rfl, rfl, j, hj, hjc, hx2, hla2⟩

set_option maxHeartbeats 4000000 in
set_option maxRecDepth 100000 in
theorem k_X3_takeBack (l : Launch) (hl : l.stackTraces = false) (g : xg_T) (w : xw_T) (sz n : Nat) (x : Nat → Nat → Int32) (la : Nat → Nat → Nat) (t tt : Nat → Int32) (vb : Option Nat) (sg : Nat → Int32) (hC : CR g w sz n x la t tt vb sg) : xM l g yX3_takeBack cX3_takeBack 2 (some .boolean) ({ frames := 2, cells := 0, slots := 0, locals := 62 }) 0 0 [.ref (g.2 0 + 47), .ref (g.2 0 + 1)] w sz (fun r w1 sz1 => (∃ v : Int32, r = some (.int v) ∧ isB v) ∧ ∃ x' la' t', CR g w1 sz1 n x' la' t' tt vb sg ∧ xFr g w w1 sz ∧ sz = sz1 ∧ ((t 2 = 0 ∧ r = some (.int 0) ∧ x' = x ∧ la' = la ∧ t' = t) ∨ (¬ t 2 = 0 ∧ r = some (.int 1) ∧ t' = upd (upd t 2 (t 2 - 1)) 1 (t 1 - 1) ∧ ∃ j : Nat, j < 9 ∧ (∀ c : Nat, c < 2 ^ 31 → t 1 - 1 = nI c → j = c % 9) ∧ x' = va_up x 0 (cpX (x 0) (x (j + 2))) ∧ la' = va_up la 0 (la (j + 2))))) (fun _ _ _ => False) := by
  have hz9 := hC.zz
  refine xM.of RX3 hl (by decide +kernel) rfl (Nat.le_of_ble_eq_true rfl) rfl ?_
  intro p e s m args below meth cD C0 hini
  refine x_aload_n 0 1 C0 dX3_takeBack_0 rfl rfl rfl ?_
  refine x_getf (v := .int (t 2)) 2 4 C0 dX3_takeBack_1 rfl hC.1.2.1 rfl (by decide) inX3 mF_X3_36 rfl ?_
  refine x_if_ne 9 7 C0 dX3_takeBack_4 rfl (by decide) (fun c1 => ?_) (fun c1 => ?_)
  · refine x_aload_n 0 10 C0 dX3_takeBack_9 rfl rfl rfl ?_
    refine x_dup 11 C0 dX3_takeBack_10 rfl rfl ?_
    refine x_getf (v := .int (t 2)) 2 14 C0 dX3_takeBack_11 rfl hC.1.2.1 rfl (by decide) inX3 mF_X3_36 rfl ?_
    refine x_iconst (v := 1) 15 C0 dX3_takeBack_14 rfl (by decide) ?_
    refine x_isub 16 C0 dX3_takeBack_15 rfl ?_
    refine x_putf 2 19 C0 dX3_takeBack_16 rfl hC.1.2.1 (Nat.le_add_right _ _) rfl (by decide) inX3 tyX3_ok nmX3 mF_X3_36 rfl rfl rfl rfl (Nat.le_of_ble_eq_true rfl) ?_
    obtain ⟨w2, hw2⟩ : ∃ z, z = xup w (g.2 0 + 47) (hiE (g.2 0) (upd t 2 ((t 2) - 1))) := ⟨_, rfl⟩
    refine x_w (w1 := w2) (by rw [hw2]; rfl) ?_
    obtain ⟨t3, ht3, hC3⟩ : ∃ t3, t3 = (upd t 2 ((t 2) - 1)) ∧ CR g w2 sz n x la t3 tt vb sg := ⟨_, rfl, by rw [hw2]; exact hC.setHi rfl⟩
    have hF3 : xFr g w w2 sz := xFr.tr (sz1 := sz) xFr.rf (by rw [hw2]; exact xFr.up (by omega)) (by omega)
    refine x_aload_n 0 20 C0 dX3_takeBack_19 rfl rfl rfl ?_
    refine x_dup 21 C0 dX3_takeBack_20 rfl rfl ?_
    refine x_getf (v := .int (t3 1)) 1 24 C0 dX3_takeBack_21 rfl hC3.1.2.1 rfl (by decide) inX3 mF_X3_18 rfl ?_
    refine x_iconst (v := 1) 25 C0 dX3_takeBack_24 rfl (by decide) ?_
    refine x_isub 26 C0 dX3_takeBack_25 rfl ?_
    refine x_putf 1 29 C0 dX3_takeBack_26 rfl hC3.1.2.1 (Nat.le_add_right _ _) rfl (by decide) inX3 tyX3_ok nmX3 mF_X3_18 rfl rfl rfl rfl (Nat.le_of_ble_eq_true rfl) ?_
    obtain ⟨w4, hw4⟩ : ∃ z, z = xup w2 (g.2 0 + 47) (hiE (g.2 0) (upd t3 1 ((t3 1) - 1))) := ⟨_, rfl⟩
    refine x_w (w1 := w4) (by rw [hw4]; rfl) ?_
    obtain ⟨t5, ht5, hC5⟩ : ∃ t5, t5 = (upd t3 1 ((t3 1) - 1)) ∧ CR g w4 sz n x la t5 tt vb sg := ⟨_, rfl, by rw [hw4]; exact hC3.setHi rfl⟩
    have hF5 : xFr g w w4 sz := xFr.tr (sz1 := sz) hF3 (by rw [hw4]; exact xFr.up (by omega)) (by omega)
    refine x_aload_n 1 30 C0 dX3_takeBack_29 rfl rfl rfl ?_
    refine x_aload_n 0 31 C0 dX3_takeBack_30 rfl rfl rfl ?_
    refine x_callV 34 C0 (k_X3_spareRow l hl g _ _ _ x la t5 tt vb sg hC5) dX3_takeBack_31 rfl mC_X3_spareRow mM_X3_28 mI_X3_spareRow mV_X3_spareRow mN_X3 yd_X3_spareRow rfl rfl ⟨Nat.le_of_ble_eq_true rfl, Nat.le_of_ble_eq_true rfl⟩ hC5.1.2.1 rfl rfl rfl rfl (Nat.le_of_ble_eq_true rfl) ⟨Nat.le_of_ble_eq_true rfl, Nat.le_of_ble_eq_true rfl⟩ (fun _ _ _ q => False.elim q) (fun r w1 sz1 hz hP => ?_)
    obtain ⟨⟨j, hj, hjc, rfl⟩, rfl, rfl⟩ := hP
    refine x_st (st1 := [.ref (g.2 0 + 49 + 23 * j), .ref (g.2 0 + 1)]) rfl ?_
    refine x_callV 37 C0 (k_X4_copyFrom l hl g _ _ _ _ _ hC5.h0 (by show g.2 0 ≤ _; omega) _ _ _ (hC5.hr hj) (by omega) (hC5.2.1 (j + 2) (by omega)).2.1.lined) dX3_takeBack_34 rfl mC_X4_copyFrom mM_X3_32 mI_X4_copyFrom mV_X4_copyFrom mN_X4 yd_X4_copyFrom rfl rfl ⟨Nat.le_of_ble_eq_true rfl, Nat.le_of_ble_eq_true rfl⟩ (HR.ho hC5.h0) rfl rfl rfl rfl (Nat.le_of_ble_eq_true rfl) ⟨Nat.le_of_ble_eq_true rfl, Nat.le_of_ble_eq_true rfl⟩ (fun _ _ _ q => False.elim q) (fun r w1 sz1 hz hP => ?_)
    obtain ⟨rfl, hw6, rfl⟩ := hP
    obtain ⟨w6, hv6⟩ : ∃ z, z = w1 := ⟨_, rfl⟩
    refine x_w hv6.symm ?_
    rw [← hv6] at hw6
    obtain ⟨x7, la7, hx7, hla7, hC7⟩ : ∃ x7 la7, x7 = va_up x 0 (cpX (x 0) (x (j + 2))) ∧ la7 = va_up la 0 (la (j + 2)) ∧ CR g w6 sz n x7 la7 t5 tt vb sg := ⟨_, _, rfl, rfl, by rw [hw6]; exact hC5.set0 ((hC5.2.1 (j + 2) (by omega)).2.1).cp ((hC5.2.1 (j + 2) (by omega)).2.2)⟩
    have hF7 : xFr g w w6 sz := xFr.tr (sz1 := sz) hF5 (by rw [hw6]; exact xFr.hw (by omega)) (by omega)
    refine x_st (st1 := []) rfl ?_
    refine x_iconst (v := 1) 38 C0 dX3_takeBack_37 rfl (by decide) ?_
    exact x_ireturn C0 dX3_takeBack_38 rfl rfl (Nat.le_of_ble_eq_true rfl) (Nat.le_of_ble_eq_true rfl) ⟨⟨_, rfl, Or.inr rfl⟩, _, _, _, hC7, hF7, rfl, Or.inr ⟨c1, rfl, (by first | (rw [ht5, ht3]; done) | (rw [ht5, ht3]; rfl)), j, hj, fun c hc hx => hjc c hc (by rw [ht5, ht3]; exact hx), hx7, hla7⟩⟩
  · refine x_iconst (v := 0) 8 C0 dX3_takeBack_7 rfl (by decide) ?_
    exact x_ireturn C0 dX3_takeBack_8 rfl rfl (Nat.le_of_ble_eq_true rfl) (Nat.le_of_ble_eq_true rfl) ⟨⟨_, rfl, Or.inl rfl⟩, _, _, _, hC, xFr.rf, rfl, Or.inl ⟨c1, rfl, rfl, rfl, rfl⟩⟩

