/-! ONE COMMAND CARRIED OUT -/
theorem vo_inj {g : xg_T} {s : State} {H : Heap} (h : xS g s H) {i j : Nat} (hi : i < 8) (hj : j < 8) (e : g.2 (30 + i) = g.2 (30 + j)) : i = j := by
  obtain ⟨cf, k, i1, f, cell, h1, -, h3, -, h5, -⟩ := xs_vo h i hi
  obtain ⟨cf2, k2, i2, f2, cell2, g1, -, g3, -, g5, -⟩ := xs_vo h j hj
  have h9 := h1.symm.trans g1
  have e2 : (fun q => g.2 (30 + q)) i = (fun q => g.2 (30 + q)) j := e
  rw [e2] at h3
  have hc := Option.some.inj (h3.symm.trans g3)
  have hf := congrArg (fun z => z.2.2.2) (Option.some.inj h9)
  have hf : f = f2 := hf
  subst hc hf
  have := Option.some.inj (h5.symm.trans g5)
  exact (nI_eq (by omega) (by omega)).mp (Value.int.inj this)
def L_X7_carryOutRead (g : xg_T) (w1 : xw_T) (sz1 : Nat) (x : Nat → Nat → Int32) (la : Nat → Nat → Nat) (t : Nat → Int32) (tt : Nat → Int32) (ln : Nat → Nat) (lf : Nat → Nat → Int32) (iv : Nat) (r : Option Value) (x' : Nat → Nat → Int32) (la' : Nat → Nat → Nat) (t' : Nat → Int32) : Prop :=
  (∃ (k : Nat) (x6 : Nat → Nat → Int32) (x5 : Nat → Int32) (la6 : Nat → Nat → Nat) (b5 : Int32), (tt 3 = nI k) ∧ (nI k < x 0 3) ∧ (k < 20) ∧ (iv = 0) ∧ (x6 = va_up x 0 x5) ∧ (la6 = va_up la 0 (la 0)) ∧ (tri (lineOk (x 0) k) (lineX (x 0) k) (x 0) x5 (some (.int b5))) ∧ (r = some (.int b5)) ∧ (x' = x6) ∧ (la' = la6) ∧ (t' = t)) ∨
  (∃ (k : Nat), (tt 3 = nI k) ∧ (nI k < x 0 3) ∧ (k < 20) ∧ (iv = 1) ∧ (isLeafB (tt 4) (tt 5) = false) ∧ (r = some (.int 0)) ∧ (x' = x) ∧ (la' = la) ∧ (t' = t)) ∨
  (∃ (k : Nat) (x12 : Nat → Nat → Int32) (x11 : Nat → Int32) (la12 : Nat → Nat → Nat) (la11 : Nat → Nat) (b11 : Int32), (tt 3 = nI k) ∧ (nI k < x 0 3) ∧ (k < 20) ∧ (iv = 1) ∧ (isLeafB (tt 4) (tt 5) = true) ∧ (1 ≤ tt 6 ∧ tt 6 ≤ 50) ∧ (x12 = va_up x 0 x11) ∧ (la12 = va_up la 0 la11) ∧ ((fillOk (x 0) k (tt 4) (tt 5) (tt 6) ∧ some (Value.int b11) = some (Value.int 1) ∧ fillX (x 0) k (tt 4) (tt 5) (tt 6) = x11 ∧ va_up (la 0) k (g.2 100) = la11) ∨ (¬ (fillOk (x 0) k (tt 4) (tt 5) (tt 6)) ∧ some (Value.int b11) = some (Value.int 0) ∧ refd (x 0) x11 ∧ la 0 = la11)) ∧ (b11 = 0) ∧ (r = some (.int 0)) ∧ (x' = x12) ∧ (la' = la12) ∧ (t' = t)) ∨
  (∃ (k : Nat) (x12 : Nat → Nat → Int32) (x11 : Nat → Int32) (la12 : Nat → Nat → Nat) (la11 : Nat → Nat) (b11 : Int32), (tt 3 = nI k) ∧ (nI k < x 0 3) ∧ (k < 20) ∧ (iv = 1) ∧ (isLeafB (tt 4) (tt 5) = true) ∧ (1 ≤ tt 6 ∧ tt 6 ≤ 50) ∧ (x12 = va_up x 0 x11) ∧ (la12 = va_up la 0 la11) ∧ ((fillOk (x 0) k (tt 4) (tt 5) (tt 6) ∧ some (Value.int b11) = some (Value.int 1) ∧ fillX (x 0) k (tt 4) (tt 5) (tt 6) = x11 ∧ va_up (la 0) k (g.2 100) = la11) ∨ (¬ (fillOk (x 0) k (tt 4) (tt 5) (tt 6)) ∧ some (Value.int b11) = some (Value.int 0) ∧ refd (x 0) x11 ∧ la 0 = la11)) ∧ (¬ (b11 = 0)) ∧ (r = some (.int 1)) ∧ (x' = x12) ∧ (la' = la12) ∧ (t' = t)) ∨
  (∃ (k : Nat), (tt 3 = nI k) ∧ (nI k < x 0 3) ∧ (k < 20) ∧ (iv = 1) ∧ (isLeafB (tt 4) (tt 5) = true) ∧ (¬ (1 ≤ tt 6 ∧ tt 6 ≤ 50)) ∧ (r = some (.int 0)) ∧ (x' = x) ∧ (la' = la) ∧ (t' = t)) ∨
  (∃ (k : Nat) (x18 : Nat → Nat → Int32) (x17 : Nat → Int32) (la18 : Nat → Nat → Nat) (b17 : Int32), (tt 3 = nI k) ∧ (nI k < x 0 3) ∧ (k < 20) ∧ (iv = 2) ∧ (1 ≤ tt 6 ∧ tt 6 ≤ 8) ∧ (x18 = va_up x 0 x17) ∧ (la18 = va_up la 0 (la 0)) ∧ (tri (screwOk (x 0) k (tt 6)) (screwX (x 0) k (tt 6)) (x 0) x17 (some (.int b17))) ∧ (b17 = 0) ∧ (r = some (.int 0)) ∧ (x' = x18) ∧ (la' = la18) ∧ (t' = t)) ∨
  (∃ (k : Nat) (x18 : Nat → Nat → Int32) (x17 : Nat → Int32) (la18 : Nat → Nat → Nat) (b17 : Int32), (tt 3 = nI k) ∧ (nI k < x 0 3) ∧ (k < 20) ∧ (iv = 2) ∧ (1 ≤ tt 6 ∧ tt 6 ≤ 8) ∧ (x18 = va_up x 0 x17) ∧ (la18 = va_up la 0 (la 0)) ∧ (tri (screwOk (x 0) k (tt 6)) (screwX (x 0) k (tt 6)) (x 0) x17 (some (.int b17))) ∧ (¬ (b17 = 0)) ∧ (r = some (.int 1)) ∧ (x' = x18) ∧ (la' = la18) ∧ (t' = t)) ∨
  (∃ (k : Nat), (tt 3 = nI k) ∧ (nI k < x 0 3) ∧ (k < 20) ∧ (iv = 2) ∧ (¬ (1 ≤ tt 6 ∧ tt 6 ≤ 8)) ∧ (r = some (.int 0)) ∧ (x' = x) ∧ (la' = la) ∧ (t' = t)) ∨
  (∃ (k : Nat) (b21 : Int32) (xb21 : Nat → Nat → Int32) (lb21 : Nat → Nat → Nat), (tt 3 = nI k) ∧ (nI k < x 0 3) ∧ (k < 20) ∧ (iv = 3) ∧ (lbR g w1 sz1 x la k b21 xb21 lb21) ∧ (r = some (.int b21)) ∧ (x' = xb21) ∧ (la' = lb21) ∧ (t' = t)) ∨
  (∃ (k : Nat) (x24 : Nat → Nat → Int32) (x23 : Nat → Int32) (la24 : Nat → Nat → Nat) (b23 : Int32), (tt 3 = nI k) ∧ (nI k < x 0 3) ∧ (k < 20) ∧ (iv = 4) ∧ (x24 = va_up x 0 x23) ∧ (la24 = va_up la 0 (la 0)) ∧ (tri (quayOk (x 0) ln k) (quayX (x 0) k) (x 0) x23 (some (.int b23))) ∧ (r = some (.int b23)) ∧ (x' = x24) ∧ (la' = la24) ∧ (t' = t)) ∨
  (∃ (k : Nat) (x26 : Nat → Nat → Int32) (x25 : Nat → Int32) (la26 : Nat → Nat → Nat) (b25 : Int32), (tt 3 = nI k) ∧ (nI k < x 0 3) ∧ (k < 20) ∧ (iv = 5) ∧ (x26 = va_up x 0 x25) ∧ (la26 = va_up la 0 (la 0)) ∧ (tri (loadOk (x 0) k) (loadX (x 0) k) (x 0) x25 (some (.int b25))) ∧ (r = some (.int b25)) ∧ (x' = x26) ∧ (la' = la26) ∧ (t' = t)) ∨
  ((¬ iv = 6) ∧ (¬ iv = 7) ∧ (¬ (0 ≤ tt 3 ∧ tt 3 < x 0 3 ∧ tt 3 < 20)) ∧ (r = some (.int 0)) ∧ (x' = x) ∧ (la' = la) ∧ (t' = t)) ∨
  (∃ (nh : Nat) (x30 : Nat → Nat → Int32) (la30 : Nat → Nat → Nat), (¬ iv = 6) ∧ (iv = 7) ∧ (1 ≤ tt 6 ∧ tt 6 ≤ 72) ∧ (tt 6 = nI nh) ∧ (nh ≤ 72) ∧ (x30 = va_up x 0 (passN (x 0) nh)) ∧ (la30 = va_up la 0 (la 0)) ∧ (r = some (.int 1)) ∧ (x' = x30) ∧ (la' = la30) ∧ (t' = t)) ∨
  ((¬ iv = 6) ∧ (iv = 7) ∧ (¬ (1 ≤ tt 6 ∧ tt 6 ≤ 72)) ∧ (r = some (.int 0)) ∧ (x' = x) ∧ (la' = la) ∧ (t' = t)) ∨
  (∃ (x34 : Nat → Nat → Int32) (x33 : Nat → Int32) (la34 : Nat → Nat → Nat) (b33 : Int32), (iv = 6) ∧ (x34 = va_up x 0 x33) ∧ (la34 = va_up la 0 (la 0)) ∧ (tri (sailOk (x 0)) (sailX (x 0)) (x 0) x33 (some (.int b33))) ∧ (r = some (.int b33)) ∧ (x' = x34) ∧ (la' = la34) ∧ (t' = t))
set_option maxHeartbeats 4000000 in
set_option maxRecDepth 100000 in
theorem e_X7_carryOutRead (l : Launch) (hl : l.stackTraces = false) (g : xg_T) (w : xw_T) (sz n : Nat) (x : Nat → Nat → Int32) (la : Nat → Nat → Nat) (t tt : Nat → Int32) (vb : Option Nat) (sg : Nat → Int32) (hC : CR g w sz n x la t tt vb sg) (ln : Nat → Nat) (lf : Nat → Nat → Int32) (hL : ∀ k, k < 20 → xTx g w sz (la 0 k) (ln k) (lf k)) (iv : Nat) (hiv : iv < 8) (hvb : vb = some (g.2 (30 + iv))) : xM l g yX7_carryOutRead cX7_carryOutRead 3 (some .boolean) ({ frames := 8, cells := 4, slots := 40, locals := 193 }) 4 40 [.ref (g.2 0)] w sz (cQW g w sz n tt vb sg (fun w1 sz1 r x' la' t' => L_X7_carryOutRead g w1 sz1 x la t tt ln lf iv r x' la' t')) (fun _ _ _ => False) := by
  have hz9 := hC.zz
  refine xM.of RX7 hl (by decide +kernel) rfl (Nat.le_of_ble_eq_true rfl) rfl ?_
  intro p e s m args below meth cD C0 hini
  refine x_aload_n 0 1 C0 dX7_carryOutRead_0 rfl rfl rfl ?_
  refine x_getf (v := .ref (g.2 0 + 256)) 4 4 C0 dX7_carryOutRead_1 rfl hC.1.1 rfl (by decide) inX7 mF_X7_33 rfl ?_
  refine x_getf (v := va_rf vb) 4 7 C0 dX7_carryOutRead_4 rfl hC.1.2.2.2.1 rfl (by decide) inX2 mF_X7_337 rfl ?_
  refine x_st (st1 := [.ref (g.2 (30 + iv))]) (by rw [hvb]; rfl) ?_
  refine x_astore_n [(1, .ref (g.2 (30 + iv))), (0, .ref (g.2 0))] 8 C0 dX7_carryOutRead_7 rfl rfl (by decide) rfl ?_
  refine x_lv (lv1 := [(0, .ref (g.2 0)), (1, .ref (g.2 (30 + iv)))]) [1, 0] rfl ?_
  refine x_aload_n 1 9 C0 dX7_carryOutRead_8 rfl rfl rfl ?_
  refine x_gets 12 C0 dX7_carryOutRead_9 rfl (xs_sh C0.2.2.2.2.2.2.2.1.2.2).1 mF_X7_341 ?_
  refine x_acmp_ne (rx := some (g.2 (30 + iv))) (ry := some (g.2 36)) 23 15 C0 dX7_carryOutRead_12 rfl (by decide) (fun c1 => ?_) (fun c1 => ?_)
  · have hv6 : ¬ iv = 6 := fun e => c1 (by rw [e])
    refine x_aload_n 1 24 C0 dX7_carryOutRead_23 rfl rfl rfl ?_
    refine x_gets 27 C0 dX7_carryOutRead_24 rfl (xs_sh C0.2.2.2.2.2.2.2.1.2.2).2 mF_X7_346 ?_
    refine x_acmp_ne (rx := some (g.2 (30 + iv))) (ry := some (g.2 37)) 69 30 C0 dX7_carryOutRead_27 rfl (by decide) (fun c2 => ?_) (fun c2 => ?_)
    · have hv7 : ¬ iv = 7 := fun e => c2 (by rw [e])
      refine x_aload_n 0 70 C0 dX7_carryOutRead_69 rfl rfl rfl ?_
      refine x_getf (v := .ref (g.2 0 + 1)) 0 73 C0 dX7_carryOutRead_70 rfl hC.1.1 rfl (by decide) inX7 mF_X7_10 rfl ?_
      refine x_aload_n 0 74 C0 dX7_carryOutRead_73 rfl rfl rfl ?_
      refine x_getf (v := .ref (g.2 0 + 256)) 4 77 C0 dX7_carryOutRead_74 rfl hC.1.1 rfl (by decide) inX7 mF_X7_33 rfl ?_
      refine x_getf (v := .int (tt 3)) 5 80 C0 dX7_carryOutRead_77 rfl hC.1.2.2.2.1 rfl (by decide) inX2 mF_X7_352 rfl ?_
      refine x_callV 83 C0 (k_X4_find l hl g _ _ _ _ _ hC.h0 (tt 3)) dX7_carryOutRead_80 rfl mC_X4_find mM_X7_312 mI_X4_find mV_X4_find mN_X4 yd_X4_find rfl rfl ⟨Nat.le_of_ble_eq_true rfl, Nat.le_of_ble_eq_true rfl⟩ (HR.ho hC.h0) rfl rfl rfl rfl (Nat.le_of_ble_eq_true rfl) ⟨Nat.le_of_ble_eq_true rfl, Nat.le_of_ble_eq_true rfl⟩ (fun _ _ _ q => False.elim q) (fun r w1 sz1 hz hP => ?_)
      obtain ⟨hr, rfl, rfl⟩ := hP
      rcases hr with ⟨k, hk, hnk, hm, rfl⟩ | ⟨hno, rfl⟩
      · rw [hnk] at hm
        have hm0 := hm
        refine x_st (st1 := [.ref (g.2 0 + 1 + 3 + k)]) rfl ?_
        refine x_astore_n [(2, .ref (g.2 0 + 1 + 3 + k)), (0, .ref (g.2 0)), (1, .ref (g.2 (30 + iv)))] 84 C0 dX7_carryOutRead_83 rfl rfl (by decide) rfl ?_
        refine x_lv (lv1 := [(0, .ref (g.2 0)), (1, .ref (g.2 (30 + iv))), (2, .ref (g.2 0 + 1 + 3 + k))]) [1, 2, 0] rfl ?_
        refine x_aload_n 1 85 C0 dX7_carryOutRead_84 rfl rfl rfl ?_
        refine x_ifnull 88 C0 dX7_carryOutRead_85 rfl ?_
        refine x_aload_n 2 89 C0 dX7_carryOutRead_88 rfl rfl rfl ?_
        refine x_ifnonnull 94 C0 dX7_carryOutRead_89 (by decide) ?_
        refine x_gets 97 C0 dX7_carryOutRead_94 rfl (xs_map C0.2.2.2.2.2.2.2.1.2.2).1 mF_X7_355 ?_
        refine x_aload_n 1 98 C0 dX7_carryOutRead_97 rfl rfl rfl ?_
        refine x_callU 101 (x := ⟨RX6, "ordinal", "()I"⟩) (owner := RJx29ce0) (C := RX6) C0 (k_Jx29ce0_ordinal_8abf5 l hl g _ _ iv hiv) dX7_carryOutRead_98 rfl mC_Jx29ce0_ordinal_8abf5 mM_X7_361 mE_X6_Jx29ce0_ordinal_10780 mI_Jx29ce0_ordinal_8abf5 (C0.2.2.2.2.1 _ mV_X6_TeaChests_Verb_ordinal_Jx29ce0_ordinal_8abf5) (xDecl C0 mI_Jx29ce0_ordinal_8abf5 mC_Jx29ce0_ordinal_8abf5) mN_Jx29ce0 yd_Jx29ce0_ordinal_8abf5 rfl rfl ⟨Nat.le_of_ble_eq_true rfl, Nat.le_of_ble_eq_true rfl⟩ (xRecv.co ((xs_vc C0.2.2.2.2.2.2.2.1.2.2).1 iv hiv)) rfl rfl (Nat.le_of_ble_eq_true rfl) ⟨Nat.le_of_ble_eq_true rfl, Nat.le_of_ble_eq_true rfl⟩ (fun _ _ _ q => False.elim q) (fun r w1 sz1 hz hP => ?_)
        obtain ⟨rfl, rfl, rfl⟩ := hP
        refine x_st (st1 := [.int (nI iv), .ref (g.2 12)]) rfl ?_
        refine x_ti 102 C0 (v := .int (nI (iv + 1))) dX7_carryOutRead_101 rfl (xs_map C0.2.2.2.2.2.2.2.1.2.2).2 (vp_in_nI hiv (by decide)) (by rw [nI_clamp (by omega)]) ?_
        obtain ⟨o3, ho3⟩ : ∃ z : Int32, z = nI (iv + 1) := ⟨_, rfl⟩
        refine x_st (st1 := [.int o3]) (by rw [ho3]) ?_
        have hx9 : o3.toInt = (iv : Int) + 1 := by rw [ho3, nI_toInt (by omega)]; omega
        have hs4 : iv = 0 ∨ iv = 1 ∨ iv = 2 ∨ iv = 3 ∨ iv = 4 ∨ iv = 5 := by omega
        rcases hs4 with hs4 | hs4 | hs4 | hs4 | hs4 | hs4
        · refine x_tabIn 140 C0 dX7_carryOutRead_102 (by omega) (by omega) (by rw [show o3.toInt = 1 by omega]; rfl) (by decide) ?_
          refine x_aload_n 0 141 C0 dX7_carryOutRead_140 rfl rfl rfl ?_
          refine x_getf (v := .ref (g.2 0 + 1)) 0 144 C0 dX7_carryOutRead_141 rfl hC.1.1 rfl (by decide) inX7 mF_X7_10 rfl ?_
          refine x_aload_n 2 145 C0 dX7_carryOutRead_144 rfl rfl rfl ?_
          refine x_callV 148 C0 (k_X4_tryLine l hl g _ _ _ _ _ hC.h0 (Nat.le_add_right _ _) k hk) dX7_carryOutRead_145 rfl mC_X4_tryLine mM_X7_93 mI_X4_tryLine mV_X4_tryLine mN_X4 yd_X4_tryLine rfl rfl ⟨Nat.le_of_ble_eq_true rfl, Nat.le_of_ble_eq_true rfl⟩ (HR.ho hC.h0) rfl rfl rfl rfl (Nat.le_of_ble_eq_true rfl) ⟨Nat.le_of_ble_eq_true rfl, Nat.le_of_ble_eq_true rfl⟩ (fun _ _ _ q => False.elim q) (fun r w1 sz1 hz hP => ?_)
          obtain ⟨rfl, x5, hw5, hQ5⟩ := hP
          obtain ⟨hk5, b5, rfl, hb5⟩ := hQ5.ok (fun q => hC.k0.line hk) hC.k0
          obtain ⟨wv5, hwv5⟩ : ∃ z, z = w1 := ⟨_, rfl⟩
          refine x_w hwv5.symm ?_
          rw [← hwv5] at hw5
          obtain ⟨x6, la6, hx6, hla6, hC6⟩ : ∃ x6 la6, x6 = va_up x 0 x5 ∧ la6 = va_up la 0 (la 0) ∧ CR g wv5 sz n x6 la6 t tt vb sg := ⟨_, _, rfl, rfl, by rw [hw5]; exact hC.set0 hk5 hC.l0⟩
          have hF6 : xFr g w wv5 sz := xFr.tr (sz1 := sz) xFr.rf (by rw [hw5]; exact xFr.hw (by omega)) (by omega)
          refine x_st (st1 := [.int b5]) rfl ?_
          exact x_ireturn C0 dX7_carryOutRead_148 rfl (hb5.nar) (Nat.le_of_ble_eq_true rfl) (Nat.le_of_ble_eq_true rfl) ⟨⟨_, rfl⟩, hF6, by omega, _, _, _, hC6, (Or.inl ⟨k, x6, x5, la6, b5, hnk, hm0, hk, hs4, hx6, hla6, hQ5, rfl, rfl, rfl, rfl⟩)⟩
        · refine x_tabIn 149 C0 dX7_carryOutRead_102 (by omega) (by omega) (by rw [show o3.toInt = 2 by omega]; rfl) (by decide) ?_
          refine x_aload_n 0 150 C0 dX7_carryOutRead_149 rfl rfl rfl ?_
          refine x_getf (v := .ref (g.2 0 + 256)) 4 153 C0 dX7_carryOutRead_150 rfl hC.1.1 rfl (by decide) inX7 mF_X7_33 rfl ?_
          refine x_getf (v := .int (tt 4)) 6 156 C0 dX7_carryOutRead_153 rfl hC.1.2.2.2.1 rfl (by decide) inX2 mF_X7_364 rfl ?_
          refine x_aload_n 0 157 C0 dX7_carryOutRead_156 rfl rfl rfl ?_
          refine x_getf (v := .ref (g.2 0 + 256)) 4 160 C0 dX7_carryOutRead_157 rfl hC.1.1 rfl (by decide) inX7 mF_X7_33 rfl ?_
          refine x_getf (v := .int (tt 5)) 7 163 C0 dX7_carryOutRead_160 rfl hC.1.2.2.2.1 rfl (by decide) inX2 mF_X7_365 rfl ?_
          refine x_callS 166 C0 (k_X4_isLeaf l hl g _ _ (tt 4) (tt 5)) dX7_carryOutRead_163 rfl mC_X4_isLeaf mM_X7_304 mS_X4_isLeaf mN_X4 yd_X4_isLeaf rfl rfl ⟨Nat.le_of_ble_eq_true rfl, Nat.le_of_ble_eq_true rfl⟩ rfl rfl (Nat.le_of_ble_eq_true rfl) ⟨Nat.le_of_ble_eq_true rfl, Nat.le_of_ble_eq_true rfl⟩ (fun _ _ _ q => False.elim q) (fun r w1 sz1 hz hP => ?_)
          obtain ⟨rfl, rfl, rfl⟩ := hP
          cases hB9 : isLeafB (tt 4) (tt 5)
          · refine x_st (st1 := [.int 0]) rfl ?_
            refine x_if_eq 221 169 C0 dX7_carryOutRead_166 rfl (by decide) (fun _ => ?_) (fun q => False.elim (by revert q; decide))
            refine x_iconst (v := 0) 222 C0 dX7_carryOutRead_221 rfl (by decide) ?_
            exact x_ireturn C0 dX7_carryOutRead_222 rfl rfl (Nat.le_of_ble_eq_true rfl) (Nat.le_of_ble_eq_true rfl) ⟨⟨_, rfl⟩, xFr.rf, by omega, _, _, _, hC, (Or.inr (Or.inl ⟨k, hnk, hm0, hk, hs4, hB9, rfl, rfl, rfl, rfl⟩))⟩
          · refine x_st (st1 := [.int 1]) rfl ?_
            refine x_if_eq 221 169 C0 dX7_carryOutRead_166 rfl (by decide) (fun q => False.elim (by revert q; decide)) (fun _ => ?_)
            refine x_aload_n 0 170 C0 dX7_carryOutRead_169 rfl rfl rfl ?_
            refine x_getf (v := .ref (g.2 0 + 256)) 4 173 C0 dX7_carryOutRead_170 rfl hC.1.1 rfl (by decide) inX7 mF_X7_33 rfl ?_
            refine x_getf (v := .int (tt 6)) 8 176 C0 dX7_carryOutRead_173 rfl hC.1.2.2.2.1 rfl (by decide) inX2 mF_X7_349 rfl ?_
            refine x_iconst (v := 1) 177 C0 dX7_carryOutRead_176 rfl (by decide) ?_
            refine x_bipush (v := 50) 179 C0 dX7_carryOutRead_177 rfl (by decide) ?_
            refine x_callS 182 C0 (k_X7_isWithin l hl g _ _ (tt 6) 1 50) dX7_carryOutRead_179 rfl mC_X7_isWithin mM_X7_299 mS_X7_isWithin mN_X7 yd_X7_isWithin rfl rfl ⟨Nat.le_of_ble_eq_true rfl, Nat.le_of_ble_eq_true rfl⟩ rfl rfl (Nat.le_of_ble_eq_true rfl) ⟨Nat.le_of_ble_eq_true rfl, Nat.le_of_ble_eq_true rfl⟩ (fun _ _ _ q => False.elim q) (fun r w1 sz1 hz hP => ?_)
            obtain ⟨hr, rfl, rfl⟩ := hP
            rcases hr with ⟨rfl, ha9, hb9⟩ | ⟨rfl, hx9⟩
            · refine x_st (st1 := [.int 1]) rfl ?_
              refine x_if_eq 221 185 C0 dX7_carryOutRead_182 rfl (by decide) (fun q => False.elim (by revert q; decide)) (fun _ => ?_)
              refine x_aload_n 0 186 C0 dX7_carryOutRead_185 rfl rfl rfl ?_
              refine x_getf (v := .ref (g.2 0 + 1)) 0 189 C0 dX7_carryOutRead_186 rfl hC.1.1 rfl (by decide) inX7 mF_X7_10 rfl ?_
              refine x_aload_n 2 190 C0 dX7_carryOutRead_189 rfl rfl rfl ?_
              refine x_aload_n 0 191 C0 dX7_carryOutRead_190 rfl rfl rfl ?_
              refine x_getf (v := .ref (g.2 0 + 256)) 4 194 C0 dX7_carryOutRead_191 rfl hC.1.1 rfl (by decide) inX7 mF_X7_33 rfl ?_
              refine x_getf (v := .int (tt 4)) 6 197 C0 dX7_carryOutRead_194 rfl hC.1.2.2.2.1 rfl (by decide) inX2 mF_X7_364 rfl ?_
              refine x_aload_n 0 198 C0 dX7_carryOutRead_197 rfl rfl rfl ?_
              refine x_getf (v := .ref (g.2 0 + 256)) 4 201 C0 dX7_carryOutRead_198 rfl hC.1.1 rfl (by decide) inX7 mF_X7_33 rfl ?_
              refine x_getf (v := .int (tt 5)) 7 204 C0 dX7_carryOutRead_201 rfl hC.1.2.2.2.1 rfl (by decide) inX2 mF_X7_365 rfl ?_
              refine x_aload_n 0 205 C0 dX7_carryOutRead_204 rfl rfl rfl ?_
              refine x_getf (v := .ref (g.2 0 + 256)) 4 208 C0 dX7_carryOutRead_205 rfl hC.1.1 rfl (by decide) inX7 mF_X7_33 rfl ?_
              refine x_getf (v := .int (tt 6)) 8 211 C0 dX7_carryOutRead_208 rfl hC.1.2.2.2.1 rfl (by decide) inX2 mF_X7_349 rfl ?_
              have h19 := ha9
              have h59 := hb9
              refine x_callV 214 C0 (k_X4_tryFill l hl g _ _ _ _ _ hC.h0 (Nat.le_add_right _ _) k hk (tt 4) (tt 5) (tt 6)) dX7_carryOutRead_211 rfl mC_X4_tryFill mM_X7_97 mI_X4_tryFill mV_X4_tryFill mN_X4 yd_X4_tryFill rfl rfl ⟨Nat.le_of_ble_eq_true rfl, Nat.le_of_ble_eq_true rfl⟩ (HR.ho hC.h0) rfl rfl rfl rfl (Nat.le_of_ble_eq_true rfl) ⟨Nat.le_of_ble_eq_true rfl, Nat.le_of_ble_eq_true rfl⟩ (fun _ _ _ q => False.elim q) (fun r w1 sz1 hz hP => ?_)
              obtain ⟨rfl, x11, la11, hw11, hQ11⟩ := hP
              obtain ⟨hk11, hl11, b11, rfl, hb11⟩ : hok x11 ∧ lok g w sz la11 ∧ ∃ b : Int32, r = some (.int b) ∧ isB b := by
                rcases hQ11 with ⟨q, q2, rfl, rfl⟩ | ⟨-, q2, q3, rfl⟩
                · exact ⟨hC.k0.fill hk hm hB9 h19 h59 q, hC.l0.blank, 1, q2, Or.inr rfl⟩
                · exact ⟨hC.k0.refu q3, hC.l0, 0, q2, Or.inl rfl⟩
              obtain ⟨wv11, hwv11⟩ : ∃ z, z = w1 := ⟨_, rfl⟩
              refine x_w hwv11.symm ?_
              rw [← hwv11] at hw11
              obtain ⟨x12, la12, hx12, hla12, hC12⟩ : ∃ x12 la12, x12 = va_up x 0 x11 ∧ la12 = va_up la 0 la11 ∧ CR g wv11 sz n x12 la12 t tt vb sg := ⟨_, _, rfl, rfl, by rw [hw11]; exact hC.set0 hk11 hl11⟩
              have hF12 : xFr g w wv11 sz := xFr.tr (sz1 := sz) xFr.rf (by rw [hw11]; exact xFr.hw (by omega)) (by omega)
              refine x_st (st1 := [.int b11]) rfl ?_
              refine x_if_eq 221 217 C0 dX7_carryOutRead_214 rfl (by decide) (fun c13 => ?_) (fun c13 => ?_)
              · refine x_iconst (v := 0) 222 C0 dX7_carryOutRead_221 rfl (by decide) ?_
                exact x_ireturn C0 dX7_carryOutRead_222 rfl rfl (Nat.le_of_ble_eq_true rfl) (Nat.le_of_ble_eq_true rfl) ⟨⟨_, rfl⟩, hF12, by omega, _, _, _, hC12, (Or.inr (Or.inr (Or.inl ⟨k, x12, x11, la12, la11, b11, hnk, hm0, hk, hs4, hB9, ⟨ha9, hb9⟩, hx12, hla12, hQ11, c13, rfl, rfl, rfl, rfl⟩)))⟩
              · refine x_iconst (v := 1) 218 C0 dX7_carryOutRead_217 rfl (by decide) ?_
                refine x_goto 222 C0 dX7_carryOutRead_218 (by decide) ?_
                exact x_ireturn C0 dX7_carryOutRead_222 rfl rfl (Nat.le_of_ble_eq_true rfl) (Nat.le_of_ble_eq_true rfl) ⟨⟨_, rfl⟩, hF12, by omega, _, _, _, hC12, (Or.inr (Or.inr (Or.inr (Or.inl ⟨k, x12, x11, la12, la11, b11, hnk, hm0, hk, hs4, hB9, ⟨ha9, hb9⟩, hx12, hla12, hQ11, c13, rfl, rfl, rfl, rfl⟩))))⟩
            · refine x_st (st1 := [.int 0]) rfl ?_
              refine x_if_eq 221 185 C0 dX7_carryOutRead_182 rfl (by decide) (fun _ => ?_) (fun q => False.elim (by revert q; decide))
              refine x_iconst (v := 0) 222 C0 dX7_carryOutRead_221 rfl (by decide) ?_
              exact x_ireturn C0 dX7_carryOutRead_222 rfl rfl (Nat.le_of_ble_eq_true rfl) (Nat.le_of_ble_eq_true rfl) ⟨⟨_, rfl⟩, xFr.rf, by omega, _, _, _, hC, (Or.inr (Or.inr (Or.inr (Or.inr (Or.inl ⟨k, hnk, hm0, hk, hs4, hB9, hx9, rfl, rfl, rfl, rfl⟩)))))⟩
        · refine x_tabIn 223 C0 dX7_carryOutRead_102 (by omega) (by omega) (by rw [show o3.toInt = 3 by omega]; rfl) (by decide) ?_
          refine x_aload_n 0 224 C0 dX7_carryOutRead_223 rfl rfl rfl ?_
          refine x_getf (v := .ref (g.2 0 + 256)) 4 227 C0 dX7_carryOutRead_224 rfl hC.1.1 rfl (by decide) inX7 mF_X7_33 rfl ?_
          refine x_getf (v := .int (tt 6)) 8 230 C0 dX7_carryOutRead_227 rfl hC.1.2.2.2.1 rfl (by decide) inX2 mF_X7_349 rfl ?_
          refine x_iconst (v := 1) 231 C0 dX7_carryOutRead_230 rfl (by decide) ?_
          refine x_bipush (v := 8) 233 C0 dX7_carryOutRead_231 rfl (by decide) ?_
          refine x_callS 236 C0 (k_X7_isWithin l hl g _ _ (tt 6) 1 8) dX7_carryOutRead_233 rfl mC_X7_isWithin mM_X7_299 mS_X7_isWithin mN_X7 yd_X7_isWithin rfl rfl ⟨Nat.le_of_ble_eq_true rfl, Nat.le_of_ble_eq_true rfl⟩ rfl rfl (Nat.le_of_ble_eq_true rfl) ⟨Nat.le_of_ble_eq_true rfl, Nat.le_of_ble_eq_true rfl⟩ (fun _ _ _ q => False.elim q) (fun r w1 sz1 hz hP => ?_)
          obtain ⟨hr, rfl, rfl⟩ := hP
          rcases hr with ⟨rfl, ha15, hb15⟩ | ⟨rfl, hx15⟩
          · refine x_st (st1 := [.int 1]) rfl ?_
            refine x_if_eq 261 239 C0 dX7_carryOutRead_236 rfl (by decide) (fun q => False.elim (by revert q; decide)) (fun _ => ?_)
            refine x_aload_n 0 240 C0 dX7_carryOutRead_239 rfl rfl rfl ?_
            refine x_getf (v := .ref (g.2 0 + 1)) 0 243 C0 dX7_carryOutRead_240 rfl hC.1.1 rfl (by decide) inX7 mF_X7_10 rfl ?_
            refine x_aload_n 2 244 C0 dX7_carryOutRead_243 rfl rfl rfl ?_
            refine x_aload_n 0 245 C0 dX7_carryOutRead_244 rfl rfl rfl ?_
            refine x_getf (v := .ref (g.2 0 + 256)) 4 248 C0 dX7_carryOutRead_245 rfl hC.1.1 rfl (by decide) inX7 mF_X7_33 rfl ?_
            refine x_getf (v := .int (tt 6)) 8 251 C0 dX7_carryOutRead_248 rfl hC.1.2.2.2.1 rfl (by decide) inX2 mF_X7_349 rfl ?_
            refine x_callV 254 C0 (k_X4_tryScrew l hl g _ _ _ _ _ hC.h0 (Nat.le_add_right _ _) k hk (tt 6)) dX7_carryOutRead_251 rfl mC_X4_tryScrew mM_X7_113 mI_X4_tryScrew mV_X4_tryScrew mN_X4 yd_X4_tryScrew rfl rfl ⟨Nat.le_of_ble_eq_true rfl, Nat.le_of_ble_eq_true rfl⟩ (HR.ho hC.h0) rfl rfl rfl rfl (Nat.le_of_ble_eq_true rfl) ⟨Nat.le_of_ble_eq_true rfl, Nat.le_of_ble_eq_true rfl⟩ (fun _ _ _ q => False.elim q) (fun r w1 sz1 hz hP => ?_)
            obtain ⟨rfl, x17, hw17, hQ17⟩ := hP
            obtain ⟨hk17, b17, rfl, hb17⟩ := hQ17.ok (fun q => hC.k0.screw hk) hC.k0
            obtain ⟨wv17, hwv17⟩ : ∃ z, z = w1 := ⟨_, rfl⟩
            refine x_w hwv17.symm ?_
            rw [← hwv17] at hw17
            obtain ⟨x18, la18, hx18, hla18, hC18⟩ : ∃ x18 la18, x18 = va_up x 0 x17 ∧ la18 = va_up la 0 (la 0) ∧ CR g wv17 sz n x18 la18 t tt vb sg := ⟨_, _, rfl, rfl, by rw [hw17]; exact hC.set0 hk17 hC.l0⟩
            have hF18 : xFr g w wv17 sz := xFr.tr (sz1 := sz) xFr.rf (by rw [hw17]; exact xFr.hw (by omega)) (by omega)
            refine x_st (st1 := [.int b17]) rfl ?_
            refine x_if_eq 261 257 C0 dX7_carryOutRead_254 rfl (by decide) (fun c19 => ?_) (fun c19 => ?_)
            · refine x_iconst (v := 0) 262 C0 dX7_carryOutRead_261 rfl (by decide) ?_
              exact x_ireturn C0 dX7_carryOutRead_262 rfl rfl (Nat.le_of_ble_eq_true rfl) (Nat.le_of_ble_eq_true rfl) ⟨⟨_, rfl⟩, hF18, by omega, _, _, _, hC18, (Or.inr (Or.inr (Or.inr (Or.inr (Or.inr (Or.inl ⟨k, x18, x17, la18, b17, hnk, hm0, hk, hs4, ⟨ha15, hb15⟩, hx18, hla18, hQ17, c19, rfl, rfl, rfl, rfl⟩))))))⟩
            · refine x_iconst (v := 1) 258 C0 dX7_carryOutRead_257 rfl (by decide) ?_
              refine x_goto 262 C0 dX7_carryOutRead_258 (by decide) ?_
              exact x_ireturn C0 dX7_carryOutRead_262 rfl rfl (Nat.le_of_ble_eq_true rfl) (Nat.le_of_ble_eq_true rfl) ⟨⟨_, rfl⟩, hF18, by omega, _, _, _, hC18, (Or.inr (Or.inr (Or.inr (Or.inr (Or.inr (Or.inr (Or.inl ⟨k, x18, x17, la18, b17, hnk, hm0, hk, hs4, ⟨ha15, hb15⟩, hx18, hla18, hQ17, c19, rfl, rfl, rfl, rfl⟩)))))))⟩
          · refine x_st (st1 := [.int 0]) rfl ?_
            refine x_if_eq 261 239 C0 dX7_carryOutRead_236 rfl (by decide) (fun _ => ?_) (fun q => False.elim (by revert q; decide))
            refine x_iconst (v := 0) 262 C0 dX7_carryOutRead_261 rfl (by decide) ?_
            exact x_ireturn C0 dX7_carryOutRead_262 rfl rfl (Nat.le_of_ble_eq_true rfl) (Nat.le_of_ble_eq_true rfl) ⟨⟨_, rfl⟩, xFr.rf, by omega, _, _, _, hC, (Or.inr (Or.inr (Or.inr (Or.inr (Or.inr (Or.inr (Or.inr (Or.inl ⟨k, hnk, hm0, hk, hs4, hx15, rfl, rfl, rfl, rfl⟩))))))))⟩
        · refine x_tabIn 263 C0 dX7_carryOutRead_102 (by omega) (by omega) (by rw [show o3.toInt = 4 by omega]; rfl) (by decide) ?_
          refine x_aload_n 0 264 C0 dX7_carryOutRead_263 rfl rfl rfl ?_
          refine x_getf (v := .ref (g.2 0 + 1)) 0 267 C0 dX7_carryOutRead_264 rfl hC.1.1 rfl (by decide) inX7 mF_X7_10 rfl ?_
          refine x_aload_n 2 268 C0 dX7_carryOutRead_267 rfl rfl rfl ?_
          refine x_callV 271 C0 (k_X4_tryLabel l hl g _ _ _ _ _ hC.h0 (Nat.le_add_right _ _) k hk (hC.k0.filled hk) (by omega) (by omega)) dX7_carryOutRead_268 rfl mC_X4_tryLabel mM_X7_125 mI_X4_tryLabel mV_X4_tryLabel mN_X4 yd_X4_tryLabel rfl rfl ⟨Nat.le_of_ble_eq_true rfl, Nat.le_of_ble_eq_true rfl⟩ (HR.ho hC.h0) rfl rfl rfl rfl (Nat.le_of_ble_eq_true rfl) ⟨Nat.le_of_ble_eq_true rfl, Nat.le_of_ble_eq_true rfl⟩ (fun _ _ _ q => False.elim q) (fun r w1 sz1 hz hP => ?_)
          obtain ⟨b21, xb21, lb21, rfl, hb21, hC21, hG21, hz21, hLB21⟩ := CR.labelX hC hk hP
          obtain ⟨wv21, hwv21⟩ : ∃ z, z = w1 := ⟨_, rfl⟩
          refine x_w hwv21.symm ?_
          rw [← hwv21] at hC21 hG21 hLB21
          obtain ⟨sv21, hsv21⟩ : ∃ z, z = sz1 := ⟨_, rfl⟩
          rw [← hsv21] at hC21 hz21 hLB21 ⊢
          have hF21 : xFr g w wv21 sz := xFr.tr (sz1 := sz) xFr.rf hG21 (by omega)
          refine x_st (st1 := [.int b21]) rfl ?_
          exact x_ireturn C0 dX7_carryOutRead_271 rfl (hb21.nar) (Nat.le_of_ble_eq_true rfl) (Nat.le_of_ble_eq_true rfl) ⟨⟨_, rfl⟩, hF21, by omega, _, _, _, hC21, (Or.inr (Or.inr (Or.inr (Or.inr (Or.inr (Or.inr (Or.inr (Or.inr (Or.inl ⟨k, b21, xb21, lb21, hnk, hm0, hk, hs4, hLB21, rfl, rfl, rfl, rfl⟩)))))))))⟩
        · refine x_tabIn 272 C0 dX7_carryOutRead_102 (by omega) (by omega) (by rw [show o3.toInt = 5 by omega]; rfl) (by decide) ?_
          refine x_aload_n 0 273 C0 dX7_carryOutRead_272 rfl rfl rfl ?_
          refine x_getf (v := .ref (g.2 0 + 1)) 0 276 C0 dX7_carryOutRead_273 rfl hC.1.1 rfl (by decide) inX7 mF_X7_10 rfl ?_
          refine x_aload_n 2 277 C0 dX7_carryOutRead_276 rfl rfl rfl ?_
          have hL22 : ∀ k, k < 20 → xTx g w sz (la 0 k) (ln k) (lf k) := hL
          refine x_callV 280 C0 (k_X4_tryToQuay l hl g _ _ _ _ _ hC.h0 (Nat.le_add_right _ _) k hk ln lf (by omega) hL22) dX7_carryOutRead_277 rfl mC_X4_tryToQuay mM_X7_180 mI_X4_tryToQuay mV_X4_tryToQuay mN_X4 yd_X4_tryToQuay rfl rfl ⟨Nat.le_of_ble_eq_true rfl, Nat.le_of_ble_eq_true rfl⟩ (HR.ho hC.h0) rfl rfl rfl rfl (Nat.le_of_ble_eq_true rfl) ⟨Nat.le_of_ble_eq_true rfl, Nat.le_of_ble_eq_true rfl⟩ (fun _ _ _ q => False.elim q) (fun r w1 sz1 hz hP => ?_)
          obtain ⟨rfl, x23, hw23, hQ23⟩ := hP
          obtain ⟨hk23, b23, rfl, hb23⟩ := hQ23.ok (fun q => hC.k0.quay hk) hC.k0
          obtain ⟨wv23, hwv23⟩ : ∃ z, z = w1 := ⟨_, rfl⟩
          refine x_w hwv23.symm ?_
          rw [← hwv23] at hw23
          obtain ⟨x24, la24, hx24, hla24, hC24⟩ : ∃ x24 la24, x24 = va_up x 0 x23 ∧ la24 = va_up la 0 (la 0) ∧ CR g wv23 sz n x24 la24 t tt vb sg := ⟨_, _, rfl, rfl, by rw [hw23]; exact hC.set0 hk23 hC.l0⟩
          have hF24 : xFr g w wv23 sz := xFr.tr (sz1 := sz) xFr.rf (by rw [hw23]; exact xFr.hw (by omega)) (by omega)
          refine x_st (st1 := [.int b23]) rfl ?_
          exact x_ireturn C0 dX7_carryOutRead_280 rfl (hb23.nar) (Nat.le_of_ble_eq_true rfl) (Nat.le_of_ble_eq_true rfl) ⟨⟨_, rfl⟩, hF24, by omega, _, _, _, hC24, (Or.inr (Or.inr (Or.inr (Or.inr (Or.inr (Or.inr (Or.inr (Or.inr (Or.inr (Or.inl ⟨k, x24, x23, la24, b23, hnk, hm0, hk, hs4, hx24, hla24, hQ23, rfl, rfl, rfl, rfl⟩))))))))))⟩
        · refine x_tabIn 281 C0 dX7_carryOutRead_102 (by omega) (by omega) (by rw [show o3.toInt = 6 by omega]; rfl) (by decide) ?_
          refine x_aload_n 0 282 C0 dX7_carryOutRead_281 rfl rfl rfl ?_
          refine x_getf (v := .ref (g.2 0 + 1)) 0 285 C0 dX7_carryOutRead_282 rfl hC.1.1 rfl (by decide) inX7 mF_X7_10 rfl ?_
          refine x_aload_n 2 286 C0 dX7_carryOutRead_285 rfl rfl rfl ?_
          refine x_callV 289 C0 (k_X4_tryLoad l hl g _ _ _ _ _ hC.h0 (Nat.le_add_right _ _) k hk) dX7_carryOutRead_286 rfl mC_X4_tryLoad mM_X7_186 mI_X4_tryLoad mV_X4_tryLoad mN_X4 yd_X4_tryLoad rfl rfl ⟨Nat.le_of_ble_eq_true rfl, Nat.le_of_ble_eq_true rfl⟩ (HR.ho hC.h0) rfl rfl rfl rfl (Nat.le_of_ble_eq_true rfl) ⟨Nat.le_of_ble_eq_true rfl, Nat.le_of_ble_eq_true rfl⟩ (fun _ _ _ q => False.elim q) (fun r w1 sz1 hz hP => ?_)
          obtain ⟨rfl, x25, hw25, hQ25⟩ := hP
          obtain ⟨hk25, b25, rfl, hb25⟩ := hQ25.ok (fun q => hC.k0.load hk) hC.k0
          obtain ⟨wv25, hwv25⟩ : ∃ z, z = w1 := ⟨_, rfl⟩
          refine x_w hwv25.symm ?_
          rw [← hwv25] at hw25
          obtain ⟨x26, la26, hx26, hla26, hC26⟩ : ∃ x26 la26, x26 = va_up x 0 x25 ∧ la26 = va_up la 0 (la 0) ∧ CR g wv25 sz n x26 la26 t tt vb sg := ⟨_, _, rfl, rfl, by rw [hw25]; exact hC.set0 hk25 hC.l0⟩
          have hF26 : xFr g w wv25 sz := xFr.tr (sz1 := sz) xFr.rf (by rw [hw25]; exact xFr.hw (by omega)) (by omega)
          refine x_st (st1 := [.int b25]) rfl ?_
          exact x_ireturn C0 dX7_carryOutRead_289 rfl (hb25.nar) (Nat.le_of_ble_eq_true rfl) (Nat.le_of_ble_eq_true rfl) ⟨⟨_, rfl⟩, hF26, by omega, _, _, _, hC26, (Or.inr (Or.inr (Or.inr (Or.inr (Or.inr (Or.inr (Or.inr (Or.inr (Or.inr (Or.inr (Or.inl ⟨k, x26, x25, la26, b25, hnk, hm0, hk, hs4, hx26, hla26, hQ25, rfl, rfl, rfl, rfl⟩)))))))))))⟩
      · refine x_st (st1 := [.null]) rfl ?_
        refine x_astore_nN [(2, .null), (0, .ref (g.2 0)), (1, .ref (g.2 (30 + iv)))] 84 C0 dX7_carryOutRead_83 rfl rfl (by decide) rfl ?_
        refine x_lv (lv1 := [(0, .ref (g.2 0)), (1, .ref (g.2 (30 + iv))), (2, .null)]) [1, 2, 0] rfl ?_
        refine x_aload_n 1 85 C0 dX7_carryOutRead_84 rfl rfl rfl ?_
        refine x_ifnull 88 C0 dX7_carryOutRead_85 rfl ?_
        refine x_aload_nN 2 89 C0 dX7_carryOutRead_88 rfl rfl rfl ?_
        refine x_ifnonnullN 92 C0 dX7_carryOutRead_89 rfl ?_
        refine x_iconst (v := 0) 93 C0 dX7_carryOutRead_92 rfl (by decide) ?_
        exact x_ireturn C0 dX7_carryOutRead_93 rfl rfl (Nat.le_of_ble_eq_true rfl) (Nat.le_of_ble_eq_true rfl) ⟨⟨_, rfl⟩, xFr.rf, by omega, _, _, _, hC, (Or.inr (Or.inr (Or.inr (Or.inr (Or.inr (Or.inr (Or.inr (Or.inr (Or.inr (Or.inr (Or.inr (Or.inl ⟨hv6, hv7, hno, rfl, rfl, rfl, rfl⟩))))))))))))⟩
    · have hv7 : iv = 7 := vo_inj C0.2.2.2.2.2.2.2.1.2.2 hiv (by decide) (Option.some.inj c2)
      refine x_aload_n 0 31 C0 dX7_carryOutRead_30 rfl rfl rfl ?_
      refine x_getf (v := .ref (g.2 0 + 256)) 4 34 C0 dX7_carryOutRead_31 rfl hC.1.1 rfl (by decide) inX7 mF_X7_33 rfl ?_
      refine x_getf (v := .int (tt 6)) 8 37 C0 dX7_carryOutRead_34 rfl hC.1.2.2.2.1 rfl (by decide) inX2 mF_X7_349 rfl ?_
      refine x_iconst (v := 1) 38 C0 dX7_carryOutRead_37 rfl (by decide) ?_
      refine x_bipush (v := 72) 40 C0 dX7_carryOutRead_38 rfl (by decide) ?_
      refine x_callS 43 C0 (k_X7_isWithin l hl g _ _ (tt 6) 1 72) dX7_carryOutRead_40 rfl mC_X7_isWithin mM_X7_299 mS_X7_isWithin mN_X7 yd_X7_isWithin rfl rfl ⟨Nat.le_of_ble_eq_true rfl, Nat.le_of_ble_eq_true rfl⟩ rfl rfl (Nat.le_of_ble_eq_true rfl) ⟨Nat.le_of_ble_eq_true rfl, Nat.le_of_ble_eq_true rfl⟩ (fun _ _ _ q => False.elim q) (fun r w1 sz1 hz hP => ?_)
      obtain ⟨hr, rfl, rfl⟩ := hP
      rcases hr with ⟨rfl, ha27, hb27⟩ | ⟨rfl, hx27⟩
      · refine x_st (st1 := [.int 1]) rfl ?_
        refine x_if_eq 67 46 C0 dX7_carryOutRead_43 rfl (by decide) (fun q => False.elim (by revert q; decide)) (fun _ => ?_)
        refine x_aload_n 0 47 C0 dX7_carryOutRead_46 rfl rfl rfl ?_
        refine x_getf (v := .ref (g.2 0 + 1)) 0 50 C0 dX7_carryOutRead_47 rfl hC.1.1 rfl (by decide) inX7 mF_X7_10 rfl ?_
        refine x_aload_n 0 51 C0 dX7_carryOutRead_50 rfl rfl rfl ?_
        refine x_getf (v := .ref (g.2 0 + 256)) 4 54 C0 dX7_carryOutRead_51 rfl hC.1.1 rfl (by decide) inX7 mF_X7_33 rfl ?_
        refine x_getf (v := .int (tt 6)) 8 57 C0 dX7_carryOutRead_54 rfl hC.1.2.2.2.1 rfl (by decide) inX2 mF_X7_349 rfl ?_
        obtain ⟨nh, hnh9, -, hnh⟩ := i32_range (a := 1) (b := 72) rfl rfl (by omega) (by omega) ha27 hb27
        refine x_st (st1 := [.int (nI nh), .ref (g.2 0 + 1)]) (by rw [hnh9]) ?_
        refine x_callV 60 C0 (k_X4_letPass l hl g _ _ _ _ _ hC.h0 (Nat.le_add_right _ _) nh (by omega)) dX7_carryOutRead_57 rfl mC_X4_letPass mM_X7_207 mI_X4_letPass mV_X4_letPass mN_X4 yd_X4_letPass rfl rfl ⟨Nat.le_of_ble_eq_true rfl, Nat.le_of_ble_eq_true rfl⟩ (HR.ho hC.h0) rfl rfl rfl rfl (Nat.le_of_ble_eq_true rfl) ⟨Nat.le_of_ble_eq_true rfl, Nat.le_of_ble_eq_true rfl⟩ (fun _ _ _ q => False.elim q) (fun r w1 sz1 hz hP => ?_)
        obtain ⟨rfl, hw29, rfl⟩ := hP
        obtain ⟨wv29, hwv29⟩ : ∃ z, z = w1 := ⟨_, rfl⟩
        refine x_w hwv29.symm ?_
        rw [← hwv29] at hw29
        obtain ⟨x30, la30, hx30, hla30, hC30⟩ : ∃ x30 la30, x30 = va_up x 0 (passN (x 0) nh) ∧ la30 = va_up la 0 (la 0) ∧ CR g wv29 sz n x30 la30 t tt vb sg := ⟨_, _, rfl, rfl, by rw [hw29]; exact hC.set0 (hC.k0.passH nh) hC.l0⟩
        have hF30 : xFr g w wv29 sz := xFr.tr (sz1 := sz) xFr.rf (by rw [hw29]; exact xFr.hw (by omega)) (by omega)
        refine x_st (st1 := [.int 1]) rfl ?_
        refine x_if_eq 67 63 C0 dX7_carryOutRead_60 rfl (by decide) (fun q => False.elim (by revert q; decide)) (fun _ => ?_)
        refine x_iconst (v := 1) 64 C0 dX7_carryOutRead_63 rfl (by decide) ?_
        refine x_goto 68 C0 dX7_carryOutRead_64 (by decide) ?_
        exact x_ireturn C0 dX7_carryOutRead_68 rfl rfl (Nat.le_of_ble_eq_true rfl) (Nat.le_of_ble_eq_true rfl) ⟨⟨_, rfl⟩, hF30, by omega, _, _, _, hC30, (Or.inr (Or.inr (Or.inr (Or.inr (Or.inr (Or.inr (Or.inr (Or.inr (Or.inr (Or.inr (Or.inr (Or.inr (Or.inl ⟨nh, x30, la30, hv6, hv7, ⟨ha27, hb27⟩, hnh9, hnh, hx30, hla30, rfl, rfl, rfl, rfl⟩)))))))))))))⟩
      · refine x_st (st1 := [.int 0]) rfl ?_
        refine x_if_eq 67 46 C0 dX7_carryOutRead_43 rfl (by decide) (fun _ => ?_) (fun q => False.elim (by revert q; decide))
        refine x_iconst (v := 0) 68 C0 dX7_carryOutRead_67 rfl (by decide) ?_
        exact x_ireturn C0 dX7_carryOutRead_68 rfl rfl (Nat.le_of_ble_eq_true rfl) (Nat.le_of_ble_eq_true rfl) ⟨⟨_, rfl⟩, xFr.rf, by omega, _, _, _, hC, (Or.inr (Or.inr (Or.inr (Or.inr (Or.inr (Or.inr (Or.inr (Or.inr (Or.inr (Or.inr (Or.inr (Or.inr (Or.inr (Or.inl ⟨hv6, hv7, hx27, rfl, rfl, rfl, rfl⟩))))))))))))))⟩
  · have hv6 : iv = 6 := vo_inj C0.2.2.2.2.2.2.2.1.2.2 hiv (by decide) (Option.some.inj c1)
    refine x_aload_n 0 16 C0 dX7_carryOutRead_15 rfl rfl rfl ?_
    refine x_getf (v := .ref (g.2 0 + 1)) 0 19 C0 dX7_carryOutRead_16 rfl hC.1.1 rfl (by decide) inX7 mF_X7_10 rfl ?_
    refine x_callV 22 C0 (k_X4_trySail l hl g _ _ _ _ _ hC.h0 (Nat.le_add_right _ _)) dX7_carryOutRead_19 rfl mC_X4_trySail mM_X7_195 mI_X4_trySail mV_X4_trySail mN_X4 yd_X4_trySail rfl rfl ⟨Nat.le_of_ble_eq_true rfl, Nat.le_of_ble_eq_true rfl⟩ (HR.ho hC.h0) rfl rfl rfl rfl (Nat.le_of_ble_eq_true rfl) ⟨Nat.le_of_ble_eq_true rfl, Nat.le_of_ble_eq_true rfl⟩ (fun _ _ _ q => False.elim q) (fun r w1 sz1 hz hP => ?_)
    obtain ⟨rfl, x33, hw33, hQ33⟩ := hP
    obtain ⟨hk33, b33, rfl, hb33⟩ := hQ33.ok (fun q => hC.k0.sail) hC.k0
    obtain ⟨wv33, hwv33⟩ : ∃ z, z = w1 := ⟨_, rfl⟩
    refine x_w hwv33.symm ?_
    rw [← hwv33] at hw33
    obtain ⟨x34, la34, hx34, hla34, hC34⟩ : ∃ x34 la34, x34 = va_up x 0 x33 ∧ la34 = va_up la 0 (la 0) ∧ CR g wv33 sz n x34 la34 t tt vb sg := ⟨_, _, rfl, rfl, by rw [hw33]; exact hC.set0 hk33 hC.l0⟩
    have hF34 : xFr g w wv33 sz := xFr.tr (sz1 := sz) xFr.rf (by rw [hw33]; exact xFr.hw (by omega)) (by omega)
    refine x_st (st1 := [.int b33]) rfl ?_
    exact x_ireturn C0 dX7_carryOutRead_22 rfl (hb33.nar) (Nat.le_of_ble_eq_true rfl) (Nat.le_of_ble_eq_true rfl) ⟨⟨_, rfl⟩, hF34, by omega, _, _, _, hC34, (Or.inr (Or.inr (Or.inr (Or.inr (Or.inr (Or.inr (Or.inr (Or.inr (Or.inr (Or.inr (Or.inr (Or.inr (Or.inr (Or.inr (⟨x34, x33, la34, b33, hv6, hx34, hla34, hQ33, rfl, rfl, rfl, rfl⟩)))))))))))))))⟩

