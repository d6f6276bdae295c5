/-! THE REFERENCE: what it does with chests, leaves, hours, texts -/
theorem hgt_low {y : Int32} (h : ¬ 3 ≤ hgt y) : 0 ≤ y.toInt ∧ 4 ≤ y.toInt % 12 ∧ y.toInt % 12 ≤ 8 := by
  have h1 : (y / 12).toInt = y.toInt.tdiv 12 := Int32.toInt_div_of_ne_right y 12 (by decide)
  have l1 := Int32.le_toInt y
  have l2 := Int32.toInt_lt y
  have e := Int.tmod_add_tdiv_mul y.toInt 12
  have t1 := Int.tmod_lt_of_pos y.toInt (b := 12) (by decide)
  have t2 := Int.lt_tmod_of_pos y.toInt (b := 12) (by decide)
  have e12 : (12 : Int32).toInt = 12 := rfl
  have e6 : (6 : Int32).toInt = 6 := rfl
  have t3 : 0 ≤ y.toInt → 0 ≤ y.toInt.tmod 12 := Int.tmod_nonneg 12
  have t4 : y.toInt ≤ 0 → y.toInt.tmod 12 ≤ 0 := fun q => by
    have := Int.tmod_nonneg (a := -y.toInt) 12 (by omega)
    rw [Int.neg_tmod] at this
    omega
  have hm : (y - y / 12 * 12).toInt = y.toInt.tmod 12 := by
    rw [Int32.toInt_sub, Int32.toInt_mul, h1, e12]
    have b1 : (y.toInt.tdiv 12 * 12).bmod (2 ^ 32) = y.toInt.tdiv 12 * 12 := Int.bmod_eq_of_le (by omega) (by omega)
    rw [b1, show y.toInt - y.toInt.tdiv 12 * 12 = y.toInt.tmod 12 by omega]
    exact Int.bmod_eq_of_le (by omega) (by omega)
  have h6 : (6 - (y - y / 12 * 12)).toInt = 6 - y.toInt.tmod 12 := by
    rw [Int32.toInt_sub, hm, e6]
    exact Int.bmod_eq_of_le (by omega) (by omega)
  have hp : 0 ≤ y.toInt → y.toInt.tmod 12 = y.toInt % 12 := fun q => Int.tmod_eq_emod_of_nonneg q
  unfold hgt at h
  have e3 : (3 : Int32).toInt = 3 := rfl
  have e0 : (0 : Int32).toInt = 0 := rfl
  split at h
  · rename_i hc
    rw [Int32.lt_iff_toInt_lt, h6, e0] at hc
    rw [Int32.le_iff_toInt_le, Int32.toInt_neg, h6, e3] at h
    have : (-(6 - y.toInt.tmod 12)).bmod (2 ^ 32) = -(6 - y.toInt.tmod 12) := Int.bmod_eq_of_le (by omega) (by omega)
    rw [this] at h
    have h0 : 0 ≤ y.toInt := by omega
    have := hp h0
    omega
  · rename_i hc
    rw [Int32.lt_iff_toInt_lt, h6, e0] at hc
    rw [Int32.le_iff_toInt_le, h6, e3] at h
    by_cases h0 : 0 ≤ y.toInt
    · have := hp h0
      omega
    · have := t4 (by omega)
      omega
/-- how far the water is from a height that lets the ship be reached -/
def far (y : Int32) : Nat := if 3 ≤ hgt y then 0 else (9 - y.toInt % 12).toNat
theorem far_1 {y : Int32} (h : ¬ 3 ≤ hgt y) : far (y + 1) < far y := by
  obtain ⟨h0, h4, h8⟩ := hgt_low h
  have l2 := Int32.toInt_lt y
  have hy : far y = (9 - y.toInt % 12).toNat := if_neg h
  by_cases hz : 3 ≤ hgt (y + 1)
  · rw [show far (y + 1) = 0 from if_pos hz, hy]
    omega
  · have hy1 : far (y + 1) = (9 - (y + 1).toInt % 12).toNat := if_neg hz
    obtain ⟨g0, g4, g8⟩ := hgt_low hz
    have e1 : (1 : Int32).toInt = 1 := rfl
    have e : (y + 1).toInt = (y.toInt + 1).bmod (2 ^ 32) := by rw [Int32.toInt_add, e1]
    by_cases hb : y.toInt + 1 < 2 ^ 31
    · have e2 : (y.toInt + 1).bmod (2 ^ 32) = y.toInt + 1 := Int.bmod_eq_of_le (by omega) (by omega)
      rw [hy1, hy, e, e2]
      omega
    · have e3 : y.toInt + 1 = 2 ^ 31 := by omega
      rw [e3] at e
      have : (2 ^ 31 : Int).bmod (2 ^ 32) = -2 ^ 31 := by decide
      omega
def mX (g : xg_T) (w : xw_T) (sz n : Nat) (bf sv pa ip td sg : Nat → Int32) (R : Option Value → (Nat → Int32) → (Nat → Int32) → Prop) : Option Value → xw_T → Nat → Prop := fun r w1 sz1 => sz = sz1 ∧ ∃ t v lb, w1 = MW g w t v bf sv pa lb ip td sg ∧ MJ n t v bf sv pa sg ∧ R r t v
theorem le_pred {c : Int32} {m : Nat} (hm : m ≤ 20) (h0 : 0 ≤ c) (h : c < nI m) : c ≤ nI m - 1 := by
  obtain ⟨j, hj, rfl⟩ := nI_of (Int32.not_lt.mpr h0)
  have h1 := (nI_ltI hj (by omega)).mp h
  obtain ⟨q, rfl⟩ : ∃ q, m = q + 1 := ⟨m - 1, by omega⟩
  rw [nI_pred]
  exact (nI_leI hj (by omega)).mpr (by omega)
theorem leafB_f {ga ki : Int32} (h : ¬ (0 ≤ ga ∧ ga ≤ 5) ∨ ¬ (0 ≤ ki ∧ ki ≤ 2)) : isLeafB ga ki = false := by
  unfold isLeafB
  refine decide_eq_false (fun z => ?_)
  obtain ⟨z1, z2, z3, z4⟩ := z
  rw [Int32.le_iff_toInt_le] at z1 z3
  rw [Int32.lt_iff_toInt_lt] at z2 z4
  rw [Int32.le_iff_toInt_le, Int32.le_iff_toInt_le, Int32.le_iff_toInt_le, Int32.le_iff_toInt_le] at h
  have e0 : (0 : Int32).toInt = 0 := rfl
  have e2 : (2 : Int32).toInt = 2 := rfl
  have e3 : (3 : Int32).toInt = 3 := rfl
  have e5 : (5 : Int32).toInt = 5 := rfl
  have e6 : (6 : Int32).toInt = 6 := rfl
  omega
theorem leafB_t : ∀ a : Nat, a < 6 → ∀ b : Nat, b < 3 → isLeafB (nI a) (nI b) = true := by decide +kernel
def rTight (v : Nat → Int32) (k : Nat) : Prop := v (28 + 9 * k + 4) = 1 ∧ v (28 + 9 * k + 0) + 2 ≤ v (28 + 9 * k + 5)
def rWorth (v : Nat → Int32) (k : Nat) : Int32 := if v (28 + 9 * k + 3) = 0 then 0 else v (28 + 9 * k + 3) * (v (28 + 9 * k + 2) + 1) - v (28 + 9 * k + 3) * v (28 + 9 * k + 6) / 20
def rAll (v : Nat → Int32) (a : Nat) : Int32 := v (10 + 3 * a + 0) + v (10 + 3 * a + 1) + v (10 + 3 * a + 2)
def rCargo (v : Nat → Int32) (n : Nat) : Int32 := hFold (isAt v 2) (rWorth v) n
def rStored (v : Nat → Int32) (n : Nat) : Int32 := hFold (fun _ => true) (fun k => v (10 + k)) n
def rPacked (v : Nat → Int32) (n : Nat) : Int32 := hFold (fun k => decide (¬ v (28 + 9 * k + 7) = 3)) (fun k => v (28 + 9 * k + 3)) n
set_option maxHeartbeats 4000000 in
set_option maxRecDepth 100000 in
theorem k_X8_isChest (l : Launch) (hl : l.stackTraces = false) (g : xg_T) (w : xw_T) (sz n : Nat) (t v bf sv pa lb ip td sg : Nat → Int32) (hM : MR g w t v bf sv pa lb ip td sg) (hJ : MJ n t v bf sv pa sg) (cn : Int32) : xM l g yX8_isChest cX8_isChest 2 (some .boolean) ({ frames := 1, cells := 0, slots := 0, locals := 22 }) 0 0 [.ref (g.2 0 + 258), .int cn] w sz (fun r w1 sz1 => (((∃ kc : Nat, kc < 20 ∧ cn = nI kc ∧ cn < v 3) ∧ r = some (.int 1)) ∨ (r = some (.int 0) ∧ ¬ (0 ≤ cn ∧ cn < v 3))) ∧ w = w1 ∧ sz = sz1) (fun _ _ _ => False) := by
  refine xM.of RX8 hl (by decide +kernel) rfl (Nat.le_of_ble_eq_true rfl) rfl ?_
  intro p e s m args below meth cD C0 hini
  refine x_iload_n 1 1 C0 dX8_isChest_0 rfl rfl rfl ?_
  refine x_iconst (v := 0) 2 C0 dX8_isChest_1 rfl (by decide) ?_
  refine x_aload_n 0 3 C0 dX8_isChest_2 rfl rfl rfl ?_
  refine x_getf (v := .ref (g.2 0 + 258 + 1)) 8 6 C0 dX8_isChest_3 rfl hM.o rfl (by decide) inX8 mF_X8_7 rfl ?_
  refine x_iconst (v := 3) 7 C0 dX8_isChest_6 rfl (by decide) ?_
  refine x_iald 0 8 C0 dX8_isChest_7 rfl hM.r_v rfl (vp_in_nI (n := 3) (by decide) (by decide)) ?_
  refine x_st (st1 := [.int (v 3), .int 0, .int cn]) (congrArg (fun z => Value.int z :: _) (show v (nI 3).toNatClampNeg = v 3 from by rw [nI_clamp (by omega)])) ?_
  obtain ⟨nC1, hnC1, hv31⟩ := hJ.1.n
  refine x_st (st1 := [.int (nI nC1), .int 0, .int cn]) (congrArg (fun z => Value.int z :: _) (hv31)) ?_
  refine x_iconst (v := 1) 9 C0 dX8_isChest_8 rfl (by decide) ?_
  refine x_isub 10 C0 dX8_isChest_9 rfl ?_
  refine x_callS 13 C0 (k_X8_isIn l hl g _ _ cn 0 ((nI nC1) - 1)) dX8_isChest_10 rfl mC_X8_isIn mM_X8_67 mS_X8_isIn mN_X8 yd_X8_isIn rfl rfl ⟨Nat.le_of_ble_eq_true rfl, Nat.le_of_ble_eq_true rfl⟩ rfl rfl (Nat.le_of_ble_eq_true rfl) ⟨Nat.le_of_ble_eq_true rfl, Nat.le_of_ble_eq_true rfl⟩ (fun _ _ _ q => False.elim q) (fun r w1 sz1 hz hP => ?_)
  obtain ⟨hr, rfl, rfl⟩ := hP
  rcases hr with ⟨rfl, ha2, hb2⟩ | ⟨rfl, hx2⟩
  · refine x_st (st1 := [.int 1]) rfl ?_
    exact x_ireturn C0 dX8_isChest_13 rfl rfl (Nat.le_of_ble_eq_true rfl) (Nat.le_of_ble_eq_true rfl) ⟨Or.inl ⟨by obtain ⟨q, hq, e⟩ := idx_lt (by omega) ha2 hb2; exact ⟨q, by omega, e, by rw [e, hv31]; exact nI_lt hq (by omega)⟩, rfl⟩, rfl, rfl⟩
  · refine x_st (st1 := [.int 0]) rfl ?_
    exact x_ireturn C0 dX8_isChest_13 rfl rfl (Nat.le_of_ble_eq_true rfl) (Nat.le_of_ble_eq_true rfl) ⟨Or.inr ⟨rfl, fun z => hx2 ⟨z.1, le_pred (by omega) z.1 (by rw [← hv31]; exact z.2)⟩⟩, rfl, rfl⟩

set_option maxHeartbeats 4000000 in
set_option maxRecDepth 100000 in
theorem k_X8_isLeaf (l : Launch) (hl : l.stackTraces = false) (g : xg_T) (w : xw_T) (sz : Nat) (ga ki : Int32) : xM l g yX8_isLeaf cX8_isLeaf 2 (some .boolean) ({ frames := 1, cells := 0, slots := 0, locals := 22 }) 0 0 [.int ga, .int ki] w sz (fun r w1 sz1 => (((∃ a b : Nat, a < 6 ∧ b < 3 ∧ ga = nI a ∧ ki = nI b) ∧ r = some (.int 1)) ∨ (r = some (.int 0) ∧ isLeafB ga ki = false)) ∧ w = w1 ∧ sz = sz1) (fun _ _ _ => False) := by
  refine xM.of RX8 hl (by decide +kernel) rfl (Nat.le_of_ble_eq_true rfl) rfl ?_
  intro p e s m args below meth cD C0 hini
  refine x_iload_n 0 1 C0 dX8_isLeaf_0 rfl rfl rfl ?_
  refine x_iconst (v := 0) 2 C0 dX8_isLeaf_1 rfl (by decide) ?_
  refine x_iconst (v := 5) 3 C0 dX8_isLeaf_2 rfl (by decide) ?_
  refine x_callS 6 C0 (k_X8_isIn l hl g _ _ ga 0 5) dX8_isLeaf_3 rfl mC_X8_isIn mM_X8_67 mS_X8_isIn mN_X8 yd_X8_isIn rfl rfl ⟨Nat.le_of_ble_eq_true rfl, Nat.le_of_ble_eq_true rfl⟩ rfl rfl (Nat.le_of_ble_eq_true rfl) ⟨Nat.le_of_ble_eq_true rfl, Nat.le_of_ble_eq_true rfl⟩ (fun _ _ _ q => False.elim q) (fun r w1 sz1 hz hP => ?_)
  obtain ⟨hr, rfl, rfl⟩ := hP
  rcases hr with ⟨rfl, ha1, hb1⟩ | ⟨rfl, hx1⟩
  · refine x_st (st1 := [.int 1]) rfl ?_
    refine x_if_eq 22 9 C0 dX8_isLeaf_6 rfl (by decide) (fun q => False.elim (by revert q; decide)) (fun _ => ?_)
    refine x_iload_n 1 10 C0 dX8_isLeaf_9 rfl rfl rfl ?_
    refine x_iconst (v := 0) 11 C0 dX8_isLeaf_10 rfl (by decide) ?_
    refine x_iconst (v := 2) 12 C0 dX8_isLeaf_11 rfl (by decide) ?_
    refine x_callS 15 C0 (k_X8_isIn l hl g _ _ ki 0 2) dX8_isLeaf_12 rfl mC_X8_isIn mM_X8_67 mS_X8_isIn mN_X8 yd_X8_isIn rfl rfl ⟨Nat.le_of_ble_eq_true rfl, Nat.le_of_ble_eq_true rfl⟩ rfl rfl (Nat.le_of_ble_eq_true rfl) ⟨Nat.le_of_ble_eq_true rfl, Nat.le_of_ble_eq_true rfl⟩ (fun _ _ _ q => False.elim q) (fun r w1 sz1 hz hP => ?_)
    obtain ⟨hr, rfl, rfl⟩ := hP
    rcases hr with ⟨rfl, ha3, hb3⟩ | ⟨rfl, hx3⟩
    · refine x_st (st1 := [.int 1]) rfl ?_
      refine x_if_eq 22 18 C0 dX8_isLeaf_15 rfl (by decide) (fun q => False.elim (by revert q; decide)) (fun _ => ?_)
      refine x_iconst (v := 1) 19 C0 dX8_isLeaf_18 rfl (by decide) ?_
      refine x_goto 23 C0 dX8_isLeaf_19 (by decide) ?_
      exact x_ireturn C0 dX8_isLeaf_23 rfl rfl (Nat.le_of_ble_eq_true rfl) (Nat.le_of_ble_eq_true rfl) ⟨Or.inl ⟨by obtain ⟨a, e1, -, h5⟩ := i32_range (a := 0) (b := 5) rfl rfl (by omega) (by omega) ha1 hb1; obtain ⟨b, e2, -, h2⟩ := i32_range (a := 0) (b := 2) rfl rfl (by omega) (by omega) ha3 hb3; exact ⟨a, b, by omega, by omega, e1, e2⟩, rfl⟩, rfl, rfl⟩
    · refine x_st (st1 := [.int 0]) rfl ?_
      refine x_if_eq 22 18 C0 dX8_isLeaf_15 rfl (by decide) (fun _ => ?_) (fun q => False.elim (by revert q; decide))
      refine x_iconst (v := 0) 23 C0 dX8_isLeaf_22 rfl (by decide) ?_
      exact x_ireturn C0 dX8_isLeaf_23 rfl rfl (Nat.le_of_ble_eq_true rfl) (Nat.le_of_ble_eq_true rfl) ⟨Or.inr ⟨rfl, leafB_f (Or.inr hx3)⟩, rfl, rfl⟩
  · refine x_st (st1 := [.int 0]) rfl ?_
    refine x_if_eq 22 9 C0 dX8_isLeaf_6 rfl (by decide) (fun _ => ?_) (fun q => False.elim (by revert q; decide))
    refine x_iconst (v := 0) 23 C0 dX8_isLeaf_22 rfl (by decide) ?_
    exact x_ireturn C0 dX8_isLeaf_23 rfl rfl (Nat.le_of_ble_eq_true rfl) (Nat.le_of_ble_eq_true rfl) ⟨Or.inr ⟨rfl, leafB_f (Or.inl hx1)⟩, rfl, rfl⟩

set_option maxHeartbeats 4000000 in
set_option maxRecDepth 100000 in
theorem k_X8_isEmpty (l : Launch) (hl : l.stackTraces = false) (g : xg_T) (w : xw_T) (sz n : Nat) (t v bf sv pa lb ip td sg : Nat → Int32) (hM : MR g w t v bf sv pa lb ip td sg) (hJ : MJ n t v bf sv pa sg) (kc : Nat) (hkc : kc < 20) : xM l g yX8_isEmpty cX8_isEmpty 2 (some .boolean) ({ frames := 1, cells := 0, slots := 0, locals := 21 }) 0 0 [.ref (g.2 0 + 258), .int (nI kc)] w sz (fun r w1 sz1 => ((r = some (.int 1) ∧ v (28 + 9 * kc + 3) = 0) ∨ (r = some (.int 0) ∧ ¬ v (28 + 9 * kc + 3) = 0)) ∧ w = w1 ∧ sz = sz1) (fun _ _ _ => False) := by
  refine xM.of RX8 hl (by decide +kernel) rfl (Nat.le_of_ble_eq_true rfl) rfl ?_
  intro p e s m args below meth cD C0 hini
  refine x_aload_n 0 1 C0 dX8_isEmpty_0 rfl rfl rfl ?_
  refine x_getf (v := .ref (g.2 0 + 258 + 1)) 8 4 C0 dX8_isEmpty_1 rfl hM.o rfl (by decide) inX8 mF_X8_7 rfl ?_
  refine x_iload_n 1 5 C0 dX8_isEmpty_4 rfl rfl rfl ?_
  refine x_iconst (v := 3) 6 C0 dX8_isEmpty_5 rfl (by decide) ?_
  refine x_callS 9 C0 (k_X8_at l hl g _ _ (nI kc) 3) dX8_isEmpty_6 rfl mC_X8_at mM_X8_71 mS_X8_at mN_X8 yd_X8_at rfl rfl ⟨Nat.le_of_ble_eq_true rfl, Nat.le_of_ble_eq_true rfl⟩ rfl rfl (Nat.le_of_ble_eq_true rfl) ⟨Nat.le_of_ble_eq_true rfl, Nat.le_of_ble_eq_true rfl⟩ (fun _ _ _ q => False.elim q) (fun r w1 sz1 hz hP => ?_)
  obtain ⟨rfl, rfl, rfl⟩ := hP
  refine x_st (st1 := [.int (nI (28 + 9 * kc + 3)), .ref (g.2 0 + 258 + 1)]) (congrArg (fun z => Value.int z :: _) (at_nI 28 9 kc 3)) ?_
  refine x_iald 0 10 C0 dX8_isEmpty_9 rfl hM.r_v rfl (vp_in_nI (n := 28 + 9 * kc + 3) (by omega) (by decide)) ?_
  refine x_st (st1 := [.int (v (28 + 9 * kc + 3))]) (congrArg (fun z => Value.int z :: _) (show v (nI (28 + 9 * kc + 3)).toNatClampNeg = v (28 + 9 * kc + 3) from by rw [nI_clamp (by omega)])) ?_
  refine x_if_ne 17 13 C0 dX8_isEmpty_10 rfl (by decide) (fun c1 => ?_) (fun c1 => ?_)
  · refine x_iconst (v := 0) 18 C0 dX8_isEmpty_17 rfl (by decide) ?_
    exact x_ireturn C0 dX8_isEmpty_18 rfl rfl (Nat.le_of_ble_eq_true rfl) (Nat.le_of_ble_eq_true rfl) ⟨Or.inr ⟨rfl, c1⟩, rfl, rfl⟩
  · refine x_iconst (v := 1) 14 C0 dX8_isEmpty_13 rfl (by decide) ?_
    refine x_goto 18 C0 dX8_isEmpty_14 (by decide) ?_
    exact x_ireturn C0 dX8_isEmpty_18 rfl rfl (Nat.le_of_ble_eq_true rfl) (Nat.le_of_ble_eq_true rfl) ⟨Or.inl ⟨rfl, c1⟩, rfl, rfl⟩

set_option maxHeartbeats 4000000 in
set_option maxRecDepth 100000 in
theorem k_X8_isTight (l : Launch) (hl : l.stackTraces = false) (g : xg_T) (w : xw_T) (sz n : Nat) (t v bf sv pa lb ip td sg : Nat → Int32) (hM : MR g w t v bf sv pa lb ip td sg) (hJ : MJ n t v bf sv pa sg) (kc : Nat) (hkc : kc < 20) : xM l g yX8_isTight cX8_isTight 2 (some .boolean) ({ frames := 1, cells := 0, slots := 0, locals := 21 }) 0 0 [.ref (g.2 0 + 258), .int (nI kc)] w sz (fun r w1 sz1 => ((r = some (.int 1) ∧ rTight v kc) ∨ (r = some (.int 0) ∧ ¬ rTight v kc)) ∧ w = w1 ∧ sz = sz1) (fun _ _ _ => False) := by
  refine xM.of RX8 hl (by decide +kernel) rfl (Nat.le_of_ble_eq_true rfl) rfl ?_
  intro p e s m args below meth cD C0 hini
  refine x_aload_n 0 1 C0 dX8_isTight_0 rfl rfl rfl ?_
  refine x_getf (v := .ref (g.2 0 + 258 + 1)) 8 4 C0 dX8_isTight_1 rfl hM.o rfl (by decide) inX8 mF_X8_7 rfl ?_
  refine x_iload_n 1 5 C0 dX8_isTight_4 rfl rfl rfl ?_
  refine x_iconst (v := 4) 6 C0 dX8_isTight_5 rfl (by decide) ?_
  refine x_callS 9 C0 (k_X8_at l hl g _ _ (nI kc) 4) dX8_isTight_6 rfl mC_X8_at mM_X8_71 mS_X8_at mN_X8 yd_X8_at rfl rfl ⟨Nat.le_of_ble_eq_true rfl, Nat.le_of_ble_eq_true rfl⟩ rfl rfl (Nat.le_of_ble_eq_true rfl) ⟨Nat.le_of_ble_eq_true rfl, Nat.le_of_ble_eq_true rfl⟩ (fun _ _ _ q => False.elim q) (fun r w1 sz1 hz hP => ?_)
  obtain ⟨rfl, rfl, rfl⟩ := hP
  refine x_st (st1 := [.int (nI (28 + 9 * kc + 4)), .ref (g.2 0 + 258 + 1)]) (congrArg (fun z => Value.int z :: _) (at_nI 28 9 kc 4)) ?_
  refine x_iald 0 10 C0 dX8_isTight_9 rfl hM.r_v rfl (vp_in_nI (n := 28 + 9 * kc + 4) (by omega) (by decide)) ?_
  refine x_st (st1 := [.int (v (28 + 9 * kc + 4))]) (congrArg (fun z => Value.int z :: _) (show v (nI (28 + 9 * kc + 4)).toNatClampNeg = v (28 + 9 * kc + 4) from by rw [nI_clamp (by omega)])) ?_
  refine x_iconst (v := 1) 11 C0 dX8_isTight_10 rfl (by decide) ?_
  refine x_icmp_ne 43 14 C0 dX8_isTight_11 rfl (by decide) (fun c1 => ?_) (fun c1 => ?_)
  · refine x_iconst (v := 0) 44 C0 dX8_isTight_43 rfl (by decide) ?_
    exact x_ireturn C0 dX8_isTight_44 rfl rfl (Nat.le_of_ble_eq_true rfl) (Nat.le_of_ble_eq_true rfl) ⟨Or.inr ⟨rfl, fun z => absurd z.1 c1⟩, rfl, rfl⟩
  · refine x_aload_n 0 15 C0 dX8_isTight_14 rfl rfl rfl ?_
    refine x_getf (v := .ref (g.2 0 + 258 + 1)) 8 18 C0 dX8_isTight_15 rfl hM.o rfl (by decide) inX8 mF_X8_7 rfl ?_
    refine x_iload_n 1 19 C0 dX8_isTight_18 rfl rfl rfl ?_
    refine x_iconst (v := 5) 20 C0 dX8_isTight_19 rfl (by decide) ?_
    refine x_callS 23 C0 (k_X8_at l hl g _ _ (nI kc) 5) dX8_isTight_20 rfl mC_X8_at mM_X8_71 mS_X8_at mN_X8 yd_X8_at rfl rfl ⟨Nat.le_of_ble_eq_true rfl, Nat.le_of_ble_eq_true rfl⟩ rfl rfl (Nat.le_of_ble_eq_true rfl) ⟨Nat.le_of_ble_eq_true rfl, Nat.le_of_ble_eq_true rfl⟩ (fun _ _ _ q => False.elim q) (fun r w1 sz1 hz hP => ?_)
    obtain ⟨rfl, rfl, rfl⟩ := hP
    refine x_st (st1 := [.int (nI (28 + 9 * kc + 5)), .ref (g.2 0 + 258 + 1)]) (congrArg (fun z => Value.int z :: _) (at_nI 28 9 kc 5)) ?_
    refine x_iald 0 24 C0 dX8_isTight_23 rfl hM.r_v rfl (vp_in_nI (n := 28 + 9 * kc + 5) (by omega) (by decide)) ?_
    refine x_st (st1 := [.int (v (28 + 9 * kc + 5))]) (congrArg (fun z => Value.int z :: _) (show v (nI (28 + 9 * kc + 5)).toNatClampNeg = v (28 + 9 * kc + 5) from by rw [nI_clamp (by omega)])) ?_
    refine x_aload_n 0 25 C0 dX8_isTight_24 rfl rfl rfl ?_
    refine x_getf (v := .ref (g.2 0 + 258 + 1)) 8 28 C0 dX8_isTight_25 rfl hM.o rfl (by decide) inX8 mF_X8_7 rfl ?_
    refine x_iload_n 1 29 C0 dX8_isTight_28 rfl rfl rfl ?_
    refine x_iconst (v := 0) 30 C0 dX8_isTight_29 rfl (by decide) ?_
    refine x_callS 33 C0 (k_X8_at l hl g _ _ (nI kc) 0) dX8_isTight_30 rfl mC_X8_at mM_X8_71 mS_X8_at mN_X8 yd_X8_at rfl rfl ⟨Nat.le_of_ble_eq_true rfl, Nat.le_of_ble_eq_true rfl⟩ rfl rfl (Nat.le_of_ble_eq_true rfl) ⟨Nat.le_of_ble_eq_true rfl, Nat.le_of_ble_eq_true rfl⟩ (fun _ _ _ q => False.elim q) (fun r w1 sz1 hz hP => ?_)
    obtain ⟨rfl, rfl, rfl⟩ := hP
    refine x_st (st1 := [.int (nI (28 + 9 * kc + 0)), .ref (g.2 0 + 258 + 1), .int (v (28 + 9 * kc + 5))]) (congrArg (fun z => Value.int z :: _) (at_nI 28 9 kc 0)) ?_
    refine x_iald 0 34 C0 dX8_isTight_33 rfl hM.r_v rfl (vp_in_nI (n := 28 + 9 * kc + 0) (by omega) (by decide)) ?_
    refine x_st (st1 := [.int (v (28 + 9 * kc + 0)), .int (v (28 + 9 * kc + 5))]) (congrArg (fun z => Value.int z :: _) (show v (nI (28 + 9 * kc + 0)).toNatClampNeg = v (28 + 9 * kc + 0) from by rw [nI_clamp (by omega)])) ?_
    refine x_iconst (v := 2) 35 C0 dX8_isTight_34 rfl (by decide) ?_
    refine x_iadd 36 C0 dX8_isTight_35 rfl ?_
    refine x_icmp_lt 43 39 C0 dX8_isTight_36 rfl (by decide) (fun c2 => ?_) (fun c2 => ?_)
    · have c2' := Int32.not_le.mpr c2
      refine x_iconst (v := 0) 44 C0 dX8_isTight_43 rfl (by decide) ?_
      exact x_ireturn C0 dX8_isTight_44 rfl rfl (Nat.le_of_ble_eq_true rfl) (Nat.le_of_ble_eq_true rfl) ⟨Or.inr ⟨rfl, fun z => absurd z.2 c2'⟩, rfl, rfl⟩
    · have c2' := Int32.not_lt.mp c2
      refine x_iconst (v := 1) 40 C0 dX8_isTight_39 rfl (by decide) ?_
      refine x_goto 44 C0 dX8_isTight_40 (by decide) ?_
      exact x_ireturn C0 dX8_isTight_44 rfl rfl (Nat.le_of_ble_eq_true rfl) (Nat.le_of_ble_eq_true rfl) ⟨Or.inl ⟨rfl, c1, c2'⟩, rfl, rfl⟩

set_option maxHeartbeats 4000000 in
set_option maxRecDepth 100000 in
theorem k_X8_worthOf (l : Launch) (hl : l.stackTraces = false) (g : xg_T) (w : xw_T) (sz n : Nat) (t v bf sv pa lb ip td sg : Nat → Int32) (hM : MR g w t v bf sv pa lb ip td sg) (hJ : MJ n t v bf sv pa sg) (kc : Nat) (hkc : kc < 20) : xM l g yX8_worthOf cX8_worthOf 3 (some .int) ({ frames := 1, cells := 0, slots := 0, locals := 21 }) 0 0 [.ref (g.2 0 + 258), .int (nI kc)] w sz (fun r w1 sz1 => r = some (.int (rWorth v kc)) ∧ w = w1 ∧ sz = sz1) (fun _ _ _ => False) := by
  refine xM.of RX8 hl (by decide +kernel) rfl (Nat.le_of_ble_eq_true rfl) rfl ?_
  intro p e s m args below meth cD C0 hini
  refine x_aload_n 0 1 C0 dX8_worthOf_0 rfl rfl rfl ?_
  refine x_getf (v := .ref (g.2 0 + 258 + 1)) 8 4 C0 dX8_worthOf_1 rfl hM.o rfl (by decide) inX8 mF_X8_7 rfl ?_
  refine x_iload_n 1 5 C0 dX8_worthOf_4 rfl rfl rfl ?_
  refine x_iconst (v := 3) 6 C0 dX8_worthOf_5 rfl (by decide) ?_
  refine x_callS 9 C0 (k_X8_at l hl g _ _ (nI kc) 3) dX8_worthOf_6 rfl mC_X8_at mM_X8_71 mS_X8_at mN_X8 yd_X8_at rfl rfl ⟨Nat.le_of_ble_eq_true rfl, Nat.le_of_ble_eq_true rfl⟩ rfl rfl (Nat.le_of_ble_eq_true rfl) ⟨Nat.le_of_ble_eq_true rfl, Nat.le_of_ble_eq_true rfl⟩ (fun _ _ _ q => False.elim q) (fun r w1 sz1 hz hP => ?_)
  obtain ⟨rfl, rfl, rfl⟩ := hP
  refine x_st (st1 := [.int (nI (28 + 9 * kc + 3)), .ref (g.2 0 + 258 + 1)]) (congrArg (fun z => Value.int z :: _) (at_nI 28 9 kc 3)) ?_
  refine x_iald 0 10 C0 dX8_worthOf_9 rfl hM.r_v rfl (vp_in_nI (n := 28 + 9 * kc + 3) (by omega) (by decide)) ?_
  refine x_st (st1 := [.int (v (28 + 9 * kc + 3))]) (congrArg (fun z => Value.int z :: _) (show v (nI (28 + 9 * kc + 3)).toNatClampNeg = v (28 + 9 * kc + 3) from by rw [nI_clamp (by omega)])) ?_
  refine x_istore_n [(2, .int (v (28 + 9 * kc + 3))), (0, .ref (g.2 0 + 258)), (1, .int (nI kc))] 11 C0 dX8_worthOf_10 rfl rfl (by decide) rfl ?_
  refine x_lv (lv1 := [(0, .ref (g.2 0 + 258)), (1, .int (nI kc)), (2, .int (v (28 + 9 * kc + 3)))]) [1, 2, 0] rfl ?_
  refine x_iload_n 2 12 C0 dX8_worthOf_11 rfl rfl rfl ?_
  refine x_if_ne 19 15 C0 dX8_worthOf_12 rfl (by decide) (fun c1 => ?_) (fun c1 => ?_)
  · refine x_iload_n 2 20 C0 dX8_worthOf_19 rfl rfl rfl ?_
    refine x_aload_n 0 21 C0 dX8_worthOf_20 rfl rfl rfl ?_
    refine x_getf (v := .ref (g.2 0 + 258 + 1)) 8 24 C0 dX8_worthOf_21 rfl hM.o rfl (by decide) inX8 mF_X8_7 rfl ?_
    refine x_iload_n 1 25 C0 dX8_worthOf_24 rfl rfl rfl ?_
    refine x_iconst (v := 2) 26 C0 dX8_worthOf_25 rfl (by decide) ?_
    refine x_callS 29 C0 (k_X8_at l hl g _ _ (nI kc) 2) dX8_worthOf_26 rfl mC_X8_at mM_X8_71 mS_X8_at mN_X8 yd_X8_at rfl rfl ⟨Nat.le_of_ble_eq_true rfl, Nat.le_of_ble_eq_true rfl⟩ rfl rfl (Nat.le_of_ble_eq_true rfl) ⟨Nat.le_of_ble_eq_true rfl, Nat.le_of_ble_eq_true rfl⟩ (fun _ _ _ q => False.elim q) (fun r w1 sz1 hz hP => ?_)
    obtain ⟨rfl, rfl, rfl⟩ := hP
    refine x_st (st1 := [.int (nI (28 + 9 * kc + 2)), .ref (g.2 0 + 258 + 1), .int (v (28 + 9 * kc + 3))]) (congrArg (fun z => Value.int z :: _) (at_nI 28 9 kc 2)) ?_
    refine x_iald 0 30 C0 dX8_worthOf_29 rfl hM.r_v rfl (vp_in_nI (n := 28 + 9 * kc + 2) (by omega) (by decide)) ?_
    refine x_st (st1 := [.int (v (28 + 9 * kc + 2)), .int (v (28 + 9 * kc + 3))]) (congrArg (fun z => Value.int z :: _) (show v (nI (28 + 9 * kc + 2)).toNatClampNeg = v (28 + 9 * kc + 2) from by rw [nI_clamp (by omega)])) ?_
    refine x_iconst (v := 1) 31 C0 dX8_worthOf_30 rfl (by decide) ?_
    refine x_iadd 32 C0 dX8_worthOf_31 rfl ?_
    refine x_imul 33 C0 dX8_worthOf_32 rfl ?_
    refine x_iload_n 2 34 C0 dX8_worthOf_33 rfl rfl rfl ?_
    refine x_aload_n 0 35 C0 dX8_worthOf_34 rfl rfl rfl ?_
    refine x_getf (v := .ref (g.2 0 + 258 + 1)) 8 38 C0 dX8_worthOf_35 rfl hM.o rfl (by decide) inX8 mF_X8_7 rfl ?_
    refine x_iload_n 1 39 C0 dX8_worthOf_38 rfl rfl rfl ?_
    refine x_bipush (v := 6) 41 C0 dX8_worthOf_39 rfl (by decide) ?_
    refine x_callS 44 C0 (k_X8_at l hl g _ _ (nI kc) 6) dX8_worthOf_41 rfl mC_X8_at mM_X8_71 mS_X8_at mN_X8 yd_X8_at rfl rfl ⟨Nat.le_of_ble_eq_true rfl, Nat.le_of_ble_eq_true rfl⟩ rfl rfl (Nat.le_of_ble_eq_true rfl) ⟨Nat.le_of_ble_eq_true rfl, Nat.le_of_ble_eq_true rfl⟩ (fun _ _ _ q => False.elim q) (fun r w1 sz1 hz hP => ?_)
    obtain ⟨rfl, rfl, rfl⟩ := hP
    refine x_st (st1 := [.int (nI (28 + 9 * kc + 6)), .ref (g.2 0 + 258 + 1), .int (v (28 + 9 * kc + 3)), .int ((v (28 + 9 * kc + 3)) * ((v (28 + 9 * kc + 2)) + 1))]) (congrArg (fun z => Value.int z :: _) (at_nI 28 9 kc 6)) ?_
    refine x_iald 0 45 C0 dX8_worthOf_44 rfl hM.r_v rfl (vp_in_nI (n := 28 + 9 * kc + 6) (by omega) (by decide)) ?_
    refine x_st (st1 := [.int (v (28 + 9 * kc + 6)), .int (v (28 + 9 * kc + 3)), .int ((v (28 + 9 * kc + 3)) * ((v (28 + 9 * kc + 2)) + 1))]) (congrArg (fun z => Value.int z :: _) (show v (nI (28 + 9 * kc + 6)).toNatClampNeg = v (28 + 9 * kc + 6) from by rw [nI_clamp (by omega)])) ?_
    refine x_imul 46 C0 dX8_worthOf_45 rfl ?_
    refine x_bipush (v := 20) 48 C0 dX8_worthOf_46 rfl (by decide) ?_
    refine x_idiv 49 C0 dX8_worthOf_48 rfl (by decide) ?_
    refine x_isub 50 C0 dX8_worthOf_49 rfl ?_
    exact x_ireturn C0 dX8_worthOf_50 rfl rfl (Nat.le_of_ble_eq_true rfl) (Nat.le_of_ble_eq_true rfl) ⟨by unfold rWorth; rw [if_neg c1], rfl, rfl⟩
  · refine x_iconst (v := 0) 16 C0 dX8_worthOf_15 rfl (by decide) ?_
    refine x_goto 50 C0 dX8_worthOf_16 (by decide) ?_
    exact x_ireturn C0 dX8_worthOf_50 rfl rfl (Nat.le_of_ble_eq_true rfl) (Nat.le_of_ble_eq_true rfl) ⟨by unfold rWorth; rw [if_pos c1], rfl, rfl⟩

set_option maxHeartbeats 4000000 in
set_option maxRecDepth 100000 in
theorem k_X8_isAhead (l : Launch) (hl : l.stackTraces = false) (g : xg_T) (w : xw_T) (sz n : Nat) (t v bf sv pa lb ip td sg : Nat → Int32) (hM : MR g w t v bf sv pa lb ip td sg) (hJ : MJ n t v bf sv pa sg) (ka kb : Nat) (hka : ka < 20) (hkb : kb < 20) : xM l g yX8_isAhead cX8_isAhead 4 (some .boolean) ({ frames := 2, cells := 0, slots := 0, locals := 43 }) 0 0 [.ref (g.2 0 + 258), .int (nI ka), .int (nI kb)] w sz (fun r w1 sz1 => ((r = some (.int 1) ∧ True) ∨ (r = some (.int 0) ∧ True)) ∧ w = w1 ∧ sz = sz1) (fun _ _ _ => False) := by
  refine xM.of RX8 hl (by decide +kernel) rfl (Nat.le_of_ble_eq_true rfl) rfl ?_
  intro p e s m args below meth cD C0 hini
  refine x_aload_n 0 1 C0 dX8_isAhead_0 rfl rfl rfl ?_
  refine x_iload_n 1 2 C0 dX8_isAhead_1 rfl rfl rfl ?_
  refine x_callV 5 C0 (k_X8_worthOf l hl g _ _ n t v bf sv pa lb ip td sg hM hJ ka (by omega)) dX8_isAhead_2 rfl mC_X8_worthOf mM_X8_149 mI_X8_worthOf mV_X8_worthOf mN_X8 yd_X8_worthOf rfl rfl ⟨Nat.le_of_ble_eq_true rfl, Nat.le_of_ble_eq_true rfl⟩ hM.o rfl rfl rfl rfl (Nat.le_of_ble_eq_true rfl) ⟨Nat.le_of_ble_eq_true rfl, Nat.le_of_ble_eq_true rfl⟩ (fun _ _ _ q => False.elim q) (fun r w1 sz1 hz hP => ?_)
  obtain ⟨rfl, rfl, rfl⟩ := hP
  refine x_st (st1 := [.int (rWorth v ka)]) rfl ?_
  refine x_aload_n 0 6 C0 dX8_isAhead_5 rfl rfl rfl ?_
  refine x_iload_n 2 7 C0 dX8_isAhead_6 rfl rfl rfl ?_
  refine x_callV 10 C0 (k_X8_worthOf l hl g _ _ n t v bf sv pa lb ip td sg hM hJ kb (by omega)) dX8_isAhead_7 rfl mC_X8_worthOf mM_X8_149 mI_X8_worthOf mV_X8_worthOf mN_X8 yd_X8_worthOf rfl rfl ⟨Nat.le_of_ble_eq_true rfl, Nat.le_of_ble_eq_true rfl⟩ hM.o rfl rfl rfl rfl (Nat.le_of_ble_eq_true rfl) ⟨Nat.le_of_ble_eq_true rfl, Nat.le_of_ble_eq_true rfl⟩ (fun _ _ _ q => False.elim q) (fun r w1 sz1 hz hP => ?_)
  obtain ⟨rfl, rfl, rfl⟩ := hP
  refine x_st (st1 := [.int (rWorth v kb), .int (rWorth v ka)]) rfl ?_
  refine x_isub 11 C0 dX8_isAhead_10 rfl ?_
  refine x_istore_n [(3, .int ((rWorth v ka) - (rWorth v kb))), (0, .ref (g.2 0 + 258)), (1, .int (nI ka)), (2, .int (nI kb))] 12 C0 dX8_isAhead_11 rfl rfl (by decide) rfl ?_
  refine x_lv (lv1 := [(0, .ref (g.2 0 + 258)), (1, .int (nI ka)), (2, .int (nI kb)), (3, .int ((rWorth v ka) - (rWorth v kb)))]) [1, 2, 3, 0] rfl ?_
  refine x_iload_n 3 13 C0 dX8_isAhead_12 rfl rfl rfl ?_
  refine x_if_eq 26 16 C0 dX8_isAhead_13 rfl (by decide) (fun c1 => ?_) (fun c1 => ?_)
  · refine x_aload_n 0 27 C0 dX8_isAhead_26 rfl rfl rfl ?_
    refine x_getf (v := .ref (g.2 0 + 258 + 1)) 8 30 C0 dX8_isAhead_27 rfl hM.o rfl (by decide) inX8 mF_X8_7 rfl ?_
    refine x_iload_n 2 31 C0 dX8_isAhead_30 rfl rfl rfl ?_
    refine x_bipush (v := 6) 33 C0 dX8_isAhead_31 rfl (by decide) ?_
    refine x_callS 36 C0 (k_X8_at l hl g _ _ (nI kb) 6) dX8_isAhead_33 rfl mC_X8_at mM_X8_71 mS_X8_at mN_X8 yd_X8_at rfl rfl ⟨Nat.le_of_ble_eq_true rfl, Nat.le_of_ble_eq_true rfl⟩ rfl rfl (Nat.le_of_ble_eq_true rfl) ⟨Nat.le_of_ble_eq_true rfl, Nat.le_of_ble_eq_true rfl⟩ (fun _ _ _ q => False.elim q) (fun r w1 sz1 hz hP => ?_)
    obtain ⟨rfl, rfl, rfl⟩ := hP
    refine x_st (st1 := [.int (nI (28 + 9 * kb + 6)), .ref (g.2 0 + 258 + 1)]) (congrArg (fun z => Value.int z :: _) (at_nI 28 9 kb 6)) ?_
    refine x_iald 0 37 C0 dX8_isAhead_36 rfl hM.r_v rfl (vp_in_nI (n := 28 + 9 * kb + 6) (by omega) (by decide)) ?_
    refine x_st (st1 := [.int (v (28 + 9 * kb + 6))]) (congrArg (fun z => Value.int z :: _) (show v (nI (28 + 9 * kb + 6)).toNatClampNeg = v (28 + 9 * kb + 6) from by rw [nI_clamp (by omega)])) ?_
    refine x_aload_n 0 38 C0 dX8_isAhead_37 rfl rfl rfl ?_
    refine x_getf (v := .ref (g.2 0 + 258 + 1)) 8 41 C0 dX8_isAhead_38 rfl hM.o rfl (by decide) inX8 mF_X8_7 rfl ?_
    refine x_iload_n 1 42 C0 dX8_isAhead_41 rfl rfl rfl ?_
    refine x_bipush (v := 6) 44 C0 dX8_isAhead_42 rfl (by decide) ?_
    refine x_callS 47 C0 (k_X8_at l hl g _ _ (nI ka) 6) dX8_isAhead_44 rfl mC_X8_at mM_X8_71 mS_X8_at mN_X8 yd_X8_at rfl rfl ⟨Nat.le_of_ble_eq_true rfl, Nat.le_of_ble_eq_true rfl⟩ rfl rfl (Nat.le_of_ble_eq_true rfl) ⟨Nat.le_of_ble_eq_true rfl, Nat.le_of_ble_eq_true rfl⟩ (fun _ _ _ q => False.elim q) (fun r w1 sz1 hz hP => ?_)
    obtain ⟨rfl, rfl, rfl⟩ := hP
    refine x_st (st1 := [.int (nI (28 + 9 * ka + 6)), .ref (g.2 0 + 258 + 1), .int (v (28 + 9 * kb + 6))]) (congrArg (fun z => Value.int z :: _) (at_nI 28 9 ka 6)) ?_
    refine x_iald 0 48 C0 dX8_isAhead_47 rfl hM.r_v rfl (vp_in_nI (n := 28 + 9 * ka + 6) (by omega) (by decide)) ?_
    refine x_st (st1 := [.int (v (28 + 9 * ka + 6)), .int (v (28 + 9 * kb + 6))]) (congrArg (fun z => Value.int z :: _) (show v (nI (28 + 9 * ka + 6)).toNatClampNeg = v (28 + 9 * ka + 6) from by rw [nI_clamp (by omega)])) ?_
    refine x_isub 49 C0 dX8_isAhead_48 rfl ?_
    refine x_istore_n [(3, .int ((v (28 + 9 * kb + 6)) - (v (28 + 9 * ka + 6)))), (0, .ref (g.2 0 + 258)), (1, .int (nI ka)), (2, .int (nI kb))] 50 C0 dX8_isAhead_49 rfl rfl (by decide) rfl ?_
    refine x_lv (lv1 := [(0, .ref (g.2 0 + 258)), (1, .int (nI ka)), (2, .int (nI kb)), (3, .int ((v (28 + 9 * kb + 6)) - (v (28 + 9 * ka + 6))))]) [1, 2, 3, 0] rfl ?_
    refine x_iload_n 3 51 C0 dX8_isAhead_50 rfl rfl rfl ?_
    refine x_if_gt 63 54 C0 dX8_isAhead_51 rfl (by decide) (fun c2 => ?_) (fun c2 => ?_)
    · have c2' := Int32.not_le.mpr c2
      refine x_iconst (v := 1) 64 C0 dX8_isAhead_63 rfl (by decide) ?_
      refine x_goto 68 C0 dX8_isAhead_64 (by decide) ?_
      exact x_ireturn C0 dX8_isAhead_68 rfl rfl (Nat.le_of_ble_eq_true rfl) (Nat.le_of_ble_eq_true rfl) ⟨Or.inl ⟨rfl, trivial⟩, rfl, rfl⟩
    · have c2' := Int32.not_lt.mp c2
      refine x_iload_n 3 55 C0 dX8_isAhead_54 rfl rfl rfl ?_
      refine x_if_ne 67 58 C0 dX8_isAhead_55 rfl (by decide) (fun c3 => ?_) (fun c3 => ?_)
      · refine x_iconst (v := 0) 68 C0 dX8_isAhead_67 rfl (by decide) ?_
        exact x_ireturn C0 dX8_isAhead_68 rfl rfl (Nat.le_of_ble_eq_true rfl) (Nat.le_of_ble_eq_true rfl) ⟨Or.inr ⟨rfl, trivial⟩, rfl, rfl⟩
      · refine x_iload_n 1 59 C0 dX8_isAhead_58 rfl rfl rfl ?_
        refine x_iload_n 2 60 C0 dX8_isAhead_59 rfl rfl rfl ?_
        refine x_icmp_ge 67 63 C0 dX8_isAhead_60 rfl (by decide) (fun c4 => ?_) (fun c4 => ?_)
        · have c4' := Int32.not_lt.mpr c4
          refine x_iconst (v := 0) 68 C0 dX8_isAhead_67 rfl (by decide) ?_
          exact x_ireturn C0 dX8_isAhead_68 rfl rfl (Nat.le_of_ble_eq_true rfl) (Nat.le_of_ble_eq_true rfl) ⟨Or.inr ⟨rfl, trivial⟩, rfl, rfl⟩
        · have c4' := Int32.not_le.mp c4
          refine x_iconst (v := 1) 64 C0 dX8_isAhead_63 rfl (by decide) ?_
          refine x_goto 68 C0 dX8_isAhead_64 (by decide) ?_
          exact x_ireturn C0 dX8_isAhead_68 rfl rfl (Nat.le_of_ble_eq_true rfl) (Nat.le_of_ble_eq_true rfl) ⟨Or.inl ⟨rfl, trivial⟩, rfl, rfl⟩
  · refine x_iload_n 3 17 C0 dX8_isAhead_16 rfl rfl rfl ?_
    refine x_if_le 24 20 C0 dX8_isAhead_17 rfl (by decide) (fun c5 => ?_) (fun c5 => ?_)
    · have c5' := Int32.not_lt.mpr c5
      refine x_iconst (v := 0) 25 C0 dX8_isAhead_24 rfl (by decide) ?_
      exact x_ireturn C0 dX8_isAhead_25 rfl rfl (Nat.le_of_ble_eq_true rfl) (Nat.le_of_ble_eq_true rfl) ⟨Or.inr ⟨rfl, trivial⟩, rfl, rfl⟩
    · have c5' := Int32.not_le.mp c5
      refine x_iconst (v := 1) 21 C0 dX8_isAhead_20 rfl (by decide) ?_
      refine x_goto 25 C0 dX8_isAhead_21 (by decide) ?_
      exact x_ireturn C0 dX8_isAhead_25 rfl rfl (Nat.le_of_ble_eq_true rfl) (Nat.le_of_ble_eq_true rfl) ⟨Or.inl ⟨rfl, trivial⟩, rfl, rfl⟩

set_option maxHeartbeats 4000000 in
set_option maxRecDepth 100000 in
theorem k_X8_allOf (l : Launch) (hl : l.stackTraces = false) (g : xg_T) (w : xw_T) (sz n : Nat) (t v bf sv pa lb ip td sg : Nat → Int32) (hM : MR g w t v bf sv pa lb ip td sg) (hJ : MJ n t v bf sv pa sg) (ga : Nat) (hga : ga < 6) : xM l g yX8_allOf cX8_allOf 2 (some .int) ({ frames := 1, cells := 0, slots := 0, locals := 21 }) 0 0 [.ref (g.2 0 + 258), .int (nI ga)] w sz (fun r w1 sz1 => r = some (.int (rAll v ga)) ∧ w = w1 ∧ sz = sz1) (fun _ _ _ => False) := by
  refine xM.of RX8 hl (by decide +kernel) rfl (Nat.le_of_ble_eq_true rfl) rfl ?_
  intro p e s m args below meth cD C0 hini
  refine x_aload_n 0 1 C0 dX8_allOf_0 rfl rfl rfl ?_
  refine x_getf (v := .ref (g.2 0 + 258 + 1)) 8 4 C0 dX8_allOf_1 rfl hM.o rfl (by decide) inX8 mF_X8_7 rfl ?_
  refine x_iload_n 1 5 C0 dX8_allOf_4 rfl rfl rfl ?_
  refine x_iconst (v := 0) 6 C0 dX8_allOf_5 rfl (by decide) ?_
  refine x_callS 9 C0 (k_X8_leaf l hl g _ _ (nI ga) 0) dX8_allOf_6 rfl mC_X8_leaf mM_X8_79 mS_X8_leaf mN_X8 yd_X8_leaf rfl rfl ⟨Nat.le_of_ble_eq_true rfl, Nat.le_of_ble_eq_true rfl⟩ rfl rfl (Nat.le_of_ble_eq_true rfl) ⟨Nat.le_of_ble_eq_true rfl, Nat.le_of_ble_eq_true rfl⟩ (fun _ _ _ q => False.elim q) (fun r w1 sz1 hz hP => ?_)
  obtain ⟨rfl, rfl, rfl⟩ := hP
  refine x_st (st1 := [.int (nI (10 + 3 * ga + 0)), .ref (g.2 0 + 258 + 1)]) (congrArg (fun z => Value.int z :: _) (at_nI 10 3 ga 0)) ?_
  refine x_iald 0 10 C0 dX8_allOf_9 rfl hM.r_v rfl (vp_in_nI (n := 10 + 3 * ga + 0) (by omega) (by decide)) ?_
  refine x_st (st1 := [.int (v (10 + 3 * ga + 0))]) (congrArg (fun z => Value.int z :: _) (show v (nI (10 + 3 * ga + 0)).toNatClampNeg = v (10 + 3 * ga + 0) from by rw [nI_clamp (by omega)])) ?_
  refine x_aload_n 0 11 C0 dX8_allOf_10 rfl rfl rfl ?_
  refine x_getf (v := .ref (g.2 0 + 258 + 1)) 8 14 C0 dX8_allOf_11 rfl hM.o rfl (by decide) inX8 mF_X8_7 rfl ?_
  refine x_iload_n 1 15 C0 dX8_allOf_14 rfl rfl rfl ?_
  refine x_iconst (v := 1) 16 C0 dX8_allOf_15 rfl (by decide) ?_
  refine x_callS 19 C0 (k_X8_leaf l hl g _ _ (nI ga) 1) dX8_allOf_16 rfl mC_X8_leaf mM_X8_79 mS_X8_leaf mN_X8 yd_X8_leaf rfl rfl ⟨Nat.le_of_ble_eq_true rfl, Nat.le_of_ble_eq_true rfl⟩ rfl rfl (Nat.le_of_ble_eq_true rfl) ⟨Nat.le_of_ble_eq_true rfl, Nat.le_of_ble_eq_true rfl⟩ (fun _ _ _ q => False.elim q) (fun r w1 sz1 hz hP => ?_)
  obtain ⟨rfl, rfl, rfl⟩ := hP
  refine x_st (st1 := [.int (nI (10 + 3 * ga + 1)), .ref (g.2 0 + 258 + 1), .int (v (10 + 3 * ga + 0))]) (congrArg (fun z => Value.int z :: _) (at_nI 10 3 ga 1)) ?_
  refine x_iald 0 20 C0 dX8_allOf_19 rfl hM.r_v rfl (vp_in_nI (n := 10 + 3 * ga + 1) (by omega) (by decide)) ?_
  refine x_st (st1 := [.int (v (10 + 3 * ga + 1)), .int (v (10 + 3 * ga + 0))]) (congrArg (fun z => Value.int z :: _) (show v (nI (10 + 3 * ga + 1)).toNatClampNeg = v (10 + 3 * ga + 1) from by rw [nI_clamp (by omega)])) ?_
  refine x_iadd 21 C0 dX8_allOf_20 rfl ?_
  refine x_aload_n 0 22 C0 dX8_allOf_21 rfl rfl rfl ?_
  refine x_getf (v := .ref (g.2 0 + 258 + 1)) 8 25 C0 dX8_allOf_22 rfl hM.o rfl (by decide) inX8 mF_X8_7 rfl ?_
  refine x_iload_n 1 26 C0 dX8_allOf_25 rfl rfl rfl ?_
  refine x_iconst (v := 2) 27 C0 dX8_allOf_26 rfl (by decide) ?_
  refine x_callS 30 C0 (k_X8_leaf l hl g _ _ (nI ga) 2) dX8_allOf_27 rfl mC_X8_leaf mM_X8_79 mS_X8_leaf mN_X8 yd_X8_leaf rfl rfl ⟨Nat.le_of_ble_eq_true rfl, Nat.le_of_ble_eq_true rfl⟩ rfl rfl (Nat.le_of_ble_eq_true rfl) ⟨Nat.le_of_ble_eq_true rfl, Nat.le_of_ble_eq_true rfl⟩ (fun _ _ _ q => False.elim q) (fun r w1 sz1 hz hP => ?_)
  obtain ⟨rfl, rfl, rfl⟩ := hP
  refine x_st (st1 := [.int (nI (10 + 3 * ga + 2)), .ref (g.2 0 + 258 + 1), .int ((v (10 + 3 * ga + 0)) + (v (10 + 3 * ga + 1)))]) (congrArg (fun z => Value.int z :: _) (at_nI 10 3 ga 2)) ?_
  refine x_iald 0 31 C0 dX8_allOf_30 rfl hM.r_v rfl (vp_in_nI (n := 10 + 3 * ga + 2) (by omega) (by decide)) ?_
  refine x_st (st1 := [.int (v (10 + 3 * ga + 2)), .int ((v (10 + 3 * ga + 0)) + (v (10 + 3 * ga + 1)))]) (congrArg (fun z => Value.int z :: _) (show v (nI (10 + 3 * ga + 2)).toNatClampNeg = v (10 + 3 * ga + 2) from by rw [nI_clamp (by omega)])) ?_
  refine x_iadd 32 C0 dX8_allOf_31 rfl ?_
  exact x_ireturn C0 dX8_allOf_32 rfl rfl (Nat.le_of_ble_eq_true rfl) (Nat.le_of_ble_eq_true rfl) ⟨rfl, rfl, rfl⟩

set_option maxHeartbeats 4000000 in
set_option maxRecDepth 100000 in
theorem k_X8_withWhere (l : Launch) (hl : l.stackTraces = false) (g : xg_T) (w : xw_T) (sz n : Nat) (t v bf sv pa lb ip td sg : Nat → Int32) (hM : MR g w t v bf sv pa lb ip td sg) (hJ : MJ n t v bf sv pa sg) (wh : Int32) : xM l g yX8_withWhere cX8_withWhere 4 (some .int) ({ frames := 1, cells := 0, slots := 0, locals := 21 }) 0 0 [.ref (g.2 0 + 258), .int wh] w sz (fun r w1 sz1 => (∃ m : Nat, m ≤ 20 ∧ v 3 = nI m ∧ r = some (.int (nAt v wh m))) ∧ w = w1 ∧ sz = sz1) (fun _ _ _ => False) := by
  obtain ⟨nC0, hnC0, hv30⟩ := hJ.1.n
  refine xM.of RX8 hl (by decide +kernel) rfl (Nat.le_of_ble_eq_true rfl) rfl ?_
  intro p e s m args below meth cD C0 hini
  refine x_iconst (v := 0) 1 C0 dX8_withWhere_0 rfl (by decide) ?_
  refine x_istore_n [(2, .int 0), (0, .ref (g.2 0 + 258)), (1, .int wh)] 2 C0 dX8_withWhere_1 rfl rfl (by decide) rfl ?_
  refine x_lv (lv1 := [(0, .ref (g.2 0 + 258)), (1, .int wh), (2, .int 0)]) [1, 2, 0] rfl ?_
  refine x_iconst (v := 0) 3 C0 dX8_withWhere_2 rfl (by decide) ?_
  refine x_istore_n [(3, .int 0), (0, .ref (g.2 0 + 258)), (1, .int wh), (2, .int 0)] 4 C0 dX8_withWhere_3 rfl rfl (by decide) rfl ?_
  refine x_lv (lv1 := [(0, .ref (g.2 0 + 258)), (1, .int wh), (2, .int 0), (3, .int 0)]) [1, 2, 3, 0] rfl ?_
  have loop4 : ∀ (N i : Nat) (ac : Int32), i ≤ nC0 → nC0 - i < N → (ac = nAt v wh i) → xV p l e ({ frames := 1, cells := 0, slots := 0, locals := 21 }) s m args below meth cD (xQ g below (fun r w1 sz1 => (∃ m : Nat, m ≤ 20 ∧ v 3 = nI m ∧ r = some (.int (nAt v wh m))) ∧ w = w1 ∧ sz = sz1) (fun _ _ _ => False) args s 0 0) g 4 w sz (0) (0) 4 [(0, .ref (g.2 0 + 258)), (1, .int wh), (2, .int ac), (3, .int (nI i))] [] := by
    intro N
    induction N with
    | zero => intro i ac h1 h2; omega
    | succ N ih =>
      intro i ac hi hN hV
      refine x_iload_n 3 5 C0 dX8_withWhere_4 rfl rfl rfl ?_
      refine x_aload_n 0 6 C0 dX8_withWhere_5 rfl rfl rfl ?_
      refine x_getf (v := .ref (g.2 0 + 258 + 1)) 8 9 C0 dX8_withWhere_6 rfl hM.o rfl (by decide) inX8 mF_X8_7 rfl ?_
      refine x_iconst (v := 3) 10 C0 dX8_withWhere_9 rfl (by decide) ?_
      refine x_iald 0 11 C0 dX8_withWhere_10 rfl hM.r_v rfl (vp_in_nI (n := 3) (by decide) (by decide)) ?_
      refine x_st (st1 := [.int (v 3), .int (nI i)]) (congrArg (fun z => Value.int z :: _) (show v (nI 3).toNatClampNeg = v 3 from by rw [nI_clamp (by omega)])) ?_
      refine x_st (st1 := [.int (nI nC0), .int (nI i)]) (congrArg (fun z => Value.int z :: _) (hv30)) ?_
      refine x_icmp_ge 43 14 C0 dX8_withWhere_11 rfl (by decide) (fun c1 => ?_) (fun c1 => ?_)
      · have hE : i = nC0 := Nat.le_antisymm hi ((nI_leI (by omega) (by omega)).mp c1)
        refine x_iload_n 2 44 C0 dX8_withWhere_43 rfl rfl rfl ?_
        exact x_ireturn C0 dX8_withWhere_44 rfl rfl (Nat.le_of_ble_eq_true rfl) (Nat.le_of_ble_eq_true rfl) ⟨⟨nC0, hnC0, hv30, by rw [hV, hE]⟩, rfl, rfl⟩
      · have hi2 : i < nC0 := Nat.lt_of_not_le (fun z => c1 (nI_le (a := nC0) z (by omega)))
        refine x_iload_n 2 15 C0 dX8_withWhere_14 rfl rfl rfl ?_
        refine x_aload_n 0 16 C0 dX8_withWhere_15 rfl rfl rfl ?_
        refine x_getf (v := .ref (g.2 0 + 258 + 1)) 8 19 C0 dX8_withWhere_16 rfl hM.o rfl (by decide) inX8 mF_X8_7 rfl ?_
        refine x_iload_n 3 20 C0 dX8_withWhere_19 rfl rfl rfl ?_
        refine x_bipush (v := 7) 22 C0 dX8_withWhere_20 rfl (by decide) ?_
        refine x_callS 25 C0 (k_X8_at l hl g _ _ (nI i) 7) dX8_withWhere_22 rfl mC_X8_at mM_X8_71 mS_X8_at mN_X8 yd_X8_at rfl rfl ⟨Nat.le_of_ble_eq_true rfl, Nat.le_of_ble_eq_true rfl⟩ rfl rfl (Nat.le_of_ble_eq_true rfl) ⟨Nat.le_of_ble_eq_true rfl, Nat.le_of_ble_eq_true rfl⟩ (fun _ _ _ q => False.elim q) (fun r w1 sz1 hz hP => ?_)
        obtain ⟨rfl, rfl, rfl⟩ := hP
        refine x_st (st1 := [.int (nI (28 + 9 * i + 7)), .ref (g.2 0 + 258 + 1), .int ac]) (congrArg (fun z => Value.int z :: _) (at_nI 28 9 i 7)) ?_
        refine x_iald 0 26 C0 dX8_withWhere_25 rfl hM.r_v rfl (vp_in_nI (n := 28 + 9 * i + 7) (by omega) (by decide)) ?_
        refine x_st (st1 := [.int (v (28 + 9 * i + 7)), .int ac]) (congrArg (fun z => Value.int z :: _) (show v (nI (28 + 9 * i + 7)).toNatClampNeg = v (28 + 9 * i + 7) from by rw [nI_clamp (by omega)])) ?_
        refine x_iload_n 1 27 C0 dX8_withWhere_26 rfl rfl rfl ?_
        refine x_icmp_ne 34 30 C0 dX8_withWhere_27 rfl (by decide) (fun c2 => ?_) (fun c2 => ?_)
        · refine x_iconst (v := 0) 35 C0 dX8_withWhere_34 rfl (by decide) ?_
          refine x_iadd 36 C0 dX8_withWhere_35 rfl ?_
          refine x_istore_n [(2, .int (ac + 0)), (0, .ref (g.2 0 + 258)), (1, .int wh), (3, .int (nI i))] 37 C0 dX8_withWhere_36 rfl rfl (by decide) rfl ?_
          refine x_lv (lv1 := [(0, .ref (g.2 0 + 258)), (1, .int wh), (2, .int (ac + 0)), (3, .int (nI i))]) [1, 2, 0, 3] rfl ?_
          refine x_iinc [(3, .int (nI (i + 1))), (0, .ref (g.2 0 + 258)), (1, .int wh), (2, .int (ac + 0))] 3 40 C0 dX8_withWhere_37 rfl rfl (nI_1 i) (by decide) rfl ?_
          refine x_lv (lv1 := [(0, .ref (g.2 0 + 258)), (1, .int wh), (2, .int (ac + 0)), (3, .int (nI (i + 1)))]) [1, 2, 3, 0] rfl ?_
          refine x_goto 4 C0 dX8_withWhere_40 (by decide) ?_
          exact x_lv [0, 1, 2, 3] rfl (ih (i + 1) _ (by omega) (by omega) (by subst hV; show _ = nAt v wh (i + 1); simp [nAt, hFold, isAt, c2]))
        · refine x_iconst (v := 1) 31 C0 dX8_withWhere_30 rfl (by decide) ?_
          refine x_goto 35 C0 dX8_withWhere_31 (by decide) ?_
          refine x_iadd 36 C0 dX8_withWhere_35 rfl ?_
          refine x_istore_n [(2, .int (ac + 1)), (0, .ref (g.2 0 + 258)), (1, .int wh), (3, .int (nI i))] 37 C0 dX8_withWhere_36 rfl rfl (by decide) rfl ?_
          refine x_lv (lv1 := [(0, .ref (g.2 0 + 258)), (1, .int wh), (2, .int (ac + 1)), (3, .int (nI i))]) [1, 2, 0, 3] rfl ?_
          refine x_iinc [(3, .int (nI (i + 1))), (0, .ref (g.2 0 + 258)), (1, .int wh), (2, .int (ac + 1))] 3 40 C0 dX8_withWhere_37 rfl rfl (nI_1 i) (by decide) rfl ?_
          refine x_lv (lv1 := [(0, .ref (g.2 0 + 258)), (1, .int wh), (2, .int (ac + 1)), (3, .int (nI (i + 1)))]) [1, 2, 3, 0] rfl ?_
          refine x_goto 4 C0 dX8_withWhere_40 (by decide) ?_
          exact x_lv [0, 1, 2, 3] rfl (ih (i + 1) _ (by omega) (by omega) (by subst hV; show _ = nAt v wh (i + 1); simp [nAt, hFold, isAt, c2]))
  exact x_lv [0, 1, 2, 3] rfl (loop4 (nC0 + 1) 0 _ (by omega) (by omega) rfl)

set_option maxHeartbeats 4000000 in
set_option maxRecDepth 100000 in
theorem k_X8_room (l : Launch) (hl : l.stackTraces = false) (g : xg_T) (w : xw_T) (sz n : Nat) (t v bf sv pa lb ip td sg : Nat → Int32) (hM : MR g w t v bf sv pa lb ip td sg) (hJ : MJ n t v bf sv pa sg) : xM l g yX8_room cX8_room 3 (some .int) ({ frames := 1, cells := 0, slots := 0, locals := 21 }) 0 0 [.ref (g.2 0 + 258)] w sz (fun r w1 sz1 => (∃ m : Nat, m ≤ 20 ∧ v 3 = nI m ∧ r = some (.int (hRoom v m))) ∧ w = w1 ∧ sz = sz1) (fun _ _ _ => False) := by
  obtain ⟨nC0, hnC0, hv30⟩ := hJ.1.n
  refine xM.of RX8 hl (by decide +kernel) rfl (Nat.le_of_ble_eq_true rfl) rfl ?_
  intro p e s m args below meth cD C0 hini
  refine x_bipush (v := 12) 2 C0 dX8_room_0 rfl (by decide) ?_
  refine x_istore_n [(1, .int 12), (0, .ref (g.2 0 + 258))] 3 C0 dX8_room_2 rfl rfl (by decide) rfl ?_
  refine x_lv (lv1 := [(0, .ref (g.2 0 + 258)), (1, .int 12)]) [1, 0] rfl ?_
  refine x_iconst (v := 0) 4 C0 dX8_room_3 rfl (by decide) ?_
  refine x_istore_n [(2, .int 0), (0, .ref (g.2 0 + 258)), (1, .int 12)] 5 C0 dX8_room_4 rfl rfl (by decide) rfl ?_
  refine x_lv (lv1 := [(0, .ref (g.2 0 + 258)), (1, .int 12), (2, .int 0)]) [1, 2, 0] rfl ?_
  have loop5 : ∀ (N i : Nat) (ac : Int32), i ≤ nC0 → nC0 - i < N → (ac = hRoom v i) → xV p l e ({ frames := 1, cells := 0, slots := 0, locals := 21 }) s m args below meth cD (xQ g below (fun r w1 sz1 => (∃ m : Nat, m ≤ 20 ∧ v 3 = nI m ∧ r = some (.int (hRoom v m))) ∧ w = w1 ∧ sz = sz1) (fun _ _ _ => False) args s 0 0) g 3 w sz (0) (0) 5 [(0, .ref (g.2 0 + 258)), (1, .int ac), (2, .int (nI i))] [] := by
    intro N
    induction N with
    | zero => intro i ac h1 h2; omega
    | succ N ih =>
      intro i ac hi hN hV
      refine x_iload_n 2 6 C0 dX8_room_5 rfl rfl rfl ?_
      refine x_aload_n 0 7 C0 dX8_room_6 rfl rfl rfl ?_
      refine x_getf (v := .ref (g.2 0 + 258 + 1)) 8 10 C0 dX8_room_7 rfl hM.o rfl (by decide) inX8 mF_X8_7 rfl ?_
      refine x_iconst (v := 3) 11 C0 dX8_room_10 rfl (by decide) ?_
      refine x_iald 0 12 C0 dX8_room_11 rfl hM.r_v rfl (vp_in_nI (n := 3) (by decide) (by decide)) ?_
      refine x_st (st1 := [.int (v 3), .int (nI i)]) (congrArg (fun z => Value.int z :: _) (show v (nI 3).toNatClampNeg = v 3 from by rw [nI_clamp (by omega)])) ?_
      refine x_st (st1 := [.int (nI nC0), .int (nI i)]) (congrArg (fun z => Value.int z :: _) (hv30)) ?_
      refine x_icmp_ge 53 15 C0 dX8_room_12 rfl (by decide) (fun c1 => ?_) (fun c1 => ?_)
      · have hE : i = nC0 := Nat.le_antisymm hi ((nI_leI (by omega) (by omega)).mp c1)
        refine x_iload_n 1 54 C0 dX8_room_53 rfl rfl rfl ?_
        exact x_ireturn C0 dX8_room_54 rfl rfl (Nat.le_of_ble_eq_true rfl) (Nat.le_of_ble_eq_true rfl) ⟨⟨nC0, hnC0, hv30, by rw [hV, hE]⟩, rfl, rfl⟩
      · have hi2 : i < nC0 := Nat.lt_of_not_le (fun z => c1 (nI_le (a := nC0) z (by omega)))
        refine x_iload_n 1 16 C0 dX8_room_15 rfl rfl rfl ?_
        refine x_aload_n 0 17 C0 dX8_room_16 rfl rfl rfl ?_
        refine x_getf (v := .ref (g.2 0 + 258 + 1)) 8 20 C0 dX8_room_17 rfl hM.o rfl (by decide) inX8 mF_X8_7 rfl ?_
        refine x_iload_n 2 21 C0 dX8_room_20 rfl rfl rfl ?_
        refine x_bipush (v := 7) 23 C0 dX8_room_21 rfl (by decide) ?_
        refine x_callS 26 C0 (k_X8_at l hl g _ _ (nI i) 7) dX8_room_23 rfl mC_X8_at mM_X8_71 mS_X8_at mN_X8 yd_X8_at rfl rfl ⟨Nat.le_of_ble_eq_true rfl, Nat.le_of_ble_eq_true rfl⟩ rfl rfl (Nat.le_of_ble_eq_true rfl) ⟨Nat.le_of_ble_eq_true rfl, Nat.le_of_ble_eq_true rfl⟩ (fun _ _ _ q => False.elim q) (fun r w1 sz1 hz hP => ?_)
        obtain ⟨rfl, rfl, rfl⟩ := hP
        refine x_st (st1 := [.int (nI (28 + 9 * i + 7)), .ref (g.2 0 + 258 + 1), .int ac]) (congrArg (fun z => Value.int z :: _) (at_nI 28 9 i 7)) ?_
        refine x_iald 0 27 C0 dX8_room_26 rfl hM.r_v rfl (vp_in_nI (n := 28 + 9 * i + 7) (by omega) (by decide)) ?_
        refine x_st (st1 := [.int (v (28 + 9 * i + 7)), .int ac]) (congrArg (fun z => Value.int z :: _) (show v (nI (28 + 9 * i + 7)).toNatClampNeg = v (28 + 9 * i + 7) from by rw [nI_clamp (by omega)])) ?_
        refine x_iconst (v := 2) 28 C0 dX8_room_27 rfl (by decide) ?_
        refine x_icmp_ne 44 31 C0 dX8_room_28 rfl (by decide) (fun c2 => ?_) (fun c2 => ?_)
        · refine x_iconst (v := 0) 45 C0 dX8_room_44 rfl (by decide) ?_
          refine x_isub 46 C0 dX8_room_45 rfl ?_
          refine x_istore_n [(1, .int (ac - 0)), (0, .ref (g.2 0 + 258)), (2, .int (nI i))] 47 C0 dX8_room_46 rfl rfl (by decide) rfl ?_
          refine x_lv (lv1 := [(0, .ref (g.2 0 + 258)), (1, .int (ac - 0)), (2, .int (nI i))]) [1, 0, 2] rfl ?_
          refine x_iinc [(2, .int (nI (i + 1))), (0, .ref (g.2 0 + 258)), (1, .int (ac - 0))] 2 50 C0 dX8_room_47 rfl rfl (nI_1 i) (by decide) rfl ?_
          refine x_lv (lv1 := [(0, .ref (g.2 0 + 258)), (1, .int (ac - 0)), (2, .int (nI (i + 1)))]) [1, 2, 0] rfl ?_
          refine x_goto 5 C0 dX8_room_50 (by decide) ?_
          exact x_lv [0, 1, 2] rfl (ih (i + 1) _ (by omega) (by omega) (by subst hV; show _ = hRoom v (i + 1); simp [hRoom, c2]))
        · refine x_aload_n 0 32 C0 dX8_room_31 rfl rfl rfl ?_
          refine x_getf (v := .ref (g.2 0 + 258 + 1)) 8 35 C0 dX8_room_32 rfl hM.o rfl (by decide) inX8 mF_X8_7 rfl ?_
          refine x_iload_n 2 36 C0 dX8_room_35 rfl rfl rfl ?_
          refine x_iconst (v := 0) 37 C0 dX8_room_36 rfl (by decide) ?_
          refine x_callS 40 C0 (k_X8_at l hl g _ _ (nI i) 0) dX8_room_37 rfl mC_X8_at mM_X8_71 mS_X8_at mN_X8 yd_X8_at rfl rfl ⟨Nat.le_of_ble_eq_true rfl, Nat.le_of_ble_eq_true rfl⟩ rfl rfl (Nat.le_of_ble_eq_true rfl) ⟨Nat.le_of_ble_eq_true rfl, Nat.le_of_ble_eq_true rfl⟩ (fun _ _ _ q => False.elim q) (fun r w1 sz1 hz hP => ?_)
          obtain ⟨rfl, rfl, rfl⟩ := hP
          refine x_st (st1 := [.int (nI (28 + 9 * i + 0)), .ref (g.2 0 + 258 + 1), .int ac]) (congrArg (fun z => Value.int z :: _) (at_nI 28 9 i 0)) ?_
          refine x_iald 0 41 C0 dX8_room_40 rfl hM.r_v rfl (vp_in_nI (n := 28 + 9 * i + 0) (by omega) (by decide)) ?_
          refine x_st (st1 := [.int (v (28 + 9 * i + 0)), .int ac]) (congrArg (fun z => Value.int z :: _) (show v (nI (28 + 9 * i + 0)).toNatClampNeg = v (28 + 9 * i + 0) from by rw [nI_clamp (by omega)])) ?_
          refine x_goto 45 C0 dX8_room_41 (by decide) ?_
          refine x_isub 46 C0 dX8_room_45 rfl ?_
          refine x_istore_n [(1, .int (ac - (v (28 + 9 * i + 0)))), (0, .ref (g.2 0 + 258)), (2, .int (nI i))] 47 C0 dX8_room_46 rfl rfl (by decide) rfl ?_
          refine x_lv (lv1 := [(0, .ref (g.2 0 + 258)), (1, .int (ac - (v (28 + 9 * i + 0)))), (2, .int (nI i))]) [1, 0, 2] rfl ?_
          refine x_iinc [(2, .int (nI (i + 1))), (0, .ref (g.2 0 + 258)), (1, .int (ac - (v (28 + 9 * i + 0))))] 2 50 C0 dX8_room_47 rfl rfl (nI_1 i) (by decide) rfl ?_
          refine x_lv (lv1 := [(0, .ref (g.2 0 + 258)), (1, .int (ac - (v (28 + 9 * i + 0)))), (2, .int (nI (i + 1)))]) [1, 2, 0] rfl ?_
          refine x_goto 5 C0 dX8_room_50 (by decide) ?_
          exact x_lv [0, 1, 2] rfl (ih (i + 1) _ (by omega) (by omega) (by subst hV; show _ = hRoom v (i + 1); simp [hRoom, c2]))
  exact x_lv [0, 1, 2] rfl (loop5 (nC0 + 1) 0 _ (by omega) (by omega) rfl)

set_option maxHeartbeats 4000000 in
set_option maxRecDepth 100000 in
theorem k_X8_cargoOf (l : Launch) (hl : l.stackTraces = false) (g : xg_T) (w : xw_T) (sz n : Nat) (t v bf sv pa lb ip td sg : Nat → Int32) (hM : MR g w t v bf sv pa lb ip td sg) (hJ : MJ n t v bf sv pa sg) : xM l g yX8_cargoOf cX8_cargoOf 3 (some .int) ({ frames := 2, cells := 0, slots := 0, locals := 43 }) 0 0 [.ref (g.2 0 + 258)] w sz (fun r w1 sz1 => (∃ m : Nat, m ≤ 20 ∧ v 3 = nI m ∧ r = some (.int (rCargo v m))) ∧ w = w1 ∧ sz = sz1) (fun _ _ _ => False) := by
  obtain ⟨nC0, hnC0, hv30⟩ := hJ.1.n
  refine xM.of RX8 hl (by decide +kernel) rfl (Nat.le_of_ble_eq_true rfl) rfl ?_
  intro p e s m args below meth cD C0 hini
  refine x_iconst (v := 0) 1 C0 dX8_cargoOf_0 rfl (by decide) ?_
  refine x_istore_n [(1, .int 0), (0, .ref (g.2 0 + 258))] 2 C0 dX8_cargoOf_1 rfl rfl (by decide) rfl ?_
  refine x_lv (lv1 := [(0, .ref (g.2 0 + 258)), (1, .int 0)]) [1, 0] rfl ?_
  refine x_iconst (v := 0) 3 C0 dX8_cargoOf_2 rfl (by decide) ?_
  refine x_istore_n [(2, .int 0), (0, .ref (g.2 0 + 258)), (1, .int 0)] 4 C0 dX8_cargoOf_3 rfl rfl (by decide) rfl ?_
  refine x_lv (lv1 := [(0, .ref (g.2 0 + 258)), (1, .int 0), (2, .int 0)]) [1, 2, 0] rfl ?_
  have loop4 : ∀ (N i : Nat) (ac : Int32), i ≤ nC0 → nC0 - i < N → (ac = rCargo v i) → xV p l e ({ frames := 2, cells := 0, slots := 0, locals := 43 }) s m args below meth cD (xQ g below (fun r w1 sz1 => (∃ m : Nat, m ≤ 20 ∧ v 3 = nI m ∧ r = some (.int (rCargo v m))) ∧ w = w1 ∧ sz = sz1) (fun _ _ _ => False) args s 0 0) g 3 w sz (0) (0) 4 [(0, .ref (g.2 0 + 258)), (1, .int ac), (2, .int (nI i))] [] := by
    intro N
    induction N with
    | zero => intro i ac h1 h2; omega
    | succ N ih =>
      intro i ac hi hN hV
      refine x_iload_n 2 5 C0 dX8_cargoOf_4 rfl rfl rfl ?_
      refine x_aload_n 0 6 C0 dX8_cargoOf_5 rfl rfl rfl ?_
      refine x_getf (v := .ref (g.2 0 + 258 + 1)) 8 9 C0 dX8_cargoOf_6 rfl hM.o rfl (by decide) inX8 mF_X8_7 rfl ?_
      refine x_iconst (v := 3) 10 C0 dX8_cargoOf_9 rfl (by decide) ?_
      refine x_iald 0 11 C0 dX8_cargoOf_10 rfl hM.r_v rfl (vp_in_nI (n := 3) (by decide) (by decide)) ?_
      refine x_st (st1 := [.int (v 3), .int (nI i)]) (congrArg (fun z => Value.int z :: _) (show v (nI 3).toNatClampNeg = v 3 from by rw [nI_clamp (by omega)])) ?_
      refine x_st (st1 := [.int (nI nC0), .int (nI i)]) (congrArg (fun z => Value.int z :: _) (hv30)) ?_
      refine x_icmp_ge 47 14 C0 dX8_cargoOf_11 rfl (by decide) (fun c1 => ?_) (fun c1 => ?_)
      · have hE : i = nC0 := Nat.le_antisymm hi ((nI_leI (by omega) (by omega)).mp c1)
        refine x_iload_n 1 48 C0 dX8_cargoOf_47 rfl rfl rfl ?_
        exact x_ireturn C0 dX8_cargoOf_48 rfl rfl (Nat.le_of_ble_eq_true rfl) (Nat.le_of_ble_eq_true rfl) ⟨⟨nC0, hnC0, hv30, by rw [hV, hE]⟩, rfl, rfl⟩
      · have hi2 : i < nC0 := Nat.lt_of_not_le (fun z => c1 (nI_le (a := nC0) z (by omega)))
        refine x_iload_n 1 15 C0 dX8_cargoOf_14 rfl rfl rfl ?_
        refine x_aload_n 0 16 C0 dX8_cargoOf_15 rfl rfl rfl ?_
        refine x_getf (v := .ref (g.2 0 + 258 + 1)) 8 19 C0 dX8_cargoOf_16 rfl hM.o rfl (by decide) inX8 mF_X8_7 rfl ?_
        refine x_iload_n 2 20 C0 dX8_cargoOf_19 rfl rfl rfl ?_
        refine x_bipush (v := 7) 22 C0 dX8_cargoOf_20 rfl (by decide) ?_
        refine x_callS 25 C0 (k_X8_at l hl g _ _ (nI i) 7) dX8_cargoOf_22 rfl mC_X8_at mM_X8_71 mS_X8_at mN_X8 yd_X8_at rfl rfl ⟨Nat.le_of_ble_eq_true rfl, Nat.le_of_ble_eq_true rfl⟩ rfl rfl (Nat.le_of_ble_eq_true rfl) ⟨Nat.le_of_ble_eq_true rfl, Nat.le_of_ble_eq_true rfl⟩ (fun _ _ _ q => False.elim q) (fun r w1 sz1 hz hP => ?_)
        obtain ⟨rfl, rfl, rfl⟩ := hP
        refine x_st (st1 := [.int (nI (28 + 9 * i + 7)), .ref (g.2 0 + 258 + 1), .int ac]) (congrArg (fun z => Value.int z :: _) (at_nI 28 9 i 7)) ?_
        refine x_iald 0 26 C0 dX8_cargoOf_25 rfl hM.r_v rfl (vp_in_nI (n := 28 + 9 * i + 7) (by omega) (by decide)) ?_
        refine x_st (st1 := [.int (v (28 + 9 * i + 7)), .int ac]) (congrArg (fun z => Value.int z :: _) (show v (nI (28 + 9 * i + 7)).toNatClampNeg = v (28 + 9 * i + 7) from by rw [nI_clamp (by omega)])) ?_
        refine x_iconst (v := 2) 27 C0 dX8_cargoOf_26 rfl (by decide) ?_
        refine x_icmp_ne 38 30 C0 dX8_cargoOf_27 rfl (by decide) (fun c2 => ?_) (fun c2 => ?_)
        · refine x_iconst (v := 0) 39 C0 dX8_cargoOf_38 rfl (by decide) ?_
          refine x_iadd 40 C0 dX8_cargoOf_39 rfl ?_
          refine x_istore_n [(1, .int (ac + 0)), (0, .ref (g.2 0 + 258)), (2, .int (nI i))] 41 C0 dX8_cargoOf_40 rfl rfl (by decide) rfl ?_
          refine x_lv (lv1 := [(0, .ref (g.2 0 + 258)), (1, .int (ac + 0)), (2, .int (nI i))]) [1, 0, 2] rfl ?_
          refine x_iinc [(2, .int (nI (i + 1))), (0, .ref (g.2 0 + 258)), (1, .int (ac + 0))] 2 44 C0 dX8_cargoOf_41 rfl rfl (nI_1 i) (by decide) rfl ?_
          refine x_lv (lv1 := [(0, .ref (g.2 0 + 258)), (1, .int (ac + 0)), (2, .int (nI (i + 1)))]) [1, 2, 0] rfl ?_
          refine x_goto 4 C0 dX8_cargoOf_44 (by decide) ?_
          exact x_lv [0, 1, 2] rfl (ih (i + 1) _ (by omega) (by omega) (by subst hV; show _ = rCargo v (i + 1); simp [rCargo, hFold, isAt, c2]))
        · refine x_aload_n 0 31 C0 dX8_cargoOf_30 rfl rfl rfl ?_
          refine x_iload_n 2 32 C0 dX8_cargoOf_31 rfl rfl rfl ?_
          refine x_callV 35 C0 (k_X8_worthOf l hl g _ _ n t v bf sv pa lb ip td sg hM hJ i (by omega)) dX8_cargoOf_32 rfl mC_X8_worthOf mM_X8_149 mI_X8_worthOf mV_X8_worthOf mN_X8 yd_X8_worthOf rfl rfl ⟨Nat.le_of_ble_eq_true rfl, Nat.le_of_ble_eq_true rfl⟩ hM.o rfl rfl rfl rfl (Nat.le_of_ble_eq_true rfl) ⟨Nat.le_of_ble_eq_true rfl, Nat.le_of_ble_eq_true rfl⟩ (fun _ _ _ q => False.elim q) (fun r w1 sz1 hz hP => ?_)
          obtain ⟨rfl, rfl, rfl⟩ := hP
          refine x_st (st1 := [.int (rWorth v i), .int ac]) rfl ?_
          refine x_goto 39 C0 dX8_cargoOf_35 (by decide) ?_
          refine x_iadd 40 C0 dX8_cargoOf_39 rfl ?_
          refine x_istore_n [(1, .int (ac + (rWorth v i))), (0, .ref (g.2 0 + 258)), (2, .int (nI i))] 41 C0 dX8_cargoOf_40 rfl rfl (by decide) rfl ?_
          refine x_lv (lv1 := [(0, .ref (g.2 0 + 258)), (1, .int (ac + (rWorth v i))), (2, .int (nI i))]) [1, 0, 2] rfl ?_
          refine x_iinc [(2, .int (nI (i + 1))), (0, .ref (g.2 0 + 258)), (1, .int (ac + (rWorth v i)))] 2 44 C0 dX8_cargoOf_41 rfl rfl (nI_1 i) (by decide) rfl ?_
          refine x_lv (lv1 := [(0, .ref (g.2 0 + 258)), (1, .int (ac + (rWorth v i))), (2, .int (nI (i + 1)))]) [1, 2, 0] rfl ?_
          refine x_goto 4 C0 dX8_cargoOf_44 (by decide) ?_
          exact x_lv [0, 1, 2] rfl (ih (i + 1) _ (by omega) (by omega) (by subst hV; show _ = rCargo v (i + 1); simp [rCargo, hFold, isAt, c2]))
  exact x_lv [0, 1, 2] rfl (loop4 (nC0 + 1) 0 _ (by omega) (by omega) rfl)

set_option maxHeartbeats 4000000 in
set_option maxRecDepth 100000 in
theorem k_X8_stored (l : Launch) (hl : l.stackTraces = false) (g : xg_T) (w : xw_T) (sz n : Nat) (t v bf sv pa lb ip td sg : Nat → Int32) (hM : MR g w t v bf sv pa lb ip td sg) (hJ : MJ n t v bf sv pa sg) : xM l g yX8_stored cX8_stored 3 (some .int) ({ frames := 0, cells := 0, slots := 0, locals := 0 }) 0 0 [.ref (g.2 0 + 258)] w sz (fun r w1 sz1 => r = some (.int (rStored v 18)) ∧ w = w1 ∧ sz = sz1) (fun _ _ _ => False) := by
  refine xM.of RX8 hl (by decide +kernel) rfl (Nat.le_of_ble_eq_true rfl) rfl ?_
  intro p e s m args below meth cD C0 hini
  refine x_iconst (v := 0) 1 C0 dX8_stored_0 rfl (by decide) ?_
  refine x_istore_n [(1, .int 0), (0, .ref (g.2 0 + 258))] 2 C0 dX8_stored_1 rfl rfl (by decide) rfl ?_
  refine x_lv (lv1 := [(0, .ref (g.2 0 + 258)), (1, .int 0)]) [1, 0] rfl ?_
  refine x_iconst (v := 0) 3 C0 dX8_stored_2 rfl (by decide) ?_
  refine x_istore_n [(2, .int 0), (0, .ref (g.2 0 + 258)), (1, .int 0)] 4 C0 dX8_stored_3 rfl rfl (by decide) rfl ?_
  refine x_lv (lv1 := [(0, .ref (g.2 0 + 258)), (1, .int 0), (2, .int 0)]) [1, 2, 0] rfl ?_
  have loop4 : ∀ (N i : Nat) (ac : Int32), i ≤ 18 → 18 - i < N → (ac = rStored v i) → xV p l e ({ frames := 0, cells := 0, slots := 0, locals := 0 }) s m args below meth cD (xQ g below (fun r w1 sz1 => r = some (.int (rStored v 18)) ∧ w = w1 ∧ sz = sz1) (fun _ _ _ => False) args s 0 0) g 3 w sz (0) (0) 4 [(0, .ref (g.2 0 + 258)), (1, .int ac), (2, .int (nI i))] [] := by
    intro N
    induction N with
    | zero => intro i ac h1 h2; omega
    | succ N ih =>
      intro i ac hi hN hV
      refine x_iload_n 2 5 C0 dX8_stored_4 rfl rfl rfl ?_
      refine x_bipush (v := 18) 7 C0 dX8_stored_5 rfl (by decide) ?_
      refine x_icmp_ge 28 10 C0 dX8_stored_7 rfl (by decide) (fun c1 => ?_) (fun c1 => ?_)
      · have hE : i = 18 := Nat.le_antisymm hi ((nI_leI (by omega) (by omega)).mp c1)
        refine x_iload_n 1 29 C0 dX8_stored_28 rfl rfl rfl ?_
        exact x_ireturn C0 dX8_stored_29 rfl rfl (Nat.le_of_ble_eq_true rfl) (Nat.le_of_ble_eq_true rfl) ⟨by rw [hV, hE], rfl, rfl⟩
      · have hi2 : i < 18 := Nat.lt_of_not_le (fun z => c1 (nI_le (a := 18) z (by omega)))
        refine x_iload_n 1 11 C0 dX8_stored_10 rfl rfl rfl ?_
        refine x_aload_n 0 12 C0 dX8_stored_11 rfl rfl rfl ?_
        refine x_getf (v := .ref (g.2 0 + 258 + 1)) 8 15 C0 dX8_stored_12 rfl hM.o rfl (by decide) inX8 mF_X8_7 rfl ?_
        refine x_bipush (v := 10) 17 C0 dX8_stored_15 rfl (by decide) ?_
        refine x_iload_n 2 18 C0 dX8_stored_17 rfl rfl rfl ?_
        refine x_iadd 19 C0 dX8_stored_18 rfl ?_
        refine x_st (st1 := [.int (nI (10 + i)), .ref (g.2 0 + 258 + 1), .int ac]) (congrArg (fun z => Value.int z :: _) (nI_add 10 i)) ?_
        refine x_iald 0 20 C0 dX8_stored_19 rfl hM.r_v rfl (vp_in_nI (n := 10 + i) (by omega) (by decide)) ?_
        refine x_st (st1 := [.int (v (10 + i)), .int ac]) (congrArg (fun z => Value.int z :: _) (show v (nI (10 + i)).toNatClampNeg = v (10 + i) from by rw [nI_clamp (by omega)])) ?_
        refine x_iadd 21 C0 dX8_stored_20 rfl ?_
        refine x_istore_n [(1, .int (ac + (v (10 + i)))), (0, .ref (g.2 0 + 258)), (2, .int (nI i))] 22 C0 dX8_stored_21 rfl rfl (by decide) rfl ?_
        refine x_lv (lv1 := [(0, .ref (g.2 0 + 258)), (1, .int (ac + (v (10 + i)))), (2, .int (nI i))]) [1, 0, 2] rfl ?_
        refine x_iinc [(2, .int (nI (i + 1))), (0, .ref (g.2 0 + 258)), (1, .int (ac + (v (10 + i))))] 2 25 C0 dX8_stored_22 rfl rfl (nI_1 i) (by decide) rfl ?_
        refine x_lv (lv1 := [(0, .ref (g.2 0 + 258)), (1, .int (ac + (v (10 + i)))), (2, .int (nI (i + 1)))]) [1, 2, 0] rfl ?_
        refine x_goto 4 C0 dX8_stored_25 (by decide) ?_
        exact x_lv [0, 1, 2] rfl (ih (i + 1) _ (by omega) (by omega) (by subst hV; show _ = rStored v (i + 1); simp [rStored, hFold]))
  exact x_lv [0, 1, 2] rfl (loop4 (18 + 1) 0 _ (by omega) (by omega) rfl)

set_option maxHeartbeats 4000000 in
set_option maxRecDepth 100000 in
theorem k_X8_packed (l : Launch) (hl : l.stackTraces = false) (g : xg_T) (w : xw_T) (sz n : Nat) (t v bf sv pa lb ip td sg : Nat → Int32) (hM : MR g w t v bf sv pa lb ip td sg) (hJ : MJ n t v bf sv pa sg) : xM l g yX8_packed cX8_packed 3 (some .int) ({ frames := 1, cells := 0, slots := 0, locals := 21 }) 0 0 [.ref (g.2 0 + 258)] w sz (fun r w1 sz1 => (∃ m : Nat, m ≤ 20 ∧ v 3 = nI m ∧ r = some (.int (rPacked v m))) ∧ w = w1 ∧ sz = sz1) (fun _ _ _ => False) := by
  obtain ⟨nC0, hnC0, hv30⟩ := hJ.1.n
  refine xM.of RX8 hl (by decide +kernel) rfl (Nat.le_of_ble_eq_true rfl) rfl ?_
  intro p e s m args below meth cD C0 hini
  refine x_iconst (v := 0) 1 C0 dX8_packed_0 rfl (by decide) ?_
  refine x_istore_n [(1, .int 0), (0, .ref (g.2 0 + 258))] 2 C0 dX8_packed_1 rfl rfl (by decide) rfl ?_
  refine x_lv (lv1 := [(0, .ref (g.2 0 + 258)), (1, .int 0)]) [1, 0] rfl ?_
  refine x_iconst (v := 0) 3 C0 dX8_packed_2 rfl (by decide) ?_
  refine x_istore_n [(2, .int 0), (0, .ref (g.2 0 + 258)), (1, .int 0)] 4 C0 dX8_packed_3 rfl rfl (by decide) rfl ?_
  refine x_lv (lv1 := [(0, .ref (g.2 0 + 258)), (1, .int 0), (2, .int 0)]) [1, 2, 0] rfl ?_
  have loop4 : ∀ (N i : Nat) (ac : Int32), i ≤ nC0 → nC0 - i < N → (ac = rPacked v i) → xV p l e ({ frames := 1, cells := 0, slots := 0, locals := 21 }) s m args below meth cD (xQ g below (fun r w1 sz1 => (∃ m : Nat, m ≤ 20 ∧ v 3 = nI m ∧ r = some (.int (rPacked v m))) ∧ w = w1 ∧ sz = sz1) (fun _ _ _ => False) args s 0 0) g 3 w sz (0) (0) 4 [(0, .ref (g.2 0 + 258)), (1, .int ac), (2, .int (nI i))] [] := by
    intro N
    induction N with
    | zero => intro i ac h1 h2; omega
    | succ N ih =>
      intro i ac hi hN hV
      refine x_iload_n 2 5 C0 dX8_packed_4 rfl rfl rfl ?_
      refine x_aload_n 0 6 C0 dX8_packed_5 rfl rfl rfl ?_
      refine x_getf (v := .ref (g.2 0 + 258 + 1)) 8 9 C0 dX8_packed_6 rfl hM.o rfl (by decide) inX8 mF_X8_7 rfl ?_
      refine x_iconst (v := 3) 10 C0 dX8_packed_9 rfl (by decide) ?_
      refine x_iald 0 11 C0 dX8_packed_10 rfl hM.r_v rfl (vp_in_nI (n := 3) (by decide) (by decide)) ?_
      refine x_st (st1 := [.int (v 3), .int (nI i)]) (congrArg (fun z => Value.int z :: _) (show v (nI 3).toNatClampNeg = v 3 from by rw [nI_clamp (by omega)])) ?_
      refine x_st (st1 := [.int (nI nC0), .int (nI i)]) (congrArg (fun z => Value.int z :: _) (hv30)) ?_
      refine x_icmp_ge 52 14 C0 dX8_packed_11 rfl (by decide) (fun c1 => ?_) (fun c1 => ?_)
      · have hE : i = nC0 := Nat.le_antisymm hi ((nI_leI (by omega) (by omega)).mp c1)
        refine x_iload_n 1 53 C0 dX8_packed_52 rfl rfl rfl ?_
        exact x_ireturn C0 dX8_packed_53 rfl rfl (Nat.le_of_ble_eq_true rfl) (Nat.le_of_ble_eq_true rfl) ⟨⟨nC0, hnC0, hv30, by rw [hV, hE]⟩, rfl, rfl⟩
      · have hi2 : i < nC0 := Nat.lt_of_not_le (fun z => c1 (nI_le (a := nC0) z (by omega)))
        refine x_iload_n 1 15 C0 dX8_packed_14 rfl rfl rfl ?_
        refine x_aload_n 0 16 C0 dX8_packed_15 rfl rfl rfl ?_
        refine x_getf (v := .ref (g.2 0 + 258 + 1)) 8 19 C0 dX8_packed_16 rfl hM.o rfl (by decide) inX8 mF_X8_7 rfl ?_
        refine x_iload_n 2 20 C0 dX8_packed_19 rfl rfl rfl ?_
        refine x_bipush (v := 7) 22 C0 dX8_packed_20 rfl (by decide) ?_
        refine x_callS 25 C0 (k_X8_at l hl g _ _ (nI i) 7) dX8_packed_22 rfl mC_X8_at mM_X8_71 mS_X8_at mN_X8 yd_X8_at rfl rfl ⟨Nat.le_of_ble_eq_true rfl, Nat.le_of_ble_eq_true rfl⟩ rfl rfl (Nat.le_of_ble_eq_true rfl) ⟨Nat.le_of_ble_eq_true rfl, Nat.le_of_ble_eq_true rfl⟩ (fun _ _ _ q => False.elim q) (fun r w1 sz1 hz hP => ?_)
        obtain ⟨rfl, rfl, rfl⟩ := hP
        refine x_st (st1 := [.int (nI (28 + 9 * i + 7)), .ref (g.2 0 + 258 + 1), .int ac]) (congrArg (fun z => Value.int z :: _) (at_nI 28 9 i 7)) ?_
        refine x_iald 0 26 C0 dX8_packed_25 rfl hM.r_v rfl (vp_in_nI (n := 28 + 9 * i + 7) (by omega) (by decide)) ?_
        refine x_st (st1 := [.int (v (28 + 9 * i + 7)), .int ac]) (congrArg (fun z => Value.int z :: _) (show v (nI (28 + 9 * i + 7)).toNatClampNeg = v (28 + 9 * i + 7) from by rw [nI_clamp (by omega)])) ?_
        refine x_iconst (v := 3) 27 C0 dX8_packed_26 rfl (by decide) ?_
        refine x_icmp_ne 34 30 C0 dX8_packed_27 rfl (by decide) (fun c2 => ?_) (fun c2 => ?_)
        · refine x_aload_n 0 35 C0 dX8_packed_34 rfl rfl rfl ?_
          refine x_getf (v := .ref (g.2 0 + 258 + 1)) 8 38 C0 dX8_packed_35 rfl hM.o rfl (by decide) inX8 mF_X8_7 rfl ?_
          refine x_iload_n 2 39 C0 dX8_packed_38 rfl rfl rfl ?_
          refine x_iconst (v := 3) 40 C0 dX8_packed_39 rfl (by decide) ?_
          refine x_callS 43 C0 (k_X8_at l hl g _ _ (nI i) 3) dX8_packed_40 rfl mC_X8_at mM_X8_71 mS_X8_at mN_X8 yd_X8_at rfl rfl ⟨Nat.le_of_ble_eq_true rfl, Nat.le_of_ble_eq_true rfl⟩ rfl rfl (Nat.le_of_ble_eq_true rfl) ⟨Nat.le_of_ble_eq_true rfl, Nat.le_of_ble_eq_true rfl⟩ (fun _ _ _ q => False.elim q) (fun r w1 sz1 hz hP => ?_)
          obtain ⟨rfl, rfl, rfl⟩ := hP
          refine x_st (st1 := [.int (nI (28 + 9 * i + 3)), .ref (g.2 0 + 258 + 1), .int ac]) (congrArg (fun z => Value.int z :: _) (at_nI 28 9 i 3)) ?_
          refine x_iald 0 44 C0 dX8_packed_43 rfl hM.r_v rfl (vp_in_nI (n := 28 + 9 * i + 3) (by omega) (by decide)) ?_
          refine x_st (st1 := [.int (v (28 + 9 * i + 3)), .int ac]) (congrArg (fun z => Value.int z :: _) (show v (nI (28 + 9 * i + 3)).toNatClampNeg = v (28 + 9 * i + 3) from by rw [nI_clamp (by omega)])) ?_
          refine x_iadd 45 C0 dX8_packed_44 rfl ?_
          refine x_istore_n [(1, .int (ac + (v (28 + 9 * i + 3)))), (0, .ref (g.2 0 + 258)), (2, .int (nI i))] 46 C0 dX8_packed_45 rfl rfl (by decide) rfl ?_
          refine x_lv (lv1 := [(0, .ref (g.2 0 + 258)), (1, .int (ac + (v (28 + 9 * i + 3)))), (2, .int (nI i))]) [1, 0, 2] rfl ?_
          refine x_iinc [(2, .int (nI (i + 1))), (0, .ref (g.2 0 + 258)), (1, .int (ac + (v (28 + 9 * i + 3))))] 2 49 C0 dX8_packed_46 rfl rfl (nI_1 i) (by decide) rfl ?_
          refine x_lv (lv1 := [(0, .ref (g.2 0 + 258)), (1, .int (ac + (v (28 + 9 * i + 3)))), (2, .int (nI (i + 1)))]) [1, 2, 0] rfl ?_
          refine x_goto 4 C0 dX8_packed_49 (by decide) ?_
          exact x_lv [0, 1, 2] rfl (ih (i + 1) _ (by omega) (by omega) (by subst hV; show _ = rPacked v (i + 1); simp [rPacked, hFold, c2]))
        · refine x_iconst (v := 0) 31 C0 dX8_packed_30 rfl (by decide) ?_
          refine x_goto 44 C0 dX8_packed_31 (by decide) ?_
          refine x_iadd 45 C0 dX8_packed_44 rfl ?_
          refine x_istore_n [(1, .int (ac + 0)), (0, .ref (g.2 0 + 258)), (2, .int (nI i))] 46 C0 dX8_packed_45 rfl rfl (by decide) rfl ?_
          refine x_lv (lv1 := [(0, .ref (g.2 0 + 258)), (1, .int (ac + 0)), (2, .int (nI i))]) [1, 0, 2] rfl ?_
          refine x_iinc [(2, .int (nI (i + 1))), (0, .ref (g.2 0 + 258)), (1, .int (ac + 0))] 2 49 C0 dX8_packed_46 rfl rfl (nI_1 i) (by decide) rfl ?_
          refine x_lv (lv1 := [(0, .ref (g.2 0 + 258)), (1, .int (ac + 0)), (2, .int (nI (i + 1)))]) [1, 2, 0] rfl ?_
          refine x_goto 4 C0 dX8_packed_49 (by decide) ?_
          exact x_lv [0, 1, 2] rfl (ih (i + 1) _ (by omega) (by omega) (by subst hV; show _ = rPacked v (i + 1); simp [rPacked, hFold, c2]))
  exact x_lv [0, 1, 2] rfl (loop4 (nC0 + 1) 0 _ (by omega) (by omega) rfl)

set_option maxHeartbeats 4000000 in
set_option maxRecDepth 100000 in
theorem k_X8_isShut (l : Launch) (hl : l.stackTraces = false) (g : xg_T) (w : xw_T) (sz n : Nat) (t v bf sv pa lb ip td sg : Nat → Int32) (hM : MR g w t v bf sv pa lb ip td sg) (hJ : MJ n t v bf sv pa sg) (kc : Nat) (hkc : kc < 20) : xM l g yX8_isShut cX8_isShut 3 (some .boolean) ({ frames := 2, cells := 0, slots := 0, locals := 43 }) 0 0 [.ref (g.2 0 + 258), .int (nI kc)] w sz (fun r w1 sz1 => sz = sz1 ∧ ((r = some (.int 0) ∧ v (28 + 9 * kc + 7) = 0 ∧ v (28 + 9 * kc + 5) = 0 ∧ w = w1) ∨ (r = some (.int 1) ∧ ¬ (v (28 + 9 * kc + 7) = 0 ∧ v (28 + 9 * kc + 5) = 0) ∧ ∃ t', w1 = MW g w t' v bf sv pa lb ip td sg ∧ MJ n t' v bf sv pa sg ∧ tK t t' ∧ t' 1 = 3))) (fun _ _ _ => False) := by
  refine xM.of RX8 hl (by decide +kernel) rfl (Nat.le_of_ble_eq_true rfl) rfl ?_
  intro p e s m args below meth cD C0 hini
  refine x_aload_n 0 1 C0 dX8_isShut_0 rfl rfl rfl ?_
  refine x_getf (v := .ref (g.2 0 + 258 + 1)) 8 4 C0 dX8_isShut_1 rfl hM.o rfl (by decide) inX8 mF_X8_7 rfl ?_
  refine x_iload_n 1 5 C0 dX8_isShut_4 rfl rfl rfl ?_
  refine x_bipush (v := 7) 7 C0 dX8_isShut_5 rfl (by decide) ?_
  refine x_callS 10 C0 (k_X8_at l hl g _ _ (nI kc) 7) dX8_isShut_7 rfl mC_X8_at mM_X8_71 mS_X8_at mN_X8 yd_X8_at rfl rfl ⟨Nat.le_of_ble_eq_true rfl, Nat.le_of_ble_eq_true rfl⟩ rfl rfl (Nat.le_of_ble_eq_true rfl) ⟨Nat.le_of_ble_eq_true rfl, Nat.le_of_ble_eq_true rfl⟩ (fun _ _ _ q => False.elim q) (fun r w1 sz1 hz hP => ?_)
  obtain ⟨rfl, rfl, rfl⟩ := hP
  refine x_st (st1 := [.int (nI (28 + 9 * kc + 7)), .ref (g.2 0 + 258 + 1)]) (congrArg (fun z => Value.int z :: _) (at_nI 28 9 kc 7)) ?_
  refine x_iald 0 11 C0 dX8_isShut_10 rfl hM.r_v rfl (vp_in_nI (n := 28 + 9 * kc + 7) (by omega) (by decide)) ?_
  refine x_st (st1 := [.int (v (28 + 9 * kc + 7))]) (congrArg (fun z => Value.int z :: _) (show v (nI (28 + 9 * kc + 7)).toNatClampNeg = v (28 + 9 * kc + 7) from by rw [nI_clamp (by omega)])) ?_
  refine x_if_eq 33 14 C0 dX8_isShut_11 rfl (by decide) (fun c1 => ?_) (fun c1 => ?_)
  · refine x_aload_n 0 34 C0 dX8_isShut_33 rfl rfl rfl ?_
    refine x_getf (v := .ref (g.2 0 + 258 + 1)) 8 37 C0 dX8_isShut_34 rfl hM.o rfl (by decide) inX8 mF_X8_7 rfl ?_
    refine x_iload_n 1 38 C0 dX8_isShut_37 rfl rfl rfl ?_
    refine x_iconst (v := 5) 39 C0 dX8_isShut_38 rfl (by decide) ?_
    refine x_callS 42 C0 (k_X8_at l hl g _ _ (nI kc) 5) dX8_isShut_39 rfl mC_X8_at mM_X8_71 mS_X8_at mN_X8 yd_X8_at rfl rfl ⟨Nat.le_of_ble_eq_true rfl, Nat.le_of_ble_eq_true rfl⟩ rfl rfl (Nat.le_of_ble_eq_true rfl) ⟨Nat.le_of_ble_eq_true rfl, Nat.le_of_ble_eq_true rfl⟩ (fun _ _ _ q => False.elim q) (fun r w1 sz1 hz hP => ?_)
    obtain ⟨rfl, rfl, rfl⟩ := hP
    refine x_st (st1 := [.int (nI (28 + 9 * kc + 5)), .ref (g.2 0 + 258 + 1)]) (congrArg (fun z => Value.int z :: _) (at_nI 28 9 kc 5)) ?_
    refine x_iald 0 43 C0 dX8_isShut_42 rfl hM.r_v rfl (vp_in_nI (n := 28 + 9 * kc + 5) (by omega) (by decide)) ?_
    refine x_st (st1 := [.int (v (28 + 9 * kc + 5))]) (congrArg (fun z => Value.int z :: _) (show v (nI (28 + 9 * kc + 5)).toNatClampNeg = v (28 + 9 * kc + 5) from by rw [nI_clamp (by omega)])) ?_
    refine x_if_ne 48 46 C0 dX8_isShut_43 rfl (by decide) (fun c2 => ?_) (fun c2 => ?_)
    · refine x_aload_n 0 49 C0 dX8_isShut_48 rfl rfl rfl ?_
      refine x_iconst (v := 4) 50 C0 dX8_isShut_49 rfl (by decide) ?_
      refine x_aload_n 0 51 C0 dX8_isShut_50 rfl rfl rfl ?_
      refine x_getf (v := .ref (g.2 0 + 258 + 1)) 8 54 C0 dX8_isShut_51 rfl hM.o rfl (by decide) inX8 mF_X8_7 rfl ?_
      refine x_iload_n 1 55 C0 dX8_isShut_54 rfl rfl rfl ?_
      refine x_iconst (v := 5) 56 C0 dX8_isShut_55 rfl (by decide) ?_
      refine x_callS 59 C0 (k_X8_at l hl g _ _ (nI kc) 5) dX8_isShut_56 rfl mC_X8_at mM_X8_71 mS_X8_at mN_X8 yd_X8_at rfl rfl ⟨Nat.le_of_ble_eq_true rfl, Nat.le_of_ble_eq_true rfl⟩ rfl rfl (Nat.le_of_ble_eq_true rfl) ⟨Nat.le_of_ble_eq_true rfl, Nat.le_of_ble_eq_true rfl⟩ (fun _ _ _ q => False.elim q) (fun r w1 sz1 hz hP => ?_)
      obtain ⟨rfl, rfl, rfl⟩ := hP
      refine x_st (st1 := [.int (nI (28 + 9 * kc + 5)), .ref (g.2 0 + 258 + 1), .int 4, .ref (g.2 0 + 258)]) (congrArg (fun z => Value.int z :: _) (at_nI 28 9 kc 5)) ?_
      refine x_iald 0 60 C0 dX8_isShut_59 rfl hM.r_v rfl (vp_in_nI (n := 28 + 9 * kc + 5) (by omega) (by decide)) ?_
      refine x_st (st1 := [.int (v (28 + 9 * kc + 5)), .int 4, .ref (g.2 0 + 258)]) (congrArg (fun z => Value.int z :: _) (show v (nI (28 + 9 * kc + 5)).toNatClampNeg = v (28 + 9 * kc + 5) from by rw [nI_clamp (by omega)])) ?_
      refine x_callV 63 C0 (k_X8_refuses l hl g _ _ n t v bf sv pa lb ip td sg hM hJ 4 (v (28 + 9 * kc + 5))) dX8_isShut_60 rfl mC_X8_refuses mM_X8_82 mI_X8_refuses mV_X8_refuses mN_X8 yd_X8_refuses rfl rfl ⟨Nat.le_of_ble_eq_true rfl, Nat.le_of_ble_eq_true rfl⟩ hM.o rfl rfl rfl rfl (Nat.le_of_ble_eq_true rfl) ⟨Nat.le_of_ble_eq_true rfl, Nat.le_of_ble_eq_true rfl⟩ (fun _ _ _ q => False.elim q) (fun r w1 sz1 hz hP => ?_)
      obtain ⟨rfl, rfl, rfl⟩ := hP
      have hJ3 : MJ n (upd (upd (upd t 5 4) 6 (v (28 + 9 * kc + 5))) 1 3) v bf sv pa sg := (((hJ.j_t (by decide)).j_t (by decide)).j_t (by decide))
      refine x_st (st1 := [.int 0]) rfl ?_
      refine x_istore_n [(2, .int 0), (0, .ref (g.2 0 + 258)), (1, .int (nI kc))] 64 C0 dX8_isShut_63 rfl rfl (by decide) rfl ?_
      refine x_lv (lv1 := [(0, .ref (g.2 0 + 258)), (1, .int (nI kc)), (2, .int 0)]) [1, 2, 0] rfl ?_
      refine x_iconst (v := 1) 65 C0 dX8_isShut_64 rfl (by decide) ?_
      exact x_ireturn C0 dX8_isShut_65 rfl rfl (Nat.le_of_ble_eq_true rfl) (Nat.le_of_ble_eq_true rfl) ⟨rfl, Or.inr ⟨rfl, fun z => c2 z.2, _, rfl, hJ3, (((tK.rf.up (by decide)).up (by decide)).up (by decide)), rfl⟩⟩
    · refine x_iconst (v := 0) 47 C0 dX8_isShut_46 rfl (by decide) ?_
      exact x_ireturn C0 dX8_isShut_47 rfl rfl (Nat.le_of_ble_eq_true rfl) (Nat.le_of_ble_eq_true rfl) ⟨rfl, Or.inl ⟨rfl, c1, c2, rfl⟩⟩
  · refine x_aload_n 0 15 C0 dX8_isShut_14 rfl rfl rfl ?_
    refine x_iconst (v := 3) 16 C0 dX8_isShut_15 rfl (by decide) ?_
    refine x_aload_n 0 17 C0 dX8_isShut_16 rfl rfl rfl ?_
    refine x_getf (v := .ref (g.2 0 + 258 + 1)) 8 20 C0 dX8_isShut_17 rfl hM.o rfl (by decide) inX8 mF_X8_7 rfl ?_
    refine x_iload_n 1 21 C0 dX8_isShut_20 rfl rfl rfl ?_
    refine x_bipush (v := 7) 23 C0 dX8_isShut_21 rfl (by decide) ?_
    refine x_callS 26 C0 (k_X8_at l hl g _ _ (nI kc) 7) dX8_isShut_23 rfl mC_X8_at mM_X8_71 mS_X8_at mN_X8 yd_X8_at rfl rfl ⟨Nat.le_of_ble_eq_true rfl, Nat.le_of_ble_eq_true rfl⟩ rfl rfl (Nat.le_of_ble_eq_true rfl) ⟨Nat.le_of_ble_eq_true rfl, Nat.le_of_ble_eq_true rfl⟩ (fun _ _ _ q => False.elim q) (fun r w1 sz1 hz hP => ?_)
    obtain ⟨rfl, rfl, rfl⟩ := hP
    refine x_st (st1 := [.int (nI (28 + 9 * kc + 7)), .ref (g.2 0 + 258 + 1), .int 3, .ref (g.2 0 + 258)]) (congrArg (fun z => Value.int z :: _) (at_nI 28 9 kc 7)) ?_
    refine x_iald 0 27 C0 dX8_isShut_26 rfl hM.r_v rfl (vp_in_nI (n := 28 + 9 * kc + 7) (by omega) (by decide)) ?_
    refine x_st (st1 := [.int (v (28 + 9 * kc + 7)), .int 3, .ref (g.2 0 + 258)]) (congrArg (fun z => Value.int z :: _) (show v (nI (28 + 9 * kc + 7)).toNatClampNeg = v (28 + 9 * kc + 7) from by rw [nI_clamp (by omega)])) ?_
    refine x_callV 30 C0 (k_X8_refuses l hl g _ _ n t v bf sv pa lb ip td sg hM hJ 3 (v (28 + 9 * kc + 7))) dX8_isShut_27 rfl mC_X8_refuses mM_X8_82 mI_X8_refuses mV_X8_refuses mN_X8 yd_X8_refuses rfl rfl ⟨Nat.le_of_ble_eq_true rfl, Nat.le_of_ble_eq_true rfl⟩ hM.o rfl rfl rfl rfl (Nat.le_of_ble_eq_true rfl) ⟨Nat.le_of_ble_eq_true rfl, Nat.le_of_ble_eq_true rfl⟩ (fun _ _ _ q => False.elim q) (fun r w1 sz1 hz hP => ?_)
    obtain ⟨rfl, rfl, rfl⟩ := hP
    have hJ4 : MJ n (upd (upd (upd t 5 3) 6 (v (28 + 9 * kc + 7))) 1 3) v bf sv pa sg := (((hJ.j_t (by decide)).j_t (by decide)).j_t (by decide))
    refine x_st (st1 := [.int 0]) rfl ?_
    refine x_istore_n [(2, .int 0), (0, .ref (g.2 0 + 258)), (1, .int (nI kc))] 31 C0 dX8_isShut_30 rfl rfl (by decide) rfl ?_
    refine x_lv (lv1 := [(0, .ref (g.2 0 + 258)), (1, .int (nI kc)), (2, .int 0)]) [1, 2, 0] rfl ?_
    refine x_iconst (v := 1) 32 C0 dX8_isShut_31 rfl (by decide) ?_
    exact x_ireturn C0 dX8_isShut_32 rfl rfl (Nat.le_of_ble_eq_true rfl) (Nat.le_of_ble_eq_true rfl) ⟨rfl, Or.inr ⟨rfl, fun z => c1 z.1, _, rfl, hJ4, (((tK.rf.up (by decide)).up (by decide)).up (by decide)), rfl⟩⟩

set_option maxHeartbeats 4000000 in
set_option maxRecDepth 100000 in
theorem k_X8_writes (l : Launch) (hl : l.stackTraces = false) (g : xg_T) (w : xw_T) (sz n : Nat) (t v bf sv pa lb ip td sg : Nat → Int32) (hM : MR g w t v bf sv pa lb ip td sg) (hJ : MJ n t v bf sv pa sg) (L : Nat) (hL : L < 20) (h8 : t 8 = nI L) (sn : Int32) : xM l g yX8_writes cX8_writes 2 none ({ frames := 0, cells := 0, slots := 0, locals := 0 }) 0 0 [.ref (g.2 0 + 258), .int sn] w sz (fun r w1 sz1 => r = none ∧ w1 = MW g w (upd t 8 (nI (L + 1))) v bf sv pa (upd lb L sn) ip td sg ∧ sz = sz1) (fun _ _ _ => False) := by
  refine xM.of RX8 hl (by decide +kernel) rfl (Nat.le_of_ble_eq_true rfl) rfl ?_
  intro p e s m args below meth cD C0 hini
  refine x_aload_n 0 1 C0 dX8_writes_0 rfl rfl rfl ?_
  refine x_getf (v := .ref (g.2 0 + 258 + 5)) 12 4 C0 dX8_writes_1 rfl hM.o rfl (by decide) inX8 mF_X8_22 rfl ?_
  refine x_aload_n 0 5 C0 dX8_writes_4 rfl rfl rfl ?_
  refine x_getf (v := .int (t 8)) 13 8 C0 dX8_writes_5 rfl hM.o rfl (by decide) inX8 mF_X8_136 rfl ?_
  refine x_st (st1 := [.int (nI L), .ref (g.2 0 + 258 + 5)]) (congrArg (fun z => Value.int z :: _) (h8)) ?_
  refine x_iload_n 1 9 C0 dX8_writes_8 rfl rfl rfl ?_
  refine x_w (MW_self hM) ?_
  refine x_iast 0 10 C0 dX8_writes_9 rfl MR_MW.r_lb (by show g.2 0 ≤ _; omega) rfl (vp_in_nI (n := L) (by omega) (by decide)) ?_
  refine x_w (w1 := (MW g w t v bf sv pa (upd lb L sn) ip td sg)) (by rw [show (nI L : Int32).toNatClampNeg = L from nI_clamp (n := L) (by omega)]; exact MW_lb) ?_
  refine x_aload_n 0 11 C0 dX8_writes_10 rfl rfl rfl ?_
  refine x_dup 12 C0 dX8_writes_11 rfl rfl ?_
  refine x_getf (v := .int (t 8)) 13 15 C0 dX8_writes_12 rfl MR_MW.o rfl (by decide) inX8 mF_X8_136 rfl ?_
  refine x_iconst (v := 1) 16 C0 dX8_writes_15 rfl (by decide) ?_
  refine x_iadd 17 C0 dX8_writes_16 rfl ?_
  refine x_putf 13 20 C0 dX8_writes_17 rfl MR_MW.o (by show g.2 0 ≤ _; omega) rfl (by decide) inX8 tyX8_ok nmX8 mF_X8_136 rfl rfl rfl rfl (Nat.le_of_ble_eq_true rfl) ?_
  refine x_w (w1 := (MW g w (upd t 8 ((t 8) + 1)) v bf sv pa (upd lb L sn) ip td sg)) (MW_o rfl) ?_
  have hJ2 : MJ n (upd t 8 ((t 8) + 1)) v bf sv pa sg := hJ.j_t (by decide)
  exact x_return C0 dX8_writes_20 rfl (Nat.le_of_ble_eq_true rfl) (Nat.le_of_ble_eq_true rfl) ⟨rfl, by rw [h8, nI_1], rfl⟩

set_option maxHeartbeats 4000000 in
set_option maxRecDepth 100000 in
theorem k_X8_writesLabel (l : Launch) (hl : l.stackTraces = false) (g : xg_T) (w : xw_T) (sz n : Nat) (t v bf sv pa lb ip td sg : Nat → Int32) (hM : MR g w t v bf sv pa lb ip td sg) (hJ : MJ n t v bf sv pa sg) (kc : Nat) (hkc : kc < 20) : xM l g yX8_writesLabel cX8_writesLabel 5 none ({ frames := 1, cells := 0, slots := 0, locals := 21 }) 0 0 [.ref (g.2 0 + 258), .int (nI kc)] w sz (fun r w1 sz1 => sz = sz1 ∧ r = none ∧ ∃ t' lb', w1 = MW g w t' v bf sv pa lb' ip td sg ∧ MJ n t' v bf sv pa sg ∧ (∀ i, i ≠ 8 → t' i = t i) ∧ ∃ L : Nat, L ≤ 20 ∧ t' 8 = nI L) (fun _ _ _ => False) := by
  refine xM.of RX8 hl (by decide +kernel) rfl (Nat.le_of_ble_eq_true rfl) rfl ?_
  intro p e s m args below meth cD C0 hini
  refine x_aload_n 0 1 C0 dX8_writesLabel_0 rfl rfl rfl ?_
  refine x_iconst (v := 0) 2 C0 dX8_writesLabel_1 rfl (by decide) ?_
  refine x_w (MW_self hM) ?_
  refine x_putf 13 5 C0 dX8_writesLabel_2 rfl MR_MW.o (by show g.2 0 ≤ _; omega) rfl (by decide) inX8 tyX8_ok nmX8 mF_X8_136 rfl rfl rfl rfl (Nat.le_of_ble_eq_true rfl) ?_
  refine x_w (w1 := (MW g w (upd t 8 0) v bf sv pa lb ip td sg)) (MW_o rfl) ?_
  have hJ1 : MJ n (upd t 8 0) v bf sv pa sg := hJ.j_t (by decide)
  refine x_aload_n 0 6 C0 dX8_writesLabel_5 rfl rfl rfl ?_
  refine x_getf (v := .ref (g.2 0 + 258 + 1)) 8 9 C0 dX8_writesLabel_6 rfl MR_MW.o rfl (by decide) inX8 mF_X8_7 rfl ?_
  refine x_iload_n 1 10 C0 dX8_writesLabel_9 rfl rfl rfl ?_
  refine x_bipush (v := 8) 12 C0 dX8_writesLabel_10 rfl (by decide) ?_
  refine x_callS 15 C0 (k_X8_at l hl g _ _ (nI kc) 8) dX8_writesLabel_12 rfl mC_X8_at mM_X8_71 mS_X8_at mN_X8 yd_X8_at rfl rfl ⟨Nat.le_of_ble_eq_true rfl, Nat.le_of_ble_eq_true rfl⟩ rfl rfl (Nat.le_of_ble_eq_true rfl) ⟨Nat.le_of_ble_eq_true rfl, Nat.le_of_ble_eq_true rfl⟩ (fun _ _ _ q => False.elim q) (fun r w1 sz1 hz hP => ?_)
  obtain ⟨rfl, rfl, rfl⟩ := hP
  refine x_st (st1 := [.int (nI (28 + 9 * kc + 8)), .ref (g.2 0 + 258 + 1)]) (congrArg (fun z => Value.int z :: _) (at_nI 28 9 kc 8)) ?_
  refine x_iald 0 16 C0 dX8_writesLabel_15 rfl MR_MW.r_v rfl (vp_in_nI (n := 28 + 9 * kc + 8) (by omega) (by decide)) ?_
  refine x_st (st1 := [.int (v (28 + 9 * kc + 8))]) (congrArg (fun z => Value.int z :: _) (show v (nI (28 + 9 * kc + 8)).toNatClampNeg = v (28 + 9 * kc + 8) from by rw [nI_clamp (by omega)])) ?_
  refine x_if_ne 20 19 C0 dX8_writesLabel_16 rfl (by decide) (fun c2 => ?_) (fun c2 => ?_)
  · obtain ⟨b, hb, hbv⟩ := hJ1.1.kind hkc c2
    refine x_aload_n 0 21 C0 dX8_writesLabel_20 rfl rfl rfl ?_
    refine x_getf (v := .ref (g.2 0 + 258 + 1)) 8 24 C0 dX8_writesLabel_21 rfl MR_MW.o rfl (by decide) inX8 mF_X8_7 rfl ?_
    refine x_iload_n 1 25 C0 dX8_writesLabel_24 rfl rfl rfl ?_
    refine x_iconst (v := 2) 26 C0 dX8_writesLabel_25 rfl (by decide) ?_
    refine x_callS 29 C0 (k_X8_at l hl g _ _ (nI kc) 2) dX8_writesLabel_26 rfl mC_X8_at mM_X8_71 mS_X8_at mN_X8 yd_X8_at rfl rfl ⟨Nat.le_of_ble_eq_true rfl, Nat.le_of_ble_eq_true rfl⟩ rfl rfl (Nat.le_of_ble_eq_true rfl) ⟨Nat.le_of_ble_eq_true rfl, Nat.le_of_ble_eq_true rfl⟩ (fun _ _ _ q => False.elim q) (fun r w1 sz1 hz hP => ?_)
    obtain ⟨rfl, rfl, rfl⟩ := hP
    refine x_st (st1 := [.int (nI (28 + 9 * kc + 2)), .ref (g.2 0 + 258 + 1)]) (congrArg (fun z => Value.int z :: _) (at_nI 28 9 kc 2)) ?_
    refine x_iald 0 30 C0 dX8_writesLabel_29 rfl MR_MW.r_v rfl (vp_in_nI (n := 28 + 9 * kc + 2) (by omega) (by decide)) ?_
    refine x_st (st1 := [.int (v (28 + 9 * kc + 2))]) (congrArg (fun z => Value.int z :: _) (show v (nI (28 + 9 * kc + 2)).toNatClampNeg = v (28 + 9 * kc + 2) from by rw [nI_clamp (by omega)])) ?_
    refine x_st (st1 := [.int (nI b)]) (congrArg (fun z => Value.int z :: _) (hbv)) ?_
    refine x_istore_n [(2, .int (nI b)), (0, .ref (g.2 0 + 258)), (1, .int (nI kc))] 31 C0 dX8_writesLabel_30 rfl rfl (by decide) rfl ?_
    refine x_lv (lv1 := [(0, .ref (g.2 0 + 258)), (1, .int (nI kc)), (2, .int (nI b))]) [1, 2, 0] rfl ?_
    refine x_aload_n 0 32 C0 dX8_writesLabel_31 rfl rfl rfl ?_
    refine x_getf (v := .ref (g.2 0 + 258 + 1)) 8 35 C0 dX8_writesLabel_32 rfl MR_MW.o rfl (by decide) inX8 mF_X8_7 rfl ?_
    refine x_iload_n 1 36 C0 dX8_writesLabel_35 rfl rfl rfl ?_
    refine x_iconst (v := 3) 37 C0 dX8_writesLabel_36 rfl (by decide) ?_
    refine x_callS 40 C0 (k_X8_at l hl g _ _ (nI kc) 3) dX8_writesLabel_37 rfl mC_X8_at mM_X8_71 mS_X8_at mN_X8 yd_X8_at rfl rfl ⟨Nat.le_of_ble_eq_true rfl, Nat.le_of_ble_eq_true rfl⟩ rfl rfl (Nat.le_of_ble_eq_true rfl) ⟨Nat.le_of_ble_eq_true rfl, Nat.le_of_ble_eq_true rfl⟩ (fun _ _ _ q => False.elim q) (fun r w1 sz1 hz hP => ?_)
    obtain ⟨rfl, rfl, rfl⟩ := hP
    refine x_st (st1 := [.int (nI (28 + 9 * kc + 3)), .ref (g.2 0 + 258 + 1)]) (congrArg (fun z => Value.int z :: _) (at_nI 28 9 kc 3)) ?_
    refine x_iald 0 41 C0 dX8_writesLabel_40 rfl MR_MW.r_v rfl (vp_in_nI (n := 28 + 9 * kc + 3) (by omega) (by decide)) ?_
    refine x_st (st1 := [.int (v (28 + 9 * kc + 3))]) (congrArg (fun z => Value.int z :: _) (show v (nI (28 + 9 * kc + 3)).toNatClampNeg = v (28 + 9 * kc + 3) from by rw [nI_clamp (by omega)])) ?_
    refine x_istore_n [(3, .int (v (28 + 9 * kc + 3))), (0, .ref (g.2 0 + 258)), (1, .int (nI kc)), (2, .int (nI b))] 42 C0 dX8_writesLabel_41 rfl rfl (by decide) rfl ?_
    refine x_lv (lv1 := [(0, .ref (g.2 0 + 258)), (1, .int (nI kc)), (2, .int (nI b)), (3, .int (v (28 + 9 * kc + 3)))]) [1, 2, 3, 0] rfl ?_
    refine x_aload_n 0 43 C0 dX8_writesLabel_42 rfl rfl rfl ?_
    refine x_bipush (v := 48) 45 C0 dX8_writesLabel_43 rfl (by decide) ?_
    refine x_aload_n 0 46 C0 dX8_writesLabel_45 rfl rfl rfl ?_
    refine x_getf (v := .ref (g.2 0 + 258 + 1)) 8 49 C0 dX8_writesLabel_46 rfl MR_MW.o rfl (by decide) inX8 mF_X8_7 rfl ?_
    refine x_iload_n 1 50 C0 dX8_writesLabel_49 rfl rfl rfl ?_
    refine x_iconst (v := 1) 51 C0 dX8_writesLabel_50 rfl (by decide) ?_
    refine x_callS 54 C0 (k_X8_at l hl g _ _ (nI kc) 1) dX8_writesLabel_51 rfl mC_X8_at mM_X8_71 mS_X8_at mN_X8 yd_X8_at rfl rfl ⟨Nat.le_of_ble_eq_true rfl, Nat.le_of_ble_eq_true rfl⟩ rfl rfl (Nat.le_of_ble_eq_true rfl) ⟨Nat.le_of_ble_eq_true rfl, Nat.le_of_ble_eq_true rfl⟩ (fun _ _ _ q => False.elim q) (fun r w1 sz1 hz hP => ?_)
    obtain ⟨rfl, rfl, rfl⟩ := hP
    refine x_st (st1 := [.int (nI (28 + 9 * kc + 1)), .ref (g.2 0 + 258 + 1), .int 48, .ref (g.2 0 + 258)]) (congrArg (fun z => Value.int z :: _) (at_nI 28 9 kc 1)) ?_
    refine x_iald 0 55 C0 dX8_writesLabel_54 rfl MR_MW.r_v rfl (vp_in_nI (n := 28 + 9 * kc + 1) (by omega) (by decide)) ?_
    refine x_st (st1 := [.int (v (28 + 9 * kc + 1)), .int 48, .ref (g.2 0 + 258)]) (congrArg (fun z => Value.int z :: _) (show v (nI (28 + 9 * kc + 1)).toNatClampNeg = v (28 + 9 * kc + 1) from by rw [nI_clamp (by omega)])) ?_
    refine x_iadd 56 C0 dX8_writesLabel_55 rfl ?_
    refine x_callV 59 C0 (k_X8_writes l hl g _ _ n (upd t 8 0) v bf sv pa lb ip td sg MR_MW hJ1 0 (by omega) rfl (48 + (v (28 + 9 * kc + 1)))) dX8_writesLabel_56 rfl mC_X8_writes mM_X8_139 mI_X8_writes mV_X8_writes mN_X8 yd_X8_writes rfl rfl ⟨Nat.le_of_ble_eq_true rfl, Nat.le_of_ble_eq_true rfl⟩ MR_MW.o rfl rfl rfl rfl (Nat.le_of_ble_eq_true rfl) ⟨Nat.le_of_ble_eq_true rfl, Nat.le_of_ble_eq_true rfl⟩ (fun _ _ _ q => False.elim q) (fun r w1 sz1 hz hP => ?_)
    obtain ⟨rfl, rfl, rfl⟩ := hP
    refine x_w MW_MW ?_
    obtain ⟨lx3, hlx3⟩ : ∃ z, z = (upd lb 0 (48 + (v (28 + 9 * kc + 1)))) := ⟨_, rfl⟩
    rw [← hlx3]
    obtain ⟨tx3, htx3⟩ : ∃ z, z = (upd (upd t 8 0) 8 (nI (0 + 1))) := ⟨_, rfl⟩
    rw [← htx3]
    have hJ3 : MJ n tx3 v bf sv pa sg := by rw [htx3]; exact hJ1.j_t (by decide)
    have h83 : tx3 8 = nI (0 + 1) := by rw [htx3]; rfl
    have hx3 : ∀ i, i ≠ 8 → tx3 i = t i := by rw [htx3]; exact fun i h => (if_neg h).trans ((fun i h => if_neg h) i h)
    refine x_st (st1 := []) rfl ?_
    refine x_aload_n 0 60 C0 dX8_writesLabel_59 rfl rfl rfl ?_
    refine x_bipush (v := 46) 62 C0 dX8_writesLabel_60 rfl (by decide) ?_
    refine x_callV 65 C0 (k_X8_writes l hl g _ _ n tx3 v bf sv pa lx3 ip td sg MR_MW hJ3 (0 + 1) (by omega) h83 46) dX8_writesLabel_62 rfl mC_X8_writes mM_X8_139 mI_X8_writes mV_X8_writes mN_X8 yd_X8_writes rfl rfl ⟨Nat.le_of_ble_eq_true rfl, Nat.le_of_ble_eq_true rfl⟩ MR_MW.o rfl rfl rfl rfl (Nat.le_of_ble_eq_true rfl) ⟨Nat.le_of_ble_eq_true rfl, Nat.le_of_ble_eq_true rfl⟩ (fun _ _ _ q => False.elim q) (fun r w1 sz1 hz hP => ?_)
    obtain ⟨rfl, rfl, rfl⟩ := hP
    refine x_w MW_MW ?_
    obtain ⟨lx4, hlx4⟩ : ∃ z, z = (upd lx3 (0 + 1) 46) := ⟨_, rfl⟩
    rw [← hlx4]
    obtain ⟨tx4, htx4⟩ : ∃ z, z = (upd tx3 8 (nI (0 + 1 + 1))) := ⟨_, rfl⟩
    rw [← htx4]
    have hJ4 : MJ n tx4 v bf sv pa sg := by rw [htx4]; exact hJ3.j_t (by decide)
    have h84 : tx4 8 = nI (0 + 1 + 1) := by rw [htx4]; rfl
    have hx4 : ∀ i, i ≠ 8 → tx4 i = t i := by rw [htx4]; exact fun i h => (if_neg h).trans (hx3 i h)
    refine x_st (st1 := []) rfl ?_
    refine x_iconst (v := 0) 66 C0 dX8_writesLabel_65 rfl (by decide) ?_
    refine x_istore [(4, .int 0), (0, .ref (g.2 0 + 258)), (1, .int (nI kc)), (2, .int (nI b)), (3, .int (v (28 + 9 * kc + 3)))] 68 C0 dX8_writesLabel_66 rfl (by decide) rfl ?_
    refine x_lv (lv1 := [(0, .ref (g.2 0 + 258)), (1, .int (nI kc)), (2, .int (nI b)), (3, .int (v (28 + 9 * kc + 3))), (4, .int 0)]) [1, 2, 3, 4, 0] rfl ?_
    obtain ⟨po, hpo⟩ : ∃ z : Int32, z = v (28 + 9 * kc + 3) := ⟨_, rfl⟩
    rw [← hpo]
    have loop68 : ∀ (N i : Nat) (tl lbl : Nat → Int32), i ≤ 6 → 6 - i < N → MJ n tl v bf sv pa sg → tl 8 = nI (2 + i) → (∀ i, i ≠ 8 → tl i = t i) → xV p l e ({ frames := 1, cells := 0, slots := 0, locals := 21 }) s m args below meth cD (xQ g below (fun r w1 sz1 => sz = sz1 ∧ r = none ∧ ∃ t' lb', w1 = MW g w t' v bf sv pa lb' ip td sg ∧ MJ n t' v bf sv pa sg ∧ (∀ i, i ≠ 8 → t' i = t i) ∧ ∃ L : Nat, L ≤ 20 ∧ t' 8 = nI L) (fun _ _ _ => False) args s 0 0) g 5 (MW g w tl v bf sv pa lbl ip td sg) sz (0 + 0 + 0 + 0 + 0 + 0 + 0) (0 + 0 + 0 + 0 + 0 + 0 + 0) 68 [(0, .ref (g.2 0 + 258)), (1, .int (nI kc)), (2, .int (nI b)), (3, .int po), (4, .int (nI i))] [] := by
      intro N
      induction N with
      | zero => intro i tl lbl h1 h2; omega
      | succ N ih =>
        intro i tl lbl hi hN hJl h8l hel
        refine x_aload_n 0 69 C0 dX8_writesLabel_68 rfl rfl rfl ?_
        refine x_getf (v := .ref (g.2 0 + 258 + 8)) 16 72 C0 dX8_writesLabel_69 rfl MR_MW.o rfl (by decide) inX8 mF_X8_31 rfl ?_
        refine x_bipush (v := 7) 74 C0 dX8_writesLabel_72 rfl (by decide) ?_
        refine x_bipush (v := 8) 76 C0 dX8_writesLabel_74 rfl (by decide) ?_
        refine x_iload_n 2 77 C0 dX8_writesLabel_76 rfl rfl rfl ?_
        refine x_iadd 78 C0 dX8_writesLabel_77 rfl ?_
        refine x_st (st1 := [.int (nI (8 + b)), .int 7, .ref (g.2 0 + 258 + 8)]) (congrArg (fun z => Value.int z :: _) (nI_add 8 b)) ?_
        refine x_imul 79 C0 dX8_writesLabel_78 rfl ?_
        refine x_st (st1 := [.int (nI (7 * (8 + b))), .ref (g.2 0 + 258 + 8)]) (congrArg (fun z => Value.int z :: _) (nI_mulN 7 (8 + b))) ?_
        refine x_iload 4 81 C0 dX8_writesLabel_79 rfl rfl ?_
        refine x_iadd 82 C0 dX8_writesLabel_81 rfl ?_
        refine x_st (st1 := [.int (nI (7 * (8 + b) + i)), .ref (g.2 0 + 258 + 8)]) (congrArg (fun z => Value.int z :: _) (nI_add (7 * (8 + b)) i)) ?_
        refine x_iald 0 83 C0 dX8_writesLabel_82 rfl MR_MW.r_sg rfl (vp_in_nI (n := 7 * (8 + b) + i) (by omega) (by decide)) ?_
        refine x_st (st1 := [.int (sg (7 * (8 + b) + i))]) (congrArg (fun z => Value.int z :: _) (show sg (nI (7 * (8 + b) + i)).toNatClampNeg = sg (7 * (8 + b) + i) from by rw [nI_clamp (by omega)])) ?_
        refine x_if_eq 111 86 C0 dX8_writesLabel_83 rfl (by decide) (fun c5 => ?_) (fun c5 => ?_)
        · refine x_aload_n 0 112 C0 dX8_writesLabel_111 rfl rfl rfl ?_
          refine x_bipush (v := 32) 114 C0 dX8_writesLabel_112 rfl (by decide) ?_
          refine x_callV 117 C0 (k_X8_writes l hl g _ _ n tl v bf sv pa lbl ip td sg MR_MW hJl (2 + i) (by omega) h8l 32) dX8_writesLabel_114 rfl mC_X8_writes mM_X8_139 mI_X8_writes mV_X8_writes mN_X8 yd_X8_writes rfl rfl ⟨Nat.le_of_ble_eq_true rfl, Nat.le_of_ble_eq_true rfl⟩ MR_MW.o rfl rfl rfl rfl (Nat.le_of_ble_eq_true rfl) ⟨Nat.le_of_ble_eq_true rfl, Nat.le_of_ble_eq_true rfl⟩ (fun _ _ _ q => False.elim q) (fun r w1 sz1 hz hP => ?_)
          obtain ⟨rfl, rfl, rfl⟩ := hP
          refine x_w MW_MW ?_
          obtain ⟨lx6, hlx6⟩ : ∃ z, z = (upd lbl (2 + i) 32) := ⟨_, rfl⟩
          rw [← hlx6]
          obtain ⟨tx6, htx6⟩ : ∃ z, z = (upd tl 8 (nI (2 + i + 1))) := ⟨_, rfl⟩
          rw [← htx6]
          have hJ6 : MJ n tx6 v bf sv pa sg := by rw [htx6]; exact hJl.j_t (by decide)
          have h86 : tx6 8 = nI (2 + i + 1) := by rw [htx6]; rfl
          have hx6 : ∀ i, i ≠ 8 → tx6 i = t i := by rw [htx6]; exact fun i h => (if_neg h).trans (hel i h)
          refine x_st (st1 := []) rfl ?_
          refine x_iload_n 3 118 C0 dX8_writesLabel_117 rfl rfl rfl ?_
          refine x_bipush (v := 10) 120 C0 dX8_writesLabel_118 rfl (by decide) ?_
          refine x_icmp_lt 134 123 C0 dX8_writesLabel_120 rfl (by decide) (fun c7 => ?_) (fun c7 => ?_)
          · have c7' := Int32.not_le.mpr c7
            refine x_aload_n 0 135 C0 dX8_writesLabel_134 rfl rfl rfl ?_
            refine x_bipush (v := 48) 137 C0 dX8_writesLabel_135 rfl (by decide) ?_
            refine x_iload_n 3 138 C0 dX8_writesLabel_137 rfl rfl rfl ?_
            refine x_bipush (v := 10) 140 C0 dX8_writesLabel_138 rfl (by decide) ?_
            refine x_irem 141 C0 dX8_writesLabel_140 rfl (by decide) ?_
            refine x_iadd 142 C0 dX8_writesLabel_141 rfl ?_
            refine x_callV 145 C0 (k_X8_writes l hl g _ _ n tx6 v bf sv pa lx6 ip td sg MR_MW hJ6 (2 + i + 1) (by omega) h86 (48 + (po - po / 10 * 10))) dX8_writesLabel_142 rfl mC_X8_writes mM_X8_139 mI_X8_writes mV_X8_writes mN_X8 yd_X8_writes rfl rfl ⟨Nat.le_of_ble_eq_true rfl, Nat.le_of_ble_eq_true rfl⟩ MR_MW.o rfl rfl rfl rfl (Nat.le_of_ble_eq_true rfl) ⟨Nat.le_of_ble_eq_true rfl, Nat.le_of_ble_eq_true rfl⟩ (fun _ _ _ q => False.elim q) (fun r w1 sz1 hz hP => ?_)
            obtain ⟨rfl, rfl, rfl⟩ := hP
            refine x_w MW_MW ?_
            obtain ⟨lx8, hlx8⟩ : ∃ z, z = (upd lx6 (2 + i + 1) (48 + (po - po / 10 * 10))) := ⟨_, rfl⟩
            rw [← hlx8]
            obtain ⟨tx8, htx8⟩ : ∃ z, z = (upd tx6 8 (nI (2 + i + 1 + 1))) := ⟨_, rfl⟩
            rw [← htx8]
            have hJ8 : MJ n tx8 v bf sv pa sg := by rw [htx8]; exact hJ6.j_t (by decide)
            have h88 : tx8 8 = nI (2 + i + 1 + 1) := by rw [htx8]; rfl
            have hx8 : ∀ i, i ≠ 8 → tx8 i = t i := by rw [htx8]; exact fun i h => (if_neg h).trans (hx6 i h)
            refine x_st (st1 := []) rfl ?_
            refine x_aload_n 0 146 C0 dX8_writesLabel_145 rfl rfl rfl ?_
            refine x_getf (v := .ref (g.2 0 + 258 + 1)) 8 149 C0 dX8_writesLabel_146 rfl MR_MW.o rfl (by decide) inX8 mF_X8_7 rfl ?_
            refine x_iload_n 1 150 C0 dX8_writesLabel_149 rfl rfl rfl ?_
            refine x_bipush (v := 8) 152 C0 dX8_writesLabel_150 rfl (by decide) ?_
            refine x_callS 155 C0 (k_X8_at l hl g _ _ (nI kc) 8) dX8_writesLabel_152 rfl mC_X8_at mM_X8_71 mS_X8_at mN_X8 yd_X8_at rfl rfl ⟨Nat.le_of_ble_eq_true rfl, Nat.le_of_ble_eq_true rfl⟩ rfl rfl (Nat.le_of_ble_eq_true rfl) ⟨Nat.le_of_ble_eq_true rfl, Nat.le_of_ble_eq_true rfl⟩ (fun _ _ _ q => False.elim q) (fun r w1 sz1 hz hP => ?_)
            obtain ⟨rfl, rfl, rfl⟩ := hP
            refine x_st (st1 := [.int (nI (28 + 9 * kc + 8)), .ref (g.2 0 + 258 + 1)]) (congrArg (fun z => Value.int z :: _) (at_nI 28 9 kc 8)) ?_
            refine x_iald 0 156 C0 dX8_writesLabel_155 rfl MR_MW.r_v rfl (vp_in_nI (n := 28 + 9 * kc + 8) (by omega) (by decide)) ?_
            refine x_st (st1 := [.int (v (28 + 9 * kc + 8))]) (congrArg (fun z => Value.int z :: _) (show v (nI (28 + 9 * kc + 8)).toNatClampNeg = v (28 + 9 * kc + 8) from by rw [nI_clamp (by omega)])) ?_
            refine x_iconst (v := 1) 157 C0 dX8_writesLabel_156 rfl (by decide) ?_
            refine x_icmp_ne 161 160 C0 dX8_writesLabel_157 rfl (by decide) (fun c9 => ?_) (fun c9 => ?_)
            · refine x_aload_n 0 162 C0 dX8_writesLabel_161 rfl rfl rfl ?_
              refine x_bipush (v := 32) 164 C0 dX8_writesLabel_162 rfl (by decide) ?_
              refine x_callV 167 C0 (k_X8_writes l hl g _ _ n tx8 v bf sv pa lx8 ip td sg MR_MW hJ8 (2 + i + 1 + 1) (by omega) h88 32) dX8_writesLabel_164 rfl mC_X8_writes mM_X8_139 mI_X8_writes mV_X8_writes mN_X8 yd_X8_writes rfl rfl ⟨Nat.le_of_ble_eq_true rfl, Nat.le_of_ble_eq_true rfl⟩ MR_MW.o rfl rfl rfl rfl (Nat.le_of_ble_eq_true rfl) ⟨Nat.le_of_ble_eq_true rfl, Nat.le_of_ble_eq_true rfl⟩ (fun _ _ _ q => False.elim q) (fun r w1 sz1 hz hP => ?_)
              obtain ⟨rfl, rfl, rfl⟩ := hP
              refine x_w MW_MW ?_
              obtain ⟨lx10, hlx10⟩ : ∃ z, z = (upd lx8 (2 + i + 1 + 1) 32) := ⟨_, rfl⟩
              rw [← hlx10]
              obtain ⟨tx10, htx10⟩ : ∃ z, z = (upd tx8 8 (nI (2 + i + 1 + 1 + 1))) := ⟨_, rfl⟩
              rw [← htx10]
              have hJ10 : MJ n tx10 v bf sv pa sg := by rw [htx10]; exact hJ8.j_t (by decide)
              have h810 : tx10 8 = nI (2 + i + 1 + 1 + 1) := by rw [htx10]; rfl
              have hx10 : ∀ i, i ≠ 8 → tx10 i = t i := by rw [htx10]; exact fun i h => (if_neg h).trans (hx8 i h)
              refine x_st (st1 := []) rfl ?_
              refine x_aload_n 0 168 C0 dX8_writesLabel_167 rfl rfl rfl ?_
              refine x_bipush (v := 100) 170 C0 dX8_writesLabel_168 rfl (by decide) ?_
              refine x_callV 173 C0 (k_X8_writes l hl g _ _ n tx10 v bf sv pa lx10 ip td sg MR_MW hJ10 (2 + i + 1 + 1 + 1) (by omega) h810 100) dX8_writesLabel_170 rfl mC_X8_writes mM_X8_139 mI_X8_writes mV_X8_writes mN_X8 yd_X8_writes rfl rfl ⟨Nat.le_of_ble_eq_true rfl, Nat.le_of_ble_eq_true rfl⟩ MR_MW.o rfl rfl rfl rfl (Nat.le_of_ble_eq_true rfl) ⟨Nat.le_of_ble_eq_true rfl, Nat.le_of_ble_eq_true rfl⟩ (fun _ _ _ q => False.elim q) (fun r w1 sz1 hz hP => ?_)
              obtain ⟨rfl, rfl, rfl⟩ := hP
              refine x_w MW_MW ?_
              obtain ⟨lx11, hlx11⟩ : ∃ z, z = (upd lx10 (2 + i + 1 + 1 + 1) 100) := ⟨_, rfl⟩
              rw [← hlx11]
              obtain ⟨tx11, htx11⟩ : ∃ z, z = (upd tx10 8 (nI (2 + i + 1 + 1 + 1 + 1))) := ⟨_, rfl⟩
              rw [← htx11]
              have hJ11 : MJ n tx11 v bf sv pa sg := by rw [htx11]; exact hJ10.j_t (by decide)
              have h811 : tx11 8 = nI (2 + i + 1 + 1 + 1 + 1) := by rw [htx11]; rfl
              have hx11 : ∀ i, i ≠ 8 → tx11 i = t i := by rw [htx11]; exact fun i h => (if_neg h).trans (hx10 i h)
              refine x_st (st1 := []) rfl ?_
              refine x_aload_n 0 174 C0 dX8_writesLabel_173 rfl rfl rfl ?_
              refine x_bipush (v := 97) 176 C0 dX8_writesLabel_174 rfl (by decide) ?_
              refine x_callV 179 C0 (k_X8_writes l hl g _ _ n tx11 v bf sv pa lx11 ip td sg MR_MW hJ11 (2 + i + 1 + 1 + 1 + 1) (by omega) h811 97) dX8_writesLabel_176 rfl mC_X8_writes mM_X8_139 mI_X8_writes mV_X8_writes mN_X8 yd_X8_writes rfl rfl ⟨Nat.le_of_ble_eq_true rfl, Nat.le_of_ble_eq_true rfl⟩ MR_MW.o rfl rfl rfl rfl (Nat.le_of_ble_eq_true rfl) ⟨Nat.le_of_ble_eq_true rfl, Nat.le_of_ble_eq_true rfl⟩ (fun _ _ _ q => False.elim q) (fun r w1 sz1 hz hP => ?_)
              obtain ⟨rfl, rfl, rfl⟩ := hP
              refine x_w MW_MW ?_
              obtain ⟨lx12, hlx12⟩ : ∃ z, z = (upd lx11 (2 + i + 1 + 1 + 1 + 1) 97) := ⟨_, rfl⟩
              rw [← hlx12]
              obtain ⟨tx12, htx12⟩ : ∃ z, z = (upd tx11 8 (nI (2 + i + 1 + 1 + 1 + 1 + 1))) := ⟨_, rfl⟩
              rw [← htx12]
              have hJ12 : MJ n tx12 v bf sv pa sg := by rw [htx12]; exact hJ11.j_t (by decide)
              have h812 : tx12 8 = nI (2 + i + 1 + 1 + 1 + 1 + 1) := by rw [htx12]; rfl
              have hx12 : ∀ i, i ≠ 8 → tx12 i = t i := by rw [htx12]; exact fun i h => (if_neg h).trans (hx11 i h)
              refine x_st (st1 := []) rfl ?_
              refine x_aload_n 0 180 C0 dX8_writesLabel_179 rfl rfl rfl ?_
              refine x_bipush (v := 109) 182 C0 dX8_writesLabel_180 rfl (by decide) ?_
              refine x_callV 185 C0 (k_X8_writes l hl g _ _ n tx12 v bf sv pa lx12 ip td sg MR_MW hJ12 (2 + i + 1 + 1 + 1 + 1 + 1) (by omega) h812 109) dX8_writesLabel_182 rfl mC_X8_writes mM_X8_139 mI_X8_writes mV_X8_writes mN_X8 yd_X8_writes rfl rfl ⟨Nat.le_of_ble_eq_true rfl, Nat.le_of_ble_eq_true rfl⟩ MR_MW.o rfl rfl rfl rfl (Nat.le_of_ble_eq_true rfl) ⟨Nat.le_of_ble_eq_true rfl, Nat.le_of_ble_eq_true rfl⟩ (fun _ _ _ q => False.elim q) (fun r w1 sz1 hz hP => ?_)
              obtain ⟨rfl, rfl, rfl⟩ := hP
              refine x_w MW_MW ?_
              obtain ⟨lx13, hlx13⟩ : ∃ z, z = (upd lx12 (2 + i + 1 + 1 + 1 + 1 + 1) 109) := ⟨_, rfl⟩
              rw [← hlx13]
              obtain ⟨tx13, htx13⟩ : ∃ z, z = (upd tx12 8 (nI (2 + i + 1 + 1 + 1 + 1 + 1 + 1))) := ⟨_, rfl⟩
              rw [← htx13]
              have hJ13 : MJ n tx13 v bf sv pa sg := by rw [htx13]; exact hJ12.j_t (by decide)
              have h813 : tx13 8 = nI (2 + i + 1 + 1 + 1 + 1 + 1 + 1) := by rw [htx13]; rfl
              have hx13 : ∀ i, i ≠ 8 → tx13 i = t i := by rw [htx13]; exact fun i h => (if_neg h).trans (hx12 i h)
              refine x_st (st1 := []) rfl ?_
              refine x_aload_n 0 186 C0 dX8_writesLabel_185 rfl rfl rfl ?_
              refine x_bipush (v := 112) 188 C0 dX8_writesLabel_186 rfl (by decide) ?_
              refine x_callV 191 C0 (k_X8_writes l hl g _ _ n tx13 v bf sv pa lx13 ip td sg MR_MW hJ13 (2 + i + 1 + 1 + 1 + 1 + 1 + 1) (by omega) h813 112) dX8_writesLabel_188 rfl mC_X8_writes mM_X8_139 mI_X8_writes mV_X8_writes mN_X8 yd_X8_writes rfl rfl ⟨Nat.le_of_ble_eq_true rfl, Nat.le_of_ble_eq_true rfl⟩ MR_MW.o rfl rfl rfl rfl (Nat.le_of_ble_eq_true rfl) ⟨Nat.le_of_ble_eq_true rfl, Nat.le_of_ble_eq_true rfl⟩ (fun _ _ _ q => False.elim q) (fun r w1 sz1 hz hP => ?_)
              obtain ⟨rfl, rfl, rfl⟩ := hP
              refine x_w MW_MW ?_
              obtain ⟨lx14, hlx14⟩ : ∃ z, z = (upd lx13 (2 + i + 1 + 1 + 1 + 1 + 1 + 1) 112) := ⟨_, rfl⟩
              rw [← hlx14]
              obtain ⟨tx14, htx14⟩ : ∃ z, z = (upd tx13 8 (nI (2 + i + 1 + 1 + 1 + 1 + 1 + 1 + 1))) := ⟨_, rfl⟩
              rw [← htx14]
              have hJ14 : MJ n tx14 v bf sv pa sg := by rw [htx14]; exact hJ13.j_t (by decide)
              have h814 : tx14 8 = nI (2 + i + 1 + 1 + 1 + 1 + 1 + 1 + 1) := by rw [htx14]; rfl
              have hx14 : ∀ i, i ≠ 8 → tx14 i = t i := by rw [htx14]; exact fun i h => (if_neg h).trans (hx13 i h)
              refine x_st (st1 := []) rfl ?_
              exact x_return C0 dX8_writesLabel_191 rfl (Nat.le_of_ble_eq_true rfl) (Nat.le_of_ble_eq_true rfl) ⟨rfl, rfl, _, _, rfl, hJ14, hx14, (2 + i + 1 + 1 + 1 + 1 + 1 + 1 + 1), by omega, h814⟩
            · exact x_return C0 dX8_writesLabel_160 rfl (Nat.le_of_ble_eq_true rfl) (Nat.le_of_ble_eq_true rfl) ⟨rfl, rfl, _, _, rfl, hJ8, hx8, (2 + i + 1 + 1), by omega, h88⟩
          · have c7' := Int32.not_lt.mp c7
            refine x_aload_n 0 124 C0 dX8_writesLabel_123 rfl rfl rfl ?_
            refine x_bipush (v := 48) 126 C0 dX8_writesLabel_124 rfl (by decide) ?_
            refine x_iload_n 3 127 C0 dX8_writesLabel_126 rfl rfl rfl ?_
            refine x_bipush (v := 10) 129 C0 dX8_writesLabel_127 rfl (by decide) ?_
            refine x_idiv 130 C0 dX8_writesLabel_129 rfl (by decide) ?_
            refine x_iadd 131 C0 dX8_writesLabel_130 rfl ?_
            refine x_callV 134 C0 (k_X8_writes l hl g _ _ n tx6 v bf sv pa lx6 ip td sg MR_MW hJ6 (2 + i + 1) (by omega) h86 (48 + (po / 10))) dX8_writesLabel_131 rfl mC_X8_writes mM_X8_139 mI_X8_writes mV_X8_writes mN_X8 yd_X8_writes rfl rfl ⟨Nat.le_of_ble_eq_true rfl, Nat.le_of_ble_eq_true rfl⟩ MR_MW.o rfl rfl rfl rfl (Nat.le_of_ble_eq_true rfl) ⟨Nat.le_of_ble_eq_true rfl, Nat.le_of_ble_eq_true rfl⟩ (fun _ _ _ q => False.elim q) (fun r w1 sz1 hz hP => ?_)
            obtain ⟨rfl, rfl, rfl⟩ := hP
            refine x_w MW_MW ?_
            obtain ⟨lx15, hlx15⟩ : ∃ z, z = (upd lx6 (2 + i + 1) (48 + (po / 10))) := ⟨_, rfl⟩
            rw [← hlx15]
            obtain ⟨tx15, htx15⟩ : ∃ z, z = (upd tx6 8 (nI (2 + i + 1 + 1))) := ⟨_, rfl⟩
            rw [← htx15]
            have hJ15 : MJ n tx15 v bf sv pa sg := by rw [htx15]; exact hJ6.j_t (by decide)
            have h815 : tx15 8 = nI (2 + i + 1 + 1) := by rw [htx15]; rfl
            have hx15 : ∀ i, i ≠ 8 → tx15 i = t i := by rw [htx15]; exact fun i h => (if_neg h).trans (hx6 i h)
            refine x_st (st1 := []) rfl ?_
            refine x_aload_n 0 135 C0 dX8_writesLabel_134 rfl rfl rfl ?_
            refine x_bipush (v := 48) 137 C0 dX8_writesLabel_135 rfl (by decide) ?_
            refine x_iload_n 3 138 C0 dX8_writesLabel_137 rfl rfl rfl ?_
            refine x_bipush (v := 10) 140 C0 dX8_writesLabel_138 rfl (by decide) ?_
            refine x_irem 141 C0 dX8_writesLabel_140 rfl (by decide) ?_
            refine x_iadd 142 C0 dX8_writesLabel_141 rfl ?_
            refine x_callV 145 C0 (k_X8_writes l hl g _ _ n tx15 v bf sv pa lx15 ip td sg MR_MW hJ15 (2 + i + 1 + 1) (by omega) h815 (48 + (po - po / 10 * 10))) dX8_writesLabel_142 rfl mC_X8_writes mM_X8_139 mI_X8_writes mV_X8_writes mN_X8 yd_X8_writes rfl rfl ⟨Nat.le_of_ble_eq_true rfl, Nat.le_of_ble_eq_true rfl⟩ MR_MW.o rfl rfl rfl rfl (Nat.le_of_ble_eq_true rfl) ⟨Nat.le_of_ble_eq_true rfl, Nat.le_of_ble_eq_true rfl⟩ (fun _ _ _ q => False.elim q) (fun r w1 sz1 hz hP => ?_)
            obtain ⟨rfl, rfl, rfl⟩ := hP
            refine x_w MW_MW ?_
            obtain ⟨lx16, hlx16⟩ : ∃ z, z = (upd lx15 (2 + i + 1 + 1) (48 + (po - po / 10 * 10))) := ⟨_, rfl⟩
            rw [← hlx16]
            obtain ⟨tx16, htx16⟩ : ∃ z, z = (upd tx15 8 (nI (2 + i + 1 + 1 + 1))) := ⟨_, rfl⟩
            rw [← htx16]
            have hJ16 : MJ n tx16 v bf sv pa sg := by rw [htx16]; exact hJ15.j_t (by decide)
            have h816 : tx16 8 = nI (2 + i + 1 + 1 + 1) := by rw [htx16]; rfl
            have hx16 : ∀ i, i ≠ 8 → tx16 i = t i := by rw [htx16]; exact fun i h => (if_neg h).trans (hx15 i h)
            refine x_st (st1 := []) rfl ?_
            refine x_aload_n 0 146 C0 dX8_writesLabel_145 rfl rfl rfl ?_
            refine x_getf (v := .ref (g.2 0 + 258 + 1)) 8 149 C0 dX8_writesLabel_146 rfl MR_MW.o rfl (by decide) inX8 mF_X8_7 rfl ?_
            refine x_iload_n 1 150 C0 dX8_writesLabel_149 rfl rfl rfl ?_
            refine x_bipush (v := 8) 152 C0 dX8_writesLabel_150 rfl (by decide) ?_
            refine x_callS 155 C0 (k_X8_at l hl g _ _ (nI kc) 8) dX8_writesLabel_152 rfl mC_X8_at mM_X8_71 mS_X8_at mN_X8 yd_X8_at rfl rfl ⟨Nat.le_of_ble_eq_true rfl, Nat.le_of_ble_eq_true rfl⟩ rfl rfl (Nat.le_of_ble_eq_true rfl) ⟨Nat.le_of_ble_eq_true rfl, Nat.le_of_ble_eq_true rfl⟩ (fun _ _ _ q => False.elim q) (fun r w1 sz1 hz hP => ?_)
            obtain ⟨rfl, rfl, rfl⟩ := hP
            refine x_st (st1 := [.int (nI (28 + 9 * kc + 8)), .ref (g.2 0 + 258 + 1)]) (congrArg (fun z => Value.int z :: _) (at_nI 28 9 kc 8)) ?_
            refine x_iald 0 156 C0 dX8_writesLabel_155 rfl MR_MW.r_v rfl (vp_in_nI (n := 28 + 9 * kc + 8) (by omega) (by decide)) ?_
            refine x_st (st1 := [.int (v (28 + 9 * kc + 8))]) (congrArg (fun z => Value.int z :: _) (show v (nI (28 + 9 * kc + 8)).toNatClampNeg = v (28 + 9 * kc + 8) from by rw [nI_clamp (by omega)])) ?_
            refine x_iconst (v := 1) 157 C0 dX8_writesLabel_156 rfl (by decide) ?_
            refine x_icmp_ne 161 160 C0 dX8_writesLabel_157 rfl (by decide) (fun c17 => ?_) (fun c17 => ?_)
            · refine x_aload_n 0 162 C0 dX8_writesLabel_161 rfl rfl rfl ?_
              refine x_bipush (v := 32) 164 C0 dX8_writesLabel_162 rfl (by decide) ?_
              refine x_callV 167 C0 (k_X8_writes l hl g _ _ n tx16 v bf sv pa lx16 ip td sg MR_MW hJ16 (2 + i + 1 + 1 + 1) (by omega) h816 32) dX8_writesLabel_164 rfl mC_X8_writes mM_X8_139 mI_X8_writes mV_X8_writes mN_X8 yd_X8_writes rfl rfl ⟨Nat.le_of_ble_eq_true rfl, Nat.le_of_ble_eq_true rfl⟩ MR_MW.o rfl rfl rfl rfl (Nat.le_of_ble_eq_true rfl) ⟨Nat.le_of_ble_eq_true rfl, Nat.le_of_ble_eq_true rfl⟩ (fun _ _ _ q => False.elim q) (fun r w1 sz1 hz hP => ?_)
              obtain ⟨rfl, rfl, rfl⟩ := hP
              refine x_w MW_MW ?_
              obtain ⟨lx18, hlx18⟩ : ∃ z, z = (upd lx16 (2 + i + 1 + 1 + 1) 32) := ⟨_, rfl⟩
              rw [← hlx18]
              obtain ⟨tx18, htx18⟩ : ∃ z, z = (upd tx16 8 (nI (2 + i + 1 + 1 + 1 + 1))) := ⟨_, rfl⟩
              rw [← htx18]
              have hJ18 : MJ n tx18 v bf sv pa sg := by rw [htx18]; exact hJ16.j_t (by decide)
              have h818 : tx18 8 = nI (2 + i + 1 + 1 + 1 + 1) := by rw [htx18]; rfl
              have hx18 : ∀ i, i ≠ 8 → tx18 i = t i := by rw [htx18]; exact fun i h => (if_neg h).trans (hx16 i h)
              refine x_st (st1 := []) rfl ?_
              refine x_aload_n 0 168 C0 dX8_writesLabel_167 rfl rfl rfl ?_
              refine x_bipush (v := 100) 170 C0 dX8_writesLabel_168 rfl (by decide) ?_
              refine x_callV 173 C0 (k_X8_writes l hl g _ _ n tx18 v bf sv pa lx18 ip td sg MR_MW hJ18 (2 + i + 1 + 1 + 1 + 1) (by omega) h818 100) dX8_writesLabel_170 rfl mC_X8_writes mM_X8_139 mI_X8_writes mV_X8_writes mN_X8 yd_X8_writes rfl rfl ⟨Nat.le_of_ble_eq_true rfl, Nat.le_of_ble_eq_true rfl⟩ MR_MW.o rfl rfl rfl rfl (Nat.le_of_ble_eq_true rfl) ⟨Nat.le_of_ble_eq_true rfl, Nat.le_of_ble_eq_true rfl⟩ (fun _ _ _ q => False.elim q) (fun r w1 sz1 hz hP => ?_)
              obtain ⟨rfl, rfl, rfl⟩ := hP
              refine x_w MW_MW ?_
              obtain ⟨lx19, hlx19⟩ : ∃ z, z = (upd lx18 (2 + i + 1 + 1 + 1 + 1) 100) := ⟨_, rfl⟩
              rw [← hlx19]
              obtain ⟨tx19, htx19⟩ : ∃ z, z = (upd tx18 8 (nI (2 + i + 1 + 1 + 1 + 1 + 1))) := ⟨_, rfl⟩
              rw [← htx19]
              have hJ19 : MJ n tx19 v bf sv pa sg := by rw [htx19]; exact hJ18.j_t (by decide)
              have h819 : tx19 8 = nI (2 + i + 1 + 1 + 1 + 1 + 1) := by rw [htx19]; rfl
              have hx19 : ∀ i, i ≠ 8 → tx19 i = t i := by rw [htx19]; exact fun i h => (if_neg h).trans (hx18 i h)
              refine x_st (st1 := []) rfl ?_
              refine x_aload_n 0 174 C0 dX8_writesLabel_173 rfl rfl rfl ?_
              refine x_bipush (v := 97) 176 C0 dX8_writesLabel_174 rfl (by decide) ?_
              refine x_callV 179 C0 (k_X8_writes l hl g _ _ n tx19 v bf sv pa lx19 ip td sg MR_MW hJ19 (2 + i + 1 + 1 + 1 + 1 + 1) (by omega) h819 97) dX8_writesLabel_176 rfl mC_X8_writes mM_X8_139 mI_X8_writes mV_X8_writes mN_X8 yd_X8_writes rfl rfl ⟨Nat.le_of_ble_eq_true rfl, Nat.le_of_ble_eq_true rfl⟩ MR_MW.o rfl rfl rfl rfl (Nat.le_of_ble_eq_true rfl) ⟨Nat.le_of_ble_eq_true rfl, Nat.le_of_ble_eq_true rfl⟩ (fun _ _ _ q => False.elim q) (fun r w1 sz1 hz hP => ?_)
              obtain ⟨rfl, rfl, rfl⟩ := hP
              refine x_w MW_MW ?_
              obtain ⟨lx20, hlx20⟩ : ∃ z, z = (upd lx19 (2 + i + 1 + 1 + 1 + 1 + 1) 97) := ⟨_, rfl⟩
              rw [← hlx20]
              obtain ⟨tx20, htx20⟩ : ∃ z, z = (upd tx19 8 (nI (2 + i + 1 + 1 + 1 + 1 + 1 + 1))) := ⟨_, rfl⟩
              rw [← htx20]
              have hJ20 : MJ n tx20 v bf sv pa sg := by rw [htx20]; exact hJ19.j_t (by decide)
              have h820 : tx20 8 = nI (2 + i + 1 + 1 + 1 + 1 + 1 + 1) := by rw [htx20]; rfl
              have hx20 : ∀ i, i ≠ 8 → tx20 i = t i := by rw [htx20]; exact fun i h => (if_neg h).trans (hx19 i h)
              refine x_st (st1 := []) rfl ?_
              refine x_aload_n 0 180 C0 dX8_writesLabel_179 rfl rfl rfl ?_
              refine x_bipush (v := 109) 182 C0 dX8_writesLabel_180 rfl (by decide) ?_
              refine x_callV 185 C0 (k_X8_writes l hl g _ _ n tx20 v bf sv pa lx20 ip td sg MR_MW hJ20 (2 + i + 1 + 1 + 1 + 1 + 1 + 1) (by omega) h820 109) dX8_writesLabel_182 rfl mC_X8_writes mM_X8_139 mI_X8_writes mV_X8_writes mN_X8 yd_X8_writes rfl rfl ⟨Nat.le_of_ble_eq_true rfl, Nat.le_of_ble_eq_true rfl⟩ MR_MW.o rfl rfl rfl rfl (Nat.le_of_ble_eq_true rfl) ⟨Nat.le_of_ble_eq_true rfl, Nat.le_of_ble_eq_true rfl⟩ (fun _ _ _ q => False.elim q) (fun r w1 sz1 hz hP => ?_)
              obtain ⟨rfl, rfl, rfl⟩ := hP
              refine x_w MW_MW ?_
              obtain ⟨lx21, hlx21⟩ : ∃ z, z = (upd lx20 (2 + i + 1 + 1 + 1 + 1 + 1 + 1) 109) := ⟨_, rfl⟩
              rw [← hlx21]
              obtain ⟨tx21, htx21⟩ : ∃ z, z = (upd tx20 8 (nI (2 + i + 1 + 1 + 1 + 1 + 1 + 1 + 1))) := ⟨_, rfl⟩
              rw [← htx21]
              have hJ21 : MJ n tx21 v bf sv pa sg := by rw [htx21]; exact hJ20.j_t (by decide)
              have h821 : tx21 8 = nI (2 + i + 1 + 1 + 1 + 1 + 1 + 1 + 1) := by rw [htx21]; rfl
              have hx21 : ∀ i, i ≠ 8 → tx21 i = t i := by rw [htx21]; exact fun i h => (if_neg h).trans (hx20 i h)
              refine x_st (st1 := []) rfl ?_
              refine x_aload_n 0 186 C0 dX8_writesLabel_185 rfl rfl rfl ?_
              refine x_bipush (v := 112) 188 C0 dX8_writesLabel_186 rfl (by decide) ?_
              refine x_callV 191 C0 (k_X8_writes l hl g _ _ n tx21 v bf sv pa lx21 ip td sg MR_MW hJ21 (2 + i + 1 + 1 + 1 + 1 + 1 + 1 + 1) (by omega) h821 112) dX8_writesLabel_188 rfl mC_X8_writes mM_X8_139 mI_X8_writes mV_X8_writes mN_X8 yd_X8_writes rfl rfl ⟨Nat.le_of_ble_eq_true rfl, Nat.le_of_ble_eq_true rfl⟩ MR_MW.o rfl rfl rfl rfl (Nat.le_of_ble_eq_true rfl) ⟨Nat.le_of_ble_eq_true rfl, Nat.le_of_ble_eq_true rfl⟩ (fun _ _ _ q => False.elim q) (fun r w1 sz1 hz hP => ?_)
              obtain ⟨rfl, rfl, rfl⟩ := hP
              refine x_w MW_MW ?_
              obtain ⟨lx22, hlx22⟩ : ∃ z, z = (upd lx21 (2 + i + 1 + 1 + 1 + 1 + 1 + 1 + 1) 112) := ⟨_, rfl⟩
              rw [← hlx22]
              obtain ⟨tx22, htx22⟩ : ∃ z, z = (upd tx21 8 (nI (2 + i + 1 + 1 + 1 + 1 + 1 + 1 + 1 + 1))) := ⟨_, rfl⟩
              rw [← htx22]
              have hJ22 : MJ n tx22 v bf sv pa sg := by rw [htx22]; exact hJ21.j_t (by decide)
              have h822 : tx22 8 = nI (2 + i + 1 + 1 + 1 + 1 + 1 + 1 + 1 + 1) := by rw [htx22]; rfl
              have hx22 : ∀ i, i ≠ 8 → tx22 i = t i := by rw [htx22]; exact fun i h => (if_neg h).trans (hx21 i h)
              refine x_st (st1 := []) rfl ?_
              exact x_return C0 dX8_writesLabel_191 rfl (Nat.le_of_ble_eq_true rfl) (Nat.le_of_ble_eq_true rfl) ⟨rfl, rfl, _, _, rfl, hJ22, hx22, (2 + i + 1 + 1 + 1 + 1 + 1 + 1 + 1 + 1), by omega, h822⟩
            · exact x_return C0 dX8_writesLabel_160 rfl (Nat.le_of_ble_eq_true rfl) (Nat.le_of_ble_eq_true rfl) ⟨rfl, rfl, _, _, rfl, hJ16, hx16, (2 + i + 1 + 1 + 1), by omega, h816⟩
        · have hi2 : i < 6 := Nat.lt_of_le_of_ne hi (fun e => c5 (by rw [hJl.2.2.2.2.2.2.2.2 _ (by omega), e]; exact sgM_end b hb))
          refine x_aload_n 0 87 C0 dX8_writesLabel_86 rfl rfl rfl ?_
          refine x_aload_n 0 88 C0 dX8_writesLabel_87 rfl rfl rfl ?_
          refine x_getf (v := .ref (g.2 0 + 258 + 8)) 16 91 C0 dX8_writesLabel_88 rfl MR_MW.o rfl (by decide) inX8 mF_X8_31 rfl ?_
          refine x_bipush (v := 7) 93 C0 dX8_writesLabel_91 rfl (by decide) ?_
          refine x_bipush (v := 8) 95 C0 dX8_writesLabel_93 rfl (by decide) ?_
          refine x_iload_n 2 96 C0 dX8_writesLabel_95 rfl rfl rfl ?_
          refine x_iadd 97 C0 dX8_writesLabel_96 rfl ?_
          refine x_st (st1 := [.int (nI (8 + b)), .int 7, .ref (g.2 0 + 258 + 8), .ref (g.2 0 + 258)]) (congrArg (fun z => Value.int z :: _) (nI_add 8 b)) ?_
          refine x_imul 98 C0 dX8_writesLabel_97 rfl ?_
          refine x_st (st1 := [.int (nI (7 * (8 + b))), .ref (g.2 0 + 258 + 8), .ref (g.2 0 + 258)]) (congrArg (fun z => Value.int z :: _) (nI_mulN 7 (8 + b))) ?_
          refine x_iload 4 100 C0 dX8_writesLabel_98 rfl rfl ?_
          refine x_iadd 101 C0 dX8_writesLabel_100 rfl ?_
          refine x_st (st1 := [.int (nI (7 * (8 + b) + i)), .ref (g.2 0 + 258 + 8), .ref (g.2 0 + 258)]) (congrArg (fun z => Value.int z :: _) (nI_add (7 * (8 + b)) i)) ?_
          refine x_iald 0 102 C0 dX8_writesLabel_101 rfl MR_MW.r_sg rfl (vp_in_nI (n := 7 * (8 + b) + i) (by omega) (by decide)) ?_
          refine x_st (st1 := [.int (sg (7 * (8 + b) + i)), .ref (g.2 0 + 258)]) (congrArg (fun z => Value.int z :: _) (show sg (nI (7 * (8 + b) + i)).toNatClampNeg = sg (7 * (8 + b) + i) from by rw [nI_clamp (by omega)])) ?_
          refine x_callV 105 C0 (k_X8_writes l hl g _ _ n tl v bf sv pa lbl ip td sg MR_MW hJl (2 + i) (by omega) h8l (sg (7 * (8 + b) + i))) dX8_writesLabel_102 rfl mC_X8_writes mM_X8_139 mI_X8_writes mV_X8_writes mN_X8 yd_X8_writes rfl rfl ⟨Nat.le_of_ble_eq_true rfl, Nat.le_of_ble_eq_true rfl⟩ MR_MW.o rfl rfl rfl rfl (Nat.le_of_ble_eq_true rfl) ⟨Nat.le_of_ble_eq_true rfl, Nat.le_of_ble_eq_true rfl⟩ (fun _ _ _ q => False.elim q) (fun r w1 sz1 hz hP => ?_)
          obtain ⟨rfl, rfl, rfl⟩ := hP
          refine x_w MW_MW ?_
          obtain ⟨lx23, hlx23⟩ : ∃ z, z = (upd lbl (2 + i) (sg (7 * (8 + b) + i))) := ⟨_, rfl⟩
          rw [← hlx23]
          obtain ⟨tx23, htx23⟩ : ∃ z, z = (upd tl 8 (nI (2 + i + 1))) := ⟨_, rfl⟩
          rw [← htx23]
          have hJ23 : MJ n tx23 v bf sv pa sg := by rw [htx23]; exact hJl.j_t (by decide)
          have h823 : tx23 8 = nI (2 + i + 1) := by rw [htx23]; rfl
          have hx23 : ∀ i, i ≠ 8 → tx23 i = t i := by rw [htx23]; exact fun i h => (if_neg h).trans (hel i h)
          refine x_st (st1 := []) rfl ?_
          refine x_iinc [(4, .int (nI (i + 1))), (0, .ref (g.2 0 + 258)), (1, .int (nI kc)), (2, .int (nI b)), (3, .int po)] 4 108 C0 dX8_writesLabel_105 rfl rfl (nI_1 i) (by decide) rfl ?_
          refine x_lv (lv1 := [(0, .ref (g.2 0 + 258)), (1, .int (nI kc)), (2, .int (nI b)), (3, .int po), (4, .int (nI (i + 1)))]) [1, 2, 3, 4, 0] rfl ?_
          refine x_goto 68 C0 dX8_writesLabel_108 (by decide) ?_
          exact x_lv [0, 1, 2, 3, 4] rfl (ih (i + 1) _ _ (by omega) (by omega) hJ23 h823 hx23)
    exact x_lv [0, 1, 2, 3, 4] rfl (loop68 7 0 _ _ (by omega) (by omega) hJ4 h84 hx4)
  · exact x_return C0 dX8_writesLabel_19 rfl (Nat.le_of_ble_eq_true rfl) (Nat.le_of_ble_eq_true rfl) ⟨rfl, rfl, _, _, rfl, hJ1, (fun i h => if_neg h), 0, by omega, rfl⟩

def R_X8_brings (t v : Nat → Int32) (ga : Int32) (ki : Int32) (po : Int32) (r : Option Value) (t' v' : Nat → Int32) : Prop :=
  (∃ (a : Nat) (b : Nat), (ga = nI a) ∧ (ki = nI b) ∧ (a < 6) ∧ (b < 3) ∧ (1 ≤ po ∧ po ≤ 500) ∧ ((v (10 + 3 * a + b)) + po ≤ 500) ∧ (t' 1 = t 1) ∧ (r = some (.int ((upd (upd v (10 + 3 * a + b) ((v (10 + 3 * a + b)) + po)) 6 (((upd v (10 + 3 * a + b) ((v (10 + 3 * a + b)) + po)) 6) + po)) (10 + 3 * a + b)))) ∧ (v' = (upd (upd v (10 + 3 * a + b) ((v (10 + 3 * a + b)) + po)) 6 (((upd v (10 + 3 * a + b) ((v (10 + 3 * a + b)) + po)) 6) + po)))) ∨
  (∃ (a : Nat) (b : Nat), (ga = nI a) ∧ (ki = nI b) ∧ (a < 6) ∧ (b < 3) ∧ (1 ≤ po ∧ po ≤ 500) ∧ (¬ ((v (10 + 3 * a + b)) + po ≤ 500)) ∧ (t' 1 = 3)) ∨
  (∃ (a : Nat) (b : Nat), (ga = nI a) ∧ (ki = nI b) ∧ (a < 6) ∧ (b < 3) ∧ (¬ (1 ≤ po ∧ po ≤ 500)) ∧ (t' 1 = 2)) ∨
  ((isLeafB ga ki = false) ∧ (t' 1 = 1))
set_option maxHeartbeats 4000000 in
set_option maxRecDepth 100000 in
theorem k_X8_brings (l : Launch) (hl : l.stackTraces = false) (g : xg_T) (w : xw_T) (sz n : Nat) (t v bf sv pa lb ip td sg : Nat → Int32) (hM : MR g w t v bf sv pa lb ip td sg) (hJ : MJ n t v bf sv pa sg) (ga : Int32) (ki : Int32) (po : Int32) : xM l g yX8_brings cX8_brings 5 (some .int) ({ frames := 2, cells := 0, slots := 0, locals := 43 }) 0 0 [.ref (g.2 0 + 258), .int ga, .int ki, .int po] w sz (mX g w sz n bf sv pa ip td sg (fun r t' v' => mT t r t' v' ∧ R_X8_brings t v ga ki po r t' v')) (fun _ _ _ => False) := by
  refine xM.of RX8 hl (by decide +kernel) rfl (Nat.le_of_ble_eq_true rfl) rfl ?_
  intro p e s m args below meth cD C0 hini
  refine x_iload_n 1 1 C0 dX8_brings_0 rfl rfl rfl ?_
  refine x_iload_n 2 2 C0 dX8_brings_1 rfl rfl rfl ?_
  refine x_callS 5 C0 (k_X8_isLeaf l hl g _ _ ga ki) dX8_brings_2 rfl mC_X8_isLeaf mM_X8_75 mS_X8_isLeaf mN_X8 yd_X8_isLeaf rfl rfl ⟨Nat.le_of_ble_eq_true rfl, Nat.le_of_ble_eq_true rfl⟩ rfl rfl (Nat.le_of_ble_eq_true rfl) ⟨Nat.le_of_ble_eq_true rfl, Nat.le_of_ble_eq_true rfl⟩ (fun _ _ _ q => False.elim q) (fun r w1 sz1 hz hP => ?_)
  obtain ⟨hr, rfl, rfl⟩ := hP
  rcases hr with ⟨⟨a, b, ha, hb, hav, hbv⟩, rfl⟩ | ⟨rfl, hln⟩
  · subst hav hbv
    refine x_st (st1 := [.int 1]) rfl ?_
    refine x_if_ne 14 8 C0 dX8_brings_5 rfl (by decide) (fun _ => ?_) (fun q => False.elim (by revert q; decide))
    refine x_iload_n 3 15 C0 dX8_brings_14 rfl rfl rfl ?_
    refine x_iconst (v := 1) 16 C0 dX8_brings_15 rfl (by decide) ?_
    refine x_sipush (v := 500) 19 C0 dX8_brings_16 rfl (by decide) ?_
    refine x_callS 22 C0 (k_X8_isIn l hl g _ _ po 1 500) dX8_brings_19 rfl mC_X8_isIn mM_X8_67 mS_X8_isIn mN_X8 yd_X8_isIn rfl rfl ⟨Nat.le_of_ble_eq_true rfl, Nat.le_of_ble_eq_true rfl⟩ rfl rfl (Nat.le_of_ble_eq_true rfl) ⟨Nat.le_of_ble_eq_true rfl, Nat.le_of_ble_eq_true rfl⟩ (fun _ _ _ q => False.elim q) (fun r w1 sz1 hz hP => ?_)
    obtain ⟨hr, rfl, rfl⟩ := hP
    rcases hr with ⟨rfl, ha2, hb2⟩ | ⟨rfl, hx2⟩
    · refine x_st (st1 := [.int 1]) rfl ?_
      refine x_if_ne 31 25 C0 dX8_brings_22 rfl (by decide) (fun _ => ?_) (fun q => False.elim (by revert q; decide))
      refine x_iload_n 1 32 C0 dX8_brings_31 rfl rfl rfl ?_
      refine x_iload_n 2 33 C0 dX8_brings_32 rfl rfl rfl ?_
      refine x_callS 36 C0 (k_X8_leaf l hl g _ _ (nI a) (nI b)) dX8_brings_33 rfl mC_X8_leaf mM_X8_79 mS_X8_leaf mN_X8 yd_X8_leaf rfl rfl ⟨Nat.le_of_ble_eq_true rfl, Nat.le_of_ble_eq_true rfl⟩ rfl rfl (Nat.le_of_ble_eq_true rfl) ⟨Nat.le_of_ble_eq_true rfl, Nat.le_of_ble_eq_true rfl⟩ (fun _ _ _ q => False.elim q) (fun r w1 sz1 hz hP => ?_)
      obtain ⟨rfl, rfl, rfl⟩ := hP
      refine x_st (st1 := [.int (nI (10 + 3 * a + b))]) (congrArg (fun z => Value.int z :: _) (at_nI 10 3 a b)) ?_
      refine x_istore [(4, .int (nI (10 + 3 * a + b))), (0, .ref (g.2 0 + 258)), (1, .int (nI a)), (2, .int (nI b)), (3, .int po)] 38 C0 dX8_brings_36 rfl (by decide) rfl ?_
      refine x_lv (lv1 := [(0, .ref (g.2 0 + 258)), (1, .int (nI a)), (2, .int (nI b)), (3, .int po), (4, .int (nI (10 + 3 * a + b)))]) [1, 2, 3, 4, 0] rfl ?_
      refine x_aload_n 0 39 C0 dX8_brings_38 rfl rfl rfl ?_
      refine x_getf (v := .ref (g.2 0 + 258 + 1)) 8 42 C0 dX8_brings_39 rfl hM.o rfl (by decide) inX8 mF_X8_7 rfl ?_
      refine x_iload 4 44 C0 dX8_brings_42 rfl rfl ?_
      refine x_iald 0 45 C0 dX8_brings_44 rfl hM.r_v rfl (vp_in_nI (n := 10 + 3 * a + b) (by omega) (by decide)) ?_
      refine x_st (st1 := [.int (v (10 + 3 * a + b))]) (congrArg (fun z => Value.int z :: _) (show v (nI (10 + 3 * a + b)).toNatClampNeg = v (10 + 3 * a + b) from by rw [nI_clamp (by omega)])) ?_
      refine x_iload_n 3 46 C0 dX8_brings_45 rfl rfl rfl ?_
      refine x_iadd 47 C0 dX8_brings_46 rfl ?_
      refine x_sipush (v := 500) 50 C0 dX8_brings_47 rfl (by decide) ?_
      refine x_icmp_le 66 53 C0 dX8_brings_50 rfl (by decide) (fun c4 => ?_) (fun c4 => ?_)
      · have c4' := Int32.not_lt.mpr c4
        refine x_aload_n 0 67 C0 dX8_brings_66 rfl rfl rfl ?_
        refine x_getf (v := .ref (g.2 0 + 258 + 1)) 8 70 C0 dX8_brings_67 rfl hM.o rfl (by decide) inX8 mF_X8_7 rfl ?_
        refine x_iload 4 72 C0 dX8_brings_70 rfl rfl ?_
        refine x_dup2 73 C0 dX8_brings_72 rfl rfl rfl ?_
        refine x_iald 0 74 C0 dX8_brings_73 rfl hM.r_v rfl (vp_in_nI (n := 10 + 3 * a + b) (by omega) (by decide)) ?_
        refine x_st (st1 := [.int (v (10 + 3 * a + b)), .int (nI (10 + 3 * a + b)), .ref (g.2 0 + 258 + 1)]) (congrArg (fun z => Value.int z :: _) (show v (nI (10 + 3 * a + b)).toNatClampNeg = v (10 + 3 * a + b) from by rw [nI_clamp (by omega)])) ?_
        refine x_iload_n 3 75 C0 dX8_brings_74 rfl rfl rfl ?_
        refine x_iadd 76 C0 dX8_brings_75 rfl ?_
        refine x_w (MW_self hM) ?_
        refine x_iast 0 77 C0 dX8_brings_76 rfl MR_MW.r_v (by show g.2 0 ≤ _; omega) rfl (vp_in_nI (n := 10 + 3 * a + b) (by omega) (by decide)) ?_
        refine x_w (w1 := (MW g w t (upd v (10 + 3 * a + b) ((v (10 + 3 * a + b)) + po)) bf sv pa lb ip td sg)) (by rw [show (nI (10 + 3 * a + b) : Int32).toNatClampNeg = (10 + 3 * a + b) from nI_clamp (n := 10 + 3 * a + b) (by omega)]; exact MW_v) ?_
        have hJ5 : MJ n t (upd v (10 + 3 * a + b) ((v (10 + 3 * a + b)) + po)) bf sv pa sg := hJ.j_v (hJ.1.up (Or.inl (by omega)))
        refine x_aload_n 0 78 C0 dX8_brings_77 rfl rfl rfl ?_
        refine x_getf (v := .ref (g.2 0 + 258 + 1)) 8 81 C0 dX8_brings_78 rfl MR_MW.o rfl (by decide) inX8 mF_X8_7 rfl ?_
        refine x_bipush (v := 6) 83 C0 dX8_brings_81 rfl (by decide) ?_
        refine x_dup2 84 C0 dX8_brings_83 rfl rfl rfl ?_
        refine x_iald 0 85 C0 dX8_brings_84 rfl MR_MW.r_v rfl (vp_in_nI (n := 6) (by decide) (by decide)) ?_
        refine x_st (st1 := [.int ((upd v (10 + 3 * a + b) ((v (10 + 3 * a + b)) + po)) 6), .int 6, .ref (g.2 0 + 258 + 1)]) (congrArg (fun z => Value.int z :: _) (show (upd v (10 + 3 * a + b) ((v (10 + 3 * a + b)) + po)) (nI 6).toNatClampNeg = (upd v (10 + 3 * a + b) ((v (10 + 3 * a + b)) + po)) 6 from by rw [nI_clamp (by omega)])) ?_
        refine x_iload_n 3 86 C0 dX8_brings_85 rfl rfl rfl ?_
        refine x_iadd 87 C0 dX8_brings_86 rfl ?_
        refine x_iast 0 88 C0 dX8_brings_87 rfl MR_MW.r_v (by show g.2 0 ≤ _; omega) rfl (vp_in_nI (n := 6) (by omega) (by decide)) ?_
        refine x_w (w1 := (MW g w t (upd (upd v (10 + 3 * a + b) ((v (10 + 3 * a + b)) + po)) 6 (((upd v (10 + 3 * a + b) ((v (10 + 3 * a + b)) + po)) 6) + po)) bf sv pa lb ip td sg)) (by rw [show (6 : Int32).toNatClampNeg = 6 from nI_clamp (n := 6) (by omega)]; exact MW_v) ?_
        have hJ6 : MJ n t (upd (upd v (10 + 3 * a + b) ((v (10 + 3 * a + b)) + po)) 6 (((upd v (10 + 3 * a + b) ((v (10 + 3 * a + b)) + po)) 6) + po)) bf sv pa sg := hJ5.j_v (hJ5.1.up (Or.inl (by decide)))
        refine x_aload_n 0 89 C0 dX8_brings_88 rfl rfl rfl ?_
        refine x_getf (v := .ref (g.2 0 + 258 + 1)) 8 92 C0 dX8_brings_89 rfl MR_MW.o rfl (by decide) inX8 mF_X8_7 rfl ?_
        refine x_iload 4 94 C0 dX8_brings_92 rfl rfl ?_
        refine x_iald 0 95 C0 dX8_brings_94 rfl MR_MW.r_v rfl (vp_in_nI (n := 10 + 3 * a + b) (by omega) (by decide)) ?_
        refine x_st (st1 := [.int ((upd (upd v (10 + 3 * a + b) ((v (10 + 3 * a + b)) + po)) 6 (((upd v (10 + 3 * a + b) ((v (10 + 3 * a + b)) + po)) 6) + po)) (10 + 3 * a + b))]) (congrArg (fun z => Value.int z :: _) (show (upd (upd v (10 + 3 * a + b) ((v (10 + 3 * a + b)) + po)) 6 (((upd v (10 + 3 * a + b) ((v (10 + 3 * a + b)) + po)) 6) + po)) (nI (10 + 3 * a + b)).toNatClampNeg = (upd (upd v (10 + 3 * a + b) ((v (10 + 3 * a + b)) + po)) 6 (((upd v (10 + 3 * a + b) ((v (10 + 3 * a + b)) + po)) 6) + po)) (10 + 3 * a + b) from by rw [nI_clamp (by omega)])) ?_
        exact x_ireturn C0 dX8_brings_95 rfl rfl (Nat.le_of_ble_eq_true rfl) (Nat.le_of_ble_eq_true rfl) ⟨rfl, _, _, _, rfl, hJ6, ⟨⟨⟨_, rfl⟩, tK.rf⟩, (Or.inl ⟨a, b, rfl, rfl, ha, hb, ⟨ha2, hb2⟩, c4, rfl, rfl, rfl⟩)⟩⟩
      · have c4' := Int32.not_le.mp c4
        refine x_aload_n 0 54 C0 dX8_brings_53 rfl rfl rfl ?_
        refine x_iconst (v := 2) 55 C0 dX8_brings_54 rfl (by decide) ?_
        refine x_aload_n 0 56 C0 dX8_brings_55 rfl rfl rfl ?_
        refine x_getf (v := .ref (g.2 0 + 258 + 1)) 8 59 C0 dX8_brings_56 rfl hM.o rfl (by decide) inX8 mF_X8_7 rfl ?_
        refine x_iload 4 61 C0 dX8_brings_59 rfl rfl ?_
        refine x_iald 0 62 C0 dX8_brings_61 rfl hM.r_v rfl (vp_in_nI (n := 10 + 3 * a + b) (by omega) (by decide)) ?_
        refine x_st (st1 := [.int (v (10 + 3 * a + b)), .int 2, .ref (g.2 0 + 258)]) (congrArg (fun z => Value.int z :: _) (show v (nI (10 + 3 * a + b)).toNatClampNeg = v (10 + 3 * a + b) from by rw [nI_clamp (by omega)])) ?_
        refine x_callV 65 C0 (k_X8_refuses l hl g _ _ n t v bf sv pa lb ip td sg hM hJ 2 (v (10 + 3 * a + b))) dX8_brings_62 rfl mC_X8_refuses mM_X8_82 mI_X8_refuses mV_X8_refuses mN_X8 yd_X8_refuses rfl rfl ⟨Nat.le_of_ble_eq_true rfl, Nat.le_of_ble_eq_true rfl⟩ hM.o rfl rfl rfl rfl (Nat.le_of_ble_eq_true rfl) ⟨Nat.le_of_ble_eq_true rfl, Nat.le_of_ble_eq_true rfl⟩ (fun _ _ _ q => False.elim q) (fun r w1 sz1 hz hP => ?_)
        obtain ⟨rfl, rfl, rfl⟩ := hP
        have hJ7 : MJ n (upd (upd (upd t 5 2) 6 (v (10 + 3 * a + b))) 1 3) v bf sv pa sg := (((hJ.j_t (by decide)).j_t (by decide)).j_t (by decide))
        refine x_st (st1 := [.int 0]) rfl ?_
        exact x_ireturn C0 dX8_brings_65 rfl rfl (Nat.le_of_ble_eq_true rfl) (Nat.le_of_ble_eq_true rfl) ⟨rfl, _, _, _, rfl, hJ7, ⟨⟨⟨_, rfl⟩, (((tK.rf.up (by decide)).up (by decide)).up (by decide))⟩, (Or.inr (Or.inl ⟨a, b, rfl, rfl, ha, hb, ⟨ha2, hb2⟩, c4, rfl⟩))⟩⟩
    · refine x_st (st1 := [.int 0]) rfl ?_
      refine x_if_ne 31 25 C0 dX8_brings_22 rfl (by decide) (fun q => False.elim (by revert q; decide)) (fun _ => ?_)
      refine x_aload_n 0 26 C0 dX8_brings_25 rfl rfl rfl ?_
      refine x_iconst (v := 2) 27 C0 dX8_brings_26 rfl (by decide) ?_
      refine x_callV 30 C0 (k_X8_fail l hl g _ _ n t v bf sv pa lb ip td sg hM hJ 2) dX8_brings_27 rfl mC_X8_fail mM_X8_47 mI_X8_fail mV_X8_fail mN_X8 yd_X8_fail rfl rfl ⟨Nat.le_of_ble_eq_true rfl, Nat.le_of_ble_eq_true rfl⟩ hM.o rfl rfl rfl rfl (Nat.le_of_ble_eq_true rfl) ⟨Nat.le_of_ble_eq_true rfl, Nat.le_of_ble_eq_true rfl⟩ (fun _ _ _ q => False.elim q) (fun r w1 sz1 hz hP => ?_)
      obtain ⟨rfl, rfl, rfl⟩ := hP
      have hJ9 : MJ n (upd t 1 2) v bf sv pa sg := (hJ.j_t (by decide))
      refine x_st (st1 := [.int 0]) rfl ?_
      exact x_ireturn C0 dX8_brings_30 rfl rfl (Nat.le_of_ble_eq_true rfl) (Nat.le_of_ble_eq_true rfl) ⟨rfl, _, _, _, rfl, hJ9, ⟨⟨⟨_, rfl⟩, (tK.rf.up (by decide))⟩, (Or.inr (Or.inr (Or.inl ⟨a, b, rfl, rfl, ha, hb, hx2, rfl⟩)))⟩⟩
  · refine x_st (st1 := [.int 0]) rfl ?_
    refine x_if_ne 14 8 C0 dX8_brings_5 rfl (by decide) (fun q => False.elim (by revert q; decide)) (fun _ => ?_)
    refine x_aload_n 0 9 C0 dX8_brings_8 rfl rfl rfl ?_
    refine x_iconst (v := 1) 10 C0 dX8_brings_9 rfl (by decide) ?_
    refine x_callV 13 C0 (k_X8_fail l hl g _ _ n t v bf sv pa lb ip td sg hM hJ 1) dX8_brings_10 rfl mC_X8_fail mM_X8_47 mI_X8_fail mV_X8_fail mN_X8 yd_X8_fail rfl rfl ⟨Nat.le_of_ble_eq_true rfl, Nat.le_of_ble_eq_true rfl⟩ hM.o rfl rfl rfl rfl (Nat.le_of_ble_eq_true rfl) ⟨Nat.le_of_ble_eq_true rfl, Nat.le_of_ble_eq_true rfl⟩ (fun _ _ _ q => False.elim q) (fun r w1 sz1 hz hP => ?_)
    obtain ⟨rfl, rfl, rfl⟩ := hP
    have hJ11 : MJ n (upd t 1 1) v bf sv pa sg := (hJ.j_t (by decide))
    refine x_st (st1 := [.int 0]) rfl ?_
    exact x_ireturn C0 dX8_brings_13 rfl rfl (Nat.le_of_ble_eq_true rfl) (Nat.le_of_ble_eq_true rfl) ⟨rfl, _, _, _, rfl, hJ11, ⟨⟨⟨_, rfl⟩, (tK.rf.up (by decide))⟩, (Or.inr (Or.inr (Or.inr (⟨hln, rfl⟩))))⟩⟩

def R_X8_buys (t v : Nat → Int32) (kw : Nat) (mn : Int32) (r : Option Value) (t' v' : Nat → Int32) : Prop :=
  ((1 ≤ mn ∧ mn ≤ 99) ∧ (t' 1 = t 1) ∧ (r = some (.int ((upd v kw (lsr 200 ((v kw) + mn))) kw))) ∧ (v' = (upd v kw (lsr 200 ((v kw) + mn))))) ∨
  ((¬ (1 ≤ mn ∧ mn ≤ 99)) ∧ (t' 1 = 2))
set_option maxHeartbeats 4000000 in
set_option maxRecDepth 100000 in
theorem k_X8_buys (l : Launch) (hl : l.stackTraces = false) (g : xg_T) (w : xw_T) (sz n : Nat) (t v bf sv pa lb ip td sg : Nat → Int32) (hM : MR g w t v bf sv pa lb ip td sg) (hJ : MJ n t v bf sv pa sg) (kw : Nat) (hkw : kw = 1 ∨ kw = 2) (mn : Int32) : xM l g yX8_buys cX8_buys 3 (some .int) ({ frames := 1, cells := 0, slots := 0, locals := 22 }) 0 0 [.ref (g.2 0 + 258), .int (nI kw), .int mn] w sz (mX g w sz n bf sv pa ip td sg (fun r t' v' => mT t r t' v' ∧ R_X8_buys t v kw mn r t' v')) (fun _ _ _ => False) := by
  refine xM.of RX8 hl (by decide +kernel) rfl (Nat.le_of_ble_eq_true rfl) rfl ?_
  intro p e s m args below meth cD C0 hini
  refine x_iload_n 2 1 C0 dX8_buys_0 rfl rfl rfl ?_
  refine x_iconst (v := 1) 2 C0 dX8_buys_1 rfl (by decide) ?_
  refine x_bipush (v := 99) 4 C0 dX8_buys_2 rfl (by decide) ?_
  refine x_callS 7 C0 (k_X8_isIn l hl g _ _ mn 1 99) dX8_buys_4 rfl mC_X8_isIn mM_X8_67 mS_X8_isIn mN_X8 yd_X8_isIn rfl rfl ⟨Nat.le_of_ble_eq_true rfl, Nat.le_of_ble_eq_true rfl⟩ rfl rfl (Nat.le_of_ble_eq_true rfl) ⟨Nat.le_of_ble_eq_true rfl, Nat.le_of_ble_eq_true rfl⟩ (fun _ _ _ q => False.elim q) (fun r w1 sz1 hz hP => ?_)
  obtain ⟨hr, rfl, rfl⟩ := hP
  rcases hr with ⟨rfl, ha1, hb1⟩ | ⟨rfl, hx1⟩
  · refine x_st (st1 := [.int 1]) rfl ?_
    refine x_if_ne 16 10 C0 dX8_buys_7 rfl (by decide) (fun _ => ?_) (fun q => False.elim (by revert q; decide))
    refine x_aload_n 0 17 C0 dX8_buys_16 rfl rfl rfl ?_
    refine x_getf (v := .ref (g.2 0 + 258 + 1)) 8 20 C0 dX8_buys_17 rfl hM.o rfl (by decide) inX8 mF_X8_7 rfl ?_
    refine x_iload_n 1 21 C0 dX8_buys_20 rfl rfl rfl ?_
    refine x_sipush (v := 200) 24 C0 dX8_buys_21 rfl (by decide) ?_
    refine x_aload_n 0 25 C0 dX8_buys_24 rfl rfl rfl ?_
    refine x_getf (v := .ref (g.2 0 + 258 + 1)) 8 28 C0 dX8_buys_25 rfl hM.o rfl (by decide) inX8 mF_X8_7 rfl ?_
    refine x_iload_n 1 29 C0 dX8_buys_28 rfl rfl rfl ?_
    refine x_iald 0 30 C0 dX8_buys_29 rfl hM.r_v rfl (vp_in_nI (n := kw) (by omega) (by decide)) ?_
    refine x_st (st1 := [.int (v kw), .int 200, .int (nI kw), .ref (g.2 0 + 258 + 1)]) (congrArg (fun z => Value.int z :: _) (show v (nI kw).toNatClampNeg = v kw from by rw [nI_clamp (by omega)])) ?_
    refine x_iload_n 2 31 C0 dX8_buys_30 rfl rfl rfl ?_
    refine x_iadd 32 C0 dX8_buys_31 rfl ?_
    refine x_callS 35 C0 (k_X8_lesser l hl g _ _ 200 ((v kw) + mn)) dX8_buys_32 rfl mC_X8_lesser mM_X8_99 mS_X8_lesser mN_X8 yd_X8_lesser rfl rfl ⟨Nat.le_of_ble_eq_true rfl, Nat.le_of_ble_eq_true rfl⟩ rfl rfl (Nat.le_of_ble_eq_true rfl) ⟨Nat.le_of_ble_eq_true rfl, Nat.le_of_ble_eq_true rfl⟩ (fun _ _ _ q => False.elim q) (fun r w1 sz1 hz hP => ?_)
    obtain ⟨rfl, rfl, rfl⟩ := hP
    refine x_st (st1 := [.int (lsr 200 ((v kw) + mn)), .int (nI kw), .ref (g.2 0 + 258 + 1)]) rfl ?_
    refine x_w (MW_self hM) ?_
    refine x_iast 0 36 C0 dX8_buys_35 rfl MR_MW.r_v (by show g.2 0 ≤ _; omega) rfl (vp_in_nI (n := kw) (by omega) (by decide)) ?_
    refine x_w (w1 := (MW g w t (upd v kw (lsr 200 ((v kw) + mn))) bf sv pa lb ip td sg)) (by rw [show (nI kw : Int32).toNatClampNeg = kw from nI_clamp (n := kw) (by omega)]; exact MW_v) ?_
    have hJ3 : MJ n t (upd v kw (lsr 200 ((v kw) + mn))) bf sv pa sg := hJ.j_v (hJ.1.up (Or.inl (by omega)))
    refine x_aload_n 0 37 C0 dX8_buys_36 rfl rfl rfl ?_
    refine x_getf (v := .ref (g.2 0 + 258 + 1)) 8 40 C0 dX8_buys_37 rfl MR_MW.o rfl (by decide) inX8 mF_X8_7 rfl ?_
    refine x_iload_n 1 41 C0 dX8_buys_40 rfl rfl rfl ?_
    refine x_iald 0 42 C0 dX8_buys_41 rfl MR_MW.r_v rfl (vp_in_nI (n := kw) (by omega) (by decide)) ?_
    refine x_st (st1 := [.int ((upd v kw (lsr 200 ((v kw) + mn))) kw)]) (congrArg (fun z => Value.int z :: _) (show (upd v kw (lsr 200 ((v kw) + mn))) (nI kw).toNatClampNeg = (upd v kw (lsr 200 ((v kw) + mn))) kw from by rw [nI_clamp (by omega)])) ?_
    exact x_ireturn C0 dX8_buys_42 rfl rfl (Nat.le_of_ble_eq_true rfl) (Nat.le_of_ble_eq_true rfl) ⟨rfl, _, _, _, rfl, hJ3, ⟨⟨⟨_, rfl⟩, tK.rf⟩, (Or.inl ⟨⟨ha1, hb1⟩, rfl, rfl, rfl⟩)⟩⟩
  · refine x_st (st1 := [.int 0]) rfl ?_
    refine x_if_ne 16 10 C0 dX8_buys_7 rfl (by decide) (fun q => False.elim (by revert q; decide)) (fun _ => ?_)
    refine x_aload_n 0 11 C0 dX8_buys_10 rfl rfl rfl ?_
    refine x_iconst (v := 2) 12 C0 dX8_buys_11 rfl (by decide) ?_
    refine x_callV 15 C0 (k_X8_fail l hl g _ _ n t v bf sv pa lb ip td sg hM hJ 2) dX8_buys_12 rfl mC_X8_fail mM_X8_47 mI_X8_fail mV_X8_fail mN_X8 yd_X8_fail rfl rfl ⟨Nat.le_of_ble_eq_true rfl, Nat.le_of_ble_eq_true rfl⟩ hM.o rfl rfl rfl rfl (Nat.le_of_ble_eq_true rfl) ⟨Nat.le_of_ble_eq_true rfl, Nat.le_of_ble_eq_true rfl⟩ (fun _ _ _ q => False.elim q) (fun r w1 sz1 hz hP => ?_)
    obtain ⟨rfl, rfl, rfl⟩ := hP
    have hJ5 : MJ n (upd t 1 2) v bf sv pa sg := (hJ.j_t (by decide))
    refine x_st (st1 := [.int 0]) rfl ?_
    exact x_ireturn C0 dX8_buys_15 rfl rfl (Nat.le_of_ble_eq_true rfl) (Nat.le_of_ble_eq_true rfl) ⟨rfl, _, _, _, rfl, hJ5, ⟨⟨⟨_, rfl⟩, (tK.rf.up (by decide))⟩, (Or.inr (⟨hx1, rfl⟩))⟩⟩

def R_X8_makes (t v : Nat → Int32) (si : Int32) (r : Option Value) (t' v' : Nat → Int32) : Prop :=
  (∃ (nC3 : Nat) (nq : Nat) (v1 : Nat → Int32), (1 ≤ si ∧ si ≤ 5) ∧ (v 3 = nI nC3) ∧ (nC3 ≤ 20) ∧ (¬ nI nC3 = 20) ∧ (v 3 = nI nq) ∧ (nq < 20) ∧ (∀ q, (q < 28 + 9 * nq ∨ 28 + 9 * nq + 9 ≤ q) → v1 q = v q) ∧ (∀ j, j < 9 → v1 (28 + 9 * nq + j) = 0) ∧ (t' 1 = t 1) ∧ (r = some (.int (nI nq))) ∧ (v' = (upd (upd (upd (upd v1 (28 + 9 * nq + 0) si) (28 + 9 * nq + 1) (-1)) (28 + 9 * nq + 2) (-1)) 3 (((upd (upd (upd v1 (28 + 9 * nq + 0) si) (28 + 9 * nq + 1) (-1)) (28 + 9 * nq + 2) (-1)) 3) + 1)))) ∨
  (∃ (nC3 : Nat), (1 ≤ si ∧ si ≤ 5) ∧ (v 3 = nI nC3) ∧ (nC3 ≤ 20) ∧ (nI nC3 = 20) ∧ (t' 1 = 3)) ∨
  ((¬ (1 ≤ si ∧ si ≤ 5)) ∧ (t' 1 = 2))
set_option maxHeartbeats 4000000 in
set_option maxRecDepth 100000 in
theorem k_X8_makes (l : Launch) (hl : l.stackTraces = false) (g : xg_T) (w : xw_T) (sz n : Nat) (t v bf sv pa lb ip td sg : Nat → Int32) (hM : MR g w t v bf sv pa lb ip td sg) (hJ : MJ n t v bf sv pa sg) (si : Int32) : xM l g yX8_makes cX8_makes 4 (some .int) ({ frames := 2, cells := 0, slots := 0, locals := 43 }) 0 0 [.ref (g.2 0 + 258), .int si] w sz (mX g w sz n bf sv pa ip td sg (fun r t' v' => mT t r t' v' ∧ R_X8_makes t v si r t' v')) (fun _ _ _ => False) := by
  refine xM.of RX8 hl (by decide +kernel) rfl (Nat.le_of_ble_eq_true rfl) rfl ?_
  intro p e s m args below meth cD C0 hini
  refine x_iload_n 1 1 C0 dX8_makes_0 rfl rfl rfl ?_
  refine x_iconst (v := 1) 2 C0 dX8_makes_1 rfl (by decide) ?_
  refine x_iconst (v := 5) 3 C0 dX8_makes_2 rfl (by decide) ?_
  refine x_callS 6 C0 (k_X8_isIn l hl g _ _ si 1 5) dX8_makes_3 rfl mC_X8_isIn mM_X8_67 mS_X8_isIn mN_X8 yd_X8_isIn rfl rfl ⟨Nat.le_of_ble_eq_true rfl, Nat.le_of_ble_eq_true rfl⟩ rfl rfl (Nat.le_of_ble_eq_true rfl) ⟨Nat.le_of_ble_eq_true rfl, Nat.le_of_ble_eq_true rfl⟩ (fun _ _ _ q => False.elim q) (fun r w1 sz1 hz hP => ?_)
  obtain ⟨hr, rfl, rfl⟩ := hP
  rcases hr with ⟨rfl, ha1, hb1⟩ | ⟨rfl, hx1⟩
  · refine x_st (st1 := [.int 1]) rfl ?_
    refine x_if_ne 15 9 C0 dX8_makes_6 rfl (by decide) (fun _ => ?_) (fun q => False.elim (by revert q; decide))
    refine x_aload_n 0 16 C0 dX8_makes_15 rfl rfl rfl ?_
    refine x_getf (v := .ref (g.2 0 + 258 + 1)) 8 19 C0 dX8_makes_16 rfl hM.o rfl (by decide) inX8 mF_X8_7 rfl ?_
    refine x_iconst (v := 3) 20 C0 dX8_makes_19 rfl (by decide) ?_
    refine x_iald 0 21 C0 dX8_makes_20 rfl hM.r_v rfl (vp_in_nI (n := 3) (by decide) (by decide)) ?_
    refine x_st (st1 := [.int (v 3)]) (congrArg (fun z => Value.int z :: _) (show v (nI 3).toNatClampNeg = v 3 from by rw [nI_clamp (by omega)])) ?_
    obtain ⟨nC3, hnC3, hv33⟩ := hJ.1.n
    refine x_st (st1 := [.int (nI nC3)]) (congrArg (fun z => Value.int z :: _) (hv33)) ?_
    refine x_bipush (v := 20) 23 C0 dX8_makes_21 rfl (by decide) ?_
    refine x_icmp_ne 34 26 C0 dX8_makes_23 rfl (by decide) (fun c4 => ?_) (fun c4 => ?_)
    · refine x_aload_n 0 35 C0 dX8_makes_34 rfl rfl rfl ?_
      refine x_getf (v := .ref (g.2 0 + 258 + 1)) 8 38 C0 dX8_makes_35 rfl hM.o rfl (by decide) inX8 mF_X8_7 rfl ?_
      refine x_iconst (v := 3) 39 C0 dX8_makes_38 rfl (by decide) ?_
      refine x_iald 0 40 C0 dX8_makes_39 rfl hM.r_v rfl (vp_in_nI (n := 3) (by decide) (by decide)) ?_
      refine x_st (st1 := [.int (v 3)]) (congrArg (fun z => Value.int z :: _) (show v (nI 3).toNatClampNeg = v 3 from by rw [nI_clamp (by omega)])) ?_
      refine x_st (st1 := [.int (nI nC3)]) (congrArg (fun z => Value.int z :: _) (hv33)) ?_
      refine x_istore_n [(2, .int (nI nC3)), (0, .ref (g.2 0 + 258)), (1, .int si)] 41 C0 dX8_makes_40 rfl rfl (by decide) rfl ?_
      refine x_lv (lv1 := [(0, .ref (g.2 0 + 258)), (1, .int si), (2, .int (nI nC3))]) [1, 2, 0] rfl ?_
      obtain ⟨nq, hnq, hq3⟩ : ∃ nq : Nat, nq < 20 ∧ nI nC3 = nI nq := ⟨nC3, Nat.lt_of_le_of_ne (by omega) (fun e => c4 (by rw [e]; rfl)), rfl⟩
      have hq4 : v 3 = nI nq := by rw [← hq3]; assumption
      rw [hq3]
      refine x_iconst (v := 0) 42 C0 dX8_makes_41 rfl (by decide) ?_
      refine x_istore_n [(3, .int 0), (0, .ref (g.2 0 + 258)), (1, .int si), (2, .int (nI nq))] 43 C0 dX8_makes_42 rfl rfl (by decide) rfl ?_
      refine x_lv (lv1 := [(0, .ref (g.2 0 + 258)), (1, .int si), (2, .int (nI nq)), (3, .int 0)]) [1, 2, 3, 0] rfl ?_
      refine x_w (MW_self hM) ?_
      have loop43 : ∀ (N i : Nat) (v1 : Nat → Int32), i ≤ 9 → 9 - i < N → ((∀ q, (q < 28 + 9 * nq ∨ 28 + 9 * nq + 9 ≤ q) → v1 q = v q) ∧ ∀ j, j < i → v1 (28 + 9 * nq + j) = 0) → xV p l e ({ frames := 2, cells := 0, slots := 0, locals := 43 }) s m args below meth cD (xQ g below (mX g w sz n bf sv pa ip td sg (fun r t' v' => mT t r t' v' ∧ R_X8_makes t v si r t' v')) (fun _ _ _ => False) args s 0 0) g 4 (MW g w t v1 bf sv pa lb ip td sg) sz (0 + 0) (0 + 0) 43 [(0, .ref (g.2 0 + 258)), (1, .int si), (2, .int (nI nq)), (3, .int (nI i))] [] := by
        intro N
        induction N with
        | zero => intro i v1 h1 h2; omega
        | succ N ih =>
          intro i v1 hi hN hV
          refine x_iload_n 3 44 C0 dX8_makes_43 rfl rfl rfl ?_
          refine x_bipush (v := 9) 46 C0 dX8_makes_44 rfl (by decide) ?_
          refine x_icmp_ge 66 49 C0 dX8_makes_46 rfl (by decide) (fun c5 => ?_) (fun c5 => ?_)
          · have hI := ix_eq 9 rfl (by decide) hi c5
            subst hI
            refine x_aload_n 0 67 C0 dX8_makes_66 rfl rfl rfl ?_
            refine x_getf (v := .ref (g.2 0 + 258 + 1)) 8 70 C0 dX8_makes_67 rfl MR_MW.o rfl (by decide) inX8 mF_X8_7 rfl ?_
            refine x_iload_n 2 71 C0 dX8_makes_70 rfl rfl rfl ?_
            refine x_iconst (v := 0) 72 C0 dX8_makes_71 rfl (by decide) ?_
            refine x_callS 75 C0 (k_X8_at l hl g _ _ (nI nq) 0) dX8_makes_72 rfl mC_X8_at mM_X8_71 mS_X8_at mN_X8 yd_X8_at rfl rfl ⟨Nat.le_of_ble_eq_true rfl, Nat.le_of_ble_eq_true rfl⟩ rfl rfl (Nat.le_of_ble_eq_true rfl) ⟨Nat.le_of_ble_eq_true rfl, Nat.le_of_ble_eq_true rfl⟩ (fun _ _ _ q => False.elim q) (fun r w1 sz1 hz hP => ?_)
            obtain ⟨rfl, rfl, rfl⟩ := hP
            refine x_st (st1 := [.int (nI (28 + 9 * nq + 0)), .ref (g.2 0 + 258 + 1)]) (congrArg (fun z => Value.int z :: _) (at_nI 28 9 nq 0)) ?_
            refine x_iload_n 1 76 C0 dX8_makes_75 rfl rfl rfl ?_
            refine x_iast 0 77 C0 dX8_makes_76 rfl MR_MW.r_v (by show g.2 0 ≤ _; omega) rfl (vp_in_nI (n := 28 + 9 * nq + 0) (by omega) (by decide)) ?_
            refine x_w (w1 := (MW g w t (upd v1 (28 + 9 * nq + 0) si) bf sv pa lb ip td sg)) (by rw [show (nI (28 + 9 * nq + 0) : Int32).toNatClampNeg = (28 + 9 * nq + 0) from nI_clamp (n := 28 + 9 * nq + 0) (by omega)]; exact MW_v) ?_
            refine x_aload_n 0 78 C0 dX8_makes_77 rfl rfl rfl ?_
            refine x_getf (v := .ref (g.2 0 + 258 + 1)) 8 81 C0 dX8_makes_78 rfl MR_MW.o rfl (by decide) inX8 mF_X8_7 rfl ?_
            refine x_iload_n 2 82 C0 dX8_makes_81 rfl rfl rfl ?_
            refine x_iconst (v := 1) 83 C0 dX8_makes_82 rfl (by decide) ?_
            refine x_callS 86 C0 (k_X8_at l hl g _ _ (nI nq) 1) dX8_makes_83 rfl mC_X8_at mM_X8_71 mS_X8_at mN_X8 yd_X8_at rfl rfl ⟨Nat.le_of_ble_eq_true rfl, Nat.le_of_ble_eq_true rfl⟩ rfl rfl (Nat.le_of_ble_eq_true rfl) ⟨Nat.le_of_ble_eq_true rfl, Nat.le_of_ble_eq_true rfl⟩ (fun _ _ _ q => False.elim q) (fun r w1 sz1 hz hP => ?_)
            obtain ⟨rfl, rfl, rfl⟩ := hP
            refine x_st (st1 := [.int (nI (28 + 9 * nq + 1)), .ref (g.2 0 + 258 + 1)]) (congrArg (fun z => Value.int z :: _) (at_nI 28 9 nq 1)) ?_
            refine x_iconst (v := (-1)) 87 C0 dX8_makes_86 rfl (by decide) ?_
            refine x_iast 0 88 C0 dX8_makes_87 rfl MR_MW.r_v (by show g.2 0 ≤ _; omega) rfl (vp_in_nI (n := 28 + 9 * nq + 1) (by omega) (by decide)) ?_
            refine x_w (w1 := (MW g w t (upd (upd v1 (28 + 9 * nq + 0) si) (28 + 9 * nq + 1) (-1)) bf sv pa lb ip td sg)) (by rw [show (nI (28 + 9 * nq + 1) : Int32).toNatClampNeg = (28 + 9 * nq + 1) from nI_clamp (n := 28 + 9 * nq + 1) (by omega)]; exact MW_v) ?_
            refine x_aload_n 0 89 C0 dX8_makes_88 rfl rfl rfl ?_
            refine x_getf (v := .ref (g.2 0 + 258 + 1)) 8 92 C0 dX8_makes_89 rfl MR_MW.o rfl (by decide) inX8 mF_X8_7 rfl ?_
            refine x_iload_n 2 93 C0 dX8_makes_92 rfl rfl rfl ?_
            refine x_iconst (v := 2) 94 C0 dX8_makes_93 rfl (by decide) ?_
            refine x_callS 97 C0 (k_X8_at l hl g _ _ (nI nq) 2) dX8_makes_94 rfl mC_X8_at mM_X8_71 mS_X8_at mN_X8 yd_X8_at rfl rfl ⟨Nat.le_of_ble_eq_true rfl, Nat.le_of_ble_eq_true rfl⟩ rfl rfl (Nat.le_of_ble_eq_true rfl) ⟨Nat.le_of_ble_eq_true rfl, Nat.le_of_ble_eq_true rfl⟩ (fun _ _ _ q => False.elim q) (fun r w1 sz1 hz hP => ?_)
            obtain ⟨rfl, rfl, rfl⟩ := hP
            refine x_st (st1 := [.int (nI (28 + 9 * nq + 2)), .ref (g.2 0 + 258 + 1)]) (congrArg (fun z => Value.int z :: _) (at_nI 28 9 nq 2)) ?_
            refine x_iconst (v := (-1)) 98 C0 dX8_makes_97 rfl (by decide) ?_
            refine x_iast 0 99 C0 dX8_makes_98 rfl MR_MW.r_v (by show g.2 0 ≤ _; omega) rfl (vp_in_nI (n := 28 + 9 * nq + 2) (by omega) (by decide)) ?_
            refine x_w (w1 := (MW g w t (upd (upd (upd v1 (28 + 9 * nq + 0) si) (28 + 9 * nq + 1) (-1)) (28 + 9 * nq + 2) (-1)) bf sv pa lb ip td sg)) (by rw [show (nI (28 + 9 * nq + 2) : Int32).toNatClampNeg = (28 + 9 * nq + 2) from nI_clamp (n := 28 + 9 * nq + 2) (by omega)]; exact MW_v) ?_
            refine x_aload_n 0 100 C0 dX8_makes_99 rfl rfl rfl ?_
            refine x_getf (v := .ref (g.2 0 + 258 + 1)) 8 103 C0 dX8_makes_100 rfl MR_MW.o rfl (by decide) inX8 mF_X8_7 rfl ?_
            refine x_iconst (v := 3) 104 C0 dX8_makes_103 rfl (by decide) ?_
            refine x_dup2 105 C0 dX8_makes_104 rfl rfl rfl ?_
            refine x_iald 0 106 C0 dX8_makes_105 rfl MR_MW.r_v rfl (vp_in_nI (n := 3) (by decide) (by decide)) ?_
            refine x_st (st1 := [.int ((upd (upd (upd v1 (28 + 9 * nq + 0) si) (28 + 9 * nq + 1) (-1)) (28 + 9 * nq + 2) (-1)) 3), .int 3, .ref (g.2 0 + 258 + 1)]) (congrArg (fun z => Value.int z :: _) (show (upd (upd (upd v1 (28 + 9 * nq + 0) si) (28 + 9 * nq + 1) (-1)) (28 + 9 * nq + 2) (-1)) (nI 3).toNatClampNeg = (upd (upd (upd v1 (28 + 9 * nq + 0) si) (28 + 9 * nq + 1) (-1)) (28 + 9 * nq + 2) (-1)) 3 from by rw [nI_clamp (by omega)])) ?_
            refine x_iconst (v := 1) 107 C0 dX8_makes_106 rfl (by decide) ?_
            refine x_iadd 108 C0 dX8_makes_107 rfl ?_
            refine x_iast 0 109 C0 dX8_makes_108 rfl MR_MW.r_v (by show g.2 0 ≤ _; omega) rfl (vp_in_nI (n := 3) (by omega) (by decide)) ?_
            refine x_w (w1 := (MW g w t (upd (upd (upd (upd v1 (28 + 9 * nq + 0) si) (28 + 9 * nq + 1) (-1)) (28 + 9 * nq + 2) (-1)) 3 (((upd (upd (upd v1 (28 + 9 * nq + 0) si) (28 + 9 * nq + 1) (-1)) (28 + 9 * nq + 2) (-1)) 3) + 1)) bf sv pa lb ip td sg)) (by rw [show (3 : Int32).toNatClampNeg = 3 from nI_clamp (n := 3) (by omega)]; exact MW_v) ?_
            have hJ9 : MJ n t (upd (upd (upd (upd v1 (28 + 9 * nq + 0) si) (28 + 9 * nq + 1) (-1)) (28 + 9 * nq + 2) (-1)) 3 (((upd (upd (upd v1 (28 + 9 * nq + 0) si) (28 + 9 * nq + 1) (-1)) (28 + 9 * nq + 2) (-1)) 3) + 1)) bf sv pa sg := hJ.j_v (hJ.1.row hnq ⟨nq + 1, by omega, (if_pos rfl).trans (by show (upd (upd (upd v1 _ _) _ _) _ _) 3 + 1 = nI (nq + 1); unfold upd; rw [if_neg (by omega), if_neg (by omega), if_neg (by omega), hV.1 3 (by omega), hq4]; exact nI_1 nq)⟩ (fun q q1 q2 => by unfold upd; rw [if_neg (by omega), if_neg (by omega), if_neg (by omega), if_neg (by omega)]; exact hV.1 q (by omega)) ⟨Or.inl (by unfold upd; rw [if_neg (by omega), if_neg (by omega), if_neg (by omega), if_neg (by omega)]; exact hV.2 3 (by omega)), Or.inl (by unfold upd; rw [if_neg (by omega), if_neg (by omega), if_neg (by omega), if_neg (by omega)]; exact hV.2 8 (by omega))⟩)
            refine x_iload_n 2 110 C0 dX8_makes_109 rfl rfl rfl ?_
            exact x_ireturn C0 dX8_makes_110 rfl rfl (Nat.le_of_ble_eq_true rfl) (Nat.le_of_ble_eq_true rfl) ⟨rfl, _, _, _, rfl, hJ9, ⟨⟨⟨_, rfl⟩, tK.rf⟩, (Or.inl ⟨nC3, nq, v1, ⟨ha1, hb1⟩, hv33, hnC3, c4, hq4, hnq, hV.1, hV.2, rfl, rfl, rfl⟩)⟩⟩
          · have hi2 := ix_lt 9 rfl (by decide) hi c5
            refine x_aload_n 0 50 C0 dX8_makes_49 rfl rfl rfl ?_
            refine x_getf (v := .ref (g.2 0 + 258 + 1)) 8 53 C0 dX8_makes_50 rfl MR_MW.o rfl (by decide) inX8 mF_X8_7 rfl ?_
            refine x_iload_n 2 54 C0 dX8_makes_53 rfl rfl rfl ?_
            refine x_iload_n 3 55 C0 dX8_makes_54 rfl rfl rfl ?_
            refine x_callS 58 C0 (k_X8_at l hl g _ _ (nI nq) (nI i)) dX8_makes_55 rfl mC_X8_at mM_X8_71 mS_X8_at mN_X8 yd_X8_at rfl rfl ⟨Nat.le_of_ble_eq_true rfl, Nat.le_of_ble_eq_true rfl⟩ rfl rfl (Nat.le_of_ble_eq_true rfl) ⟨Nat.le_of_ble_eq_true rfl, Nat.le_of_ble_eq_true rfl⟩ (fun _ _ _ q => False.elim q) (fun r w1 sz1 hz hP => ?_)
            obtain ⟨rfl, rfl, rfl⟩ := hP
            refine x_st (st1 := [.int (nI (28 + 9 * nq + i)), .ref (g.2 0 + 258 + 1)]) (congrArg (fun z => Value.int z :: _) (at_nI 28 9 nq i)) ?_
            refine x_iconst (v := 0) 59 C0 dX8_makes_58 rfl (by decide) ?_
            refine x_iast 0 60 C0 dX8_makes_59 rfl MR_MW.r_v (by show g.2 0 ≤ _; omega) rfl (vp_in_nI (n := 28 + 9 * nq + i) (by omega) (by decide)) ?_
            refine x_w (w1 := (MW g w t (upd v1 (28 + 9 * nq + i) 0) bf sv pa lb ip td sg)) (by rw [show (nI (28 + 9 * nq + i) : Int32).toNatClampNeg = (28 + 9 * nq + i) from nI_clamp (n := 28 + 9 * nq + i) (by omega)]; exact MW_v) ?_
            refine x_iinc [(3, .int (nI (i + 1))), (0, .ref (g.2 0 + 258)), (1, .int si), (2, .int (nI nq))] 3 63 C0 dX8_makes_60 rfl rfl (nI_1 i) (by decide) rfl ?_
            refine x_lv (lv1 := [(0, .ref (g.2 0 + 258)), (1, .int si), (2, .int (nI nq)), (3, .int (nI (i + 1)))]) [1, 2, 3, 0] rfl ?_
            refine x_goto 43 C0 dX8_makes_63 (by decide) ?_
            exact x_lv [0, 1, 2, 3] rfl (ih (i + 1) _ (by omega) (by omega) ⟨fun q hq => by
                unfold upd
                rw [if_neg (by omega)]; exact hV.1 q hq, fun j hj => by
                unfold upd
                by_cases e : j = i
                · rw [if_pos (by omega)]
                · rw [if_neg (by omega)]; exact hV.2 j (by omega)⟩)
      exact x_lv [0, 1, 2, 3] rfl (loop43 10 0 _ (by omega) (by omega) ⟨fun q _ => rfl, fun j hj => absurd hj (by omega)⟩)
    · refine x_aload_n 0 27 C0 dX8_makes_26 rfl rfl rfl ?_
      refine x_iconst (v := 1) 28 C0 dX8_makes_27 rfl (by decide) ?_
      refine x_bipush (v := 20) 30 C0 dX8_makes_28 rfl (by decide) ?_
      refine x_callV 33 C0 (k_X8_refuses l hl g _ _ n t v bf sv pa lb ip td sg hM hJ 1 20) dX8_makes_30 rfl mC_X8_refuses mM_X8_82 mI_X8_refuses mV_X8_refuses mN_X8 yd_X8_refuses rfl rfl ⟨Nat.le_of_ble_eq_true rfl, Nat.le_of_ble_eq_true rfl⟩ hM.o rfl rfl rfl rfl (Nat.le_of_ble_eq_true rfl) ⟨Nat.le_of_ble_eq_true rfl, Nat.le_of_ble_eq_true rfl⟩ (fun _ _ _ q => False.elim q) (fun r w1 sz1 hz hP => ?_)
      obtain ⟨rfl, rfl, rfl⟩ := hP
      have hJ11 : MJ n (upd (upd (upd t 5 1) 6 20) 1 3) v bf sv pa sg := (((hJ.j_t (by decide)).j_t (by decide)).j_t (by decide))
      refine x_st (st1 := [.int 0]) rfl ?_
      exact x_ireturn C0 dX8_makes_33 rfl rfl (Nat.le_of_ble_eq_true rfl) (Nat.le_of_ble_eq_true rfl) ⟨rfl, _, _, _, rfl, hJ11, ⟨⟨⟨_, rfl⟩, (((tK.rf.up (by decide)).up (by decide)).up (by decide))⟩, (Or.inr (Or.inl ⟨nC3, ⟨ha1, hb1⟩, hv33, hnC3, c4, rfl⟩))⟩⟩
  · refine x_st (st1 := [.int 0]) rfl ?_
    refine x_if_ne 15 9 C0 dX8_makes_6 rfl (by decide) (fun q => False.elim (by revert q; decide)) (fun _ => ?_)
    refine x_aload_n 0 10 C0 dX8_makes_9 rfl rfl rfl ?_
    refine x_iconst (v := 2) 11 C0 dX8_makes_10 rfl (by decide) ?_
    refine x_callV 14 C0 (k_X8_fail l hl g _ _ n t v bf sv pa lb ip td sg hM hJ 2) dX8_makes_11 rfl mC_X8_fail mM_X8_47 mI_X8_fail mV_X8_fail mN_X8 yd_X8_fail rfl rfl ⟨Nat.le_of_ble_eq_true rfl, Nat.le_of_ble_eq_true rfl⟩ hM.o rfl rfl rfl rfl (Nat.le_of_ble_eq_true rfl) ⟨Nat.le_of_ble_eq_true rfl, Nat.le_of_ble_eq_true rfl⟩ (fun _ _ _ q => False.elim q) (fun r w1 sz1 hz hP => ?_)
    obtain ⟨rfl, rfl, rfl⟩ := hP
    have hJ13 : MJ n (upd t 1 2) v bf sv pa sg := (hJ.j_t (by decide))
    refine x_st (st1 := [.int 0]) rfl ?_
    exact x_ireturn C0 dX8_makes_14 rfl rfl (Nat.le_of_ble_eq_true rfl) (Nat.le_of_ble_eq_true rfl) ⟨rfl, _, _, _, rfl, hJ13, ⟨⟨⟨_, rfl⟩, (tK.rf.up (by decide))⟩, (Or.inr (Or.inr (⟨hx1, rfl⟩)))⟩⟩

def R_X8_linesChest (t v : Nat → Int32) (cn : Int32) (r : Option Value) (t' v' : Nat → Int32) : Prop :=
  (∃ (kc : Nat), (cn = nI kc) ∧ (nI kc < v 3) ∧ (kc < 20) ∧ (v (28 + 9 * kc + 7) = 0) ∧ (v (28 + 9 * kc + 5) = 0) ∧ (¬ v (28 + 9 * kc + 4) = 1) ∧ (2 * (v (28 + 9 * kc + 0)) ≤ v 1) ∧ (t' 1 = t 1) ∧ (r = some (.int ((upd (upd v 1 ((v 1) - (2 * (v (28 + 9 * kc + 0))))) (28 + 9 * kc + 4) 1) 1))) ∧ (v' = (upd (upd v 1 ((v 1) - (2 * (v (28 + 9 * kc + 0))))) (28 + 9 * kc + 4) 1))) ∨
  (∃ (kc : Nat), (cn = nI kc) ∧ (nI kc < v 3) ∧ (kc < 20) ∧ (v (28 + 9 * kc + 7) = 0) ∧ (v (28 + 9 * kc + 5) = 0) ∧ (¬ v (28 + 9 * kc + 4) = 1) ∧ (¬ (2 * (v (28 + 9 * kc + 0)) ≤ v 1)) ∧ (t' 1 = 3)) ∨
  (∃ (kc : Nat), (cn = nI kc) ∧ (nI kc < v 3) ∧ (kc < 20) ∧ (v (28 + 9 * kc + 7) = 0) ∧ (v (28 + 9 * kc + 5) = 0) ∧ (v (28 + 9 * kc + 4) = 1) ∧ (t' 1 = 3)) ∨
  (∃ (kc : Nat) (t2 : Nat → Int32), (cn = nI kc) ∧ (nI kc < v 3) ∧ (kc < 20) ∧ (¬ (v (28 + 9 * kc + 7) = 0 ∧ v (28 + 9 * kc + 5) = 0)) ∧ (t2 1 = 3) ∧ (t' 1 = 3)) ∨
  ((¬ (0 ≤ cn ∧ cn < v 3)) ∧ (t' 1 = 1))
set_option maxHeartbeats 4000000 in
set_option maxRecDepth 100000 in
theorem k_X8_linesChest (l : Launch) (hl : l.stackTraces = false) (g : xg_T) (w : xw_T) (sz n : Nat) (t v bf sv pa lb ip td sg : Nat → Int32) (hM : MR g w t v bf sv pa lb ip td sg) (hJ : MJ n t v bf sv pa sg) (cn : Int32) : xM l g yX8_linesChest cX8_linesChest 3 (some .int) ({ frames := 3, cells := 0, slots := 0, locals := 65 }) 0 0 [.ref (g.2 0 + 258), .int cn] w sz (mX g w sz n bf sv pa ip td sg (fun r t' v' => mT t r t' v' ∧ R_X8_linesChest t v cn r t' v')) (fun _ _ _ => False) := by
  refine xM.of RX8 hl (by decide +kernel) rfl (Nat.le_of_ble_eq_true rfl) rfl ?_
  intro p e s m args below meth cD C0 hini
  refine x_aload_n 0 1 C0 dX8_linesChest_0 rfl rfl rfl ?_
  refine x_iload_n 1 2 C0 dX8_linesChest_1 rfl rfl rfl ?_
  refine x_callV 5 C0 (k_X8_isChest l hl g _ _ n t v bf sv pa lb ip td sg hM hJ cn) dX8_linesChest_2 rfl mC_X8_isChest mM_X8_108 mI_X8_isChest mV_X8_isChest mN_X8 yd_X8_isChest rfl rfl ⟨Nat.le_of_ble_eq_true rfl, Nat.le_of_ble_eq_true rfl⟩ hM.o rfl rfl rfl rfl (Nat.le_of_ble_eq_true rfl) ⟨Nat.le_of_ble_eq_true rfl, Nat.le_of_ble_eq_true rfl⟩ (fun _ _ _ q => False.elim q) (fun r w1 sz1 hz hP => ?_)
  obtain ⟨hr, rfl, rfl⟩ := hP
  rcases hr with ⟨⟨kc, hkc, hkv, hk3⟩, rfl⟩ | ⟨rfl, hkn⟩
  · subst hkv
    refine x_st (st1 := [.int 1]) rfl ?_
    refine x_if_ne 14 8 C0 dX8_linesChest_5 rfl (by decide) (fun _ => ?_) (fun q => False.elim (by revert q; decide))
    refine x_aload_n 0 15 C0 dX8_linesChest_14 rfl rfl rfl ?_
    refine x_iload_n 1 16 C0 dX8_linesChest_15 rfl rfl rfl ?_
    refine x_callV 19 C0 (k_X8_isShut l hl g _ _ n t v bf sv pa lb ip td sg hM hJ kc (by omega)) dX8_linesChest_16 rfl mC_X8_isShut mM_X8_112 mI_X8_isShut mV_X8_isShut mN_X8 yd_X8_isShut rfl rfl ⟨Nat.le_of_ble_eq_true rfl, Nat.le_of_ble_eq_true rfl⟩ hM.o rfl rfl rfl rfl (Nat.le_of_ble_eq_true rfl) ⟨Nat.le_of_ble_eq_true rfl, Nat.le_of_ble_eq_true rfl⟩ (fun _ _ _ q => False.elim q) (fun r w1 sz1 hz hP => ?_)
    obtain ⟨rfl, hr⟩ := hP
    rcases hr with ⟨rfl, hs72, hs52, rfl⟩ | ⟨rfl, hsn2, t2, rfl, hJ2, he2, h12⟩
    · refine x_st (st1 := [.int 0]) rfl ?_
      refine x_if_eq 24 22 C0 dX8_linesChest_19 rfl (by decide) (fun _ => ?_) (fun q => False.elim (by revert q; decide))
      refine x_aload_n 0 25 C0 dX8_linesChest_24 rfl rfl rfl ?_
      refine x_getf (v := .ref (g.2 0 + 258 + 1)) 8 28 C0 dX8_linesChest_25 rfl hM.o rfl (by decide) inX8 mF_X8_7 rfl ?_
      refine x_iload_n 1 29 C0 dX8_linesChest_28 rfl rfl rfl ?_
      refine x_iconst (v := 0) 30 C0 dX8_linesChest_29 rfl (by decide) ?_
      refine x_callS 33 C0 (k_X8_at l hl g _ _ (nI kc) 0) dX8_linesChest_30 rfl mC_X8_at mM_X8_71 mS_X8_at mN_X8 yd_X8_at rfl rfl ⟨Nat.le_of_ble_eq_true rfl, Nat.le_of_ble_eq_true rfl⟩ rfl rfl (Nat.le_of_ble_eq_true rfl) ⟨Nat.le_of_ble_eq_true rfl, Nat.le_of_ble_eq_true rfl⟩ (fun _ _ _ q => False.elim q) (fun r w1 sz1 hz hP => ?_)
      obtain ⟨rfl, rfl, rfl⟩ := hP
      refine x_st (st1 := [.int (nI (28 + 9 * kc + 0)), .ref (g.2 0 + 258 + 1)]) (congrArg (fun z => Value.int z :: _) (at_nI 28 9 kc 0)) ?_
      refine x_iald 0 34 C0 dX8_linesChest_33 rfl hM.r_v rfl (vp_in_nI (n := 28 + 9 * kc + 0) (by omega) (by decide)) ?_
      refine x_st (st1 := [.int (v (28 + 9 * kc + 0))]) (congrArg (fun z => Value.int z :: _) (show v (nI (28 + 9 * kc + 0)).toNatClampNeg = v (28 + 9 * kc + 0) from by rw [nI_clamp (by omega)])) ?_
      refine x_istore_n [(2, .int (v (28 + 9 * kc + 0))), (0, .ref (g.2 0 + 258)), (1, .int (nI kc))] 35 C0 dX8_linesChest_34 rfl rfl (by decide) rfl ?_
      refine x_lv (lv1 := [(0, .ref (g.2 0 + 258)), (1, .int (nI kc)), (2, .int (v (28 + 9 * kc + 0)))]) [1, 2, 0] rfl ?_
      refine x_aload_n 0 36 C0 dX8_linesChest_35 rfl rfl rfl ?_
      refine x_getf (v := .ref (g.2 0 + 258 + 1)) 8 39 C0 dX8_linesChest_36 rfl hM.o rfl (by decide) inX8 mF_X8_7 rfl ?_
      refine x_iload_n 1 40 C0 dX8_linesChest_39 rfl rfl rfl ?_
      refine x_iconst (v := 4) 41 C0 dX8_linesChest_40 rfl (by decide) ?_
      refine x_callS 44 C0 (k_X8_at l hl g _ _ (nI kc) 4) dX8_linesChest_41 rfl mC_X8_at mM_X8_71 mS_X8_at mN_X8 yd_X8_at rfl rfl ⟨Nat.le_of_ble_eq_true rfl, Nat.le_of_ble_eq_true rfl⟩ rfl rfl (Nat.le_of_ble_eq_true rfl) ⟨Nat.le_of_ble_eq_true rfl, Nat.le_of_ble_eq_true rfl⟩ (fun _ _ _ q => False.elim q) (fun r w1 sz1 hz hP => ?_)
      obtain ⟨rfl, rfl, rfl⟩ := hP
      refine x_st (st1 := [.int (nI (28 + 9 * kc + 4)), .ref (g.2 0 + 258 + 1)]) (congrArg (fun z => Value.int z :: _) (at_nI 28 9 kc 4)) ?_
      refine x_iald 0 45 C0 dX8_linesChest_44 rfl hM.r_v rfl (vp_in_nI (n := 28 + 9 * kc + 4) (by omega) (by decide)) ?_
      refine x_st (st1 := [.int (v (28 + 9 * kc + 4))]) (congrArg (fun z => Value.int z :: _) (show v (nI (28 + 9 * kc + 4)).toNatClampNeg = v (28 + 9 * kc + 4) from by rw [nI_clamp (by omega)])) ?_
      refine x_iconst (v := 1) 46 C0 dX8_linesChest_45 rfl (by decide) ?_
      refine x_icmp_ne 56 49 C0 dX8_linesChest_46 rfl (by decide) (fun c4 => ?_) (fun c4 => ?_)
      · refine x_aload_n 0 57 C0 dX8_linesChest_56 rfl rfl rfl ?_
        refine x_getf (v := .ref (g.2 0 + 258 + 1)) 8 60 C0 dX8_linesChest_57 rfl hM.o rfl (by decide) inX8 mF_X8_7 rfl ?_
        refine x_iconst (v := 1) 61 C0 dX8_linesChest_60 rfl (by decide) ?_
        refine x_iald 0 62 C0 dX8_linesChest_61 rfl hM.r_v rfl (vp_in_nI (n := 1) (by decide) (by decide)) ?_
        refine x_st (st1 := [.int (v 1)]) (congrArg (fun z => Value.int z :: _) (show v (nI 1).toNatClampNeg = v 1 from by rw [nI_clamp (by omega)])) ?_
        refine x_iconst (v := 2) 63 C0 dX8_linesChest_62 rfl (by decide) ?_
        refine x_iload_n 2 64 C0 dX8_linesChest_63 rfl rfl rfl ?_
        refine x_imul 65 C0 dX8_linesChest_64 rfl ?_
        refine x_icmp_ge 81 68 C0 dX8_linesChest_65 rfl (by decide) (fun c5 => ?_) (fun c5 => ?_)
        · have c5' := Int32.not_lt.mpr c5
          refine x_aload_n 0 82 C0 dX8_linesChest_81 rfl rfl rfl ?_
          refine x_getf (v := .ref (g.2 0 + 258 + 1)) 8 85 C0 dX8_linesChest_82 rfl hM.o rfl (by decide) inX8 mF_X8_7 rfl ?_
          refine x_iconst (v := 1) 86 C0 dX8_linesChest_85 rfl (by decide) ?_
          refine x_dup2 87 C0 dX8_linesChest_86 rfl rfl rfl ?_
          refine x_iald 0 88 C0 dX8_linesChest_87 rfl hM.r_v rfl (vp_in_nI (n := 1) (by decide) (by decide)) ?_
          refine x_st (st1 := [.int (v 1), .int 1, .ref (g.2 0 + 258 + 1)]) (congrArg (fun z => Value.int z :: _) (show v (nI 1).toNatClampNeg = v 1 from by rw [nI_clamp (by omega)])) ?_
          refine x_iconst (v := 2) 89 C0 dX8_linesChest_88 rfl (by decide) ?_
          refine x_iload_n 2 90 C0 dX8_linesChest_89 rfl rfl rfl ?_
          refine x_imul 91 C0 dX8_linesChest_90 rfl ?_
          refine x_isub 92 C0 dX8_linesChest_91 rfl ?_
          refine x_w (MW_self hM) ?_
          refine x_iast 0 93 C0 dX8_linesChest_92 rfl MR_MW.r_v (by show g.2 0 ≤ _; omega) rfl (vp_in_nI (n := 1) (by omega) (by decide)) ?_
          refine x_w (w1 := (MW g w t (upd v 1 ((v 1) - (2 * (v (28 + 9 * kc + 0))))) bf sv pa lb ip td sg)) (by rw [show (1 : Int32).toNatClampNeg = 1 from nI_clamp (n := 1) (by omega)]; exact MW_v) ?_
          have hJ6 : MJ n t (upd v 1 ((v 1) - (2 * (v (28 + 9 * kc + 0))))) bf sv pa sg := hJ.j_v (hJ.1.up (Or.inl (by decide)))
          refine x_aload_n 0 94 C0 dX8_linesChest_93 rfl rfl rfl ?_
          refine x_getf (v := .ref (g.2 0 + 258 + 1)) 8 97 C0 dX8_linesChest_94 rfl MR_MW.o rfl (by decide) inX8 mF_X8_7 rfl ?_
          refine x_iload_n 1 98 C0 dX8_linesChest_97 rfl rfl rfl ?_
          refine x_iconst (v := 4) 99 C0 dX8_linesChest_98 rfl (by decide) ?_
          refine x_callS 102 C0 (k_X8_at l hl g _ _ (nI kc) 4) dX8_linesChest_99 rfl mC_X8_at mM_X8_71 mS_X8_at mN_X8 yd_X8_at rfl rfl ⟨Nat.le_of_ble_eq_true rfl, Nat.le_of_ble_eq_true rfl⟩ rfl rfl (Nat.le_of_ble_eq_true rfl) ⟨Nat.le_of_ble_eq_true rfl, Nat.le_of_ble_eq_true rfl⟩ (fun _ _ _ q => False.elim q) (fun r w1 sz1 hz hP => ?_)
          obtain ⟨rfl, rfl, rfl⟩ := hP
          refine x_st (st1 := [.int (nI (28 + 9 * kc + 4)), .ref (g.2 0 + 258 + 1)]) (congrArg (fun z => Value.int z :: _) (at_nI 28 9 kc 4)) ?_
          refine x_iconst (v := 1) 103 C0 dX8_linesChest_102 rfl (by decide) ?_
          refine x_iast 0 104 C0 dX8_linesChest_103 rfl MR_MW.r_v (by show g.2 0 ≤ _; omega) rfl (vp_in_nI (n := 28 + 9 * kc + 4) (by omega) (by decide)) ?_
          refine x_w (w1 := (MW g w t (upd (upd v 1 ((v 1) - (2 * (v (28 + 9 * kc + 0))))) (28 + 9 * kc + 4) 1) bf sv pa lb ip td sg)) (by rw [show (nI (28 + 9 * kc + 4) : Int32).toNatClampNeg = (28 + 9 * kc + 4) from nI_clamp (n := 28 + 9 * kc + 4) (by omega)]; exact MW_v) ?_
          have hJ7 : MJ n t (upd (upd v 1 ((v 1) - (2 * (v (28 + 9 * kc + 0))))) (28 + 9 * kc + 4) 1) bf sv pa sg := hJ6.j_v (hJ6.1.up (Or.inr ⟨kc, 4, by omega, by decide, rfl⟩))
          refine x_aload_n 0 105 C0 dX8_linesChest_104 rfl rfl rfl ?_
          refine x_getf (v := .ref (g.2 0 + 258 + 1)) 8 108 C0 dX8_linesChest_105 rfl MR_MW.o rfl (by decide) inX8 mF_X8_7 rfl ?_
          refine x_iconst (v := 1) 109 C0 dX8_linesChest_108 rfl (by decide) ?_
          refine x_iald 0 110 C0 dX8_linesChest_109 rfl MR_MW.r_v rfl (vp_in_nI (n := 1) (by decide) (by decide)) ?_
          refine x_st (st1 := [.int ((upd (upd v 1 ((v 1) - (2 * (v (28 + 9 * kc + 0))))) (28 + 9 * kc + 4) 1) 1)]) (congrArg (fun z => Value.int z :: _) (show (upd (upd v 1 ((v 1) - (2 * (v (28 + 9 * kc + 0))))) (28 + 9 * kc + 4) 1) (nI 1).toNatClampNeg = (upd (upd v 1 ((v 1) - (2 * (v (28 + 9 * kc + 0))))) (28 + 9 * kc + 4) 1) 1 from by rw [nI_clamp (by omega)])) ?_
          exact x_ireturn C0 dX8_linesChest_110 rfl rfl (Nat.le_of_ble_eq_true rfl) (Nat.le_of_ble_eq_true rfl) ⟨rfl, _, _, _, rfl, hJ7, ⟨⟨⟨_, rfl⟩, tK.rf⟩, (Or.inl ⟨kc, rfl, hk3, hkc, hs72, hs52, c4, c5, rfl, rfl, rfl⟩)⟩⟩
        · have c5' := Int32.not_le.mp c5
          refine x_aload_n 0 69 C0 dX8_linesChest_68 rfl rfl rfl ?_
          refine x_bipush (v := 6) 71 C0 dX8_linesChest_69 rfl (by decide) ?_
          refine x_aload_n 0 72 C0 dX8_linesChest_71 rfl rfl rfl ?_
          refine x_getf (v := .ref (g.2 0 + 258 + 1)) 8 75 C0 dX8_linesChest_72 rfl hM.o rfl (by decide) inX8 mF_X8_7 rfl ?_
          refine x_iconst (v := 1) 76 C0 dX8_linesChest_75 rfl (by decide) ?_
          refine x_iald 0 77 C0 dX8_linesChest_76 rfl hM.r_v rfl (vp_in_nI (n := 1) (by decide) (by decide)) ?_
          refine x_st (st1 := [.int (v 1), .int 6, .ref (g.2 0 + 258)]) (congrArg (fun z => Value.int z :: _) (show v (nI 1).toNatClampNeg = v 1 from by rw [nI_clamp (by omega)])) ?_
          refine x_callV 80 C0 (k_X8_refuses l hl g _ _ n t v bf sv pa lb ip td sg hM hJ 6 (v 1)) dX8_linesChest_77 rfl mC_X8_refuses mM_X8_82 mI_X8_refuses mV_X8_refuses mN_X8 yd_X8_refuses rfl rfl ⟨Nat.le_of_ble_eq_true rfl, Nat.le_of_ble_eq_true rfl⟩ hM.o rfl rfl rfl rfl (Nat.le_of_ble_eq_true rfl) ⟨Nat.le_of_ble_eq_true rfl, Nat.le_of_ble_eq_true rfl⟩ (fun _ _ _ q => False.elim q) (fun r w1 sz1 hz hP => ?_)
          obtain ⟨rfl, rfl, rfl⟩ := hP
          have hJ8 : MJ n (upd (upd (upd t 5 6) 6 (v 1)) 1 3) v bf sv pa sg := (((hJ.j_t (by decide)).j_t (by decide)).j_t (by decide))
          refine x_st (st1 := [.int 0]) rfl ?_
          exact x_ireturn C0 dX8_linesChest_80 rfl rfl (Nat.le_of_ble_eq_true rfl) (Nat.le_of_ble_eq_true rfl) ⟨rfl, _, _, _, rfl, hJ8, ⟨⟨⟨_, rfl⟩, (((tK.rf.up (by decide)).up (by decide)).up (by decide))⟩, (Or.inr (Or.inl ⟨kc, rfl, hk3, hkc, hs72, hs52, c4, c5, rfl⟩))⟩⟩
      · refine x_aload_n 0 50 C0 dX8_linesChest_49 rfl rfl rfl ?_
        refine x_iconst (v := 5) 51 C0 dX8_linesChest_50 rfl (by decide) ?_
        refine x_iload_n 2 52 C0 dX8_linesChest_51 rfl rfl rfl ?_
        refine x_callV 55 C0 (k_X8_refuses l hl g _ _ n t v bf sv pa lb ip td sg hM hJ 5 (v (28 + 9 * kc + 0))) dX8_linesChest_52 rfl mC_X8_refuses mM_X8_82 mI_X8_refuses mV_X8_refuses mN_X8 yd_X8_refuses rfl rfl ⟨Nat.le_of_ble_eq_true rfl, Nat.le_of_ble_eq_true rfl⟩ hM.o rfl rfl rfl rfl (Nat.le_of_ble_eq_true rfl) ⟨Nat.le_of_ble_eq_true rfl, Nat.le_of_ble_eq_true rfl⟩ (fun _ _ _ q => False.elim q) (fun r w1 sz1 hz hP => ?_)
        obtain ⟨rfl, rfl, rfl⟩ := hP
        have hJ9 : MJ n (upd (upd (upd t 5 5) 6 (v (28 + 9 * kc + 0))) 1 3) v bf sv pa sg := (((hJ.j_t (by decide)).j_t (by decide)).j_t (by decide))
        refine x_st (st1 := [.int 0]) rfl ?_
        exact x_ireturn C0 dX8_linesChest_55 rfl rfl (Nat.le_of_ble_eq_true rfl) (Nat.le_of_ble_eq_true rfl) ⟨rfl, _, _, _, rfl, hJ9, ⟨⟨⟨_, rfl⟩, (((tK.rf.up (by decide)).up (by decide)).up (by decide))⟩, (Or.inr (Or.inr (Or.inl ⟨kc, rfl, hk3, hkc, hs72, hs52, c4, rfl⟩)))⟩⟩
    · refine x_st (st1 := [.int 1]) rfl ?_
      refine x_if_eq 24 22 C0 dX8_linesChest_19 rfl (by decide) (fun q => False.elim (by revert q; decide)) (fun _ => ?_)
      refine x_iconst (v := 0) 23 C0 dX8_linesChest_22 rfl (by decide) ?_
      exact x_ireturn C0 dX8_linesChest_23 rfl rfl (Nat.le_of_ble_eq_true rfl) (Nat.le_of_ble_eq_true rfl) ⟨rfl, _, _, _, rfl, hJ2, ⟨⟨⟨_, rfl⟩, (he2.trans tK.rf)⟩, (Or.inr (Or.inr (Or.inr (Or.inl ⟨kc, t2, rfl, hk3, hkc, hsn2, h12, h12⟩))))⟩⟩
  · refine x_st (st1 := [.int 0]) rfl ?_
    refine x_if_ne 14 8 C0 dX8_linesChest_5 rfl (by decide) (fun q => False.elim (by revert q; decide)) (fun _ => ?_)
    refine x_aload_n 0 9 C0 dX8_linesChest_8 rfl rfl rfl ?_
    refine x_iconst (v := 1) 10 C0 dX8_linesChest_9 rfl (by decide) ?_
    refine x_callV 13 C0 (k_X8_fail l hl g _ _ n t v bf sv pa lb ip td sg hM hJ 1) dX8_linesChest_10 rfl mC_X8_fail mM_X8_47 mI_X8_fail mV_X8_fail mN_X8 yd_X8_fail rfl rfl ⟨Nat.le_of_ble_eq_true rfl, Nat.le_of_ble_eq_true rfl⟩ hM.o rfl rfl rfl rfl (Nat.le_of_ble_eq_true rfl) ⟨Nat.le_of_ble_eq_true rfl, Nat.le_of_ble_eq_true rfl⟩ (fun _ _ _ q => False.elim q) (fun r w1 sz1 hz hP => ?_)
    obtain ⟨rfl, rfl, rfl⟩ := hP
    have hJ12 : MJ n (upd t 1 1) v bf sv pa sg := (hJ.j_t (by decide))
    refine x_st (st1 := [.int 0]) rfl ?_
    exact x_ireturn C0 dX8_linesChest_13 rfl rfl (Nat.le_of_ble_eq_true rfl) (Nat.le_of_ble_eq_true rfl) ⟨rfl, _, _, _, rfl, hJ12, ⟨⟨⟨_, rfl⟩, (tK.rf.up (by decide))⟩, (Or.inr (Or.inr (Or.inr (Or.inr (⟨hkn, rfl⟩)))))⟩⟩

def R_X8_fills (t v : Nat → Int32) (cn : Int32) (ga : Int32) (ki : Int32) (po : Int32) (r : Option Value) (t' v' : Nat → Int32) : Prop :=
  (∃ (kc : Nat) (a : Nat) (b : Nat), (cn = nI kc) ∧ (nI kc < v 3) ∧ (kc < 20) ∧ (ga = nI a) ∧ (ki = nI b) ∧ (a < 6) ∧ (b < 3) ∧ (1 ≤ po ∧ po ≤ 50) ∧ (v (28 + 9 * kc + 7) = 0) ∧ (v (28 + 9 * kc + 5) = 0) ∧ (v (28 + 9 * kc + 3) = 0) ∧ (po ≤ (10 * (v (28 + 9 * kc + 0))) - (v (28 + 9 * kc + 3))) ∧ (po ≤ v (10 + 3 * a + b)) ∧ (t' 1 = t 1) ∧ (r = some (.int (((10 * (v (28 + 9 * kc + 0))) - (v (28 + 9 * kc + 3))) - po))) ∧ (v' = (upd (upd (upd (upd (upd v (10 + 3 * a + b) ((v (10 + 3 * a + b)) - po)) (28 + 9 * kc + 1) (nI a)) (28 + 9 * kc + 2) (nI b)) (28 + 9 * kc + 3) (((upd (upd (upd v (10 + 3 * a + b) ((v (10 + 3 * a + b)) - po)) (28 + 9 * kc + 1) (nI a)) (28 + 9 * kc + 2) (nI b)) (28 + 9 * kc + 3)) + po)) (28 + 9 * kc + 8) 0))) ∨
  (∃ (kc : Nat) (a : Nat) (b : Nat), (cn = nI kc) ∧ (nI kc < v 3) ∧ (kc < 20) ∧ (ga = nI a) ∧ (ki = nI b) ∧ (a < 6) ∧ (b < 3) ∧ (1 ≤ po ∧ po ≤ 50) ∧ (v (28 + 9 * kc + 7) = 0) ∧ (v (28 + 9 * kc + 5) = 0) ∧ (v (28 + 9 * kc + 3) = 0) ∧ (po ≤ (10 * (v (28 + 9 * kc + 0))) - (v (28 + 9 * kc + 3))) ∧ (¬ (po ≤ v (10 + 3 * a + b))) ∧ (t' 1 = 3)) ∨
  (∃ (kc : Nat) (a : Nat) (b : Nat), (cn = nI kc) ∧ (nI kc < v 3) ∧ (kc < 20) ∧ (ga = nI a) ∧ (ki = nI b) ∧ (a < 6) ∧ (b < 3) ∧ (1 ≤ po ∧ po ≤ 50) ∧ (v (28 + 9 * kc + 7) = 0) ∧ (v (28 + 9 * kc + 5) = 0) ∧ (v (28 + 9 * kc + 3) = 0) ∧ (¬ (po ≤ (10 * (v (28 + 9 * kc + 0))) - (v (28 + 9 * kc + 3)))) ∧ (t' 1 = 3)) ∨
  (∃ (kc : Nat) (a : Nat) (b : Nat), (cn = nI kc) ∧ (nI kc < v 3) ∧ (kc < 20) ∧ (ga = nI a) ∧ (ki = nI b) ∧ (a < 6) ∧ (b < 3) ∧ (1 ≤ po ∧ po ≤ 50) ∧ (v (28 + 9 * kc + 7) = 0) ∧ (v (28 + 9 * kc + 5) = 0) ∧ (¬ (v (28 + 9 * kc + 3) = 0)) ∧ (¬ v (28 + 9 * kc + 1) = nI a) ∧ (t' 1 = 3)) ∨
  (∃ (kc : Nat) (a : Nat) (b : Nat), (cn = nI kc) ∧ (nI kc < v 3) ∧ (kc < 20) ∧ (ga = nI a) ∧ (ki = nI b) ∧ (a < 6) ∧ (b < 3) ∧ (1 ≤ po ∧ po ≤ 50) ∧ (v (28 + 9 * kc + 7) = 0) ∧ (v (28 + 9 * kc + 5) = 0) ∧ (¬ (v (28 + 9 * kc + 3) = 0)) ∧ (v (28 + 9 * kc + 1) = nI a) ∧ (v (28 + 9 * kc + 2) = nI b) ∧ (po ≤ (10 * (v (28 + 9 * kc + 0))) - (v (28 + 9 * kc + 3))) ∧ (po ≤ v (10 + 3 * a + b)) ∧ (t' 1 = t 1) ∧ (r = some (.int (((10 * (v (28 + 9 * kc + 0))) - (v (28 + 9 * kc + 3))) - po))) ∧ (v' = (upd (upd (upd (upd (upd v (10 + 3 * a + b) ((v (10 + 3 * a + b)) - po)) (28 + 9 * kc + 1) (nI a)) (28 + 9 * kc + 2) (nI b)) (28 + 9 * kc + 3) (((upd (upd (upd v (10 + 3 * a + b) ((v (10 + 3 * a + b)) - po)) (28 + 9 * kc + 1) (nI a)) (28 + 9 * kc + 2) (nI b)) (28 + 9 * kc + 3)) + po)) (28 + 9 * kc + 8) 0))) ∨
  (∃ (kc : Nat) (a : Nat) (b : Nat), (cn = nI kc) ∧ (nI kc < v 3) ∧ (kc < 20) ∧ (ga = nI a) ∧ (ki = nI b) ∧ (a < 6) ∧ (b < 3) ∧ (1 ≤ po ∧ po ≤ 50) ∧ (v (28 + 9 * kc + 7) = 0) ∧ (v (28 + 9 * kc + 5) = 0) ∧ (¬ (v (28 + 9 * kc + 3) = 0)) ∧ (v (28 + 9 * kc + 1) = nI a) ∧ (v (28 + 9 * kc + 2) = nI b) ∧ (po ≤ (10 * (v (28 + 9 * kc + 0))) - (v (28 + 9 * kc + 3))) ∧ (¬ (po ≤ v (10 + 3 * a + b))) ∧ (t' 1 = 3)) ∨
  (∃ (kc : Nat) (a : Nat) (b : Nat), (cn = nI kc) ∧ (nI kc < v 3) ∧ (kc < 20) ∧ (ga = nI a) ∧ (ki = nI b) ∧ (a < 6) ∧ (b < 3) ∧ (1 ≤ po ∧ po ≤ 50) ∧ (v (28 + 9 * kc + 7) = 0) ∧ (v (28 + 9 * kc + 5) = 0) ∧ (¬ (v (28 + 9 * kc + 3) = 0)) ∧ (v (28 + 9 * kc + 1) = nI a) ∧ (v (28 + 9 * kc + 2) = nI b) ∧ (¬ (po ≤ (10 * (v (28 + 9 * kc + 0))) - (v (28 + 9 * kc + 3)))) ∧ (t' 1 = 3)) ∨
  (∃ (kc : Nat) (a : Nat) (b : Nat), (cn = nI kc) ∧ (nI kc < v 3) ∧ (kc < 20) ∧ (ga = nI a) ∧ (ki = nI b) ∧ (a < 6) ∧ (b < 3) ∧ (1 ≤ po ∧ po ≤ 50) ∧ (v (28 + 9 * kc + 7) = 0) ∧ (v (28 + 9 * kc + 5) = 0) ∧ (¬ (v (28 + 9 * kc + 3) = 0)) ∧ (v (28 + 9 * kc + 1) = nI a) ∧ (¬ (v (28 + 9 * kc + 2) = nI b)) ∧ (t' 1 = 3)) ∨
  (∃ (kc : Nat) (a : Nat) (b : Nat) (t5 : Nat → Int32), (cn = nI kc) ∧ (nI kc < v 3) ∧ (kc < 20) ∧ (ga = nI a) ∧ (ki = nI b) ∧ (a < 6) ∧ (b < 3) ∧ (1 ≤ po ∧ po ≤ 50) ∧ (¬ (v (28 + 9 * kc + 7) = 0 ∧ v (28 + 9 * kc + 5) = 0)) ∧ (t5 1 = 3) ∧ (t' 1 = 3)) ∨
  (∃ (kc : Nat) (a : Nat) (b : Nat), (cn = nI kc) ∧ (nI kc < v 3) ∧ (kc < 20) ∧ (ga = nI a) ∧ (ki = nI b) ∧ (a < 6) ∧ (b < 3) ∧ (¬ (1 ≤ po ∧ po ≤ 50)) ∧ (t' 1 = 2)) ∨
  (∃ (kc : Nat), (cn = nI kc) ∧ (nI kc < v 3) ∧ (kc < 20) ∧ (isLeafB ga ki = false) ∧ (t' 1 = 1)) ∨
  ((¬ (0 ≤ cn ∧ cn < v 3)) ∧ (t' 1 = 1))
set_option maxHeartbeats 4000000 in
set_option maxRecDepth 100000 in
theorem k_X8_fills (l : Launch) (hl : l.stackTraces = false) (g : xg_T) (w : xw_T) (sz n : Nat) (t v bf sv pa lb ip td sg : Nat → Int32) (hM : MR g w t v bf sv pa lb ip td sg) (hJ : MJ n t v bf sv pa sg) (cn : Int32) (ga : Int32) (ki : Int32) (po : Int32) : xM l g yX8_fills cX8_fills 8 (some .int) ({ frames := 3, cells := 0, slots := 0, locals := 65 }) 0 0 [.ref (g.2 0 + 258), .int cn, .int ga, .int ki, .int po] w sz (mX g w sz n bf sv pa ip td sg (fun r t' v' => mT t r t' v' ∧ R_X8_fills t v cn ga ki po r t' v')) (fun _ _ _ => False) := by
  refine xM.of RX8 hl (by decide +kernel) rfl (Nat.le_of_ble_eq_true rfl) rfl ?_
  intro p e s m args below meth cD C0 hini
  refine x_aload_n 0 1 C0 dX8_fills_0 rfl rfl rfl ?_
  refine x_iload_n 1 2 C0 dX8_fills_1 rfl rfl rfl ?_
  refine x_callV 5 C0 (k_X8_isChest l hl g _ _ n t v bf sv pa lb ip td sg hM hJ cn) dX8_fills_2 rfl mC_X8_isChest mM_X8_108 mI_X8_isChest mV_X8_isChest mN_X8 yd_X8_isChest rfl rfl ⟨Nat.le_of_ble_eq_true rfl, Nat.le_of_ble_eq_true rfl⟩ hM.o rfl rfl rfl rfl (Nat.le_of_ble_eq_true rfl) ⟨Nat.le_of_ble_eq_true rfl, Nat.le_of_ble_eq_true rfl⟩ (fun _ _ _ q => False.elim q) (fun r w1 sz1 hz hP => ?_)
  obtain ⟨hr, rfl, rfl⟩ := hP
  rcases hr with ⟨⟨kc, hkc, hkv, hk3⟩, rfl⟩ | ⟨rfl, hkn⟩
  · subst hkv
    refine x_st (st1 := [.int 1]) rfl ?_
    refine x_if_eq 16 8 C0 dX8_fills_5 rfl (by decide) (fun q => False.elim (by revert q; decide)) (fun _ => ?_)
    refine x_iload_n 2 9 C0 dX8_fills_8 rfl rfl rfl ?_
    refine x_iload_n 3 10 C0 dX8_fills_9 rfl rfl rfl ?_
    refine x_callS 13 C0 (k_X8_isLeaf l hl g _ _ ga ki) dX8_fills_10 rfl mC_X8_isLeaf mM_X8_75 mS_X8_isLeaf mN_X8 yd_X8_isLeaf rfl rfl ⟨Nat.le_of_ble_eq_true rfl, Nat.le_of_ble_eq_true rfl⟩ rfl rfl (Nat.le_of_ble_eq_true rfl) ⟨Nat.le_of_ble_eq_true rfl, Nat.le_of_ble_eq_true rfl⟩ (fun _ _ _ q => False.elim q) (fun r w1 sz1 hz hP => ?_)
    obtain ⟨hr, rfl, rfl⟩ := hP
    rcases hr with ⟨⟨a, b, ha, hb, hav, hbv⟩, rfl⟩ | ⟨rfl, hln⟩
    · subst hav hbv
      refine x_st (st1 := [.int 1]) rfl ?_
      refine x_if_ne 22 16 C0 dX8_fills_13 rfl (by decide) (fun _ => ?_) (fun q => False.elim (by revert q; decide))
      refine x_iload 4 24 C0 dX8_fills_22 rfl rfl ?_
      refine x_iconst (v := 1) 25 C0 dX8_fills_24 rfl (by decide) ?_
      refine x_bipush (v := 50) 27 C0 dX8_fills_25 rfl (by decide) ?_
      refine x_callS 30 C0 (k_X8_isIn l hl g _ _ po 1 50) dX8_fills_27 rfl mC_X8_isIn mM_X8_67 mS_X8_isIn mN_X8 yd_X8_isIn rfl rfl ⟨Nat.le_of_ble_eq_true rfl, Nat.le_of_ble_eq_true rfl⟩ rfl rfl (Nat.le_of_ble_eq_true rfl) ⟨Nat.le_of_ble_eq_true rfl, Nat.le_of_ble_eq_true rfl⟩ (fun _ _ _ q => False.elim q) (fun r w1 sz1 hz hP => ?_)
      obtain ⟨hr, rfl, rfl⟩ := hP
      rcases hr with ⟨rfl, ha3, hb3⟩ | ⟨rfl, hx3⟩
      · refine x_st (st1 := [.int 1]) rfl ?_
        refine x_if_ne 39 33 C0 dX8_fills_30 rfl (by decide) (fun _ => ?_) (fun q => False.elim (by revert q; decide))
        refine x_aload_n 0 40 C0 dX8_fills_39 rfl rfl rfl ?_
        refine x_iload_n 1 41 C0 dX8_fills_40 rfl rfl rfl ?_
        refine x_callV 44 C0 (k_X8_isShut l hl g _ _ n t v bf sv pa lb ip td sg hM hJ kc (by omega)) dX8_fills_41 rfl mC_X8_isShut mM_X8_112 mI_X8_isShut mV_X8_isShut mN_X8 yd_X8_isShut rfl rfl ⟨Nat.le_of_ble_eq_true rfl, Nat.le_of_ble_eq_true rfl⟩ hM.o rfl rfl rfl rfl (Nat.le_of_ble_eq_true rfl) ⟨Nat.le_of_ble_eq_true rfl, Nat.le_of_ble_eq_true rfl⟩ (fun _ _ _ q => False.elim q) (fun r w1 sz1 hz hP => ?_)
        obtain ⟨rfl, hr⟩ := hP
        rcases hr with ⟨rfl, hs75, hs55, rfl⟩ | ⟨rfl, hsn5, t5, rfl, hJ5, he5, h15⟩
        · refine x_st (st1 := [.int 0]) rfl ?_
          refine x_if_eq 49 47 C0 dX8_fills_44 rfl (by decide) (fun _ => ?_) (fun q => False.elim (by revert q; decide))
          refine x_iload_n 2 50 C0 dX8_fills_49 rfl rfl rfl ?_
          refine x_iload_n 3 51 C0 dX8_fills_50 rfl rfl rfl ?_
          refine x_callS 54 C0 (k_X8_leaf l hl g _ _ (nI a) (nI b)) dX8_fills_51 rfl mC_X8_leaf mM_X8_79 mS_X8_leaf mN_X8 yd_X8_leaf rfl rfl ⟨Nat.le_of_ble_eq_true rfl, Nat.le_of_ble_eq_true rfl⟩ rfl rfl (Nat.le_of_ble_eq_true rfl) ⟨Nat.le_of_ble_eq_true rfl, Nat.le_of_ble_eq_true rfl⟩ (fun _ _ _ q => False.elim q) (fun r w1 sz1 hz hP => ?_)
          obtain ⟨rfl, rfl, rfl⟩ := hP
          refine x_st (st1 := [.int (nI (10 + 3 * a + b))]) (congrArg (fun z => Value.int z :: _) (at_nI 10 3 a b)) ?_
          refine x_istore [(5, .int (nI (10 + 3 * a + b))), (0, .ref (g.2 0 + 258)), (1, .int (nI kc)), (2, .int (nI a)), (3, .int (nI b)), (4, .int po)] 56 C0 dX8_fills_54 rfl (by decide) rfl ?_
          refine x_lv (lv1 := [(0, .ref (g.2 0 + 258)), (1, .int (nI kc)), (2, .int (nI a)), (3, .int (nI b)), (4, .int po), (5, .int (nI (10 + 3 * a + b)))]) [1, 2, 3, 4, 5, 0] rfl ?_
          refine x_bipush (v := 10) 58 C0 dX8_fills_56 rfl (by decide) ?_
          refine x_aload_n 0 59 C0 dX8_fills_58 rfl rfl rfl ?_
          refine x_getf (v := .ref (g.2 0 + 258 + 1)) 8 62 C0 dX8_fills_59 rfl hM.o rfl (by decide) inX8 mF_X8_7 rfl ?_
          refine x_iload_n 1 63 C0 dX8_fills_62 rfl rfl rfl ?_
          refine x_iconst (v := 0) 64 C0 dX8_fills_63 rfl (by decide) ?_
          refine x_callS 67 C0 (k_X8_at l hl g _ _ (nI kc) 0) dX8_fills_64 rfl mC_X8_at mM_X8_71 mS_X8_at mN_X8 yd_X8_at rfl rfl ⟨Nat.le_of_ble_eq_true rfl, Nat.le_of_ble_eq_true rfl⟩ rfl rfl (Nat.le_of_ble_eq_true rfl) ⟨Nat.le_of_ble_eq_true rfl, Nat.le_of_ble_eq_true rfl⟩ (fun _ _ _ q => False.elim q) (fun r w1 sz1 hz hP => ?_)
          obtain ⟨rfl, rfl, rfl⟩ := hP
          refine x_st (st1 := [.int (nI (28 + 9 * kc + 0)), .ref (g.2 0 + 258 + 1), .int 10]) (congrArg (fun z => Value.int z :: _) (at_nI 28 9 kc 0)) ?_
          refine x_iald 0 68 C0 dX8_fills_67 rfl hM.r_v rfl (vp_in_nI (n := 28 + 9 * kc + 0) (by omega) (by decide)) ?_
          refine x_st (st1 := [.int (v (28 + 9 * kc + 0)), .int 10]) (congrArg (fun z => Value.int z :: _) (show v (nI (28 + 9 * kc + 0)).toNatClampNeg = v (28 + 9 * kc + 0) from by rw [nI_clamp (by omega)])) ?_
          refine x_imul 69 C0 dX8_fills_68 rfl ?_
          refine x_aload_n 0 70 C0 dX8_fills_69 rfl rfl rfl ?_
          refine x_getf (v := .ref (g.2 0 + 258 + 1)) 8 73 C0 dX8_fills_70 rfl hM.o rfl (by decide) inX8 mF_X8_7 rfl ?_
          refine x_iload_n 1 74 C0 dX8_fills_73 rfl rfl rfl ?_
          refine x_iconst (v := 3) 75 C0 dX8_fills_74 rfl (by decide) ?_
          refine x_callS 78 C0 (k_X8_at l hl g _ _ (nI kc) 3) dX8_fills_75 rfl mC_X8_at mM_X8_71 mS_X8_at mN_X8 yd_X8_at rfl rfl ⟨Nat.le_of_ble_eq_true rfl, Nat.le_of_ble_eq_true rfl⟩ rfl rfl (Nat.le_of_ble_eq_true rfl) ⟨Nat.le_of_ble_eq_true rfl, Nat.le_of_ble_eq_true rfl⟩ (fun _ _ _ q => False.elim q) (fun r w1 sz1 hz hP => ?_)
          obtain ⟨rfl, rfl, rfl⟩ := hP
          refine x_st (st1 := [.int (nI (28 + 9 * kc + 3)), .ref (g.2 0 + 258 + 1), .int (10 * (v (28 + 9 * kc + 0)))]) (congrArg (fun z => Value.int z :: _) (at_nI 28 9 kc 3)) ?_
          refine x_iald 0 79 C0 dX8_fills_78 rfl hM.r_v rfl (vp_in_nI (n := 28 + 9 * kc + 3) (by omega) (by decide)) ?_
          refine x_st (st1 := [.int (v (28 + 9 * kc + 3)), .int (10 * (v (28 + 9 * kc + 0)))]) (congrArg (fun z => Value.int z :: _) (show v (nI (28 + 9 * kc + 3)).toNatClampNeg = v (28 + 9 * kc + 3) from by rw [nI_clamp (by omega)])) ?_
          refine x_isub 80 C0 dX8_fills_79 rfl ?_
          refine x_istore [(6, .int ((10 * (v (28 + 9 * kc + 0))) - (v (28 + 9 * kc + 3)))), (0, .ref (g.2 0 + 258)), (1, .int (nI kc)), (2, .int (nI a)), (3, .int (nI b)), (4, .int po), (5, .int (nI (10 + 3 * a + b)))] 82 C0 dX8_fills_80 rfl (by decide) rfl ?_
          refine x_lv (lv1 := [(0, .ref (g.2 0 + 258)), (1, .int (nI kc)), (2, .int (nI a)), (3, .int (nI b)), (4, .int po), (5, .int (nI (10 + 3 * a + b))), (6, .int ((10 * (v (28 + 9 * kc + 0))) - (v (28 + 9 * kc + 3))))]) [1, 2, 3, 4, 5, 6, 0] rfl ?_
          refine x_aload_n 0 83 C0 dX8_fills_82 rfl rfl rfl ?_
          refine x_iload_n 1 84 C0 dX8_fills_83 rfl rfl rfl ?_
          refine x_callV 87 C0 (k_X8_isEmpty l hl g _ _ n t v bf sv pa lb ip td sg hM hJ kc (by omega)) dX8_fills_84 rfl mC_X8_isEmpty mM_X8_118 mI_X8_isEmpty mV_X8_isEmpty mN_X8 yd_X8_isEmpty rfl rfl ⟨Nat.le_of_ble_eq_true rfl, Nat.le_of_ble_eq_true rfl⟩ hM.o rfl rfl rfl rfl (Nat.le_of_ble_eq_true rfl) ⟨Nat.le_of_ble_eq_true rfl, Nat.le_of_ble_eq_true rfl⟩ (fun _ _ _ q => False.elim q) (fun r w1 sz1 hz hP => ?_)
          obtain ⟨hR7, rfl, rfl⟩ := hP
          rcases hR7 with ⟨rfl, hq7⟩ | ⟨rfl, hq7⟩
          · refine x_st (st1 := [.int 1]) rfl ?_
            refine x_if_ne 122 90 C0 dX8_fills_87 rfl (by decide) (fun _ => ?_) (fun q => False.elim (by revert q; decide))
            refine x_iconst (v := 0) 123 C0 dX8_fills_122 rfl (by decide) ?_
            refine x_istore [(7, .int 0), (0, .ref (g.2 0 + 258)), (1, .int (nI kc)), (2, .int (nI a)), (3, .int (nI b)), (4, .int po), (5, .int (nI (10 + 3 * a + b))), (6, .int ((10 * (v (28 + 9 * kc + 0))) - (v (28 + 9 * kc + 3))))] 125 C0 dX8_fills_123 rfl (by decide) rfl ?_
            refine x_lv (lv1 := [(0, .ref (g.2 0 + 258)), (1, .int (nI kc)), (2, .int (nI a)), (3, .int (nI b)), (4, .int po), (5, .int (nI (10 + 3 * a + b))), (6, .int ((10 * (v (28 + 9 * kc + 0))) - (v (28 + 9 * kc + 3)))), (7, .int 0)]) [1, 2, 3, 4, 5, 6, 7, 0] rfl ?_
            refine x_iload 7 127 C0 dX8_fills_125 rfl rfl ?_
            refine x_if_eq 161 130 C0 dX8_fills_127 rfl (by decide) (fun _ => ?_) (fun q => False.elim (by revert q; decide))
            refine x_iload 6 163 C0 dX8_fills_161 rfl rfl ?_
            refine x_iload 4 165 C0 dX8_fills_163 rfl rfl ?_
            refine x_icmp_ge 177 168 C0 dX8_fills_165 rfl (by decide) (fun c10 => ?_) (fun c10 => ?_)
            · have c10' := Int32.not_lt.mpr c10
              refine x_aload_n 0 178 C0 dX8_fills_177 rfl rfl rfl ?_
              refine x_getf (v := .ref (g.2 0 + 258 + 1)) 8 181 C0 dX8_fills_178 rfl hM.o rfl (by decide) inX8 mF_X8_7 rfl ?_
              refine x_iload 5 183 C0 dX8_fills_181 rfl rfl ?_
              refine x_iald 0 184 C0 dX8_fills_183 rfl hM.r_v rfl (vp_in_nI (n := 10 + 3 * a + b) (by omega) (by decide)) ?_
              refine x_st (st1 := [.int (v (10 + 3 * a + b))]) (congrArg (fun z => Value.int z :: _) (show v (nI (10 + 3 * a + b)).toNatClampNeg = v (10 + 3 * a + b) from by rw [nI_clamp (by omega)])) ?_
              refine x_iload 4 186 C0 dX8_fills_184 rfl rfl ?_
              refine x_icmp_ge 203 189 C0 dX8_fills_186 rfl (by decide) (fun c11 => ?_) (fun c11 => ?_)
              · have c11' := Int32.not_lt.mpr c11
                refine x_aload_n 0 204 C0 dX8_fills_203 rfl rfl rfl ?_
                refine x_getf (v := .ref (g.2 0 + 258 + 1)) 8 207 C0 dX8_fills_204 rfl hM.o rfl (by decide) inX8 mF_X8_7 rfl ?_
                refine x_iload 5 209 C0 dX8_fills_207 rfl rfl ?_
                refine x_dup2 210 C0 dX8_fills_209 rfl rfl rfl ?_
                refine x_iald 0 211 C0 dX8_fills_210 rfl hM.r_v rfl (vp_in_nI (n := 10 + 3 * a + b) (by omega) (by decide)) ?_
                refine x_st (st1 := [.int (v (10 + 3 * a + b)), .int (nI (10 + 3 * a + b)), .ref (g.2 0 + 258 + 1)]) (congrArg (fun z => Value.int z :: _) (show v (nI (10 + 3 * a + b)).toNatClampNeg = v (10 + 3 * a + b) from by rw [nI_clamp (by omega)])) ?_
                refine x_iload 4 213 C0 dX8_fills_211 rfl rfl ?_
                refine x_isub 214 C0 dX8_fills_213 rfl ?_
                refine x_w (MW_self hM) ?_
                refine x_iast 0 215 C0 dX8_fills_214 rfl MR_MW.r_v (by show g.2 0 ≤ _; omega) rfl (vp_in_nI (n := 10 + 3 * a + b) (by omega) (by decide)) ?_
                refine x_w (w1 := (MW g w t (upd v (10 + 3 * a + b) ((v (10 + 3 * a + b)) - po)) bf sv pa lb ip td sg)) (by rw [show (nI (10 + 3 * a + b) : Int32).toNatClampNeg = (10 + 3 * a + b) from nI_clamp (n := 10 + 3 * a + b) (by omega)]; exact MW_v) ?_
                have hJ12 : MJ n t (upd v (10 + 3 * a + b) ((v (10 + 3 * a + b)) - po)) bf sv pa sg := hJ.j_v (hJ.1.up (Or.inl (by omega)))
                refine x_aload_n 0 216 C0 dX8_fills_215 rfl rfl rfl ?_
                refine x_getf (v := .ref (g.2 0 + 258 + 1)) 8 219 C0 dX8_fills_216 rfl MR_MW.o rfl (by decide) inX8 mF_X8_7 rfl ?_
                refine x_iload_n 1 220 C0 dX8_fills_219 rfl rfl rfl ?_
                refine x_iconst (v := 1) 221 C0 dX8_fills_220 rfl (by decide) ?_
                refine x_callS 224 C0 (k_X8_at l hl g _ _ (nI kc) 1) dX8_fills_221 rfl mC_X8_at mM_X8_71 mS_X8_at mN_X8 yd_X8_at rfl rfl ⟨Nat.le_of_ble_eq_true rfl, Nat.le_of_ble_eq_true rfl⟩ rfl rfl (Nat.le_of_ble_eq_true rfl) ⟨Nat.le_of_ble_eq_true rfl, Nat.le_of_ble_eq_true rfl⟩ (fun _ _ _ q => False.elim q) (fun r w1 sz1 hz hP => ?_)
                obtain ⟨rfl, rfl, rfl⟩ := hP
                refine x_st (st1 := [.int (nI (28 + 9 * kc + 1)), .ref (g.2 0 + 258 + 1)]) (congrArg (fun z => Value.int z :: _) (at_nI 28 9 kc 1)) ?_
                refine x_iload_n 2 225 C0 dX8_fills_224 rfl rfl rfl ?_
                refine x_iast 0 226 C0 dX8_fills_225 rfl MR_MW.r_v (by show g.2 0 ≤ _; omega) rfl (vp_in_nI (n := 28 + 9 * kc + 1) (by omega) (by decide)) ?_
                refine x_w (w1 := (MW g w t (upd (upd v (10 + 3 * a + b) ((v (10 + 3 * a + b)) - po)) (28 + 9 * kc + 1) (nI a)) bf sv pa lb ip td sg)) (by rw [show (nI (28 + 9 * kc + 1) : Int32).toNatClampNeg = (28 + 9 * kc + 1) from nI_clamp (n := 28 + 9 * kc + 1) (by omega)]; exact MW_v) ?_
                have hJ13 : MJ n t (upd (upd v (10 + 3 * a + b) ((v (10 + 3 * a + b)) - po)) (28 + 9 * kc + 1) (nI a)) bf sv pa sg := hJ12.j_v (hJ12.1.ga hkc ha)
                refine x_aload_n 0 227 C0 dX8_fills_226 rfl rfl rfl ?_
                refine x_getf (v := .ref (g.2 0 + 258 + 1)) 8 230 C0 dX8_fills_227 rfl MR_MW.o rfl (by decide) inX8 mF_X8_7 rfl ?_
                refine x_iload_n 1 231 C0 dX8_fills_230 rfl rfl rfl ?_
                refine x_iconst (v := 2) 232 C0 dX8_fills_231 rfl (by decide) ?_
                refine x_callS 235 C0 (k_X8_at l hl g _ _ (nI kc) 2) dX8_fills_232 rfl mC_X8_at mM_X8_71 mS_X8_at mN_X8 yd_X8_at rfl rfl ⟨Nat.le_of_ble_eq_true rfl, Nat.le_of_ble_eq_true rfl⟩ rfl rfl (Nat.le_of_ble_eq_true rfl) ⟨Nat.le_of_ble_eq_true rfl, Nat.le_of_ble_eq_true rfl⟩ (fun _ _ _ q => False.elim q) (fun r w1 sz1 hz hP => ?_)
                obtain ⟨rfl, rfl, rfl⟩ := hP
                refine x_st (st1 := [.int (nI (28 + 9 * kc + 2)), .ref (g.2 0 + 258 + 1)]) (congrArg (fun z => Value.int z :: _) (at_nI 28 9 kc 2)) ?_
                refine x_iload_n 3 236 C0 dX8_fills_235 rfl rfl rfl ?_
                refine x_iast 0 237 C0 dX8_fills_236 rfl MR_MW.r_v (by show g.2 0 ≤ _; omega) rfl (vp_in_nI (n := 28 + 9 * kc + 2) (by omega) (by decide)) ?_
                refine x_w (w1 := (MW g w t (upd (upd (upd v (10 + 3 * a + b) ((v (10 + 3 * a + b)) - po)) (28 + 9 * kc + 1) (nI a)) (28 + 9 * kc + 2) (nI b)) bf sv pa lb ip td sg)) (by rw [show (nI (28 + 9 * kc + 2) : Int32).toNatClampNeg = (28 + 9 * kc + 2) from nI_clamp (n := 28 + 9 * kc + 2) (by omega)]; exact MW_v) ?_
                have hJ14 : MJ n t (upd (upd (upd v (10 + 3 * a + b) ((v (10 + 3 * a + b)) - po)) (28 + 9 * kc + 1) (nI a)) (28 + 9 * kc + 2) (nI b)) bf sv pa sg := hJ13.j_v (hJ13.1.ki hkc hb)
                refine x_aload_n 0 238 C0 dX8_fills_237 rfl rfl rfl ?_
                refine x_getf (v := .ref (g.2 0 + 258 + 1)) 8 241 C0 dX8_fills_238 rfl MR_MW.o rfl (by decide) inX8 mF_X8_7 rfl ?_
                refine x_iload_n 1 242 C0 dX8_fills_241 rfl rfl rfl ?_
                refine x_iconst (v := 3) 243 C0 dX8_fills_242 rfl (by decide) ?_
                refine x_callS 246 C0 (k_X8_at l hl g _ _ (nI kc) 3) dX8_fills_243 rfl mC_X8_at mM_X8_71 mS_X8_at mN_X8 yd_X8_at rfl rfl ⟨Nat.le_of_ble_eq_true rfl, Nat.le_of_ble_eq_true rfl⟩ rfl rfl (Nat.le_of_ble_eq_true rfl) ⟨Nat.le_of_ble_eq_true rfl, Nat.le_of_ble_eq_true rfl⟩ (fun _ _ _ q => False.elim q) (fun r w1 sz1 hz hP => ?_)
                obtain ⟨rfl, rfl, rfl⟩ := hP
                refine x_st (st1 := [.int (nI (28 + 9 * kc + 3)), .ref (g.2 0 + 258 + 1)]) (congrArg (fun z => Value.int z :: _) (at_nI 28 9 kc 3)) ?_
                refine x_dup2 247 C0 dX8_fills_246 rfl rfl rfl ?_
                refine x_iald 0 248 C0 dX8_fills_247 rfl MR_MW.r_v rfl (vp_in_nI (n := 28 + 9 * kc + 3) (by omega) (by decide)) ?_
                refine x_st (st1 := [.int ((upd (upd (upd v (10 + 3 * a + b) ((v (10 + 3 * a + b)) - po)) (28 + 9 * kc + 1) (nI a)) (28 + 9 * kc + 2) (nI b)) (28 + 9 * kc + 3)), .int (nI (28 + 9 * kc + 3)), .ref (g.2 0 + 258 + 1)]) (congrArg (fun z => Value.int z :: _) (show (upd (upd (upd v (10 + 3 * a + b) ((v (10 + 3 * a + b)) - po)) (28 + 9 * kc + 1) (nI a)) (28 + 9 * kc + 2) (nI b)) (nI (28 + 9 * kc + 3)).toNatClampNeg = (upd (upd (upd v (10 + 3 * a + b) ((v (10 + 3 * a + b)) - po)) (28 + 9 * kc + 1) (nI a)) (28 + 9 * kc + 2) (nI b)) (28 + 9 * kc + 3) from by rw [nI_clamp (by omega)])) ?_
                refine x_iload 4 250 C0 dX8_fills_248 rfl rfl ?_
                refine x_iadd 251 C0 dX8_fills_250 rfl ?_
                refine x_iast 0 252 C0 dX8_fills_251 rfl MR_MW.r_v (by show g.2 0 ≤ _; omega) rfl (vp_in_nI (n := 28 + 9 * kc + 3) (by omega) (by decide)) ?_
                refine x_w (w1 := (MW g w t (upd (upd (upd (upd v (10 + 3 * a + b) ((v (10 + 3 * a + b)) - po)) (28 + 9 * kc + 1) (nI a)) (28 + 9 * kc + 2) (nI b)) (28 + 9 * kc + 3) (((upd (upd (upd v (10 + 3 * a + b) ((v (10 + 3 * a + b)) - po)) (28 + 9 * kc + 1) (nI a)) (28 + 9 * kc + 2) (nI b)) (28 + 9 * kc + 3)) + po)) bf sv pa lb ip td sg)) (by rw [show (nI (28 + 9 * kc + 3) : Int32).toNatClampNeg = (28 + 9 * kc + 3) from nI_clamp (n := 28 + 9 * kc + 3) (by omega)]; exact MW_v) ?_
                have hJ15 : MJ n t (upd (upd (upd (upd v (10 + 3 * a + b) ((v (10 + 3 * a + b)) - po)) (28 + 9 * kc + 1) (nI a)) (28 + 9 * kc + 2) (nI b)) (28 + 9 * kc + 3) (((upd (upd (upd v (10 + 3 * a + b) ((v (10 + 3 * a + b)) - po)) (28 + 9 * kc + 1) (nI a)) (28 + 9 * kc + 2) (nI b)) (28 + 9 * kc + 3)) + po)) bf sv pa sg := hJ14.j_v (hJ14.1.po hkc ha hb ((if_neg (by omega)).trans (if_pos rfl)) (if_pos rfl))
                refine x_aload_n 0 253 C0 dX8_fills_252 rfl rfl rfl ?_
                refine x_getf (v := .ref (g.2 0 + 258 + 1)) 8 256 C0 dX8_fills_253 rfl MR_MW.o rfl (by decide) inX8 mF_X8_7 rfl ?_
                refine x_iload_n 1 257 C0 dX8_fills_256 rfl rfl rfl ?_
                refine x_bipush (v := 8) 259 C0 dX8_fills_257 rfl (by decide) ?_
                refine x_callS 262 C0 (k_X8_at l hl g _ _ (nI kc) 8) dX8_fills_259 rfl mC_X8_at mM_X8_71 mS_X8_at mN_X8 yd_X8_at rfl rfl ⟨Nat.le_of_ble_eq_true rfl, Nat.le_of_ble_eq_true rfl⟩ rfl rfl (Nat.le_of_ble_eq_true rfl) ⟨Nat.le_of_ble_eq_true rfl, Nat.le_of_ble_eq_true rfl⟩ (fun _ _ _ q => False.elim q) (fun r w1 sz1 hz hP => ?_)
                obtain ⟨rfl, rfl, rfl⟩ := hP
                refine x_st (st1 := [.int (nI (28 + 9 * kc + 8)), .ref (g.2 0 + 258 + 1)]) (congrArg (fun z => Value.int z :: _) (at_nI 28 9 kc 8)) ?_
                refine x_iconst (v := 0) 263 C0 dX8_fills_262 rfl (by decide) ?_
                refine x_iast 0 264 C0 dX8_fills_263 rfl MR_MW.r_v (by show g.2 0 ≤ _; omega) rfl (vp_in_nI (n := 28 + 9 * kc + 8) (by omega) (by decide)) ?_
                refine x_w (w1 := (MW g w t (upd (upd (upd (upd (upd v (10 + 3 * a + b) ((v (10 + 3 * a + b)) - po)) (28 + 9 * kc + 1) (nI a)) (28 + 9 * kc + 2) (nI b)) (28 + 9 * kc + 3) (((upd (upd (upd v (10 + 3 * a + b) ((v (10 + 3 * a + b)) - po)) (28 + 9 * kc + 1) (nI a)) (28 + 9 * kc + 2) (nI b)) (28 + 9 * kc + 3)) + po)) (28 + 9 * kc + 8) 0) bf sv pa lb ip td sg)) (by rw [show (nI (28 + 9 * kc + 8) : Int32).toNatClampNeg = (28 + 9 * kc + 8) from nI_clamp (n := 28 + 9 * kc + 8) (by omega)]; exact MW_v) ?_
                have hJ16 : MJ n t (upd (upd (upd (upd (upd v (10 + 3 * a + b) ((v (10 + 3 * a + b)) - po)) (28 + 9 * kc + 1) (nI a)) (28 + 9 * kc + 2) (nI b)) (28 + 9 * kc + 3) (((upd (upd (upd v (10 + 3 * a + b) ((v (10 + 3 * a + b)) - po)) (28 + 9 * kc + 1) (nI a)) (28 + 9 * kc + 2) (nI b)) (28 + 9 * kc + 3)) + po)) (28 + 9 * kc + 8) 0) bf sv pa sg := hJ15.j_v (hJ15.1.la0 hkc)
                refine x_iload 6 266 C0 dX8_fills_264 rfl rfl ?_
                refine x_iload 4 268 C0 dX8_fills_266 rfl rfl ?_
                refine x_isub 269 C0 dX8_fills_268 rfl ?_
                exact x_ireturn C0 dX8_fills_269 rfl rfl (Nat.le_of_ble_eq_true rfl) (Nat.le_of_ble_eq_true rfl) ⟨rfl, _, _, _, rfl, hJ16, ⟨⟨⟨_, rfl⟩, tK.rf⟩, (Or.inl ⟨kc, a, b, rfl, hk3, hkc, rfl, rfl, ha, hb, ⟨ha3, hb3⟩, hs75, hs55, hq7, c10, c11, rfl, rfl, rfl⟩)⟩⟩
              · have c11' := Int32.not_le.mp c11
                refine x_aload_n 0 190 C0 dX8_fills_189 rfl rfl rfl ?_
                refine x_bipush (v := 9) 192 C0 dX8_fills_190 rfl (by decide) ?_
                refine x_aload_n 0 193 C0 dX8_fills_192 rfl rfl rfl ?_
                refine x_getf (v := .ref (g.2 0 + 258 + 1)) 8 196 C0 dX8_fills_193 rfl hM.o rfl (by decide) inX8 mF_X8_7 rfl ?_
                refine x_iload 5 198 C0 dX8_fills_196 rfl rfl ?_
                refine x_iald 0 199 C0 dX8_fills_198 rfl hM.r_v rfl (vp_in_nI (n := 10 + 3 * a + b) (by omega) (by decide)) ?_
                refine x_st (st1 := [.int (v (10 + 3 * a + b)), .int 9, .ref (g.2 0 + 258)]) (congrArg (fun z => Value.int z :: _) (show v (nI (10 + 3 * a + b)).toNatClampNeg = v (10 + 3 * a + b) from by rw [nI_clamp (by omega)])) ?_
                refine x_callV 202 C0 (k_X8_refuses l hl g _ _ n t v bf sv pa lb ip td sg hM hJ 9 (v (10 + 3 * a + b))) dX8_fills_199 rfl mC_X8_refuses mM_X8_82 mI_X8_refuses mV_X8_refuses mN_X8 yd_X8_refuses rfl rfl ⟨Nat.le_of_ble_eq_true rfl, Nat.le_of_ble_eq_true rfl⟩ hM.o rfl rfl rfl rfl (Nat.le_of_ble_eq_true rfl) ⟨Nat.le_of_ble_eq_true rfl, Nat.le_of_ble_eq_true rfl⟩ (fun _ _ _ q => False.elim q) (fun r w1 sz1 hz hP => ?_)
                obtain ⟨rfl, rfl, rfl⟩ := hP
                have hJ17 : MJ n (upd (upd (upd t 5 9) 6 (v (10 + 3 * a + b))) 1 3) v bf sv pa sg := (((hJ.j_t (by decide)).j_t (by decide)).j_t (by decide))
                refine x_st (st1 := [.int 0]) rfl ?_
                exact x_ireturn C0 dX8_fills_202 rfl rfl (Nat.le_of_ble_eq_true rfl) (Nat.le_of_ble_eq_true rfl) ⟨rfl, _, _, _, rfl, hJ17, ⟨⟨⟨_, rfl⟩, (((tK.rf.up (by decide)).up (by decide)).up (by decide))⟩, (Or.inr (Or.inl ⟨kc, a, b, rfl, hk3, hkc, rfl, rfl, ha, hb, ⟨ha3, hb3⟩, hs75, hs55, hq7, c10, c11, rfl⟩))⟩⟩
            · have c10' := Int32.not_le.mp c10
              refine x_aload_n 0 169 C0 dX8_fills_168 rfl rfl rfl ?_
              refine x_bipush (v := 8) 171 C0 dX8_fills_169 rfl (by decide) ?_
              refine x_iload 6 173 C0 dX8_fills_171 rfl rfl ?_
              refine x_callV 176 C0 (k_X8_refuses l hl g _ _ n t v bf sv pa lb ip td sg hM hJ 8 ((10 * (v (28 + 9 * kc + 0))) - (v (28 + 9 * kc + 3)))) dX8_fills_173 rfl mC_X8_refuses mM_X8_82 mI_X8_refuses mV_X8_refuses mN_X8 yd_X8_refuses rfl rfl ⟨Nat.le_of_ble_eq_true rfl, Nat.le_of_ble_eq_true rfl⟩ hM.o rfl rfl rfl rfl (Nat.le_of_ble_eq_true rfl) ⟨Nat.le_of_ble_eq_true rfl, Nat.le_of_ble_eq_true rfl⟩ (fun _ _ _ q => False.elim q) (fun r w1 sz1 hz hP => ?_)
              obtain ⟨rfl, rfl, rfl⟩ := hP
              have hJ18 : MJ n (upd (upd (upd t 5 8) 6 ((10 * (v (28 + 9 * kc + 0))) - (v (28 + 9 * kc + 3)))) 1 3) v bf sv pa sg := (((hJ.j_t (by decide)).j_t (by decide)).j_t (by decide))
              refine x_st (st1 := [.int 0]) rfl ?_
              exact x_ireturn C0 dX8_fills_176 rfl rfl (Nat.le_of_ble_eq_true rfl) (Nat.le_of_ble_eq_true rfl) ⟨rfl, _, _, _, rfl, hJ18, ⟨⟨⟨_, rfl⟩, (((tK.rf.up (by decide)).up (by decide)).up (by decide))⟩, (Or.inr (Or.inr (Or.inl ⟨kc, a, b, rfl, hk3, hkc, rfl, rfl, ha, hb, ⟨ha3, hb3⟩, hs75, hs55, hq7, c10, rfl⟩)))⟩⟩
          · refine x_st (st1 := [.int 0]) rfl ?_
            refine x_if_ne 122 90 C0 dX8_fills_87 rfl (by decide) (fun q => False.elim (by revert q; decide)) (fun _ => ?_)
            refine x_aload_n 0 91 C0 dX8_fills_90 rfl rfl rfl ?_
            refine x_getf (v := .ref (g.2 0 + 258 + 1)) 8 94 C0 dX8_fills_91 rfl hM.o rfl (by decide) inX8 mF_X8_7 rfl ?_
            refine x_iload_n 1 95 C0 dX8_fills_94 rfl rfl rfl ?_
            refine x_iconst (v := 1) 96 C0 dX8_fills_95 rfl (by decide) ?_
            refine x_callS 99 C0 (k_X8_at l hl g _ _ (nI kc) 1) dX8_fills_96 rfl mC_X8_at mM_X8_71 mS_X8_at mN_X8 yd_X8_at rfl rfl ⟨Nat.le_of_ble_eq_true rfl, Nat.le_of_ble_eq_true rfl⟩ rfl rfl (Nat.le_of_ble_eq_true rfl) ⟨Nat.le_of_ble_eq_true rfl, Nat.le_of_ble_eq_true rfl⟩ (fun _ _ _ q => False.elim q) (fun r w1 sz1 hz hP => ?_)
            obtain ⟨rfl, rfl, rfl⟩ := hP
            refine x_st (st1 := [.int (nI (28 + 9 * kc + 1)), .ref (g.2 0 + 258 + 1)]) (congrArg (fun z => Value.int z :: _) (at_nI 28 9 kc 1)) ?_
            refine x_iald 0 100 C0 dX8_fills_99 rfl hM.r_v rfl (vp_in_nI (n := 28 + 9 * kc + 1) (by omega) (by decide)) ?_
            refine x_st (st1 := [.int (v (28 + 9 * kc + 1))]) (congrArg (fun z => Value.int z :: _) (show v (nI (28 + 9 * kc + 1)).toNatClampNeg = v (28 + 9 * kc + 1) from by rw [nI_clamp (by omega)])) ?_
            refine x_iload_n 2 101 C0 dX8_fills_100 rfl rfl rfl ?_
            refine x_icmp_ne 118 104 C0 dX8_fills_101 rfl (by decide) (fun c20 => ?_) (fun c20 => ?_)
            · refine x_iconst (v := 1) 119 C0 dX8_fills_118 rfl (by decide) ?_
              refine x_goto 123 C0 dX8_fills_119 (by decide) ?_
              refine x_istore [(7, .int 1), (0, .ref (g.2 0 + 258)), (1, .int (nI kc)), (2, .int (nI a)), (3, .int (nI b)), (4, .int po), (5, .int (nI (10 + 3 * a + b))), (6, .int ((10 * (v (28 + 9 * kc + 0))) - (v (28 + 9 * kc + 3))))] 125 C0 dX8_fills_123 rfl (by decide) rfl ?_
              refine x_lv (lv1 := [(0, .ref (g.2 0 + 258)), (1, .int (nI kc)), (2, .int (nI a)), (3, .int (nI b)), (4, .int po), (5, .int (nI (10 + 3 * a + b))), (6, .int ((10 * (v (28 + 9 * kc + 0))) - (v (28 + 9 * kc + 3)))), (7, .int 1)]) [1, 2, 3, 4, 5, 6, 7, 0] rfl ?_
              refine x_iload 7 127 C0 dX8_fills_125 rfl rfl ?_
              refine x_if_eq 161 130 C0 dX8_fills_127 rfl (by decide) (fun q => False.elim (by revert q; decide)) (fun _ => ?_)
              refine x_aload_n 0 131 C0 dX8_fills_130 rfl rfl rfl ?_
              refine x_bipush (v := 7) 133 C0 dX8_fills_131 rfl (by decide) ?_
              refine x_bipush (v := 10) 135 C0 dX8_fills_133 rfl (by decide) ?_
              refine x_aload_n 0 136 C0 dX8_fills_135 rfl rfl rfl ?_
              refine x_getf (v := .ref (g.2 0 + 258 + 1)) 8 139 C0 dX8_fills_136 rfl hM.o rfl (by decide) inX8 mF_X8_7 rfl ?_
              refine x_iload_n 1 140 C0 dX8_fills_139 rfl rfl rfl ?_
              refine x_iconst (v := 1) 141 C0 dX8_fills_140 rfl (by decide) ?_
              refine x_callS 144 C0 (k_X8_at l hl g _ _ (nI kc) 1) dX8_fills_141 rfl mC_X8_at mM_X8_71 mS_X8_at mN_X8 yd_X8_at rfl rfl ⟨Nat.le_of_ble_eq_true rfl, Nat.le_of_ble_eq_true rfl⟩ rfl rfl (Nat.le_of_ble_eq_true rfl) ⟨Nat.le_of_ble_eq_true rfl, Nat.le_of_ble_eq_true rfl⟩ (fun _ _ _ q => False.elim q) (fun r w1 sz1 hz hP => ?_)
              obtain ⟨rfl, rfl, rfl⟩ := hP
              refine x_st (st1 := [.int (nI (28 + 9 * kc + 1)), .ref (g.2 0 + 258 + 1), .int 10, .int 7, .ref (g.2 0 + 258)]) (congrArg (fun z => Value.int z :: _) (at_nI 28 9 kc 1)) ?_
              refine x_iald 0 145 C0 dX8_fills_144 rfl hM.r_v rfl (vp_in_nI (n := 28 + 9 * kc + 1) (by omega) (by decide)) ?_
              refine x_st (st1 := [.int (v (28 + 9 * kc + 1)), .int 10, .int 7, .ref (g.2 0 + 258)]) (congrArg (fun z => Value.int z :: _) (show v (nI (28 + 9 * kc + 1)).toNatClampNeg = v (28 + 9 * kc + 1) from by rw [nI_clamp (by omega)])) ?_
              refine x_imul 146 C0 dX8_fills_145 rfl ?_
              refine x_aload_n 0 147 C0 dX8_fills_146 rfl rfl rfl ?_
              refine x_getf (v := .ref (g.2 0 + 258 + 1)) 8 150 C0 dX8_fills_147 rfl hM.o rfl (by decide) inX8 mF_X8_7 rfl ?_
              refine x_iload_n 1 151 C0 dX8_fills_150 rfl rfl rfl ?_
              refine x_iconst (v := 2) 152 C0 dX8_fills_151 rfl (by decide) ?_
              refine x_callS 155 C0 (k_X8_at l hl g _ _ (nI kc) 2) dX8_fills_152 rfl mC_X8_at mM_X8_71 mS_X8_at mN_X8 yd_X8_at rfl rfl ⟨Nat.le_of_ble_eq_true rfl, Nat.le_of_ble_eq_true rfl⟩ rfl rfl (Nat.le_of_ble_eq_true rfl) ⟨Nat.le_of_ble_eq_true rfl, Nat.le_of_ble_eq_true rfl⟩ (fun _ _ _ q => False.elim q) (fun r w1 sz1 hz hP => ?_)
              obtain ⟨rfl, rfl, rfl⟩ := hP
              refine x_st (st1 := [.int (nI (28 + 9 * kc + 2)), .ref (g.2 0 + 258 + 1), .int (10 * (v (28 + 9 * kc + 1))), .int 7, .ref (g.2 0 + 258)]) (congrArg (fun z => Value.int z :: _) (at_nI 28 9 kc 2)) ?_
              refine x_iald 0 156 C0 dX8_fills_155 rfl hM.r_v rfl (vp_in_nI (n := 28 + 9 * kc + 2) (by omega) (by decide)) ?_
              refine x_st (st1 := [.int (v (28 + 9 * kc + 2)), .int (10 * (v (28 + 9 * kc + 1))), .int 7, .ref (g.2 0 + 258)]) (congrArg (fun z => Value.int z :: _) (show v (nI (28 + 9 * kc + 2)).toNatClampNeg = v (28 + 9 * kc + 2) from by rw [nI_clamp (by omega)])) ?_
              refine x_iadd 157 C0 dX8_fills_156 rfl ?_
              refine x_callV 160 C0 (k_X8_refuses l hl g _ _ n t v bf sv pa lb ip td sg hM hJ 7 ((10 * (v (28 + 9 * kc + 1))) + (v (28 + 9 * kc + 2)))) dX8_fills_157 rfl mC_X8_refuses mM_X8_82 mI_X8_refuses mV_X8_refuses mN_X8 yd_X8_refuses rfl rfl ⟨Nat.le_of_ble_eq_true rfl, Nat.le_of_ble_eq_true rfl⟩ hM.o rfl rfl rfl rfl (Nat.le_of_ble_eq_true rfl) ⟨Nat.le_of_ble_eq_true rfl, Nat.le_of_ble_eq_true rfl⟩ (fun _ _ _ q => False.elim q) (fun r w1 sz1 hz hP => ?_)
              obtain ⟨rfl, rfl, rfl⟩ := hP
              have hJ22 : MJ n (upd (upd (upd t 5 7) 6 ((10 * (v (28 + 9 * kc + 1))) + (v (28 + 9 * kc + 2)))) 1 3) v bf sv pa sg := (((hJ.j_t (by decide)).j_t (by decide)).j_t (by decide))
              refine x_st (st1 := [.int 0]) rfl ?_
              exact x_ireturn C0 dX8_fills_160 rfl rfl (Nat.le_of_ble_eq_true rfl) (Nat.le_of_ble_eq_true rfl) ⟨rfl, _, _, _, rfl, hJ22, ⟨⟨⟨_, rfl⟩, (((tK.rf.up (by decide)).up (by decide)).up (by decide))⟩, (Or.inr (Or.inr (Or.inr (Or.inl ⟨kc, a, b, rfl, hk3, hkc, rfl, rfl, ha, hb, ⟨ha3, hb3⟩, hs75, hs55, hq7, c20, rfl⟩))))⟩⟩
            · refine x_aload_n 0 105 C0 dX8_fills_104 rfl rfl rfl ?_
              refine x_getf (v := .ref (g.2 0 + 258 + 1)) 8 108 C0 dX8_fills_105 rfl hM.o rfl (by decide) inX8 mF_X8_7 rfl ?_
              refine x_iload_n 1 109 C0 dX8_fills_108 rfl rfl rfl ?_
              refine x_iconst (v := 2) 110 C0 dX8_fills_109 rfl (by decide) ?_
              refine x_callS 113 C0 (k_X8_at l hl g _ _ (nI kc) 2) dX8_fills_110 rfl mC_X8_at mM_X8_71 mS_X8_at mN_X8 yd_X8_at rfl rfl ⟨Nat.le_of_ble_eq_true rfl, Nat.le_of_ble_eq_true rfl⟩ rfl rfl (Nat.le_of_ble_eq_true rfl) ⟨Nat.le_of_ble_eq_true rfl, Nat.le_of_ble_eq_true rfl⟩ (fun _ _ _ q => False.elim q) (fun r w1 sz1 hz hP => ?_)
              obtain ⟨rfl, rfl, rfl⟩ := hP
              refine x_st (st1 := [.int (nI (28 + 9 * kc + 2)), .ref (g.2 0 + 258 + 1)]) (congrArg (fun z => Value.int z :: _) (at_nI 28 9 kc 2)) ?_
              refine x_iald 0 114 C0 dX8_fills_113 rfl hM.r_v rfl (vp_in_nI (n := 28 + 9 * kc + 2) (by omega) (by decide)) ?_
              refine x_st (st1 := [.int (v (28 + 9 * kc + 2))]) (congrArg (fun z => Value.int z :: _) (show v (nI (28 + 9 * kc + 2)).toNatClampNeg = v (28 + 9 * kc + 2) from by rw [nI_clamp (by omega)])) ?_
              refine x_iload_n 3 115 C0 dX8_fills_114 rfl rfl rfl ?_
              refine x_icmp_eq 122 118 C0 dX8_fills_115 rfl (by decide) (fun c23 => ?_) (fun c23 => ?_)
              · refine x_iconst (v := 0) 123 C0 dX8_fills_122 rfl (by decide) ?_
                refine x_istore [(7, .int 0), (0, .ref (g.2 0 + 258)), (1, .int (nI kc)), (2, .int (nI a)), (3, .int (nI b)), (4, .int po), (5, .int (nI (10 + 3 * a + b))), (6, .int ((10 * (v (28 + 9 * kc + 0))) - (v (28 + 9 * kc + 3))))] 125 C0 dX8_fills_123 rfl (by decide) rfl ?_
                refine x_lv (lv1 := [(0, .ref (g.2 0 + 258)), (1, .int (nI kc)), (2, .int (nI a)), (3, .int (nI b)), (4, .int po), (5, .int (nI (10 + 3 * a + b))), (6, .int ((10 * (v (28 + 9 * kc + 0))) - (v (28 + 9 * kc + 3)))), (7, .int 0)]) [1, 2, 3, 4, 5, 6, 7, 0] rfl ?_
                refine x_iload 7 127 C0 dX8_fills_125 rfl rfl ?_
                refine x_if_eq 161 130 C0 dX8_fills_127 rfl (by decide) (fun _ => ?_) (fun q => False.elim (by revert q; decide))
                refine x_iload 6 163 C0 dX8_fills_161 rfl rfl ?_
                refine x_iload 4 165 C0 dX8_fills_163 rfl rfl ?_
                refine x_icmp_ge 177 168 C0 dX8_fills_165 rfl (by decide) (fun c25 => ?_) (fun c25 => ?_)
                · have c25' := Int32.not_lt.mpr c25
                  refine x_aload_n 0 178 C0 dX8_fills_177 rfl rfl rfl ?_
                  refine x_getf (v := .ref (g.2 0 + 258 + 1)) 8 181 C0 dX8_fills_178 rfl hM.o rfl (by decide) inX8 mF_X8_7 rfl ?_
                  refine x_iload 5 183 C0 dX8_fills_181 rfl rfl ?_
                  refine x_iald 0 184 C0 dX8_fills_183 rfl hM.r_v rfl (vp_in_nI (n := 10 + 3 * a + b) (by omega) (by decide)) ?_
                  refine x_st (st1 := [.int (v (10 + 3 * a + b))]) (congrArg (fun z => Value.int z :: _) (show v (nI (10 + 3 * a + b)).toNatClampNeg = v (10 + 3 * a + b) from by rw [nI_clamp (by omega)])) ?_
                  refine x_iload 4 186 C0 dX8_fills_184 rfl rfl ?_
                  refine x_icmp_ge 203 189 C0 dX8_fills_186 rfl (by decide) (fun c26 => ?_) (fun c26 => ?_)
                  · have c26' := Int32.not_lt.mpr c26
                    refine x_aload_n 0 204 C0 dX8_fills_203 rfl rfl rfl ?_
                    refine x_getf (v := .ref (g.2 0 + 258 + 1)) 8 207 C0 dX8_fills_204 rfl hM.o rfl (by decide) inX8 mF_X8_7 rfl ?_
                    refine x_iload 5 209 C0 dX8_fills_207 rfl rfl ?_
                    refine x_dup2 210 C0 dX8_fills_209 rfl rfl rfl ?_
                    refine x_iald 0 211 C0 dX8_fills_210 rfl hM.r_v rfl (vp_in_nI (n := 10 + 3 * a + b) (by omega) (by decide)) ?_
                    refine x_st (st1 := [.int (v (10 + 3 * a + b)), .int (nI (10 + 3 * a + b)), .ref (g.2 0 + 258 + 1)]) (congrArg (fun z => Value.int z :: _) (show v (nI (10 + 3 * a + b)).toNatClampNeg = v (10 + 3 * a + b) from by rw [nI_clamp (by omega)])) ?_
                    refine x_iload 4 213 C0 dX8_fills_211 rfl rfl ?_
                    refine x_isub 214 C0 dX8_fills_213 rfl ?_
                    refine x_w (MW_self hM) ?_
                    refine x_iast 0 215 C0 dX8_fills_214 rfl MR_MW.r_v (by show g.2 0 ≤ _; omega) rfl (vp_in_nI (n := 10 + 3 * a + b) (by omega) (by decide)) ?_
                    refine x_w (w1 := (MW g w t (upd v (10 + 3 * a + b) ((v (10 + 3 * a + b)) - po)) bf sv pa lb ip td sg)) (by rw [show (nI (10 + 3 * a + b) : Int32).toNatClampNeg = (10 + 3 * a + b) from nI_clamp (n := 10 + 3 * a + b) (by omega)]; exact MW_v) ?_
                    have hJ27 : MJ n t (upd v (10 + 3 * a + b) ((v (10 + 3 * a + b)) - po)) bf sv pa sg := hJ.j_v (hJ.1.up (Or.inl (by omega)))
                    refine x_aload_n 0 216 C0 dX8_fills_215 rfl rfl rfl ?_
                    refine x_getf (v := .ref (g.2 0 + 258 + 1)) 8 219 C0 dX8_fills_216 rfl MR_MW.o rfl (by decide) inX8 mF_X8_7 rfl ?_
                    refine x_iload_n 1 220 C0 dX8_fills_219 rfl rfl rfl ?_
                    refine x_iconst (v := 1) 221 C0 dX8_fills_220 rfl (by decide) ?_
                    refine x_callS 224 C0 (k_X8_at l hl g _ _ (nI kc) 1) dX8_fills_221 rfl mC_X8_at mM_X8_71 mS_X8_at mN_X8 yd_X8_at rfl rfl ⟨Nat.le_of_ble_eq_true rfl, Nat.le_of_ble_eq_true rfl⟩ rfl rfl (Nat.le_of_ble_eq_true rfl) ⟨Nat.le_of_ble_eq_true rfl, Nat.le_of_ble_eq_true rfl⟩ (fun _ _ _ q => False.elim q) (fun r w1 sz1 hz hP => ?_)
                    obtain ⟨rfl, rfl, rfl⟩ := hP
                    refine x_st (st1 := [.int (nI (28 + 9 * kc + 1)), .ref (g.2 0 + 258 + 1)]) (congrArg (fun z => Value.int z :: _) (at_nI 28 9 kc 1)) ?_
                    refine x_iload_n 2 225 C0 dX8_fills_224 rfl rfl rfl ?_
                    refine x_iast 0 226 C0 dX8_fills_225 rfl MR_MW.r_v (by show g.2 0 ≤ _; omega) rfl (vp_in_nI (n := 28 + 9 * kc + 1) (by omega) (by decide)) ?_
                    refine x_w (w1 := (MW g w t (upd (upd v (10 + 3 * a + b) ((v (10 + 3 * a + b)) - po)) (28 + 9 * kc + 1) (nI a)) bf sv pa lb ip td sg)) (by rw [show (nI (28 + 9 * kc + 1) : Int32).toNatClampNeg = (28 + 9 * kc + 1) from nI_clamp (n := 28 + 9 * kc + 1) (by omega)]; exact MW_v) ?_
                    have hJ28 : MJ n t (upd (upd v (10 + 3 * a + b) ((v (10 + 3 * a + b)) - po)) (28 + 9 * kc + 1) (nI a)) bf sv pa sg := hJ27.j_v (hJ27.1.ga hkc ha)
                    refine x_aload_n 0 227 C0 dX8_fills_226 rfl rfl rfl ?_
                    refine x_getf (v := .ref (g.2 0 + 258 + 1)) 8 230 C0 dX8_fills_227 rfl MR_MW.o rfl (by decide) inX8 mF_X8_7 rfl ?_
                    refine x_iload_n 1 231 C0 dX8_fills_230 rfl rfl rfl ?_
                    refine x_iconst (v := 2) 232 C0 dX8_fills_231 rfl (by decide) ?_
                    refine x_callS 235 C0 (k_X8_at l hl g _ _ (nI kc) 2) dX8_fills_232 rfl mC_X8_at mM_X8_71 mS_X8_at mN_X8 yd_X8_at rfl rfl ⟨Nat.le_of_ble_eq_true rfl, Nat.le_of_ble_eq_true rfl⟩ rfl rfl (Nat.le_of_ble_eq_true rfl) ⟨Nat.le_of_ble_eq_true rfl, Nat.le_of_ble_eq_true rfl⟩ (fun _ _ _ q => False.elim q) (fun r w1 sz1 hz hP => ?_)
                    obtain ⟨rfl, rfl, rfl⟩ := hP
                    refine x_st (st1 := [.int (nI (28 + 9 * kc + 2)), .ref (g.2 0 + 258 + 1)]) (congrArg (fun z => Value.int z :: _) (at_nI 28 9 kc 2)) ?_
                    refine x_iload_n 3 236 C0 dX8_fills_235 rfl rfl rfl ?_
                    refine x_iast 0 237 C0 dX8_fills_236 rfl MR_MW.r_v (by show g.2 0 ≤ _; omega) rfl (vp_in_nI (n := 28 + 9 * kc + 2) (by omega) (by decide)) ?_
                    refine x_w (w1 := (MW g w t (upd (upd (upd v (10 + 3 * a + b) ((v (10 + 3 * a + b)) - po)) (28 + 9 * kc + 1) (nI a)) (28 + 9 * kc + 2) (nI b)) bf sv pa lb ip td sg)) (by rw [show (nI (28 + 9 * kc + 2) : Int32).toNatClampNeg = (28 + 9 * kc + 2) from nI_clamp (n := 28 + 9 * kc + 2) (by omega)]; exact MW_v) ?_
                    have hJ29 : MJ n t (upd (upd (upd v (10 + 3 * a + b) ((v (10 + 3 * a + b)) - po)) (28 + 9 * kc + 1) (nI a)) (28 + 9 * kc + 2) (nI b)) bf sv pa sg := hJ28.j_v (hJ28.1.ki hkc hb)
                    refine x_aload_n 0 238 C0 dX8_fills_237 rfl rfl rfl ?_
                    refine x_getf (v := .ref (g.2 0 + 258 + 1)) 8 241 C0 dX8_fills_238 rfl MR_MW.o rfl (by decide) inX8 mF_X8_7 rfl ?_
                    refine x_iload_n 1 242 C0 dX8_fills_241 rfl rfl rfl ?_
                    refine x_iconst (v := 3) 243 C0 dX8_fills_242 rfl (by decide) ?_
                    refine x_callS 246 C0 (k_X8_at l hl g _ _ (nI kc) 3) dX8_fills_243 rfl mC_X8_at mM_X8_71 mS_X8_at mN_X8 yd_X8_at rfl rfl ⟨Nat.le_of_ble_eq_true rfl, Nat.le_of_ble_eq_true rfl⟩ rfl rfl (Nat.le_of_ble_eq_true rfl) ⟨Nat.le_of_ble_eq_true rfl, Nat.le_of_ble_eq_true rfl⟩ (fun _ _ _ q => False.elim q) (fun r w1 sz1 hz hP => ?_)
                    obtain ⟨rfl, rfl, rfl⟩ := hP
                    refine x_st (st1 := [.int (nI (28 + 9 * kc + 3)), .ref (g.2 0 + 258 + 1)]) (congrArg (fun z => Value.int z :: _) (at_nI 28 9 kc 3)) ?_
                    refine x_dup2 247 C0 dX8_fills_246 rfl rfl rfl ?_
                    refine x_iald 0 248 C0 dX8_fills_247 rfl MR_MW.r_v rfl (vp_in_nI (n := 28 + 9 * kc + 3) (by omega) (by decide)) ?_
                    refine x_st (st1 := [.int ((upd (upd (upd v (10 + 3 * a + b) ((v (10 + 3 * a + b)) - po)) (28 + 9 * kc + 1) (nI a)) (28 + 9 * kc + 2) (nI b)) (28 + 9 * kc + 3)), .int (nI (28 + 9 * kc + 3)), .ref (g.2 0 + 258 + 1)]) (congrArg (fun z => Value.int z :: _) (show (upd (upd (upd v (10 + 3 * a + b) ((v (10 + 3 * a + b)) - po)) (28 + 9 * kc + 1) (nI a)) (28 + 9 * kc + 2) (nI b)) (nI (28 + 9 * kc + 3)).toNatClampNeg = (upd (upd (upd v (10 + 3 * a + b) ((v (10 + 3 * a + b)) - po)) (28 + 9 * kc + 1) (nI a)) (28 + 9 * kc + 2) (nI b)) (28 + 9 * kc + 3) from by rw [nI_clamp (by omega)])) ?_
                    refine x_iload 4 250 C0 dX8_fills_248 rfl rfl ?_
                    refine x_iadd 251 C0 dX8_fills_250 rfl ?_
                    refine x_iast 0 252 C0 dX8_fills_251 rfl MR_MW.r_v (by show g.2 0 ≤ _; omega) rfl (vp_in_nI (n := 28 + 9 * kc + 3) (by omega) (by decide)) ?_
                    refine x_w (w1 := (MW g w t (upd (upd (upd (upd v (10 + 3 * a + b) ((v (10 + 3 * a + b)) - po)) (28 + 9 * kc + 1) (nI a)) (28 + 9 * kc + 2) (nI b)) (28 + 9 * kc + 3) (((upd (upd (upd v (10 + 3 * a + b) ((v (10 + 3 * a + b)) - po)) (28 + 9 * kc + 1) (nI a)) (28 + 9 * kc + 2) (nI b)) (28 + 9 * kc + 3)) + po)) bf sv pa lb ip td sg)) (by rw [show (nI (28 + 9 * kc + 3) : Int32).toNatClampNeg = (28 + 9 * kc + 3) from nI_clamp (n := 28 + 9 * kc + 3) (by omega)]; exact MW_v) ?_
                    have hJ30 : MJ n t (upd (upd (upd (upd v (10 + 3 * a + b) ((v (10 + 3 * a + b)) - po)) (28 + 9 * kc + 1) (nI a)) (28 + 9 * kc + 2) (nI b)) (28 + 9 * kc + 3) (((upd (upd (upd v (10 + 3 * a + b) ((v (10 + 3 * a + b)) - po)) (28 + 9 * kc + 1) (nI a)) (28 + 9 * kc + 2) (nI b)) (28 + 9 * kc + 3)) + po)) bf sv pa sg := hJ29.j_v (hJ29.1.po hkc ha hb ((if_neg (by omega)).trans (if_pos rfl)) (if_pos rfl))
                    refine x_aload_n 0 253 C0 dX8_fills_252 rfl rfl rfl ?_
                    refine x_getf (v := .ref (g.2 0 + 258 + 1)) 8 256 C0 dX8_fills_253 rfl MR_MW.o rfl (by decide) inX8 mF_X8_7 rfl ?_
                    refine x_iload_n 1 257 C0 dX8_fills_256 rfl rfl rfl ?_
                    refine x_bipush (v := 8) 259 C0 dX8_fills_257 rfl (by decide) ?_
                    refine x_callS 262 C0 (k_X8_at l hl g _ _ (nI kc) 8) dX8_fills_259 rfl mC_X8_at mM_X8_71 mS_X8_at mN_X8 yd_X8_at rfl rfl ⟨Nat.le_of_ble_eq_true rfl, Nat.le_of_ble_eq_true rfl⟩ rfl rfl (Nat.le_of_ble_eq_true rfl) ⟨Nat.le_of_ble_eq_true rfl, Nat.le_of_ble_eq_true rfl⟩ (fun _ _ _ q => False.elim q) (fun r w1 sz1 hz hP => ?_)
                    obtain ⟨rfl, rfl, rfl⟩ := hP
                    refine x_st (st1 := [.int (nI (28 + 9 * kc + 8)), .ref (g.2 0 + 258 + 1)]) (congrArg (fun z => Value.int z :: _) (at_nI 28 9 kc 8)) ?_
                    refine x_iconst (v := 0) 263 C0 dX8_fills_262 rfl (by decide) ?_
                    refine x_iast 0 264 C0 dX8_fills_263 rfl MR_MW.r_v (by show g.2 0 ≤ _; omega) rfl (vp_in_nI (n := 28 + 9 * kc + 8) (by omega) (by decide)) ?_
                    refine x_w (w1 := (MW g w t (upd (upd (upd (upd (upd v (10 + 3 * a + b) ((v (10 + 3 * a + b)) - po)) (28 + 9 * kc + 1) (nI a)) (28 + 9 * kc + 2) (nI b)) (28 + 9 * kc + 3) (((upd (upd (upd v (10 + 3 * a + b) ((v (10 + 3 * a + b)) - po)) (28 + 9 * kc + 1) (nI a)) (28 + 9 * kc + 2) (nI b)) (28 + 9 * kc + 3)) + po)) (28 + 9 * kc + 8) 0) bf sv pa lb ip td sg)) (by rw [show (nI (28 + 9 * kc + 8) : Int32).toNatClampNeg = (28 + 9 * kc + 8) from nI_clamp (n := 28 + 9 * kc + 8) (by omega)]; exact MW_v) ?_
                    have hJ31 : MJ n t (upd (upd (upd (upd (upd v (10 + 3 * a + b) ((v (10 + 3 * a + b)) - po)) (28 + 9 * kc + 1) (nI a)) (28 + 9 * kc + 2) (nI b)) (28 + 9 * kc + 3) (((upd (upd (upd v (10 + 3 * a + b) ((v (10 + 3 * a + b)) - po)) (28 + 9 * kc + 1) (nI a)) (28 + 9 * kc + 2) (nI b)) (28 + 9 * kc + 3)) + po)) (28 + 9 * kc + 8) 0) bf sv pa sg := hJ30.j_v (hJ30.1.la0 hkc)
                    refine x_iload 6 266 C0 dX8_fills_264 rfl rfl ?_
                    refine x_iload 4 268 C0 dX8_fills_266 rfl rfl ?_
                    refine x_isub 269 C0 dX8_fills_268 rfl ?_
                    exact x_ireturn C0 dX8_fills_269 rfl rfl (Nat.le_of_ble_eq_true rfl) (Nat.le_of_ble_eq_true rfl) ⟨rfl, _, _, _, rfl, hJ31, ⟨⟨⟨_, rfl⟩, tK.rf⟩, (Or.inr (Or.inr (Or.inr (Or.inr (Or.inl ⟨kc, a, b, rfl, hk3, hkc, rfl, rfl, ha, hb, ⟨ha3, hb3⟩, hs75, hs55, hq7, c20, c23, c25, c26, rfl, rfl, rfl⟩)))))⟩⟩
                  · have c26' := Int32.not_le.mp c26
                    refine x_aload_n 0 190 C0 dX8_fills_189 rfl rfl rfl ?_
                    refine x_bipush (v := 9) 192 C0 dX8_fills_190 rfl (by decide) ?_
                    refine x_aload_n 0 193 C0 dX8_fills_192 rfl rfl rfl ?_
                    refine x_getf (v := .ref (g.2 0 + 258 + 1)) 8 196 C0 dX8_fills_193 rfl hM.o rfl (by decide) inX8 mF_X8_7 rfl ?_
                    refine x_iload 5 198 C0 dX8_fills_196 rfl rfl ?_
                    refine x_iald 0 199 C0 dX8_fills_198 rfl hM.r_v rfl (vp_in_nI (n := 10 + 3 * a + b) (by omega) (by decide)) ?_
                    refine x_st (st1 := [.int (v (10 + 3 * a + b)), .int 9, .ref (g.2 0 + 258)]) (congrArg (fun z => Value.int z :: _) (show v (nI (10 + 3 * a + b)).toNatClampNeg = v (10 + 3 * a + b) from by rw [nI_clamp (by omega)])) ?_
                    refine x_callV 202 C0 (k_X8_refuses l hl g _ _ n t v bf sv pa lb ip td sg hM hJ 9 (v (10 + 3 * a + b))) dX8_fills_199 rfl mC_X8_refuses mM_X8_82 mI_X8_refuses mV_X8_refuses mN_X8 yd_X8_refuses rfl rfl ⟨Nat.le_of_ble_eq_true rfl, Nat.le_of_ble_eq_true rfl⟩ hM.o rfl rfl rfl rfl (Nat.le_of_ble_eq_true rfl) ⟨Nat.le_of_ble_eq_true rfl, Nat.le_of_ble_eq_true rfl⟩ (fun _ _ _ q => False.elim q) (fun r w1 sz1 hz hP => ?_)
                    obtain ⟨rfl, rfl, rfl⟩ := hP
                    have hJ32 : MJ n (upd (upd (upd t 5 9) 6 (v (10 + 3 * a + b))) 1 3) v bf sv pa sg := (((hJ.j_t (by decide)).j_t (by decide)).j_t (by decide))
                    refine x_st (st1 := [.int 0]) rfl ?_
                    exact x_ireturn C0 dX8_fills_202 rfl rfl (Nat.le_of_ble_eq_true rfl) (Nat.le_of_ble_eq_true rfl) ⟨rfl, _, _, _, rfl, hJ32, ⟨⟨⟨_, rfl⟩, (((tK.rf.up (by decide)).up (by decide)).up (by decide))⟩, (Or.inr (Or.inr (Or.inr (Or.inr (Or.inr (Or.inl ⟨kc, a, b, rfl, hk3, hkc, rfl, rfl, ha, hb, ⟨ha3, hb3⟩, hs75, hs55, hq7, c20, c23, c25, c26, rfl⟩))))))⟩⟩
                · have c25' := Int32.not_le.mp c25
                  refine x_aload_n 0 169 C0 dX8_fills_168 rfl rfl rfl ?_
                  refine x_bipush (v := 8) 171 C0 dX8_fills_169 rfl (by decide) ?_
                  refine x_iload 6 173 C0 dX8_fills_171 rfl rfl ?_
                  refine x_callV 176 C0 (k_X8_refuses l hl g _ _ n t v bf sv pa lb ip td sg hM hJ 8 ((10 * (v (28 + 9 * kc + 0))) - (v (28 + 9 * kc + 3)))) dX8_fills_173 rfl mC_X8_refuses mM_X8_82 mI_X8_refuses mV_X8_refuses mN_X8 yd_X8_refuses rfl rfl ⟨Nat.le_of_ble_eq_true rfl, Nat.le_of_ble_eq_true rfl⟩ hM.o rfl rfl rfl rfl (Nat.le_of_ble_eq_true rfl) ⟨Nat.le_of_ble_eq_true rfl, Nat.le_of_ble_eq_true rfl⟩ (fun _ _ _ q => False.elim q) (fun r w1 sz1 hz hP => ?_)
                  obtain ⟨rfl, rfl, rfl⟩ := hP
                  have hJ33 : MJ n (upd (upd (upd t 5 8) 6 ((10 * (v (28 + 9 * kc + 0))) - (v (28 + 9 * kc + 3)))) 1 3) v bf sv pa sg := (((hJ.j_t (by decide)).j_t (by decide)).j_t (by decide))
                  refine x_st (st1 := [.int 0]) rfl ?_
                  exact x_ireturn C0 dX8_fills_176 rfl rfl (Nat.le_of_ble_eq_true rfl) (Nat.le_of_ble_eq_true rfl) ⟨rfl, _, _, _, rfl, hJ33, ⟨⟨⟨_, rfl⟩, (((tK.rf.up (by decide)).up (by decide)).up (by decide))⟩, (Or.inr (Or.inr (Or.inr (Or.inr (Or.inr (Or.inr (Or.inl ⟨kc, a, b, rfl, hk3, hkc, rfl, rfl, ha, hb, ⟨ha3, hb3⟩, hs75, hs55, hq7, c20, c23, c25, rfl⟩)))))))⟩⟩
              · refine x_iconst (v := 1) 119 C0 dX8_fills_118 rfl (by decide) ?_
                refine x_goto 123 C0 dX8_fills_119 (by decide) ?_
                refine x_istore [(7, .int 1), (0, .ref (g.2 0 + 258)), (1, .int (nI kc)), (2, .int (nI a)), (3, .int (nI b)), (4, .int po), (5, .int (nI (10 + 3 * a + b))), (6, .int ((10 * (v (28 + 9 * kc + 0))) - (v (28 + 9 * kc + 3))))] 125 C0 dX8_fills_123 rfl (by decide) rfl ?_
                refine x_lv (lv1 := [(0, .ref (g.2 0 + 258)), (1, .int (nI kc)), (2, .int (nI a)), (3, .int (nI b)), (4, .int po), (5, .int (nI (10 + 3 * a + b))), (6, .int ((10 * (v (28 + 9 * kc + 0))) - (v (28 + 9 * kc + 3)))), (7, .int 1)]) [1, 2, 3, 4, 5, 6, 7, 0] rfl ?_
                refine x_iload 7 127 C0 dX8_fills_125 rfl rfl ?_
                refine x_if_eq 161 130 C0 dX8_fills_127 rfl (by decide) (fun q => False.elim (by revert q; decide)) (fun _ => ?_)
                refine x_aload_n 0 131 C0 dX8_fills_130 rfl rfl rfl ?_
                refine x_bipush (v := 7) 133 C0 dX8_fills_131 rfl (by decide) ?_
                refine x_bipush (v := 10) 135 C0 dX8_fills_133 rfl (by decide) ?_
                refine x_aload_n 0 136 C0 dX8_fills_135 rfl rfl rfl ?_
                refine x_getf (v := .ref (g.2 0 + 258 + 1)) 8 139 C0 dX8_fills_136 rfl hM.o rfl (by decide) inX8 mF_X8_7 rfl ?_
                refine x_iload_n 1 140 C0 dX8_fills_139 rfl rfl rfl ?_
                refine x_iconst (v := 1) 141 C0 dX8_fills_140 rfl (by decide) ?_
                refine x_callS 144 C0 (k_X8_at l hl g _ _ (nI kc) 1) dX8_fills_141 rfl mC_X8_at mM_X8_71 mS_X8_at mN_X8 yd_X8_at rfl rfl ⟨Nat.le_of_ble_eq_true rfl, Nat.le_of_ble_eq_true rfl⟩ rfl rfl (Nat.le_of_ble_eq_true rfl) ⟨Nat.le_of_ble_eq_true rfl, Nat.le_of_ble_eq_true rfl⟩ (fun _ _ _ q => False.elim q) (fun r w1 sz1 hz hP => ?_)
                obtain ⟨rfl, rfl, rfl⟩ := hP
                refine x_st (st1 := [.int (nI (28 + 9 * kc + 1)), .ref (g.2 0 + 258 + 1), .int 10, .int 7, .ref (g.2 0 + 258)]) (congrArg (fun z => Value.int z :: _) (at_nI 28 9 kc 1)) ?_
                refine x_iald 0 145 C0 dX8_fills_144 rfl hM.r_v rfl (vp_in_nI (n := 28 + 9 * kc + 1) (by omega) (by decide)) ?_
                refine x_st (st1 := [.int (v (28 + 9 * kc + 1)), .int 10, .int 7, .ref (g.2 0 + 258)]) (congrArg (fun z => Value.int z :: _) (show v (nI (28 + 9 * kc + 1)).toNatClampNeg = v (28 + 9 * kc + 1) from by rw [nI_clamp (by omega)])) ?_
                refine x_imul 146 C0 dX8_fills_145 rfl ?_
                refine x_aload_n 0 147 C0 dX8_fills_146 rfl rfl rfl ?_
                refine x_getf (v := .ref (g.2 0 + 258 + 1)) 8 150 C0 dX8_fills_147 rfl hM.o rfl (by decide) inX8 mF_X8_7 rfl ?_
                refine x_iload_n 1 151 C0 dX8_fills_150 rfl rfl rfl ?_
                refine x_iconst (v := 2) 152 C0 dX8_fills_151 rfl (by decide) ?_
                refine x_callS 155 C0 (k_X8_at l hl g _ _ (nI kc) 2) dX8_fills_152 rfl mC_X8_at mM_X8_71 mS_X8_at mN_X8 yd_X8_at rfl rfl ⟨Nat.le_of_ble_eq_true rfl, Nat.le_of_ble_eq_true rfl⟩ rfl rfl (Nat.le_of_ble_eq_true rfl) ⟨Nat.le_of_ble_eq_true rfl, Nat.le_of_ble_eq_true rfl⟩ (fun _ _ _ q => False.elim q) (fun r w1 sz1 hz hP => ?_)
                obtain ⟨rfl, rfl, rfl⟩ := hP
                refine x_st (st1 := [.int (nI (28 + 9 * kc + 2)), .ref (g.2 0 + 258 + 1), .int (10 * (v (28 + 9 * kc + 1))), .int 7, .ref (g.2 0 + 258)]) (congrArg (fun z => Value.int z :: _) (at_nI 28 9 kc 2)) ?_
                refine x_iald 0 156 C0 dX8_fills_155 rfl hM.r_v rfl (vp_in_nI (n := 28 + 9 * kc + 2) (by omega) (by decide)) ?_
                refine x_st (st1 := [.int (v (28 + 9 * kc + 2)), .int (10 * (v (28 + 9 * kc + 1))), .int 7, .ref (g.2 0 + 258)]) (congrArg (fun z => Value.int z :: _) (show v (nI (28 + 9 * kc + 2)).toNatClampNeg = v (28 + 9 * kc + 2) from by rw [nI_clamp (by omega)])) ?_
                refine x_iadd 157 C0 dX8_fills_156 rfl ?_
                refine x_callV 160 C0 (k_X8_refuses l hl g _ _ n t v bf sv pa lb ip td sg hM hJ 7 ((10 * (v (28 + 9 * kc + 1))) + (v (28 + 9 * kc + 2)))) dX8_fills_157 rfl mC_X8_refuses mM_X8_82 mI_X8_refuses mV_X8_refuses mN_X8 yd_X8_refuses rfl rfl ⟨Nat.le_of_ble_eq_true rfl, Nat.le_of_ble_eq_true rfl⟩ hM.o rfl rfl rfl rfl (Nat.le_of_ble_eq_true rfl) ⟨Nat.le_of_ble_eq_true rfl, Nat.le_of_ble_eq_true rfl⟩ (fun _ _ _ q => False.elim q) (fun r w1 sz1 hz hP => ?_)
                obtain ⟨rfl, rfl, rfl⟩ := hP
                have hJ35 : MJ n (upd (upd (upd t 5 7) 6 ((10 * (v (28 + 9 * kc + 1))) + (v (28 + 9 * kc + 2)))) 1 3) v bf sv pa sg := (((hJ.j_t (by decide)).j_t (by decide)).j_t (by decide))
                refine x_st (st1 := [.int 0]) rfl ?_
                exact x_ireturn C0 dX8_fills_160 rfl rfl (Nat.le_of_ble_eq_true rfl) (Nat.le_of_ble_eq_true rfl) ⟨rfl, _, _, _, rfl, hJ35, ⟨⟨⟨_, rfl⟩, (((tK.rf.up (by decide)).up (by decide)).up (by decide))⟩, (Or.inr (Or.inr (Or.inr (Or.inr (Or.inr (Or.inr (Or.inr (Or.inl ⟨kc, a, b, rfl, hk3, hkc, rfl, rfl, ha, hb, ⟨ha3, hb3⟩, hs75, hs55, hq7, c20, c23, rfl⟩))))))))⟩⟩
        · refine x_st (st1 := [.int 1]) rfl ?_
          refine x_if_eq 49 47 C0 dX8_fills_44 rfl (by decide) (fun q => False.elim (by revert q; decide)) (fun _ => ?_)
          refine x_iconst (v := 0) 48 C0 dX8_fills_47 rfl (by decide) ?_
          exact x_ireturn C0 dX8_fills_48 rfl rfl (Nat.le_of_ble_eq_true rfl) (Nat.le_of_ble_eq_true rfl) ⟨rfl, _, _, _, rfl, hJ5, ⟨⟨⟨_, rfl⟩, (he5.trans tK.rf)⟩, (Or.inr (Or.inr (Or.inr (Or.inr (Or.inr (Or.inr (Or.inr (Or.inr (Or.inl ⟨kc, a, b, t5, rfl, hk3, hkc, rfl, rfl, ha, hb, ⟨ha3, hb3⟩, hsn5, h15, h15⟩)))))))))⟩⟩
      · refine x_st (st1 := [.int 0]) rfl ?_
        refine x_if_ne 39 33 C0 dX8_fills_30 rfl (by decide) (fun q => False.elim (by revert q; decide)) (fun _ => ?_)
        refine x_aload_n 0 34 C0 dX8_fills_33 rfl rfl rfl ?_
        refine x_iconst (v := 2) 35 C0 dX8_fills_34 rfl (by decide) ?_
        refine x_callV 38 C0 (k_X8_fail l hl g _ _ n t v bf sv pa lb ip td sg hM hJ 2) dX8_fills_35 rfl mC_X8_fail mM_X8_47 mI_X8_fail mV_X8_fail mN_X8 yd_X8_fail rfl rfl ⟨Nat.le_of_ble_eq_true rfl, Nat.le_of_ble_eq_true rfl⟩ hM.o rfl rfl rfl rfl (Nat.le_of_ble_eq_true rfl) ⟨Nat.le_of_ble_eq_true rfl, Nat.le_of_ble_eq_true rfl⟩ (fun _ _ _ q => False.elim q) (fun r w1 sz1 hz hP => ?_)
        obtain ⟨rfl, rfl, rfl⟩ := hP
        have hJ38 : MJ n (upd t 1 2) v bf sv pa sg := (hJ.j_t (by decide))
        refine x_st (st1 := [.int 0]) rfl ?_
        exact x_ireturn C0 dX8_fills_38 rfl rfl (Nat.le_of_ble_eq_true rfl) (Nat.le_of_ble_eq_true rfl) ⟨rfl, _, _, _, rfl, hJ38, ⟨⟨⟨_, rfl⟩, (tK.rf.up (by decide))⟩, (Or.inr (Or.inr (Or.inr (Or.inr (Or.inr (Or.inr (Or.inr (Or.inr (Or.inr (Or.inl ⟨kc, a, b, rfl, hk3, hkc, rfl, rfl, ha, hb, hx3, rfl⟩))))))))))⟩⟩
    · refine x_st (st1 := [.int 0]) rfl ?_
      refine x_if_ne 22 16 C0 dX8_fills_13 rfl (by decide) (fun q => False.elim (by revert q; decide)) (fun _ => ?_)
      refine x_aload_n 0 17 C0 dX8_fills_16 rfl rfl rfl ?_
      refine x_iconst (v := 1) 18 C0 dX8_fills_17 rfl (by decide) ?_
      refine x_callV 21 C0 (k_X8_fail l hl g _ _ n t v bf sv pa lb ip td sg hM hJ 1) dX8_fills_18 rfl mC_X8_fail mM_X8_47 mI_X8_fail mV_X8_fail mN_X8 yd_X8_fail rfl rfl ⟨Nat.le_of_ble_eq_true rfl, Nat.le_of_ble_eq_true rfl⟩ hM.o rfl rfl rfl rfl (Nat.le_of_ble_eq_true rfl) ⟨Nat.le_of_ble_eq_true rfl, Nat.le_of_ble_eq_true rfl⟩ (fun _ _ _ q => False.elim q) (fun r w1 sz1 hz hP => ?_)
      obtain ⟨rfl, rfl, rfl⟩ := hP
      have hJ40 : MJ n (upd t 1 1) v bf sv pa sg := (hJ.j_t (by decide))
      refine x_st (st1 := [.int 0]) rfl ?_
      exact x_ireturn C0 dX8_fills_21 rfl rfl (Nat.le_of_ble_eq_true rfl) (Nat.le_of_ble_eq_true rfl) ⟨rfl, _, _, _, rfl, hJ40, ⟨⟨⟨_, rfl⟩, (tK.rf.up (by decide))⟩, (Or.inr (Or.inr (Or.inr (Or.inr (Or.inr (Or.inr (Or.inr (Or.inr (Or.inr (Or.inr (Or.inl ⟨kc, rfl, hk3, hkc, hln, rfl⟩)))))))))))⟩⟩
  · refine x_st (st1 := [.int 0]) rfl ?_
    refine x_if_eq 16 8 C0 dX8_fills_5 rfl (by decide) (fun _ => ?_) (fun q => False.elim (by revert q; decide))
    refine x_aload_n 0 17 C0 dX8_fills_16 rfl rfl rfl ?_
    refine x_iconst (v := 1) 18 C0 dX8_fills_17 rfl (by decide) ?_
    refine x_callV 21 C0 (k_X8_fail l hl g _ _ n t v bf sv pa lb ip td sg hM hJ 1) dX8_fills_18 rfl mC_X8_fail mM_X8_47 mI_X8_fail mV_X8_fail mN_X8 yd_X8_fail rfl rfl ⟨Nat.le_of_ble_eq_true rfl, Nat.le_of_ble_eq_true rfl⟩ hM.o rfl rfl rfl rfl (Nat.le_of_ble_eq_true rfl) ⟨Nat.le_of_ble_eq_true rfl, Nat.le_of_ble_eq_true rfl⟩ (fun _ _ _ q => False.elim q) (fun r w1 sz1 hz hP => ?_)
    obtain ⟨rfl, rfl, rfl⟩ := hP
    have hJ42 : MJ n (upd t 1 1) v bf sv pa sg := (hJ.j_t (by decide))
    refine x_st (st1 := [.int 0]) rfl ?_
    exact x_ireturn C0 dX8_fills_21 rfl rfl (Nat.le_of_ble_eq_true rfl) (Nat.le_of_ble_eq_true rfl) ⟨rfl, _, _, _, rfl, hJ42, ⟨⟨⟨_, rfl⟩, (tK.rf.up (by decide))⟩, (Or.inr (Or.inr (Or.inr (Or.inr (Or.inr (Or.inr (Or.inr (Or.inr (Or.inr (Or.inr (Or.inr (⟨hkn, rfl⟩))))))))))))⟩⟩

def R_X8_empties (t v : Nat → Int32) (cn : Int32) (r : Option Value) (t' v' : Nat → Int32) : Prop :=
  (∃ (kc : Nat), (cn = nI kc) ∧ (nI kc < v 3) ∧ (kc < 20) ∧ (v (28 + 9 * kc + 7) = 0) ∧ (v (28 + 9 * kc + 5) = 0) ∧ (v (28 + 9 * kc + 3) = 0) ∧ (t' 1 = 3)) ∨
  (∃ (kc : Nat) (a : Nat) (b : Nat), (cn = nI kc) ∧ (nI kc < v 3) ∧ (kc < 20) ∧ (v (28 + 9 * kc + 7) = 0) ∧ (v (28 + 9 * kc + 5) = 0) ∧ (¬ (v (28 + 9 * kc + 3) = 0)) ∧ (a < 6) ∧ (b < 3) ∧ (v (28 + 9 * kc + 1) = nI a) ∧ (v (28 + 9 * kc + 2) = nI b) ∧ (t' 1 = t 1) ∧ (r = some (.int (v (28 + 9 * kc + 3)))) ∧ (v' = (upd (upd (upd (upd (upd (upd (upd v (10 + 3 * a + b) ((v (10 + 3 * a + b)) + (lsr (v (28 + 9 * kc + 3)) (500 - (v (10 + 3 * a + b)))))) 8 (((upd v (10 + 3 * a + b) ((v (10 + 3 * a + b)) + (lsr (v (28 + 9 * kc + 3)) (500 - (v (10 + 3 * a + b)))))) 8) + ((v (28 + 9 * kc + 3)) - (lsr (v (28 + 9 * kc + 3)) (500 - (v (10 + 3 * a + b))))))) (28 + 9 * kc + 1) (-1)) (28 + 9 * kc + 2) (-1)) (28 + 9 * kc + 3) 0) (28 + 9 * kc + 6) 0) (28 + 9 * kc + 8) 0))) ∨
  (∃ (kc : Nat) (t2 : Nat → Int32), (cn = nI kc) ∧ (nI kc < v 3) ∧ (kc < 20) ∧ (¬ (v (28 + 9 * kc + 7) = 0 ∧ v (28 + 9 * kc + 5) = 0)) ∧ (t2 1 = 3) ∧ (t' 1 = 3)) ∨
  ((¬ (0 ≤ cn ∧ cn < v 3)) ∧ (t' 1 = 1))
set_option maxHeartbeats 4000000 in
set_option maxRecDepth 100000 in
theorem k_X8_empties (l : Launch) (hl : l.stackTraces = false) (g : xg_T) (w : xw_T) (sz n : Nat) (t v bf sv pa lb ip td sg : Nat → Int32) (hM : MR g w t v bf sv pa lb ip td sg) (hJ : MJ n t v bf sv pa sg) (cn : Int32) : xM l g yX8_empties cX8_empties 5 (some .int) ({ frames := 3, cells := 0, slots := 0, locals := 65 }) 0 0 [.ref (g.2 0 + 258), .int cn] w sz (mX g w sz n bf sv pa ip td sg (fun r t' v' => mT t r t' v' ∧ R_X8_empties t v cn r t' v')) (fun _ _ _ => False) := by
  refine xM.of RX8 hl (by decide +kernel) rfl (Nat.le_of_ble_eq_true rfl) rfl ?_
  intro p e s m args below meth cD C0 hini
  refine x_aload_n 0 1 C0 dX8_empties_0 rfl rfl rfl ?_
  refine x_iload_n 1 2 C0 dX8_empties_1 rfl rfl rfl ?_
  refine x_callV 5 C0 (k_X8_isChest l hl g _ _ n t v bf sv pa lb ip td sg hM hJ cn) dX8_empties_2 rfl mC_X8_isChest mM_X8_108 mI_X8_isChest mV_X8_isChest mN_X8 yd_X8_isChest rfl rfl ⟨Nat.le_of_ble_eq_true rfl, Nat.le_of_ble_eq_true rfl⟩ hM.o rfl rfl rfl rfl (Nat.le_of_ble_eq_true rfl) ⟨Nat.le_of_ble_eq_true rfl, Nat.le_of_ble_eq_true rfl⟩ (fun _ _ _ q => False.elim q) (fun r w1 sz1 hz hP => ?_)
  obtain ⟨hr, rfl, rfl⟩ := hP
  rcases hr with ⟨⟨kc, hkc, hkv, hk3⟩, rfl⟩ | ⟨rfl, hkn⟩
  · subst hkv
    refine x_st (st1 := [.int 1]) rfl ?_
    refine x_if_ne 14 8 C0 dX8_empties_5 rfl (by decide) (fun _ => ?_) (fun q => False.elim (by revert q; decide))
    refine x_aload_n 0 15 C0 dX8_empties_14 rfl rfl rfl ?_
    refine x_iload_n 1 16 C0 dX8_empties_15 rfl rfl rfl ?_
    refine x_callV 19 C0 (k_X8_isShut l hl g _ _ n t v bf sv pa lb ip td sg hM hJ kc (by omega)) dX8_empties_16 rfl mC_X8_isShut mM_X8_112 mI_X8_isShut mV_X8_isShut mN_X8 yd_X8_isShut rfl rfl ⟨Nat.le_of_ble_eq_true rfl, Nat.le_of_ble_eq_true rfl⟩ hM.o rfl rfl rfl rfl (Nat.le_of_ble_eq_true rfl) ⟨Nat.le_of_ble_eq_true rfl, Nat.le_of_ble_eq_true rfl⟩ (fun _ _ _ q => False.elim q) (fun r w1 sz1 hz hP => ?_)
    obtain ⟨rfl, hr⟩ := hP
    rcases hr with ⟨rfl, hs72, hs52, rfl⟩ | ⟨rfl, hsn2, t2, rfl, hJ2, he2, h12⟩
    · refine x_st (st1 := [.int 0]) rfl ?_
      refine x_if_eq 24 22 C0 dX8_empties_19 rfl (by decide) (fun _ => ?_) (fun q => False.elim (by revert q; decide))
      refine x_aload_n 0 25 C0 dX8_empties_24 rfl rfl rfl ?_
      refine x_iload_n 1 26 C0 dX8_empties_25 rfl rfl rfl ?_
      refine x_callV 29 C0 (k_X8_isEmpty l hl g _ _ n t v bf sv pa lb ip td sg hM hJ kc (by omega)) dX8_empties_26 rfl mC_X8_isEmpty mM_X8_118 mI_X8_isEmpty mV_X8_isEmpty mN_X8 yd_X8_isEmpty rfl rfl ⟨Nat.le_of_ble_eq_true rfl, Nat.le_of_ble_eq_true rfl⟩ hM.o rfl rfl rfl rfl (Nat.le_of_ble_eq_true rfl) ⟨Nat.le_of_ble_eq_true rfl, Nat.le_of_ble_eq_true rfl⟩ (fun _ _ _ q => False.elim q) (fun r w1 sz1 hz hP => ?_)
      obtain ⟨hR4, rfl, rfl⟩ := hP
      rcases hR4 with ⟨rfl, hq4⟩ | ⟨rfl, hq4⟩
      · refine x_st (st1 := [.int 1]) rfl ?_
        refine x_if_eq 40 32 C0 dX8_empties_29 rfl (by decide) (fun q => False.elim (by revert q; decide)) (fun _ => ?_)
        refine x_aload_n 0 33 C0 dX8_empties_32 rfl rfl rfl ?_
        refine x_bipush (v := 10) 35 C0 dX8_empties_33 rfl (by decide) ?_
        refine x_iload_n 1 36 C0 dX8_empties_35 rfl rfl rfl ?_
        refine x_callV 39 C0 (k_X8_refuses l hl g _ _ n t v bf sv pa lb ip td sg hM hJ 10 (nI kc)) dX8_empties_36 rfl mC_X8_refuses mM_X8_82 mI_X8_refuses mV_X8_refuses mN_X8 yd_X8_refuses rfl rfl ⟨Nat.le_of_ble_eq_true rfl, Nat.le_of_ble_eq_true rfl⟩ hM.o rfl rfl rfl rfl (Nat.le_of_ble_eq_true rfl) ⟨Nat.le_of_ble_eq_true rfl, Nat.le_of_ble_eq_true rfl⟩ (fun _ _ _ q => False.elim q) (fun r w1 sz1 hz hP => ?_)
        obtain ⟨rfl, rfl, rfl⟩ := hP
        have hJ6 : MJ n (upd (upd (upd t 5 10) 6 (nI kc)) 1 3) v bf sv pa sg := (((hJ.j_t (by decide)).j_t (by decide)).j_t (by decide))
        refine x_st (st1 := [.int 0]) rfl ?_
        exact x_ireturn C0 dX8_empties_39 rfl rfl (Nat.le_of_ble_eq_true rfl) (Nat.le_of_ble_eq_true rfl) ⟨rfl, _, _, _, rfl, hJ6, ⟨⟨⟨_, rfl⟩, (((tK.rf.up (by decide)).up (by decide)).up (by decide))⟩, (Or.inl ⟨kc, rfl, hk3, hkc, hs72, hs52, hq4, rfl⟩)⟩⟩
      · refine x_st (st1 := [.int 0]) rfl ?_
        refine x_if_eq 40 32 C0 dX8_empties_29 rfl (by decide) (fun _ => ?_) (fun q => False.elim (by revert q; decide))
        obtain ⟨a, b, ha, hb, hav, hbv⟩ := hJ.1.leaf hkc hq4
        refine x_aload_n 0 41 C0 dX8_empties_40 rfl rfl rfl ?_
        refine x_getf (v := .ref (g.2 0 + 258 + 1)) 8 44 C0 dX8_empties_41 rfl hM.o rfl (by decide) inX8 mF_X8_7 rfl ?_
        refine x_iload_n 1 45 C0 dX8_empties_44 rfl rfl rfl ?_
        refine x_iconst (v := 1) 46 C0 dX8_empties_45 rfl (by decide) ?_
        refine x_callS 49 C0 (k_X8_at l hl g _ _ (nI kc) 1) dX8_empties_46 rfl mC_X8_at mM_X8_71 mS_X8_at mN_X8 yd_X8_at rfl rfl ⟨Nat.le_of_ble_eq_true rfl, Nat.le_of_ble_eq_true rfl⟩ rfl rfl (Nat.le_of_ble_eq_true rfl) ⟨Nat.le_of_ble_eq_true rfl, Nat.le_of_ble_eq_true rfl⟩ (fun _ _ _ q => False.elim q) (fun r w1 sz1 hz hP => ?_)
        obtain ⟨rfl, rfl, rfl⟩ := hP
        refine x_st (st1 := [.int (nI (28 + 9 * kc + 1)), .ref (g.2 0 + 258 + 1)]) (congrArg (fun z => Value.int z :: _) (at_nI 28 9 kc 1)) ?_
        refine x_iald 0 50 C0 dX8_empties_49 rfl hM.r_v rfl (vp_in_nI (n := 28 + 9 * kc + 1) (by omega) (by decide)) ?_
        refine x_st (st1 := [.int (v (28 + 9 * kc + 1))]) (congrArg (fun z => Value.int z :: _) (show v (nI (28 + 9 * kc + 1)).toNatClampNeg = v (28 + 9 * kc + 1) from by rw [nI_clamp (by omega)])) ?_
        refine x_st (st1 := [.int (nI a)]) (congrArg (fun z => Value.int z :: _) (hav)) ?_
        refine x_aload_n 0 51 C0 dX8_empties_50 rfl rfl rfl ?_
        refine x_getf (v := .ref (g.2 0 + 258 + 1)) 8 54 C0 dX8_empties_51 rfl hM.o rfl (by decide) inX8 mF_X8_7 rfl ?_
        refine x_iload_n 1 55 C0 dX8_empties_54 rfl rfl rfl ?_
        refine x_iconst (v := 2) 56 C0 dX8_empties_55 rfl (by decide) ?_
        refine x_callS 59 C0 (k_X8_at l hl g _ _ (nI kc) 2) dX8_empties_56 rfl mC_X8_at mM_X8_71 mS_X8_at mN_X8 yd_X8_at rfl rfl ⟨Nat.le_of_ble_eq_true rfl, Nat.le_of_ble_eq_true rfl⟩ rfl rfl (Nat.le_of_ble_eq_true rfl) ⟨Nat.le_of_ble_eq_true rfl, Nat.le_of_ble_eq_true rfl⟩ (fun _ _ _ q => False.elim q) (fun r w1 sz1 hz hP => ?_)
        obtain ⟨rfl, rfl, rfl⟩ := hP
        refine x_st (st1 := [.int (nI (28 + 9 * kc + 2)), .ref (g.2 0 + 258 + 1), .int (nI a)]) (congrArg (fun z => Value.int z :: _) (at_nI 28 9 kc 2)) ?_
        refine x_iald 0 60 C0 dX8_empties_59 rfl hM.r_v rfl (vp_in_nI (n := 28 + 9 * kc + 2) (by omega) (by decide)) ?_
        refine x_st (st1 := [.int (v (28 + 9 * kc + 2)), .int (nI a)]) (congrArg (fun z => Value.int z :: _) (show v (nI (28 + 9 * kc + 2)).toNatClampNeg = v (28 + 9 * kc + 2) from by rw [nI_clamp (by omega)])) ?_
        refine x_st (st1 := [.int (nI b), .int (nI a)]) (congrArg (fun z => Value.int z :: _) (hbv)) ?_
        refine x_callS 63 C0 (k_X8_leaf l hl g _ _ (nI a) (nI b)) dX8_empties_60 rfl mC_X8_leaf mM_X8_79 mS_X8_leaf mN_X8 yd_X8_leaf rfl rfl ⟨Nat.le_of_ble_eq_true rfl, Nat.le_of_ble_eq_true rfl⟩ rfl rfl (Nat.le_of_ble_eq_true rfl) ⟨Nat.le_of_ble_eq_true rfl, Nat.le_of_ble_eq_true rfl⟩ (fun _ _ _ q => False.elim q) (fun r w1 sz1 hz hP => ?_)
        obtain ⟨rfl, rfl, rfl⟩ := hP
        refine x_st (st1 := [.int (nI (10 + 3 * a + b))]) (congrArg (fun z => Value.int z :: _) (at_nI 10 3 a b)) ?_
        refine x_istore_n [(2, .int (nI (10 + 3 * a + b))), (0, .ref (g.2 0 + 258)), (1, .int (nI kc))] 64 C0 dX8_empties_63 rfl rfl (by decide) rfl ?_
        refine x_lv (lv1 := [(0, .ref (g.2 0 + 258)), (1, .int (nI kc)), (2, .int (nI (10 + 3 * a + b)))]) [1, 2, 0] rfl ?_
        refine x_aload_n 0 65 C0 dX8_empties_64 rfl rfl rfl ?_
        refine x_getf (v := .ref (g.2 0 + 258 + 1)) 8 68 C0 dX8_empties_65 rfl hM.o rfl (by decide) inX8 mF_X8_7 rfl ?_
        refine x_iload_n 1 69 C0 dX8_empties_68 rfl rfl rfl ?_
        refine x_iconst (v := 3) 70 C0 dX8_empties_69 rfl (by decide) ?_
        refine x_callS 73 C0 (k_X8_at l hl g _ _ (nI kc) 3) dX8_empties_70 rfl mC_X8_at mM_X8_71 mS_X8_at mN_X8 yd_X8_at rfl rfl ⟨Nat.le_of_ble_eq_true rfl, Nat.le_of_ble_eq_true rfl⟩ rfl rfl (Nat.le_of_ble_eq_true rfl) ⟨Nat.le_of_ble_eq_true rfl, Nat.le_of_ble_eq_true rfl⟩ (fun _ _ _ q => False.elim q) (fun r w1 sz1 hz hP => ?_)
        obtain ⟨rfl, rfl, rfl⟩ := hP
        refine x_st (st1 := [.int (nI (28 + 9 * kc + 3)), .ref (g.2 0 + 258 + 1)]) (congrArg (fun z => Value.int z :: _) (at_nI 28 9 kc 3)) ?_
        refine x_iald 0 74 C0 dX8_empties_73 rfl hM.r_v rfl (vp_in_nI (n := 28 + 9 * kc + 3) (by omega) (by decide)) ?_
        refine x_st (st1 := [.int (v (28 + 9 * kc + 3))]) (congrArg (fun z => Value.int z :: _) (show v (nI (28 + 9 * kc + 3)).toNatClampNeg = v (28 + 9 * kc + 3) from by rw [nI_clamp (by omega)])) ?_
        refine x_istore_n [(3, .int (v (28 + 9 * kc + 3))), (0, .ref (g.2 0 + 258)), (1, .int (nI kc)), (2, .int (nI (10 + 3 * a + b)))] 75 C0 dX8_empties_74 rfl rfl (by decide) rfl ?_
        refine x_lv (lv1 := [(0, .ref (g.2 0 + 258)), (1, .int (nI kc)), (2, .int (nI (10 + 3 * a + b))), (3, .int (v (28 + 9 * kc + 3)))]) [1, 2, 3, 0] rfl ?_
        refine x_iload_n 3 76 C0 dX8_empties_75 rfl rfl rfl ?_
        refine x_sipush (v := 500) 79 C0 dX8_empties_76 rfl (by decide) ?_
        refine x_aload_n 0 80 C0 dX8_empties_79 rfl rfl rfl ?_
        refine x_getf (v := .ref (g.2 0 + 258 + 1)) 8 83 C0 dX8_empties_80 rfl hM.o rfl (by decide) inX8 mF_X8_7 rfl ?_
        refine x_iload_n 2 84 C0 dX8_empties_83 rfl rfl rfl ?_
        refine x_iald 0 85 C0 dX8_empties_84 rfl hM.r_v rfl (vp_in_nI (n := 10 + 3 * a + b) (by omega) (by decide)) ?_
        refine x_st (st1 := [.int (v (10 + 3 * a + b)), .int 500, .int (v (28 + 9 * kc + 3))]) (congrArg (fun z => Value.int z :: _) (show v (nI (10 + 3 * a + b)).toNatClampNeg = v (10 + 3 * a + b) from by rw [nI_clamp (by omega)])) ?_
        refine x_isub 86 C0 dX8_empties_85 rfl ?_
        refine x_callS 89 C0 (k_X8_lesser l hl g _ _ (v (28 + 9 * kc + 3)) (500 - (v (10 + 3 * a + b)))) dX8_empties_86 rfl mC_X8_lesser mM_X8_99 mS_X8_lesser mN_X8 yd_X8_lesser rfl rfl ⟨Nat.le_of_ble_eq_true rfl, Nat.le_of_ble_eq_true rfl⟩ rfl rfl (Nat.le_of_ble_eq_true rfl) ⟨Nat.le_of_ble_eq_true rfl, Nat.le_of_ble_eq_true rfl⟩ (fun _ _ _ q => False.elim q) (fun r w1 sz1 hz hP => ?_)
        obtain ⟨rfl, rfl, rfl⟩ := hP
        refine x_st (st1 := [.int (lsr (v (28 + 9 * kc + 3)) (500 - (v (10 + 3 * a + b))))]) rfl ?_
        refine x_istore [(4, .int (lsr (v (28 + 9 * kc + 3)) (500 - (v (10 + 3 * a + b))))), (0, .ref (g.2 0 + 258)), (1, .int (nI kc)), (2, .int (nI (10 + 3 * a + b))), (3, .int (v (28 + 9 * kc + 3)))] 91 C0 dX8_empties_89 rfl (by decide) rfl ?_
        refine x_lv (lv1 := [(0, .ref (g.2 0 + 258)), (1, .int (nI kc)), (2, .int (nI (10 + 3 * a + b))), (3, .int (v (28 + 9 * kc + 3))), (4, .int (lsr (v (28 + 9 * kc + 3)) (500 - (v (10 + 3 * a + b)))))]) [1, 2, 3, 4, 0] rfl ?_
        refine x_aload_n 0 92 C0 dX8_empties_91 rfl rfl rfl ?_
        refine x_getf (v := .ref (g.2 0 + 258 + 1)) 8 95 C0 dX8_empties_92 rfl hM.o rfl (by decide) inX8 mF_X8_7 rfl ?_
        refine x_iload_n 2 96 C0 dX8_empties_95 rfl rfl rfl ?_
        refine x_dup2 97 C0 dX8_empties_96 rfl rfl rfl ?_
        refine x_iald 0 98 C0 dX8_empties_97 rfl hM.r_v rfl (vp_in_nI (n := 10 + 3 * a + b) (by omega) (by decide)) ?_
        refine x_st (st1 := [.int (v (10 + 3 * a + b)), .int (nI (10 + 3 * a + b)), .ref (g.2 0 + 258 + 1)]) (congrArg (fun z => Value.int z :: _) (show v (nI (10 + 3 * a + b)).toNatClampNeg = v (10 + 3 * a + b) from by rw [nI_clamp (by omega)])) ?_
        refine x_iload 4 100 C0 dX8_empties_98 rfl rfl ?_
        refine x_iadd 101 C0 dX8_empties_100 rfl ?_
        refine x_w (MW_self hM) ?_
        refine x_iast 0 102 C0 dX8_empties_101 rfl MR_MW.r_v (by show g.2 0 ≤ _; omega) rfl (vp_in_nI (n := 10 + 3 * a + b) (by omega) (by decide)) ?_
        refine x_w (w1 := (MW g w t (upd v (10 + 3 * a + b) ((v (10 + 3 * a + b)) + (lsr (v (28 + 9 * kc + 3)) (500 - (v (10 + 3 * a + b)))))) bf sv pa lb ip td sg)) (by rw [show (nI (10 + 3 * a + b) : Int32).toNatClampNeg = (10 + 3 * a + b) from nI_clamp (n := 10 + 3 * a + b) (by omega)]; exact MW_v) ?_
        have hJ8 : MJ n t (upd v (10 + 3 * a + b) ((v (10 + 3 * a + b)) + (lsr (v (28 + 9 * kc + 3)) (500 - (v (10 + 3 * a + b)))))) bf sv pa sg := hJ.j_v (hJ.1.up (Or.inl (by omega)))
        refine x_aload_n 0 103 C0 dX8_empties_102 rfl rfl rfl ?_
        refine x_getf (v := .ref (g.2 0 + 258 + 1)) 8 106 C0 dX8_empties_103 rfl MR_MW.o rfl (by decide) inX8 mF_X8_7 rfl ?_
        refine x_bipush (v := 8) 108 C0 dX8_empties_106 rfl (by decide) ?_
        refine x_dup2 109 C0 dX8_empties_108 rfl rfl rfl ?_
        refine x_iald 0 110 C0 dX8_empties_109 rfl MR_MW.r_v rfl (vp_in_nI (n := 8) (by decide) (by decide)) ?_
        refine x_st (st1 := [.int ((upd v (10 + 3 * a + b) ((v (10 + 3 * a + b)) + (lsr (v (28 + 9 * kc + 3)) (500 - (v (10 + 3 * a + b)))))) 8), .int 8, .ref (g.2 0 + 258 + 1)]) (congrArg (fun z => Value.int z :: _) (show (upd v (10 + 3 * a + b) ((v (10 + 3 * a + b)) + (lsr (v (28 + 9 * kc + 3)) (500 - (v (10 + 3 * a + b)))))) (nI 8).toNatClampNeg = (upd v (10 + 3 * a + b) ((v (10 + 3 * a + b)) + (lsr (v (28 + 9 * kc + 3)) (500 - (v (10 + 3 * a + b)))))) 8 from by rw [nI_clamp (by omega)])) ?_
        refine x_iload_n 3 111 C0 dX8_empties_110 rfl rfl rfl ?_
        refine x_iload 4 113 C0 dX8_empties_111 rfl rfl ?_
        refine x_isub 114 C0 dX8_empties_113 rfl ?_
        refine x_iadd 115 C0 dX8_empties_114 rfl ?_
        refine x_iast 0 116 C0 dX8_empties_115 rfl MR_MW.r_v (by show g.2 0 ≤ _; omega) rfl (vp_in_nI (n := 8) (by omega) (by decide)) ?_
        refine x_w (w1 := (MW g w t (upd (upd v (10 + 3 * a + b) ((v (10 + 3 * a + b)) + (lsr (v (28 + 9 * kc + 3)) (500 - (v (10 + 3 * a + b)))))) 8 (((upd v (10 + 3 * a + b) ((v (10 + 3 * a + b)) + (lsr (v (28 + 9 * kc + 3)) (500 - (v (10 + 3 * a + b)))))) 8) + ((v (28 + 9 * kc + 3)) - (lsr (v (28 + 9 * kc + 3)) (500 - (v (10 + 3 * a + b))))))) bf sv pa lb ip td sg)) (by rw [show (8 : Int32).toNatClampNeg = 8 from nI_clamp (n := 8) (by omega)]; exact MW_v) ?_
        have hJ9 : MJ n t (upd (upd v (10 + 3 * a + b) ((v (10 + 3 * a + b)) + (lsr (v (28 + 9 * kc + 3)) (500 - (v (10 + 3 * a + b)))))) 8 (((upd v (10 + 3 * a + b) ((v (10 + 3 * a + b)) + (lsr (v (28 + 9 * kc + 3)) (500 - (v (10 + 3 * a + b)))))) 8) + ((v (28 + 9 * kc + 3)) - (lsr (v (28 + 9 * kc + 3)) (500 - (v (10 + 3 * a + b))))))) bf sv pa sg := hJ8.j_v (hJ8.1.up (Or.inl (by decide)))
        refine x_aload_n 0 117 C0 dX8_empties_116 rfl rfl rfl ?_
        refine x_getf (v := .ref (g.2 0 + 258 + 1)) 8 120 C0 dX8_empties_117 rfl MR_MW.o rfl (by decide) inX8 mF_X8_7 rfl ?_
        refine x_iload_n 1 121 C0 dX8_empties_120 rfl rfl rfl ?_
        refine x_iconst (v := 1) 122 C0 dX8_empties_121 rfl (by decide) ?_
        refine x_callS 125 C0 (k_X8_at l hl g _ _ (nI kc) 1) dX8_empties_122 rfl mC_X8_at mM_X8_71 mS_X8_at mN_X8 yd_X8_at rfl rfl ⟨Nat.le_of_ble_eq_true rfl, Nat.le_of_ble_eq_true rfl⟩ rfl rfl (Nat.le_of_ble_eq_true rfl) ⟨Nat.le_of_ble_eq_true rfl, Nat.le_of_ble_eq_true rfl⟩ (fun _ _ _ q => False.elim q) (fun r w1 sz1 hz hP => ?_)
        obtain ⟨rfl, rfl, rfl⟩ := hP
        refine x_st (st1 := [.int (nI (28 + 9 * kc + 1)), .ref (g.2 0 + 258 + 1)]) (congrArg (fun z => Value.int z :: _) (at_nI 28 9 kc 1)) ?_
        refine x_iconst (v := (-1)) 126 C0 dX8_empties_125 rfl (by decide) ?_
        refine x_iast 0 127 C0 dX8_empties_126 rfl MR_MW.r_v (by show g.2 0 ≤ _; omega) rfl (vp_in_nI (n := 28 + 9 * kc + 1) (by omega) (by decide)) ?_
        refine x_w (w1 := (MW g w t (upd (upd (upd v (10 + 3 * a + b) ((v (10 + 3 * a + b)) + (lsr (v (28 + 9 * kc + 3)) (500 - (v (10 + 3 * a + b)))))) 8 (((upd v (10 + 3 * a + b) ((v (10 + 3 * a + b)) + (lsr (v (28 + 9 * kc + 3)) (500 - (v (10 + 3 * a + b)))))) 8) + ((v (28 + 9 * kc + 3)) - (lsr (v (28 + 9 * kc + 3)) (500 - (v (10 + 3 * a + b))))))) (28 + 9 * kc + 1) (-1)) bf sv pa lb ip td sg)) (by rw [show (nI (28 + 9 * kc + 1) : Int32).toNatClampNeg = (28 + 9 * kc + 1) from nI_clamp (n := 28 + 9 * kc + 1) (by omega)]; exact MW_v) ?_
        refine x_aload_n 0 128 C0 dX8_empties_127 rfl rfl rfl ?_
        refine x_getf (v := .ref (g.2 0 + 258 + 1)) 8 131 C0 dX8_empties_128 rfl MR_MW.o rfl (by decide) inX8 mF_X8_7 rfl ?_
        refine x_iload_n 1 132 C0 dX8_empties_131 rfl rfl rfl ?_
        refine x_iconst (v := 2) 133 C0 dX8_empties_132 rfl (by decide) ?_
        refine x_callS 136 C0 (k_X8_at l hl g _ _ (nI kc) 2) dX8_empties_133 rfl mC_X8_at mM_X8_71 mS_X8_at mN_X8 yd_X8_at rfl rfl ⟨Nat.le_of_ble_eq_true rfl, Nat.le_of_ble_eq_true rfl⟩ rfl rfl (Nat.le_of_ble_eq_true rfl) ⟨Nat.le_of_ble_eq_true rfl, Nat.le_of_ble_eq_true rfl⟩ (fun _ _ _ q => False.elim q) (fun r w1 sz1 hz hP => ?_)
        obtain ⟨rfl, rfl, rfl⟩ := hP
        refine x_st (st1 := [.int (nI (28 + 9 * kc + 2)), .ref (g.2 0 + 258 + 1)]) (congrArg (fun z => Value.int z :: _) (at_nI 28 9 kc 2)) ?_
        refine x_iconst (v := (-1)) 137 C0 dX8_empties_136 rfl (by decide) ?_
        refine x_iast 0 138 C0 dX8_empties_137 rfl MR_MW.r_v (by show g.2 0 ≤ _; omega) rfl (vp_in_nI (n := 28 + 9 * kc + 2) (by omega) (by decide)) ?_
        refine x_w (w1 := (MW g w t (upd (upd (upd (upd v (10 + 3 * a + b) ((v (10 + 3 * a + b)) + (lsr (v (28 + 9 * kc + 3)) (500 - (v (10 + 3 * a + b)))))) 8 (((upd v (10 + 3 * a + b) ((v (10 + 3 * a + b)) + (lsr (v (28 + 9 * kc + 3)) (500 - (v (10 + 3 * a + b)))))) 8) + ((v (28 + 9 * kc + 3)) - (lsr (v (28 + 9 * kc + 3)) (500 - (v (10 + 3 * a + b))))))) (28 + 9 * kc + 1) (-1)) (28 + 9 * kc + 2) (-1)) bf sv pa lb ip td sg)) (by rw [show (nI (28 + 9 * kc + 2) : Int32).toNatClampNeg = (28 + 9 * kc + 2) from nI_clamp (n := 28 + 9 * kc + 2) (by omega)]; exact MW_v) ?_
        refine x_aload_n 0 139 C0 dX8_empties_138 rfl rfl rfl ?_
        refine x_getf (v := .ref (g.2 0 + 258 + 1)) 8 142 C0 dX8_empties_139 rfl MR_MW.o rfl (by decide) inX8 mF_X8_7 rfl ?_
        refine x_iload_n 1 143 C0 dX8_empties_142 rfl rfl rfl ?_
        refine x_iconst (v := 3) 144 C0 dX8_empties_143 rfl (by decide) ?_
        refine x_callS 147 C0 (k_X8_at l hl g _ _ (nI kc) 3) dX8_empties_144 rfl mC_X8_at mM_X8_71 mS_X8_at mN_X8 yd_X8_at rfl rfl ⟨Nat.le_of_ble_eq_true rfl, Nat.le_of_ble_eq_true rfl⟩ rfl rfl (Nat.le_of_ble_eq_true rfl) ⟨Nat.le_of_ble_eq_true rfl, Nat.le_of_ble_eq_true rfl⟩ (fun _ _ _ q => False.elim q) (fun r w1 sz1 hz hP => ?_)
        obtain ⟨rfl, rfl, rfl⟩ := hP
        refine x_st (st1 := [.int (nI (28 + 9 * kc + 3)), .ref (g.2 0 + 258 + 1)]) (congrArg (fun z => Value.int z :: _) (at_nI 28 9 kc 3)) ?_
        refine x_iconst (v := 0) 148 C0 dX8_empties_147 rfl (by decide) ?_
        refine x_iast 0 149 C0 dX8_empties_148 rfl MR_MW.r_v (by show g.2 0 ≤ _; omega) rfl (vp_in_nI (n := 28 + 9 * kc + 3) (by omega) (by decide)) ?_
        refine x_w (w1 := (MW g w t (upd (upd (upd (upd (upd v (10 + 3 * a + b) ((v (10 + 3 * a + b)) + (lsr (v (28 + 9 * kc + 3)) (500 - (v (10 + 3 * a + b)))))) 8 (((upd v (10 + 3 * a + b) ((v (10 + 3 * a + b)) + (lsr (v (28 + 9 * kc + 3)) (500 - (v (10 + 3 * a + b)))))) 8) + ((v (28 + 9 * kc + 3)) - (lsr (v (28 + 9 * kc + 3)) (500 - (v (10 + 3 * a + b))))))) (28 + 9 * kc + 1) (-1)) (28 + 9 * kc + 2) (-1)) (28 + 9 * kc + 3) 0) bf sv pa lb ip td sg)) (by rw [show (nI (28 + 9 * kc + 3) : Int32).toNatClampNeg = (28 + 9 * kc + 3) from nI_clamp (n := 28 + 9 * kc + 3) (by omega)]; exact MW_v) ?_
        refine x_aload_n 0 150 C0 dX8_empties_149 rfl rfl rfl ?_
        refine x_getf (v := .ref (g.2 0 + 258 + 1)) 8 153 C0 dX8_empties_150 rfl MR_MW.o rfl (by decide) inX8 mF_X8_7 rfl ?_
        refine x_iload_n 1 154 C0 dX8_empties_153 rfl rfl rfl ?_
        refine x_bipush (v := 6) 156 C0 dX8_empties_154 rfl (by decide) ?_
        refine x_callS 159 C0 (k_X8_at l hl g _ _ (nI kc) 6) dX8_empties_156 rfl mC_X8_at mM_X8_71 mS_X8_at mN_X8 yd_X8_at rfl rfl ⟨Nat.le_of_ble_eq_true rfl, Nat.le_of_ble_eq_true rfl⟩ rfl rfl (Nat.le_of_ble_eq_true rfl) ⟨Nat.le_of_ble_eq_true rfl, Nat.le_of_ble_eq_true rfl⟩ (fun _ _ _ q => False.elim q) (fun r w1 sz1 hz hP => ?_)
        obtain ⟨rfl, rfl, rfl⟩ := hP
        refine x_st (st1 := [.int (nI (28 + 9 * kc + 6)), .ref (g.2 0 + 258 + 1)]) (congrArg (fun z => Value.int z :: _) (at_nI 28 9 kc 6)) ?_
        refine x_iconst (v := 0) 160 C0 dX8_empties_159 rfl (by decide) ?_
        refine x_iast 0 161 C0 dX8_empties_160 rfl MR_MW.r_v (by show g.2 0 ≤ _; omega) rfl (vp_in_nI (n := 28 + 9 * kc + 6) (by omega) (by decide)) ?_
        refine x_w (w1 := (MW g w t (upd (upd (upd (upd (upd (upd v (10 + 3 * a + b) ((v (10 + 3 * a + b)) + (lsr (v (28 + 9 * kc + 3)) (500 - (v (10 + 3 * a + b)))))) 8 (((upd v (10 + 3 * a + b) ((v (10 + 3 * a + b)) + (lsr (v (28 + 9 * kc + 3)) (500 - (v (10 + 3 * a + b)))))) 8) + ((v (28 + 9 * kc + 3)) - (lsr (v (28 + 9 * kc + 3)) (500 - (v (10 + 3 * a + b))))))) (28 + 9 * kc + 1) (-1)) (28 + 9 * kc + 2) (-1)) (28 + 9 * kc + 3) 0) (28 + 9 * kc + 6) 0) bf sv pa lb ip td sg)) (by rw [show (nI (28 + 9 * kc + 6) : Int32).toNatClampNeg = (28 + 9 * kc + 6) from nI_clamp (n := 28 + 9 * kc + 6) (by omega)]; exact MW_v) ?_
        refine x_aload_n 0 162 C0 dX8_empties_161 rfl rfl rfl ?_
        refine x_getf (v := .ref (g.2 0 + 258 + 1)) 8 165 C0 dX8_empties_162 rfl MR_MW.o rfl (by decide) inX8 mF_X8_7 rfl ?_
        refine x_iload_n 1 166 C0 dX8_empties_165 rfl rfl rfl ?_
        refine x_bipush (v := 8) 168 C0 dX8_empties_166 rfl (by decide) ?_
        refine x_callS 171 C0 (k_X8_at l hl g _ _ (nI kc) 8) dX8_empties_168 rfl mC_X8_at mM_X8_71 mS_X8_at mN_X8 yd_X8_at rfl rfl ⟨Nat.le_of_ble_eq_true rfl, Nat.le_of_ble_eq_true rfl⟩ rfl rfl (Nat.le_of_ble_eq_true rfl) ⟨Nat.le_of_ble_eq_true rfl, Nat.le_of_ble_eq_true rfl⟩ (fun _ _ _ q => False.elim q) (fun r w1 sz1 hz hP => ?_)
        obtain ⟨rfl, rfl, rfl⟩ := hP
        refine x_st (st1 := [.int (nI (28 + 9 * kc + 8)), .ref (g.2 0 + 258 + 1)]) (congrArg (fun z => Value.int z :: _) (at_nI 28 9 kc 8)) ?_
        refine x_iconst (v := 0) 172 C0 dX8_empties_171 rfl (by decide) ?_
        refine x_iast 0 173 C0 dX8_empties_172 rfl MR_MW.r_v (by show g.2 0 ≤ _; omega) rfl (vp_in_nI (n := 28 + 9 * kc + 8) (by omega) (by decide)) ?_
        refine x_w (w1 := (MW g w t (upd (upd (upd (upd (upd (upd (upd v (10 + 3 * a + b) ((v (10 + 3 * a + b)) + (lsr (v (28 + 9 * kc + 3)) (500 - (v (10 + 3 * a + b)))))) 8 (((upd v (10 + 3 * a + b) ((v (10 + 3 * a + b)) + (lsr (v (28 + 9 * kc + 3)) (500 - (v (10 + 3 * a + b)))))) 8) + ((v (28 + 9 * kc + 3)) - (lsr (v (28 + 9 * kc + 3)) (500 - (v (10 + 3 * a + b))))))) (28 + 9 * kc + 1) (-1)) (28 + 9 * kc + 2) (-1)) (28 + 9 * kc + 3) 0) (28 + 9 * kc + 6) 0) (28 + 9 * kc + 8) 0) bf sv pa lb ip td sg)) (by rw [show (nI (28 + 9 * kc + 8) : Int32).toNatClampNeg = (28 + 9 * kc + 8) from nI_clamp (n := 28 + 9 * kc + 8) (by omega)]; exact MW_v) ?_
        have hJ14 : MJ n t (upd (upd (upd (upd (upd (upd (upd v (10 + 3 * a + b) ((v (10 + 3 * a + b)) + (lsr (v (28 + 9 * kc + 3)) (500 - (v (10 + 3 * a + b)))))) 8 (((upd v (10 + 3 * a + b) ((v (10 + 3 * a + b)) + (lsr (v (28 + 9 * kc + 3)) (500 - (v (10 + 3 * a + b)))))) 8) + ((v (28 + 9 * kc + 3)) - (lsr (v (28 + 9 * kc + 3)) (500 - (v (10 + 3 * a + b))))))) (28 + 9 * kc + 1) (-1)) (28 + 9 * kc + 2) (-1)) (28 + 9 * kc + 3) 0) (28 + 9 * kc + 6) 0) (28 + 9 * kc + 8) 0) bf sv pa sg := hJ9.j_v (hJ9.1.out hkc)
        refine x_iload_n 3 174 C0 dX8_empties_173 rfl rfl rfl ?_
        exact x_ireturn C0 dX8_empties_174 rfl rfl (Nat.le_of_ble_eq_true rfl) (Nat.le_of_ble_eq_true rfl) ⟨rfl, _, _, _, rfl, hJ14, ⟨⟨⟨_, rfl⟩, tK.rf⟩, (Or.inr (Or.inl ⟨kc, a, b, rfl, hk3, hkc, hs72, hs52, hq4, ha, hb, hav, hbv, rfl, rfl, rfl⟩))⟩⟩
    · refine x_st (st1 := [.int 1]) rfl ?_
      refine x_if_eq 24 22 C0 dX8_empties_19 rfl (by decide) (fun q => False.elim (by revert q; decide)) (fun _ => ?_)
      refine x_iconst (v := 0) 23 C0 dX8_empties_22 rfl (by decide) ?_
      exact x_ireturn C0 dX8_empties_23 rfl rfl (Nat.le_of_ble_eq_true rfl) (Nat.le_of_ble_eq_true rfl) ⟨rfl, _, _, _, rfl, hJ2, ⟨⟨⟨_, rfl⟩, (he2.trans tK.rf)⟩, (Or.inr (Or.inr (Or.inl ⟨kc, t2, rfl, hk3, hkc, hsn2, h12, h12⟩)))⟩⟩
  · refine x_st (st1 := [.int 0]) rfl ?_
    refine x_if_ne 14 8 C0 dX8_empties_5 rfl (by decide) (fun q => False.elim (by revert q; decide)) (fun _ => ?_)
    refine x_aload_n 0 9 C0 dX8_empties_8 rfl rfl rfl ?_
    refine x_iconst (v := 1) 10 C0 dX8_empties_9 rfl (by decide) ?_
    refine x_callV 13 C0 (k_X8_fail l hl g _ _ n t v bf sv pa lb ip td sg hM hJ 1) dX8_empties_10 rfl mC_X8_fail mM_X8_47 mI_X8_fail mV_X8_fail mN_X8 yd_X8_fail rfl rfl ⟨Nat.le_of_ble_eq_true rfl, Nat.le_of_ble_eq_true rfl⟩ hM.o rfl rfl rfl rfl (Nat.le_of_ble_eq_true rfl) ⟨Nat.le_of_ble_eq_true rfl, Nat.le_of_ble_eq_true rfl⟩ (fun _ _ _ q => False.elim q) (fun r w1 sz1 hz hP => ?_)
    obtain ⟨rfl, rfl, rfl⟩ := hP
    have hJ17 : MJ n (upd t 1 1) v bf sv pa sg := (hJ.j_t (by decide))
    refine x_st (st1 := [.int 0]) rfl ?_
    exact x_ireturn C0 dX8_empties_13 rfl rfl (Nat.le_of_ble_eq_true rfl) (Nat.le_of_ble_eq_true rfl) ⟨rfl, _, _, _, rfl, hJ17, ⟨⟨⟨_, rfl⟩, (tK.rf.up (by decide))⟩, (Or.inr (Or.inr (Or.inr (⟨hkn, rfl⟩))))⟩⟩

def R_X8_screws (t v : Nat → Int32) (cn : Int32) (mn : Int32) (r : Option Value) (t' v' : Nat → Int32) : Prop :=
  (∃ (kc : Nat), (cn = nI kc) ∧ (nI kc < v 3) ∧ (kc < 20) ∧ (1 ≤ mn ∧ mn ≤ 8) ∧ (v (28 + 9 * kc + 7) = 0) ∧ (v (28 + 9 * kc + 3) = 0) ∧ (t' 1 = 3)) ∨
  (∃ (kc : Nat), (cn = nI kc) ∧ (nI kc < v 3) ∧ (kc < 20) ∧ (1 ≤ mn ∧ mn ≤ 8) ∧ (v (28 + 9 * kc + 7) = 0) ∧ (¬ (v (28 + 9 * kc + 3) = 0)) ∧ (mn ≤ v 2) ∧ ((v (28 + 9 * kc + 5)) + mn ≤ 8) ∧ (rTight (upd (upd v 2 ((v 2) - mn)) (28 + 9 * kc + 5) (((upd v 2 ((v 2) - mn)) (28 + 9 * kc + 5)) + mn)) kc) ∧ (t' 1 = t 1) ∧ (r = some (.int (1))) ∧ (v' = (upd (upd v 2 ((v 2) - mn)) (28 + 9 * kc + 5) (((upd v 2 ((v 2) - mn)) (28 + 9 * kc + 5)) + mn)))) ∨
  (∃ (kc : Nat), (cn = nI kc) ∧ (nI kc < v 3) ∧ (kc < 20) ∧ (1 ≤ mn ∧ mn ≤ 8) ∧ (v (28 + 9 * kc + 7) = 0) ∧ (¬ (v (28 + 9 * kc + 3) = 0)) ∧ (mn ≤ v 2) ∧ ((v (28 + 9 * kc + 5)) + mn ≤ 8) ∧ (¬ (rTight (upd (upd v 2 ((v 2) - mn)) (28 + 9 * kc + 5) (((upd v 2 ((v 2) - mn)) (28 + 9 * kc + 5)) + mn)) kc)) ∧ (t' 1 = t 1) ∧ (r = some (.int (0))) ∧ (v' = (upd (upd v 2 ((v 2) - mn)) (28 + 9 * kc + 5) (((upd v 2 ((v 2) - mn)) (28 + 9 * kc + 5)) + mn)))) ∨
  (∃ (kc : Nat), (cn = nI kc) ∧ (nI kc < v 3) ∧ (kc < 20) ∧ (1 ≤ mn ∧ mn ≤ 8) ∧ (v (28 + 9 * kc + 7) = 0) ∧ (¬ (v (28 + 9 * kc + 3) = 0)) ∧ (mn ≤ v 2) ∧ (¬ ((v (28 + 9 * kc + 5)) + mn ≤ 8)) ∧ (t' 1 = 3)) ∨
  (∃ (kc : Nat), (cn = nI kc) ∧ (nI kc < v 3) ∧ (kc < 20) ∧ (1 ≤ mn ∧ mn ≤ 8) ∧ (v (28 + 9 * kc + 7) = 0) ∧ (¬ (v (28 + 9 * kc + 3) = 0)) ∧ (¬ (mn ≤ v 2)) ∧ (t' 1 = 3)) ∨
  (∃ (kc : Nat), (cn = nI kc) ∧ (nI kc < v 3) ∧ (kc < 20) ∧ (1 ≤ mn ∧ mn ≤ 8) ∧ (¬ (v (28 + 9 * kc + 7) = 0)) ∧ (t' 1 = 3)) ∨
  (∃ (kc : Nat), (cn = nI kc) ∧ (nI kc < v 3) ∧ (kc < 20) ∧ (¬ (1 ≤ mn ∧ mn ≤ 8)) ∧ (t' 1 = 2)) ∨
  ((¬ (0 ≤ cn ∧ cn < v 3)) ∧ (t' 1 = 1))
set_option maxHeartbeats 4000000 in
set_option maxRecDepth 100000 in
theorem k_X8_screws (l : Launch) (hl : l.stackTraces = false) (g : xg_T) (w : xw_T) (sz n : Nat) (t v bf sv pa lb ip td sg : Nat → Int32) (hM : MR g w t v bf sv pa lb ip td sg) (hJ : MJ n t v bf sv pa sg) (cn : Int32) (mn : Int32) : xM l g yX8_screws cX8_screws 3 (some .int) ({ frames := 2, cells := 0, slots := 0, locals := 43 }) 0 0 [.ref (g.2 0 + 258), .int cn, .int mn] w sz (mX g w sz n bf sv pa ip td sg (fun r t' v' => mT t r t' v' ∧ R_X8_screws t v cn mn r t' v')) (fun _ _ _ => False) := by
  refine xM.of RX8 hl (by decide +kernel) rfl (Nat.le_of_ble_eq_true rfl) rfl ?_
  intro p e s m args below meth cD C0 hini
  refine x_aload_n 0 1 C0 dX8_screws_0 rfl rfl rfl ?_
  refine x_iload_n 1 2 C0 dX8_screws_1 rfl rfl rfl ?_
  refine x_callV 5 C0 (k_X8_isChest l hl g _ _ n t v bf sv pa lb ip td sg hM hJ cn) dX8_screws_2 rfl mC_X8_isChest mM_X8_108 mI_X8_isChest mV_X8_isChest mN_X8 yd_X8_isChest rfl rfl ⟨Nat.le_of_ble_eq_true rfl, Nat.le_of_ble_eq_true rfl⟩ hM.o rfl rfl rfl rfl (Nat.le_of_ble_eq_true rfl) ⟨Nat.le_of_ble_eq_true rfl, Nat.le_of_ble_eq_true rfl⟩ (fun _ _ _ q => False.elim q) (fun r w1 sz1 hz hP => ?_)
  obtain ⟨hr, rfl, rfl⟩ := hP
  rcases hr with ⟨⟨kc, hkc, hkv, hk3⟩, rfl⟩ | ⟨rfl, hkn⟩
  · subst hkv
    refine x_st (st1 := [.int 1]) rfl ?_
    refine x_if_ne 14 8 C0 dX8_screws_5 rfl (by decide) (fun _ => ?_) (fun q => False.elim (by revert q; decide))
    refine x_iload_n 2 15 C0 dX8_screws_14 rfl rfl rfl ?_
    refine x_iconst (v := 1) 16 C0 dX8_screws_15 rfl (by decide) ?_
    refine x_bipush (v := 8) 18 C0 dX8_screws_16 rfl (by decide) ?_
    refine x_callS 21 C0 (k_X8_isIn l hl g _ _ mn 1 8) dX8_screws_18 rfl mC_X8_isIn mM_X8_67 mS_X8_isIn mN_X8 yd_X8_isIn rfl rfl ⟨Nat.le_of_ble_eq_true rfl, Nat.le_of_ble_eq_true rfl⟩ rfl rfl (Nat.le_of_ble_eq_true rfl) ⟨Nat.le_of_ble_eq_true rfl, Nat.le_of_ble_eq_true rfl⟩ (fun _ _ _ q => False.elim q) (fun r w1 sz1 hz hP => ?_)
    obtain ⟨hr, rfl, rfl⟩ := hP
    rcases hr with ⟨rfl, ha2, hb2⟩ | ⟨rfl, hx2⟩
    · refine x_st (st1 := [.int 1]) rfl ?_
      refine x_if_ne 30 24 C0 dX8_screws_21 rfl (by decide) (fun _ => ?_) (fun q => False.elim (by revert q; decide))
      refine x_aload_n 0 31 C0 dX8_screws_30 rfl rfl rfl ?_
      refine x_getf (v := .ref (g.2 0 + 258 + 1)) 8 34 C0 dX8_screws_31 rfl hM.o rfl (by decide) inX8 mF_X8_7 rfl ?_
      refine x_iload_n 1 35 C0 dX8_screws_34 rfl rfl rfl ?_
      refine x_bipush (v := 7) 37 C0 dX8_screws_35 rfl (by decide) ?_
      refine x_callS 40 C0 (k_X8_at l hl g _ _ (nI kc) 7) dX8_screws_37 rfl mC_X8_at mM_X8_71 mS_X8_at mN_X8 yd_X8_at rfl rfl ⟨Nat.le_of_ble_eq_true rfl, Nat.le_of_ble_eq_true rfl⟩ rfl rfl (Nat.le_of_ble_eq_true rfl) ⟨Nat.le_of_ble_eq_true rfl, Nat.le_of_ble_eq_true rfl⟩ (fun _ _ _ q => False.elim q) (fun r w1 sz1 hz hP => ?_)
      obtain ⟨rfl, rfl, rfl⟩ := hP
      refine x_st (st1 := [.int (nI (28 + 9 * kc + 7)), .ref (g.2 0 + 258 + 1)]) (congrArg (fun z => Value.int z :: _) (at_nI 28 9 kc 7)) ?_
      refine x_iald 0 41 C0 dX8_screws_40 rfl hM.r_v rfl (vp_in_nI (n := 28 + 9 * kc + 7) (by omega) (by decide)) ?_
      refine x_st (st1 := [.int (v (28 + 9 * kc + 7))]) (congrArg (fun z => Value.int z :: _) (show v (nI (28 + 9 * kc + 7)).toNatClampNeg = v (28 + 9 * kc + 7) from by rw [nI_clamp (by omega)])) ?_
      refine x_if_eq 61 44 C0 dX8_screws_41 rfl (by decide) (fun c4 => ?_) (fun c4 => ?_)
      · refine x_aload_n 0 62 C0 dX8_screws_61 rfl rfl rfl ?_
        refine x_iload_n 1 63 C0 dX8_screws_62 rfl rfl rfl ?_
        refine x_callV 66 C0 (k_X8_isEmpty l hl g _ _ n t v bf sv pa lb ip td sg hM hJ kc (by omega)) dX8_screws_63 rfl mC_X8_isEmpty mM_X8_118 mI_X8_isEmpty mV_X8_isEmpty mN_X8 yd_X8_isEmpty rfl rfl ⟨Nat.le_of_ble_eq_true rfl, Nat.le_of_ble_eq_true rfl⟩ hM.o rfl rfl rfl rfl (Nat.le_of_ble_eq_true rfl) ⟨Nat.le_of_ble_eq_true rfl, Nat.le_of_ble_eq_true rfl⟩ (fun _ _ _ q => False.elim q) (fun r w1 sz1 hz hP => ?_)
        obtain ⟨hR5, rfl, rfl⟩ := hP
        rcases hR5 with ⟨rfl, hq5⟩ | ⟨rfl, hq5⟩
        · refine x_st (st1 := [.int 1]) rfl ?_
          refine x_if_eq 77 69 C0 dX8_screws_66 rfl (by decide) (fun q => False.elim (by revert q; decide)) (fun _ => ?_)
          refine x_aload_n 0 70 C0 dX8_screws_69 rfl rfl rfl ?_
          refine x_bipush (v := 10) 72 C0 dX8_screws_70 rfl (by decide) ?_
          refine x_iload_n 1 73 C0 dX8_screws_72 rfl rfl rfl ?_
          refine x_callV 76 C0 (k_X8_refuses l hl g _ _ n t v bf sv pa lb ip td sg hM hJ 10 (nI kc)) dX8_screws_73 rfl mC_X8_refuses mM_X8_82 mI_X8_refuses mV_X8_refuses mN_X8 yd_X8_refuses rfl rfl ⟨Nat.le_of_ble_eq_true rfl, Nat.le_of_ble_eq_true rfl⟩ hM.o rfl rfl rfl rfl (Nat.le_of_ble_eq_true rfl) ⟨Nat.le_of_ble_eq_true rfl, Nat.le_of_ble_eq_true rfl⟩ (fun _ _ _ q => False.elim q) (fun r w1 sz1 hz hP => ?_)
          obtain ⟨rfl, rfl, rfl⟩ := hP
          have hJ7 : MJ n (upd (upd (upd t 5 10) 6 (nI kc)) 1 3) v bf sv pa sg := (((hJ.j_t (by decide)).j_t (by decide)).j_t (by decide))
          refine x_st (st1 := [.int 0]) rfl ?_
          exact x_ireturn C0 dX8_screws_76 rfl rfl (Nat.le_of_ble_eq_true rfl) (Nat.le_of_ble_eq_true rfl) ⟨rfl, _, _, _, rfl, hJ7, ⟨⟨⟨_, rfl⟩, (((tK.rf.up (by decide)).up (by decide)).up (by decide))⟩, (Or.inl ⟨kc, rfl, hk3, hkc, ⟨ha2, hb2⟩, c4, hq5, rfl⟩)⟩⟩
        · refine x_st (st1 := [.int 0]) rfl ?_
          refine x_if_eq 77 69 C0 dX8_screws_66 rfl (by decide) (fun _ => ?_) (fun q => False.elim (by revert q; decide))
          refine x_aload_n 0 78 C0 dX8_screws_77 rfl rfl rfl ?_
          refine x_getf (v := .ref (g.2 0 + 258 + 1)) 8 81 C0 dX8_screws_78 rfl hM.o rfl (by decide) inX8 mF_X8_7 rfl ?_
          refine x_iconst (v := 2) 82 C0 dX8_screws_81 rfl (by decide) ?_
          refine x_iald 0 83 C0 dX8_screws_82 rfl hM.r_v rfl (vp_in_nI (n := 2) (by decide) (by decide)) ?_
          refine x_st (st1 := [.int (v 2)]) (congrArg (fun z => Value.int z :: _) (show v (nI 2).toNatClampNeg = v 2 from by rw [nI_clamp (by omega)])) ?_
          refine x_iload_n 2 84 C0 dX8_screws_83 rfl rfl rfl ?_
          refine x_icmp_ge 100 87 C0 dX8_screws_84 rfl (by decide) (fun c9 => ?_) (fun c9 => ?_)
          · have c9' := Int32.not_lt.mpr c9
            refine x_aload_n 0 101 C0 dX8_screws_100 rfl rfl rfl ?_
            refine x_getf (v := .ref (g.2 0 + 258 + 1)) 8 104 C0 dX8_screws_101 rfl hM.o rfl (by decide) inX8 mF_X8_7 rfl ?_
            refine x_iload_n 1 105 C0 dX8_screws_104 rfl rfl rfl ?_
            refine x_iconst (v := 5) 106 C0 dX8_screws_105 rfl (by decide) ?_
            refine x_callS 109 C0 (k_X8_at l hl g _ _ (nI kc) 5) dX8_screws_106 rfl mC_X8_at mM_X8_71 mS_X8_at mN_X8 yd_X8_at rfl rfl ⟨Nat.le_of_ble_eq_true rfl, Nat.le_of_ble_eq_true rfl⟩ rfl rfl (Nat.le_of_ble_eq_true rfl) ⟨Nat.le_of_ble_eq_true rfl, Nat.le_of_ble_eq_true rfl⟩ (fun _ _ _ q => False.elim q) (fun r w1 sz1 hz hP => ?_)
            obtain ⟨rfl, rfl, rfl⟩ := hP
            refine x_st (st1 := [.int (nI (28 + 9 * kc + 5)), .ref (g.2 0 + 258 + 1)]) (congrArg (fun z => Value.int z :: _) (at_nI 28 9 kc 5)) ?_
            refine x_iald 0 110 C0 dX8_screws_109 rfl hM.r_v rfl (vp_in_nI (n := 28 + 9 * kc + 5) (by omega) (by decide)) ?_
            refine x_st (st1 := [.int (v (28 + 9 * kc + 5))]) (congrArg (fun z => Value.int z :: _) (show v (nI (28 + 9 * kc + 5)).toNatClampNeg = v (28 + 9 * kc + 5) from by rw [nI_clamp (by omega)])) ?_
            refine x_iload_n 2 111 C0 dX8_screws_110 rfl rfl rfl ?_
            refine x_iadd 112 C0 dX8_screws_111 rfl ?_
            refine x_bipush (v := 8) 114 C0 dX8_screws_112 rfl (by decide) ?_
            refine x_icmp_le 134 117 C0 dX8_screws_114 rfl (by decide) (fun c10 => ?_) (fun c10 => ?_)
            · have c10' := Int32.not_lt.mpr c10
              refine x_aload_n 0 135 C0 dX8_screws_134 rfl rfl rfl ?_
              refine x_getf (v := .ref (g.2 0 + 258 + 1)) 8 138 C0 dX8_screws_135 rfl hM.o rfl (by decide) inX8 mF_X8_7 rfl ?_
              refine x_iconst (v := 2) 139 C0 dX8_screws_138 rfl (by decide) ?_
              refine x_dup2 140 C0 dX8_screws_139 rfl rfl rfl ?_
              refine x_iald 0 141 C0 dX8_screws_140 rfl hM.r_v rfl (vp_in_nI (n := 2) (by decide) (by decide)) ?_
              refine x_st (st1 := [.int (v 2), .int 2, .ref (g.2 0 + 258 + 1)]) (congrArg (fun z => Value.int z :: _) (show v (nI 2).toNatClampNeg = v 2 from by rw [nI_clamp (by omega)])) ?_
              refine x_iload_n 2 142 C0 dX8_screws_141 rfl rfl rfl ?_
              refine x_isub 143 C0 dX8_screws_142 rfl ?_
              refine x_w (MW_self hM) ?_
              refine x_iast 0 144 C0 dX8_screws_143 rfl MR_MW.r_v (by show g.2 0 ≤ _; omega) rfl (vp_in_nI (n := 2) (by omega) (by decide)) ?_
              refine x_w (w1 := (MW g w t (upd v 2 ((v 2) - mn)) bf sv pa lb ip td sg)) (by rw [show (2 : Int32).toNatClampNeg = 2 from nI_clamp (n := 2) (by omega)]; exact MW_v) ?_
              have hJ11 : MJ n t (upd v 2 ((v 2) - mn)) bf sv pa sg := hJ.j_v (hJ.1.up (Or.inl (by decide)))
              refine x_aload_n 0 145 C0 dX8_screws_144 rfl rfl rfl ?_
              refine x_getf (v := .ref (g.2 0 + 258 + 1)) 8 148 C0 dX8_screws_145 rfl MR_MW.o rfl (by decide) inX8 mF_X8_7 rfl ?_
              refine x_iload_n 1 149 C0 dX8_screws_148 rfl rfl rfl ?_
              refine x_iconst (v := 5) 150 C0 dX8_screws_149 rfl (by decide) ?_
              refine x_callS 153 C0 (k_X8_at l hl g _ _ (nI kc) 5) dX8_screws_150 rfl mC_X8_at mM_X8_71 mS_X8_at mN_X8 yd_X8_at rfl rfl ⟨Nat.le_of_ble_eq_true rfl, Nat.le_of_ble_eq_true rfl⟩ rfl rfl (Nat.le_of_ble_eq_true rfl) ⟨Nat.le_of_ble_eq_true rfl, Nat.le_of_ble_eq_true rfl⟩ (fun _ _ _ q => False.elim q) (fun r w1 sz1 hz hP => ?_)
              obtain ⟨rfl, rfl, rfl⟩ := hP
              refine x_st (st1 := [.int (nI (28 + 9 * kc + 5)), .ref (g.2 0 + 258 + 1)]) (congrArg (fun z => Value.int z :: _) (at_nI 28 9 kc 5)) ?_
              refine x_dup2 154 C0 dX8_screws_153 rfl rfl rfl ?_
              refine x_iald 0 155 C0 dX8_screws_154 rfl MR_MW.r_v rfl (vp_in_nI (n := 28 + 9 * kc + 5) (by omega) (by decide)) ?_
              refine x_st (st1 := [.int ((upd v 2 ((v 2) - mn)) (28 + 9 * kc + 5)), .int (nI (28 + 9 * kc + 5)), .ref (g.2 0 + 258 + 1)]) (congrArg (fun z => Value.int z :: _) (show (upd v 2 ((v 2) - mn)) (nI (28 + 9 * kc + 5)).toNatClampNeg = (upd v 2 ((v 2) - mn)) (28 + 9 * kc + 5) from by rw [nI_clamp (by omega)])) ?_
              refine x_iload_n 2 156 C0 dX8_screws_155 rfl rfl rfl ?_
              refine x_iadd 157 C0 dX8_screws_156 rfl ?_
              refine x_iast 0 158 C0 dX8_screws_157 rfl MR_MW.r_v (by show g.2 0 ≤ _; omega) rfl (vp_in_nI (n := 28 + 9 * kc + 5) (by omega) (by decide)) ?_
              refine x_w (w1 := (MW g w t (upd (upd v 2 ((v 2) - mn)) (28 + 9 * kc + 5) (((upd v 2 ((v 2) - mn)) (28 + 9 * kc + 5)) + mn)) bf sv pa lb ip td sg)) (by rw [show (nI (28 + 9 * kc + 5) : Int32).toNatClampNeg = (28 + 9 * kc + 5) from nI_clamp (n := 28 + 9 * kc + 5) (by omega)]; exact MW_v) ?_
              have hJ12 : MJ n t (upd (upd v 2 ((v 2) - mn)) (28 + 9 * kc + 5) (((upd v 2 ((v 2) - mn)) (28 + 9 * kc + 5)) + mn)) bf sv pa sg := hJ11.j_v (hJ11.1.up (Or.inr ⟨kc, 5, by omega, by decide, rfl⟩))
              refine x_aload_n 0 159 C0 dX8_screws_158 rfl rfl rfl ?_
              refine x_iload_n 1 160 C0 dX8_screws_159 rfl rfl rfl ?_
              refine x_callV 163 C0 (k_X8_isTight l hl g _ _ n t (upd (upd v 2 ((v 2) - mn)) (28 + 9 * kc + 5) (((upd v 2 ((v 2) - mn)) (28 + 9 * kc + 5)) + mn)) bf sv pa lb ip td sg MR_MW hJ12 kc (by omega)) dX8_screws_160 rfl mC_X8_isTight mM_X8_127 mI_X8_isTight mV_X8_isTight mN_X8 yd_X8_isTight rfl rfl ⟨Nat.le_of_ble_eq_true rfl, Nat.le_of_ble_eq_true rfl⟩ MR_MW.o rfl rfl rfl rfl (Nat.le_of_ble_eq_true rfl) ⟨Nat.le_of_ble_eq_true rfl, Nat.le_of_ble_eq_true rfl⟩ (fun _ _ _ q => False.elim q) (fun r w1 sz1 hz hP => ?_)
              obtain ⟨hR13, rfl, rfl⟩ := hP
              rcases hR13 with ⟨rfl, hq13⟩ | ⟨rfl, hq13⟩
              · refine x_st (st1 := [.int 1]) rfl ?_
                refine x_if_eq 170 166 C0 dX8_screws_163 rfl (by decide) (fun q => False.elim (by revert q; decide)) (fun _ => ?_)
                refine x_iconst (v := 1) 167 C0 dX8_screws_166 rfl (by decide) ?_
                refine x_goto 171 C0 dX8_screws_167 (by decide) ?_
                exact x_ireturn C0 dX8_screws_171 rfl rfl (Nat.le_of_ble_eq_true rfl) (Nat.le_of_ble_eq_true rfl) ⟨rfl, _, _, _, rfl, hJ12, ⟨⟨⟨_, rfl⟩, tK.rf⟩, (Or.inr (Or.inl ⟨kc, rfl, hk3, hkc, ⟨ha2, hb2⟩, c4, hq5, c9, c10, hq13, rfl, rfl, rfl⟩))⟩⟩
              · refine x_st (st1 := [.int 0]) rfl ?_
                refine x_if_eq 170 166 C0 dX8_screws_163 rfl (by decide) (fun _ => ?_) (fun q => False.elim (by revert q; decide))
                refine x_iconst (v := 0) 171 C0 dX8_screws_170 rfl (by decide) ?_
                exact x_ireturn C0 dX8_screws_171 rfl rfl (Nat.le_of_ble_eq_true rfl) (Nat.le_of_ble_eq_true rfl) ⟨rfl, _, _, _, rfl, hJ12, ⟨⟨⟨_, rfl⟩, tK.rf⟩, (Or.inr (Or.inr (Or.inl ⟨kc, rfl, hk3, hkc, ⟨ha2, hb2⟩, c4, hq5, c9, c10, hq13, rfl, rfl, rfl⟩)))⟩⟩
            · have c10' := Int32.not_le.mp c10
              refine x_aload_n 0 118 C0 dX8_screws_117 rfl rfl rfl ?_
              refine x_bipush (v := 12) 120 C0 dX8_screws_118 rfl (by decide) ?_
              refine x_aload_n 0 121 C0 dX8_screws_120 rfl rfl rfl ?_
              refine x_getf (v := .ref (g.2 0 + 258 + 1)) 8 124 C0 dX8_screws_121 rfl hM.o rfl (by decide) inX8 mF_X8_7 rfl ?_
              refine x_iload_n 1 125 C0 dX8_screws_124 rfl rfl rfl ?_
              refine x_iconst (v := 5) 126 C0 dX8_screws_125 rfl (by decide) ?_
              refine x_callS 129 C0 (k_X8_at l hl g _ _ (nI kc) 5) dX8_screws_126 rfl mC_X8_at mM_X8_71 mS_X8_at mN_X8 yd_X8_at rfl rfl ⟨Nat.le_of_ble_eq_true rfl, Nat.le_of_ble_eq_true rfl⟩ rfl rfl (Nat.le_of_ble_eq_true rfl) ⟨Nat.le_of_ble_eq_true rfl, Nat.le_of_ble_eq_true rfl⟩ (fun _ _ _ q => False.elim q) (fun r w1 sz1 hz hP => ?_)
              obtain ⟨rfl, rfl, rfl⟩ := hP
              refine x_st (st1 := [.int (nI (28 + 9 * kc + 5)), .ref (g.2 0 + 258 + 1), .int 12, .ref (g.2 0 + 258)]) (congrArg (fun z => Value.int z :: _) (at_nI 28 9 kc 5)) ?_
              refine x_iald 0 130 C0 dX8_screws_129 rfl hM.r_v rfl (vp_in_nI (n := 28 + 9 * kc + 5) (by omega) (by decide)) ?_
              refine x_st (st1 := [.int (v (28 + 9 * kc + 5)), .int 12, .ref (g.2 0 + 258)]) (congrArg (fun z => Value.int z :: _) (show v (nI (28 + 9 * kc + 5)).toNatClampNeg = v (28 + 9 * kc + 5) from by rw [nI_clamp (by omega)])) ?_
              refine x_callV 133 C0 (k_X8_refuses l hl g _ _ n t v bf sv pa lb ip td sg hM hJ 12 (v (28 + 9 * kc + 5))) dX8_screws_130 rfl mC_X8_refuses mM_X8_82 mI_X8_refuses mV_X8_refuses mN_X8 yd_X8_refuses rfl rfl ⟨Nat.le_of_ble_eq_true rfl, Nat.le_of_ble_eq_true rfl⟩ hM.o rfl rfl rfl rfl (Nat.le_of_ble_eq_true rfl) ⟨Nat.le_of_ble_eq_true rfl, Nat.le_of_ble_eq_true rfl⟩ (fun _ _ _ q => False.elim q) (fun r w1 sz1 hz hP => ?_)
              obtain ⟨rfl, rfl, rfl⟩ := hP
              have hJ16 : MJ n (upd (upd (upd t 5 12) 6 (v (28 + 9 * kc + 5))) 1 3) v bf sv pa sg := (((hJ.j_t (by decide)).j_t (by decide)).j_t (by decide))
              refine x_st (st1 := [.int 0]) rfl ?_
              exact x_ireturn C0 dX8_screws_133 rfl rfl (Nat.le_of_ble_eq_true rfl) (Nat.le_of_ble_eq_true rfl) ⟨rfl, _, _, _, rfl, hJ16, ⟨⟨⟨_, rfl⟩, (((tK.rf.up (by decide)).up (by decide)).up (by decide))⟩, (Or.inr (Or.inr (Or.inr (Or.inl ⟨kc, rfl, hk3, hkc, ⟨ha2, hb2⟩, c4, hq5, c9, c10, rfl⟩))))⟩⟩
          · have c9' := Int32.not_le.mp c9
            refine x_aload_n 0 88 C0 dX8_screws_87 rfl rfl rfl ?_
            refine x_bipush (v := 11) 90 C0 dX8_screws_88 rfl (by decide) ?_
            refine x_aload_n 0 91 C0 dX8_screws_90 rfl rfl rfl ?_
            refine x_getf (v := .ref (g.2 0 + 258 + 1)) 8 94 C0 dX8_screws_91 rfl hM.o rfl (by decide) inX8 mF_X8_7 rfl ?_
            refine x_iconst (v := 2) 95 C0 dX8_screws_94 rfl (by decide) ?_
            refine x_iald 0 96 C0 dX8_screws_95 rfl hM.r_v rfl (vp_in_nI (n := 2) (by decide) (by decide)) ?_
            refine x_st (st1 := [.int (v 2), .int 11, .ref (g.2 0 + 258)]) (congrArg (fun z => Value.int z :: _) (show v (nI 2).toNatClampNeg = v 2 from by rw [nI_clamp (by omega)])) ?_
            refine x_callV 99 C0 (k_X8_refuses l hl g _ _ n t v bf sv pa lb ip td sg hM hJ 11 (v 2)) dX8_screws_96 rfl mC_X8_refuses mM_X8_82 mI_X8_refuses mV_X8_refuses mN_X8 yd_X8_refuses rfl rfl ⟨Nat.le_of_ble_eq_true rfl, Nat.le_of_ble_eq_true rfl⟩ hM.o rfl rfl rfl rfl (Nat.le_of_ble_eq_true rfl) ⟨Nat.le_of_ble_eq_true rfl, Nat.le_of_ble_eq_true rfl⟩ (fun _ _ _ q => False.elim q) (fun r w1 sz1 hz hP => ?_)
            obtain ⟨rfl, rfl, rfl⟩ := hP
            have hJ17 : MJ n (upd (upd (upd t 5 11) 6 (v 2)) 1 3) v bf sv pa sg := (((hJ.j_t (by decide)).j_t (by decide)).j_t (by decide))
            refine x_st (st1 := [.int 0]) rfl ?_
            exact x_ireturn C0 dX8_screws_99 rfl rfl (Nat.le_of_ble_eq_true rfl) (Nat.le_of_ble_eq_true rfl) ⟨rfl, _, _, _, rfl, hJ17, ⟨⟨⟨_, rfl⟩, (((tK.rf.up (by decide)).up (by decide)).up (by decide))⟩, (Or.inr (Or.inr (Or.inr (Or.inr (Or.inl ⟨kc, rfl, hk3, hkc, ⟨ha2, hb2⟩, c4, hq5, c9, rfl⟩)))))⟩⟩
      · refine x_aload_n 0 45 C0 dX8_screws_44 rfl rfl rfl ?_
        refine x_iconst (v := 3) 46 C0 dX8_screws_45 rfl (by decide) ?_
        refine x_aload_n 0 47 C0 dX8_screws_46 rfl rfl rfl ?_
        refine x_getf (v := .ref (g.2 0 + 258 + 1)) 8 50 C0 dX8_screws_47 rfl hM.o rfl (by decide) inX8 mF_X8_7 rfl ?_
        refine x_iload_n 1 51 C0 dX8_screws_50 rfl rfl rfl ?_
        refine x_bipush (v := 7) 53 C0 dX8_screws_51 rfl (by decide) ?_
        refine x_callS 56 C0 (k_X8_at l hl g _ _ (nI kc) 7) dX8_screws_53 rfl mC_X8_at mM_X8_71 mS_X8_at mN_X8 yd_X8_at rfl rfl ⟨Nat.le_of_ble_eq_true rfl, Nat.le_of_ble_eq_true rfl⟩ rfl rfl (Nat.le_of_ble_eq_true rfl) ⟨Nat.le_of_ble_eq_true rfl, Nat.le_of_ble_eq_true rfl⟩ (fun _ _ _ q => False.elim q) (fun r w1 sz1 hz hP => ?_)
        obtain ⟨rfl, rfl, rfl⟩ := hP
        refine x_st (st1 := [.int (nI (28 + 9 * kc + 7)), .ref (g.2 0 + 258 + 1), .int 3, .ref (g.2 0 + 258)]) (congrArg (fun z => Value.int z :: _) (at_nI 28 9 kc 7)) ?_
        refine x_iald 0 57 C0 dX8_screws_56 rfl hM.r_v rfl (vp_in_nI (n := 28 + 9 * kc + 7) (by omega) (by decide)) ?_
        refine x_st (st1 := [.int (v (28 + 9 * kc + 7)), .int 3, .ref (g.2 0 + 258)]) (congrArg (fun z => Value.int z :: _) (show v (nI (28 + 9 * kc + 7)).toNatClampNeg = v (28 + 9 * kc + 7) from by rw [nI_clamp (by omega)])) ?_
        refine x_callV 60 C0 (k_X8_refuses l hl g _ _ n t v bf sv pa lb ip td sg hM hJ 3 (v (28 + 9 * kc + 7))) dX8_screws_57 rfl mC_X8_refuses mM_X8_82 mI_X8_refuses mV_X8_refuses mN_X8 yd_X8_refuses rfl rfl ⟨Nat.le_of_ble_eq_true rfl, Nat.le_of_ble_eq_true rfl⟩ hM.o rfl rfl rfl rfl (Nat.le_of_ble_eq_true rfl) ⟨Nat.le_of_ble_eq_true rfl, Nat.le_of_ble_eq_true rfl⟩ (fun _ _ _ q => False.elim q) (fun r w1 sz1 hz hP => ?_)
        obtain ⟨rfl, rfl, rfl⟩ := hP
        have hJ18 : MJ n (upd (upd (upd t 5 3) 6 (v (28 + 9 * kc + 7))) 1 3) v bf sv pa sg := (((hJ.j_t (by decide)).j_t (by decide)).j_t (by decide))
        refine x_st (st1 := [.int 0]) rfl ?_
        exact x_ireturn C0 dX8_screws_60 rfl rfl (Nat.le_of_ble_eq_true rfl) (Nat.le_of_ble_eq_true rfl) ⟨rfl, _, _, _, rfl, hJ18, ⟨⟨⟨_, rfl⟩, (((tK.rf.up (by decide)).up (by decide)).up (by decide))⟩, (Or.inr (Or.inr (Or.inr (Or.inr (Or.inr (Or.inl ⟨kc, rfl, hk3, hkc, ⟨ha2, hb2⟩, c4, rfl⟩))))))⟩⟩
    · refine x_st (st1 := [.int 0]) rfl ?_
      refine x_if_ne 30 24 C0 dX8_screws_21 rfl (by decide) (fun q => False.elim (by revert q; decide)) (fun _ => ?_)
      refine x_aload_n 0 25 C0 dX8_screws_24 rfl rfl rfl ?_
      refine x_iconst (v := 2) 26 C0 dX8_screws_25 rfl (by decide) ?_
      refine x_callV 29 C0 (k_X8_fail l hl g _ _ n t v bf sv pa lb ip td sg hM hJ 2) dX8_screws_26 rfl mC_X8_fail mM_X8_47 mI_X8_fail mV_X8_fail mN_X8 yd_X8_fail rfl rfl ⟨Nat.le_of_ble_eq_true rfl, Nat.le_of_ble_eq_true rfl⟩ hM.o rfl rfl rfl rfl (Nat.le_of_ble_eq_true rfl) ⟨Nat.le_of_ble_eq_true rfl, Nat.le_of_ble_eq_true rfl⟩ (fun _ _ _ q => False.elim q) (fun r w1 sz1 hz hP => ?_)
      obtain ⟨rfl, rfl, rfl⟩ := hP
      have hJ20 : MJ n (upd t 1 2) v bf sv pa sg := (hJ.j_t (by decide))
      refine x_st (st1 := [.int 0]) rfl ?_
      exact x_ireturn C0 dX8_screws_29 rfl rfl (Nat.le_of_ble_eq_true rfl) (Nat.le_of_ble_eq_true rfl) ⟨rfl, _, _, _, rfl, hJ20, ⟨⟨⟨_, rfl⟩, (tK.rf.up (by decide))⟩, (Or.inr (Or.inr (Or.inr (Or.inr (Or.inr (Or.inr (Or.inl ⟨kc, rfl, hk3, hkc, hx2, rfl⟩)))))))⟩⟩
  · refine x_st (st1 := [.int 0]) rfl ?_
    refine x_if_ne 14 8 C0 dX8_screws_5 rfl (by decide) (fun q => False.elim (by revert q; decide)) (fun _ => ?_)
    refine x_aload_n 0 9 C0 dX8_screws_8 rfl rfl rfl ?_
    refine x_iconst (v := 1) 10 C0 dX8_screws_9 rfl (by decide) ?_
    refine x_callV 13 C0 (k_X8_fail l hl g _ _ n t v bf sv pa lb ip td sg hM hJ 1) dX8_screws_10 rfl mC_X8_fail mM_X8_47 mI_X8_fail mV_X8_fail mN_X8 yd_X8_fail rfl rfl ⟨Nat.le_of_ble_eq_true rfl, Nat.le_of_ble_eq_true rfl⟩ hM.o rfl rfl rfl rfl (Nat.le_of_ble_eq_true rfl) ⟨Nat.le_of_ble_eq_true rfl, Nat.le_of_ble_eq_true rfl⟩ (fun _ _ _ q => False.elim q) (fun r w1 sz1 hz hP => ?_)
    obtain ⟨rfl, rfl, rfl⟩ := hP
    have hJ22 : MJ n (upd t 1 1) v bf sv pa sg := (hJ.j_t (by decide))
    refine x_st (st1 := [.int 0]) rfl ?_
    exact x_ireturn C0 dX8_screws_13 rfl rfl (Nat.le_of_ble_eq_true rfl) (Nat.le_of_ble_eq_true rfl) ⟨rfl, _, _, _, rfl, hJ22, ⟨⟨⟨_, rfl⟩, (tK.rf.up (by decide))⟩, (Or.inr (Or.inr (Or.inr (Or.inr (Or.inr (Or.inr (Or.inr (⟨hkn, rfl⟩))))))))⟩⟩

def R_X8_unscrews (t v : Nat → Int32) (cn : Int32) (r : Option Value) (t' v' : Nat → Int32) : Prop :=
  (∃ (kc : Nat), (cn = nI kc) ∧ (nI kc < v 3) ∧ (kc < 20) ∧ (v (28 + 9 * kc + 7) = 0) ∧ (t' 1 = t 1) ∧ (r = some (.int (v (28 + 9 * kc + 5)))) ∧ (v' = (upd (upd v 2 (lsr 200 ((v 2) + (v (28 + 9 * kc + 5))))) (28 + 9 * kc + 5) 0))) ∨
  (∃ (kc : Nat), (cn = nI kc) ∧ (nI kc < v 3) ∧ (kc < 20) ∧ (¬ (v (28 + 9 * kc + 7) = 0)) ∧ (t' 1 = 3)) ∨
  ((¬ (0 ≤ cn ∧ cn < v 3)) ∧ (t' 1 = 1))
set_option maxHeartbeats 4000000 in
set_option maxRecDepth 100000 in
theorem k_X8_unscrews (l : Launch) (hl : l.stackTraces = false) (g : xg_T) (w : xw_T) (sz n : Nat) (t v bf sv pa lb ip td sg : Nat → Int32) (hM : MR g w t v bf sv pa lb ip td sg) (hJ : MJ n t v bf sv pa sg) (cn : Int32) : xM l g yX8_unscrews cX8_unscrews 3 (some .int) ({ frames := 2, cells := 0, slots := 0, locals := 43 }) 0 0 [.ref (g.2 0 + 258), .int cn] w sz (mX g w sz n bf sv pa ip td sg (fun r t' v' => mT t r t' v' ∧ R_X8_unscrews t v cn r t' v')) (fun _ _ _ => False) := by
  refine xM.of RX8 hl (by decide +kernel) rfl (Nat.le_of_ble_eq_true rfl) rfl ?_
  intro p e s m args below meth cD C0 hini
  refine x_aload_n 0 1 C0 dX8_unscrews_0 rfl rfl rfl ?_
  refine x_iload_n 1 2 C0 dX8_unscrews_1 rfl rfl rfl ?_
  refine x_callV 5 C0 (k_X8_isChest l hl g _ _ n t v bf sv pa lb ip td sg hM hJ cn) dX8_unscrews_2 rfl mC_X8_isChest mM_X8_108 mI_X8_isChest mV_X8_isChest mN_X8 yd_X8_isChest rfl rfl ⟨Nat.le_of_ble_eq_true rfl, Nat.le_of_ble_eq_true rfl⟩ hM.o rfl rfl rfl rfl (Nat.le_of_ble_eq_true rfl) ⟨Nat.le_of_ble_eq_true rfl, Nat.le_of_ble_eq_true rfl⟩ (fun _ _ _ q => False.elim q) (fun r w1 sz1 hz hP => ?_)
  obtain ⟨hr, rfl, rfl⟩ := hP
  rcases hr with ⟨⟨kc, hkc, hkv, hk3⟩, rfl⟩ | ⟨rfl, hkn⟩
  · subst hkv
    refine x_st (st1 := [.int 1]) rfl ?_
    refine x_if_ne 14 8 C0 dX8_unscrews_5 rfl (by decide) (fun _ => ?_) (fun q => False.elim (by revert q; decide))
    refine x_aload_n 0 15 C0 dX8_unscrews_14 rfl rfl rfl ?_
    refine x_getf (v := .ref (g.2 0 + 258 + 1)) 8 18 C0 dX8_unscrews_15 rfl hM.o rfl (by decide) inX8 mF_X8_7 rfl ?_
    refine x_iload_n 1 19 C0 dX8_unscrews_18 rfl rfl rfl ?_
    refine x_bipush (v := 7) 21 C0 dX8_unscrews_19 rfl (by decide) ?_
    refine x_callS 24 C0 (k_X8_at l hl g _ _ (nI kc) 7) dX8_unscrews_21 rfl mC_X8_at mM_X8_71 mS_X8_at mN_X8 yd_X8_at rfl rfl ⟨Nat.le_of_ble_eq_true rfl, Nat.le_of_ble_eq_true rfl⟩ rfl rfl (Nat.le_of_ble_eq_true rfl) ⟨Nat.le_of_ble_eq_true rfl, Nat.le_of_ble_eq_true rfl⟩ (fun _ _ _ q => False.elim q) (fun r w1 sz1 hz hP => ?_)
    obtain ⟨rfl, rfl, rfl⟩ := hP
    refine x_st (st1 := [.int (nI (28 + 9 * kc + 7)), .ref (g.2 0 + 258 + 1)]) (congrArg (fun z => Value.int z :: _) (at_nI 28 9 kc 7)) ?_
    refine x_iald 0 25 C0 dX8_unscrews_24 rfl hM.r_v rfl (vp_in_nI (n := 28 + 9 * kc + 7) (by omega) (by decide)) ?_
    refine x_st (st1 := [.int (v (28 + 9 * kc + 7))]) (congrArg (fun z => Value.int z :: _) (show v (nI (28 + 9 * kc + 7)).toNatClampNeg = v (28 + 9 * kc + 7) from by rw [nI_clamp (by omega)])) ?_
    refine x_if_eq 45 28 C0 dX8_unscrews_25 rfl (by decide) (fun c2 => ?_) (fun c2 => ?_)
    · refine x_aload_n 0 46 C0 dX8_unscrews_45 rfl rfl rfl ?_
      refine x_getf (v := .ref (g.2 0 + 258 + 1)) 8 49 C0 dX8_unscrews_46 rfl hM.o rfl (by decide) inX8 mF_X8_7 rfl ?_
      refine x_iload_n 1 50 C0 dX8_unscrews_49 rfl rfl rfl ?_
      refine x_iconst (v := 5) 51 C0 dX8_unscrews_50 rfl (by decide) ?_
      refine x_callS 54 C0 (k_X8_at l hl g _ _ (nI kc) 5) dX8_unscrews_51 rfl mC_X8_at mM_X8_71 mS_X8_at mN_X8 yd_X8_at rfl rfl ⟨Nat.le_of_ble_eq_true rfl, Nat.le_of_ble_eq_true rfl⟩ rfl rfl (Nat.le_of_ble_eq_true rfl) ⟨Nat.le_of_ble_eq_true rfl, Nat.le_of_ble_eq_true rfl⟩ (fun _ _ _ q => False.elim q) (fun r w1 sz1 hz hP => ?_)
      obtain ⟨rfl, rfl, rfl⟩ := hP
      refine x_st (st1 := [.int (nI (28 + 9 * kc + 5)), .ref (g.2 0 + 258 + 1)]) (congrArg (fun z => Value.int z :: _) (at_nI 28 9 kc 5)) ?_
      refine x_iald 0 55 C0 dX8_unscrews_54 rfl hM.r_v rfl (vp_in_nI (n := 28 + 9 * kc + 5) (by omega) (by decide)) ?_
      refine x_st (st1 := [.int (v (28 + 9 * kc + 5))]) (congrArg (fun z => Value.int z :: _) (show v (nI (28 + 9 * kc + 5)).toNatClampNeg = v (28 + 9 * kc + 5) from by rw [nI_clamp (by omega)])) ?_
      refine x_istore_n [(2, .int (v (28 + 9 * kc + 5))), (0, .ref (g.2 0 + 258)), (1, .int (nI kc))] 56 C0 dX8_unscrews_55 rfl rfl (by decide) rfl ?_
      refine x_lv (lv1 := [(0, .ref (g.2 0 + 258)), (1, .int (nI kc)), (2, .int (v (28 + 9 * kc + 5)))]) [1, 2, 0] rfl ?_
      refine x_aload_n 0 57 C0 dX8_unscrews_56 rfl rfl rfl ?_
      refine x_getf (v := .ref (g.2 0 + 258 + 1)) 8 60 C0 dX8_unscrews_57 rfl hM.o rfl (by decide) inX8 mF_X8_7 rfl ?_
      refine x_iconst (v := 2) 61 C0 dX8_unscrews_60 rfl (by decide) ?_
      refine x_sipush (v := 200) 64 C0 dX8_unscrews_61 rfl (by decide) ?_
      refine x_aload_n 0 65 C0 dX8_unscrews_64 rfl rfl rfl ?_
      refine x_getf (v := .ref (g.2 0 + 258 + 1)) 8 68 C0 dX8_unscrews_65 rfl hM.o rfl (by decide) inX8 mF_X8_7 rfl ?_
      refine x_iconst (v := 2) 69 C0 dX8_unscrews_68 rfl (by decide) ?_
      refine x_iald 0 70 C0 dX8_unscrews_69 rfl hM.r_v rfl (vp_in_nI (n := 2) (by decide) (by decide)) ?_
      refine x_st (st1 := [.int (v 2), .int 200, .int 2, .ref (g.2 0 + 258 + 1)]) (congrArg (fun z => Value.int z :: _) (show v (nI 2).toNatClampNeg = v 2 from by rw [nI_clamp (by omega)])) ?_
      refine x_iload_n 2 71 C0 dX8_unscrews_70 rfl rfl rfl ?_
      refine x_iadd 72 C0 dX8_unscrews_71 rfl ?_
      refine x_callS 75 C0 (k_X8_lesser l hl g _ _ 200 ((v 2) + (v (28 + 9 * kc + 5)))) dX8_unscrews_72 rfl mC_X8_lesser mM_X8_99 mS_X8_lesser mN_X8 yd_X8_lesser rfl rfl ⟨Nat.le_of_ble_eq_true rfl, Nat.le_of_ble_eq_true rfl⟩ rfl rfl (Nat.le_of_ble_eq_true rfl) ⟨Nat.le_of_ble_eq_true rfl, Nat.le_of_ble_eq_true rfl⟩ (fun _ _ _ q => False.elim q) (fun r w1 sz1 hz hP => ?_)
      obtain ⟨rfl, rfl, rfl⟩ := hP
      refine x_st (st1 := [.int (lsr 200 ((v 2) + (v (28 + 9 * kc + 5)))), .int 2, .ref (g.2 0 + 258 + 1)]) rfl ?_
      refine x_w (MW_self hM) ?_
      refine x_iast 0 76 C0 dX8_unscrews_75 rfl MR_MW.r_v (by show g.2 0 ≤ _; omega) rfl (vp_in_nI (n := 2) (by omega) (by decide)) ?_
      refine x_w (w1 := (MW g w t (upd v 2 (lsr 200 ((v 2) + (v (28 + 9 * kc + 5))))) bf sv pa lb ip td sg)) (by rw [show (2 : Int32).toNatClampNeg = 2 from nI_clamp (n := 2) (by omega)]; exact MW_v) ?_
      have hJ3 : MJ n t (upd v 2 (lsr 200 ((v 2) + (v (28 + 9 * kc + 5))))) bf sv pa sg := hJ.j_v (hJ.1.up (Or.inl (by decide)))
      refine x_aload_n 0 77 C0 dX8_unscrews_76 rfl rfl rfl ?_
      refine x_getf (v := .ref (g.2 0 + 258 + 1)) 8 80 C0 dX8_unscrews_77 rfl MR_MW.o rfl (by decide) inX8 mF_X8_7 rfl ?_
      refine x_iload_n 1 81 C0 dX8_unscrews_80 rfl rfl rfl ?_
      refine x_iconst (v := 5) 82 C0 dX8_unscrews_81 rfl (by decide) ?_
      refine x_callS 85 C0 (k_X8_at l hl g _ _ (nI kc) 5) dX8_unscrews_82 rfl mC_X8_at mM_X8_71 mS_X8_at mN_X8 yd_X8_at rfl rfl ⟨Nat.le_of_ble_eq_true rfl, Nat.le_of_ble_eq_true rfl⟩ rfl rfl (Nat.le_of_ble_eq_true rfl) ⟨Nat.le_of_ble_eq_true rfl, Nat.le_of_ble_eq_true rfl⟩ (fun _ _ _ q => False.elim q) (fun r w1 sz1 hz hP => ?_)
      obtain ⟨rfl, rfl, rfl⟩ := hP
      refine x_st (st1 := [.int (nI (28 + 9 * kc + 5)), .ref (g.2 0 + 258 + 1)]) (congrArg (fun z => Value.int z :: _) (at_nI 28 9 kc 5)) ?_
      refine x_iconst (v := 0) 86 C0 dX8_unscrews_85 rfl (by decide) ?_
      refine x_iast 0 87 C0 dX8_unscrews_86 rfl MR_MW.r_v (by show g.2 0 ≤ _; omega) rfl (vp_in_nI (n := 28 + 9 * kc + 5) (by omega) (by decide)) ?_
      refine x_w (w1 := (MW g w t (upd (upd v 2 (lsr 200 ((v 2) + (v (28 + 9 * kc + 5))))) (28 + 9 * kc + 5) 0) bf sv pa lb ip td sg)) (by rw [show (nI (28 + 9 * kc + 5) : Int32).toNatClampNeg = (28 + 9 * kc + 5) from nI_clamp (n := 28 + 9 * kc + 5) (by omega)]; exact MW_v) ?_
      have hJ4 : MJ n t (upd (upd v 2 (lsr 200 ((v 2) + (v (28 + 9 * kc + 5))))) (28 + 9 * kc + 5) 0) bf sv pa sg := hJ3.j_v (hJ3.1.up (Or.inr ⟨kc, 5, by omega, by decide, rfl⟩))
      refine x_iload_n 2 88 C0 dX8_unscrews_87 rfl rfl rfl ?_
      exact x_ireturn C0 dX8_unscrews_88 rfl rfl (Nat.le_of_ble_eq_true rfl) (Nat.le_of_ble_eq_true rfl) ⟨rfl, _, _, _, rfl, hJ4, ⟨⟨⟨_, rfl⟩, tK.rf⟩, (Or.inl ⟨kc, rfl, hk3, hkc, c2, rfl, rfl, rfl⟩)⟩⟩
    · refine x_aload_n 0 29 C0 dX8_unscrews_28 rfl rfl rfl ?_
      refine x_iconst (v := 3) 30 C0 dX8_unscrews_29 rfl (by decide) ?_
      refine x_aload_n 0 31 C0 dX8_unscrews_30 rfl rfl rfl ?_
      refine x_getf (v := .ref (g.2 0 + 258 + 1)) 8 34 C0 dX8_unscrews_31 rfl hM.o rfl (by decide) inX8 mF_X8_7 rfl ?_
      refine x_iload_n 1 35 C0 dX8_unscrews_34 rfl rfl rfl ?_
      refine x_bipush (v := 7) 37 C0 dX8_unscrews_35 rfl (by decide) ?_
      refine x_callS 40 C0 (k_X8_at l hl g _ _ (nI kc) 7) dX8_unscrews_37 rfl mC_X8_at mM_X8_71 mS_X8_at mN_X8 yd_X8_at rfl rfl ⟨Nat.le_of_ble_eq_true rfl, Nat.le_of_ble_eq_true rfl⟩ rfl rfl (Nat.le_of_ble_eq_true rfl) ⟨Nat.le_of_ble_eq_true rfl, Nat.le_of_ble_eq_true rfl⟩ (fun _ _ _ q => False.elim q) (fun r w1 sz1 hz hP => ?_)
      obtain ⟨rfl, rfl, rfl⟩ := hP
      refine x_st (st1 := [.int (nI (28 + 9 * kc + 7)), .ref (g.2 0 + 258 + 1), .int 3, .ref (g.2 0 + 258)]) (congrArg (fun z => Value.int z :: _) (at_nI 28 9 kc 7)) ?_
      refine x_iald 0 41 C0 dX8_unscrews_40 rfl hM.r_v rfl (vp_in_nI (n := 28 + 9 * kc + 7) (by omega) (by decide)) ?_
      refine x_st (st1 := [.int (v (28 + 9 * kc + 7)), .int 3, .ref (g.2 0 + 258)]) (congrArg (fun z => Value.int z :: _) (show v (nI (28 + 9 * kc + 7)).toNatClampNeg = v (28 + 9 * kc + 7) from by rw [nI_clamp (by omega)])) ?_
      refine x_callV 44 C0 (k_X8_refuses l hl g _ _ n t v bf sv pa lb ip td sg hM hJ 3 (v (28 + 9 * kc + 7))) dX8_unscrews_41 rfl mC_X8_refuses mM_X8_82 mI_X8_refuses mV_X8_refuses mN_X8 yd_X8_refuses rfl rfl ⟨Nat.le_of_ble_eq_true rfl, Nat.le_of_ble_eq_true rfl⟩ hM.o rfl rfl rfl rfl (Nat.le_of_ble_eq_true rfl) ⟨Nat.le_of_ble_eq_true rfl, Nat.le_of_ble_eq_true rfl⟩ (fun _ _ _ q => False.elim q) (fun r w1 sz1 hz hP => ?_)
      obtain ⟨rfl, rfl, rfl⟩ := hP
      have hJ5 : MJ n (upd (upd (upd t 5 3) 6 (v (28 + 9 * kc + 7))) 1 3) v bf sv pa sg := (((hJ.j_t (by decide)).j_t (by decide)).j_t (by decide))
      refine x_st (st1 := [.int 0]) rfl ?_
      exact x_ireturn C0 dX8_unscrews_44 rfl rfl (Nat.le_of_ble_eq_true rfl) (Nat.le_of_ble_eq_true rfl) ⟨rfl, _, _, _, rfl, hJ5, ⟨⟨⟨_, rfl⟩, (((tK.rf.up (by decide)).up (by decide)).up (by decide))⟩, (Or.inr (Or.inl ⟨kc, rfl, hk3, hkc, c2, rfl⟩))⟩⟩
  · refine x_st (st1 := [.int 0]) rfl ?_
    refine x_if_ne 14 8 C0 dX8_unscrews_5 rfl (by decide) (fun q => False.elim (by revert q; decide)) (fun _ => ?_)
    refine x_aload_n 0 9 C0 dX8_unscrews_8 rfl rfl rfl ?_
    refine x_iconst (v := 1) 10 C0 dX8_unscrews_9 rfl (by decide) ?_
    refine x_callV 13 C0 (k_X8_fail l hl g _ _ n t v bf sv pa lb ip td sg hM hJ 1) dX8_unscrews_10 rfl mC_X8_fail mM_X8_47 mI_X8_fail mV_X8_fail mN_X8 yd_X8_fail rfl rfl ⟨Nat.le_of_ble_eq_true rfl, Nat.le_of_ble_eq_true rfl⟩ hM.o rfl rfl rfl rfl (Nat.le_of_ble_eq_true rfl) ⟨Nat.le_of_ble_eq_true rfl, Nat.le_of_ble_eq_true rfl⟩ (fun _ _ _ q => False.elim q) (fun r w1 sz1 hz hP => ?_)
    obtain ⟨rfl, rfl, rfl⟩ := hP
    have hJ7 : MJ n (upd t 1 1) v bf sv pa sg := (hJ.j_t (by decide))
    refine x_st (st1 := [.int 0]) rfl ?_
    exact x_ireturn C0 dX8_unscrews_13 rfl rfl (Nat.le_of_ble_eq_true rfl) (Nat.le_of_ble_eq_true rfl) ⟨rfl, _, _, _, rfl, hJ7, ⟨⟨⟨_, rfl⟩, (tK.rf.up (by decide))⟩, (Or.inr (Or.inr (⟨hkn, rfl⟩)))⟩⟩

def R_X8_labels (t v : Nat → Int32) (cn : Int32) (r : Option Value) (t' v' : Nat → Int32) : Prop :=
  (∃ (kc : Nat), (cn = nI kc) ∧ (nI kc < v 3) ∧ (kc < 20) ∧ (v (28 + 9 * kc + 7) = 0) ∧ (v (28 + 9 * kc + 3) = 0) ∧ (t' 1 = 3)) ∨
  (∃ (kc : Nat) (t9 : Nat → Int32), (cn = nI kc) ∧ (nI kc < v 3) ∧ (kc < 20) ∧ (v (28 + 9 * kc + 7) = 0) ∧ (¬ (v (28 + 9 * kc + 3) = 0)) ∧ (v (28 + 9 * kc + 6) ≤ 0) ∧ (t9 1 = t 1) ∧ (t' 1 = t 1) ∧ (r = some (.int (t9 8))) ∧ (v' = (upd v (28 + 9 * kc + 8) 1))) ∨
  (∃ (kc : Nat) (t11 : Nat → Int32), (cn = nI kc) ∧ (nI kc < v 3) ∧ (kc < 20) ∧ (v (28 + 9 * kc + 7) = 0) ∧ (¬ (v (28 + 9 * kc + 3) = 0)) ∧ (¬ (v (28 + 9 * kc + 6) ≤ 0)) ∧ (t11 1 = t 1) ∧ (t' 1 = t 1) ∧ (r = some (.int (t11 8))) ∧ (v' = (upd v (28 + 9 * kc + 8) 2))) ∨
  (∃ (kc : Nat), (cn = nI kc) ∧ (nI kc < v 3) ∧ (kc < 20) ∧ (¬ (v (28 + 9 * kc + 7) = 0)) ∧ (t' 1 = 3)) ∨
  ((¬ (0 ≤ cn ∧ cn < v 3)) ∧ (t' 1 = 1))
set_option maxHeartbeats 4000000 in
set_option maxRecDepth 100000 in
theorem k_X8_labels (l : Launch) (hl : l.stackTraces = false) (g : xg_T) (w : xw_T) (sz n : Nat) (t v bf sv pa lb ip td sg : Nat → Int32) (hM : MR g w t v bf sv pa lb ip td sg) (hJ : MJ n t v bf sv pa sg) (cn : Int32) : xM l g yX8_labels cX8_labels 2 (some .int) ({ frames := 2, cells := 0, slots := 0, locals := 45 }) 0 0 [.ref (g.2 0 + 258), .int cn] w sz (mX g w sz n bf sv pa ip td sg (fun r t' v' => mT t r t' v' ∧ R_X8_labels t v cn r t' v')) (fun _ _ _ => False) := by
  refine xM.of RX8 hl (by decide +kernel) rfl (Nat.le_of_ble_eq_true rfl) rfl ?_
  intro p e s m args below meth cD C0 hini
  refine x_aload_n 0 1 C0 dX8_labels_0 rfl rfl rfl ?_
  refine x_iload_n 1 2 C0 dX8_labels_1 rfl rfl rfl ?_
  refine x_callV 5 C0 (k_X8_isChest l hl g _ _ n t v bf sv pa lb ip td sg hM hJ cn) dX8_labels_2 rfl mC_X8_isChest mM_X8_108 mI_X8_isChest mV_X8_isChest mN_X8 yd_X8_isChest rfl rfl ⟨Nat.le_of_ble_eq_true rfl, Nat.le_of_ble_eq_true rfl⟩ hM.o rfl rfl rfl rfl (Nat.le_of_ble_eq_true rfl) ⟨Nat.le_of_ble_eq_true rfl, Nat.le_of_ble_eq_true rfl⟩ (fun _ _ _ q => False.elim q) (fun r w1 sz1 hz hP => ?_)
  obtain ⟨hr, rfl, rfl⟩ := hP
  rcases hr with ⟨⟨kc, hkc, hkv, hk3⟩, rfl⟩ | ⟨rfl, hkn⟩
  · subst hkv
    refine x_st (st1 := [.int 1]) rfl ?_
    refine x_if_ne 14 8 C0 dX8_labels_5 rfl (by decide) (fun _ => ?_) (fun q => False.elim (by revert q; decide))
    refine x_aload_n 0 15 C0 dX8_labels_14 rfl rfl rfl ?_
    refine x_getf (v := .ref (g.2 0 + 258 + 1)) 8 18 C0 dX8_labels_15 rfl hM.o rfl (by decide) inX8 mF_X8_7 rfl ?_
    refine x_iload_n 1 19 C0 dX8_labels_18 rfl rfl rfl ?_
    refine x_bipush (v := 7) 21 C0 dX8_labels_19 rfl (by decide) ?_
    refine x_callS 24 C0 (k_X8_at l hl g _ _ (nI kc) 7) dX8_labels_21 rfl mC_X8_at mM_X8_71 mS_X8_at mN_X8 yd_X8_at rfl rfl ⟨Nat.le_of_ble_eq_true rfl, Nat.le_of_ble_eq_true rfl⟩ rfl rfl (Nat.le_of_ble_eq_true rfl) ⟨Nat.le_of_ble_eq_true rfl, Nat.le_of_ble_eq_true rfl⟩ (fun _ _ _ q => False.elim q) (fun r w1 sz1 hz hP => ?_)
    obtain ⟨rfl, rfl, rfl⟩ := hP
    refine x_st (st1 := [.int (nI (28 + 9 * kc + 7)), .ref (g.2 0 + 258 + 1)]) (congrArg (fun z => Value.int z :: _) (at_nI 28 9 kc 7)) ?_
    refine x_iald 0 25 C0 dX8_labels_24 rfl hM.r_v rfl (vp_in_nI (n := 28 + 9 * kc + 7) (by omega) (by decide)) ?_
    refine x_st (st1 := [.int (v (28 + 9 * kc + 7))]) (congrArg (fun z => Value.int z :: _) (show v (nI (28 + 9 * kc + 7)).toNatClampNeg = v (28 + 9 * kc + 7) from by rw [nI_clamp (by omega)])) ?_
    refine x_if_eq 45 28 C0 dX8_labels_25 rfl (by decide) (fun c2 => ?_) (fun c2 => ?_)
    · refine x_aload_n 0 46 C0 dX8_labels_45 rfl rfl rfl ?_
      refine x_iload_n 1 47 C0 dX8_labels_46 rfl rfl rfl ?_
      refine x_callV 50 C0 (k_X8_isEmpty l hl g _ _ n t v bf sv pa lb ip td sg hM hJ kc (by omega)) dX8_labels_47 rfl mC_X8_isEmpty mM_X8_118 mI_X8_isEmpty mV_X8_isEmpty mN_X8 yd_X8_isEmpty rfl rfl ⟨Nat.le_of_ble_eq_true rfl, Nat.le_of_ble_eq_true rfl⟩ hM.o rfl rfl rfl rfl (Nat.le_of_ble_eq_true rfl) ⟨Nat.le_of_ble_eq_true rfl, Nat.le_of_ble_eq_true rfl⟩ (fun _ _ _ q => False.elim q) (fun r w1 sz1 hz hP => ?_)
      obtain ⟨hR3, rfl, rfl⟩ := hP
      rcases hR3 with ⟨rfl, hq3⟩ | ⟨rfl, hq3⟩
      · refine x_st (st1 := [.int 1]) rfl ?_
        refine x_if_eq 61 53 C0 dX8_labels_50 rfl (by decide) (fun q => False.elim (by revert q; decide)) (fun _ => ?_)
        refine x_aload_n 0 54 C0 dX8_labels_53 rfl rfl rfl ?_
        refine x_bipush (v := 10) 56 C0 dX8_labels_54 rfl (by decide) ?_
        refine x_iload_n 1 57 C0 dX8_labels_56 rfl rfl rfl ?_
        refine x_callV 60 C0 (k_X8_refuses l hl g _ _ n t v bf sv pa lb ip td sg hM hJ 10 (nI kc)) dX8_labels_57 rfl mC_X8_refuses mM_X8_82 mI_X8_refuses mV_X8_refuses mN_X8 yd_X8_refuses rfl rfl ⟨Nat.le_of_ble_eq_true rfl, Nat.le_of_ble_eq_true rfl⟩ hM.o rfl rfl rfl rfl (Nat.le_of_ble_eq_true rfl) ⟨Nat.le_of_ble_eq_true rfl, Nat.le_of_ble_eq_true rfl⟩ (fun _ _ _ q => False.elim q) (fun r w1 sz1 hz hP => ?_)
        obtain ⟨rfl, rfl, rfl⟩ := hP
        have hJ5 : MJ n (upd (upd (upd t 5 10) 6 (nI kc)) 1 3) v bf sv pa sg := (((hJ.j_t (by decide)).j_t (by decide)).j_t (by decide))
        refine x_st (st1 := [.int 0]) rfl ?_
        exact x_ireturn C0 dX8_labels_60 rfl rfl (Nat.le_of_ble_eq_true rfl) (Nat.le_of_ble_eq_true rfl) ⟨rfl, _, _, _, rfl, hJ5, ⟨⟨⟨_, rfl⟩, (((tK.rf.up (by decide)).up (by decide)).up (by decide))⟩, (Or.inl ⟨kc, rfl, hk3, hkc, c2, hq3, rfl⟩)⟩⟩
      · refine x_st (st1 := [.int 0]) rfl ?_
        refine x_if_eq 61 53 C0 dX8_labels_50 rfl (by decide) (fun _ => ?_) (fun q => False.elim (by revert q; decide))
        refine x_aload_n 0 62 C0 dX8_labels_61 rfl rfl rfl ?_
        refine x_getf (v := .ref (g.2 0 + 258 + 1)) 8 65 C0 dX8_labels_62 rfl hM.o rfl (by decide) inX8 mF_X8_7 rfl ?_
        refine x_iload_n 1 66 C0 dX8_labels_65 rfl rfl rfl ?_
        refine x_bipush (v := 8) 68 C0 dX8_labels_66 rfl (by decide) ?_
        refine x_callS 71 C0 (k_X8_at l hl g _ _ (nI kc) 8) dX8_labels_68 rfl mC_X8_at mM_X8_71 mS_X8_at mN_X8 yd_X8_at rfl rfl ⟨Nat.le_of_ble_eq_true rfl, Nat.le_of_ble_eq_true rfl⟩ rfl rfl (Nat.le_of_ble_eq_true rfl) ⟨Nat.le_of_ble_eq_true rfl, Nat.le_of_ble_eq_true rfl⟩ (fun _ _ _ q => False.elim q) (fun r w1 sz1 hz hP => ?_)
        obtain ⟨rfl, rfl, rfl⟩ := hP
        refine x_st (st1 := [.int (nI (28 + 9 * kc + 8)), .ref (g.2 0 + 258 + 1)]) (congrArg (fun z => Value.int z :: _) (at_nI 28 9 kc 8)) ?_
        refine x_aload_n 0 72 C0 dX8_labels_71 rfl rfl rfl ?_
        refine x_getf (v := .ref (g.2 0 + 258 + 1)) 8 75 C0 dX8_labels_72 rfl hM.o rfl (by decide) inX8 mF_X8_7 rfl ?_
        refine x_iload_n 1 76 C0 dX8_labels_75 rfl rfl rfl ?_
        refine x_bipush (v := 6) 78 C0 dX8_labels_76 rfl (by decide) ?_
        refine x_callS 81 C0 (k_X8_at l hl g _ _ (nI kc) 6) dX8_labels_78 rfl mC_X8_at mM_X8_71 mS_X8_at mN_X8 yd_X8_at rfl rfl ⟨Nat.le_of_ble_eq_true rfl, Nat.le_of_ble_eq_true rfl⟩ rfl rfl (Nat.le_of_ble_eq_true rfl) ⟨Nat.le_of_ble_eq_true rfl, Nat.le_of_ble_eq_true rfl⟩ (fun _ _ _ q => False.elim q) (fun r w1 sz1 hz hP => ?_)
        obtain ⟨rfl, rfl, rfl⟩ := hP
        refine x_st (st1 := [.int (nI (28 + 9 * kc + 6)), .ref (g.2 0 + 258 + 1), .int (nI (28 + 9 * kc + 8)), .ref (g.2 0 + 258 + 1)]) (congrArg (fun z => Value.int z :: _) (at_nI 28 9 kc 6)) ?_
        refine x_iald 0 82 C0 dX8_labels_81 rfl hM.r_v rfl (vp_in_nI (n := 28 + 9 * kc + 6) (by omega) (by decide)) ?_
        refine x_st (st1 := [.int (v (28 + 9 * kc + 6)), .int (nI (28 + 9 * kc + 8)), .ref (g.2 0 + 258 + 1)]) (congrArg (fun z => Value.int z :: _) (show v (nI (28 + 9 * kc + 6)).toNatClampNeg = v (28 + 9 * kc + 6) from by rw [nI_clamp (by omega)])) ?_
        refine x_if_le 89 85 C0 dX8_labels_82 rfl (by decide) (fun c7 => ?_) (fun c7 => ?_)
        · have c7' := Int32.not_lt.mpr c7
          refine x_iconst (v := 1) 90 C0 dX8_labels_89 rfl (by decide) ?_
          refine x_w (MW_self hM) ?_
          refine x_iast 0 91 C0 dX8_labels_90 rfl MR_MW.r_v (by show g.2 0 ≤ _; omega) rfl (vp_in_nI (n := 28 + 9 * kc + 8) (by omega) (by decide)) ?_
          refine x_w (w1 := (MW g w t (upd v (28 + 9 * kc + 8) 1) bf sv pa lb ip td sg)) (by rw [show (nI (28 + 9 * kc + 8) : Int32).toNatClampNeg = (28 + 9 * kc + 8) from nI_clamp (n := 28 + 9 * kc + 8) (by omega)]; exact MW_v) ?_
          have hJ8 : MJ n t (upd v (28 + 9 * kc + 8) 1) bf sv pa sg := hJ.j_v (hJ.1.la hkc hq3)
          refine x_aload_n 0 92 C0 dX8_labels_91 rfl rfl rfl ?_
          refine x_iload_n 1 93 C0 dX8_labels_92 rfl rfl rfl ?_
          refine x_callV 96 C0 (k_X8_writesLabel l hl g _ _ n t (upd v (28 + 9 * kc + 8) 1) bf sv pa lb ip td sg MR_MW hJ8 kc (by omega)) dX8_labels_93 rfl mC_X8_writesLabel mM_X8_143 mI_X8_writesLabel mV_X8_writesLabel mN_X8 yd_X8_writesLabel rfl rfl ⟨Nat.le_of_ble_eq_true rfl, Nat.le_of_ble_eq_true rfl⟩ MR_MW.o rfl rfl rfl rfl (Nat.le_of_ble_eq_true rfl) ⟨Nat.le_of_ble_eq_true rfl, Nat.le_of_ble_eq_true rfl⟩ (fun _ _ _ q => False.elim q) (fun r w1 sz1 hz hP => ?_)
          obtain ⟨rfl, rfl, t9, lb9, rfl, hJ9, he9, L9, hL9, h89⟩ := hP
          refine x_w MW_MW ?_
          refine x_st (st1 := []) rfl ?_
          refine x_aload_n 0 97 C0 dX8_labels_96 rfl rfl rfl ?_
          refine x_getf (v := .int (t9 8)) 13 100 C0 dX8_labels_97 rfl MR_MW.o rfl (by decide) inX8 mF_X8_136 rfl ?_
          exact x_ireturn C0 dX8_labels_100 rfl rfl (Nat.le_of_ble_eq_true rfl) (Nat.le_of_ble_eq_true rfl) ⟨rfl, _, _, _, rfl, hJ9, ⟨⟨⟨_, rfl⟩, (tK.of8 he9 tK.rf)⟩, (Or.inr (Or.inl ⟨kc, t9, rfl, hk3, hkc, c2, hq3, c7, (he9 1 (by decide)), (he9 1 (by decide)), rfl, rfl⟩))⟩⟩
        · have c7' := Int32.not_le.mp c7
          refine x_iconst (v := 2) 86 C0 dX8_labels_85 rfl (by decide) ?_
          refine x_goto 90 C0 dX8_labels_86 (by decide) ?_
          refine x_w (MW_self hM) ?_
          refine x_iast 0 91 C0 dX8_labels_90 rfl MR_MW.r_v (by show g.2 0 ≤ _; omega) rfl (vp_in_nI (n := 28 + 9 * kc + 8) (by omega) (by decide)) ?_
          refine x_w (w1 := (MW g w t (upd v (28 + 9 * kc + 8) 2) bf sv pa lb ip td sg)) (by rw [show (nI (28 + 9 * kc + 8) : Int32).toNatClampNeg = (28 + 9 * kc + 8) from nI_clamp (n := 28 + 9 * kc + 8) (by omega)]; exact MW_v) ?_
          have hJ10 : MJ n t (upd v (28 + 9 * kc + 8) 2) bf sv pa sg := hJ.j_v (hJ.1.la hkc hq3)
          refine x_aload_n 0 92 C0 dX8_labels_91 rfl rfl rfl ?_
          refine x_iload_n 1 93 C0 dX8_labels_92 rfl rfl rfl ?_
          refine x_callV 96 C0 (k_X8_writesLabel l hl g _ _ n t (upd v (28 + 9 * kc + 8) 2) bf sv pa lb ip td sg MR_MW hJ10 kc (by omega)) dX8_labels_93 rfl mC_X8_writesLabel mM_X8_143 mI_X8_writesLabel mV_X8_writesLabel mN_X8 yd_X8_writesLabel rfl rfl ⟨Nat.le_of_ble_eq_true rfl, Nat.le_of_ble_eq_true rfl⟩ MR_MW.o rfl rfl rfl rfl (Nat.le_of_ble_eq_true rfl) ⟨Nat.le_of_ble_eq_true rfl, Nat.le_of_ble_eq_true rfl⟩ (fun _ _ _ q => False.elim q) (fun r w1 sz1 hz hP => ?_)
          obtain ⟨rfl, rfl, t11, lb11, rfl, hJ11, he11, L11, hL11, h811⟩ := hP
          refine x_w MW_MW ?_
          refine x_st (st1 := []) rfl ?_
          refine x_aload_n 0 97 C0 dX8_labels_96 rfl rfl rfl ?_
          refine x_getf (v := .int (t11 8)) 13 100 C0 dX8_labels_97 rfl MR_MW.o rfl (by decide) inX8 mF_X8_136 rfl ?_
          exact x_ireturn C0 dX8_labels_100 rfl rfl (Nat.le_of_ble_eq_true rfl) (Nat.le_of_ble_eq_true rfl) ⟨rfl, _, _, _, rfl, hJ11, ⟨⟨⟨_, rfl⟩, (tK.of8 he11 tK.rf)⟩, (Or.inr (Or.inr (Or.inl ⟨kc, t11, rfl, hk3, hkc, c2, hq3, c7, (he11 1 (by decide)), (he11 1 (by decide)), rfl, rfl⟩)))⟩⟩
    · refine x_aload_n 0 29 C0 dX8_labels_28 rfl rfl rfl ?_
      refine x_iconst (v := 3) 30 C0 dX8_labels_29 rfl (by decide) ?_
      refine x_aload_n 0 31 C0 dX8_labels_30 rfl rfl rfl ?_
      refine x_getf (v := .ref (g.2 0 + 258 + 1)) 8 34 C0 dX8_labels_31 rfl hM.o rfl (by decide) inX8 mF_X8_7 rfl ?_
      refine x_iload_n 1 35 C0 dX8_labels_34 rfl rfl rfl ?_
      refine x_bipush (v := 7) 37 C0 dX8_labels_35 rfl (by decide) ?_
      refine x_callS 40 C0 (k_X8_at l hl g _ _ (nI kc) 7) dX8_labels_37 rfl mC_X8_at mM_X8_71 mS_X8_at mN_X8 yd_X8_at rfl rfl ⟨Nat.le_of_ble_eq_true rfl, Nat.le_of_ble_eq_true rfl⟩ rfl rfl (Nat.le_of_ble_eq_true rfl) ⟨Nat.le_of_ble_eq_true rfl, Nat.le_of_ble_eq_true rfl⟩ (fun _ _ _ q => False.elim q) (fun r w1 sz1 hz hP => ?_)
      obtain ⟨rfl, rfl, rfl⟩ := hP
      refine x_st (st1 := [.int (nI (28 + 9 * kc + 7)), .ref (g.2 0 + 258 + 1), .int 3, .ref (g.2 0 + 258)]) (congrArg (fun z => Value.int z :: _) (at_nI 28 9 kc 7)) ?_
      refine x_iald 0 41 C0 dX8_labels_40 rfl hM.r_v rfl (vp_in_nI (n := 28 + 9 * kc + 7) (by omega) (by decide)) ?_
      refine x_st (st1 := [.int (v (28 + 9 * kc + 7)), .int 3, .ref (g.2 0 + 258)]) (congrArg (fun z => Value.int z :: _) (show v (nI (28 + 9 * kc + 7)).toNatClampNeg = v (28 + 9 * kc + 7) from by rw [nI_clamp (by omega)])) ?_
      refine x_callV 44 C0 (k_X8_refuses l hl g _ _ n t v bf sv pa lb ip td sg hM hJ 3 (v (28 + 9 * kc + 7))) dX8_labels_41 rfl mC_X8_refuses mM_X8_82 mI_X8_refuses mV_X8_refuses mN_X8 yd_X8_refuses rfl rfl ⟨Nat.le_of_ble_eq_true rfl, Nat.le_of_ble_eq_true rfl⟩ hM.o rfl rfl rfl rfl (Nat.le_of_ble_eq_true rfl) ⟨Nat.le_of_ble_eq_true rfl, Nat.le_of_ble_eq_true rfl⟩ (fun _ _ _ q => False.elim q) (fun r w1 sz1 hz hP => ?_)
      obtain ⟨rfl, rfl, rfl⟩ := hP
      have hJ12 : MJ n (upd (upd (upd t 5 3) 6 (v (28 + 9 * kc + 7))) 1 3) v bf sv pa sg := (((hJ.j_t (by decide)).j_t (by decide)).j_t (by decide))
      refine x_st (st1 := [.int 0]) rfl ?_
      exact x_ireturn C0 dX8_labels_44 rfl rfl (Nat.le_of_ble_eq_true rfl) (Nat.le_of_ble_eq_true rfl) ⟨rfl, _, _, _, rfl, hJ12, ⟨⟨⟨_, rfl⟩, (((tK.rf.up (by decide)).up (by decide)).up (by decide))⟩, (Or.inr (Or.inr (Or.inr (Or.inl ⟨kc, rfl, hk3, hkc, c2, rfl⟩))))⟩⟩
  · refine x_st (st1 := [.int 0]) rfl ?_
    refine x_if_ne 14 8 C0 dX8_labels_5 rfl (by decide) (fun q => False.elim (by revert q; decide)) (fun _ => ?_)
    refine x_aload_n 0 9 C0 dX8_labels_8 rfl rfl rfl ?_
    refine x_iconst (v := 1) 10 C0 dX8_labels_9 rfl (by decide) ?_
    refine x_callV 13 C0 (k_X8_fail l hl g _ _ n t v bf sv pa lb ip td sg hM hJ 1) dX8_labels_10 rfl mC_X8_fail mM_X8_47 mI_X8_fail mV_X8_fail mN_X8 yd_X8_fail rfl rfl ⟨Nat.le_of_ble_eq_true rfl, Nat.le_of_ble_eq_true rfl⟩ hM.o rfl rfl rfl rfl (Nat.le_of_ble_eq_true rfl) ⟨Nat.le_of_ble_eq_true rfl, Nat.le_of_ble_eq_true rfl⟩ (fun _ _ _ q => False.elim q) (fun r w1 sz1 hz hP => ?_)
    obtain ⟨rfl, rfl, rfl⟩ := hP
    have hJ14 : MJ n (upd t 1 1) v bf sv pa sg := (hJ.j_t (by decide))
    refine x_st (st1 := [.int 0]) rfl ?_
    exact x_ireturn C0 dX8_labels_13 rfl rfl (Nat.le_of_ble_eq_true rfl) (Nat.le_of_ble_eq_true rfl) ⟨rfl, _, _, _, rfl, hJ14, ⟨⟨⟨_, rfl⟩, (tK.rf.up (by decide))⟩, (Or.inr (Or.inr (Or.inr (Or.inr (⟨hkn, rfl⟩)))))⟩⟩

def R_X8_goesOut (t v : Nat → Int32) (cn : Int32) (r : Option Value) (t' v' : Nat → Int32) : Prop :=
  (∃ (kc : Nat), (cn = nI kc) ∧ (nI kc < v 3) ∧ (kc < 20) ∧ (v (28 + 9 * kc + 7) = 0) ∧ (v (28 + 9 * kc + 3) = 0) ∧ (t' 1 = 3)) ∨
  (∃ (kc : Nat) (m11 : Nat), (cn = nI kc) ∧ (nI kc < v 3) ∧ (kc < 20) ∧ (v (28 + 9 * kc + 7) = 0) ∧ (¬ (v (28 + 9 * kc + 3) = 0)) ∧ (rTight v kc) ∧ (¬ v (28 + 9 * kc + 8) = 0) ∧ (m11 ≤ 20) ∧ ((upd v (28 + 9 * kc + 7) 1) 3 = nI m11) ∧ (t' 1 = t 1) ∧ (r = some (.int (nAt (upd v (28 + 9 * kc + 7) 1) 1 m11))) ∧ (v' = (upd v (28 + 9 * kc + 7) 1))) ∨
  (∃ (kc : Nat), (cn = nI kc) ∧ (nI kc < v 3) ∧ (kc < 20) ∧ (v (28 + 9 * kc + 7) = 0) ∧ (¬ (v (28 + 9 * kc + 3) = 0)) ∧ (rTight v kc) ∧ (v (28 + 9 * kc + 8) = 0) ∧ (t' 1 = 3)) ∨
  (∃ (kc : Nat), (cn = nI kc) ∧ (nI kc < v 3) ∧ (kc < 20) ∧ (v (28 + 9 * kc + 7) = 0) ∧ (¬ (v (28 + 9 * kc + 3) = 0)) ∧ (¬ (rTight v kc)) ∧ (t' 1 = 3)) ∨
  (∃ (kc : Nat), (cn = nI kc) ∧ (nI kc < v 3) ∧ (kc < 20) ∧ (¬ (v (28 + 9 * kc + 7) = 0)) ∧ (t' 1 = 3)) ∨
  ((¬ (0 ≤ cn ∧ cn < v 3)) ∧ (t' 1 = 1))
set_option maxHeartbeats 4000000 in
set_option maxRecDepth 100000 in
theorem k_X8_goesOut (l : Launch) (hl : l.stackTraces = false) (g : xg_T) (w : xw_T) (sz n : Nat) (t v bf sv pa lb ip td sg : Nat → Int32) (hM : MR g w t v bf sv pa lb ip td sg) (hJ : MJ n t v bf sv pa sg) (cn : Int32) : xM l g yX8_goesOut cX8_goesOut 2 (some .int) ({ frames := 2, cells := 0, slots := 0, locals := 44 }) 0 0 [.ref (g.2 0 + 258), .int cn] w sz (mX g w sz n bf sv pa ip td sg (fun r t' v' => mT t r t' v' ∧ R_X8_goesOut t v cn r t' v')) (fun _ _ _ => False) := by
  refine xM.of RX8 hl (by decide +kernel) rfl (Nat.le_of_ble_eq_true rfl) rfl ?_
  intro p e s m args below meth cD C0 hini
  refine x_aload_n 0 1 C0 dX8_goesOut_0 rfl rfl rfl ?_
  refine x_iload_n 1 2 C0 dX8_goesOut_1 rfl rfl rfl ?_
  refine x_callV 5 C0 (k_X8_isChest l hl g _ _ n t v bf sv pa lb ip td sg hM hJ cn) dX8_goesOut_2 rfl mC_X8_isChest mM_X8_108 mI_X8_isChest mV_X8_isChest mN_X8 yd_X8_isChest rfl rfl ⟨Nat.le_of_ble_eq_true rfl, Nat.le_of_ble_eq_true rfl⟩ hM.o rfl rfl rfl rfl (Nat.le_of_ble_eq_true rfl) ⟨Nat.le_of_ble_eq_true rfl, Nat.le_of_ble_eq_true rfl⟩ (fun _ _ _ q => False.elim q) (fun r w1 sz1 hz hP => ?_)
  obtain ⟨hr, rfl, rfl⟩ := hP
  rcases hr with ⟨⟨kc, hkc, hkv, hk3⟩, rfl⟩ | ⟨rfl, hkn⟩
  · subst hkv
    refine x_st (st1 := [.int 1]) rfl ?_
    refine x_if_ne 14 8 C0 dX8_goesOut_5 rfl (by decide) (fun _ => ?_) (fun q => False.elim (by revert q; decide))
    refine x_aload_n 0 15 C0 dX8_goesOut_14 rfl rfl rfl ?_
    refine x_getf (v := .ref (g.2 0 + 258 + 1)) 8 18 C0 dX8_goesOut_15 rfl hM.o rfl (by decide) inX8 mF_X8_7 rfl ?_
    refine x_iload_n 1 19 C0 dX8_goesOut_18 rfl rfl rfl ?_
    refine x_bipush (v := 7) 21 C0 dX8_goesOut_19 rfl (by decide) ?_
    refine x_callS 24 C0 (k_X8_at l hl g _ _ (nI kc) 7) dX8_goesOut_21 rfl mC_X8_at mM_X8_71 mS_X8_at mN_X8 yd_X8_at rfl rfl ⟨Nat.le_of_ble_eq_true rfl, Nat.le_of_ble_eq_true rfl⟩ rfl rfl (Nat.le_of_ble_eq_true rfl) ⟨Nat.le_of_ble_eq_true rfl, Nat.le_of_ble_eq_true rfl⟩ (fun _ _ _ q => False.elim q) (fun r w1 sz1 hz hP => ?_)
    obtain ⟨rfl, rfl, rfl⟩ := hP
    refine x_st (st1 := [.int (nI (28 + 9 * kc + 7)), .ref (g.2 0 + 258 + 1)]) (congrArg (fun z => Value.int z :: _) (at_nI 28 9 kc 7)) ?_
    refine x_iald 0 25 C0 dX8_goesOut_24 rfl hM.r_v rfl (vp_in_nI (n := 28 + 9 * kc + 7) (by omega) (by decide)) ?_
    refine x_st (st1 := [.int (v (28 + 9 * kc + 7))]) (congrArg (fun z => Value.int z :: _) (show v (nI (28 + 9 * kc + 7)).toNatClampNeg = v (28 + 9 * kc + 7) from by rw [nI_clamp (by omega)])) ?_
    refine x_if_eq 45 28 C0 dX8_goesOut_25 rfl (by decide) (fun c2 => ?_) (fun c2 => ?_)
    · refine x_aload_n 0 46 C0 dX8_goesOut_45 rfl rfl rfl ?_
      refine x_iload_n 1 47 C0 dX8_goesOut_46 rfl rfl rfl ?_
      refine x_callV 50 C0 (k_X8_isEmpty l hl g _ _ n t v bf sv pa lb ip td sg hM hJ kc (by omega)) dX8_goesOut_47 rfl mC_X8_isEmpty mM_X8_118 mI_X8_isEmpty mV_X8_isEmpty mN_X8 yd_X8_isEmpty rfl rfl ⟨Nat.le_of_ble_eq_true rfl, Nat.le_of_ble_eq_true rfl⟩ hM.o rfl rfl rfl rfl (Nat.le_of_ble_eq_true rfl) ⟨Nat.le_of_ble_eq_true rfl, Nat.le_of_ble_eq_true rfl⟩ (fun _ _ _ q => False.elim q) (fun r w1 sz1 hz hP => ?_)
      obtain ⟨hR3, rfl, rfl⟩ := hP
      rcases hR3 with ⟨rfl, hq3⟩ | ⟨rfl, hq3⟩
      · refine x_st (st1 := [.int 1]) rfl ?_
        refine x_if_eq 61 53 C0 dX8_goesOut_50 rfl (by decide) (fun q => False.elim (by revert q; decide)) (fun _ => ?_)
        refine x_aload_n 0 54 C0 dX8_goesOut_53 rfl rfl rfl ?_
        refine x_bipush (v := 10) 56 C0 dX8_goesOut_54 rfl (by decide) ?_
        refine x_iload_n 1 57 C0 dX8_goesOut_56 rfl rfl rfl ?_
        refine x_callV 60 C0 (k_X8_refuses l hl g _ _ n t v bf sv pa lb ip td sg hM hJ 10 (nI kc)) dX8_goesOut_57 rfl mC_X8_refuses mM_X8_82 mI_X8_refuses mV_X8_refuses mN_X8 yd_X8_refuses rfl rfl ⟨Nat.le_of_ble_eq_true rfl, Nat.le_of_ble_eq_true rfl⟩ hM.o rfl rfl rfl rfl (Nat.le_of_ble_eq_true rfl) ⟨Nat.le_of_ble_eq_true rfl, Nat.le_of_ble_eq_true rfl⟩ (fun _ _ _ q => False.elim q) (fun r w1 sz1 hz hP => ?_)
        obtain ⟨rfl, rfl, rfl⟩ := hP
        have hJ5 : MJ n (upd (upd (upd t 5 10) 6 (nI kc)) 1 3) v bf sv pa sg := (((hJ.j_t (by decide)).j_t (by decide)).j_t (by decide))
        refine x_st (st1 := [.int 0]) rfl ?_
        exact x_ireturn C0 dX8_goesOut_60 rfl rfl (Nat.le_of_ble_eq_true rfl) (Nat.le_of_ble_eq_true rfl) ⟨rfl, _, _, _, rfl, hJ5, ⟨⟨⟨_, rfl⟩, (((tK.rf.up (by decide)).up (by decide)).up (by decide))⟩, (Or.inl ⟨kc, rfl, hk3, hkc, c2, hq3, rfl⟩)⟩⟩
      · refine x_st (st1 := [.int 0]) rfl ?_
        refine x_if_eq 61 53 C0 dX8_goesOut_50 rfl (by decide) (fun _ => ?_) (fun q => False.elim (by revert q; decide))
        refine x_aload_n 0 62 C0 dX8_goesOut_61 rfl rfl rfl ?_
        refine x_iload_n 1 63 C0 dX8_goesOut_62 rfl rfl rfl ?_
        refine x_callV 66 C0 (k_X8_isTight l hl g _ _ n t v bf sv pa lb ip td sg hM hJ kc (by omega)) dX8_goesOut_63 rfl mC_X8_isTight mM_X8_127 mI_X8_isTight mV_X8_isTight mN_X8 yd_X8_isTight rfl rfl ⟨Nat.le_of_ble_eq_true rfl, Nat.le_of_ble_eq_true rfl⟩ hM.o rfl rfl rfl rfl (Nat.le_of_ble_eq_true rfl) ⟨Nat.le_of_ble_eq_true rfl, Nat.le_of_ble_eq_true rfl⟩ (fun _ _ _ q => False.elim q) (fun r w1 sz1 hz hP => ?_)
        obtain ⟨hR7, rfl, rfl⟩ := hP
        rcases hR7 with ⟨rfl, hq7⟩ | ⟨rfl, hq7⟩
        · refine x_st (st1 := [.int 1]) rfl ?_
          refine x_if_ne 77 69 C0 dX8_goesOut_66 rfl (by decide) (fun _ => ?_) (fun q => False.elim (by revert q; decide))
          refine x_aload_n 0 78 C0 dX8_goesOut_77 rfl rfl rfl ?_
          refine x_getf (v := .ref (g.2 0 + 258 + 1)) 8 81 C0 dX8_goesOut_78 rfl hM.o rfl (by decide) inX8 mF_X8_7 rfl ?_
          refine x_iload_n 1 82 C0 dX8_goesOut_81 rfl rfl rfl ?_
          refine x_bipush (v := 8) 84 C0 dX8_goesOut_82 rfl (by decide) ?_
          refine x_callS 87 C0 (k_X8_at l hl g _ _ (nI kc) 8) dX8_goesOut_84 rfl mC_X8_at mM_X8_71 mS_X8_at mN_X8 yd_X8_at rfl rfl ⟨Nat.le_of_ble_eq_true rfl, Nat.le_of_ble_eq_true rfl⟩ rfl rfl (Nat.le_of_ble_eq_true rfl) ⟨Nat.le_of_ble_eq_true rfl, Nat.le_of_ble_eq_true rfl⟩ (fun _ _ _ q => False.elim q) (fun r w1 sz1 hz hP => ?_)
          obtain ⟨rfl, rfl, rfl⟩ := hP
          refine x_st (st1 := [.int (nI (28 + 9 * kc + 8)), .ref (g.2 0 + 258 + 1)]) (congrArg (fun z => Value.int z :: _) (at_nI 28 9 kc 8)) ?_
          refine x_iald 0 88 C0 dX8_goesOut_87 rfl hM.r_v rfl (vp_in_nI (n := 28 + 9 * kc + 8) (by omega) (by decide)) ?_
          refine x_st (st1 := [.int (v (28 + 9 * kc + 8))]) (congrArg (fun z => Value.int z :: _) (show v (nI (28 + 9 * kc + 8)).toNatClampNeg = v (28 + 9 * kc + 8) from by rw [nI_clamp (by omega)])) ?_
          refine x_if_ne 99 91 C0 dX8_goesOut_88 rfl (by decide) (fun c9 => ?_) (fun c9 => ?_)
          · refine x_aload_n 0 100 C0 dX8_goesOut_99 rfl rfl rfl ?_
            refine x_getf (v := .ref (g.2 0 + 258 + 1)) 8 103 C0 dX8_goesOut_100 rfl hM.o rfl (by decide) inX8 mF_X8_7 rfl ?_
            refine x_iload_n 1 104 C0 dX8_goesOut_103 rfl rfl rfl ?_
            refine x_bipush (v := 7) 106 C0 dX8_goesOut_104 rfl (by decide) ?_
            refine x_callS 109 C0 (k_X8_at l hl g _ _ (nI kc) 7) dX8_goesOut_106 rfl mC_X8_at mM_X8_71 mS_X8_at mN_X8 yd_X8_at rfl rfl ⟨Nat.le_of_ble_eq_true rfl, Nat.le_of_ble_eq_true rfl⟩ rfl rfl (Nat.le_of_ble_eq_true rfl) ⟨Nat.le_of_ble_eq_true rfl, Nat.le_of_ble_eq_true rfl⟩ (fun _ _ _ q => False.elim q) (fun r w1 sz1 hz hP => ?_)
            obtain ⟨rfl, rfl, rfl⟩ := hP
            refine x_st (st1 := [.int (nI (28 + 9 * kc + 7)), .ref (g.2 0 + 258 + 1)]) (congrArg (fun z => Value.int z :: _) (at_nI 28 9 kc 7)) ?_
            refine x_iconst (v := 1) 110 C0 dX8_goesOut_109 rfl (by decide) ?_
            refine x_w (MW_self hM) ?_
            refine x_iast 0 111 C0 dX8_goesOut_110 rfl MR_MW.r_v (by show g.2 0 ≤ _; omega) rfl (vp_in_nI (n := 28 + 9 * kc + 7) (by omega) (by decide)) ?_
            refine x_w (w1 := (MW g w t (upd v (28 + 9 * kc + 7) 1) bf sv pa lb ip td sg)) (by rw [show (nI (28 + 9 * kc + 7) : Int32).toNatClampNeg = (28 + 9 * kc + 7) from nI_clamp (n := 28 + 9 * kc + 7) (by omega)]; exact MW_v) ?_
            have hJ10 : MJ n t (upd v (28 + 9 * kc + 7) 1) bf sv pa sg := hJ.j_v (hJ.1.up (Or.inr ⟨kc, 7, by omega, by decide, rfl⟩))
            refine x_aload_n 0 112 C0 dX8_goesOut_111 rfl rfl rfl ?_
            refine x_iconst (v := 1) 113 C0 dX8_goesOut_112 rfl (by decide) ?_
            refine x_callV 116 C0 (k_X8_withWhere l hl g _ _ n t (upd v (28 + 9 * kc + 7) 1) bf sv pa lb ip td sg MR_MW hJ10 1) dX8_goesOut_113 rfl mC_X8_withWhere mM_X8_155 mI_X8_withWhere mV_X8_withWhere mN_X8 yd_X8_withWhere rfl rfl ⟨Nat.le_of_ble_eq_true rfl, Nat.le_of_ble_eq_true rfl⟩ MR_MW.o rfl rfl rfl rfl (Nat.le_of_ble_eq_true rfl) ⟨Nat.le_of_ble_eq_true rfl, Nat.le_of_ble_eq_true rfl⟩ (fun _ _ _ q => False.elim q) (fun r w1 sz1 hz hP => ?_)
            obtain ⟨⟨m11, hm11, hw11, rfl⟩, rfl, rfl⟩ := hP
            refine x_st (st1 := [.int (nAt (upd v (28 + 9 * kc + 7) 1) 1 m11)]) rfl ?_
            exact x_ireturn C0 dX8_goesOut_116 rfl rfl (Nat.le_of_ble_eq_true rfl) (Nat.le_of_ble_eq_true rfl) ⟨rfl, _, _, _, rfl, hJ10, ⟨⟨⟨_, rfl⟩, tK.rf⟩, (Or.inr (Or.inl ⟨kc, m11, rfl, hk3, hkc, c2, hq3, hq7, c9, hm11, hw11, rfl, rfl, rfl⟩))⟩⟩
          · refine x_aload_n 0 92 C0 dX8_goesOut_91 rfl rfl rfl ?_
            refine x_bipush (v := 14) 94 C0 dX8_goesOut_92 rfl (by decide) ?_
            refine x_iload_n 1 95 C0 dX8_goesOut_94 rfl rfl rfl ?_
            refine x_callV 98 C0 (k_X8_refuses l hl g _ _ n t v bf sv pa lb ip td sg hM hJ 14 (nI kc)) dX8_goesOut_95 rfl mC_X8_refuses mM_X8_82 mI_X8_refuses mV_X8_refuses mN_X8 yd_X8_refuses rfl rfl ⟨Nat.le_of_ble_eq_true rfl, Nat.le_of_ble_eq_true rfl⟩ hM.o rfl rfl rfl rfl (Nat.le_of_ble_eq_true rfl) ⟨Nat.le_of_ble_eq_true rfl, Nat.le_of_ble_eq_true rfl⟩ (fun _ _ _ q => False.elim q) (fun r w1 sz1 hz hP => ?_)
            obtain ⟨rfl, rfl, rfl⟩ := hP
            have hJ12 : MJ n (upd (upd (upd t 5 14) 6 (nI kc)) 1 3) v bf sv pa sg := (((hJ.j_t (by decide)).j_t (by decide)).j_t (by decide))
            refine x_st (st1 := [.int 0]) rfl ?_
            exact x_ireturn C0 dX8_goesOut_98 rfl rfl (Nat.le_of_ble_eq_true rfl) (Nat.le_of_ble_eq_true rfl) ⟨rfl, _, _, _, rfl, hJ12, ⟨⟨⟨_, rfl⟩, (((tK.rf.up (by decide)).up (by decide)).up (by decide))⟩, (Or.inr (Or.inr (Or.inl ⟨kc, rfl, hk3, hkc, c2, hq3, hq7, c9, rfl⟩)))⟩⟩
        · refine x_st (st1 := [.int 0]) rfl ?_
          refine x_if_ne 77 69 C0 dX8_goesOut_66 rfl (by decide) (fun q => False.elim (by revert q; decide)) (fun _ => ?_)
          refine x_aload_n 0 70 C0 dX8_goesOut_69 rfl rfl rfl ?_
          refine x_bipush (v := 13) 72 C0 dX8_goesOut_70 rfl (by decide) ?_
          refine x_iload_n 1 73 C0 dX8_goesOut_72 rfl rfl rfl ?_
          refine x_callV 76 C0 (k_X8_refuses l hl g _ _ n t v bf sv pa lb ip td sg hM hJ 13 (nI kc)) dX8_goesOut_73 rfl mC_X8_refuses mM_X8_82 mI_X8_refuses mV_X8_refuses mN_X8 yd_X8_refuses rfl rfl ⟨Nat.le_of_ble_eq_true rfl, Nat.le_of_ble_eq_true rfl⟩ hM.o rfl rfl rfl rfl (Nat.le_of_ble_eq_true rfl) ⟨Nat.le_of_ble_eq_true rfl, Nat.le_of_ble_eq_true rfl⟩ (fun _ _ _ q => False.elim q) (fun r w1 sz1 hz hP => ?_)
          obtain ⟨rfl, rfl, rfl⟩ := hP
          have hJ14 : MJ n (upd (upd (upd t 5 13) 6 (nI kc)) 1 3) v bf sv pa sg := (((hJ.j_t (by decide)).j_t (by decide)).j_t (by decide))
          refine x_st (st1 := [.int 0]) rfl ?_
          exact x_ireturn C0 dX8_goesOut_76 rfl rfl (Nat.le_of_ble_eq_true rfl) (Nat.le_of_ble_eq_true rfl) ⟨rfl, _, _, _, rfl, hJ14, ⟨⟨⟨_, rfl⟩, (((tK.rf.up (by decide)).up (by decide)).up (by decide))⟩, (Or.inr (Or.inr (Or.inr (Or.inl ⟨kc, rfl, hk3, hkc, c2, hq3, hq7, rfl⟩))))⟩⟩
    · refine x_aload_n 0 29 C0 dX8_goesOut_28 rfl rfl rfl ?_
      refine x_iconst (v := 3) 30 C0 dX8_goesOut_29 rfl (by decide) ?_
      refine x_aload_n 0 31 C0 dX8_goesOut_30 rfl rfl rfl ?_
      refine x_getf (v := .ref (g.2 0 + 258 + 1)) 8 34 C0 dX8_goesOut_31 rfl hM.o rfl (by decide) inX8 mF_X8_7 rfl ?_
      refine x_iload_n 1 35 C0 dX8_goesOut_34 rfl rfl rfl ?_
      refine x_bipush (v := 7) 37 C0 dX8_goesOut_35 rfl (by decide) ?_
      refine x_callS 40 C0 (k_X8_at l hl g _ _ (nI kc) 7) dX8_goesOut_37 rfl mC_X8_at mM_X8_71 mS_X8_at mN_X8 yd_X8_at rfl rfl ⟨Nat.le_of_ble_eq_true rfl, Nat.le_of_ble_eq_true rfl⟩ rfl rfl (Nat.le_of_ble_eq_true rfl) ⟨Nat.le_of_ble_eq_true rfl, Nat.le_of_ble_eq_true rfl⟩ (fun _ _ _ q => False.elim q) (fun r w1 sz1 hz hP => ?_)
      obtain ⟨rfl, rfl, rfl⟩ := hP
      refine x_st (st1 := [.int (nI (28 + 9 * kc + 7)), .ref (g.2 0 + 258 + 1), .int 3, .ref (g.2 0 + 258)]) (congrArg (fun z => Value.int z :: _) (at_nI 28 9 kc 7)) ?_
      refine x_iald 0 41 C0 dX8_goesOut_40 rfl hM.r_v rfl (vp_in_nI (n := 28 + 9 * kc + 7) (by omega) (by decide)) ?_
      refine x_st (st1 := [.int (v (28 + 9 * kc + 7)), .int 3, .ref (g.2 0 + 258)]) (congrArg (fun z => Value.int z :: _) (show v (nI (28 + 9 * kc + 7)).toNatClampNeg = v (28 + 9 * kc + 7) from by rw [nI_clamp (by omega)])) ?_
      refine x_callV 44 C0 (k_X8_refuses l hl g _ _ n t v bf sv pa lb ip td sg hM hJ 3 (v (28 + 9 * kc + 7))) dX8_goesOut_41 rfl mC_X8_refuses mM_X8_82 mI_X8_refuses mV_X8_refuses mN_X8 yd_X8_refuses rfl rfl ⟨Nat.le_of_ble_eq_true rfl, Nat.le_of_ble_eq_true rfl⟩ hM.o rfl rfl rfl rfl (Nat.le_of_ble_eq_true rfl) ⟨Nat.le_of_ble_eq_true rfl, Nat.le_of_ble_eq_true rfl⟩ (fun _ _ _ q => False.elim q) (fun r w1 sz1 hz hP => ?_)
      obtain ⟨rfl, rfl, rfl⟩ := hP
      have hJ15 : MJ n (upd (upd (upd t 5 3) 6 (v (28 + 9 * kc + 7))) 1 3) v bf sv pa sg := (((hJ.j_t (by decide)).j_t (by decide)).j_t (by decide))
      refine x_st (st1 := [.int 0]) rfl ?_
      exact x_ireturn C0 dX8_goesOut_44 rfl rfl (Nat.le_of_ble_eq_true rfl) (Nat.le_of_ble_eq_true rfl) ⟨rfl, _, _, _, rfl, hJ15, ⟨⟨⟨_, rfl⟩, (((tK.rf.up (by decide)).up (by decide)).up (by decide))⟩, (Or.inr (Or.inr (Or.inr (Or.inr (Or.inl ⟨kc, rfl, hk3, hkc, c2, rfl⟩)))))⟩⟩
  · refine x_st (st1 := [.int 0]) rfl ?_
    refine x_if_ne 14 8 C0 dX8_goesOut_5 rfl (by decide) (fun q => False.elim (by revert q; decide)) (fun _ => ?_)
    refine x_aload_n 0 9 C0 dX8_goesOut_8 rfl rfl rfl ?_
    refine x_iconst (v := 1) 10 C0 dX8_goesOut_9 rfl (by decide) ?_
    refine x_callV 13 C0 (k_X8_fail l hl g _ _ n t v bf sv pa lb ip td sg hM hJ 1) dX8_goesOut_10 rfl mC_X8_fail mM_X8_47 mI_X8_fail mV_X8_fail mN_X8 yd_X8_fail rfl rfl ⟨Nat.le_of_ble_eq_true rfl, Nat.le_of_ble_eq_true rfl⟩ hM.o rfl rfl rfl rfl (Nat.le_of_ble_eq_true rfl) ⟨Nat.le_of_ble_eq_true rfl, Nat.le_of_ble_eq_true rfl⟩ (fun _ _ _ q => False.elim q) (fun r w1 sz1 hz hP => ?_)
    obtain ⟨rfl, rfl, rfl⟩ := hP
    have hJ17 : MJ n (upd t 1 1) v bf sv pa sg := (hJ.j_t (by decide))
    refine x_st (st1 := [.int 0]) rfl ?_
    exact x_ireturn C0 dX8_goesOut_13 rfl rfl (Nat.le_of_ble_eq_true rfl) (Nat.le_of_ble_eq_true rfl) ⟨rfl, _, _, _, rfl, hJ17, ⟨⟨⟨_, rfl⟩, (tK.rf.up (by decide))⟩, (Or.inr (Or.inr (Or.inr (Or.inr (Or.inr (⟨hkn, rfl⟩))))))⟩⟩

def R_X8_loads (t v : Nat → Int32) (cn : Int32) (r : Option Value) (t' v' : Nat → Int32) : Prop :=
  (∃ (kc : Nat) (m4 : Nat) (m7 : Nat), (cn = nI kc) ∧ (nI kc < v 3) ∧ (kc < 20) ∧ (v (28 + 9 * kc + 7) = 1) ∧ (3 ≤ hgt (v 0)) ∧ (m4 ≤ 20) ∧ (v 3 = nI m4) ∧ (v (28 + 9 * kc + 0) ≤ hRoom v m4) ∧ (m7 ≤ 20) ∧ ((upd v (28 + 9 * kc + 7) 2) 3 = nI m7) ∧ (t' 1 = t 1) ∧ (r = some (.int (hRoom (upd v (28 + 9 * kc + 7) 2) m7))) ∧ (v' = (upd v (28 + 9 * kc + 7) 2))) ∨
  (∃ (kc : Nat) (m4 : Nat) (m8 : Nat), (cn = nI kc) ∧ (nI kc < v 3) ∧ (kc < 20) ∧ (v (28 + 9 * kc + 7) = 1) ∧ (3 ≤ hgt (v 0)) ∧ (m4 ≤ 20) ∧ (v 3 = nI m4) ∧ (¬ (v (28 + 9 * kc + 0) ≤ hRoom v m4)) ∧ (m8 ≤ 20) ∧ (v 3 = nI m8) ∧ (t' 1 = 3)) ∨
  (∃ (kc : Nat), (cn = nI kc) ∧ (nI kc < v 3) ∧ (kc < 20) ∧ (v (28 + 9 * kc + 7) = 1) ∧ (¬ (3 ≤ hgt (v 0))) ∧ (t' 1 = 3)) ∨
  (∃ (kc : Nat), (cn = nI kc) ∧ (nI kc < v 3) ∧ (kc < 20) ∧ (¬ (v (28 + 9 * kc + 7) = 1)) ∧ (t' 1 = 3)) ∨
  ((¬ (0 ≤ cn ∧ cn < v 3)) ∧ (t' 1 = 1))
set_option maxHeartbeats 4000000 in
set_option maxRecDepth 100000 in
theorem k_X8_loads (l : Launch) (hl : l.stackTraces = false) (g : xg_T) (w : xw_T) (sz n : Nat) (t v bf sv pa lb ip td sg : Nat → Int32) (hM : MR g w t v bf sv pa lb ip td sg) (hJ : MJ n t v bf sv pa sg) (cn : Int32) : xM l g yX8_loads cX8_loads 2 (some .int) ({ frames := 2, cells := 0, slots := 0, locals := 43 }) 0 0 [.ref (g.2 0 + 258), .int cn] w sz (mX g w sz n bf sv pa ip td sg (fun r t' v' => mT t r t' v' ∧ R_X8_loads t v cn r t' v')) (fun _ _ _ => False) := by
  refine xM.of RX8 hl (by decide +kernel) rfl (Nat.le_of_ble_eq_true rfl) rfl ?_
  intro p e s m args below meth cD C0 hini
  refine x_aload_n 0 1 C0 dX8_loads_0 rfl rfl rfl ?_
  refine x_iload_n 1 2 C0 dX8_loads_1 rfl rfl rfl ?_
  refine x_callV 5 C0 (k_X8_isChest l hl g _ _ n t v bf sv pa lb ip td sg hM hJ cn) dX8_loads_2 rfl mC_X8_isChest mM_X8_108 mI_X8_isChest mV_X8_isChest mN_X8 yd_X8_isChest rfl rfl ⟨Nat.le_of_ble_eq_true rfl, Nat.le_of_ble_eq_true rfl⟩ hM.o rfl rfl rfl rfl (Nat.le_of_ble_eq_true rfl) ⟨Nat.le_of_ble_eq_true rfl, Nat.le_of_ble_eq_true rfl⟩ (fun _ _ _ q => False.elim q) (fun r w1 sz1 hz hP => ?_)
  obtain ⟨hr, rfl, rfl⟩ := hP
  rcases hr with ⟨⟨kc, hkc, hkv, hk3⟩, rfl⟩ | ⟨rfl, hkn⟩
  · subst hkv
    refine x_st (st1 := [.int 1]) rfl ?_
    refine x_if_ne 14 8 C0 dX8_loads_5 rfl (by decide) (fun _ => ?_) (fun q => False.elim (by revert q; decide))
    refine x_aload_n 0 15 C0 dX8_loads_14 rfl rfl rfl ?_
    refine x_getf (v := .ref (g.2 0 + 258 + 1)) 8 18 C0 dX8_loads_15 rfl hM.o rfl (by decide) inX8 mF_X8_7 rfl ?_
    refine x_iload_n 1 19 C0 dX8_loads_18 rfl rfl rfl ?_
    refine x_bipush (v := 7) 21 C0 dX8_loads_19 rfl (by decide) ?_
    refine x_callS 24 C0 (k_X8_at l hl g _ _ (nI kc) 7) dX8_loads_21 rfl mC_X8_at mM_X8_71 mS_X8_at mN_X8 yd_X8_at rfl rfl ⟨Nat.le_of_ble_eq_true rfl, Nat.le_of_ble_eq_true rfl⟩ rfl rfl (Nat.le_of_ble_eq_true rfl) ⟨Nat.le_of_ble_eq_true rfl, Nat.le_of_ble_eq_true rfl⟩ (fun _ _ _ q => False.elim q) (fun r w1 sz1 hz hP => ?_)
    obtain ⟨rfl, rfl, rfl⟩ := hP
    refine x_st (st1 := [.int (nI (28 + 9 * kc + 7)), .ref (g.2 0 + 258 + 1)]) (congrArg (fun z => Value.int z :: _) (at_nI 28 9 kc 7)) ?_
    refine x_iald 0 25 C0 dX8_loads_24 rfl hM.r_v rfl (vp_in_nI (n := 28 + 9 * kc + 7) (by omega) (by decide)) ?_
    refine x_st (st1 := [.int (v (28 + 9 * kc + 7))]) (congrArg (fun z => Value.int z :: _) (show v (nI (28 + 9 * kc + 7)).toNatClampNeg = v (28 + 9 * kc + 7) from by rw [nI_clamp (by omega)])) ?_
    refine x_iconst (v := 1) 26 C0 dX8_loads_25 rfl (by decide) ?_
    refine x_icmp_eq 47 29 C0 dX8_loads_26 rfl (by decide) (fun c2 => ?_) (fun c2 => ?_)
    · refine x_aload_n 0 48 C0 dX8_loads_47 rfl rfl rfl ?_
      refine x_getf (v := .ref (g.2 0 + 258 + 1)) 8 51 C0 dX8_loads_48 rfl hM.o rfl (by decide) inX8 mF_X8_7 rfl ?_
      refine x_iconst (v := 0) 52 C0 dX8_loads_51 rfl (by decide) ?_
      refine x_iald 0 53 C0 dX8_loads_52 rfl hM.r_v rfl (vp_in_nI (n := 0) (by decide) (by decide)) ?_
      refine x_st (st1 := [.int (v 0)]) (congrArg (fun z => Value.int z :: _) (show v (nI 0).toNatClampNeg = v 0 from by rw [nI_clamp (by omega)])) ?_
      refine x_callS 56 C0 (k_X8_heightAt l hl g _ _ (v 0)) dX8_loads_53 rfl mC_X8_heightAt mM_X8_161 mS_X8_heightAt mN_X8 yd_X8_heightAt rfl rfl ⟨Nat.le_of_ble_eq_true rfl, Nat.le_of_ble_eq_true rfl⟩ rfl rfl (Nat.le_of_ble_eq_true rfl) ⟨Nat.le_of_ble_eq_true rfl, Nat.le_of_ble_eq_true rfl⟩ (fun _ _ _ q => False.elim q) (fun r w1 sz1 hz hP => ?_)
      obtain ⟨rfl, rfl, rfl⟩ := hP
      refine x_st (st1 := [.int (hgt (v 0))]) rfl ?_
      refine x_iconst (v := 3) 57 C0 dX8_loads_56 rfl (by decide) ?_
      refine x_icmp_ge 76 60 C0 dX8_loads_57 rfl (by decide) (fun c3 => ?_) (fun c3 => ?_)
      · have c3' := Int32.not_lt.mpr c3
        refine x_aload_n 0 77 C0 dX8_loads_76 rfl rfl rfl ?_
        refine x_callV 80 C0 (k_X8_room l hl g _ _ n t v bf sv pa lb ip td sg hM hJ) dX8_loads_77 rfl mC_X8_room mM_X8_164 mI_X8_room mV_X8_room mN_X8 yd_X8_room rfl rfl ⟨Nat.le_of_ble_eq_true rfl, Nat.le_of_ble_eq_true rfl⟩ hM.o rfl rfl rfl rfl (Nat.le_of_ble_eq_true rfl) ⟨Nat.le_of_ble_eq_true rfl, Nat.le_of_ble_eq_true rfl⟩ (fun _ _ _ q => False.elim q) (fun r w1 sz1 hz hP => ?_)
        obtain ⟨⟨m4, hm4, hw4, rfl⟩, rfl, rfl⟩ := hP
        refine x_st (st1 := [.int (hRoom v m4)]) rfl ?_
        refine x_aload_n 0 81 C0 dX8_loads_80 rfl rfl rfl ?_
        refine x_getf (v := .ref (g.2 0 + 258 + 1)) 8 84 C0 dX8_loads_81 rfl hM.o rfl (by decide) inX8 mF_X8_7 rfl ?_
        refine x_iload_n 1 85 C0 dX8_loads_84 rfl rfl rfl ?_
        refine x_iconst (v := 0) 86 C0 dX8_loads_85 rfl (by decide) ?_
        refine x_callS 89 C0 (k_X8_at l hl g _ _ (nI kc) 0) dX8_loads_86 rfl mC_X8_at mM_X8_71 mS_X8_at mN_X8 yd_X8_at rfl rfl ⟨Nat.le_of_ble_eq_true rfl, Nat.le_of_ble_eq_true rfl⟩ rfl rfl (Nat.le_of_ble_eq_true rfl) ⟨Nat.le_of_ble_eq_true rfl, Nat.le_of_ble_eq_true rfl⟩ (fun _ _ _ q => False.elim q) (fun r w1 sz1 hz hP => ?_)
        obtain ⟨rfl, rfl, rfl⟩ := hP
        refine x_st (st1 := [.int (nI (28 + 9 * kc + 0)), .ref (g.2 0 + 258 + 1), .int (hRoom v m4)]) (congrArg (fun z => Value.int z :: _) (at_nI 28 9 kc 0)) ?_
        refine x_iald 0 90 C0 dX8_loads_89 rfl hM.r_v rfl (vp_in_nI (n := 28 + 9 * kc + 0) (by omega) (by decide)) ?_
        refine x_st (st1 := [.int (v (28 + 9 * kc + 0)), .int (hRoom v m4)]) (congrArg (fun z => Value.int z :: _) (show v (nI (28 + 9 * kc + 0)).toNatClampNeg = v (28 + 9 * kc + 0) from by rw [nI_clamp (by omega)])) ?_
        refine x_icmp_ge 104 93 C0 dX8_loads_90 rfl (by decide) (fun c5 => ?_) (fun c5 => ?_)
        · have c5' := Int32.not_lt.mpr c5
          refine x_aload_n 0 105 C0 dX8_loads_104 rfl rfl rfl ?_
          refine x_getf (v := .ref (g.2 0 + 258 + 1)) 8 108 C0 dX8_loads_105 rfl hM.o rfl (by decide) inX8 mF_X8_7 rfl ?_
          refine x_iload_n 1 109 C0 dX8_loads_108 rfl rfl rfl ?_
          refine x_bipush (v := 7) 111 C0 dX8_loads_109 rfl (by decide) ?_
          refine x_callS 114 C0 (k_X8_at l hl g _ _ (nI kc) 7) dX8_loads_111 rfl mC_X8_at mM_X8_71 mS_X8_at mN_X8 yd_X8_at rfl rfl ⟨Nat.le_of_ble_eq_true rfl, Nat.le_of_ble_eq_true rfl⟩ rfl rfl (Nat.le_of_ble_eq_true rfl) ⟨Nat.le_of_ble_eq_true rfl, Nat.le_of_ble_eq_true rfl⟩ (fun _ _ _ q => False.elim q) (fun r w1 sz1 hz hP => ?_)
          obtain ⟨rfl, rfl, rfl⟩ := hP
          refine x_st (st1 := [.int (nI (28 + 9 * kc + 7)), .ref (g.2 0 + 258 + 1)]) (congrArg (fun z => Value.int z :: _) (at_nI 28 9 kc 7)) ?_
          refine x_iconst (v := 2) 115 C0 dX8_loads_114 rfl (by decide) ?_
          refine x_w (MW_self hM) ?_
          refine x_iast 0 116 C0 dX8_loads_115 rfl MR_MW.r_v (by show g.2 0 ≤ _; omega) rfl (vp_in_nI (n := 28 + 9 * kc + 7) (by omega) (by decide)) ?_
          refine x_w (w1 := (MW g w t (upd v (28 + 9 * kc + 7) 2) bf sv pa lb ip td sg)) (by rw [show (nI (28 + 9 * kc + 7) : Int32).toNatClampNeg = (28 + 9 * kc + 7) from nI_clamp (n := 28 + 9 * kc + 7) (by omega)]; exact MW_v) ?_
          have hJ6 : MJ n t (upd v (28 + 9 * kc + 7) 2) bf sv pa sg := hJ.j_v (hJ.1.up (Or.inr ⟨kc, 7, by omega, by decide, rfl⟩))
          refine x_aload_n 0 117 C0 dX8_loads_116 rfl rfl rfl ?_
          refine x_callV 120 C0 (k_X8_room l hl g _ _ n t (upd v (28 + 9 * kc + 7) 2) bf sv pa lb ip td sg MR_MW hJ6) dX8_loads_117 rfl mC_X8_room mM_X8_164 mI_X8_room mV_X8_room mN_X8 yd_X8_room rfl rfl ⟨Nat.le_of_ble_eq_true rfl, Nat.le_of_ble_eq_true rfl⟩ MR_MW.o rfl rfl rfl rfl (Nat.le_of_ble_eq_true rfl) ⟨Nat.le_of_ble_eq_true rfl, Nat.le_of_ble_eq_true rfl⟩ (fun _ _ _ q => False.elim q) (fun r w1 sz1 hz hP => ?_)
          obtain ⟨⟨m7, hm7, hw7, rfl⟩, rfl, rfl⟩ := hP
          refine x_st (st1 := [.int (hRoom (upd v (28 + 9 * kc + 7) 2) m7)]) rfl ?_
          exact x_ireturn C0 dX8_loads_120 rfl rfl (Nat.le_of_ble_eq_true rfl) (Nat.le_of_ble_eq_true rfl) ⟨rfl, _, _, _, rfl, hJ6, ⟨⟨⟨_, rfl⟩, tK.rf⟩, (Or.inl ⟨kc, m4, m7, rfl, hk3, hkc, c2, c3, hm4, hw4, c5, hm7, hw7, rfl, rfl, rfl⟩)⟩⟩
        · have c5' := Int32.not_le.mp c5
          refine x_aload_n 0 94 C0 dX8_loads_93 rfl rfl rfl ?_
          refine x_bipush (v := 17) 96 C0 dX8_loads_94 rfl (by decide) ?_
          refine x_aload_n 0 97 C0 dX8_loads_96 rfl rfl rfl ?_
          refine x_callV 100 C0 (k_X8_room l hl g _ _ n t v bf sv pa lb ip td sg hM hJ) dX8_loads_97 rfl mC_X8_room mM_X8_164 mI_X8_room mV_X8_room mN_X8 yd_X8_room rfl rfl ⟨Nat.le_of_ble_eq_true rfl, Nat.le_of_ble_eq_true rfl⟩ hM.o rfl rfl rfl rfl (Nat.le_of_ble_eq_true rfl) ⟨Nat.le_of_ble_eq_true rfl, Nat.le_of_ble_eq_true rfl⟩ (fun _ _ _ q => False.elim q) (fun r w1 sz1 hz hP => ?_)
          obtain ⟨⟨m8, hm8, hw8, rfl⟩, rfl, rfl⟩ := hP
          refine x_st (st1 := [.int (hRoom v m8), .int 17, .ref (g.2 0 + 258)]) rfl ?_
          refine x_callV 103 C0 (k_X8_refuses l hl g _ _ n t v bf sv pa lb ip td sg hM hJ 17 (hRoom v m8)) dX8_loads_100 rfl mC_X8_refuses mM_X8_82 mI_X8_refuses mV_X8_refuses mN_X8 yd_X8_refuses rfl rfl ⟨Nat.le_of_ble_eq_true rfl, Nat.le_of_ble_eq_true rfl⟩ hM.o rfl rfl rfl rfl (Nat.le_of_ble_eq_true rfl) ⟨Nat.le_of_ble_eq_true rfl, Nat.le_of_ble_eq_true rfl⟩ (fun _ _ _ q => False.elim q) (fun r w1 sz1 hz hP => ?_)
          obtain ⟨rfl, rfl, rfl⟩ := hP
          have hJ9 : MJ n (upd (upd (upd t 5 17) 6 (hRoom v m8)) 1 3) v bf sv pa sg := (((hJ.j_t (by decide)).j_t (by decide)).j_t (by decide))
          refine x_st (st1 := [.int 0]) rfl ?_
          exact x_ireturn C0 dX8_loads_103 rfl rfl (Nat.le_of_ble_eq_true rfl) (Nat.le_of_ble_eq_true rfl) ⟨rfl, _, _, _, rfl, hJ9, ⟨⟨⟨_, rfl⟩, (((tK.rf.up (by decide)).up (by decide)).up (by decide))⟩, (Or.inr (Or.inl ⟨kc, m4, m8, rfl, hk3, hkc, c2, c3, hm4, hw4, c5, hm8, hw8, rfl⟩))⟩⟩
      · have c3' := Int32.not_le.mp c3
        refine x_aload_n 0 61 C0 dX8_loads_60 rfl rfl rfl ?_
        refine x_bipush (v := 16) 63 C0 dX8_loads_61 rfl (by decide) ?_
        refine x_aload_n 0 64 C0 dX8_loads_63 rfl rfl rfl ?_
        refine x_getf (v := .ref (g.2 0 + 258 + 1)) 8 67 C0 dX8_loads_64 rfl hM.o rfl (by decide) inX8 mF_X8_7 rfl ?_
        refine x_iconst (v := 0) 68 C0 dX8_loads_67 rfl (by decide) ?_
        refine x_iald 0 69 C0 dX8_loads_68 rfl hM.r_v rfl (vp_in_nI (n := 0) (by decide) (by decide)) ?_
        refine x_st (st1 := [.int (v 0), .int 16, .ref (g.2 0 + 258)]) (congrArg (fun z => Value.int z :: _) (show v (nI 0).toNatClampNeg = v 0 from by rw [nI_clamp (by omega)])) ?_
        refine x_callS 72 C0 (k_X8_heightAt l hl g _ _ (v 0)) dX8_loads_69 rfl mC_X8_heightAt mM_X8_161 mS_X8_heightAt mN_X8 yd_X8_heightAt rfl rfl ⟨Nat.le_of_ble_eq_true rfl, Nat.le_of_ble_eq_true rfl⟩ rfl rfl (Nat.le_of_ble_eq_true rfl) ⟨Nat.le_of_ble_eq_true rfl, Nat.le_of_ble_eq_true rfl⟩ (fun _ _ _ q => False.elim q) (fun r w1 sz1 hz hP => ?_)
        obtain ⟨rfl, rfl, rfl⟩ := hP
        refine x_st (st1 := [.int (hgt (v 0)), .int 16, .ref (g.2 0 + 258)]) rfl ?_
        refine x_callV 75 C0 (k_X8_refuses l hl g _ _ n t v bf sv pa lb ip td sg hM hJ 16 (hgt (v 0))) dX8_loads_72 rfl mC_X8_refuses mM_X8_82 mI_X8_refuses mV_X8_refuses mN_X8 yd_X8_refuses rfl rfl ⟨Nat.le_of_ble_eq_true rfl, Nat.le_of_ble_eq_true rfl⟩ hM.o rfl rfl rfl rfl (Nat.le_of_ble_eq_true rfl) ⟨Nat.le_of_ble_eq_true rfl, Nat.le_of_ble_eq_true rfl⟩ (fun _ _ _ q => False.elim q) (fun r w1 sz1 hz hP => ?_)
        obtain ⟨rfl, rfl, rfl⟩ := hP
        have hJ10 : MJ n (upd (upd (upd t 5 16) 6 (hgt (v 0))) 1 3) v bf sv pa sg := (((hJ.j_t (by decide)).j_t (by decide)).j_t (by decide))
        refine x_st (st1 := [.int 0]) rfl ?_
        exact x_ireturn C0 dX8_loads_75 rfl rfl (Nat.le_of_ble_eq_true rfl) (Nat.le_of_ble_eq_true rfl) ⟨rfl, _, _, _, rfl, hJ10, ⟨⟨⟨_, rfl⟩, (((tK.rf.up (by decide)).up (by decide)).up (by decide))⟩, (Or.inr (Or.inr (Or.inl ⟨kc, rfl, hk3, hkc, c2, c3, rfl⟩)))⟩⟩
    · refine x_aload_n 0 30 C0 dX8_loads_29 rfl rfl rfl ?_
      refine x_bipush (v := 15) 32 C0 dX8_loads_30 rfl (by decide) ?_
      refine x_aload_n 0 33 C0 dX8_loads_32 rfl rfl rfl ?_
      refine x_getf (v := .ref (g.2 0 + 258 + 1)) 8 36 C0 dX8_loads_33 rfl hM.o rfl (by decide) inX8 mF_X8_7 rfl ?_
      refine x_iload_n 1 37 C0 dX8_loads_36 rfl rfl rfl ?_
      refine x_bipush (v := 7) 39 C0 dX8_loads_37 rfl (by decide) ?_
      refine x_callS 42 C0 (k_X8_at l hl g _ _ (nI kc) 7) dX8_loads_39 rfl mC_X8_at mM_X8_71 mS_X8_at mN_X8 yd_X8_at rfl rfl ⟨Nat.le_of_ble_eq_true rfl, Nat.le_of_ble_eq_true rfl⟩ rfl rfl (Nat.le_of_ble_eq_true rfl) ⟨Nat.le_of_ble_eq_true rfl, Nat.le_of_ble_eq_true rfl⟩ (fun _ _ _ q => False.elim q) (fun r w1 sz1 hz hP => ?_)
      obtain ⟨rfl, rfl, rfl⟩ := hP
      refine x_st (st1 := [.int (nI (28 + 9 * kc + 7)), .ref (g.2 0 + 258 + 1), .int 15, .ref (g.2 0 + 258)]) (congrArg (fun z => Value.int z :: _) (at_nI 28 9 kc 7)) ?_
      refine x_iald 0 43 C0 dX8_loads_42 rfl hM.r_v rfl (vp_in_nI (n := 28 + 9 * kc + 7) (by omega) (by decide)) ?_
      refine x_st (st1 := [.int (v (28 + 9 * kc + 7)), .int 15, .ref (g.2 0 + 258)]) (congrArg (fun z => Value.int z :: _) (show v (nI (28 + 9 * kc + 7)).toNatClampNeg = v (28 + 9 * kc + 7) from by rw [nI_clamp (by omega)])) ?_
      refine x_callV 46 C0 (k_X8_refuses l hl g _ _ n t v bf sv pa lb ip td sg hM hJ 15 (v (28 + 9 * kc + 7))) dX8_loads_43 rfl mC_X8_refuses mM_X8_82 mI_X8_refuses mV_X8_refuses mN_X8 yd_X8_refuses rfl rfl ⟨Nat.le_of_ble_eq_true rfl, Nat.le_of_ble_eq_true rfl⟩ hM.o rfl rfl rfl rfl (Nat.le_of_ble_eq_true rfl) ⟨Nat.le_of_ble_eq_true rfl, Nat.le_of_ble_eq_true rfl⟩ (fun _ _ _ q => False.elim q) (fun r w1 sz1 hz hP => ?_)
      obtain ⟨rfl, rfl, rfl⟩ := hP
      have hJ11 : MJ n (upd (upd (upd t 5 15) 6 (v (28 + 9 * kc + 7))) 1 3) v bf sv pa sg := (((hJ.j_t (by decide)).j_t (by decide)).j_t (by decide))
      refine x_st (st1 := [.int 0]) rfl ?_
      exact x_ireturn C0 dX8_loads_46 rfl rfl (Nat.le_of_ble_eq_true rfl) (Nat.le_of_ble_eq_true rfl) ⟨rfl, _, _, _, rfl, hJ11, ⟨⟨⟨_, rfl⟩, (((tK.rf.up (by decide)).up (by decide)).up (by decide))⟩, (Or.inr (Or.inr (Or.inr (Or.inl ⟨kc, rfl, hk3, hkc, c2, rfl⟩))))⟩⟩
  · refine x_st (st1 := [.int 0]) rfl ?_
    refine x_if_ne 14 8 C0 dX8_loads_5 rfl (by decide) (fun q => False.elim (by revert q; decide)) (fun _ => ?_)
    refine x_aload_n 0 9 C0 dX8_loads_8 rfl rfl rfl ?_
    refine x_iconst (v := 1) 10 C0 dX8_loads_9 rfl (by decide) ?_
    refine x_callV 13 C0 (k_X8_fail l hl g _ _ n t v bf sv pa lb ip td sg hM hJ 1) dX8_loads_10 rfl mC_X8_fail mM_X8_47 mI_X8_fail mV_X8_fail mN_X8 yd_X8_fail rfl rfl ⟨Nat.le_of_ble_eq_true rfl, Nat.le_of_ble_eq_true rfl⟩ hM.o rfl rfl rfl rfl (Nat.le_of_ble_eq_true rfl) ⟨Nat.le_of_ble_eq_true rfl, Nat.le_of_ble_eq_true rfl⟩ (fun _ _ _ q => False.elim q) (fun r w1 sz1 hz hP => ?_)
    obtain ⟨rfl, rfl, rfl⟩ := hP
    have hJ13 : MJ n (upd t 1 1) v bf sv pa sg := (hJ.j_t (by decide))
    refine x_st (st1 := [.int 0]) rfl ?_
    exact x_ireturn C0 dX8_loads_13 rfl rfl (Nat.le_of_ble_eq_true rfl) (Nat.le_of_ble_eq_true rfl) ⟨rfl, _, _, _, rfl, hJ13, ⟨⟨⟨_, rfl⟩, (tK.rf.up (by decide))⟩, (Or.inr (Or.inr (Or.inr (Or.inr (⟨hkn, rfl⟩)))))⟩⟩

def dampC (V : Nat → Int32) (n : Nat) : Prop := V (28 + 9 * n + 7) = 0 ∧ ¬ V (28 + 9 * n + 3) = 0 ∧ ¬ rTight V n
def dampR (V : Nat → Int32) : Nat → (Nat → Int32)
  | 0 => V
  | n + 1 => if (dampR V n) (28 + 9 * n + 7) = 0 ∧ ¬ (dampR V n) (28 + 9 * n + 3) = 0 ∧ ¬ ((dampR V n) (28 + 9 * n + 4) = 1 ∧ (dampR V n) (28 + 9 * n + 0) + 2 ≤ (dampR V n) (28 + 9 * n + 5)) then upd (dampR V n) (28 + 9 * n + 6) (lsr 20 ((dampR V n) (28 + 9 * n + 6) + 1)) else dampR V n
def hourR (v : Nat → Int32) (m : Nat) : Nat → Int32 := if 5 ≤ v 5 then dampR (upd v 0 (v 0 + 1)) m else upd v 0 (v 0 + 1)
def passR (v : Nat → Int32) (m : Nat) : Nat → (Nat → Int32)
  | 0 => v
  | n + 1 => hourR (passR v m n) m
def sailR (v : Nat → Int32) : Nat → (Nat → Int32)
  | 0 => v
  | n + 1 => if (sailR v n) (28 + 9 * n + 7) = 2 then upd (upd (sailR v n) (28 + 9 * n + 7) 3) 7 ((upd (sailR v n) (28 + 9 * n + 7) 3) 7 + (upd (sailR v n) (28 + 9 * n + 7) 3) (28 + 9 * n + 3)) else sailR v n
def hInv (t v tl vl : Nat → Int32) (i : Nat) : Prop := tK t tl ∧ tl 1 = t 1 ∧ (∀ q, q < 28 → vl q = (upd v 0 (v 0 + 1)) q) ∧ vl = dampR (upd v 0 (v 0 + 1)) i ∧ (i = 0 ∨ 5 ≤ v 5)
theorem hInv_0 {t v tl vl : Nat → Int32} {i : Nat} (h : hInv t v tl vl i) (h5 : 5 ≤ vl 5) (hc : ¬ dampC vl i) : hInv t v tl vl (i + 1) := by
  obtain ⟨h1, h2, h3, h4, h6⟩ := h
  refine ⟨h1, h2, h3, ?_, Or.inr ?_⟩
  · have : dampR (upd v 0 (v 0 + 1)) (i + 1) = dampR (upd v 0 (v 0 + 1)) i := if_neg (by rw [← h4]; exact hc)
    rw [this]; exact h4
  · have := h3 5 (by omega)
    rw [this] at h5
    exact h5
theorem hInv_1 {t v tl vl : Nat → Int32} {i : Nat} (h : hInv t v tl vl i) (h5 : 5 ≤ vl 5) (hc : dampC vl i) : hInv t v tl (upd vl (28 + 9 * i + 6) (lsr 20 (vl (28 + 9 * i + 6) + 1))) (i + 1) := by
  obtain ⟨h1, h2, h3, h4, h6⟩ := h
  refine ⟨h1, h2, fun q hq => (if_neg (by omega)).trans (h3 q hq), ?_, Or.inr ?_⟩
  · have : dampR (upd v 0 (v 0 + 1)) (i + 1) = upd (dampR (upd v 0 (v 0 + 1)) i) (28 + 9 * i + 6) (lsr 20 ((dampR (upd v 0 (v 0 + 1)) i) (28 + 9 * i + 6) + 1)) := if_pos (by rw [← h4]; exact hc)
    rw [this, ← h4]
  · have := h3 5 (by omega)
    rw [this] at h5
    exact h5
theorem hInv_e1 {t v tl vl : Nat → Int32} {i m : Nat} (h : hInv t v tl vl i) (hE : i = m) (hm : m ≤ 20) (hv : vl 3 = nI m) : ∃ m : Nat, m ≤ 20 ∧ v 3 = nI m ∧ vl = hourR v m := by
  obtain ⟨h1, h2, h3, h4, h6⟩ := h
  subst hE
  refine ⟨i, hm, by rw [← hv, h3 3 (by omega)]; rfl, ?_⟩
  unfold hourR
  by_cases h5 : 5 ≤ v 5
  · rw [if_pos h5]; exact h4
  · rw [if_neg h5]
    have h0 := h6.resolve_right h5
    subst h0
    exact h4
theorem hInv_e2 {t v tl vl : Nat → Int32} {i : Nat} (h : hInv t v tl vl i) (hk : vok v) (hc : vl 5 < 5) : ∃ m : Nat, m ≤ 20 ∧ v 3 = nI m ∧ vl = hourR v m := by
  obtain ⟨h1, h2, h3, h4, h6⟩ := h
  obtain ⟨m, hm, hw⟩ := hk.n
  refine ⟨m, hm, hw, ?_⟩
  rw [h3 5 (by omega)] at hc
  have h5 : ¬ 5 ≤ v 5 := Int32.not_le.mpr hc
  have h0 := h6.resolve_right h5
  subst h0
  unfold hourR
  rw [if_neg h5]
  exact h4
theorem dampR_lo (V : Nat → Int32) {q : Nat} (hq : q < 28) : ∀ m, dampR V m q = V q := by
  intro m
  induction m with
  | zero => rfl
  | succ m ih =>
    unfold dampR
    split
    · exact (if_neg (by omega)).trans ih
    · exact ih
theorem hourR_3 (v : Nat → Int32) (m : Nat) : hourR v m 3 = v 3 := by
  unfold hourR
  split
  · rw [dampR_lo _ (by omega)]; rfl
  · rfl
def pInv (t v tl vl : Nat → Int32) (m i : Nat) : Prop := tK t tl ∧ tl 1 = t 1 ∧ vl 3 = v 3 ∧ vl = passR v m i
theorem pInv_1 {t v tl vl t' v' : Nat → Int32} {m m' i : Nat} (hm : m ≤ 20) (hw : v 3 = nI m) (h : pInv t v tl vl m i) (h10 : tK tl t') (h1 : t' 1 = tl 1) (hm' : m' ≤ 20) (hw' : vl 3 = nI m') (hv : v' = hourR vl m') : pInv t v t' v' m (i + 1) := by
  obtain ⟨a1, a2, a3, a4⟩ := h
  obtain rfl : m' = m := (nI_eq (by omega) (by omega)).mp (by rw [← hw', a3, hw])
  refine ⟨h10.trans a1, h1.trans a2, by rw [hv, hourR_3]; exact a3, ?_⟩
  rw [hv, a4]
  rfl
def sInv (t v tl vl : Nat → Int32) (i : Nat) : Prop := tK t tl ∧ tl 1 = t 1 ∧ vl 3 = v 3 ∧ vl = sailR v i
theorem sInv_0 {t v tl vl : Nat → Int32} {i : Nat} (h : sInv t v tl vl i) (hc : ¬ vl (28 + 9 * i + 7) = 2) : sInv t v tl vl (i + 1) := by
  obtain ⟨h1, h2, h3, h4⟩ := h
  refine ⟨h1, h2, h3, ?_⟩
  have : sailR v (i + 1) = sailR v i := if_neg (by rw [← h4]; exact hc)
  rw [this]; exact h4
theorem sInv_1 {t v tl vl : Nat → Int32} {i : Nat} (h : sInv t v tl vl i) (hc : vl (28 + 9 * i + 7) = 2) : sInv t v tl (upd (upd vl (28 + 9 * i + 7) 3) 7 ((upd vl (28 + 9 * i + 7) 3) 7 + (upd vl (28 + 9 * i + 7) 3) (28 + 9 * i + 3))) (i + 1) := by
  obtain ⟨h1, h2, h3, h4⟩ := h
  refine ⟨h1, h2, (if_neg (by omega)).trans ((if_neg (by omega)).trans h3), ?_⟩
  have : sailR v (i + 1) = upd (upd (sailR v i) (28 + 9 * i + 7) 3) 7 ((upd (sailR v i) (28 + 9 * i + 7) 3) 7 + (upd (sailR v i) (28 + 9 * i + 7) 3) (28 + 9 * i + 3)) := if_pos (by rw [← h4]; exact hc)
  rw [this, ← h4]
def R_X8_sails (t v : Nat → Int32) (r : Option Value) (t' v' : Nat → Int32) : Prop :=
  (∃ (m1 : Nat) (m4 : Nat) (co : Int32) (i : Nat) (tl : Nat → Int32) (vl : Nat → Int32), (m1 ≤ 20) ∧ (v 3 = nI m1) ∧ (¬ nAt v 2 m1 = 0) ∧ (3 ≤ hgt (v 0)) ∧ (m4 ≤ 20) ∧ (v 3 = nI m4) ∧ (co = rCargo v m4) ∧ (v 3 = nI i) ∧ (i ≤ 20) ∧ (tK t tl) ∧ (tl 1 = t 1) ∧ (vl = sailR v i) ∧ (t' 1 = t 1) ∧ (r = some (.int (co))) ∧ (v' = (upd (upd vl 9 ((vl 9) + 1)) 4 ((vl 4) + co)))) ∨
  (∃ (m1 : Nat), (m1 ≤ 20) ∧ (v 3 = nI m1) ∧ (¬ nAt v 2 m1 = 0) ∧ (¬ (3 ≤ hgt (v 0))) ∧ (t' 1 = 3)) ∨
  (∃ (m1 : Nat), (m1 ≤ 20) ∧ (v 3 = nI m1) ∧ (nAt v 2 m1 = 0) ∧ (t' 1 = 3))
set_option maxHeartbeats 4000000 in
set_option maxRecDepth 100000 in
theorem k_X8_sails (l : Launch) (hl : l.stackTraces = false) (g : xg_T) (w : xw_T) (sz n : Nat) (t v bf sv pa lb ip td sg : Nat → Int32) (hM : MR g w t v bf sv pa lb ip td sg) (hJ : MJ n t v bf sv pa sg) : xM l g yX8_sails cX8_sails 3 (some .int) ({ frames := 3, cells := 0, slots := 0, locals := 65 }) 0 0 [.ref (g.2 0 + 258)] w sz (mX g w sz n bf sv pa ip td sg (fun r t' v' => mT t r t' v' ∧ R_X8_sails t v r t' v')) (fun _ _ _ => False) := by
  refine xM.of RX8 hl (by decide +kernel) rfl (Nat.le_of_ble_eq_true rfl) rfl ?_
  intro p e s m args below meth cD C0 hini
  refine x_aload_n 0 1 C0 dX8_sails_0 rfl rfl rfl ?_
  refine x_iconst (v := 2) 2 C0 dX8_sails_1 rfl (by decide) ?_
  refine x_callV 5 C0 (k_X8_withWhere l hl g _ _ n t v bf sv pa lb ip td sg hM hJ 2) dX8_sails_2 rfl mC_X8_withWhere mM_X8_155 mI_X8_withWhere mV_X8_withWhere mN_X8 yd_X8_withWhere rfl rfl ⟨Nat.le_of_ble_eq_true rfl, Nat.le_of_ble_eq_true rfl⟩ hM.o rfl rfl rfl rfl (Nat.le_of_ble_eq_true rfl) ⟨Nat.le_of_ble_eq_true rfl, Nat.le_of_ble_eq_true rfl⟩ (fun _ _ _ q => False.elim q) (fun r w1 sz1 hz hP => ?_)
  obtain ⟨⟨m1, hm1, hw1, rfl⟩, rfl, rfl⟩ := hP
  refine x_st (st1 := [.int (nAt v 2 m1)]) rfl ?_
  refine x_if_ne 16 8 C0 dX8_sails_5 rfl (by decide) (fun c2 => ?_) (fun c2 => ?_)
  · refine x_aload_n 0 17 C0 dX8_sails_16 rfl rfl rfl ?_
    refine x_getf (v := .ref (g.2 0 + 258 + 1)) 8 20 C0 dX8_sails_17 rfl hM.o rfl (by decide) inX8 mF_X8_7 rfl ?_
    refine x_iconst (v := 0) 21 C0 dX8_sails_20 rfl (by decide) ?_
    refine x_iald 0 22 C0 dX8_sails_21 rfl hM.r_v rfl (vp_in_nI (n := 0) (by decide) (by decide)) ?_
    refine x_st (st1 := [.int (v 0)]) (congrArg (fun z => Value.int z :: _) (show v (nI 0).toNatClampNeg = v 0 from by rw [nI_clamp (by omega)])) ?_
    refine x_callS 25 C0 (k_X8_heightAt l hl g _ _ (v 0)) dX8_sails_22 rfl mC_X8_heightAt mM_X8_161 mS_X8_heightAt mN_X8 yd_X8_heightAt rfl rfl ⟨Nat.le_of_ble_eq_true rfl, Nat.le_of_ble_eq_true rfl⟩ rfl rfl (Nat.le_of_ble_eq_true rfl) ⟨Nat.le_of_ble_eq_true rfl, Nat.le_of_ble_eq_true rfl⟩ (fun _ _ _ q => False.elim q) (fun r w1 sz1 hz hP => ?_)
    obtain ⟨rfl, rfl, rfl⟩ := hP
    refine x_st (st1 := [.int (hgt (v 0))]) rfl ?_
    refine x_iconst (v := 3) 26 C0 dX8_sails_25 rfl (by decide) ?_
    refine x_icmp_ge 45 29 C0 dX8_sails_26 rfl (by decide) (fun c3 => ?_) (fun c3 => ?_)
    · have c3' := Int32.not_lt.mpr c3
      refine x_aload_n 0 46 C0 dX8_sails_45 rfl rfl rfl ?_
      refine x_callV 49 C0 (k_X8_cargoOf l hl g _ _ n t v bf sv pa lb ip td sg hM hJ) dX8_sails_46 rfl mC_X8_cargoOf mM_X8_171 mI_X8_cargoOf mV_X8_cargoOf mN_X8 yd_X8_cargoOf rfl rfl ⟨Nat.le_of_ble_eq_true rfl, Nat.le_of_ble_eq_true rfl⟩ hM.o rfl rfl rfl rfl (Nat.le_of_ble_eq_true rfl) ⟨Nat.le_of_ble_eq_true rfl, Nat.le_of_ble_eq_true rfl⟩ (fun _ _ _ q => False.elim q) (fun r w1 sz1 hz hP => ?_)
      obtain ⟨⟨m4, hm4, hw4, rfl⟩, rfl, rfl⟩ := hP
      refine x_st (st1 := [.int (rCargo v m4)]) rfl ?_
      refine x_istore_n [(1, .int (rCargo v m4)), (0, .ref (g.2 0 + 258))] 50 C0 dX8_sails_49 rfl rfl (by decide) rfl ?_
      refine x_lv (lv1 := [(0, .ref (g.2 0 + 258)), (1, .int (rCargo v m4))]) [1, 0] rfl ?_
      refine x_iconst (v := 0) 51 C0 dX8_sails_50 rfl (by decide) ?_
      refine x_istore_n [(2, .int 0), (0, .ref (g.2 0 + 258)), (1, .int (rCargo v m4))] 52 C0 dX8_sails_51 rfl rfl (by decide) rfl ?_
      refine x_lv (lv1 := [(0, .ref (g.2 0 + 258)), (1, .int (rCargo v m4)), (2, .int 0)]) [1, 2, 0] rfl ?_
      obtain ⟨co, hco⟩ : ∃ z : Int32, z = rCargo v m4 := ⟨_, rfl⟩
      rw [← hco]
      obtain ⟨m0, hm0, hw0⟩ := hJ.1.n
      refine x_w (MW_self hM) ?_
      have loop52 : ∀ (N i : Nat) (tl vl lbl : Nat → Int32), i ≤ m0 → m0 - i < N → MJ n tl vl bf sv pa sg → (sInv t v tl vl i) → xV p l e ({ frames := 3, cells := 0, slots := 0, locals := 65 }) s m args below meth cD (xQ g below (mX g w sz n bf sv pa ip td sg (fun r t' v' => mT t r t' v' ∧ R_X8_sails t v r t' v')) (fun _ _ _ => False) args s 0 0) g 3 (MW g w tl vl bf sv pa lbl ip td sg) sz (0 + 0 + 0 + 0) (0 + 0 + 0 + 0) 52 [(0, .ref (g.2 0 + 258)), (1, .int co), (2, .int (nI i))] [] := by
        intro N
        induction N with
        | zero => intro i tl vl lbl h1 h2; omega
        | succ N ih =>
          intro i tl vl lbl hi hN hJl hV
          refine x_iload_n 2 53 C0 dX8_sails_52 rfl rfl rfl ?_
          refine x_aload_n 0 54 C0 dX8_sails_53 rfl rfl rfl ?_
          refine x_getf (v := .ref (g.2 0 + 258 + 1)) 8 57 C0 dX8_sails_54 rfl MR_MW.o rfl (by decide) inX8 mF_X8_7 rfl ?_
          refine x_iconst (v := 3) 58 C0 dX8_sails_57 rfl (by decide) ?_
          refine x_iald 0 59 C0 dX8_sails_58 rfl MR_MW.r_v rfl (vp_in_nI (n := 3) (by decide) (by decide)) ?_
          refine x_st (st1 := [.int (vl 3), .int (nI i)]) (congrArg (fun z => Value.int z :: _) (show vl (nI 3).toNatClampNeg = vl 3 from by rw [nI_clamp (by omega)])) ?_
          refine x_st (st1 := [.int (nI m0), .int (nI i)]) (congrArg (fun z => Value.int z :: _) ((hV.2.2.1.trans hw0))) ?_
          refine x_icmp_ge 118 62 C0 dX8_sails_59 rfl (by decide) (fun c5 => ?_) (fun c5 => ?_)
          · have hE : i = m0 := Nat.le_antisymm hi ((nI_leI (by omega) (by omega)).mp c5)
            subst hE
            refine x_aload_n 0 119 C0 dX8_sails_118 rfl rfl rfl ?_
            refine x_getf (v := .ref (g.2 0 + 258 + 1)) 8 122 C0 dX8_sails_119 rfl MR_MW.o rfl (by decide) inX8 mF_X8_7 rfl ?_
            refine x_bipush (v := 9) 124 C0 dX8_sails_122 rfl (by decide) ?_
            refine x_dup2 125 C0 dX8_sails_124 rfl rfl rfl ?_
            refine x_iald 0 126 C0 dX8_sails_125 rfl MR_MW.r_v rfl (vp_in_nI (n := 9) (by decide) (by decide)) ?_
            refine x_st (st1 := [.int (vl 9), .int 9, .ref (g.2 0 + 258 + 1)]) (congrArg (fun z => Value.int z :: _) (show vl (nI 9).toNatClampNeg = vl 9 from by rw [nI_clamp (by omega)])) ?_
            refine x_iconst (v := 1) 127 C0 dX8_sails_126 rfl (by decide) ?_
            refine x_iadd 128 C0 dX8_sails_127 rfl ?_
            refine x_iast 0 129 C0 dX8_sails_128 rfl MR_MW.r_v (by show g.2 0 ≤ _; omega) rfl (vp_in_nI (n := 9) (by omega) (by decide)) ?_
            refine x_w (w1 := (MW g w tl (upd vl 9 ((vl 9) + 1)) bf sv pa lbl ip td sg)) (by rw [show (9 : Int32).toNatClampNeg = 9 from nI_clamp (n := 9) (by omega)]; exact MW_v) ?_
            have hJ6 : MJ n tl (upd vl 9 ((vl 9) + 1)) bf sv pa sg := hJl.j_v (hJl.1.up (Or.inl (by decide)))
            refine x_aload_n 0 130 C0 dX8_sails_129 rfl rfl rfl ?_
            refine x_getf (v := .ref (g.2 0 + 258 + 1)) 8 133 C0 dX8_sails_130 rfl MR_MW.o rfl (by decide) inX8 mF_X8_7 rfl ?_
            refine x_iconst (v := 4) 134 C0 dX8_sails_133 rfl (by decide) ?_
            refine x_dup2 135 C0 dX8_sails_134 rfl rfl rfl ?_
            refine x_iald 0 136 C0 dX8_sails_135 rfl MR_MW.r_v rfl (vp_in_nI (n := 4) (by decide) (by decide)) ?_
            refine x_st (st1 := [.int (vl 4), .int 4, .ref (g.2 0 + 258 + 1)]) (congrArg (fun z => Value.int z :: _) (show (upd vl 9 ((vl 9) + 1)) (nI 4).toNatClampNeg = vl 4 from by rw [nI_clamp (by omega)]; rfl)) ?_
            refine x_iload_n 1 137 C0 dX8_sails_136 rfl rfl rfl ?_
            refine x_iadd 138 C0 dX8_sails_137 rfl ?_
            refine x_iast 0 139 C0 dX8_sails_138 rfl MR_MW.r_v (by show g.2 0 ≤ _; omega) rfl (vp_in_nI (n := 4) (by omega) (by decide)) ?_
            refine x_w (w1 := (MW g w tl (upd (upd vl 9 ((vl 9) + 1)) 4 ((vl 4) + co)) bf sv pa lbl ip td sg)) (by rw [show (4 : Int32).toNatClampNeg = 4 from nI_clamp (n := 4) (by omega)]; exact MW_v) ?_
            have hJ7 : MJ n tl (upd (upd vl 9 ((vl 9) + 1)) 4 ((vl 4) + co)) bf sv pa sg := hJ6.j_v (hJ6.1.up (Or.inl (by decide)))
            refine x_iload_n 1 140 C0 dX8_sails_139 rfl rfl rfl ?_
            exact x_ireturn C0 dX8_sails_140 rfl rfl (Nat.le_of_ble_eq_true rfl) (Nat.le_of_ble_eq_true rfl) ⟨rfl, _, _, _, rfl, hJ7, ⟨⟨⟨_, rfl⟩, hV.1⟩, (Or.inl ⟨m1, m4, co, i, tl, vl, hm1, hw1, c2, c3, hm4, hw4, hco, hw0, hm0, hV.1, hV.2.1, hV.2.2.2, hV.2.1, rfl, rfl⟩)⟩⟩
          · have hi2 : i < m0 := Nat.lt_of_not_le (fun z => c5 (nI_le (a := m0) z (by omega)))
            refine x_aload_n 0 63 C0 dX8_sails_62 rfl rfl rfl ?_
            refine x_getf (v := .ref (g.2 0 + 258 + 1)) 8 66 C0 dX8_sails_63 rfl MR_MW.o rfl (by decide) inX8 mF_X8_7 rfl ?_
            refine x_iload_n 2 67 C0 dX8_sails_66 rfl rfl rfl ?_
            refine x_bipush (v := 7) 69 C0 dX8_sails_67 rfl (by decide) ?_
            refine x_callS 72 C0 (k_X8_at l hl g _ _ (nI i) 7) dX8_sails_69 rfl mC_X8_at mM_X8_71 mS_X8_at mN_X8 yd_X8_at rfl rfl ⟨Nat.le_of_ble_eq_true rfl, Nat.le_of_ble_eq_true rfl⟩ rfl rfl (Nat.le_of_ble_eq_true rfl) ⟨Nat.le_of_ble_eq_true rfl, Nat.le_of_ble_eq_true rfl⟩ (fun _ _ _ q => False.elim q) (fun r w1 sz1 hz hP => ?_)
            obtain ⟨rfl, rfl, rfl⟩ := hP
            refine x_st (st1 := [.int (nI (28 + 9 * i + 7)), .ref (g.2 0 + 258 + 1)]) (congrArg (fun z => Value.int z :: _) (at_nI 28 9 i 7)) ?_
            refine x_iald 0 73 C0 dX8_sails_72 rfl MR_MW.r_v rfl (vp_in_nI (n := 28 + 9 * i + 7) (by omega) (by decide)) ?_
            refine x_st (st1 := [.int (vl (28 + 9 * i + 7))]) (congrArg (fun z => Value.int z :: _) (show vl (nI (28 + 9 * i + 7)).toNatClampNeg = vl (28 + 9 * i + 7) from by rw [nI_clamp (by omega)])) ?_
            refine x_iconst (v := 2) 74 C0 dX8_sails_73 rfl (by decide) ?_
            refine x_icmp_eq 80 77 C0 dX8_sails_74 rfl (by decide) (fun c8 => ?_) (fun c8 => ?_)
            · refine x_aload_n 0 81 C0 dX8_sails_80 rfl rfl rfl ?_
              refine x_getf (v := .ref (g.2 0 + 258 + 1)) 8 84 C0 dX8_sails_81 rfl MR_MW.o rfl (by decide) inX8 mF_X8_7 rfl ?_
              refine x_iload_n 2 85 C0 dX8_sails_84 rfl rfl rfl ?_
              refine x_bipush (v := 7) 87 C0 dX8_sails_85 rfl (by decide) ?_
              refine x_callS 90 C0 (k_X8_at l hl g _ _ (nI i) 7) dX8_sails_87 rfl mC_X8_at mM_X8_71 mS_X8_at mN_X8 yd_X8_at rfl rfl ⟨Nat.le_of_ble_eq_true rfl, Nat.le_of_ble_eq_true rfl⟩ rfl rfl (Nat.le_of_ble_eq_true rfl) ⟨Nat.le_of_ble_eq_true rfl, Nat.le_of_ble_eq_true rfl⟩ (fun _ _ _ q => False.elim q) (fun r w1 sz1 hz hP => ?_)
              obtain ⟨rfl, rfl, rfl⟩ := hP
              refine x_st (st1 := [.int (nI (28 + 9 * i + 7)), .ref (g.2 0 + 258 + 1)]) (congrArg (fun z => Value.int z :: _) (at_nI 28 9 i 7)) ?_
              refine x_iconst (v := 3) 91 C0 dX8_sails_90 rfl (by decide) ?_
              refine x_iast 0 92 C0 dX8_sails_91 rfl MR_MW.r_v (by show g.2 0 ≤ _; omega) rfl (vp_in_nI (n := 28 + 9 * i + 7) (by omega) (by decide)) ?_
              refine x_w (w1 := (MW g w tl (upd vl (28 + 9 * i + 7) 3) bf sv pa lbl ip td sg)) (by rw [show (nI (28 + 9 * i + 7) : Int32).toNatClampNeg = (28 + 9 * i + 7) from nI_clamp (n := 28 + 9 * i + 7) (by omega)]; exact MW_v) ?_
              have hJ9 : MJ n tl (upd vl (28 + 9 * i + 7) 3) bf sv pa sg := hJl.j_v (hJl.1.up (Or.inr ⟨i, 7, by omega, by decide, rfl⟩))
              refine x_aload_n 0 93 C0 dX8_sails_92 rfl rfl rfl ?_
              refine x_getf (v := .ref (g.2 0 + 258 + 1)) 8 96 C0 dX8_sails_93 rfl MR_MW.o rfl (by decide) inX8 mF_X8_7 rfl ?_
              refine x_bipush (v := 7) 98 C0 dX8_sails_96 rfl (by decide) ?_
              refine x_dup2 99 C0 dX8_sails_98 rfl rfl rfl ?_
              refine x_iald 0 100 C0 dX8_sails_99 rfl MR_MW.r_v rfl (vp_in_nI (n := 7) (by decide) (by decide)) ?_
              refine x_st (st1 := [.int ((upd vl (28 + 9 * i + 7) 3) 7), .int 7, .ref (g.2 0 + 258 + 1)]) (congrArg (fun z => Value.int z :: _) (show (upd vl (28 + 9 * i + 7) 3) (nI 7).toNatClampNeg = (upd vl (28 + 9 * i + 7) 3) 7 from by rw [nI_clamp (by omega)])) ?_
              refine x_aload_n 0 101 C0 dX8_sails_100 rfl rfl rfl ?_
              refine x_getf (v := .ref (g.2 0 + 258 + 1)) 8 104 C0 dX8_sails_101 rfl MR_MW.o rfl (by decide) inX8 mF_X8_7 rfl ?_
              refine x_iload_n 2 105 C0 dX8_sails_104 rfl rfl rfl ?_
              refine x_iconst (v := 3) 106 C0 dX8_sails_105 rfl (by decide) ?_
              refine x_callS 109 C0 (k_X8_at l hl g _ _ (nI i) 3) dX8_sails_106 rfl mC_X8_at mM_X8_71 mS_X8_at mN_X8 yd_X8_at rfl rfl ⟨Nat.le_of_ble_eq_true rfl, Nat.le_of_ble_eq_true rfl⟩ rfl rfl (Nat.le_of_ble_eq_true rfl) ⟨Nat.le_of_ble_eq_true rfl, Nat.le_of_ble_eq_true rfl⟩ (fun _ _ _ q => False.elim q) (fun r w1 sz1 hz hP => ?_)
              obtain ⟨rfl, rfl, rfl⟩ := hP
              refine x_st (st1 := [.int (nI (28 + 9 * i + 3)), .ref (g.2 0 + 258 + 1), .int ((upd vl (28 + 9 * i + 7) 3) 7), .int 7, .ref (g.2 0 + 258 + 1)]) (congrArg (fun z => Value.int z :: _) (at_nI 28 9 i 3)) ?_
              refine x_iald 0 110 C0 dX8_sails_109 rfl MR_MW.r_v rfl (vp_in_nI (n := 28 + 9 * i + 3) (by omega) (by decide)) ?_
              refine x_st (st1 := [.int ((upd vl (28 + 9 * i + 7) 3) (28 + 9 * i + 3)), .int ((upd vl (28 + 9 * i + 7) 3) 7), .int 7, .ref (g.2 0 + 258 + 1)]) (congrArg (fun z => Value.int z :: _) (show (upd vl (28 + 9 * i + 7) 3) (nI (28 + 9 * i + 3)).toNatClampNeg = (upd vl (28 + 9 * i + 7) 3) (28 + 9 * i + 3) from by rw [nI_clamp (by omega)])) ?_
              refine x_iadd 111 C0 dX8_sails_110 rfl ?_
              refine x_iast 0 112 C0 dX8_sails_111 rfl MR_MW.r_v (by show g.2 0 ≤ _; omega) rfl (vp_in_nI (n := 7) (by omega) (by decide)) ?_
              refine x_w (w1 := (MW g w tl (upd (upd vl (28 + 9 * i + 7) 3) 7 (((upd vl (28 + 9 * i + 7) 3) 7) + ((upd vl (28 + 9 * i + 7) 3) (28 + 9 * i + 3)))) bf sv pa lbl ip td sg)) (by rw [show (7 : Int32).toNatClampNeg = 7 from nI_clamp (n := 7) (by omega)]; exact MW_v) ?_
              have hJ10 : MJ n tl (upd (upd vl (28 + 9 * i + 7) 3) 7 (((upd vl (28 + 9 * i + 7) 3) 7) + ((upd vl (28 + 9 * i + 7) 3) (28 + 9 * i + 3)))) bf sv pa sg := hJ9.j_v (hJ9.1.up (Or.inl (by decide)))
              refine x_iinc [(2, .int (nI (i + 1))), (0, .ref (g.2 0 + 258)), (1, .int co)] 2 115 C0 dX8_sails_112 rfl rfl (nI_1 i) (by decide) rfl ?_
              refine x_lv (lv1 := [(0, .ref (g.2 0 + 258)), (1, .int co), (2, .int (nI (i + 1)))]) [1, 2, 0] rfl ?_
              refine x_goto 52 C0 dX8_sails_115 (by decide) ?_
              exact x_lv [0, 1, 2] rfl (ih (i + 1) _ _ _ (by omega) (by omega) hJ10 (sInv_1 hV c8))
            · refine x_goto 112 C0 dX8_sails_77 (by decide) ?_
              refine x_iinc [(2, .int (nI (i + 1))), (0, .ref (g.2 0 + 258)), (1, .int co)] 2 115 C0 dX8_sails_112 rfl rfl (nI_1 i) (by decide) rfl ?_
              refine x_lv (lv1 := [(0, .ref (g.2 0 + 258)), (1, .int co), (2, .int (nI (i + 1)))]) [1, 2, 0] rfl ?_
              refine x_goto 52 C0 dX8_sails_115 (by decide) ?_
              exact x_lv [0, 1, 2] rfl (ih (i + 1) _ _ _ (by omega) (by omega) hJl (sInv_0 hV c8))
      exact x_lv [0, 1, 2] rfl (loop52 (m0 + 1) 0 _ _ _ (by omega) (by omega) hJ ⟨tK.rf, rfl, rfl, rfl⟩)
    · have c3' := Int32.not_le.mp c3
      refine x_aload_n 0 30 C0 dX8_sails_29 rfl rfl rfl ?_
      refine x_bipush (v := 16) 32 C0 dX8_sails_30 rfl (by decide) ?_
      refine x_aload_n 0 33 C0 dX8_sails_32 rfl rfl rfl ?_
      refine x_getf (v := .ref (g.2 0 + 258 + 1)) 8 36 C0 dX8_sails_33 rfl hM.o rfl (by decide) inX8 mF_X8_7 rfl ?_
      refine x_iconst (v := 0) 37 C0 dX8_sails_36 rfl (by decide) ?_
      refine x_iald 0 38 C0 dX8_sails_37 rfl hM.r_v rfl (vp_in_nI (n := 0) (by decide) (by decide)) ?_
      refine x_st (st1 := [.int (v 0), .int 16, .ref (g.2 0 + 258)]) (congrArg (fun z => Value.int z :: _) (show v (nI 0).toNatClampNeg = v 0 from by rw [nI_clamp (by omega)])) ?_
      refine x_callS 41 C0 (k_X8_heightAt l hl g _ _ (v 0)) dX8_sails_38 rfl mC_X8_heightAt mM_X8_161 mS_X8_heightAt mN_X8 yd_X8_heightAt rfl rfl ⟨Nat.le_of_ble_eq_true rfl, Nat.le_of_ble_eq_true rfl⟩ rfl rfl (Nat.le_of_ble_eq_true rfl) ⟨Nat.le_of_ble_eq_true rfl, Nat.le_of_ble_eq_true rfl⟩ (fun _ _ _ q => False.elim q) (fun r w1 sz1 hz hP => ?_)
      obtain ⟨rfl, rfl, rfl⟩ := hP
      refine x_st (st1 := [.int (hgt (v 0)), .int 16, .ref (g.2 0 + 258)]) rfl ?_
      refine x_callV 44 C0 (k_X8_refuses l hl g _ _ n t v bf sv pa lb ip td sg hM hJ 16 (hgt (v 0))) dX8_sails_41 rfl mC_X8_refuses mM_X8_82 mI_X8_refuses mV_X8_refuses mN_X8 yd_X8_refuses rfl rfl ⟨Nat.le_of_ble_eq_true rfl, Nat.le_of_ble_eq_true rfl⟩ hM.o rfl rfl rfl rfl (Nat.le_of_ble_eq_true rfl) ⟨Nat.le_of_ble_eq_true rfl, Nat.le_of_ble_eq_true rfl⟩ (fun _ _ _ q => False.elim q) (fun r w1 sz1 hz hP => ?_)
      obtain ⟨rfl, rfl, rfl⟩ := hP
      have hJ11 : MJ n (upd (upd (upd t 5 16) 6 (hgt (v 0))) 1 3) v bf sv pa sg := (((hJ.j_t (by decide)).j_t (by decide)).j_t (by decide))
      refine x_st (st1 := [.int 0]) rfl ?_
      exact x_ireturn C0 dX8_sails_44 rfl rfl (Nat.le_of_ble_eq_true rfl) (Nat.le_of_ble_eq_true rfl) ⟨rfl, _, _, _, rfl, hJ11, ⟨⟨⟨_, rfl⟩, (((tK.rf.up (by decide)).up (by decide)).up (by decide))⟩, (Or.inr (Or.inl ⟨m1, hm1, hw1, c2, c3, rfl⟩))⟩⟩
  · refine x_aload_n 0 9 C0 dX8_sails_8 rfl rfl rfl ?_
    refine x_bipush (v := 18) 11 C0 dX8_sails_9 rfl (by decide) ?_
    refine x_iconst (v := 0) 12 C0 dX8_sails_11 rfl (by decide) ?_
    refine x_callV 15 C0 (k_X8_refuses l hl g _ _ n t v bf sv pa lb ip td sg hM hJ 18 0) dX8_sails_12 rfl mC_X8_refuses mM_X8_82 mI_X8_refuses mV_X8_refuses mN_X8 yd_X8_refuses rfl rfl ⟨Nat.le_of_ble_eq_true rfl, Nat.le_of_ble_eq_true rfl⟩ hM.o rfl rfl rfl rfl (Nat.le_of_ble_eq_true rfl) ⟨Nat.le_of_ble_eq_true rfl, Nat.le_of_ble_eq_true rfl⟩ (fun _ _ _ q => False.elim q) (fun r w1 sz1 hz hP => ?_)
    obtain ⟨rfl, rfl, rfl⟩ := hP
    have hJ12 : MJ n (upd (upd (upd t 5 18) 6 0) 1 3) v bf sv pa sg := (((hJ.j_t (by decide)).j_t (by decide)).j_t (by decide))
    refine x_st (st1 := [.int 0]) rfl ?_
    exact x_ireturn C0 dX8_sails_15 rfl rfl (Nat.le_of_ble_eq_true rfl) (Nat.le_of_ble_eq_true rfl) ⟨rfl, _, _, _, rfl, hJ12, ⟨⟨⟨_, rfl⟩, (((tK.rf.up (by decide)).up (by decide)).up (by decide))⟩, (Or.inr (Or.inr (⟨m1, hm1, hw1, c2, rfl⟩)))⟩⟩

def R_X8_humid (t v : Nat → Int32) (hu : Int32) (r : Option Value) (t' v' : Nat → Int32) : Prop :=
  ((0 ≤ hu ∧ hu ≤ 9) ∧ (t' 1 = t 1) ∧ (r = some (.int (v 5))) ∧ (v' = (upd v 5 hu))) ∨
  ((¬ (0 ≤ hu ∧ hu ≤ 9)) ∧ (t' 1 = 2))
set_option maxHeartbeats 4000000 in
set_option maxRecDepth 100000 in
theorem k_X8_humid (l : Launch) (hl : l.stackTraces = false) (g : xg_T) (w : xw_T) (sz n : Nat) (t v bf sv pa lb ip td sg : Nat → Int32) (hM : MR g w t v bf sv pa lb ip td sg) (hJ : MJ n t v bf sv pa sg) (hu : Int32) : xM l g yX8_humid cX8_humid 3 (some .int) ({ frames := 1, cells := 0, slots := 0, locals := 22 }) 0 0 [.ref (g.2 0 + 258), .int hu] w sz (mX g w sz n bf sv pa ip td sg (fun r t' v' => mT t r t' v' ∧ R_X8_humid t v hu r t' v')) (fun _ _ _ => False) := by
  refine xM.of RX8 hl (by decide +kernel) rfl (Nat.le_of_ble_eq_true rfl) rfl ?_
  intro p e s m args below meth cD C0 hini
  refine x_iload_n 1 1 C0 dX8_humid_0 rfl rfl rfl ?_
  refine x_iconst (v := 0) 2 C0 dX8_humid_1 rfl (by decide) ?_
  refine x_bipush (v := 9) 4 C0 dX8_humid_2 rfl (by decide) ?_
  refine x_callS 7 C0 (k_X8_isIn l hl g _ _ hu 0 9) dX8_humid_4 rfl mC_X8_isIn mM_X8_67 mS_X8_isIn mN_X8 yd_X8_isIn rfl rfl ⟨Nat.le_of_ble_eq_true rfl, Nat.le_of_ble_eq_true rfl⟩ rfl rfl (Nat.le_of_ble_eq_true rfl) ⟨Nat.le_of_ble_eq_true rfl, Nat.le_of_ble_eq_true rfl⟩ (fun _ _ _ q => False.elim q) (fun r w1 sz1 hz hP => ?_)
  obtain ⟨hr, rfl, rfl⟩ := hP
  rcases hr with ⟨rfl, ha1, hb1⟩ | ⟨rfl, hx1⟩
  · refine x_st (st1 := [.int 1]) rfl ?_
    refine x_if_ne 16 10 C0 dX8_humid_7 rfl (by decide) (fun _ => ?_) (fun q => False.elim (by revert q; decide))
    refine x_aload_n 0 17 C0 dX8_humid_16 rfl rfl rfl ?_
    refine x_getf (v := .ref (g.2 0 + 258 + 1)) 8 20 C0 dX8_humid_17 rfl hM.o rfl (by decide) inX8 mF_X8_7 rfl ?_
    refine x_iconst (v := 5) 21 C0 dX8_humid_20 rfl (by decide) ?_
    refine x_iald 0 22 C0 dX8_humid_21 rfl hM.r_v rfl (vp_in_nI (n := 5) (by decide) (by decide)) ?_
    refine x_st (st1 := [.int (v 5)]) (congrArg (fun z => Value.int z :: _) (show v (nI 5).toNatClampNeg = v 5 from by rw [nI_clamp (by omega)])) ?_
    refine x_istore_n [(2, .int (v 5)), (0, .ref (g.2 0 + 258)), (1, .int hu)] 23 C0 dX8_humid_22 rfl rfl (by decide) rfl ?_
    refine x_lv (lv1 := [(0, .ref (g.2 0 + 258)), (1, .int hu), (2, .int (v 5))]) [1, 2, 0] rfl ?_
    refine x_aload_n 0 24 C0 dX8_humid_23 rfl rfl rfl ?_
    refine x_getf (v := .ref (g.2 0 + 258 + 1)) 8 27 C0 dX8_humid_24 rfl hM.o rfl (by decide) inX8 mF_X8_7 rfl ?_
    refine x_iconst (v := 5) 28 C0 dX8_humid_27 rfl (by decide) ?_
    refine x_iload_n 1 29 C0 dX8_humid_28 rfl rfl rfl ?_
    refine x_w (MW_self hM) ?_
    refine x_iast 0 30 C0 dX8_humid_29 rfl MR_MW.r_v (by show g.2 0 ≤ _; omega) rfl (vp_in_nI (n := 5) (by omega) (by decide)) ?_
    refine x_w (w1 := (MW g w t (upd v 5 hu) bf sv pa lb ip td sg)) (by rw [show (5 : Int32).toNatClampNeg = 5 from nI_clamp (n := 5) (by omega)]; exact MW_v) ?_
    have hJ3 : MJ n t (upd v 5 hu) bf sv pa sg := hJ.j_v (hJ.1.up (Or.inl (by decide)))
    refine x_iload_n 2 31 C0 dX8_humid_30 rfl rfl rfl ?_
    exact x_ireturn C0 dX8_humid_31 rfl rfl (Nat.le_of_ble_eq_true rfl) (Nat.le_of_ble_eq_true rfl) ⟨rfl, _, _, _, rfl, hJ3, ⟨⟨⟨_, rfl⟩, tK.rf⟩, (Or.inl ⟨⟨ha1, hb1⟩, rfl, rfl, rfl⟩)⟩⟩
  · refine x_st (st1 := [.int 0]) rfl ?_
    refine x_if_ne 16 10 C0 dX8_humid_7 rfl (by decide) (fun q => False.elim (by revert q; decide)) (fun _ => ?_)
    refine x_aload_n 0 11 C0 dX8_humid_10 rfl rfl rfl ?_
    refine x_iconst (v := 2) 12 C0 dX8_humid_11 rfl (by decide) ?_
    refine x_callV 15 C0 (k_X8_fail l hl g _ _ n t v bf sv pa lb ip td sg hM hJ 2) dX8_humid_12 rfl mC_X8_fail mM_X8_47 mI_X8_fail mV_X8_fail mN_X8 yd_X8_fail rfl rfl ⟨Nat.le_of_ble_eq_true rfl, Nat.le_of_ble_eq_true rfl⟩ hM.o rfl rfl rfl rfl (Nat.le_of_ble_eq_true rfl) ⟨Nat.le_of_ble_eq_true rfl, Nat.le_of_ble_eq_true rfl⟩ (fun _ _ _ q => False.elim q) (fun r w1 sz1 hz hP => ?_)
    obtain ⟨rfl, rfl, rfl⟩ := hP
    have hJ5 : MJ n (upd t 1 2) v bf sv pa sg := (hJ.j_t (by decide))
    refine x_st (st1 := [.int 0]) rfl ?_
    exact x_ireturn C0 dX8_humid_15 rfl rfl (Nat.le_of_ble_eq_true rfl) (Nat.le_of_ble_eq_true rfl) ⟨rfl, _, _, _, rfl, hJ5, ⟨⟨⟨_, rfl⟩, (tK.rf.up (by decide))⟩, (Or.inr (⟨hx1, rfl⟩))⟩⟩

set_option maxHeartbeats 4000000 in
set_option maxRecDepth 100000 in
theorem k_X8_hour (l : Launch) (hl : l.stackTraces = false) (g : xg_T) (w : xw_T) (sz n : Nat) (t v bf sv pa lb ip td sg : Nat → Int32) (hM : MR g w t v bf sv pa lb ip td sg) (hJ : MJ n t v bf sv pa sg) : xM l g yX8_hour cX8_hour 2 none ({ frames := 2, cells := 0, slots := 0, locals := 42 }) 0 0 [.ref (g.2 0 + 258)] w sz (mX g w sz n bf sv pa ip td sg (fun r t' v' => r = none ∧ tK t t' ∧ t' 1 = t 1 ∧ ∃ m : Nat, m ≤ 20 ∧ v 3 = nI m ∧ v' = hourR v m)) (fun _ _ _ => False) := by
  refine xM.of RX8 hl (by decide +kernel) rfl (Nat.le_of_ble_eq_true rfl) rfl ?_
  intro p e s m args below meth cD C0 hini
  refine x_aload_n 0 1 C0 dX8_hour_0 rfl rfl rfl ?_
  refine x_getf (v := .ref (g.2 0 + 258 + 1)) 8 4 C0 dX8_hour_1 rfl hM.o rfl (by decide) inX8 mF_X8_7 rfl ?_
  refine x_iconst (v := 0) 5 C0 dX8_hour_4 rfl (by decide) ?_
  refine x_dup2 6 C0 dX8_hour_5 rfl rfl rfl ?_
  refine x_iald 0 7 C0 dX8_hour_6 rfl hM.r_v rfl (vp_in_nI (n := 0) (by decide) (by decide)) ?_
  refine x_st (st1 := [.int (v 0), .int 0, .ref (g.2 0 + 258 + 1)]) (congrArg (fun z => Value.int z :: _) (show v (nI 0).toNatClampNeg = v 0 from by rw [nI_clamp (by omega)])) ?_
  refine x_iconst (v := 1) 8 C0 dX8_hour_7 rfl (by decide) ?_
  refine x_iadd 9 C0 dX8_hour_8 rfl ?_
  refine x_w (MW_self hM) ?_
  refine x_iast 0 10 C0 dX8_hour_9 rfl MR_MW.r_v (by show g.2 0 ≤ _; omega) rfl (vp_in_nI (n := 0) (by omega) (by decide)) ?_
  refine x_w (w1 := (MW g w t (upd v 0 ((v 0) + 1)) bf sv pa lb ip td sg)) (by rw [show (0 : Int32).toNatClampNeg = 0 from nI_clamp (n := 0) (by omega)]; exact MW_v) ?_
  have hJ1 : MJ n t (upd v 0 ((v 0) + 1)) bf sv pa sg := hJ.j_v (hJ.1.up (Or.inl (by decide)))
  refine x_iconst (v := 0) 11 C0 dX8_hour_10 rfl (by decide) ?_
  refine x_istore_n [(1, .int 0), (0, .ref (g.2 0 + 258))] 12 C0 dX8_hour_11 rfl rfl (by decide) rfl ?_
  refine x_lv (lv1 := [(0, .ref (g.2 0 + 258)), (1, .int 0)]) [1, 0] rfl ?_
  obtain ⟨m0, hm0, hw0⟩ := hJ.1.n
  have loop12 : ∀ (N i : Nat) (tl vl lbl : Nat → Int32), i ≤ m0 → m0 - i < N → MJ n tl vl bf sv pa sg → (hInv t v tl vl i) → xV p l e ({ frames := 2, cells := 0, slots := 0, locals := 42 }) s m args below meth cD (xQ g below (mX g w sz n bf sv pa ip td sg (fun r t' v' => r = none ∧ tK t t' ∧ t' 1 = t 1 ∧ ∃ m : Nat, m ≤ 20 ∧ v 3 = nI m ∧ v' = hourR v m)) (fun _ _ _ => False) args s 0 0) g 2 (MW g w tl vl bf sv pa lbl ip td sg) sz (0) (0) 12 [(0, .ref (g.2 0 + 258)), (1, .int (nI i))] [] := by
    intro N
    induction N with
    | zero => intro i tl vl lbl h1 h2; omega
    | succ N ih =>
      intro i tl vl lbl hi hN hJl hV
      refine x_iload_n 1 13 C0 dX8_hour_12 rfl rfl rfl ?_
      refine x_aload_n 0 14 C0 dX8_hour_13 rfl rfl rfl ?_
      refine x_getf (v := .ref (g.2 0 + 258 + 1)) 8 17 C0 dX8_hour_14 rfl MR_MW.o rfl (by decide) inX8 mF_X8_7 rfl ?_
      refine x_iconst (v := 3) 18 C0 dX8_hour_17 rfl (by decide) ?_
      refine x_iald 0 19 C0 dX8_hour_18 rfl MR_MW.r_v rfl (vp_in_nI (n := 3) (by decide) (by decide)) ?_
      refine x_st (st1 := [.int (vl 3), .int (nI i)]) (congrArg (fun z => Value.int z :: _) (show vl (nI 3).toNatClampNeg = vl 3 from by rw [nI_clamp (by omega)])) ?_
      refine x_st (st1 := [.int (nI m0), .int (nI i)]) (congrArg (fun z => Value.int z :: _) (((hV.2.2.1 3 (by omega)).trans hw0))) ?_
      refine x_icmp_ge 97 22 C0 dX8_hour_19 rfl (by decide) (fun c2 => ?_) (fun c2 => ?_)
      · have hE : i = m0 := Nat.le_antisymm hi ((nI_leI (by omega) (by omega)).mp c2)
        exact x_return C0 dX8_hour_97 rfl (Nat.le_of_ble_eq_true rfl) (Nat.le_of_ble_eq_true rfl) ⟨rfl, _, _, _, rfl, hJl, ⟨rfl, hV.1, hV.2.1, hInv_e1 hV hE hm0 ((hV.2.2.1 3 (by omega)).trans hw0)⟩⟩
      · have hi2 : i < m0 := Nat.lt_of_not_le (fun z => c2 (nI_le (a := m0) z (by omega)))
        refine x_aload_n 0 23 C0 dX8_hour_22 rfl rfl rfl ?_
        refine x_getf (v := .ref (g.2 0 + 258 + 1)) 8 26 C0 dX8_hour_23 rfl MR_MW.o rfl (by decide) inX8 mF_X8_7 rfl ?_
        refine x_iconst (v := 5) 27 C0 dX8_hour_26 rfl (by decide) ?_
        refine x_iald 0 28 C0 dX8_hour_27 rfl MR_MW.r_v rfl (vp_in_nI (n := 5) (by decide) (by decide)) ?_
        refine x_st (st1 := [.int (vl 5)]) (congrArg (fun z => Value.int z :: _) (show vl (nI 5).toNatClampNeg = vl 5 from by rw [nI_clamp (by omega)])) ?_
        refine x_iconst (v := 5) 29 C0 dX8_hour_28 rfl (by decide) ?_
        refine x_icmp_lt 97 32 C0 dX8_hour_29 rfl (by decide) (fun c3 => ?_) (fun c3 => ?_)
        · have c3' := Int32.not_le.mpr c3
          exact x_return C0 dX8_hour_97 rfl (Nat.le_of_ble_eq_true rfl) (Nat.le_of_ble_eq_true rfl) ⟨rfl, _, _, _, rfl, hJl, ⟨rfl, hV.1, hV.2.1, hInv_e2 hV hJ.1 c3⟩⟩
        · have c3' := Int32.not_lt.mp c3
          refine x_aload_n 0 33 C0 dX8_hour_32 rfl rfl rfl ?_
          refine x_getf (v := .ref (g.2 0 + 258 + 1)) 8 36 C0 dX8_hour_33 rfl MR_MW.o rfl (by decide) inX8 mF_X8_7 rfl ?_
          refine x_iload_n 1 37 C0 dX8_hour_36 rfl rfl rfl ?_
          refine x_bipush (v := 7) 39 C0 dX8_hour_37 rfl (by decide) ?_
          refine x_callS 42 C0 (k_X8_at l hl g _ _ (nI i) 7) dX8_hour_39 rfl mC_X8_at mM_X8_71 mS_X8_at mN_X8 yd_X8_at rfl rfl ⟨Nat.le_of_ble_eq_true rfl, Nat.le_of_ble_eq_true rfl⟩ rfl rfl (Nat.le_of_ble_eq_true rfl) ⟨Nat.le_of_ble_eq_true rfl, Nat.le_of_ble_eq_true rfl⟩ (fun _ _ _ q => False.elim q) (fun r w1 sz1 hz hP => ?_)
          obtain ⟨rfl, rfl, rfl⟩ := hP
          refine x_st (st1 := [.int (nI (28 + 9 * i + 7)), .ref (g.2 0 + 258 + 1)]) (congrArg (fun z => Value.int z :: _) (at_nI 28 9 i 7)) ?_
          refine x_iald 0 43 C0 dX8_hour_42 rfl MR_MW.r_v rfl (vp_in_nI (n := 28 + 9 * i + 7) (by omega) (by decide)) ?_
          refine x_st (st1 := [.int (vl (28 + 9 * i + 7))]) (congrArg (fun z => Value.int z :: _) (show vl (nI (28 + 9 * i + 7)).toNatClampNeg = vl (28 + 9 * i + 7) from by rw [nI_clamp (by omega)])) ?_
          refine x_if_ne 91 46 C0 dX8_hour_43 rfl (by decide) (fun c4 => ?_) (fun c4 => ?_)
          · refine x_iinc [(1, .int (nI (i + 1))), (0, .ref (g.2 0 + 258))] 1 94 C0 dX8_hour_91 rfl rfl (nI_1 i) (by decide) rfl ?_
            refine x_lv (lv1 := [(0, .ref (g.2 0 + 258)), (1, .int (nI (i + 1)))]) [1, 0] rfl ?_
            refine x_goto 12 C0 dX8_hour_94 (by decide) ?_
            exact x_lv [0, 1] rfl (ih (i + 1) _ _ _ (by omega) (by omega) hJl (hInv_0 hV c3' (fun z => c4 z.1)))
          · refine x_aload_n 0 47 C0 dX8_hour_46 rfl rfl rfl ?_
            refine x_iload_n 1 48 C0 dX8_hour_47 rfl rfl rfl ?_
            refine x_callV 51 C0 (k_X8_isEmpty l hl g _ _ n tl vl bf sv pa lbl ip td sg MR_MW hJl i (by omega)) dX8_hour_48 rfl mC_X8_isEmpty mM_X8_118 mI_X8_isEmpty mV_X8_isEmpty mN_X8 yd_X8_isEmpty rfl rfl ⟨Nat.le_of_ble_eq_true rfl, Nat.le_of_ble_eq_true rfl⟩ MR_MW.o rfl rfl rfl rfl (Nat.le_of_ble_eq_true rfl) ⟨Nat.le_of_ble_eq_true rfl, Nat.le_of_ble_eq_true rfl⟩ (fun _ _ _ q => False.elim q) (fun r w1 sz1 hz hP => ?_)
            obtain ⟨hR5, rfl, rfl⟩ := hP
            rcases hR5 with ⟨rfl, hq5⟩ | ⟨rfl, hq5⟩
            · refine x_st (st1 := [.int 1]) rfl ?_
              refine x_if_ne 91 54 C0 dX8_hour_51 rfl (by decide) (fun _ => ?_) (fun q => False.elim (by revert q; decide))
              refine x_iinc [(1, .int (nI (i + 1))), (0, .ref (g.2 0 + 258))] 1 94 C0 dX8_hour_91 rfl rfl (nI_1 i) (by decide) rfl ?_
              refine x_lv (lv1 := [(0, .ref (g.2 0 + 258)), (1, .int (nI (i + 1)))]) [1, 0] rfl ?_
              refine x_goto 12 C0 dX8_hour_94 (by decide) ?_
              exact x_lv [0, 1] rfl (ih (i + 1) _ _ _ (by omega) (by omega) hJl (hInv_0 hV c3' (fun z => z.2.1 hq5)))
            · refine x_st (st1 := [.int 0]) rfl ?_
              refine x_if_ne 91 54 C0 dX8_hour_51 rfl (by decide) (fun q => False.elim (by revert q; decide)) (fun _ => ?_)
              refine x_aload_n 0 55 C0 dX8_hour_54 rfl rfl rfl ?_
              refine x_iload_n 1 56 C0 dX8_hour_55 rfl rfl rfl ?_
              refine x_callV 59 C0 (k_X8_isTight l hl g _ _ n tl vl bf sv pa lbl ip td sg MR_MW hJl i (by omega)) dX8_hour_56 rfl mC_X8_isTight mM_X8_127 mI_X8_isTight mV_X8_isTight mN_X8 yd_X8_isTight rfl rfl ⟨Nat.le_of_ble_eq_true rfl, Nat.le_of_ble_eq_true rfl⟩ MR_MW.o rfl rfl rfl rfl (Nat.le_of_ble_eq_true rfl) ⟨Nat.le_of_ble_eq_true rfl, Nat.le_of_ble_eq_true rfl⟩ (fun _ _ _ q => False.elim q) (fun r w1 sz1 hz hP => ?_)
              obtain ⟨hR8, rfl, rfl⟩ := hP
              rcases hR8 with ⟨rfl, hq8⟩ | ⟨rfl, hq8⟩
              · refine x_st (st1 := [.int 1]) rfl ?_
                refine x_if_ne 91 62 C0 dX8_hour_59 rfl (by decide) (fun _ => ?_) (fun q => False.elim (by revert q; decide))
                refine x_iinc [(1, .int (nI (i + 1))), (0, .ref (g.2 0 + 258))] 1 94 C0 dX8_hour_91 rfl rfl (nI_1 i) (by decide) rfl ?_
                refine x_lv (lv1 := [(0, .ref (g.2 0 + 258)), (1, .int (nI (i + 1)))]) [1, 0] rfl ?_
                refine x_goto 12 C0 dX8_hour_94 (by decide) ?_
                exact x_lv [0, 1] rfl (ih (i + 1) _ _ _ (by omega) (by omega) hJl (hInv_0 hV c3' (fun z => z.2.2 hq8)))
              · refine x_st (st1 := [.int 0]) rfl ?_
                refine x_if_ne 91 62 C0 dX8_hour_59 rfl (by decide) (fun q => False.elim (by revert q; decide)) (fun _ => ?_)
                refine x_aload_n 0 63 C0 dX8_hour_62 rfl rfl rfl ?_
                refine x_getf (v := .ref (g.2 0 + 258 + 1)) 8 66 C0 dX8_hour_63 rfl MR_MW.o rfl (by decide) inX8 mF_X8_7 rfl ?_
                refine x_iload_n 1 67 C0 dX8_hour_66 rfl rfl rfl ?_
                refine x_bipush (v := 6) 69 C0 dX8_hour_67 rfl (by decide) ?_
                refine x_callS 72 C0 (k_X8_at l hl g _ _ (nI i) 6) dX8_hour_69 rfl mC_X8_at mM_X8_71 mS_X8_at mN_X8 yd_X8_at rfl rfl ⟨Nat.le_of_ble_eq_true rfl, Nat.le_of_ble_eq_true rfl⟩ rfl rfl (Nat.le_of_ble_eq_true rfl) ⟨Nat.le_of_ble_eq_true rfl, Nat.le_of_ble_eq_true rfl⟩ (fun _ _ _ q => False.elim q) (fun r w1 sz1 hz hP => ?_)
                obtain ⟨rfl, rfl, rfl⟩ := hP
                refine x_st (st1 := [.int (nI (28 + 9 * i + 6)), .ref (g.2 0 + 258 + 1)]) (congrArg (fun z => Value.int z :: _) (at_nI 28 9 i 6)) ?_
                refine x_bipush (v := 20) 74 C0 dX8_hour_72 rfl (by decide) ?_
                refine x_aload_n 0 75 C0 dX8_hour_74 rfl rfl rfl ?_
                refine x_getf (v := .ref (g.2 0 + 258 + 1)) 8 78 C0 dX8_hour_75 rfl MR_MW.o rfl (by decide) inX8 mF_X8_7 rfl ?_
                refine x_iload_n 1 79 C0 dX8_hour_78 rfl rfl rfl ?_
                refine x_bipush (v := 6) 81 C0 dX8_hour_79 rfl (by decide) ?_
                refine x_callS 84 C0 (k_X8_at l hl g _ _ (nI i) 6) dX8_hour_81 rfl mC_X8_at mM_X8_71 mS_X8_at mN_X8 yd_X8_at rfl rfl ⟨Nat.le_of_ble_eq_true rfl, Nat.le_of_ble_eq_true rfl⟩ rfl rfl (Nat.le_of_ble_eq_true rfl) ⟨Nat.le_of_ble_eq_true rfl, Nat.le_of_ble_eq_true rfl⟩ (fun _ _ _ q => False.elim q) (fun r w1 sz1 hz hP => ?_)
                obtain ⟨rfl, rfl, rfl⟩ := hP
                refine x_st (st1 := [.int (nI (28 + 9 * i + 6)), .ref (g.2 0 + 258 + 1), .int 20, .int (nI (28 + 9 * i + 6)), .ref (g.2 0 + 258 + 1)]) (congrArg (fun z => Value.int z :: _) (at_nI 28 9 i 6)) ?_
                refine x_iald 0 85 C0 dX8_hour_84 rfl MR_MW.r_v rfl (vp_in_nI (n := 28 + 9 * i + 6) (by omega) (by decide)) ?_
                refine x_st (st1 := [.int (vl (28 + 9 * i + 6)), .int 20, .int (nI (28 + 9 * i + 6)), .ref (g.2 0 + 258 + 1)]) (congrArg (fun z => Value.int z :: _) (show vl (nI (28 + 9 * i + 6)).toNatClampNeg = vl (28 + 9 * i + 6) from by rw [nI_clamp (by omega)])) ?_
                refine x_iconst (v := 1) 86 C0 dX8_hour_85 rfl (by decide) ?_
                refine x_iadd 87 C0 dX8_hour_86 rfl ?_
                refine x_callS 90 C0 (k_X8_lesser l hl g _ _ 20 ((vl (28 + 9 * i + 6)) + 1)) dX8_hour_87 rfl mC_X8_lesser mM_X8_99 mS_X8_lesser mN_X8 yd_X8_lesser rfl rfl ⟨Nat.le_of_ble_eq_true rfl, Nat.le_of_ble_eq_true rfl⟩ rfl rfl (Nat.le_of_ble_eq_true rfl) ⟨Nat.le_of_ble_eq_true rfl, Nat.le_of_ble_eq_true rfl⟩ (fun _ _ _ q => False.elim q) (fun r w1 sz1 hz hP => ?_)
                obtain ⟨rfl, rfl, rfl⟩ := hP
                refine x_st (st1 := [.int (lsr 20 ((vl (28 + 9 * i + 6)) + 1)), .int (nI (28 + 9 * i + 6)), .ref (g.2 0 + 258 + 1)]) rfl ?_
                refine x_iast 0 91 C0 dX8_hour_90 rfl MR_MW.r_v (by show g.2 0 ≤ _; omega) rfl (vp_in_nI (n := 28 + 9 * i + 6) (by omega) (by decide)) ?_
                refine x_w (w1 := (MW g w tl (upd vl (28 + 9 * i + 6) (lsr 20 ((vl (28 + 9 * i + 6)) + 1))) bf sv pa lbl ip td sg)) (by rw [show (nI (28 + 9 * i + 6) : Int32).toNatClampNeg = (28 + 9 * i + 6) from nI_clamp (n := 28 + 9 * i + 6) (by omega)]; exact MW_v) ?_
                have hJ11 : MJ n tl (upd vl (28 + 9 * i + 6) (lsr 20 ((vl (28 + 9 * i + 6)) + 1))) bf sv pa sg := hJl.j_v (hJl.1.up (Or.inr ⟨i, 6, by omega, by decide, rfl⟩))
                refine x_iinc [(1, .int (nI (i + 1))), (0, .ref (g.2 0 + 258))] 1 94 C0 dX8_hour_91 rfl rfl (nI_1 i) (by decide) rfl ?_
                refine x_lv (lv1 := [(0, .ref (g.2 0 + 258)), (1, .int (nI (i + 1)))]) [1, 0] rfl ?_
                refine x_goto 12 C0 dX8_hour_94 (by decide) ?_
                exact x_lv [0, 1] rfl (ih (i + 1) _ _ _ (by omega) (by omega) hJ11 (hInv_1 hV c3' ⟨c4, hq5, hq8⟩))
  exact x_lv [0, 1] rfl (loop12 (m0 + 1) 0 _ _ _ (by omega) (by omega) hJ1 ⟨tK.rf, rfl, fun q _ => rfl, rfl, Or.inl rfl⟩)

def R_X8_passes (t v : Nat → Int32) (hs0 : Int32) (r : Option Value) (t' v' : Nat → Int32) : Prop :=
  (∃ (i : Nat) (m0 : Nat) (tl : Nat → Int32) (vl : Nat → Int32), (1 ≤ hs0 ∧ hs0 ≤ 72) ∧ (hs0 = nI i) ∧ (1 ≤ i) ∧ (i ≤ 72) ∧ (m0 ≤ 20) ∧ (v 3 = nI m0) ∧ (tl 1 = t 1) ∧ (vl = passR v m0 i) ∧ (t' 1 = t 1) ∧ (r = some (.int (hgt (vl 0)))) ∧ (v' = vl)) ∨
  ((¬ (1 ≤ hs0 ∧ hs0 ≤ 72)) ∧ (t' 1 = 2))
set_option maxHeartbeats 4000000 in
set_option maxRecDepth 100000 in
theorem k_X8_passes (l : Launch) (hl : l.stackTraces = false) (g : xg_T) (w : xw_T) (sz n : Nat) (t v bf sv pa lb ip td sg : Nat → Int32) (hM : MR g w t v bf sv pa lb ip td sg) (hJ : MJ n t v bf sv pa sg) (hs hs0 : Int32) (hh : hs0 = hs) : xM l g yX8_passes cX8_passes 3 (some .int) ({ frames := 3, cells := 0, slots := 0, locals := 63 }) 0 0 [.ref (g.2 0 + 258), .int hs] w sz (mX g w sz n bf sv pa ip td sg (fun r t' v' => mT t r t' v' ∧ R_X8_passes t v hs0 r t' v')) (fun _ _ _ => False) := by
  refine xM.of RX8 hl (by decide +kernel) rfl (Nat.le_of_ble_eq_true rfl) rfl ?_
  intro p e s m args below meth cD C0 hini
  refine x_iload_n 1 1 C0 dX8_passes_0 rfl rfl rfl ?_
  refine x_iconst (v := 1) 2 C0 dX8_passes_1 rfl (by decide) ?_
  refine x_bipush (v := 72) 4 C0 dX8_passes_2 rfl (by decide) ?_
  refine x_callS 7 C0 (k_X8_isIn l hl g _ _ hs 1 72) dX8_passes_4 rfl mC_X8_isIn mM_X8_67 mS_X8_isIn mN_X8 yd_X8_isIn rfl rfl ⟨Nat.le_of_ble_eq_true rfl, Nat.le_of_ble_eq_true rfl⟩ rfl rfl (Nat.le_of_ble_eq_true rfl) ⟨Nat.le_of_ble_eq_true rfl, Nat.le_of_ble_eq_true rfl⟩ (fun _ _ _ q => False.elim q) (fun r w1 sz1 hz hP => ?_)
  obtain ⟨hr, rfl, rfl⟩ := hP
  rcases hr with ⟨rfl, ha1, hb1⟩ | ⟨rfl, hx1⟩
  · refine x_st (st1 := [.int 1]) rfl ?_
    refine x_if_ne 16 10 C0 dX8_passes_7 rfl (by decide) (fun _ => ?_) (fun q => False.elim (by revert q; decide))
    obtain ⟨q, eq, hloq, hhiq⟩ := i32_range (a := 1) (b := 72) rfl rfl (by omega) (by omega) ha1 hb1
    subst eq
    obtain ⟨m0, hm0, hw0⟩ := hJ.1.n
    refine x_iconst (v := 0) 17 C0 dX8_passes_16 rfl (by decide) ?_
    refine x_istore_n [(2, .int 0), (0, .ref (g.2 0 + 258)), (1, .int (nI q))] 18 C0 dX8_passes_17 rfl rfl (by decide) rfl ?_
    refine x_lv (lv1 := [(0, .ref (g.2 0 + 258)), (1, .int (nI q)), (2, .int 0)]) [1, 2, 0] rfl ?_
    refine x_w (MW_self hM) ?_
    have loop18 : ∀ (N i : Nat) (tl vl lbl : Nat → Int32), i ≤ q → q - i < N → MJ n tl vl bf sv pa sg → (pInv t v tl vl m0 i) → xV p l e ({ frames := 3, cells := 0, slots := 0, locals := 63 }) s m args below meth cD (xQ g below (mX g w sz n bf sv pa ip td sg (fun r t' v' => mT t r t' v' ∧ R_X8_passes t v hs0 r t' v')) (fun _ _ _ => False) args s 0 0) g 3 (MW g w tl vl bf sv pa lbl ip td sg) sz (0 + 0) (0 + 0) 18 [(0, .ref (g.2 0 + 258)), (1, .int (nI q)), (2, .int (nI i))] [] := by
      intro N
      induction N with
      | zero => intro i tl vl lbl h1 h2; omega
      | succ N ih =>
        intro i tl vl lbl hi hN hJl hV
        refine x_iload_n 2 19 C0 dX8_passes_18 rfl rfl rfl ?_
        refine x_iload_n 1 20 C0 dX8_passes_19 rfl rfl rfl ?_
        refine x_icmp_ge 33 23 C0 dX8_passes_20 rfl (by decide) (fun c3 => ?_) (fun c3 => ?_)
        · have hE : i = q := Nat.le_antisymm hi ((nI_leI (by omega) (by omega)).mp c3)
          subst hE
          refine x_aload_n 0 34 C0 dX8_passes_33 rfl rfl rfl ?_
          refine x_getf (v := .ref (g.2 0 + 258 + 1)) 8 37 C0 dX8_passes_34 rfl MR_MW.o rfl (by decide) inX8 mF_X8_7 rfl ?_
          refine x_iconst (v := 0) 38 C0 dX8_passes_37 rfl (by decide) ?_
          refine x_iald 0 39 C0 dX8_passes_38 rfl MR_MW.r_v rfl (vp_in_nI (n := 0) (by decide) (by decide)) ?_
          refine x_st (st1 := [.int (vl 0)]) (congrArg (fun z => Value.int z :: _) (show vl (nI 0).toNatClampNeg = vl 0 from by rw [nI_clamp (by omega)])) ?_
          refine x_callS 42 C0 (k_X8_heightAt l hl g _ _ (vl 0)) dX8_passes_39 rfl mC_X8_heightAt mM_X8_161 mS_X8_heightAt mN_X8 yd_X8_heightAt rfl rfl ⟨Nat.le_of_ble_eq_true rfl, Nat.le_of_ble_eq_true rfl⟩ rfl rfl (Nat.le_of_ble_eq_true rfl) ⟨Nat.le_of_ble_eq_true rfl, Nat.le_of_ble_eq_true rfl⟩ (fun _ _ _ q => False.elim q) (fun r w1 sz1 hz hP => ?_)
          obtain ⟨rfl, rfl, rfl⟩ := hP
          refine x_st (st1 := [.int (hgt (vl 0))]) rfl ?_
          exact x_ireturn C0 dX8_passes_42 rfl rfl (Nat.le_of_ble_eq_true rfl) (Nat.le_of_ble_eq_true rfl) ⟨rfl, _, _, _, rfl, hJl, ⟨⟨⟨_, rfl⟩, hV.1⟩, (Or.inl ⟨i, m0, tl, vl, (by rw [hh]; exact ⟨ha1, hb1⟩), hh, (by omega), (by omega), hm0, hw0, hV.2.1, hV.2.2.2, hV.2.1, rfl, rfl⟩)⟩⟩
        · have hi2 : i < q := Nat.lt_of_not_le (fun z => c3 (nI_le (a := q) z (by omega)))
          refine x_aload_n 0 24 C0 dX8_passes_23 rfl rfl rfl ?_
          refine x_callV 27 C0 (k_X8_hour l hl g _ _ n tl vl bf sv pa lbl ip td sg MR_MW hJl) dX8_passes_24 rfl mC_X8_hour mM_X8_183 mI_X8_hour mV_X8_hour mN_X8 yd_X8_hour rfl rfl ⟨Nat.le_of_ble_eq_true rfl, Nat.le_of_ble_eq_true rfl⟩ MR_MW.o rfl rfl rfl rfl (Nat.le_of_ble_eq_true rfl) ⟨Nat.le_of_ble_eq_true rfl, Nat.le_of_ble_eq_true rfl⟩ (fun _ _ _ q => False.elim q) (fun r w1 sz1 hz hP => ?_)
          obtain ⟨rfl, t4, v4, lb4, rfl, hJ4, hR4⟩ := hP
          refine x_w MW_MW ?_
          obtain ⟨rfl, he4, h14, m4, hm4, hw4, hv4⟩ := hR4
          refine x_st (st1 := []) rfl ?_
          refine x_iinc [(2, .int (nI (i + 1))), (0, .ref (g.2 0 + 258)), (1, .int (nI q))] 2 30 C0 dX8_passes_27 rfl rfl (nI_1 i) (by decide) rfl ?_
          refine x_lv (lv1 := [(0, .ref (g.2 0 + 258)), (1, .int (nI q)), (2, .int (nI (i + 1)))]) [1, 2, 0] rfl ?_
          refine x_goto 18 C0 dX8_passes_30 (by decide) ?_
          exact x_lv [0, 1, 2] rfl (ih (i + 1) _ _ _ (by omega) (by omega) hJ4 (pInv_1 hm0 hw0 hV he4 h14 hm4 hw4 hv4))
    exact x_lv [0, 1, 2] rfl (loop18 (q + 1) 0 _ _ _ (by omega) (by omega) hJ ⟨tK.rf, rfl, rfl, rfl⟩)
  · refine x_st (st1 := [.int 0]) rfl ?_
    refine x_if_ne 16 10 C0 dX8_passes_7 rfl (by decide) (fun q => False.elim (by revert q; decide)) (fun _ => ?_)
    refine x_aload_n 0 11 C0 dX8_passes_10 rfl rfl rfl ?_
    refine x_iconst (v := 2) 12 C0 dX8_passes_11 rfl (by decide) ?_
    refine x_callV 15 C0 (k_X8_fail l hl g _ _ n t v bf sv pa lb ip td sg hM hJ 2) dX8_passes_12 rfl mC_X8_fail mM_X8_47 mI_X8_fail mV_X8_fail mN_X8 yd_X8_fail rfl rfl ⟨Nat.le_of_ble_eq_true rfl, Nat.le_of_ble_eq_true rfl⟩ hM.o rfl rfl rfl rfl (Nat.le_of_ble_eq_true rfl) ⟨Nat.le_of_ble_eq_true rfl, Nat.le_of_ble_eq_true rfl⟩ (fun _ _ _ q => False.elim q) (fun r w1 sz1 hz hP => ?_)
    obtain ⟨rfl, rfl, rfl⟩ := hP
    have hJ6 : MJ n (upd t 1 2) v bf sv pa sg := (hJ.j_t (by decide))
    refine x_st (st1 := [.int 0]) rfl ?_
    exact x_ireturn C0 dX8_passes_15 rfl rfl (Nat.le_of_ble_eq_true rfl) (Nat.le_of_ble_eq_true rfl) ⟨rfl, _, _, _, rfl, hJ6, ⟨⟨⟨_, rfl⟩, (tK.rf.up (by decide))⟩, (Or.inr (⟨(by rw [hh]; exact hx1), rfl⟩))⟩⟩

