/-! A HOUSE: what its methods answer and leave -/
theorem chRef {h i : Nat} (hi : i < 20) : va_rf ((fun j => if j < 20 then some (h + 3 + j) else none) (nI i).toNatClampNeg) = .ref (h + 3 + i) := by
  rw [nI_clamp (by omega)]
  simp [hi, va_rf]
theorem chRefX {h i : Nat} {a : Int32} (ha : a = nI i) (hi : i < 20) : va_rf ((fun j => if j < 20 then some (h + 3 + j) else none) a.toNatClampNeg) = .ref (h + 3 + i) := by
  rw [ha]
  exact chRef hi
theorem ix_lt (n : Nat) {L : Int32} {i : Nat} (hL : L = nI n) (hn : n < 2 ^ 31) (hi : i ≤ n) (c : ¬ L ≤ nI i) : i < n := by
  rcases Nat.lt_or_ge i n with h | h
  · exact h
  · exact absurd (by rw [hL]; exact nI_le h (by omega)) c
theorem ix_eq (n : Nat) {L : Int32} {i : Nat} (hL : L = nI n) (hn : n < 2 ^ 31) (hi : i ≤ n) (c : L ≤ nI i) : i = n := by
  rw [hL, nI_leI hn (by omega)] at c
  omega
theorem i32_nat {a : Int32} {n : Nat} {L : Int32} (hL : L = nI n) (hn : n < 2 ^ 31) (h0 : 0 ≤ a) (h1 : a < L) : ∃ k : Nat, a = nI k ∧ k < n := by
  have h2 : ¬ a < 0 := Int32.not_lt.mpr h0
  obtain ⟨j, hj, rfl⟩ := nI_of h2
  rw [hL, nI_ltI hj hn] at h1
  exact ⟨j, rfl, h1⟩
def isLeafB (ga ki : Int32) : Bool := decide (0 ≤ ga ∧ ga < 6 ∧ 0 ≤ ki ∧ ki < 3)
def sIx (ga ki : Int32) : Nat := (ga * 3 + ki).toNatClampNeg
theorem sIx_ok {ga ki : Int32} (h : isLeafB ga ki = true) : sIx ga ki < 18 ∧ vp_in (ga * 3 + ki) 18 := by
  simp only [isLeafB, decide_eq_true_eq] at h
  obtain ⟨h1, h2, h3, h4⟩ := h
  obtain ⟨a, rfl, ha⟩ := i32_nat (n := 6) rfl (by decide) h1 h2
  obtain ⟨b, rfl, hb⟩ := i32_nat (n := 3) rfl (by decide) h3 h4
  have e : nI a * 3 + nI b = nI (a * 3 + b) := by rw [show (3 : Int32) = nI 3 from rfl, pk_mul, nI_add]
  refine ⟨?_, by rw [e]; exact vp_in_nI (by omega) (by decide)⟩
  unfold sIx
  rw [e, nI_clamp (by omega)]
  omega
theorem sIx_at {ga ki : Int32} {x : Nat → Int32} (h : isLeafB ga ki = true) : mk 18 10 x (ga * 3 + ki).toNatClampNeg = x (10 + sIx ga ki) := mk_at (sIx_ok h).1
def sGet (x : Nat → Int32) (ga ki : Int32) : Int32 := if isLeafB ga ki = true then x (10 + sIx ga ki) else 0
def sAdd (x : Nat → Int32) (ga ki po : Int32) : Nat → Int32 := if isLeafB ga ki = true then upd x (10 + sIx ga ki) (x (10 + sIx ga ki) + po) else x
def sOf (x : Nat → Int32) (ga : Int32) : Int32 := 0 + sGet x ga 0 + sGet x ga 1 + sGet x ga 2
def sBetter (x : Nat → Int32) (ga ot : Int32) : Bool := decide (sOf x ot < sOf x ga ∨ (sOf x ga = sOf x ot ∧ sGet x ot 2 < sGet x ga 2))
def sAll (x : Nat → Int32) : Int32 := 0 + sOf x 0 + sOf x 1 + sOf x 2 + sOf x 3 + sOf x 4 + sOf x 5
def refd (x x' : Nat → Int32) : Prop := ∃ a b : Int32, x' = upd (upd x 208 a) 209 b
def chk (C : Prop) (x x' : Nat → Int32) (r : Option Value) : Prop := (C ∧ r = some (.int 1) ∧ x = x') ∨ (¬ C ∧ r = some (.int 0) ∧ refd x x')
/-- a change that may be refused: where C holds, x becomes z and 1 is told -/
def tri (C : Prop) (z x x' : Nat → Int32) (r : Option Value) : Prop := (C ∧ r = some (.int 1) ∧ z = x') ∨ (¬ C ∧ r = some (.int 0) ∧ refd x x')
def lo200 (a : Int32) : Int32 := if a < 200 then a else 200
def tide (c hrs : Int32) : Int32 := if 0 ≤ 6 - (c + hrs - (c + hrs) / 12 * 12) then 6 - (c + hrs - (c + hrs) / 12 * 12) else 0 - (6 - (c + hrs - (c + hrs) / 12 * 12))

set_option maxHeartbeats 4000000 in
set_option maxRecDepth 100000 in
theorem k_X4_isLeaf (l : Launch) (hl : l.stackTraces = false) (g : xg_T) (w : xw_T) (sz : Nat) (ga ki : Int32) : xM l g yX4_isLeaf cX4_isLeaf 2 (some .boolean) ({ frames := 0, cells := 0, slots := 0, locals := 0 }) 0 0 [.int ga, .int ki] w sz (fun r w1 sz1 => r = some (.int (bi (isLeafB ga ki))) ∧ w = w1 ∧ sz = sz1) (fun _ _ _ => False) := by
  refine xM.of RX4 hl (by decide +kernel) rfl (Nat.le_of_ble_eq_true rfl) rfl ?_
  intro p e s m args below meth cD C0 hini
  refine x_iload_n 0 1 C0 dX4_isLeaf_0 rfl rfl rfl ?_
  refine x_if_lt 26 4 C0 dX4_isLeaf_1 rfl (by decide) (fun c1 => ?_) (fun c1 => ?_)
  · have c1' := Int32.not_le.mpr c1
    refine x_iconst (v := 0) 27 C0 dX4_isLeaf_26 rfl (by decide) ?_
    exact x_ireturn C0 dX4_isLeaf_27 rfl rfl (Nat.le_of_ble_eq_true rfl) (Nat.le_of_ble_eq_true rfl) ⟨by rw [show isLeafB ga ki = false from decide_eq_false (fun q => absurd q.1 c1')]; rfl, rfl, rfl⟩
  · have c1' := Int32.not_lt.mp c1
    refine x_iload_n 0 5 C0 dX4_isLeaf_4 rfl rfl rfl ?_
    refine x_bipush (v := 6) 7 C0 dX4_isLeaf_5 rfl (by decide) ?_
    refine x_icmp_ge 26 10 C0 dX4_isLeaf_7 rfl (by decide) (fun c2 => ?_) (fun c2 => ?_)
    · have c2' := Int32.not_lt.mpr c2
      refine x_iconst (v := 0) 27 C0 dX4_isLeaf_26 rfl (by decide) ?_
      exact x_ireturn C0 dX4_isLeaf_27 rfl rfl (Nat.le_of_ble_eq_true rfl) (Nat.le_of_ble_eq_true rfl) ⟨by rw [show isLeafB ga ki = false from decide_eq_false (fun q => absurd q.2.1 c2')]; rfl, rfl, rfl⟩
    · have c2' := Int32.not_le.mp c2
      refine x_iload_n 1 11 C0 dX4_isLeaf_10 rfl rfl rfl ?_
      refine x_if_lt 26 14 C0 dX4_isLeaf_11 rfl (by decide) (fun c3 => ?_) (fun c3 => ?_)
      · have c3' := Int32.not_le.mpr c3
        refine x_iconst (v := 0) 27 C0 dX4_isLeaf_26 rfl (by decide) ?_
        exact x_ireturn C0 dX4_isLeaf_27 rfl rfl (Nat.le_of_ble_eq_true rfl) (Nat.le_of_ble_eq_true rfl) ⟨by rw [show isLeafB ga ki = false from decide_eq_false (fun q => absurd q.2.2.1 c3')]; rfl, rfl, rfl⟩
      · have c3' := Int32.not_lt.mp c3
        refine x_iload_n 1 15 C0 dX4_isLeaf_14 rfl rfl rfl ?_
        refine x_getsN 18 C0 dX4_isLeaf_15 rfl (xs_kinds C0.2.2.2.2.2.2.2.1.2.2).1 (xs_nf C0.2.2.2.2.2.2.2.1.2.2 (RX4, 9, "TeaChests", "KINDS", "[LTeaChests$Kind;", "TeaChests") (by decide +kernel)) ?_
        refine x_tlen 19 C0 dX4_isLeaf_18 rfl (xs_kinds C0.2.2.2.2.2.2.2.1.2.2).2 (v := 3) rfl ?_
        refine x_icmp_ge 26 22 C0 dX4_isLeaf_19 rfl (by decide) (fun c4 => ?_) (fun c4 => ?_)
        · have c4' := Int32.not_lt.mpr c4
          refine x_iconst (v := 0) 27 C0 dX4_isLeaf_26 rfl (by decide) ?_
          exact x_ireturn C0 dX4_isLeaf_27 rfl rfl (Nat.le_of_ble_eq_true rfl) (Nat.le_of_ble_eq_true rfl) ⟨by rw [show isLeafB ga ki = false from decide_eq_false (fun q => absurd q.2.2.2 c4')]; rfl, rfl, rfl⟩
        · have c4' := Int32.not_le.mp c4
          refine x_iconst (v := 1) 23 C0 dX4_isLeaf_22 rfl (by decide) ?_
          refine x_goto 27 C0 dX4_isLeaf_23 (by decide) ?_
          exact x_ireturn C0 dX4_isLeaf_27 rfl rfl (Nat.le_of_ble_eq_true rfl) (Nat.le_of_ble_eq_true rfl) ⟨by rw [show isLeafB ga ki = true from decide_eq_true ⟨c1', c2', c3', c4'⟩]; rfl, rfl, rfl⟩

set_option maxHeartbeats 4000000 in
set_option maxRecDepth 100000 in
theorem k_X4_stored (l : Launch) (hl : l.stackTraces = false) (g : xg_T) (w : xw_T) (sz : Nat) (h : Nat) (x : Nat → Int32) (la : Nat → Nat) (hR : HR g w h x la) (ga ki : Int32) : xM l g yX4_stored cX4_stored 3 (some .int) ({ frames := 1, cells := 0, slots := 0, locals := 21 }) 0 0 [.ref h, .int ga, .int ki] w sz (fun r w1 sz1 => r = some (.int (sGet x ga ki)) ∧ w = w1 ∧ sz = sz1) (fun _ _ _ => False) := by
  refine xM.of RX4 hl (by decide +kernel) rfl (Nat.le_of_ble_eq_true rfl) rfl ?_
  intro p e s m args below meth cD C0 hini
  refine x_iload_n 1 1 C0 dX4_stored_0 rfl rfl rfl ?_
  refine x_iload_n 2 2 C0 dX4_stored_1 rfl rfl rfl ?_
  refine x_callS 5 C0 (k_X4_isLeaf l hl g _ _ ga ki) dX4_stored_2 rfl mC_X4_isLeaf mM_X4_69 mS_X4_isLeaf mN_X4 yd_X4_isLeaf rfl rfl ⟨Nat.le_of_ble_eq_true rfl, Nat.le_of_ble_eq_true rfl⟩ rfl rfl (Nat.le_of_ble_eq_true rfl) ⟨Nat.le_of_ble_eq_true rfl, Nat.le_of_ble_eq_true rfl⟩ (fun _ _ _ q => False.elim q) (fun r w1 sz1 hz hP => ?_)
  obtain ⟨rfl, rfl, rfl⟩ := hP
  cases hB : isLeafB ga ki
  · refine x_st (st1 := [.int 0]) rfl ?_
    refine x_if_eq 24 8 C0 dX4_stored_5 rfl (by decide) (fun _ => ?_) (fun q => False.elim (by revert q; decide))
    refine x_iconst (v := 0) 25 C0 dX4_stored_24 rfl (by decide) ?_
    exact x_ireturn C0 dX4_stored_25 rfl rfl (Nat.le_of_ble_eq_true rfl) (Nat.le_of_ble_eq_true rfl) (by refine ⟨?_, rfl, rfl⟩; simp [sGet, hB])
  · refine x_st (st1 := [.int 1]) rfl ?_
    refine x_if_eq 24 8 C0 dX4_stored_5 rfl (by decide) (fun q => False.elim (by revert q; decide)) (fun _ => ?_)
    refine x_aload_n 0 9 C0 dX4_stored_8 rfl rfl rfl ?_
    refine x_getf (v := .ref (h + 1)) 0 12 C0 dX4_stored_9 rfl (HR.ho hR) rfl (by decide) inX4 mF_X4_13 rfl ?_
    refine x_iload_n 1 13 C0 dX4_stored_12 rfl rfl rfl ?_
    refine x_getsN 16 C0 dX4_stored_13 rfl (xs_kinds C0.2.2.2.2.2.2.2.1.2.2).1 (xs_nf C0.2.2.2.2.2.2.2.1.2.2 (RX4, 9, "TeaChests", "KINDS", "[LTeaChests$Kind;", "TeaChests") (by decide +kernel)) ?_
    refine x_tlen 17 C0 dX4_stored_16 rfl (xs_kinds C0.2.2.2.2.2.2.2.1.2.2).2 (v := 3) rfl ?_
    refine x_imul 18 C0 dX4_stored_17 rfl ?_
    refine x_iload_n 2 19 C0 dX4_stored_18 rfl rfl rfl ?_
    refine x_iadd 20 C0 dX4_stored_19 rfl ?_
    refine x_iald 0 21 C0 dX4_stored_20 rfl (HR.st hR) rfl (sIx_ok hB).2 ?_
    refine x_st (st1 := [.int (x (10 + (sIx ga ki)))]) (congrArg (fun z => Value.int z :: _) (sIx_at hB)) ?_
    refine x_goto 25 C0 dX4_stored_21 (by decide) ?_
    exact x_ireturn C0 dX4_stored_25 rfl rfl (Nat.le_of_ble_eq_true rfl) (Nat.le_of_ble_eq_true rfl) (by refine ⟨?_, rfl, rfl⟩; simp [sGet, hB])

set_option maxHeartbeats 4000000 in
set_option maxRecDepth 100000 in
theorem k_X4_storedOf (l : Launch) (hl : l.stackTraces = false) (g : xg_T) (w : xw_T) (sz : Nat) (h : Nat) (x : Nat → Int32) (la : Nat → Nat) (hR : HR g w h x la) (ga : Int32) : xM l g yX4_storedOf cX4_storedOf 4 (some .int) ({ frames := 2, cells := 0, slots := 0, locals := 43 }) 0 0 [.ref h, .int ga] w sz (fun r w1 sz1 => r = some (.int (sOf x ga)) ∧ w = w1 ∧ sz = sz1) (fun _ _ _ => False) := by
  refine xM.of RX4 hl (by decide +kernel) rfl (Nat.le_of_ble_eq_true rfl) rfl ?_
  intro p e s m args below meth cD C0 hini
  refine x_iconst (v := 0) 1 C0 dX4_storedOf_0 rfl (by decide) ?_
  refine x_istore_n [(2, .int 0), (0, .ref h), (1, .int ga)] 2 C0 dX4_storedOf_1 rfl rfl (by decide) rfl ?_
  refine x_lv (lv1 := [(0, .ref h), (1, .int ga), (2, .int 0)]) [1, 2, 0] rfl ?_
  refine x_iconst (v := 0) 3 C0 dX4_storedOf_2 rfl (by decide) ?_
  refine x_istore_n [(3, .int 0), (0, .ref h), (1, .int ga), (2, .int 0)] 4 C0 dX4_storedOf_3 rfl rfl (by decide) rfl ?_
  refine x_lv (lv1 := [(0, .ref h), (1, .int ga), (2, .int 0), (3, .int 0)]) [1, 2, 3, 0] rfl ?_
  refine x_iload_n 3 5 C0 dX4_storedOf_4 rfl rfl rfl ?_
  refine x_getsN 8 C0 dX4_storedOf_5 rfl (xs_kinds C0.2.2.2.2.2.2.2.1.2.2).1 (xs_nf C0.2.2.2.2.2.2.2.1.2.2 (RX4, 9, "TeaChests", "KINDS", "[LTeaChests$Kind;", "TeaChests") (by decide +kernel)) ?_
  refine x_tlen 9 C0 dX4_storedOf_8 rfl (xs_kinds C0.2.2.2.2.2.2.2.1.2.2).2 (v := 3) rfl ?_
  refine x_icmp_ge 27 12 C0 dX4_storedOf_9 rfl (by decide) (fun q => False.elim (by revert q; decide)) (fun _ => ?_)
  refine x_iload_n 2 13 C0 dX4_storedOf_12 rfl rfl rfl ?_
  refine x_aload_n 0 14 C0 dX4_storedOf_13 rfl rfl rfl ?_
  refine x_iload_n 1 15 C0 dX4_storedOf_14 rfl rfl rfl ?_
  refine x_iload_n 3 16 C0 dX4_storedOf_15 rfl rfl rfl ?_
  refine x_callV 19 C0 (k_X4_stored l hl g _ _ _ _ _ hR ga 0) dX4_storedOf_16 rfl mC_X4_stored mM_X4_73 mI_X4_stored mV_X4_stored mN_X4 yd_X4_stored rfl rfl ⟨Nat.le_of_ble_eq_true rfl, Nat.le_of_ble_eq_true rfl⟩ (HR.ho hR) rfl rfl rfl rfl (Nat.le_of_ble_eq_true rfl) ⟨Nat.le_of_ble_eq_true rfl, Nat.le_of_ble_eq_true rfl⟩ (fun _ _ _ q => False.elim q) (fun r w1 sz1 hz hP => ?_)
  obtain ⟨rfl, rfl, rfl⟩ := hP
  refine x_st (st1 := [.int (sGet x ga 0), .int 0]) rfl ?_
  refine x_iadd 20 C0 dX4_storedOf_19 rfl ?_
  refine x_istore_n [(2, .int (0 + (sGet x ga 0))), (0, .ref h), (1, .int ga), (3, .int 0)] 21 C0 dX4_storedOf_20 rfl rfl (by decide) rfl ?_
  refine x_lv (lv1 := [(0, .ref h), (1, .int ga), (2, .int (0 + (sGet x ga 0))), (3, .int 0)]) [1, 2, 0, 3] rfl ?_
  refine x_iinc [(3, .int 1), (0, .ref h), (1, .int ga), (2, .int (0 + (sGet x ga 0)))] 3 24 C0 dX4_storedOf_21 rfl rfl (by decide) (by decide) rfl ?_
  refine x_lv (lv1 := [(0, .ref h), (1, .int ga), (2, .int (0 + (sGet x ga 0))), (3, .int 1)]) [1, 2, 3, 0] rfl ?_
  refine x_goto 4 C0 dX4_storedOf_24 (by decide) ?_
  refine x_iload_n 3 5 C0 dX4_storedOf_4 rfl rfl rfl ?_
  refine x_getsN 8 C0 dX4_storedOf_5 rfl (xs_kinds C0.2.2.2.2.2.2.2.1.2.2).1 (xs_nf C0.2.2.2.2.2.2.2.1.2.2 (RX4, 9, "TeaChests", "KINDS", "[LTeaChests$Kind;", "TeaChests") (by decide +kernel)) ?_
  refine x_tlen 9 C0 dX4_storedOf_8 rfl (xs_kinds C0.2.2.2.2.2.2.2.1.2.2).2 (v := 3) rfl ?_
  refine x_icmp_ge 27 12 C0 dX4_storedOf_9 rfl (by decide) (fun q => False.elim (by revert q; decide)) (fun _ => ?_)
  refine x_iload_n 2 13 C0 dX4_storedOf_12 rfl rfl rfl ?_
  refine x_aload_n 0 14 C0 dX4_storedOf_13 rfl rfl rfl ?_
  refine x_iload_n 1 15 C0 dX4_storedOf_14 rfl rfl rfl ?_
  refine x_iload_n 3 16 C0 dX4_storedOf_15 rfl rfl rfl ?_
  refine x_callV 19 C0 (k_X4_stored l hl g _ _ _ _ _ hR ga 1) dX4_storedOf_16 rfl mC_X4_stored mM_X4_73 mI_X4_stored mV_X4_stored mN_X4 yd_X4_stored rfl rfl ⟨Nat.le_of_ble_eq_true rfl, Nat.le_of_ble_eq_true rfl⟩ (HR.ho hR) rfl rfl rfl rfl (Nat.le_of_ble_eq_true rfl) ⟨Nat.le_of_ble_eq_true rfl, Nat.le_of_ble_eq_true rfl⟩ (fun _ _ _ q => False.elim q) (fun r w1 sz1 hz hP => ?_)
  obtain ⟨rfl, rfl, rfl⟩ := hP
  refine x_st (st1 := [.int (sGet x ga 1), .int (0 + (sGet x ga 0))]) rfl ?_
  refine x_iadd 20 C0 dX4_storedOf_19 rfl ?_
  refine x_istore_n [(2, .int ((0 + (sGet x ga 0)) + (sGet x ga 1))), (0, .ref h), (1, .int ga), (3, .int 1)] 21 C0 dX4_storedOf_20 rfl rfl (by decide) rfl ?_
  refine x_lv (lv1 := [(0, .ref h), (1, .int ga), (2, .int ((0 + (sGet x ga 0)) + (sGet x ga 1))), (3, .int 1)]) [1, 2, 0, 3] rfl ?_
  refine x_iinc [(3, .int 2), (0, .ref h), (1, .int ga), (2, .int ((0 + (sGet x ga 0)) + (sGet x ga 1)))] 3 24 C0 dX4_storedOf_21 rfl rfl (by decide) (by decide) rfl ?_
  refine x_lv (lv1 := [(0, .ref h), (1, .int ga), (2, .int ((0 + (sGet x ga 0)) + (sGet x ga 1))), (3, .int 2)]) [1, 2, 3, 0] rfl ?_
  refine x_goto 4 C0 dX4_storedOf_24 (by decide) ?_
  refine x_iload_n 3 5 C0 dX4_storedOf_4 rfl rfl rfl ?_
  refine x_getsN 8 C0 dX4_storedOf_5 rfl (xs_kinds C0.2.2.2.2.2.2.2.1.2.2).1 (xs_nf C0.2.2.2.2.2.2.2.1.2.2 (RX4, 9, "TeaChests", "KINDS", "[LTeaChests$Kind;", "TeaChests") (by decide +kernel)) ?_
  refine x_tlen 9 C0 dX4_storedOf_8 rfl (xs_kinds C0.2.2.2.2.2.2.2.1.2.2).2 (v := 3) rfl ?_
  refine x_icmp_ge 27 12 C0 dX4_storedOf_9 rfl (by decide) (fun q => False.elim (by revert q; decide)) (fun _ => ?_)
  refine x_iload_n 2 13 C0 dX4_storedOf_12 rfl rfl rfl ?_
  refine x_aload_n 0 14 C0 dX4_storedOf_13 rfl rfl rfl ?_
  refine x_iload_n 1 15 C0 dX4_storedOf_14 rfl rfl rfl ?_
  refine x_iload_n 3 16 C0 dX4_storedOf_15 rfl rfl rfl ?_
  refine x_callV 19 C0 (k_X4_stored l hl g _ _ _ _ _ hR ga 2) dX4_storedOf_16 rfl mC_X4_stored mM_X4_73 mI_X4_stored mV_X4_stored mN_X4 yd_X4_stored rfl rfl ⟨Nat.le_of_ble_eq_true rfl, Nat.le_of_ble_eq_true rfl⟩ (HR.ho hR) rfl rfl rfl rfl (Nat.le_of_ble_eq_true rfl) ⟨Nat.le_of_ble_eq_true rfl, Nat.le_of_ble_eq_true rfl⟩ (fun _ _ _ q => False.elim q) (fun r w1 sz1 hz hP => ?_)
  obtain ⟨rfl, rfl, rfl⟩ := hP
  refine x_st (st1 := [.int (sGet x ga 2), .int ((0 + (sGet x ga 0)) + (sGet x ga 1))]) rfl ?_
  refine x_iadd 20 C0 dX4_storedOf_19 rfl ?_
  refine x_istore_n [(2, .int (((0 + (sGet x ga 0)) + (sGet x ga 1)) + (sGet x ga 2))), (0, .ref h), (1, .int ga), (3, .int 2)] 21 C0 dX4_storedOf_20 rfl rfl (by decide) rfl ?_
  refine x_lv (lv1 := [(0, .ref h), (1, .int ga), (2, .int (((0 + (sGet x ga 0)) + (sGet x ga 1)) + (sGet x ga 2))), (3, .int 2)]) [1, 2, 0, 3] rfl ?_
  refine x_iinc [(3, .int 3), (0, .ref h), (1, .int ga), (2, .int (((0 + (sGet x ga 0)) + (sGet x ga 1)) + (sGet x ga 2)))] 3 24 C0 dX4_storedOf_21 rfl rfl (by decide) (by decide) rfl ?_
  refine x_lv (lv1 := [(0, .ref h), (1, .int ga), (2, .int (((0 + (sGet x ga 0)) + (sGet x ga 1)) + (sGet x ga 2))), (3, .int 3)]) [1, 2, 3, 0] rfl ?_
  refine x_goto 4 C0 dX4_storedOf_24 (by decide) ?_
  refine x_iload_n 3 5 C0 dX4_storedOf_4 rfl rfl rfl ?_
  refine x_getsN 8 C0 dX4_storedOf_5 rfl (xs_kinds C0.2.2.2.2.2.2.2.1.2.2).1 (xs_nf C0.2.2.2.2.2.2.2.1.2.2 (RX4, 9, "TeaChests", "KINDS", "[LTeaChests$Kind;", "TeaChests") (by decide +kernel)) ?_
  refine x_tlen 9 C0 dX4_storedOf_8 rfl (xs_kinds C0.2.2.2.2.2.2.2.1.2.2).2 (v := 3) rfl ?_
  refine x_icmp_ge 27 12 C0 dX4_storedOf_9 rfl (by decide) (fun _ => ?_) (fun q => False.elim (by revert q; decide))
  refine x_iload_n 2 28 C0 dX4_storedOf_27 rfl rfl rfl ?_
  exact x_ireturn C0 dX4_storedOf_28 rfl rfl (Nat.le_of_ble_eq_true rfl) (Nat.le_of_ble_eq_true rfl) (by refine ⟨?_, rfl, rfl⟩; rfl)

set_option maxHeartbeats 4000000 in
set_option maxRecDepth 100000 in
theorem k_X4_isBetterGarden (l : Launch) (hl : l.stackTraces = false) (g : xg_T) (w : xw_T) (sz : Nat) (h : Nat) (x : Nat → Int32) (la : Nat → Nat) (hR : HR g w h x la) (ga ot : Int32) : xM l g yX4_isBetterGarden cX4_isBetterGarden 5 (some .boolean) ({ frames := 3, cells := 0, slots := 0, locals := 66 }) 0 0 [.ref h, .int ga, .int ot] w sz (fun r w1 sz1 => r = some (.int (bi (sBetter x ga ot))) ∧ w = w1 ∧ sz = sz1) (fun _ _ _ => False) := by
  refine xM.of RX4 hl (by decide +kernel) rfl (Nat.le_of_ble_eq_true rfl) rfl ?_
  intro p e s m args below meth cD C0 hini
  refine x_aload_n 0 1 C0 dX4_isBetterGarden_0 rfl rfl rfl ?_
  refine x_iload_n 1 2 C0 dX4_isBetterGarden_1 rfl rfl rfl ?_
  refine x_callV 5 C0 (k_X4_storedOf l hl g _ _ _ _ _ hR ga) dX4_isBetterGarden_2 rfl mC_X4_storedOf mM_X4_77 mI_X4_storedOf mV_X4_storedOf mN_X4 yd_X4_storedOf rfl rfl ⟨Nat.le_of_ble_eq_true rfl, Nat.le_of_ble_eq_true rfl⟩ (HR.ho hR) rfl rfl rfl rfl (Nat.le_of_ble_eq_true rfl) ⟨Nat.le_of_ble_eq_true rfl, Nat.le_of_ble_eq_true rfl⟩ (fun _ _ _ q => False.elim q) (fun r w1 sz1 hz hP => ?_)
  obtain ⟨rfl, rfl, rfl⟩ := hP
  refine x_st (st1 := [.int (sOf x ga)]) rfl ?_
  refine x_istore_n [(3, .int (sOf x ga)), (0, .ref h), (1, .int ga), (2, .int ot)] 6 C0 dX4_isBetterGarden_5 rfl rfl (by decide) rfl ?_
  refine x_lv (lv1 := [(0, .ref h), (1, .int ga), (2, .int ot), (3, .int (sOf x ga))]) [1, 2, 3, 0] rfl ?_
  refine x_aload_n 0 7 C0 dX4_isBetterGarden_6 rfl rfl rfl ?_
  refine x_iload_n 2 8 C0 dX4_isBetterGarden_7 rfl rfl rfl ?_
  refine x_callV 11 C0 (k_X4_storedOf l hl g _ _ _ _ _ hR ot) dX4_isBetterGarden_8 rfl mC_X4_storedOf mM_X4_77 mI_X4_storedOf mV_X4_storedOf mN_X4 yd_X4_storedOf rfl rfl ⟨Nat.le_of_ble_eq_true rfl, Nat.le_of_ble_eq_true rfl⟩ (HR.ho hR) rfl rfl rfl rfl (Nat.le_of_ble_eq_true rfl) ⟨Nat.le_of_ble_eq_true rfl, Nat.le_of_ble_eq_true rfl⟩ (fun _ _ _ q => False.elim q) (fun r w1 sz1 hz hP => ?_)
  obtain ⟨rfl, rfl, rfl⟩ := hP
  refine x_st (st1 := [.int (sOf x ot)]) rfl ?_
  refine x_istore [(4, .int (sOf x ot)), (0, .ref h), (1, .int ga), (2, .int ot), (3, .int (sOf x ga))] 13 C0 dX4_isBetterGarden_11 rfl (by decide) rfl ?_
  refine x_lv (lv1 := [(0, .ref h), (1, .int ga), (2, .int ot), (3, .int (sOf x ga)), (4, .int (sOf x ot))]) [1, 2, 3, 4, 0] rfl ?_
  refine x_iload_n 3 14 C0 dX4_isBetterGarden_13 rfl rfl rfl ?_
  refine x_iload 4 16 C0 dX4_isBetterGarden_14 rfl rfl ?_
  refine x_icmp_gt 40 19 C0 dX4_isBetterGarden_16 rfl (by decide) (fun c1 => ?_) (fun c1 => ?_)
  · have c1' := Int32.not_le.mpr c1
    refine x_iconst (v := 1) 41 C0 dX4_isBetterGarden_40 rfl (by decide) ?_
    refine x_goto 45 C0 dX4_isBetterGarden_41 (by decide) ?_
    exact x_ireturn C0 dX4_isBetterGarden_45 rfl rfl (Nat.le_of_ble_eq_true rfl) (Nat.le_of_ble_eq_true rfl) (by refine ⟨?_, rfl, rfl⟩; simp_all [sBetter, bi])
  · have c1' := Int32.not_lt.mp c1
    refine x_iload_n 3 20 C0 dX4_isBetterGarden_19 rfl rfl rfl ?_
    refine x_iload 4 22 C0 dX4_isBetterGarden_20 rfl rfl ?_
    refine x_icmp_ne 44 25 C0 dX4_isBetterGarden_22 rfl (by decide) (fun c2 => ?_) (fun c2 => ?_)
    · refine x_iconst (v := 0) 45 C0 dX4_isBetterGarden_44 rfl (by decide) ?_
      exact x_ireturn C0 dX4_isBetterGarden_45 rfl rfl (Nat.le_of_ble_eq_true rfl) (Nat.le_of_ble_eq_true rfl) (by refine ⟨?_, rfl, rfl⟩; simp_all [sBetter, bi])
    · refine x_aload_n 0 26 C0 dX4_isBetterGarden_25 rfl rfl rfl ?_
      refine x_iload_n 1 27 C0 dX4_isBetterGarden_26 rfl rfl rfl ?_
      refine x_iconst (v := 2) 28 C0 dX4_isBetterGarden_27 rfl (by decide) ?_
      refine x_callV 31 C0 (k_X4_stored l hl g _ _ _ _ _ hR ga 2) dX4_isBetterGarden_28 rfl mC_X4_stored mM_X4_73 mI_X4_stored mV_X4_stored mN_X4 yd_X4_stored rfl rfl ⟨Nat.le_of_ble_eq_true rfl, Nat.le_of_ble_eq_true rfl⟩ (HR.ho hR) rfl rfl rfl rfl (Nat.le_of_ble_eq_true rfl) ⟨Nat.le_of_ble_eq_true rfl, Nat.le_of_ble_eq_true rfl⟩ (fun _ _ _ q => False.elim q) (fun r w1 sz1 hz hP => ?_)
      obtain ⟨rfl, rfl, rfl⟩ := hP
      refine x_st (st1 := [.int (sGet x ga 2)]) rfl ?_
      refine x_aload_n 0 32 C0 dX4_isBetterGarden_31 rfl rfl rfl ?_
      refine x_iload_n 2 33 C0 dX4_isBetterGarden_32 rfl rfl rfl ?_
      refine x_iconst (v := 2) 34 C0 dX4_isBetterGarden_33 rfl (by decide) ?_
      refine x_callV 37 C0 (k_X4_stored l hl g _ _ _ _ _ hR ot 2) dX4_isBetterGarden_34 rfl mC_X4_stored mM_X4_73 mI_X4_stored mV_X4_stored mN_X4 yd_X4_stored rfl rfl ⟨Nat.le_of_ble_eq_true rfl, Nat.le_of_ble_eq_true rfl⟩ (HR.ho hR) rfl rfl rfl rfl (Nat.le_of_ble_eq_true rfl) ⟨Nat.le_of_ble_eq_true rfl, Nat.le_of_ble_eq_true rfl⟩ (fun _ _ _ q => False.elim q) (fun r w1 sz1 hz hP => ?_)
      obtain ⟨rfl, rfl, rfl⟩ := hP
      refine x_st (st1 := [.int (sGet x ot 2), .int (sGet x ga 2)]) rfl ?_
      refine x_icmp_le 44 40 C0 dX4_isBetterGarden_37 rfl (by decide) (fun c3 => ?_) (fun c3 => ?_)
      · have c3' := Int32.not_lt.mpr c3
        refine x_iconst (v := 0) 45 C0 dX4_isBetterGarden_44 rfl (by decide) ?_
        exact x_ireturn C0 dX4_isBetterGarden_45 rfl rfl (Nat.le_of_ble_eq_true rfl) (Nat.le_of_ble_eq_true rfl) (by refine ⟨?_, rfl, rfl⟩; simp_all [sBetter, bi])
      · have c3' := Int32.not_le.mp c3
        refine x_iconst (v := 1) 41 C0 dX4_isBetterGarden_40 rfl (by decide) ?_
        refine x_goto 45 C0 dX4_isBetterGarden_41 (by decide) ?_
        exact x_ireturn C0 dX4_isBetterGarden_45 rfl rfl (Nat.le_of_ble_eq_true rfl) (Nat.le_of_ble_eq_true rfl) (by refine ⟨?_, rfl, rfl⟩; simp_all [sBetter, bi])

set_option maxHeartbeats 4000000 in
set_option maxRecDepth 100000 in
theorem k_X4_poundsStored (l : Launch) (hl : l.stackTraces = false) (g : xg_T) (w : xw_T) (sz : Nat) (h : Nat) (x : Nat → Int32) (la : Nat → Nat) (hR : HR g w h x la) : xM l g yX4_poundsStored cX4_poundsStored 3 (some .int) ({ frames := 3, cells := 0, slots := 0, locals := 66 }) 0 0 [.ref h] w sz (fun r w1 sz1 => r = some (.int (sAll x)) ∧ w = w1 ∧ sz = sz1) (fun _ _ _ => False) := by
  refine xM.of RX4 hl (by decide +kernel) rfl (Nat.le_of_ble_eq_true rfl) rfl ?_
  intro p e s m args below meth cD C0 hini
  refine x_iconst (v := 0) 1 C0 dX4_poundsStored_0 rfl (by decide) ?_
  refine x_istore_n [(1, .int 0), (0, .ref h)] 2 C0 dX4_poundsStored_1 rfl rfl (by decide) rfl ?_
  refine x_lv (lv1 := [(0, .ref h), (1, .int 0)]) [1, 0] rfl ?_
  refine x_iconst (v := 0) 3 C0 dX4_poundsStored_2 rfl (by decide) ?_
  refine x_istore_n [(2, .int 0), (0, .ref h), (1, .int 0)] 4 C0 dX4_poundsStored_3 rfl rfl (by decide) rfl ?_
  refine x_lv (lv1 := [(0, .ref h), (1, .int 0), (2, .int 0)]) [1, 2, 0] rfl ?_
  refine x_iload_n 2 5 C0 dX4_poundsStored_4 rfl rfl rfl ?_
  refine x_bipush (v := 6) 7 C0 dX4_poundsStored_5 rfl (by decide) ?_
  refine x_icmp_ge 24 10 C0 dX4_poundsStored_7 rfl (by decide) (fun q => False.elim (by revert q; decide)) (fun _ => ?_)
  refine x_iload_n 1 11 C0 dX4_poundsStored_10 rfl rfl rfl ?_
  refine x_aload_n 0 12 C0 dX4_poundsStored_11 rfl rfl rfl ?_
  refine x_iload_n 2 13 C0 dX4_poundsStored_12 rfl rfl rfl ?_
  refine x_callV 16 C0 (k_X4_storedOf l hl g _ _ _ _ _ hR 0) dX4_poundsStored_13 rfl mC_X4_storedOf mM_X4_77 mI_X4_storedOf mV_X4_storedOf mN_X4 yd_X4_storedOf rfl rfl ⟨Nat.le_of_ble_eq_true rfl, Nat.le_of_ble_eq_true rfl⟩ (HR.ho hR) rfl rfl rfl rfl (Nat.le_of_ble_eq_true rfl) ⟨Nat.le_of_ble_eq_true rfl, Nat.le_of_ble_eq_true rfl⟩ (fun _ _ _ q => False.elim q) (fun r w1 sz1 hz hP => ?_)
  obtain ⟨rfl, rfl, rfl⟩ := hP
  refine x_st (st1 := [.int (sOf x 0), .int 0]) rfl ?_
  refine x_iadd 17 C0 dX4_poundsStored_16 rfl ?_
  refine x_istore_n [(1, .int (0 + (sOf x 0))), (0, .ref h), (2, .int 0)] 18 C0 dX4_poundsStored_17 rfl rfl (by decide) rfl ?_
  refine x_lv (lv1 := [(0, .ref h), (1, .int (0 + (sOf x 0))), (2, .int 0)]) [1, 0, 2] rfl ?_
  refine x_iinc [(2, .int 1), (0, .ref h), (1, .int (0 + (sOf x 0)))] 2 21 C0 dX4_poundsStored_18 rfl rfl (by decide) (by decide) rfl ?_
  refine x_lv (lv1 := [(0, .ref h), (1, .int (0 + (sOf x 0))), (2, .int 1)]) [1, 2, 0] rfl ?_
  refine x_goto 4 C0 dX4_poundsStored_21 (by decide) ?_
  refine x_iload_n 2 5 C0 dX4_poundsStored_4 rfl rfl rfl ?_
  refine x_bipush (v := 6) 7 C0 dX4_poundsStored_5 rfl (by decide) ?_
  refine x_icmp_ge 24 10 C0 dX4_poundsStored_7 rfl (by decide) (fun q => False.elim (by revert q; decide)) (fun _ => ?_)
  refine x_iload_n 1 11 C0 dX4_poundsStored_10 rfl rfl rfl ?_
  refine x_aload_n 0 12 C0 dX4_poundsStored_11 rfl rfl rfl ?_
  refine x_iload_n 2 13 C0 dX4_poundsStored_12 rfl rfl rfl ?_
  refine x_callV 16 C0 (k_X4_storedOf l hl g _ _ _ _ _ hR 1) dX4_poundsStored_13 rfl mC_X4_storedOf mM_X4_77 mI_X4_storedOf mV_X4_storedOf mN_X4 yd_X4_storedOf rfl rfl ⟨Nat.le_of_ble_eq_true rfl, Nat.le_of_ble_eq_true rfl⟩ (HR.ho hR) rfl rfl rfl rfl (Nat.le_of_ble_eq_true rfl) ⟨Nat.le_of_ble_eq_true rfl, Nat.le_of_ble_eq_true rfl⟩ (fun _ _ _ q => False.elim q) (fun r w1 sz1 hz hP => ?_)
  obtain ⟨rfl, rfl, rfl⟩ := hP
  refine x_st (st1 := [.int (sOf x 1), .int (0 + (sOf x 0))]) rfl ?_
  refine x_iadd 17 C0 dX4_poundsStored_16 rfl ?_
  refine x_istore_n [(1, .int ((0 + (sOf x 0)) + (sOf x 1))), (0, .ref h), (2, .int 1)] 18 C0 dX4_poundsStored_17 rfl rfl (by decide) rfl ?_
  refine x_lv (lv1 := [(0, .ref h), (1, .int ((0 + (sOf x 0)) + (sOf x 1))), (2, .int 1)]) [1, 0, 2] rfl ?_
  refine x_iinc [(2, .int 2), (0, .ref h), (1, .int ((0 + (sOf x 0)) + (sOf x 1)))] 2 21 C0 dX4_poundsStored_18 rfl rfl (by decide) (by decide) rfl ?_
  refine x_lv (lv1 := [(0, .ref h), (1, .int ((0 + (sOf x 0)) + (sOf x 1))), (2, .int 2)]) [1, 2, 0] rfl ?_
  refine x_goto 4 C0 dX4_poundsStored_21 (by decide) ?_
  refine x_iload_n 2 5 C0 dX4_poundsStored_4 rfl rfl rfl ?_
  refine x_bipush (v := 6) 7 C0 dX4_poundsStored_5 rfl (by decide) ?_
  refine x_icmp_ge 24 10 C0 dX4_poundsStored_7 rfl (by decide) (fun q => False.elim (by revert q; decide)) (fun _ => ?_)
  refine x_iload_n 1 11 C0 dX4_poundsStored_10 rfl rfl rfl ?_
  refine x_aload_n 0 12 C0 dX4_poundsStored_11 rfl rfl rfl ?_
  refine x_iload_n 2 13 C0 dX4_poundsStored_12 rfl rfl rfl ?_
  refine x_callV 16 C0 (k_X4_storedOf l hl g _ _ _ _ _ hR 2) dX4_poundsStored_13 rfl mC_X4_storedOf mM_X4_77 mI_X4_storedOf mV_X4_storedOf mN_X4 yd_X4_storedOf rfl rfl ⟨Nat.le_of_ble_eq_true rfl, Nat.le_of_ble_eq_true rfl⟩ (HR.ho hR) rfl rfl rfl rfl (Nat.le_of_ble_eq_true rfl) ⟨Nat.le_of_ble_eq_true rfl, Nat.le_of_ble_eq_true rfl⟩ (fun _ _ _ q => False.elim q) (fun r w1 sz1 hz hP => ?_)
  obtain ⟨rfl, rfl, rfl⟩ := hP
  refine x_st (st1 := [.int (sOf x 2), .int ((0 + (sOf x 0)) + (sOf x 1))]) rfl ?_
  refine x_iadd 17 C0 dX4_poundsStored_16 rfl ?_
  refine x_istore_n [(1, .int (((0 + (sOf x 0)) + (sOf x 1)) + (sOf x 2))), (0, .ref h), (2, .int 2)] 18 C0 dX4_poundsStored_17 rfl rfl (by decide) rfl ?_
  refine x_lv (lv1 := [(0, .ref h), (1, .int (((0 + (sOf x 0)) + (sOf x 1)) + (sOf x 2))), (2, .int 2)]) [1, 0, 2] rfl ?_
  refine x_iinc [(2, .int 3), (0, .ref h), (1, .int (((0 + (sOf x 0)) + (sOf x 1)) + (sOf x 2)))] 2 21 C0 dX4_poundsStored_18 rfl rfl (by decide) (by decide) rfl ?_
  refine x_lv (lv1 := [(0, .ref h), (1, .int (((0 + (sOf x 0)) + (sOf x 1)) + (sOf x 2))), (2, .int 3)]) [1, 2, 0] rfl ?_
  refine x_goto 4 C0 dX4_poundsStored_21 (by decide) ?_
  refine x_iload_n 2 5 C0 dX4_poundsStored_4 rfl rfl rfl ?_
  refine x_bipush (v := 6) 7 C0 dX4_poundsStored_5 rfl (by decide) ?_
  refine x_icmp_ge 24 10 C0 dX4_poundsStored_7 rfl (by decide) (fun q => False.elim (by revert q; decide)) (fun _ => ?_)
  refine x_iload_n 1 11 C0 dX4_poundsStored_10 rfl rfl rfl ?_
  refine x_aload_n 0 12 C0 dX4_poundsStored_11 rfl rfl rfl ?_
  refine x_iload_n 2 13 C0 dX4_poundsStored_12 rfl rfl rfl ?_
  refine x_callV 16 C0 (k_X4_storedOf l hl g _ _ _ _ _ hR 3) dX4_poundsStored_13 rfl mC_X4_storedOf mM_X4_77 mI_X4_storedOf mV_X4_storedOf mN_X4 yd_X4_storedOf rfl rfl ⟨Nat.le_of_ble_eq_true rfl, Nat.le_of_ble_eq_true rfl⟩ (HR.ho hR) rfl rfl rfl rfl (Nat.le_of_ble_eq_true rfl) ⟨Nat.le_of_ble_eq_true rfl, Nat.le_of_ble_eq_true rfl⟩ (fun _ _ _ q => False.elim q) (fun r w1 sz1 hz hP => ?_)
  obtain ⟨rfl, rfl, rfl⟩ := hP
  refine x_st (st1 := [.int (sOf x 3), .int (((0 + (sOf x 0)) + (sOf x 1)) + (sOf x 2))]) rfl ?_
  refine x_iadd 17 C0 dX4_poundsStored_16 rfl ?_
  refine x_istore_n [(1, .int ((((0 + (sOf x 0)) + (sOf x 1)) + (sOf x 2)) + (sOf x 3))), (0, .ref h), (2, .int 3)] 18 C0 dX4_poundsStored_17 rfl rfl (by decide) rfl ?_
  refine x_lv (lv1 := [(0, .ref h), (1, .int ((((0 + (sOf x 0)) + (sOf x 1)) + (sOf x 2)) + (sOf x 3))), (2, .int 3)]) [1, 0, 2] rfl ?_
  refine x_iinc [(2, .int 4), (0, .ref h), (1, .int ((((0 + (sOf x 0)) + (sOf x 1)) + (sOf x 2)) + (sOf x 3)))] 2 21 C0 dX4_poundsStored_18 rfl rfl (by decide) (by decide) rfl ?_
  refine x_lv (lv1 := [(0, .ref h), (1, .int ((((0 + (sOf x 0)) + (sOf x 1)) + (sOf x 2)) + (sOf x 3))), (2, .int 4)]) [1, 2, 0] rfl ?_
  refine x_goto 4 C0 dX4_poundsStored_21 (by decide) ?_
  refine x_iload_n 2 5 C0 dX4_poundsStored_4 rfl rfl rfl ?_
  refine x_bipush (v := 6) 7 C0 dX4_poundsStored_5 rfl (by decide) ?_
  refine x_icmp_ge 24 10 C0 dX4_poundsStored_7 rfl (by decide) (fun q => False.elim (by revert q; decide)) (fun _ => ?_)
  refine x_iload_n 1 11 C0 dX4_poundsStored_10 rfl rfl rfl ?_
  refine x_aload_n 0 12 C0 dX4_poundsStored_11 rfl rfl rfl ?_
  refine x_iload_n 2 13 C0 dX4_poundsStored_12 rfl rfl rfl ?_
  refine x_callV 16 C0 (k_X4_storedOf l hl g _ _ _ _ _ hR 4) dX4_poundsStored_13 rfl mC_X4_storedOf mM_X4_77 mI_X4_storedOf mV_X4_storedOf mN_X4 yd_X4_storedOf rfl rfl ⟨Nat.le_of_ble_eq_true rfl, Nat.le_of_ble_eq_true rfl⟩ (HR.ho hR) rfl rfl rfl rfl (Nat.le_of_ble_eq_true rfl) ⟨Nat.le_of_ble_eq_true rfl, Nat.le_of_ble_eq_true rfl⟩ (fun _ _ _ q => False.elim q) (fun r w1 sz1 hz hP => ?_)
  obtain ⟨rfl, rfl, rfl⟩ := hP
  refine x_st (st1 := [.int (sOf x 4), .int ((((0 + (sOf x 0)) + (sOf x 1)) + (sOf x 2)) + (sOf x 3))]) rfl ?_
  refine x_iadd 17 C0 dX4_poundsStored_16 rfl ?_
  refine x_istore_n [(1, .int (((((0 + (sOf x 0)) + (sOf x 1)) + (sOf x 2)) + (sOf x 3)) + (sOf x 4))), (0, .ref h), (2, .int 4)] 18 C0 dX4_poundsStored_17 rfl rfl (by decide) rfl ?_
  refine x_lv (lv1 := [(0, .ref h), (1, .int (((((0 + (sOf x 0)) + (sOf x 1)) + (sOf x 2)) + (sOf x 3)) + (sOf x 4))), (2, .int 4)]) [1, 0, 2] rfl ?_
  refine x_iinc [(2, .int 5), (0, .ref h), (1, .int (((((0 + (sOf x 0)) + (sOf x 1)) + (sOf x 2)) + (sOf x 3)) + (sOf x 4)))] 2 21 C0 dX4_poundsStored_18 rfl rfl (by decide) (by decide) rfl ?_
  refine x_lv (lv1 := [(0, .ref h), (1, .int (((((0 + (sOf x 0)) + (sOf x 1)) + (sOf x 2)) + (sOf x 3)) + (sOf x 4))), (2, .int 5)]) [1, 2, 0] rfl ?_
  refine x_goto 4 C0 dX4_poundsStored_21 (by decide) ?_
  refine x_iload_n 2 5 C0 dX4_poundsStored_4 rfl rfl rfl ?_
  refine x_bipush (v := 6) 7 C0 dX4_poundsStored_5 rfl (by decide) ?_
  refine x_icmp_ge 24 10 C0 dX4_poundsStored_7 rfl (by decide) (fun q => False.elim (by revert q; decide)) (fun _ => ?_)
  refine x_iload_n 1 11 C0 dX4_poundsStored_10 rfl rfl rfl ?_
  refine x_aload_n 0 12 C0 dX4_poundsStored_11 rfl rfl rfl ?_
  refine x_iload_n 2 13 C0 dX4_poundsStored_12 rfl rfl rfl ?_
  refine x_callV 16 C0 (k_X4_storedOf l hl g _ _ _ _ _ hR 5) dX4_poundsStored_13 rfl mC_X4_storedOf mM_X4_77 mI_X4_storedOf mV_X4_storedOf mN_X4 yd_X4_storedOf rfl rfl ⟨Nat.le_of_ble_eq_true rfl, Nat.le_of_ble_eq_true rfl⟩ (HR.ho hR) rfl rfl rfl rfl (Nat.le_of_ble_eq_true rfl) ⟨Nat.le_of_ble_eq_true rfl, Nat.le_of_ble_eq_true rfl⟩ (fun _ _ _ q => False.elim q) (fun r w1 sz1 hz hP => ?_)
  obtain ⟨rfl, rfl, rfl⟩ := hP
  refine x_st (st1 := [.int (sOf x 5), .int (((((0 + (sOf x 0)) + (sOf x 1)) + (sOf x 2)) + (sOf x 3)) + (sOf x 4))]) rfl ?_
  refine x_iadd 17 C0 dX4_poundsStored_16 rfl ?_
  refine x_istore_n [(1, .int ((((((0 + (sOf x 0)) + (sOf x 1)) + (sOf x 2)) + (sOf x 3)) + (sOf x 4)) + (sOf x 5))), (0, .ref h), (2, .int 5)] 18 C0 dX4_poundsStored_17 rfl rfl (by decide) rfl ?_
  refine x_lv (lv1 := [(0, .ref h), (1, .int ((((((0 + (sOf x 0)) + (sOf x 1)) + (sOf x 2)) + (sOf x 3)) + (sOf x 4)) + (sOf x 5))), (2, .int 5)]) [1, 0, 2] rfl ?_
  refine x_iinc [(2, .int 6), (0, .ref h), (1, .int ((((((0 + (sOf x 0)) + (sOf x 1)) + (sOf x 2)) + (sOf x 3)) + (sOf x 4)) + (sOf x 5)))] 2 21 C0 dX4_poundsStored_18 rfl rfl (by decide) (by decide) rfl ?_
  refine x_lv (lv1 := [(0, .ref h), (1, .int ((((((0 + (sOf x 0)) + (sOf x 1)) + (sOf x 2)) + (sOf x 3)) + (sOf x 4)) + (sOf x 5))), (2, .int 6)]) [1, 2, 0] rfl ?_
  refine x_goto 4 C0 dX4_poundsStored_21 (by decide) ?_
  refine x_iload_n 2 5 C0 dX4_poundsStored_4 rfl rfl rfl ?_
  refine x_bipush (v := 6) 7 C0 dX4_poundsStored_5 rfl (by decide) ?_
  refine x_icmp_ge 24 10 C0 dX4_poundsStored_7 rfl (by decide) (fun _ => ?_) (fun q => False.elim (by revert q; decide))
  refine x_iload_n 1 25 C0 dX4_poundsStored_24 rfl rfl rfl ?_
  exact x_ireturn C0 dX4_poundsStored_25 rfl rfl (Nat.le_of_ble_eq_true rfl) (Nat.le_of_ble_eq_true rfl) (by refine ⟨?_, rfl, rfl⟩; rfl)

set_option maxHeartbeats 4000000 in
set_option maxRecDepth 100000 in
theorem k_X4_addToStore (l : Launch) (hl : l.stackTraces = false) (g : xg_T) (w : xw_T) (sz : Nat) (h : Nat) (x : Nat → Int32) (la : Nat → Nat) (hR : HR g w h x la) (hA : xA g h) (ga ki po : Int32) : xM l g yX4_addToStore cX4_addToStore 4 none ({ frames := 1, cells := 0, slots := 0, locals := 21 }) 0 0 [.ref h, .int ga, .int ki, .int po] w sz (fun r w1 sz1 => r = none ∧ w1 = HW g w h (sAdd x ga ki po) la ∧ sz = sz1) (fun _ _ _ => False) := by
  refine xM.of RX4 hl (by decide +kernel) rfl (Nat.le_of_ble_eq_true rfl) rfl ?_
  intro p e s m args below meth cD C0 hini
  refine x_iload_n 1 1 C0 dX4_addToStore_0 rfl rfl rfl ?_
  refine x_iload_n 2 2 C0 dX4_addToStore_1 rfl rfl rfl ?_
  refine x_callS 5 C0 (k_X4_isLeaf l hl g _ _ ga ki) dX4_addToStore_2 rfl mC_X4_isLeaf mM_X4_69 mS_X4_isLeaf mN_X4 yd_X4_isLeaf rfl rfl ⟨Nat.le_of_ble_eq_true rfl, Nat.le_of_ble_eq_true rfl⟩ rfl rfl (Nat.le_of_ble_eq_true rfl) ⟨Nat.le_of_ble_eq_true rfl, Nat.le_of_ble_eq_true rfl⟩ (fun _ _ _ q => False.elim q) (fun r w1 sz1 hz hP => ?_)
  obtain ⟨rfl, rfl, rfl⟩ := hP
  cases hB : isLeafB ga ki
  · refine x_st (st1 := [.int 0]) rfl ?_
    refine x_if_eq 25 8 C0 dX4_addToStore_5 rfl (by decide) (fun _ => ?_) (fun q => False.elim (by revert q; decide))
    exact x_return C0 dX4_addToStore_25 rfl (Nat.le_of_ble_eq_true rfl) (Nat.le_of_ble_eq_true rfl) (by refine ⟨rfl, ?_, rfl⟩; simp only [sAdd, hB]; exact HW_self hR)
  · refine x_st (st1 := [.int 1]) rfl ?_
    refine x_if_eq 25 8 C0 dX4_addToStore_5 rfl (by decide) (fun q => False.elim (by revert q; decide)) (fun _ => ?_)
    refine x_aload_n 0 9 C0 dX4_addToStore_8 rfl rfl rfl ?_
    refine x_getf (v := .ref (h + 1)) 0 12 C0 dX4_addToStore_9 rfl (HR.ho hR) rfl (by decide) inX4 mF_X4_13 rfl ?_
    refine x_iload_n 1 13 C0 dX4_addToStore_12 rfl rfl rfl ?_
    refine x_getsN 16 C0 dX4_addToStore_13 rfl (xs_kinds C0.2.2.2.2.2.2.2.1.2.2).1 (xs_nf C0.2.2.2.2.2.2.2.1.2.2 (RX4, 9, "TeaChests", "KINDS", "[LTeaChests$Kind;", "TeaChests") (by decide +kernel)) ?_
    refine x_tlen 17 C0 dX4_addToStore_16 rfl (xs_kinds C0.2.2.2.2.2.2.2.1.2.2).2 (v := 3) rfl ?_
    refine x_imul 18 C0 dX4_addToStore_17 rfl ?_
    refine x_iload_n 2 19 C0 dX4_addToStore_18 rfl rfl rfl ?_
    refine x_iadd 20 C0 dX4_addToStore_19 rfl ?_
    refine x_dup2 21 C0 dX4_addToStore_20 rfl rfl rfl ?_
    refine x_iald 0 22 C0 dX4_addToStore_21 rfl (HR.st hR) rfl (sIx_ok hB).2 ?_
    refine x_st (st1 := [.int (x (10 + (sIx ga ki))), .int ((ga * 3) + ki), .ref (h + 1)]) (congrArg (fun z => Value.int z :: _) (sIx_at hB)) ?_
    refine x_iload_n 3 23 C0 dX4_addToStore_22 rfl rfl rfl ?_
    refine x_iadd 24 C0 dX4_addToStore_23 rfl ?_
    refine x_w (HW_self hR) ?_
    refine x_iast 0 25 C0 dX4_addToStore_24 rfl (HR.st HR_HW) (xA_le hA (by omega)) rfl (sIx_ok hB).2 ?_
    refine x_w (w1 := HW g w h (upd x (10 + sIx ga ki) ((x (10 + (sIx ga ki))) + po)) la) (HW_putS (sIx_ok hB).1) ?_
    exact x_return C0 dX4_addToStore_25 rfl (Nat.le_of_ble_eq_true rfl) (Nat.le_of_ble_eq_true rfl) (by refine ⟨rfl, ?_, rfl⟩; simp [sAdd, hB])

set_option maxHeartbeats 4000000 in
set_option maxRecDepth 100000 in
theorem k_X4_addSheets (l : Launch) (hl : l.stackTraces = false) (g : xg_T) (w : xw_T) (sz : Nat) (h : Nat) (x : Nat → Int32) (la : Nat → Nat) (hR : HR g w h x la) (hA : xA g h) (mn : Int32) : xM l g yX4_addSheets cX4_addSheets 2 none ({ frames := 1, cells := 0, slots := 0, locals := 14 }) 0 0 [.ref h, .int mn] w sz (fun r w1 sz1 => r = none ∧ w1 = HW g w h (upd x 1 (lo200 (x 1 + mn))) la ∧ sz = sz1) (fun _ _ _ => False) := by
  refine xM.of RX4 hl (by decide +kernel) rfl (Nat.le_of_ble_eq_true rfl) rfl ?_
  intro p e s m args below meth cD C0 hini
  refine x_aload_n 0 1 C0 dX4_addSheets_0 rfl rfl rfl ?_
  refine x_sipush (v := 200) 4 C0 dX4_addSheets_1 rfl (by decide) ?_
  refine x_aload_n 0 5 C0 dX4_addSheets_4 rfl rfl rfl ?_
  refine x_getf (v := .int (x 1)) 3 8 C0 dX4_addSheets_5 rfl (HR.ho hR) rfl (by decide) inX4 mF_X4_25 rfl ?_
  refine x_iload_n 1 9 C0 dX4_addSheets_8 rfl rfl rfl ?_
  refine x_iadd 10 C0 dX4_addSheets_9 rfl ?_
  refine x_mmin 13 C0 dX4_addSheets_10 rfl mM_X4_88 mS_Math_min mN_J9 mC_Math_min (Nat.le_of_ble_eq_true rfl) (Nat.le_of_ble_eq_true rfl) (Nat.le_of_ble_eq_true rfl) (Nat.le_of_ble_eq_true rfl) ?_
  refine x_w (HW_self hR) ?_
  refine x_putf 3 16 C0 dX4_addSheets_13 rfl (HR.ho HR_HW) hA rfl (by decide) inX4 tyX4_ok nmX4 mF_X4_25 rfl rfl rfl rfl (Nat.le_of_ble_eq_true rfl) ?_
  refine x_w (w1 := HW g w h (upd x 1 (if (x 1) + mn < 200 then (x 1) + mn else 200)) la) (HW_putH (by decide) (houseS3 _ _ _)) ?_
  exact x_return C0 dX4_addSheets_16 rfl (Nat.le_of_ble_eq_true rfl) (Nat.le_of_ble_eq_true rfl) ⟨rfl, rfl, rfl⟩

set_option maxHeartbeats 4000000 in
set_option maxRecDepth 100000 in
theorem k_X4_addScrews (l : Launch) (hl : l.stackTraces = false) (g : xg_T) (w : xw_T) (sz : Nat) (h : Nat) (x : Nat → Int32) (la : Nat → Nat) (hR : HR g w h x la) (hA : xA g h) (mn : Int32) : xM l g yX4_addScrews cX4_addScrews 2 none ({ frames := 1, cells := 0, slots := 0, locals := 14 }) 0 0 [.ref h, .int mn] w sz (fun r w1 sz1 => r = none ∧ w1 = HW g w h (upd x 2 (lo200 (x 2 + mn))) la ∧ sz = sz1) (fun _ _ _ => False) := by
  refine xM.of RX4 hl (by decide +kernel) rfl (Nat.le_of_ble_eq_true rfl) rfl ?_
  intro p e s m args below meth cD C0 hini
  refine x_aload_n 0 1 C0 dX4_addScrews_0 rfl rfl rfl ?_
  refine x_sipush (v := 200) 4 C0 dX4_addScrews_1 rfl (by decide) ?_
  refine x_aload_n 0 5 C0 dX4_addScrews_4 rfl rfl rfl ?_
  refine x_getf (v := .int (x 2)) 4 8 C0 dX4_addScrews_5 rfl (HR.ho hR) rfl (by decide) inX4 mF_X4_29 rfl ?_
  refine x_iload_n 1 9 C0 dX4_addScrews_8 rfl rfl rfl ?_
  refine x_iadd 10 C0 dX4_addScrews_9 rfl ?_
  refine x_mmin 13 C0 dX4_addScrews_10 rfl mM_X4_88 mS_Math_min mN_J9 mC_Math_min (Nat.le_of_ble_eq_true rfl) (Nat.le_of_ble_eq_true rfl) (Nat.le_of_ble_eq_true rfl) (Nat.le_of_ble_eq_true rfl) ?_
  refine x_w (HW_self hR) ?_
  refine x_putf 4 16 C0 dX4_addScrews_13 rfl (HR.ho HR_HW) hA rfl (by decide) inX4 tyX4_ok nmX4 mF_X4_29 rfl rfl rfl rfl (Nat.le_of_ble_eq_true rfl) ?_
  refine x_w (w1 := HW g w h (upd x 2 (if (x 2) + mn < 200 then (x 2) + mn else 200)) la) (HW_putH (by decide) (houseS4 _ _ _)) ?_
  exact x_return C0 dX4_addScrews_16 rfl (Nat.le_of_ble_eq_true rfl) (Nat.le_of_ble_eq_true rfl) ⟨rfl, rfl, rfl⟩

set_option maxHeartbeats 4000000 in
set_option maxRecDepth 100000 in
theorem k_X4_refuse (l : Launch) (hl : l.stackTraces = false) (g : xg_T) (w : xw_T) (sz : Nat) (h : Nat) (x : Nat → Int32) (la : Nat → Nat) (hR : HR g w h x la) (hA : xA g h) (aa bb : Int32) : xM l g yX4_refuse cX4_refuse 3 (some .boolean) ({ frames := 0, cells := 0, slots := 0, locals := 0 }) 0 0 [.ref h, .int aa, .int bb] w sz (fun r w1 sz1 => r = some (.int 0) ∧ w1 = HW g w h (upd (upd x 208 aa) 209 bb) la ∧ sz = sz1) (fun _ _ _ => False) := by
  refine xM.of RX4 hl (by decide +kernel) rfl (Nat.le_of_ble_eq_true rfl) rfl ?_
  intro p e s m args below meth cD C0 hini
  refine x_aload_n 0 1 C0 dX4_refuse_0 rfl rfl rfl ?_
  refine x_iload_n 1 2 C0 dX4_refuse_1 rfl rfl rfl ?_
  refine x_w (HW_self hR) ?_
  refine x_putf 12 5 C0 dX4_refuse_2 rfl (HR.ho HR_HW) hA rfl (by decide) inX4 tyX4_ok nmX4 mF_X4_93 rfl rfl rfl rfl (Nat.le_of_ble_eq_true rfl) ?_
  refine x_w (w1 := HW g w h (upd x 208 aa) la) (HW_putH (by decide) (houseS12 _ _ _)) ?_
  refine x_aload_n 0 6 C0 dX4_refuse_5 rfl rfl rfl ?_
  refine x_iload_n 2 7 C0 dX4_refuse_6 rfl rfl rfl ?_
  refine x_putf 13 10 C0 dX4_refuse_7 rfl (HR.ho HR_HW) hA rfl (by decide) inX4 tyX4_ok nmX4 mF_X4_96 rfl rfl rfl rfl (Nat.le_of_ble_eq_true rfl) ?_
  refine x_w (w1 := HW g w h (upd (upd x 208 aa) 209 bb) la) (HW_putH (by decide) (houseS13 _ _ _)) ?_
  refine x_iconst (v := 0) 11 C0 dX4_refuse_10 rfl (by decide) ?_
  exact x_ireturn C0 dX4_refuse_11 rfl rfl (Nat.le_of_ble_eq_true rfl) (Nat.le_of_ble_eq_true rfl) ⟨rfl, rfl, rfl⟩

set_option maxHeartbeats 4000000 in
set_option maxRecDepth 100000 in
theorem k_X4_heightIn (l : Launch) (hl : l.stackTraces = false) (g : xg_T) (w : xw_T) (sz : Nat) (h : Nat) (x : Nat → Int32) (la : Nat → Nat) (hR : HR g w h x la) (hrs : Int32) : xM l g yX4_heightIn cX4_heightIn 2 (some .int) ({ frames := 1, cells := 0, slots := 0, locals := 13 }) 0 0 [.ref h, .int hrs] w sz (fun r w1 sz1 => r = some (.int (tide (x 0) hrs)) ∧ w = w1 ∧ sz = sz1) (fun _ _ _ => False) := by
  refine xM.of RX4 hl (by decide +kernel) rfl (Nat.le_of_ble_eq_true rfl) rfl ?_
  intro p e s m args below meth cD C0 hini
  refine x_bipush (v := 6) 2 C0 dX4_heightIn_0 rfl (by decide) ?_
  refine x_aload_n 0 3 C0 dX4_heightIn_2 rfl rfl rfl ?_
  refine x_getf (v := .int (x 0)) 5 6 C0 dX4_heightIn_3 rfl (HR.ho hR) rfl (by decide) inX4 mF_X4_51 rfl ?_
  refine x_iload_n 1 7 C0 dX4_heightIn_6 rfl rfl rfl ?_
  refine x_iadd 8 C0 dX4_heightIn_7 rfl ?_
  refine x_bipush (v := 12) 10 C0 dX4_heightIn_8 rfl (by decide) ?_
  refine x_irem 11 C0 dX4_heightIn_10 rfl (by decide) ?_
  refine x_isub 12 C0 dX4_heightIn_11 rfl ?_
  refine x_mabs 15 C0 dX4_heightIn_12 rfl mM_X4_222 mS_Math_abs mN_J9 mC_Math_abs (Nat.le_of_ble_eq_true rfl) (Nat.le_of_ble_eq_true rfl) (Nat.le_of_ble_eq_true rfl) (Nat.le_of_ble_eq_true rfl) ?_
  exact x_ireturn C0 dX4_heightIn_15 rfl rfl (Nat.le_of_ble_eq_true rfl) (Nat.le_of_ble_eq_true rfl) (by refine ⟨?_, rfl, rfl⟩; rfl)

set_option maxHeartbeats 4000000 in
set_option maxRecDepth 100000 in
theorem k_X4_isInHouse (l : Launch) (hl : l.stackTraces = false) (g : xg_T) (w : xw_T) (sz : Nat) (h : Nat) (x : Nat → Int32) (la : Nat → Nat) (hR : HR g w h x la) (hA : xA g h) (k : Nat) (hk : k < 20) : xM l g yX4_isInHouse cX4_isInHouse 2 (some .boolean) ({ frames := 1, cells := 0, slots := 0, locals := 22 }) 0 0 [.ref h, .ref (h + 3 + k)] w sz (fun r w1 sz1 => sz = sz1 ∧ ∃ x', w1 = HW g w h x' la ∧ chk (x (28 + 9 * k + 7) = 0) x x' r) (fun _ _ _ => False) := by
  refine xM.of RX4 hl (by decide +kernel) rfl (Nat.le_of_ble_eq_true rfl) rfl ?_
  intro p e s m args below meth cD C0 hini
  refine x_aload_n 1 1 C0 dX4_isInHouse_0 rfl rfl rfl ?_
  refine x_getf (v := .int (x (28 + 9 * k + 7))) 8 4 C0 dX4_isInHouse_1 rfl (HR.c hR hk) rfl (by decide) inX1 mF_X4_99 rfl ?_
  refine x_if_eq 19 7 C0 dX4_isInHouse_4 rfl (by decide) (fun c1 => ?_) (fun c1 => ?_)
  · refine x_iconst (v := 1) 20 C0 dX4_isInHouse_19 rfl (by decide) ?_
    refine x_goto 24 C0 dX4_isInHouse_20 (by decide) ?_
    exact x_ireturn C0 dX4_isInHouse_24 rfl rfl (Nat.le_of_ble_eq_true rfl) (Nat.le_of_ble_eq_true rfl) ⟨rfl, _, HW_self hR, Or.inl ⟨by simp_all [], rfl, rfl⟩⟩
  · refine x_aload_n 0 8 C0 dX4_isInHouse_7 rfl rfl rfl ?_
    refine x_iconst (v := 3) 9 C0 dX4_isInHouse_8 rfl (by decide) ?_
    refine x_aload_n 1 10 C0 dX4_isInHouse_9 rfl rfl rfl ?_
    refine x_getf (v := .int (x (28 + 9 * k + 7))) 8 13 C0 dX4_isInHouse_10 rfl (HR.c hR hk) rfl (by decide) inX1 mF_X4_99 rfl ?_
    refine x_callV 16 C0 (k_X4_refuse l hl g _ _ _ _ _ hR hA 3 (x (28 + 9 * k + 7))) dX4_isInHouse_13 rfl mC_X4_refuse mM_X4_81 mI_X4_refuse mV_X4_refuse mN_X4 yd_X4_refuse rfl rfl ⟨Nat.le_of_ble_eq_true rfl, Nat.le_of_ble_eq_true rfl⟩ (HR.ho hR) rfl rfl rfl rfl (Nat.le_of_ble_eq_true rfl) ⟨Nat.le_of_ble_eq_true rfl, Nat.le_of_ble_eq_true rfl⟩ (fun _ _ _ q => False.elim q) (fun r w1 sz1 hz hP => ?_)
    obtain ⟨rfl, rfl, rfl⟩ := hP
    refine x_st (st1 := [.int 0]) rfl ?_
    refine x_if_eq 23 19 C0 dX4_isInHouse_16 rfl (by decide) (fun _ => ?_) (fun q => False.elim (by revert q; decide))
    refine x_iconst (v := 0) 24 C0 dX4_isInHouse_23 rfl (by decide) ?_
    exact x_ireturn C0 dX4_isInHouse_24 rfl rfl (Nat.le_of_ble_eq_true rfl) (Nat.le_of_ble_eq_true rfl) ⟨rfl, _, rfl, Or.inr ⟨by simp_all [], rfl, _, _, rfl⟩⟩

set_option maxHeartbeats 4000000 in
set_option maxRecDepth 100000 in
theorem k_X4_isUnscrewed (l : Launch) (hl : l.stackTraces = false) (g : xg_T) (w : xw_T) (sz : Nat) (h : Nat) (x : Nat → Int32) (la : Nat → Nat) (hR : HR g w h x la) (hA : xA g h) (k : Nat) (hk : k < 20) : xM l g yX4_isUnscrewed cX4_isUnscrewed 2 (some .boolean) ({ frames := 1, cells := 0, slots := 0, locals := 22 }) 0 0 [.ref h, .ref (h + 3 + k)] w sz (fun r w1 sz1 => sz = sz1 ∧ ∃ x', w1 = HW g w h x' la ∧ chk (x (28 + 9 * k + 5) = 0) x x' r) (fun _ _ _ => False) := by
  refine xM.of RX4 hl (by decide +kernel) rfl (Nat.le_of_ble_eq_true rfl) rfl ?_
  intro p e s m args below meth cD C0 hini
  refine x_aload_n 1 1 C0 dX4_isUnscrewed_0 rfl rfl rfl ?_
  refine x_getf (v := .int (x (28 + 9 * k + 5))) 6 4 C0 dX4_isUnscrewed_1 rfl (HR.c hR hk) rfl (by decide) inX1 mF_X4_102 rfl ?_
  refine x_if_eq 19 7 C0 dX4_isUnscrewed_4 rfl (by decide) (fun c1 => ?_) (fun c1 => ?_)
  · refine x_iconst (v := 1) 20 C0 dX4_isUnscrewed_19 rfl (by decide) ?_
    refine x_goto 24 C0 dX4_isUnscrewed_20 (by decide) ?_
    exact x_ireturn C0 dX4_isUnscrewed_24 rfl rfl (Nat.le_of_ble_eq_true rfl) (Nat.le_of_ble_eq_true rfl) ⟨rfl, _, HW_self hR, Or.inl ⟨by simp_all [], rfl, rfl⟩⟩
  · refine x_aload_n 0 8 C0 dX4_isUnscrewed_7 rfl rfl rfl ?_
    refine x_iconst (v := 4) 9 C0 dX4_isUnscrewed_8 rfl (by decide) ?_
    refine x_aload_n 1 10 C0 dX4_isUnscrewed_9 rfl rfl rfl ?_
    refine x_getf (v := .int (x (28 + 9 * k + 5))) 6 13 C0 dX4_isUnscrewed_10 rfl (HR.c hR hk) rfl (by decide) inX1 mF_X4_102 rfl ?_
    refine x_callV 16 C0 (k_X4_refuse l hl g _ _ _ _ _ hR hA 4 (x (28 + 9 * k + 5))) dX4_isUnscrewed_13 rfl mC_X4_refuse mM_X4_81 mI_X4_refuse mV_X4_refuse mN_X4 yd_X4_refuse rfl rfl ⟨Nat.le_of_ble_eq_true rfl, Nat.le_of_ble_eq_true rfl⟩ (HR.ho hR) rfl rfl rfl rfl (Nat.le_of_ble_eq_true rfl) ⟨Nat.le_of_ble_eq_true rfl, Nat.le_of_ble_eq_true rfl⟩ (fun _ _ _ q => False.elim q) (fun r w1 sz1 hz hP => ?_)
    obtain ⟨rfl, rfl, rfl⟩ := hP
    refine x_st (st1 := [.int 0]) rfl ?_
    refine x_if_eq 23 19 C0 dX4_isUnscrewed_16 rfl (by decide) (fun _ => ?_) (fun q => False.elim (by revert q; decide))
    refine x_iconst (v := 0) 24 C0 dX4_isUnscrewed_23 rfl (by decide) ?_
    exact x_ireturn C0 dX4_isUnscrewed_24 rfl rfl (Nat.le_of_ble_eq_true rfl) (Nat.le_of_ble_eq_true rfl) ⟨rfl, _, rfl, Or.inr ⟨by simp_all [], rfl, _, _, rfl⟩⟩

set_option maxHeartbeats 4000000 in
set_option maxRecDepth 100000 in
theorem k_X4_isUnlined (l : Launch) (hl : l.stackTraces = false) (g : xg_T) (w : xw_T) (sz : Nat) (h : Nat) (x : Nat → Int32) (la : Nat → Nat) (hR : HR g w h x la) (hA : xA g h) (k : Nat) (hk : k < 20) : xM l g yX4_isUnlined cX4_isUnlined 2 (some .boolean) ({ frames := 1, cells := 0, slots := 0, locals := 22 }) 0 0 [.ref h, .ref (h + 3 + k)] w sz (fun r w1 sz1 => sz = sz1 ∧ ∃ x', w1 = HW g w h x' la ∧ chk (x (28 + 9 * k + 4) = 0) x x' r) (fun _ _ _ => False) := by
  refine xM.of RX4 hl (by decide +kernel) rfl (Nat.le_of_ble_eq_true rfl) rfl ?_
  intro p e s m args below meth cD C0 hini
  refine x_aload_n 1 1 C0 dX4_isUnlined_0 rfl rfl rfl ?_
  refine x_getf (v := .int (x (28 + 9 * k + 4))) 5 4 C0 dX4_isUnlined_1 rfl (HR.c hR hk) rfl (by decide) inX1 mF_X4_103 rfl ?_
  refine x_if_eq 19 7 C0 dX4_isUnlined_4 rfl (by decide) (fun c1 => ?_) (fun c1 => ?_)
  · refine x_iconst (v := 1) 20 C0 dX4_isUnlined_19 rfl (by decide) ?_
    refine x_goto 24 C0 dX4_isUnlined_20 (by decide) ?_
    exact x_ireturn C0 dX4_isUnlined_24 rfl rfl (Nat.le_of_ble_eq_true rfl) (Nat.le_of_ble_eq_true rfl) ⟨rfl, _, HW_self hR, Or.inl ⟨by simp_all [], rfl, rfl⟩⟩
  · refine x_aload_n 0 8 C0 dX4_isUnlined_7 rfl rfl rfl ?_
    refine x_iconst (v := 5) 9 C0 dX4_isUnlined_8 rfl (by decide) ?_
    refine x_aload_n 1 10 C0 dX4_isUnlined_9 rfl rfl rfl ?_
    refine x_getf (v := .int (x (28 + 9 * k + 0))) 1 13 C0 dX4_isUnlined_10 rfl (HR.c hR hk) rfl (by decide) inX1 mF_X4_107 rfl ?_
    refine x_callV 16 C0 (k_X4_refuse l hl g _ _ _ _ _ hR hA 5 (x (28 + 9 * k + 0))) dX4_isUnlined_13 rfl mC_X4_refuse mM_X4_81 mI_X4_refuse mV_X4_refuse mN_X4 yd_X4_refuse rfl rfl ⟨Nat.le_of_ble_eq_true rfl, Nat.le_of_ble_eq_true rfl⟩ (HR.ho hR) rfl rfl rfl rfl (Nat.le_of_ble_eq_true rfl) ⟨Nat.le_of_ble_eq_true rfl, Nat.le_of_ble_eq_true rfl⟩ (fun _ _ _ q => False.elim q) (fun r w1 sz1 hz hP => ?_)
    obtain ⟨rfl, rfl, rfl⟩ := hP
    refine x_st (st1 := [.int 0]) rfl ?_
    refine x_if_eq 23 19 C0 dX4_isUnlined_16 rfl (by decide) (fun _ => ?_) (fun q => False.elim (by revert q; decide))
    refine x_iconst (v := 0) 24 C0 dX4_isUnlined_23 rfl (by decide) ?_
    exact x_ireturn C0 dX4_isUnlined_24 rfl rfl (Nat.le_of_ble_eq_true rfl) (Nat.le_of_ble_eq_true rfl) ⟨rfl, _, rfl, Or.inr ⟨by simp_all [], rfl, _, _, rfl⟩⟩

set_option maxHeartbeats 4000000 in
set_option maxRecDepth 100000 in
theorem k_X4_hasSheets (l : Launch) (hl : l.stackTraces = false) (g : xg_T) (w : xw_T) (sz : Nat) (h : Nat) (x : Nat → Int32) (la : Nat → Nat) (hR : HR g w h x la) (hA : xA g h) (mn : Int32) : xM l g yX4_hasSheets cX4_hasSheets 2 (some .boolean) ({ frames := 1, cells := 0, slots := 0, locals := 22 }) 0 0 [.ref h, .int mn] w sz (fun r w1 sz1 => sz = sz1 ∧ ∃ x', w1 = HW g w h x' la ∧ chk (mn ≤ x 1) x x' r) (fun _ _ _ => False) := by
  refine xM.of RX4 hl (by decide +kernel) rfl (Nat.le_of_ble_eq_true rfl) rfl ?_
  intro p e s m args below meth cD C0 hini
  refine x_aload_n 0 1 C0 dX4_hasSheets_0 rfl rfl rfl ?_
  refine x_getf (v := .int (x 1)) 3 4 C0 dX4_hasSheets_1 rfl (HR.ho hR) rfl (by decide) inX4 mF_X4_25 rfl ?_
  refine x_iload_n 1 5 C0 dX4_hasSheets_4 rfl rfl rfl ?_
  refine x_icmp_ge 21 8 C0 dX4_hasSheets_5 rfl (by decide) (fun c1 => ?_) (fun c1 => ?_)
  · have c1' := Int32.not_lt.mpr c1
    refine x_iconst (v := 1) 22 C0 dX4_hasSheets_21 rfl (by decide) ?_
    refine x_goto 26 C0 dX4_hasSheets_22 (by decide) ?_
    exact x_ireturn C0 dX4_hasSheets_26 rfl rfl (Nat.le_of_ble_eq_true rfl) (Nat.le_of_ble_eq_true rfl) ⟨rfl, _, HW_self hR, Or.inl ⟨by simp_all [], rfl, rfl⟩⟩
  · have c1' := Int32.not_le.mp c1
    refine x_aload_n 0 9 C0 dX4_hasSheets_8 rfl rfl rfl ?_
    refine x_bipush (v := 6) 11 C0 dX4_hasSheets_9 rfl (by decide) ?_
    refine x_aload_n 0 12 C0 dX4_hasSheets_11 rfl rfl rfl ?_
    refine x_getf (v := .int (x 1)) 3 15 C0 dX4_hasSheets_12 rfl (HR.ho hR) rfl (by decide) inX4 mF_X4_25 rfl ?_
    refine x_callV 18 C0 (k_X4_refuse l hl g _ _ _ _ _ hR hA 6 (x 1)) dX4_hasSheets_15 rfl mC_X4_refuse mM_X4_81 mI_X4_refuse mV_X4_refuse mN_X4 yd_X4_refuse rfl rfl ⟨Nat.le_of_ble_eq_true rfl, Nat.le_of_ble_eq_true rfl⟩ (HR.ho hR) rfl rfl rfl rfl (Nat.le_of_ble_eq_true rfl) ⟨Nat.le_of_ble_eq_true rfl, Nat.le_of_ble_eq_true rfl⟩ (fun _ _ _ q => False.elim q) (fun r w1 sz1 hz hP => ?_)
    obtain ⟨rfl, rfl, rfl⟩ := hP
    refine x_st (st1 := [.int 0]) rfl ?_
    refine x_if_eq 25 21 C0 dX4_hasSheets_18 rfl (by decide) (fun _ => ?_) (fun q => False.elim (by revert q; decide))
    refine x_iconst (v := 0) 26 C0 dX4_hasSheets_25 rfl (by decide) ?_
    exact x_ireturn C0 dX4_hasSheets_26 rfl rfl (Nat.le_of_ble_eq_true rfl) (Nat.le_of_ble_eq_true rfl) ⟨rfl, _, rfl, Or.inr ⟨by simp_all [], rfl, _, _, rfl⟩⟩

set_option maxHeartbeats 4000000 in
set_option maxRecDepth 100000 in
theorem k_X4_hasNoOtherLeaves (l : Launch) (hl : l.stackTraces = false) (g : xg_T) (w : xw_T) (sz : Nat) (h : Nat) (x : Nat → Int32) (la : Nat → Nat) (hR : HR g w h x la) (hA : xA g h) (k : Nat) (hk : k < 20) (ga ki : Int32) : xM l g yX4_hasNoOtherLeaves cX4_hasNoOtherLeaves 4 (some .boolean) ({ frames := 1, cells := 0, slots := 0, locals := 22 }) 0 0 [.ref h, .ref (h + 3 + k), .int ga, .int ki] w sz (fun r w1 sz1 => sz = sz1 ∧ ∃ x', w1 = HW g w h x' la ∧ chk (x (28 + 9 * k + 3) = 0 ∨ (x (28 + 9 * k + 1) = ga ∧ x (28 + 9 * k + 2) = ki)) x x' r) (fun _ _ _ => False) := by
  refine xM.of RX4 hl (by decide +kernel) rfl (Nat.le_of_ble_eq_true rfl) rfl ?_
  intro p e s m args below meth cD C0 hini
  refine x_aload_n 1 1 C0 dX4_hasNoOtherLeaves_0 rfl rfl rfl ?_
  refine x_getf (v := .int (x (28 + 9 * k + 3))) 4 4 C0 dX4_hasNoOtherLeaves_1 rfl (HR.c hR hk) rfl (by decide) inX1 mF_X4_110 rfl ?_
  refine x_if_eq 44 7 C0 dX4_hasNoOtherLeaves_4 rfl (by decide) (fun c1 => ?_) (fun c1 => ?_)
  · refine x_iconst (v := 1) 45 C0 dX4_hasNoOtherLeaves_44 rfl (by decide) ?_
    refine x_goto 49 C0 dX4_hasNoOtherLeaves_45 (by decide) ?_
    exact x_ireturn C0 dX4_hasNoOtherLeaves_49 rfl rfl (Nat.le_of_ble_eq_true rfl) (Nat.le_of_ble_eq_true rfl) ⟨rfl, _, HW_self hR, Or.inl ⟨by simp_all [], rfl, rfl⟩⟩
  · refine x_aload_n 1 8 C0 dX4_hasNoOtherLeaves_7 rfl rfl rfl ?_
    refine x_getf (v := .int (x (28 + 9 * k + 1))) 2 11 C0 dX4_hasNoOtherLeaves_8 rfl (HR.c hR hk) rfl (by decide) inX1 mF_X4_113 rfl ?_
    refine x_iload_n 2 12 C0 dX4_hasNoOtherLeaves_11 rfl rfl rfl ?_
    refine x_icmp_ne 23 15 C0 dX4_hasNoOtherLeaves_12 rfl (by decide) (fun c2 => ?_) (fun c2 => ?_)
    · refine x_aload_n 0 24 C0 dX4_hasNoOtherLeaves_23 rfl rfl rfl ?_
      refine x_bipush (v := 7) 26 C0 dX4_hasNoOtherLeaves_24 rfl (by decide) ?_
      refine x_bipush (v := 10) 28 C0 dX4_hasNoOtherLeaves_26 rfl (by decide) ?_
      refine x_aload_n 1 29 C0 dX4_hasNoOtherLeaves_28 rfl rfl rfl ?_
      refine x_getf (v := .int (x (28 + 9 * k + 1))) 2 32 C0 dX4_hasNoOtherLeaves_29 rfl (HR.c hR hk) rfl (by decide) inX1 mF_X4_113 rfl ?_
      refine x_imul 33 C0 dX4_hasNoOtherLeaves_32 rfl ?_
      refine x_aload_n 1 34 C0 dX4_hasNoOtherLeaves_33 rfl rfl rfl ?_
      refine x_getf (v := .int (x (28 + 9 * k + 2))) 3 37 C0 dX4_hasNoOtherLeaves_34 rfl (HR.c hR hk) rfl (by decide) inX1 mF_X4_116 rfl ?_
      refine x_iadd 38 C0 dX4_hasNoOtherLeaves_37 rfl ?_
      refine x_callV 41 C0 (k_X4_refuse l hl g _ _ _ _ _ hR hA 7 ((10 * (x (28 + 9 * k + 1))) + (x (28 + 9 * k + 2)))) dX4_hasNoOtherLeaves_38 rfl mC_X4_refuse mM_X4_81 mI_X4_refuse mV_X4_refuse mN_X4 yd_X4_refuse rfl rfl ⟨Nat.le_of_ble_eq_true rfl, Nat.le_of_ble_eq_true rfl⟩ (HR.ho hR) rfl rfl rfl rfl (Nat.le_of_ble_eq_true rfl) ⟨Nat.le_of_ble_eq_true rfl, Nat.le_of_ble_eq_true rfl⟩ (fun _ _ _ q => False.elim q) (fun r w1 sz1 hz hP => ?_)
      obtain ⟨rfl, rfl, rfl⟩ := hP
      refine x_st (st1 := [.int 0]) rfl ?_
      refine x_if_eq 48 44 C0 dX4_hasNoOtherLeaves_41 rfl (by decide) (fun _ => ?_) (fun q => False.elim (by revert q; decide))
      refine x_iconst (v := 0) 49 C0 dX4_hasNoOtherLeaves_48 rfl (by decide) ?_
      exact x_ireturn C0 dX4_hasNoOtherLeaves_49 rfl rfl (Nat.le_of_ble_eq_true rfl) (Nat.le_of_ble_eq_true rfl) ⟨rfl, _, rfl, Or.inr ⟨by simp_all [], rfl, _, _, rfl⟩⟩
    · refine x_aload_n 1 16 C0 dX4_hasNoOtherLeaves_15 rfl rfl rfl ?_
      refine x_getf (v := .int (x (28 + 9 * k + 2))) 3 19 C0 dX4_hasNoOtherLeaves_16 rfl (HR.c hR hk) rfl (by decide) inX1 mF_X4_116 rfl ?_
      refine x_iload_n 3 20 C0 dX4_hasNoOtherLeaves_19 rfl rfl rfl ?_
      refine x_icmp_eq 44 23 C0 dX4_hasNoOtherLeaves_20 rfl (by decide) (fun c4 => ?_) (fun c4 => ?_)
      · refine x_iconst (v := 1) 45 C0 dX4_hasNoOtherLeaves_44 rfl (by decide) ?_
        refine x_goto 49 C0 dX4_hasNoOtherLeaves_45 (by decide) ?_
        exact x_ireturn C0 dX4_hasNoOtherLeaves_49 rfl rfl (Nat.le_of_ble_eq_true rfl) (Nat.le_of_ble_eq_true rfl) ⟨rfl, _, HW_self hR, Or.inl ⟨by simp_all [], rfl, rfl⟩⟩
      · refine x_aload_n 0 24 C0 dX4_hasNoOtherLeaves_23 rfl rfl rfl ?_
        refine x_bipush (v := 7) 26 C0 dX4_hasNoOtherLeaves_24 rfl (by decide) ?_
        refine x_bipush (v := 10) 28 C0 dX4_hasNoOtherLeaves_26 rfl (by decide) ?_
        refine x_aload_n 1 29 C0 dX4_hasNoOtherLeaves_28 rfl rfl rfl ?_
        refine x_getf (v := .int (x (28 + 9 * k + 1))) 2 32 C0 dX4_hasNoOtherLeaves_29 rfl (HR.c hR hk) rfl (by decide) inX1 mF_X4_113 rfl ?_
        refine x_imul 33 C0 dX4_hasNoOtherLeaves_32 rfl ?_
        refine x_aload_n 1 34 C0 dX4_hasNoOtherLeaves_33 rfl rfl rfl ?_
        refine x_getf (v := .int (x (28 + 9 * k + 2))) 3 37 C0 dX4_hasNoOtherLeaves_34 rfl (HR.c hR hk) rfl (by decide) inX1 mF_X4_116 rfl ?_
        refine x_iadd 38 C0 dX4_hasNoOtherLeaves_37 rfl ?_
        refine x_callV 41 C0 (k_X4_refuse l hl g _ _ _ _ _ hR hA 7 ((10 * (x (28 + 9 * k + 1))) + (x (28 + 9 * k + 2)))) dX4_hasNoOtherLeaves_38 rfl mC_X4_refuse mM_X4_81 mI_X4_refuse mV_X4_refuse mN_X4 yd_X4_refuse rfl rfl ⟨Nat.le_of_ble_eq_true rfl, Nat.le_of_ble_eq_true rfl⟩ (HR.ho hR) rfl rfl rfl rfl (Nat.le_of_ble_eq_true rfl) ⟨Nat.le_of_ble_eq_true rfl, Nat.le_of_ble_eq_true rfl⟩ (fun _ _ _ q => False.elim q) (fun r w1 sz1 hz hP => ?_)
        obtain ⟨rfl, rfl, rfl⟩ := hP
        refine x_st (st1 := [.int 0]) rfl ?_
        refine x_if_eq 48 44 C0 dX4_hasNoOtherLeaves_41 rfl (by decide) (fun _ => ?_) (fun q => False.elim (by revert q; decide))
        refine x_iconst (v := 0) 49 C0 dX4_hasNoOtherLeaves_48 rfl (by decide) ?_
        exact x_ireturn C0 dX4_hasNoOtherLeaves_49 rfl rfl (Nat.le_of_ble_eq_true rfl) (Nat.le_of_ble_eq_true rfl) ⟨rfl, _, rfl, Or.inr ⟨by simp_all [], rfl, _, _, rfl⟩⟩

set_option maxHeartbeats 4000000 in
set_option maxRecDepth 100000 in
theorem k_X4_hasRoom (l : Launch) (hl : l.stackTraces = false) (g : xg_T) (w : xw_T) (sz : Nat) (h : Nat) (x : Nat → Int32) (la : Nat → Nat) (hR : HR g w h x la) (hA : xA g h) (k : Nat) (hk : k < 20) (po : Int32) : xM l g yX4_hasRoom cX4_hasRoom 3 (some .boolean) ({ frames := 1, cells := 0, slots := 0, locals := 22 }) 0 0 [.ref h, .ref (h + 3 + k), .int po] w sz (fun r w1 sz1 => sz = sz1 ∧ ∃ x', w1 = HW g w h x' la ∧ chk (po ≤ cRoom (row x k)) x x' r) (fun _ _ _ => False) := by
  refine xM.of RX4 hl (by decide +kernel) rfl (Nat.le_of_ble_eq_true rfl) rfl ?_
  intro p e s m args below meth cD C0 hini
  refine x_aload_n 1 1 C0 dX4_hasRoom_0 rfl rfl rfl ?_
  refine x_callV 4 C0 (k_X1_room l hl g _ _ _ _ _ _ (HR.c hR hk)) dX4_hasRoom_1 rfl mC_X1_room mM_X4_119 mI_X1_room mV_X1_room mN_X1 yd_X1_room rfl rfl ⟨Nat.le_of_ble_eq_true rfl, Nat.le_of_ble_eq_true rfl⟩ (HR.c hR hk) rfl rfl rfl rfl (Nat.le_of_ble_eq_true rfl) ⟨Nat.le_of_ble_eq_true rfl, Nat.le_of_ble_eq_true rfl⟩ (fun _ _ _ q => False.elim q) (fun r w1 sz1 hz hP => ?_)
  obtain ⟨rfl, rfl, rfl⟩ := hP
  refine x_st (st1 := [.int (cRoom (row x k))]) rfl ?_
  refine x_iload_n 2 5 C0 dX4_hasRoom_4 rfl rfl rfl ?_
  refine x_icmp_ge 21 8 C0 dX4_hasRoom_5 rfl (by decide) (fun c1 => ?_) (fun c1 => ?_)
  · have c1' := Int32.not_lt.mpr c1
    refine x_iconst (v := 1) 22 C0 dX4_hasRoom_21 rfl (by decide) ?_
    refine x_goto 26 C0 dX4_hasRoom_22 (by decide) ?_
    exact x_ireturn C0 dX4_hasRoom_26 rfl rfl (Nat.le_of_ble_eq_true rfl) (Nat.le_of_ble_eq_true rfl) ⟨rfl, _, HW_self hR, Or.inl ⟨by simp_all [], rfl, rfl⟩⟩
  · have c1' := Int32.not_le.mp c1
    refine x_aload_n 0 9 C0 dX4_hasRoom_8 rfl rfl rfl ?_
    refine x_bipush (v := 8) 11 C0 dX4_hasRoom_9 rfl (by decide) ?_
    refine x_aload_n 1 12 C0 dX4_hasRoom_11 rfl rfl rfl ?_
    refine x_callV 15 C0 (k_X1_room l hl g _ _ _ _ _ _ (HR.c hR hk)) dX4_hasRoom_12 rfl mC_X1_room mM_X4_119 mI_X1_room mV_X1_room mN_X1 yd_X1_room rfl rfl ⟨Nat.le_of_ble_eq_true rfl, Nat.le_of_ble_eq_true rfl⟩ (HR.c hR hk) rfl rfl rfl rfl (Nat.le_of_ble_eq_true rfl) ⟨Nat.le_of_ble_eq_true rfl, Nat.le_of_ble_eq_true rfl⟩ (fun _ _ _ q => False.elim q) (fun r w1 sz1 hz hP => ?_)
    obtain ⟨rfl, rfl, rfl⟩ := hP
    refine x_st (st1 := [.int (cRoom (row x k)), .int 8, .ref h]) rfl ?_
    refine x_callV 18 C0 (k_X4_refuse l hl g _ _ _ _ _ hR hA 8 (cRoom (row x k))) dX4_hasRoom_15 rfl mC_X4_refuse mM_X4_81 mI_X4_refuse mV_X4_refuse mN_X4 yd_X4_refuse rfl rfl ⟨Nat.le_of_ble_eq_true rfl, Nat.le_of_ble_eq_true rfl⟩ (HR.ho hR) rfl rfl rfl rfl (Nat.le_of_ble_eq_true rfl) ⟨Nat.le_of_ble_eq_true rfl, Nat.le_of_ble_eq_true rfl⟩ (fun _ _ _ q => False.elim q) (fun r w1 sz1 hz hP => ?_)
    obtain ⟨rfl, rfl, rfl⟩ := hP
    refine x_st (st1 := [.int 0]) rfl ?_
    refine x_if_eq 25 21 C0 dX4_hasRoom_18 rfl (by decide) (fun _ => ?_) (fun q => False.elim (by revert q; decide))
    refine x_iconst (v := 0) 26 C0 dX4_hasRoom_25 rfl (by decide) ?_
    exact x_ireturn C0 dX4_hasRoom_26 rfl rfl (Nat.le_of_ble_eq_true rfl) (Nat.le_of_ble_eq_true rfl) ⟨rfl, _, rfl, Or.inr ⟨by simp_all [], rfl, _, _, rfl⟩⟩

set_option maxHeartbeats 4000000 in
set_option maxRecDepth 100000 in
theorem k_X4_hasPounds (l : Launch) (hl : l.stackTraces = false) (g : xg_T) (w : xw_T) (sz : Nat) (h : Nat) (x : Nat → Int32) (la : Nat → Nat) (hR : HR g w h x la) (hA : xA g h) (ga ki po : Int32) : xM l g yX4_hasPounds cX4_hasPounds 4 (some .boolean) ({ frames := 2, cells := 0, slots := 0, locals := 43 }) 0 0 [.ref h, .int ga, .int ki, .int po] w sz (fun r w1 sz1 => sz = sz1 ∧ ∃ x', w1 = HW g w h x' la ∧ chk (po ≤ sGet x ga ki) x x' r) (fun _ _ _ => False) := by
  refine xM.of RX4 hl (by decide +kernel) rfl (Nat.le_of_ble_eq_true rfl) rfl ?_
  intro p e s m args below meth cD C0 hini
  refine x_aload_n 0 1 C0 dX4_hasPounds_0 rfl rfl rfl ?_
  refine x_iload_n 1 2 C0 dX4_hasPounds_1 rfl rfl rfl ?_
  refine x_iload_n 2 3 C0 dX4_hasPounds_2 rfl rfl rfl ?_
  refine x_callV 6 C0 (k_X4_stored l hl g _ _ _ _ _ hR ga ki) dX4_hasPounds_3 rfl mC_X4_stored mM_X4_73 mI_X4_stored mV_X4_stored mN_X4 yd_X4_stored rfl rfl ⟨Nat.le_of_ble_eq_true rfl, Nat.le_of_ble_eq_true rfl⟩ (HR.ho hR) rfl rfl rfl rfl (Nat.le_of_ble_eq_true rfl) ⟨Nat.le_of_ble_eq_true rfl, Nat.le_of_ble_eq_true rfl⟩ (fun _ _ _ q => False.elim q) (fun r w1 sz1 hz hP => ?_)
  obtain ⟨rfl, rfl, rfl⟩ := hP
  refine x_st (st1 := [.int (sGet x ga ki)]) rfl ?_
  refine x_iload_n 3 7 C0 dX4_hasPounds_6 rfl rfl rfl ?_
  refine x_icmp_ge 25 10 C0 dX4_hasPounds_7 rfl (by decide) (fun c1 => ?_) (fun c1 => ?_)
  · have c1' := Int32.not_lt.mpr c1
    refine x_iconst (v := 1) 26 C0 dX4_hasPounds_25 rfl (by decide) ?_
    refine x_goto 30 C0 dX4_hasPounds_26 (by decide) ?_
    exact x_ireturn C0 dX4_hasPounds_30 rfl rfl (Nat.le_of_ble_eq_true rfl) (Nat.le_of_ble_eq_true rfl) ⟨rfl, _, HW_self hR, Or.inl ⟨by simp_all [], rfl, rfl⟩⟩
  · have c1' := Int32.not_le.mp c1
    refine x_aload_n 0 11 C0 dX4_hasPounds_10 rfl rfl rfl ?_
    refine x_bipush (v := 9) 13 C0 dX4_hasPounds_11 rfl (by decide) ?_
    refine x_aload_n 0 14 C0 dX4_hasPounds_13 rfl rfl rfl ?_
    refine x_iload_n 1 15 C0 dX4_hasPounds_14 rfl rfl rfl ?_
    refine x_iload_n 2 16 C0 dX4_hasPounds_15 rfl rfl rfl ?_
    refine x_callV 19 C0 (k_X4_stored l hl g _ _ _ _ _ hR ga ki) dX4_hasPounds_16 rfl mC_X4_stored mM_X4_73 mI_X4_stored mV_X4_stored mN_X4 yd_X4_stored rfl rfl ⟨Nat.le_of_ble_eq_true rfl, Nat.le_of_ble_eq_true rfl⟩ (HR.ho hR) rfl rfl rfl rfl (Nat.le_of_ble_eq_true rfl) ⟨Nat.le_of_ble_eq_true rfl, Nat.le_of_ble_eq_true rfl⟩ (fun _ _ _ q => False.elim q) (fun r w1 sz1 hz hP => ?_)
    obtain ⟨rfl, rfl, rfl⟩ := hP
    refine x_st (st1 := [.int (sGet x ga ki), .int 9, .ref h]) rfl ?_
    refine x_callV 22 C0 (k_X4_refuse l hl g _ _ _ _ _ hR hA 9 (sGet x ga ki)) dX4_hasPounds_19 rfl mC_X4_refuse mM_X4_81 mI_X4_refuse mV_X4_refuse mN_X4 yd_X4_refuse rfl rfl ⟨Nat.le_of_ble_eq_true rfl, Nat.le_of_ble_eq_true rfl⟩ (HR.ho hR) rfl rfl rfl rfl (Nat.le_of_ble_eq_true rfl) ⟨Nat.le_of_ble_eq_true rfl, Nat.le_of_ble_eq_true rfl⟩ (fun _ _ _ q => False.elim q) (fun r w1 sz1 hz hP => ?_)
    obtain ⟨rfl, rfl, rfl⟩ := hP
    refine x_st (st1 := [.int 0]) rfl ?_
    refine x_if_eq 29 25 C0 dX4_hasPounds_22 rfl (by decide) (fun _ => ?_) (fun q => False.elim (by revert q; decide))
    refine x_iconst (v := 0) 30 C0 dX4_hasPounds_29 rfl (by decide) ?_
    exact x_ireturn C0 dX4_hasPounds_30 rfl rfl (Nat.le_of_ble_eq_true rfl) (Nat.le_of_ble_eq_true rfl) ⟨rfl, _, rfl, Or.inr ⟨by simp_all [], rfl, _, _, rfl⟩⟩

set_option maxHeartbeats 4000000 in
set_option maxRecDepth 100000 in
theorem k_X4_isFilled (l : Launch) (hl : l.stackTraces = false) (g : xg_T) (w : xw_T) (sz : Nat) (h : Nat) (x : Nat → Int32) (la : Nat → Nat) (hR : HR g w h x la) (hA : xA g h) (k : Nat) (hk : k < 20) : xM l g yX4_isFilled cX4_isFilled 2 (some .boolean) ({ frames := 1, cells := 0, slots := 0, locals := 22 }) 0 0 [.ref h, .ref (h + 3 + k)] w sz (fun r w1 sz1 => sz = sz1 ∧ ∃ x', w1 = HW g w h x' la ∧ chk (0 < x (28 + 9 * k + 3)) x x' r) (fun _ _ _ => False) := by
  refine xM.of RX4 hl (by decide +kernel) rfl (Nat.le_of_ble_eq_true rfl) rfl ?_
  intro p e s m args below meth cD C0 hini
  refine x_aload_n 1 1 C0 dX4_isFilled_0 rfl rfl rfl ?_
  refine x_getf (v := .int (x (28 + 9 * k + 3))) 4 4 C0 dX4_isFilled_1 rfl (HR.c hR hk) rfl (by decide) inX1 mF_X4_110 rfl ?_
  refine x_if_gt 20 7 C0 dX4_isFilled_4 rfl (by decide) (fun c1 => ?_) (fun c1 => ?_)
  · have c1' := Int32.not_le.mpr c1
    refine x_iconst (v := 1) 21 C0 dX4_isFilled_20 rfl (by decide) ?_
    refine x_goto 25 C0 dX4_isFilled_21 (by decide) ?_
    exact x_ireturn C0 dX4_isFilled_25 rfl rfl (Nat.le_of_ble_eq_true rfl) (Nat.le_of_ble_eq_true rfl) ⟨rfl, _, HW_self hR, Or.inl ⟨by simp_all [], rfl, rfl⟩⟩
  · have c1' := Int32.not_lt.mp c1
    refine x_aload_n 0 8 C0 dX4_isFilled_7 rfl rfl rfl ?_
    refine x_bipush (v := 10) 10 C0 dX4_isFilled_8 rfl (by decide) ?_
    refine x_aload_n 1 11 C0 dX4_isFilled_10 rfl rfl rfl ?_
    refine x_getf (v := .int (nI k)) 0 14 C0 dX4_isFilled_11 rfl (HR.c hR hk) rfl (by decide) inX1 mF_X4_123 rfl ?_
    refine x_callV 17 C0 (k_X4_refuse l hl g _ _ _ _ _ hR hA 10 (nI k)) dX4_isFilled_14 rfl mC_X4_refuse mM_X4_81 mI_X4_refuse mV_X4_refuse mN_X4 yd_X4_refuse rfl rfl ⟨Nat.le_of_ble_eq_true rfl, Nat.le_of_ble_eq_true rfl⟩ (HR.ho hR) rfl rfl rfl rfl (Nat.le_of_ble_eq_true rfl) ⟨Nat.le_of_ble_eq_true rfl, Nat.le_of_ble_eq_true rfl⟩ (fun _ _ _ q => False.elim q) (fun r w1 sz1 hz hP => ?_)
    obtain ⟨rfl, rfl, rfl⟩ := hP
    refine x_st (st1 := [.int 0]) rfl ?_
    refine x_if_eq 24 20 C0 dX4_isFilled_17 rfl (by decide) (fun _ => ?_) (fun q => False.elim (by revert q; decide))
    refine x_iconst (v := 0) 25 C0 dX4_isFilled_24 rfl (by decide) ?_
    exact x_ireturn C0 dX4_isFilled_25 rfl rfl (Nat.le_of_ble_eq_true rfl) (Nat.le_of_ble_eq_true rfl) ⟨rfl, _, rfl, Or.inr ⟨by simp_all [], rfl, _, _, rfl⟩⟩

set_option maxHeartbeats 4000000 in
set_option maxRecDepth 100000 in
theorem k_X4_hasScrews (l : Launch) (hl : l.stackTraces = false) (g : xg_T) (w : xw_T) (sz : Nat) (h : Nat) (x : Nat → Int32) (la : Nat → Nat) (hR : HR g w h x la) (hA : xA g h) (mn : Int32) : xM l g yX4_hasScrews cX4_hasScrews 2 (some .boolean) ({ frames := 1, cells := 0, slots := 0, locals := 22 }) 0 0 [.ref h, .int mn] w sz (fun r w1 sz1 => sz = sz1 ∧ ∃ x', w1 = HW g w h x' la ∧ chk (mn ≤ x 2) x x' r) (fun _ _ _ => False) := by
  refine xM.of RX4 hl (by decide +kernel) rfl (Nat.le_of_ble_eq_true rfl) rfl ?_
  intro p e s m args below meth cD C0 hini
  refine x_aload_n 0 1 C0 dX4_hasScrews_0 rfl rfl rfl ?_
  refine x_getf (v := .int (x 2)) 4 4 C0 dX4_hasScrews_1 rfl (HR.ho hR) rfl (by decide) inX4 mF_X4_29 rfl ?_
  refine x_iload_n 1 5 C0 dX4_hasScrews_4 rfl rfl rfl ?_
  refine x_icmp_ge 21 8 C0 dX4_hasScrews_5 rfl (by decide) (fun c1 => ?_) (fun c1 => ?_)
  · have c1' := Int32.not_lt.mpr c1
    refine x_iconst (v := 1) 22 C0 dX4_hasScrews_21 rfl (by decide) ?_
    refine x_goto 26 C0 dX4_hasScrews_22 (by decide) ?_
    exact x_ireturn C0 dX4_hasScrews_26 rfl rfl (Nat.le_of_ble_eq_true rfl) (Nat.le_of_ble_eq_true rfl) ⟨rfl, _, HW_self hR, Or.inl ⟨by simp_all [], rfl, rfl⟩⟩
  · have c1' := Int32.not_le.mp c1
    refine x_aload_n 0 9 C0 dX4_hasScrews_8 rfl rfl rfl ?_
    refine x_bipush (v := 11) 11 C0 dX4_hasScrews_9 rfl (by decide) ?_
    refine x_aload_n 0 12 C0 dX4_hasScrews_11 rfl rfl rfl ?_
    refine x_getf (v := .int (x 2)) 4 15 C0 dX4_hasScrews_12 rfl (HR.ho hR) rfl (by decide) inX4 mF_X4_29 rfl ?_
    refine x_callV 18 C0 (k_X4_refuse l hl g _ _ _ _ _ hR hA 11 (x 2)) dX4_hasScrews_15 rfl mC_X4_refuse mM_X4_81 mI_X4_refuse mV_X4_refuse mN_X4 yd_X4_refuse rfl rfl ⟨Nat.le_of_ble_eq_true rfl, Nat.le_of_ble_eq_true rfl⟩ (HR.ho hR) rfl rfl rfl rfl (Nat.le_of_ble_eq_true rfl) ⟨Nat.le_of_ble_eq_true rfl, Nat.le_of_ble_eq_true rfl⟩ (fun _ _ _ q => False.elim q) (fun r w1 sz1 hz hP => ?_)
    obtain ⟨rfl, rfl, rfl⟩ := hP
    refine x_st (st1 := [.int 0]) rfl ?_
    refine x_if_eq 25 21 C0 dX4_hasScrews_18 rfl (by decide) (fun _ => ?_) (fun q => False.elim (by revert q; decide))
    refine x_iconst (v := 0) 26 C0 dX4_hasScrews_25 rfl (by decide) ?_
    exact x_ireturn C0 dX4_hasScrews_26 rfl rfl (Nat.le_of_ble_eq_true rfl) (Nat.le_of_ble_eq_true rfl) ⟨rfl, _, rfl, Or.inr ⟨by simp_all [], rfl, _, _, rfl⟩⟩

set_option maxHeartbeats 4000000 in
set_option maxRecDepth 100000 in
theorem k_X4_takesScrews (l : Launch) (hl : l.stackTraces = false) (g : xg_T) (w : xw_T) (sz : Nat) (h : Nat) (x : Nat → Int32) (la : Nat → Nat) (hR : HR g w h x la) (hA : xA g h) (k : Nat) (hk : k < 20) (mn : Int32) : xM l g yX4_takesScrews cX4_takesScrews 3 (some .boolean) ({ frames := 1, cells := 0, slots := 0, locals := 22 }) 0 0 [.ref h, .ref (h + 3 + k), .int mn] w sz (fun r w1 sz1 => sz = sz1 ∧ ∃ x', w1 = HW g w h x' la ∧ chk (x (28 + 9 * k + 5) + mn ≤ 8) x x' r) (fun _ _ _ => False) := by
  refine xM.of RX4 hl (by decide +kernel) rfl (Nat.le_of_ble_eq_true rfl) rfl ?_
  intro p e s m args below meth cD C0 hini
  refine x_aload_n 1 1 C0 dX4_takesScrews_0 rfl rfl rfl ?_
  refine x_getf (v := .int (x (28 + 9 * k + 5))) 6 4 C0 dX4_takesScrews_1 rfl (HR.c hR hk) rfl (by decide) inX1 mF_X4_102 rfl ?_
  refine x_iload_n 2 5 C0 dX4_takesScrews_4 rfl rfl rfl ?_
  refine x_iadd 6 C0 dX4_takesScrews_5 rfl ?_
  refine x_bipush (v := 8) 8 C0 dX4_takesScrews_6 rfl (by decide) ?_
  refine x_icmp_le 24 11 C0 dX4_takesScrews_8 rfl (by decide) (fun c1 => ?_) (fun c1 => ?_)
  · have c1' := Int32.not_lt.mpr c1
    refine x_iconst (v := 1) 25 C0 dX4_takesScrews_24 rfl (by decide) ?_
    refine x_goto 29 C0 dX4_takesScrews_25 (by decide) ?_
    exact x_ireturn C0 dX4_takesScrews_29 rfl rfl (Nat.le_of_ble_eq_true rfl) (Nat.le_of_ble_eq_true rfl) ⟨rfl, _, HW_self hR, Or.inl ⟨by simp_all [], rfl, rfl⟩⟩
  · have c1' := Int32.not_le.mp c1
    refine x_aload_n 0 12 C0 dX4_takesScrews_11 rfl rfl rfl ?_
    refine x_bipush (v := 12) 14 C0 dX4_takesScrews_12 rfl (by decide) ?_
    refine x_aload_n 1 15 C0 dX4_takesScrews_14 rfl rfl rfl ?_
    refine x_getf (v := .int (x (28 + 9 * k + 5))) 6 18 C0 dX4_takesScrews_15 rfl (HR.c hR hk) rfl (by decide) inX1 mF_X4_102 rfl ?_
    refine x_callV 21 C0 (k_X4_refuse l hl g _ _ _ _ _ hR hA 12 (x (28 + 9 * k + 5))) dX4_takesScrews_18 rfl mC_X4_refuse mM_X4_81 mI_X4_refuse mV_X4_refuse mN_X4 yd_X4_refuse rfl rfl ⟨Nat.le_of_ble_eq_true rfl, Nat.le_of_ble_eq_true rfl⟩ (HR.ho hR) rfl rfl rfl rfl (Nat.le_of_ble_eq_true rfl) ⟨Nat.le_of_ble_eq_true rfl, Nat.le_of_ble_eq_true rfl⟩ (fun _ _ _ q => False.elim q) (fun r w1 sz1 hz hP => ?_)
    obtain ⟨rfl, rfl, rfl⟩ := hP
    refine x_st (st1 := [.int 0]) rfl ?_
    refine x_if_eq 28 24 C0 dX4_takesScrews_21 rfl (by decide) (fun _ => ?_) (fun q => False.elim (by revert q; decide))
    refine x_iconst (v := 0) 29 C0 dX4_takesScrews_28 rfl (by decide) ?_
    exact x_ireturn C0 dX4_takesScrews_29 rfl rfl (Nat.le_of_ble_eq_true rfl) (Nat.le_of_ble_eq_true rfl) ⟨rfl, _, rfl, Or.inr ⟨by simp_all [], rfl, _, _, rfl⟩⟩

set_option maxHeartbeats 4000000 in
set_option maxRecDepth 100000 in
theorem k_X4_isOnQuay (l : Launch) (hl : l.stackTraces = false) (g : xg_T) (w : xw_T) (sz : Nat) (h : Nat) (x : Nat → Int32) (la : Nat → Nat) (hR : HR g w h x la) (hA : xA g h) (k : Nat) (hk : k < 20) : xM l g yX4_isOnQuay cX4_isOnQuay 2 (some .boolean) ({ frames := 1, cells := 0, slots := 0, locals := 22 }) 0 0 [.ref h, .ref (h + 3 + k)] w sz (fun r w1 sz1 => sz = sz1 ∧ ∃ x', w1 = HW g w h x' la ∧ chk (x (28 + 9 * k + 7) = 1) x x' r) (fun _ _ _ => False) := by
  refine xM.of RX4 hl (by decide +kernel) rfl (Nat.le_of_ble_eq_true rfl) rfl ?_
  intro p e s m args below meth cD C0 hini
  refine x_aload_n 1 1 C0 dX4_isOnQuay_0 rfl rfl rfl ?_
  refine x_getf (v := .int (x (28 + 9 * k + 7))) 8 4 C0 dX4_isOnQuay_1 rfl (HR.c hR hk) rfl (by decide) inX1 mF_X4_99 rfl ?_
  refine x_iconst (v := 1) 5 C0 dX4_isOnQuay_4 rfl (by decide) ?_
  refine x_icmp_eq 21 8 C0 dX4_isOnQuay_5 rfl (by decide) (fun c1 => ?_) (fun c1 => ?_)
  · refine x_iconst (v := 1) 22 C0 dX4_isOnQuay_21 rfl (by decide) ?_
    refine x_goto 26 C0 dX4_isOnQuay_22 (by decide) ?_
    exact x_ireturn C0 dX4_isOnQuay_26 rfl rfl (Nat.le_of_ble_eq_true rfl) (Nat.le_of_ble_eq_true rfl) ⟨rfl, _, HW_self hR, Or.inl ⟨by simp_all [], rfl, rfl⟩⟩
  · refine x_aload_n 0 9 C0 dX4_isOnQuay_8 rfl rfl rfl ?_
    refine x_bipush (v := 15) 11 C0 dX4_isOnQuay_9 rfl (by decide) ?_
    refine x_aload_n 1 12 C0 dX4_isOnQuay_11 rfl rfl rfl ?_
    refine x_getf (v := .int (x (28 + 9 * k + 7))) 8 15 C0 dX4_isOnQuay_12 rfl (HR.c hR hk) rfl (by decide) inX1 mF_X4_99 rfl ?_
    refine x_callV 18 C0 (k_X4_refuse l hl g _ _ _ _ _ hR hA 15 (x (28 + 9 * k + 7))) dX4_isOnQuay_15 rfl mC_X4_refuse mM_X4_81 mI_X4_refuse mV_X4_refuse mN_X4 yd_X4_refuse rfl rfl ⟨Nat.le_of_ble_eq_true rfl, Nat.le_of_ble_eq_true rfl⟩ (HR.ho hR) rfl rfl rfl rfl (Nat.le_of_ble_eq_true rfl) ⟨Nat.le_of_ble_eq_true rfl, Nat.le_of_ble_eq_true rfl⟩ (fun _ _ _ q => False.elim q) (fun r w1 sz1 hz hP => ?_)
    obtain ⟨rfl, rfl, rfl⟩ := hP
    refine x_st (st1 := [.int 0]) rfl ?_
    refine x_if_eq 25 21 C0 dX4_isOnQuay_18 rfl (by decide) (fun _ => ?_) (fun q => False.elim (by revert q; decide))
    refine x_iconst (v := 0) 26 C0 dX4_isOnQuay_25 rfl (by decide) ?_
    exact x_ireturn C0 dX4_isOnQuay_26 rfl rfl (Nat.le_of_ble_eq_true rfl) (Nat.le_of_ble_eq_true rfl) ⟨rfl, _, rfl, Or.inr ⟨by simp_all [], rfl, _, _, rfl⟩⟩

set_option maxHeartbeats 4000000 in
set_option maxRecDepth 100000 in
theorem k_X4_isShipReached (l : Launch) (hl : l.stackTraces = false) (g : xg_T) (w : xw_T) (sz : Nat) (h : Nat) (x : Nat → Int32) (la : Nat → Nat) (hR : HR g w h x la) (hA : xA g h) : xM l g yX4_isShipReached cX4_isShipReached 1 (some .boolean) ({ frames := 2, cells := 0, slots := 0, locals := 34 }) 0 0 [.ref h] w sz (fun r w1 sz1 => sz = sz1 ∧ ∃ x', w1 = HW g w h x' la ∧ chk (3 ≤ tide (x 0) 0) x x' r) (fun _ _ _ => False) := by
  refine xM.of RX4 hl (by decide +kernel) rfl (Nat.le_of_ble_eq_true rfl) rfl ?_
  intro p e s m args below meth cD C0 hini
  refine x_aload_n 0 1 C0 dX4_isShipReached_0 rfl rfl rfl ?_
  refine x_iconst (v := 0) 2 C0 dX4_isShipReached_1 rfl (by decide) ?_
  refine x_callV 5 C0 (k_X4_heightIn l hl g _ _ _ _ _ hR 0) dX4_isShipReached_2 rfl mC_X4_heightIn mM_X4_133 mI_X4_heightIn mV_X4_heightIn mN_X4 yd_X4_heightIn rfl rfl ⟨Nat.le_of_ble_eq_true rfl, Nat.le_of_ble_eq_true rfl⟩ (HR.ho hR) rfl rfl rfl rfl (Nat.le_of_ble_eq_true rfl) ⟨Nat.le_of_ble_eq_true rfl, Nat.le_of_ble_eq_true rfl⟩ (fun _ _ _ q => False.elim q) (fun r w1 sz1 hz hP => ?_)
  obtain ⟨rfl, rfl, rfl⟩ := hP
  refine x_st (st1 := [.int (tide (x 0) 0)]) rfl ?_
  refine x_iconst (v := 3) 6 C0 dX4_isShipReached_5 rfl (by decide) ?_
  refine x_icmp_ge 23 9 C0 dX4_isShipReached_6 rfl (by decide) (fun c1 => ?_) (fun c1 => ?_)
  · have c1' := Int32.not_lt.mpr c1
    refine x_iconst (v := 1) 24 C0 dX4_isShipReached_23 rfl (by decide) ?_
    refine x_goto 28 C0 dX4_isShipReached_24 (by decide) ?_
    exact x_ireturn C0 dX4_isShipReached_28 rfl rfl (Nat.le_of_ble_eq_true rfl) (Nat.le_of_ble_eq_true rfl) ⟨rfl, _, HW_self hR, Or.inl ⟨by simp_all [], rfl, rfl⟩⟩
  · have c1' := Int32.not_le.mp c1
    refine x_aload_n 0 10 C0 dX4_isShipReached_9 rfl rfl rfl ?_
    refine x_bipush (v := 16) 12 C0 dX4_isShipReached_10 rfl (by decide) ?_
    refine x_aload_n 0 13 C0 dX4_isShipReached_12 rfl rfl rfl ?_
    refine x_iconst (v := 0) 14 C0 dX4_isShipReached_13 rfl (by decide) ?_
    refine x_callV 17 C0 (k_X4_heightIn l hl g _ _ _ _ _ hR 0) dX4_isShipReached_14 rfl mC_X4_heightIn mM_X4_133 mI_X4_heightIn mV_X4_heightIn mN_X4 yd_X4_heightIn rfl rfl ⟨Nat.le_of_ble_eq_true rfl, Nat.le_of_ble_eq_true rfl⟩ (HR.ho hR) rfl rfl rfl rfl (Nat.le_of_ble_eq_true rfl) ⟨Nat.le_of_ble_eq_true rfl, Nat.le_of_ble_eq_true rfl⟩ (fun _ _ _ q => False.elim q) (fun r w1 sz1 hz hP => ?_)
    obtain ⟨rfl, rfl, rfl⟩ := hP
    refine x_st (st1 := [.int (tide (x 0) 0), .int 16, .ref h]) rfl ?_
    refine x_callV 20 C0 (k_X4_refuse l hl g _ _ _ _ _ hR hA 16 (tide (x 0) 0)) dX4_isShipReached_17 rfl mC_X4_refuse mM_X4_81 mI_X4_refuse mV_X4_refuse mN_X4 yd_X4_refuse rfl rfl ⟨Nat.le_of_ble_eq_true rfl, Nat.le_of_ble_eq_true rfl⟩ (HR.ho hR) rfl rfl rfl rfl (Nat.le_of_ble_eq_true rfl) ⟨Nat.le_of_ble_eq_true rfl, Nat.le_of_ble_eq_true rfl⟩ (fun _ _ _ q => False.elim q) (fun r w1 sz1 hz hP => ?_)
    obtain ⟨rfl, rfl, rfl⟩ := hP
    refine x_st (st1 := [.int 0]) rfl ?_
    refine x_if_eq 27 23 C0 dX4_isShipReached_20 rfl (by decide) (fun _ => ?_) (fun q => False.elim (by revert q; decide))
    refine x_iconst (v := 0) 28 C0 dX4_isShipReached_27 rfl (by decide) ?_
    exact x_ireturn C0 dX4_isShipReached_28 rfl rfl (Nat.le_of_ble_eq_true rfl) (Nat.le_of_ble_eq_true rfl) ⟨rfl, _, rfl, Or.inr ⟨by simp_all [], rfl, _, _, rfl⟩⟩

/-- what the rounds over the chests gather: v of those of which q holds -/
def hFold (q : Nat → Bool) (v : Nat → Int32) : Nat → Int32
  | 0 => 0
  | n + 1 => if q n = true then hFold q v n + v n else hFold q v n
def hRoom (x : Nat → Int32) : Nat → Int32
  | 0 => 12
  | n + 1 => if x (28 + 9 * n + 7) = 2 then hRoom x n - x (28 + 9 * n + 0) else hRoom x n
def isAt (x : Nat → Int32) (wh : Int32) (n : Nat) : Bool := decide (x (28 + 9 * n + 7) = wh)
def nAt (x : Nat → Int32) (wh : Int32) (n : Nat) : Int32 := hFold (isAt x wh) (fun _ => 1) n
def packedN (x : Nat → Int32) (n : Nat) : Int32 := hFold (fun n => cThere (row x n)) (fun n => x (28 + 9 * n + 3)) n
def filledN (x : Nat → Int32) (n : Nat) : Int32 := hFold (fun n => cThere (row x n) && decide (0 < x (28 + 9 * n + 3))) (fun _ => 1) n
def dampN (x : Nat → Int32) (n : Nat) : Int32 := hFold (fun n => cThere (row x n)) (fun n => x (28 + 9 * n + 6)) n
def cargoN (x : Nat → Int32) (n : Nat) : Int32 := hFold (isAt x 2) (fun n => cCoins (row x n)) n
def placeN (x : Nat → Int32) (k : Nat) (n : Nat) : Int32 := hFold (fun n => cThere (row x n) && cBefore (nI n) (row x n) (nI k) (row x k)) (fun _ => 1) n
def dampAll (x : Nat → Int32) : Nat → (Nat → Int32)
  | 0 => x
  | n + 1 => setRow (dampAll x n) n (cDamper (row (dampAll x n) n))
def hourP (x : Nat → Int32) : Nat → Int32 := if 5 ≤ x 5 then dampAll (upd x 0 (x 0 + 1)) 20 else upd x 0 (x 0 + 1)
def passN (x : Nat → Int32) : Nat → (Nat → Int32)
  | 0 => x
  | n + 1 => hourP (passN x n)
def sailAll (x : Nat → Int32) : Nat → (Nat → Int32)
  | 0 => x
  | n + 1 => if sailAll x n (28 + 9 * n + 7) = 2 then upd (upd (sailAll x n) (28 + 9 * n + 7) 3) 7 (sailAll x n 7 + sailAll x n (28 + 9 * n + 3)) else sailAll x n
set_option maxHeartbeats 4000000 in
set_option maxRecDepth 100000 in
theorem k_X4_chestsAt (l : Launch) (hl : l.stackTraces = false) (g : xg_T) (w : xw_T) (sz : Nat) (h : Nat) (x : Nat → Int32) (la : Nat → Nat) (hR : HR g w h x la) (wh : Int32) : xM l g yX4_chestsAt cX4_chestsAt 7 (some .int) ({ frames := 0, cells := 0, slots := 0, locals := 0 }) 0 0 [.ref h, .int wh] w sz (fun r w1 sz1 => r = some (.int (nAt x wh 20)) ∧ w = w1 ∧ sz = sz1) (fun _ _ _ => False) := by
  refine xM.of RX4 hl (by decide +kernel) rfl (Nat.le_of_ble_eq_true rfl) rfl ?_
  intro p e s m args below meth cD C0 hini
  refine x_iconst (v := 0) 1 C0 dX4_chestsAt_0 rfl (by decide) ?_
  refine x_istore_n [(2, .int 0), (0, .ref h), (1, .int wh)] 2 C0 dX4_chestsAt_1 rfl rfl (by decide) rfl ?_
  refine x_lv (lv1 := [(0, .ref h), (1, .int wh), (2, .int 0)]) [1, 2, 0] rfl ?_
  refine x_aload_n 0 3 C0 dX4_chestsAt_2 rfl rfl rfl ?_
  refine x_getf (v := .ref (h + 2)) 1 6 C0 dX4_chestsAt_3 rfl (HR.ho hR) rfl (by decide) inX4 mF_X4_21 rfl ?_
  refine x_astore_n [(3, .ref (h + 2)), (0, .ref h), (1, .int wh), (2, .int 0)] 7 C0 dX4_chestsAt_6 rfl rfl (by decide) rfl ?_
  refine x_lv (lv1 := [(0, .ref h), (1, .int wh), (2, .int 0), (3, .ref (h + 2))]) [1, 2, 3, 0] rfl ?_
  refine x_aload_n 3 8 C0 dX4_chestsAt_7 rfl rfl rfl ?_
  refine x_alen 5 9 C0 (v := 20) dX4_chestsAt_8 rfl (HR.cs hR) rfl rfl ?_
  refine x_istore [(4, .int 20), (0, .ref h), (1, .int wh), (2, .int 0), (3, .ref (h + 2))] 11 C0 dX4_chestsAt_9 rfl (by decide) rfl ?_
  refine x_lv (lv1 := [(0, .ref h), (1, .int wh), (2, .int 0), (3, .ref (h + 2)), (4, .int 20)]) [1, 2, 3, 4, 0] rfl ?_
  refine x_iconst (v := 0) 12 C0 dX4_chestsAt_11 rfl (by decide) ?_
  refine x_istore [(5, .int 0), (0, .ref h), (1, .int wh), (2, .int 0), (3, .ref (h + 2)), (4, .int 20)] 14 C0 dX4_chestsAt_12 rfl (by decide) rfl ?_
  refine x_lv (lv1 := [(0, .ref h), (1, .int wh), (2, .int 0), (3, .ref (h + 2)), (4, .int 20), (5, .int 0)]) [1, 2, 3, 4, 5, 0] rfl ?_
  have loop14 : ∀ (N i : Nat), i ≤ 20 → 20 - i < N → xV p l e ({ frames := 0, cells := 0, slots := 0, locals := 0 }) s m args below meth cD (xQ g below (fun r w1 sz1 => r = some (.int (nAt x wh 20)) ∧ w = w1 ∧ sz = sz1) (fun _ _ _ => False) args s 0 0) g 7 w sz (0) (0) 14 [(0, .ref h), (1, .int wh), (2, .int (nAt x wh i)), (3, .ref (h + 2)), (4, .int 20), (5, .int (nI i))] [] := by
    intro N
    induction N with
    | zero => intro i h1 h2; omega
    | succ N ih =>
      intro i hi hN
      refine x_iload 5 16 C0 dX4_chestsAt_14 rfl rfl ?_
      refine x_iload 4 18 C0 dX4_chestsAt_16 rfl rfl ?_
      refine x_icmp_ge 45 21 C0 dX4_chestsAt_18 rfl (by decide) (fun c1 => ?_) (fun c1 => ?_)
      · have hI := ix_eq 20 rfl (by decide) hi c1
        subst hI
        refine x_iload_n 2 46 C0 dX4_chestsAt_45 rfl rfl rfl ?_
        exact x_ireturn C0 dX4_chestsAt_46 rfl rfl (Nat.le_of_ble_eq_true rfl) (Nat.le_of_ble_eq_true rfl) (by refine ⟨?_, rfl, rfl⟩; rfl)
      · have hi2 := ix_lt 20 rfl (by decide) hi c1
        refine x_aload_n 3 22 C0 dX4_chestsAt_21 rfl rfl rfl ?_
        refine x_iload 5 24 C0 dX4_chestsAt_22 rfl rfl ?_
        refine x_aald 5 25 C0 dX4_chestsAt_24 rfl (HR.cs hR) rfl (vp_in_nI hi2 (by decide)) ?_
        refine x_st (st1 := [.ref (h + 3 + i)]) (congrArg (· :: _) (chRef hi2)) ?_
        refine x_astore [(6, .ref (h + 3 + i)), (0, .ref h), (1, .int wh), (2, .int (nAt x wh i)), (3, .ref (h + 2)), (4, .int 20), (5, .int (nI i))] 27 C0 dX4_chestsAt_25 rfl (by decide) rfl ?_
        refine x_lv (lv1 := [(0, .ref h), (1, .int wh), (2, .int (nAt x wh i)), (3, .ref (h + 2)), (4, .int 20), (5, .int (nI i)), (6, .ref (h + 3 + i))]) [1, 2, 3, 4, 5, 6, 0] rfl ?_
        refine x_aload 6 29 C0 dX4_chestsAt_27 rfl rfl ?_
        refine x_getf (v := .int (x (28 + 9 * i + 7))) 8 32 C0 dX4_chestsAt_29 rfl (HR.c hR hi2) rfl (by decide) inX1 mF_X4_99 rfl ?_
        refine x_iload_n 1 33 C0 dX4_chestsAt_32 rfl rfl rfl ?_
        refine x_icmp_ne 39 36 C0 dX4_chestsAt_33 rfl (by decide) (fun c2 => ?_) (fun c2 => ?_)
        · refine x_iinc [(5, .int (nI (i + 1))), (0, .ref h), (1, .int wh), (2, .int (nAt x wh i)), (3, .ref (h + 2)), (4, .int 20), (6, .ref (h + 3 + i))] 5 42 C0 dX4_chestsAt_39 rfl rfl (nI_1 i) (by decide) rfl ?_
          refine x_lv (lv1 := [(0, .ref h), (1, .int wh), (2, .int (nAt x wh i)), (3, .ref (h + 2)), (4, .int 20), (5, .int (nI (i + 1))), (6, .ref (h + 3 + i))]) [1, 2, 3, 4, 5, 0, 6] rfl ?_
          refine x_goto 14 C0 dX4_chestsAt_42 (by decide) ?_
          have q9 := ih (i + 1) (by omega) (by omega)
          rw [show nAt x wh (i + 1) = nAt x wh i from by simp [nAt, hFold, isAt, c2]] at q9
          exact x_lv [0, 1, 2, 3, 4, 5] rfl q9
        · refine x_iinc [(2, .int ((nAt x wh i) + 1)), (0, .ref h), (1, .int wh), (3, .ref (h + 2)), (4, .int 20), (5, .int (nI i)), (6, .ref (h + 3 + i))] 2 39 C0 dX4_chestsAt_36 rfl rfl rfl (by decide) rfl ?_
          refine x_lv (lv1 := [(0, .ref h), (1, .int wh), (2, .int ((nAt x wh i) + 1)), (3, .ref (h + 2)), (4, .int 20), (5, .int (nI i)), (6, .ref (h + 3 + i))]) [1, 2, 0, 3, 4, 5, 6] rfl ?_
          refine x_iinc [(5, .int (nI (i + 1))), (0, .ref h), (1, .int wh), (2, .int ((nAt x wh i) + 1)), (3, .ref (h + 2)), (4, .int 20), (6, .ref (h + 3 + i))] 5 42 C0 dX4_chestsAt_39 rfl rfl (nI_1 i) (by decide) rfl ?_
          refine x_lv (lv1 := [(0, .ref h), (1, .int wh), (2, .int ((nAt x wh i) + 1)), (3, .ref (h + 2)), (4, .int 20), (5, .int (nI (i + 1))), (6, .ref (h + 3 + i))]) [1, 2, 3, 4, 5, 0, 6] rfl ?_
          refine x_goto 14 C0 dX4_chestsAt_42 (by decide) ?_
          have q9 := ih (i + 1) (by omega) (by omega)
          rw [show nAt x wh (i + 1) = (nAt x wh i) + 1 from by simp [nAt, hFold, isAt, c2]] at q9
          exact x_lv [0, 1, 2, 3, 4, 5] rfl q9
  exact x_lv [0, 1, 2, 3, 4, 5] rfl (loop14 21 0 (by omega) (by omega))

set_option maxHeartbeats 4000000 in
set_option maxRecDepth 100000 in
theorem k_X4_poundsInChests (l : Launch) (hl : l.stackTraces = false) (g : xg_T) (w : xw_T) (sz : Nat) (h : Nat) (x : Nat → Int32) (la : Nat → Nat) (hR : HR g w h x la) : xM l g yX4_poundsInChests cX4_poundsInChests 6 (some .int) ({ frames := 1, cells := 0, slots := 0, locals := 20 }) 0 0 [.ref h] w sz (fun r w1 sz1 => r = some (.int (packedN x 20)) ∧ w = w1 ∧ sz = sz1) (fun _ _ _ => False) := by
  refine xM.of RX4 hl (by decide +kernel) rfl (Nat.le_of_ble_eq_true rfl) rfl ?_
  intro p e s m args below meth cD C0 hini
  refine x_iconst (v := 0) 1 C0 dX4_poundsInChests_0 rfl (by decide) ?_
  refine x_istore_n [(1, .int 0), (0, .ref h)] 2 C0 dX4_poundsInChests_1 rfl rfl (by decide) rfl ?_
  refine x_lv (lv1 := [(0, .ref h), (1, .int 0)]) [1, 0] rfl ?_
  refine x_aload_n 0 3 C0 dX4_poundsInChests_2 rfl rfl rfl ?_
  refine x_getf (v := .ref (h + 2)) 1 6 C0 dX4_poundsInChests_3 rfl (HR.ho hR) rfl (by decide) inX4 mF_X4_21 rfl ?_
  refine x_astore_n [(2, .ref (h + 2)), (0, .ref h), (1, .int 0)] 7 C0 dX4_poundsInChests_6 rfl rfl (by decide) rfl ?_
  refine x_lv (lv1 := [(0, .ref h), (1, .int 0), (2, .ref (h + 2))]) [1, 2, 0] rfl ?_
  refine x_aload_n 2 8 C0 dX4_poundsInChests_7 rfl rfl rfl ?_
  refine x_alen 5 9 C0 (v := 20) dX4_poundsInChests_8 rfl (HR.cs hR) rfl rfl ?_
  refine x_istore_n [(3, .int 20), (0, .ref h), (1, .int 0), (2, .ref (h + 2))] 10 C0 dX4_poundsInChests_9 rfl rfl (by decide) rfl ?_
  refine x_lv (lv1 := [(0, .ref h), (1, .int 0), (2, .ref (h + 2)), (3, .int 20)]) [1, 2, 3, 0] rfl ?_
  refine x_iconst (v := 0) 11 C0 dX4_poundsInChests_10 rfl (by decide) ?_
  refine x_istore [(4, .int 0), (0, .ref h), (1, .int 0), (2, .ref (h + 2)), (3, .int 20)] 13 C0 dX4_poundsInChests_11 rfl (by decide) rfl ?_
  refine x_lv (lv1 := [(0, .ref h), (1, .int 0), (2, .ref (h + 2)), (3, .int 20), (4, .int 0)]) [1, 2, 3, 4, 0] rfl ?_
  have loop13 : ∀ (N i : Nat), i ≤ 20 → 20 - i < N → xV p l e ({ frames := 1, cells := 0, slots := 0, locals := 20 }) s m args below meth cD (xQ g below (fun r w1 sz1 => r = some (.int (packedN x 20)) ∧ w = w1 ∧ sz = sz1) (fun _ _ _ => False) args s 0 0) g 6 w sz (0) (0) 13 [(0, .ref h), (1, .int (packedN x i)), (2, .ref (h + 2)), (3, .int 20), (4, .int (nI i))] [] := by
    intro N
    induction N with
    | zero => intro i h1 h2; omega
    | succ N ih =>
      intro i hi hN
      refine x_iload 4 15 C0 dX4_poundsInChests_13 rfl rfl ?_
      refine x_iload_n 3 16 C0 dX4_poundsInChests_15 rfl rfl rfl ?_
      refine x_icmp_ge 47 19 C0 dX4_poundsInChests_16 rfl (by decide) (fun c1 => ?_) (fun c1 => ?_)
      · have hI := ix_eq 20 rfl (by decide) hi c1
        subst hI
        refine x_iload_n 1 48 C0 dX4_poundsInChests_47 rfl rfl rfl ?_
        exact x_ireturn C0 dX4_poundsInChests_48 rfl rfl (Nat.le_of_ble_eq_true rfl) (Nat.le_of_ble_eq_true rfl) (by refine ⟨?_, rfl, rfl⟩; rfl)
      · have hi2 := ix_lt 20 rfl (by decide) hi c1
        refine x_aload_n 2 20 C0 dX4_poundsInChests_19 rfl rfl rfl ?_
        refine x_iload 4 22 C0 dX4_poundsInChests_20 rfl rfl ?_
        refine x_aald 5 23 C0 dX4_poundsInChests_22 rfl (HR.cs hR) rfl (vp_in_nI hi2 (by decide)) ?_
        refine x_st (st1 := [.ref (h + 3 + i)]) (congrArg (· :: _) (chRef hi2)) ?_
        refine x_astore [(5, .ref (h + 3 + i)), (0, .ref h), (1, .int (packedN x i)), (2, .ref (h + 2)), (3, .int 20), (4, .int (nI i))] 25 C0 dX4_poundsInChests_23 rfl (by decide) rfl ?_
        refine x_lv (lv1 := [(0, .ref h), (1, .int (packedN x i)), (2, .ref (h + 2)), (3, .int 20), (4, .int (nI i)), (5, .ref (h + 3 + i))]) [1, 2, 3, 4, 5, 0] rfl ?_
        refine x_aload 5 27 C0 dX4_poundsInChests_25 rfl rfl ?_
        refine x_callV 30 C0 (k_X1_isThere l hl g _ _ _ _ _ _ (HR.c hR hi2)) dX4_poundsInChests_27 rfl mC_X1_isThere mM_X4_189 mI_X1_isThere mV_X1_isThere mN_X1 yd_X1_isThere rfl rfl ⟨Nat.le_of_ble_eq_true rfl, Nat.le_of_ble_eq_true rfl⟩ (HR.c hR hi2) rfl rfl rfl rfl (Nat.le_of_ble_eq_true rfl) ⟨Nat.le_of_ble_eq_true rfl, Nat.le_of_ble_eq_true rfl⟩ (fun _ _ _ q => False.elim q) (fun r w1 sz1 hz hP => ?_)
        obtain ⟨rfl, rfl, rfl⟩ := hP
        refine x_st (st1 := [.int (bi (cThere (row x i)))]) rfl ?_
        refine x_if_eq 41 33 C0 dX4_poundsInChests_30 rfl (by decide) (fun c2 => ?_) (fun c2 => ?_)
        · have c2 := bi_yes c2
          refine x_iinc [(4, .int (nI (i + 1))), (0, .ref h), (1, .int (packedN x i)), (2, .ref (h + 2)), (3, .int 20), (5, .ref (h + 3 + i))] 4 44 C0 dX4_poundsInChests_41 rfl rfl (nI_1 i) (by decide) rfl ?_
          refine x_lv (lv1 := [(0, .ref h), (1, .int (packedN x i)), (2, .ref (h + 2)), (3, .int 20), (4, .int (nI (i + 1))), (5, .ref (h + 3 + i))]) [1, 2, 3, 4, 0, 5] rfl ?_
          refine x_goto 13 C0 dX4_poundsInChests_44 (by decide) ?_
          have q9 := ih (i + 1) (by omega) (by omega)
          rw [show packedN x (i + 1) = packedN x i from by simp [packedN, hFold, c2]] at q9
          exact x_lv [0, 1, 2, 3, 4] rfl q9
        · have c2 := bi_no c2
          refine x_iload_n 1 34 C0 dX4_poundsInChests_33 rfl rfl rfl ?_
          refine x_aload 5 36 C0 dX4_poundsInChests_34 rfl rfl ?_
          refine x_getf (v := .int (x (28 + 9 * i + 3))) 4 39 C0 dX4_poundsInChests_36 rfl (HR.c hR hi2) rfl (by decide) inX1 mF_X4_110 rfl ?_
          refine x_iadd 40 C0 dX4_poundsInChests_39 rfl ?_
          refine x_istore_n [(1, .int ((packedN x i) + (x (28 + 9 * i + 3)))), (0, .ref h), (2, .ref (h + 2)), (3, .int 20), (4, .int (nI i)), (5, .ref (h + 3 + i))] 41 C0 dX4_poundsInChests_40 rfl rfl (by decide) rfl ?_
          refine x_lv (lv1 := [(0, .ref h), (1, .int ((packedN x i) + (x (28 + 9 * i + 3)))), (2, .ref (h + 2)), (3, .int 20), (4, .int (nI i)), (5, .ref (h + 3 + i))]) [1, 0, 2, 3, 4, 5] rfl ?_
          refine x_iinc [(4, .int (nI (i + 1))), (0, .ref h), (1, .int ((packedN x i) + (x (28 + 9 * i + 3)))), (2, .ref (h + 2)), (3, .int 20), (5, .ref (h + 3 + i))] 4 44 C0 dX4_poundsInChests_41 rfl rfl (nI_1 i) (by decide) rfl ?_
          refine x_lv (lv1 := [(0, .ref h), (1, .int ((packedN x i) + (x (28 + 9 * i + 3)))), (2, .ref (h + 2)), (3, .int 20), (4, .int (nI (i + 1))), (5, .ref (h + 3 + i))]) [1, 2, 3, 4, 0, 5] rfl ?_
          refine x_goto 13 C0 dX4_poundsInChests_44 (by decide) ?_
          have q9 := ih (i + 1) (by omega) (by omega)
          rw [show packedN x (i + 1) = (packedN x i) + (x (28 + 9 * i + 3)) from by simp [packedN, hFold, c2]] at q9
          exact x_lv [0, 1, 2, 3, 4] rfl q9
  exact x_lv [0, 1, 2, 3, 4] rfl (loop13 21 0 (by omega) (by omega))

set_option maxHeartbeats 4000000 in
set_option maxRecDepth 100000 in
theorem k_X4_filledChests (l : Launch) (hl : l.stackTraces = false) (g : xg_T) (w : xw_T) (sz : Nat) (h : Nat) (x : Nat → Int32) (la : Nat → Nat) (hR : HR g w h x la) : xM l g yX4_filledChests cX4_filledChests 6 (some .int) ({ frames := 1, cells := 0, slots := 0, locals := 20 }) 0 0 [.ref h] w sz (fun r w1 sz1 => r = some (.int (filledN x 20)) ∧ w = w1 ∧ sz = sz1) (fun _ _ _ => False) := by
  refine xM.of RX4 hl (by decide +kernel) rfl (Nat.le_of_ble_eq_true rfl) rfl ?_
  intro p e s m args below meth cD C0 hini
  refine x_iconst (v := 0) 1 C0 dX4_filledChests_0 rfl (by decide) ?_
  refine x_istore_n [(1, .int 0), (0, .ref h)] 2 C0 dX4_filledChests_1 rfl rfl (by decide) rfl ?_
  refine x_lv (lv1 := [(0, .ref h), (1, .int 0)]) [1, 0] rfl ?_
  refine x_aload_n 0 3 C0 dX4_filledChests_2 rfl rfl rfl ?_
  refine x_getf (v := .ref (h + 2)) 1 6 C0 dX4_filledChests_3 rfl (HR.ho hR) rfl (by decide) inX4 mF_X4_21 rfl ?_
  refine x_astore_n [(2, .ref (h + 2)), (0, .ref h), (1, .int 0)] 7 C0 dX4_filledChests_6 rfl rfl (by decide) rfl ?_
  refine x_lv (lv1 := [(0, .ref h), (1, .int 0), (2, .ref (h + 2))]) [1, 2, 0] rfl ?_
  refine x_aload_n 2 8 C0 dX4_filledChests_7 rfl rfl rfl ?_
  refine x_alen 5 9 C0 (v := 20) dX4_filledChests_8 rfl (HR.cs hR) rfl rfl ?_
  refine x_istore_n [(3, .int 20), (0, .ref h), (1, .int 0), (2, .ref (h + 2))] 10 C0 dX4_filledChests_9 rfl rfl (by decide) rfl ?_
  refine x_lv (lv1 := [(0, .ref h), (1, .int 0), (2, .ref (h + 2)), (3, .int 20)]) [1, 2, 3, 0] rfl ?_
  refine x_iconst (v := 0) 11 C0 dX4_filledChests_10 rfl (by decide) ?_
  refine x_istore [(4, .int 0), (0, .ref h), (1, .int 0), (2, .ref (h + 2)), (3, .int 20)] 13 C0 dX4_filledChests_11 rfl (by decide) rfl ?_
  refine x_lv (lv1 := [(0, .ref h), (1, .int 0), (2, .ref (h + 2)), (3, .int 20), (4, .int 0)]) [1, 2, 3, 4, 0] rfl ?_
  have loop13 : ∀ (N i : Nat), i ≤ 20 → 20 - i < N → xV p l e ({ frames := 1, cells := 0, slots := 0, locals := 20 }) s m args below meth cD (xQ g below (fun r w1 sz1 => r = some (.int (filledN x 20)) ∧ w = w1 ∧ sz = sz1) (fun _ _ _ => False) args s 0 0) g 6 w sz (0) (0) 13 [(0, .ref h), (1, .int (filledN x i)), (2, .ref (h + 2)), (3, .int 20), (4, .int (nI i))] [] := by
    intro N
    induction N with
    | zero => intro i h1 h2; omega
    | succ N ih =>
      intro i hi hN
      refine x_iload 4 15 C0 dX4_filledChests_13 rfl rfl ?_
      refine x_iload_n 3 16 C0 dX4_filledChests_15 rfl rfl rfl ?_
      refine x_icmp_ge 50 19 C0 dX4_filledChests_16 rfl (by decide) (fun c1 => ?_) (fun c1 => ?_)
      · have hI := ix_eq 20 rfl (by decide) hi c1
        subst hI
        refine x_iload_n 1 51 C0 dX4_filledChests_50 rfl rfl rfl ?_
        exact x_ireturn C0 dX4_filledChests_51 rfl rfl (Nat.le_of_ble_eq_true rfl) (Nat.le_of_ble_eq_true rfl) (by refine ⟨?_, rfl, rfl⟩; rfl)
      · have hi2 := ix_lt 20 rfl (by decide) hi c1
        refine x_aload_n 2 20 C0 dX4_filledChests_19 rfl rfl rfl ?_
        refine x_iload 4 22 C0 dX4_filledChests_20 rfl rfl ?_
        refine x_aald 5 23 C0 dX4_filledChests_22 rfl (HR.cs hR) rfl (vp_in_nI hi2 (by decide)) ?_
        refine x_st (st1 := [.ref (h + 3 + i)]) (congrArg (· :: _) (chRef hi2)) ?_
        refine x_astore [(5, .ref (h + 3 + i)), (0, .ref h), (1, .int (filledN x i)), (2, .ref (h + 2)), (3, .int 20), (4, .int (nI i))] 25 C0 dX4_filledChests_23 rfl (by decide) rfl ?_
        refine x_lv (lv1 := [(0, .ref h), (1, .int (filledN x i)), (2, .ref (h + 2)), (3, .int 20), (4, .int (nI i)), (5, .ref (h + 3 + i))]) [1, 2, 3, 4, 5, 0] rfl ?_
        refine x_aload 5 27 C0 dX4_filledChests_25 rfl rfl ?_
        refine x_callV 30 C0 (k_X1_isThere l hl g _ _ _ _ _ _ (HR.c hR hi2)) dX4_filledChests_27 rfl mC_X1_isThere mM_X4_189 mI_X1_isThere mV_X1_isThere mN_X1 yd_X1_isThere rfl rfl ⟨Nat.le_of_ble_eq_true rfl, Nat.le_of_ble_eq_true rfl⟩ (HR.c hR hi2) rfl rfl rfl rfl (Nat.le_of_ble_eq_true rfl) ⟨Nat.le_of_ble_eq_true rfl, Nat.le_of_ble_eq_true rfl⟩ (fun _ _ _ q => False.elim q) (fun r w1 sz1 hz hP => ?_)
        obtain ⟨rfl, rfl, rfl⟩ := hP
        refine x_st (st1 := [.int (bi (cThere (row x i)))]) rfl ?_
        refine x_if_eq 44 33 C0 dX4_filledChests_30 rfl (by decide) (fun c2 => ?_) (fun c2 => ?_)
        · have c2 := bi_yes c2
          refine x_iinc [(4, .int (nI (i + 1))), (0, .ref h), (1, .int (filledN x i)), (2, .ref (h + 2)), (3, .int 20), (5, .ref (h + 3 + i))] 4 47 C0 dX4_filledChests_44 rfl rfl (nI_1 i) (by decide) rfl ?_
          refine x_lv (lv1 := [(0, .ref h), (1, .int (filledN x i)), (2, .ref (h + 2)), (3, .int 20), (4, .int (nI (i + 1))), (5, .ref (h + 3 + i))]) [1, 2, 3, 4, 0, 5] rfl ?_
          refine x_goto 13 C0 dX4_filledChests_47 (by decide) ?_
          have q9 := ih (i + 1) (by omega) (by omega)
          rw [show filledN x (i + 1) = filledN x i from by simp [filledN, hFold, c2]] at q9
          exact x_lv [0, 1, 2, 3, 4] rfl q9
        · have c2 := bi_no c2
          refine x_aload 5 35 C0 dX4_filledChests_33 rfl rfl ?_
          refine x_getf (v := .int (x (28 + 9 * i + 3))) 4 38 C0 dX4_filledChests_35 rfl (HR.c hR hi2) rfl (by decide) inX1 mF_X4_110 rfl ?_
          refine x_if_le 44 41 C0 dX4_filledChests_38 rfl (by decide) (fun c3 => ?_) (fun c3 => ?_)
          · have c3' := Int32.not_lt.mpr c3
            refine x_iinc [(4, .int (nI (i + 1))), (0, .ref h), (1, .int (filledN x i)), (2, .ref (h + 2)), (3, .int 20), (5, .ref (h + 3 + i))] 4 47 C0 dX4_filledChests_44 rfl rfl (nI_1 i) (by decide) rfl ?_
            refine x_lv (lv1 := [(0, .ref h), (1, .int (filledN x i)), (2, .ref (h + 2)), (3, .int 20), (4, .int (nI (i + 1))), (5, .ref (h + 3 + i))]) [1, 2, 3, 4, 0, 5] rfl ?_
            refine x_goto 13 C0 dX4_filledChests_47 (by decide) ?_
            have q9 := ih (i + 1) (by omega) (by omega)
            rw [show filledN x (i + 1) = filledN x i from by simp [filledN, hFold, c2, c3, c3']] at q9
            exact x_lv [0, 1, 2, 3, 4] rfl q9
          · have c3' := Int32.not_le.mp c3
            refine x_iinc [(1, .int ((filledN x i) + 1)), (0, .ref h), (2, .ref (h + 2)), (3, .int 20), (4, .int (nI i)), (5, .ref (h + 3 + i))] 1 44 C0 dX4_filledChests_41 rfl rfl rfl (by decide) rfl ?_
            refine x_lv (lv1 := [(0, .ref h), (1, .int ((filledN x i) + 1)), (2, .ref (h + 2)), (3, .int 20), (4, .int (nI i)), (5, .ref (h + 3 + i))]) [1, 0, 2, 3, 4, 5] rfl ?_
            refine x_iinc [(4, .int (nI (i + 1))), (0, .ref h), (1, .int ((filledN x i) + 1)), (2, .ref (h + 2)), (3, .int 20), (5, .ref (h + 3 + i))] 4 47 C0 dX4_filledChests_44 rfl rfl (nI_1 i) (by decide) rfl ?_
            refine x_lv (lv1 := [(0, .ref h), (1, .int ((filledN x i) + 1)), (2, .ref (h + 2)), (3, .int 20), (4, .int (nI (i + 1))), (5, .ref (h + 3 + i))]) [1, 2, 3, 4, 0, 5] rfl ?_
            refine x_goto 13 C0 dX4_filledChests_47 (by decide) ?_
            have q9 := ih (i + 1) (by omega) (by omega)
            rw [show filledN x (i + 1) = (filledN x i) + 1 from by simp [filledN, hFold, c2, c3, c3']] at q9
            exact x_lv [0, 1, 2, 3, 4] rfl q9
  exact x_lv [0, 1, 2, 3, 4] rfl (loop13 21 0 (by omega) (by omega))

set_option maxHeartbeats 4000000 in
set_option maxRecDepth 100000 in
theorem k_X4_sumOfDamp (l : Launch) (hl : l.stackTraces = false) (g : xg_T) (w : xw_T) (sz : Nat) (h : Nat) (x : Nat → Int32) (la : Nat → Nat) (hR : HR g w h x la) : xM l g yX4_sumOfDamp cX4_sumOfDamp 6 (some .int) ({ frames := 1, cells := 0, slots := 0, locals := 20 }) 0 0 [.ref h] w sz (fun r w1 sz1 => r = some (.int (dampN x 20)) ∧ w = w1 ∧ sz = sz1) (fun _ _ _ => False) := by
  refine xM.of RX4 hl (by decide +kernel) rfl (Nat.le_of_ble_eq_true rfl) rfl ?_
  intro p e s m args below meth cD C0 hini
  refine x_iconst (v := 0) 1 C0 dX4_sumOfDamp_0 rfl (by decide) ?_
  refine x_istore_n [(1, .int 0), (0, .ref h)] 2 C0 dX4_sumOfDamp_1 rfl rfl (by decide) rfl ?_
  refine x_lv (lv1 := [(0, .ref h), (1, .int 0)]) [1, 0] rfl ?_
  refine x_aload_n 0 3 C0 dX4_sumOfDamp_2 rfl rfl rfl ?_
  refine x_getf (v := .ref (h + 2)) 1 6 C0 dX4_sumOfDamp_3 rfl (HR.ho hR) rfl (by decide) inX4 mF_X4_21 rfl ?_
  refine x_astore_n [(2, .ref (h + 2)), (0, .ref h), (1, .int 0)] 7 C0 dX4_sumOfDamp_6 rfl rfl (by decide) rfl ?_
  refine x_lv (lv1 := [(0, .ref h), (1, .int 0), (2, .ref (h + 2))]) [1, 2, 0] rfl ?_
  refine x_aload_n 2 8 C0 dX4_sumOfDamp_7 rfl rfl rfl ?_
  refine x_alen 5 9 C0 (v := 20) dX4_sumOfDamp_8 rfl (HR.cs hR) rfl rfl ?_
  refine x_istore_n [(3, .int 20), (0, .ref h), (1, .int 0), (2, .ref (h + 2))] 10 C0 dX4_sumOfDamp_9 rfl rfl (by decide) rfl ?_
  refine x_lv (lv1 := [(0, .ref h), (1, .int 0), (2, .ref (h + 2)), (3, .int 20)]) [1, 2, 3, 0] rfl ?_
  refine x_iconst (v := 0) 11 C0 dX4_sumOfDamp_10 rfl (by decide) ?_
  refine x_istore [(4, .int 0), (0, .ref h), (1, .int 0), (2, .ref (h + 2)), (3, .int 20)] 13 C0 dX4_sumOfDamp_11 rfl (by decide) rfl ?_
  refine x_lv (lv1 := [(0, .ref h), (1, .int 0), (2, .ref (h + 2)), (3, .int 20), (4, .int 0)]) [1, 2, 3, 4, 0] rfl ?_
  have loop13 : ∀ (N i : Nat), i ≤ 20 → 20 - i < N → xV p l e ({ frames := 1, cells := 0, slots := 0, locals := 20 }) s m args below meth cD (xQ g below (fun r w1 sz1 => r = some (.int (dampN x 20)) ∧ w = w1 ∧ sz = sz1) (fun _ _ _ => False) args s 0 0) g 6 w sz (0) (0) 13 [(0, .ref h), (1, .int (dampN x i)), (2, .ref (h + 2)), (3, .int 20), (4, .int (nI i))] [] := by
    intro N
    induction N with
    | zero => intro i h1 h2; omega
    | succ N ih =>
      intro i hi hN
      refine x_iload 4 15 C0 dX4_sumOfDamp_13 rfl rfl ?_
      refine x_iload_n 3 16 C0 dX4_sumOfDamp_15 rfl rfl rfl ?_
      refine x_icmp_ge 47 19 C0 dX4_sumOfDamp_16 rfl (by decide) (fun c1 => ?_) (fun c1 => ?_)
      · have hI := ix_eq 20 rfl (by decide) hi c1
        subst hI
        refine x_iload_n 1 48 C0 dX4_sumOfDamp_47 rfl rfl rfl ?_
        exact x_ireturn C0 dX4_sumOfDamp_48 rfl rfl (Nat.le_of_ble_eq_true rfl) (Nat.le_of_ble_eq_true rfl) (by refine ⟨?_, rfl, rfl⟩; rfl)
      · have hi2 := ix_lt 20 rfl (by decide) hi c1
        refine x_aload_n 2 20 C0 dX4_sumOfDamp_19 rfl rfl rfl ?_
        refine x_iload 4 22 C0 dX4_sumOfDamp_20 rfl rfl ?_
        refine x_aald 5 23 C0 dX4_sumOfDamp_22 rfl (HR.cs hR) rfl (vp_in_nI hi2 (by decide)) ?_
        refine x_st (st1 := [.ref (h + 3 + i)]) (congrArg (· :: _) (chRef hi2)) ?_
        refine x_astore [(5, .ref (h + 3 + i)), (0, .ref h), (1, .int (dampN x i)), (2, .ref (h + 2)), (3, .int 20), (4, .int (nI i))] 25 C0 dX4_sumOfDamp_23 rfl (by decide) rfl ?_
        refine x_lv (lv1 := [(0, .ref h), (1, .int (dampN x i)), (2, .ref (h + 2)), (3, .int 20), (4, .int (nI i)), (5, .ref (h + 3 + i))]) [1, 2, 3, 4, 5, 0] rfl ?_
        refine x_aload 5 27 C0 dX4_sumOfDamp_25 rfl rfl ?_
        refine x_callV 30 C0 (k_X1_isThere l hl g _ _ _ _ _ _ (HR.c hR hi2)) dX4_sumOfDamp_27 rfl mC_X1_isThere mM_X4_189 mI_X1_isThere mV_X1_isThere mN_X1 yd_X1_isThere rfl rfl ⟨Nat.le_of_ble_eq_true rfl, Nat.le_of_ble_eq_true rfl⟩ (HR.c hR hi2) rfl rfl rfl rfl (Nat.le_of_ble_eq_true rfl) ⟨Nat.le_of_ble_eq_true rfl, Nat.le_of_ble_eq_true rfl⟩ (fun _ _ _ q => False.elim q) (fun r w1 sz1 hz hP => ?_)
        obtain ⟨rfl, rfl, rfl⟩ := hP
        refine x_st (st1 := [.int (bi (cThere (row x i)))]) rfl ?_
        refine x_if_eq 41 33 C0 dX4_sumOfDamp_30 rfl (by decide) (fun c2 => ?_) (fun c2 => ?_)
        · have c2 := bi_yes c2
          refine x_iinc [(4, .int (nI (i + 1))), (0, .ref h), (1, .int (dampN x i)), (2, .ref (h + 2)), (3, .int 20), (5, .ref (h + 3 + i))] 4 44 C0 dX4_sumOfDamp_41 rfl rfl (nI_1 i) (by decide) rfl ?_
          refine x_lv (lv1 := [(0, .ref h), (1, .int (dampN x i)), (2, .ref (h + 2)), (3, .int 20), (4, .int (nI (i + 1))), (5, .ref (h + 3 + i))]) [1, 2, 3, 4, 0, 5] rfl ?_
          refine x_goto 13 C0 dX4_sumOfDamp_44 (by decide) ?_
          have q9 := ih (i + 1) (by omega) (by omega)
          rw [show dampN x (i + 1) = dampN x i from by simp [dampN, hFold, c2]] at q9
          exact x_lv [0, 1, 2, 3, 4] rfl q9
        · have c2 := bi_no c2
          refine x_iload_n 1 34 C0 dX4_sumOfDamp_33 rfl rfl rfl ?_
          refine x_aload 5 36 C0 dX4_sumOfDamp_34 rfl rfl ?_
          refine x_getf (v := .int (x (28 + 9 * i + 6))) 7 39 C0 dX4_sumOfDamp_36 rfl (HR.c hR hi2) rfl (by decide) inX1 mF_X4_199 rfl ?_
          refine x_iadd 40 C0 dX4_sumOfDamp_39 rfl ?_
          refine x_istore_n [(1, .int ((dampN x i) + (x (28 + 9 * i + 6)))), (0, .ref h), (2, .ref (h + 2)), (3, .int 20), (4, .int (nI i)), (5, .ref (h + 3 + i))] 41 C0 dX4_sumOfDamp_40 rfl rfl (by decide) rfl ?_
          refine x_lv (lv1 := [(0, .ref h), (1, .int ((dampN x i) + (x (28 + 9 * i + 6)))), (2, .ref (h + 2)), (3, .int 20), (4, .int (nI i)), (5, .ref (h + 3 + i))]) [1, 0, 2, 3, 4, 5] rfl ?_
          refine x_iinc [(4, .int (nI (i + 1))), (0, .ref h), (1, .int ((dampN x i) + (x (28 + 9 * i + 6)))), (2, .ref (h + 2)), (3, .int 20), (5, .ref (h + 3 + i))] 4 44 C0 dX4_sumOfDamp_41 rfl rfl (nI_1 i) (by decide) rfl ?_
          refine x_lv (lv1 := [(0, .ref h), (1, .int ((dampN x i) + (x (28 + 9 * i + 6)))), (2, .ref (h + 2)), (3, .int 20), (4, .int (nI (i + 1))), (5, .ref (h + 3 + i))]) [1, 2, 3, 4, 0, 5] rfl ?_
          refine x_goto 13 C0 dX4_sumOfDamp_44 (by decide) ?_
          have q9 := ih (i + 1) (by omega) (by omega)
          rw [show dampN x (i + 1) = (dampN x i) + (x (28 + 9 * i + 6)) from by simp [dampN, hFold, c2]] at q9
          exact x_lv [0, 1, 2, 3, 4] rfl q9
  exact x_lv [0, 1, 2, 3, 4] rfl (loop13 21 0 (by omega) (by omega))

set_option maxHeartbeats 4000000 in
set_option maxRecDepth 100000 in
theorem k_X4_shipCoins (l : Launch) (hl : l.stackTraces = false) (g : xg_T) (w : xw_T) (sz : Nat) (h : Nat) (x : Nat → Int32) (la : Nat → Nat) (hR : HR g w h x la) : xM l g yX4_shipCoins cX4_shipCoins 6 (some .int) ({ frames := 1, cells := 0, slots := 0, locals := 20 }) 0 0 [.ref h] w sz (fun r w1 sz1 => r = some (.int (cargoN x 20)) ∧ w = w1 ∧ sz = sz1) (fun _ _ _ => False) := by
  refine xM.of RX4 hl (by decide +kernel) rfl (Nat.le_of_ble_eq_true rfl) rfl ?_
  intro p e s m args below meth cD C0 hini
  refine x_iconst (v := 0) 1 C0 dX4_shipCoins_0 rfl (by decide) ?_
  refine x_istore_n [(1, .int 0), (0, .ref h)] 2 C0 dX4_shipCoins_1 rfl rfl (by decide) rfl ?_
  refine x_lv (lv1 := [(0, .ref h), (1, .int 0)]) [1, 0] rfl ?_
  refine x_aload_n 0 3 C0 dX4_shipCoins_2 rfl rfl rfl ?_
  refine x_getf (v := .ref (h + 2)) 1 6 C0 dX4_shipCoins_3 rfl (HR.ho hR) rfl (by decide) inX4 mF_X4_21 rfl ?_
  refine x_astore_n [(2, .ref (h + 2)), (0, .ref h), (1, .int 0)] 7 C0 dX4_shipCoins_6 rfl rfl (by decide) rfl ?_
  refine x_lv (lv1 := [(0, .ref h), (1, .int 0), (2, .ref (h + 2))]) [1, 2, 0] rfl ?_
  refine x_aload_n 2 8 C0 dX4_shipCoins_7 rfl rfl rfl ?_
  refine x_alen 5 9 C0 (v := 20) dX4_shipCoins_8 rfl (HR.cs hR) rfl rfl ?_
  refine x_istore_n [(3, .int 20), (0, .ref h), (1, .int 0), (2, .ref (h + 2))] 10 C0 dX4_shipCoins_9 rfl rfl (by decide) rfl ?_
  refine x_lv (lv1 := [(0, .ref h), (1, .int 0), (2, .ref (h + 2)), (3, .int 20)]) [1, 2, 3, 0] rfl ?_
  refine x_iconst (v := 0) 11 C0 dX4_shipCoins_10 rfl (by decide) ?_
  refine x_istore [(4, .int 0), (0, .ref h), (1, .int 0), (2, .ref (h + 2)), (3, .int 20)] 13 C0 dX4_shipCoins_11 rfl (by decide) rfl ?_
  refine x_lv (lv1 := [(0, .ref h), (1, .int 0), (2, .ref (h + 2)), (3, .int 20), (4, .int 0)]) [1, 2, 3, 4, 0] rfl ?_
  have loop13 : ∀ (N i : Nat), i ≤ 20 → 20 - i < N → xV p l e ({ frames := 1, cells := 0, slots := 0, locals := 20 }) s m args below meth cD (xQ g below (fun r w1 sz1 => r = some (.int (cargoN x 20)) ∧ w = w1 ∧ sz = sz1) (fun _ _ _ => False) args s 0 0) g 6 w sz (0) (0) 13 [(0, .ref h), (1, .int (cargoN x i)), (2, .ref (h + 2)), (3, .int 20), (4, .int (nI i))] [] := by
    intro N
    induction N with
    | zero => intro i h1 h2; omega
    | succ N ih =>
      intro i hi hN
      refine x_iload 4 15 C0 dX4_shipCoins_13 rfl rfl ?_
      refine x_iload_n 3 16 C0 dX4_shipCoins_15 rfl rfl rfl ?_
      refine x_icmp_ge 48 19 C0 dX4_shipCoins_16 rfl (by decide) (fun c1 => ?_) (fun c1 => ?_)
      · have hI := ix_eq 20 rfl (by decide) hi c1
        subst hI
        refine x_iload_n 1 49 C0 dX4_shipCoins_48 rfl rfl rfl ?_
        exact x_ireturn C0 dX4_shipCoins_49 rfl rfl (Nat.le_of_ble_eq_true rfl) (Nat.le_of_ble_eq_true rfl) (by refine ⟨?_, rfl, rfl⟩; rfl)
      · have hi2 := ix_lt 20 rfl (by decide) hi c1
        refine x_aload_n 2 20 C0 dX4_shipCoins_19 rfl rfl rfl ?_
        refine x_iload 4 22 C0 dX4_shipCoins_20 rfl rfl ?_
        refine x_aald 5 23 C0 dX4_shipCoins_22 rfl (HR.cs hR) rfl (vp_in_nI hi2 (by decide)) ?_
        refine x_st (st1 := [.ref (h + 3 + i)]) (congrArg (· :: _) (chRef hi2)) ?_
        refine x_astore [(5, .ref (h + 3 + i)), (0, .ref h), (1, .int (cargoN x i)), (2, .ref (h + 2)), (3, .int 20), (4, .int (nI i))] 25 C0 dX4_shipCoins_23 rfl (by decide) rfl ?_
        refine x_lv (lv1 := [(0, .ref h), (1, .int (cargoN x i)), (2, .ref (h + 2)), (3, .int 20), (4, .int (nI i)), (5, .ref (h + 3 + i))]) [1, 2, 3, 4, 5, 0] rfl ?_
        refine x_aload 5 27 C0 dX4_shipCoins_25 rfl rfl ?_
        refine x_getf (v := .int (x (28 + 9 * i + 7))) 8 30 C0 dX4_shipCoins_27 rfl (HR.c hR hi2) rfl (by decide) inX1 mF_X4_99 rfl ?_
        refine x_iconst (v := 2) 31 C0 dX4_shipCoins_30 rfl (by decide) ?_
        refine x_icmp_ne 42 34 C0 dX4_shipCoins_31 rfl (by decide) (fun c2 => ?_) (fun c2 => ?_)
        · refine x_iinc [(4, .int (nI (i + 1))), (0, .ref h), (1, .int (cargoN x i)), (2, .ref (h + 2)), (3, .int 20), (5, .ref (h + 3 + i))] 4 45 C0 dX4_shipCoins_42 rfl rfl (nI_1 i) (by decide) rfl ?_
          refine x_lv (lv1 := [(0, .ref h), (1, .int (cargoN x i)), (2, .ref (h + 2)), (3, .int 20), (4, .int (nI (i + 1))), (5, .ref (h + 3 + i))]) [1, 2, 3, 4, 0, 5] rfl ?_
          refine x_goto 13 C0 dX4_shipCoins_45 (by decide) ?_
          have q9 := ih (i + 1) (by omega) (by omega)
          rw [show cargoN x (i + 1) = cargoN x i from by simp [cargoN, hFold, isAt, c2]] at q9
          exact x_lv [0, 1, 2, 3, 4] rfl q9
        · refine x_iload_n 1 35 C0 dX4_shipCoins_34 rfl rfl rfl ?_
          refine x_aload 5 37 C0 dX4_shipCoins_35 rfl rfl ?_
          refine x_callV 40 C0 (k_X1_coins l hl g _ _ _ _ _ _ (HR.c hR hi2)) dX4_shipCoins_37 rfl mC_X1_coins mM_X4_220 mI_X1_coins mV_X1_coins mN_X1 yd_X1_coins rfl rfl ⟨Nat.le_of_ble_eq_true rfl, Nat.le_of_ble_eq_true rfl⟩ (HR.c hR hi2) rfl rfl rfl rfl (Nat.le_of_ble_eq_true rfl) ⟨Nat.le_of_ble_eq_true rfl, Nat.le_of_ble_eq_true rfl⟩ (fun _ _ _ q => False.elim q) (fun r w1 sz1 hz hP => ?_)
          obtain ⟨rfl, rfl, rfl⟩ := hP
          refine x_st (st1 := [.int (cCoins (row x i)), .int (cargoN x i)]) rfl ?_
          refine x_iadd 41 C0 dX4_shipCoins_40 rfl ?_
          refine x_istore_n [(1, .int ((cargoN x i) + (cCoins (row x i)))), (0, .ref h), (2, .ref (h + 2)), (3, .int 20), (4, .int (nI i)), (5, .ref (h + 3 + i))] 42 C0 dX4_shipCoins_41 rfl rfl (by decide) rfl ?_
          refine x_lv (lv1 := [(0, .ref h), (1, .int ((cargoN x i) + (cCoins (row x i)))), (2, .ref (h + 2)), (3, .int 20), (4, .int (nI i)), (5, .ref (h + 3 + i))]) [1, 0, 2, 3, 4, 5] rfl ?_
          refine x_iinc [(4, .int (nI (i + 1))), (0, .ref h), (1, .int ((cargoN x i) + (cCoins (row x i)))), (2, .ref (h + 2)), (3, .int 20), (5, .ref (h + 3 + i))] 4 45 C0 dX4_shipCoins_42 rfl rfl (nI_1 i) (by decide) rfl ?_
          refine x_lv (lv1 := [(0, .ref h), (1, .int ((cargoN x i) + (cCoins (row x i)))), (2, .ref (h + 2)), (3, .int 20), (4, .int (nI (i + 1))), (5, .ref (h + 3 + i))]) [1, 2, 3, 4, 0, 5] rfl ?_
          refine x_goto 13 C0 dX4_shipCoins_45 (by decide) ?_
          have q9 := ih (i + 1) (by omega) (by omega)
          rw [show cargoN x (i + 1) = (cargoN x i) + (cCoins (row x i)) from by simp [cargoN, hFold, isAt, c2]] at q9
          exact x_lv [0, 1, 2, 3, 4] rfl q9
  exact x_lv [0, 1, 2, 3, 4] rfl (loop13 21 0 (by omega) (by omega))

set_option maxHeartbeats 4000000 in
set_option maxRecDepth 100000 in
theorem k_X4_shipRoom (l : Launch) (hl : l.stackTraces = false) (g : xg_T) (w : xw_T) (sz : Nat) (h : Nat) (x : Nat → Int32) (la : Nat → Nat) (hR : HR g w h x la) : xM l g yX4_shipRoom cX4_shipRoom 6 (some .int) ({ frames := 0, cells := 0, slots := 0, locals := 0 }) 0 0 [.ref h] w sz (fun r w1 sz1 => r = some (.int (hRoom x 20)) ∧ w = w1 ∧ sz = sz1) (fun _ _ _ => False) := by
  refine xM.of RX4 hl (by decide +kernel) rfl (Nat.le_of_ble_eq_true rfl) rfl ?_
  intro p e s m args below meth cD C0 hini
  refine x_bipush (v := 12) 2 C0 dX4_shipRoom_0 rfl (by decide) ?_
  refine x_istore_n [(1, .int 12), (0, .ref h)] 3 C0 dX4_shipRoom_2 rfl rfl (by decide) rfl ?_
  refine x_lv (lv1 := [(0, .ref h), (1, .int 12)]) [1, 0] rfl ?_
  refine x_aload_n 0 4 C0 dX4_shipRoom_3 rfl rfl rfl ?_
  refine x_getf (v := .ref (h + 2)) 1 7 C0 dX4_shipRoom_4 rfl (HR.ho hR) rfl (by decide) inX4 mF_X4_21 rfl ?_
  refine x_astore_n [(2, .ref (h + 2)), (0, .ref h), (1, .int 12)] 8 C0 dX4_shipRoom_7 rfl rfl (by decide) rfl ?_
  refine x_lv (lv1 := [(0, .ref h), (1, .int 12), (2, .ref (h + 2))]) [1, 2, 0] rfl ?_
  refine x_aload_n 2 9 C0 dX4_shipRoom_8 rfl rfl rfl ?_
  refine x_alen 5 10 C0 (v := 20) dX4_shipRoom_9 rfl (HR.cs hR) rfl rfl ?_
  refine x_istore_n [(3, .int 20), (0, .ref h), (1, .int 12), (2, .ref (h + 2))] 11 C0 dX4_shipRoom_10 rfl rfl (by decide) rfl ?_
  refine x_lv (lv1 := [(0, .ref h), (1, .int 12), (2, .ref (h + 2)), (3, .int 20)]) [1, 2, 3, 0] rfl ?_
  refine x_iconst (v := 0) 12 C0 dX4_shipRoom_11 rfl (by decide) ?_
  refine x_istore [(4, .int 0), (0, .ref h), (1, .int 12), (2, .ref (h + 2)), (3, .int 20)] 14 C0 dX4_shipRoom_12 rfl (by decide) rfl ?_
  refine x_lv (lv1 := [(0, .ref h), (1, .int 12), (2, .ref (h + 2)), (3, .int 20), (4, .int 0)]) [1, 2, 3, 4, 0] rfl ?_
  have loop14 : ∀ (N i : Nat), i ≤ 20 → 20 - i < N → xV p l e ({ frames := 0, cells := 0, slots := 0, locals := 0 }) s m args below meth cD (xQ g below (fun r w1 sz1 => r = some (.int (hRoom x 20)) ∧ w = w1 ∧ sz = sz1) (fun _ _ _ => False) args s 0 0) g 6 w sz (0) (0) 14 [(0, .ref h), (1, .int (hRoom x i)), (2, .ref (h + 2)), (3, .int 20), (4, .int (nI i))] [] := by
    intro N
    induction N with
    | zero => intro i h1 h2; omega
    | succ N ih =>
      intro i hi hN
      refine x_iload 4 16 C0 dX4_shipRoom_14 rfl rfl ?_
      refine x_iload_n 3 17 C0 dX4_shipRoom_16 rfl rfl rfl ?_
      refine x_icmp_ge 49 20 C0 dX4_shipRoom_17 rfl (by decide) (fun c1 => ?_) (fun c1 => ?_)
      · have hI := ix_eq 20 rfl (by decide) hi c1
        subst hI
        refine x_iload_n 1 50 C0 dX4_shipRoom_49 rfl rfl rfl ?_
        exact x_ireturn C0 dX4_shipRoom_50 rfl rfl (Nat.le_of_ble_eq_true rfl) (Nat.le_of_ble_eq_true rfl) (by refine ⟨?_, rfl, rfl⟩; rfl)
      · have hi2 := ix_lt 20 rfl (by decide) hi c1
        refine x_aload_n 2 21 C0 dX4_shipRoom_20 rfl rfl rfl ?_
        refine x_iload 4 23 C0 dX4_shipRoom_21 rfl rfl ?_
        refine x_aald 5 24 C0 dX4_shipRoom_23 rfl (HR.cs hR) rfl (vp_in_nI hi2 (by decide)) ?_
        refine x_st (st1 := [.ref (h + 3 + i)]) (congrArg (· :: _) (chRef hi2)) ?_
        refine x_astore [(5, .ref (h + 3 + i)), (0, .ref h), (1, .int (hRoom x i)), (2, .ref (h + 2)), (3, .int 20), (4, .int (nI i))] 26 C0 dX4_shipRoom_24 rfl (by decide) rfl ?_
        refine x_lv (lv1 := [(0, .ref h), (1, .int (hRoom x i)), (2, .ref (h + 2)), (3, .int 20), (4, .int (nI i)), (5, .ref (h + 3 + i))]) [1, 2, 3, 4, 5, 0] rfl ?_
        refine x_aload 5 28 C0 dX4_shipRoom_26 rfl rfl ?_
        refine x_getf (v := .int (x (28 + 9 * i + 7))) 8 31 C0 dX4_shipRoom_28 rfl (HR.c hR hi2) rfl (by decide) inX1 mF_X4_99 rfl ?_
        refine x_iconst (v := 2) 32 C0 dX4_shipRoom_31 rfl (by decide) ?_
        refine x_icmp_ne 43 35 C0 dX4_shipRoom_32 rfl (by decide) (fun c2 => ?_) (fun c2 => ?_)
        · refine x_iinc [(4, .int (nI (i + 1))), (0, .ref h), (1, .int (hRoom x i)), (2, .ref (h + 2)), (3, .int 20), (5, .ref (h + 3 + i))] 4 46 C0 dX4_shipRoom_43 rfl rfl (nI_1 i) (by decide) rfl ?_
          refine x_lv (lv1 := [(0, .ref h), (1, .int (hRoom x i)), (2, .ref (h + 2)), (3, .int 20), (4, .int (nI (i + 1))), (5, .ref (h + 3 + i))]) [1, 2, 3, 4, 0, 5] rfl ?_
          refine x_goto 14 C0 dX4_shipRoom_46 (by decide) ?_
          have q9 := ih (i + 1) (by omega) (by omega)
          rw [show hRoom x (i + 1) = hRoom x i from by simp [hRoom, c2]] at q9
          exact x_lv [0, 1, 2, 3, 4] rfl q9
        · refine x_iload_n 1 36 C0 dX4_shipRoom_35 rfl rfl rfl ?_
          refine x_aload 5 38 C0 dX4_shipRoom_36 rfl rfl ?_
          refine x_getf (v := .int (x (28 + 9 * i + 0))) 1 41 C0 dX4_shipRoom_38 rfl (HR.c hR hi2) rfl (by decide) inX1 mF_X4_107 rfl ?_
          refine x_isub 42 C0 dX4_shipRoom_41 rfl ?_
          refine x_istore_n [(1, .int ((hRoom x i) - (x (28 + 9 * i + 0)))), (0, .ref h), (2, .ref (h + 2)), (3, .int 20), (4, .int (nI i)), (5, .ref (h + 3 + i))] 43 C0 dX4_shipRoom_42 rfl rfl (by decide) rfl ?_
          refine x_lv (lv1 := [(0, .ref h), (1, .int ((hRoom x i) - (x (28 + 9 * i + 0)))), (2, .ref (h + 2)), (3, .int 20), (4, .int (nI i)), (5, .ref (h + 3 + i))]) [1, 0, 2, 3, 4, 5] rfl ?_
          refine x_iinc [(4, .int (nI (i + 1))), (0, .ref h), (1, .int ((hRoom x i) - (x (28 + 9 * i + 0)))), (2, .ref (h + 2)), (3, .int 20), (5, .ref (h + 3 + i))] 4 46 C0 dX4_shipRoom_43 rfl rfl (nI_1 i) (by decide) rfl ?_
          refine x_lv (lv1 := [(0, .ref h), (1, .int ((hRoom x i) - (x (28 + 9 * i + 0)))), (2, .ref (h + 2)), (3, .int 20), (4, .int (nI (i + 1))), (5, .ref (h + 3 + i))]) [1, 2, 3, 4, 0, 5] rfl ?_
          refine x_goto 14 C0 dX4_shipRoom_46 (by decide) ?_
          have q9 := ih (i + 1) (by omega) (by omega)
          rw [show hRoom x (i + 1) = (hRoom x i) - (x (28 + 9 * i + 0)) from by simp [hRoom, c2]] at q9
          exact x_lv [0, 1, 2, 3, 4] rfl q9
  exact x_lv [0, 1, 2, 3, 4] rfl (loop14 21 0 (by omega) (by omega))

def lineOk (x : Nat → Int32) (k : Nat) : Prop := x (28 + 9 * k + 7) = 0 ∧ x (28 + 9 * k + 5) = 0 ∧ x (28 + 9 * k + 4) = 0 ∧ 2 * x (28 + 9 * k + 0) ≤ x 1
def lineX (x : Nat → Int32) (k : Nat) : Nat → Int32 := upd (upd x 1 (x 1 - 2 * x (28 + 9 * k + 0))) (28 + 9 * k + 4) 1
def fillOk (x : Nat → Int32) (k : Nat) (ga ki po : Int32) : Prop := x (28 + 9 * k + 7) = 0 ∧ x (28 + 9 * k + 5) = 0 ∧ (x (28 + 9 * k + 3) = 0 ∨ (x (28 + 9 * k + 1) = ga ∧ x (28 + 9 * k + 2) = ki)) ∧ po ≤ cRoom (row x k) ∧ po ≤ sGet x ga ki
def fillX (x : Nat → Int32) (k : Nat) (ga ki po : Int32) : Nat → Int32 := setRow (sAdd x ga ki (-po)) k (cPut (row (sAdd x ga ki (-po)) k) ga ki po)
def emptyOk (x : Nat → Int32) (k : Nat) : Prop := x (28 + 9 * k + 7) = 0 ∧ x (28 + 9 * k + 5) = 0 ∧ 0 < x (28 + 9 * k + 3)
def backOf (x : Nat → Int32) (k : Nat) : Int32 := if x (28 + 9 * k + 3) < 500 - sGet x (x (28 + 9 * k + 1)) (x (28 + 9 * k + 2)) then x (28 + 9 * k + 3) else 500 - sGet x (x (28 + 9 * k + 1)) (x (28 + 9 * k + 2))
def emptyY (x : Nat → Int32) (k : Nat) : Nat → Int32 := sAdd x (x (28 + 9 * k + 1)) (x (28 + 9 * k + 2)) (backOf x k)
def emptyZ (x : Nat → Int32) (k : Nat) : Nat → Int32 := upd (emptyY x k) 8 (emptyY x k 8 + (emptyY x k (28 + 9 * k + 3) - backOf x k))
def emptyX (x : Nat → Int32) (k : Nat) : Nat → Int32 := setRow (emptyZ x k) k (cOut (row (emptyZ x k) k))
def screwOk (x : Nat → Int32) (k : Nat) (mn : Int32) : Prop := x (28 + 9 * k + 7) = 0 ∧ 0 < x (28 + 9 * k + 3) ∧ mn ≤ x 2 ∧ x (28 + 9 * k + 5) + mn ≤ 8
def screwX (x : Nat → Int32) (k : Nat) (mn : Int32) : Nat → Int32 := upd (upd x 2 (x 2 - mn)) (28 + 9 * k + 5) ((upd x 2 (x 2 - mn)) (28 + 9 * k + 5) + mn)
def unscrewX (x : Nat → Int32) (k : Nat) : Nat → Int32 := upd (upd x 2 (lo200 (x 2 + x (28 + 9 * k + 5)))) (28 + 9 * k + 5) 0
def bringX (x : Nat → Int32) (ga ki po : Int32) : Nat → Int32 := upd (sAdd x ga ki po) 6 ((sAdd x ga ki po) 6 + po)
def makeX (x : Nat → Int32) (k : Nat) (si : Int32) : Nat → Int32 := upd (upd (upd x (28 + 9 * k + 0) si) (28 + 9 * k + 7) 0) 3 (nI (k + 1))
def loadOk (x : Nat → Int32) (k : Nat) : Prop := x (28 + 9 * k + 7) = 1 ∧ 3 ≤ tide (x 0) 0 ∧ x (28 + 9 * k + 0) ≤ hRoom x 20
def loadX (x : Nat → Int32) (k : Nat) : Nat → Int32 := upd x (28 + 9 * k + 7) 2
def sailOk (x : Nat → Int32) : Prop := 3 ≤ tide (x 0) 0 ∧ 0 < nAt x 2 20
def sailZ (x : Nat → Int32) : Nat → Int32 := upd x 4 (x 4 + cargoN x 20)
def sailX (x : Nat → Int32) : Nat → Int32 := upd (sailAll (sailZ x) 20) 9 ((sailAll (sailZ x) 20) 9 + 1)
set_option maxHeartbeats 4000000 in
set_option maxRecDepth 100000 in
theorem k_X4_tryLine (l : Launch) (hl : l.stackTraces = false) (g : xg_T) (w : xw_T) (sz : Nat) (h : Nat) (x : Nat → Int32) (la : Nat → Nat) (hR : HR g w h x la) (hA : xA g h) (k : Nat) (hk : k < 20) : xM l g yX4_tryLine cX4_tryLine 3 (some .boolean) ({ frames := 2, cells := 0, slots := 0, locals := 43 }) 0 0 [.ref h, .ref (h + 3 + k)] w sz (fun r w1 sz1 => sz = sz1 ∧ ∃ x', w1 = HW g w h x' la ∧ tri (lineOk x k) (lineX x k) x x' r) (fun _ _ _ => False) := by
  refine xM.of RX4 hl (by decide +kernel) rfl (Nat.le_of_ble_eq_true rfl) rfl ?_
  intro p e s m args below meth cD C0 hini
  refine x_iconst (v := 2) 1 C0 dX4_tryLine_0 rfl (by decide) ?_
  refine x_aload_n 1 2 C0 dX4_tryLine_1 rfl rfl rfl ?_
  refine x_getf (v := .int (x (28 + 9 * k + 0))) 1 5 C0 dX4_tryLine_2 rfl (HR.c hR hk) rfl (by decide) inX1 mF_X4_107 rfl ?_
  refine x_imul 6 C0 dX4_tryLine_5 rfl ?_
  refine x_istore_n [(2, .int (2 * (x (28 + 9 * k + 0)))), (0, .ref h), (1, .ref (h + 3 + k))] 7 C0 dX4_tryLine_6 rfl rfl (by decide) rfl ?_
  refine x_lv (lv1 := [(0, .ref h), (1, .ref (h + 3 + k)), (2, .int (2 * (x (28 + 9 * k + 0))))]) [1, 2, 0] rfl ?_
  refine x_aload_n 0 8 C0 dX4_tryLine_7 rfl rfl rfl ?_
  refine x_aload_n 1 9 C0 dX4_tryLine_8 rfl rfl rfl ?_
  refine x_callV 12 C0 (k_X4_isInHouse l hl g _ _ _ _ _ hR hA k hk) dX4_tryLine_9 rfl mC_X4_isInHouse mM_X4_142 mI_X4_isInHouse mV_X4_isInHouse mN_X4 yd_X4_isInHouse rfl rfl ⟨Nat.le_of_ble_eq_true rfl, Nat.le_of_ble_eq_true rfl⟩ (HR.ho hR) rfl rfl rfl rfl (Nat.le_of_ble_eq_true rfl) ⟨Nat.le_of_ble_eq_true rfl, Nat.le_of_ble_eq_true rfl⟩ (fun _ _ _ q => False.elim q) (fun r w1 sz1 hz hP => ?_)
  obtain ⟨rfl, x1, rfl, hQ1⟩ := hP
  rcases hQ1 with ⟨hC1, rfl, rfl⟩ | ⟨hC1, rfl, hx1⟩
  · refine x_st (st1 := [.int 1]) rfl ?_
    refine x_if_eq 39 15 C0 dX4_tryLine_12 rfl (by decide) (fun q => False.elim (by revert q; decide)) (fun _ => ?_)
    refine x_aload_n 0 16 C0 dX4_tryLine_15 rfl rfl rfl ?_
    refine x_aload_n 1 17 C0 dX4_tryLine_16 rfl rfl rfl ?_
    refine x_callV 20 C0 (k_X4_isUnscrewed l hl g _ _ _ _ _ HR_HW hA k hk) dX4_tryLine_17 rfl mC_X4_isUnscrewed mM_X4_146 mI_X4_isUnscrewed mV_X4_isUnscrewed mN_X4 yd_X4_isUnscrewed rfl rfl ⟨Nat.le_of_ble_eq_true rfl, Nat.le_of_ble_eq_true rfl⟩ (HR.ho HR_HW) rfl rfl rfl rfl (Nat.le_of_ble_eq_true rfl) ⟨Nat.le_of_ble_eq_true rfl, Nat.le_of_ble_eq_true rfl⟩ (fun _ _ _ q => False.elim q) (fun r w1 sz1 hz hP => ?_)
    obtain ⟨rfl, x3, rfl, hQ3⟩ := hP
    rcases hQ3 with ⟨hC3, rfl, rfl⟩ | ⟨hC3, rfl, hx3⟩
    · refine x_w HW_HW ?_
      refine x_st (st1 := [.int 1]) rfl ?_
      refine x_if_eq 39 23 C0 dX4_tryLine_20 rfl (by decide) (fun q => False.elim (by revert q; decide)) (fun _ => ?_)
      refine x_aload_n 0 24 C0 dX4_tryLine_23 rfl rfl rfl ?_
      refine x_aload_n 1 25 C0 dX4_tryLine_24 rfl rfl rfl ?_
      refine x_callV 28 C0 (k_X4_isUnlined l hl g _ _ _ _ _ HR_HW hA k hk) dX4_tryLine_25 rfl mC_X4_isUnlined mM_X4_149 mI_X4_isUnlined mV_X4_isUnlined mN_X4 yd_X4_isUnlined rfl rfl ⟨Nat.le_of_ble_eq_true rfl, Nat.le_of_ble_eq_true rfl⟩ (HR.ho HR_HW) rfl rfl rfl rfl (Nat.le_of_ble_eq_true rfl) ⟨Nat.le_of_ble_eq_true rfl, Nat.le_of_ble_eq_true rfl⟩ (fun _ _ _ q => False.elim q) (fun r w1 sz1 hz hP => ?_)
      obtain ⟨rfl, x5, rfl, hQ5⟩ := hP
      rcases hQ5 with ⟨hC5, rfl, rfl⟩ | ⟨hC5, rfl, hx5⟩
      · refine x_w HW_HW ?_
        refine x_st (st1 := [.int 1]) rfl ?_
        refine x_if_eq 39 31 C0 dX4_tryLine_28 rfl (by decide) (fun q => False.elim (by revert q; decide)) (fun _ => ?_)
        refine x_aload_n 0 32 C0 dX4_tryLine_31 rfl rfl rfl ?_
        refine x_iload_n 2 33 C0 dX4_tryLine_32 rfl rfl rfl ?_
        refine x_callV 36 C0 (k_X4_hasSheets l hl g _ _ _ _ _ HR_HW hA (2 * (x (28 + 9 * k + 0)))) dX4_tryLine_33 rfl mC_X4_hasSheets mM_X4_152 mI_X4_hasSheets mV_X4_hasSheets mN_X4 yd_X4_hasSheets rfl rfl ⟨Nat.le_of_ble_eq_true rfl, Nat.le_of_ble_eq_true rfl⟩ (HR.ho HR_HW) rfl rfl rfl rfl (Nat.le_of_ble_eq_true rfl) ⟨Nat.le_of_ble_eq_true rfl, Nat.le_of_ble_eq_true rfl⟩ (fun _ _ _ q => False.elim q) (fun r w1 sz1 hz hP => ?_)
        obtain ⟨rfl, x7, rfl, hQ7⟩ := hP
        rcases hQ7 with ⟨hC7, rfl, rfl⟩ | ⟨hC7, rfl, hx7⟩
        · refine x_w HW_HW ?_
          refine x_st (st1 := [.int 1]) rfl ?_
          refine x_if_ne 41 39 C0 dX4_tryLine_36 rfl (by decide) (fun _ => ?_) (fun q => False.elim (by revert q; decide))
          refine x_aload_n 0 42 C0 dX4_tryLine_41 rfl rfl rfl ?_
          refine x_dup 43 C0 dX4_tryLine_42 rfl rfl ?_
          refine x_getf (v := .int (x 1)) 3 46 C0 dX4_tryLine_43 rfl (HR.ho HR_HW) rfl (by decide) inX4 mF_X4_25 rfl ?_
          refine x_iload_n 2 47 C0 dX4_tryLine_46 rfl rfl rfl ?_
          refine x_isub 48 C0 dX4_tryLine_47 rfl ?_
          refine x_putf 3 51 C0 dX4_tryLine_48 rfl (HR.ho HR_HW) hA rfl (by decide) inX4 tyX4_ok nmX4 mF_X4_25 rfl rfl rfl rfl (Nat.le_of_ble_eq_true rfl) ?_
          refine x_w (w1 := HW g w h (upd x 1 ((x 1) - (2 * (x (28 + 9 * k + 0))))) la) (HW_putH (by decide) (houseS3 _ _ _)) ?_
          refine x_aload_n 1 52 C0 dX4_tryLine_51 rfl rfl rfl ?_
          refine x_iconst (v := 1) 53 C0 dX4_tryLine_52 rfl (by decide) ?_
          refine x_putf 5 56 C0 dX4_tryLine_53 rfl (HR.c HR_HW hk) (xA_le hA (by omega)) rfl (by decide) inX1 tyX1_ok nmX1 mF_X4_103 rfl rfl rfl rfl (Nat.le_of_ble_eq_true rfl) ?_
          refine x_w (w1 := HW g w h (upd (upd x 1 ((x 1) - (2 * (x (28 + 9 * k + 0))))) (28 + 9 * k + 4) 1) la) (HW_putC1 hk (by decide) (chestS4 _ _ _ _)) ?_
          refine x_iconst (v := 1) 57 C0 dX4_tryLine_56 rfl (by decide) ?_
          exact x_ireturn C0 dX4_tryLine_57 rfl rfl (Nat.le_of_ble_eq_true rfl) (Nat.le_of_ble_eq_true rfl) ⟨rfl, _, rfl, Or.inl ⟨⟨hC1, hC3, hC5, hC7⟩, rfl, rfl⟩⟩
        · refine x_w HW_HW ?_
          refine x_st (st1 := [.int 0]) rfl ?_
          refine x_if_ne 41 39 C0 dX4_tryLine_36 rfl (by decide) (fun q => False.elim (by revert q; decide)) (fun _ => ?_)
          refine x_iconst (v := 0) 40 C0 dX4_tryLine_39 rfl (by decide) ?_
          exact x_ireturn C0 dX4_tryLine_40 rfl rfl (Nat.le_of_ble_eq_true rfl) (Nat.le_of_ble_eq_true rfl) ⟨rfl, _, rfl, Or.inr ⟨fun q => hC7 q.2.2.2, rfl, hx7⟩⟩
      · refine x_w HW_HW ?_
        refine x_st (st1 := [.int 0]) rfl ?_
        refine x_if_eq 39 31 C0 dX4_tryLine_28 rfl (by decide) (fun _ => ?_) (fun q => False.elim (by revert q; decide))
        refine x_iconst (v := 0) 40 C0 dX4_tryLine_39 rfl (by decide) ?_
        exact x_ireturn C0 dX4_tryLine_40 rfl rfl (Nat.le_of_ble_eq_true rfl) (Nat.le_of_ble_eq_true rfl) ⟨rfl, _, rfl, Or.inr ⟨fun q => hC5 q.2.2.1, rfl, hx5⟩⟩
    · refine x_w HW_HW ?_
      refine x_st (st1 := [.int 0]) rfl ?_
      refine x_if_eq 39 23 C0 dX4_tryLine_20 rfl (by decide) (fun _ => ?_) (fun q => False.elim (by revert q; decide))
      refine x_iconst (v := 0) 40 C0 dX4_tryLine_39 rfl (by decide) ?_
      exact x_ireturn C0 dX4_tryLine_40 rfl rfl (Nat.le_of_ble_eq_true rfl) (Nat.le_of_ble_eq_true rfl) ⟨rfl, _, rfl, Or.inr ⟨fun q => hC3 q.2.1, rfl, hx3⟩⟩
  · refine x_st (st1 := [.int 0]) rfl ?_
    refine x_if_eq 39 15 C0 dX4_tryLine_12 rfl (by decide) (fun _ => ?_) (fun q => False.elim (by revert q; decide))
    refine x_iconst (v := 0) 40 C0 dX4_tryLine_39 rfl (by decide) ?_
    exact x_ireturn C0 dX4_tryLine_40 rfl rfl (Nat.le_of_ble_eq_true rfl) (Nat.le_of_ble_eq_true rfl) ⟨rfl, _, rfl, Or.inr ⟨fun q => hC1 q.1, rfl, hx1⟩⟩

set_option maxHeartbeats 4000000 in
set_option maxRecDepth 100000 in
theorem k_X4_tryFill (l : Launch) (hl : l.stackTraces = false) (g : xg_T) (w : xw_T) (sz : Nat) (h : Nat) (x : Nat → Int32) (la : Nat → Nat) (hR : HR g w h x la) (hA : xA g h) (k : Nat) (hk : k < 20) (ga ki po : Int32) : xM l g yX4_tryFill cX4_tryFill 5 (some .boolean) ({ frames := 3, cells := 0, slots := 0, locals := 66 }) 0 0 [.ref h, .ref (h + 3 + k), .int ga, .int ki, .int po] w sz (fun r w1 sz1 => sz = sz1 ∧ ∃ x' la', w1 = HW g w h x' la' ∧ ((fillOk x k ga ki po ∧ r = some (.int 1) ∧ fillX x k ga ki po = x' ∧ va_up la k (g.2 100) = la') ∨ (¬ (fillOk x k ga ki po) ∧ r = some (.int 0) ∧ refd x x' ∧ la = la'))) (fun _ _ _ => False) := by
  refine xM.of RX4 hl (by decide +kernel) rfl (Nat.le_of_ble_eq_true rfl) rfl ?_
  intro p e s m args below meth cD C0 hini
  refine x_aload_n 0 1 C0 dX4_tryFill_0 rfl rfl rfl ?_
  refine x_aload_n 1 2 C0 dX4_tryFill_1 rfl rfl rfl ?_
  refine x_callV 5 C0 (k_X4_isInHouse l hl g _ _ _ _ _ hR hA k hk) dX4_tryFill_2 rfl mC_X4_isInHouse mM_X4_142 mI_X4_isInHouse mV_X4_isInHouse mN_X4 yd_X4_isInHouse rfl rfl ⟨Nat.le_of_ble_eq_true rfl, Nat.le_of_ble_eq_true rfl⟩ (HR.ho hR) rfl rfl rfl rfl (Nat.le_of_ble_eq_true rfl) ⟨Nat.le_of_ble_eq_true rfl, Nat.le_of_ble_eq_true rfl⟩ (fun _ _ _ q => False.elim q) (fun r w1 sz1 hz hP => ?_)
  obtain ⟨rfl, x1, rfl, hQ1⟩ := hP
  rcases hQ1 with ⟨hC1, rfl, rfl⟩ | ⟨hC1, rfl, hx1⟩
  · refine x_st (st1 := [.int 1]) rfl ?_
    refine x_if_eq 47 8 C0 dX4_tryFill_5 rfl (by decide) (fun q => False.elim (by revert q; decide)) (fun _ => ?_)
    refine x_aload_n 0 9 C0 dX4_tryFill_8 rfl rfl rfl ?_
    refine x_aload_n 1 10 C0 dX4_tryFill_9 rfl rfl rfl ?_
    refine x_callV 13 C0 (k_X4_isUnscrewed l hl g _ _ _ _ _ HR_HW hA k hk) dX4_tryFill_10 rfl mC_X4_isUnscrewed mM_X4_146 mI_X4_isUnscrewed mV_X4_isUnscrewed mN_X4 yd_X4_isUnscrewed rfl rfl ⟨Nat.le_of_ble_eq_true rfl, Nat.le_of_ble_eq_true rfl⟩ (HR.ho HR_HW) rfl rfl rfl rfl (Nat.le_of_ble_eq_true rfl) ⟨Nat.le_of_ble_eq_true rfl, Nat.le_of_ble_eq_true rfl⟩ (fun _ _ _ q => False.elim q) (fun r w1 sz1 hz hP => ?_)
    obtain ⟨rfl, x3, rfl, hQ3⟩ := hP
    rcases hQ3 with ⟨hC3, rfl, rfl⟩ | ⟨hC3, rfl, hx3⟩
    · refine x_w HW_HW ?_
      refine x_st (st1 := [.int 1]) rfl ?_
      refine x_if_eq 47 16 C0 dX4_tryFill_13 rfl (by decide) (fun q => False.elim (by revert q; decide)) (fun _ => ?_)
      refine x_aload_n 0 17 C0 dX4_tryFill_16 rfl rfl rfl ?_
      refine x_aload_n 1 18 C0 dX4_tryFill_17 rfl rfl rfl ?_
      refine x_iload_n 2 19 C0 dX4_tryFill_18 rfl rfl rfl ?_
      refine x_iload_n 3 20 C0 dX4_tryFill_19 rfl rfl rfl ?_
      refine x_callV 23 C0 (k_X4_hasNoOtherLeaves l hl g _ _ _ _ _ HR_HW hA k hk ga ki) dX4_tryFill_20 rfl mC_X4_hasNoOtherLeaves mM_X4_156 mI_X4_hasNoOtherLeaves mV_X4_hasNoOtherLeaves mN_X4 yd_X4_hasNoOtherLeaves rfl rfl ⟨Nat.le_of_ble_eq_true rfl, Nat.le_of_ble_eq_true rfl⟩ (HR.ho HR_HW) rfl rfl rfl rfl (Nat.le_of_ble_eq_true rfl) ⟨Nat.le_of_ble_eq_true rfl, Nat.le_of_ble_eq_true rfl⟩ (fun _ _ _ q => False.elim q) (fun r w1 sz1 hz hP => ?_)
      obtain ⟨rfl, x5, rfl, hQ5⟩ := hP
      rcases hQ5 with ⟨hC5, rfl, rfl⟩ | ⟨hC5, rfl, hx5⟩
      · refine x_w HW_HW ?_
        refine x_st (st1 := [.int 1]) rfl ?_
        refine x_if_eq 47 26 C0 dX4_tryFill_23 rfl (by decide) (fun q => False.elim (by revert q; decide)) (fun _ => ?_)
        refine x_aload_n 0 27 C0 dX4_tryFill_26 rfl rfl rfl ?_
        refine x_aload_n 1 28 C0 dX4_tryFill_27 rfl rfl rfl ?_
        refine x_iload 4 30 C0 dX4_tryFill_28 rfl rfl ?_
        refine x_callV 33 C0 (k_X4_hasRoom l hl g _ _ _ _ _ HR_HW hA k hk po) dX4_tryFill_30 rfl mC_X4_hasRoom mM_X4_160 mI_X4_hasRoom mV_X4_hasRoom mN_X4 yd_X4_hasRoom rfl rfl ⟨Nat.le_of_ble_eq_true rfl, Nat.le_of_ble_eq_true rfl⟩ (HR.ho HR_HW) rfl rfl rfl rfl (Nat.le_of_ble_eq_true rfl) ⟨Nat.le_of_ble_eq_true rfl, Nat.le_of_ble_eq_true rfl⟩ (fun _ _ _ q => False.elim q) (fun r w1 sz1 hz hP => ?_)
        obtain ⟨rfl, x7, rfl, hQ7⟩ := hP
        rcases hQ7 with ⟨hC7, rfl, rfl⟩ | ⟨hC7, rfl, hx7⟩
        · refine x_w HW_HW ?_
          refine x_st (st1 := [.int 1]) rfl ?_
          refine x_if_eq 47 36 C0 dX4_tryFill_33 rfl (by decide) (fun q => False.elim (by revert q; decide)) (fun _ => ?_)
          refine x_aload_n 0 37 C0 dX4_tryFill_36 rfl rfl rfl ?_
          refine x_iload_n 2 38 C0 dX4_tryFill_37 rfl rfl rfl ?_
          refine x_iload_n 3 39 C0 dX4_tryFill_38 rfl rfl rfl ?_
          refine x_iload 4 41 C0 dX4_tryFill_39 rfl rfl ?_
          refine x_callV 44 C0 (k_X4_hasPounds l hl g _ _ _ _ _ HR_HW hA ga ki po) dX4_tryFill_41 rfl mC_X4_hasPounds mM_X4_164 mI_X4_hasPounds mV_X4_hasPounds mN_X4 yd_X4_hasPounds rfl rfl ⟨Nat.le_of_ble_eq_true rfl, Nat.le_of_ble_eq_true rfl⟩ (HR.ho HR_HW) rfl rfl rfl rfl (Nat.le_of_ble_eq_true rfl) ⟨Nat.le_of_ble_eq_true rfl, Nat.le_of_ble_eq_true rfl⟩ (fun _ _ _ q => False.elim q) (fun r w1 sz1 hz hP => ?_)
          obtain ⟨rfl, x9, rfl, hQ9⟩ := hP
          rcases hQ9 with ⟨hC9, rfl, rfl⟩ | ⟨hC9, rfl, hx9⟩
          · refine x_w HW_HW ?_
            refine x_st (st1 := [.int 1]) rfl ?_
            refine x_if_ne 49 47 C0 dX4_tryFill_44 rfl (by decide) (fun _ => ?_) (fun q => False.elim (by revert q; decide))
            refine x_aload_n 0 50 C0 dX4_tryFill_49 rfl rfl rfl ?_
            refine x_iload_n 2 51 C0 dX4_tryFill_50 rfl rfl rfl ?_
            refine x_iload_n 3 52 C0 dX4_tryFill_51 rfl rfl rfl ?_
            refine x_iload 4 54 C0 dX4_tryFill_52 rfl rfl ?_
            refine x_ineg 55 C0 dX4_tryFill_54 rfl ?_
            refine x_callV 58 C0 (k_X4_addToStore l hl g _ _ _ _ _ HR_HW hA ga ki (-po)) dX4_tryFill_55 rfl mC_X4_addToStore mM_X4_84 mI_X4_addToStore mV_X4_addToStore mN_X4 yd_X4_addToStore rfl rfl ⟨Nat.le_of_ble_eq_true rfl, Nat.le_of_ble_eq_true rfl⟩ (HR.ho HR_HW) rfl rfl rfl rfl (Nat.le_of_ble_eq_true rfl) ⟨Nat.le_of_ble_eq_true rfl, Nat.le_of_ble_eq_true rfl⟩ (fun _ _ _ q => False.elim q) (fun r w1 sz1 hz hP => ?_)
            obtain ⟨rfl, rfl, rfl⟩ := hP
            refine x_w HW_HW ?_
            refine x_st (st1 := []) rfl ?_
            refine x_aload_n 1 59 C0 dX4_tryFill_58 rfl rfl rfl ?_
            refine x_iload_n 2 60 C0 dX4_tryFill_59 rfl rfl rfl ?_
            refine x_iload_n 3 61 C0 dX4_tryFill_60 rfl rfl rfl ?_
            refine x_iload 4 63 C0 dX4_tryFill_61 rfl rfl ?_
            refine x_callV 66 C0 (k_X1_putIn l hl g _ _ _ _ _ _ (HR.c HR_HW hk) (xA_le hA (by omega)) ga ki po) dX4_tryFill_63 rfl mC_X1_putIn mM_X4_168 mI_X1_putIn mV_X1_putIn mN_X1 yd_X1_putIn rfl rfl ⟨Nat.le_of_ble_eq_true rfl, Nat.le_of_ble_eq_true rfl⟩ (HR.c HR_HW hk) rfl rfl rfl rfl (Nat.le_of_ble_eq_true rfl) ⟨Nat.le_of_ble_eq_true rfl, Nat.le_of_ble_eq_true rfl⟩ (fun _ _ _ q => False.elim q) (fun r w1 sz1 hz hP => ?_)
            obtain ⟨rfl, rfl, rfl⟩ := hP
            refine x_w (w1 := HW g w h (setRow (sAdd x ga ki (-po)) k (cPut (row (sAdd x ga ki (-po)) k) ga ki po)) (va_up la k (g.2 100))) (HW_putRowL hk) ?_
            refine x_st (st1 := []) rfl ?_
            refine x_iconst (v := 1) 67 C0 dX4_tryFill_66 rfl (by decide) ?_
            exact x_ireturn C0 dX4_tryFill_67 rfl rfl (Nat.le_of_ble_eq_true rfl) (Nat.le_of_ble_eq_true rfl) ⟨rfl, _, _, rfl, Or.inl ⟨⟨hC1, hC3, hC5, hC7, hC9⟩, rfl, rfl, rfl⟩⟩
          · refine x_w HW_HW ?_
            refine x_st (st1 := [.int 0]) rfl ?_
            refine x_if_ne 49 47 C0 dX4_tryFill_44 rfl (by decide) (fun q => False.elim (by revert q; decide)) (fun _ => ?_)
            refine x_iconst (v := 0) 48 C0 dX4_tryFill_47 rfl (by decide) ?_
            exact x_ireturn C0 dX4_tryFill_48 rfl rfl (Nat.le_of_ble_eq_true rfl) (Nat.le_of_ble_eq_true rfl) ⟨rfl, _, _, rfl, Or.inr ⟨fun q => hC9 q.2.2.2.2, rfl, hx9, rfl⟩⟩
        · refine x_w HW_HW ?_
          refine x_st (st1 := [.int 0]) rfl ?_
          refine x_if_eq 47 36 C0 dX4_tryFill_33 rfl (by decide) (fun _ => ?_) (fun q => False.elim (by revert q; decide))
          refine x_iconst (v := 0) 48 C0 dX4_tryFill_47 rfl (by decide) ?_
          exact x_ireturn C0 dX4_tryFill_48 rfl rfl (Nat.le_of_ble_eq_true rfl) (Nat.le_of_ble_eq_true rfl) ⟨rfl, _, _, rfl, Or.inr ⟨fun q => hC7 q.2.2.2.1, rfl, hx7, rfl⟩⟩
      · refine x_w HW_HW ?_
        refine x_st (st1 := [.int 0]) rfl ?_
        refine x_if_eq 47 26 C0 dX4_tryFill_23 rfl (by decide) (fun _ => ?_) (fun q => False.elim (by revert q; decide))
        refine x_iconst (v := 0) 48 C0 dX4_tryFill_47 rfl (by decide) ?_
        exact x_ireturn C0 dX4_tryFill_48 rfl rfl (Nat.le_of_ble_eq_true rfl) (Nat.le_of_ble_eq_true rfl) ⟨rfl, _, _, rfl, Or.inr ⟨fun q => hC5 q.2.2.1, rfl, hx5, rfl⟩⟩
    · refine x_w HW_HW ?_
      refine x_st (st1 := [.int 0]) rfl ?_
      refine x_if_eq 47 16 C0 dX4_tryFill_13 rfl (by decide) (fun _ => ?_) (fun q => False.elim (by revert q; decide))
      refine x_iconst (v := 0) 48 C0 dX4_tryFill_47 rfl (by decide) ?_
      exact x_ireturn C0 dX4_tryFill_48 rfl rfl (Nat.le_of_ble_eq_true rfl) (Nat.le_of_ble_eq_true rfl) ⟨rfl, _, _, rfl, Or.inr ⟨fun q => hC3 q.2.1, rfl, hx3, rfl⟩⟩
  · refine x_st (st1 := [.int 0]) rfl ?_
    refine x_if_eq 47 8 C0 dX4_tryFill_5 rfl (by decide) (fun _ => ?_) (fun q => False.elim (by revert q; decide))
    refine x_iconst (v := 0) 48 C0 dX4_tryFill_47 rfl (by decide) ?_
    exact x_ireturn C0 dX4_tryFill_48 rfl rfl (Nat.le_of_ble_eq_true rfl) (Nat.le_of_ble_eq_true rfl) ⟨rfl, _, _, rfl, Or.inr ⟨fun q => hC1 q.1, rfl, hx1, rfl⟩⟩

set_option maxHeartbeats 4000000 in
set_option maxRecDepth 100000 in
theorem k_X4_tryEmpty (l : Launch) (hl : l.stackTraces = false) (g : xg_T) (w : xw_T) (sz : Nat) (h : Nat) (x : Nat → Int32) (la : Nat → Nat) (hR : HR g w h x la) (hA : xA g h) (k : Nat) (hk : k < 20) : xM l g yX4_tryEmpty cX4_tryEmpty 4 (some .boolean) ({ frames := 2, cells := 0, slots := 0, locals := 44 }) 0 0 [.ref h, .ref (h + 3 + k)] w sz (fun r w1 sz1 => sz = sz1 ∧ ∃ x' la', w1 = HW g w h x' la' ∧ ((emptyOk x k ∧ r = some (.int 1) ∧ emptyX x k = x' ∧ va_up la k (g.2 100) = la') ∨ (¬ (emptyOk x k) ∧ r = some (.int 0) ∧ refd x x' ∧ la = la'))) (fun _ _ _ => False) := by
  refine xM.of RX4 hl (by decide +kernel) rfl (Nat.le_of_ble_eq_true rfl) rfl ?_
  intro p e s m args below meth cD C0 hini
  refine x_aload_n 0 1 C0 dX4_tryEmpty_0 rfl rfl rfl ?_
  refine x_aload_n 1 2 C0 dX4_tryEmpty_1 rfl rfl rfl ?_
  refine x_callV 5 C0 (k_X4_isInHouse l hl g _ _ _ _ _ hR hA k hk) dX4_tryEmpty_2 rfl mC_X4_isInHouse mM_X4_142 mI_X4_isInHouse mV_X4_isInHouse mN_X4 yd_X4_isInHouse rfl rfl ⟨Nat.le_of_ble_eq_true rfl, Nat.le_of_ble_eq_true rfl⟩ (HR.ho hR) rfl rfl rfl rfl (Nat.le_of_ble_eq_true rfl) ⟨Nat.le_of_ble_eq_true rfl, Nat.le_of_ble_eq_true rfl⟩ (fun _ _ _ q => False.elim q) (fun r w1 sz1 hz hP => ?_)
  obtain ⟨rfl, x1, rfl, hQ1⟩ := hP
  rcases hQ1 with ⟨hC1, rfl, rfl⟩ | ⟨hC1, rfl, hx1⟩
  · refine x_st (st1 := [.int 1]) rfl ?_
    refine x_if_eq 24 8 C0 dX4_tryEmpty_5 rfl (by decide) (fun q => False.elim (by revert q; decide)) (fun _ => ?_)
    refine x_aload_n 0 9 C0 dX4_tryEmpty_8 rfl rfl rfl ?_
    refine x_aload_n 1 10 C0 dX4_tryEmpty_9 rfl rfl rfl ?_
    refine x_callV 13 C0 (k_X4_isUnscrewed l hl g _ _ _ _ _ HR_HW hA k hk) dX4_tryEmpty_10 rfl mC_X4_isUnscrewed mM_X4_146 mI_X4_isUnscrewed mV_X4_isUnscrewed mN_X4 yd_X4_isUnscrewed rfl rfl ⟨Nat.le_of_ble_eq_true rfl, Nat.le_of_ble_eq_true rfl⟩ (HR.ho HR_HW) rfl rfl rfl rfl (Nat.le_of_ble_eq_true rfl) ⟨Nat.le_of_ble_eq_true rfl, Nat.le_of_ble_eq_true rfl⟩ (fun _ _ _ q => False.elim q) (fun r w1 sz1 hz hP => ?_)
    obtain ⟨rfl, x3, rfl, hQ3⟩ := hP
    rcases hQ3 with ⟨hC3, rfl, rfl⟩ | ⟨hC3, rfl, hx3⟩
    · refine x_w HW_HW ?_
      refine x_st (st1 := [.int 1]) rfl ?_
      refine x_if_eq 24 16 C0 dX4_tryEmpty_13 rfl (by decide) (fun q => False.elim (by revert q; decide)) (fun _ => ?_)
      refine x_aload_n 0 17 C0 dX4_tryEmpty_16 rfl rfl rfl ?_
      refine x_aload_n 1 18 C0 dX4_tryEmpty_17 rfl rfl rfl ?_
      refine x_callV 21 C0 (k_X4_isFilled l hl g _ _ _ _ _ HR_HW hA k hk) dX4_tryEmpty_18 rfl mC_X4_isFilled mM_X4_171 mI_X4_isFilled mV_X4_isFilled mN_X4 yd_X4_isFilled rfl rfl ⟨Nat.le_of_ble_eq_true rfl, Nat.le_of_ble_eq_true rfl⟩ (HR.ho HR_HW) rfl rfl rfl rfl (Nat.le_of_ble_eq_true rfl) ⟨Nat.le_of_ble_eq_true rfl, Nat.le_of_ble_eq_true rfl⟩ (fun _ _ _ q => False.elim q) (fun r w1 sz1 hz hP => ?_)
      obtain ⟨rfl, x5, rfl, hQ5⟩ := hP
      rcases hQ5 with ⟨hC5, rfl, rfl⟩ | ⟨hC5, rfl, hx5⟩
      · refine x_w HW_HW ?_
        refine x_st (st1 := [.int 1]) rfl ?_
        refine x_if_ne 26 24 C0 dX4_tryEmpty_21 rfl (by decide) (fun _ => ?_) (fun q => False.elim (by revert q; decide))
        refine x_sipush (v := 500) 29 C0 dX4_tryEmpty_26 rfl (by decide) ?_
        refine x_aload_n 0 30 C0 dX4_tryEmpty_29 rfl rfl rfl ?_
        refine x_aload_n 1 31 C0 dX4_tryEmpty_30 rfl rfl rfl ?_
        refine x_getf (v := .int (x (28 + 9 * k + 1))) 2 34 C0 dX4_tryEmpty_31 rfl (HR.c HR_HW hk) rfl (by decide) inX1 mF_X4_113 rfl ?_
        refine x_aload_n 1 35 C0 dX4_tryEmpty_34 rfl rfl rfl ?_
        refine x_getf (v := .int (x (28 + 9 * k + 2))) 3 38 C0 dX4_tryEmpty_35 rfl (HR.c HR_HW hk) rfl (by decide) inX1 mF_X4_116 rfl ?_
        refine x_callV 41 C0 (k_X4_stored l hl g _ _ _ _ _ HR_HW (x (28 + 9 * k + 1)) (x (28 + 9 * k + 2))) dX4_tryEmpty_38 rfl mC_X4_stored mM_X4_73 mI_X4_stored mV_X4_stored mN_X4 yd_X4_stored rfl rfl ⟨Nat.le_of_ble_eq_true rfl, Nat.le_of_ble_eq_true rfl⟩ (HR.ho HR_HW) rfl rfl rfl rfl (Nat.le_of_ble_eq_true rfl) ⟨Nat.le_of_ble_eq_true rfl, Nat.le_of_ble_eq_true rfl⟩ (fun _ _ _ q => False.elim q) (fun r w1 sz1 hz hP => ?_)
        obtain ⟨rfl, rfl, rfl⟩ := hP
        refine x_st (st1 := [.int (sGet x (x (28 + 9 * k + 1)) (x (28 + 9 * k + 2))), .int 500]) rfl ?_
        refine x_isub 42 C0 dX4_tryEmpty_41 rfl ?_
        refine x_istore_n [(2, .int (500 - (sGet x (x (28 + 9 * k + 1)) (x (28 + 9 * k + 2))))), (0, .ref h), (1, .ref (h + 3 + k))] 43 C0 dX4_tryEmpty_42 rfl rfl (by decide) rfl ?_
        refine x_lv (lv1 := [(0, .ref h), (1, .ref (h + 3 + k)), (2, .int (500 - (sGet x (x (28 + 9 * k + 1)) (x (28 + 9 * k + 2)))))]) [1, 2, 0] rfl ?_
        refine x_iload_n 2 44 C0 dX4_tryEmpty_43 rfl rfl rfl ?_
        refine x_aload_n 1 45 C0 dX4_tryEmpty_44 rfl rfl rfl ?_
        refine x_getf (v := .int (x (28 + 9 * k + 3))) 4 48 C0 dX4_tryEmpty_45 rfl (HR.c HR_HW hk) rfl (by decide) inX1 mF_X4_110 rfl ?_
        refine x_mmin 51 C0 dX4_tryEmpty_48 rfl mM_X4_88 mS_Math_min mN_J9 mC_Math_min (Nat.le_of_ble_eq_true rfl) (Nat.le_of_ble_eq_true rfl) (Nat.le_of_ble_eq_true rfl) (Nat.le_of_ble_eq_true rfl) ?_
        refine x_istore_n [(3, .int (if x (28 + 9 * k + 3) < (500 - (sGet x (x (28 + 9 * k + 1)) (x (28 + 9 * k + 2)))) then x (28 + 9 * k + 3) else 500 - (sGet x (x (28 + 9 * k + 1)) (x (28 + 9 * k + 2))))), (0, .ref h), (1, .ref (h + 3 + k)), (2, .int (500 - (sGet x (x (28 + 9 * k + 1)) (x (28 + 9 * k + 2)))))] 52 C0 dX4_tryEmpty_51 rfl rfl (by decide) rfl ?_
        refine x_lv (lv1 := [(0, .ref h), (1, .ref (h + 3 + k)), (2, .int (500 - (sGet x (x (28 + 9 * k + 1)) (x (28 + 9 * k + 2))))), (3, .int (if x (28 + 9 * k + 3) < (500 - (sGet x (x (28 + 9 * k + 1)) (x (28 + 9 * k + 2)))) then x (28 + 9 * k + 3) else 500 - (sGet x (x (28 + 9 * k + 1)) (x (28 + 9 * k + 2)))))]) [1, 2, 3, 0] rfl ?_
        refine x_aload_n 0 53 C0 dX4_tryEmpty_52 rfl rfl rfl ?_
        refine x_aload_n 1 54 C0 dX4_tryEmpty_53 rfl rfl rfl ?_
        refine x_getf (v := .int (x (28 + 9 * k + 1))) 2 57 C0 dX4_tryEmpty_54 rfl (HR.c HR_HW hk) rfl (by decide) inX1 mF_X4_113 rfl ?_
        refine x_aload_n 1 58 C0 dX4_tryEmpty_57 rfl rfl rfl ?_
        refine x_getf (v := .int (x (28 + 9 * k + 2))) 3 61 C0 dX4_tryEmpty_58 rfl (HR.c HR_HW hk) rfl (by decide) inX1 mF_X4_116 rfl ?_
        refine x_iload_n 3 62 C0 dX4_tryEmpty_61 rfl rfl rfl ?_
        refine x_callV 65 C0 (k_X4_addToStore l hl g _ _ _ _ _ HR_HW hA (x (28 + 9 * k + 1)) (x (28 + 9 * k + 2)) (if x (28 + 9 * k + 3) < (500 - (sGet x (x (28 + 9 * k + 1)) (x (28 + 9 * k + 2)))) then x (28 + 9 * k + 3) else 500 - (sGet x (x (28 + 9 * k + 1)) (x (28 + 9 * k + 2))))) dX4_tryEmpty_62 rfl mC_X4_addToStore mM_X4_84 mI_X4_addToStore mV_X4_addToStore mN_X4 yd_X4_addToStore rfl rfl ⟨Nat.le_of_ble_eq_true rfl, Nat.le_of_ble_eq_true rfl⟩ (HR.ho HR_HW) rfl rfl rfl rfl (Nat.le_of_ble_eq_true rfl) ⟨Nat.le_of_ble_eq_true rfl, Nat.le_of_ble_eq_true rfl⟩ (fun _ _ _ q => False.elim q) (fun r w1 sz1 hz hP => ?_)
        obtain ⟨rfl, rfl, rfl⟩ := hP
        refine x_w HW_HW ?_
        refine x_st (st1 := []) rfl ?_
        refine x_aload_n 0 66 C0 dX4_tryEmpty_65 rfl rfl rfl ?_
        refine x_dup 67 C0 dX4_tryEmpty_66 rfl rfl ?_
        refine x_getf (v := .int ((sAdd x (x (28 + 9 * k + 1)) (x (28 + 9 * k + 2)) (if x (28 + 9 * k + 3) < (500 - (sGet x (x (28 + 9 * k + 1)) (x (28 + 9 * k + 2)))) then x (28 + 9 * k + 3) else 500 - (sGet x (x (28 + 9 * k + 1)) (x (28 + 9 * k + 2))))) 8)) 11 70 C0 dX4_tryEmpty_67 rfl (HR.ho HR_HW) rfl (by decide) inX4 mF_X4_66 rfl ?_
        refine x_aload_n 1 71 C0 dX4_tryEmpty_70 rfl rfl rfl ?_
        refine x_getf (v := .int ((sAdd x (x (28 + 9 * k + 1)) (x (28 + 9 * k + 2)) (if x (28 + 9 * k + 3) < (500 - (sGet x (x (28 + 9 * k + 1)) (x (28 + 9 * k + 2)))) then x (28 + 9 * k + 3) else 500 - (sGet x (x (28 + 9 * k + 1)) (x (28 + 9 * k + 2))))) (28 + 9 * k + 3))) 4 74 C0 dX4_tryEmpty_71 rfl (HR.c HR_HW hk) rfl (by decide) inX1 mF_X4_110 rfl ?_
        refine x_iload_n 3 75 C0 dX4_tryEmpty_74 rfl rfl rfl ?_
        refine x_isub 76 C0 dX4_tryEmpty_75 rfl ?_
        refine x_iadd 77 C0 dX4_tryEmpty_76 rfl ?_
        refine x_putf 11 80 C0 dX4_tryEmpty_77 rfl (HR.ho HR_HW) hA rfl (by decide) inX4 tyX4_ok nmX4 mF_X4_66 rfl rfl rfl rfl (Nat.le_of_ble_eq_true rfl) ?_
        refine x_w (w1 := HW g w h (upd (sAdd x (x (28 + 9 * k + 1)) (x (28 + 9 * k + 2)) (if x (28 + 9 * k + 3) < (500 - (sGet x (x (28 + 9 * k + 1)) (x (28 + 9 * k + 2)))) then x (28 + 9 * k + 3) else 500 - (sGet x (x (28 + 9 * k + 1)) (x (28 + 9 * k + 2))))) 8 (((sAdd x (x (28 + 9 * k + 1)) (x (28 + 9 * k + 2)) (if x (28 + 9 * k + 3) < (500 - (sGet x (x (28 + 9 * k + 1)) (x (28 + 9 * k + 2)))) then x (28 + 9 * k + 3) else 500 - (sGet x (x (28 + 9 * k + 1)) (x (28 + 9 * k + 2))))) 8) + (((sAdd x (x (28 + 9 * k + 1)) (x (28 + 9 * k + 2)) (if x (28 + 9 * k + 3) < (500 - (sGet x (x (28 + 9 * k + 1)) (x (28 + 9 * k + 2)))) then x (28 + 9 * k + 3) else 500 - (sGet x (x (28 + 9 * k + 1)) (x (28 + 9 * k + 2))))) (28 + 9 * k + 3)) - (if x (28 + 9 * k + 3) < (500 - (sGet x (x (28 + 9 * k + 1)) (x (28 + 9 * k + 2)))) then x (28 + 9 * k + 3) else 500 - (sGet x (x (28 + 9 * k + 1)) (x (28 + 9 * k + 2))))))) la) (HW_putH (by decide) (houseS11 _ _ _)) ?_
        refine x_aload_n 1 81 C0 dX4_tryEmpty_80 rfl rfl rfl ?_
        refine x_callV 84 C0 (k_X1_takeAllOut l hl g _ _ _ _ _ _ (HR.c HR_HW hk) (xA_le hA (by omega))) dX4_tryEmpty_81 rfl mC_X1_takeAllOut mM_X4_174 mI_X1_takeAllOut mV_X1_takeAllOut mN_X1 yd_X1_takeAllOut rfl rfl ⟨Nat.le_of_ble_eq_true rfl, Nat.le_of_ble_eq_true rfl⟩ (HR.c HR_HW hk) rfl rfl rfl rfl (Nat.le_of_ble_eq_true rfl) ⟨Nat.le_of_ble_eq_true rfl, Nat.le_of_ble_eq_true rfl⟩ (fun _ _ _ q => False.elim q) (fun r w1 sz1 hz hP => ?_)
        obtain ⟨rfl, rfl, rfl⟩ := hP
        refine x_w (w1 := HW g w h (setRow (upd (sAdd x (x (28 + 9 * k + 1)) (x (28 + 9 * k + 2)) (if x (28 + 9 * k + 3) < (500 - (sGet x (x (28 + 9 * k + 1)) (x (28 + 9 * k + 2)))) then x (28 + 9 * k + 3) else 500 - (sGet x (x (28 + 9 * k + 1)) (x (28 + 9 * k + 2))))) 8 (((sAdd x (x (28 + 9 * k + 1)) (x (28 + 9 * k + 2)) (if x (28 + 9 * k + 3) < (500 - (sGet x (x (28 + 9 * k + 1)) (x (28 + 9 * k + 2)))) then x (28 + 9 * k + 3) else 500 - (sGet x (x (28 + 9 * k + 1)) (x (28 + 9 * k + 2))))) 8) + (((sAdd x (x (28 + 9 * k + 1)) (x (28 + 9 * k + 2)) (if x (28 + 9 * k + 3) < (500 - (sGet x (x (28 + 9 * k + 1)) (x (28 + 9 * k + 2)))) then x (28 + 9 * k + 3) else 500 - (sGet x (x (28 + 9 * k + 1)) (x (28 + 9 * k + 2))))) (28 + 9 * k + 3)) - (if x (28 + 9 * k + 3) < (500 - (sGet x (x (28 + 9 * k + 1)) (x (28 + 9 * k + 2)))) then x (28 + 9 * k + 3) else 500 - (sGet x (x (28 + 9 * k + 1)) (x (28 + 9 * k + 2))))))) k (cOut (row (upd (sAdd x (x (28 + 9 * k + 1)) (x (28 + 9 * k + 2)) (if x (28 + 9 * k + 3) < (500 - (sGet x (x (28 + 9 * k + 1)) (x (28 + 9 * k + 2)))) then x (28 + 9 * k + 3) else 500 - (sGet x (x (28 + 9 * k + 1)) (x (28 + 9 * k + 2))))) 8 (((sAdd x (x (28 + 9 * k + 1)) (x (28 + 9 * k + 2)) (if x (28 + 9 * k + 3) < (500 - (sGet x (x (28 + 9 * k + 1)) (x (28 + 9 * k + 2)))) then x (28 + 9 * k + 3) else 500 - (sGet x (x (28 + 9 * k + 1)) (x (28 + 9 * k + 2))))) 8) + (((sAdd x (x (28 + 9 * k + 1)) (x (28 + 9 * k + 2)) (if x (28 + 9 * k + 3) < (500 - (sGet x (x (28 + 9 * k + 1)) (x (28 + 9 * k + 2)))) then x (28 + 9 * k + 3) else 500 - (sGet x (x (28 + 9 * k + 1)) (x (28 + 9 * k + 2))))) (28 + 9 * k + 3)) - (if x (28 + 9 * k + 3) < (500 - (sGet x (x (28 + 9 * k + 1)) (x (28 + 9 * k + 2)))) then x (28 + 9 * k + 3) else 500 - (sGet x (x (28 + 9 * k + 1)) (x (28 + 9 * k + 2))))))) k))) (va_up la k (g.2 100))) (HW_putRowL hk) ?_
        refine x_st (st1 := []) rfl ?_
        refine x_iconst (v := 1) 85 C0 dX4_tryEmpty_84 rfl (by decide) ?_
        exact x_ireturn C0 dX4_tryEmpty_85 rfl rfl (Nat.le_of_ble_eq_true rfl) (Nat.le_of_ble_eq_true rfl) ⟨rfl, _, _, rfl, Or.inl ⟨⟨hC1, hC3, hC5⟩, rfl, rfl, rfl⟩⟩
      · refine x_w HW_HW ?_
        refine x_st (st1 := [.int 0]) rfl ?_
        refine x_if_ne 26 24 C0 dX4_tryEmpty_21 rfl (by decide) (fun q => False.elim (by revert q; decide)) (fun _ => ?_)
        refine x_iconst (v := 0) 25 C0 dX4_tryEmpty_24 rfl (by decide) ?_
        exact x_ireturn C0 dX4_tryEmpty_25 rfl rfl (Nat.le_of_ble_eq_true rfl) (Nat.le_of_ble_eq_true rfl) ⟨rfl, _, _, rfl, Or.inr ⟨fun q => hC5 q.2.2, rfl, hx5, rfl⟩⟩
    · refine x_w HW_HW ?_
      refine x_st (st1 := [.int 0]) rfl ?_
      refine x_if_eq 24 16 C0 dX4_tryEmpty_13 rfl (by decide) (fun _ => ?_) (fun q => False.elim (by revert q; decide))
      refine x_iconst (v := 0) 25 C0 dX4_tryEmpty_24 rfl (by decide) ?_
      exact x_ireturn C0 dX4_tryEmpty_25 rfl rfl (Nat.le_of_ble_eq_true rfl) (Nat.le_of_ble_eq_true rfl) ⟨rfl, _, _, rfl, Or.inr ⟨fun q => hC3 q.2.1, rfl, hx3, rfl⟩⟩
  · refine x_st (st1 := [.int 0]) rfl ?_
    refine x_if_eq 24 8 C0 dX4_tryEmpty_5 rfl (by decide) (fun _ => ?_) (fun q => False.elim (by revert q; decide))
    refine x_iconst (v := 0) 25 C0 dX4_tryEmpty_24 rfl (by decide) ?_
    exact x_ireturn C0 dX4_tryEmpty_25 rfl rfl (Nat.le_of_ble_eq_true rfl) (Nat.le_of_ble_eq_true rfl) ⟨rfl, _, _, rfl, Or.inr ⟨fun q => hC1 q.1, rfl, hx1, rfl⟩⟩

set_option maxHeartbeats 4000000 in
set_option maxRecDepth 100000 in
theorem k_X4_tryScrew (l : Launch) (hl : l.stackTraces = false) (g : xg_T) (w : xw_T) (sz : Nat) (h : Nat) (x : Nat → Int32) (la : Nat → Nat) (hR : HR g w h x la) (hA : xA g h) (k : Nat) (hk : k < 20) (mn : Int32) : xM l g yX4_tryScrew cX4_tryScrew 3 (some .boolean) ({ frames := 2, cells := 0, slots := 0, locals := 44 }) 0 0 [.ref h, .ref (h + 3 + k), .int mn] w sz (fun r w1 sz1 => sz = sz1 ∧ ∃ x', w1 = HW g w h x' la ∧ tri (screwOk x k mn) (screwX x k mn) x x' r) (fun _ _ _ => False) := by
  refine xM.of RX4 hl (by decide +kernel) rfl (Nat.le_of_ble_eq_true rfl) rfl ?_
  intro p e s m args below meth cD C0 hini
  refine x_aload_n 0 1 C0 dX4_tryScrew_0 rfl rfl rfl ?_
  refine x_aload_n 1 2 C0 dX4_tryScrew_1 rfl rfl rfl ?_
  refine x_callV 5 C0 (k_X4_isInHouse l hl g _ _ _ _ _ hR hA k hk) dX4_tryScrew_2 rfl mC_X4_isInHouse mM_X4_142 mI_X4_isInHouse mV_X4_isInHouse mN_X4 yd_X4_isInHouse rfl rfl ⟨Nat.le_of_ble_eq_true rfl, Nat.le_of_ble_eq_true rfl⟩ (HR.ho hR) rfl rfl rfl rfl (Nat.le_of_ble_eq_true rfl) ⟨Nat.le_of_ble_eq_true rfl, Nat.le_of_ble_eq_true rfl⟩ (fun _ _ _ q => False.elim q) (fun r w1 sz1 hz hP => ?_)
  obtain ⟨rfl, x1, rfl, hQ1⟩ := hP
  rcases hQ1 with ⟨hC1, rfl, rfl⟩ | ⟨hC1, rfl, hx1⟩
  · refine x_st (st1 := [.int 1]) rfl ?_
    refine x_if_eq 33 8 C0 dX4_tryScrew_5 rfl (by decide) (fun q => False.elim (by revert q; decide)) (fun _ => ?_)
    refine x_aload_n 0 9 C0 dX4_tryScrew_8 rfl rfl rfl ?_
    refine x_aload_n 1 10 C0 dX4_tryScrew_9 rfl rfl rfl ?_
    refine x_callV 13 C0 (k_X4_isFilled l hl g _ _ _ _ _ HR_HW hA k hk) dX4_tryScrew_10 rfl mC_X4_isFilled mM_X4_171 mI_X4_isFilled mV_X4_isFilled mN_X4 yd_X4_isFilled rfl rfl ⟨Nat.le_of_ble_eq_true rfl, Nat.le_of_ble_eq_true rfl⟩ (HR.ho HR_HW) rfl rfl rfl rfl (Nat.le_of_ble_eq_true rfl) ⟨Nat.le_of_ble_eq_true rfl, Nat.le_of_ble_eq_true rfl⟩ (fun _ _ _ q => False.elim q) (fun r w1 sz1 hz hP => ?_)
    obtain ⟨rfl, x3, rfl, hQ3⟩ := hP
    rcases hQ3 with ⟨hC3, rfl, rfl⟩ | ⟨hC3, rfl, hx3⟩
    · refine x_w HW_HW ?_
      refine x_st (st1 := [.int 1]) rfl ?_
      refine x_if_eq 33 16 C0 dX4_tryScrew_13 rfl (by decide) (fun q => False.elim (by revert q; decide)) (fun _ => ?_)
      refine x_aload_n 0 17 C0 dX4_tryScrew_16 rfl rfl rfl ?_
      refine x_iload_n 2 18 C0 dX4_tryScrew_17 rfl rfl rfl ?_
      refine x_callV 21 C0 (k_X4_hasScrews l hl g _ _ _ _ _ HR_HW hA mn) dX4_tryScrew_18 rfl mC_X4_hasScrews mM_X4_177 mI_X4_hasScrews mV_X4_hasScrews mN_X4 yd_X4_hasScrews rfl rfl ⟨Nat.le_of_ble_eq_true rfl, Nat.le_of_ble_eq_true rfl⟩ (HR.ho HR_HW) rfl rfl rfl rfl (Nat.le_of_ble_eq_true rfl) ⟨Nat.le_of_ble_eq_true rfl, Nat.le_of_ble_eq_true rfl⟩ (fun _ _ _ q => False.elim q) (fun r w1 sz1 hz hP => ?_)
      obtain ⟨rfl, x5, rfl, hQ5⟩ := hP
      rcases hQ5 with ⟨hC5, rfl, rfl⟩ | ⟨hC5, rfl, hx5⟩
      · refine x_w HW_HW ?_
        refine x_st (st1 := [.int 1]) rfl ?_
        refine x_if_eq 33 24 C0 dX4_tryScrew_21 rfl (by decide) (fun q => False.elim (by revert q; decide)) (fun _ => ?_)
        refine x_aload_n 0 25 C0 dX4_tryScrew_24 rfl rfl rfl ?_
        refine x_aload_n 1 26 C0 dX4_tryScrew_25 rfl rfl rfl ?_
        refine x_iload_n 2 27 C0 dX4_tryScrew_26 rfl rfl rfl ?_
        refine x_callV 30 C0 (k_X4_takesScrews l hl g _ _ _ _ _ HR_HW hA k hk mn) dX4_tryScrew_27 rfl mC_X4_takesScrews mM_X4_180 mI_X4_takesScrews mV_X4_takesScrews mN_X4 yd_X4_takesScrews rfl rfl ⟨Nat.le_of_ble_eq_true rfl, Nat.le_of_ble_eq_true rfl⟩ (HR.ho HR_HW) rfl rfl rfl rfl (Nat.le_of_ble_eq_true rfl) ⟨Nat.le_of_ble_eq_true rfl, Nat.le_of_ble_eq_true rfl⟩ (fun _ _ _ q => False.elim q) (fun r w1 sz1 hz hP => ?_)
        obtain ⟨rfl, x7, rfl, hQ7⟩ := hP
        rcases hQ7 with ⟨hC7, rfl, rfl⟩ | ⟨hC7, rfl, hx7⟩
        · refine x_w HW_HW ?_
          refine x_st (st1 := [.int 1]) rfl ?_
          refine x_if_ne 35 33 C0 dX4_tryScrew_30 rfl (by decide) (fun _ => ?_) (fun q => False.elim (by revert q; decide))
          refine x_aload_n 0 36 C0 dX4_tryScrew_35 rfl rfl rfl ?_
          refine x_dup 37 C0 dX4_tryScrew_36 rfl rfl ?_
          refine x_getf (v := .int (x 2)) 4 40 C0 dX4_tryScrew_37 rfl (HR.ho HR_HW) rfl (by decide) inX4 mF_X4_29 rfl ?_
          refine x_iload_n 2 41 C0 dX4_tryScrew_40 rfl rfl rfl ?_
          refine x_isub 42 C0 dX4_tryScrew_41 rfl ?_
          refine x_putf 4 45 C0 dX4_tryScrew_42 rfl (HR.ho HR_HW) hA rfl (by decide) inX4 tyX4_ok nmX4 mF_X4_29 rfl rfl rfl rfl (Nat.le_of_ble_eq_true rfl) ?_
          refine x_w (w1 := HW g w h (upd x 2 ((x 2) - mn)) la) (HW_putH (by decide) (houseS4 _ _ _)) ?_
          refine x_aload_n 1 46 C0 dX4_tryScrew_45 rfl rfl rfl ?_
          refine x_dup 47 C0 dX4_tryScrew_46 rfl rfl ?_
          refine x_getf (v := .int ((upd x 2 ((x 2) - mn)) (28 + 9 * k + 5))) 6 50 C0 dX4_tryScrew_47 rfl (HR.c HR_HW hk) rfl (by decide) inX1 mF_X4_102 rfl ?_
          refine x_iload_n 2 51 C0 dX4_tryScrew_50 rfl rfl rfl ?_
          refine x_iadd 52 C0 dX4_tryScrew_51 rfl ?_
          refine x_putf 6 55 C0 dX4_tryScrew_52 rfl (HR.c HR_HW hk) (xA_le hA (by omega)) rfl (by decide) inX1 tyX1_ok nmX1 mF_X4_102 rfl rfl rfl rfl (Nat.le_of_ble_eq_true rfl) ?_
          refine x_w (w1 := HW g w h (upd (upd x 2 ((x 2) - mn)) (28 + 9 * k + 5) (((upd x 2 ((x 2) - mn)) (28 + 9 * k + 5)) + mn)) la) (HW_putC1 hk (by decide) (chestS5 _ _ _ _)) ?_
          refine x_iconst (v := 1) 56 C0 dX4_tryScrew_55 rfl (by decide) ?_
          exact x_ireturn C0 dX4_tryScrew_56 rfl rfl (Nat.le_of_ble_eq_true rfl) (Nat.le_of_ble_eq_true rfl) ⟨rfl, _, rfl, Or.inl ⟨⟨hC1, hC3, hC5, hC7⟩, rfl, rfl⟩⟩
        · refine x_w HW_HW ?_
          refine x_st (st1 := [.int 0]) rfl ?_
          refine x_if_ne 35 33 C0 dX4_tryScrew_30 rfl (by decide) (fun q => False.elim (by revert q; decide)) (fun _ => ?_)
          refine x_iconst (v := 0) 34 C0 dX4_tryScrew_33 rfl (by decide) ?_
          exact x_ireturn C0 dX4_tryScrew_34 rfl rfl (Nat.le_of_ble_eq_true rfl) (Nat.le_of_ble_eq_true rfl) ⟨rfl, _, rfl, Or.inr ⟨fun q => hC7 q.2.2.2, rfl, hx7⟩⟩
      · refine x_w HW_HW ?_
        refine x_st (st1 := [.int 0]) rfl ?_
        refine x_if_eq 33 24 C0 dX4_tryScrew_21 rfl (by decide) (fun _ => ?_) (fun q => False.elim (by revert q; decide))
        refine x_iconst (v := 0) 34 C0 dX4_tryScrew_33 rfl (by decide) ?_
        exact x_ireturn C0 dX4_tryScrew_34 rfl rfl (Nat.le_of_ble_eq_true rfl) (Nat.le_of_ble_eq_true rfl) ⟨rfl, _, rfl, Or.inr ⟨fun q => hC5 q.2.2.1, rfl, hx5⟩⟩
    · refine x_w HW_HW ?_
      refine x_st (st1 := [.int 0]) rfl ?_
      refine x_if_eq 33 16 C0 dX4_tryScrew_13 rfl (by decide) (fun _ => ?_) (fun q => False.elim (by revert q; decide))
      refine x_iconst (v := 0) 34 C0 dX4_tryScrew_33 rfl (by decide) ?_
      exact x_ireturn C0 dX4_tryScrew_34 rfl rfl (Nat.le_of_ble_eq_true rfl) (Nat.le_of_ble_eq_true rfl) ⟨rfl, _, rfl, Or.inr ⟨fun q => hC3 q.2.1, rfl, hx3⟩⟩
  · refine x_st (st1 := [.int 0]) rfl ?_
    refine x_if_eq 33 8 C0 dX4_tryScrew_5 rfl (by decide) (fun _ => ?_) (fun q => False.elim (by revert q; decide))
    refine x_iconst (v := 0) 34 C0 dX4_tryScrew_33 rfl (by decide) ?_
    exact x_ireturn C0 dX4_tryScrew_34 rfl rfl (Nat.le_of_ble_eq_true rfl) (Nat.le_of_ble_eq_true rfl) ⟨rfl, _, rfl, Or.inr ⟨fun q => hC1 q.1, rfl, hx1⟩⟩

set_option maxHeartbeats 4000000 in
set_option maxRecDepth 100000 in
theorem k_X4_tryUnscrew (l : Launch) (hl : l.stackTraces = false) (g : xg_T) (w : xw_T) (sz : Nat) (h : Nat) (x : Nat → Int32) (la : Nat → Nat) (hR : HR g w h x la) (hA : xA g h) (k : Nat) (hk : k < 20) : xM l g yX4_tryUnscrew cX4_tryUnscrew 2 (some .boolean) ({ frames := 2, cells := 0, slots := 0, locals := 43 }) 0 0 [.ref h, .ref (h + 3 + k)] w sz (fun r w1 sz1 => sz = sz1 ∧ ∃ x', w1 = HW g w h x' la ∧ tri (x (28 + 9 * k + 7) = 0) (unscrewX x k) x x' r) (fun _ _ _ => False) := by
  refine xM.of RX4 hl (by decide +kernel) rfl (Nat.le_of_ble_eq_true rfl) rfl ?_
  intro p e s m args below meth cD C0 hini
  refine x_aload_n 0 1 C0 dX4_tryUnscrew_0 rfl rfl rfl ?_
  refine x_aload_n 1 2 C0 dX4_tryUnscrew_1 rfl rfl rfl ?_
  refine x_callV 5 C0 (k_X4_isInHouse l hl g _ _ _ _ _ hR hA k hk) dX4_tryUnscrew_2 rfl mC_X4_isInHouse mM_X4_142 mI_X4_isInHouse mV_X4_isInHouse mN_X4 yd_X4_isInHouse rfl rfl ⟨Nat.le_of_ble_eq_true rfl, Nat.le_of_ble_eq_true rfl⟩ (HR.ho hR) rfl rfl rfl rfl (Nat.le_of_ble_eq_true rfl) ⟨Nat.le_of_ble_eq_true rfl, Nat.le_of_ble_eq_true rfl⟩ (fun _ _ _ q => False.elim q) (fun r w1 sz1 hz hP => ?_)
  obtain ⟨rfl, x1, rfl, hQ1⟩ := hP
  rcases hQ1 with ⟨hC1, rfl, rfl⟩ | ⟨hC1, rfl, hx1⟩
  · refine x_st (st1 := [.int 1]) rfl ?_
    refine x_if_ne 10 8 C0 dX4_tryUnscrew_5 rfl (by decide) (fun _ => ?_) (fun q => False.elim (by revert q; decide))
    refine x_aload_n 0 11 C0 dX4_tryUnscrew_10 rfl rfl rfl ?_
    refine x_aload_n 1 12 C0 dX4_tryUnscrew_11 rfl rfl rfl ?_
    refine x_getf (v := .int (x (28 + 9 * k + 5))) 6 15 C0 dX4_tryUnscrew_12 rfl (HR.c HR_HW hk) rfl (by decide) inX1 mF_X4_102 rfl ?_
    refine x_callV 18 C0 (k_X4_addScrews l hl g _ _ _ _ _ HR_HW hA (x (28 + 9 * k + 5))) dX4_tryUnscrew_15 rfl mC_X4_addScrews mM_X4_183 mI_X4_addScrews mV_X4_addScrews mN_X4 yd_X4_addScrews rfl rfl ⟨Nat.le_of_ble_eq_true rfl, Nat.le_of_ble_eq_true rfl⟩ (HR.ho HR_HW) rfl rfl rfl rfl (Nat.le_of_ble_eq_true rfl) ⟨Nat.le_of_ble_eq_true rfl, Nat.le_of_ble_eq_true rfl⟩ (fun _ _ _ q => False.elim q) (fun r w1 sz1 hz hP => ?_)
    obtain ⟨rfl, rfl, rfl⟩ := hP
    refine x_w HW_HW ?_
    refine x_st (st1 := []) rfl ?_
    refine x_aload_n 1 19 C0 dX4_tryUnscrew_18 rfl rfl rfl ?_
    refine x_iconst (v := 0) 20 C0 dX4_tryUnscrew_19 rfl (by decide) ?_
    refine x_putf 6 23 C0 dX4_tryUnscrew_20 rfl (HR.c HR_HW hk) (xA_le hA (by omega)) rfl (by decide) inX1 tyX1_ok nmX1 mF_X4_102 rfl rfl rfl rfl (Nat.le_of_ble_eq_true rfl) ?_
    refine x_w (w1 := HW g w h (upd (upd x 2 (lo200 (x 2 + (x (28 + 9 * k + 5))))) (28 + 9 * k + 5) 0) la) (HW_putC1 hk (by decide) (chestS5 _ _ _ _)) ?_
    refine x_iconst (v := 1) 24 C0 dX4_tryUnscrew_23 rfl (by decide) ?_
    exact x_ireturn C0 dX4_tryUnscrew_24 rfl rfl (Nat.le_of_ble_eq_true rfl) (Nat.le_of_ble_eq_true rfl) ⟨rfl, _, rfl, Or.inl ⟨hC1, rfl, rfl⟩⟩
  · refine x_st (st1 := [.int 0]) rfl ?_
    refine x_if_ne 10 8 C0 dX4_tryUnscrew_5 rfl (by decide) (fun q => False.elim (by revert q; decide)) (fun _ => ?_)
    refine x_iconst (v := 0) 9 C0 dX4_tryUnscrew_8 rfl (by decide) ?_
    exact x_ireturn C0 dX4_tryUnscrew_9 rfl rfl (Nat.le_of_ble_eq_true rfl) (Nat.le_of_ble_eq_true rfl) ⟨rfl, _, rfl, Or.inr ⟨fun q => hC1 q, rfl, hx1⟩⟩

set_option maxHeartbeats 4000000 in
set_option maxRecDepth 100000 in
theorem k_X4_tryBring (l : Launch) (hl : l.stackTraces = false) (g : xg_T) (w : xw_T) (sz : Nat) (h : Nat) (x : Nat → Int32) (la : Nat → Nat) (hR : HR g w h x la) (hA : xA g h) (ga ki po : Int32) : xM l g yX4_tryBring cX4_tryBring 5 (some .boolean) ({ frames := 2, cells := 0, slots := 0, locals := 44 }) 0 0 [.ref h, .int ga, .int ki, .int po] w sz (fun r w1 sz1 => sz = sz1 ∧ ∃ x', w1 = HW g w h x' la ∧ tri (sGet x ga ki + po ≤ 500) (bringX x ga ki po) x x' r) (fun _ _ _ => False) := by
  refine xM.of RX4 hl (by decide +kernel) rfl (Nat.le_of_ble_eq_true rfl) rfl ?_
  intro p e s m args below meth cD C0 hini
  refine x_aload_n 0 1 C0 dX4_tryBring_0 rfl rfl rfl ?_
  refine x_iload_n 1 2 C0 dX4_tryBring_1 rfl rfl rfl ?_
  refine x_iload_n 2 3 C0 dX4_tryBring_2 rfl rfl rfl ?_
  refine x_callV 6 C0 (k_X4_stored l hl g _ _ _ _ _ hR ga ki) dX4_tryBring_3 rfl mC_X4_stored mM_X4_73 mI_X4_stored mV_X4_stored mN_X4 yd_X4_stored rfl rfl ⟨Nat.le_of_ble_eq_true rfl, Nat.le_of_ble_eq_true rfl⟩ (HR.ho hR) rfl rfl rfl rfl (Nat.le_of_ble_eq_true rfl) ⟨Nat.le_of_ble_eq_true rfl, Nat.le_of_ble_eq_true rfl⟩ (fun _ _ _ q => False.elim q) (fun r w1 sz1 hz hP => ?_)
  obtain ⟨rfl, rfl, rfl⟩ := hP
  refine x_st (st1 := [.int (sGet x ga ki)]) rfl ?_
  refine x_istore [(4, .int (sGet x ga ki)), (0, .ref h), (1, .int ga), (2, .int ki), (3, .int po)] 8 C0 dX4_tryBring_6 rfl (by decide) rfl ?_
  refine x_lv (lv1 := [(0, .ref h), (1, .int ga), (2, .int ki), (3, .int po), (4, .int (sGet x ga ki))]) [1, 2, 3, 4, 0] rfl ?_
  refine x_iload 4 10 C0 dX4_tryBring_8 rfl rfl ?_
  refine x_iload_n 3 11 C0 dX4_tryBring_10 rfl rfl rfl ?_
  refine x_iadd 12 C0 dX4_tryBring_11 rfl ?_
  refine x_sipush (v := 500) 15 C0 dX4_tryBring_12 rfl (by decide) ?_
  refine x_icmp_le 26 18 C0 dX4_tryBring_15 rfl (by decide) (fun c1 => ?_) (fun c1 => ?_)
  · have c1' := Int32.not_lt.mpr c1
    refine x_aload_n 0 27 C0 dX4_tryBring_26 rfl rfl rfl ?_
    refine x_iload_n 1 28 C0 dX4_tryBring_27 rfl rfl rfl ?_
    refine x_iload_n 2 29 C0 dX4_tryBring_28 rfl rfl rfl ?_
    refine x_iload_n 3 30 C0 dX4_tryBring_29 rfl rfl rfl ?_
    refine x_callV 33 C0 (k_X4_addToStore l hl g _ _ _ _ _ hR hA ga ki po) dX4_tryBring_30 rfl mC_X4_addToStore mM_X4_84 mI_X4_addToStore mV_X4_addToStore mN_X4 yd_X4_addToStore rfl rfl ⟨Nat.le_of_ble_eq_true rfl, Nat.le_of_ble_eq_true rfl⟩ (HR.ho hR) rfl rfl rfl rfl (Nat.le_of_ble_eq_true rfl) ⟨Nat.le_of_ble_eq_true rfl, Nat.le_of_ble_eq_true rfl⟩ (fun _ _ _ q => False.elim q) (fun r w1 sz1 hz hP => ?_)
    obtain ⟨rfl, rfl, rfl⟩ := hP
    refine x_st (st1 := []) rfl ?_
    refine x_aload_n 0 34 C0 dX4_tryBring_33 rfl rfl rfl ?_
    refine x_dup 35 C0 dX4_tryBring_34 rfl rfl ?_
    refine x_getf (v := .int ((sAdd x ga ki po) 6)) 9 38 C0 dX4_tryBring_35 rfl (HR.ho HR_HW) rfl (by decide) inX4 mF_X4_60 rfl ?_
    refine x_iload_n 3 39 C0 dX4_tryBring_38 rfl rfl rfl ?_
    refine x_iadd 40 C0 dX4_tryBring_39 rfl ?_
    refine x_putf 9 43 C0 dX4_tryBring_40 rfl (HR.ho HR_HW) hA rfl (by decide) inX4 tyX4_ok nmX4 mF_X4_60 rfl rfl rfl rfl (Nat.le_of_ble_eq_true rfl) ?_
    refine x_w (w1 := HW g w h (upd (sAdd x ga ki po) 6 (((sAdd x ga ki po) 6) + po)) la) (HW_putH (by decide) (houseS9 _ _ _)) ?_
    refine x_iconst (v := 1) 44 C0 dX4_tryBring_43 rfl (by decide) ?_
    exact x_ireturn C0 dX4_tryBring_44 rfl rfl (Nat.le_of_ble_eq_true rfl) (Nat.le_of_ble_eq_true rfl) ⟨rfl, _, rfl, Or.inl ⟨c1, rfl, rfl⟩⟩
  · have c1' := Int32.not_le.mp c1
    refine x_aload_n 0 19 C0 dX4_tryBring_18 rfl rfl rfl ?_
    refine x_iconst (v := 2) 20 C0 dX4_tryBring_19 rfl (by decide) ?_
    refine x_iload 4 22 C0 dX4_tryBring_20 rfl rfl ?_
    refine x_callV 25 C0 (k_X4_refuse l hl g _ _ _ _ _ hR hA 2 (sGet x ga ki)) dX4_tryBring_22 rfl mC_X4_refuse mM_X4_81 mI_X4_refuse mV_X4_refuse mN_X4 yd_X4_refuse rfl rfl ⟨Nat.le_of_ble_eq_true rfl, Nat.le_of_ble_eq_true rfl⟩ (HR.ho hR) rfl rfl rfl rfl (Nat.le_of_ble_eq_true rfl) ⟨Nat.le_of_ble_eq_true rfl, Nat.le_of_ble_eq_true rfl⟩ (fun _ _ _ q => False.elim q) (fun r w1 sz1 hz hP => ?_)
    obtain ⟨rfl, rfl, rfl⟩ := hP
    refine x_st (st1 := [.int 0]) rfl ?_
    exact x_ireturn C0 dX4_tryBring_25 rfl rfl (Nat.le_of_ble_eq_true rfl) (Nat.le_of_ble_eq_true rfl) ⟨rfl, _, rfl, Or.inr ⟨fun q => c1 q, rfl, _, _, rfl⟩⟩

set_option maxHeartbeats 4000000 in
set_option maxRecDepth 100000 in
theorem k_X4_hasShipRoom (l : Launch) (hl : l.stackTraces = false) (g : xg_T) (w : xw_T) (sz : Nat) (h : Nat) (x : Nat → Int32) (la : Nat → Nat) (hR : HR g w h x la) (hA : xA g h) (mn : Int32) : xM l g yX4_hasShipRoom cX4_hasShipRoom 2 (some .boolean) ({ frames := 1, cells := 0, slots := 0, locals := 25 }) 0 0 [.ref h, .int mn] w sz (fun r w1 sz1 => sz = sz1 ∧ ∃ x', w1 = HW g w h x' la ∧ chk (mn ≤ hRoom x 20) x x' r) (fun _ _ _ => False) := by
  refine xM.of RX4 hl (by decide +kernel) rfl (Nat.le_of_ble_eq_true rfl) rfl ?_
  intro p e s m args below meth cD C0 hini
  refine x_aload_n 0 1 C0 dX4_hasShipRoom_0 rfl rfl rfl ?_
  refine x_callV 4 C0 (k_X4_shipRoom l hl g _ _ _ _ _ hR) dX4_hasShipRoom_1 rfl mC_X4_shipRoom mM_X4_136 mI_X4_shipRoom mV_X4_shipRoom mN_X4 yd_X4_shipRoom rfl rfl ⟨Nat.le_of_ble_eq_true rfl, Nat.le_of_ble_eq_true rfl⟩ (HR.ho hR) rfl rfl rfl rfl (Nat.le_of_ble_eq_true rfl) ⟨Nat.le_of_ble_eq_true rfl, Nat.le_of_ble_eq_true rfl⟩ (fun _ _ _ q => False.elim q) (fun r w1 sz1 hz hP => ?_)
  obtain ⟨rfl, rfl, rfl⟩ := hP
  refine x_st (st1 := [.int (hRoom x 20)]) rfl ?_
  refine x_iload_n 1 5 C0 dX4_hasShipRoom_4 rfl rfl rfl ?_
  refine x_icmp_ge 21 8 C0 dX4_hasShipRoom_5 rfl (by decide) (fun c1 => ?_) (fun c1 => ?_)
  · have c1' := Int32.not_lt.mpr c1
    refine x_iconst (v := 1) 22 C0 dX4_hasShipRoom_21 rfl (by decide) ?_
    refine x_goto 26 C0 dX4_hasShipRoom_22 (by decide) ?_
    exact x_ireturn C0 dX4_hasShipRoom_26 rfl rfl (Nat.le_of_ble_eq_true rfl) (Nat.le_of_ble_eq_true rfl) ⟨rfl, _, HW_self hR, Or.inl ⟨by simp_all [], rfl, rfl⟩⟩
  · have c1' := Int32.not_le.mp c1
    refine x_aload_n 0 9 C0 dX4_hasShipRoom_8 rfl rfl rfl ?_
    refine x_bipush (v := 17) 11 C0 dX4_hasShipRoom_9 rfl (by decide) ?_
    refine x_aload_n 0 12 C0 dX4_hasShipRoom_11 rfl rfl rfl ?_
    refine x_callV 15 C0 (k_X4_shipRoom l hl g _ _ _ _ _ hR) dX4_hasShipRoom_12 rfl mC_X4_shipRoom mM_X4_136 mI_X4_shipRoom mV_X4_shipRoom mN_X4 yd_X4_shipRoom rfl rfl ⟨Nat.le_of_ble_eq_true rfl, Nat.le_of_ble_eq_true rfl⟩ (HR.ho hR) rfl rfl rfl rfl (Nat.le_of_ble_eq_true rfl) ⟨Nat.le_of_ble_eq_true rfl, Nat.le_of_ble_eq_true rfl⟩ (fun _ _ _ q => False.elim q) (fun r w1 sz1 hz hP => ?_)
    obtain ⟨rfl, rfl, rfl⟩ := hP
    refine x_st (st1 := [.int (hRoom x 20), .int 17, .ref h]) rfl ?_
    refine x_callV 18 C0 (k_X4_refuse l hl g _ _ _ _ _ hR hA 17 (hRoom x 20)) dX4_hasShipRoom_15 rfl mC_X4_refuse mM_X4_81 mI_X4_refuse mV_X4_refuse mN_X4 yd_X4_refuse rfl rfl ⟨Nat.le_of_ble_eq_true rfl, Nat.le_of_ble_eq_true rfl⟩ (HR.ho hR) rfl rfl rfl rfl (Nat.le_of_ble_eq_true rfl) ⟨Nat.le_of_ble_eq_true rfl, Nat.le_of_ble_eq_true rfl⟩ (fun _ _ _ q => False.elim q) (fun r w1 sz1 hz hP => ?_)
    obtain ⟨rfl, rfl, rfl⟩ := hP
    refine x_st (st1 := [.int 0]) rfl ?_
    refine x_if_eq 25 21 C0 dX4_hasShipRoom_18 rfl (by decide) (fun _ => ?_) (fun q => False.elim (by revert q; decide))
    refine x_iconst (v := 0) 26 C0 dX4_hasShipRoom_25 rfl (by decide) ?_
    exact x_ireturn C0 dX4_hasShipRoom_26 rfl rfl (Nat.le_of_ble_eq_true rfl) (Nat.le_of_ble_eq_true rfl) ⟨rfl, _, rfl, Or.inr ⟨by simp_all [], rfl, _, _, rfl⟩⟩

set_option maxHeartbeats 4000000 in
set_option maxRecDepth 100000 in
theorem k_X4_isShipLoaded (l : Launch) (hl : l.stackTraces = false) (g : xg_T) (w : xw_T) (sz : Nat) (h : Nat) (x : Nat → Int32) (la : Nat → Nat) (hR : HR g w h x la) (hA : xA g h) : xM l g yX4_isShipLoaded cX4_isShipLoaded 1 (some .boolean) ({ frames := 1, cells := 0, slots := 0, locals := 26 }) 0 0 [.ref h] w sz (fun r w1 sz1 => sz = sz1 ∧ ∃ x', w1 = HW g w h x' la ∧ chk (0 < nAt x 2 20) x x' r) (fun _ _ _ => False) := by
  refine xM.of RX4 hl (by decide +kernel) rfl (Nat.le_of_ble_eq_true rfl) rfl ?_
  intro p e s m args below meth cD C0 hini
  refine x_aload_n 0 1 C0 dX4_isShipLoaded_0 rfl rfl rfl ?_
  refine x_iconst (v := 2) 2 C0 dX4_isShipLoaded_1 rfl (by decide) ?_
  refine x_callV 5 C0 (k_X4_chestsAt l hl g _ _ _ _ _ hR 2) dX4_isShipLoaded_2 rfl mC_X4_chestsAt mM_X4_139 mI_X4_chestsAt mV_X4_chestsAt mN_X4 yd_X4_chestsAt rfl rfl ⟨Nat.le_of_ble_eq_true rfl, Nat.le_of_ble_eq_true rfl⟩ (HR.ho hR) rfl rfl rfl rfl (Nat.le_of_ble_eq_true rfl) ⟨Nat.le_of_ble_eq_true rfl, Nat.le_of_ble_eq_true rfl⟩ (fun _ _ _ q => False.elim q) (fun r w1 sz1 hz hP => ?_)
  obtain ⟨rfl, rfl, rfl⟩ := hP
  refine x_st (st1 := [.int (nAt x 2 20)]) rfl ?_
  refine x_if_gt 18 8 C0 dX4_isShipLoaded_5 rfl (by decide) (fun c1 => ?_) (fun c1 => ?_)
  · have c1' := Int32.not_le.mpr c1
    refine x_iconst (v := 1) 19 C0 dX4_isShipLoaded_18 rfl (by decide) ?_
    refine x_goto 23 C0 dX4_isShipLoaded_19 (by decide) ?_
    exact x_ireturn C0 dX4_isShipLoaded_23 rfl rfl (Nat.le_of_ble_eq_true rfl) (Nat.le_of_ble_eq_true rfl) ⟨rfl, _, HW_self hR, Or.inl ⟨by simp_all [], rfl, rfl⟩⟩
  · have c1' := Int32.not_lt.mp c1
    refine x_aload_n 0 9 C0 dX4_isShipLoaded_8 rfl rfl rfl ?_
    refine x_bipush (v := 18) 11 C0 dX4_isShipLoaded_9 rfl (by decide) ?_
    refine x_iconst (v := 0) 12 C0 dX4_isShipLoaded_11 rfl (by decide) ?_
    refine x_callV 15 C0 (k_X4_refuse l hl g _ _ _ _ _ hR hA 18 0) dX4_isShipLoaded_12 rfl mC_X4_refuse mM_X4_81 mI_X4_refuse mV_X4_refuse mN_X4 yd_X4_refuse rfl rfl ⟨Nat.le_of_ble_eq_true rfl, Nat.le_of_ble_eq_true rfl⟩ (HR.ho hR) rfl rfl rfl rfl (Nat.le_of_ble_eq_true rfl) ⟨Nat.le_of_ble_eq_true rfl, Nat.le_of_ble_eq_true rfl⟩ (fun _ _ _ q => False.elim q) (fun r w1 sz1 hz hP => ?_)
    obtain ⟨rfl, rfl, rfl⟩ := hP
    refine x_st (st1 := [.int 0]) rfl ?_
    refine x_if_eq 22 18 C0 dX4_isShipLoaded_15 rfl (by decide) (fun _ => ?_) (fun q => False.elim (by revert q; decide))
    refine x_iconst (v := 0) 23 C0 dX4_isShipLoaded_22 rfl (by decide) ?_
    exact x_ireturn C0 dX4_isShipLoaded_23 rfl rfl (Nat.le_of_ble_eq_true rfl) (Nat.le_of_ble_eq_true rfl) ⟨rfl, _, rfl, Or.inr ⟨by simp_all [], rfl, _, _, rfl⟩⟩

set_option maxHeartbeats 4000000 in
set_option maxRecDepth 100000 in
theorem k_X4_tryLoad (l : Launch) (hl : l.stackTraces = false) (g : xg_T) (w : xw_T) (sz : Nat) (h : Nat) (x : Nat → Int32) (la : Nat → Nat) (hR : HR g w h x la) (hA : xA g h) (k : Nat) (hk : k < 20) : xM l g yX4_tryLoad cX4_tryLoad 2 (some .boolean) ({ frames := 3, cells := 0, slots := 0, locals := 54 }) 0 0 [.ref h, .ref (h + 3 + k)] w sz (fun r w1 sz1 => sz = sz1 ∧ ∃ x', w1 = HW g w h x' la ∧ tri (loadOk x k) (loadX x k) x x' r) (fun _ _ _ => False) := by
  refine xM.of RX4 hl (by decide +kernel) rfl (Nat.le_of_ble_eq_true rfl) rfl ?_
  intro p e s m args below meth cD C0 hini
  refine x_aload_n 0 1 C0 dX4_tryLoad_0 rfl rfl rfl ?_
  refine x_aload_n 1 2 C0 dX4_tryLoad_1 rfl rfl rfl ?_
  refine x_callV 5 C0 (k_X4_isOnQuay l hl g _ _ _ _ _ hR hA k hk) dX4_tryLoad_2 rfl mC_X4_isOnQuay mM_X4_205 mI_X4_isOnQuay mV_X4_isOnQuay mN_X4 yd_X4_isOnQuay rfl rfl ⟨Nat.le_of_ble_eq_true rfl, Nat.le_of_ble_eq_true rfl⟩ (HR.ho hR) rfl rfl rfl rfl (Nat.le_of_ble_eq_true rfl) ⟨Nat.le_of_ble_eq_true rfl, Nat.le_of_ble_eq_true rfl⟩ (fun _ _ _ q => False.elim q) (fun r w1 sz1 hz hP => ?_)
  obtain ⟨rfl, x1, rfl, hQ1⟩ := hP
  rcases hQ1 with ⟨hC1, rfl, rfl⟩ | ⟨hC1, rfl, hx1⟩
  · refine x_st (st1 := [.int 1]) rfl ?_
    refine x_if_eq 26 8 C0 dX4_tryLoad_5 rfl (by decide) (fun q => False.elim (by revert q; decide)) (fun _ => ?_)
    refine x_aload_n 0 9 C0 dX4_tryLoad_8 rfl rfl rfl ?_
    refine x_callV 12 C0 (k_X4_isShipReached l hl g _ _ _ _ _ HR_HW hA) dX4_tryLoad_9 rfl mC_X4_isShipReached mM_X4_208 mI_X4_isShipReached mV_X4_isShipReached mN_X4 yd_X4_isShipReached rfl rfl ⟨Nat.le_of_ble_eq_true rfl, Nat.le_of_ble_eq_true rfl⟩ (HR.ho HR_HW) rfl rfl rfl rfl (Nat.le_of_ble_eq_true rfl) ⟨Nat.le_of_ble_eq_true rfl, Nat.le_of_ble_eq_true rfl⟩ (fun _ _ _ q => False.elim q) (fun r w1 sz1 hz hP => ?_)
    obtain ⟨rfl, x3, rfl, hQ3⟩ := hP
    rcases hQ3 with ⟨hC3, rfl, rfl⟩ | ⟨hC3, rfl, hx3⟩
    · refine x_w HW_HW ?_
      refine x_st (st1 := [.int 1]) rfl ?_
      refine x_if_eq 26 15 C0 dX4_tryLoad_12 rfl (by decide) (fun q => False.elim (by revert q; decide)) (fun _ => ?_)
      refine x_aload_n 0 16 C0 dX4_tryLoad_15 rfl rfl rfl ?_
      refine x_aload_n 1 17 C0 dX4_tryLoad_16 rfl rfl rfl ?_
      refine x_getf (v := .int (x (28 + 9 * k + 0))) 1 20 C0 dX4_tryLoad_17 rfl (HR.c HR_HW hk) rfl (by decide) inX1 mF_X4_107 rfl ?_
      refine x_callV 23 C0 (k_X4_hasShipRoom l hl g _ _ _ _ _ HR_HW hA (x (28 + 9 * k + 0))) dX4_tryLoad_20 rfl mC_X4_hasShipRoom mM_X4_211 mI_X4_hasShipRoom mV_X4_hasShipRoom mN_X4 yd_X4_hasShipRoom rfl rfl ⟨Nat.le_of_ble_eq_true rfl, Nat.le_of_ble_eq_true rfl⟩ (HR.ho HR_HW) rfl rfl rfl rfl (Nat.le_of_ble_eq_true rfl) ⟨Nat.le_of_ble_eq_true rfl, Nat.le_of_ble_eq_true rfl⟩ (fun _ _ _ q => False.elim q) (fun r w1 sz1 hz hP => ?_)
      obtain ⟨rfl, x5, rfl, hQ5⟩ := hP
      rcases hQ5 with ⟨hC5, rfl, rfl⟩ | ⟨hC5, rfl, hx5⟩
      · refine x_w HW_HW ?_
        refine x_st (st1 := [.int 1]) rfl ?_
        refine x_if_ne 28 26 C0 dX4_tryLoad_23 rfl (by decide) (fun _ => ?_) (fun q => False.elim (by revert q; decide))
        refine x_aload_n 1 29 C0 dX4_tryLoad_28 rfl rfl rfl ?_
        refine x_iconst (v := 2) 30 C0 dX4_tryLoad_29 rfl (by decide) ?_
        refine x_putf 8 33 C0 dX4_tryLoad_30 rfl (HR.c HR_HW hk) (xA_le hA (by omega)) rfl (by decide) inX1 tyX1_ok nmX1 mF_X4_99 rfl rfl rfl rfl (Nat.le_of_ble_eq_true rfl) ?_
        refine x_w (w1 := HW g w h (upd x (28 + 9 * k + 7) 2) la) (HW_putC1 hk (by decide) (chestS7 _ _ _ _)) ?_
        refine x_iconst (v := 1) 34 C0 dX4_tryLoad_33 rfl (by decide) ?_
        exact x_ireturn C0 dX4_tryLoad_34 rfl rfl (Nat.le_of_ble_eq_true rfl) (Nat.le_of_ble_eq_true rfl) ⟨rfl, _, rfl, Or.inl ⟨⟨hC1, hC3, hC5⟩, rfl, rfl⟩⟩
      · refine x_w HW_HW ?_
        refine x_st (st1 := [.int 0]) rfl ?_
        refine x_if_ne 28 26 C0 dX4_tryLoad_23 rfl (by decide) (fun q => False.elim (by revert q; decide)) (fun _ => ?_)
        refine x_iconst (v := 0) 27 C0 dX4_tryLoad_26 rfl (by decide) ?_
        exact x_ireturn C0 dX4_tryLoad_27 rfl rfl (Nat.le_of_ble_eq_true rfl) (Nat.le_of_ble_eq_true rfl) ⟨rfl, _, rfl, Or.inr ⟨fun q => hC5 q.2.2, rfl, hx5⟩⟩
    · refine x_w HW_HW ?_
      refine x_st (st1 := [.int 0]) rfl ?_
      refine x_if_eq 26 15 C0 dX4_tryLoad_12 rfl (by decide) (fun _ => ?_) (fun q => False.elim (by revert q; decide))
      refine x_iconst (v := 0) 27 C0 dX4_tryLoad_26 rfl (by decide) ?_
      exact x_ireturn C0 dX4_tryLoad_27 rfl rfl (Nat.le_of_ble_eq_true rfl) (Nat.le_of_ble_eq_true rfl) ⟨rfl, _, rfl, Or.inr ⟨fun q => hC3 q.2.1, rfl, hx3⟩⟩
  · refine x_st (st1 := [.int 0]) rfl ?_
    refine x_if_eq 26 8 C0 dX4_tryLoad_5 rfl (by decide) (fun _ => ?_) (fun q => False.elim (by revert q; decide))
    refine x_iconst (v := 0) 27 C0 dX4_tryLoad_26 rfl (by decide) ?_
    exact x_ireturn C0 dX4_tryLoad_27 rfl rfl (Nat.le_of_ble_eq_true rfl) (Nat.le_of_ble_eq_true rfl) ⟨rfl, _, rfl, Or.inr ⟨fun q => hC1 q.1, rfl, hx1⟩⟩

set_option maxHeartbeats 4000000 in
set_option maxRecDepth 100000 in
theorem k_X4_find (l : Launch) (hl : l.stackTraces = false) (g : xg_T) (w : xw_T) (sz : Nat) (h : Nat) (x : Nat → Int32) (la : Nat → Nat) (hR : HR g w h x la) (nn : Int32) : xM l g yX4_find cX4_find 2 (some (.object "TeaChests$Chest")) ({ frames := 0, cells := 0, slots := 0, locals := 0 }) 0 0 [.ref h, .int nn] w sz (fun r w1 sz1 => ((∃ k, k < 20 ∧ nn = nI k ∧ nn < x 3 ∧ r = some (.ref (h + 3 + k))) ∨ (¬ (0 ≤ nn ∧ nn < x 3 ∧ nn < 20) ∧ r = some .null)) ∧ w = w1 ∧ sz = sz1) (fun _ _ _ => False) := by
  refine xM.of RX4 hl (by decide +kernel) rfl (Nat.le_of_ble_eq_true rfl) rfl ?_
  intro p e s m args below meth cD C0 hini
  refine x_iload_n 1 1 C0 dX4_find_0 rfl rfl rfl ?_
  refine x_if_lt 30 4 C0 dX4_find_1 rfl (by decide) (fun c1 => ?_) (fun c1 => ?_)
  · have c1' := Int32.not_le.mpr c1
    refine x_null 31 C0 dX4_find_30 rfl ?_
    exact x_areturn C0 dX4_find_31 rfl (Or.inl ⟨_, rfl⟩) (Or.inl rfl) (Nat.le_of_ble_eq_true rfl) (Nat.le_of_ble_eq_true rfl) ⟨Or.inr ⟨fun q => absurd q.1 (Int32.not_le.mpr c1), rfl⟩, rfl, rfl⟩
  · have c1' := Int32.not_lt.mp c1
    refine x_iload_n 1 5 C0 dX4_find_4 rfl rfl rfl ?_
    refine x_aload_n 0 6 C0 dX4_find_5 rfl rfl rfl ?_
    refine x_getf (v := .int (x 3)) 2 9 C0 dX4_find_6 rfl (HR.ho hR) rfl (by decide) inX4 mF_X4_48 rfl ?_
    refine x_icmp_ge 30 12 C0 dX4_find_9 rfl (by decide) (fun c2 => ?_) (fun c2 => ?_)
    · have c2' := Int32.not_lt.mpr c2
      refine x_null 31 C0 dX4_find_30 rfl ?_
      exact x_areturn C0 dX4_find_31 rfl (Or.inl ⟨_, rfl⟩) (Or.inl rfl) (Nat.le_of_ble_eq_true rfl) (Nat.le_of_ble_eq_true rfl) ⟨Or.inr ⟨fun q => absurd q.2.1 (Int32.not_lt.mpr c2), rfl⟩, rfl, rfl⟩
    · have c2' := Int32.not_le.mp c2
      refine x_iload_n 1 13 C0 dX4_find_12 rfl rfl rfl ?_
      refine x_aload_n 0 14 C0 dX4_find_13 rfl rfl rfl ?_
      refine x_getf (v := .ref (h + 2)) 1 17 C0 dX4_find_14 rfl (HR.ho hR) rfl (by decide) inX4 mF_X4_21 rfl ?_
      refine x_alen 5 18 C0 (v := 20) dX4_find_17 rfl (HR.cs hR) rfl rfl ?_
      refine x_icmp_ge 30 21 C0 dX4_find_18 rfl (by decide) (fun c3 => ?_) (fun c3 => ?_)
      · have c3' := Int32.not_lt.mpr c3
        refine x_null 31 C0 dX4_find_30 rfl ?_
        exact x_areturn C0 dX4_find_31 rfl (Or.inl ⟨_, rfl⟩) (Or.inl rfl) (Nat.le_of_ble_eq_true rfl) (Nat.le_of_ble_eq_true rfl) ⟨Or.inr ⟨fun q => absurd q.2.2 (Int32.not_lt.mpr c3), rfl⟩, rfl, rfl⟩
      · have c3' := Int32.not_le.mp c3
        refine x_aload_n 0 22 C0 dX4_find_21 rfl rfl rfl ?_
        refine x_getf (v := .ref (h + 2)) 1 25 C0 dX4_find_22 rfl (HR.ho hR) rfl (by decide) inX4 mF_X4_21 rfl ?_
        refine x_iload_n 1 26 C0 dX4_find_25 rfl rfl rfl ?_
        obtain ⟨k, rfl, hi2⟩ := i32_nat (n := 20) rfl (by decide) (Int32.not_lt.mp c1) (Int32.not_le.mp c3)
        have hm2 : nI k < x 3 := Int32.not_le.mp c2
        refine x_aald 5 27 C0 dX4_find_26 rfl (HR.cs hR) rfl (vp_in_nI hi2 (by decide)) ?_
        refine x_st (st1 := [.ref (h + 3 + k)]) (congrArg (· :: _) (chRef hi2)) ?_
        refine x_goto 31 C0 dX4_find_27 (by decide) ?_
        exact x_areturn C0 dX4_find_31 rfl (Or.inl ⟨_, rfl⟩) (Or.inr ⟨_, rfl⟩) (Nat.le_of_ble_eq_true rfl) (Nat.le_of_ble_eq_true rfl) ⟨Or.inl ⟨k, hi2, rfl, hm2, rfl⟩, rfl, rfl⟩

set_option maxHeartbeats 4000000 in
set_option maxRecDepth 100000 in
theorem k_X4_tryMake (l : Launch) (hl : l.stackTraces = false) (g : xg_T) (w : xw_T) (sz : Nat) (h : Nat) (x : Nat → Int32) (la : Nat → Nat) (hR : HR g w h x la) (hA : xA g h) (k : Nat) (hk : k ≤ 20) (hk3 : x 3 = nI k) (si : Int32) : xM l g yX4_tryMake cX4_tryMake 2 (some .boolean) ({ frames := 1, cells := 0, slots := 0, locals := 22 }) 0 0 [.ref h, .int si] w sz (fun r w1 sz1 => sz = sz1 ∧ ∃ x', w1 = HW g w h x' la ∧ tri (k < 20) (makeX x k si) x x' r) (fun _ _ _ => False) := by
  refine xM.of RX4 hl (by decide +kernel) rfl (Nat.le_of_ble_eq_true rfl) rfl ?_
  intro p e s m args below meth cD C0 hini
  refine x_aload_n 0 1 C0 dX4_tryMake_0 rfl rfl rfl ?_
  refine x_getf (v := .int (x 3)) 2 4 C0 dX4_tryMake_1 rfl (HR.ho hR) rfl (by decide) inX4 mF_X4_48 rfl ?_
  refine x_aload_n 0 5 C0 dX4_tryMake_4 rfl rfl rfl ?_
  refine x_getf (v := .ref (h + 2)) 1 8 C0 dX4_tryMake_5 rfl (HR.ho hR) rfl (by decide) inX4 mF_X4_21 rfl ?_
  refine x_alen 5 9 C0 (v := 20) dX4_tryMake_8 rfl (HR.cs hR) rfl rfl ?_
  refine x_icmp_lt 22 12 C0 dX4_tryMake_9 rfl (by decide) (fun c1 => ?_) (fun c1 => ?_)
  · have c1' := Int32.not_le.mpr c1
    refine x_aload_n 0 23 C0 dX4_tryMake_22 rfl rfl rfl ?_
    refine x_getf (v := .ref (h + 2)) 1 26 C0 dX4_tryMake_23 rfl (HR.ho hR) rfl (by decide) inX4 mF_X4_21 rfl ?_
    refine x_aload_n 0 27 C0 dX4_tryMake_26 rfl rfl rfl ?_
    refine x_getf (v := .int (x 3)) 2 30 C0 dX4_tryMake_27 rfl (HR.ho hR) rfl (by decide) inX4 mF_X4_48 rfl ?_
    have hk2 : k < 20 := by rw [hk3] at c1; exact (nI_ltI (by omega) (by decide)).mp c1
    refine x_aald 5 31 C0 dX4_tryMake_30 rfl (HR.cs hR) rfl (by rw [show x 3 = nI k from (by first | exact hk3 | (rw [pk_un (by omega)]; exact hk3))]; exact vp_in_nI hk2 (by decide)) ?_
    refine x_st (st1 := [.ref (h + 3 + k)]) (congrArg (· :: _) (chRefX (by first | exact hk3 | (rw [pk_un (by omega)]; exact hk3)) hk2)) ?_
    refine x_iload_n 1 32 C0 dX4_tryMake_31 rfl rfl rfl ?_
    refine x_w (HW_self hR) ?_
    refine x_putf 1 35 C0 dX4_tryMake_32 rfl (HR.c HR_HW hk2) (xA_le hA (by omega)) rfl (by decide) inX1 tyX1_ok nmX1 mF_X4_107 rfl rfl rfl rfl (Nat.le_of_ble_eq_true rfl) ?_
    refine x_w (w1 := HW g w h (upd x (28 + 9 * k + 0) si) la) (HW_putC1 hk2 (by decide) (chestS0 _ _ _ _)) ?_
    refine x_aload_n 0 36 C0 dX4_tryMake_35 rfl rfl rfl ?_
    refine x_getf (v := .ref (h + 2)) 1 39 C0 dX4_tryMake_36 rfl (HR.ho HR_HW) rfl (by decide) inX4 mF_X4_21 rfl ?_
    refine x_aload_n 0 40 C0 dX4_tryMake_39 rfl rfl rfl ?_
    refine x_getf (v := .int ((upd x (28 + 9 * k + 0) si) 3)) 2 43 C0 dX4_tryMake_40 rfl (HR.ho HR_HW) rfl (by decide) inX4 mF_X4_48 rfl ?_
    refine x_aald 5 44 C0 dX4_tryMake_43 rfl (HR.cs HR_HW) rfl (by rw [show (upd x (28 + 9 * k + 0) si) 3 = nI k from (by first | exact hk3 | (rw [pk_un (by omega)]; exact hk3))]; exact vp_in_nI hk2 (by decide)) ?_
    refine x_st (st1 := [.ref (h + 3 + k)]) (congrArg (· :: _) (chRefX (by first | exact hk3 | (rw [pk_un (by omega)]; exact hk3)) hk2)) ?_
    refine x_iconst (v := 0) 45 C0 dX4_tryMake_44 rfl (by decide) ?_
    refine x_putf 8 48 C0 dX4_tryMake_45 rfl (HR.c HR_HW hk2) (xA_le hA (by omega)) rfl (by decide) inX1 tyX1_ok nmX1 mF_X4_99 rfl rfl rfl rfl (Nat.le_of_ble_eq_true rfl) ?_
    refine x_w (w1 := HW g w h (upd (upd x (28 + 9 * k + 0) si) (28 + 9 * k + 7) 0) la) (HW_putC1 hk2 (by decide) (chestS7 _ _ _ _)) ?_
    refine x_aload_n 0 49 C0 dX4_tryMake_48 rfl rfl rfl ?_
    refine x_dup 50 C0 dX4_tryMake_49 rfl rfl ?_
    refine x_getf (v := .int ((upd (upd x (28 + 9 * k + 0) si) (28 + 9 * k + 7) 0) 3)) 2 53 C0 dX4_tryMake_50 rfl (HR.ho HR_HW) rfl (by decide) inX4 mF_X4_48 rfl ?_
    refine x_iconst (v := 1) 54 C0 dX4_tryMake_53 rfl (by decide) ?_
    refine x_iadd 55 C0 dX4_tryMake_54 rfl ?_
    refine x_putf 2 58 C0 dX4_tryMake_55 rfl (HR.ho HR_HW) hA rfl (by decide) inX4 tyX4_ok nmX4 mF_X4_48 rfl rfl rfl rfl (Nat.le_of_ble_eq_true rfl) ?_
    refine x_w (w1 := HW g w h (upd (upd (upd x (28 + 9 * k + 0) si) (28 + 9 * k + 7) 0) 3 (((upd (upd x (28 + 9 * k + 0) si) (28 + 9 * k + 7) 0) 3) + 1)) la) (HW_putH (by decide) (houseS2 _ _ _)) ?_
    refine x_iconst (v := 1) 59 C0 dX4_tryMake_58 rfl (by decide) ?_
    exact x_ireturn C0 dX4_tryMake_59 rfl rfl (Nat.le_of_ble_eq_true rfl) (Nat.le_of_ble_eq_true rfl) ⟨rfl, _, rfl, Or.inl ⟨hk2, rfl, by unfold makeX; rw [pk_un (show 3 ≠ 28 + 9 * k + 7 by omega), pk_un (show 3 ≠ 28 + 9 * k + 0 by omega), hk3, nI_1]⟩⟩
  · have c1' := Int32.not_lt.mp c1
    refine x_aload_n 0 13 C0 dX4_tryMake_12 rfl rfl rfl ?_
    refine x_iconst (v := 1) 14 C0 dX4_tryMake_13 rfl (by decide) ?_
    refine x_aload_n 0 15 C0 dX4_tryMake_14 rfl rfl rfl ?_
    refine x_getf (v := .int (x 3)) 2 18 C0 dX4_tryMake_15 rfl (HR.ho hR) rfl (by decide) inX4 mF_X4_48 rfl ?_
    refine x_callV 21 C0 (k_X4_refuse l hl g _ _ _ _ _ hR hA 1 (x 3)) dX4_tryMake_18 rfl mC_X4_refuse mM_X4_81 mI_X4_refuse mV_X4_refuse mN_X4 yd_X4_refuse rfl rfl ⟨Nat.le_of_ble_eq_true rfl, Nat.le_of_ble_eq_true rfl⟩ (HR.ho hR) rfl rfl rfl rfl (Nat.le_of_ble_eq_true rfl) ⟨Nat.le_of_ble_eq_true rfl, Nat.le_of_ble_eq_true rfl⟩ (fun _ _ _ q => False.elim q) (fun r w1 sz1 hz hP => ?_)
    obtain ⟨rfl, rfl, rfl⟩ := hP
    refine x_st (st1 := [.int 0]) rfl ?_
    exact x_ireturn C0 dX4_tryMake_21 rfl rfl (Nat.le_of_ble_eq_true rfl) (Nat.le_of_ble_eq_true rfl) ⟨rfl, _, rfl, Or.inr ⟨fun q => c1 (by rw [hk3]; exact nI_lt q (by decide)), rfl, _, _, rfl⟩⟩

set_option maxHeartbeats 4000000 in
set_option maxRecDepth 100000 in
theorem k_X4_letDampIn (l : Launch) (hl : l.stackTraces = false) (g : xg_T) (w : xw_T) (sz : Nat) (h : Nat) (x : Nat → Int32) (la : Nat → Nat) (hR : HR g w h x la) (hA : xA g h) : xM l g yX4_letDampIn cX4_letDampIn 5 none ({ frames := 2, cells := 0, slots := 0, locals := 40 }) 0 0 [.ref h] w sz (fun r w1 sz1 => r = none ∧ w1 = HW g w h (dampAll x 20) la ∧ sz = sz1) (fun _ _ _ => False) := by
  refine xM.of RX4 hl (by decide +kernel) rfl (Nat.le_of_ble_eq_true rfl) rfl ?_
  intro p e s m args below meth cD C0 hini
  refine x_aload_n 0 1 C0 dX4_letDampIn_0 rfl rfl rfl ?_
  refine x_getf (v := .ref (h + 2)) 1 4 C0 dX4_letDampIn_1 rfl (HR.ho hR) rfl (by decide) inX4 mF_X4_21 rfl ?_
  refine x_astore_n [(1, .ref (h + 2)), (0, .ref h)] 5 C0 dX4_letDampIn_4 rfl rfl (by decide) rfl ?_
  refine x_lv (lv1 := [(0, .ref h), (1, .ref (h + 2))]) [1, 0] rfl ?_
  refine x_aload_n 1 6 C0 dX4_letDampIn_5 rfl rfl rfl ?_
  refine x_alen 5 7 C0 (v := 20) dX4_letDampIn_6 rfl (HR.cs hR) rfl rfl ?_
  refine x_istore_n [(2, .int 20), (0, .ref h), (1, .ref (h + 2))] 8 C0 dX4_letDampIn_7 rfl rfl (by decide) rfl ?_
  refine x_lv (lv1 := [(0, .ref h), (1, .ref (h + 2)), (2, .int 20)]) [1, 2, 0] rfl ?_
  refine x_iconst (v := 0) 9 C0 dX4_letDampIn_8 rfl (by decide) ?_
  refine x_istore_n [(3, .int 0), (0, .ref h), (1, .ref (h + 2)), (2, .int 20)] 10 C0 dX4_letDampIn_9 rfl rfl (by decide) rfl ?_
  refine x_lv (lv1 := [(0, .ref h), (1, .ref (h + 2)), (2, .int 20), (3, .int 0)]) [1, 2, 3, 0] rfl ?_
  refine x_w (HW_self hR) ?_
  have loop10 : ∀ (N i : Nat), i ≤ 20 → 20 - i < N → xV p l e ({ frames := 2, cells := 0, slots := 0, locals := 40 }) s m args below meth cD (xQ g below (fun r w1 sz1 => r = none ∧ w1 = HW g w h (dampAll x 20) la ∧ sz = sz1) (fun _ _ _ => False) args s 0 0) g 5 (HW g w h (dampAll x i) la) sz (0) (0) 10 [(0, .ref h), (1, .ref (h + 2)), (2, .int 20), (3, .int (nI i))] [] := by
    intro N
    induction N with
    | zero => intro i h1 h2; omega
    | succ N ih =>
      intro i hi hN
      refine x_iload_n 3 11 C0 dX4_letDampIn_10 rfl rfl rfl ?_
      refine x_iload_n 2 12 C0 dX4_letDampIn_11 rfl rfl rfl ?_
      refine x_icmp_ge 31 15 C0 dX4_letDampIn_12 rfl (by decide) (fun c1 => ?_) (fun c1 => ?_)
      · have hI := ix_eq 20 rfl (by decide) hi c1
        subst hI
        exact x_return C0 dX4_letDampIn_31 rfl (Nat.le_of_ble_eq_true rfl) (Nat.le_of_ble_eq_true rfl) ⟨rfl, rfl, rfl⟩
      · have hi2 := ix_lt 20 rfl (by decide) hi c1
        refine x_aload_n 1 16 C0 dX4_letDampIn_15 rfl rfl rfl ?_
        refine x_iload_n 3 17 C0 dX4_letDampIn_16 rfl rfl rfl ?_
        refine x_aald 5 18 C0 dX4_letDampIn_17 rfl (HR.cs HR_HW) rfl (vp_in_nI hi2 (by decide)) ?_
        refine x_st (st1 := [.ref (h + 3 + i)]) (congrArg (· :: _) (chRef hi2)) ?_
        refine x_astore [(4, .ref (h + 3 + i)), (0, .ref h), (1, .ref (h + 2)), (2, .int 20), (3, .int (nI i))] 20 C0 dX4_letDampIn_18 rfl (by decide) rfl ?_
        refine x_lv (lv1 := [(0, .ref h), (1, .ref (h + 2)), (2, .int 20), (3, .int (nI i)), (4, .ref (h + 3 + i))]) [1, 2, 3, 4, 0] rfl ?_
        refine x_aload 4 22 C0 dX4_letDampIn_20 rfl rfl ?_
        refine x_callV 25 C0 (k_X1_becomeDamper l hl g _ _ _ _ _ _ (HR.c HR_HW hi2) (xA_le hA (by omega))) dX4_letDampIn_22 rfl mC_X1_becomeDamper mM_X4_228 mI_X1_becomeDamper mV_X1_becomeDamper mN_X1 yd_X1_becomeDamper rfl rfl ⟨Nat.le_of_ble_eq_true rfl, Nat.le_of_ble_eq_true rfl⟩ (HR.c HR_HW hi2) rfl rfl rfl rfl (Nat.le_of_ble_eq_true rfl) ⟨Nat.le_of_ble_eq_true rfl, Nat.le_of_ble_eq_true rfl⟩ (fun _ _ _ q => False.elim q) (fun r w1 sz1 hz hP => ?_)
        obtain ⟨rfl, rfl, rfl⟩ := hP
        refine x_w (w1 := HW g w h (setRow (dampAll x i) i (cDamper (row (dampAll x i) i))) la) (HW_putRow hi2) ?_
        refine x_st (st1 := []) rfl ?_
        refine x_iinc [(3, .int (nI (i + 1))), (0, .ref h), (1, .ref (h + 2)), (2, .int 20), (4, .ref (h + 3 + i))] 3 28 C0 dX4_letDampIn_25 rfl rfl (nI_1 i) (by decide) rfl ?_
        refine x_lv (lv1 := [(0, .ref h), (1, .ref (h + 2)), (2, .int 20), (3, .int (nI (i + 1))), (4, .ref (h + 3 + i))]) [1, 2, 3, 0, 4] rfl ?_
        refine x_goto 10 C0 dX4_letDampIn_28 (by decide) ?_
        have q9 := ih (i + 1) (by omega) (by omega)
        rw [show (dampAll x (i + 1)) = (setRow (dampAll x i) i (cDamper (row (dampAll x i) i))) from by simp [dampAll]] at q9
        exact x_lv [0, 1, 2, 3] rfl q9
  exact x_lv [0, 1, 2, 3] rfl (loop10 21 0 (by omega) (by omega))

set_option maxHeartbeats 4000000 in
set_option maxRecDepth 100000 in
theorem k_X4_letPass (l : Launch) (hl : l.stackTraces = false) (g : xg_T) (w : xw_T) (sz : Nat) (h : Nat) (x : Nat → Int32) (la : Nat → Nat) (hR : HR g w h x la) (hA : xA g h) (nh : Nat) (hnh : nh < 1000) : xM l g yX4_letPass cX4_letPass 3 (some .boolean) ({ frames := 3, cells := 0, slots := 0, locals := 64 }) 0 0 [.ref h, .int (nI nh)] w sz (fun r w1 sz1 => r = some (.int 1) ∧ w1 = HW g w h (passN x nh) la ∧ sz = sz1) (fun _ _ _ => False) := by
  refine xM.of RX4 hl (by decide +kernel) rfl (Nat.le_of_ble_eq_true rfl) rfl ?_
  intro p e s m args below meth cD C0 hini
  refine x_iconst (v := 0) 1 C0 dX4_letPass_0 rfl (by decide) ?_
  refine x_istore_n [(2, .int 0), (0, .ref h), (1, .int (nI nh))] 2 C0 dX4_letPass_1 rfl rfl (by decide) rfl ?_
  refine x_lv (lv1 := [(0, .ref h), (1, .int (nI nh)), (2, .int 0)]) [1, 2, 0] rfl ?_
  refine x_w (HW_self hR) ?_
  have loop2 : ∀ (N i : Nat), i ≤ nh → nh - i < N → xV p l e ({ frames := 3, cells := 0, slots := 0, locals := 64 }) s m args below meth cD (xQ g below (fun r w1 sz1 => r = some (.int 1) ∧ w1 = HW g w h (passN x nh) la ∧ sz = sz1) (fun _ _ _ => False) args s 0 0) g 3 (HW g w h (passN x i) la) sz (0) (0) 2 [(0, .ref h), (1, .int (nI nh)), (2, .int (nI i))] [] := by
    intro N
    induction N with
    | zero => intro i h1 h2; omega
    | succ N ih =>
      intro i hi hN
      refine x_iload_n 2 3 C0 dX4_letPass_2 rfl rfl rfl ?_
      refine x_iload_n 1 4 C0 dX4_letPass_3 rfl rfl rfl ?_
      refine x_icmp_ge 35 7 C0 dX4_letPass_4 rfl (by decide) (fun c1 => ?_) (fun c1 => ?_)
      · obtain rfl : i = nh := ix_eq nh rfl (by omega) hi c1
        refine x_iconst (v := 1) 36 C0 dX4_letPass_35 rfl (by decide) ?_
        exact x_ireturn C0 dX4_letPass_36 rfl rfl (Nat.le_of_ble_eq_true rfl) (Nat.le_of_ble_eq_true rfl) ⟨rfl, rfl, rfl⟩
      · have hi2 := ix_lt nh rfl (by omega) hi c1
        refine x_aload_n 0 8 C0 dX4_letPass_7 rfl rfl rfl ?_
        refine x_dup 9 C0 dX4_letPass_8 rfl rfl ?_
        refine x_getf (v := .int ((passN x i) 0)) 5 12 C0 dX4_letPass_9 rfl (HR.ho HR_HW) rfl (by decide) inX4 mF_X4_51 rfl ?_
        refine x_iconst (v := 1) 13 C0 dX4_letPass_12 rfl (by decide) ?_
        refine x_iadd 14 C0 dX4_letPass_13 rfl ?_
        refine x_putf 5 17 C0 dX4_letPass_14 rfl (HR.ho HR_HW) hA rfl (by decide) inX4 tyX4_ok nmX4 mF_X4_51 rfl rfl rfl rfl (Nat.le_of_ble_eq_true rfl) ?_
        refine x_w (w1 := HW g w h (upd (passN x i) 0 (((passN x i) 0) + 1)) la) (HW_putH (by decide) (houseS5 _ _ _)) ?_
        refine x_aload_n 0 18 C0 dX4_letPass_17 rfl rfl rfl ?_
        refine x_getf (v := .int ((passN x i) 5)) 6 21 C0 dX4_letPass_18 rfl (HR.ho HR_HW) rfl (by decide) inX4 mF_X4_32 rfl ?_
        refine x_iconst (v := 5) 22 C0 dX4_letPass_21 rfl (by decide) ?_
        refine x_icmp_lt 29 25 C0 dX4_letPass_22 rfl (by decide) (fun c2 => ?_) (fun c2 => ?_)
        · have c2' := Int32.not_le.mpr c2
          refine x_iinc [(2, .int (nI (i + 1))), (0, .ref h), (1, .int (nI nh))] 2 32 C0 dX4_letPass_29 rfl rfl (nI_1 i) (by decide) rfl ?_
          refine x_lv (lv1 := [(0, .ref h), (1, .int (nI nh)), (2, .int (nI (i + 1)))]) [1, 2, 0] rfl ?_
          refine x_goto 2 C0 dX4_letPass_32 (by decide) ?_
          have q9 := ih (i + 1) (by omega) (by omega)
          rw [show passN x (i + 1) = (upd (passN x i) 0 (((passN x i) 0) + 1)) from by simp [passN, hourP, upd, c2, c2']] at q9
          exact q9
        · have c2' := Int32.not_lt.mp c2
          refine x_aload_n 0 26 C0 dX4_letPass_25 rfl rfl rfl ?_
          refine x_callV 29 C0 (k_X4_letDampIn l hl g _ _ _ _ _ HR_HW hA) dX4_letPass_26 rfl mC_X4_letDampIn mM_X4_225 mI_X4_letDampIn mV_X4_letDampIn mN_X4 yd_X4_letDampIn rfl rfl ⟨Nat.le_of_ble_eq_true rfl, Nat.le_of_ble_eq_true rfl⟩ (HR.ho HR_HW) rfl rfl rfl rfl (Nat.le_of_ble_eq_true rfl) ⟨Nat.le_of_ble_eq_true rfl, Nat.le_of_ble_eq_true rfl⟩ (fun _ _ _ q => False.elim q) (fun r w1 sz1 hz hP => ?_)
          obtain ⟨rfl, rfl, rfl⟩ := hP
          refine x_w HW_HW ?_
          refine x_st (st1 := []) rfl ?_
          refine x_iinc [(2, .int (nI (i + 1))), (0, .ref h), (1, .int (nI nh))] 2 32 C0 dX4_letPass_29 rfl rfl (nI_1 i) (by decide) rfl ?_
          refine x_lv (lv1 := [(0, .ref h), (1, .int (nI nh)), (2, .int (nI (i + 1)))]) [1, 2, 0] rfl ?_
          refine x_goto 2 C0 dX4_letPass_32 (by decide) ?_
          have q9 := ih (i + 1) (by omega) (by omega)
          rw [show passN x (i + 1) = (dampAll (upd (passN x i) 0 (((passN x i) 0) + 1)) 20) from by simp [passN, hourP, upd, c2, c2']] at q9
          exact q9
  exact loop2 (nh + 1) 0 (by omega) (by omega)

set_option maxHeartbeats 4000000 in
set_option maxRecDepth 100000 in
theorem k_X4_trySail (l : Launch) (hl : l.stackTraces = false) (g : xg_T) (w : xw_T) (sz : Nat) (h : Nat) (x : Nat → Int32) (la : Nat → Nat) (hR : HR g w h x la) (hA : xA g h) : xM l g yX4_trySail cX4_trySail 5 (some .boolean) ({ frames := 3, cells := 0, slots := 0, locals := 54 }) 0 0 [.ref h] w sz (fun r w1 sz1 => sz = sz1 ∧ ∃ x', w1 = HW g w h x' la ∧ tri (sailOk x) (sailX x) x x' r) (fun _ _ _ => False) := by
  refine xM.of RX4 hl (by decide +kernel) rfl (Nat.le_of_ble_eq_true rfl) rfl ?_
  intro p e s m args below meth cD C0 hini
  refine x_aload_n 0 1 C0 dX4_trySail_0 rfl rfl rfl ?_
  refine x_callV 4 C0 (k_X4_isShipReached l hl g _ _ _ _ _ hR hA) dX4_trySail_1 rfl mC_X4_isShipReached mM_X4_208 mI_X4_isShipReached mV_X4_isShipReached mN_X4 yd_X4_isShipReached rfl rfl ⟨Nat.le_of_ble_eq_true rfl, Nat.le_of_ble_eq_true rfl⟩ (HR.ho hR) rfl rfl rfl rfl (Nat.le_of_ble_eq_true rfl) ⟨Nat.le_of_ble_eq_true rfl, Nat.le_of_ble_eq_true rfl⟩ (fun _ _ _ q => False.elim q) (fun r w1 sz1 hz hP => ?_)
  obtain ⟨rfl, x1, rfl, hQ1⟩ := hP
  rcases hQ1 with ⟨hC1, rfl, rfl⟩ | ⟨hC1, rfl, hx1⟩
  · refine x_st (st1 := [.int 1]) rfl ?_
    refine x_if_eq 14 7 C0 dX4_trySail_4 rfl (by decide) (fun q => False.elim (by revert q; decide)) (fun _ => ?_)
    refine x_aload_n 0 8 C0 dX4_trySail_7 rfl rfl rfl ?_
    refine x_callV 11 C0 (k_X4_isShipLoaded l hl g _ _ _ _ _ HR_HW hA) dX4_trySail_8 rfl mC_X4_isShipLoaded mM_X4_214 mI_X4_isShipLoaded mV_X4_isShipLoaded mN_X4 yd_X4_isShipLoaded rfl rfl ⟨Nat.le_of_ble_eq_true rfl, Nat.le_of_ble_eq_true rfl⟩ (HR.ho HR_HW) rfl rfl rfl rfl (Nat.le_of_ble_eq_true rfl) ⟨Nat.le_of_ble_eq_true rfl, Nat.le_of_ble_eq_true rfl⟩ (fun _ _ _ q => False.elim q) (fun r w1 sz1 hz hP => ?_)
    obtain ⟨rfl, x3, rfl, hQ3⟩ := hP
    rcases hQ3 with ⟨hC3, rfl, rfl⟩ | ⟨hC3, rfl, hx3⟩
    · refine x_w HW_HW ?_
      refine x_st (st1 := [.int 1]) rfl ?_
      refine x_if_ne 16 14 C0 dX4_trySail_11 rfl (by decide) (fun _ => ?_) (fun q => False.elim (by revert q; decide))
      refine x_aload_n 0 17 C0 dX4_trySail_16 rfl rfl rfl ?_
      refine x_dup 18 C0 dX4_trySail_17 rfl rfl ?_
      refine x_getf (v := .int (x 4)) 7 21 C0 dX4_trySail_18 rfl (HR.ho HR_HW) rfl (by decide) inX4 mF_X4_54 rfl ?_
      refine x_aload_n 0 22 C0 dX4_trySail_21 rfl rfl rfl ?_
      refine x_callV 25 C0 (k_X4_shipCoins l hl g _ _ _ _ _ HR_HW) dX4_trySail_22 rfl mC_X4_shipCoins mM_X4_217 mI_X4_shipCoins mV_X4_shipCoins mN_X4 yd_X4_shipCoins rfl rfl ⟨Nat.le_of_ble_eq_true rfl, Nat.le_of_ble_eq_true rfl⟩ (HR.ho HR_HW) rfl rfl rfl rfl (Nat.le_of_ble_eq_true rfl) ⟨Nat.le_of_ble_eq_true rfl, Nat.le_of_ble_eq_true rfl⟩ (fun _ _ _ q => False.elim q) (fun r w1 sz1 hz hP => ?_)
      obtain ⟨rfl, rfl, rfl⟩ := hP
      refine x_st (st1 := [.int (cargoN x 20), .int (x 4), .ref h]) rfl ?_
      refine x_iadd 26 C0 dX4_trySail_25 rfl ?_
      refine x_putf 7 29 C0 dX4_trySail_26 rfl (HR.ho HR_HW) hA rfl (by decide) inX4 tyX4_ok nmX4 mF_X4_54 rfl rfl rfl rfl (Nat.le_of_ble_eq_true rfl) ?_
      refine x_w (w1 := HW g w h (upd x 4 ((x 4) + (cargoN x 20))) la) (HW_putH (by decide) (houseS7 _ _ _)) ?_
      refine x_aload_n 0 30 C0 dX4_trySail_29 rfl rfl rfl ?_
      refine x_getf (v := .ref (h + 2)) 1 33 C0 dX4_trySail_30 rfl (HR.ho HR_HW) rfl (by decide) inX4 mF_X4_21 rfl ?_
      refine x_astore_n [(1, .ref (h + 2)), (0, .ref h)] 34 C0 dX4_trySail_33 rfl rfl (by decide) rfl ?_
      refine x_lv (lv1 := [(0, .ref h), (1, .ref (h + 2))]) [1, 0] rfl ?_
      refine x_aload_n 1 35 C0 dX4_trySail_34 rfl rfl rfl ?_
      refine x_alen 5 36 C0 (v := 20) dX4_trySail_35 rfl (HR.cs HR_HW) rfl rfl ?_
      refine x_istore_n [(2, .int 20), (0, .ref h), (1, .ref (h + 2))] 37 C0 dX4_trySail_36 rfl rfl (by decide) rfl ?_
      refine x_lv (lv1 := [(0, .ref h), (1, .ref (h + 2)), (2, .int 20)]) [1, 2, 0] rfl ?_
      refine x_iconst (v := 0) 38 C0 dX4_trySail_37 rfl (by decide) ?_
      refine x_istore_n [(3, .int 0), (0, .ref h), (1, .ref (h + 2)), (2, .int 20)] 39 C0 dX4_trySail_38 rfl rfl (by decide) rfl ?_
      refine x_lv (lv1 := [(0, .ref h), (1, .ref (h + 2)), (2, .int 20), (3, .int 0)]) [1, 2, 3, 0] rfl ?_
      have loop39 : ∀ (N i : Nat), i ≤ 20 → 20 - i < N → xV p l e ({ frames := 3, cells := 0, slots := 0, locals := 54 }) s m args below meth cD (xQ g below (fun r w1 sz1 => sz = sz1 ∧ ∃ x', w1 = HW g w h x' la ∧ tri (sailOk x) (sailX x) x x' r) (fun _ _ _ => False) args s 0 0) g 5 (HW g w h (sailAll (sailZ x) i) la) sz (0 + 0 + 0 + 0) (0 + 0 + 0 + 0) 39 [(0, .ref h), (1, .ref (h + 2)), (2, .int 20), (3, .int (nI i))] [] := by
        intro N
        induction N with
        | zero => intro i h1 h2; omega
        | succ N ih =>
          intro i hi hN
          refine x_iload_n 3 40 C0 dX4_trySail_39 rfl rfl rfl ?_
          refine x_iload_n 2 41 C0 dX4_trySail_40 rfl rfl rfl ?_
          refine x_icmp_ge 84 44 C0 dX4_trySail_41 rfl (by decide) (fun c5 => ?_) (fun c5 => ?_)
          · have hI := ix_eq 20 rfl (by decide) hi c5
            subst hI
            refine x_aload_n 0 85 C0 dX4_trySail_84 rfl rfl rfl ?_
            refine x_dup 86 C0 dX4_trySail_85 rfl rfl ?_
            refine x_getf (v := .int ((sailAll (sailZ x) 20) 9)) 8 89 C0 dX4_trySail_86 rfl (HR.ho HR_HW) rfl (by decide) inX4 mF_X4_57 rfl ?_
            refine x_iconst (v := 1) 90 C0 dX4_trySail_89 rfl (by decide) ?_
            refine x_iadd 91 C0 dX4_trySail_90 rfl ?_
            refine x_putf 8 94 C0 dX4_trySail_91 rfl (HR.ho HR_HW) hA rfl (by decide) inX4 tyX4_ok nmX4 mF_X4_57 rfl rfl rfl rfl (Nat.le_of_ble_eq_true rfl) ?_
            refine x_w (w1 := HW g w h (upd (sailAll (sailZ x) 20) 9 (((sailAll (sailZ x) 20) 9) + 1)) la) (HW_putH (by decide) (houseS8 _ _ _)) ?_
            refine x_iconst (v := 1) 95 C0 dX4_trySail_94 rfl (by decide) ?_
            exact x_ireturn C0 dX4_trySail_95 rfl rfl (Nat.le_of_ble_eq_true rfl) (Nat.le_of_ble_eq_true rfl) ⟨rfl, _, rfl, Or.inl ⟨⟨hC1, hC3⟩, rfl, rfl⟩⟩
          · have hi2 := ix_lt 20 rfl (by decide) hi c5
            refine x_aload_n 1 45 C0 dX4_trySail_44 rfl rfl rfl ?_
            refine x_iload_n 3 46 C0 dX4_trySail_45 rfl rfl rfl ?_
            refine x_aald 5 47 C0 dX4_trySail_46 rfl (HR.cs HR_HW) rfl (vp_in_nI hi2 (by decide)) ?_
            refine x_st (st1 := [.ref (h + 3 + i)]) (congrArg (· :: _) (chRef hi2)) ?_
            refine x_astore [(4, .ref (h + 3 + i)), (0, .ref h), (1, .ref (h + 2)), (2, .int 20), (3, .int (nI i))] 49 C0 dX4_trySail_47 rfl (by decide) rfl ?_
            refine x_lv (lv1 := [(0, .ref h), (1, .ref (h + 2)), (2, .int 20), (3, .int (nI i)), (4, .ref (h + 3 + i))]) [1, 2, 3, 4, 0] rfl ?_
            refine x_aload 4 51 C0 dX4_trySail_49 rfl rfl ?_
            refine x_getf (v := .int ((sailAll (sailZ x) i) (28 + 9 * i + 7))) 8 54 C0 dX4_trySail_51 rfl (HR.c HR_HW hi2) rfl (by decide) inX1 mF_X4_99 rfl ?_
            refine x_iconst (v := 2) 55 C0 dX4_trySail_54 rfl (by decide) ?_
            refine x_icmp_ne 78 58 C0 dX4_trySail_55 rfl (by decide) (fun c6 => ?_) (fun c6 => ?_)
            · refine x_iinc [(3, .int (nI (i + 1))), (0, .ref h), (1, .ref (h + 2)), (2, .int 20), (4, .ref (h + 3 + i))] 3 81 C0 dX4_trySail_78 rfl rfl (nI_1 i) (by decide) rfl ?_
              refine x_lv (lv1 := [(0, .ref h), (1, .ref (h + 2)), (2, .int 20), (3, .int (nI (i + 1))), (4, .ref (h + 3 + i))]) [1, 2, 3, 0, 4] rfl ?_
              refine x_goto 39 C0 dX4_trySail_81 (by decide) ?_
              have q9 := ih (i + 1) (by omega) (by omega)
              rw [show (sailAll (sailZ x) (i + 1)) = (sailAll (sailZ x) i) from by simp [sailAll, c6]] at q9
              exact x_lv [0, 1, 2, 3] rfl q9
            · refine x_aload 4 60 C0 dX4_trySail_58 rfl rfl ?_
              refine x_iconst (v := 3) 61 C0 dX4_trySail_60 rfl (by decide) ?_
              refine x_putf 8 64 C0 dX4_trySail_61 rfl (HR.c HR_HW hi2) (xA_le hA (by omega)) rfl (by decide) inX1 tyX1_ok nmX1 mF_X4_99 rfl rfl rfl rfl (Nat.le_of_ble_eq_true rfl) ?_
              refine x_w (w1 := HW g w h (upd (sailAll (sailZ x) i) (28 + 9 * i + 7) 3) la) (HW_putC1 hi2 (by decide) (chestS7 _ _ _ _)) ?_
              refine x_aload_n 0 65 C0 dX4_trySail_64 rfl rfl rfl ?_
              refine x_dup 66 C0 dX4_trySail_65 rfl rfl ?_
              refine x_getf (v := .int ((upd (sailAll (sailZ x) i) (28 + 9 * i + 7) 3) 7)) 10 69 C0 dX4_trySail_66 rfl (HR.ho HR_HW) rfl (by decide) inX4 mF_X4_63 rfl ?_
              refine x_aload 4 71 C0 dX4_trySail_69 rfl rfl ?_
              refine x_getf (v := .int ((upd (sailAll (sailZ x) i) (28 + 9 * i + 7) 3) (28 + 9 * i + 3))) 4 74 C0 dX4_trySail_71 rfl (HR.c HR_HW hi2) rfl (by decide) inX1 mF_X4_110 rfl ?_
              refine x_iadd 75 C0 dX4_trySail_74 rfl ?_
              refine x_putf 10 78 C0 dX4_trySail_75 rfl (HR.ho HR_HW) hA rfl (by decide) inX4 tyX4_ok nmX4 mF_X4_63 rfl rfl rfl rfl (Nat.le_of_ble_eq_true rfl) ?_
              refine x_w (w1 := HW g w h (upd (upd (sailAll (sailZ x) i) (28 + 9 * i + 7) 3) 7 (((upd (sailAll (sailZ x) i) (28 + 9 * i + 7) 3) 7) + ((upd (sailAll (sailZ x) i) (28 + 9 * i + 7) 3) (28 + 9 * i + 3)))) la) (HW_putH (by decide) (houseS10 _ _ _)) ?_
              refine x_iinc [(3, .int (nI (i + 1))), (0, .ref h), (1, .ref (h + 2)), (2, .int 20), (4, .ref (h + 3 + i))] 3 81 C0 dX4_trySail_78 rfl rfl (nI_1 i) (by decide) rfl ?_
              refine x_lv (lv1 := [(0, .ref h), (1, .ref (h + 2)), (2, .int 20), (3, .int (nI (i + 1))), (4, .ref (h + 3 + i))]) [1, 2, 3, 0, 4] rfl ?_
              refine x_goto 39 C0 dX4_trySail_81 (by decide) ?_
              have q9 := ih (i + 1) (by omega) (by omega)
              rw [show sailAll (sailZ x) (i + 1) = (upd (upd (sailAll (sailZ x) i) (28 + 9 * i + 7) 3) 7 (((upd (sailAll (sailZ x) i) (28 + 9 * i + 7) 3) 7) + ((upd (sailAll (sailZ x) i) (28 + 9 * i + 7) 3) (28 + 9 * i + 3)))) from by simp only [sailAll, if_pos c6]; rw [pk_un (show 7 ≠ 28 + 9 * i + 7 by omega), pk_un (show 28 + 9 * i + 3 ≠ 28 + 9 * i + 7 by omega)]] at q9
              exact x_lv [0, 1, 2, 3] rfl q9
      exact x_lv [0, 1, 2, 3] rfl (loop39 21 0 (by omega) (by omega))
    · refine x_w HW_HW ?_
      refine x_st (st1 := [.int 0]) rfl ?_
      refine x_if_ne 16 14 C0 dX4_trySail_11 rfl (by decide) (fun q => False.elim (by revert q; decide)) (fun _ => ?_)
      refine x_iconst (v := 0) 15 C0 dX4_trySail_14 rfl (by decide) ?_
      exact x_ireturn C0 dX4_trySail_15 rfl rfl (Nat.le_of_ble_eq_true rfl) (Nat.le_of_ble_eq_true rfl) ⟨rfl, _, rfl, Or.inr ⟨fun q => hC3 q.2, rfl, hx3⟩⟩
  · refine x_st (st1 := [.int 0]) rfl ?_
    refine x_if_eq 14 7 C0 dX4_trySail_4 rfl (by decide) (fun _ => ?_) (fun q => False.elim (by revert q; decide))
    refine x_iconst (v := 0) 15 C0 dX4_trySail_14 rfl (by decide) ?_
    exact x_ireturn C0 dX4_trySail_15 rfl rfl (Nat.le_of_ble_eq_true rfl) (Nat.le_of_ble_eq_true rfl) ⟨rfl, _, rfl, Or.inr ⟨fun q => hC1 q.1, rfl, hx1⟩⟩

set_option maxHeartbeats 4000000 in
set_option maxRecDepth 100000 in
theorem k_X4_placeOf (l : Launch) (hl : l.stackTraces = false) (g : xg_T) (w : xw_T) (sz : Nat) (h : Nat) (x : Nat → Int32) (la : Nat → Nat) (hR : HR g w h x la) (k : Nat) (hk : k < 20) : xM l g yX4_placeOf cX4_placeOf 7 (some .int) ({ frames := 2, cells := 0, slots := 0, locals := 41 }) 0 0 [.ref h, .ref (h + 3 + k)] w sz (fun r w1 sz1 => r = some (.int (placeN x k 20)) ∧ w = w1 ∧ sz = sz1) (fun _ _ _ => False) := by
  refine xM.of RX4 hl (by decide +kernel) rfl (Nat.le_of_ble_eq_true rfl) rfl ?_
  intro p e s m args below meth cD C0 hini
  refine x_iconst (v := 0) 1 C0 dX4_placeOf_0 rfl (by decide) ?_
  refine x_istore_n [(2, .int 0), (0, .ref h), (1, .ref (h + 3 + k))] 2 C0 dX4_placeOf_1 rfl rfl (by decide) rfl ?_
  refine x_lv (lv1 := [(0, .ref h), (1, .ref (h + 3 + k)), (2, .int 0)]) [1, 2, 0] rfl ?_
  refine x_aload_n 0 3 C0 dX4_placeOf_2 rfl rfl rfl ?_
  refine x_getf (v := .ref (h + 2)) 1 6 C0 dX4_placeOf_3 rfl (HR.ho hR) rfl (by decide) inX4 mF_X4_21 rfl ?_
  refine x_astore_n [(3, .ref (h + 2)), (0, .ref h), (1, .ref (h + 3 + k)), (2, .int 0)] 7 C0 dX4_placeOf_6 rfl rfl (by decide) rfl ?_
  refine x_lv (lv1 := [(0, .ref h), (1, .ref (h + 3 + k)), (2, .int 0), (3, .ref (h + 2))]) [1, 2, 3, 0] rfl ?_
  refine x_aload_n 3 8 C0 dX4_placeOf_7 rfl rfl rfl ?_
  refine x_alen 5 9 C0 (v := 20) dX4_placeOf_8 rfl (HR.cs hR) rfl rfl ?_
  refine x_istore [(4, .int 20), (0, .ref h), (1, .ref (h + 3 + k)), (2, .int 0), (3, .ref (h + 2))] 11 C0 dX4_placeOf_9 rfl (by decide) rfl ?_
  refine x_lv (lv1 := [(0, .ref h), (1, .ref (h + 3 + k)), (2, .int 0), (3, .ref (h + 2)), (4, .int 20)]) [1, 2, 3, 4, 0] rfl ?_
  refine x_iconst (v := 0) 12 C0 dX4_placeOf_11 rfl (by decide) ?_
  refine x_istore [(5, .int 0), (0, .ref h), (1, .ref (h + 3 + k)), (2, .int 0), (3, .ref (h + 2)), (4, .int 20)] 14 C0 dX4_placeOf_12 rfl (by decide) rfl ?_
  refine x_lv (lv1 := [(0, .ref h), (1, .ref (h + 3 + k)), (2, .int 0), (3, .ref (h + 2)), (4, .int 20), (5, .int 0)]) [1, 2, 3, 4, 5, 0] rfl ?_
  have loop14 : ∀ (N i : Nat), i ≤ 20 → 20 - i < N → xV p l e ({ frames := 2, cells := 0, slots := 0, locals := 41 }) s m args below meth cD (xQ g below (fun r w1 sz1 => r = some (.int (placeN x k 20)) ∧ w = w1 ∧ sz = sz1) (fun _ _ _ => False) args s 0 0) g 7 w sz (0) (0) 14 [(0, .ref h), (1, .ref (h + 3 + k)), (2, .int (placeN x k i)), (3, .ref (h + 2)), (4, .int 20), (5, .int (nI i))] [] := by
    intro N
    induction N with
    | zero => intro i h1 h2; omega
    | succ N ih =>
      intro i hi hN
      refine x_iload 5 16 C0 dX4_placeOf_14 rfl rfl ?_
      refine x_iload 4 18 C0 dX4_placeOf_16 rfl rfl ?_
      refine x_icmp_ge 53 21 C0 dX4_placeOf_18 rfl (by decide) (fun c1 => ?_) (fun c1 => ?_)
      · have hI := ix_eq 20 rfl (by decide) hi c1
        subst hI
        refine x_iload_n 2 54 C0 dX4_placeOf_53 rfl rfl rfl ?_
        exact x_ireturn C0 dX4_placeOf_54 rfl rfl (Nat.le_of_ble_eq_true rfl) (Nat.le_of_ble_eq_true rfl) (by refine ⟨?_, rfl, rfl⟩; rfl)
      · have hi2 := ix_lt 20 rfl (by decide) hi c1
        refine x_aload_n 3 22 C0 dX4_placeOf_21 rfl rfl rfl ?_
        refine x_iload 5 24 C0 dX4_placeOf_22 rfl rfl ?_
        refine x_aald 5 25 C0 dX4_placeOf_24 rfl (HR.cs hR) rfl (vp_in_nI hi2 (by decide)) ?_
        refine x_st (st1 := [.ref (h + 3 + i)]) (congrArg (· :: _) (chRef hi2)) ?_
        refine x_astore [(6, .ref (h + 3 + i)), (0, .ref h), (1, .ref (h + 3 + k)), (2, .int (placeN x k i)), (3, .ref (h + 2)), (4, .int 20), (5, .int (nI i))] 27 C0 dX4_placeOf_25 rfl (by decide) rfl ?_
        refine x_lv (lv1 := [(0, .ref h), (1, .ref (h + 3 + k)), (2, .int (placeN x k i)), (3, .ref (h + 2)), (4, .int 20), (5, .int (nI i)), (6, .ref (h + 3 + i))]) [1, 2, 3, 4, 5, 6, 0] rfl ?_
        refine x_aload 6 29 C0 dX4_placeOf_27 rfl rfl ?_
        refine x_callV 32 C0 (k_X1_isThere l hl g _ _ _ _ _ _ (HR.c hR hi2)) dX4_placeOf_29 rfl mC_X1_isThere mM_X4_189 mI_X1_isThere mV_X1_isThere mN_X1 yd_X1_isThere rfl rfl ⟨Nat.le_of_ble_eq_true rfl, Nat.le_of_ble_eq_true rfl⟩ (HR.c hR hi2) rfl rfl rfl rfl (Nat.le_of_ble_eq_true rfl) ⟨Nat.le_of_ble_eq_true rfl, Nat.le_of_ble_eq_true rfl⟩ (fun _ _ _ q => False.elim q) (fun r w1 sz1 hz hP => ?_)
        obtain ⟨rfl, rfl, rfl⟩ := hP
        refine x_st (st1 := [.int (bi (cThere (row x i)))]) rfl ?_
        refine x_if_eq 47 35 C0 dX4_placeOf_32 rfl (by decide) (fun c2 => ?_) (fun c2 => ?_)
        · have c2 := bi_yes c2
          refine x_iinc [(5, .int (nI (i + 1))), (0, .ref h), (1, .ref (h + 3 + k)), (2, .int (placeN x k i)), (3, .ref (h + 2)), (4, .int 20), (6, .ref (h + 3 + i))] 5 50 C0 dX4_placeOf_47 rfl rfl (nI_1 i) (by decide) rfl ?_
          refine x_lv (lv1 := [(0, .ref h), (1, .ref (h + 3 + k)), (2, .int (placeN x k i)), (3, .ref (h + 2)), (4, .int 20), (5, .int (nI (i + 1))), (6, .ref (h + 3 + i))]) [1, 2, 3, 4, 5, 0, 6] rfl ?_
          refine x_goto 14 C0 dX4_placeOf_50 (by decide) ?_
          have q9 := ih (i + 1) (by omega) (by omega)
          rw [show placeN x k (i + 1) = placeN x k i from by simp [placeN, hFold, c2]] at q9
          exact x_lv [0, 1, 2, 3, 4, 5] rfl q9
        · have c2 := bi_no c2
          refine x_aload 6 37 C0 dX4_placeOf_35 rfl rfl ?_
          refine x_aload_n 1 38 C0 dX4_placeOf_37 rfl rfl rfl ?_
          refine x_callV 41 C0 (k_X1_ranksBefore l hl g _ _ _ _ _ _ (HR.c hR hi2) _ _ _ _ (HR.c hR hk)) dX4_placeOf_38 rfl mC_X1_ranksBefore mM_X4_196 mI_X1_ranksBefore mV_X1_ranksBefore mN_X1 yd_X1_ranksBefore rfl rfl ⟨Nat.le_of_ble_eq_true rfl, Nat.le_of_ble_eq_true rfl⟩ (HR.c hR hi2) rfl rfl rfl rfl (Nat.le_of_ble_eq_true rfl) ⟨Nat.le_of_ble_eq_true rfl, Nat.le_of_ble_eq_true rfl⟩ (fun _ _ _ q => False.elim q) (fun r w1 sz1 hz hP => ?_)
          obtain ⟨rfl, rfl, rfl⟩ := hP
          refine x_st (st1 := [.int (bi (cBefore (nI i) (row x i) (nI k) (row x k)))]) rfl ?_
          refine x_if_eq 47 44 C0 dX4_placeOf_41 rfl (by decide) (fun c3 => ?_) (fun c3 => ?_)
          · have c3 := bi_yes c3
            refine x_iinc [(5, .int (nI (i + 1))), (0, .ref h), (1, .ref (h + 3 + k)), (2, .int (placeN x k i)), (3, .ref (h + 2)), (4, .int 20), (6, .ref (h + 3 + i))] 5 50 C0 dX4_placeOf_47 rfl rfl (nI_1 i) (by decide) rfl ?_
            refine x_lv (lv1 := [(0, .ref h), (1, .ref (h + 3 + k)), (2, .int (placeN x k i)), (3, .ref (h + 2)), (4, .int 20), (5, .int (nI (i + 1))), (6, .ref (h + 3 + i))]) [1, 2, 3, 4, 5, 0, 6] rfl ?_
            refine x_goto 14 C0 dX4_placeOf_50 (by decide) ?_
            have q9 := ih (i + 1) (by omega) (by omega)
            rw [show placeN x k (i + 1) = placeN x k i from by simp [placeN, hFold, c2, c3]] at q9
            exact x_lv [0, 1, 2, 3, 4, 5] rfl q9
          · have c3 := bi_no c3
            refine x_iinc [(2, .int ((placeN x k i) + 1)), (0, .ref h), (1, .ref (h + 3 + k)), (3, .ref (h + 2)), (4, .int 20), (5, .int (nI i)), (6, .ref (h + 3 + i))] 2 47 C0 dX4_placeOf_44 rfl rfl rfl (by decide) rfl ?_
            refine x_lv (lv1 := [(0, .ref h), (1, .ref (h + 3 + k)), (2, .int ((placeN x k i) + 1)), (3, .ref (h + 2)), (4, .int 20), (5, .int (nI i)), (6, .ref (h + 3 + i))]) [1, 2, 0, 3, 4, 5, 6] rfl ?_
            refine x_iinc [(5, .int (nI (i + 1))), (0, .ref h), (1, .ref (h + 3 + k)), (2, .int ((placeN x k i) + 1)), (3, .ref (h + 2)), (4, .int 20), (6, .ref (h + 3 + i))] 5 50 C0 dX4_placeOf_47 rfl rfl (nI_1 i) (by decide) rfl ?_
            refine x_lv (lv1 := [(0, .ref h), (1, .ref (h + 3 + k)), (2, .int ((placeN x k i) + 1)), (3, .ref (h + 2)), (4, .int 20), (5, .int (nI (i + 1))), (6, .ref (h + 3 + i))]) [1, 2, 3, 4, 5, 0, 6] rfl ?_
            refine x_goto 14 C0 dX4_placeOf_50 (by decide) ?_
            have q9 := ih (i + 1) (by omega) (by omega)
            rw [show placeN x k (i + 1) = (placeN x k i) + 1 from by simp [placeN, hFold, c2, c3]] at q9
            exact x_lv [0, 1, 2, 3, 4, 5] rfl q9
  exact x_lv [0, 1, 2, 3, 4, 5] rfl (loop14 21 0 (by omega) (by omega))

/-- the chest at a place of the ranking, the first one of those ahead of n; -1 where none is -/
def isPl (x : Nat → Int32) (pl : Int32) (n : Nat) : Bool := cThere (row x n) && decide (placeN x n 20 = pl)
def firstN (x : Nat → Int32) (pl : Int32) : Nat → Nat → Int32
  | 0, _ => -1
  | n + 1, i => if isPl x pl i = true then nI i else firstN x pl n (i + 1)
theorem firstN_no {x : Nat → Int32} {pl : Int32} {i : Nat} (hi : i < 20) (h : isPl x pl i = false) : firstN x pl (20 - i) i = firstN x pl (20 - (i + 1)) (i + 1) := by
  rw [show 20 - i = (20 - (i + 1)) + 1 by omega, firstN, if_neg (by rw [h]; decide)]
theorem firstN_yes {x : Nat → Int32} {pl : Int32} {i : Nat} (hi : i < 20) (h : isPl x pl i = true) : firstN x pl (20 - i) i = nI i := by
  rw [show 20 - i = (20 - (i + 1)) + 1 by omega, firstN, if_pos h]
set_option maxHeartbeats 4000000 in
set_option maxRecDepth 100000 in
theorem k_X4_chestAtPlace (l : Launch) (hl : l.stackTraces = false) (g : xg_T) (w : xw_T) (sz : Nat) (h : Nat) (x : Nat → Int32) (la : Nat → Nat) (hR : HR g w h x la) (pl : Int32) : xM l g yX4_chestAtPlace cX4_chestAtPlace 6 (some .int) ({ frames := 3, cells := 0, slots := 0, locals := 67 }) 0 0 [.ref h, .int pl] w sz (fun r w1 sz1 => r = some (.int (firstN x pl 20 0)) ∧ w = w1 ∧ sz = sz1) (fun _ _ _ => False) := by
  refine xM.of RX4 hl (by decide +kernel) rfl (Nat.le_of_ble_eq_true rfl) rfl ?_
  intro p e s m args below meth cD C0 hini
  refine x_aload_n 0 1 C0 dX4_chestAtPlace_0 rfl rfl rfl ?_
  refine x_getf (v := .ref (h + 2)) 1 4 C0 dX4_chestAtPlace_1 rfl (HR.ho hR) rfl (by decide) inX4 mF_X4_21 rfl ?_
  refine x_astore_n [(2, .ref (h + 2)), (0, .ref h), (1, .int pl)] 5 C0 dX4_chestAtPlace_4 rfl rfl (by decide) rfl ?_
  refine x_lv (lv1 := [(0, .ref h), (1, .int pl), (2, .ref (h + 2))]) [1, 2, 0] rfl ?_
  refine x_aload_n 2 6 C0 dX4_chestAtPlace_5 rfl rfl rfl ?_
  refine x_alen 5 7 C0 (v := 20) dX4_chestAtPlace_6 rfl (HR.cs hR) rfl rfl ?_
  refine x_istore_n [(3, .int 20), (0, .ref h), (1, .int pl), (2, .ref (h + 2))] 8 C0 dX4_chestAtPlace_7 rfl rfl (by decide) rfl ?_
  refine x_lv (lv1 := [(0, .ref h), (1, .int pl), (2, .ref (h + 2)), (3, .int 20)]) [1, 2, 3, 0] rfl ?_
  refine x_iconst (v := 0) 9 C0 dX4_chestAtPlace_8 rfl (by decide) ?_
  refine x_istore [(4, .int 0), (0, .ref h), (1, .int pl), (2, .ref (h + 2)), (3, .int 20)] 11 C0 dX4_chestAtPlace_9 rfl (by decide) rfl ?_
  refine x_lv (lv1 := [(0, .ref h), (1, .int pl), (2, .ref (h + 2)), (3, .int 20), (4, .int 0)]) [1, 2, 3, 4, 0] rfl ?_
  have loop11 : ∀ (N i : Nat), i ≤ 20 → 20 - i < N → firstN x pl (20 - i) i = firstN x pl 20 0 → xV p l e ({ frames := 3, cells := 0, slots := 0, locals := 67 }) s m args below meth cD (xQ g below (fun r w1 sz1 => r = some (.int (firstN x pl 20 0)) ∧ w = w1 ∧ sz = sz1) (fun _ _ _ => False) args s 0 0) g 6 w sz (0) (0) 11 [(0, .ref h), (1, .int pl), (2, .ref (h + 2)), (3, .int 20), (4, .int (nI i))] [] := by
    intro N
    induction N with
    | zero => intro i h1 h2; omega
    | succ N ih =>
      intro i hi hN hF
      refine x_iload 4 13 C0 dX4_chestAtPlace_11 rfl rfl ?_
      refine x_iload_n 3 14 C0 dX4_chestAtPlace_13 rfl rfl rfl ?_
      refine x_icmp_ge 53 17 C0 dX4_chestAtPlace_14 rfl (by decide) (fun c1 => ?_) (fun c1 => ?_)
      · have hI := ix_eq 20 rfl (by decide) hi c1
        subst hI
        refine x_iconst (v := (-1)) 54 C0 dX4_chestAtPlace_53 rfl (by decide) ?_
        exact x_ireturn C0 dX4_chestAtPlace_54 rfl rfl (Nat.le_of_ble_eq_true rfl) (Nat.le_of_ble_eq_true rfl) ⟨by rw [← hF]; rfl, rfl, rfl⟩
      · have hi2 := ix_lt 20 rfl (by decide) hi c1
        refine x_aload_n 2 18 C0 dX4_chestAtPlace_17 rfl rfl rfl ?_
        refine x_iload 4 20 C0 dX4_chestAtPlace_18 rfl rfl ?_
        refine x_aald 5 21 C0 dX4_chestAtPlace_20 rfl (HR.cs hR) rfl (vp_in_nI hi2 (by decide)) ?_
        refine x_st (st1 := [.ref (h + 3 + i)]) (congrArg (· :: _) (chRef hi2)) ?_
        refine x_astore [(5, .ref (h + 3 + i)), (0, .ref h), (1, .int pl), (2, .ref (h + 2)), (3, .int 20), (4, .int (nI i))] 23 C0 dX4_chestAtPlace_21 rfl (by decide) rfl ?_
        refine x_lv (lv1 := [(0, .ref h), (1, .int pl), (2, .ref (h + 2)), (3, .int 20), (4, .int (nI i)), (5, .ref (h + 3 + i))]) [1, 2, 3, 4, 5, 0] rfl ?_
        refine x_aload 5 25 C0 dX4_chestAtPlace_23 rfl rfl ?_
        refine x_callV 28 C0 (k_X1_isThere l hl g _ _ _ _ _ _ (HR.c hR hi2)) dX4_chestAtPlace_25 rfl mC_X1_isThere mM_X4_189 mI_X1_isThere mV_X1_isThere mN_X1 yd_X1_isThere rfl rfl ⟨Nat.le_of_ble_eq_true rfl, Nat.le_of_ble_eq_true rfl⟩ (HR.c hR hi2) rfl rfl rfl rfl (Nat.le_of_ble_eq_true rfl) ⟨Nat.le_of_ble_eq_true rfl, Nat.le_of_ble_eq_true rfl⟩ (fun _ _ _ q => False.elim q) (fun r w1 sz1 hz hP => ?_)
        obtain ⟨rfl, rfl, rfl⟩ := hP
        refine x_st (st1 := [.int (bi (cThere (row x i)))]) rfl ?_
        refine x_if_eq 47 31 C0 dX4_chestAtPlace_28 rfl (by decide) (fun c2 => ?_) (fun c2 => ?_)
        · have c2 := bi_yes c2
          refine x_iinc [(4, .int (nI (i + 1))), (0, .ref h), (1, .int pl), (2, .ref (h + 2)), (3, .int 20), (5, .ref (h + 3 + i))] 4 50 C0 dX4_chestAtPlace_47 rfl rfl (nI_1 i) (by decide) rfl ?_
          refine x_lv (lv1 := [(0, .ref h), (1, .int pl), (2, .ref (h + 2)), (3, .int 20), (4, .int (nI (i + 1))), (5, .ref (h + 3 + i))]) [1, 2, 3, 4, 0, 5] rfl ?_
          refine x_goto 11 C0 dX4_chestAtPlace_50 (by decide) ?_
          have e9 : isPl x pl i = false := by simp [isPl, c2]
          have q9 := ih (i + 1) (by omega) (by omega) (by rw [← hF, firstN_no hi2 e9])
          exact x_lv [0, 1, 2, 3, 4] rfl q9
        · have c2 := bi_no c2
          refine x_aload_n 0 32 C0 dX4_chestAtPlace_31 rfl rfl rfl ?_
          refine x_aload 5 34 C0 dX4_chestAtPlace_32 rfl rfl ?_
          refine x_callV 37 C0 (k_X4_placeOf l hl g _ _ _ _ _ hR i hi2) dX4_chestAtPlace_34 rfl mC_X4_placeOf mM_X4_192 mI_X4_placeOf mV_X4_placeOf mN_X4 yd_X4_placeOf rfl rfl ⟨Nat.le_of_ble_eq_true rfl, Nat.le_of_ble_eq_true rfl⟩ (HR.ho hR) rfl rfl rfl rfl (Nat.le_of_ble_eq_true rfl) ⟨Nat.le_of_ble_eq_true rfl, Nat.le_of_ble_eq_true rfl⟩ (fun _ _ _ q => False.elim q) (fun r w1 sz1 hz hP => ?_)
          obtain ⟨rfl, rfl, rfl⟩ := hP
          refine x_st (st1 := [.int (placeN x i 20)]) rfl ?_
          refine x_iload_n 1 38 C0 dX4_chestAtPlace_37 rfl rfl rfl ?_
          refine x_icmp_ne 47 41 C0 dX4_chestAtPlace_38 rfl (by decide) (fun c3 => ?_) (fun c3 => ?_)
          · refine x_iinc [(4, .int (nI (i + 1))), (0, .ref h), (1, .int pl), (2, .ref (h + 2)), (3, .int 20), (5, .ref (h + 3 + i))] 4 50 C0 dX4_chestAtPlace_47 rfl rfl (nI_1 i) (by decide) rfl ?_
            refine x_lv (lv1 := [(0, .ref h), (1, .int pl), (2, .ref (h + 2)), (3, .int 20), (4, .int (nI (i + 1))), (5, .ref (h + 3 + i))]) [1, 2, 3, 4, 0, 5] rfl ?_
            refine x_goto 11 C0 dX4_chestAtPlace_50 (by decide) ?_
            have e9 : isPl x pl i = false := by simp [isPl, c2, c3]
            have q9 := ih (i + 1) (by omega) (by omega) (by rw [← hF, firstN_no hi2 e9])
            exact x_lv [0, 1, 2, 3, 4] rfl q9
          · refine x_aload 5 43 C0 dX4_chestAtPlace_41 rfl rfl ?_
            refine x_getf (v := .int (nI i)) 0 46 C0 dX4_chestAtPlace_43 rfl (HR.c hR hi2) rfl (by decide) inX1 mF_X4_123 rfl ?_
            exact x_ireturn C0 dX4_chestAtPlace_46 rfl rfl (Nat.le_of_ble_eq_true rfl) (Nat.le_of_ble_eq_true rfl) ⟨by rw [← hF, firstN_yes hi2 (by simp [isPl, c2, c3])], rfl, rfl⟩
  exact x_lv [0, 1, 2, 3, 4] rfl (loop11 21 0 (by omega) (by omega) rfl)

