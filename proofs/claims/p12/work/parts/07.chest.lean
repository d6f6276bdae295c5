/-! A CHEST: its numbers f (0 size, 1 garden, 2 kind, 3 pounds, 4 lined, 5 screws, 6 damp, 7 where) and its label -/
def bi (b : Bool) : Int32 := if b then 1 else 0
theorem bi_yes {b : Bool} (h : bi b = 0) : b = false := by cases b with | false => rfl | true => exact absurd h (by decide)
theorem bi_no {b : Bool} (h : ¬ bi b = 0) : b = true := by cases b with | true => rfl | false => exact absurd rfl h
def cRoom (f : Nat → Int32) : Int32 := 10 * f 0 - f 3
def cThere (f : Nat → Int32) : Bool := decide (¬ f 7 = -1 ∧ ¬ f 7 = 3)
def cTight (f : Nat → Int32) : Bool := decide (¬ f 4 = 0 ∧ f 0 + 2 ≤ f 5)
def cCoins (f : Nat → Int32) : Int32 := f 3 * (f 2 + 1) - f 3 * f 6 / 20
def cBefore (n1 : Int32) (f1 : Nat → Int32) (n2 : Int32) (f2 : Nat → Int32) : Bool := if ¬ cCoins f1 = cCoins f2 then decide (cCoins f2 < cCoins f1) else if ¬ f1 6 = f2 6 then decide (f1 6 < f2 6) else decide (n1 < n2)
def cDamper (f : Nat → Int32) : Nat → Int32 := if f 7 = 0 ∧ 0 < f 3 ∧ cTight f = false ∧ f 6 < 20 then upd f 6 (f 6 + 1) else f
def cPut (f : Nat → Int32) (ga ki po : Int32) : Nat → Int32 := upd (upd (upd f 1 ga) 2 ki) 3 (f 3 + po)
def cOut (f : Nat → Int32) : Nat → Int32 := upd (upd (upd (upd f 1 (-1)) 2 (-1)) 3 0) 6 0
set_option maxHeartbeats 4000000 in
set_option maxRecDepth 100000 in
theorem k_X1_room (l : Launch) (hl : l.stackTraces = false) (g : xg_T) (w : xw_T) (sz : Nat) (h0 : Nat) (num : Int32) (f : Nat → Int32) (la : Nat) (hw : w h0 = some (.inr (3, chestE num f la))) : xM l g yX1_room cX1_room 1 (some .int) ({ frames := 0, cells := 0, slots := 0, locals := 0 }) 0 0 [.ref h0] w sz (fun r w1 sz1 => r = some (.int (cRoom f)) ∧ w = w1 ∧ sz = sz1) (fun _ _ _ => False) := by
  refine xM.of RX1 hl (by decide +kernel) rfl (Nat.le_of_ble_eq_true rfl) rfl ?_
  intro p e s m args below meth cD C0 hini
  refine x_bipush (v := 10) 2 C0 dX1_room_0 rfl (by decide) ?_
  refine x_aload_n 0 3 C0 dX1_room_2 rfl rfl rfl ?_
  refine x_getf (v := .int (f 0)) 1 6 C0 dX1_room_3 rfl hw rfl (by decide) inX1 mF_X1_30 rfl ?_
  refine x_imul 7 C0 dX1_room_6 rfl ?_
  refine x_aload_n 0 8 C0 dX1_room_7 rfl rfl rfl ?_
  refine x_getf (v := .int (f 3)) 4 11 C0 dX1_room_8 rfl hw rfl (by decide) inX1 mF_X1_33 rfl ?_
  refine x_isub 12 C0 dX1_room_11 rfl ?_
  exact x_ireturn C0 dX1_room_12 rfl rfl (Nat.le_of_ble_eq_true rfl) (Nat.le_of_ble_eq_true rfl) ⟨rfl, rfl, rfl⟩

set_option maxHeartbeats 4000000 in
set_option maxRecDepth 100000 in
theorem k_X1_isThere (l : Launch) (hl : l.stackTraces = false) (g : xg_T) (w : xw_T) (sz : Nat) (h0 : Nat) (num : Int32) (f : Nat → Int32) (la : Nat) (hw : w h0 = some (.inr (3, chestE num f la))) : xM l g yX1_isThere cX1_isThere 1 (some .boolean) ({ frames := 0, cells := 0, slots := 0, locals := 0 }) 0 0 [.ref h0] w sz (fun r w1 sz1 => r = some (.int (bi (cThere f))) ∧ w = w1 ∧ sz = sz1) (fun _ _ _ => False) := by
  refine xM.of RX1 hl (by decide +kernel) rfl (Nat.le_of_ble_eq_true rfl) rfl ?_
  intro p e s m args below meth cD C0 hini
  refine x_aload_n 0 1 C0 dX1_isThere_0 rfl rfl rfl ?_
  refine x_getf (v := .int (f 7)) 8 4 C0 dX1_isThere_1 rfl hw rfl (by decide) inX1 mF_X1_18 rfl ?_
  refine x_iconst (v := (-1)) 5 C0 dX1_isThere_4 rfl (by decide) ?_
  refine x_icmp_eq 20 8 C0 dX1_isThere_5 rfl (by decide) (fun c1 => ?_) (fun c1 => ?_)
  · refine x_iconst (v := 0) 21 C0 dX1_isThere_20 rfl (by decide) ?_
    exact x_ireturn C0 dX1_isThere_21 rfl rfl (Nat.le_of_ble_eq_true rfl) (Nat.le_of_ble_eq_true rfl) (by refine ⟨?_, rfl, rfl⟩; simp_all [bi, cThere])
  · refine x_aload_n 0 9 C0 dX1_isThere_8 rfl rfl rfl ?_
    refine x_getf (v := .int (f 7)) 8 12 C0 dX1_isThere_9 rfl hw rfl (by decide) inX1 mF_X1_18 rfl ?_
    refine x_iconst (v := 3) 13 C0 dX1_isThere_12 rfl (by decide) ?_
    refine x_icmp_eq 20 16 C0 dX1_isThere_13 rfl (by decide) (fun c2 => ?_) (fun c2 => ?_)
    · refine x_iconst (v := 0) 21 C0 dX1_isThere_20 rfl (by decide) ?_
      exact x_ireturn C0 dX1_isThere_21 rfl rfl (Nat.le_of_ble_eq_true rfl) (Nat.le_of_ble_eq_true rfl) (by refine ⟨?_, rfl, rfl⟩; simp_all [bi, cThere])
    · refine x_iconst (v := 1) 17 C0 dX1_isThere_16 rfl (by decide) ?_
      refine x_goto 21 C0 dX1_isThere_17 (by decide) ?_
      exact x_ireturn C0 dX1_isThere_21 rfl rfl (Nat.le_of_ble_eq_true rfl) (Nat.le_of_ble_eq_true rfl) (by refine ⟨?_, rfl, rfl⟩; simp_all [bi, cThere])

set_option maxHeartbeats 4000000 in
set_option maxRecDepth 100000 in
theorem k_X1_isTight (l : Launch) (hl : l.stackTraces = false) (g : xg_T) (w : xw_T) (sz : Nat) (h0 : Nat) (num : Int32) (f : Nat → Int32) (la : Nat) (hw : w h0 = some (.inr (3, chestE num f la))) : xM l g yX1_isTight cX1_isTight 1 (some .boolean) ({ frames := 0, cells := 0, slots := 0, locals := 0 }) 0 0 [.ref h0] w sz (fun r w1 sz1 => r = some (.int (bi (cTight f))) ∧ w = w1 ∧ sz = sz1) (fun _ _ _ => False) := by
  refine xM.of RX1 hl (by decide +kernel) rfl (Nat.le_of_ble_eq_true rfl) rfl ?_
  intro p e s m args below meth cD C0 hini
  refine x_aload_n 0 1 C0 dX1_isTight_0 rfl rfl rfl ?_
  refine x_getf (v := .int (f 4)) 5 4 C0 dX1_isTight_1 rfl hw rfl (by decide) inX1 mF_X1_36 rfl ?_
  refine x_if_eq 24 7 C0 dX1_isTight_4 rfl (by decide) (fun c1 => ?_) (fun c1 => ?_)
  · refine x_iconst (v := 0) 25 C0 dX1_isTight_24 rfl (by decide) ?_
    exact x_ireturn C0 dX1_isTight_25 rfl rfl (Nat.le_of_ble_eq_true rfl) (Nat.le_of_ble_eq_true rfl) (by refine ⟨?_, rfl, rfl⟩; simp_all [bi, cTight])
  · refine x_aload_n 0 8 C0 dX1_isTight_7 rfl rfl rfl ?_
    refine x_getf (v := .int (f 5)) 6 11 C0 dX1_isTight_8 rfl hw rfl (by decide) inX1 mF_X1_40 rfl ?_
    refine x_aload_n 0 12 C0 dX1_isTight_11 rfl rfl rfl ?_
    refine x_getf (v := .int (f 0)) 1 15 C0 dX1_isTight_12 rfl hw rfl (by decide) inX1 mF_X1_30 rfl ?_
    refine x_iconst (v := 2) 16 C0 dX1_isTight_15 rfl (by decide) ?_
    refine x_iadd 17 C0 dX1_isTight_16 rfl ?_
    refine x_icmp_lt 24 20 C0 dX1_isTight_17 rfl (by decide) (fun c2 => ?_) (fun c2 => ?_)
    · have c2' := Int32.not_le.mpr c2
      refine x_iconst (v := 0) 25 C0 dX1_isTight_24 rfl (by decide) ?_
      exact x_ireturn C0 dX1_isTight_25 rfl rfl (Nat.le_of_ble_eq_true rfl) (Nat.le_of_ble_eq_true rfl) (by refine ⟨?_, rfl, rfl⟩; simp_all [bi, cTight])
    · have c2' := Int32.not_lt.mp c2
      refine x_iconst (v := 1) 21 C0 dX1_isTight_20 rfl (by decide) ?_
      refine x_goto 25 C0 dX1_isTight_21 (by decide) ?_
      exact x_ireturn C0 dX1_isTight_25 rfl rfl (Nat.le_of_ble_eq_true rfl) (Nat.le_of_ble_eq_true rfl) (by refine ⟨?_, rfl, rfl⟩; simp_all [bi, cTight])

set_option maxHeartbeats 4000000 in
set_option maxRecDepth 100000 in
theorem k_X1_coins (l : Launch) (hl : l.stackTraces = false) (g : xg_T) (w : xw_T) (sz : Nat) (h0 : Nat) (num : Int32) (f : Nat → Int32) (la : Nat) (hw : w h0 = some (.inr (3, chestE num f la))) : xM l g yX1_coins cX1_coins 1 (some .int) ({ frames := 0, cells := 0, slots := 0, locals := 0 }) 0 0 [.ref h0] w sz (fun r w1 sz1 => r = some (.int (cCoins f)) ∧ w = w1 ∧ sz = sz1) (fun _ _ _ => False) := by
  refine xM.of RX1 hl (by decide +kernel) rfl (Nat.le_of_ble_eq_true rfl) rfl ?_
  intro p e s m args below meth cD C0 hini
  refine x_aload_n 0 1 C0 dX1_coins_0 rfl rfl rfl ?_
  refine x_getf (v := .int (f 3)) 4 4 C0 dX1_coins_1 rfl hw rfl (by decide) inX1 mF_X1_33 rfl ?_
  refine x_aload_n 0 5 C0 dX1_coins_4 rfl rfl rfl ?_
  refine x_getf (v := .int (f 2)) 3 8 C0 dX1_coins_5 rfl hw rfl (by decide) inX1 mF_X1_15 rfl ?_
  refine x_iconst (v := 1) 9 C0 dX1_coins_8 rfl (by decide) ?_
  refine x_iadd 10 C0 dX1_coins_9 rfl ?_
  refine x_imul 11 C0 dX1_coins_10 rfl ?_
  refine x_aload_n 0 12 C0 dX1_coins_11 rfl rfl rfl ?_
  refine x_getf (v := .int (f 3)) 4 15 C0 dX1_coins_12 rfl hw rfl (by decide) inX1 mF_X1_33 rfl ?_
  refine x_aload_n 0 16 C0 dX1_coins_15 rfl rfl rfl ?_
  refine x_getf (v := .int (f 6)) 7 19 C0 dX1_coins_16 rfl hw rfl (by decide) inX1 mF_X1_43 rfl ?_
  refine x_imul 20 C0 dX1_coins_19 rfl ?_
  refine x_bipush (v := 20) 22 C0 dX1_coins_20 rfl (by decide) ?_
  refine x_idiv 23 C0 dX1_coins_22 rfl (by decide) ?_
  refine x_isub 24 C0 dX1_coins_23 rfl ?_
  exact x_ireturn C0 dX1_coins_24 rfl rfl (Nat.le_of_ble_eq_true rfl) (Nat.le_of_ble_eq_true rfl) ⟨rfl, rfl, rfl⟩

set_option maxHeartbeats 4000000 in
set_option maxRecDepth 100000 in
theorem k_X1_ranksBefore (l : Launch) (hl : l.stackTraces = false) (g : xg_T) (w : xw_T) (sz : Nat) (h0 : Nat) (num : Int32) (f : Nat → Int32) (la : Nat) (hw : w h0 = some (.inr (3, chestE num f la))) (b0 : Nat) (num2 : Int32) (f2 : Nat → Int32) (la2 : Nat) (hw2 : w b0 = some (.inr (3, chestE num2 f2 la2))) : xM l g yX1_ranksBefore cX1_ranksBefore 2 (some .boolean) ({ frames := 1, cells := 0, slots := 0, locals := 20 }) 0 0 [.ref h0, .ref b0] w sz (fun r w1 sz1 => r = some (.int (bi (cBefore num f num2 f2))) ∧ w = w1 ∧ sz = sz1) (fun _ _ _ => False) := by
  refine xM.of RX1 hl (by decide +kernel) rfl (Nat.le_of_ble_eq_true rfl) rfl ?_
  intro p e s m args below meth cD C0 hini
  refine x_aload_n 0 1 C0 dX1_ranksBefore_0 rfl rfl rfl ?_
  refine x_callV 4 C0 (k_X1_coins l hl g _ _ _ _ _ _ hw) dX1_ranksBefore_1 rfl mC_X1_coins mM_X1_83 mI_X1_coins mV_X1_coins mN_X1 yd_X1_coins rfl rfl ⟨Nat.le_of_ble_eq_true rfl, Nat.le_of_ble_eq_true rfl⟩ hw rfl rfl rfl rfl (Nat.le_of_ble_eq_true rfl) ⟨Nat.le_of_ble_eq_true rfl, Nat.le_of_ble_eq_true rfl⟩ (fun _ _ _ q => False.elim q) (fun r w1 sz1 hz hP => ?_)
  obtain ⟨rfl, rfl, rfl⟩ := hP
  refine x_st (st1 := [.int (cCoins f)]) rfl ?_
  refine x_aload_n 1 5 C0 dX1_ranksBefore_4 rfl rfl rfl ?_
  refine x_callV 8 C0 (k_X1_coins l hl g _ _ _ _ _ _ hw2) dX1_ranksBefore_5 rfl mC_X1_coins mM_X1_83 mI_X1_coins mV_X1_coins mN_X1 yd_X1_coins rfl rfl ⟨Nat.le_of_ble_eq_true rfl, Nat.le_of_ble_eq_true rfl⟩ hw2 rfl rfl rfl rfl (Nat.le_of_ble_eq_true rfl) ⟨Nat.le_of_ble_eq_true rfl, Nat.le_of_ble_eq_true rfl⟩ (fun _ _ _ q => False.elim q) (fun r w1 sz1 hz hP => ?_)
  obtain ⟨rfl, rfl, rfl⟩ := hP
  refine x_st (st1 := [.int (cCoins f2), .int (cCoins f)]) rfl ?_
  refine x_icmp_eq 28 11 C0 dX1_ranksBefore_8 rfl (by decide) (fun c1 => ?_) (fun c1 => ?_)
  · refine x_aload_n 0 29 C0 dX1_ranksBefore_28 rfl rfl rfl ?_
    refine x_getf (v := .int (f 6)) 7 32 C0 dX1_ranksBefore_29 rfl hw rfl (by decide) inX1 mF_X1_43 rfl ?_
    refine x_aload_n 1 33 C0 dX1_ranksBefore_32 rfl rfl rfl ?_
    refine x_getf (v := .int (f2 6)) 7 36 C0 dX1_ranksBefore_33 rfl hw2 rfl (by decide) inX1 mF_X1_43 rfl ?_
    refine x_icmp_eq 56 39 C0 dX1_ranksBefore_36 rfl (by decide) (fun c2 => ?_) (fun c2 => ?_)
    · refine x_aload_n 0 57 C0 dX1_ranksBefore_56 rfl rfl rfl ?_
      refine x_getf (v := .int num) 0 60 C0 dX1_ranksBefore_57 rfl hw rfl (by decide) inX1 mF_X1_27 rfl ?_
      refine x_aload_n 1 61 C0 dX1_ranksBefore_60 rfl rfl rfl ?_
      refine x_getf (v := .int num2) 0 64 C0 dX1_ranksBefore_61 rfl hw2 rfl (by decide) inX1 mF_X1_27 rfl ?_
      refine x_icmp_ge 71 67 C0 dX1_ranksBefore_64 rfl (by decide) (fun c3 => ?_) (fun c3 => ?_)
      · have c3' := Int32.not_lt.mpr c3
        refine x_iconst (v := 0) 72 C0 dX1_ranksBefore_71 rfl (by decide) ?_
        exact x_ireturn C0 dX1_ranksBefore_72 rfl rfl (Nat.le_of_ble_eq_true rfl) (Nat.le_of_ble_eq_true rfl) (by refine ⟨?_, rfl, rfl⟩; simp_all [bi, cBefore])
      · have c3' := Int32.not_le.mp c3
        refine x_iconst (v := 1) 68 C0 dX1_ranksBefore_67 rfl (by decide) ?_
        refine x_goto 72 C0 dX1_ranksBefore_68 (by decide) ?_
        exact x_ireturn C0 dX1_ranksBefore_72 rfl rfl (Nat.le_of_ble_eq_true rfl) (Nat.le_of_ble_eq_true rfl) (by refine ⟨?_, rfl, rfl⟩; simp_all [bi, cBefore])
    · refine x_aload_n 0 40 C0 dX1_ranksBefore_39 rfl rfl rfl ?_
      refine x_getf (v := .int (f 6)) 7 43 C0 dX1_ranksBefore_40 rfl hw rfl (by decide) inX1 mF_X1_43 rfl ?_
      refine x_aload_n 1 44 C0 dX1_ranksBefore_43 rfl rfl rfl ?_
      refine x_getf (v := .int (f2 6)) 7 47 C0 dX1_ranksBefore_44 rfl hw2 rfl (by decide) inX1 mF_X1_43 rfl ?_
      refine x_icmp_ge 54 50 C0 dX1_ranksBefore_47 rfl (by decide) (fun c4 => ?_) (fun c4 => ?_)
      · have c4' := Int32.not_lt.mpr c4
        refine x_iconst (v := 0) 55 C0 dX1_ranksBefore_54 rfl (by decide) ?_
        exact x_ireturn C0 dX1_ranksBefore_55 rfl rfl (Nat.le_of_ble_eq_true rfl) (Nat.le_of_ble_eq_true rfl) (by refine ⟨?_, rfl, rfl⟩; simp_all [bi, cBefore])
      · have c4' := Int32.not_le.mp c4
        refine x_iconst (v := 1) 51 C0 dX1_ranksBefore_50 rfl (by decide) ?_
        refine x_goto 55 C0 dX1_ranksBefore_51 (by decide) ?_
        exact x_ireturn C0 dX1_ranksBefore_55 rfl rfl (Nat.le_of_ble_eq_true rfl) (Nat.le_of_ble_eq_true rfl) (by refine ⟨?_, rfl, rfl⟩; simp_all [bi, cBefore])
  · refine x_aload_n 0 12 C0 dX1_ranksBefore_11 rfl rfl rfl ?_
    refine x_callV 15 C0 (k_X1_coins l hl g _ _ _ _ _ _ hw) dX1_ranksBefore_12 rfl mC_X1_coins mM_X1_83 mI_X1_coins mV_X1_coins mN_X1 yd_X1_coins rfl rfl ⟨Nat.le_of_ble_eq_true rfl, Nat.le_of_ble_eq_true rfl⟩ hw rfl rfl rfl rfl (Nat.le_of_ble_eq_true rfl) ⟨Nat.le_of_ble_eq_true rfl, Nat.le_of_ble_eq_true rfl⟩ (fun _ _ _ q => False.elim q) (fun r w1 sz1 hz hP => ?_)
    obtain ⟨rfl, rfl, rfl⟩ := hP
    refine x_st (st1 := [.int (cCoins f)]) rfl ?_
    refine x_aload_n 1 16 C0 dX1_ranksBefore_15 rfl rfl rfl ?_
    refine x_callV 19 C0 (k_X1_coins l hl g _ _ _ _ _ _ hw2) dX1_ranksBefore_16 rfl mC_X1_coins mM_X1_83 mI_X1_coins mV_X1_coins mN_X1 yd_X1_coins rfl rfl ⟨Nat.le_of_ble_eq_true rfl, Nat.le_of_ble_eq_true rfl⟩ hw2 rfl rfl rfl rfl (Nat.le_of_ble_eq_true rfl) ⟨Nat.le_of_ble_eq_true rfl, Nat.le_of_ble_eq_true rfl⟩ (fun _ _ _ q => False.elim q) (fun r w1 sz1 hz hP => ?_)
    obtain ⟨rfl, rfl, rfl⟩ := hP
    refine x_st (st1 := [.int (cCoins f2), .int (cCoins f)]) rfl ?_
    refine x_icmp_le 26 22 C0 dX1_ranksBefore_19 rfl (by decide) (fun c5 => ?_) (fun c5 => ?_)
    · have c5' := Int32.not_lt.mpr c5
      refine x_iconst (v := 0) 27 C0 dX1_ranksBefore_26 rfl (by decide) ?_
      exact x_ireturn C0 dX1_ranksBefore_27 rfl rfl (Nat.le_of_ble_eq_true rfl) (Nat.le_of_ble_eq_true rfl) (by refine ⟨?_, rfl, rfl⟩; simp_all [bi, cBefore])
    · have c5' := Int32.not_le.mp c5
      refine x_iconst (v := 1) 23 C0 dX1_ranksBefore_22 rfl (by decide) ?_
      refine x_goto 27 C0 dX1_ranksBefore_23 (by decide) ?_
      exact x_ireturn C0 dX1_ranksBefore_27 rfl rfl (Nat.le_of_ble_eq_true rfl) (Nat.le_of_ble_eq_true rfl) (by refine ⟨?_, rfl, rfl⟩; simp_all [bi, cBefore])

set_option maxHeartbeats 4000000 in
set_option maxRecDepth 100000 in
theorem k_X1_becomeDamper (l : Launch) (hl : l.stackTraces = false) (g : xg_T) (w : xw_T) (sz : Nat) (h0 : Nat) (num : Int32) (f : Nat → Int32) (la : Nat) (hw : w h0 = some (.inr (3, chestE num f la))) (hA : xA g h0) : xM l g yX1_becomeDamper cX1_becomeDamper 1 none ({ frames := 1, cells := 0, slots := 0, locals := 20 }) 0 0 [.ref h0] w sz (fun r w1 sz1 => r = none ∧ w1 = xup w h0 (.inr (3, chestE num (cDamper f) la)) ∧ sz = sz1) (fun _ _ _ => False) := by
  refine xM.of RX1 hl (by decide +kernel) rfl (Nat.le_of_ble_eq_true rfl) rfl ?_
  intro p e s m args below meth cD C0 hini
  refine x_aload_n 0 1 C0 dX1_becomeDamper_0 rfl rfl rfl ?_
  refine x_getf (v := .int (f 7)) 8 4 C0 dX1_becomeDamper_1 rfl hw rfl (by decide) inX1 mF_X1_18 rfl ?_
  refine x_if_ne 40 7 C0 dX1_becomeDamper_4 rfl (by decide) (fun c1 => ?_) (fun c1 => ?_)
  · exact x_return C0 dX1_becomeDamper_40 rfl (Nat.le_of_ble_eq_true rfl) (Nat.le_of_ble_eq_true rfl) ⟨rfl, by rw [cDamper, if_neg (by rintro ⟨q1, q2, q3, q4⟩; exact absurd q1 c1)]; exact xup_id hw, rfl⟩
  · refine x_aload_n 0 8 C0 dX1_becomeDamper_7 rfl rfl rfl ?_
    refine x_getf (v := .int (f 3)) 4 11 C0 dX1_becomeDamper_8 rfl hw rfl (by decide) inX1 mF_X1_33 rfl ?_
    refine x_if_le 40 14 C0 dX1_becomeDamper_11 rfl (by decide) (fun c2 => ?_) (fun c2 => ?_)
    · have c2' := Int32.not_lt.mpr c2
      exact x_return C0 dX1_becomeDamper_40 rfl (Nat.le_of_ble_eq_true rfl) (Nat.le_of_ble_eq_true rfl) ⟨rfl, by rw [cDamper, if_neg (by rintro ⟨q1, q2, q3, q4⟩; exact absurd q2 c2')]; exact xup_id hw, rfl⟩
    · have c2' := Int32.not_le.mp c2
      refine x_aload_n 0 15 C0 dX1_becomeDamper_14 rfl rfl rfl ?_
      refine x_callV 18 C0 (k_X1_isTight l hl g _ _ _ _ _ _ hw) dX1_becomeDamper_15 rfl mC_X1_isTight mM_X1_80 mI_X1_isTight mV_X1_isTight mN_X1 yd_X1_isTight rfl rfl ⟨Nat.le_of_ble_eq_true rfl, Nat.le_of_ble_eq_true rfl⟩ hw rfl rfl rfl rfl (Nat.le_of_ble_eq_true rfl) ⟨Nat.le_of_ble_eq_true rfl, Nat.le_of_ble_eq_true rfl⟩ (fun _ _ _ q => False.elim q) (fun r w1 sz1 hz hP => ?_)
      obtain ⟨rfl, rfl, rfl⟩ := hP
      refine x_st (st1 := [.int (bi (cTight f))]) rfl ?_
      refine x_if_ne 40 21 C0 dX1_becomeDamper_18 rfl (by decide) (fun c3 => ?_) (fun c3 => ?_)
      · have c3 := bi_no c3
        exact x_return C0 dX1_becomeDamper_40 rfl (Nat.le_of_ble_eq_true rfl) (Nat.le_of_ble_eq_true rfl) ⟨rfl, by rw [cDamper, if_neg (by rintro ⟨q1, q2, q3, q4⟩; exact absurd (c3.symm.trans q3) (by decide))]; exact xup_id hw, rfl⟩
      · have c3 := bi_yes c3
        refine x_aload_n 0 22 C0 dX1_becomeDamper_21 rfl rfl rfl ?_
        refine x_getf (v := .int (f 6)) 7 25 C0 dX1_becomeDamper_22 rfl hw rfl (by decide) inX1 mF_X1_43 rfl ?_
        refine x_bipush (v := 20) 27 C0 dX1_becomeDamper_25 rfl (by decide) ?_
        refine x_icmp_ge 40 30 C0 dX1_becomeDamper_27 rfl (by decide) (fun c4 => ?_) (fun c4 => ?_)
        · have c4' := Int32.not_lt.mpr c4
          exact x_return C0 dX1_becomeDamper_40 rfl (Nat.le_of_ble_eq_true rfl) (Nat.le_of_ble_eq_true rfl) ⟨rfl, by rw [cDamper, if_neg (by rintro ⟨q1, q2, q3, q4⟩; exact absurd q4 c4')]; exact xup_id hw, rfl⟩
        · have c4' := Int32.not_le.mp c4
          refine x_aload_n 0 31 C0 dX1_becomeDamper_30 rfl rfl rfl ?_
          refine x_dup 32 C0 dX1_becomeDamper_31 rfl rfl ?_
          refine x_getf (v := .int (f 6)) 7 35 C0 dX1_becomeDamper_32 rfl hw rfl (by decide) inX1 mF_X1_43 rfl ?_
          refine x_iconst (v := 1) 36 C0 dX1_becomeDamper_35 rfl (by decide) ?_
          refine x_iadd 37 C0 dX1_becomeDamper_36 rfl ?_
          refine x_putf 7 40 C0 dX1_becomeDamper_37 rfl hw hA rfl (by decide) inX1 tyX1_ok nmX1 mF_X1_43 rfl rfl rfl rfl (Nat.le_of_ble_eq_true rfl) ?_
          refine x_w (w1 := xup w h0 (.inr (3, chestE num (upd f 6 ((f 6) + 1)) la))) rfl ?_
          exact x_return C0 dX1_becomeDamper_40 rfl (Nat.le_of_ble_eq_true rfl) (Nat.le_of_ble_eq_true rfl) ⟨rfl, by rw [cDamper, if_pos ⟨c1, c2', c3, c4'⟩], rfl⟩

set_option maxHeartbeats 4000000 in
set_option maxRecDepth 100000 in
theorem k_X1_putIn (l : Launch) (hl : l.stackTraces = false) (g : xg_T) (w : xw_T) (sz : Nat) (h0 : Nat) (num : Int32) (f : Nat → Int32) (la : Nat) (hw : w h0 = some (.inr (3, chestE num f la))) (hA : xA g h0) (ga ki po : Int32) : xM l g yX1_putIn cX1_putIn 4 none ({ frames := 0, cells := 0, slots := 0, locals := 0 }) 0 0 [.ref h0, .int ga, .int ki, .int po] w sz (fun r w1 sz1 => r = none ∧ w1 = xup w h0 (.inr (3, chestE num (cPut f ga ki po) (g.2 100))) ∧ sz = sz1) (fun _ _ _ => False) := by
  refine xM.of RX1 hl (by decide +kernel) rfl (Nat.le_of_ble_eq_true rfl) rfl ?_
  intro p e s m args below meth cD C0 hini
  refine x_aload_n 0 1 C0 dX1_putIn_0 rfl rfl rfl ?_
  refine x_iload_n 1 2 C0 dX1_putIn_1 rfl rfl rfl ?_
  refine x_putf 2 5 C0 dX1_putIn_2 rfl hw hA rfl (by decide) inX1 tyX1_ok nmX1 mF_X1_9 rfl rfl rfl rfl (Nat.le_of_ble_eq_true rfl) ?_
  refine x_w (w1 := xup w h0 (.inr (3, chestE num (upd f 1 ga) la))) rfl ?_
  refine x_aload_n 0 6 C0 dX1_putIn_5 rfl rfl rfl ?_
  refine x_iload_n 2 7 C0 dX1_putIn_6 rfl rfl rfl ?_
  refine x_putf 3 10 C0 dX1_putIn_7 rfl (xup_s _ _ _) hA rfl (by decide) inX1 tyX1_ok nmX1 mF_X1_15 rfl rfl rfl rfl (Nat.le_of_ble_eq_true rfl) ?_
  refine x_w (w1 := xup w h0 (.inr (3, chestE num (upd (upd f 1 ga) 2 ki) la))) (xup_2 _ _ _ _) ?_
  refine x_aload_n 0 11 C0 dX1_putIn_10 rfl rfl rfl ?_
  refine x_dup 12 C0 dX1_putIn_11 rfl rfl ?_
  refine x_getf (v := .int (f 3)) 4 15 C0 dX1_putIn_12 rfl (xup_s _ _ _) rfl (by decide) inX1 mF_X1_33 rfl ?_
  refine x_iload_n 3 16 C0 dX1_putIn_15 rfl rfl rfl ?_
  refine x_iadd 17 C0 dX1_putIn_16 rfl ?_
  refine x_putf 4 20 C0 dX1_putIn_17 rfl (xup_s _ _ _) hA rfl (by decide) inX1 tyX1_ok nmX1 mF_X1_33 rfl rfl rfl rfl (Nat.le_of_ble_eq_true rfl) ?_
  refine x_w (w1 := xup w h0 (.inr (3, chestE num (upd (upd (upd f 1 ga) 2 ki) 3 ((f 3) + po)) la))) (xup_2 _ _ _ _) ?_
  refine x_aload_n 0 21 C0 dX1_putIn_20 rfl rfl rfl ?_
  refine x_ldcS 23 C0 dX1_putIn_21 rfl (xs_ldc C0.2.2.2.2.2.2.2.1.2.2 (RX1, 21, "", 100) (by decide +kernel)) ?_
  refine x_putf 9 26 C0 dX1_putIn_23 rfl (xup_s _ _ _) hA rfl (by decide) inX1 tyX1_ok nmX1 mF_X1_23 rfl rfl rfl rfl (Nat.le_of_ble_eq_true rfl) ?_
  refine x_w (w1 := xup w h0 (.inr (3, chestE num (upd (upd (upd f 1 ga) 2 ki) 3 ((f 3) + po)) (g.2 100)))) (xup_2 _ _ _ _) ?_
  exact x_return C0 dX1_putIn_26 rfl (Nat.le_of_ble_eq_true rfl) (Nat.le_of_ble_eq_true rfl) ⟨rfl, rfl, rfl⟩

set_option maxHeartbeats 4000000 in
set_option maxRecDepth 100000 in
theorem k_X1_takeAllOut (l : Launch) (hl : l.stackTraces = false) (g : xg_T) (w : xw_T) (sz : Nat) (h0 : Nat) (num : Int32) (f : Nat → Int32) (la : Nat) (hw : w h0 = some (.inr (3, chestE num f la))) (hA : xA g h0) : xM l g yX1_takeAllOut cX1_takeAllOut 1 none ({ frames := 0, cells := 0, slots := 0, locals := 0 }) 0 0 [.ref h0] w sz (fun r w1 sz1 => r = none ∧ w1 = xup w h0 (.inr (3, chestE num (cOut f) (g.2 100))) ∧ sz = sz1) (fun _ _ _ => False) := by
  refine xM.of RX1 hl (by decide +kernel) rfl (Nat.le_of_ble_eq_true rfl) rfl ?_
  intro p e s m args below meth cD C0 hini
  refine x_aload_n 0 1 C0 dX1_takeAllOut_0 rfl rfl rfl ?_
  refine x_iconst (v := (-1)) 2 C0 dX1_takeAllOut_1 rfl (by decide) ?_
  refine x_putf 2 5 C0 dX1_takeAllOut_2 rfl hw hA rfl (by decide) inX1 tyX1_ok nmX1 mF_X1_9 rfl rfl rfl rfl (Nat.le_of_ble_eq_true rfl) ?_
  refine x_w (w1 := xup w h0 (.inr (3, chestE num (upd f 1 (-1)) la))) rfl ?_
  refine x_aload_n 0 6 C0 dX1_takeAllOut_5 rfl rfl rfl ?_
  refine x_iconst (v := (-1)) 7 C0 dX1_takeAllOut_6 rfl (by decide) ?_
  refine x_putf 3 10 C0 dX1_takeAllOut_7 rfl (xup_s _ _ _) hA rfl (by decide) inX1 tyX1_ok nmX1 mF_X1_15 rfl rfl rfl rfl (Nat.le_of_ble_eq_true rfl) ?_
  refine x_w (w1 := xup w h0 (.inr (3, chestE num (upd (upd f 1 (-1)) 2 (-1)) la))) (xup_2 _ _ _ _) ?_
  refine x_aload_n 0 11 C0 dX1_takeAllOut_10 rfl rfl rfl ?_
  refine x_iconst (v := 0) 12 C0 dX1_takeAllOut_11 rfl (by decide) ?_
  refine x_putf 4 15 C0 dX1_takeAllOut_12 rfl (xup_s _ _ _) hA rfl (by decide) inX1 tyX1_ok nmX1 mF_X1_33 rfl rfl rfl rfl (Nat.le_of_ble_eq_true rfl) ?_
  refine x_w (w1 := xup w h0 (.inr (3, chestE num (upd (upd (upd f 1 (-1)) 2 (-1)) 3 0) la))) (xup_2 _ _ _ _) ?_
  refine x_aload_n 0 16 C0 dX1_takeAllOut_15 rfl rfl rfl ?_
  refine x_iconst (v := 0) 17 C0 dX1_takeAllOut_16 rfl (by decide) ?_
  refine x_putf 7 20 C0 dX1_takeAllOut_17 rfl (xup_s _ _ _) hA rfl (by decide) inX1 tyX1_ok nmX1 mF_X1_43 rfl rfl rfl rfl (Nat.le_of_ble_eq_true rfl) ?_
  refine x_w (w1 := xup w h0 (.inr (3, chestE num (upd (upd (upd (upd f 1 (-1)) 2 (-1)) 3 0) 6 0) la))) (xup_2 _ _ _ _) ?_
  refine x_aload_n 0 21 C0 dX1_takeAllOut_20 rfl rfl rfl ?_
  refine x_ldcS 23 C0 dX1_takeAllOut_21 rfl (xs_ldc C0.2.2.2.2.2.2.2.1.2.2 (RX1, 21, "", 100) (by decide +kernel)) ?_
  refine x_putf 9 26 C0 dX1_takeAllOut_23 rfl (xup_s _ _ _) hA rfl (by decide) inX1 tyX1_ok nmX1 mF_X1_23 rfl rfl rfl rfl (Nat.le_of_ble_eq_true rfl) ?_
  refine x_w (w1 := xup w h0 (.inr (3, chestE num (upd (upd (upd (upd f 1 (-1)) 2 (-1)) 3 0) 6 0) (g.2 100)))) (xup_2 _ _ _ _) ?_
  exact x_return C0 dX1_takeAllOut_26 rfl (Nat.le_of_ble_eq_true rfl) (Nat.le_of_ble_eq_true rfl) ⟨rfl, rfl, rfl⟩

theorem chestE8 (num : Int32) (f f2 : Nat → Int32) (la : Nat) : chestE num (upd (upd (upd (upd (upd (upd (upd (upd f 0 (f2 0)) 1 (f2 1)) 2 (f2 2)) 3 (f2 3)) 4 (f2 4)) 5 (f2 5)) 6 (f2 6)) 7 (f2 7)) la = chestE num f2 la := rfl
set_option maxHeartbeats 4000000 in
set_option maxRecDepth 100000 in
theorem k_X1_copyFrom (l : Launch) (hl : l.stackTraces = false) (g : xg_T) (w : xw_T) (sz : Nat) (h0 : Nat) (num : Int32) (f : Nat → Int32) (la : Nat) (hw : w h0 = some (.inr (3, chestE num f la))) (hA : xA g h0) (b0 : Nat) (num2 : Int32) (f2 : Nat → Int32) (la2 : Nat) (hw2 : w b0 = some (.inr (3, chestE num2 f2 la2))) (hne : b0 ≠ h0) (hb : f2 4 = 0 ∨ f2 4 = 1) : xM l g yX1_copyFrom cX1_copyFrom 2 none ({ frames := 0, cells := 0, slots := 0, locals := 0 }) 0 0 [.ref h0, .ref b0] w sz (fun r w1 sz1 => r = none ∧ w1 = xup w h0 (.inr (3, chestE num f2 la2)) ∧ sz = sz1) (fun _ _ _ => False) := by
  refine xM.of RX1 hl (by decide +kernel) rfl (Nat.le_of_ble_eq_true rfl) rfl ?_
  intro p e s m args below meth cD C0 hini
  refine x_aload_n 0 1 C0 dX1_copyFrom_0 rfl rfl rfl ?_
  refine x_aload_n 1 2 C0 dX1_copyFrom_1 rfl rfl rfl ?_
  refine x_getf (v := .int (f2 0)) 1 5 C0 dX1_copyFrom_2 rfl hw2 rfl (by decide) inX1 mF_X1_30 rfl ?_
  refine x_putf 1 8 C0 dX1_copyFrom_5 rfl hw hA rfl (by decide) inX1 tyX1_ok nmX1 mF_X1_30 rfl rfl rfl rfl (Nat.le_of_ble_eq_true rfl) ?_
  refine x_w (w1 := xup w h0 (.inr (3, chestE num (upd f 0 (f2 0)) la))) rfl ?_
  refine x_aload_n 0 9 C0 dX1_copyFrom_8 rfl rfl rfl ?_
  refine x_aload_n 1 10 C0 dX1_copyFrom_9 rfl rfl rfl ?_
  refine x_getf (v := .int (f2 1)) 2 13 C0 dX1_copyFrom_10 rfl ((xup_n hne).trans hw2) rfl (by decide) inX1 mF_X1_9 rfl ?_
  refine x_putf 2 16 C0 dX1_copyFrom_13 rfl (xup_s _ _ _) hA rfl (by decide) inX1 tyX1_ok nmX1 mF_X1_9 rfl rfl rfl rfl (Nat.le_of_ble_eq_true rfl) ?_
  refine x_w (w1 := xup w h0 (.inr (3, chestE num (upd (upd f 0 (f2 0)) 1 (f2 1)) la))) (xup_2 _ _ _ _) ?_
  refine x_aload_n 0 17 C0 dX1_copyFrom_16 rfl rfl rfl ?_
  refine x_aload_n 1 18 C0 dX1_copyFrom_17 rfl rfl rfl ?_
  refine x_getf (v := .int (f2 2)) 3 21 C0 dX1_copyFrom_18 rfl ((xup_n hne).trans hw2) rfl (by decide) inX1 mF_X1_15 rfl ?_
  refine x_putf 3 24 C0 dX1_copyFrom_21 rfl (xup_s _ _ _) hA rfl (by decide) inX1 tyX1_ok nmX1 mF_X1_15 rfl rfl rfl rfl (Nat.le_of_ble_eq_true rfl) ?_
  refine x_w (w1 := xup w h0 (.inr (3, chestE num (upd (upd (upd f 0 (f2 0)) 1 (f2 1)) 2 (f2 2)) la))) (xup_2 _ _ _ _) ?_
  refine x_aload_n 0 25 C0 dX1_copyFrom_24 rfl rfl rfl ?_
  refine x_aload_n 1 26 C0 dX1_copyFrom_25 rfl rfl rfl ?_
  refine x_getf (v := .int (f2 3)) 4 29 C0 dX1_copyFrom_26 rfl ((xup_n hne).trans hw2) rfl (by decide) inX1 mF_X1_33 rfl ?_
  refine x_putf 4 32 C0 dX1_copyFrom_29 rfl (xup_s _ _ _) hA rfl (by decide) inX1 tyX1_ok nmX1 mF_X1_33 rfl rfl rfl rfl (Nat.le_of_ble_eq_true rfl) ?_
  refine x_w (w1 := xup w h0 (.inr (3, chestE num (upd (upd (upd (upd f 0 (f2 0)) 1 (f2 1)) 2 (f2 2)) 3 (f2 3)) la))) (xup_2 _ _ _ _) ?_
  refine x_aload_n 0 33 C0 dX1_copyFrom_32 rfl rfl rfl ?_
  refine x_aload_n 1 34 C0 dX1_copyFrom_33 rfl rfl rfl ?_
  refine x_getf (v := .int (f2 4)) 5 37 C0 dX1_copyFrom_34 rfl ((xup_n hne).trans hw2) rfl (by decide) inX1 mF_X1_36 rfl ?_
  refine x_putf 5 40 C0 dX1_copyFrom_37 rfl (xup_s _ _ _) hA rfl (by decide) inX1 tyX1_ok nmX1 mF_X1_36 rfl rfl (by rcases hb with e9 | e9 <;> rw [e9] <;> rfl) (by rcases hb with e9 | e9 <;> rw [e9] <;> rfl) (Nat.le_of_ble_eq_true rfl) ?_
  refine x_w (w1 := xup w h0 (.inr (3, chestE num (upd (upd (upd (upd (upd f 0 (f2 0)) 1 (f2 1)) 2 (f2 2)) 3 (f2 3)) 4 (f2 4)) la))) (xup_2 _ _ _ _) ?_
  refine x_aload_n 0 41 C0 dX1_copyFrom_40 rfl rfl rfl ?_
  refine x_aload_n 1 42 C0 dX1_copyFrom_41 rfl rfl rfl ?_
  refine x_getf (v := .int (f2 5)) 6 45 C0 dX1_copyFrom_42 rfl ((xup_n hne).trans hw2) rfl (by decide) inX1 mF_X1_40 rfl ?_
  refine x_putf 6 48 C0 dX1_copyFrom_45 rfl (xup_s _ _ _) hA rfl (by decide) inX1 tyX1_ok nmX1 mF_X1_40 rfl rfl rfl rfl (Nat.le_of_ble_eq_true rfl) ?_
  refine x_w (w1 := xup w h0 (.inr (3, chestE num (upd (upd (upd (upd (upd (upd f 0 (f2 0)) 1 (f2 1)) 2 (f2 2)) 3 (f2 3)) 4 (f2 4)) 5 (f2 5)) la))) (xup_2 _ _ _ _) ?_
  refine x_aload_n 0 49 C0 dX1_copyFrom_48 rfl rfl rfl ?_
  refine x_aload_n 1 50 C0 dX1_copyFrom_49 rfl rfl rfl ?_
  refine x_getf (v := .int (f2 6)) 7 53 C0 dX1_copyFrom_50 rfl ((xup_n hne).trans hw2) rfl (by decide) inX1 mF_X1_43 rfl ?_
  refine x_putf 7 56 C0 dX1_copyFrom_53 rfl (xup_s _ _ _) hA rfl (by decide) inX1 tyX1_ok nmX1 mF_X1_43 rfl rfl rfl rfl (Nat.le_of_ble_eq_true rfl) ?_
  refine x_w (w1 := xup w h0 (.inr (3, chestE num (upd (upd (upd (upd (upd (upd (upd f 0 (f2 0)) 1 (f2 1)) 2 (f2 2)) 3 (f2 3)) 4 (f2 4)) 5 (f2 5)) 6 (f2 6)) la))) (xup_2 _ _ _ _) ?_
  refine x_aload_n 0 57 C0 dX1_copyFrom_56 rfl rfl rfl ?_
  refine x_aload_n 1 58 C0 dX1_copyFrom_57 rfl rfl rfl ?_
  refine x_getf (v := .int (f2 7)) 8 61 C0 dX1_copyFrom_58 rfl ((xup_n hne).trans hw2) rfl (by decide) inX1 mF_X1_18 rfl ?_
  refine x_putf 8 64 C0 dX1_copyFrom_61 rfl (xup_s _ _ _) hA rfl (by decide) inX1 tyX1_ok nmX1 mF_X1_18 rfl rfl rfl rfl (Nat.le_of_ble_eq_true rfl) ?_
  refine x_w (w1 := xup w h0 (.inr (3, chestE num (upd (upd (upd (upd (upd (upd (upd (upd f 0 (f2 0)) 1 (f2 1)) 2 (f2 2)) 3 (f2 3)) 4 (f2 4)) 5 (f2 5)) 6 (f2 6)) 7 (f2 7)) la))) (xup_2 _ _ _ _) ?_
  refine x_aload_n 0 65 C0 dX1_copyFrom_64 rfl rfl rfl ?_
  refine x_aload_n 1 66 C0 dX1_copyFrom_65 rfl rfl rfl ?_
  refine x_getf (v := .ref la2) 9 69 C0 dX1_copyFrom_66 rfl ((xup_n hne).trans hw2) rfl (by decide) inX1 mF_X1_23 rfl ?_
  refine x_putf 9 72 C0 dX1_copyFrom_69 rfl (xup_s _ _ _) hA rfl (by decide) inX1 tyX1_ok nmX1 mF_X1_23 rfl rfl rfl rfl (Nat.le_of_ble_eq_true rfl) ?_
  refine x_w (w1 := xup w h0 (.inr (3, chestE num (upd (upd (upd (upd (upd (upd (upd (upd f 0 (f2 0)) 1 (f2 1)) 2 (f2 2)) 3 (f2 3)) 4 (f2 4)) 5 (f2 5)) 6 (f2 6)) 7 (f2 7)) la2))) (xup_2 _ _ _ _) ?_
  exact x_return C0 dX1_copyFrom_72 rfl (Nat.le_of_ble_eq_true rfl) (Nat.le_of_ble_eq_true rfl) ⟨rfl, by rw [chestE8], rfl⟩

