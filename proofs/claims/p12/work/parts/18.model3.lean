/-! THE REFERENCE: its calls, its texts, its beginning -/
def mA (r : Option Value) (_ _ : Nat → Int32) : Prop := ∃ z : Int32, r = some (.int z)
def mG (n h0 : Nat) (r : Option Value) (t' _ : Nat → Int32) : Prop := (∃ z : Int32, r = some (.int z)) ∧ ∃ h' : Nat, h' ≤ 60 ∧ t' 10 = nI h' ∧ h0 ≤ h'
def mH (h0 : Nat) (r : Option Value) (t' _ : Nat → Int32) : Prop := r = none ∧ ∃ h' : Nat, h' ≤ 60 ∧ t' 10 = nI h' ∧ h0 ≤ h'
def mM (h0 : Nat) (r : Option Value) (t' _ : Nat → Int32) : Prop := r = none ∧ ∃ h' : Nat, h' ≤ 60 ∧ t' 10 = nI h' ∧ h0 ≤ h' ∧ (t' 11 = 0 → h0 + 1 ≤ h')
def mC (g : xg_T) (w : xw_T) (sz n : Nat) (t sv ip td sg : Nat → Int32) (P : Option Value → (Nat → Int32) → (Nat → Int32) → (Nat → Int32) → Prop) : Option Value → xw_T → Nat → Prop := fun r w1 sz1 => sz = sz1 ∧ ∃ t' v' bf' pa' lb', w1 = MW g w t' v' bf' sv pa' lb' ip td sg ∧ MJ n t' v' bf' sv pa' sg ∧ t' 7 = t 7 ∧ P r t' v' pa'
def cP (t v pa : Nat → Int32) (X : Option Value → (Nat → Int32) → (Nat → Int32) → Prop) (ja jb jc : Int32) (r : Option Value) (t' v' pa' : Nat → Int32) : Prop := ∃ (a : Int32) (t1 v1 bf : Nat → Int32), X (some (.int a)) t1 v1 ∧ tK (upd (upd t 0 0) 1 0) t1 ∧ (∀ j, j < 208 → bf j = v j) ∧ endP t1 v1 bf pa a ja jb jc r t' v' pa'
def cPb (t v pa : Nat → Int32) (X : Option Value → (Nat → Int32) → (Nat → Int32) → Prop) (ja jb jc : Int32) (r : Option Value) (t' v' pa' : Nat → Int32) : Prop := ∃ z : Int32, ((z = 1 ∧ r = some (.int 1)) ∨ (¬ z = 1 ∧ r = some (.int 0))) ∧ cP t v pa X ja jb jc (some (.int z)) t' v' pa'
set_option maxHeartbeats 4000000 in
set_option maxRecDepth 100000 in
theorem k_X8_bring (l : Launch) (hl : l.stackTraces = false) (g : xg_T) (w : xw_T) (sz n : Nat) (t v bf sv pa lb ip td sg : Nat → Int32) (hM : MR g w t v bf sv pa lb ip td sg) (hJ : MJ n t v bf sv pa sg) (ga : Int32) (ki : Int32) (po : Int32) : xM l g yX8_bring cX8_bring 4 (some .int) ({ frames := 3, cells := 0, slots := 0, locals := 67 }) 0 0 [.ref (g.2 0 + 258), .int ga, .int ki, .int po] w sz (mC g w sz n t sv ip td sg (fun r t' v' pa' => cP t v pa (R_X8_brings (upd (upd t 0 0) 1 0) v ga ki po) 1 2 3 r t' v' pa')) (fun _ _ _ => False) := by
  refine xM.of RX8 hl (by decide +kernel) rfl (Nat.le_of_ble_eq_true rfl) rfl ?_
  intro p e s m args below meth cD C0 hini
  refine x_aload_n 0 1 C0 dX8_bring_0 rfl rfl rfl ?_
  refine x_callV 4 C0 (k_X8_begins l hl g _ _ n t v bf sv pa lb ip td sg hM hJ) dX8_bring_1 rfl mC_X8_begins mM_X8_85 mI_X8_begins mV_X8_begins mN_X8 yd_X8_begins rfl rfl ⟨Nat.le_of_ble_eq_true rfl, Nat.le_of_ble_eq_true rfl⟩ hM.o rfl rfl rfl rfl (Nat.le_of_ble_eq_true rfl) ⟨Nat.le_of_ble_eq_true rfl, Nat.le_of_ble_eq_true rfl⟩ (fun _ _ _ q => False.elim q) (fun r w1 sz1 hz hP => ?_)
  obtain ⟨rfl, rfl, bf1, rfl, hJ1, hb1⟩ := hP
  refine x_st (st1 := []) rfl ?_
  refine x_aload_n 0 5 C0 dX8_bring_4 rfl rfl rfl ?_
  refine x_aload_n 0 6 C0 dX8_bring_5 rfl rfl rfl ?_
  refine x_iload_n 1 7 C0 dX8_bring_6 rfl rfl rfl ?_
  refine x_iload_n 2 8 C0 dX8_bring_7 rfl rfl rfl ?_
  refine x_iload_n 3 9 C0 dX8_bring_8 rfl rfl rfl ?_
  refine x_callV 12 C0 (k_X8_brings l hl g _ _ n (upd (upd t 0 0) 1 0) v bf1 sv pa lb ip td sg MR_MW hJ1 ga ki po) dX8_bring_9 rfl mC_X8_brings mM_X8_88 mI_X8_brings mV_X8_brings mN_X8 yd_X8_brings rfl rfl ⟨Nat.le_of_ble_eq_true rfl, Nat.le_of_ble_eq_true rfl⟩ MR_MW.o rfl rfl rfl rfl (Nat.le_of_ble_eq_true rfl) ⟨Nat.le_of_ble_eq_true rfl, Nat.le_of_ble_eq_true rfl⟩ (fun _ _ _ q => False.elim q) (fun r w1 sz1 hz hP => ?_)
  obtain ⟨rfl, t2, v2, lb2, rfl, hJ2, hR2⟩ := hP
  refine x_w MW_MW ?_
  obtain ⟨⟨⟨a2, rfl⟩, he2⟩, hX2⟩ := hR2
  refine x_st (st1 := [.int a2, .ref (g.2 0 + 258)]) rfl ?_
  refine x_iconst (v := 1) 13 C0 dX8_bring_12 rfl (by decide) ?_
  refine x_iconst (v := 2) 14 C0 dX8_bring_13 rfl (by decide) ?_
  refine x_iconst (v := 3) 15 C0 dX8_bring_14 rfl (by decide) ?_
  refine x_callV 18 C0 (k_X8_ends l hl g _ _ n t2 v2 bf1 sv pa lb2 ip td sg MR_MW hJ2 a2 1 2 3) dX8_bring_15 rfl mC_X8_ends mM_X8_92 mI_X8_ends mV_X8_ends mN_X8 yd_X8_ends rfl rfl ⟨Nat.le_of_ble_eq_true rfl, Nat.le_of_ble_eq_true rfl⟩ MR_MW.o rfl rfl rfl rfl (Nat.le_of_ble_eq_true rfl) ⟨Nat.le_of_ble_eq_true rfl, Nat.le_of_ble_eq_true rfl⟩ (fun _ _ _ q => False.elim q) (fun r w1 sz1 hz hP => ?_)
  obtain ⟨rfl, t3, v3, pa3, rfl, hJ3, h73, he3, hE3⟩ := hP
  obtain ⟨z3, rfl⟩ := endP_r hE3
  refine x_w MW_MW ?_
  refine x_st (st1 := [.int z3]) rfl ?_
  exact x_ireturn C0 dX8_bring_18 rfl rfl (Nat.le_of_ble_eq_true rfl) (Nat.le_of_ble_eq_true rfl) ⟨rfl, _, _, _, _, _, rfl, hJ3, h73.trans (he2 7 (by decide)), ⟨a2, t2, v2, bf1, hX2, he2, hb1, hE3⟩⟩

set_option maxHeartbeats 4000000 in
set_option maxRecDepth 100000 in
theorem k_X8_buy (l : Launch) (hl : l.stackTraces = false) (g : xg_T) (w : xw_T) (sz n : Nat) (t v bf sv pa lb ip td sg : Nat → Int32) (hM : MR g w t v bf sv pa lb ip td sg) (hJ : MJ n t v bf sv pa sg) (sc : Int32) (mn : Int32) : xM l g yX8_buy cX8_buy 3 (some .int) ({ frames := 2, cells := 0, slots := 0, locals := 47 }) 0 0 [.ref (g.2 0 + 258), .int sc, .int mn] w sz (mC g w sz n t sv ip td sg (fun r t' v' pa' => (¬ sc = 0 ∧ cP t v pa (R_X8_buys (upd (upd t 0 0) 1 0) v 2 mn) 0 1 0 r t' v' pa') ∨ (sc = 0 ∧ cP t v pa (R_X8_buys (upd (upd t 0 0) 1 0) v 1 mn) 0 1 0 r t' v' pa'))) (fun _ _ _ => False) := by
  refine xM.of RX8 hl (by decide +kernel) rfl (Nat.le_of_ble_eq_true rfl) rfl ?_
  intro p e s m args below meth cD C0 hini
  refine x_aload_n 0 1 C0 dX8_buy_0 rfl rfl rfl ?_
  refine x_callV 4 C0 (k_X8_begins l hl g _ _ n t v bf sv pa lb ip td sg hM hJ) dX8_buy_1 rfl mC_X8_begins mM_X8_85 mI_X8_begins mV_X8_begins mN_X8 yd_X8_begins rfl rfl ⟨Nat.le_of_ble_eq_true rfl, Nat.le_of_ble_eq_true rfl⟩ hM.o rfl rfl rfl rfl (Nat.le_of_ble_eq_true rfl) ⟨Nat.le_of_ble_eq_true rfl, Nat.le_of_ble_eq_true rfl⟩ (fun _ _ _ q => False.elim q) (fun r w1 sz1 hz hP => ?_)
  obtain ⟨rfl, rfl, bf1, rfl, hJ1, hb1⟩ := hP
  refine x_st (st1 := []) rfl ?_
  refine x_aload_n 0 5 C0 dX8_buy_4 rfl rfl rfl ?_
  refine x_aload_n 0 6 C0 dX8_buy_5 rfl rfl rfl ?_
  refine x_iload_n 1 7 C0 dX8_buy_6 rfl rfl rfl ?_
  refine x_if_eq 14 10 C0 dX8_buy_7 rfl (by decide) (fun c2 => ?_) (fun c2 => ?_)
  · refine x_iconst (v := 1) 15 C0 dX8_buy_14 rfl (by decide) ?_
    refine x_iload_n 2 16 C0 dX8_buy_15 rfl rfl rfl ?_
    refine x_callV 19 C0 (k_X8_buys l hl g _ _ n (upd (upd t 0 0) 1 0) v bf1 sv pa lb ip td sg MR_MW hJ1 1 (by omega) mn) dX8_buy_16 rfl mC_X8_buys mM_X8_102 mI_X8_buys mV_X8_buys mN_X8 yd_X8_buys rfl rfl ⟨Nat.le_of_ble_eq_true rfl, Nat.le_of_ble_eq_true rfl⟩ MR_MW.o rfl rfl rfl rfl (Nat.le_of_ble_eq_true rfl) ⟨Nat.le_of_ble_eq_true rfl, Nat.le_of_ble_eq_true rfl⟩ (fun _ _ _ q => False.elim q) (fun r w1 sz1 hz hP => ?_)
    obtain ⟨rfl, t3, v3, lb3, rfl, hJ3, hR3⟩ := hP
    refine x_w MW_MW ?_
    obtain ⟨⟨⟨a3, rfl⟩, he3⟩, hX3⟩ := hR3
    refine x_st (st1 := [.int a3, .ref (g.2 0 + 258)]) rfl ?_
    refine x_iconst (v := 0) 20 C0 dX8_buy_19 rfl (by decide) ?_
    refine x_iconst (v := 1) 21 C0 dX8_buy_20 rfl (by decide) ?_
    refine x_iconst (v := 0) 22 C0 dX8_buy_21 rfl (by decide) ?_
    refine x_callV 25 C0 (k_X8_ends l hl g _ _ n t3 v3 bf1 sv pa lb3 ip td sg MR_MW hJ3 a3 0 1 0) dX8_buy_22 rfl mC_X8_ends mM_X8_92 mI_X8_ends mV_X8_ends mN_X8 yd_X8_ends rfl rfl ⟨Nat.le_of_ble_eq_true rfl, Nat.le_of_ble_eq_true rfl⟩ MR_MW.o rfl rfl rfl rfl (Nat.le_of_ble_eq_true rfl) ⟨Nat.le_of_ble_eq_true rfl, Nat.le_of_ble_eq_true rfl⟩ (fun _ _ _ q => False.elim q) (fun r w1 sz1 hz hP => ?_)
    obtain ⟨rfl, t4, v4, pa4, rfl, hJ4, h74, he4, hE4⟩ := hP
    obtain ⟨z4, rfl⟩ := endP_r hE4
    refine x_w MW_MW ?_
    refine x_st (st1 := [.int z4]) rfl ?_
    exact x_ireturn C0 dX8_buy_25 rfl rfl (Nat.le_of_ble_eq_true rfl) (Nat.le_of_ble_eq_true rfl) ⟨rfl, _, _, _, _, _, rfl, hJ4, h74.trans (he3 7 (by decide)), Or.inr ⟨c2, ⟨a3, t3, v3, bf1, hX3, he3, hb1, hE4⟩⟩⟩
  · refine x_iconst (v := 2) 11 C0 dX8_buy_10 rfl (by decide) ?_
    refine x_goto 15 C0 dX8_buy_11 (by decide) ?_
    refine x_iload_n 2 16 C0 dX8_buy_15 rfl rfl rfl ?_
    refine x_callV 19 C0 (k_X8_buys l hl g _ _ n (upd (upd t 0 0) 1 0) v bf1 sv pa lb ip td sg MR_MW hJ1 2 (by omega) mn) dX8_buy_16 rfl mC_X8_buys mM_X8_102 mI_X8_buys mV_X8_buys mN_X8 yd_X8_buys rfl rfl ⟨Nat.le_of_ble_eq_true rfl, Nat.le_of_ble_eq_true rfl⟩ MR_MW.o rfl rfl rfl rfl (Nat.le_of_ble_eq_true rfl) ⟨Nat.le_of_ble_eq_true rfl, Nat.le_of_ble_eq_true rfl⟩ (fun _ _ _ q => False.elim q) (fun r w1 sz1 hz hP => ?_)
    obtain ⟨rfl, t5, v5, lb5, rfl, hJ5, hR5⟩ := hP
    refine x_w MW_MW ?_
    obtain ⟨⟨⟨a5, rfl⟩, he5⟩, hX5⟩ := hR5
    refine x_st (st1 := [.int a5, .ref (g.2 0 + 258)]) rfl ?_
    refine x_iconst (v := 0) 20 C0 dX8_buy_19 rfl (by decide) ?_
    refine x_iconst (v := 1) 21 C0 dX8_buy_20 rfl (by decide) ?_
    refine x_iconst (v := 0) 22 C0 dX8_buy_21 rfl (by decide) ?_
    refine x_callV 25 C0 (k_X8_ends l hl g _ _ n t5 v5 bf1 sv pa lb5 ip td sg MR_MW hJ5 a5 0 1 0) dX8_buy_22 rfl mC_X8_ends mM_X8_92 mI_X8_ends mV_X8_ends mN_X8 yd_X8_ends rfl rfl ⟨Nat.le_of_ble_eq_true rfl, Nat.le_of_ble_eq_true rfl⟩ MR_MW.o rfl rfl rfl rfl (Nat.le_of_ble_eq_true rfl) ⟨Nat.le_of_ble_eq_true rfl, Nat.le_of_ble_eq_true rfl⟩ (fun _ _ _ q => False.elim q) (fun r w1 sz1 hz hP => ?_)
    obtain ⟨rfl, t6, v6, pa6, rfl, hJ6, h76, he6, hE6⟩ := hP
    obtain ⟨z6, rfl⟩ := endP_r hE6
    refine x_w MW_MW ?_
    refine x_st (st1 := [.int z6]) rfl ?_
    exact x_ireturn C0 dX8_buy_25 rfl rfl (Nat.le_of_ble_eq_true rfl) (Nat.le_of_ble_eq_true rfl) ⟨rfl, _, _, _, _, _, rfl, hJ6, h76.trans (he5 7 (by decide)), Or.inl ⟨c2, ⟨a5, t5, v5, bf1, hX5, he5, hb1, hE6⟩⟩⟩

set_option maxHeartbeats 4000000 in
set_option maxRecDepth 100000 in
theorem k_X8_make (l : Launch) (hl : l.stackTraces = false) (g : xg_T) (w : xw_T) (sz n : Nat) (t v bf sv pa lb ip td sg : Nat → Int32) (hM : MR g w t v bf sv pa lb ip td sg) (hJ : MJ n t v bf sv pa sg) (si : Int32) : xM l g yX8_make cX8_make 2 (some .int) ({ frames := 3, cells := 0, slots := 0, locals := 66 }) 0 0 [.ref (g.2 0 + 258), .int si] w sz (mC g w sz n t sv ip td sg (fun r t' v' pa' => cP t v pa (R_X8_makes (upd (upd t 0 0) 1 0) v si) 0 1 2 r t' v' pa')) (fun _ _ _ => False) := by
  refine xM.of RX8 hl (by decide +kernel) rfl (Nat.le_of_ble_eq_true rfl) rfl ?_
  intro p e s m args below meth cD C0 hini
  refine x_aload_n 0 1 C0 dX8_make_0 rfl rfl rfl ?_
  refine x_callV 4 C0 (k_X8_begins l hl g _ _ n t v bf sv pa lb ip td sg hM hJ) dX8_make_1 rfl mC_X8_begins mM_X8_85 mI_X8_begins mV_X8_begins mN_X8 yd_X8_begins rfl rfl ⟨Nat.le_of_ble_eq_true rfl, Nat.le_of_ble_eq_true rfl⟩ hM.o rfl rfl rfl rfl (Nat.le_of_ble_eq_true rfl) ⟨Nat.le_of_ble_eq_true rfl, Nat.le_of_ble_eq_true rfl⟩ (fun _ _ _ q => False.elim q) (fun r w1 sz1 hz hP => ?_)
  obtain ⟨rfl, rfl, bf1, rfl, hJ1, hb1⟩ := hP
  refine x_st (st1 := []) rfl ?_
  refine x_aload_n 0 5 C0 dX8_make_4 rfl rfl rfl ?_
  refine x_aload_n 0 6 C0 dX8_make_5 rfl rfl rfl ?_
  refine x_iload_n 1 7 C0 dX8_make_6 rfl rfl rfl ?_
  refine x_callV 10 C0 (k_X8_makes l hl g _ _ n (upd (upd t 0 0) 1 0) v bf1 sv pa lb ip td sg MR_MW hJ1 si) dX8_make_7 rfl mC_X8_makes mM_X8_105 mI_X8_makes mV_X8_makes mN_X8 yd_X8_makes rfl rfl ⟨Nat.le_of_ble_eq_true rfl, Nat.le_of_ble_eq_true rfl⟩ MR_MW.o rfl rfl rfl rfl (Nat.le_of_ble_eq_true rfl) ⟨Nat.le_of_ble_eq_true rfl, Nat.le_of_ble_eq_true rfl⟩ (fun _ _ _ q => False.elim q) (fun r w1 sz1 hz hP => ?_)
  obtain ⟨rfl, t2, v2, lb2, rfl, hJ2, hR2⟩ := hP
  refine x_w MW_MW ?_
  obtain ⟨⟨⟨a2, rfl⟩, he2⟩, hX2⟩ := hR2
  refine x_st (st1 := [.int a2, .ref (g.2 0 + 258)]) rfl ?_
  refine x_iconst (v := 0) 11 C0 dX8_make_10 rfl (by decide) ?_
  refine x_iconst (v := 1) 12 C0 dX8_make_11 rfl (by decide) ?_
  refine x_iconst (v := 2) 13 C0 dX8_make_12 rfl (by decide) ?_
  refine x_callV 16 C0 (k_X8_ends l hl g _ _ n t2 v2 bf1 sv pa lb2 ip td sg MR_MW hJ2 a2 0 1 2) dX8_make_13 rfl mC_X8_ends mM_X8_92 mI_X8_ends mV_X8_ends mN_X8 yd_X8_ends rfl rfl ⟨Nat.le_of_ble_eq_true rfl, Nat.le_of_ble_eq_true rfl⟩ MR_MW.o rfl rfl rfl rfl (Nat.le_of_ble_eq_true rfl) ⟨Nat.le_of_ble_eq_true rfl, Nat.le_of_ble_eq_true rfl⟩ (fun _ _ _ q => False.elim q) (fun r w1 sz1 hz hP => ?_)
  obtain ⟨rfl, t3, v3, pa3, rfl, hJ3, h73, he3, hE3⟩ := hP
  obtain ⟨z3, rfl⟩ := endP_r hE3
  refine x_w MW_MW ?_
  refine x_st (st1 := [.int z3]) rfl ?_
  exact x_ireturn C0 dX8_make_16 rfl rfl (Nat.le_of_ble_eq_true rfl) (Nat.le_of_ble_eq_true rfl) ⟨rfl, _, _, _, _, _, rfl, hJ3, h73.trans (he2 7 (by decide)), ⟨a2, t2, v2, bf1, hX2, he2, hb1, hE3⟩⟩

set_option maxHeartbeats 4000000 in
set_option maxRecDepth 100000 in
theorem k_X8_line (l : Launch) (hl : l.stackTraces = false) (g : xg_T) (w : xw_T) (sz n : Nat) (t v bf sv pa lb ip td sg : Nat → Int32) (hM : MR g w t v bf sv pa lb ip td sg) (hJ : MJ n t v bf sv pa sg) (cn : Int32) : xM l g yX8_line cX8_line 2 (some .int) ({ frames := 4, cells := 0, slots := 0, locals := 87 }) 0 0 [.ref (g.2 0 + 258), .int cn] w sz (mC g w sz n t sv ip td sg (fun r t' v' pa' => cP t v pa (R_X8_linesChest (upd (upd t 0 0) 1 0) v cn) 1 0 2 r t' v' pa')) (fun _ _ _ => False) := by
  refine xM.of RX8 hl (by decide +kernel) rfl (Nat.le_of_ble_eq_true rfl) rfl ?_
  intro p e s m args below meth cD C0 hini
  refine x_aload_n 0 1 C0 dX8_line_0 rfl rfl rfl ?_
  refine x_callV 4 C0 (k_X8_begins l hl g _ _ n t v bf sv pa lb ip td sg hM hJ) dX8_line_1 rfl mC_X8_begins mM_X8_85 mI_X8_begins mV_X8_begins mN_X8 yd_X8_begins rfl rfl ⟨Nat.le_of_ble_eq_true rfl, Nat.le_of_ble_eq_true rfl⟩ hM.o rfl rfl rfl rfl (Nat.le_of_ble_eq_true rfl) ⟨Nat.le_of_ble_eq_true rfl, Nat.le_of_ble_eq_true rfl⟩ (fun _ _ _ q => False.elim q) (fun r w1 sz1 hz hP => ?_)
  obtain ⟨rfl, rfl, bf1, rfl, hJ1, hb1⟩ := hP
  refine x_st (st1 := []) rfl ?_
  refine x_aload_n 0 5 C0 dX8_line_4 rfl rfl rfl ?_
  refine x_aload_n 0 6 C0 dX8_line_5 rfl rfl rfl ?_
  refine x_iload_n 1 7 C0 dX8_line_6 rfl rfl rfl ?_
  refine x_callV 10 C0 (k_X8_linesChest l hl g _ _ n (upd (upd t 0 0) 1 0) v bf1 sv pa lb ip td sg MR_MW hJ1 cn) dX8_line_7 rfl mC_X8_linesChest mM_X8_115 mI_X8_linesChest mV_X8_linesChest mN_X8 yd_X8_linesChest rfl rfl ⟨Nat.le_of_ble_eq_true rfl, Nat.le_of_ble_eq_true rfl⟩ MR_MW.o rfl rfl rfl rfl (Nat.le_of_ble_eq_true rfl) ⟨Nat.le_of_ble_eq_true rfl, Nat.le_of_ble_eq_true rfl⟩ (fun _ _ _ q => False.elim q) (fun r w1 sz1 hz hP => ?_)
  obtain ⟨rfl, t2, v2, lb2, rfl, hJ2, hR2⟩ := hP
  refine x_w MW_MW ?_
  obtain ⟨⟨⟨a2, rfl⟩, he2⟩, hX2⟩ := hR2
  refine x_st (st1 := [.int a2, .ref (g.2 0 + 258)]) rfl ?_
  refine x_iconst (v := 1) 11 C0 dX8_line_10 rfl (by decide) ?_
  refine x_iconst (v := 0) 12 C0 dX8_line_11 rfl (by decide) ?_
  refine x_iconst (v := 2) 13 C0 dX8_line_12 rfl (by decide) ?_
  refine x_callV 16 C0 (k_X8_ends l hl g _ _ n t2 v2 bf1 sv pa lb2 ip td sg MR_MW hJ2 a2 1 0 2) dX8_line_13 rfl mC_X8_ends mM_X8_92 mI_X8_ends mV_X8_ends mN_X8 yd_X8_ends rfl rfl ⟨Nat.le_of_ble_eq_true rfl, Nat.le_of_ble_eq_true rfl⟩ MR_MW.o rfl rfl rfl rfl (Nat.le_of_ble_eq_true rfl) ⟨Nat.le_of_ble_eq_true rfl, Nat.le_of_ble_eq_true rfl⟩ (fun _ _ _ q => False.elim q) (fun r w1 sz1 hz hP => ?_)
  obtain ⟨rfl, t3, v3, pa3, rfl, hJ3, h73, he3, hE3⟩ := hP
  obtain ⟨z3, rfl⟩ := endP_r hE3
  refine x_w MW_MW ?_
  refine x_st (st1 := [.int z3]) rfl ?_
  exact x_ireturn C0 dX8_line_16 rfl rfl (Nat.le_of_ble_eq_true rfl) (Nat.le_of_ble_eq_true rfl) ⟨rfl, _, _, _, _, _, rfl, hJ3, h73.trans (he2 7 (by decide)), ⟨a2, t2, v2, bf1, hX2, he2, hb1, hE3⟩⟩

set_option maxHeartbeats 4000000 in
set_option maxRecDepth 100000 in
theorem k_X8_fill (l : Launch) (hl : l.stackTraces = false) (g : xg_T) (w : xw_T) (sz n : Nat) (t v bf sv pa lb ip td sg : Nat → Int32) (hM : MR g w t v bf sv pa lb ip td sg) (hJ : MJ n t v bf sv pa sg) (cn : Int32) (ga : Int32) (ki : Int32) (po : Int32) : xM l g yX8_fill cX8_fill 5 (some .int) ({ frames := 4, cells := 0, slots := 0, locals := 92 }) 0 0 [.ref (g.2 0 + 258), .int cn, .int ga, .int ki, .int po] w sz (mC g w sz n t sv ip td sg (fun r t' v' pa' => cP t v pa (R_X8_fills (upd (upd t 0 0) 1 0) v cn ga ki po) 1 2 3 r t' v' pa')) (fun _ _ _ => False) := by
  refine xM.of RX8 hl (by decide +kernel) rfl (Nat.le_of_ble_eq_true rfl) rfl ?_
  intro p e s m args below meth cD C0 hini
  refine x_aload_n 0 1 C0 dX8_fill_0 rfl rfl rfl ?_
  refine x_callV 4 C0 (k_X8_begins l hl g _ _ n t v bf sv pa lb ip td sg hM hJ) dX8_fill_1 rfl mC_X8_begins mM_X8_85 mI_X8_begins mV_X8_begins mN_X8 yd_X8_begins rfl rfl ⟨Nat.le_of_ble_eq_true rfl, Nat.le_of_ble_eq_true rfl⟩ hM.o rfl rfl rfl rfl (Nat.le_of_ble_eq_true rfl) ⟨Nat.le_of_ble_eq_true rfl, Nat.le_of_ble_eq_true rfl⟩ (fun _ _ _ q => False.elim q) (fun r w1 sz1 hz hP => ?_)
  obtain ⟨rfl, rfl, bf1, rfl, hJ1, hb1⟩ := hP
  refine x_st (st1 := []) rfl ?_
  refine x_aload_n 0 5 C0 dX8_fill_4 rfl rfl rfl ?_
  refine x_aload_n 0 6 C0 dX8_fill_5 rfl rfl rfl ?_
  refine x_iload_n 1 7 C0 dX8_fill_6 rfl rfl rfl ?_
  refine x_iload_n 2 8 C0 dX8_fill_7 rfl rfl rfl ?_
  refine x_iload_n 3 9 C0 dX8_fill_8 rfl rfl rfl ?_
  refine x_iload 4 11 C0 dX8_fill_9 rfl rfl ?_
  refine x_callV 14 C0 (k_X8_fills l hl g _ _ n (upd (upd t 0 0) 1 0) v bf1 sv pa lb ip td sg MR_MW hJ1 cn ga ki po) dX8_fill_11 rfl mC_X8_fills mM_X8_121 mI_X8_fills mV_X8_fills mN_X8 yd_X8_fills rfl rfl ⟨Nat.le_of_ble_eq_true rfl, Nat.le_of_ble_eq_true rfl⟩ MR_MW.o rfl rfl rfl rfl (Nat.le_of_ble_eq_true rfl) ⟨Nat.le_of_ble_eq_true rfl, Nat.le_of_ble_eq_true rfl⟩ (fun _ _ _ q => False.elim q) (fun r w1 sz1 hz hP => ?_)
  obtain ⟨rfl, t2, v2, lb2, rfl, hJ2, hR2⟩ := hP
  refine x_w MW_MW ?_
  obtain ⟨⟨⟨a2, rfl⟩, he2⟩, hX2⟩ := hR2
  refine x_st (st1 := [.int a2, .ref (g.2 0 + 258)]) rfl ?_
  refine x_iconst (v := 1) 15 C0 dX8_fill_14 rfl (by decide) ?_
  refine x_iconst (v := 2) 16 C0 dX8_fill_15 rfl (by decide) ?_
  refine x_iconst (v := 3) 17 C0 dX8_fill_16 rfl (by decide) ?_
  refine x_callV 20 C0 (k_X8_ends l hl g _ _ n t2 v2 bf1 sv pa lb2 ip td sg MR_MW hJ2 a2 1 2 3) dX8_fill_17 rfl mC_X8_ends mM_X8_92 mI_X8_ends mV_X8_ends mN_X8 yd_X8_ends rfl rfl ⟨Nat.le_of_ble_eq_true rfl, Nat.le_of_ble_eq_true rfl⟩ MR_MW.o rfl rfl rfl rfl (Nat.le_of_ble_eq_true rfl) ⟨Nat.le_of_ble_eq_true rfl, Nat.le_of_ble_eq_true rfl⟩ (fun _ _ _ q => False.elim q) (fun r w1 sz1 hz hP => ?_)
  obtain ⟨rfl, t3, v3, pa3, rfl, hJ3, h73, he3, hE3⟩ := hP
  obtain ⟨z3, rfl⟩ := endP_r hE3
  refine x_w MW_MW ?_
  refine x_st (st1 := [.int z3]) rfl ?_
  exact x_ireturn C0 dX8_fill_20 rfl rfl (Nat.le_of_ble_eq_true rfl) (Nat.le_of_ble_eq_true rfl) ⟨rfl, _, _, _, _, _, rfl, hJ3, h73.trans (he2 7 (by decide)), ⟨a2, t2, v2, bf1, hX2, he2, hb1, hE3⟩⟩

set_option maxHeartbeats 4000000 in
set_option maxRecDepth 100000 in
theorem k_X8_empty (l : Launch) (hl : l.stackTraces = false) (g : xg_T) (w : xw_T) (sz n : Nat) (t v bf sv pa lb ip td sg : Nat → Int32) (hM : MR g w t v bf sv pa lb ip td sg) (hJ : MJ n t v bf sv pa sg) (cn : Int32) : xM l g yX8_empty cX8_empty 2 (some .int) ({ frames := 4, cells := 0, slots := 0, locals := 89 }) 0 0 [.ref (g.2 0 + 258), .int cn] w sz (mC g w sz n t sv ip td sg (fun r t' v' pa' => cP t v pa (R_X8_empties (upd (upd t 0 0) 1 0) v cn) 1 0 2 r t' v' pa')) (fun _ _ _ => False) := by
  refine xM.of RX8 hl (by decide +kernel) rfl (Nat.le_of_ble_eq_true rfl) rfl ?_
  intro p e s m args below meth cD C0 hini
  refine x_aload_n 0 1 C0 dX8_empty_0 rfl rfl rfl ?_
  refine x_callV 4 C0 (k_X8_begins l hl g _ _ n t v bf sv pa lb ip td sg hM hJ) dX8_empty_1 rfl mC_X8_begins mM_X8_85 mI_X8_begins mV_X8_begins mN_X8 yd_X8_begins rfl rfl ⟨Nat.le_of_ble_eq_true rfl, Nat.le_of_ble_eq_true rfl⟩ hM.o rfl rfl rfl rfl (Nat.le_of_ble_eq_true rfl) ⟨Nat.le_of_ble_eq_true rfl, Nat.le_of_ble_eq_true rfl⟩ (fun _ _ _ q => False.elim q) (fun r w1 sz1 hz hP => ?_)
  obtain ⟨rfl, rfl, bf1, rfl, hJ1, hb1⟩ := hP
  refine x_st (st1 := []) rfl ?_
  refine x_aload_n 0 5 C0 dX8_empty_4 rfl rfl rfl ?_
  refine x_aload_n 0 6 C0 dX8_empty_5 rfl rfl rfl ?_
  refine x_iload_n 1 7 C0 dX8_empty_6 rfl rfl rfl ?_
  refine x_callV 10 C0 (k_X8_empties l hl g _ _ n (upd (upd t 0 0) 1 0) v bf1 sv pa lb ip td sg MR_MW hJ1 cn) dX8_empty_7 rfl mC_X8_empties mM_X8_124 mI_X8_empties mV_X8_empties mN_X8 yd_X8_empties rfl rfl ⟨Nat.le_of_ble_eq_true rfl, Nat.le_of_ble_eq_true rfl⟩ MR_MW.o rfl rfl rfl rfl (Nat.le_of_ble_eq_true rfl) ⟨Nat.le_of_ble_eq_true rfl, Nat.le_of_ble_eq_true rfl⟩ (fun _ _ _ q => False.elim q) (fun r w1 sz1 hz hP => ?_)
  obtain ⟨rfl, t2, v2, lb2, rfl, hJ2, hR2⟩ := hP
  refine x_w MW_MW ?_
  obtain ⟨⟨⟨a2, rfl⟩, he2⟩, hX2⟩ := hR2
  refine x_st (st1 := [.int a2, .ref (g.2 0 + 258)]) rfl ?_
  refine x_iconst (v := 1) 11 C0 dX8_empty_10 rfl (by decide) ?_
  refine x_iconst (v := 0) 12 C0 dX8_empty_11 rfl (by decide) ?_
  refine x_iconst (v := 2) 13 C0 dX8_empty_12 rfl (by decide) ?_
  refine x_callV 16 C0 (k_X8_ends l hl g _ _ n t2 v2 bf1 sv pa lb2 ip td sg MR_MW hJ2 a2 1 0 2) dX8_empty_13 rfl mC_X8_ends mM_X8_92 mI_X8_ends mV_X8_ends mN_X8 yd_X8_ends rfl rfl ⟨Nat.le_of_ble_eq_true rfl, Nat.le_of_ble_eq_true rfl⟩ MR_MW.o rfl rfl rfl rfl (Nat.le_of_ble_eq_true rfl) ⟨Nat.le_of_ble_eq_true rfl, Nat.le_of_ble_eq_true rfl⟩ (fun _ _ _ q => False.elim q) (fun r w1 sz1 hz hP => ?_)
  obtain ⟨rfl, t3, v3, pa3, rfl, hJ3, h73, he3, hE3⟩ := hP
  obtain ⟨z3, rfl⟩ := endP_r hE3
  refine x_w MW_MW ?_
  refine x_st (st1 := [.int z3]) rfl ?_
  exact x_ireturn C0 dX8_empty_16 rfl rfl (Nat.le_of_ble_eq_true rfl) (Nat.le_of_ble_eq_true rfl) ⟨rfl, _, _, _, _, _, rfl, hJ3, h73.trans (he2 7 (by decide)), ⟨a2, t2, v2, bf1, hX2, he2, hb1, hE3⟩⟩

set_option maxHeartbeats 4000000 in
set_option maxRecDepth 100000 in
theorem k_X8_screw (l : Launch) (hl : l.stackTraces = false) (g : xg_T) (w : xw_T) (sz n : Nat) (t v bf sv pa lb ip td sg : Nat → Int32) (hM : MR g w t v bf sv pa lb ip td sg) (hJ : MJ n t v bf sv pa sg) (cn : Int32) (mn : Int32) : xM l g yX8_screw cX8_screw 3 (some .boolean) ({ frames := 3, cells := 0, slots := 0, locals := 65 }) 0 0 [.ref (g.2 0 + 258), .int cn, .int mn] w sz (mC g w sz n t sv ip td sg (fun r t' v' pa' => cPb t v pa (R_X8_screws (upd (upd t 0 0) 1 0) v cn mn) 1 2 3 r t' v' pa')) (fun _ _ _ => False) := by
  refine xM.of RX8 hl (by decide +kernel) rfl (Nat.le_of_ble_eq_true rfl) rfl ?_
  intro p e s m args below meth cD C0 hini
  refine x_aload_n 0 1 C0 dX8_screw_0 rfl rfl rfl ?_
  refine x_callV 4 C0 (k_X8_begins l hl g _ _ n t v bf sv pa lb ip td sg hM hJ) dX8_screw_1 rfl mC_X8_begins mM_X8_85 mI_X8_begins mV_X8_begins mN_X8 yd_X8_begins rfl rfl ⟨Nat.le_of_ble_eq_true rfl, Nat.le_of_ble_eq_true rfl⟩ hM.o rfl rfl rfl rfl (Nat.le_of_ble_eq_true rfl) ⟨Nat.le_of_ble_eq_true rfl, Nat.le_of_ble_eq_true rfl⟩ (fun _ _ _ q => False.elim q) (fun r w1 sz1 hz hP => ?_)
  obtain ⟨rfl, rfl, bf1, rfl, hJ1, hb1⟩ := hP
  refine x_st (st1 := []) rfl ?_
  refine x_aload_n 0 5 C0 dX8_screw_4 rfl rfl rfl ?_
  refine x_aload_n 0 6 C0 dX8_screw_5 rfl rfl rfl ?_
  refine x_iload_n 1 7 C0 dX8_screw_6 rfl rfl rfl ?_
  refine x_iload_n 2 8 C0 dX8_screw_7 rfl rfl rfl ?_
  refine x_callV 11 C0 (k_X8_screws l hl g _ _ n (upd (upd t 0 0) 1 0) v bf1 sv pa lb ip td sg MR_MW hJ1 cn mn) dX8_screw_8 rfl mC_X8_screws mM_X8_130 mI_X8_screws mV_X8_screws mN_X8 yd_X8_screws rfl rfl ⟨Nat.le_of_ble_eq_true rfl, Nat.le_of_ble_eq_true rfl⟩ MR_MW.o rfl rfl rfl rfl (Nat.le_of_ble_eq_true rfl) ⟨Nat.le_of_ble_eq_true rfl, Nat.le_of_ble_eq_true rfl⟩ (fun _ _ _ q => False.elim q) (fun r w1 sz1 hz hP => ?_)
  obtain ⟨rfl, t2, v2, lb2, rfl, hJ2, hR2⟩ := hP
  refine x_w MW_MW ?_
  obtain ⟨⟨⟨a2, rfl⟩, he2⟩, hX2⟩ := hR2
  refine x_st (st1 := [.int a2, .ref (g.2 0 + 258)]) rfl ?_
  refine x_iconst (v := 1) 12 C0 dX8_screw_11 rfl (by decide) ?_
  refine x_iconst (v := 2) 13 C0 dX8_screw_12 rfl (by decide) ?_
  refine x_iconst (v := 3) 14 C0 dX8_screw_13 rfl (by decide) ?_
  refine x_callV 17 C0 (k_X8_ends l hl g _ _ n t2 v2 bf1 sv pa lb2 ip td sg MR_MW hJ2 a2 1 2 3) dX8_screw_14 rfl mC_X8_ends mM_X8_92 mI_X8_ends mV_X8_ends mN_X8 yd_X8_ends rfl rfl ⟨Nat.le_of_ble_eq_true rfl, Nat.le_of_ble_eq_true rfl⟩ MR_MW.o rfl rfl rfl rfl (Nat.le_of_ble_eq_true rfl) ⟨Nat.le_of_ble_eq_true rfl, Nat.le_of_ble_eq_true rfl⟩ (fun _ _ _ q => False.elim q) (fun r w1 sz1 hz hP => ?_)
  obtain ⟨rfl, t3, v3, pa3, rfl, hJ3, h73, he3, hE3⟩ := hP
  obtain ⟨z3, rfl⟩ := endP_r hE3
  refine x_w MW_MW ?_
  refine x_st (st1 := [.int z3]) rfl ?_
  refine x_iconst (v := 1) 18 C0 dX8_screw_17 rfl (by decide) ?_
  refine x_icmp_ne 25 21 C0 dX8_screw_18 rfl (by decide) (fun c4 => ?_) (fun c4 => ?_)
  · refine x_iconst (v := 0) 26 C0 dX8_screw_25 rfl (by decide) ?_
    exact x_ireturn C0 dX8_screw_26 rfl rfl (Nat.le_of_ble_eq_true rfl) (Nat.le_of_ble_eq_true rfl) ⟨rfl, _, _, _, _, _, rfl, hJ3, h73.trans (he2 7 (by decide)), ⟨_, Or.inr ⟨c4, rfl⟩, ⟨a2, t2, v2, bf1, hX2, he2, hb1, hE3⟩⟩⟩
  · refine x_iconst (v := 1) 22 C0 dX8_screw_21 rfl (by decide) ?_
    refine x_goto 26 C0 dX8_screw_22 (by decide) ?_
    exact x_ireturn C0 dX8_screw_26 rfl rfl (Nat.le_of_ble_eq_true rfl) (Nat.le_of_ble_eq_true rfl) ⟨rfl, _, _, _, _, _, rfl, hJ3, h73.trans (he2 7 (by decide)), ⟨_, Or.inl ⟨c4, rfl⟩, ⟨a2, t2, v2, bf1, hX2, he2, hb1, hE3⟩⟩⟩

set_option maxHeartbeats 4000000 in
set_option maxRecDepth 100000 in
theorem k_X8_unscrew (l : Launch) (hl : l.stackTraces = false) (g : xg_T) (w : xw_T) (sz n : Nat) (t v bf sv pa lb ip td sg : Nat → Int32) (hM : MR g w t v bf sv pa lb ip td sg) (hJ : MJ n t v bf sv pa sg) (cn : Int32) : xM l g yX8_unscrew cX8_unscrew 2 (some .int) ({ frames := 3, cells := 0, slots := 0, locals := 65 }) 0 0 [.ref (g.2 0 + 258), .int cn] w sz (mC g w sz n t sv ip td sg (fun r t' v' pa' => cP t v pa (R_X8_unscrews (upd (upd t 0 0) 1 0) v cn) 1 0 2 r t' v' pa')) (fun _ _ _ => False) := by
  refine xM.of RX8 hl (by decide +kernel) rfl (Nat.le_of_ble_eq_true rfl) rfl ?_
  intro p e s m args below meth cD C0 hini
  refine x_aload_n 0 1 C0 dX8_unscrew_0 rfl rfl rfl ?_
  refine x_callV 4 C0 (k_X8_begins l hl g _ _ n t v bf sv pa lb ip td sg hM hJ) dX8_unscrew_1 rfl mC_X8_begins mM_X8_85 mI_X8_begins mV_X8_begins mN_X8 yd_X8_begins rfl rfl ⟨Nat.le_of_ble_eq_true rfl, Nat.le_of_ble_eq_true rfl⟩ hM.o rfl rfl rfl rfl (Nat.le_of_ble_eq_true rfl) ⟨Nat.le_of_ble_eq_true rfl, Nat.le_of_ble_eq_true rfl⟩ (fun _ _ _ q => False.elim q) (fun r w1 sz1 hz hP => ?_)
  obtain ⟨rfl, rfl, bf1, rfl, hJ1, hb1⟩ := hP
  refine x_st (st1 := []) rfl ?_
  refine x_aload_n 0 5 C0 dX8_unscrew_4 rfl rfl rfl ?_
  refine x_aload_n 0 6 C0 dX8_unscrew_5 rfl rfl rfl ?_
  refine x_iload_n 1 7 C0 dX8_unscrew_6 rfl rfl rfl ?_
  refine x_callV 10 C0 (k_X8_unscrews l hl g _ _ n (upd (upd t 0 0) 1 0) v bf1 sv pa lb ip td sg MR_MW hJ1 cn) dX8_unscrew_7 rfl mC_X8_unscrews mM_X8_133 mI_X8_unscrews mV_X8_unscrews mN_X8 yd_X8_unscrews rfl rfl ⟨Nat.le_of_ble_eq_true rfl, Nat.le_of_ble_eq_true rfl⟩ MR_MW.o rfl rfl rfl rfl (Nat.le_of_ble_eq_true rfl) ⟨Nat.le_of_ble_eq_true rfl, Nat.le_of_ble_eq_true rfl⟩ (fun _ _ _ q => False.elim q) (fun r w1 sz1 hz hP => ?_)
  obtain ⟨rfl, t2, v2, lb2, rfl, hJ2, hR2⟩ := hP
  refine x_w MW_MW ?_
  obtain ⟨⟨⟨a2, rfl⟩, he2⟩, hX2⟩ := hR2
  refine x_st (st1 := [.int a2, .ref (g.2 0 + 258)]) rfl ?_
  refine x_iconst (v := 1) 11 C0 dX8_unscrew_10 rfl (by decide) ?_
  refine x_iconst (v := 0) 12 C0 dX8_unscrew_11 rfl (by decide) ?_
  refine x_iconst (v := 2) 13 C0 dX8_unscrew_12 rfl (by decide) ?_
  refine x_callV 16 C0 (k_X8_ends l hl g _ _ n t2 v2 bf1 sv pa lb2 ip td sg MR_MW hJ2 a2 1 0 2) dX8_unscrew_13 rfl mC_X8_ends mM_X8_92 mI_X8_ends mV_X8_ends mN_X8 yd_X8_ends rfl rfl ⟨Nat.le_of_ble_eq_true rfl, Nat.le_of_ble_eq_true rfl⟩ MR_MW.o rfl rfl rfl rfl (Nat.le_of_ble_eq_true rfl) ⟨Nat.le_of_ble_eq_true rfl, Nat.le_of_ble_eq_true rfl⟩ (fun _ _ _ q => False.elim q) (fun r w1 sz1 hz hP => ?_)
  obtain ⟨rfl, t3, v3, pa3, rfl, hJ3, h73, he3, hE3⟩ := hP
  obtain ⟨z3, rfl⟩ := endP_r hE3
  refine x_w MW_MW ?_
  refine x_st (st1 := [.int z3]) rfl ?_
  exact x_ireturn C0 dX8_unscrew_16 rfl rfl (Nat.le_of_ble_eq_true rfl) (Nat.le_of_ble_eq_true rfl) ⟨rfl, _, _, _, _, _, rfl, hJ3, h73.trans (he2 7 (by decide)), ⟨a2, t2, v2, bf1, hX2, he2, hb1, hE3⟩⟩

set_option maxHeartbeats 4000000 in
set_option maxRecDepth 100000 in
theorem k_X8_label (l : Launch) (hl : l.stackTraces = false) (g : xg_T) (w : xw_T) (sz n : Nat) (t v bf sv pa lb ip td sg : Nat → Int32) (hM : MR g w t v bf sv pa lb ip td sg) (hJ : MJ n t v bf sv pa sg) (cn : Int32) : xM l g yX8_label cX8_label 2 (some .int) ({ frames := 3, cells := 0, slots := 0, locals := 66 }) 0 0 [.ref (g.2 0 + 258), .int cn] w sz (mC g w sz n t sv ip td sg (fun r t' v' pa' => cP t v pa (R_X8_labels (upd (upd t 0 0) 1 0) v cn) 1 0 2 r t' v' pa')) (fun _ _ _ => False) := by
  refine xM.of RX8 hl (by decide +kernel) rfl (Nat.le_of_ble_eq_true rfl) rfl ?_
  intro p e s m args below meth cD C0 hini
  refine x_aload_n 0 1 C0 dX8_label_0 rfl rfl rfl ?_
  refine x_callV 4 C0 (k_X8_begins l hl g _ _ n t v bf sv pa lb ip td sg hM hJ) dX8_label_1 rfl mC_X8_begins mM_X8_85 mI_X8_begins mV_X8_begins mN_X8 yd_X8_begins rfl rfl ⟨Nat.le_of_ble_eq_true rfl, Nat.le_of_ble_eq_true rfl⟩ hM.o rfl rfl rfl rfl (Nat.le_of_ble_eq_true rfl) ⟨Nat.le_of_ble_eq_true rfl, Nat.le_of_ble_eq_true rfl⟩ (fun _ _ _ q => False.elim q) (fun r w1 sz1 hz hP => ?_)
  obtain ⟨rfl, rfl, bf1, rfl, hJ1, hb1⟩ := hP
  refine x_st (st1 := []) rfl ?_
  refine x_aload_n 0 5 C0 dX8_label_4 rfl rfl rfl ?_
  refine x_aload_n 0 6 C0 dX8_label_5 rfl rfl rfl ?_
  refine x_iload_n 1 7 C0 dX8_label_6 rfl rfl rfl ?_
  refine x_callV 10 C0 (k_X8_labels l hl g _ _ n (upd (upd t 0 0) 1 0) v bf1 sv pa lb ip td sg MR_MW hJ1 cn) dX8_label_7 rfl mC_X8_labels mM_X8_146 mI_X8_labels mV_X8_labels mN_X8 yd_X8_labels rfl rfl ⟨Nat.le_of_ble_eq_true rfl, Nat.le_of_ble_eq_true rfl⟩ MR_MW.o rfl rfl rfl rfl (Nat.le_of_ble_eq_true rfl) ⟨Nat.le_of_ble_eq_true rfl, Nat.le_of_ble_eq_true rfl⟩ (fun _ _ _ q => False.elim q) (fun r w1 sz1 hz hP => ?_)
  obtain ⟨rfl, t2, v2, lb2, rfl, hJ2, hR2⟩ := hP
  refine x_w MW_MW ?_
  obtain ⟨⟨⟨a2, rfl⟩, he2⟩, hX2⟩ := hR2
  refine x_st (st1 := [.int a2, .ref (g.2 0 + 258)]) rfl ?_
  refine x_iconst (v := 1) 11 C0 dX8_label_10 rfl (by decide) ?_
  refine x_iconst (v := 0) 12 C0 dX8_label_11 rfl (by decide) ?_
  refine x_iconst (v := 2) 13 C0 dX8_label_12 rfl (by decide) ?_
  refine x_callV 16 C0 (k_X8_ends l hl g _ _ n t2 v2 bf1 sv pa lb2 ip td sg MR_MW hJ2 a2 1 0 2) dX8_label_13 rfl mC_X8_ends mM_X8_92 mI_X8_ends mV_X8_ends mN_X8 yd_X8_ends rfl rfl ⟨Nat.le_of_ble_eq_true rfl, Nat.le_of_ble_eq_true rfl⟩ MR_MW.o rfl rfl rfl rfl (Nat.le_of_ble_eq_true rfl) ⟨Nat.le_of_ble_eq_true rfl, Nat.le_of_ble_eq_true rfl⟩ (fun _ _ _ q => False.elim q) (fun r w1 sz1 hz hP => ?_)
  obtain ⟨rfl, t3, v3, pa3, rfl, hJ3, h73, he3, hE3⟩ := hP
  obtain ⟨z3, rfl⟩ := endP_r hE3
  refine x_w MW_MW ?_
  refine x_st (st1 := [.int z3]) rfl ?_
  exact x_ireturn C0 dX8_label_16 rfl rfl (Nat.le_of_ble_eq_true rfl) (Nat.le_of_ble_eq_true rfl) ⟨rfl, _, _, _, _, _, rfl, hJ3, h73.trans (he2 7 (by decide)), ⟨a2, t2, v2, bf1, hX2, he2, hb1, hE3⟩⟩

set_option maxHeartbeats 4000000 in
set_option maxRecDepth 100000 in
theorem k_X8_toQuay (l : Launch) (hl : l.stackTraces = false) (g : xg_T) (w : xw_T) (sz n : Nat) (t v bf sv pa lb ip td sg : Nat → Int32) (hM : MR g w t v bf sv pa lb ip td sg) (hJ : MJ n t v bf sv pa sg) (cn : Int32) : xM l g yX8_toQuay cX8_toQuay 2 (some .int) ({ frames := 3, cells := 0, slots := 0, locals := 65 }) 0 0 [.ref (g.2 0 + 258), .int cn] w sz (mC g w sz n t sv ip td sg (fun r t' v' pa' => cP t v pa (R_X8_goesOut (upd (upd t 0 0) 1 0) v cn) 1 0 2 r t' v' pa')) (fun _ _ _ => False) := by
  refine xM.of RX8 hl (by decide +kernel) rfl (Nat.le_of_ble_eq_true rfl) rfl ?_
  intro p e s m args below meth cD C0 hini
  refine x_aload_n 0 1 C0 dX8_toQuay_0 rfl rfl rfl ?_
  refine x_callV 4 C0 (k_X8_begins l hl g _ _ n t v bf sv pa lb ip td sg hM hJ) dX8_toQuay_1 rfl mC_X8_begins mM_X8_85 mI_X8_begins mV_X8_begins mN_X8 yd_X8_begins rfl rfl ⟨Nat.le_of_ble_eq_true rfl, Nat.le_of_ble_eq_true rfl⟩ hM.o rfl rfl rfl rfl (Nat.le_of_ble_eq_true rfl) ⟨Nat.le_of_ble_eq_true rfl, Nat.le_of_ble_eq_true rfl⟩ (fun _ _ _ q => False.elim q) (fun r w1 sz1 hz hP => ?_)
  obtain ⟨rfl, rfl, bf1, rfl, hJ1, hb1⟩ := hP
  refine x_st (st1 := []) rfl ?_
  refine x_aload_n 0 5 C0 dX8_toQuay_4 rfl rfl rfl ?_
  refine x_aload_n 0 6 C0 dX8_toQuay_5 rfl rfl rfl ?_
  refine x_iload_n 1 7 C0 dX8_toQuay_6 rfl rfl rfl ?_
  refine x_callV 10 C0 (k_X8_goesOut l hl g _ _ n (upd (upd t 0 0) 1 0) v bf1 sv pa lb ip td sg MR_MW hJ1 cn) dX8_toQuay_7 rfl mC_X8_goesOut mM_X8_158 mI_X8_goesOut mV_X8_goesOut mN_X8 yd_X8_goesOut rfl rfl ⟨Nat.le_of_ble_eq_true rfl, Nat.le_of_ble_eq_true rfl⟩ MR_MW.o rfl rfl rfl rfl (Nat.le_of_ble_eq_true rfl) ⟨Nat.le_of_ble_eq_true rfl, Nat.le_of_ble_eq_true rfl⟩ (fun _ _ _ q => False.elim q) (fun r w1 sz1 hz hP => ?_)
  obtain ⟨rfl, t2, v2, lb2, rfl, hJ2, hR2⟩ := hP
  refine x_w MW_MW ?_
  obtain ⟨⟨⟨a2, rfl⟩, he2⟩, hX2⟩ := hR2
  refine x_st (st1 := [.int a2, .ref (g.2 0 + 258)]) rfl ?_
  refine x_iconst (v := 1) 11 C0 dX8_toQuay_10 rfl (by decide) ?_
  refine x_iconst (v := 0) 12 C0 dX8_toQuay_11 rfl (by decide) ?_
  refine x_iconst (v := 2) 13 C0 dX8_toQuay_12 rfl (by decide) ?_
  refine x_callV 16 C0 (k_X8_ends l hl g _ _ n t2 v2 bf1 sv pa lb2 ip td sg MR_MW hJ2 a2 1 0 2) dX8_toQuay_13 rfl mC_X8_ends mM_X8_92 mI_X8_ends mV_X8_ends mN_X8 yd_X8_ends rfl rfl ⟨Nat.le_of_ble_eq_true rfl, Nat.le_of_ble_eq_true rfl⟩ MR_MW.o rfl rfl rfl rfl (Nat.le_of_ble_eq_true rfl) ⟨Nat.le_of_ble_eq_true rfl, Nat.le_of_ble_eq_true rfl⟩ (fun _ _ _ q => False.elim q) (fun r w1 sz1 hz hP => ?_)
  obtain ⟨rfl, t3, v3, pa3, rfl, hJ3, h73, he3, hE3⟩ := hP
  obtain ⟨z3, rfl⟩ := endP_r hE3
  refine x_w MW_MW ?_
  refine x_st (st1 := [.int z3]) rfl ?_
  exact x_ireturn C0 dX8_toQuay_16 rfl rfl (Nat.le_of_ble_eq_true rfl) (Nat.le_of_ble_eq_true rfl) ⟨rfl, _, _, _, _, _, rfl, hJ3, h73.trans (he2 7 (by decide)), ⟨a2, t2, v2, bf1, hX2, he2, hb1, hE3⟩⟩

set_option maxHeartbeats 4000000 in
set_option maxRecDepth 100000 in
theorem k_X8_load (l : Launch) (hl : l.stackTraces = false) (g : xg_T) (w : xw_T) (sz n : Nat) (t v bf sv pa lb ip td sg : Nat → Int32) (hM : MR g w t v bf sv pa lb ip td sg) (hJ : MJ n t v bf sv pa sg) (cn : Int32) : xM l g yX8_load cX8_load 2 (some .int) ({ frames := 3, cells := 0, slots := 0, locals := 64 }) 0 0 [.ref (g.2 0 + 258), .int cn] w sz (mC g w sz n t sv ip td sg (fun r t' v' pa' => cP t v pa (R_X8_loads (upd (upd t 0 0) 1 0) v cn) 1 0 2 r t' v' pa')) (fun _ _ _ => False) := by
  refine xM.of RX8 hl (by decide +kernel) rfl (Nat.le_of_ble_eq_true rfl) rfl ?_
  intro p e s m args below meth cD C0 hini
  refine x_aload_n 0 1 C0 dX8_load_0 rfl rfl rfl ?_
  refine x_callV 4 C0 (k_X8_begins l hl g _ _ n t v bf sv pa lb ip td sg hM hJ) dX8_load_1 rfl mC_X8_begins mM_X8_85 mI_X8_begins mV_X8_begins mN_X8 yd_X8_begins rfl rfl ⟨Nat.le_of_ble_eq_true rfl, Nat.le_of_ble_eq_true rfl⟩ hM.o rfl rfl rfl rfl (Nat.le_of_ble_eq_true rfl) ⟨Nat.le_of_ble_eq_true rfl, Nat.le_of_ble_eq_true rfl⟩ (fun _ _ _ q => False.elim q) (fun r w1 sz1 hz hP => ?_)
  obtain ⟨rfl, rfl, bf1, rfl, hJ1, hb1⟩ := hP
  refine x_st (st1 := []) rfl ?_
  refine x_aload_n 0 5 C0 dX8_load_4 rfl rfl rfl ?_
  refine x_aload_n 0 6 C0 dX8_load_5 rfl rfl rfl ?_
  refine x_iload_n 1 7 C0 dX8_load_6 rfl rfl rfl ?_
  refine x_callV 10 C0 (k_X8_loads l hl g _ _ n (upd (upd t 0 0) 1 0) v bf1 sv pa lb ip td sg MR_MW hJ1 cn) dX8_load_7 rfl mC_X8_loads mM_X8_168 mI_X8_loads mV_X8_loads mN_X8 yd_X8_loads rfl rfl ⟨Nat.le_of_ble_eq_true rfl, Nat.le_of_ble_eq_true rfl⟩ MR_MW.o rfl rfl rfl rfl (Nat.le_of_ble_eq_true rfl) ⟨Nat.le_of_ble_eq_true rfl, Nat.le_of_ble_eq_true rfl⟩ (fun _ _ _ q => False.elim q) (fun r w1 sz1 hz hP => ?_)
  obtain ⟨rfl, t2, v2, lb2, rfl, hJ2, hR2⟩ := hP
  refine x_w MW_MW ?_
  obtain ⟨⟨⟨a2, rfl⟩, he2⟩, hX2⟩ := hR2
  refine x_st (st1 := [.int a2, .ref (g.2 0 + 258)]) rfl ?_
  refine x_iconst (v := 1) 11 C0 dX8_load_10 rfl (by decide) ?_
  refine x_iconst (v := 0) 12 C0 dX8_load_11 rfl (by decide) ?_
  refine x_iconst (v := 2) 13 C0 dX8_load_12 rfl (by decide) ?_
  refine x_callV 16 C0 (k_X8_ends l hl g _ _ n t2 v2 bf1 sv pa lb2 ip td sg MR_MW hJ2 a2 1 0 2) dX8_load_13 rfl mC_X8_ends mM_X8_92 mI_X8_ends mV_X8_ends mN_X8 yd_X8_ends rfl rfl ⟨Nat.le_of_ble_eq_true rfl, Nat.le_of_ble_eq_true rfl⟩ MR_MW.o rfl rfl rfl rfl (Nat.le_of_ble_eq_true rfl) ⟨Nat.le_of_ble_eq_true rfl, Nat.le_of_ble_eq_true rfl⟩ (fun _ _ _ q => False.elim q) (fun r w1 sz1 hz hP => ?_)
  obtain ⟨rfl, t3, v3, pa3, rfl, hJ3, h73, he3, hE3⟩ := hP
  obtain ⟨z3, rfl⟩ := endP_r hE3
  refine x_w MW_MW ?_
  refine x_st (st1 := [.int z3]) rfl ?_
  exact x_ireturn C0 dX8_load_16 rfl rfl (Nat.le_of_ble_eq_true rfl) (Nat.le_of_ble_eq_true rfl) ⟨rfl, _, _, _, _, _, rfl, hJ3, h73.trans (he2 7 (by decide)), ⟨a2, t2, v2, bf1, hX2, he2, hb1, hE3⟩⟩

set_option maxHeartbeats 4000000 in
set_option maxRecDepth 100000 in
theorem k_X8_sail (l : Launch) (hl : l.stackTraces = false) (g : xg_T) (w : xw_T) (sz n : Nat) (t v bf sv pa lb ip td sg : Nat → Int32) (hM : MR g w t v bf sv pa lb ip td sg) (hJ : MJ n t v bf sv pa sg) : xM l g yX8_sail cX8_sail 1 (some .int) ({ frames := 4, cells := 0, slots := 0, locals := 87 }) 0 0 [.ref (g.2 0 + 258)] w sz (mC g w sz n t sv ip td sg (fun r t' v' pa' => cP t v pa (R_X8_sails (upd (upd t 0 0) 1 0) v) 0 0 1 r t' v' pa')) (fun _ _ _ => False) := by
  refine xM.of RX8 hl (by decide +kernel) rfl (Nat.le_of_ble_eq_true rfl) rfl ?_
  intro p e s m args below meth cD C0 hini
  refine x_aload_n 0 1 C0 dX8_sail_0 rfl rfl rfl ?_
  refine x_callV 4 C0 (k_X8_begins l hl g _ _ n t v bf sv pa lb ip td sg hM hJ) dX8_sail_1 rfl mC_X8_begins mM_X8_85 mI_X8_begins mV_X8_begins mN_X8 yd_X8_begins rfl rfl ⟨Nat.le_of_ble_eq_true rfl, Nat.le_of_ble_eq_true rfl⟩ hM.o rfl rfl rfl rfl (Nat.le_of_ble_eq_true rfl) ⟨Nat.le_of_ble_eq_true rfl, Nat.le_of_ble_eq_true rfl⟩ (fun _ _ _ q => False.elim q) (fun r w1 sz1 hz hP => ?_)
  obtain ⟨rfl, rfl, bf1, rfl, hJ1, hb1⟩ := hP
  refine x_st (st1 := []) rfl ?_
  refine x_aload_n 0 5 C0 dX8_sail_4 rfl rfl rfl ?_
  refine x_aload_n 0 6 C0 dX8_sail_5 rfl rfl rfl ?_
  refine x_callV 9 C0 (k_X8_sails l hl g _ _ n (upd (upd t 0 0) 1 0) v bf1 sv pa lb ip td sg MR_MW hJ1) dX8_sail_6 rfl mC_X8_sails mM_X8_174 mI_X8_sails mV_X8_sails mN_X8 yd_X8_sails rfl rfl ⟨Nat.le_of_ble_eq_true rfl, Nat.le_of_ble_eq_true rfl⟩ MR_MW.o rfl rfl rfl rfl (Nat.le_of_ble_eq_true rfl) ⟨Nat.le_of_ble_eq_true rfl, Nat.le_of_ble_eq_true rfl⟩ (fun _ _ _ q => False.elim q) (fun r w1 sz1 hz hP => ?_)
  obtain ⟨rfl, t2, v2, lb2, rfl, hJ2, hR2⟩ := hP
  refine x_w MW_MW ?_
  obtain ⟨⟨⟨a2, rfl⟩, he2⟩, hX2⟩ := hR2
  refine x_st (st1 := [.int a2, .ref (g.2 0 + 258)]) rfl ?_
  refine x_iconst (v := 0) 10 C0 dX8_sail_9 rfl (by decide) ?_
  refine x_iconst (v := 0) 11 C0 dX8_sail_10 rfl (by decide) ?_
  refine x_iconst (v := 1) 12 C0 dX8_sail_11 rfl (by decide) ?_
  refine x_callV 15 C0 (k_X8_ends l hl g _ _ n t2 v2 bf1 sv pa lb2 ip td sg MR_MW hJ2 a2 0 0 1) dX8_sail_12 rfl mC_X8_ends mM_X8_92 mI_X8_ends mV_X8_ends mN_X8 yd_X8_ends rfl rfl ⟨Nat.le_of_ble_eq_true rfl, Nat.le_of_ble_eq_true rfl⟩ MR_MW.o rfl rfl rfl rfl (Nat.le_of_ble_eq_true rfl) ⟨Nat.le_of_ble_eq_true rfl, Nat.le_of_ble_eq_true rfl⟩ (fun _ _ _ q => False.elim q) (fun r w1 sz1 hz hP => ?_)
  obtain ⟨rfl, t3, v3, pa3, rfl, hJ3, h73, he3, hE3⟩ := hP
  obtain ⟨z3, rfl⟩ := endP_r hE3
  refine x_w MW_MW ?_
  refine x_st (st1 := [.int z3]) rfl ?_
  exact x_ireturn C0 dX8_sail_15 rfl rfl (Nat.le_of_ble_eq_true rfl) (Nat.le_of_ble_eq_true rfl) ⟨rfl, _, _, _, _, _, rfl, hJ3, h73.trans (he2 7 (by decide)), ⟨a2, t2, v2, bf1, hX2, he2, hb1, hE3⟩⟩

set_option maxHeartbeats 4000000 in
set_option maxRecDepth 100000 in
theorem k_X8_setHumidity (l : Launch) (hl : l.stackTraces = false) (g : xg_T) (w : xw_T) (sz n : Nat) (t v bf sv pa lb ip td sg : Nat → Int32) (hM : MR g w t v bf sv pa lb ip td sg) (hJ : MJ n t v bf sv pa sg) (hu : Int32) : xM l g yX8_setHumidity cX8_setHumidity 2 (some .int) ({ frames := 2, cells := 0, slots := 0, locals := 47 }) 0 0 [.ref (g.2 0 + 258), .int hu] w sz (mC g w sz n t sv ip td sg (fun r t' v' pa' => cP t v pa (R_X8_humid (upd (upd t 0 0) 1 0) v hu) 0 1 0 r t' v' pa')) (fun _ _ _ => False) := by
  refine xM.of RX8 hl (by decide +kernel) rfl (Nat.le_of_ble_eq_true rfl) rfl ?_
  intro p e s m args below meth cD C0 hini
  refine x_aload_n 0 1 C0 dX8_setHumidity_0 rfl rfl rfl ?_
  refine x_callV 4 C0 (k_X8_begins l hl g _ _ n t v bf sv pa lb ip td sg hM hJ) dX8_setHumidity_1 rfl mC_X8_begins mM_X8_85 mI_X8_begins mV_X8_begins mN_X8 yd_X8_begins rfl rfl ⟨Nat.le_of_ble_eq_true rfl, Nat.le_of_ble_eq_true rfl⟩ hM.o rfl rfl rfl rfl (Nat.le_of_ble_eq_true rfl) ⟨Nat.le_of_ble_eq_true rfl, Nat.le_of_ble_eq_true rfl⟩ (fun _ _ _ q => False.elim q) (fun r w1 sz1 hz hP => ?_)
  obtain ⟨rfl, rfl, bf1, rfl, hJ1, hb1⟩ := hP
  refine x_st (st1 := []) rfl ?_
  refine x_aload_n 0 5 C0 dX8_setHumidity_4 rfl rfl rfl ?_
  refine x_aload_n 0 6 C0 dX8_setHumidity_5 rfl rfl rfl ?_
  refine x_iload_n 1 7 C0 dX8_setHumidity_6 rfl rfl rfl ?_
  refine x_callV 10 C0 (k_X8_humid l hl g _ _ n (upd (upd t 0 0) 1 0) v bf1 sv pa lb ip td sg MR_MW hJ1 hu) dX8_setHumidity_7 rfl mC_X8_humid mM_X8_180 mI_X8_humid mV_X8_humid mN_X8 yd_X8_humid rfl rfl ⟨Nat.le_of_ble_eq_true rfl, Nat.le_of_ble_eq_true rfl⟩ MR_MW.o rfl rfl rfl rfl (Nat.le_of_ble_eq_true rfl) ⟨Nat.le_of_ble_eq_true rfl, Nat.le_of_ble_eq_true rfl⟩ (fun _ _ _ q => False.elim q) (fun r w1 sz1 hz hP => ?_)
  obtain ⟨rfl, t2, v2, lb2, rfl, hJ2, hR2⟩ := hP
  refine x_w MW_MW ?_
  obtain ⟨⟨⟨a2, rfl⟩, he2⟩, hX2⟩ := hR2
  refine x_st (st1 := [.int a2, .ref (g.2 0 + 258)]) rfl ?_
  refine x_iconst (v := 0) 11 C0 dX8_setHumidity_10 rfl (by decide) ?_
  refine x_iconst (v := 1) 12 C0 dX8_setHumidity_11 rfl (by decide) ?_
  refine x_iconst (v := 0) 13 C0 dX8_setHumidity_12 rfl (by decide) ?_
  refine x_callV 16 C0 (k_X8_ends l hl g _ _ n t2 v2 bf1 sv pa lb2 ip td sg MR_MW hJ2 a2 0 1 0) dX8_setHumidity_13 rfl mC_X8_ends mM_X8_92 mI_X8_ends mV_X8_ends mN_X8 yd_X8_ends rfl rfl ⟨Nat.le_of_ble_eq_true rfl, Nat.le_of_ble_eq_true rfl⟩ MR_MW.o rfl rfl rfl rfl (Nat.le_of_ble_eq_true rfl) ⟨Nat.le_of_ble_eq_true rfl, Nat.le_of_ble_eq_true rfl⟩ (fun _ _ _ q => False.elim q) (fun r w1 sz1 hz hP => ?_)
  obtain ⟨rfl, t3, v3, pa3, rfl, hJ3, h73, he3, hE3⟩ := hP
  obtain ⟨z3, rfl⟩ := endP_r hE3
  refine x_w MW_MW ?_
  refine x_st (st1 := [.int z3]) rfl ?_
  exact x_ireturn C0 dX8_setHumidity_16 rfl rfl (Nat.le_of_ble_eq_true rfl) (Nat.le_of_ble_eq_true rfl) ⟨rfl, _, _, _, _, _, rfl, hJ3, h73.trans (he2 7 (by decide)), ⟨a2, t2, v2, bf1, hX2, he2, hb1, hE3⟩⟩

set_option maxHeartbeats 4000000 in
set_option maxRecDepth 100000 in
theorem k_X8_pass (l : Launch) (hl : l.stackTraces = false) (g : xg_T) (w : xw_T) (sz n : Nat) (t v bf sv pa lb ip td sg : Nat → Int32) (hM : MR g w t v bf sv pa lb ip td sg) (hJ : MJ n t v bf sv pa sg) (hs : Int32) : xM l g yX8_pass cX8_pass 2 (some .int) ({ frames := 4, cells := 0, slots := 0, locals := 85 }) 0 0 [.ref (g.2 0 + 258), .int hs] w sz (mC g w sz n t sv ip td sg (fun r t' v' pa' => cP t v pa (R_X8_passes (upd (upd t 0 0) 1 0) v hs) 0 1 0 r t' v' pa')) (fun _ _ _ => False) := by
  refine xM.of RX8 hl (by decide +kernel) rfl (Nat.le_of_ble_eq_true rfl) rfl ?_
  intro p e s m args below meth cD C0 hini
  refine x_aload_n 0 1 C0 dX8_pass_0 rfl rfl rfl ?_
  refine x_callV 4 C0 (k_X8_begins l hl g _ _ n t v bf sv pa lb ip td sg hM hJ) dX8_pass_1 rfl mC_X8_begins mM_X8_85 mI_X8_begins mV_X8_begins mN_X8 yd_X8_begins rfl rfl ⟨Nat.le_of_ble_eq_true rfl, Nat.le_of_ble_eq_true rfl⟩ hM.o rfl rfl rfl rfl (Nat.le_of_ble_eq_true rfl) ⟨Nat.le_of_ble_eq_true rfl, Nat.le_of_ble_eq_true rfl⟩ (fun _ _ _ q => False.elim q) (fun r w1 sz1 hz hP => ?_)
  obtain ⟨rfl, rfl, bf1, rfl, hJ1, hb1⟩ := hP
  refine x_st (st1 := []) rfl ?_
  refine x_aload_n 0 5 C0 dX8_pass_4 rfl rfl rfl ?_
  refine x_aload_n 0 6 C0 dX8_pass_5 rfl rfl rfl ?_
  refine x_iload_n 1 7 C0 dX8_pass_6 rfl rfl rfl ?_
  refine x_callV 10 C0 (k_X8_passes l hl g _ _ n (upd (upd t 0 0) 1 0) v bf1 sv pa lb ip td sg MR_MW hJ1 hs _ rfl) dX8_pass_7 rfl mC_X8_passes mM_X8_186 mI_X8_passes mV_X8_passes mN_X8 yd_X8_passes rfl rfl ⟨Nat.le_of_ble_eq_true rfl, Nat.le_of_ble_eq_true rfl⟩ MR_MW.o rfl rfl rfl rfl (Nat.le_of_ble_eq_true rfl) ⟨Nat.le_of_ble_eq_true rfl, Nat.le_of_ble_eq_true rfl⟩ (fun _ _ _ q => False.elim q) (fun r w1 sz1 hz hP => ?_)
  obtain ⟨rfl, t2, v2, lb2, rfl, hJ2, hR2⟩ := hP
  refine x_w MW_MW ?_
  obtain ⟨⟨⟨a2, rfl⟩, he2⟩, hX2⟩ := hR2
  refine x_st (st1 := [.int a2, .ref (g.2 0 + 258)]) rfl ?_
  refine x_iconst (v := 0) 11 C0 dX8_pass_10 rfl (by decide) ?_
  refine x_iconst (v := 1) 12 C0 dX8_pass_11 rfl (by decide) ?_
  refine x_iconst (v := 0) 13 C0 dX8_pass_12 rfl (by decide) ?_
  refine x_callV 16 C0 (k_X8_ends l hl g _ _ n t2 v2 bf1 sv pa lb2 ip td sg MR_MW hJ2 a2 0 1 0) dX8_pass_13 rfl mC_X8_ends mM_X8_92 mI_X8_ends mV_X8_ends mN_X8 yd_X8_ends rfl rfl ⟨Nat.le_of_ble_eq_true rfl, Nat.le_of_ble_eq_true rfl⟩ MR_MW.o rfl rfl rfl rfl (Nat.le_of_ble_eq_true rfl) ⟨Nat.le_of_ble_eq_true rfl, Nat.le_of_ble_eq_true rfl⟩ (fun _ _ _ q => False.elim q) (fun r w1 sz1 hz hP => ?_)
  obtain ⟨rfl, t3, v3, pa3, rfl, hJ3, h73, he3, hE3⟩ := hP
  obtain ⟨z3, rfl⟩ := endP_r hE3
  refine x_w MW_MW ?_
  refine x_st (st1 := [.int z3]) rfl ?_
  exact x_ireturn C0 dX8_pass_16 rfl rfl (Nat.le_of_ble_eq_true rfl) (Nat.le_of_ble_eq_true rfl) ⟨rfl, _, _, _, _, _, rfl, hJ3, h73.trans (he2 7 (by decide)), ⟨a2, t2, v2, bf1, hX2, he2, hb1, hE3⟩⟩

def mRd (g : xg_T) (w : xw_T) (sz n : Nat) (t v bf sv pa ip td sg : Nat → Int32) (P : Option Value → Int32 → Prop) : Option Value → xw_T → Nat → Prop := fun r w1 sz1 => sz = sz1 ∧ ∃ t' lb', w1 = MW g w t' v bf sv pa lb' ip td sg ∧ MJ n t' v bf sv pa sg ∧ tL t t' ∧ P r (t' 0)
def Q_X8_leaves (n : Nat) (t v : Nat → Int32) (ga : Int32) (ki : Int32) (r : Option Value) (z : Int32) : Prop :=
  (∃ (a : Nat) (b : Nat), (ga = nI a) ∧ (ki = nI b) ∧ (a < 6) ∧ (b < 3) ∧ (z = 0) ∧ (r = some (.int (v (10 + 3 * a + b))))) ∨
  ((isLeafB ga ki = false) ∧ (z = 1) ∧ (r = some (.int (0))))
set_option maxHeartbeats 4000000 in
set_option maxRecDepth 100000 in
theorem k_X8_leaves (l : Launch) (hl : l.stackTraces = false) (g : xg_T) (w : xw_T) (sz n : Nat) (t v bf sv pa lb ip td sg : Nat → Int32) (hM : MR g w t v bf sv pa lb ip td sg) (hJ : MJ n t v bf sv pa sg) (ga : Int32) (ki : Int32) : xM l g yX8_leaves cX8_leaves 3 (some .int) ({ frames := 2, cells := 0, slots := 0, locals := 43 }) 0 0 [.ref (g.2 0 + 258), .int ga, .int ki] w sz (mRd g w sz n t v bf sv pa ip td sg (fun r z => (∃ q : Int32, r = some (.int q)) ∧ Q_X8_leaves n t v ga ki r z)) (fun _ _ _ => False) := by
  refine xM.of RX8 hl (by decide +kernel) rfl (Nat.le_of_ble_eq_true rfl) rfl ?_
  intro p e s m args below meth cD C0 hini
  refine x_aload_n 0 1 C0 dX8_leaves_0 rfl rfl rfl ?_
  refine x_iconst (v := 0) 2 C0 dX8_leaves_1 rfl (by decide) ?_
  refine x_w (MW_self hM) ?_
  refine x_putf 0 5 C0 dX8_leaves_2 rfl MR_MW.o (by show g.2 0 ≤ _; omega) rfl (by decide) inX8 tyX8_ok nmX8 mF_X8_34 rfl rfl rfl rfl (Nat.le_of_ble_eq_true rfl) ?_
  refine x_w (w1 := (MW g w (upd t 0 0) v bf sv pa lb ip td sg)) (MW_o rfl) ?_
  have hJ1 : MJ n (upd t 0 0) v bf sv pa sg := hJ.j_t (by decide)
  refine x_iload_n 1 6 C0 dX8_leaves_5 rfl rfl rfl ?_
  refine x_iload_n 2 7 C0 dX8_leaves_6 rfl rfl rfl ?_
  refine x_callS 10 C0 (k_X8_isLeaf l hl g _ _ ga ki) dX8_leaves_7 rfl mC_X8_isLeaf mM_X8_75 mS_X8_isLeaf mN_X8 yd_X8_isLeaf rfl rfl ⟨Nat.le_of_ble_eq_true rfl, Nat.le_of_ble_eq_true rfl⟩ rfl rfl (Nat.le_of_ble_eq_true rfl) ⟨Nat.le_of_ble_eq_true rfl, Nat.le_of_ble_eq_true rfl⟩ (fun _ _ _ q => False.elim q) (fun r w1 sz1 hz hP => ?_)
  obtain ⟨hr, rfl, rfl⟩ := hP
  rcases hr with ⟨⟨a, b, ha, hb, hav, hbv⟩, rfl⟩ | ⟨rfl, hln⟩
  · subst hav hbv
    refine x_st (st1 := [.int 1]) rfl ?_
    refine x_if_eq 26 13 C0 dX8_leaves_10 rfl (by decide) (fun q => False.elim (by revert q; decide)) (fun _ => ?_)
    refine x_aload_n 0 14 C0 dX8_leaves_13 rfl rfl rfl ?_
    refine x_getf (v := .ref (g.2 0 + 258 + 1)) 8 17 C0 dX8_leaves_14 rfl MR_MW.o rfl (by decide) inX8 mF_X8_7 rfl ?_
    refine x_iload_n 1 18 C0 dX8_leaves_17 rfl rfl rfl ?_
    refine x_iload_n 2 19 C0 dX8_leaves_18 rfl rfl rfl ?_
    refine x_callS 22 C0 (k_X8_leaf l hl g _ _ (nI a) (nI b)) dX8_leaves_19 rfl mC_X8_leaf mM_X8_79 mS_X8_leaf mN_X8 yd_X8_leaf rfl rfl ⟨Nat.le_of_ble_eq_true rfl, Nat.le_of_ble_eq_true rfl⟩ rfl rfl (Nat.le_of_ble_eq_true rfl) ⟨Nat.le_of_ble_eq_true rfl, Nat.le_of_ble_eq_true rfl⟩ (fun _ _ _ q => False.elim q) (fun r w1 sz1 hz hP => ?_)
    obtain ⟨rfl, rfl, rfl⟩ := hP
    refine x_st (st1 := [.int (nI (10 + 3 * a + b)), .ref (g.2 0 + 258 + 1)]) (congrArg (fun z => Value.int z :: _) (at_nI 10 3 a b)) ?_
    refine x_iald 0 23 C0 dX8_leaves_22 rfl MR_MW.r_v rfl (vp_in_nI (n := 10 + 3 * a + b) (by omega) (by decide)) ?_
    refine x_st (st1 := [.int (v (10 + 3 * a + b))]) (congrArg (fun z => Value.int z :: _) (show v (nI (10 + 3 * a + b)).toNatClampNeg = v (10 + 3 * a + b) from by rw [nI_clamp (by omega)])) ?_
    refine x_goto 31 C0 dX8_leaves_23 (by decide) ?_
    exact x_ireturn C0 dX8_leaves_31 rfl rfl (Nat.le_of_ble_eq_true rfl) (Nat.le_of_ble_eq_true rfl) ⟨rfl, _, _, rfl, hJ1, (tL.rf.up (by decide)), ⟨⟨_, rfl⟩, (Or.inl ⟨a, b, rfl, rfl, ha, hb, rfl, rfl⟩)⟩⟩
  · refine x_st (st1 := [.int 0]) rfl ?_
    refine x_if_eq 26 13 C0 dX8_leaves_10 rfl (by decide) (fun _ => ?_) (fun q => False.elim (by revert q; decide))
    refine x_aload_n 0 27 C0 dX8_leaves_26 rfl rfl rfl ?_
    refine x_iconst (v := 1) 28 C0 dX8_leaves_27 rfl (by decide) ?_
    refine x_callV 31 C0 (k_X8_no l hl g _ _ n (upd t 0 0) v bf sv pa lb ip td sg MR_MW hJ1 1) dX8_leaves_28 rfl mC_X8_no mM_X8_61 mI_X8_no mV_X8_no mN_X8 yd_X8_no rfl rfl ⟨Nat.le_of_ble_eq_true rfl, Nat.le_of_ble_eq_true rfl⟩ MR_MW.o rfl rfl rfl rfl (Nat.le_of_ble_eq_true rfl) ⟨Nat.le_of_ble_eq_true rfl, Nat.le_of_ble_eq_true rfl⟩ (fun _ _ _ q => False.elim q) (fun r w1 sz1 hz hP => ?_)
    obtain ⟨rfl, rfl, rfl⟩ := hP
    refine x_w MW_MW ?_
    have hJ4 : MJ n (upd (upd t 0 0) 0 1) v bf sv pa sg := (hJ1.j_t (by decide))
    refine x_st (st1 := [.int 0]) rfl ?_
    exact x_ireturn C0 dX8_leaves_31 rfl rfl (Nat.le_of_ble_eq_true rfl) (Nat.le_of_ble_eq_true rfl) ⟨rfl, _, _, rfl, hJ4, ((tL.rf.up (by decide)).up (by decide)), ⟨⟨_, rfl⟩, (Or.inr (⟨hln, rfl, rfl⟩))⟩⟩

def Q_X8_cargo (n : Nat) (t v : Nat → Int32) (r : Option Value) (z : Int32) : Prop :=
  (∃ (m2 : Nat), (m2 ≤ 20) ∧ (v 3 = nI m2) ∧ (z = 0) ∧ (r = some (.int (rCargo v m2))))
set_option maxHeartbeats 4000000 in
set_option maxRecDepth 100000 in
theorem k_X8_cargo (l : Launch) (hl : l.stackTraces = false) (g : xg_T) (w : xw_T) (sz n : Nat) (t v bf sv pa lb ip td sg : Nat → Int32) (hM : MR g w t v bf sv pa lb ip td sg) (hJ : MJ n t v bf sv pa sg) : xM l g yX8_cargo cX8_cargo 1 (some .int) ({ frames := 3, cells := 0, slots := 0, locals := 65 }) 0 0 [.ref (g.2 0 + 258)] w sz (mRd g w sz n t v bf sv pa ip td sg (fun r z => (∃ q : Int32, r = some (.int q)) ∧ Q_X8_cargo n t v r z)) (fun _ _ _ => False) := by
  refine xM.of RX8 hl (by decide +kernel) rfl (Nat.le_of_ble_eq_true rfl) rfl ?_
  intro p e s m args below meth cD C0 hini
  refine x_aload_n 0 1 C0 dX8_cargo_0 rfl rfl rfl ?_
  refine x_iconst (v := 0) 2 C0 dX8_cargo_1 rfl (by decide) ?_
  refine x_w (MW_self hM) ?_
  refine x_putf 0 5 C0 dX8_cargo_2 rfl MR_MW.o (by show g.2 0 ≤ _; omega) rfl (by decide) inX8 tyX8_ok nmX8 mF_X8_34 rfl rfl rfl rfl (Nat.le_of_ble_eq_true rfl) ?_
  refine x_w (w1 := (MW g w (upd t 0 0) v bf sv pa lb ip td sg)) (MW_o rfl) ?_
  have hJ1 : MJ n (upd t 0 0) v bf sv pa sg := hJ.j_t (by decide)
  refine x_aload_n 0 6 C0 dX8_cargo_5 rfl rfl rfl ?_
  refine x_callV 9 C0 (k_X8_cargoOf l hl g _ _ n (upd t 0 0) v bf sv pa lb ip td sg MR_MW hJ1) dX8_cargo_6 rfl mC_X8_cargoOf mM_X8_171 mI_X8_cargoOf mV_X8_cargoOf mN_X8 yd_X8_cargoOf rfl rfl ⟨Nat.le_of_ble_eq_true rfl, Nat.le_of_ble_eq_true rfl⟩ MR_MW.o rfl rfl rfl rfl (Nat.le_of_ble_eq_true rfl) ⟨Nat.le_of_ble_eq_true rfl, Nat.le_of_ble_eq_true rfl⟩ (fun _ _ _ q => False.elim q) (fun r w1 sz1 hz hP => ?_)
  obtain ⟨⟨m2, hm2, hw2, rfl⟩, rfl, rfl⟩ := hP
  refine x_st (st1 := [.int (rCargo v m2)]) rfl ?_
  exact x_ireturn C0 dX8_cargo_9 rfl rfl (Nat.le_of_ble_eq_true rfl) (Nat.le_of_ble_eq_true rfl) ⟨rfl, _, _, rfl, hJ1, (tL.rf.up (by decide)), ⟨⟨_, rfl⟩, ⟨m2, hm2, hw2, rfl, rfl⟩⟩⟩

def Q_X8_worth (n : Nat) (t v : Nat → Int32) (cn : Int32) (r : Option Value) (z : Int32) : Prop :=
  (∃ (kc : Nat), (cn = nI kc) ∧ (nI kc < v 3) ∧ (kc < 20) ∧ (z = 0) ∧ (r = some (.int (rWorth v kc)))) ∨
  ((¬ (0 ≤ cn ∧ cn < v 3)) ∧ (z = 1) ∧ (r = some (.int (0))))
set_option maxHeartbeats 4000000 in
set_option maxRecDepth 100000 in
theorem k_X8_worth (l : Launch) (hl : l.stackTraces = false) (g : xg_T) (w : xw_T) (sz n : Nat) (t v bf sv pa lb ip td sg : Nat → Int32) (hM : MR g w t v bf sv pa lb ip td sg) (hJ : MJ n t v bf sv pa sg) (cn : Int32) : xM l g yX8_worth cX8_worth 2 (some .int) ({ frames := 2, cells := 0, slots := 0, locals := 43 }) 0 0 [.ref (g.2 0 + 258), .int cn] w sz (mRd g w sz n t v bf sv pa ip td sg (fun r z => (∃ q : Int32, r = some (.int q)) ∧ Q_X8_worth n t v cn r z)) (fun _ _ _ => False) := by
  refine xM.of RX8 hl (by decide +kernel) rfl (Nat.le_of_ble_eq_true rfl) rfl ?_
  intro p e s m args below meth cD C0 hini
  refine x_aload_n 0 1 C0 dX8_worth_0 rfl rfl rfl ?_
  refine x_iconst (v := 0) 2 C0 dX8_worth_1 rfl (by decide) ?_
  refine x_w (MW_self hM) ?_
  refine x_putf 0 5 C0 dX8_worth_2 rfl MR_MW.o (by show g.2 0 ≤ _; omega) rfl (by decide) inX8 tyX8_ok nmX8 mF_X8_34 rfl rfl rfl rfl (Nat.le_of_ble_eq_true rfl) ?_
  refine x_w (w1 := (MW g w (upd t 0 0) v bf sv pa lb ip td sg)) (MW_o rfl) ?_
  have hJ1 : MJ n (upd t 0 0) v bf sv pa sg := hJ.j_t (by decide)
  refine x_aload_n 0 6 C0 dX8_worth_5 rfl rfl rfl ?_
  refine x_iload_n 1 7 C0 dX8_worth_6 rfl rfl rfl ?_
  refine x_callV 10 C0 (k_X8_isChest l hl g _ _ n (upd t 0 0) v bf sv pa lb ip td sg MR_MW hJ1 cn) dX8_worth_7 rfl mC_X8_isChest mM_X8_108 mI_X8_isChest mV_X8_isChest mN_X8 yd_X8_isChest rfl rfl ⟨Nat.le_of_ble_eq_true rfl, Nat.le_of_ble_eq_true rfl⟩ MR_MW.o rfl rfl rfl rfl (Nat.le_of_ble_eq_true rfl) ⟨Nat.le_of_ble_eq_true rfl, Nat.le_of_ble_eq_true rfl⟩ (fun _ _ _ q => False.elim q) (fun r w1 sz1 hz hP => ?_)
  obtain ⟨hr, rfl, rfl⟩ := hP
  rcases hr with ⟨⟨kc, hkc, hkv, hk3⟩, rfl⟩ | ⟨rfl, hkn⟩
  · subst hkv
    refine x_st (st1 := [.int 1]) rfl ?_
    refine x_if_eq 21 13 C0 dX8_worth_10 rfl (by decide) (fun q => False.elim (by revert q; decide)) (fun _ => ?_)
    refine x_aload_n 0 14 C0 dX8_worth_13 rfl rfl rfl ?_
    refine x_iload_n 1 15 C0 dX8_worth_14 rfl rfl rfl ?_
    refine x_callV 18 C0 (k_X8_worthOf l hl g _ _ n (upd t 0 0) v bf sv pa lb ip td sg MR_MW hJ1 kc (by omega)) dX8_worth_15 rfl mC_X8_worthOf mM_X8_149 mI_X8_worthOf mV_X8_worthOf mN_X8 yd_X8_worthOf rfl rfl ⟨Nat.le_of_ble_eq_true rfl, Nat.le_of_ble_eq_true rfl⟩ MR_MW.o rfl rfl rfl rfl (Nat.le_of_ble_eq_true rfl) ⟨Nat.le_of_ble_eq_true rfl, Nat.le_of_ble_eq_true rfl⟩ (fun _ _ _ q => False.elim q) (fun r w1 sz1 hz hP => ?_)
    obtain ⟨rfl, rfl, rfl⟩ := hP
    refine x_st (st1 := [.int (rWorth v kc)]) rfl ?_
    refine x_goto 26 C0 dX8_worth_18 (by decide) ?_
    exact x_ireturn C0 dX8_worth_26 rfl rfl (Nat.le_of_ble_eq_true rfl) (Nat.le_of_ble_eq_true rfl) ⟨rfl, _, _, rfl, hJ1, (tL.rf.up (by decide)), ⟨⟨_, rfl⟩, (Or.inl ⟨kc, rfl, hk3, hkc, rfl, rfl⟩)⟩⟩
  · refine x_st (st1 := [.int 0]) rfl ?_
    refine x_if_eq 21 13 C0 dX8_worth_10 rfl (by decide) (fun _ => ?_) (fun q => False.elim (by revert q; decide))
    refine x_aload_n 0 22 C0 dX8_worth_21 rfl rfl rfl ?_
    refine x_iconst (v := 1) 23 C0 dX8_worth_22 rfl (by decide) ?_
    refine x_callV 26 C0 (k_X8_no l hl g _ _ n (upd t 0 0) v bf sv pa lb ip td sg MR_MW hJ1 1) dX8_worth_23 rfl mC_X8_no mM_X8_61 mI_X8_no mV_X8_no mN_X8 yd_X8_no rfl rfl ⟨Nat.le_of_ble_eq_true rfl, Nat.le_of_ble_eq_true rfl⟩ MR_MW.o rfl rfl rfl rfl (Nat.le_of_ble_eq_true rfl) ⟨Nat.le_of_ble_eq_true rfl, Nat.le_of_ble_eq_true rfl⟩ (fun _ _ _ q => False.elim q) (fun r w1 sz1 hz hP => ?_)
    obtain ⟨rfl, rfl, rfl⟩ := hP
    refine x_w MW_MW ?_
    have hJ4 : MJ n (upd (upd t 0 0) 0 1) v bf sv pa sg := (hJ1.j_t (by decide))
    refine x_st (st1 := [.int 0]) rfl ?_
    exact x_ireturn C0 dX8_worth_26 rfl rfl (Nat.le_of_ble_eq_true rfl) (Nat.le_of_ble_eq_true rfl) ⟨rfl, _, _, rfl, hJ4, ((tL.rf.up (by decide)).up (by decide)), ⟨⟨_, rfl⟩, (Or.inr (⟨hkn, rfl, rfl⟩))⟩⟩

set_option maxHeartbeats 4000000 in
set_option maxRecDepth 100000 in
theorem k_X8_bestGarden (l : Launch) (hl : l.stackTraces = false) (g : xg_T) (w : xw_T) (sz n : Nat) (t v bf sv pa lb ip td sg : Nat → Int32) (hM : MR g w t v bf sv pa lb ip td sg) (hJ : MJ n t v bf sv pa sg) : xM l g yX8_bestGarden cX8_bestGarden 4 (some .int) ({ frames := 2, cells := 0, slots := 0, locals := 42 }) 0 0 [.ref (g.2 0 + 258)] w sz (mRd g w sz n t v bf sv pa ip td sg (fun r _ => ∃ z : Int32, r = some (.int z))) (fun _ _ _ => False) := by
  refine xM.of RX8 hl (by decide +kernel) rfl (Nat.le_of_ble_eq_true rfl) rfl ?_
  intro p e s m args below meth cD C0 hini
  refine x_aload_n 0 1 C0 dX8_bestGarden_0 rfl rfl rfl ?_
  refine x_iconst (v := 0) 2 C0 dX8_bestGarden_1 rfl (by decide) ?_
  refine x_w (MW_self hM) ?_
  refine x_putf 0 5 C0 dX8_bestGarden_2 rfl MR_MW.o (by show g.2 0 ≤ _; omega) rfl (by decide) inX8 tyX8_ok nmX8 mF_X8_34 rfl rfl rfl rfl (Nat.le_of_ble_eq_true rfl) ?_
  refine x_w (w1 := (MW g w (upd t 0 0) v bf sv pa lb ip td sg)) (MW_o rfl) ?_
  have hJ1 : MJ n (upd t 0 0) v bf sv pa sg := hJ.j_t (by decide)
  refine x_iconst (v := 0) 6 C0 dX8_bestGarden_5 rfl (by decide) ?_
  refine x_istore_n [(1, .int 0), (0, .ref (g.2 0 + 258))] 7 C0 dX8_bestGarden_6 rfl rfl (by decide) rfl ?_
  refine x_lv (lv1 := [(0, .ref (g.2 0 + 258)), (1, .int 0)]) [1, 0] rfl ?_
  refine x_iconst (v := 1) 8 C0 dX8_bestGarden_7 rfl (by decide) ?_
  refine x_istore_n [(2, .int 1), (0, .ref (g.2 0 + 258)), (1, .int 0)] 9 C0 dX8_bestGarden_8 rfl rfl (by decide) rfl ?_
  refine x_lv (lv1 := [(0, .ref (g.2 0 + 258)), (1, .int 0), (2, .int 1)]) [1, 2, 0] rfl ?_
  have loop9 : ∀ (N i : Nat) (bq : Nat), i ≤ 6 → 6 - i < N → (bq < 6) → xV p l e ({ frames := 2, cells := 0, slots := 0, locals := 42 }) s m args below meth cD (xQ g below (mRd g w sz n t v bf sv pa ip td sg (fun r _ => ∃ z : Int32, r = some (.int z))) (fun _ _ _ => False) args s 0 0) g 4 (MW g w (upd t 0 0) v bf sv pa lb ip td sg) sz (0) (0) 9 [(0, .ref (g.2 0 + 258)), (1, .int (nI bq)), (2, .int (nI i))] [] := by
    intro N
    induction N with
    | zero => intro i bq h1 h2; omega
    | succ N ih =>
      intro i bq hi hN hV
      refine x_iload_n 2 10 C0 dX8_bestGarden_9 rfl rfl rfl ?_
      refine x_bipush (v := 6) 12 C0 dX8_bestGarden_10 rfl (by decide) ?_
      refine x_icmp_ge 66 15 C0 dX8_bestGarden_12 rfl (by decide) (fun c2 => ?_) (fun c2 => ?_)
      · refine x_iload_n 1 67 C0 dX8_bestGarden_66 rfl rfl rfl ?_
        exact x_ireturn C0 dX8_bestGarden_67 rfl rfl (Nat.le_of_ble_eq_true rfl) (Nat.le_of_ble_eq_true rfl) ⟨rfl, _, _, rfl, hJ1, (tL.rf.up (by decide)), ⟨_, rfl⟩⟩
      · have hi2 : i < 6 := Nat.lt_of_not_le (fun z => c2 (nI_le (a := 6) z (by omega)))
        refine x_aload_n 0 16 C0 dX8_bestGarden_15 rfl rfl rfl ?_
        refine x_iload_n 2 17 C0 dX8_bestGarden_16 rfl rfl rfl ?_
        refine x_callV 20 C0 (k_X8_allOf l hl g _ _ n (upd t 0 0) v bf sv pa lb ip td sg MR_MW hJ1 i (by omega)) dX8_bestGarden_17 rfl mC_X8_allOf mM_X8_96 mI_X8_allOf mV_X8_allOf mN_X8 yd_X8_allOf rfl rfl ⟨Nat.le_of_ble_eq_true rfl, Nat.le_of_ble_eq_true rfl⟩ MR_MW.o rfl rfl rfl rfl (Nat.le_of_ble_eq_true rfl) ⟨Nat.le_of_ble_eq_true rfl, Nat.le_of_ble_eq_true rfl⟩ (fun _ _ _ q => False.elim q) (fun r w1 sz1 hz hP => ?_)
        obtain ⟨rfl, rfl, rfl⟩ := hP
        refine x_st (st1 := [.int (rAll v i)]) rfl ?_
        refine x_aload_n 0 21 C0 dX8_bestGarden_20 rfl rfl rfl ?_
        refine x_iload_n 1 22 C0 dX8_bestGarden_21 rfl rfl rfl ?_
        refine x_callV 25 C0 (k_X8_allOf l hl g _ _ n (upd t 0 0) v bf sv pa lb ip td sg MR_MW hJ1 bq (by omega)) dX8_bestGarden_22 rfl mC_X8_allOf mM_X8_96 mI_X8_allOf mV_X8_allOf mN_X8 yd_X8_allOf rfl rfl ⟨Nat.le_of_ble_eq_true rfl, Nat.le_of_ble_eq_true rfl⟩ MR_MW.o rfl rfl rfl rfl (Nat.le_of_ble_eq_true rfl) ⟨Nat.le_of_ble_eq_true rfl, Nat.le_of_ble_eq_true rfl⟩ (fun _ _ _ q => False.elim q) (fun r w1 sz1 hz hP => ?_)
        obtain ⟨rfl, rfl, rfl⟩ := hP
        refine x_st (st1 := [.int (rAll v bq), .int (rAll v i)]) rfl ?_
        refine x_isub 26 C0 dX8_bestGarden_25 rfl ?_
        refine x_istore_n [(3, .int ((rAll v i) - (rAll v bq))), (0, .ref (g.2 0 + 258)), (1, .int (nI bq)), (2, .int (nI i))] 27 C0 dX8_bestGarden_26 rfl rfl (by decide) rfl ?_
        refine x_lv (lv1 := [(0, .ref (g.2 0 + 258)), (1, .int (nI bq)), (2, .int (nI i)), (3, .int ((rAll v i) - (rAll v bq)))]) [1, 2, 3, 0] rfl ?_
        refine x_iload_n 3 28 C0 dX8_bestGarden_27 rfl rfl rfl ?_
        refine x_if_gt 58 31 C0 dX8_bestGarden_28 rfl (by decide) (fun c3 => ?_) (fun c3 => ?_)
        · have c3' := Int32.not_le.mpr c3
          refine x_iload_n 2 59 C0 dX8_bestGarden_58 rfl rfl rfl ?_
          refine x_istore_n [(1, .int (nI i)), (0, .ref (g.2 0 + 258)), (2, .int (nI i)), (3, .int ((rAll v i) - (rAll v bq)))] 60 C0 dX8_bestGarden_59 rfl rfl (by decide) rfl ?_
          refine x_lv (lv1 := [(0, .ref (g.2 0 + 258)), (1, .int (nI i)), (2, .int (nI i)), (3, .int ((rAll v i) - (rAll v bq)))]) [1, 0, 2, 3] rfl ?_
          refine x_iinc [(2, .int (nI (i + 1))), (0, .ref (g.2 0 + 258)), (1, .int (nI i)), (3, .int ((rAll v i) - (rAll v bq)))] 2 63 C0 dX8_bestGarden_60 rfl rfl (nI_1 i) (by decide) rfl ?_
          refine x_lv (lv1 := [(0, .ref (g.2 0 + 258)), (1, .int (nI i)), (2, .int (nI (i + 1))), (3, .int ((rAll v i) - (rAll v bq)))]) [1, 2, 0, 3] rfl ?_
          refine x_goto 9 C0 dX8_bestGarden_63 (by decide) ?_
          exact x_lv [0, 1, 2] rfl (ih (i + 1) _ (by omega) (by omega) (by omega))
        · have c3' := Int32.not_lt.mp c3
          refine x_iload_n 3 32 C0 dX8_bestGarden_31 rfl rfl rfl ?_
          refine x_if_ne 60 35 C0 dX8_bestGarden_32 rfl (by decide) (fun c4 => ?_) (fun c4 => ?_)
          · refine x_iinc [(2, .int (nI (i + 1))), (0, .ref (g.2 0 + 258)), (1, .int (nI bq)), (3, .int ((rAll v i) - (rAll v bq)))] 2 63 C0 dX8_bestGarden_60 rfl rfl (nI_1 i) (by decide) rfl ?_
            refine x_lv (lv1 := [(0, .ref (g.2 0 + 258)), (1, .int (nI bq)), (2, .int (nI (i + 1))), (3, .int ((rAll v i) - (rAll v bq)))]) [1, 2, 0, 3] rfl ?_
            refine x_goto 9 C0 dX8_bestGarden_63 (by decide) ?_
            exact x_lv [0, 1, 2] rfl (ih (i + 1) _ (by omega) (by omega) (by omega))
          · refine x_aload_n 0 36 C0 dX8_bestGarden_35 rfl rfl rfl ?_
            refine x_getf (v := .ref (g.2 0 + 258 + 1)) 8 39 C0 dX8_bestGarden_36 rfl MR_MW.o rfl (by decide) inX8 mF_X8_7 rfl ?_
            refine x_iload_n 2 40 C0 dX8_bestGarden_39 rfl rfl rfl ?_
            refine x_iconst (v := 2) 41 C0 dX8_bestGarden_40 rfl (by decide) ?_
            refine x_callS 44 C0 (k_X8_leaf l hl g _ _ (nI i) 2) dX8_bestGarden_41 rfl mC_X8_leaf mM_X8_79 mS_X8_leaf mN_X8 yd_X8_leaf rfl rfl ⟨Nat.le_of_ble_eq_true rfl, Nat.le_of_ble_eq_true rfl⟩ rfl rfl (Nat.le_of_ble_eq_true rfl) ⟨Nat.le_of_ble_eq_true rfl, Nat.le_of_ble_eq_true rfl⟩ (fun _ _ _ q => False.elim q) (fun r w1 sz1 hz hP => ?_)
            obtain ⟨rfl, rfl, rfl⟩ := hP
            refine x_st (st1 := [.int (nI (10 + 3 * i + 2)), .ref (g.2 0 + 258 + 1)]) (congrArg (fun z => Value.int z :: _) (at_nI 10 3 i 2)) ?_
            refine x_iald 0 45 C0 dX8_bestGarden_44 rfl MR_MW.r_v rfl (vp_in_nI (n := 10 + 3 * i + 2) (by omega) (by decide)) ?_
            refine x_st (st1 := [.int (v (10 + 3 * i + 2))]) (congrArg (fun z => Value.int z :: _) (show v (nI (10 + 3 * i + 2)).toNatClampNeg = v (10 + 3 * i + 2) from by rw [nI_clamp (by omega)])) ?_
            refine x_aload_n 0 46 C0 dX8_bestGarden_45 rfl rfl rfl ?_
            refine x_getf (v := .ref (g.2 0 + 258 + 1)) 8 49 C0 dX8_bestGarden_46 rfl MR_MW.o rfl (by decide) inX8 mF_X8_7 rfl ?_
            refine x_iload_n 1 50 C0 dX8_bestGarden_49 rfl rfl rfl ?_
            refine x_iconst (v := 2) 51 C0 dX8_bestGarden_50 rfl (by decide) ?_
            refine x_callS 54 C0 (k_X8_leaf l hl g _ _ (nI bq) 2) dX8_bestGarden_51 rfl mC_X8_leaf mM_X8_79 mS_X8_leaf mN_X8 yd_X8_leaf rfl rfl ⟨Nat.le_of_ble_eq_true rfl, Nat.le_of_ble_eq_true rfl⟩ rfl rfl (Nat.le_of_ble_eq_true rfl) ⟨Nat.le_of_ble_eq_true rfl, Nat.le_of_ble_eq_true rfl⟩ (fun _ _ _ q => False.elim q) (fun r w1 sz1 hz hP => ?_)
            obtain ⟨rfl, rfl, rfl⟩ := hP
            refine x_st (st1 := [.int (nI (10 + 3 * bq + 2)), .ref (g.2 0 + 258 + 1), .int (v (10 + 3 * i + 2))]) (congrArg (fun z => Value.int z :: _) (at_nI 10 3 bq 2)) ?_
            refine x_iald 0 55 C0 dX8_bestGarden_54 rfl MR_MW.r_v rfl (vp_in_nI (n := 10 + 3 * bq + 2) (by omega) (by decide)) ?_
            refine x_st (st1 := [.int (v (10 + 3 * bq + 2)), .int (v (10 + 3 * i + 2))]) (congrArg (fun z => Value.int z :: _) (show v (nI (10 + 3 * bq + 2)).toNatClampNeg = v (10 + 3 * bq + 2) from by rw [nI_clamp (by omega)])) ?_
            refine x_icmp_le 60 58 C0 dX8_bestGarden_55 rfl (by decide) (fun c5 => ?_) (fun c5 => ?_)
            · have c5' := Int32.not_lt.mpr c5
              refine x_iinc [(2, .int (nI (i + 1))), (0, .ref (g.2 0 + 258)), (1, .int (nI bq)), (3, .int ((rAll v i) - (rAll v bq)))] 2 63 C0 dX8_bestGarden_60 rfl rfl (nI_1 i) (by decide) rfl ?_
              refine x_lv (lv1 := [(0, .ref (g.2 0 + 258)), (1, .int (nI bq)), (2, .int (nI (i + 1))), (3, .int ((rAll v i) - (rAll v bq)))]) [1, 2, 0, 3] rfl ?_
              refine x_goto 9 C0 dX8_bestGarden_63 (by decide) ?_
              exact x_lv [0, 1, 2] rfl (ih (i + 1) _ (by omega) (by omega) (by omega))
            · have c5' := Int32.not_le.mp c5
              refine x_iload_n 2 59 C0 dX8_bestGarden_58 rfl rfl rfl ?_
              refine x_istore_n [(1, .int (nI i)), (0, .ref (g.2 0 + 258)), (2, .int (nI i)), (3, .int ((rAll v i) - (rAll v bq)))] 60 C0 dX8_bestGarden_59 rfl rfl (by decide) rfl ?_
              refine x_lv (lv1 := [(0, .ref (g.2 0 + 258)), (1, .int (nI i)), (2, .int (nI i)), (3, .int ((rAll v i) - (rAll v bq)))]) [1, 0, 2, 3] rfl ?_
              refine x_iinc [(2, .int (nI (i + 1))), (0, .ref (g.2 0 + 258)), (1, .int (nI i)), (3, .int ((rAll v i) - (rAll v bq)))] 2 63 C0 dX8_bestGarden_60 rfl rfl (nI_1 i) (by decide) rfl ?_
              refine x_lv (lv1 := [(0, .ref (g.2 0 + 258)), (1, .int (nI i)), (2, .int (nI (i + 1))), (3, .int ((rAll v i) - (rAll v bq)))]) [1, 2, 0, 3] rfl ?_
              refine x_goto 9 C0 dX8_bestGarden_63 (by decide) ?_
              exact x_lv [0, 1, 2] rfl (ih (i + 1) _ (by omega) (by omega) (by omega))
  exact x_lv [0, 1, 2] rfl (loop9 (6 + 1) 1 0 (by omega) (by omega) (by decide))

set_option maxHeartbeats 4000000 in
set_option maxRecDepth 100000 in
theorem k_X8_labelled (l : Launch) (hl : l.stackTraces = false) (g : xg_T) (w : xw_T) (sz n : Nat) (t v bf sv pa lb ip td sg : Nat → Int32) (hM : MR g w t v bf sv pa lb ip td sg) (hJ : MJ n t v bf sv pa sg) (cn : Int32) (ix : Int32) : xM l g yX8_labelled cX8_labelled 3 (some .char) ({ frames := 2, cells := 0, slots := 0, locals := 45 }) 0 0 [.ref (g.2 0 + 258), .int cn, .int ix] w sz (mRd g w sz n t v bf sv pa ip td sg (fun r _ => ∃ z : Int32, r = some (.int z))) (fun _ _ _ => False) := by
  refine xM.of RX8 hl (by decide +kernel) rfl (Nat.le_of_ble_eq_true rfl) rfl ?_
  intro p e s m args below meth cD C0 hini
  refine x_aload_n 0 1 C0 dX8_labelled_0 rfl rfl rfl ?_
  refine x_iconst (v := 0) 2 C0 dX8_labelled_1 rfl (by decide) ?_
  refine x_w (MW_self hM) ?_
  refine x_putf 0 5 C0 dX8_labelled_2 rfl MR_MW.o (by show g.2 0 ≤ _; omega) rfl (by decide) inX8 tyX8_ok nmX8 mF_X8_34 rfl rfl rfl rfl (Nat.le_of_ble_eq_true rfl) ?_
  refine x_w (w1 := (MW g w (upd t 0 0) v bf sv pa lb ip td sg)) (MW_o rfl) ?_
  have hJ1 : MJ n (upd t 0 0) v bf sv pa sg := hJ.j_t (by decide)
  refine x_aload_n 0 6 C0 dX8_labelled_5 rfl rfl rfl ?_
  refine x_iload_n 1 7 C0 dX8_labelled_6 rfl rfl rfl ?_
  refine x_callV 10 C0 (k_X8_isChest l hl g _ _ n (upd t 0 0) v bf sv pa lb ip td sg MR_MW hJ1 cn) dX8_labelled_7 rfl mC_X8_isChest mM_X8_108 mI_X8_isChest mV_X8_isChest mN_X8 yd_X8_isChest rfl rfl ⟨Nat.le_of_ble_eq_true rfl, Nat.le_of_ble_eq_true rfl⟩ MR_MW.o rfl rfl rfl rfl (Nat.le_of_ble_eq_true rfl) ⟨Nat.le_of_ble_eq_true rfl, Nat.le_of_ble_eq_true rfl⟩ (fun _ _ _ q => False.elim q) (fun r w1 sz1 hz hP => ?_)
  obtain ⟨hr, rfl, rfl⟩ := hP
  rcases hr with ⟨⟨kc, hkc, hkv, hk3⟩, rfl⟩ | ⟨rfl, hkn⟩
  · subst hkv
    refine x_st (st1 := [.int 1]) rfl ?_
    refine x_if_ne 20 13 C0 dX8_labelled_10 rfl (by decide) (fun _ => ?_) (fun q => False.elim (by revert q; decide))
    refine x_aload_n 0 21 C0 dX8_labelled_20 rfl rfl rfl ?_
    refine x_iload_n 1 22 C0 dX8_labelled_21 rfl rfl rfl ?_
    refine x_callV 25 C0 (k_X8_writesLabel l hl g _ _ n (upd t 0 0) v bf sv pa lb ip td sg MR_MW hJ1 kc (by omega)) dX8_labelled_22 rfl mC_X8_writesLabel mM_X8_143 mI_X8_writesLabel mV_X8_writesLabel mN_X8 yd_X8_writesLabel rfl rfl ⟨Nat.le_of_ble_eq_true rfl, Nat.le_of_ble_eq_true rfl⟩ MR_MW.o rfl rfl rfl rfl (Nat.le_of_ble_eq_true rfl) ⟨Nat.le_of_ble_eq_true rfl, Nat.le_of_ble_eq_true rfl⟩ (fun _ _ _ q => False.elim q) (fun r w1 sz1 hz hP => ?_)
    obtain ⟨rfl, rfl, t3, lb3, rfl, hJ3, he3, L3, hL3, h83⟩ := hP
    refine x_w MW_MW ?_
    refine x_st (st1 := []) rfl ?_
    refine x_iload_n 2 26 C0 dX8_labelled_25 rfl rfl rfl ?_
    refine x_iconst (v := 0) 27 C0 dX8_labelled_26 rfl (by decide) ?_
    refine x_aload_n 0 28 C0 dX8_labelled_27 rfl rfl rfl ?_
    refine x_getf (v := .int (t3 8)) 13 31 C0 dX8_labelled_28 rfl MR_MW.o rfl (by decide) inX8 mF_X8_136 rfl ?_
    refine x_iconst (v := 1) 32 C0 dX8_labelled_31 rfl (by decide) ?_
    refine x_isub 33 C0 dX8_labelled_32 rfl ?_
    refine x_callS 36 C0 (k_X8_isIn l hl g _ _ ix 0 ((t3 8) - 1)) dX8_labelled_33 rfl mC_X8_isIn mM_X8_67 mS_X8_isIn mN_X8 yd_X8_isIn rfl rfl ⟨Nat.le_of_ble_eq_true rfl, Nat.le_of_ble_eq_true rfl⟩ rfl rfl (Nat.le_of_ble_eq_true rfl) ⟨Nat.le_of_ble_eq_true rfl, Nat.le_of_ble_eq_true rfl⟩ (fun _ _ _ q => False.elim q) (fun r w1 sz1 hz hP => ?_)
    obtain ⟨hr, rfl, rfl⟩ := hP
    rcases hr with ⟨rfl, ha4, hb4⟩ | ⟨rfl, hx4⟩
    · refine x_st (st1 := [.int 1]) rfl ?_
      refine x_if_ne 46 39 C0 dX8_labelled_36 rfl (by decide) (fun _ => ?_) (fun q => False.elim (by revert q; decide))
      obtain ⟨q9, hq9, eq9⟩ := idx_lt (L := L3) (by omega) ha4 (by rw [← h83]; exact hb4)
      subst eq9
      refine x_aload_n 0 47 C0 dX8_labelled_46 rfl rfl rfl ?_
      refine x_getf (v := .ref (g.2 0 + 258 + 5)) 12 50 C0 dX8_labelled_47 rfl MR_MW.o rfl (by decide) inX8 mF_X8_22 rfl ?_
      refine x_iload_n 2 51 C0 dX8_labelled_50 rfl rfl rfl ?_
      refine x_iald 0 52 C0 dX8_labelled_51 rfl MR_MW.r_lb rfl (vp_in_nI (n := q9) (by omega) (by decide)) ?_
      refine x_st (st1 := [.int (lb3 q9)]) (congrArg (fun z => Value.int z :: _) (show lb3 (nI q9).toNatClampNeg = lb3 q9 from by rw [nI_clamp (by omega)])) ?_
      refine x_i2c (v := (Int32.toUInt32 (lb3 q9) % 65536).toInt32) 53 C0 dX8_labelled_52 rfl rfl ?_
      exact x_ireturn C0 dX8_labelled_53 rfl (nar_c _) (Nat.le_of_ble_eq_true rfl) (Nat.le_of_ble_eq_true rfl) ⟨rfl, _, _, rfl, hJ3, (tL.of8 he3 (tL.rf.up (by decide))), ⟨_, rfl⟩⟩
    · refine x_st (st1 := [.int 0]) rfl ?_
      refine x_if_ne 46 39 C0 dX8_labelled_36 rfl (by decide) (fun q => False.elim (by revert q; decide)) (fun _ => ?_)
      refine x_aload_n 0 40 C0 dX8_labelled_39 rfl rfl rfl ?_
      refine x_iconst (v := 2) 41 C0 dX8_labelled_40 rfl (by decide) ?_
      refine x_putf 0 44 C0 dX8_labelled_41 rfl MR_MW.o (by show g.2 0 ≤ _; omega) rfl (by decide) inX8 tyX8_ok nmX8 mF_X8_34 rfl rfl rfl rfl (Nat.le_of_ble_eq_true rfl) ?_
      refine x_w (w1 := (MW g w (upd t3 0 2) v bf sv pa lb3 ip td sg)) (MW_o rfl) ?_
      have hJ7 : MJ n (upd t3 0 2) v bf sv pa sg := hJ3.j_t (by decide)
      refine x_iconst (v := 0) 45 C0 dX8_labelled_44 rfl (by decide) ?_
      exact x_ireturn C0 dX8_labelled_45 rfl rfl (Nat.le_of_ble_eq_true rfl) (Nat.le_of_ble_eq_true rfl) ⟨rfl, _, _, rfl, hJ7, ((tL.of8 he3 (tL.rf.up (by decide))).up (by decide)), ⟨_, rfl⟩⟩
  · refine x_st (st1 := [.int 0]) rfl ?_
    refine x_if_ne 20 13 C0 dX8_labelled_10 rfl (by decide) (fun q => False.elim (by revert q; decide)) (fun _ => ?_)
    refine x_aload_n 0 14 C0 dX8_labelled_13 rfl rfl rfl ?_
    refine x_iconst (v := 1) 15 C0 dX8_labelled_14 rfl (by decide) ?_
    refine x_putf 0 18 C0 dX8_labelled_15 rfl MR_MW.o (by show g.2 0 ≤ _; omega) rfl (by decide) inX8 tyX8_ok nmX8 mF_X8_34 rfl rfl rfl rfl (Nat.le_of_ble_eq_true rfl) ?_
    refine x_w (w1 := (MW g w (upd (upd t 0 0) 0 1) v bf sv pa lb ip td sg)) (MW_o rfl) ?_
    have hJ9 : MJ n (upd (upd t 0 0) 0 1) v bf sv pa sg := hJ1.j_t (by decide)
    refine x_iconst (v := 0) 19 C0 dX8_labelled_18 rfl (by decide) ?_
    exact x_ireturn C0 dX8_labelled_19 rfl rfl (Nat.le_of_ble_eq_true rfl) (Nat.le_of_ble_eq_true rfl) ⟨rfl, _, _, rfl, hJ9, ((tL.rf.up (by decide)).up (by decide)), ⟨_, rfl⟩⟩

def Q_X8_chest (n : Nat) (t v : Nat → Int32) (cn : Int32) (wh : Int32) (r : Option Value) (z : Int32) : Prop :=
  (∃ (kc : Nat), (cn = nI kc) ∧ (nI kc < v 3) ∧ (kc < 20) ∧ (wh.toInt < 0 ∨ 9 < wh.toInt) ∧ (z = 2) ∧ (r = some (.int (0)))) ∨
  (∃ (kc : Nat), (cn = nI kc) ∧ (nI kc < v 3) ∧ (kc < 20) ∧ (wh = 0) ∧ (z = 0) ∧ (r = some (.int (v (28 + 9 * kc + 0))))) ∨
  (∃ (kc : Nat), (cn = nI kc) ∧ (nI kc < v 3) ∧ (kc < 20) ∧ (wh = 1) ∧ (z = 0) ∧ (r = some (.int (v (28 + 9 * kc + 1))))) ∨
  (∃ (kc : Nat), (cn = nI kc) ∧ (nI kc < v 3) ∧ (kc < 20) ∧ (wh = 2) ∧ (z = 0) ∧ (r = some (.int (v (28 + 9 * kc + 2))))) ∨
  (∃ (kc : Nat), (cn = nI kc) ∧ (nI kc < v 3) ∧ (kc < 20) ∧ (wh = 3) ∧ (z = 0) ∧ (r = some (.int (v (28 + 9 * kc + 3))))) ∨
  (∃ (kc : Nat), (cn = nI kc) ∧ (nI kc < v 3) ∧ (kc < 20) ∧ (wh = 4) ∧ (z = 0) ∧ (r = some (.int (v (28 + 9 * kc + 4))))) ∨
  (∃ (kc : Nat), (cn = nI kc) ∧ (nI kc < v 3) ∧ (kc < 20) ∧ (wh = 5) ∧ (z = 0) ∧ (r = some (.int (v (28 + 9 * kc + 5))))) ∨
  (∃ (kc : Nat), (cn = nI kc) ∧ (nI kc < v 3) ∧ (kc < 20) ∧ (wh = 6) ∧ (z = 0) ∧ (r = some (.int (v (28 + 9 * kc + 6))))) ∨
  (∃ (kc : Nat), (cn = nI kc) ∧ (nI kc < v 3) ∧ (kc < 20) ∧ (wh = 7) ∧ (rTight v kc) ∧ (z = 0) ∧ (r = some (.int (1)))) ∨
  (∃ (kc : Nat), (cn = nI kc) ∧ (nI kc < v 3) ∧ (kc < 20) ∧ (wh = 7) ∧ (¬ (rTight v kc)) ∧ (z = 0) ∧ (r = some (.int (0)))) ∨
  (∃ (kc : Nat), (cn = nI kc) ∧ (nI kc < v 3) ∧ (kc < 20) ∧ (wh = 8) ∧ (z = 0) ∧ (r = some (.int (v (28 + 9 * kc + 7))))) ∨
  (∃ (kc : Nat) (t8 : Nat → Int32), (cn = nI kc) ∧ (nI kc < v 3) ∧ (kc < 20) ∧ (wh = 9) ∧ (t8 1 = t 1) ∧ (z = t8 0) ∧ (r = some (.int (t8 8)))) ∨
  ((¬ (0 ≤ cn ∧ cn < v 3)) ∧ (z = 1) ∧ (r = some (.int (0))))
set_option maxHeartbeats 4000000 in
set_option maxRecDepth 100000 in
theorem k_X8_chest (l : Launch) (hl : l.stackTraces = false) (g : xg_T) (w : xw_T) (sz n : Nat) (t v bf sv pa lb ip td sg : Nat → Int32) (hM : MR g w t v bf sv pa lb ip td sg) (hJ : MJ n t v bf sv pa sg) (cn : Int32) (wh : Int32) : xM l g yX8_chest cX8_chest 3 (some .int) ({ frames := 2, cells := 0, slots := 0, locals := 45 }) 0 0 [.ref (g.2 0 + 258), .int cn, .int wh] w sz (mRd g w sz n t v bf sv pa ip td sg (fun r z => (∃ q : Int32, r = some (.int q)) ∧ Q_X8_chest n t v cn wh r z)) (fun _ _ _ => False) := by
  refine xM.of RX8 hl (by decide +kernel) rfl (Nat.le_of_ble_eq_true rfl) rfl ?_
  intro p e s m args below meth cD C0 hini
  refine x_aload_n 0 1 C0 dX8_chest_0 rfl rfl rfl ?_
  refine x_iconst (v := 0) 2 C0 dX8_chest_1 rfl (by decide) ?_
  refine x_w (MW_self hM) ?_
  refine x_putf 0 5 C0 dX8_chest_2 rfl MR_MW.o (by show g.2 0 ≤ _; omega) rfl (by decide) inX8 tyX8_ok nmX8 mF_X8_34 rfl rfl rfl rfl (Nat.le_of_ble_eq_true rfl) ?_
  refine x_w (w1 := (MW g w (upd t 0 0) v bf sv pa lb ip td sg)) (MW_o rfl) ?_
  have hJ1 : MJ n (upd t 0 0) v bf sv pa sg := hJ.j_t (by decide)
  refine x_aload_n 0 6 C0 dX8_chest_5 rfl rfl rfl ?_
  refine x_iload_n 1 7 C0 dX8_chest_6 rfl rfl rfl ?_
  refine x_callV 10 C0 (k_X8_isChest l hl g _ _ n (upd t 0 0) v bf sv pa lb ip td sg MR_MW hJ1 cn) dX8_chest_7 rfl mC_X8_isChest mM_X8_108 mI_X8_isChest mV_X8_isChest mN_X8 yd_X8_isChest rfl rfl ⟨Nat.le_of_ble_eq_true rfl, Nat.le_of_ble_eq_true rfl⟩ MR_MW.o rfl rfl rfl rfl (Nat.le_of_ble_eq_true rfl) ⟨Nat.le_of_ble_eq_true rfl, Nat.le_of_ble_eq_true rfl⟩ (fun _ _ _ q => False.elim q) (fun r w1 sz1 hz hP => ?_)
  obtain ⟨hr, rfl, rfl⟩ := hP
  rcases hr with ⟨⟨kc, hkc, hkv, hk3⟩, rfl⟩ | ⟨rfl, hkn⟩
  · subst hkv
    refine x_st (st1 := [.int 1]) rfl ?_
    refine x_if_ne 19 13 C0 dX8_chest_10 rfl (by decide) (fun _ => ?_) (fun q => False.elim (by revert q; decide))
    refine x_iload_n 2 20 C0 dX8_chest_19 rfl rfl rfl ?_
    have hs3 : (wh.toInt < 0 ∨ 9 < wh.toInt) ∨ wh.toInt = 0 ∨ wh.toInt = 1 ∨ wh.toInt = 2 ∨ wh.toInt = 3 ∨ wh.toInt = 4 ∨ wh.toInt = 5 ∨ wh.toInt = 6 ∨ wh.toInt = 7 ∨ wh.toInt = 8 ∨ wh.toInt = 9 := by omega
    rcases hs3 with hs3 | hs3 | hs3 | hs3 | hs3 | hs3 | hs3 | hs3 | hs3 | hs3 | hs3
    · refine x_tabOut 123 C0 dX8_chest_20 hs3 (by decide) ?_
      refine x_aload_n 0 124 C0 dX8_chest_123 rfl rfl rfl ?_
      refine x_iconst (v := 2) 125 C0 dX8_chest_124 rfl (by decide) ?_
      refine x_callV 128 C0 (k_X8_no l hl g _ _ n (upd t 0 0) v bf sv pa lb ip td sg MR_MW hJ1 2) dX8_chest_125 rfl mC_X8_no mM_X8_61 mI_X8_no mV_X8_no mN_X8 yd_X8_no rfl rfl ⟨Nat.le_of_ble_eq_true rfl, Nat.le_of_ble_eq_true rfl⟩ MR_MW.o rfl rfl rfl rfl (Nat.le_of_ble_eq_true rfl) ⟨Nat.le_of_ble_eq_true rfl, Nat.le_of_ble_eq_true rfl⟩ (fun _ _ _ q => False.elim q) (fun r w1 sz1 hz hP => ?_)
      obtain ⟨rfl, rfl, rfl⟩ := hP
      refine x_w MW_MW ?_
      have hJ4 : MJ n (upd (upd t 0 0) 0 2) v bf sv pa sg := (hJ1.j_t (by decide))
      refine x_st (st1 := [.int 0]) rfl ?_
      exact x_ireturn C0 dX8_chest_128 rfl rfl (Nat.le_of_ble_eq_true rfl) (Nat.le_of_ble_eq_true rfl) ⟨rfl, _, _, rfl, hJ4, ((tL.rf.up (by decide)).up (by decide)), ⟨⟨_, rfl⟩, (Or.inl ⟨kc, rfl, hk3, hkc, hs3, rfl, rfl⟩)⟩⟩
    · obtain rfl : wh = 0 := Int32.toInt_inj.mp (hs3.trans rfl)
      refine x_tabIn 76 C0 (x := 0) dX8_chest_20 (by decide) (by decide) rfl (by decide) ?_
      refine x_aload_n 0 77 C0 dX8_chest_76 rfl rfl rfl ?_
      refine x_getf (v := .ref (g.2 0 + 258 + 1)) 8 80 C0 dX8_chest_77 rfl MR_MW.o rfl (by decide) inX8 mF_X8_7 rfl ?_
      refine x_iload_n 1 81 C0 dX8_chest_80 rfl rfl rfl ?_
      refine x_iload_n 2 82 C0 dX8_chest_81 rfl rfl rfl ?_
      refine x_callS 85 C0 (k_X8_at l hl g _ _ (nI kc) 0) dX8_chest_82 rfl mC_X8_at mM_X8_71 mS_X8_at mN_X8 yd_X8_at rfl rfl ⟨Nat.le_of_ble_eq_true rfl, Nat.le_of_ble_eq_true rfl⟩ rfl rfl (Nat.le_of_ble_eq_true rfl) ⟨Nat.le_of_ble_eq_true rfl, Nat.le_of_ble_eq_true rfl⟩ (fun _ _ _ q => False.elim q) (fun r w1 sz1 hz hP => ?_)
      obtain ⟨rfl, rfl, rfl⟩ := hP
      refine x_st (st1 := [.int (nI (28 + 9 * kc + 0)), .ref (g.2 0 + 258 + 1)]) (congrArg (fun z => Value.int z :: _) (at_nI 28 9 kc 0)) ?_
      refine x_iald 0 86 C0 dX8_chest_85 rfl MR_MW.r_v rfl (vp_in_nI (n := 28 + 9 * kc + 0) (by omega) (by decide)) ?_
      refine x_st (st1 := [.int (v (28 + 9 * kc + 0))]) (congrArg (fun z => Value.int z :: _) (show v (nI (28 + 9 * kc + 0)).toNatClampNeg = v (28 + 9 * kc + 0) from by rw [nI_clamp (by omega)])) ?_
      exact x_ireturn C0 dX8_chest_86 rfl rfl (Nat.le_of_ble_eq_true rfl) (Nat.le_of_ble_eq_true rfl) ⟨rfl, _, _, rfl, hJ1, (tL.rf.up (by decide)), ⟨⟨_, rfl⟩, (Or.inr (Or.inl ⟨kc, rfl, hk3, hkc, rfl, rfl, rfl⟩))⟩⟩
    · obtain rfl : wh = 1 := Int32.toInt_inj.mp (hs3.trans rfl)
      refine x_tabIn 76 C0 (x := 1) dX8_chest_20 (by decide) (by decide) rfl (by decide) ?_
      refine x_aload_n 0 77 C0 dX8_chest_76 rfl rfl rfl ?_
      refine x_getf (v := .ref (g.2 0 + 258 + 1)) 8 80 C0 dX8_chest_77 rfl MR_MW.o rfl (by decide) inX8 mF_X8_7 rfl ?_
      refine x_iload_n 1 81 C0 dX8_chest_80 rfl rfl rfl ?_
      refine x_iload_n 2 82 C0 dX8_chest_81 rfl rfl rfl ?_
      refine x_callS 85 C0 (k_X8_at l hl g _ _ (nI kc) 1) dX8_chest_82 rfl mC_X8_at mM_X8_71 mS_X8_at mN_X8 yd_X8_at rfl rfl ⟨Nat.le_of_ble_eq_true rfl, Nat.le_of_ble_eq_true rfl⟩ rfl rfl (Nat.le_of_ble_eq_true rfl) ⟨Nat.le_of_ble_eq_true rfl, Nat.le_of_ble_eq_true rfl⟩ (fun _ _ _ q => False.elim q) (fun r w1 sz1 hz hP => ?_)
      obtain ⟨rfl, rfl, rfl⟩ := hP
      refine x_st (st1 := [.int (nI (28 + 9 * kc + 1)), .ref (g.2 0 + 258 + 1)]) (congrArg (fun z => Value.int z :: _) (at_nI 28 9 kc 1)) ?_
      refine x_iald 0 86 C0 dX8_chest_85 rfl MR_MW.r_v rfl (vp_in_nI (n := 28 + 9 * kc + 1) (by omega) (by decide)) ?_
      refine x_st (st1 := [.int (v (28 + 9 * kc + 1))]) (congrArg (fun z => Value.int z :: _) (show v (nI (28 + 9 * kc + 1)).toNatClampNeg = v (28 + 9 * kc + 1) from by rw [nI_clamp (by omega)])) ?_
      exact x_ireturn C0 dX8_chest_86 rfl rfl (Nat.le_of_ble_eq_true rfl) (Nat.le_of_ble_eq_true rfl) ⟨rfl, _, _, rfl, hJ1, (tL.rf.up (by decide)), ⟨⟨_, rfl⟩, (Or.inr (Or.inr (Or.inl ⟨kc, rfl, hk3, hkc, rfl, rfl, rfl⟩)))⟩⟩
    · obtain rfl : wh = 2 := Int32.toInt_inj.mp (hs3.trans rfl)
      refine x_tabIn 76 C0 (x := 2) dX8_chest_20 (by decide) (by decide) rfl (by decide) ?_
      refine x_aload_n 0 77 C0 dX8_chest_76 rfl rfl rfl ?_
      refine x_getf (v := .ref (g.2 0 + 258 + 1)) 8 80 C0 dX8_chest_77 rfl MR_MW.o rfl (by decide) inX8 mF_X8_7 rfl ?_
      refine x_iload_n 1 81 C0 dX8_chest_80 rfl rfl rfl ?_
      refine x_iload_n 2 82 C0 dX8_chest_81 rfl rfl rfl ?_
      refine x_callS 85 C0 (k_X8_at l hl g _ _ (nI kc) 2) dX8_chest_82 rfl mC_X8_at mM_X8_71 mS_X8_at mN_X8 yd_X8_at rfl rfl ⟨Nat.le_of_ble_eq_true rfl, Nat.le_of_ble_eq_true rfl⟩ rfl rfl (Nat.le_of_ble_eq_true rfl) ⟨Nat.le_of_ble_eq_true rfl, Nat.le_of_ble_eq_true rfl⟩ (fun _ _ _ q => False.elim q) (fun r w1 sz1 hz hP => ?_)
      obtain ⟨rfl, rfl, rfl⟩ := hP
      refine x_st (st1 := [.int (nI (28 + 9 * kc + 2)), .ref (g.2 0 + 258 + 1)]) (congrArg (fun z => Value.int z :: _) (at_nI 28 9 kc 2)) ?_
      refine x_iald 0 86 C0 dX8_chest_85 rfl MR_MW.r_v rfl (vp_in_nI (n := 28 + 9 * kc + 2) (by omega) (by decide)) ?_
      refine x_st (st1 := [.int (v (28 + 9 * kc + 2))]) (congrArg (fun z => Value.int z :: _) (show v (nI (28 + 9 * kc + 2)).toNatClampNeg = v (28 + 9 * kc + 2) from by rw [nI_clamp (by omega)])) ?_
      exact x_ireturn C0 dX8_chest_86 rfl rfl (Nat.le_of_ble_eq_true rfl) (Nat.le_of_ble_eq_true rfl) ⟨rfl, _, _, rfl, hJ1, (tL.rf.up (by decide)), ⟨⟨_, rfl⟩, (Or.inr (Or.inr (Or.inr (Or.inl ⟨kc, rfl, hk3, hkc, rfl, rfl, rfl⟩))))⟩⟩
    · obtain rfl : wh = 3 := Int32.toInt_inj.mp (hs3.trans rfl)
      refine x_tabIn 76 C0 (x := 3) dX8_chest_20 (by decide) (by decide) rfl (by decide) ?_
      refine x_aload_n 0 77 C0 dX8_chest_76 rfl rfl rfl ?_
      refine x_getf (v := .ref (g.2 0 + 258 + 1)) 8 80 C0 dX8_chest_77 rfl MR_MW.o rfl (by decide) inX8 mF_X8_7 rfl ?_
      refine x_iload_n 1 81 C0 dX8_chest_80 rfl rfl rfl ?_
      refine x_iload_n 2 82 C0 dX8_chest_81 rfl rfl rfl ?_
      refine x_callS 85 C0 (k_X8_at l hl g _ _ (nI kc) 3) dX8_chest_82 rfl mC_X8_at mM_X8_71 mS_X8_at mN_X8 yd_X8_at rfl rfl ⟨Nat.le_of_ble_eq_true rfl, Nat.le_of_ble_eq_true rfl⟩ rfl rfl (Nat.le_of_ble_eq_true rfl) ⟨Nat.le_of_ble_eq_true rfl, Nat.le_of_ble_eq_true rfl⟩ (fun _ _ _ q => False.elim q) (fun r w1 sz1 hz hP => ?_)
      obtain ⟨rfl, rfl, rfl⟩ := hP
      refine x_st (st1 := [.int (nI (28 + 9 * kc + 3)), .ref (g.2 0 + 258 + 1)]) (congrArg (fun z => Value.int z :: _) (at_nI 28 9 kc 3)) ?_
      refine x_iald 0 86 C0 dX8_chest_85 rfl MR_MW.r_v rfl (vp_in_nI (n := 28 + 9 * kc + 3) (by omega) (by decide)) ?_
      refine x_st (st1 := [.int (v (28 + 9 * kc + 3))]) (congrArg (fun z => Value.int z :: _) (show v (nI (28 + 9 * kc + 3)).toNatClampNeg = v (28 + 9 * kc + 3) from by rw [nI_clamp (by omega)])) ?_
      exact x_ireturn C0 dX8_chest_86 rfl rfl (Nat.le_of_ble_eq_true rfl) (Nat.le_of_ble_eq_true rfl) ⟨rfl, _, _, rfl, hJ1, (tL.rf.up (by decide)), ⟨⟨_, rfl⟩, (Or.inr (Or.inr (Or.inr (Or.inr (Or.inl ⟨kc, rfl, hk3, hkc, rfl, rfl, rfl⟩)))))⟩⟩
    · obtain rfl : wh = 4 := Int32.toInt_inj.mp (hs3.trans rfl)
      refine x_tabIn 76 C0 (x := 4) dX8_chest_20 (by decide) (by decide) rfl (by decide) ?_
      refine x_aload_n 0 77 C0 dX8_chest_76 rfl rfl rfl ?_
      refine x_getf (v := .ref (g.2 0 + 258 + 1)) 8 80 C0 dX8_chest_77 rfl MR_MW.o rfl (by decide) inX8 mF_X8_7 rfl ?_
      refine x_iload_n 1 81 C0 dX8_chest_80 rfl rfl rfl ?_
      refine x_iload_n 2 82 C0 dX8_chest_81 rfl rfl rfl ?_
      refine x_callS 85 C0 (k_X8_at l hl g _ _ (nI kc) 4) dX8_chest_82 rfl mC_X8_at mM_X8_71 mS_X8_at mN_X8 yd_X8_at rfl rfl ⟨Nat.le_of_ble_eq_true rfl, Nat.le_of_ble_eq_true rfl⟩ rfl rfl (Nat.le_of_ble_eq_true rfl) ⟨Nat.le_of_ble_eq_true rfl, Nat.le_of_ble_eq_true rfl⟩ (fun _ _ _ q => False.elim q) (fun r w1 sz1 hz hP => ?_)
      obtain ⟨rfl, rfl, rfl⟩ := hP
      refine x_st (st1 := [.int (nI (28 + 9 * kc + 4)), .ref (g.2 0 + 258 + 1)]) (congrArg (fun z => Value.int z :: _) (at_nI 28 9 kc 4)) ?_
      refine x_iald 0 86 C0 dX8_chest_85 rfl MR_MW.r_v rfl (vp_in_nI (n := 28 + 9 * kc + 4) (by omega) (by decide)) ?_
      refine x_st (st1 := [.int (v (28 + 9 * kc + 4))]) (congrArg (fun z => Value.int z :: _) (show v (nI (28 + 9 * kc + 4)).toNatClampNeg = v (28 + 9 * kc + 4) from by rw [nI_clamp (by omega)])) ?_
      exact x_ireturn C0 dX8_chest_86 rfl rfl (Nat.le_of_ble_eq_true rfl) (Nat.le_of_ble_eq_true rfl) ⟨rfl, _, _, rfl, hJ1, (tL.rf.up (by decide)), ⟨⟨_, rfl⟩, (Or.inr (Or.inr (Or.inr (Or.inr (Or.inr (Or.inl ⟨kc, rfl, hk3, hkc, rfl, rfl, rfl⟩))))))⟩⟩
    · obtain rfl : wh = 5 := Int32.toInt_inj.mp (hs3.trans rfl)
      refine x_tabIn 76 C0 (x := 5) dX8_chest_20 (by decide) (by decide) rfl (by decide) ?_
      refine x_aload_n 0 77 C0 dX8_chest_76 rfl rfl rfl ?_
      refine x_getf (v := .ref (g.2 0 + 258 + 1)) 8 80 C0 dX8_chest_77 rfl MR_MW.o rfl (by decide) inX8 mF_X8_7 rfl ?_
      refine x_iload_n 1 81 C0 dX8_chest_80 rfl rfl rfl ?_
      refine x_iload_n 2 82 C0 dX8_chest_81 rfl rfl rfl ?_
      refine x_callS 85 C0 (k_X8_at l hl g _ _ (nI kc) 5) dX8_chest_82 rfl mC_X8_at mM_X8_71 mS_X8_at mN_X8 yd_X8_at rfl rfl ⟨Nat.le_of_ble_eq_true rfl, Nat.le_of_ble_eq_true rfl⟩ rfl rfl (Nat.le_of_ble_eq_true rfl) ⟨Nat.le_of_ble_eq_true rfl, Nat.le_of_ble_eq_true rfl⟩ (fun _ _ _ q => False.elim q) (fun r w1 sz1 hz hP => ?_)
      obtain ⟨rfl, rfl, rfl⟩ := hP
      refine x_st (st1 := [.int (nI (28 + 9 * kc + 5)), .ref (g.2 0 + 258 + 1)]) (congrArg (fun z => Value.int z :: _) (at_nI 28 9 kc 5)) ?_
      refine x_iald 0 86 C0 dX8_chest_85 rfl MR_MW.r_v rfl (vp_in_nI (n := 28 + 9 * kc + 5) (by omega) (by decide)) ?_
      refine x_st (st1 := [.int (v (28 + 9 * kc + 5))]) (congrArg (fun z => Value.int z :: _) (show v (nI (28 + 9 * kc + 5)).toNatClampNeg = v (28 + 9 * kc + 5) from by rw [nI_clamp (by omega)])) ?_
      exact x_ireturn C0 dX8_chest_86 rfl rfl (Nat.le_of_ble_eq_true rfl) (Nat.le_of_ble_eq_true rfl) ⟨rfl, _, _, rfl, hJ1, (tL.rf.up (by decide)), ⟨⟨_, rfl⟩, (Or.inr (Or.inr (Or.inr (Or.inr (Or.inr (Or.inr (Or.inl ⟨kc, rfl, hk3, hkc, rfl, rfl, rfl⟩)))))))⟩⟩
    · obtain rfl : wh = 6 := Int32.toInt_inj.mp (hs3.trans rfl)
      refine x_tabIn 76 C0 (x := 6) dX8_chest_20 (by decide) (by decide) rfl (by decide) ?_
      refine x_aload_n 0 77 C0 dX8_chest_76 rfl rfl rfl ?_
      refine x_getf (v := .ref (g.2 0 + 258 + 1)) 8 80 C0 dX8_chest_77 rfl MR_MW.o rfl (by decide) inX8 mF_X8_7 rfl ?_
      refine x_iload_n 1 81 C0 dX8_chest_80 rfl rfl rfl ?_
      refine x_iload_n 2 82 C0 dX8_chest_81 rfl rfl rfl ?_
      refine x_callS 85 C0 (k_X8_at l hl g _ _ (nI kc) 6) dX8_chest_82 rfl mC_X8_at mM_X8_71 mS_X8_at mN_X8 yd_X8_at rfl rfl ⟨Nat.le_of_ble_eq_true rfl, Nat.le_of_ble_eq_true rfl⟩ rfl rfl (Nat.le_of_ble_eq_true rfl) ⟨Nat.le_of_ble_eq_true rfl, Nat.le_of_ble_eq_true rfl⟩ (fun _ _ _ q => False.elim q) (fun r w1 sz1 hz hP => ?_)
      obtain ⟨rfl, rfl, rfl⟩ := hP
      refine x_st (st1 := [.int (nI (28 + 9 * kc + 6)), .ref (g.2 0 + 258 + 1)]) (congrArg (fun z => Value.int z :: _) (at_nI 28 9 kc 6)) ?_
      refine x_iald 0 86 C0 dX8_chest_85 rfl MR_MW.r_v rfl (vp_in_nI (n := 28 + 9 * kc + 6) (by omega) (by decide)) ?_
      refine x_st (st1 := [.int (v (28 + 9 * kc + 6))]) (congrArg (fun z => Value.int z :: _) (show v (nI (28 + 9 * kc + 6)).toNatClampNeg = v (28 + 9 * kc + 6) from by rw [nI_clamp (by omega)])) ?_
      exact x_ireturn C0 dX8_chest_86 rfl rfl (Nat.le_of_ble_eq_true rfl) (Nat.le_of_ble_eq_true rfl) ⟨rfl, _, _, rfl, hJ1, (tL.rf.up (by decide)), ⟨⟨_, rfl⟩, (Or.inr (Or.inr (Or.inr (Or.inr (Or.inr (Or.inr (Or.inr (Or.inl ⟨kc, rfl, hk3, hkc, rfl, rfl, rfl⟩))))))))⟩⟩
    · obtain rfl : wh = 7 := Int32.toInt_inj.mp (hs3.trans rfl)
      refine x_tabIn 87 C0 (x := 7) dX8_chest_20 (by decide) (by decide) rfl (by decide) ?_
      refine x_aload_n 0 88 C0 dX8_chest_87 rfl rfl rfl ?_
      refine x_iload_n 1 89 C0 dX8_chest_88 rfl rfl rfl ?_
      refine x_callV 92 C0 (k_X8_isTight l hl g _ _ n (upd t 0 0) v bf sv pa lb ip td sg MR_MW hJ1 kc (by omega)) dX8_chest_89 rfl mC_X8_isTight mM_X8_127 mI_X8_isTight mV_X8_isTight mN_X8 yd_X8_isTight rfl rfl ⟨Nat.le_of_ble_eq_true rfl, Nat.le_of_ble_eq_true rfl⟩ MR_MW.o rfl rfl rfl rfl (Nat.le_of_ble_eq_true rfl) ⟨Nat.le_of_ble_eq_true rfl, Nat.le_of_ble_eq_true rfl⟩ (fun _ _ _ q => False.elim q) (fun r w1 sz1 hz hP => ?_)
      obtain ⟨hR5, rfl, rfl⟩ := hP
      rcases hR5 with ⟨rfl, hq5⟩ | ⟨rfl, hq5⟩
      · refine x_st (st1 := [.int 1]) rfl ?_
        refine x_if_eq 99 95 C0 dX8_chest_92 rfl (by decide) (fun q => False.elim (by revert q; decide)) (fun _ => ?_)
        refine x_iconst (v := 1) 96 C0 dX8_chest_95 rfl (by decide) ?_
        refine x_goto 100 C0 dX8_chest_96 (by decide) ?_
        exact x_ireturn C0 dX8_chest_100 rfl rfl (Nat.le_of_ble_eq_true rfl) (Nat.le_of_ble_eq_true rfl) ⟨rfl, _, _, rfl, hJ1, (tL.rf.up (by decide)), ⟨⟨_, rfl⟩, (Or.inr (Or.inr (Or.inr (Or.inr (Or.inr (Or.inr (Or.inr (Or.inr (Or.inl ⟨kc, rfl, hk3, hkc, rfl, hq5, rfl, rfl⟩)))))))))⟩⟩
      · refine x_st (st1 := [.int 0]) rfl ?_
        refine x_if_eq 99 95 C0 dX8_chest_92 rfl (by decide) (fun _ => ?_) (fun q => False.elim (by revert q; decide))
        refine x_iconst (v := 0) 100 C0 dX8_chest_99 rfl (by decide) ?_
        exact x_ireturn C0 dX8_chest_100 rfl rfl (Nat.le_of_ble_eq_true rfl) (Nat.le_of_ble_eq_true rfl) ⟨rfl, _, _, rfl, hJ1, (tL.rf.up (by decide)), ⟨⟨_, rfl⟩, (Or.inr (Or.inr (Or.inr (Or.inr (Or.inr (Or.inr (Or.inr (Or.inr (Or.inr (Or.inl ⟨kc, rfl, hk3, hkc, rfl, hq5, rfl, rfl⟩))))))))))⟩⟩
    · obtain rfl : wh = 8 := Int32.toInt_inj.mp (hs3.trans rfl)
      refine x_tabIn 101 C0 (x := 8) dX8_chest_20 (by decide) (by decide) rfl (by decide) ?_
      refine x_aload_n 0 102 C0 dX8_chest_101 rfl rfl rfl ?_
      refine x_getf (v := .ref (g.2 0 + 258 + 1)) 8 105 C0 dX8_chest_102 rfl MR_MW.o rfl (by decide) inX8 mF_X8_7 rfl ?_
      refine x_iload_n 1 106 C0 dX8_chest_105 rfl rfl rfl ?_
      refine x_bipush (v := 7) 108 C0 dX8_chest_106 rfl (by decide) ?_
      refine x_callS 111 C0 (k_X8_at l hl g _ _ (nI kc) 7) dX8_chest_108 rfl mC_X8_at mM_X8_71 mS_X8_at mN_X8 yd_X8_at rfl rfl ⟨Nat.le_of_ble_eq_true rfl, Nat.le_of_ble_eq_true rfl⟩ rfl rfl (Nat.le_of_ble_eq_true rfl) ⟨Nat.le_of_ble_eq_true rfl, Nat.le_of_ble_eq_true rfl⟩ (fun _ _ _ q => False.elim q) (fun r w1 sz1 hz hP => ?_)
      obtain ⟨rfl, rfl, rfl⟩ := hP
      refine x_st (st1 := [.int (nI (28 + 9 * kc + 7)), .ref (g.2 0 + 258 + 1)]) (congrArg (fun z => Value.int z :: _) (at_nI 28 9 kc 7)) ?_
      refine x_iald 0 112 C0 dX8_chest_111 rfl MR_MW.r_v rfl (vp_in_nI (n := 28 + 9 * kc + 7) (by omega) (by decide)) ?_
      refine x_st (st1 := [.int (v (28 + 9 * kc + 7))]) (congrArg (fun z => Value.int z :: _) (show v (nI (28 + 9 * kc + 7)).toNatClampNeg = v (28 + 9 * kc + 7) from by rw [nI_clamp (by omega)])) ?_
      exact x_ireturn C0 dX8_chest_112 rfl rfl (Nat.le_of_ble_eq_true rfl) (Nat.le_of_ble_eq_true rfl) ⟨rfl, _, _, rfl, hJ1, (tL.rf.up (by decide)), ⟨⟨_, rfl⟩, (Or.inr (Or.inr (Or.inr (Or.inr (Or.inr (Or.inr (Or.inr (Or.inr (Or.inr (Or.inr (Or.inl ⟨kc, rfl, hk3, hkc, rfl, rfl, rfl⟩)))))))))))⟩⟩
    · obtain rfl : wh = 9 := Int32.toInt_inj.mp (hs3.trans rfl)
      refine x_tabIn 113 C0 (x := 9) dX8_chest_20 (by decide) (by decide) rfl (by decide) ?_
      refine x_aload_n 0 114 C0 dX8_chest_113 rfl rfl rfl ?_
      refine x_iload_n 1 115 C0 dX8_chest_114 rfl rfl rfl ?_
      refine x_callV 118 C0 (k_X8_writesLabel l hl g _ _ n (upd t 0 0) v bf sv pa lb ip td sg MR_MW hJ1 kc (by omega)) dX8_chest_115 rfl mC_X8_writesLabel mM_X8_143 mI_X8_writesLabel mV_X8_writesLabel mN_X8 yd_X8_writesLabel rfl rfl ⟨Nat.le_of_ble_eq_true rfl, Nat.le_of_ble_eq_true rfl⟩ MR_MW.o rfl rfl rfl rfl (Nat.le_of_ble_eq_true rfl) ⟨Nat.le_of_ble_eq_true rfl, Nat.le_of_ble_eq_true rfl⟩ (fun _ _ _ q => False.elim q) (fun r w1 sz1 hz hP => ?_)
      obtain ⟨rfl, rfl, t8, lb8, rfl, hJ8, he8, L8, hL8, h88⟩ := hP
      refine x_w MW_MW ?_
      refine x_st (st1 := []) rfl ?_
      refine x_aload_n 0 119 C0 dX8_chest_118 rfl rfl rfl ?_
      refine x_getf (v := .int (t8 8)) 13 122 C0 dX8_chest_119 rfl MR_MW.o rfl (by decide) inX8 mF_X8_136 rfl ?_
      exact x_ireturn C0 dX8_chest_122 rfl rfl (Nat.le_of_ble_eq_true rfl) (Nat.le_of_ble_eq_true rfl) ⟨rfl, _, _, rfl, hJ8, (tL.of8 he8 (tL.rf.up (by decide))), ⟨⟨_, rfl⟩, (Or.inr (Or.inr (Or.inr (Or.inr (Or.inr (Or.inr (Or.inr (Or.inr (Or.inr (Or.inr (Or.inr (Or.inl ⟨kc, t8, rfl, hk3, hkc, rfl, (he8 1 (by decide)), rfl, rfl⟩))))))))))))⟩⟩
  · refine x_st (st1 := [.int 0]) rfl ?_
    refine x_if_ne 19 13 C0 dX8_chest_10 rfl (by decide) (fun q => False.elim (by revert q; decide)) (fun _ => ?_)
    refine x_aload_n 0 14 C0 dX8_chest_13 rfl rfl rfl ?_
    refine x_iconst (v := 1) 15 C0 dX8_chest_14 rfl (by decide) ?_
    refine x_callV 18 C0 (k_X8_no l hl g _ _ n (upd t 0 0) v bf sv pa lb ip td sg MR_MW hJ1 1) dX8_chest_15 rfl mC_X8_no mM_X8_61 mI_X8_no mV_X8_no mN_X8 yd_X8_no rfl rfl ⟨Nat.le_of_ble_eq_true rfl, Nat.le_of_ble_eq_true rfl⟩ MR_MW.o rfl rfl rfl rfl (Nat.le_of_ble_eq_true rfl) ⟨Nat.le_of_ble_eq_true rfl, Nat.le_of_ble_eq_true rfl⟩ (fun _ _ _ q => False.elim q) (fun r w1 sz1 hz hP => ?_)
    obtain ⟨rfl, rfl, rfl⟩ := hP
    refine x_w MW_MW ?_
    have hJ10 : MJ n (upd (upd t 0 0) 0 1) v bf sv pa sg := (hJ1.j_t (by decide))
    refine x_st (st1 := [.int 0]) rfl ?_
    exact x_ireturn C0 dX8_chest_18 rfl rfl (Nat.le_of_ble_eq_true rfl) (Nat.le_of_ble_eq_true rfl) ⟨rfl, _, _, rfl, hJ10, ((tL.rf.up (by decide)).up (by decide)), ⟨⟨_, rfl⟩, (Or.inr (Or.inr (Or.inr (Or.inr (Or.inr (Or.inr (Or.inr (Or.inr (Or.inr (Or.inr (Or.inr (Or.inr (⟨hkn, rfl, rfl⟩)))))))))))))⟩⟩

set_option maxHeartbeats 4000000 in
set_option maxRecDepth 100000 in
theorem k_X8_ranked (l : Launch) (hl : l.stackTraces = false) (g : xg_T) (w : xw_T) (sz n : Nat) (t v bf sv pa lb ip td sg : Nat → Int32) (hM : MR g w t v bf sv pa lb ip td sg) (hJ : MJ n t v bf sv pa sg) (pl : Int32) : xM l g yX8_ranked cX8_ranked 5 (some .int) ({ frames := 3, cells := 0, slots := 0, locals := 66 }) 0 0 [.ref (g.2 0 + 258), .int pl] w sz (mRd g w sz n t v bf sv pa ip td sg (fun r _ => ∃ z : Int32, r = some (.int z))) (fun _ _ _ => False) := by
  refine xM.of RX8 hl (by decide +kernel) rfl (Nat.le_of_ble_eq_true rfl) rfl ?_
  intro p e s m args below meth cD C0 hini
  refine x_aload_n 0 1 C0 dX8_ranked_0 rfl rfl rfl ?_
  refine x_iconst (v := 0) 2 C0 dX8_ranked_1 rfl (by decide) ?_
  refine x_w (MW_self hM) ?_
  refine x_putf 0 5 C0 dX8_ranked_2 rfl MR_MW.o (by show g.2 0 ≤ _; omega) rfl (by decide) inX8 tyX8_ok nmX8 mF_X8_34 rfl rfl rfl rfl (Nat.le_of_ble_eq_true rfl) ?_
  refine x_w (w1 := (MW g w (upd t 0 0) v bf sv pa lb ip td sg)) (MW_o rfl) ?_
  have hJ1 : MJ n (upd t 0 0) v bf sv pa sg := hJ.j_t (by decide)
  refine x_iconst (v := 0) 6 C0 dX8_ranked_5 rfl (by decide) ?_
  refine x_istore_n [(2, .int 0), (0, .ref (g.2 0 + 258)), (1, .int pl)] 7 C0 dX8_ranked_6 rfl rfl (by decide) rfl ?_
  refine x_lv (lv1 := [(0, .ref (g.2 0 + 258)), (1, .int pl), (2, .int 0)]) [1, 2, 0] rfl ?_
  have loop7 : ∀ (N i : Nat), i ≤ 20 → 20 - i < N → xV p l e ({ frames := 3, cells := 0, slots := 0, locals := 66 }) s m args below meth cD (xQ g below (mRd g w sz n t v bf sv pa ip td sg (fun r _ => ∃ z : Int32, r = some (.int z))) (fun _ _ _ => False) args s 0 0) g 5 (MW g w (upd t 0 0) v bf sv pa lb ip td sg) sz (0) (0) 7 [(0, .ref (g.2 0 + 258)), (1, .int pl), (2, .int (nI i))] [] := by
    intro N
    induction N with
    | zero => intro i h1 h2; omega
    | succ N ih =>
      intro i hi hN
      refine x_iload_n 2 8 C0 dX8_ranked_7 rfl rfl rfl ?_
      refine x_aload_n 0 9 C0 dX8_ranked_8 rfl rfl rfl ?_
      refine x_getf (v := .ref (g.2 0 + 258 + 1)) 8 12 C0 dX8_ranked_9 rfl MR_MW.o rfl (by decide) inX8 mF_X8_7 rfl ?_
      refine x_iconst (v := 3) 13 C0 dX8_ranked_12 rfl (by decide) ?_
      refine x_iald 0 14 C0 dX8_ranked_13 rfl MR_MW.r_v rfl (vp_in_nI (n := 3) (by decide) (by decide)) ?_
      refine x_st (st1 := [.int (v 3), .int (nI i)]) (congrArg (fun z => Value.int z :: _) (show v (nI 3).toNatClampNeg = v 3 from by rw [nI_clamp (by omega)])) ?_
      obtain ⟨nC2, hnC2, hv32⟩ := hJ1.1.n
      refine x_st (st1 := [.int (nI nC2), .int (nI i)]) (congrArg (fun z => Value.int z :: _) (hv32)) ?_
      refine x_icmp_ge 110 17 C0 dX8_ranked_14 rfl (by decide) (fun c3 => ?_) (fun c3 => ?_)
      · refine x_aload_n 0 111 C0 dX8_ranked_110 rfl rfl rfl ?_
        refine x_iconst (v := 1) 112 C0 dX8_ranked_111 rfl (by decide) ?_
        refine x_callV 115 C0 (k_X8_no l hl g _ _ n (upd t 0 0) v bf sv pa lb ip td sg MR_MW hJ1 1) dX8_ranked_112 rfl mC_X8_no mM_X8_61 mI_X8_no mV_X8_no mN_X8 yd_X8_no rfl rfl ⟨Nat.le_of_ble_eq_true rfl, Nat.le_of_ble_eq_true rfl⟩ MR_MW.o rfl rfl rfl rfl (Nat.le_of_ble_eq_true rfl) ⟨Nat.le_of_ble_eq_true rfl, Nat.le_of_ble_eq_true rfl⟩ (fun _ _ _ q => False.elim q) (fun r w1 sz1 hz hP => ?_)
        obtain ⟨rfl, rfl, rfl⟩ := hP
        refine x_w MW_MW ?_
        have hJ4 : MJ n (upd (upd t 0 0) 0 1) v bf sv pa sg := (hJ1.j_t (by decide))
        refine x_st (st1 := [.int 0]) rfl ?_
        exact x_ireturn C0 dX8_ranked_115 rfl rfl (Nat.le_of_ble_eq_true rfl) (Nat.le_of_ble_eq_true rfl) ⟨rfl, _, _, rfl, hJ4, ((tL.rf.up (by decide)).up (by decide)), ⟨_, rfl⟩⟩
      · have hi2 : i < nC2 := Nat.lt_of_not_le (fun z => c3 (nI_le (a := nC2) z (by omega)))
        refine x_aload_n 0 18 C0 dX8_ranked_17 rfl rfl rfl ?_
        refine x_getf (v := .ref (g.2 0 + 258 + 1)) 8 21 C0 dX8_ranked_18 rfl MR_MW.o rfl (by decide) inX8 mF_X8_7 rfl ?_
        refine x_iload_n 2 22 C0 dX8_ranked_21 rfl rfl rfl ?_
        refine x_bipush (v := 7) 24 C0 dX8_ranked_22 rfl (by decide) ?_
        refine x_callS 27 C0 (k_X8_at l hl g _ _ (nI i) 7) dX8_ranked_24 rfl mC_X8_at mM_X8_71 mS_X8_at mN_X8 yd_X8_at rfl rfl ⟨Nat.le_of_ble_eq_true rfl, Nat.le_of_ble_eq_true rfl⟩ rfl rfl (Nat.le_of_ble_eq_true rfl) ⟨Nat.le_of_ble_eq_true rfl, Nat.le_of_ble_eq_true rfl⟩ (fun _ _ _ q => False.elim q) (fun r w1 sz1 hz hP => ?_)
        obtain ⟨rfl, rfl, rfl⟩ := hP
        refine x_st (st1 := [.int (nI (28 + 9 * i + 7)), .ref (g.2 0 + 258 + 1)]) (congrArg (fun z => Value.int z :: _) (at_nI 28 9 i 7)) ?_
        refine x_iald 0 28 C0 dX8_ranked_27 rfl MR_MW.r_v rfl (vp_in_nI (n := 28 + 9 * i + 7) (by omega) (by decide)) ?_
        refine x_st (st1 := [.int (v (28 + 9 * i + 7))]) (congrArg (fun z => Value.int z :: _) (show v (nI (28 + 9 * i + 7)).toNatClampNeg = v (28 + 9 * i + 7) from by rw [nI_clamp (by omega)])) ?_
        refine x_iconst (v := 3) 29 C0 dX8_ranked_28 rfl (by decide) ?_
        refine x_icmp_ne 35 32 C0 dX8_ranked_29 rfl (by decide) (fun c5 => ?_) (fun c5 => ?_)
        · refine x_iconst (v := 0) 36 C0 dX8_ranked_35 rfl (by decide) ?_
          refine x_istore_n [(3, .int 0), (0, .ref (g.2 0 + 258)), (1, .int pl), (2, .int (nI i))] 37 C0 dX8_ranked_36 rfl rfl (by decide) rfl ?_
          refine x_lv (lv1 := [(0, .ref (g.2 0 + 258)), (1, .int pl), (2, .int (nI i)), (3, .int 0)]) [1, 2, 3, 0] rfl ?_
          refine x_iconst (v := 0) 38 C0 dX8_ranked_37 rfl (by decide) ?_
          refine x_istore [(4, .int 0), (0, .ref (g.2 0 + 258)), (1, .int pl), (2, .int (nI i)), (3, .int 0)] 40 C0 dX8_ranked_38 rfl (by decide) rfl ?_
          refine x_lv (lv1 := [(0, .ref (g.2 0 + 258)), (1, .int pl), (2, .int (nI i)), (3, .int 0), (4, .int 0)]) [1, 2, 3, 4, 0] rfl ?_
          have loop40 : ∀ (Nj ij : Nat) (ac : Int32), ij ≤ 20 → 20 - ij < Nj → xV p l e ({ frames := 3, cells := 0, slots := 0, locals := 66 }) s m args below meth cD (xQ g below (mRd g w sz n t v bf sv pa ip td sg (fun r _ => ∃ z : Int32, r = some (.int z))) (fun _ _ _ => False) args s 0 0) g 5 (MW g w (upd t 0 0) v bf sv pa lb ip td sg) sz (0 + 0) (0 + 0) 40 [(0, .ref (g.2 0 + 258)), (1, .int pl), (2, .int (nI i)), (3, .int ac), (4, .int (nI ij))] [] := by
            intro Nj
            induction Nj with
            | zero => intro ij ac h1 h2; omega
            | succ Nj ihj =>
              intro ij ac hij hNj
              refine x_iload 4 42 C0 dX8_ranked_40 rfl rfl ?_
              refine x_aload_n 0 43 C0 dX8_ranked_42 rfl rfl rfl ?_
              refine x_getf (v := .ref (g.2 0 + 258 + 1)) 8 46 C0 dX8_ranked_43 rfl MR_MW.o rfl (by decide) inX8 mF_X8_7 rfl ?_
              refine x_iconst (v := 3) 47 C0 dX8_ranked_46 rfl (by decide) ?_
              refine x_iald 0 48 C0 dX8_ranked_47 rfl MR_MW.r_v rfl (vp_in_nI (n := 3) (by decide) (by decide)) ?_
              refine x_st (st1 := [.int (v 3), .int (nI ij)]) (congrArg (fun z => Value.int z :: _) (show v (nI 3).toNatClampNeg = v 3 from by rw [nI_clamp (by omega)])) ?_
              refine x_st (st1 := [.int (nI nC2), .int (nI ij)]) (congrArg (fun z => Value.int z :: _) (hv32)) ?_
              refine x_icmp_ge 97 51 C0 dX8_ranked_48 rfl (by decide) (fun c6 => ?_) (fun c6 => ?_)
              · refine x_iload_n 3 98 C0 dX8_ranked_97 rfl rfl rfl ?_
                refine x_iload_n 1 99 C0 dX8_ranked_98 rfl rfl rfl ?_
                refine x_icmp_ne 104 102 C0 dX8_ranked_99 rfl (by decide) (fun c7 => ?_) (fun c7 => ?_)
                · refine x_iinc [(2, .int (nI (i + 1))), (0, .ref (g.2 0 + 258)), (1, .int pl), (3, .int ac), (4, .int (nI ij))] 2 107 C0 dX8_ranked_104 rfl rfl (nI_1 i) (by decide) rfl ?_
                  refine x_lv (lv1 := [(0, .ref (g.2 0 + 258)), (1, .int pl), (2, .int (nI (i + 1))), (3, .int ac), (4, .int (nI ij))]) [1, 2, 0, 3, 4] rfl ?_
                  refine x_goto 7 C0 dX8_ranked_107 (by decide) ?_
                  exact x_lv [0, 1, 2] rfl (ih (i + 1) (by omega) (by omega))
                · refine x_iload_n 2 103 C0 dX8_ranked_102 rfl rfl rfl ?_
                  exact x_ireturn C0 dX8_ranked_103 rfl rfl (Nat.le_of_ble_eq_true rfl) (Nat.le_of_ble_eq_true rfl) ⟨rfl, _, _, rfl, hJ1, (tL.rf.up (by decide)), ⟨_, rfl⟩⟩
              · have hi2j : ij < nC2 := Nat.lt_of_not_le (fun z => c6 (nI_le (a := nC2) z (by omega)))
                refine x_iload_n 3 52 C0 dX8_ranked_51 rfl rfl rfl ?_
                refine x_iload 4 54 C0 dX8_ranked_52 rfl rfl ?_
                refine x_iload_n 2 55 C0 dX8_ranked_54 rfl rfl rfl ?_
                refine x_icmp_eq 88 58 C0 dX8_ranked_55 rfl (by decide) (fun c8 => ?_) (fun c8 => ?_)
                · refine x_iconst (v := 0) 89 C0 dX8_ranked_88 rfl (by decide) ?_
                  refine x_iadd 90 C0 dX8_ranked_89 rfl ?_
                  refine x_istore_n [(3, .int (ac + 0)), (0, .ref (g.2 0 + 258)), (1, .int pl), (2, .int (nI i)), (4, .int (nI ij))] 91 C0 dX8_ranked_90 rfl rfl (by decide) rfl ?_
                  refine x_lv (lv1 := [(0, .ref (g.2 0 + 258)), (1, .int pl), (2, .int (nI i)), (3, .int (ac + 0)), (4, .int (nI ij))]) [1, 2, 3, 0, 4] rfl ?_
                  refine x_iinc [(4, .int (nI (ij + 1))), (0, .ref (g.2 0 + 258)), (1, .int pl), (2, .int (nI i)), (3, .int (ac + 0))] 4 94 C0 dX8_ranked_91 rfl rfl (nI_1 ij) (by decide) rfl ?_
                  refine x_lv (lv1 := [(0, .ref (g.2 0 + 258)), (1, .int pl), (2, .int (nI i)), (3, .int (ac + 0)), (4, .int (nI (ij + 1)))]) [1, 2, 3, 4, 0] rfl ?_
                  refine x_goto 40 C0 dX8_ranked_94 (by decide) ?_
                  exact x_lv [0, 1, 2, 3, 4] rfl (ihj (ij + 1) _ (by omega) (by omega))
                · refine x_aload_n 0 59 C0 dX8_ranked_58 rfl rfl rfl ?_
                  refine x_getf (v := .ref (g.2 0 + 258 + 1)) 8 62 C0 dX8_ranked_59 rfl MR_MW.o rfl (by decide) inX8 mF_X8_7 rfl ?_
                  refine x_iload 4 64 C0 dX8_ranked_62 rfl rfl ?_
                  refine x_bipush (v := 7) 66 C0 dX8_ranked_64 rfl (by decide) ?_
                  refine x_callS 69 C0 (k_X8_at l hl g _ _ (nI ij) 7) dX8_ranked_66 rfl mC_X8_at mM_X8_71 mS_X8_at mN_X8 yd_X8_at rfl rfl ⟨Nat.le_of_ble_eq_true rfl, Nat.le_of_ble_eq_true rfl⟩ rfl rfl (Nat.le_of_ble_eq_true rfl) ⟨Nat.le_of_ble_eq_true rfl, Nat.le_of_ble_eq_true rfl⟩ (fun _ _ _ q => False.elim q) (fun r w1 sz1 hz hP => ?_)
                  obtain ⟨rfl, rfl, rfl⟩ := hP
                  refine x_st (st1 := [.int (nI (28 + 9 * ij + 7)), .ref (g.2 0 + 258 + 1), .int ac]) (congrArg (fun z => Value.int z :: _) (at_nI 28 9 ij 7)) ?_
                  refine x_iald 0 70 C0 dX8_ranked_69 rfl MR_MW.r_v rfl (vp_in_nI (n := 28 + 9 * ij + 7) (by omega) (by decide)) ?_
                  refine x_st (st1 := [.int (v (28 + 9 * ij + 7)), .int ac]) (congrArg (fun z => Value.int z :: _) (show v (nI (28 + 9 * ij + 7)).toNatClampNeg = v (28 + 9 * ij + 7) from by rw [nI_clamp (by omega)])) ?_
                  refine x_iconst (v := 3) 71 C0 dX8_ranked_70 rfl (by decide) ?_
                  refine x_icmp_eq 88 74 C0 dX8_ranked_71 rfl (by decide) (fun c9 => ?_) (fun c9 => ?_)
                  · refine x_iconst (v := 0) 89 C0 dX8_ranked_88 rfl (by decide) ?_
                    refine x_iadd 90 C0 dX8_ranked_89 rfl ?_
                    refine x_istore_n [(3, .int (ac + 0)), (0, .ref (g.2 0 + 258)), (1, .int pl), (2, .int (nI i)), (4, .int (nI ij))] 91 C0 dX8_ranked_90 rfl rfl (by decide) rfl ?_
                    refine x_lv (lv1 := [(0, .ref (g.2 0 + 258)), (1, .int pl), (2, .int (nI i)), (3, .int (ac + 0)), (4, .int (nI ij))]) [1, 2, 3, 0, 4] rfl ?_
                    refine x_iinc [(4, .int (nI (ij + 1))), (0, .ref (g.2 0 + 258)), (1, .int pl), (2, .int (nI i)), (3, .int (ac + 0))] 4 94 C0 dX8_ranked_91 rfl rfl (nI_1 ij) (by decide) rfl ?_
                    refine x_lv (lv1 := [(0, .ref (g.2 0 + 258)), (1, .int pl), (2, .int (nI i)), (3, .int (ac + 0)), (4, .int (nI (ij + 1)))]) [1, 2, 3, 4, 0] rfl ?_
                    refine x_goto 40 C0 dX8_ranked_94 (by decide) ?_
                    exact x_lv [0, 1, 2, 3, 4] rfl (ihj (ij + 1) _ (by omega) (by omega))
                  · refine x_aload_n 0 75 C0 dX8_ranked_74 rfl rfl rfl ?_
                    refine x_iload 4 77 C0 dX8_ranked_75 rfl rfl ?_
                    refine x_iload_n 2 78 C0 dX8_ranked_77 rfl rfl rfl ?_
                    refine x_callV 81 C0 (k_X8_isAhead l hl g _ _ n (upd t 0 0) v bf sv pa lb ip td sg MR_MW hJ1 ij i (by omega) (by omega)) dX8_ranked_78 rfl mC_X8_isAhead mM_X8_152 mI_X8_isAhead mV_X8_isAhead mN_X8 yd_X8_isAhead rfl rfl ⟨Nat.le_of_ble_eq_true rfl, Nat.le_of_ble_eq_true rfl⟩ MR_MW.o rfl rfl rfl rfl (Nat.le_of_ble_eq_true rfl) ⟨Nat.le_of_ble_eq_true rfl, Nat.le_of_ble_eq_true rfl⟩ (fun _ _ _ q => False.elim q) (fun r w1 sz1 hz hP => ?_)
                    obtain ⟨hR10, rfl, rfl⟩ := hP
                    rcases hR10 with ⟨rfl, hq10⟩ | ⟨rfl, hq10⟩
                    · refine x_st (st1 := [.int 1, .int ac]) rfl ?_
                      refine x_if_eq 88 84 C0 dX8_ranked_81 rfl (by decide) (fun q => False.elim (by revert q; decide)) (fun _ => ?_)
                      refine x_iconst (v := 1) 85 C0 dX8_ranked_84 rfl (by decide) ?_
                      refine x_goto 89 C0 dX8_ranked_85 (by decide) ?_
                      refine x_iadd 90 C0 dX8_ranked_89 rfl ?_
                      refine x_istore_n [(3, .int (ac + 1)), (0, .ref (g.2 0 + 258)), (1, .int pl), (2, .int (nI i)), (4, .int (nI ij))] 91 C0 dX8_ranked_90 rfl rfl (by decide) rfl ?_
                      refine x_lv (lv1 := [(0, .ref (g.2 0 + 258)), (1, .int pl), (2, .int (nI i)), (3, .int (ac + 1)), (4, .int (nI ij))]) [1, 2, 3, 0, 4] rfl ?_
                      refine x_iinc [(4, .int (nI (ij + 1))), (0, .ref (g.2 0 + 258)), (1, .int pl), (2, .int (nI i)), (3, .int (ac + 1))] 4 94 C0 dX8_ranked_91 rfl rfl (nI_1 ij) (by decide) rfl ?_
                      refine x_lv (lv1 := [(0, .ref (g.2 0 + 258)), (1, .int pl), (2, .int (nI i)), (3, .int (ac + 1)), (4, .int (nI (ij + 1)))]) [1, 2, 3, 4, 0] rfl ?_
                      refine x_goto 40 C0 dX8_ranked_94 (by decide) ?_
                      exact x_lv [0, 1, 2, 3, 4] rfl (ihj (ij + 1) _ (by omega) (by omega))
                    · refine x_st (st1 := [.int 0, .int ac]) rfl ?_
                      refine x_if_eq 88 84 C0 dX8_ranked_81 rfl (by decide) (fun _ => ?_) (fun q => False.elim (by revert q; decide))
                      refine x_iconst (v := 0) 89 C0 dX8_ranked_88 rfl (by decide) ?_
                      refine x_iadd 90 C0 dX8_ranked_89 rfl ?_
                      refine x_istore_n [(3, .int (ac + 0)), (0, .ref (g.2 0 + 258)), (1, .int pl), (2, .int (nI i)), (4, .int (nI ij))] 91 C0 dX8_ranked_90 rfl rfl (by decide) rfl ?_
                      refine x_lv (lv1 := [(0, .ref (g.2 0 + 258)), (1, .int pl), (2, .int (nI i)), (3, .int (ac + 0)), (4, .int (nI ij))]) [1, 2, 3, 0, 4] rfl ?_
                      refine x_iinc [(4, .int (nI (ij + 1))), (0, .ref (g.2 0 + 258)), (1, .int pl), (2, .int (nI i)), (3, .int (ac + 0))] 4 94 C0 dX8_ranked_91 rfl rfl (nI_1 ij) (by decide) rfl ?_
                      refine x_lv (lv1 := [(0, .ref (g.2 0 + 258)), (1, .int pl), (2, .int (nI i)), (3, .int (ac + 0)), (4, .int (nI (ij + 1)))]) [1, 2, 3, 4, 0] rfl ?_
                      refine x_goto 40 C0 dX8_ranked_94 (by decide) ?_
                      exact x_lv [0, 1, 2, 3, 4] rfl (ihj (ij + 1) _ (by omega) (by omega))
          exact x_lv [0, 1, 2, 3, 4] rfl (loop40 (20 + 1) 0 _ (by omega) (by omega))
        · refine x_goto 104 C0 dX8_ranked_32 (by decide) ?_
          refine x_iinc [(2, .int (nI (i + 1))), (0, .ref (g.2 0 + 258)), (1, .int pl)] 2 107 C0 dX8_ranked_104 rfl rfl (nI_1 i) (by decide) rfl ?_
          refine x_lv (lv1 := [(0, .ref (g.2 0 + 258)), (1, .int pl), (2, .int (nI (i + 1)))]) [1, 2, 0] rfl ?_
          refine x_goto 7 C0 dX8_ranked_107 (by decide) ?_
          exact x_lv [0, 1, 2] rfl (ih (i + 1) (by omega) (by omega))
  exact x_lv [0, 1, 2] rfl (loop7 (20 + 1) 0 (by omega) (by omega))

def Q_X8_height (n : Nat) (t v : Nat → Int32) (hs : Int32) (r : Option Value) (z : Int32) : Prop :=
  ((0 ≤ hs ∧ hs ≤ 99) ∧ (z = 0) ∧ (r = some (.int (hgt ((v 0) + hs))))) ∨
  ((¬ (0 ≤ hs ∧ hs ≤ 99)) ∧ (z = 1) ∧ (r = some (.int (0))))
set_option maxHeartbeats 4000000 in
set_option maxRecDepth 100000 in
theorem k_X8_height (l : Launch) (hl : l.stackTraces = false) (g : xg_T) (w : xw_T) (sz n : Nat) (t v bf sv pa lb ip td sg : Nat → Int32) (hM : MR g w t v bf sv pa lb ip td sg) (hJ : MJ n t v bf sv pa sg) (hs : Int32) : xM l g yX8_height cX8_height 2 (some .int) ({ frames := 1, cells := 0, slots := 0, locals := 22 }) 0 0 [.ref (g.2 0 + 258), .int hs] w sz (mRd g w sz n t v bf sv pa ip td sg (fun r z => (∃ q : Int32, r = some (.int q)) ∧ Q_X8_height n t v hs r z)) (fun _ _ _ => False) := by
  refine xM.of RX8 hl (by decide +kernel) rfl (Nat.le_of_ble_eq_true rfl) rfl ?_
  intro p e s m args below meth cD C0 hini
  refine x_aload_n 0 1 C0 dX8_height_0 rfl rfl rfl ?_
  refine x_iconst (v := 0) 2 C0 dX8_height_1 rfl (by decide) ?_
  refine x_w (MW_self hM) ?_
  refine x_putf 0 5 C0 dX8_height_2 rfl MR_MW.o (by show g.2 0 ≤ _; omega) rfl (by decide) inX8 tyX8_ok nmX8 mF_X8_34 rfl rfl rfl rfl (Nat.le_of_ble_eq_true rfl) ?_
  refine x_w (w1 := (MW g w (upd t 0 0) v bf sv pa lb ip td sg)) (MW_o rfl) ?_
  have hJ1 : MJ n (upd t 0 0) v bf sv pa sg := hJ.j_t (by decide)
  refine x_iload_n 1 6 C0 dX8_height_5 rfl rfl rfl ?_
  refine x_iconst (v := 0) 7 C0 dX8_height_6 rfl (by decide) ?_
  refine x_bipush (v := 99) 9 C0 dX8_height_7 rfl (by decide) ?_
  refine x_callS 12 C0 (k_X8_isIn l hl g _ _ hs 0 99) dX8_height_9 rfl mC_X8_isIn mM_X8_67 mS_X8_isIn mN_X8 yd_X8_isIn rfl rfl ⟨Nat.le_of_ble_eq_true rfl, Nat.le_of_ble_eq_true rfl⟩ rfl rfl (Nat.le_of_ble_eq_true rfl) ⟨Nat.le_of_ble_eq_true rfl, Nat.le_of_ble_eq_true rfl⟩ (fun _ _ _ q => False.elim q) (fun r w1 sz1 hz hP => ?_)
  obtain ⟨hr, rfl, rfl⟩ := hP
  rcases hr with ⟨rfl, ha2, hb2⟩ | ⟨rfl, hx2⟩
  · refine x_st (st1 := [.int 1]) rfl ?_
    refine x_if_eq 29 15 C0 dX8_height_12 rfl (by decide) (fun q => False.elim (by revert q; decide)) (fun _ => ?_)
    refine x_aload_n 0 16 C0 dX8_height_15 rfl rfl rfl ?_
    refine x_getf (v := .ref (g.2 0 + 258 + 1)) 8 19 C0 dX8_height_16 rfl MR_MW.o rfl (by decide) inX8 mF_X8_7 rfl ?_
    refine x_iconst (v := 0) 20 C0 dX8_height_19 rfl (by decide) ?_
    refine x_iald 0 21 C0 dX8_height_20 rfl MR_MW.r_v rfl (vp_in_nI (n := 0) (by decide) (by decide)) ?_
    refine x_st (st1 := [.int (v 0)]) (congrArg (fun z => Value.int z :: _) (show v (nI 0).toNatClampNeg = v 0 from by rw [nI_clamp (by omega)])) ?_
    refine x_iload_n 1 22 C0 dX8_height_21 rfl rfl rfl ?_
    refine x_iadd 23 C0 dX8_height_22 rfl ?_
    refine x_callS 26 C0 (k_X8_heightAt l hl g _ _ ((v 0) + hs)) dX8_height_23 rfl mC_X8_heightAt mM_X8_161 mS_X8_heightAt mN_X8 yd_X8_heightAt rfl rfl ⟨Nat.le_of_ble_eq_true rfl, Nat.le_of_ble_eq_true rfl⟩ rfl rfl (Nat.le_of_ble_eq_true rfl) ⟨Nat.le_of_ble_eq_true rfl, Nat.le_of_ble_eq_true rfl⟩ (fun _ _ _ q => False.elim q) (fun r w1 sz1 hz hP => ?_)
    obtain ⟨rfl, rfl, rfl⟩ := hP
    refine x_st (st1 := [.int (hgt ((v 0) + hs))]) rfl ?_
    refine x_goto 34 C0 dX8_height_26 (by decide) ?_
    exact x_ireturn C0 dX8_height_34 rfl rfl (Nat.le_of_ble_eq_true rfl) (Nat.le_of_ble_eq_true rfl) ⟨rfl, _, _, rfl, hJ1, (tL.rf.up (by decide)), ⟨⟨_, rfl⟩, (Or.inl ⟨⟨ha2, hb2⟩, rfl, rfl⟩)⟩⟩
  · refine x_st (st1 := [.int 0]) rfl ?_
    refine x_if_eq 29 15 C0 dX8_height_12 rfl (by decide) (fun _ => ?_) (fun q => False.elim (by revert q; decide))
    refine x_aload_n 0 30 C0 dX8_height_29 rfl rfl rfl ?_
    refine x_iconst (v := 1) 31 C0 dX8_height_30 rfl (by decide) ?_
    refine x_callV 34 C0 (k_X8_no l hl g _ _ n (upd t 0 0) v bf sv pa lb ip td sg MR_MW hJ1 1) dX8_height_31 rfl mC_X8_no mM_X8_61 mI_X8_no mV_X8_no mN_X8 yd_X8_no rfl rfl ⟨Nat.le_of_ble_eq_true rfl, Nat.le_of_ble_eq_true rfl⟩ MR_MW.o rfl rfl rfl rfl (Nat.le_of_ble_eq_true rfl) ⟨Nat.le_of_ble_eq_true rfl, Nat.le_of_ble_eq_true rfl⟩ (fun _ _ _ q => False.elim q) (fun r w1 sz1 hz hP => ?_)
    obtain ⟨rfl, rfl, rfl⟩ := hP
    refine x_w MW_MW ?_
    have hJ5 : MJ n (upd (upd t 0 0) 0 1) v bf sv pa sg := (hJ1.j_t (by decide))
    refine x_st (st1 := [.int 0]) rfl ?_
    exact x_ireturn C0 dX8_height_34 rfl rfl (Nat.le_of_ble_eq_true rfl) (Nat.le_of_ble_eq_true rfl) ⟨rfl, _, _, rfl, hJ5, ((tL.rf.up (by decide)).up (by decide)), ⟨⟨_, rfl⟩, (Or.inr (⟨hx2, rfl, rfl⟩))⟩⟩

def Q_X8_heightAgain (n : Nat) (t v : Nat → Int32) (hs : Int32) (r : Option Value) (z : Int32) : Prop :=
  (∃ (a1 : Int32) (t1 : Nat → Int32), (Q_X8_height n t v hs (some (.int a1)) (t1 0)) ∧ (z = t1 0) ∧ (r = some (.int (a1))))
set_option maxHeartbeats 4000000 in
set_option maxRecDepth 100000 in
theorem k_X8_heightAgain (l : Launch) (hl : l.stackTraces = false) (g : xg_T) (w : xw_T) (sz n : Nat) (t v bf sv pa lb ip td sg : Nat → Int32) (hM : MR g w t v bf sv pa lb ip td sg) (hJ : MJ n t v bf sv pa sg) (hs : Int32) : xM l g yX8_heightAgain cX8_heightAgain 2 (some .int) ({ frames := 2, cells := 0, slots := 0, locals := 43 }) 0 0 [.ref (g.2 0 + 258), .int hs] w sz (mRd g w sz n t v bf sv pa ip td sg (fun r z => (∃ q : Int32, r = some (.int q)) ∧ Q_X8_heightAgain n t v hs r z)) (fun _ _ _ => False) := by
  refine xM.of RX8 hl (by decide +kernel) rfl (Nat.le_of_ble_eq_true rfl) rfl ?_
  intro p e s m args below meth cD C0 hini
  refine x_aload_n 0 1 C0 dX8_heightAgain_0 rfl rfl rfl ?_
  refine x_iload_n 1 2 C0 dX8_heightAgain_1 rfl rfl rfl ?_
  refine x_callV 5 C0 (k_X8_height l hl g _ _ n t v bf sv pa lb ip td sg hM hJ hs) dX8_heightAgain_2 rfl mC_X8_height mM_X8_177 mI_X8_height mV_X8_height mN_X8 yd_X8_height rfl rfl ⟨Nat.le_of_ble_eq_true rfl, Nat.le_of_ble_eq_true rfl⟩ hM.o rfl rfl rfl rfl (Nat.le_of_ble_eq_true rfl) ⟨Nat.le_of_ble_eq_true rfl, Nat.le_of_ble_eq_true rfl⟩ (fun _ _ _ q => False.elim q) (fun r w1 sz1 hz hP => ?_)
  obtain ⟨rfl, t1, lb1, rfl, hJ1, hR1⟩ := hP
  obtain ⟨hL1, ⟨a1, rfl⟩, hQ1⟩ := hR1
  refine x_st (st1 := [.int a1]) rfl ?_
  exact x_ireturn C0 dX8_heightAgain_5 rfl rfl (Nat.le_of_ble_eq_true rfl) (Nat.le_of_ble_eq_true rfl) ⟨rfl, _, _, rfl, hJ1, hL1, ⟨⟨_, rfl⟩, ⟨a1, t1, hQ1, rfl, rfl⟩⟩⟩

set_option maxHeartbeats 4000000 in
set_option maxRecDepth 100000 in
theorem k_X8_reachedIn (l : Launch) (hl : l.stackTraces = false) (g : xg_T) (w : xw_T) (sz n : Nat) (t v bf sv pa lb ip td sg : Nat → Int32) (hM : MR g w t v bf sv pa lb ip td sg) (hJ : MJ n t v bf sv pa sg) : xM l g yX8_reachedIn cX8_reachedIn 2 (some .int) ({ frames := 1, cells := 0, slots := 0, locals := 21 }) 0 0 [.ref (g.2 0 + 258)] w sz (mRd g w sz n t v bf sv pa ip td sg (fun r _ => ∃ z : Int32, r = some (.int z))) (fun _ _ _ => False) := by
  refine xM.of RX8 hl (by decide +kernel) rfl (Nat.le_of_ble_eq_true rfl) rfl ?_
  intro p e s m args below meth cD C0 hini
  refine x_aload_n 0 1 C0 dX8_reachedIn_0 rfl rfl rfl ?_
  refine x_iconst (v := 0) 2 C0 dX8_reachedIn_1 rfl (by decide) ?_
  refine x_w (MW_self hM) ?_
  refine x_putf 0 5 C0 dX8_reachedIn_2 rfl MR_MW.o (by show g.2 0 ≤ _; omega) rfl (by decide) inX8 tyX8_ok nmX8 mF_X8_34 rfl rfl rfl rfl (Nat.le_of_ble_eq_true rfl) ?_
  refine x_w (w1 := (MW g w (upd t 0 0) v bf sv pa lb ip td sg)) (MW_o rfl) ?_
  have hJ1 : MJ n (upd t 0 0) v bf sv pa sg := hJ.j_t (by decide)
  refine x_iconst (v := 0) 6 C0 dX8_reachedIn_5 rfl (by decide) ?_
  refine x_istore_n [(1, .int 0), (0, .ref (g.2 0 + 258))] 7 C0 dX8_reachedIn_6 rfl rfl (by decide) rfl ?_
  refine x_lv (lv1 := [(0, .ref (g.2 0 + 258)), (1, .int 0)]) [1, 0] rfl ?_
  have loop7 : ∀ (N i : Nat), far (v 0 + nI i) < N → xV p l e ({ frames := 1, cells := 0, slots := 0, locals := 21 }) s m args below meth cD (xQ g below (mRd g w sz n t v bf sv pa ip td sg (fun r _ => ∃ z : Int32, r = some (.int z))) (fun _ _ _ => False) args s 0 0) g 2 (MW g w (upd t 0 0) v bf sv pa lb ip td sg) sz (0) (0) 7 [(0, .ref (g.2 0 + 258)), (1, .int (nI i))] [] := by
    intro N
    induction N with
    | zero => intro i h1; omega
    | succ N ih =>
      intro i hN
      refine x_aload_n 0 8 C0 dX8_reachedIn_7 rfl rfl rfl ?_
      refine x_getf (v := .ref (g.2 0 + 258 + 1)) 8 11 C0 dX8_reachedIn_8 rfl MR_MW.o rfl (by decide) inX8 mF_X8_7 rfl ?_
      refine x_iconst (v := 0) 12 C0 dX8_reachedIn_11 rfl (by decide) ?_
      refine x_iald 0 13 C0 dX8_reachedIn_12 rfl MR_MW.r_v rfl (vp_in_nI (n := 0) (by decide) (by decide)) ?_
      refine x_st (st1 := [.int (v 0)]) (congrArg (fun z => Value.int z :: _) (show v (nI 0).toNatClampNeg = v 0 from by rw [nI_clamp (by omega)])) ?_
      refine x_iload_n 1 14 C0 dX8_reachedIn_13 rfl rfl rfl ?_
      refine x_iadd 15 C0 dX8_reachedIn_14 rfl ?_
      refine x_callS 18 C0 (k_X8_heightAt l hl g _ _ ((v 0) + (nI i))) dX8_reachedIn_15 rfl mC_X8_heightAt mM_X8_161 mS_X8_heightAt mN_X8 yd_X8_heightAt rfl rfl ⟨Nat.le_of_ble_eq_true rfl, Nat.le_of_ble_eq_true rfl⟩ rfl rfl (Nat.le_of_ble_eq_true rfl) ⟨Nat.le_of_ble_eq_true rfl, Nat.le_of_ble_eq_true rfl⟩ (fun _ _ _ q => False.elim q) (fun r w1 sz1 hz hP => ?_)
      obtain ⟨rfl, rfl, rfl⟩ := hP
      refine x_st (st1 := [.int (hgt ((v 0) + (nI i)))]) rfl ?_
      refine x_iconst (v := 3) 19 C0 dX8_reachedIn_18 rfl (by decide) ?_
      refine x_icmp_ge 28 22 C0 dX8_reachedIn_19 rfl (by decide) (fun c2 => ?_) (fun c2 => ?_)
      · have c2' := Int32.not_lt.mpr c2
        refine x_iload_n 1 29 C0 dX8_reachedIn_28 rfl rfl rfl ?_
        exact x_ireturn C0 dX8_reachedIn_29 rfl rfl (Nat.le_of_ble_eq_true rfl) (Nat.le_of_ble_eq_true rfl) ⟨rfl, _, _, rfl, hJ1, (tL.rf.up (by decide)), ⟨_, rfl⟩⟩
      · have c2' := Int32.not_le.mp c2
        refine x_iinc [(1, .int (nI (i + 1))), (0, .ref (g.2 0 + 258))] 1 25 C0 dX8_reachedIn_22 rfl rfl (nI_1 i) (by decide) rfl ?_
        refine x_lv (lv1 := [(0, .ref (g.2 0 + 258)), (1, .int (nI (i + 1)))]) [1, 0] rfl ?_
        refine x_goto 7 C0 dX8_reachedIn_25 (by decide) ?_
        exact x_lv [0, 1] rfl (ih (i + 1) (by rw [show v 0 + nI (i + 1) = v 0 + nI i + 1 by rw [nI_succ, Int32.add_assoc]]; have := far_1 c2; omega))
  exact x_lv [0, 1] rfl (loop7 _ 0 (Nat.lt_succ_self _))

set_option maxHeartbeats 4000000 in
set_option maxRecDepth 100000 in
theorem k_X8_meanDamp (l : Launch) (hl : l.stackTraces = false) (g : xg_T) (w : xw_T) (sz n : Nat) (t v bf sv pa lb ip td sg : Nat → Int32) (hM : MR g w t v bf sv pa lb ip td sg) (hJ : MJ n t v bf sv pa sg) : xM l g yX8_meanDamp cX8_meanDamp 4 (some .double) ({ frames := 2, cells := 0, slots := 0, locals := 42 }) 0 0 [.ref (g.2 0 + 258)] w sz (mRd g w sz n t v bf sv pa ip td sg (fun r _ => ∃ z : UInt64, r = some (.double z))) (fun _ _ _ => False) := by
  refine xM.of RX8 hl (by decide +kernel) rfl (Nat.le_of_ble_eq_true rfl) rfl ?_
  intro p e s m args below meth cD C0 hini
  refine x_aload_n 0 1 C0 dX8_meanDamp_0 rfl rfl rfl ?_
  refine x_iconst (v := 0) 2 C0 dX8_meanDamp_1 rfl (by decide) ?_
  refine x_w (MW_self hM) ?_
  refine x_putf 0 5 C0 dX8_meanDamp_2 rfl MR_MW.o (by show g.2 0 ≤ _; omega) rfl (by decide) inX8 tyX8_ok nmX8 mF_X8_34 rfl rfl rfl rfl (Nat.le_of_ble_eq_true rfl) ?_
  refine x_w (w1 := (MW g w (upd t 0 0) v bf sv pa lb ip td sg)) (MW_o rfl) ?_
  have hJ1 : MJ n (upd t 0 0) v bf sv pa sg := hJ.j_t (by decide)
  refine x_iconst (v := 0) 6 C0 dX8_meanDamp_5 rfl (by decide) ?_
  refine x_istore_n [(1, .int 0), (0, .ref (g.2 0 + 258))] 7 C0 dX8_meanDamp_6 rfl rfl (by decide) rfl ?_
  refine x_lv (lv1 := [(0, .ref (g.2 0 + 258)), (1, .int 0)]) [1, 0] rfl ?_
  refine x_iconst (v := 0) 8 C0 dX8_meanDamp_7 rfl (by decide) ?_
  refine x_istore_n [(2, .int 0), (0, .ref (g.2 0 + 258)), (1, .int 0)] 9 C0 dX8_meanDamp_8 rfl rfl (by decide) rfl ?_
  refine x_lv (lv1 := [(0, .ref (g.2 0 + 258)), (1, .int 0), (2, .int 0)]) [1, 2, 0] rfl ?_
  refine x_iconst (v := 0) 10 C0 dX8_meanDamp_9 rfl (by decide) ?_
  refine x_istore_n [(3, .int 0), (0, .ref (g.2 0 + 258)), (1, .int 0), (2, .int 0)] 11 C0 dX8_meanDamp_10 rfl rfl (by decide) rfl ?_
  refine x_lv (lv1 := [(0, .ref (g.2 0 + 258)), (1, .int 0), (2, .int 0), (3, .int 0)]) [1, 2, 3, 0] rfl ?_
  have loop11 : ∀ (N i : Nat) (ac : Int32) (ad : Int32), i ≤ 20 → 20 - i < N → xV p l e ({ frames := 2, cells := 0, slots := 0, locals := 42 }) s m args below meth cD (xQ g below (mRd g w sz n t v bf sv pa ip td sg (fun r _ => ∃ z : UInt64, r = some (.double z))) (fun _ _ _ => False) args s 0 0) g 4 (MW g w (upd t 0 0) v bf sv pa lb ip td sg) sz (0) (0) 11 [(0, .ref (g.2 0 + 258)), (1, .int ac), (2, .int ad), (3, .int (nI i))] [] := by
    intro N
    induction N with
    | zero => intro i ac ad h1 h2; omega
    | succ N ih =>
      intro i ac ad hi hN
      refine x_iload_n 3 12 C0 dX8_meanDamp_11 rfl rfl rfl ?_
      refine x_aload_n 0 13 C0 dX8_meanDamp_12 rfl rfl rfl ?_
      refine x_getf (v := .ref (g.2 0 + 258 + 1)) 8 16 C0 dX8_meanDamp_13 rfl MR_MW.o rfl (by decide) inX8 mF_X8_7 rfl ?_
      refine x_iconst (v := 3) 17 C0 dX8_meanDamp_16 rfl (by decide) ?_
      refine x_iald 0 18 C0 dX8_meanDamp_17 rfl MR_MW.r_v rfl (vp_in_nI (n := 3) (by decide) (by decide)) ?_
      refine x_st (st1 := [.int (v 3), .int (nI i)]) (congrArg (fun z => Value.int z :: _) (show v (nI 3).toNatClampNeg = v 3 from by rw [nI_clamp (by omega)])) ?_
      obtain ⟨nC2, hnC2, hv32⟩ := hJ1.1.n
      refine x_st (st1 := [.int (nI nC2), .int (nI i)]) (congrArg (fun z => Value.int z :: _) (hv32)) ?_
      refine x_icmp_ge 70 21 C0 dX8_meanDamp_18 rfl (by decide) (fun c3 => ?_) (fun c3 => ?_)
      · refine x_iload_n 1 71 C0 dX8_meanDamp_70 rfl rfl rfl ?_
        refine x_if_ne 83 74 C0 dX8_meanDamp_71 rfl (by decide) (fun c4 => ?_) (fun c4 => ?_)
        · refine x_iload_n 2 84 C0 dX8_meanDamp_83 rfl rfl rfl ?_
          refine x_i2d 85 C0 dX8_meanDamp_84 rfl ?_
          refine x_iload_n 1 86 C0 dX8_meanDamp_85 rfl rfl rfl ?_
          refine x_i2d 87 C0 dX8_meanDamp_86 rfl ?_
          refine x_ddiv 88 C0 dX8_meanDamp_87 rfl (ddiv_ok _ c4) ?_
          exact x_dreturn C0 dX8_meanDamp_88 rfl (Nat.le_of_ble_eq_true rfl) (Nat.le_of_ble_eq_true rfl) ⟨rfl, _, _, rfl, hJ1, (tL.rf.up (by decide)), ⟨_, rfl⟩⟩
        · refine x_aload_n 0 75 C0 dX8_meanDamp_74 rfl rfl rfl ?_
          refine x_iconst (v := 1) 76 C0 dX8_meanDamp_75 rfl (by decide) ?_
          refine x_callV 79 C0 (k_X8_no l hl g _ _ n (upd t 0 0) v bf sv pa lb ip td sg MR_MW hJ1 1) dX8_meanDamp_76 rfl mC_X8_no mM_X8_61 mI_X8_no mV_X8_no mN_X8 yd_X8_no rfl rfl ⟨Nat.le_of_ble_eq_true rfl, Nat.le_of_ble_eq_true rfl⟩ MR_MW.o rfl rfl rfl rfl (Nat.le_of_ble_eq_true rfl) ⟨Nat.le_of_ble_eq_true rfl, Nat.le_of_ble_eq_true rfl⟩ (fun _ _ _ q => False.elim q) (fun r w1 sz1 hz hP => ?_)
          obtain ⟨rfl, rfl, rfl⟩ := hP
          refine x_w MW_MW ?_
          have hJ5 : MJ n (upd (upd t 0 0) 0 1) v bf sv pa sg := (hJ1.j_t (by decide))
          refine x_st (st1 := [.int 0]) rfl ?_
          refine x_i2d 80 C0 dX8_meanDamp_79 rfl ?_
          refine x_goto 88 C0 dX8_meanDamp_80 (by decide) ?_
          exact x_dreturn C0 dX8_meanDamp_88 rfl (Nat.le_of_ble_eq_true rfl) (Nat.le_of_ble_eq_true rfl) ⟨rfl, _, _, rfl, hJ5, ((tL.rf.up (by decide)).up (by decide)), ⟨_, rfl⟩⟩
      · have hi2 : i < nC2 := Nat.lt_of_not_le (fun z => c3 (nI_le (a := nC2) z (by omega)))
        refine x_aload_n 0 22 C0 dX8_meanDamp_21 rfl rfl rfl ?_
        refine x_getf (v := .ref (g.2 0 + 258 + 1)) 8 25 C0 dX8_meanDamp_22 rfl MR_MW.o rfl (by decide) inX8 mF_X8_7 rfl ?_
        refine x_iload_n 3 26 C0 dX8_meanDamp_25 rfl rfl rfl ?_
        refine x_bipush (v := 7) 28 C0 dX8_meanDamp_26 rfl (by decide) ?_
        refine x_callS 31 C0 (k_X8_at l hl g _ _ (nI i) 7) dX8_meanDamp_28 rfl mC_X8_at mM_X8_71 mS_X8_at mN_X8 yd_X8_at rfl rfl ⟨Nat.le_of_ble_eq_true rfl, Nat.le_of_ble_eq_true rfl⟩ rfl rfl (Nat.le_of_ble_eq_true rfl) ⟨Nat.le_of_ble_eq_true rfl, Nat.le_of_ble_eq_true rfl⟩ (fun _ _ _ q => False.elim q) (fun r w1 sz1 hz hP => ?_)
        obtain ⟨rfl, rfl, rfl⟩ := hP
        refine x_st (st1 := [.int (nI (28 + 9 * i + 7)), .ref (g.2 0 + 258 + 1)]) (congrArg (fun z => Value.int z :: _) (at_nI 28 9 i 7)) ?_
        refine x_iald 0 32 C0 dX8_meanDamp_31 rfl MR_MW.r_v rfl (vp_in_nI (n := 28 + 9 * i + 7) (by omega) (by decide)) ?_
        refine x_st (st1 := [.int (v (28 + 9 * i + 7))]) (congrArg (fun z => Value.int z :: _) (show v (nI (28 + 9 * i + 7)).toNatClampNeg = v (28 + 9 * i + 7) from by rw [nI_clamp (by omega)])) ?_
        refine x_iconst (v := 3) 33 C0 dX8_meanDamp_32 rfl (by decide) ?_
        refine x_icmp_eq 64 36 C0 dX8_meanDamp_33 rfl (by decide) (fun c6 => ?_) (fun c6 => ?_)
        · refine x_iinc [(3, .int (nI (i + 1))), (0, .ref (g.2 0 + 258)), (1, .int ac), (2, .int ad)] 3 67 C0 dX8_meanDamp_64 rfl rfl (nI_1 i) (by decide) rfl ?_
          refine x_lv (lv1 := [(0, .ref (g.2 0 + 258)), (1, .int ac), (2, .int ad), (3, .int (nI (i + 1)))]) [1, 2, 3, 0] rfl ?_
          refine x_goto 11 C0 dX8_meanDamp_67 (by decide) ?_
          exact x_lv [0, 1, 2, 3] rfl (ih (i + 1) _ _ (by omega) (by omega))
        · refine x_aload_n 0 37 C0 dX8_meanDamp_36 rfl rfl rfl ?_
          refine x_iload_n 3 38 C0 dX8_meanDamp_37 rfl rfl rfl ?_
          refine x_callV 41 C0 (k_X8_isEmpty l hl g _ _ n (upd t 0 0) v bf sv pa lb ip td sg MR_MW hJ1 i (by omega)) dX8_meanDamp_38 rfl mC_X8_isEmpty mM_X8_118 mI_X8_isEmpty mV_X8_isEmpty mN_X8 yd_X8_isEmpty rfl rfl ⟨Nat.le_of_ble_eq_true rfl, Nat.le_of_ble_eq_true rfl⟩ MR_MW.o rfl rfl rfl rfl (Nat.le_of_ble_eq_true rfl) ⟨Nat.le_of_ble_eq_true rfl, Nat.le_of_ble_eq_true rfl⟩ (fun _ _ _ q => False.elim q) (fun r w1 sz1 hz hP => ?_)
          obtain ⟨hR7, rfl, rfl⟩ := hP
          rcases hR7 with ⟨rfl, hq7⟩ | ⟨rfl, hq7⟩
          · refine x_st (st1 := [.int 1]) rfl ?_
            refine x_if_eq 47 44 C0 dX8_meanDamp_41 rfl (by decide) (fun q => False.elim (by revert q; decide)) (fun _ => ?_)
            refine x_goto 64 C0 dX8_meanDamp_44 (by decide) ?_
            refine x_iinc [(3, .int (nI (i + 1))), (0, .ref (g.2 0 + 258)), (1, .int ac), (2, .int ad)] 3 67 C0 dX8_meanDamp_64 rfl rfl (nI_1 i) (by decide) rfl ?_
            refine x_lv (lv1 := [(0, .ref (g.2 0 + 258)), (1, .int ac), (2, .int ad), (3, .int (nI (i + 1)))]) [1, 2, 3, 0] rfl ?_
            refine x_goto 11 C0 dX8_meanDamp_67 (by decide) ?_
            exact x_lv [0, 1, 2, 3] rfl (ih (i + 1) _ _ (by omega) (by omega))
          · refine x_st (st1 := [.int 0]) rfl ?_
            refine x_if_eq 47 44 C0 dX8_meanDamp_41 rfl (by decide) (fun _ => ?_) (fun q => False.elim (by revert q; decide))
            refine x_iinc [(1, .int (ac + 1)), (0, .ref (g.2 0 + 258)), (2, .int ad), (3, .int (nI i))] 1 50 C0 dX8_meanDamp_47 rfl rfl rfl (by decide) rfl ?_
            refine x_lv (lv1 := [(0, .ref (g.2 0 + 258)), (1, .int (ac + 1)), (2, .int ad), (3, .int (nI i))]) [1, 0, 2, 3] rfl ?_
            refine x_iload_n 2 51 C0 dX8_meanDamp_50 rfl rfl rfl ?_
            refine x_aload_n 0 52 C0 dX8_meanDamp_51 rfl rfl rfl ?_
            refine x_getf (v := .ref (g.2 0 + 258 + 1)) 8 55 C0 dX8_meanDamp_52 rfl MR_MW.o rfl (by decide) inX8 mF_X8_7 rfl ?_
            refine x_iload_n 3 56 C0 dX8_meanDamp_55 rfl rfl rfl ?_
            refine x_bipush (v := 6) 58 C0 dX8_meanDamp_56 rfl (by decide) ?_
            refine x_callS 61 C0 (k_X8_at l hl g _ _ (nI i) 6) dX8_meanDamp_58 rfl mC_X8_at mM_X8_71 mS_X8_at mN_X8 yd_X8_at rfl rfl ⟨Nat.le_of_ble_eq_true rfl, Nat.le_of_ble_eq_true rfl⟩ rfl rfl (Nat.le_of_ble_eq_true rfl) ⟨Nat.le_of_ble_eq_true rfl, Nat.le_of_ble_eq_true rfl⟩ (fun _ _ _ q => False.elim q) (fun r w1 sz1 hz hP => ?_)
            obtain ⟨rfl, rfl, rfl⟩ := hP
            refine x_st (st1 := [.int (nI (28 + 9 * i + 6)), .ref (g.2 0 + 258 + 1), .int ad]) (congrArg (fun z => Value.int z :: _) (at_nI 28 9 i 6)) ?_
            refine x_iald 0 62 C0 dX8_meanDamp_61 rfl MR_MW.r_v rfl (vp_in_nI (n := 28 + 9 * i + 6) (by omega) (by decide)) ?_
            refine x_st (st1 := [.int (v (28 + 9 * i + 6)), .int ad]) (congrArg (fun z => Value.int z :: _) (show v (nI (28 + 9 * i + 6)).toNatClampNeg = v (28 + 9 * i + 6) from by rw [nI_clamp (by omega)])) ?_
            refine x_iadd 63 C0 dX8_meanDamp_62 rfl ?_
            refine x_istore_n [(2, .int (ad + (v (28 + 9 * i + 6)))), (0, .ref (g.2 0 + 258)), (1, .int (ac + 1)), (3, .int (nI i))] 64 C0 dX8_meanDamp_63 rfl rfl (by decide) rfl ?_
            refine x_lv (lv1 := [(0, .ref (g.2 0 + 258)), (1, .int (ac + 1)), (2, .int (ad + (v (28 + 9 * i + 6)))), (3, .int (nI i))]) [1, 2, 0, 3] rfl ?_
            refine x_iinc [(3, .int (nI (i + 1))), (0, .ref (g.2 0 + 258)), (1, .int (ac + 1)), (2, .int (ad + (v (28 + 9 * i + 6))))] 3 67 C0 dX8_meanDamp_64 rfl rfl (nI_1 i) (by decide) rfl ?_
            refine x_lv (lv1 := [(0, .ref (g.2 0 + 258)), (1, .int (ac + 1)), (2, .int (ad + (v (28 + 9 * i + 6)))), (3, .int (nI (i + 1)))]) [1, 2, 3, 0] rfl ?_
            refine x_goto 11 C0 dX8_meanDamp_67 (by decide) ?_
            exact x_lv [0, 1, 2, 3] rfl (ih (i + 1) _ _ (by omega) (by omega))
  exact x_lv [0, 1, 2, 3] rfl (loop11 (20 + 1) 0 _ _ (by omega) (by omega))

set_option maxHeartbeats 4000000 in
set_option maxRecDepth 100000 in
theorem k_X8_sailedShare (l : Launch) (hl : l.stackTraces = false) (g : xg_T) (w : xw_T) (sz n : Nat) (t v bf sv pa lb ip td sg : Nat → Int32) (hM : MR g w t v bf sv pa lb ip td sg) (hJ : MJ n t v bf sv pa sg) : xM l g yX8_sailedShare cX8_sailedShare 1 (some .float) ({ frames := 1, cells := 0, slots := 0, locals := 21 }) 0 0 [.ref (g.2 0 + 258)] w sz (mRd g w sz n t v bf sv pa ip td sg (fun r _ => ∃ z : UInt32, r = some (.float z))) (fun _ _ _ => False) := by
  refine xM.of RX8 hl (by decide +kernel) rfl (Nat.le_of_ble_eq_true rfl) rfl ?_
  intro p e s m args below meth cD C0 hini
  refine x_aload_n 0 1 C0 dX8_sailedShare_0 rfl rfl rfl ?_
  refine x_iconst (v := 0) 2 C0 dX8_sailedShare_1 rfl (by decide) ?_
  refine x_w (MW_self hM) ?_
  refine x_putf 0 5 C0 dX8_sailedShare_2 rfl MR_MW.o (by show g.2 0 ≤ _; omega) rfl (by decide) inX8 tyX8_ok nmX8 mF_X8_34 rfl rfl rfl rfl (Nat.le_of_ble_eq_true rfl) ?_
  refine x_w (w1 := (MW g w (upd t 0 0) v bf sv pa lb ip td sg)) (MW_o rfl) ?_
  have hJ1 : MJ n (upd t 0 0) v bf sv pa sg := hJ.j_t (by decide)
  refine x_aload_n 0 6 C0 dX8_sailedShare_5 rfl rfl rfl ?_
  refine x_getf (v := .ref (g.2 0 + 258 + 1)) 8 9 C0 dX8_sailedShare_6 rfl MR_MW.o rfl (by decide) inX8 mF_X8_7 rfl ?_
  refine x_bipush (v := 6) 11 C0 dX8_sailedShare_9 rfl (by decide) ?_
  refine x_iald 0 12 C0 dX8_sailedShare_11 rfl MR_MW.r_v rfl (vp_in_nI (n := 6) (by decide) (by decide)) ?_
  refine x_st (st1 := [.int (v 6)]) (congrArg (fun z => Value.int z :: _) (show v (nI 6).toNatClampNeg = v 6 from by rw [nI_clamp (by omega)])) ?_
  refine x_if_ne 24 15 C0 dX8_sailedShare_12 rfl (by decide) (fun c2 => ?_) (fun c2 => ?_)
  · refine x_aload_n 0 25 C0 dX8_sailedShare_24 rfl rfl rfl ?_
    refine x_getf (v := .ref (g.2 0 + 258 + 1)) 8 28 C0 dX8_sailedShare_25 rfl MR_MW.o rfl (by decide) inX8 mF_X8_7 rfl ?_
    refine x_bipush (v := 7) 30 C0 dX8_sailedShare_28 rfl (by decide) ?_
    refine x_iald 0 31 C0 dX8_sailedShare_30 rfl MR_MW.r_v rfl (vp_in_nI (n := 7) (by decide) (by decide)) ?_
    refine x_st (st1 := [.int (v 7)]) (congrArg (fun z => Value.int z :: _) (show v (nI 7).toNatClampNeg = v 7 from by rw [nI_clamp (by omega)])) ?_
    refine x_i2f 32 C0 dX8_sailedShare_31 rfl ?_
    refine x_aload_n 0 33 C0 dX8_sailedShare_32 rfl rfl rfl ?_
    refine x_getf (v := .ref (g.2 0 + 258 + 1)) 8 36 C0 dX8_sailedShare_33 rfl MR_MW.o rfl (by decide) inX8 mF_X8_7 rfl ?_
    refine x_bipush (v := 6) 38 C0 dX8_sailedShare_36 rfl (by decide) ?_
    refine x_iald 0 39 C0 dX8_sailedShare_38 rfl MR_MW.r_v rfl (vp_in_nI (n := 6) (by decide) (by decide)) ?_
    refine x_st (st1 := [.int (v 6), .float (FP.i2f (v 7))]) (congrArg (fun z => Value.int z :: _) (show v (nI 6).toNatClampNeg = v 6 from by rw [nI_clamp (by omega)])) ?_
    refine x_i2f 40 C0 dX8_sailedShare_39 rfl ?_
    refine x_fdiv 41 C0 dX8_sailedShare_40 rfl (fdiv_ok _ c2) ?_
    exact x_freturn C0 dX8_sailedShare_41 rfl (Nat.le_of_ble_eq_true rfl) (Nat.le_of_ble_eq_true rfl) ⟨rfl, _, _, rfl, hJ1, (tL.rf.up (by decide)), ⟨_, rfl⟩⟩
  · refine x_aload_n 0 16 C0 dX8_sailedShare_15 rfl rfl rfl ?_
    refine x_iconst (v := 1) 17 C0 dX8_sailedShare_16 rfl (by decide) ?_
    refine x_callV 20 C0 (k_X8_no l hl g _ _ n (upd t 0 0) v bf sv pa lb ip td sg MR_MW hJ1 1) dX8_sailedShare_17 rfl mC_X8_no mM_X8_61 mI_X8_no mV_X8_no mN_X8 yd_X8_no rfl rfl ⟨Nat.le_of_ble_eq_true rfl, Nat.le_of_ble_eq_true rfl⟩ MR_MW.o rfl rfl rfl rfl (Nat.le_of_ble_eq_true rfl) ⟨Nat.le_of_ble_eq_true rfl, Nat.le_of_ble_eq_true rfl⟩ (fun _ _ _ q => False.elim q) (fun r w1 sz1 hz hP => ?_)
    obtain ⟨rfl, rfl, rfl⟩ := hP
    refine x_w MW_MW ?_
    have hJ3 : MJ n (upd (upd t 0 0) 0 1) v bf sv pa sg := (hJ1.j_t (by decide))
    refine x_st (st1 := [.int 0]) rfl ?_
    refine x_i2f 21 C0 dX8_sailedShare_20 rfl ?_
    refine x_goto 41 C0 dX8_sailedShare_21 (by decide) ?_
    exact x_freturn C0 dX8_sailedShare_41 rfl (Nat.le_of_ble_eq_true rfl) (Nat.le_of_ble_eq_true rfl) ⟨rfl, _, _, rfl, hJ3, ((tL.rf.up (by decide)).up (by decide)), ⟨_, rfl⟩⟩

set_option maxHeartbeats 4000000 in
set_option maxRecDepth 100000 in
theorem k_X8_isWell (l : Launch) (hl : l.stackTraces = false) (g : xg_T) (w : xw_T) (sz n : Nat) (t v bf sv pa lb ip td sg : Nat → Int32) (hM : MR g w t v bf sv pa lb ip td sg) (hJ : MJ n t v bf sv pa sg) : xM l g yX8_isWell cX8_isWell 3 (some .boolean) ({ frames := 2, cells := 0, slots := 0, locals := 43 }) 0 0 [.ref (g.2 0 + 258)] w sz (mRd g w sz n t v bf sv pa ip td sg (fun r _ => ∃ z : Int32, r = some (.int z))) (fun _ _ _ => False) := by
  refine xM.of RX8 hl (by decide +kernel) rfl (Nat.le_of_ble_eq_true rfl) rfl ?_
  intro p e s m args below meth cD C0 hini
  refine x_aload_n 0 1 C0 dX8_isWell_0 rfl rfl rfl ?_
  refine x_iconst (v := 0) 2 C0 dX8_isWell_1 rfl (by decide) ?_
  refine x_w (MW_self hM) ?_
  refine x_putf 0 5 C0 dX8_isWell_2 rfl MR_MW.o (by show g.2 0 ≤ _; omega) rfl (by decide) inX8 tyX8_ok nmX8 mF_X8_34 rfl rfl rfl rfl (Nat.le_of_ble_eq_true rfl) ?_
  refine x_w (w1 := (MW g w (upd t 0 0) v bf sv pa lb ip td sg)) (MW_o rfl) ?_
  have hJ1 : MJ n (upd t 0 0) v bf sv pa sg := hJ.j_t (by decide)
  refine x_iconst (v := 0) 6 C0 dX8_isWell_5 rfl (by decide) ?_
  refine x_istore_n [(1, .int 0), (0, .ref (g.2 0 + 258))] 7 C0 dX8_isWell_6 rfl rfl (by decide) rfl ?_
  refine x_lv (lv1 := [(0, .ref (g.2 0 + 258)), (1, .int 0)]) [1, 0] rfl ?_
  have loop7 : ∀ (N i : Nat), i ≤ 20 → 20 - i < N → xV p l e ({ frames := 2, cells := 0, slots := 0, locals := 43 }) s m args below meth cD (xQ g below (mRd g w sz n t v bf sv pa ip td sg (fun r _ => ∃ z : Int32, r = some (.int z))) (fun _ _ _ => False) args s 0 0) g 3 (MW g w (upd t 0 0) v bf sv pa lb ip td sg) sz (0) (0) 7 [(0, .ref (g.2 0 + 258)), (1, .int (nI i))] [] := by
    intro N
    induction N with
    | zero => intro i h1 h2; omega
    | succ N ih =>
      intro i hi hN
      refine x_iload_n 1 8 C0 dX8_isWell_7 rfl rfl rfl ?_
      refine x_aload_n 0 9 C0 dX8_isWell_8 rfl rfl rfl ?_
      refine x_getf (v := .ref (g.2 0 + 258 + 1)) 8 12 C0 dX8_isWell_9 rfl MR_MW.o rfl (by decide) inX8 mF_X8_7 rfl ?_
      refine x_iconst (v := 3) 13 C0 dX8_isWell_12 rfl (by decide) ?_
      refine x_iald 0 14 C0 dX8_isWell_13 rfl MR_MW.r_v rfl (vp_in_nI (n := 3) (by decide) (by decide)) ?_
      refine x_st (st1 := [.int (v 3), .int (nI i)]) (congrArg (fun z => Value.int z :: _) (show v (nI 3).toNatClampNeg = v 3 from by rw [nI_clamp (by omega)])) ?_
      obtain ⟨nC2, hnC2, hv32⟩ := hJ1.1.n
      refine x_st (st1 := [.int (nI nC2), .int (nI i)]) (congrArg (fun z => Value.int z :: _) (hv32)) ?_
      refine x_icmp_ge 68 17 C0 dX8_isWell_14 rfl (by decide) (fun c3 => ?_) (fun c3 => ?_)
      · refine x_aload_n 0 69 C0 dX8_isWell_68 rfl rfl rfl ?_
        refine x_getf (v := .ref (g.2 0 + 258 + 1)) 8 72 C0 dX8_isWell_69 rfl MR_MW.o rfl (by decide) inX8 mF_X8_7 rfl ?_
        refine x_bipush (v := 6) 74 C0 dX8_isWell_72 rfl (by decide) ?_
        refine x_iald 0 75 C0 dX8_isWell_74 rfl MR_MW.r_v rfl (vp_in_nI (n := 6) (by decide) (by decide)) ?_
        refine x_st (st1 := [.int (v 6)]) (congrArg (fun z => Value.int z :: _) (show v (nI 6).toNatClampNeg = v 6 from by rw [nI_clamp (by omega)])) ?_
        refine x_aload_n 0 76 C0 dX8_isWell_75 rfl rfl rfl ?_
        refine x_callV 79 C0 (k_X8_stored l hl g _ _ n (upd t 0 0) v bf sv pa lb ip td sg MR_MW hJ1) dX8_isWell_76 rfl mC_X8_stored mM_X8_189 mI_X8_stored mV_X8_stored mN_X8 yd_X8_stored rfl rfl ⟨Nat.le_of_ble_eq_true rfl, Nat.le_of_ble_eq_true rfl⟩ MR_MW.o rfl rfl rfl rfl (Nat.le_of_ble_eq_true rfl) ⟨Nat.le_of_ble_eq_true rfl, Nat.le_of_ble_eq_true rfl⟩ (fun _ _ _ q => False.elim q) (fun r w1 sz1 hz hP => ?_)
        obtain ⟨rfl, rfl, rfl⟩ := hP
        refine x_st (st1 := [.int (rStored v 18), .int (v 6)]) rfl ?_
        refine x_aload_n 0 80 C0 dX8_isWell_79 rfl rfl rfl ?_
        refine x_callV 83 C0 (k_X8_packed l hl g _ _ n (upd t 0 0) v bf sv pa lb ip td sg MR_MW hJ1) dX8_isWell_80 rfl mC_X8_packed mM_X8_192 mI_X8_packed mV_X8_packed mN_X8 yd_X8_packed rfl rfl ⟨Nat.le_of_ble_eq_true rfl, Nat.le_of_ble_eq_true rfl⟩ MR_MW.o rfl rfl rfl rfl (Nat.le_of_ble_eq_true rfl) ⟨Nat.le_of_ble_eq_true rfl, Nat.le_of_ble_eq_true rfl⟩ (fun _ _ _ q => False.elim q) (fun r w1 sz1 hz hP => ?_)
        obtain ⟨⟨m5, hm5, hw5, rfl⟩, rfl, rfl⟩ := hP
        refine x_st (st1 := [.int (rPacked v m5), .int (rStored v 18), .int (v 6)]) rfl ?_
        refine x_iadd 84 C0 dX8_isWell_83 rfl ?_
        refine x_aload_n 0 85 C0 dX8_isWell_84 rfl rfl rfl ?_
        refine x_getf (v := .ref (g.2 0 + 258 + 1)) 8 88 C0 dX8_isWell_85 rfl MR_MW.o rfl (by decide) inX8 mF_X8_7 rfl ?_
        refine x_bipush (v := 7) 90 C0 dX8_isWell_88 rfl (by decide) ?_
        refine x_iald 0 91 C0 dX8_isWell_90 rfl MR_MW.r_v rfl (vp_in_nI (n := 7) (by decide) (by decide)) ?_
        refine x_st (st1 := [.int (v 7), .int ((rStored v 18) + (rPacked v m5)), .int (v 6)]) (congrArg (fun z => Value.int z :: _) (show v (nI 7).toNatClampNeg = v 7 from by rw [nI_clamp (by omega)])) ?_
        refine x_iadd 92 C0 dX8_isWell_91 rfl ?_
        refine x_aload_n 0 93 C0 dX8_isWell_92 rfl rfl rfl ?_
        refine x_getf (v := .ref (g.2 0 + 258 + 1)) 8 96 C0 dX8_isWell_93 rfl MR_MW.o rfl (by decide) inX8 mF_X8_7 rfl ?_
        refine x_bipush (v := 8) 98 C0 dX8_isWell_96 rfl (by decide) ?_
        refine x_iald 0 99 C0 dX8_isWell_98 rfl MR_MW.r_v rfl (vp_in_nI (n := 8) (by decide) (by decide)) ?_
        refine x_st (st1 := [.int (v 8), .int (((rStored v 18) + (rPacked v m5)) + (v 7)), .int (v 6)]) (congrArg (fun z => Value.int z :: _) (show v (nI 8).toNatClampNeg = v 8 from by rw [nI_clamp (by omega)])) ?_
        refine x_iadd 100 C0 dX8_isWell_99 rfl ?_
        refine x_icmp_ne 107 103 C0 dX8_isWell_100 rfl (by decide) (fun c6 => ?_) (fun c6 => ?_)
        · refine x_iconst (v := 0) 108 C0 dX8_isWell_107 rfl (by decide) ?_
          exact x_ireturn C0 dX8_isWell_108 rfl rfl (Nat.le_of_ble_eq_true rfl) (Nat.le_of_ble_eq_true rfl) ⟨rfl, _, _, rfl, hJ1, (tL.rf.up (by decide)), ⟨_, rfl⟩⟩
        · refine x_iconst (v := 1) 104 C0 dX8_isWell_103 rfl (by decide) ?_
          refine x_goto 108 C0 dX8_isWell_104 (by decide) ?_
          exact x_ireturn C0 dX8_isWell_108 rfl rfl (Nat.le_of_ble_eq_true rfl) (Nat.le_of_ble_eq_true rfl) ⟨rfl, _, _, rfl, hJ1, (tL.rf.up (by decide)), ⟨_, rfl⟩⟩
      · have hi2 : i < nC2 := Nat.lt_of_not_le (fun z => c3 (nI_le (a := nC2) z (by omega)))
        refine x_aload_n 0 18 C0 dX8_isWell_17 rfl rfl rfl ?_
        refine x_getf (v := .ref (g.2 0 + 258 + 1)) 8 21 C0 dX8_isWell_18 rfl MR_MW.o rfl (by decide) inX8 mF_X8_7 rfl ?_
        refine x_iload_n 1 22 C0 dX8_isWell_21 rfl rfl rfl ?_
        refine x_bipush (v := 7) 24 C0 dX8_isWell_22 rfl (by decide) ?_
        refine x_callS 27 C0 (k_X8_at l hl g _ _ (nI i) 7) dX8_isWell_24 rfl mC_X8_at mM_X8_71 mS_X8_at mN_X8 yd_X8_at rfl rfl ⟨Nat.le_of_ble_eq_true rfl, Nat.le_of_ble_eq_true rfl⟩ rfl rfl (Nat.le_of_ble_eq_true rfl) ⟨Nat.le_of_ble_eq_true rfl, Nat.le_of_ble_eq_true rfl⟩ (fun _ _ _ q => False.elim q) (fun r w1 sz1 hz hP => ?_)
        obtain ⟨rfl, rfl, rfl⟩ := hP
        refine x_st (st1 := [.int (nI (28 + 9 * i + 7)), .ref (g.2 0 + 258 + 1)]) (congrArg (fun z => Value.int z :: _) (at_nI 28 9 i 7)) ?_
        refine x_iald 0 28 C0 dX8_isWell_27 rfl MR_MW.r_v rfl (vp_in_nI (n := 28 + 9 * i + 7) (by omega) (by decide)) ?_
        refine x_st (st1 := [.int (v (28 + 9 * i + 7))]) (congrArg (fun z => Value.int z :: _) (show v (nI (28 + 9 * i + 7)).toNatClampNeg = v (28 + 9 * i + 7) from by rw [nI_clamp (by omega)])) ?_
        refine x_iconst (v := 1) 29 C0 dX8_isWell_28 rfl (by decide) ?_
        refine x_iconst (v := 2) 30 C0 dX8_isWell_29 rfl (by decide) ?_
        refine x_callS 33 C0 (k_X8_isIn l hl g _ _ (v (28 + 9 * i + 7)) 1 2) dX8_isWell_30 rfl mC_X8_isIn mM_X8_67 mS_X8_isIn mN_X8 yd_X8_isIn rfl rfl ⟨Nat.le_of_ble_eq_true rfl, Nat.le_of_ble_eq_true rfl⟩ rfl rfl (Nat.le_of_ble_eq_true rfl) ⟨Nat.le_of_ble_eq_true rfl, Nat.le_of_ble_eq_true rfl⟩ (fun _ _ _ q => False.elim q) (fun r w1 sz1 hz hP => ?_)
        obtain ⟨hr, rfl, rfl⟩ := hP
        rcases hr with ⟨rfl, ha7, hb7⟩ | ⟨rfl, hx7⟩
        · refine x_st (st1 := [.int 1]) rfl ?_
          refine x_istore_n [(2, .int 1), (0, .ref (g.2 0 + 258)), (1, .int (nI i))] 34 C0 dX8_isWell_33 rfl rfl (by decide) rfl ?_
          refine x_lv (lv1 := [(0, .ref (g.2 0 + 258)), (1, .int (nI i)), (2, .int 1)]) [1, 2, 0] rfl ?_
          refine x_iload_n 2 35 C0 dX8_isWell_34 rfl rfl rfl ?_
          refine x_if_eq 62 38 C0 dX8_isWell_35 rfl (by decide) (fun q => False.elim (by revert q; decide)) (fun _ => ?_)
          refine x_aload_n 0 39 C0 dX8_isWell_38 rfl rfl rfl ?_
          refine x_iload_n 1 40 C0 dX8_isWell_39 rfl rfl rfl ?_
          refine x_callV 43 C0 (k_X8_isTight l hl g _ _ n (upd t 0 0) v bf sv pa lb ip td sg MR_MW hJ1 i (by omega)) dX8_isWell_40 rfl mC_X8_isTight mM_X8_127 mI_X8_isTight mV_X8_isTight mN_X8 yd_X8_isTight rfl rfl ⟨Nat.le_of_ble_eq_true rfl, Nat.le_of_ble_eq_true rfl⟩ MR_MW.o rfl rfl rfl rfl (Nat.le_of_ble_eq_true rfl) ⟨Nat.le_of_ble_eq_true rfl, Nat.le_of_ble_eq_true rfl⟩ (fun _ _ _ q => False.elim q) (fun r w1 sz1 hz hP => ?_)
          obtain ⟨hR9, rfl, rfl⟩ := hP
          rcases hR9 with ⟨rfl, hq9⟩ | ⟨rfl, hq9⟩
          · refine x_st (st1 := [.int 1]) rfl ?_
            refine x_if_eq 60 46 C0 dX8_isWell_43 rfl (by decide) (fun q => False.elim (by revert q; decide)) (fun _ => ?_)
            refine x_aload_n 0 47 C0 dX8_isWell_46 rfl rfl rfl ?_
            refine x_getf (v := .ref (g.2 0 + 258 + 1)) 8 50 C0 dX8_isWell_47 rfl MR_MW.o rfl (by decide) inX8 mF_X8_7 rfl ?_
            refine x_iload_n 1 51 C0 dX8_isWell_50 rfl rfl rfl ?_
            refine x_bipush (v := 8) 53 C0 dX8_isWell_51 rfl (by decide) ?_
            refine x_callS 56 C0 (k_X8_at l hl g _ _ (nI i) 8) dX8_isWell_53 rfl mC_X8_at mM_X8_71 mS_X8_at mN_X8 yd_X8_at rfl rfl ⟨Nat.le_of_ble_eq_true rfl, Nat.le_of_ble_eq_true rfl⟩ rfl rfl (Nat.le_of_ble_eq_true rfl) ⟨Nat.le_of_ble_eq_true rfl, Nat.le_of_ble_eq_true rfl⟩ (fun _ _ _ q => False.elim q) (fun r w1 sz1 hz hP => ?_)
            obtain ⟨rfl, rfl, rfl⟩ := hP
            refine x_st (st1 := [.int (nI (28 + 9 * i + 8)), .ref (g.2 0 + 258 + 1)]) (congrArg (fun z => Value.int z :: _) (at_nI 28 9 i 8)) ?_
            refine x_iald 0 57 C0 dX8_isWell_56 rfl MR_MW.r_v rfl (vp_in_nI (n := 28 + 9 * i + 8) (by omega) (by decide)) ?_
            refine x_st (st1 := [.int (v (28 + 9 * i + 8))]) (congrArg (fun z => Value.int z :: _) (show v (nI (28 + 9 * i + 8)).toNatClampNeg = v (28 + 9 * i + 8) from by rw [nI_clamp (by omega)])) ?_
            refine x_if_ne 62 60 C0 dX8_isWell_57 rfl (by decide) (fun c11 => ?_) (fun c11 => ?_)
            · refine x_iinc [(1, .int (nI (i + 1))), (0, .ref (g.2 0 + 258)), (2, .int 1)] 1 65 C0 dX8_isWell_62 rfl rfl (nI_1 i) (by decide) rfl ?_
              refine x_lv (lv1 := [(0, .ref (g.2 0 + 258)), (1, .int (nI (i + 1))), (2, .int 1)]) [1, 0, 2] rfl ?_
              refine x_goto 7 C0 dX8_isWell_65 (by decide) ?_
              exact x_lv [0, 1] rfl (ih (i + 1) (by omega) (by omega))
            · refine x_iconst (v := 0) 61 C0 dX8_isWell_60 rfl (by decide) ?_
              exact x_ireturn C0 dX8_isWell_61 rfl rfl (Nat.le_of_ble_eq_true rfl) (Nat.le_of_ble_eq_true rfl) ⟨rfl, _, _, rfl, hJ1, (tL.rf.up (by decide)), ⟨_, rfl⟩⟩
          · refine x_st (st1 := [.int 0]) rfl ?_
            refine x_if_eq 60 46 C0 dX8_isWell_43 rfl (by decide) (fun _ => ?_) (fun q => False.elim (by revert q; decide))
            refine x_iconst (v := 0) 61 C0 dX8_isWell_60 rfl (by decide) ?_
            exact x_ireturn C0 dX8_isWell_61 rfl rfl (Nat.le_of_ble_eq_true rfl) (Nat.le_of_ble_eq_true rfl) ⟨rfl, _, _, rfl, hJ1, (tL.rf.up (by decide)), ⟨_, rfl⟩⟩
        · refine x_st (st1 := [.int 0]) rfl ?_
          refine x_istore_n [(2, .int 0), (0, .ref (g.2 0 + 258)), (1, .int (nI i))] 34 C0 dX8_isWell_33 rfl rfl (by decide) rfl ?_
          refine x_lv (lv1 := [(0, .ref (g.2 0 + 258)), (1, .int (nI i)), (2, .int 0)]) [1, 2, 0] rfl ?_
          refine x_iload_n 2 35 C0 dX8_isWell_34 rfl rfl rfl ?_
          refine x_if_eq 62 38 C0 dX8_isWell_35 rfl (by decide) (fun _ => ?_) (fun q => False.elim (by revert q; decide))
          refine x_iinc [(1, .int (nI (i + 1))), (0, .ref (g.2 0 + 258)), (2, .int 0)] 1 65 C0 dX8_isWell_62 rfl rfl (nI_1 i) (by decide) rfl ?_
          refine x_lv (lv1 := [(0, .ref (g.2 0 + 258)), (1, .int (nI (i + 1))), (2, .int 0)]) [1, 0, 2] rfl ?_
          refine x_goto 7 C0 dX8_isWell_65 (by decide) ?_
          exact x_lv [0, 1] rfl (ih (i + 1) (by omega) (by omega))
  exact x_lv [0, 1] rfl (loop7 (20 + 1) 0 (by omega) (by omega))

def Q_X8_reason (n : Nat) (t v : Nat → Int32) (de : Int32) (r : Option Value) (z : Int32) : Prop :=
  ((¬ t 3 = 0) ∧ (de = 0) ∧ (z = 0) ∧ (r = some (.int (t 3)))) ∨
  ((¬ t 3 = 0) ∧ (¬ (de = 0)) ∧ (z = 0) ∧ (r = some (.int (t 4)))) ∨
  ((t 3 = 0) ∧ (z = 1) ∧ (r = some (.int (0))))
set_option maxHeartbeats 4000000 in
set_option maxRecDepth 100000 in
theorem k_X8_reason (l : Launch) (hl : l.stackTraces = false) (g : xg_T) (w : xw_T) (sz n : Nat) (t v bf sv pa lb ip td sg : Nat → Int32) (hM : MR g w t v bf sv pa lb ip td sg) (hJ : MJ n t v bf sv pa sg) (de : Int32) : xM l g yX8_reason cX8_reason 2 (some .int) ({ frames := 1, cells := 0, slots := 0, locals := 21 }) 0 0 [.ref (g.2 0 + 258), .int de] w sz (mRd g w sz n t v bf sv pa ip td sg (fun r z => (∃ q : Int32, r = some (.int q)) ∧ Q_X8_reason n t v de r z)) (fun _ _ _ => False) := by
  refine xM.of RX8 hl (by decide +kernel) rfl (Nat.le_of_ble_eq_true rfl) rfl ?_
  intro p e s m args below meth cD C0 hini
  refine x_aload_n 0 1 C0 dX8_reason_0 rfl rfl rfl ?_
  refine x_iconst (v := 0) 2 C0 dX8_reason_1 rfl (by decide) ?_
  refine x_w (MW_self hM) ?_
  refine x_putf 0 5 C0 dX8_reason_2 rfl MR_MW.o (by show g.2 0 ≤ _; omega) rfl (by decide) inX8 tyX8_ok nmX8 mF_X8_34 rfl rfl rfl rfl (Nat.le_of_ble_eq_true rfl) ?_
  refine x_w (w1 := (MW g w (upd t 0 0) v bf sv pa lb ip td sg)) (MW_o rfl) ?_
  have hJ1 : MJ n (upd t 0 0) v bf sv pa sg := hJ.j_t (by decide)
  refine x_aload_n 0 6 C0 dX8_reason_5 rfl rfl rfl ?_
  refine x_getf (v := .int (t 3)) 3 9 C0 dX8_reason_6 rfl MR_MW.o rfl (by decide) inX8 mF_X8_55 rfl ?_
  refine x_if_ne 20 12 C0 dX8_reason_9 rfl (by decide) (fun c2 => ?_) (fun c2 => ?_)
  · refine x_iload_n 1 21 C0 dX8_reason_20 rfl rfl rfl ?_
    refine x_if_eq 31 24 C0 dX8_reason_21 rfl (by decide) (fun c3 => ?_) (fun c3 => ?_)
    · refine x_aload_n 0 32 C0 dX8_reason_31 rfl rfl rfl ?_
      refine x_getf (v := .int (t 3)) 3 35 C0 dX8_reason_32 rfl MR_MW.o rfl (by decide) inX8 mF_X8_55 rfl ?_
      exact x_ireturn C0 dX8_reason_35 rfl rfl (Nat.le_of_ble_eq_true rfl) (Nat.le_of_ble_eq_true rfl) ⟨rfl, _, _, rfl, hJ1, (tL.rf.up (by decide)), ⟨⟨_, rfl⟩, (Or.inl ⟨c2, c3, rfl, rfl⟩)⟩⟩
    · refine x_aload_n 0 25 C0 dX8_reason_24 rfl rfl rfl ?_
      refine x_getf (v := .int (t 4)) 4 28 C0 dX8_reason_25 rfl MR_MW.o rfl (by decide) inX8 mF_X8_58 rfl ?_
      refine x_goto 35 C0 dX8_reason_28 (by decide) ?_
      exact x_ireturn C0 dX8_reason_35 rfl rfl (Nat.le_of_ble_eq_true rfl) (Nat.le_of_ble_eq_true rfl) ⟨rfl, _, _, rfl, hJ1, (tL.rf.up (by decide)), ⟨⟨_, rfl⟩, (Or.inr (Or.inl ⟨c2, c3, rfl, rfl⟩))⟩⟩
  · refine x_aload_n 0 13 C0 dX8_reason_12 rfl rfl rfl ?_
    refine x_iconst (v := 1) 14 C0 dX8_reason_13 rfl (by decide) ?_
    refine x_callV 17 C0 (k_X8_no l hl g _ _ n (upd t 0 0) v bf sv pa lb ip td sg MR_MW hJ1 1) dX8_reason_14 rfl mC_X8_no mM_X8_61 mI_X8_no mV_X8_no mN_X8 yd_X8_no rfl rfl ⟨Nat.le_of_ble_eq_true rfl, Nat.le_of_ble_eq_true rfl⟩ MR_MW.o rfl rfl rfl rfl (Nat.le_of_ble_eq_true rfl) ⟨Nat.le_of_ble_eq_true rfl, Nat.le_of_ble_eq_true rfl⟩ (fun _ _ _ q => False.elim q) (fun r w1 sz1 hz hP => ?_)
    obtain ⟨rfl, rfl, rfl⟩ := hP
    refine x_w MW_MW ?_
    have hJ4 : MJ n (upd (upd t 0 0) 0 1) v bf sv pa sg := (hJ1.j_t (by decide))
    refine x_st (st1 := [.int 0]) rfl ?_
    refine x_goto 35 C0 dX8_reason_17 (by decide) ?_
    exact x_ireturn C0 dX8_reason_35 rfl rfl (Nat.le_of_ble_eq_true rfl) (Nat.le_of_ble_eq_true rfl) ⟨rfl, _, _, rfl, hJ4, ((tL.rf.up (by decide)).up (by decide)), ⟨⟨_, rfl⟩, (Or.inr (Or.inr (⟨c2, rfl, rfl⟩)))⟩⟩

def Q_X8_account (n : Nat) (t v : Nat → Int32) (wh : Int32) (r : Option Value) (z : Int32) : Prop :=
  ((wh.toInt < 0 ∨ 17 < wh.toInt) ∧ (z = 1) ∧ (r = some (.int (0)))) ∨
  ((wh = 0) ∧ (z = 0) ∧ (r = some (.int (v 0)))) ∨
  ((wh = 1) ∧ (z = 0) ∧ (r = some (.int (rStored v 18)))) ∨
  (∃ (m5 : Nat), (wh = 2) ∧ (m5 ≤ 20) ∧ (v 3 = nI m5) ∧ (z = 0) ∧ (r = some (.int (rPacked v m5)))) ∨
  ((wh = 3) ∧ (z = 0) ∧ (r = some (.int (v 7)))) ∨
  ((wh = 4) ∧ (z = 0) ∧ (r = some (.int (v 8)))) ∨
  ((wh = 5) ∧ (z = 0) ∧ (r = some (.int (v 6)))) ∨
  ((wh = 6) ∧ (z = 0) ∧ (r = some (.int (v 1)))) ∨
  ((wh = 7) ∧ (z = 0) ∧ (r = some (.int (v 2)))) ∨
  (∃ (nC6 : Nat), (wh = 8) ∧ (v 3 = nI nC6) ∧ (nC6 ≤ 20) ∧ (z = 0) ∧ (r = some (.int (nI nC6)))) ∨
  (∃ (m7 : Nat), (wh = 9) ∧ (m7 ≤ 20) ∧ (v 3 = nI m7) ∧ (z = 0) ∧ (r = some (.int (nAt v 0 m7)))) ∨
  (∃ (m8 : Nat), (wh = 10) ∧ (m8 ≤ 20) ∧ (v 3 = nI m8) ∧ (z = 0) ∧ (r = some (.int (nAt v 1 m8)))) ∨
  (∃ (m9 : Nat), (wh = 11) ∧ (m9 ≤ 20) ∧ (v 3 = nI m9) ∧ (z = 0) ∧ (r = some (.int (nAt v 2 m9)))) ∨
  (∃ (m10 : Nat), (wh = 12) ∧ (m10 ≤ 20) ∧ (v 3 = nI m10) ∧ (z = 0) ∧ (r = some (.int (hRoom v m10)))) ∨
  ((wh = 13) ∧ (z = 0) ∧ (r = some (.int (v 9)))) ∨
  ((wh = 14) ∧ (z = 0) ∧ (r = some (.int (v 4)))) ∨
  ((wh = 15) ∧ (z = 0) ∧ (r = some (.int (v 5)))) ∨
  ((wh = 16) ∧ (z = 0) ∧ (r = some (.int (t 9)))) ∨
  ((wh = 17) ∧ (z = 0) ∧ (r = some (.int (t 2))))
set_option maxHeartbeats 4000000 in
set_option maxRecDepth 100000 in
theorem k_X8_account (l : Launch) (hl : l.stackTraces = false) (g : xg_T) (w : xw_T) (sz n : Nat) (t v bf sv pa lb ip td sg : Nat → Int32) (hM : MR g w t v bf sv pa lb ip td sg) (hJ : MJ n t v bf sv pa sg) (wh : Int32) : xM l g yX8_account cX8_account 2 (some .int) ({ frames := 2, cells := 0, slots := 0, locals := 44 }) 0 0 [.ref (g.2 0 + 258), .int wh] w sz (mRd g w sz n t v bf sv pa ip td sg (fun r z => (∃ q : Int32, r = some (.int q)) ∧ Q_X8_account n t v wh r z)) (fun _ _ _ => False) := by
  refine xM.of RX8 hl (by decide +kernel) rfl (Nat.le_of_ble_eq_true rfl) rfl ?_
  intro p e s m args below meth cD C0 hini
  refine x_aload_n 0 1 C0 dX8_account_0 rfl rfl rfl ?_
  refine x_iconst (v := 0) 2 C0 dX8_account_1 rfl (by decide) ?_
  refine x_w (MW_self hM) ?_
  refine x_putf 0 5 C0 dX8_account_2 rfl MR_MW.o (by show g.2 0 ≤ _; omega) rfl (by decide) inX8 tyX8_ok nmX8 mF_X8_34 rfl rfl rfl rfl (Nat.le_of_ble_eq_true rfl) ?_
  refine x_w (w1 := (MW g w (upd t 0 0) v bf sv pa lb ip td sg)) (MW_o rfl) ?_
  have hJ1 : MJ n (upd t 0 0) v bf sv pa sg := hJ.j_t (by decide)
  refine x_iload_n 1 6 C0 dX8_account_5 rfl rfl rfl ?_
  have hs2 : (wh.toInt < 0 ∨ 17 < wh.toInt) ∨ wh.toInt = 0 ∨ wh.toInt = 1 ∨ wh.toInt = 2 ∨ wh.toInt = 3 ∨ wh.toInt = 4 ∨ wh.toInt = 5 ∨ wh.toInt = 6 ∨ wh.toInt = 7 ∨ wh.toInt = 8 ∨ wh.toInt = 9 ∨ wh.toInt = 10 ∨ wh.toInt = 11 ∨ wh.toInt = 12 ∨ wh.toInt = 13 ∨ wh.toInt = 14 ∨ wh.toInt = 15 ∨ wh.toInt = 16 ∨ wh.toInt = 17 := by omega
  rcases hs2 with hs2 | hs2 | hs2 | hs2 | hs2 | hs2 | hs2 | hs2 | hs2 | hs2 | hs2 | hs2 | hs2 | hs2 | hs2 | hs2 | hs2 | hs2 | hs2
  · refine x_tabOut 185 C0 dX8_account_6 hs2 (by decide) ?_
    refine x_aload_n 0 186 C0 dX8_account_185 rfl rfl rfl ?_
    refine x_iconst (v := 1) 187 C0 dX8_account_186 rfl (by decide) ?_
    refine x_callV 190 C0 (k_X8_no l hl g _ _ n (upd t 0 0) v bf sv pa lb ip td sg MR_MW hJ1 1) dX8_account_187 rfl mC_X8_no mM_X8_61 mI_X8_no mV_X8_no mN_X8 yd_X8_no rfl rfl ⟨Nat.le_of_ble_eq_true rfl, Nat.le_of_ble_eq_true rfl⟩ MR_MW.o rfl rfl rfl rfl (Nat.le_of_ble_eq_true rfl) ⟨Nat.le_of_ble_eq_true rfl, Nat.le_of_ble_eq_true rfl⟩ (fun _ _ _ q => False.elim q) (fun r w1 sz1 hz hP => ?_)
    obtain ⟨rfl, rfl, rfl⟩ := hP
    refine x_w MW_MW ?_
    have hJ3 : MJ n (upd (upd t 0 0) 0 1) v bf sv pa sg := (hJ1.j_t (by decide))
    refine x_st (st1 := [.int 0]) rfl ?_
    exact x_ireturn C0 dX8_account_190 rfl rfl (Nat.le_of_ble_eq_true rfl) (Nat.le_of_ble_eq_true rfl) ⟨rfl, _, _, rfl, hJ3, ((tL.rf.up (by decide)).up (by decide)), ⟨⟨_, rfl⟩, (Or.inl ⟨hs2, rfl, rfl⟩)⟩⟩
  · obtain rfl : wh = 0 := Int32.toInt_inj.mp (hs2.trans rfl)
    refine x_tabIn 92 C0 (x := 0) dX8_account_6 (by decide) (by decide) rfl (by decide) ?_
    refine x_aload_n 0 93 C0 dX8_account_92 rfl rfl rfl ?_
    refine x_getf (v := .ref (g.2 0 + 258 + 1)) 8 96 C0 dX8_account_93 rfl MR_MW.o rfl (by decide) inX8 mF_X8_7 rfl ?_
    refine x_iconst (v := 0) 97 C0 dX8_account_96 rfl (by decide) ?_
    refine x_iald 0 98 C0 dX8_account_97 rfl MR_MW.r_v rfl (vp_in_nI (n := 0) (by decide) (by decide)) ?_
    refine x_st (st1 := [.int (v 0)]) (congrArg (fun z => Value.int z :: _) (show v (nI 0).toNatClampNeg = v 0 from by rw [nI_clamp (by omega)])) ?_
    exact x_ireturn C0 dX8_account_98 rfl rfl (Nat.le_of_ble_eq_true rfl) (Nat.le_of_ble_eq_true rfl) ⟨rfl, _, _, rfl, hJ1, (tL.rf.up (by decide)), ⟨⟨_, rfl⟩, (Or.inr (Or.inl ⟨rfl, rfl, rfl⟩))⟩⟩
  · obtain rfl : wh = 1 := Int32.toInt_inj.mp (hs2.trans rfl)
    refine x_tabIn 99 C0 (x := 1) dX8_account_6 (by decide) (by decide) rfl (by decide) ?_
    refine x_aload_n 0 100 C0 dX8_account_99 rfl rfl rfl ?_
    refine x_callV 103 C0 (k_X8_stored l hl g _ _ n (upd t 0 0) v bf sv pa lb ip td sg MR_MW hJ1) dX8_account_100 rfl mC_X8_stored mM_X8_189 mI_X8_stored mV_X8_stored mN_X8 yd_X8_stored rfl rfl ⟨Nat.le_of_ble_eq_true rfl, Nat.le_of_ble_eq_true rfl⟩ MR_MW.o rfl rfl rfl rfl (Nat.le_of_ble_eq_true rfl) ⟨Nat.le_of_ble_eq_true rfl, Nat.le_of_ble_eq_true rfl⟩ (fun _ _ _ q => False.elim q) (fun r w1 sz1 hz hP => ?_)
    obtain ⟨rfl, rfl, rfl⟩ := hP
    refine x_st (st1 := [.int (rStored v 18)]) rfl ?_
    exact x_ireturn C0 dX8_account_103 rfl rfl (Nat.le_of_ble_eq_true rfl) (Nat.le_of_ble_eq_true rfl) ⟨rfl, _, _, rfl, hJ1, (tL.rf.up (by decide)), ⟨⟨_, rfl⟩, (Or.inr (Or.inr (Or.inl ⟨rfl, rfl, rfl⟩)))⟩⟩
  · obtain rfl : wh = 2 := Int32.toInt_inj.mp (hs2.trans rfl)
    refine x_tabIn 104 C0 (x := 2) dX8_account_6 (by decide) (by decide) rfl (by decide) ?_
    refine x_aload_n 0 105 C0 dX8_account_104 rfl rfl rfl ?_
    refine x_callV 108 C0 (k_X8_packed l hl g _ _ n (upd t 0 0) v bf sv pa lb ip td sg MR_MW hJ1) dX8_account_105 rfl mC_X8_packed mM_X8_192 mI_X8_packed mV_X8_packed mN_X8 yd_X8_packed rfl rfl ⟨Nat.le_of_ble_eq_true rfl, Nat.le_of_ble_eq_true rfl⟩ MR_MW.o rfl rfl rfl rfl (Nat.le_of_ble_eq_true rfl) ⟨Nat.le_of_ble_eq_true rfl, Nat.le_of_ble_eq_true rfl⟩ (fun _ _ _ q => False.elim q) (fun r w1 sz1 hz hP => ?_)
    obtain ⟨⟨m5, hm5, hw5, rfl⟩, rfl, rfl⟩ := hP
    refine x_st (st1 := [.int (rPacked v m5)]) rfl ?_
    exact x_ireturn C0 dX8_account_108 rfl rfl (Nat.le_of_ble_eq_true rfl) (Nat.le_of_ble_eq_true rfl) ⟨rfl, _, _, rfl, hJ1, (tL.rf.up (by decide)), ⟨⟨_, rfl⟩, (Or.inr (Or.inr (Or.inr (Or.inl ⟨m5, rfl, hm5, hw5, rfl, rfl⟩))))⟩⟩
  · obtain rfl : wh = 3 := Int32.toInt_inj.mp (hs2.trans rfl)
    refine x_tabIn 109 C0 (x := 3) dX8_account_6 (by decide) (by decide) rfl (by decide) ?_
    refine x_aload_n 0 110 C0 dX8_account_109 rfl rfl rfl ?_
    refine x_getf (v := .ref (g.2 0 + 258 + 1)) 8 113 C0 dX8_account_110 rfl MR_MW.o rfl (by decide) inX8 mF_X8_7 rfl ?_
    refine x_bipush (v := 7) 115 C0 dX8_account_113 rfl (by decide) ?_
    refine x_iload_n 1 116 C0 dX8_account_115 rfl rfl rfl ?_
    refine x_iadd 117 C0 dX8_account_116 rfl ?_
    refine x_st (st1 := [.int 10, .ref (g.2 0 + 258 + 1)]) (congrArg (fun z => Value.int z :: _) (by decide)) ?_
    refine x_iconst (v := 3) 118 C0 dX8_account_117 rfl (by decide) ?_
    refine x_isub 119 C0 dX8_account_118 rfl ?_
    refine x_st (st1 := [.int 7, .ref (g.2 0 + 258 + 1)]) (congrArg (fun z => Value.int z :: _) (by decide)) ?_
    refine x_iald 0 120 C0 dX8_account_119 rfl MR_MW.r_v rfl (vp_in_nI (n := 7) (by decide) (by decide)) ?_
    refine x_st (st1 := [.int (v 7)]) (congrArg (fun z => Value.int z :: _) (show v (nI 7).toNatClampNeg = v 7 from by rw [nI_clamp (by omega)])) ?_
    exact x_ireturn C0 dX8_account_120 rfl rfl (Nat.le_of_ble_eq_true rfl) (Nat.le_of_ble_eq_true rfl) ⟨rfl, _, _, rfl, hJ1, (tL.rf.up (by decide)), ⟨⟨_, rfl⟩, (Or.inr (Or.inr (Or.inr (Or.inr (Or.inl ⟨rfl, rfl, rfl⟩)))))⟩⟩
  · obtain rfl : wh = 4 := Int32.toInt_inj.mp (hs2.trans rfl)
    refine x_tabIn 109 C0 (x := 4) dX8_account_6 (by decide) (by decide) rfl (by decide) ?_
    refine x_aload_n 0 110 C0 dX8_account_109 rfl rfl rfl ?_
    refine x_getf (v := .ref (g.2 0 + 258 + 1)) 8 113 C0 dX8_account_110 rfl MR_MW.o rfl (by decide) inX8 mF_X8_7 rfl ?_
    refine x_bipush (v := 7) 115 C0 dX8_account_113 rfl (by decide) ?_
    refine x_iload_n 1 116 C0 dX8_account_115 rfl rfl rfl ?_
    refine x_iadd 117 C0 dX8_account_116 rfl ?_
    refine x_st (st1 := [.int 11, .ref (g.2 0 + 258 + 1)]) (congrArg (fun z => Value.int z :: _) (by decide)) ?_
    refine x_iconst (v := 3) 118 C0 dX8_account_117 rfl (by decide) ?_
    refine x_isub 119 C0 dX8_account_118 rfl ?_
    refine x_st (st1 := [.int 8, .ref (g.2 0 + 258 + 1)]) (congrArg (fun z => Value.int z :: _) (by decide)) ?_
    refine x_iald 0 120 C0 dX8_account_119 rfl MR_MW.r_v rfl (vp_in_nI (n := 8) (by decide) (by decide)) ?_
    refine x_st (st1 := [.int (v 8)]) (congrArg (fun z => Value.int z :: _) (show v (nI 8).toNatClampNeg = v 8 from by rw [nI_clamp (by omega)])) ?_
    exact x_ireturn C0 dX8_account_120 rfl rfl (Nat.le_of_ble_eq_true rfl) (Nat.le_of_ble_eq_true rfl) ⟨rfl, _, _, rfl, hJ1, (tL.rf.up (by decide)), ⟨⟨_, rfl⟩, (Or.inr (Or.inr (Or.inr (Or.inr (Or.inr (Or.inl ⟨rfl, rfl, rfl⟩))))))⟩⟩
  · obtain rfl : wh = 5 := Int32.toInt_inj.mp (hs2.trans rfl)
    refine x_tabIn 121 C0 (x := 5) dX8_account_6 (by decide) (by decide) rfl (by decide) ?_
    refine x_aload_n 0 122 C0 dX8_account_121 rfl rfl rfl ?_
    refine x_getf (v := .ref (g.2 0 + 258 + 1)) 8 125 C0 dX8_account_122 rfl MR_MW.o rfl (by decide) inX8 mF_X8_7 rfl ?_
    refine x_bipush (v := 6) 127 C0 dX8_account_125 rfl (by decide) ?_
    refine x_iald 0 128 C0 dX8_account_127 rfl MR_MW.r_v rfl (vp_in_nI (n := 6) (by decide) (by decide)) ?_
    refine x_st (st1 := [.int (v 6)]) (congrArg (fun z => Value.int z :: _) (show v (nI 6).toNatClampNeg = v 6 from by rw [nI_clamp (by omega)])) ?_
    exact x_ireturn C0 dX8_account_128 rfl rfl (Nat.le_of_ble_eq_true rfl) (Nat.le_of_ble_eq_true rfl) ⟨rfl, _, _, rfl, hJ1, (tL.rf.up (by decide)), ⟨⟨_, rfl⟩, (Or.inr (Or.inr (Or.inr (Or.inr (Or.inr (Or.inr (Or.inl ⟨rfl, rfl, rfl⟩)))))))⟩⟩
  · obtain rfl : wh = 6 := Int32.toInt_inj.mp (hs2.trans rfl)
    refine x_tabIn 129 C0 (x := 6) dX8_account_6 (by decide) (by decide) rfl (by decide) ?_
    refine x_aload_n 0 130 C0 dX8_account_129 rfl rfl rfl ?_
    refine x_getf (v := .ref (g.2 0 + 258 + 1)) 8 133 C0 dX8_account_130 rfl MR_MW.o rfl (by decide) inX8 mF_X8_7 rfl ?_
    refine x_iconst (v := 1) 134 C0 dX8_account_133 rfl (by decide) ?_
    refine x_iload_n 1 135 C0 dX8_account_134 rfl rfl rfl ?_
    refine x_iadd 136 C0 dX8_account_135 rfl ?_
    refine x_st (st1 := [.int 7, .ref (g.2 0 + 258 + 1)]) (congrArg (fun z => Value.int z :: _) (by decide)) ?_
    refine x_bipush (v := 6) 138 C0 dX8_account_136 rfl (by decide) ?_
    refine x_isub 139 C0 dX8_account_138 rfl ?_
    refine x_st (st1 := [.int 1, .ref (g.2 0 + 258 + 1)]) (congrArg (fun z => Value.int z :: _) (by decide)) ?_
    refine x_iald 0 140 C0 dX8_account_139 rfl MR_MW.r_v rfl (vp_in_nI (n := 1) (by decide) (by decide)) ?_
    refine x_st (st1 := [.int (v 1)]) (congrArg (fun z => Value.int z :: _) (show v (nI 1).toNatClampNeg = v 1 from by rw [nI_clamp (by omega)])) ?_
    exact x_ireturn C0 dX8_account_140 rfl rfl (Nat.le_of_ble_eq_true rfl) (Nat.le_of_ble_eq_true rfl) ⟨rfl, _, _, rfl, hJ1, (tL.rf.up (by decide)), ⟨⟨_, rfl⟩, (Or.inr (Or.inr (Or.inr (Or.inr (Or.inr (Or.inr (Or.inr (Or.inl ⟨rfl, rfl, rfl⟩))))))))⟩⟩
  · obtain rfl : wh = 7 := Int32.toInt_inj.mp (hs2.trans rfl)
    refine x_tabIn 129 C0 (x := 7) dX8_account_6 (by decide) (by decide) rfl (by decide) ?_
    refine x_aload_n 0 130 C0 dX8_account_129 rfl rfl rfl ?_
    refine x_getf (v := .ref (g.2 0 + 258 + 1)) 8 133 C0 dX8_account_130 rfl MR_MW.o rfl (by decide) inX8 mF_X8_7 rfl ?_
    refine x_iconst (v := 1) 134 C0 dX8_account_133 rfl (by decide) ?_
    refine x_iload_n 1 135 C0 dX8_account_134 rfl rfl rfl ?_
    refine x_iadd 136 C0 dX8_account_135 rfl ?_
    refine x_st (st1 := [.int 8, .ref (g.2 0 + 258 + 1)]) (congrArg (fun z => Value.int z :: _) (by decide)) ?_
    refine x_bipush (v := 6) 138 C0 dX8_account_136 rfl (by decide) ?_
    refine x_isub 139 C0 dX8_account_138 rfl ?_
    refine x_st (st1 := [.int 2, .ref (g.2 0 + 258 + 1)]) (congrArg (fun z => Value.int z :: _) (by decide)) ?_
    refine x_iald 0 140 C0 dX8_account_139 rfl MR_MW.r_v rfl (vp_in_nI (n := 2) (by decide) (by decide)) ?_
    refine x_st (st1 := [.int (v 2)]) (congrArg (fun z => Value.int z :: _) (show v (nI 2).toNatClampNeg = v 2 from by rw [nI_clamp (by omega)])) ?_
    exact x_ireturn C0 dX8_account_140 rfl rfl (Nat.le_of_ble_eq_true rfl) (Nat.le_of_ble_eq_true rfl) ⟨rfl, _, _, rfl, hJ1, (tL.rf.up (by decide)), ⟨⟨_, rfl⟩, (Or.inr (Or.inr (Or.inr (Or.inr (Or.inr (Or.inr (Or.inr (Or.inr (Or.inl ⟨rfl, rfl, rfl⟩)))))))))⟩⟩
  · obtain rfl : wh = 8 := Int32.toInt_inj.mp (hs2.trans rfl)
    refine x_tabIn 129 C0 (x := 8) dX8_account_6 (by decide) (by decide) rfl (by decide) ?_
    refine x_aload_n 0 130 C0 dX8_account_129 rfl rfl rfl ?_
    refine x_getf (v := .ref (g.2 0 + 258 + 1)) 8 133 C0 dX8_account_130 rfl MR_MW.o rfl (by decide) inX8 mF_X8_7 rfl ?_
    refine x_iconst (v := 1) 134 C0 dX8_account_133 rfl (by decide) ?_
    refine x_iload_n 1 135 C0 dX8_account_134 rfl rfl rfl ?_
    refine x_iadd 136 C0 dX8_account_135 rfl ?_
    refine x_st (st1 := [.int 9, .ref (g.2 0 + 258 + 1)]) (congrArg (fun z => Value.int z :: _) (by decide)) ?_
    refine x_bipush (v := 6) 138 C0 dX8_account_136 rfl (by decide) ?_
    refine x_isub 139 C0 dX8_account_138 rfl ?_
    refine x_st (st1 := [.int 3, .ref (g.2 0 + 258 + 1)]) (congrArg (fun z => Value.int z :: _) (by decide)) ?_
    refine x_iald 0 140 C0 dX8_account_139 rfl MR_MW.r_v rfl (vp_in_nI (n := 3) (by decide) (by decide)) ?_
    refine x_st (st1 := [.int (v 3)]) (congrArg (fun z => Value.int z :: _) (show v (nI 3).toNatClampNeg = v 3 from by rw [nI_clamp (by omega)])) ?_
    obtain ⟨nC6, hnC6, hv36⟩ := hJ1.1.n
    refine x_st (st1 := [.int (nI nC6)]) (congrArg (fun z => Value.int z :: _) (hv36)) ?_
    exact x_ireturn C0 dX8_account_140 rfl rfl (Nat.le_of_ble_eq_true rfl) (Nat.le_of_ble_eq_true rfl) ⟨rfl, _, _, rfl, hJ1, (tL.rf.up (by decide)), ⟨⟨_, rfl⟩, (Or.inr (Or.inr (Or.inr (Or.inr (Or.inr (Or.inr (Or.inr (Or.inr (Or.inr (Or.inl ⟨nC6, rfl, hv36, hnC6, rfl, rfl⟩))))))))))⟩⟩
  · obtain rfl : wh = 9 := Int32.toInt_inj.mp (hs2.trans rfl)
    refine x_tabIn 141 C0 (x := 9) dX8_account_6 (by decide) (by decide) rfl (by decide) ?_
    refine x_aload_n 0 142 C0 dX8_account_141 rfl rfl rfl ?_
    refine x_iload_n 1 143 C0 dX8_account_142 rfl rfl rfl ?_
    refine x_bipush (v := 9) 145 C0 dX8_account_143 rfl (by decide) ?_
    refine x_isub 146 C0 dX8_account_145 rfl ?_
    refine x_st (st1 := [.int 0, .ref (g.2 0 + 258)]) (congrArg (fun z => Value.int z :: _) (by decide)) ?_
    refine x_callV 149 C0 (k_X8_withWhere l hl g _ _ n (upd t 0 0) v bf sv pa lb ip td sg MR_MW hJ1 0) dX8_account_146 rfl mC_X8_withWhere mM_X8_155 mI_X8_withWhere mV_X8_withWhere mN_X8 yd_X8_withWhere rfl rfl ⟨Nat.le_of_ble_eq_true rfl, Nat.le_of_ble_eq_true rfl⟩ MR_MW.o rfl rfl rfl rfl (Nat.le_of_ble_eq_true rfl) ⟨Nat.le_of_ble_eq_true rfl, Nat.le_of_ble_eq_true rfl⟩ (fun _ _ _ q => False.elim q) (fun r w1 sz1 hz hP => ?_)
    obtain ⟨⟨m7, hm7, hw7, rfl⟩, rfl, rfl⟩ := hP
    refine x_st (st1 := [.int (nAt v 0 m7)]) rfl ?_
    exact x_ireturn C0 dX8_account_149 rfl rfl (Nat.le_of_ble_eq_true rfl) (Nat.le_of_ble_eq_true rfl) ⟨rfl, _, _, rfl, hJ1, (tL.rf.up (by decide)), ⟨⟨_, rfl⟩, (Or.inr (Or.inr (Or.inr (Or.inr (Or.inr (Or.inr (Or.inr (Or.inr (Or.inr (Or.inr (Or.inl ⟨m7, rfl, hm7, hw7, rfl, rfl⟩)))))))))))⟩⟩
  · obtain rfl : wh = 10 := Int32.toInt_inj.mp (hs2.trans rfl)
    refine x_tabIn 141 C0 (x := 10) dX8_account_6 (by decide) (by decide) rfl (by decide) ?_
    refine x_aload_n 0 142 C0 dX8_account_141 rfl rfl rfl ?_
    refine x_iload_n 1 143 C0 dX8_account_142 rfl rfl rfl ?_
    refine x_bipush (v := 9) 145 C0 dX8_account_143 rfl (by decide) ?_
    refine x_isub 146 C0 dX8_account_145 rfl ?_
    refine x_st (st1 := [.int 1, .ref (g.2 0 + 258)]) (congrArg (fun z => Value.int z :: _) (by decide)) ?_
    refine x_callV 149 C0 (k_X8_withWhere l hl g _ _ n (upd t 0 0) v bf sv pa lb ip td sg MR_MW hJ1 1) dX8_account_146 rfl mC_X8_withWhere mM_X8_155 mI_X8_withWhere mV_X8_withWhere mN_X8 yd_X8_withWhere rfl rfl ⟨Nat.le_of_ble_eq_true rfl, Nat.le_of_ble_eq_true rfl⟩ MR_MW.o rfl rfl rfl rfl (Nat.le_of_ble_eq_true rfl) ⟨Nat.le_of_ble_eq_true rfl, Nat.le_of_ble_eq_true rfl⟩ (fun _ _ _ q => False.elim q) (fun r w1 sz1 hz hP => ?_)
    obtain ⟨⟨m8, hm8, hw8, rfl⟩, rfl, rfl⟩ := hP
    refine x_st (st1 := [.int (nAt v 1 m8)]) rfl ?_
    exact x_ireturn C0 dX8_account_149 rfl rfl (Nat.le_of_ble_eq_true rfl) (Nat.le_of_ble_eq_true rfl) ⟨rfl, _, _, rfl, hJ1, (tL.rf.up (by decide)), ⟨⟨_, rfl⟩, (Or.inr (Or.inr (Or.inr (Or.inr (Or.inr (Or.inr (Or.inr (Or.inr (Or.inr (Or.inr (Or.inr (Or.inl ⟨m8, rfl, hm8, hw8, rfl, rfl⟩))))))))))))⟩⟩
  · obtain rfl : wh = 11 := Int32.toInt_inj.mp (hs2.trans rfl)
    refine x_tabIn 141 C0 (x := 11) dX8_account_6 (by decide) (by decide) rfl (by decide) ?_
    refine x_aload_n 0 142 C0 dX8_account_141 rfl rfl rfl ?_
    refine x_iload_n 1 143 C0 dX8_account_142 rfl rfl rfl ?_
    refine x_bipush (v := 9) 145 C0 dX8_account_143 rfl (by decide) ?_
    refine x_isub 146 C0 dX8_account_145 rfl ?_
    refine x_st (st1 := [.int 2, .ref (g.2 0 + 258)]) (congrArg (fun z => Value.int z :: _) (by decide)) ?_
    refine x_callV 149 C0 (k_X8_withWhere l hl g _ _ n (upd t 0 0) v bf sv pa lb ip td sg MR_MW hJ1 2) dX8_account_146 rfl mC_X8_withWhere mM_X8_155 mI_X8_withWhere mV_X8_withWhere mN_X8 yd_X8_withWhere rfl rfl ⟨Nat.le_of_ble_eq_true rfl, Nat.le_of_ble_eq_true rfl⟩ MR_MW.o rfl rfl rfl rfl (Nat.le_of_ble_eq_true rfl) ⟨Nat.le_of_ble_eq_true rfl, Nat.le_of_ble_eq_true rfl⟩ (fun _ _ _ q => False.elim q) (fun r w1 sz1 hz hP => ?_)
    obtain ⟨⟨m9, hm9, hw9, rfl⟩, rfl, rfl⟩ := hP
    refine x_st (st1 := [.int (nAt v 2 m9)]) rfl ?_
    exact x_ireturn C0 dX8_account_149 rfl rfl (Nat.le_of_ble_eq_true rfl) (Nat.le_of_ble_eq_true rfl) ⟨rfl, _, _, rfl, hJ1, (tL.rf.up (by decide)), ⟨⟨_, rfl⟩, (Or.inr (Or.inr (Or.inr (Or.inr (Or.inr (Or.inr (Or.inr (Or.inr (Or.inr (Or.inr (Or.inr (Or.inr (Or.inl ⟨m9, rfl, hm9, hw9, rfl, rfl⟩)))))))))))))⟩⟩
  · obtain rfl : wh = 12 := Int32.toInt_inj.mp (hs2.trans rfl)
    refine x_tabIn 150 C0 (x := 12) dX8_account_6 (by decide) (by decide) rfl (by decide) ?_
    refine x_aload_n 0 151 C0 dX8_account_150 rfl rfl rfl ?_
    refine x_callV 154 C0 (k_X8_room l hl g _ _ n (upd t 0 0) v bf sv pa lb ip td sg MR_MW hJ1) dX8_account_151 rfl mC_X8_room mM_X8_164 mI_X8_room mV_X8_room mN_X8 yd_X8_room rfl rfl ⟨Nat.le_of_ble_eq_true rfl, Nat.le_of_ble_eq_true rfl⟩ MR_MW.o rfl rfl rfl rfl (Nat.le_of_ble_eq_true rfl) ⟨Nat.le_of_ble_eq_true rfl, Nat.le_of_ble_eq_true rfl⟩ (fun _ _ _ q => False.elim q) (fun r w1 sz1 hz hP => ?_)
    obtain ⟨⟨m10, hm10, hw10, rfl⟩, rfl, rfl⟩ := hP
    refine x_st (st1 := [.int (hRoom v m10)]) rfl ?_
    exact x_ireturn C0 dX8_account_154 rfl rfl (Nat.le_of_ble_eq_true rfl) (Nat.le_of_ble_eq_true rfl) ⟨rfl, _, _, rfl, hJ1, (tL.rf.up (by decide)), ⟨⟨_, rfl⟩, (Or.inr (Or.inr (Or.inr (Or.inr (Or.inr (Or.inr (Or.inr (Or.inr (Or.inr (Or.inr (Or.inr (Or.inr (Or.inr (Or.inl ⟨m10, rfl, hm10, hw10, rfl, rfl⟩))))))))))))))⟩⟩
  · obtain rfl : wh = 13 := Int32.toInt_inj.mp (hs2.trans rfl)
    refine x_tabIn 155 C0 (x := 13) dX8_account_6 (by decide) (by decide) rfl (by decide) ?_
    refine x_aload_n 0 156 C0 dX8_account_155 rfl rfl rfl ?_
    refine x_getf (v := .ref (g.2 0 + 258 + 1)) 8 159 C0 dX8_account_156 rfl MR_MW.o rfl (by decide) inX8 mF_X8_7 rfl ?_
    refine x_bipush (v := 9) 161 C0 dX8_account_159 rfl (by decide) ?_
    refine x_iald 0 162 C0 dX8_account_161 rfl MR_MW.r_v rfl (vp_in_nI (n := 9) (by decide) (by decide)) ?_
    refine x_st (st1 := [.int (v 9)]) (congrArg (fun z => Value.int z :: _) (show v (nI 9).toNatClampNeg = v 9 from by rw [nI_clamp (by omega)])) ?_
    exact x_ireturn C0 dX8_account_162 rfl rfl (Nat.le_of_ble_eq_true rfl) (Nat.le_of_ble_eq_true rfl) ⟨rfl, _, _, rfl, hJ1, (tL.rf.up (by decide)), ⟨⟨_, rfl⟩, (Or.inr (Or.inr (Or.inr (Or.inr (Or.inr (Or.inr (Or.inr (Or.inr (Or.inr (Or.inr (Or.inr (Or.inr (Or.inr (Or.inr (Or.inl ⟨rfl, rfl, rfl⟩)))))))))))))))⟩⟩
  · obtain rfl : wh = 14 := Int32.toInt_inj.mp (hs2.trans rfl)
    refine x_tabIn 163 C0 (x := 14) dX8_account_6 (by decide) (by decide) rfl (by decide) ?_
    refine x_aload_n 0 164 C0 dX8_account_163 rfl rfl rfl ?_
    refine x_getf (v := .ref (g.2 0 + 258 + 1)) 8 167 C0 dX8_account_164 rfl MR_MW.o rfl (by decide) inX8 mF_X8_7 rfl ?_
    refine x_iconst (v := 4) 168 C0 dX8_account_167 rfl (by decide) ?_
    refine x_iload_n 1 169 C0 dX8_account_168 rfl rfl rfl ?_
    refine x_iadd 170 C0 dX8_account_169 rfl ?_
    refine x_st (st1 := [.int 18, .ref (g.2 0 + 258 + 1)]) (congrArg (fun z => Value.int z :: _) (by decide)) ?_
    refine x_bipush (v := 14) 172 C0 dX8_account_170 rfl (by decide) ?_
    refine x_isub 173 C0 dX8_account_172 rfl ?_
    refine x_st (st1 := [.int 4, .ref (g.2 0 + 258 + 1)]) (congrArg (fun z => Value.int z :: _) (by decide)) ?_
    refine x_iald 0 174 C0 dX8_account_173 rfl MR_MW.r_v rfl (vp_in_nI (n := 4) (by decide) (by decide)) ?_
    refine x_st (st1 := [.int (v 4)]) (congrArg (fun z => Value.int z :: _) (show v (nI 4).toNatClampNeg = v 4 from by rw [nI_clamp (by omega)])) ?_
    exact x_ireturn C0 dX8_account_174 rfl rfl (Nat.le_of_ble_eq_true rfl) (Nat.le_of_ble_eq_true rfl) ⟨rfl, _, _, rfl, hJ1, (tL.rf.up (by decide)), ⟨⟨_, rfl⟩, (Or.inr (Or.inr (Or.inr (Or.inr (Or.inr (Or.inr (Or.inr (Or.inr (Or.inr (Or.inr (Or.inr (Or.inr (Or.inr (Or.inr (Or.inr (Or.inl ⟨rfl, rfl, rfl⟩))))))))))))))))⟩⟩
  · obtain rfl : wh = 15 := Int32.toInt_inj.mp (hs2.trans rfl)
    refine x_tabIn 163 C0 (x := 15) dX8_account_6 (by decide) (by decide) rfl (by decide) ?_
    refine x_aload_n 0 164 C0 dX8_account_163 rfl rfl rfl ?_
    refine x_getf (v := .ref (g.2 0 + 258 + 1)) 8 167 C0 dX8_account_164 rfl MR_MW.o rfl (by decide) inX8 mF_X8_7 rfl ?_
    refine x_iconst (v := 4) 168 C0 dX8_account_167 rfl (by decide) ?_
    refine x_iload_n 1 169 C0 dX8_account_168 rfl rfl rfl ?_
    refine x_iadd 170 C0 dX8_account_169 rfl ?_
    refine x_st (st1 := [.int 19, .ref (g.2 0 + 258 + 1)]) (congrArg (fun z => Value.int z :: _) (by decide)) ?_
    refine x_bipush (v := 14) 172 C0 dX8_account_170 rfl (by decide) ?_
    refine x_isub 173 C0 dX8_account_172 rfl ?_
    refine x_st (st1 := [.int 5, .ref (g.2 0 + 258 + 1)]) (congrArg (fun z => Value.int z :: _) (by decide)) ?_
    refine x_iald 0 174 C0 dX8_account_173 rfl MR_MW.r_v rfl (vp_in_nI (n := 5) (by decide) (by decide)) ?_
    refine x_st (st1 := [.int (v 5)]) (congrArg (fun z => Value.int z :: _) (show v (nI 5).toNatClampNeg = v 5 from by rw [nI_clamp (by omega)])) ?_
    exact x_ireturn C0 dX8_account_174 rfl rfl (Nat.le_of_ble_eq_true rfl) (Nat.le_of_ble_eq_true rfl) ⟨rfl, _, _, rfl, hJ1, (tL.rf.up (by decide)), ⟨⟨_, rfl⟩, (Or.inr (Or.inr (Or.inr (Or.inr (Or.inr (Or.inr (Or.inr (Or.inr (Or.inr (Or.inr (Or.inr (Or.inr (Or.inr (Or.inr (Or.inr (Or.inr (Or.inl ⟨rfl, rfl, rfl⟩)))))))))))))))))⟩⟩
  · obtain rfl : wh = 16 := Int32.toInt_inj.mp (hs2.trans rfl)
    refine x_tabIn 175 C0 (x := 16) dX8_account_6 (by decide) (by decide) rfl (by decide) ?_
    refine x_aload_n 0 176 C0 dX8_account_175 rfl rfl rfl ?_
    refine x_getf (v := .int (t 9)) 17 179 C0 dX8_account_176 rfl MR_MW.o rfl (by decide) inX8 mF_X8_195 rfl ?_
    exact x_ireturn C0 dX8_account_179 rfl rfl (Nat.le_of_ble_eq_true rfl) (Nat.le_of_ble_eq_true rfl) ⟨rfl, _, _, rfl, hJ1, (tL.rf.up (by decide)), ⟨⟨_, rfl⟩, (Or.inr (Or.inr (Or.inr (Or.inr (Or.inr (Or.inr (Or.inr (Or.inr (Or.inr (Or.inr (Or.inr (Or.inr (Or.inr (Or.inr (Or.inr (Or.inr (Or.inr (Or.inl ⟨rfl, rfl, rfl⟩))))))))))))))))))⟩⟩
  · obtain rfl : wh = 17 := Int32.toInt_inj.mp (hs2.trans rfl)
    refine x_tabIn 180 C0 (x := 17) dX8_account_6 (by decide) (by decide) rfl (by decide) ?_
    refine x_aload_n 0 181 C0 dX8_account_180 rfl rfl rfl ?_
    refine x_getf (v := .int (t 2)) 2 184 C0 dX8_account_181 rfl MR_MW.o rfl (by decide) inX8 mF_X8_64 rfl ?_
    exact x_ireturn C0 dX8_account_184 rfl rfl (Nat.le_of_ble_eq_true rfl) (Nat.le_of_ble_eq_true rfl) ⟨rfl, _, _, rfl, hJ1, (tL.rf.up (by decide)), ⟨⟨_, rfl⟩, (Or.inr (Or.inr (Or.inr (Or.inr (Or.inr (Or.inr (Or.inr (Or.inr (Or.inr (Or.inr (Or.inr (Or.inr (Or.inr (Or.inr (Or.inr (Or.inr (Or.inr (Or.inr (⟨rfl, rfl, rfl⟩)))))))))))))))))))⟩⟩

set_option maxHeartbeats 4000000 in
set_option maxRecDepth 100000 in
theorem k_X8_feed (l : Launch) (hl : l.stackTraces = false) (g : xg_T) (w : xw_T) (sz n : Nat) (t v bf sv pa lb ip td sg : Nat → Int32) (hM : MR g w t v bf sv pa lb ip td sg) (hJ : MJ n t v bf sv pa sg) (c : Int32) : xM l g yX8_feed cX8_feed 2 (some .int) ({ frames := 1, cells := 0, slots := 0, locals := 21 }) 0 0 [.ref (g.2 0 + 258), .int c] w sz (fun r w1 sz1 => sz = sz1 ∧ ((n < 60 ∧ r = some (.int (nI (n + 1))) ∧ ∃ t', w1 = MW g w t' v bf sv pa lb (upd ip n c) td sg ∧ MJ (n + 1) t' v bf sv pa sg ∧ t' 0 = 0 ∧ tL t t') ∨ (n = 60 ∧ r = some (.int 0) ∧ ∃ t', w1 = MW g w t' v bf sv pa lb ip td sg ∧ MJ n t' v bf sv pa sg ∧ t' 0 = 1 ∧ tL t t'))) (fun _ _ _ => False) := by
  refine xM.of RX8 hl (by decide +kernel) rfl (Nat.le_of_ble_eq_true rfl) rfl ?_
  intro p e s m args below meth cD C0 hini
  refine x_aload_n 0 1 C0 dX8_feed_0 rfl rfl rfl ?_
  refine x_iconst (v := 0) 2 C0 dX8_feed_1 rfl (by decide) ?_
  refine x_w (MW_self hM) ?_
  refine x_putf 0 5 C0 dX8_feed_2 rfl MR_MW.o (by show g.2 0 ≤ _; omega) rfl (by decide) inX8 tyX8_ok nmX8 mF_X8_34 rfl rfl rfl rfl (Nat.le_of_ble_eq_true rfl) ?_
  refine x_w (w1 := (MW g w (upd t 0 0) v bf sv pa lb ip td sg)) (MW_o rfl) ?_
  have hJ1 : MJ n (upd t 0 0) v bf sv pa sg := hJ.j_t (by decide)
  refine x_aload_n 0 6 C0 dX8_feed_5 rfl rfl rfl ?_
  refine x_getf (v := .int (t 9)) 17 9 C0 dX8_feed_6 rfl MR_MW.o rfl (by decide) inX8 mF_X8_195 rfl ?_
  refine x_st (st1 := [.int (nI n)]) (congrArg (fun z => Value.int z :: _) (hJ1.2.2.2.2.2.1)) ?_
  refine x_bipush (v := 60) 11 C0 dX8_feed_9 rfl (by decide) ?_
  refine x_icmp_ne 20 14 C0 dX8_feed_11 rfl (by decide) (fun c2 => ?_) (fun c2 => ?_)
  · have hn6 : n < 60 := Nat.lt_of_le_of_ne hJ1.2.2.2.2.2.2.1 (fun e => c2 (by rw [e]; rfl))
    refine x_aload_n 0 21 C0 dX8_feed_20 rfl rfl rfl ?_
    refine x_getf (v := .ref (g.2 0 + 258 + 6)) 14 24 C0 dX8_feed_21 rfl MR_MW.o rfl (by decide) inX8 mF_X8_25 rfl ?_
    refine x_aload_n 0 25 C0 dX8_feed_24 rfl rfl rfl ?_
    refine x_getf (v := .int (t 9)) 17 28 C0 dX8_feed_25 rfl MR_MW.o rfl (by decide) inX8 mF_X8_195 rfl ?_
    refine x_st (st1 := [.int (nI n), .ref (g.2 0 + 258 + 6)]) (congrArg (fun z => Value.int z :: _) (hJ1.2.2.2.2.2.1)) ?_
    refine x_iload_n 1 29 C0 dX8_feed_28 rfl rfl rfl ?_
    refine x_iast 0 30 C0 dX8_feed_29 rfl MR_MW.r_ip (by show g.2 0 ≤ _; omega) rfl (vp_in_nI (n := n) (by omega) (by decide)) ?_
    refine x_w (w1 := (MW g w (upd t 0 0) v bf sv pa lb (upd ip n c) td sg)) (by rw [show (nI n : Int32).toNatClampNeg = n from nI_clamp (n := n) (by omega)]; exact MW_ip) ?_
    refine x_aload_n 0 31 C0 dX8_feed_30 rfl rfl rfl ?_
    refine x_dup 32 C0 dX8_feed_31 rfl rfl ?_
    refine x_getf (v := .int (t 9)) 17 35 C0 dX8_feed_32 rfl MR_MW.o rfl (by decide) inX8 mF_X8_195 rfl ?_
    refine x_st (st1 := [.int (nI n), .ref (g.2 0 + 258)]) (congrArg (fun z => Value.int z :: _) (hJ1.2.2.2.2.2.1)) ?_
    refine x_iconst (v := 1) 36 C0 dX8_feed_35 rfl (by decide) ?_
    refine x_iadd 37 C0 dX8_feed_36 rfl ?_
    refine x_st (st1 := [.int (nI (n + 1)), .ref (g.2 0 + 258)]) (congrArg (fun z => Value.int z :: _) (nI_add n 1)) ?_
    refine x_putf 17 40 C0 dX8_feed_37 rfl MR_MW.o (by show g.2 0 ≤ _; omega) rfl (by decide) inX8 tyX8_ok nmX8 mF_X8_195 rfl rfl rfl rfl (Nat.le_of_ble_eq_true rfl) ?_
    refine x_w (w1 := (MW g w (upd (upd t 0 0) 9 (nI (n + 1))) v bf sv pa lb (upd ip n c) td sg)) (MW_o rfl) ?_
    have hJ4 : MJ (n + 1) (upd (upd t 0 0) 9 (nI (n + 1))) v bf sv pa sg := hJ1.j_n (m := n + 1) (by omega) rfl
    refine x_aload_n 0 41 C0 dX8_feed_40 rfl rfl rfl ?_
    refine x_getf (v := .int (nI (n + 1))) 17 44 C0 dX8_feed_41 rfl MR_MW.o rfl (by decide) inX8 mF_X8_195 rfl ?_
    refine x_st (st1 := [.int (nI (n + 1))]) (congrArg (fun z => Value.int z :: _) (hJ4.2.2.2.2.2.1)) ?_
    exact x_ireturn C0 dX8_feed_44 rfl rfl (Nat.le_of_ble_eq_true rfl) (Nat.le_of_ble_eq_true rfl) ⟨rfl, Or.inl ⟨hn6, rfl, _, rfl, hJ4, rfl, ((tL.rf.up (by decide)).up (by decide))⟩⟩
  · refine x_aload_n 0 15 C0 dX8_feed_14 rfl rfl rfl ?_
    refine x_iconst (v := 1) 16 C0 dX8_feed_15 rfl (by decide) ?_
    refine x_callV 19 C0 (k_X8_no l hl g _ _ n (upd t 0 0) v bf sv pa lb ip td sg MR_MW hJ1 1) dX8_feed_16 rfl mC_X8_no mM_X8_61 mI_X8_no mV_X8_no mN_X8 yd_X8_no rfl rfl ⟨Nat.le_of_ble_eq_true rfl, Nat.le_of_ble_eq_true rfl⟩ MR_MW.o rfl rfl rfl rfl (Nat.le_of_ble_eq_true rfl) ⟨Nat.le_of_ble_eq_true rfl, Nat.le_of_ble_eq_true rfl⟩ (fun _ _ _ q => False.elim q) (fun r w1 sz1 hz hP => ?_)
    obtain ⟨rfl, rfl, rfl⟩ := hP
    refine x_w MW_MW ?_
    have hJ5 : MJ n (upd (upd t 0 0) 0 1) v bf sv pa sg := (hJ1.j_t (by decide))
    refine x_st (st1 := [.int 0]) rfl ?_
    exact x_ireturn C0 dX8_feed_19 rfl rfl (Nat.le_of_ble_eq_true rfl) (Nat.le_of_ble_eq_true rfl) ⟨rfl, Or.inr ⟨(nI_eq (b := 60) (by have := hJ.2.2.2.2.2.2.1; omega) (by decide)).mp c2, rfl, _, rfl, hJ5, rfl, ((tL.rf.up (by decide)).up (by decide))⟩⟩

set_option maxHeartbeats 4000000 in
set_option maxRecDepth 100000 in
theorem k_X8_sign (l : Launch) (hl : l.stackTraces = false) (g : xg_T) (w : xw_T) (sz n : Nat) (t v bf sv pa lb ip td sg : Nat → Int32) (hM : MR g w t v bf sv pa lb ip td sg) (hJ : MJ n t v bf sv pa sg) (h0 : Nat) (hh0 : h0 ≤ 60) (ht0 : t 10 = nI h0) : xM l g yX8_sign cX8_sign 1 (some .int) ({ frames := 0, cells := 0, slots := 0, locals := 0 }) 0 0 [.ref (g.2 0 + 258)] w sz (fun r w1 sz1 => (∃ z : Int32, r = some (.int z) ∧ (z = -1 ∨ h0 < n)) ∧ w = w1 ∧ sz = sz1) (fun _ _ _ => False) := by
  have hn60 := hJ.2.2.2.2.2.2.1
  refine xM.of RX8 hl (by decide +kernel) rfl (Nat.le_of_ble_eq_true rfl) rfl ?_
  intro p e s m args below meth cD C0 hini
  refine x_aload_n 0 1 C0 dX8_sign_0 rfl rfl rfl ?_
  refine x_getf (v := .int (t 10)) 18 4 C0 dX8_sign_1 rfl hM.o rfl (by decide) inX8 mF_X8_198 rfl ?_
  refine x_st (st1 := [.int (nI h0)]) (congrArg (fun z => Value.int z :: _) (ht0)) ?_
  refine x_aload_n 0 5 C0 dX8_sign_4 rfl rfl rfl ?_
  refine x_getf (v := .int (t 9)) 17 8 C0 dX8_sign_5 rfl hM.o rfl (by decide) inX8 mF_X8_195 rfl ?_
  refine x_st (st1 := [.int (nI n), .int (nI h0)]) (congrArg (fun z => Value.int z :: _) (hJ.2.2.2.2.2.1)) ?_
  refine x_icmp_ge 23 11 C0 dX8_sign_8 rfl (by decide) (fun c1 => ?_) (fun c1 => ?_)
  · have c1' := Int32.not_lt.mpr c1
    refine x_iconst (v := (-1)) 24 C0 dX8_sign_23 rfl (by decide) ?_
    exact x_ireturn C0 dX8_sign_24 rfl rfl (Nat.le_of_ble_eq_true rfl) (Nat.le_of_ble_eq_true rfl) ⟨⟨_, rfl, Or.inl rfl⟩, rfl, rfl⟩
  · have c1' := Int32.not_le.mp c1
    have hlt : h0 < n := Nat.lt_of_not_le (fun z => c1 (nI_le z (by omega)))
    refine x_aload_n 0 12 C0 dX8_sign_11 rfl rfl rfl ?_
    refine x_getf (v := .ref (g.2 0 + 258 + 6)) 14 15 C0 dX8_sign_12 rfl hM.o rfl (by decide) inX8 mF_X8_25 rfl ?_
    refine x_aload_n 0 16 C0 dX8_sign_15 rfl rfl rfl ?_
    refine x_getf (v := .int (t 10)) 18 19 C0 dX8_sign_16 rfl hM.o rfl (by decide) inX8 mF_X8_198 rfl ?_
    refine x_st (st1 := [.int (nI h0), .ref (g.2 0 + 258 + 6)]) (congrArg (fun z => Value.int z :: _) (ht0)) ?_
    refine x_iald 0 20 C0 dX8_sign_19 rfl hM.r_ip rfl (vp_in_nI (n := h0) (by omega) (by decide)) ?_
    refine x_st (st1 := [.int (ip h0)]) (congrArg (fun z => Value.int z :: _) (show ip (nI h0).toNatClampNeg = ip h0 from by rw [nI_clamp (by omega)])) ?_
    refine x_goto 24 C0 dX8_sign_20 (by decide) ?_
    exact x_ireturn C0 dX8_sign_24 rfl rfl (Nat.le_of_ble_eq_true rfl) (Nat.le_of_ble_eq_true rfl) ⟨⟨_, rfl, Or.inr hlt⟩, rfl, rfl⟩

set_option maxHeartbeats 4000000 in
set_option maxRecDepth 100000 in
theorem k_X8_word (l : Launch) (hl : l.stackTraces = false) (g : xg_T) (w : xw_T) (sz n : Nat) (t v bf sv pa lb ip td sg : Nat → Int32) (hM : MR g w t v bf sv pa lb ip td sg) (hJ : MJ n t v bf sv pa sg) (h0 : Nat) (hh0 : h0 ≤ 60) (ht0 : t 10 = nI h0) (a b : Nat) (hab : a ≤ b) (hb : b ≤ 10) : xM l g yX8_word cX8_word 8 (some .int) ({ frames := 1, cells := 0, slots := 0, locals := 20 }) 0 0 [.ref (g.2 0 + 258), .int (nI a), .int (nI b)] w sz (mP g w sz n sg (mG n h0)) (fun _ _ _ => False) := by
  have hn60 := hJ.2.2.2.2.2.2.1
  refine xM.of RX8 hl (by decide +kernel) rfl (Nat.le_of_ble_eq_true rfl) rfl ?_
  intro p e s m args below meth cD C0 hini
  refine x_sipush (v := 2047) 3 C0 dX8_word_0 rfl (by decide) ?_
  refine x_istore_n [(3, .int 2047), (0, .ref (g.2 0 + 258)), (1, .int (nI a)), (2, .int (nI b))] 4 C0 dX8_word_3 rfl rfl (by decide) rfl ?_
  refine x_lv (lv1 := [(0, .ref (g.2 0 + 258)), (1, .int (nI a)), (2, .int (nI b)), (3, .int 2047)]) [1, 2, 3, 0] rfl ?_
  refine x_iconst (v := 0) 5 C0 dX8_word_4 rfl (by decide) ?_
  refine x_istore [(4, .int 0), (0, .ref (g.2 0 + 258)), (1, .int (nI a)), (2, .int (nI b)), (3, .int 2047)] 7 C0 dX8_word_5 rfl (by decide) rfl ?_
  refine x_lv (lv1 := [(0, .ref (g.2 0 + 258)), (1, .int (nI a)), (2, .int (nI b)), (3, .int 2047), (4, .int 0)]) [1, 2, 3, 4, 0] rfl ?_
  refine x_w (MW_self hM) ?_
  have loop7 : ∀ (N i : Nat) (tl vl bfl svl pal lbl ipl tdl : Nat → Int32) (my : Int32), i ≤ 6 → 6 - i < N → MJ n tl vl bfl svl pal sg → (∃ hv : Nat, hv ≤ 60 ∧ tl 10 = nI hv ∧ h0 ≤ hv) → xV p l e ({ frames := 1, cells := 0, slots := 0, locals := 20 }) s m args below meth cD (xQ g below (mP g w sz n sg (mG n h0)) (fun _ _ _ => False) args s 0 0) g 8 (MW g w tl vl bfl svl pal lbl ipl tdl sg) sz (0) (0) 7 [(0, .ref (g.2 0 + 258)), (1, .int (nI a)), (2, .int (nI b)), (3, .int my), (4, .int (nI i))] [] := by
    intro N
    induction N with
    | zero => intro i tl vl bfl svl pal lbl ipl tdl my h1 h2; omega
    | succ N ih =>
      intro i tl vl bfl svl pal lbl ipl tdl my hi hN hJl hV
      obtain ⟨hv, hhv, htv, hgv⟩ := hV
      refine x_iload 4 9 C0 dX8_word_7 rfl rfl ?_
      refine x_bipush (v := 6) 11 C0 dX8_word_9 rfl (by decide) ?_
      refine x_icmp_ge 153 14 C0 dX8_word_11 rfl (by decide) (fun c1 => ?_) (fun c1 => ?_)
      · refine x_iconst (v := 0) 154 C0 dX8_word_153 rfl (by decide) ?_
        exact x_ireturn C0 dX8_word_154 rfl rfl (Nat.le_of_ble_eq_true rfl) (Nat.le_of_ble_eq_true rfl) ⟨rfl, _, _, _, _, _, _, _, _, rfl, hJl, ⟨⟨_, rfl⟩, hv, by omega, htv, by omega⟩⟩
      · have hi2 : i < 6 := Nat.lt_of_not_le (fun z => c1 (nI_le (a := 6) z (by omega)))
        refine x_iconst (v := 0) 15 C0 dX8_word_14 rfl (by decide) ?_
        refine x_istore [(5, .int 0), (0, .ref (g.2 0 + 258)), (1, .int (nI a)), (2, .int (nI b)), (3, .int my), (4, .int (nI i))] 17 C0 dX8_word_15 rfl (by decide) rfl ?_
        refine x_lv (lv1 := [(0, .ref (g.2 0 + 258)), (1, .int (nI a)), (2, .int (nI b)), (3, .int my), (4, .int (nI i)), (5, .int 0)]) [1, 2, 3, 4, 5, 0] rfl ?_
        refine x_iconst (v := (-1)) 18 C0 dX8_word_17 rfl (by decide) ?_
        refine x_istore [(6, .int (-1)), (0, .ref (g.2 0 + 258)), (1, .int (nI a)), (2, .int (nI b)), (3, .int my), (4, .int (nI i)), (5, .int 0)] 20 C0 dX8_word_18 rfl (by decide) rfl ?_
        refine x_lv (lv1 := [(0, .ref (g.2 0 + 258)), (1, .int (nI a)), (2, .int (nI b)), (3, .int my), (4, .int (nI i)), (5, .int 0), (6, .int (-1))]) [1, 2, 3, 4, 5, 6, 0] rfl ?_
        refine x_iload_n 1 21 C0 dX8_word_20 rfl rfl rfl ?_
        refine x_istore [(7, .int (nI a)), (0, .ref (g.2 0 + 258)), (1, .int (nI a)), (2, .int (nI b)), (3, .int my), (4, .int (nI i)), (5, .int 0), (6, .int (-1))] 23 C0 dX8_word_21 rfl (by decide) rfl ?_
        refine x_lv (lv1 := [(0, .ref (g.2 0 + 258)), (1, .int (nI a)), (2, .int (nI b)), (3, .int my), (4, .int (nI i)), (5, .int 0), (6, .int (-1)), (7, .int (nI a))]) [1, 2, 3, 4, 5, 6, 7, 0] rfl ?_
        have loop23 : ∀ (Nj ij : Nat) (go : Int32) (wo : Int32), ij ≤ (b + 1) → (b + 1) - ij < Nj → (go = 0 ∨ hv < n) → xV p l e ({ frames := 1, cells := 0, slots := 0, locals := 20 }) s m args below meth cD (xQ g below (mP g w sz n sg (mG n h0)) (fun _ _ _ => False) args s 0 0) g 8 (MW g w tl vl bfl svl pal lbl ipl tdl sg) sz (0) (0) 23 [(0, .ref (g.2 0 + 258)), (1, .int (nI a)), (2, .int (nI b)), (3, .int my), (4, .int (nI i)), (5, .int go), (6, .int wo), (7, .int (nI ij))] [] := by
          intro Nj
          induction Nj with
          | zero => intro ij go wo h1 h2; omega
          | succ Nj ihj =>
            intro ij go wo hij hNj hVj
            refine x_iload 7 25 C0 dX8_word_23 rfl rfl ?_
            refine x_iload_n 2 26 C0 dX8_word_25 rfl rfl rfl ?_
            refine x_icmp_gt 103 29 C0 dX8_word_26 rfl (by decide) (fun c2 => ?_) (fun c2 => ?_)
            · refine x_aload_n 0 104 C0 dX8_word_103 rfl rfl rfl ?_
              refine x_iload 5 106 C0 dX8_word_104 rfl rfl ?_
              refine x_if_ne 113 109 C0 dX8_word_106 rfl (by decide) (fun c3 => ?_) (fun c3 => ?_)
              · refine x_iconst (v := 0) 114 C0 dX8_word_113 rfl (by decide) ?_
                refine x_putf 19 117 C0 dX8_word_114 rfl MR_MW.o (by show g.2 0 ≤ _; omega) rfl (by decide) inX8 tyX8_ok nmX8 mF_X8_204 rfl rfl rfl rfl (Nat.le_of_ble_eq_true rfl) ?_
                refine x_w (w1 := (MW g w (upd tl 11 0) vl bfl svl pal lbl ipl tdl sg)) (MW_o rfl) ?_
                have hJ4 : MJ n (upd tl 11 0) vl bfl svl pal sg := hJl.j_t (by decide)
                refine x_aload_n 0 118 C0 dX8_word_117 rfl rfl rfl ?_
                refine x_getf (v := .int 0) 19 121 C0 dX8_word_118 rfl MR_MW.o rfl (by decide) inX8 mF_X8_204 rfl ?_
                refine x_if_eq 126 124 C0 dX8_word_121 rfl (by decide) (fun _ => ?_) (fun q => False.elim (by revert q; decide))
                refine x_iload 5 128 C0 dX8_word_126 rfl rfl ?_
                refine x_istore_n [(3, .int go), (0, .ref (g.2 0 + 258)), (1, .int (nI a)), (2, .int (nI b)), (4, .int (nI i)), (5, .int go), (6, .int wo), (7, .int (nI ij))] 129 C0 dX8_word_128 rfl rfl (by decide) rfl ?_
                refine x_lv (lv1 := [(0, .ref (g.2 0 + 258)), (1, .int (nI a)), (2, .int (nI b)), (3, .int go), (4, .int (nI i)), (5, .int go), (6, .int wo), (7, .int (nI ij))]) [1, 2, 3, 0, 4, 5, 6, 7] rfl ?_
                refine x_aload_n 0 130 C0 dX8_word_129 rfl rfl rfl ?_
                refine x_dup 131 C0 dX8_word_130 rfl rfl ?_
                refine x_getf (v := .int (tl 10)) 18 134 C0 dX8_word_131 rfl MR_MW.o rfl (by decide) inX8 mF_X8_198 rfl ?_
                refine x_st (st1 := [.int (nI hv), .ref (g.2 0 + 258)]) (congrArg (fun z => Value.int z :: _) (htv)) ?_
                refine x_iconst (v := 1) 135 C0 dX8_word_134 rfl (by decide) ?_
                refine x_iadd 136 C0 dX8_word_135 rfl ?_
                refine x_st (st1 := [.int (nI (hv + 1)), .ref (g.2 0 + 258)]) (congrArg (fun z => Value.int z :: _) (nI_add hv 1)) ?_
                refine x_putf 18 139 C0 dX8_word_136 rfl MR_MW.o (by show g.2 0 ≤ _; omega) rfl (by decide) inX8 tyX8_ok nmX8 mF_X8_198 rfl rfl rfl rfl (Nat.le_of_ble_eq_true rfl) ?_
                refine x_w (w1 := (MW g w (upd (upd tl 11 0) 10 (nI (hv + 1))) vl bfl svl pal lbl ipl tdl sg)) (MW_o rfl) ?_
                have hv60 : hv + 1 ≤ 60 := by (have := hVj.resolve_left c3; omega)
                have hJ6 : MJ n (upd (upd tl 11 0) 10 (nI (hv + 1))) vl bfl svl pal sg := hJ4.j_h (m := hv + 1) (by have := hVj.resolve_left c3; omega) rfl
                refine x_iload 6 141 C0 dX8_word_139 rfl rfl ?_
                refine x_if_lt 147 144 C0 dX8_word_141 rfl (by decide) (fun c7 => ?_) (fun c7 => ?_)
                · have c7' := Int32.not_le.mpr c7
                  refine x_iinc [(4, .int (nI (i + 1))), (0, .ref (g.2 0 + 258)), (1, .int (nI a)), (2, .int (nI b)), (3, .int go), (5, .int go), (6, .int wo), (7, .int (nI ij))] 4 150 C0 dX8_word_147 rfl rfl (nI_1 i) (by decide) rfl ?_
                  refine x_lv (lv1 := [(0, .ref (g.2 0 + 258)), (1, .int (nI a)), (2, .int (nI b)), (3, .int go), (4, .int (nI (i + 1))), (5, .int go), (6, .int wo), (7, .int (nI ij))]) [1, 2, 3, 4, 0, 5, 6, 7] rfl ?_
                  refine x_goto 7 C0 dX8_word_150 (by decide) ?_
                  exact x_lv [0, 1, 2, 3, 4] rfl (ih (i + 1) _ _ _ _ _ _ _ _ _ (by omega) (by omega) hJ6 ⟨(hv + 1), by omega, rfl, by omega⟩)
                · have c7' := Int32.not_lt.mp c7
                  refine x_iload 6 146 C0 dX8_word_144 rfl rfl ?_
                  exact x_ireturn C0 dX8_word_146 rfl rfl (Nat.le_of_ble_eq_true rfl) (Nat.le_of_ble_eq_true rfl) ⟨rfl, _, _, _, _, _, _, _, _, rfl, hJ6, ⟨⟨_, rfl⟩, (hv + 1), by omega, rfl, by omega⟩⟩
              · refine x_iconst (v := 1) 110 C0 dX8_word_109 rfl (by decide) ?_
                refine x_goto 114 C0 dX8_word_110 (by decide) ?_
                refine x_putf 19 117 C0 dX8_word_114 rfl MR_MW.o (by show g.2 0 ≤ _; omega) rfl (by decide) inX8 tyX8_ok nmX8 mF_X8_204 rfl rfl rfl rfl (Nat.le_of_ble_eq_true rfl) ?_
                refine x_w (w1 := (MW g w (upd tl 11 1) vl bfl svl pal lbl ipl tdl sg)) (MW_o rfl) ?_
                have hJ8 : MJ n (upd tl 11 1) vl bfl svl pal sg := hJl.j_t (by decide)
                refine x_aload_n 0 118 C0 dX8_word_117 rfl rfl rfl ?_
                refine x_getf (v := .int 1) 19 121 C0 dX8_word_118 rfl MR_MW.o rfl (by decide) inX8 mF_X8_204 rfl ?_
                refine x_if_eq 126 124 C0 dX8_word_121 rfl (by decide) (fun q => False.elim (by revert q; decide)) (fun _ => ?_)
                refine x_iconst (v := 0) 125 C0 dX8_word_124 rfl (by decide) ?_
                exact x_ireturn C0 dX8_word_125 rfl rfl (Nat.le_of_ble_eq_true rfl) (Nat.le_of_ble_eq_true rfl) ⟨rfl, _, _, _, _, _, _, _, _, rfl, hJ8, ⟨⟨_, rfl⟩, hv, by omega, htv, by omega⟩⟩
            · have hi2j : ij ≤ b := Nat.le_of_not_lt (fun z => c2 (nI_lt (a := b) z (by omega)))
              refine x_iload_n 3 30 C0 dX8_word_29 rfl rfl rfl ?_
              refine x_iload 7 32 C0 dX8_word_30 rfl rfl ?_
              refine x_ishr 33 C0 dX8_word_32 rfl ?_
              refine x_iconst (v := 1) 34 C0 dX8_word_33 rfl (by decide) ?_
              refine x_iand 35 C0 dX8_word_34 rfl ?_
              refine x_if_eq 97 38 C0 dX8_word_35 rfl (by decide) (fun c10 => ?_) (fun c10 => ?_)
              · refine x_iinc [(7, .int (nI (ij + 1))), (0, .ref (g.2 0 + 258)), (1, .int (nI a)), (2, .int (nI b)), (3, .int my), (4, .int (nI i)), (5, .int go), (6, .int wo)] 7 100 C0 dX8_word_97 rfl rfl (nI_1 ij) (by decide) rfl ?_
                refine x_lv (lv1 := [(0, .ref (g.2 0 + 258)), (1, .int (nI a)), (2, .int (nI b)), (3, .int my), (4, .int (nI i)), (5, .int go), (6, .int wo), (7, .int (nI (ij + 1)))]) [1, 2, 3, 4, 5, 6, 7, 0] rfl ?_
                refine x_goto 23 C0 dX8_word_100 (by decide) ?_
                exact x_lv [0, 1, 2, 3, 4, 5, 6, 7] rfl (ihj (ij + 1) _ _ (by omega) (by omega) hVj)
              · refine x_aload_n 0 39 C0 dX8_word_38 rfl rfl rfl ?_
                refine x_getf (v := .ref (g.2 0 + 258 + 8)) 16 42 C0 dX8_word_39 rfl MR_MW.o rfl (by decide) inX8 mF_X8_31 rfl ?_
                refine x_bipush (v := 7) 44 C0 dX8_word_42 rfl (by decide) ?_
                refine x_iload 7 46 C0 dX8_word_44 rfl rfl ?_
                refine x_imul 47 C0 dX8_word_46 rfl ?_
                refine x_st (st1 := [.int (nI (7 * ij)), .ref (g.2 0 + 258 + 8)]) (congrArg (fun z => Value.int z :: _) (nI_mulN 7 ij)) ?_
                refine x_iload 4 49 C0 dX8_word_47 rfl rfl ?_
                refine x_iadd 50 C0 dX8_word_49 rfl ?_
                refine x_st (st1 := [.int (nI (7 * ij + i)), .ref (g.2 0 + 258 + 8)]) (congrArg (fun z => Value.int z :: _) (nI_add (7 * ij) i)) ?_
                refine x_iald 0 51 C0 dX8_word_50 rfl MR_MW.r_sg rfl (vp_in_nI (n := 7 * ij + i) (by omega) (by decide)) ?_
                refine x_st (st1 := [.int (sg (7 * ij + i))]) (congrArg (fun z => Value.int z :: _) (show sg (nI (7 * ij + i)).toNatClampNeg = sg (7 * ij + i) from by rw [nI_clamp (by omega)])) ?_
                refine x_aload_n 0 52 C0 dX8_word_51 rfl rfl rfl ?_
                refine x_callV 55 C0 (k_X8_sign l hl g _ _ n tl vl bfl svl pal lbl ipl tdl sg MR_MW hJl hv (by omega) htv) dX8_word_52 rfl mC_X8_sign mM_X8_201 mI_X8_sign mV_X8_sign mN_X8 yd_X8_sign rfl rfl ⟨Nat.le_of_ble_eq_true rfl, Nat.le_of_ble_eq_true rfl⟩ MR_MW.o rfl rfl rfl rfl (Nat.le_of_ble_eq_true rfl) ⟨Nat.le_of_ble_eq_true rfl, Nat.le_of_ble_eq_true rfl⟩ (fun _ _ _ q => False.elim q) (fun r w1 sz1 hz hP => ?_)
                obtain ⟨⟨z11, rfl, hz11⟩, rfl, rfl⟩ := hP
                refine x_st (st1 := [.int z11, .int (sg (7 * ij + i))]) rfl ?_
                refine x_icmp_eq 61 58 C0 dX8_word_55 rfl (by decide) (fun c12 => ?_) (fun c12 => ?_)
                · have hlt : hv < n := hz11.resolve_left (fun e => sgM_ne (7 * ij + i) (by omega) (by rw [← hJl.2.2.2.2.2.2.2.2 _ (by omega), c12]; exact e))
                  refine x_iload 5 63 C0 dX8_word_61 rfl rfl ?_
                  refine x_iconst (v := 1) 64 C0 dX8_word_63 rfl (by decide) ?_
                  refine x_iload 7 66 C0 dX8_word_64 rfl rfl ?_
                  refine x_ishl 67 C0 dX8_word_66 rfl ?_
                  refine x_ior 68 C0 dX8_word_67 rfl ?_
                  refine x_istore [(5, .int (go ||| (1 <<< ((nI ij) &&& 31)))), (0, .ref (g.2 0 + 258)), (1, .int (nI a)), (2, .int (nI b)), (3, .int my), (4, .int (nI i)), (6, .int wo), (7, .int (nI ij))] 70 C0 dX8_word_68 rfl (by decide) rfl ?_
                  refine x_lv (lv1 := [(0, .ref (g.2 0 + 258)), (1, .int (nI a)), (2, .int (nI b)), (3, .int my), (4, .int (nI i)), (5, .int (go ||| (1 <<< ((nI ij) &&& 31)))), (6, .int wo), (7, .int (nI ij))]) [1, 2, 3, 4, 5, 0, 6, 7] rfl ?_
                  refine x_aload_n 0 71 C0 dX8_word_70 rfl rfl rfl ?_
                  refine x_getf (v := .ref (g.2 0 + 258 + 8)) 16 74 C0 dX8_word_71 rfl MR_MW.o rfl (by decide) inX8 mF_X8_31 rfl ?_
                  refine x_bipush (v := 7) 76 C0 dX8_word_74 rfl (by decide) ?_
                  refine x_iload 7 78 C0 dX8_word_76 rfl rfl ?_
                  refine x_imul 79 C0 dX8_word_78 rfl ?_
                  refine x_st (st1 := [.int (nI (7 * ij)), .ref (g.2 0 + 258 + 8)]) (congrArg (fun z => Value.int z :: _) (nI_mulN 7 ij)) ?_
                  refine x_iload 4 81 C0 dX8_word_79 rfl rfl ?_
                  refine x_iadd 82 C0 dX8_word_81 rfl ?_
                  refine x_st (st1 := [.int (nI (7 * ij + i)), .ref (g.2 0 + 258 + 8)]) (congrArg (fun z => Value.int z :: _) (nI_add (7 * ij) i)) ?_
                  refine x_iconst (v := 1) 83 C0 dX8_word_82 rfl (by decide) ?_
                  refine x_iadd 84 C0 dX8_word_83 rfl ?_
                  refine x_st (st1 := [.int (nI (7 * ij + i + 1)), .ref (g.2 0 + 258 + 8)]) (congrArg (fun z => Value.int z :: _) (nI_add (7 * ij + i) 1)) ?_
                  refine x_iald 0 85 C0 dX8_word_84 rfl MR_MW.r_sg rfl (vp_in_nI (n := 7 * ij + i + 1) (by omega) (by decide)) ?_
                  refine x_st (st1 := [.int (sg (7 * ij + i + 1))]) (congrArg (fun z => Value.int z :: _) (show sg (nI (7 * ij + i + 1)).toNatClampNeg = sg (7 * ij + i + 1) from by rw [nI_clamp (by omega)])) ?_
                  refine x_if_ne 93 88 C0 dX8_word_85 rfl (by decide) (fun c13 => ?_) (fun c13 => ?_)
                  · refine x_iload 6 95 C0 dX8_word_93 rfl rfl ?_
                    refine x_istore [(6, .int wo), (0, .ref (g.2 0 + 258)), (1, .int (nI a)), (2, .int (nI b)), (3, .int my), (4, .int (nI i)), (5, .int (go ||| (1 <<< ((nI ij) &&& 31)))), (7, .int (nI ij))] 97 C0 dX8_word_95 rfl (by decide) rfl ?_
                    refine x_lv (lv1 := [(0, .ref (g.2 0 + 258)), (1, .int (nI a)), (2, .int (nI b)), (3, .int my), (4, .int (nI i)), (5, .int (go ||| (1 <<< ((nI ij) &&& 31)))), (6, .int wo), (7, .int (nI ij))]) [1, 2, 3, 4, 5, 6, 0, 7] rfl ?_
                    refine x_iinc [(7, .int (nI (ij + 1))), (0, .ref (g.2 0 + 258)), (1, .int (nI a)), (2, .int (nI b)), (3, .int my), (4, .int (nI i)), (5, .int (go ||| (1 <<< ((nI ij) &&& 31)))), (6, .int wo)] 7 100 C0 dX8_word_97 rfl rfl (nI_1 ij) (by decide) rfl ?_
                    refine x_lv (lv1 := [(0, .ref (g.2 0 + 258)), (1, .int (nI a)), (2, .int (nI b)), (3, .int my), (4, .int (nI i)), (5, .int (go ||| (1 <<< ((nI ij) &&& 31)))), (6, .int wo), (7, .int (nI (ij + 1)))]) [1, 2, 3, 4, 5, 6, 7, 0] rfl ?_
                    refine x_goto 23 C0 dX8_word_100 (by decide) ?_
                    exact x_lv [0, 1, 2, 3, 4, 5, 6, 7] rfl (ihj (ij + 1) _ _ (by omega) (by omega) (Or.inr hlt))
                  · refine x_iload 7 90 C0 dX8_word_88 rfl rfl ?_
                    refine x_goto 95 C0 dX8_word_90 (by decide) ?_
                    refine x_istore [(6, .int (nI ij)), (0, .ref (g.2 0 + 258)), (1, .int (nI a)), (2, .int (nI b)), (3, .int my), (4, .int (nI i)), (5, .int (go ||| (1 <<< ((nI ij) &&& 31)))), (7, .int (nI ij))] 97 C0 dX8_word_95 rfl (by decide) rfl ?_
                    refine x_lv (lv1 := [(0, .ref (g.2 0 + 258)), (1, .int (nI a)), (2, .int (nI b)), (3, .int my), (4, .int (nI i)), (5, .int (go ||| (1 <<< ((nI ij) &&& 31)))), (6, .int (nI ij)), (7, .int (nI ij))]) [1, 2, 3, 4, 5, 6, 0, 7] rfl ?_
                    refine x_iinc [(7, .int (nI (ij + 1))), (0, .ref (g.2 0 + 258)), (1, .int (nI a)), (2, .int (nI b)), (3, .int my), (4, .int (nI i)), (5, .int (go ||| (1 <<< ((nI ij) &&& 31)))), (6, .int (nI ij))] 7 100 C0 dX8_word_97 rfl rfl (nI_1 ij) (by decide) rfl ?_
                    refine x_lv (lv1 := [(0, .ref (g.2 0 + 258)), (1, .int (nI a)), (2, .int (nI b)), (3, .int my), (4, .int (nI i)), (5, .int (go ||| (1 <<< ((nI ij) &&& 31)))), (6, .int (nI ij)), (7, .int (nI (ij + 1)))]) [1, 2, 3, 4, 5, 6, 7, 0] rfl ?_
                    refine x_goto 23 C0 dX8_word_100 (by decide) ?_
                    exact x_lv [0, 1, 2, 3, 4, 5, 6, 7] rfl (ihj (ij + 1) _ _ (by omega) (by omega) (Or.inr hlt))
                · refine x_goto 97 C0 dX8_word_58 (by decide) ?_
                  refine x_iinc [(7, .int (nI (ij + 1))), (0, .ref (g.2 0 + 258)), (1, .int (nI a)), (2, .int (nI b)), (3, .int my), (4, .int (nI i)), (5, .int go), (6, .int wo)] 7 100 C0 dX8_word_97 rfl rfl (nI_1 ij) (by decide) rfl ?_
                  refine x_lv (lv1 := [(0, .ref (g.2 0 + 258)), (1, .int (nI a)), (2, .int (nI b)), (3, .int my), (4, .int (nI i)), (5, .int go), (6, .int wo), (7, .int (nI (ij + 1)))]) [1, 2, 3, 4, 5, 6, 7, 0] rfl ?_
                  refine x_goto 23 C0 dX8_word_100 (by decide) ?_
                  exact x_lv [0, 1, 2, 3, 4, 5, 6, 7] rfl (ihj (ij + 1) _ _ (by omega) (by omega) hVj)
        exact x_lv [0, 1, 2, 3, 4, 5, 6, 7] rfl (loop23 ((b + 1) + 1) a _ _ (by omega) (by omega) (Or.inl rfl))
  exact x_lv [0, 1, 2, 3, 4] rfl (loop7 (6 + 1) 0 _ _ _ _ _ _ _ _ _ (by omega) (by omega) hJ ⟨h0, by omega, ht0, by omega⟩)

set_option maxHeartbeats 4000000 in
set_option maxRecDepth 100000 in
theorem k_X8_number (l : Launch) (hl : l.stackTraces = false) (g : xg_T) (w : xw_T) (sz n : Nat) (t v bf sv pa lb ip td sg : Nat → Int32) (hM : MR g w t v bf sv pa lb ip td sg) (hJ : MJ n t v bf sv pa sg) (h0 : Nat) (hh0 : h0 ≤ 60) (ht0 : t 10 = nI h0) (mo : Nat) (hmo : mo ≤ 2) : xM l g yX8_number cX8_number 4 (some .int) ({ frames := 1, cells := 0, slots := 0, locals := 22 }) 0 0 [.ref (g.2 0 + 258), .int (nI mo)] w sz (mP g w sz n sg (mG n h0)) (fun _ _ _ => False) := by
  have hn60 := hJ.2.2.2.2.2.2.1
  refine xM.of RX8 hl (by decide +kernel) rfl (Nat.le_of_ble_eq_true rfl) rfl ?_
  intro p e s m args below meth cD C0 hini
  refine x_aload_n 0 1 C0 dX8_number_0 rfl rfl rfl ?_
  refine x_getf (v := .int (t 11)) 19 4 C0 dX8_number_1 rfl hM.o rfl (by decide) inX8 mF_X8_204 rfl ?_
  refine x_if_eq 9 7 C0 dX8_number_4 rfl (by decide) (fun c1 => ?_) (fun c1 => ?_)
  · refine x_aload_n 0 10 C0 dX8_number_9 rfl rfl rfl ?_
    refine x_aload_n 0 11 C0 dX8_number_10 rfl rfl rfl ?_
    refine x_callV 14 C0 (k_X8_sign l hl g _ _ n t v bf sv pa lb ip td sg hM hJ h0 (by omega) ht0) dX8_number_11 rfl mC_X8_sign mM_X8_201 mI_X8_sign mV_X8_sign mN_X8 yd_X8_sign rfl rfl ⟨Nat.le_of_ble_eq_true rfl, Nat.le_of_ble_eq_true rfl⟩ hM.o rfl rfl rfl rfl (Nat.le_of_ble_eq_true rfl) ⟨Nat.le_of_ble_eq_true rfl, Nat.le_of_ble_eq_true rfl⟩ (fun _ _ _ q => False.elim q) (fun r w1 sz1 hz hP => ?_)
    obtain ⟨⟨z2, rfl, hz2⟩, rfl, rfl⟩ := hP
    refine x_st (st1 := [.int z2, .ref (g.2 0 + 258)]) rfl ?_
    refine x_bipush (v := 48) 16 C0 dX8_number_14 rfl (by decide) ?_
    refine x_bipush (v := 57) 18 C0 dX8_number_16 rfl (by decide) ?_
    refine x_callS 21 C0 (k_X8_isIn l hl g _ _ z2 48 57) dX8_number_18 rfl mC_X8_isIn mM_X8_67 mS_X8_isIn mN_X8 yd_X8_isIn rfl rfl ⟨Nat.le_of_ble_eq_true rfl, Nat.le_of_ble_eq_true rfl⟩ rfl rfl (Nat.le_of_ble_eq_true rfl) ⟨Nat.le_of_ble_eq_true rfl, Nat.le_of_ble_eq_true rfl⟩ (fun _ _ _ q => False.elim q) (fun r w1 sz1 hz hP => ?_)
    obtain ⟨hr, rfl, rfl⟩ := hP
    rcases hr with ⟨rfl, ha3, hb3⟩ | ⟨rfl, hx3⟩
    · refine x_st (st1 := [.int 1, .ref (g.2 0 + 258)]) rfl ?_
      refine x_if_ne 28 24 C0 dX8_number_21 rfl (by decide) (fun _ => ?_) (fun q => False.elim (by revert q; decide))
      refine x_iconst (v := 0) 29 C0 dX8_number_28 rfl (by decide) ?_
      refine x_w (MW_self hM) ?_
      refine x_putf 19 32 C0 dX8_number_29 rfl MR_MW.o (by show g.2 0 ≤ _; omega) rfl (by decide) inX8 tyX8_ok nmX8 mF_X8_204 rfl rfl rfl rfl (Nat.le_of_ble_eq_true rfl) ?_
      refine x_w (w1 := (MW g w (upd t 11 0) v bf sv pa lb ip td sg)) (MW_o rfl) ?_
      have hJ5 : MJ n (upd t 11 0) v bf sv pa sg := hJ.j_t (by decide)
      refine x_iconst (v := 0) 33 C0 dX8_number_32 rfl (by decide) ?_
      refine x_istore_n [(2, .int 0), (0, .ref (g.2 0 + 258)), (1, .int (nI mo))] 34 C0 dX8_number_33 rfl rfl (by decide) rfl ?_
      refine x_lv (lv1 := [(0, .ref (g.2 0 + 258)), (1, .int (nI mo)), (2, .int 0)]) [1, 2, 0] rfl ?_
      refine x_iconst (v := 0) 35 C0 dX8_number_34 rfl (by decide) ?_
      refine x_istore_n [(3, .int 0), (0, .ref (g.2 0 + 258)), (1, .int (nI mo)), (2, .int 0)] 36 C0 dX8_number_35 rfl rfl (by decide) rfl ?_
      refine x_lv (lv1 := [(0, .ref (g.2 0 + 258)), (1, .int (nI mo)), (2, .int 0), (3, .int 0)]) [1, 2, 3, 0] rfl ?_
      have loop36 : ∀ (N i : Nat) (tl vl bfl svl pal lbl ipl tdl : Nat → Int32) (nn : Int32), i ≤ mo → mo - i < N → MJ n tl vl bfl svl pal sg → (∃ hv : Nat, hv ≤ 60 ∧ tl 10 = nI hv ∧ h0 ≤ hv) → xV p l e ({ frames := 1, cells := 0, slots := 0, locals := 22 }) s m args below meth cD (xQ g below (mP g w sz n sg (mG n h0)) (fun _ _ _ => False) args s 0 0) g 4 (MW g w tl vl bfl svl pal lbl ipl tdl sg) sz (0 + 0 + 0) (0 + 0 + 0) 36 [(0, .ref (g.2 0 + 258)), (1, .int (nI mo)), (2, .int nn), (3, .int (nI i))] [] := by
        intro N
        induction N with
        | zero => intro i tl vl bfl svl pal lbl ipl tdl nn h1 h2; omega
        | succ N ih =>
          intro i tl vl bfl svl pal lbl ipl tdl nn hi hN hJl hV
          obtain ⟨hv, hhv, htv, hgv⟩ := hV
          refine x_iload_n 3 37 C0 dX8_number_36 rfl rfl rfl ?_
          refine x_iload_n 1 38 C0 dX8_number_37 rfl rfl rfl ?_
          refine x_icmp_ge 91 41 C0 dX8_number_38 rfl (by decide) (fun c6 => ?_) (fun c6 => ?_)
          · refine x_iload_n 2 92 C0 dX8_number_91 rfl rfl rfl ?_
            exact x_ireturn C0 dX8_number_92 rfl rfl (Nat.le_of_ble_eq_true rfl) (Nat.le_of_ble_eq_true rfl) ⟨rfl, _, _, _, _, _, _, _, _, rfl, hJl, ⟨⟨_, rfl⟩, hv, by omega, htv, by omega⟩⟩
          · have hi2 : i < mo := Nat.lt_of_not_le (fun z => c6 (nI_le (a := mo) z (by omega)))
            refine x_aload_n 0 42 C0 dX8_number_41 rfl rfl rfl ?_
            refine x_getf (v := .int (tl 11)) 19 45 C0 dX8_number_42 rfl MR_MW.o rfl (by decide) inX8 mF_X8_204 rfl ?_
            refine x_if_ne 91 48 C0 dX8_number_45 rfl (by decide) (fun c7 => ?_) (fun c7 => ?_)
            · refine x_iload_n 2 92 C0 dX8_number_91 rfl rfl rfl ?_
              exact x_ireturn C0 dX8_number_92 rfl rfl (Nat.le_of_ble_eq_true rfl) (Nat.le_of_ble_eq_true rfl) ⟨rfl, _, _, _, _, _, _, _, _, rfl, hJl, ⟨⟨_, rfl⟩, hv, by omega, htv, by omega⟩⟩
            · refine x_aload_n 0 49 C0 dX8_number_48 rfl rfl rfl ?_
              refine x_callV 52 C0 (k_X8_sign l hl g _ _ n tl vl bfl svl pal lbl ipl tdl sg MR_MW hJl hv (by omega) htv) dX8_number_49 rfl mC_X8_sign mM_X8_201 mI_X8_sign mV_X8_sign mN_X8 yd_X8_sign rfl rfl ⟨Nat.le_of_ble_eq_true rfl, Nat.le_of_ble_eq_true rfl⟩ MR_MW.o rfl rfl rfl rfl (Nat.le_of_ble_eq_true rfl) ⟨Nat.le_of_ble_eq_true rfl, Nat.le_of_ble_eq_true rfl⟩ (fun _ _ _ q => False.elim q) (fun r w1 sz1 hz hP => ?_)
              obtain ⟨⟨z8, rfl, hz8⟩, rfl, rfl⟩ := hP
              refine x_st (st1 := [.int z8]) rfl ?_
              refine x_bipush (v := 48) 54 C0 dX8_number_52 rfl (by decide) ?_
              refine x_bipush (v := 57) 56 C0 dX8_number_54 rfl (by decide) ?_
              refine x_callS 59 C0 (k_X8_isIn l hl g _ _ z8 48 57) dX8_number_56 rfl mC_X8_isIn mM_X8_67 mS_X8_isIn mN_X8 yd_X8_isIn rfl rfl ⟨Nat.le_of_ble_eq_true rfl, Nat.le_of_ble_eq_true rfl⟩ rfl rfl (Nat.le_of_ble_eq_true rfl) ⟨Nat.le_of_ble_eq_true rfl, Nat.le_of_ble_eq_true rfl⟩ (fun _ _ _ q => False.elim q) (fun r w1 sz1 hz hP => ?_)
              obtain ⟨hr, rfl, rfl⟩ := hP
              rcases hr with ⟨rfl, ha9, hb9⟩ | ⟨rfl, hx9⟩
              · refine x_st (st1 := [.int 1]) rfl ?_
                refine x_if_eq 91 62 C0 dX8_number_59 rfl (by decide) (fun q => False.elim (by revert q; decide)) (fun _ => ?_)
                have hlt : hv < n := hz8.resolve_left (fun e => absurd (e ▸ ha9) (by decide))
                refine x_bipush (v := 10) 64 C0 dX8_number_62 rfl (by decide) ?_
                refine x_iload_n 2 65 C0 dX8_number_64 rfl rfl rfl ?_
                refine x_imul 66 C0 dX8_number_65 rfl ?_
                refine x_aload_n 0 67 C0 dX8_number_66 rfl rfl rfl ?_
                refine x_callV 70 C0 (k_X8_sign l hl g _ _ n tl vl bfl svl pal lbl ipl tdl sg MR_MW hJl hv (by omega) htv) dX8_number_67 rfl mC_X8_sign mM_X8_201 mI_X8_sign mV_X8_sign mN_X8 yd_X8_sign rfl rfl ⟨Nat.le_of_ble_eq_true rfl, Nat.le_of_ble_eq_true rfl⟩ MR_MW.o rfl rfl rfl rfl (Nat.le_of_ble_eq_true rfl) ⟨Nat.le_of_ble_eq_true rfl, Nat.le_of_ble_eq_true rfl⟩ (fun _ _ _ q => False.elim q) (fun r w1 sz1 hz hP => ?_)
                obtain ⟨⟨z11, rfl, hz11⟩, rfl, rfl⟩ := hP
                refine x_st (st1 := [.int z11, .int (10 * nn)]) rfl ?_
                refine x_iadd 71 C0 dX8_number_70 rfl ?_
                refine x_bipush (v := 48) 73 C0 dX8_number_71 rfl (by decide) ?_
                refine x_isub 74 C0 dX8_number_73 rfl ?_
                refine x_istore_n [(2, .int (((10 * nn) + z11) - 48)), (0, .ref (g.2 0 + 258)), (1, .int (nI mo)), (3, .int (nI i))] 75 C0 dX8_number_74 rfl rfl (by decide) rfl ?_
                refine x_lv (lv1 := [(0, .ref (g.2 0 + 258)), (1, .int (nI mo)), (2, .int (((10 * nn) + z11) - 48)), (3, .int (nI i))]) [1, 2, 0, 3] rfl ?_
                refine x_aload_n 0 76 C0 dX8_number_75 rfl rfl rfl ?_
                refine x_dup 77 C0 dX8_number_76 rfl rfl ?_
                refine x_getf (v := .int (tl 10)) 18 80 C0 dX8_number_77 rfl MR_MW.o rfl (by decide) inX8 mF_X8_198 rfl ?_
                refine x_st (st1 := [.int (nI hv), .ref (g.2 0 + 258)]) (congrArg (fun z => Value.int z :: _) (htv)) ?_
                refine x_iconst (v := 1) 81 C0 dX8_number_80 rfl (by decide) ?_
                refine x_iadd 82 C0 dX8_number_81 rfl ?_
                refine x_st (st1 := [.int (nI (hv + 1)), .ref (g.2 0 + 258)]) (congrArg (fun z => Value.int z :: _) (nI_add hv 1)) ?_
                refine x_putf 18 85 C0 dX8_number_82 rfl MR_MW.o (by show g.2 0 ≤ _; omega) rfl (by decide) inX8 tyX8_ok nmX8 mF_X8_198 rfl rfl rfl rfl (Nat.le_of_ble_eq_true rfl) ?_
                refine x_w (w1 := (MW g w (upd tl 10 (nI (hv + 1))) vl bfl svl pal lbl ipl tdl sg)) (MW_o rfl) ?_
                have hJ12 : MJ n (upd tl 10 (nI (hv + 1))) vl bfl svl pal sg := hJl.j_h (m := hv + 1) (by omega) rfl
                refine x_iinc [(3, .int (nI (i + 1))), (0, .ref (g.2 0 + 258)), (1, .int (nI mo)), (2, .int (((10 * nn) + z11) - 48))] 3 88 C0 dX8_number_85 rfl rfl (nI_1 i) (by decide) rfl ?_
                refine x_lv (lv1 := [(0, .ref (g.2 0 + 258)), (1, .int (nI mo)), (2, .int (((10 * nn) + z11) - 48)), (3, .int (nI (i + 1)))]) [1, 2, 3, 0] rfl ?_
                refine x_goto 36 C0 dX8_number_88 (by decide) ?_
                exact x_lv [0, 1, 2, 3] rfl (ih (i + 1) _ _ _ _ _ _ _ _ _ (by omega) (by omega) hJ12 ⟨(hv + 1), by omega, rfl, by omega⟩)
              · refine x_st (st1 := [.int 0]) rfl ?_
                refine x_if_eq 91 62 C0 dX8_number_59 rfl (by decide) (fun _ => ?_) (fun q => False.elim (by revert q; decide))
                refine x_iload_n 2 92 C0 dX8_number_91 rfl rfl rfl ?_
                exact x_ireturn C0 dX8_number_92 rfl rfl (Nat.le_of_ble_eq_true rfl) (Nat.le_of_ble_eq_true rfl) ⟨rfl, _, _, _, _, _, _, _, _, rfl, hJl, ⟨⟨_, rfl⟩, hv, by omega, htv, by omega⟩⟩
      exact x_lv [0, 1, 2, 3] rfl (loop36 (mo + 1) 0 _ _ _ _ _ _ _ _ _ (by omega) (by omega) hJ5 ⟨h0, by omega, ht0, by omega⟩)
    · refine x_st (st1 := [.int 0, .ref (g.2 0 + 258)]) rfl ?_
      refine x_if_ne 28 24 C0 dX8_number_21 rfl (by decide) (fun q => False.elim (by revert q; decide)) (fun _ => ?_)
      refine x_iconst (v := 1) 25 C0 dX8_number_24 rfl (by decide) ?_
      refine x_goto 29 C0 dX8_number_25 (by decide) ?_
      refine x_w (MW_self hM) ?_
      refine x_putf 19 32 C0 dX8_number_29 rfl MR_MW.o (by show g.2 0 ≤ _; omega) rfl (by decide) inX8 tyX8_ok nmX8 mF_X8_204 rfl rfl rfl rfl (Nat.le_of_ble_eq_true rfl) ?_
      refine x_w (w1 := (MW g w (upd t 11 1) v bf sv pa lb ip td sg)) (MW_o rfl) ?_
      have hJ15 : MJ n (upd t 11 1) v bf sv pa sg := hJ.j_t (by decide)
      refine x_iconst (v := 0) 33 C0 dX8_number_32 rfl (by decide) ?_
      refine x_istore_n [(2, .int 0), (0, .ref (g.2 0 + 258)), (1, .int (nI mo))] 34 C0 dX8_number_33 rfl rfl (by decide) rfl ?_
      refine x_lv (lv1 := [(0, .ref (g.2 0 + 258)), (1, .int (nI mo)), (2, .int 0)]) [1, 2, 0] rfl ?_
      refine x_iconst (v := 0) 35 C0 dX8_number_34 rfl (by decide) ?_
      refine x_istore_n [(3, .int 0), (0, .ref (g.2 0 + 258)), (1, .int (nI mo)), (2, .int 0)] 36 C0 dX8_number_35 rfl rfl (by decide) rfl ?_
      refine x_lv (lv1 := [(0, .ref (g.2 0 + 258)), (1, .int (nI mo)), (2, .int 0), (3, .int 0)]) [1, 2, 3, 0] rfl ?_
      have loop36 : ∀ (N i : Nat) (tl vl bfl svl pal lbl ipl tdl : Nat → Int32) (nn : Int32), i ≤ mo → mo - i < N → MJ n tl vl bfl svl pal sg → (∃ hv : Nat, hv ≤ 60 ∧ tl 10 = nI hv ∧ h0 ≤ hv) → xV p l e ({ frames := 1, cells := 0, slots := 0, locals := 22 }) s m args below meth cD (xQ g below (mP g w sz n sg (mG n h0)) (fun _ _ _ => False) args s 0 0) g 4 (MW g w tl vl bfl svl pal lbl ipl tdl sg) sz (0 + 0 + 0) (0 + 0 + 0) 36 [(0, .ref (g.2 0 + 258)), (1, .int (nI mo)), (2, .int nn), (3, .int (nI i))] [] := by
        intro N
        induction N with
        | zero => intro i tl vl bfl svl pal lbl ipl tdl nn h1 h2; omega
        | succ N ih =>
          intro i tl vl bfl svl pal lbl ipl tdl nn hi hN hJl hV
          obtain ⟨hv, hhv, htv, hgv⟩ := hV
          refine x_iload_n 3 37 C0 dX8_number_36 rfl rfl rfl ?_
          refine x_iload_n 1 38 C0 dX8_number_37 rfl rfl rfl ?_
          refine x_icmp_ge 91 41 C0 dX8_number_38 rfl (by decide) (fun c16 => ?_) (fun c16 => ?_)
          · refine x_iload_n 2 92 C0 dX8_number_91 rfl rfl rfl ?_
            exact x_ireturn C0 dX8_number_92 rfl rfl (Nat.le_of_ble_eq_true rfl) (Nat.le_of_ble_eq_true rfl) ⟨rfl, _, _, _, _, _, _, _, _, rfl, hJl, ⟨⟨_, rfl⟩, hv, by omega, htv, by omega⟩⟩
          · have hi2 : i < mo := Nat.lt_of_not_le (fun z => c16 (nI_le (a := mo) z (by omega)))
            refine x_aload_n 0 42 C0 dX8_number_41 rfl rfl rfl ?_
            refine x_getf (v := .int (tl 11)) 19 45 C0 dX8_number_42 rfl MR_MW.o rfl (by decide) inX8 mF_X8_204 rfl ?_
            refine x_if_ne 91 48 C0 dX8_number_45 rfl (by decide) (fun c17 => ?_) (fun c17 => ?_)
            · refine x_iload_n 2 92 C0 dX8_number_91 rfl rfl rfl ?_
              exact x_ireturn C0 dX8_number_92 rfl rfl (Nat.le_of_ble_eq_true rfl) (Nat.le_of_ble_eq_true rfl) ⟨rfl, _, _, _, _, _, _, _, _, rfl, hJl, ⟨⟨_, rfl⟩, hv, by omega, htv, by omega⟩⟩
            · refine x_aload_n 0 49 C0 dX8_number_48 rfl rfl rfl ?_
              refine x_callV 52 C0 (k_X8_sign l hl g _ _ n tl vl bfl svl pal lbl ipl tdl sg MR_MW hJl hv (by omega) htv) dX8_number_49 rfl mC_X8_sign mM_X8_201 mI_X8_sign mV_X8_sign mN_X8 yd_X8_sign rfl rfl ⟨Nat.le_of_ble_eq_true rfl, Nat.le_of_ble_eq_true rfl⟩ MR_MW.o rfl rfl rfl rfl (Nat.le_of_ble_eq_true rfl) ⟨Nat.le_of_ble_eq_true rfl, Nat.le_of_ble_eq_true rfl⟩ (fun _ _ _ q => False.elim q) (fun r w1 sz1 hz hP => ?_)
              obtain ⟨⟨z18, rfl, hz18⟩, rfl, rfl⟩ := hP
              refine x_st (st1 := [.int z18]) rfl ?_
              refine x_bipush (v := 48) 54 C0 dX8_number_52 rfl (by decide) ?_
              refine x_bipush (v := 57) 56 C0 dX8_number_54 rfl (by decide) ?_
              refine x_callS 59 C0 (k_X8_isIn l hl g _ _ z18 48 57) dX8_number_56 rfl mC_X8_isIn mM_X8_67 mS_X8_isIn mN_X8 yd_X8_isIn rfl rfl ⟨Nat.le_of_ble_eq_true rfl, Nat.le_of_ble_eq_true rfl⟩ rfl rfl (Nat.le_of_ble_eq_true rfl) ⟨Nat.le_of_ble_eq_true rfl, Nat.le_of_ble_eq_true rfl⟩ (fun _ _ _ q => False.elim q) (fun r w1 sz1 hz hP => ?_)
              obtain ⟨hr, rfl, rfl⟩ := hP
              rcases hr with ⟨rfl, ha19, hb19⟩ | ⟨rfl, hx19⟩
              · refine x_st (st1 := [.int 1]) rfl ?_
                refine x_if_eq 91 62 C0 dX8_number_59 rfl (by decide) (fun q => False.elim (by revert q; decide)) (fun _ => ?_)
                have hlt : hv < n := hz18.resolve_left (fun e => absurd (e ▸ ha19) (by decide))
                refine x_bipush (v := 10) 64 C0 dX8_number_62 rfl (by decide) ?_
                refine x_iload_n 2 65 C0 dX8_number_64 rfl rfl rfl ?_
                refine x_imul 66 C0 dX8_number_65 rfl ?_
                refine x_aload_n 0 67 C0 dX8_number_66 rfl rfl rfl ?_
                refine x_callV 70 C0 (k_X8_sign l hl g _ _ n tl vl bfl svl pal lbl ipl tdl sg MR_MW hJl hv (by omega) htv) dX8_number_67 rfl mC_X8_sign mM_X8_201 mI_X8_sign mV_X8_sign mN_X8 yd_X8_sign rfl rfl ⟨Nat.le_of_ble_eq_true rfl, Nat.le_of_ble_eq_true rfl⟩ MR_MW.o rfl rfl rfl rfl (Nat.le_of_ble_eq_true rfl) ⟨Nat.le_of_ble_eq_true rfl, Nat.le_of_ble_eq_true rfl⟩ (fun _ _ _ q => False.elim q) (fun r w1 sz1 hz hP => ?_)
                obtain ⟨⟨z21, rfl, hz21⟩, rfl, rfl⟩ := hP
                refine x_st (st1 := [.int z21, .int (10 * nn)]) rfl ?_
                refine x_iadd 71 C0 dX8_number_70 rfl ?_
                refine x_bipush (v := 48) 73 C0 dX8_number_71 rfl (by decide) ?_
                refine x_isub 74 C0 dX8_number_73 rfl ?_
                refine x_istore_n [(2, .int (((10 * nn) + z21) - 48)), (0, .ref (g.2 0 + 258)), (1, .int (nI mo)), (3, .int (nI i))] 75 C0 dX8_number_74 rfl rfl (by decide) rfl ?_
                refine x_lv (lv1 := [(0, .ref (g.2 0 + 258)), (1, .int (nI mo)), (2, .int (((10 * nn) + z21) - 48)), (3, .int (nI i))]) [1, 2, 0, 3] rfl ?_
                refine x_aload_n 0 76 C0 dX8_number_75 rfl rfl rfl ?_
                refine x_dup 77 C0 dX8_number_76 rfl rfl ?_
                refine x_getf (v := .int (tl 10)) 18 80 C0 dX8_number_77 rfl MR_MW.o rfl (by decide) inX8 mF_X8_198 rfl ?_
                refine x_st (st1 := [.int (nI hv), .ref (g.2 0 + 258)]) (congrArg (fun z => Value.int z :: _) (htv)) ?_
                refine x_iconst (v := 1) 81 C0 dX8_number_80 rfl (by decide) ?_
                refine x_iadd 82 C0 dX8_number_81 rfl ?_
                refine x_st (st1 := [.int (nI (hv + 1)), .ref (g.2 0 + 258)]) (congrArg (fun z => Value.int z :: _) (nI_add hv 1)) ?_
                refine x_putf 18 85 C0 dX8_number_82 rfl MR_MW.o (by show g.2 0 ≤ _; omega) rfl (by decide) inX8 tyX8_ok nmX8 mF_X8_198 rfl rfl rfl rfl (Nat.le_of_ble_eq_true rfl) ?_
                refine x_w (w1 := (MW g w (upd tl 10 (nI (hv + 1))) vl bfl svl pal lbl ipl tdl sg)) (MW_o rfl) ?_
                have hJ22 : MJ n (upd tl 10 (nI (hv + 1))) vl bfl svl pal sg := hJl.j_h (m := hv + 1) (by omega) rfl
                refine x_iinc [(3, .int (nI (i + 1))), (0, .ref (g.2 0 + 258)), (1, .int (nI mo)), (2, .int (((10 * nn) + z21) - 48))] 3 88 C0 dX8_number_85 rfl rfl (nI_1 i) (by decide) rfl ?_
                refine x_lv (lv1 := [(0, .ref (g.2 0 + 258)), (1, .int (nI mo)), (2, .int (((10 * nn) + z21) - 48)), (3, .int (nI (i + 1)))]) [1, 2, 3, 0] rfl ?_
                refine x_goto 36 C0 dX8_number_88 (by decide) ?_
                exact x_lv [0, 1, 2, 3] rfl (ih (i + 1) _ _ _ _ _ _ _ _ _ (by omega) (by omega) hJ22 ⟨(hv + 1), by omega, rfl, by omega⟩)
              · refine x_st (st1 := [.int 0]) rfl ?_
                refine x_if_eq 91 62 C0 dX8_number_59 rfl (by decide) (fun _ => ?_) (fun q => False.elim (by revert q; decide))
                refine x_iload_n 2 92 C0 dX8_number_91 rfl rfl rfl ?_
                exact x_ireturn C0 dX8_number_92 rfl rfl (Nat.le_of_ble_eq_true rfl) (Nat.le_of_ble_eq_true rfl) ⟨rfl, _, _, _, _, _, _, _, _, rfl, hJl, ⟨⟨_, rfl⟩, hv, by omega, htv, by omega⟩⟩
      exact x_lv [0, 1, 2, 3] rfl (loop36 (mo + 1) 0 _ _ _ _ _ _ _ _ _ (by omega) (by omega) hJ15 ⟨h0, by omega, ht0, by omega⟩)
  · refine x_iconst (v := 0) 8 C0 dX8_number_7 rfl (by decide) ?_
    exact x_ireturn C0 dX8_number_8 rfl rfl (Nat.le_of_ble_eq_true rfl) (Nat.le_of_ble_eq_true rfl) ⟨rfl, _, _, _, _, _, _, _, _, MW_self hM, hJ, ⟨⟨_, rfl⟩, h0, by omega, ht0, by omega⟩⟩

set_option maxHeartbeats 4000000 in
set_option maxRecDepth 100000 in
theorem k_X8_mark (l : Launch) (hl : l.stackTraces = false) (g : xg_T) (w : xw_T) (sz n : Nat) (t v bf sv pa lb ip td sg : Nat → Int32) (hM : MR g w t v bf sv pa lb ip td sg) (hJ : MJ n t v bf sv pa sg) (h0 : Nat) (hh0 : h0 ≤ 60) (ht0 : t 10 = nI h0) (sn : Int32) (hsn : ¬ sn = -1) : xM l g yX8_mark cX8_mark 2 none ({ frames := 1, cells := 0, slots := 0, locals := 20 }) 0 0 [.ref (g.2 0 + 258), .int sn] w sz (mP g w sz n sg (mM h0)) (fun _ _ _ => False) := by
  have hn60 := hJ.2.2.2.2.2.2.1
  refine xM.of RX8 hl (by decide +kernel) rfl (Nat.le_of_ble_eq_true rfl) rfl ?_
  intro p e s m args below meth cD C0 hini
  refine x_aload_n 0 1 C0 dX8_mark_0 rfl rfl rfl ?_
  refine x_getf (v := .int (t 11)) 19 4 C0 dX8_mark_1 rfl hM.o rfl (by decide) inX8 mF_X8_204 rfl ?_
  refine x_if_eq 8 7 C0 dX8_mark_4 rfl (by decide) (fun c1 => ?_) (fun c1 => ?_)
  · refine x_aload_n 0 9 C0 dX8_mark_8 rfl rfl rfl ?_
    refine x_aload_n 0 10 C0 dX8_mark_9 rfl rfl rfl ?_
    refine x_callV 13 C0 (k_X8_sign l hl g _ _ n t v bf sv pa lb ip td sg hM hJ h0 (by omega) ht0) dX8_mark_10 rfl mC_X8_sign mM_X8_201 mI_X8_sign mV_X8_sign mN_X8 yd_X8_sign rfl rfl ⟨Nat.le_of_ble_eq_true rfl, Nat.le_of_ble_eq_true rfl⟩ hM.o rfl rfl rfl rfl (Nat.le_of_ble_eq_true rfl) ⟨Nat.le_of_ble_eq_true rfl, Nat.le_of_ble_eq_true rfl⟩ (fun _ _ _ q => False.elim q) (fun r w1 sz1 hz hP => ?_)
    obtain ⟨⟨z2, rfl, hz2⟩, rfl, rfl⟩ := hP
    refine x_st (st1 := [.int z2, .ref (g.2 0 + 258)]) rfl ?_
    refine x_iload_n 1 14 C0 dX8_mark_13 rfl rfl rfl ?_
    refine x_icmp_eq 21 17 C0 dX8_mark_14 rfl (by decide) (fun c3 => ?_) (fun c3 => ?_)
    · refine x_iconst (v := 0) 22 C0 dX8_mark_21 rfl (by decide) ?_
      refine x_w (MW_self hM) ?_
      refine x_putf 19 25 C0 dX8_mark_22 rfl MR_MW.o (by show g.2 0 ≤ _; omega) rfl (by decide) inX8 tyX8_ok nmX8 mF_X8_204 rfl rfl rfl rfl (Nat.le_of_ble_eq_true rfl) ?_
      refine x_w (w1 := (MW g w (upd t 11 0) v bf sv pa lb ip td sg)) (MW_o rfl) ?_
      have hJ4 : MJ n (upd t 11 0) v bf sv pa sg := hJ.j_t (by decide)
      refine x_aload_n 0 26 C0 dX8_mark_25 rfl rfl rfl ?_
      refine x_dup 27 C0 dX8_mark_26 rfl rfl ?_
      refine x_getf (v := .int (t 10)) 18 30 C0 dX8_mark_27 rfl MR_MW.o rfl (by decide) inX8 mF_X8_198 rfl ?_
      refine x_st (st1 := [.int (nI h0), .ref (g.2 0 + 258)]) (congrArg (fun z => Value.int z :: _) (ht0)) ?_
      refine x_aload_n 0 31 C0 dX8_mark_30 rfl rfl rfl ?_
      refine x_getf (v := .int 0) 19 34 C0 dX8_mark_31 rfl MR_MW.o rfl (by decide) inX8 mF_X8_204 rfl ?_
      refine x_if_eq 41 37 C0 dX8_mark_34 rfl (by decide) (fun _ => ?_) (fun q => False.elim (by revert q; decide))
      refine x_iconst (v := 1) 42 C0 dX8_mark_41 rfl (by decide) ?_
      refine x_iadd 43 C0 dX8_mark_42 rfl ?_
      refine x_st (st1 := [.int (nI (h0 + 1)), .ref (g.2 0 + 258)]) (congrArg (fun z => Value.int z :: _) (nI_add h0 1)) ?_
      refine x_putf 18 46 C0 dX8_mark_43 rfl MR_MW.o (by show g.2 0 ≤ _; omega) rfl (by decide) inX8 tyX8_ok nmX8 mF_X8_198 rfl rfl rfl rfl (Nat.le_of_ble_eq_true rfl) ?_
      refine x_w (w1 := (MW g w (upd (upd t 11 0) 10 (nI (h0 + 1))) v bf sv pa lb ip td sg)) (MW_o rfl) ?_
      have hlt : h0 < n := hz2.resolve_left (fun e => hsn (by rw [← c3]; exact e))
      have hJ6 : MJ n (upd (upd t 11 0) 10 (nI (h0 + 1))) v bf sv pa sg := hJ4.j_h (m := h0 + 1) (by omega) rfl
      exact x_return C0 dX8_mark_46 rfl (Nat.le_of_ble_eq_true rfl) (Nat.le_of_ble_eq_true rfl) ⟨rfl, _, _, _, _, _, _, _, _, rfl, hJ6, ⟨rfl, h0 + 1, by omega, rfl, by omega, fun _ => by omega⟩⟩
    · refine x_iconst (v := 1) 18 C0 dX8_mark_17 rfl (by decide) ?_
      refine x_goto 22 C0 dX8_mark_18 (by decide) ?_
      refine x_w (MW_self hM) ?_
      refine x_putf 19 25 C0 dX8_mark_22 rfl MR_MW.o (by show g.2 0 ≤ _; omega) rfl (by decide) inX8 tyX8_ok nmX8 mF_X8_204 rfl rfl rfl rfl (Nat.le_of_ble_eq_true rfl) ?_
      refine x_w (w1 := (MW g w (upd t 11 1) v bf sv pa lb ip td sg)) (MW_o rfl) ?_
      have hJ7 : MJ n (upd t 11 1) v bf sv pa sg := hJ.j_t (by decide)
      refine x_aload_n 0 26 C0 dX8_mark_25 rfl rfl rfl ?_
      refine x_dup 27 C0 dX8_mark_26 rfl rfl ?_
      refine x_getf (v := .int (t 10)) 18 30 C0 dX8_mark_27 rfl MR_MW.o rfl (by decide) inX8 mF_X8_198 rfl ?_
      refine x_st (st1 := [.int (nI h0), .ref (g.2 0 + 258)]) (congrArg (fun z => Value.int z :: _) (ht0)) ?_
      refine x_aload_n 0 31 C0 dX8_mark_30 rfl rfl rfl ?_
      refine x_getf (v := .int 1) 19 34 C0 dX8_mark_31 rfl MR_MW.o rfl (by decide) inX8 mF_X8_204 rfl ?_
      refine x_if_eq 41 37 C0 dX8_mark_34 rfl (by decide) (fun q => False.elim (by revert q; decide)) (fun _ => ?_)
      refine x_iconst (v := 0) 38 C0 dX8_mark_37 rfl (by decide) ?_
      refine x_goto 42 C0 dX8_mark_38 (by decide) ?_
      refine x_iadd 43 C0 dX8_mark_42 rfl ?_
      refine x_st (st1 := [.int (nI (h0 + 0)), .ref (g.2 0 + 258)]) (congrArg (fun z => Value.int z :: _) (nI_add h0 0)) ?_
      refine x_putf 18 46 C0 dX8_mark_43 rfl MR_MW.o (by show g.2 0 ≤ _; omega) rfl (by decide) inX8 tyX8_ok nmX8 mF_X8_198 rfl rfl rfl rfl (Nat.le_of_ble_eq_true rfl) ?_
      refine x_w (w1 := (MW g w (upd (upd t 11 1) 10 (nI (h0 + 0))) v bf sv pa lb ip td sg)) (MW_o rfl) ?_
      have hJ9 : MJ n (upd (upd t 11 1) 10 (nI (h0 + 0))) v bf sv pa sg := hJ7.j_h (m := h0 + 0) (by omega) rfl
      exact x_return C0 dX8_mark_46 rfl (Nat.le_of_ble_eq_true rfl) (Nat.le_of_ble_eq_true rfl) ⟨rfl, _, _, _, _, _, _, _, _, rfl, hJ9, ⟨rfl, h0 + 0, by omega, rfl, by omega, fun e => absurd (show (1 : Int32) = 0 from e) (by decide)⟩⟩
  · exact x_return C0 dX8_mark_7 rfl (Nat.le_of_ble_eq_true rfl) (Nat.le_of_ble_eq_true rfl) ⟨rfl, _, _, _, _, _, _, _, _, MW_self hM, hJ, ⟨rfl, h0, by omega, ht0, by omega, fun e => absurd e c1⟩⟩

set_option maxHeartbeats 4000000 in
set_option maxRecDepth 100000 in
theorem k_X8_does (l : Launch) (hl : l.stackTraces = false) (g : xg_T) (w : xw_T) (sz n : Nat) (t v bf sv pa lb ip td sg : Nat → Int32) (hM : MR g w t v bf sv pa lb ip td sg) (hJ : MJ n t v bf sv pa sg) (wd : Int32) : xM l g yX8_does cX8_does 2 (some .int) ({ frames := 4, cells := 0, slots := 0, locals := 92 }) 0 0 [.ref (g.2 0 + 258), .int wd] w sz (mP g w sz n sg (mT t)) (fun _ _ _ => False) := by
  refine xM.of RX8 hl (by decide +kernel) rfl (Nat.le_of_ble_eq_true rfl) rfl ?_
  intro p e s m args below meth cD C0 hini
  refine x_iload_n 1 1 C0 dX8_does_0 rfl rfl rfl ?_
  have hs1 : (wd.toInt < 0 ∨ 6 < wd.toInt) ∨ wd.toInt = 0 ∨ wd.toInt = 1 ∨ wd.toInt = 2 ∨ wd.toInt = 3 ∨ wd.toInt = 4 ∨ wd.toInt = 5 ∨ wd.toInt = 6 := by omega
  rcases hs1 with hs1 | hs1 | hs1 | hs1 | hs1 | hs1 | hs1 | hs1
  · refine x_tabOut 139 C0 dX8_does_1 hs1 (by decide) ?_
    refine x_aload_n 0 140 C0 dX8_does_139 rfl rfl rfl ?_
    refine x_aload_n 0 141 C0 dX8_does_140 rfl rfl rfl ?_
    refine x_getf (v := .ref (g.2 0 + 258 + 7)) 15 144 C0 dX8_does_141 rfl hM.o rfl (by decide) inX8 mF_X8_28 rfl ?_
    refine x_iconst (v := 0) 145 C0 dX8_does_144 rfl (by decide) ?_
    refine x_iald 0 146 C0 dX8_does_145 rfl hM.r_td rfl (vp_in_nI (n := 0) (by decide) (by decide)) ?_
    refine x_st (st1 := [.int (td 0), .ref (g.2 0 + 258)]) (congrArg (fun z => Value.int z :: _) (show td (nI 0).toNatClampNeg = td 0 from by rw [nI_clamp (by omega)])) ?_
    refine x_callV 149 C0 (k_X8_passes l hl g _ _ n t v bf sv pa lb ip td sg hM hJ (td 0) _ rfl) dX8_does_146 rfl mC_X8_passes mM_X8_186 mI_X8_passes mV_X8_passes mN_X8 yd_X8_passes rfl rfl ⟨Nat.le_of_ble_eq_true rfl, Nat.le_of_ble_eq_true rfl⟩ hM.o rfl rfl rfl rfl (Nat.le_of_ble_eq_true rfl) ⟨Nat.le_of_ble_eq_true rfl, Nat.le_of_ble_eq_true rfl⟩ (fun _ _ _ q => False.elim q) (fun r w1 sz1 hz hP => ?_)
    obtain ⟨rfl, t2, v2, lb2, rfl, hJ2, hR2⟩ := hP
    obtain ⟨⟨⟨a2, rfl⟩, he2⟩, hX2⟩ := hR2
    refine x_st (st1 := [.int a2]) rfl ?_
    exact x_ireturn C0 dX8_does_149 rfl rfl (Nat.le_of_ble_eq_true rfl) (Nat.le_of_ble_eq_true rfl) ⟨rfl, _, _, _, _, _, _, _, _, rfl, hJ2, ⟨⟨_, rfl⟩, (he2.trans tK.rf)⟩⟩
  · obtain rfl : wd = 0 := Int32.toInt_inj.mp (hs1.trans rfl)
    refine x_tabIn 44 C0 (x := 0) dX8_does_1 (by decide) (by decide) rfl (by decide) ?_
    refine x_aload_n 0 45 C0 dX8_does_44 rfl rfl rfl ?_
    refine x_aload_n 0 46 C0 dX8_does_45 rfl rfl rfl ?_
    refine x_getf (v := .ref (g.2 0 + 258 + 7)) 15 49 C0 dX8_does_46 rfl hM.o rfl (by decide) inX8 mF_X8_28 rfl ?_
    refine x_iconst (v := 0) 50 C0 dX8_does_49 rfl (by decide) ?_
    refine x_iald 0 51 C0 dX8_does_50 rfl hM.r_td rfl (vp_in_nI (n := 0) (by decide) (by decide)) ?_
    refine x_st (st1 := [.int (td 0), .ref (g.2 0 + 258)]) (congrArg (fun z => Value.int z :: _) (show td (nI 0).toNatClampNeg = td 0 from by rw [nI_clamp (by omega)])) ?_
    refine x_callV 54 C0 (k_X8_linesChest l hl g _ _ n t v bf sv pa lb ip td sg hM hJ (td 0)) dX8_does_51 rfl mC_X8_linesChest mM_X8_115 mI_X8_linesChest mV_X8_linesChest mN_X8 yd_X8_linesChest rfl rfl ⟨Nat.le_of_ble_eq_true rfl, Nat.le_of_ble_eq_true rfl⟩ hM.o rfl rfl rfl rfl (Nat.le_of_ble_eq_true rfl) ⟨Nat.le_of_ble_eq_true rfl, Nat.le_of_ble_eq_true rfl⟩ (fun _ _ _ q => False.elim q) (fun r w1 sz1 hz hP => ?_)
    obtain ⟨rfl, t3, v3, lb3, rfl, hJ3, hR3⟩ := hP
    obtain ⟨⟨⟨a3, rfl⟩, he3⟩, hX3⟩ := hR3
    refine x_st (st1 := [.int a3]) rfl ?_
    exact x_ireturn C0 dX8_does_54 rfl rfl (Nat.le_of_ble_eq_true rfl) (Nat.le_of_ble_eq_true rfl) ⟨rfl, _, _, _, _, _, _, _, _, rfl, hJ3, ⟨⟨_, rfl⟩, (he3.trans tK.rf)⟩⟩
  · obtain rfl : wd = 1 := Int32.toInt_inj.mp (hs1.trans rfl)
    refine x_tabIn 55 C0 (x := 1) dX8_does_1 (by decide) (by decide) rfl (by decide) ?_
    refine x_aload_n 0 56 C0 dX8_does_55 rfl rfl rfl ?_
    refine x_aload_n 0 57 C0 dX8_does_56 rfl rfl rfl ?_
    refine x_getf (v := .ref (g.2 0 + 258 + 7)) 15 60 C0 dX8_does_57 rfl hM.o rfl (by decide) inX8 mF_X8_28 rfl ?_
    refine x_iconst (v := 0) 61 C0 dX8_does_60 rfl (by decide) ?_
    refine x_iald 0 62 C0 dX8_does_61 rfl hM.r_td rfl (vp_in_nI (n := 0) (by decide) (by decide)) ?_
    refine x_st (st1 := [.int (td 0), .ref (g.2 0 + 258)]) (congrArg (fun z => Value.int z :: _) (show td (nI 0).toNatClampNeg = td 0 from by rw [nI_clamp (by omega)])) ?_
    refine x_aload_n 0 63 C0 dX8_does_62 rfl rfl rfl ?_
    refine x_getf (v := .ref (g.2 0 + 258 + 7)) 15 66 C0 dX8_does_63 rfl hM.o rfl (by decide) inX8 mF_X8_28 rfl ?_
    refine x_iconst (v := 1) 67 C0 dX8_does_66 rfl (by decide) ?_
    refine x_iald 0 68 C0 dX8_does_67 rfl hM.r_td rfl (vp_in_nI (n := 1) (by decide) (by decide)) ?_
    refine x_st (st1 := [.int (td 1), .int (td 0), .ref (g.2 0 + 258)]) (congrArg (fun z => Value.int z :: _) (show td (nI 1).toNatClampNeg = td 1 from by rw [nI_clamp (by omega)])) ?_
    refine x_aload_n 0 69 C0 dX8_does_68 rfl rfl rfl ?_
    refine x_getf (v := .ref (g.2 0 + 258 + 7)) 15 72 C0 dX8_does_69 rfl hM.o rfl (by decide) inX8 mF_X8_28 rfl ?_
    refine x_iconst (v := 2) 73 C0 dX8_does_72 rfl (by decide) ?_
    refine x_iald 0 74 C0 dX8_does_73 rfl hM.r_td rfl (vp_in_nI (n := 2) (by decide) (by decide)) ?_
    refine x_st (st1 := [.int (td 2), .int (td 1), .int (td 0), .ref (g.2 0 + 258)]) (congrArg (fun z => Value.int z :: _) (show td (nI 2).toNatClampNeg = td 2 from by rw [nI_clamp (by omega)])) ?_
    refine x_aload_n 0 75 C0 dX8_does_74 rfl rfl rfl ?_
    refine x_getf (v := .ref (g.2 0 + 258 + 7)) 15 78 C0 dX8_does_75 rfl hM.o rfl (by decide) inX8 mF_X8_28 rfl ?_
    refine x_iconst (v := 3) 79 C0 dX8_does_78 rfl (by decide) ?_
    refine x_iald 0 80 C0 dX8_does_79 rfl hM.r_td rfl (vp_in_nI (n := 3) (by decide) (by decide)) ?_
    refine x_st (st1 := [.int (td 3), .int (td 2), .int (td 1), .int (td 0), .ref (g.2 0 + 258)]) (congrArg (fun z => Value.int z :: _) (show td (nI 3).toNatClampNeg = td 3 from by rw [nI_clamp (by omega)])) ?_
    refine x_callV 83 C0 (k_X8_fills l hl g _ _ n t v bf sv pa lb ip td sg hM hJ (td 0) (td 1) (td 2) (td 3)) dX8_does_80 rfl mC_X8_fills mM_X8_121 mI_X8_fills mV_X8_fills mN_X8 yd_X8_fills rfl rfl ⟨Nat.le_of_ble_eq_true rfl, Nat.le_of_ble_eq_true rfl⟩ hM.o rfl rfl rfl rfl (Nat.le_of_ble_eq_true rfl) ⟨Nat.le_of_ble_eq_true rfl, Nat.le_of_ble_eq_true rfl⟩ (fun _ _ _ q => False.elim q) (fun r w1 sz1 hz hP => ?_)
    obtain ⟨rfl, t4, v4, lb4, rfl, hJ4, hR4⟩ := hP
    obtain ⟨⟨⟨a4, rfl⟩, he4⟩, hX4⟩ := hR4
    refine x_st (st1 := [.int a4]) rfl ?_
    exact x_ireturn C0 dX8_does_83 rfl rfl (Nat.le_of_ble_eq_true rfl) (Nat.le_of_ble_eq_true rfl) ⟨rfl, _, _, _, _, _, _, _, _, rfl, hJ4, ⟨⟨_, rfl⟩, (he4.trans tK.rf)⟩⟩
  · obtain rfl : wd = 2 := Int32.toInt_inj.mp (hs1.trans rfl)
    refine x_tabIn 84 C0 (x := 2) dX8_does_1 (by decide) (by decide) rfl (by decide) ?_
    refine x_aload_n 0 85 C0 dX8_does_84 rfl rfl rfl ?_
    refine x_aload_n 0 86 C0 dX8_does_85 rfl rfl rfl ?_
    refine x_getf (v := .ref (g.2 0 + 258 + 7)) 15 89 C0 dX8_does_86 rfl hM.o rfl (by decide) inX8 mF_X8_28 rfl ?_
    refine x_iconst (v := 0) 90 C0 dX8_does_89 rfl (by decide) ?_
    refine x_iald 0 91 C0 dX8_does_90 rfl hM.r_td rfl (vp_in_nI (n := 0) (by decide) (by decide)) ?_
    refine x_st (st1 := [.int (td 0), .ref (g.2 0 + 258)]) (congrArg (fun z => Value.int z :: _) (show td (nI 0).toNatClampNeg = td 0 from by rw [nI_clamp (by omega)])) ?_
    refine x_aload_n 0 92 C0 dX8_does_91 rfl rfl rfl ?_
    refine x_getf (v := .ref (g.2 0 + 258 + 7)) 15 95 C0 dX8_does_92 rfl hM.o rfl (by decide) inX8 mF_X8_28 rfl ?_
    refine x_iconst (v := 1) 96 C0 dX8_does_95 rfl (by decide) ?_
    refine x_iald 0 97 C0 dX8_does_96 rfl hM.r_td rfl (vp_in_nI (n := 1) (by decide) (by decide)) ?_
    refine x_st (st1 := [.int (td 1), .int (td 0), .ref (g.2 0 + 258)]) (congrArg (fun z => Value.int z :: _) (show td (nI 1).toNatClampNeg = td 1 from by rw [nI_clamp (by omega)])) ?_
    refine x_callV 100 C0 (k_X8_screws l hl g _ _ n t v bf sv pa lb ip td sg hM hJ (td 0) (td 1)) dX8_does_97 rfl mC_X8_screws mM_X8_130 mI_X8_screws mV_X8_screws mN_X8 yd_X8_screws rfl rfl ⟨Nat.le_of_ble_eq_true rfl, Nat.le_of_ble_eq_true rfl⟩ hM.o rfl rfl rfl rfl (Nat.le_of_ble_eq_true rfl) ⟨Nat.le_of_ble_eq_true rfl, Nat.le_of_ble_eq_true rfl⟩ (fun _ _ _ q => False.elim q) (fun r w1 sz1 hz hP => ?_)
    obtain ⟨rfl, t5, v5, lb5, rfl, hJ5, hR5⟩ := hP
    obtain ⟨⟨⟨a5, rfl⟩, he5⟩, hX5⟩ := hR5
    refine x_st (st1 := [.int a5]) rfl ?_
    exact x_ireturn C0 dX8_does_100 rfl rfl (Nat.le_of_ble_eq_true rfl) (Nat.le_of_ble_eq_true rfl) ⟨rfl, _, _, _, _, _, _, _, _, rfl, hJ5, ⟨⟨_, rfl⟩, (he5.trans tK.rf)⟩⟩
  · obtain rfl : wd = 3 := Int32.toInt_inj.mp (hs1.trans rfl)
    refine x_tabIn 101 C0 (x := 3) dX8_does_1 (by decide) (by decide) rfl (by decide) ?_
    refine x_aload_n 0 102 C0 dX8_does_101 rfl rfl rfl ?_
    refine x_aload_n 0 103 C0 dX8_does_102 rfl rfl rfl ?_
    refine x_getf (v := .ref (g.2 0 + 258 + 7)) 15 106 C0 dX8_does_103 rfl hM.o rfl (by decide) inX8 mF_X8_28 rfl ?_
    refine x_iconst (v := 0) 107 C0 dX8_does_106 rfl (by decide) ?_
    refine x_iald 0 108 C0 dX8_does_107 rfl hM.r_td rfl (vp_in_nI (n := 0) (by decide) (by decide)) ?_
    refine x_st (st1 := [.int (td 0), .ref (g.2 0 + 258)]) (congrArg (fun z => Value.int z :: _) (show td (nI 0).toNatClampNeg = td 0 from by rw [nI_clamp (by omega)])) ?_
    refine x_callV 111 C0 (k_X8_labels l hl g _ _ n t v bf sv pa lb ip td sg hM hJ (td 0)) dX8_does_108 rfl mC_X8_labels mM_X8_146 mI_X8_labels mV_X8_labels mN_X8 yd_X8_labels rfl rfl ⟨Nat.le_of_ble_eq_true rfl, Nat.le_of_ble_eq_true rfl⟩ hM.o rfl rfl rfl rfl (Nat.le_of_ble_eq_true rfl) ⟨Nat.le_of_ble_eq_true rfl, Nat.le_of_ble_eq_true rfl⟩ (fun _ _ _ q => False.elim q) (fun r w1 sz1 hz hP => ?_)
    obtain ⟨rfl, t6, v6, lb6, rfl, hJ6, hR6⟩ := hP
    obtain ⟨⟨⟨a6, rfl⟩, he6⟩, hX6⟩ := hR6
    refine x_st (st1 := [.int a6]) rfl ?_
    exact x_ireturn C0 dX8_does_111 rfl rfl (Nat.le_of_ble_eq_true rfl) (Nat.le_of_ble_eq_true rfl) ⟨rfl, _, _, _, _, _, _, _, _, rfl, hJ6, ⟨⟨_, rfl⟩, (he6.trans tK.rf)⟩⟩
  · obtain rfl : wd = 4 := Int32.toInt_inj.mp (hs1.trans rfl)
    refine x_tabIn 112 C0 (x := 4) dX8_does_1 (by decide) (by decide) rfl (by decide) ?_
    refine x_aload_n 0 113 C0 dX8_does_112 rfl rfl rfl ?_
    refine x_aload_n 0 114 C0 dX8_does_113 rfl rfl rfl ?_
    refine x_getf (v := .ref (g.2 0 + 258 + 7)) 15 117 C0 dX8_does_114 rfl hM.o rfl (by decide) inX8 mF_X8_28 rfl ?_
    refine x_iconst (v := 0) 118 C0 dX8_does_117 rfl (by decide) ?_
    refine x_iald 0 119 C0 dX8_does_118 rfl hM.r_td rfl (vp_in_nI (n := 0) (by decide) (by decide)) ?_
    refine x_st (st1 := [.int (td 0), .ref (g.2 0 + 258)]) (congrArg (fun z => Value.int z :: _) (show td (nI 0).toNatClampNeg = td 0 from by rw [nI_clamp (by omega)])) ?_
    refine x_callV 122 C0 (k_X8_goesOut l hl g _ _ n t v bf sv pa lb ip td sg hM hJ (td 0)) dX8_does_119 rfl mC_X8_goesOut mM_X8_158 mI_X8_goesOut mV_X8_goesOut mN_X8 yd_X8_goesOut rfl rfl ⟨Nat.le_of_ble_eq_true rfl, Nat.le_of_ble_eq_true rfl⟩ hM.o rfl rfl rfl rfl (Nat.le_of_ble_eq_true rfl) ⟨Nat.le_of_ble_eq_true rfl, Nat.le_of_ble_eq_true rfl⟩ (fun _ _ _ q => False.elim q) (fun r w1 sz1 hz hP => ?_)
    obtain ⟨rfl, t7, v7, lb7, rfl, hJ7, hR7⟩ := hP
    obtain ⟨⟨⟨a7, rfl⟩, he7⟩, hX7⟩ := hR7
    refine x_st (st1 := [.int a7]) rfl ?_
    exact x_ireturn C0 dX8_does_122 rfl rfl (Nat.le_of_ble_eq_true rfl) (Nat.le_of_ble_eq_true rfl) ⟨rfl, _, _, _, _, _, _, _, _, rfl, hJ7, ⟨⟨_, rfl⟩, (he7.trans tK.rf)⟩⟩
  · obtain rfl : wd = 5 := Int32.toInt_inj.mp (hs1.trans rfl)
    refine x_tabIn 123 C0 (x := 5) dX8_does_1 (by decide) (by decide) rfl (by decide) ?_
    refine x_aload_n 0 124 C0 dX8_does_123 rfl rfl rfl ?_
    refine x_aload_n 0 125 C0 dX8_does_124 rfl rfl rfl ?_
    refine x_getf (v := .ref (g.2 0 + 258 + 7)) 15 128 C0 dX8_does_125 rfl hM.o rfl (by decide) inX8 mF_X8_28 rfl ?_
    refine x_iconst (v := 0) 129 C0 dX8_does_128 rfl (by decide) ?_
    refine x_iald 0 130 C0 dX8_does_129 rfl hM.r_td rfl (vp_in_nI (n := 0) (by decide) (by decide)) ?_
    refine x_st (st1 := [.int (td 0), .ref (g.2 0 + 258)]) (congrArg (fun z => Value.int z :: _) (show td (nI 0).toNatClampNeg = td 0 from by rw [nI_clamp (by omega)])) ?_
    refine x_callV 133 C0 (k_X8_loads l hl g _ _ n t v bf sv pa lb ip td sg hM hJ (td 0)) dX8_does_130 rfl mC_X8_loads mM_X8_168 mI_X8_loads mV_X8_loads mN_X8 yd_X8_loads rfl rfl ⟨Nat.le_of_ble_eq_true rfl, Nat.le_of_ble_eq_true rfl⟩ hM.o rfl rfl rfl rfl (Nat.le_of_ble_eq_true rfl) ⟨Nat.le_of_ble_eq_true rfl, Nat.le_of_ble_eq_true rfl⟩ (fun _ _ _ q => False.elim q) (fun r w1 sz1 hz hP => ?_)
    obtain ⟨rfl, t8, v8, lb8, rfl, hJ8, hR8⟩ := hP
    obtain ⟨⟨⟨a8, rfl⟩, he8⟩, hX8⟩ := hR8
    refine x_st (st1 := [.int a8]) rfl ?_
    exact x_ireturn C0 dX8_does_133 rfl rfl (Nat.le_of_ble_eq_true rfl) (Nat.le_of_ble_eq_true rfl) ⟨rfl, _, _, _, _, _, _, _, _, rfl, hJ8, ⟨⟨_, rfl⟩, (he8.trans tK.rf)⟩⟩
  · obtain rfl : wd = 6 := Int32.toInt_inj.mp (hs1.trans rfl)
    refine x_tabIn 134 C0 (x := 6) dX8_does_1 (by decide) (by decide) rfl (by decide) ?_
    refine x_aload_n 0 135 C0 dX8_does_134 rfl rfl rfl ?_
    refine x_callV 138 C0 (k_X8_sails l hl g _ _ n t v bf sv pa lb ip td sg hM hJ) dX8_does_135 rfl mC_X8_sails mM_X8_174 mI_X8_sails mV_X8_sails mN_X8 yd_X8_sails rfl rfl ⟨Nat.le_of_ble_eq_true rfl, Nat.le_of_ble_eq_true rfl⟩ hM.o rfl rfl rfl rfl (Nat.le_of_ble_eq_true rfl) ⟨Nat.le_of_ble_eq_true rfl, Nat.le_of_ble_eq_true rfl⟩ (fun _ _ _ q => False.elim q) (fun r w1 sz1 hz hP => ?_)
    obtain ⟨rfl, t9, v9, lb9, rfl, hJ9, hR9⟩ := hP
    obtain ⟨⟨⟨a9, rfl⟩, he9⟩, hX9⟩ := hR9
    refine x_st (st1 := [.int a9]) rfl ?_
    exact x_ireturn C0 dX8_does_138 rfl rfl (Nat.le_of_ble_eq_true rfl) (Nat.le_of_ble_eq_true rfl) ⟨rfl, _, _, _, _, _, _, _, _, rfl, hJ9, ⟨⟨_, rfl⟩, (he9.trans tK.rf)⟩⟩

set_option maxHeartbeats 4000000 in
set_option maxRecDepth 100000 in
theorem k_X8_command (l : Launch) (hl : l.stackTraces = false) (g : xg_T) (w : xw_T) (sz n : Nat) (t v bf sv pa lb ip td sg : Nat → Int32) (hM : MR g w t v bf sv pa lb ip td sg) (hJ : MJ n t v bf sv pa sg) (h0 : Nat) (hh0 : h0 ≤ 60) (ht0 : t 10 = nI h0) : xM l g yX8_command cX8_command 3 none ({ frames := 5, cells := 0, slots := 0, locals := 113 }) 0 0 [.ref (g.2 0 + 258)] w sz (mP g w sz n sg (mH h0)) (fun _ _ _ => False) := by
  have hn60 := hJ.2.2.2.2.2.2.1
  refine xM.of RX8 hl (by decide +kernel) rfl (Nat.le_of_ble_eq_true rfl) rfl ?_
  intro p e s m args below meth cD C0 hini
  refine x_aload_n 0 1 C0 dX8_command_0 rfl rfl rfl ?_
  refine x_iconst (v := 0) 2 C0 dX8_command_1 rfl (by decide) ?_
  refine x_bipush (v := 7) 4 C0 dX8_command_2 rfl (by decide) ?_
  refine x_callV 7 C0 (k_X8_word l hl g _ _ n t v bf sv pa lb ip td sg hM hJ h0 (by omega) ht0 0 7 (by decide) (by decide)) dX8_command_4 rfl mC_X8_word mM_X8_208 mI_X8_word mV_X8_word mN_X8 yd_X8_word rfl rfl ⟨Nat.le_of_ble_eq_true rfl, Nat.le_of_ble_eq_true rfl⟩ hM.o rfl rfl rfl rfl (Nat.le_of_ble_eq_true rfl) ⟨Nat.le_of_ble_eq_true rfl, Nat.le_of_ble_eq_true rfl⟩ (fun _ _ _ q => False.elim q) (fun r w1 sz1 hz hP => ?_)
  obtain ⟨rfl, t1, v1, bf1, sv1, pa1, lb1, ip1, td1, rfl, hJ1, hR1⟩ := hP
  obtain ⟨⟨a1, rfl⟩, hq1, hhq1, htq1, hgq1⟩ := hR1
  refine x_st (st1 := [.int a1]) rfl ?_
  refine x_istore_n [(1, .int a1), (0, .ref (g.2 0 + 258))] 8 C0 dX8_command_7 rfl rfl (by decide) rfl ?_
  refine x_lv (lv1 := [(0, .ref (g.2 0 + 258)), (1, .int a1)]) [1, 0] rfl ?_
  refine x_aload_n 0 9 C0 dX8_command_8 rfl rfl rfl ?_
  refine x_getf (v := .int (t1 11)) 19 12 C0 dX8_command_9 rfl MR_MW.o rfl (by decide) inX8 mF_X8_204 rfl ?_
  refine x_if_eq 16 15 C0 dX8_command_12 rfl (by decide) (fun c2 => ?_) (fun c2 => ?_)
  · refine x_iload_n 1 17 C0 dX8_command_16 rfl rfl rfl ?_
    refine x_bipush (v := 6) 19 C0 dX8_command_17 rfl (by decide) ?_
    refine x_icmp_eq 33 22 C0 dX8_command_19 rfl (by decide) (fun c3 => ?_) (fun c3 => ?_)
    · refine x_iload_n 1 34 C0 dX8_command_33 rfl rfl rfl ?_
      refine x_iconst (v := 1) 35 C0 dX8_command_34 rfl (by decide) ?_
      refine x_icmp_eq 43 38 C0 dX8_command_35 rfl (by decide) (fun c4 => ?_) (fun c4 => ?_)
      · refine x_aload_n 0 44 C0 dX8_command_43 rfl rfl rfl ?_
        refine x_bipush (v := 32) 46 C0 dX8_command_44 rfl (by decide) ?_
        refine x_callV 49 C0 (k_X8_mark l hl g _ _ n t1 v1 bf1 sv1 pa1 lb1 ip1 td1 sg MR_MW hJ1 hq1 (by omega) htq1 32 (by decide)) dX8_command_46 rfl mC_X8_mark mM_X8_214 mI_X8_mark mV_X8_mark mN_X8 yd_X8_mark rfl rfl ⟨Nat.le_of_ble_eq_true rfl, Nat.le_of_ble_eq_true rfl⟩ MR_MW.o rfl rfl rfl rfl (Nat.le_of_ble_eq_true rfl) ⟨Nat.le_of_ble_eq_true rfl, Nat.le_of_ble_eq_true rfl⟩ (fun _ _ _ q => False.elim q) (fun r w1 sz1 hz hP => ?_)
        obtain ⟨rfl, t5, v5, bf5, sv5, pa5, lb5, ip5, td5, rfl, hJ5, hR5⟩ := hP
        refine x_w MW_MW ?_
        obtain ⟨rfl, hq5, hhq5, htq5, hgq5, hwq5⟩ := hR5
        refine x_st (st1 := []) rfl ?_
        refine x_aload_n 0 50 C0 dX8_command_49 rfl rfl rfl ?_
        refine x_getf (v := .ref (g.2 0 + 258 + 7)) 15 53 C0 dX8_command_50 rfl MR_MW.o rfl (by decide) inX8 mF_X8_28 rfl ?_
        refine x_iconst (v := 1) 54 C0 dX8_command_53 rfl (by decide) ?_
        refine x_aload_n 0 55 C0 dX8_command_54 rfl rfl rfl ?_
        refine x_iconst (v := 1) 56 C0 dX8_command_55 rfl (by decide) ?_
        refine x_callV 59 C0 (k_X8_number l hl g _ _ n t5 v5 bf5 sv5 pa5 lb5 ip5 td5 sg MR_MW hJ5 hq5 (by omega) htq5 1 (by decide)) dX8_command_56 rfl mC_X8_number mM_X8_211 mI_X8_number mV_X8_number mN_X8 yd_X8_number rfl rfl ⟨Nat.le_of_ble_eq_true rfl, Nat.le_of_ble_eq_true rfl⟩ MR_MW.o rfl rfl rfl rfl (Nat.le_of_ble_eq_true rfl) ⟨Nat.le_of_ble_eq_true rfl, Nat.le_of_ble_eq_true rfl⟩ (fun _ _ _ q => False.elim q) (fun r w1 sz1 hz hP => ?_)
        obtain ⟨rfl, t6, v6, bf6, sv6, pa6, lb6, ip6, td6, rfl, hJ6, hR6⟩ := hP
        refine x_w MW_MW ?_
        obtain ⟨⟨a6, rfl⟩, hq6, hhq6, htq6, hgq6⟩ := hR6
        refine x_st (st1 := [.int a6, .int 1, .ref (g.2 0 + 258 + 7)]) rfl ?_
        refine x_iast 0 60 C0 dX8_command_59 rfl MR_MW.r_td (by show g.2 0 ≤ _; omega) rfl (vp_in_nI (n := 1) (by omega) (by decide)) ?_
        refine x_w (w1 := (MW g w t6 v6 bf6 sv6 pa6 lb6 ip6 (upd td6 1 a6) sg)) (by rw [show (1 : Int32).toNatClampNeg = 1 from nI_clamp (n := 1) (by omega)]; exact MW_td) ?_
        refine x_iload_n 1 61 C0 dX8_command_60 rfl rfl rfl ?_
        refine x_iconst (v := 1) 62 C0 dX8_command_61 rfl (by decide) ?_
        refine x_icmp_ne 112 65 C0 dX8_command_62 rfl (by decide) (fun c8 => ?_) (fun c8 => ?_)
        · refine x_aload_n 0 113 C0 dX8_command_112 rfl rfl rfl ?_
          refine x_getf (v := .int (t6 11)) 19 116 C0 dX8_command_113 rfl MR_MW.o rfl (by decide) inX8 mF_X8_204 rfl ?_
          refine x_if_ne 126 119 C0 dX8_command_116 rfl (by decide) (fun c9 => ?_) (fun c9 => ?_)
          · exact x_return C0 dX8_command_126 rfl (Nat.le_of_ble_eq_true rfl) (Nat.le_of_ble_eq_true rfl) ⟨rfl, _, _, _, _, _, _, _, _, rfl, hJ6, ⟨rfl, hq6, by omega, htq6, by omega⟩⟩
          · refine x_aload_n 0 120 C0 dX8_command_119 rfl rfl rfl ?_
            refine x_getf (v := .int (t6 12)) 20 123 C0 dX8_command_120 rfl MR_MW.o rfl (by decide) inX8 mF_X8_217 rfl ?_
            refine x_if_ne 127 126 C0 dX8_command_123 rfl (by decide) (fun c10 => ?_) (fun c10 => ?_)
            · refine x_aload_n 0 128 C0 dX8_command_127 rfl rfl rfl ?_
              refine x_iload_n 1 129 C0 dX8_command_128 rfl rfl rfl ?_
              refine x_callV 132 C0 (k_X8_does l hl g _ _ n t6 v6 bf6 sv6 pa6 lb6 ip6 (upd td6 1 a6) sg MR_MW hJ6 a1) dX8_command_129 rfl mC_X8_does mM_X8_220 mI_X8_does mV_X8_does mN_X8 yd_X8_does rfl rfl ⟨Nat.le_of_ble_eq_true rfl, Nat.le_of_ble_eq_true rfl⟩ MR_MW.o rfl rfl rfl rfl (Nat.le_of_ble_eq_true rfl) ⟨Nat.le_of_ble_eq_true rfl, Nat.le_of_ble_eq_true rfl⟩ (fun _ _ _ q => False.elim q) (fun r w1 sz1 hz hP => ?_)
              obtain ⟨rfl, t11, v11, bf11, sv11, pa11, lb11, ip11, td11, rfl, hJ11, hR11⟩ := hP
              refine x_w MW_MW ?_
              obtain ⟨⟨a11, rfl⟩, he11⟩ := hR11
              have htq11 := (he11 10 (by decide)).trans htq6
              refine x_st (st1 := [.int a11]) rfl ?_
              refine x_istore_n [(2, .int a11), (0, .ref (g.2 0 + 258)), (1, .int a1)] 133 C0 dX8_command_132 rfl rfl (by decide) rfl ?_
              refine x_lv (lv1 := [(0, .ref (g.2 0 + 258)), (1, .int a1), (2, .int a11)]) [1, 2, 0] rfl ?_
              exact x_return C0 dX8_command_133 rfl (Nat.le_of_ble_eq_true rfl) (Nat.le_of_ble_eq_true rfl) ⟨rfl, _, _, _, _, _, _, _, _, rfl, hJ11, ⟨rfl, hq6, by omega, htq11, by omega⟩⟩
            · exact x_return C0 dX8_command_126 rfl (Nat.le_of_ble_eq_true rfl) (Nat.le_of_ble_eq_true rfl) ⟨rfl, _, _, _, _, _, _, _, _, rfl, hJ6, ⟨rfl, hq6, by omega, htq6, by omega⟩⟩
        · refine x_aload_n 0 66 C0 dX8_command_65 rfl rfl rfl ?_
          refine x_bipush (v := 46) 68 C0 dX8_command_66 rfl (by decide) ?_
          refine x_callV 71 C0 (k_X8_mark l hl g _ _ n t6 v6 bf6 sv6 pa6 lb6 ip6 (upd td6 1 a6) sg MR_MW hJ6 hq6 (by omega) htq6 46 (by decide)) dX8_command_68 rfl mC_X8_mark mM_X8_214 mI_X8_mark mV_X8_mark mN_X8 yd_X8_mark rfl rfl ⟨Nat.le_of_ble_eq_true rfl, Nat.le_of_ble_eq_true rfl⟩ MR_MW.o rfl rfl rfl rfl (Nat.le_of_ble_eq_true rfl) ⟨Nat.le_of_ble_eq_true rfl, Nat.le_of_ble_eq_true rfl⟩ (fun _ _ _ q => False.elim q) (fun r w1 sz1 hz hP => ?_)
          obtain ⟨rfl, t12, v12, bf12, sv12, pa12, lb12, ip12, td12, rfl, hJ12, hR12⟩ := hP
          refine x_w MW_MW ?_
          obtain ⟨rfl, hq12, hhq12, htq12, hgq12, hwq12⟩ := hR12
          refine x_st (st1 := []) rfl ?_
          refine x_aload_n 0 72 C0 dX8_command_71 rfl rfl rfl ?_
          refine x_getf (v := .int (t12 11)) 19 75 C0 dX8_command_72 rfl MR_MW.o rfl (by decide) inX8 mF_X8_204 rfl ?_
          refine x_if_ne 95 78 C0 dX8_command_75 rfl (by decide) (fun c13 => ?_) (fun c13 => ?_)
          · refine x_aload_n 0 96 C0 dX8_command_95 rfl rfl rfl ?_
            refine x_bipush (v := 32) 98 C0 dX8_command_96 rfl (by decide) ?_
            refine x_callV 101 C0 (k_X8_mark l hl g _ _ n t12 v12 bf12 sv12 pa12 lb12 ip12 td12 sg MR_MW hJ12 hq12 (by omega) htq12 32 (by decide)) dX8_command_98 rfl mC_X8_mark mM_X8_214 mI_X8_mark mV_X8_mark mN_X8 yd_X8_mark rfl rfl ⟨Nat.le_of_ble_eq_true rfl, Nat.le_of_ble_eq_true rfl⟩ MR_MW.o rfl rfl rfl rfl (Nat.le_of_ble_eq_true rfl) ⟨Nat.le_of_ble_eq_true rfl, Nat.le_of_ble_eq_true rfl⟩ (fun _ _ _ q => False.elim q) (fun r w1 sz1 hz hP => ?_)
            obtain ⟨rfl, t14, v14, bf14, sv14, pa14, lb14, ip14, td14, rfl, hJ14, hR14⟩ := hP
            refine x_w MW_MW ?_
            obtain ⟨rfl, hq14, hhq14, htq14, hgq14, hwq14⟩ := hR14
            refine x_st (st1 := []) rfl ?_
            refine x_aload_n 0 102 C0 dX8_command_101 rfl rfl rfl ?_
            refine x_getf (v := .ref (g.2 0 + 258 + 7)) 15 105 C0 dX8_command_102 rfl MR_MW.o rfl (by decide) inX8 mF_X8_28 rfl ?_
            refine x_iconst (v := 3) 106 C0 dX8_command_105 rfl (by decide) ?_
            refine x_aload_n 0 107 C0 dX8_command_106 rfl rfl rfl ?_
            refine x_iconst (v := 2) 108 C0 dX8_command_107 rfl (by decide) ?_
            refine x_callV 111 C0 (k_X8_number l hl g _ _ n t14 v14 bf14 sv14 pa14 lb14 ip14 td14 sg MR_MW hJ14 hq14 (by omega) htq14 2 (by decide)) dX8_command_108 rfl mC_X8_number mM_X8_211 mI_X8_number mV_X8_number mN_X8 yd_X8_number rfl rfl ⟨Nat.le_of_ble_eq_true rfl, Nat.le_of_ble_eq_true rfl⟩ MR_MW.o rfl rfl rfl rfl (Nat.le_of_ble_eq_true rfl) ⟨Nat.le_of_ble_eq_true rfl, Nat.le_of_ble_eq_true rfl⟩ (fun _ _ _ q => False.elim q) (fun r w1 sz1 hz hP => ?_)
            obtain ⟨rfl, t15, v15, bf15, sv15, pa15, lb15, ip15, td15, rfl, hJ15, hR15⟩ := hP
            refine x_w MW_MW ?_
            obtain ⟨⟨a15, rfl⟩, hq15, hhq15, htq15, hgq15⟩ := hR15
            refine x_st (st1 := [.int a15, .int 3, .ref (g.2 0 + 258 + 7)]) rfl ?_
            refine x_iast 0 112 C0 dX8_command_111 rfl MR_MW.r_td (by show g.2 0 ≤ _; omega) rfl (vp_in_nI (n := 3) (by omega) (by decide)) ?_
            refine x_w (w1 := (MW g w t15 v15 bf15 sv15 pa15 lb15 ip15 (upd td15 3 a15) sg)) (by rw [show (3 : Int32).toNatClampNeg = 3 from nI_clamp (n := 3) (by omega)]; exact MW_td) ?_
            refine x_aload_n 0 113 C0 dX8_command_112 rfl rfl rfl ?_
            refine x_getf (v := .int (t15 11)) 19 116 C0 dX8_command_113 rfl MR_MW.o rfl (by decide) inX8 mF_X8_204 rfl ?_
            refine x_if_ne 126 119 C0 dX8_command_116 rfl (by decide) (fun c17 => ?_) (fun c17 => ?_)
            · exact x_return C0 dX8_command_126 rfl (Nat.le_of_ble_eq_true rfl) (Nat.le_of_ble_eq_true rfl) ⟨rfl, _, _, _, _, _, _, _, _, rfl, hJ15, ⟨rfl, hq15, by omega, htq15, by omega⟩⟩
            · refine x_aload_n 0 120 C0 dX8_command_119 rfl rfl rfl ?_
              refine x_getf (v := .int (t15 12)) 20 123 C0 dX8_command_120 rfl MR_MW.o rfl (by decide) inX8 mF_X8_217 rfl ?_
              refine x_if_ne 127 126 C0 dX8_command_123 rfl (by decide) (fun c18 => ?_) (fun c18 => ?_)
              · refine x_aload_n 0 128 C0 dX8_command_127 rfl rfl rfl ?_
                refine x_iload_n 1 129 C0 dX8_command_128 rfl rfl rfl ?_
                refine x_callV 132 C0 (k_X8_does l hl g _ _ n t15 v15 bf15 sv15 pa15 lb15 ip15 (upd td15 3 a15) sg MR_MW hJ15 a1) dX8_command_129 rfl mC_X8_does mM_X8_220 mI_X8_does mV_X8_does mN_X8 yd_X8_does rfl rfl ⟨Nat.le_of_ble_eq_true rfl, Nat.le_of_ble_eq_true rfl⟩ MR_MW.o rfl rfl rfl rfl (Nat.le_of_ble_eq_true rfl) ⟨Nat.le_of_ble_eq_true rfl, Nat.le_of_ble_eq_true rfl⟩ (fun _ _ _ q => False.elim q) (fun r w1 sz1 hz hP => ?_)
                obtain ⟨rfl, t19, v19, bf19, sv19, pa19, lb19, ip19, td19, rfl, hJ19, hR19⟩ := hP
                refine x_w MW_MW ?_
                obtain ⟨⟨a19, rfl⟩, he19⟩ := hR19
                have htq19 := (he19 10 (by decide)).trans htq15
                refine x_st (st1 := [.int a19]) rfl ?_
                refine x_istore_n [(2, .int a19), (0, .ref (g.2 0 + 258)), (1, .int a1)] 133 C0 dX8_command_132 rfl rfl (by decide) rfl ?_
                refine x_lv (lv1 := [(0, .ref (g.2 0 + 258)), (1, .int a1), (2, .int a19)]) [1, 2, 0] rfl ?_
                exact x_return C0 dX8_command_133 rfl (Nat.le_of_ble_eq_true rfl) (Nat.le_of_ble_eq_true rfl) ⟨rfl, _, _, _, _, _, _, _, _, rfl, hJ19, ⟨rfl, hq15, by omega, htq19, by omega⟩⟩
              · exact x_return C0 dX8_command_126 rfl (Nat.le_of_ble_eq_true rfl) (Nat.le_of_ble_eq_true rfl) ⟨rfl, _, _, _, _, _, _, _, _, rfl, hJ15, ⟨rfl, hq15, by omega, htq15, by omega⟩⟩
          · refine x_aload_n 0 79 C0 dX8_command_78 rfl rfl rfl ?_
            refine x_getf (v := .ref (g.2 0 + 258 + 7)) 15 82 C0 dX8_command_79 rfl MR_MW.o rfl (by decide) inX8 mF_X8_28 rfl ?_
            refine x_iconst (v := 2) 83 C0 dX8_command_82 rfl (by decide) ?_
            refine x_aload_n 0 84 C0 dX8_command_83 rfl rfl rfl ?_
            refine x_bipush (v := 8) 86 C0 dX8_command_84 rfl (by decide) ?_
            refine x_bipush (v := 10) 88 C0 dX8_command_86 rfl (by decide) ?_
            refine x_callV 91 C0 (k_X8_word l hl g _ _ n t12 v12 bf12 sv12 pa12 lb12 ip12 td12 sg MR_MW hJ12 hq12 (by omega) htq12 8 10 (by decide) (by decide)) dX8_command_88 rfl mC_X8_word mM_X8_208 mI_X8_word mV_X8_word mN_X8 yd_X8_word rfl rfl ⟨Nat.le_of_ble_eq_true rfl, Nat.le_of_ble_eq_true rfl⟩ MR_MW.o rfl rfl rfl rfl (Nat.le_of_ble_eq_true rfl) ⟨Nat.le_of_ble_eq_true rfl, Nat.le_of_ble_eq_true rfl⟩ (fun _ _ _ q => False.elim q) (fun r w1 sz1 hz hP => ?_)
            obtain ⟨rfl, t20, v20, bf20, sv20, pa20, lb20, ip20, td20, rfl, hJ20, hR20⟩ := hP
            refine x_w MW_MW ?_
            obtain ⟨⟨a20, rfl⟩, hq20, hhq20, htq20, hgq20⟩ := hR20
            refine x_st (st1 := [.int a20, .int 2, .ref (g.2 0 + 258 + 7)]) rfl ?_
            refine x_bipush (v := 8) 93 C0 dX8_command_91 rfl (by decide) ?_
            refine x_isub 94 C0 dX8_command_93 rfl ?_
            refine x_iast 0 95 C0 dX8_command_94 rfl MR_MW.r_td (by show g.2 0 ≤ _; omega) rfl (vp_in_nI (n := 2) (by omega) (by decide)) ?_
            refine x_w (w1 := (MW g w t20 v20 bf20 sv20 pa20 lb20 ip20 (upd td20 2 (a20 - 8)) sg)) (by rw [show (2 : Int32).toNatClampNeg = 2 from nI_clamp (n := 2) (by omega)]; exact MW_td) ?_
            refine x_aload_n 0 96 C0 dX8_command_95 rfl rfl rfl ?_
            refine x_bipush (v := 32) 98 C0 dX8_command_96 rfl (by decide) ?_
            refine x_callV 101 C0 (k_X8_mark l hl g _ _ n t20 v20 bf20 sv20 pa20 lb20 ip20 (upd td20 2 (a20 - 8)) sg MR_MW hJ20 hq20 (by omega) htq20 32 (by decide)) dX8_command_98 rfl mC_X8_mark mM_X8_214 mI_X8_mark mV_X8_mark mN_X8 yd_X8_mark rfl rfl ⟨Nat.le_of_ble_eq_true rfl, Nat.le_of_ble_eq_true rfl⟩ MR_MW.o rfl rfl rfl rfl (Nat.le_of_ble_eq_true rfl) ⟨Nat.le_of_ble_eq_true rfl, Nat.le_of_ble_eq_true rfl⟩ (fun _ _ _ q => False.elim q) (fun r w1 sz1 hz hP => ?_)
            obtain ⟨rfl, t22, v22, bf22, sv22, pa22, lb22, ip22, td22, rfl, hJ22, hR22⟩ := hP
            refine x_w MW_MW ?_
            obtain ⟨rfl, hq22, hhq22, htq22, hgq22, hwq22⟩ := hR22
            refine x_st (st1 := []) rfl ?_
            refine x_aload_n 0 102 C0 dX8_command_101 rfl rfl rfl ?_
            refine x_getf (v := .ref (g.2 0 + 258 + 7)) 15 105 C0 dX8_command_102 rfl MR_MW.o rfl (by decide) inX8 mF_X8_28 rfl ?_
            refine x_iconst (v := 3) 106 C0 dX8_command_105 rfl (by decide) ?_
            refine x_aload_n 0 107 C0 dX8_command_106 rfl rfl rfl ?_
            refine x_iconst (v := 2) 108 C0 dX8_command_107 rfl (by decide) ?_
            refine x_callV 111 C0 (k_X8_number l hl g _ _ n t22 v22 bf22 sv22 pa22 lb22 ip22 td22 sg MR_MW hJ22 hq22 (by omega) htq22 2 (by decide)) dX8_command_108 rfl mC_X8_number mM_X8_211 mI_X8_number mV_X8_number mN_X8 yd_X8_number rfl rfl ⟨Nat.le_of_ble_eq_true rfl, Nat.le_of_ble_eq_true rfl⟩ MR_MW.o rfl rfl rfl rfl (Nat.le_of_ble_eq_true rfl) ⟨Nat.le_of_ble_eq_true rfl, Nat.le_of_ble_eq_true rfl⟩ (fun _ _ _ q => False.elim q) (fun r w1 sz1 hz hP => ?_)
            obtain ⟨rfl, t23, v23, bf23, sv23, pa23, lb23, ip23, td23, rfl, hJ23, hR23⟩ := hP
            refine x_w MW_MW ?_
            obtain ⟨⟨a23, rfl⟩, hq23, hhq23, htq23, hgq23⟩ := hR23
            refine x_st (st1 := [.int a23, .int 3, .ref (g.2 0 + 258 + 7)]) rfl ?_
            refine x_iast 0 112 C0 dX8_command_111 rfl MR_MW.r_td (by show g.2 0 ≤ _; omega) rfl (vp_in_nI (n := 3) (by omega) (by decide)) ?_
            refine x_w (w1 := (MW g w t23 v23 bf23 sv23 pa23 lb23 ip23 (upd td23 3 a23) sg)) (by rw [show (3 : Int32).toNatClampNeg = 3 from nI_clamp (n := 3) (by omega)]; exact MW_td) ?_
            refine x_aload_n 0 113 C0 dX8_command_112 rfl rfl rfl ?_
            refine x_getf (v := .int (t23 11)) 19 116 C0 dX8_command_113 rfl MR_MW.o rfl (by decide) inX8 mF_X8_204 rfl ?_
            refine x_if_ne 126 119 C0 dX8_command_116 rfl (by decide) (fun c25 => ?_) (fun c25 => ?_)
            · exact x_return C0 dX8_command_126 rfl (Nat.le_of_ble_eq_true rfl) (Nat.le_of_ble_eq_true rfl) ⟨rfl, _, _, _, _, _, _, _, _, rfl, hJ23, ⟨rfl, hq23, by omega, htq23, by omega⟩⟩
            · refine x_aload_n 0 120 C0 dX8_command_119 rfl rfl rfl ?_
              refine x_getf (v := .int (t23 12)) 20 123 C0 dX8_command_120 rfl MR_MW.o rfl (by decide) inX8 mF_X8_217 rfl ?_
              refine x_if_ne 127 126 C0 dX8_command_123 rfl (by decide) (fun c26 => ?_) (fun c26 => ?_)
              · refine x_aload_n 0 128 C0 dX8_command_127 rfl rfl rfl ?_
                refine x_iload_n 1 129 C0 dX8_command_128 rfl rfl rfl ?_
                refine x_callV 132 C0 (k_X8_does l hl g _ _ n t23 v23 bf23 sv23 pa23 lb23 ip23 (upd td23 3 a23) sg MR_MW hJ23 a1) dX8_command_129 rfl mC_X8_does mM_X8_220 mI_X8_does mV_X8_does mN_X8 yd_X8_does rfl rfl ⟨Nat.le_of_ble_eq_true rfl, Nat.le_of_ble_eq_true rfl⟩ MR_MW.o rfl rfl rfl rfl (Nat.le_of_ble_eq_true rfl) ⟨Nat.le_of_ble_eq_true rfl, Nat.le_of_ble_eq_true rfl⟩ (fun _ _ _ q => False.elim q) (fun r w1 sz1 hz hP => ?_)
                obtain ⟨rfl, t27, v27, bf27, sv27, pa27, lb27, ip27, td27, rfl, hJ27, hR27⟩ := hP
                refine x_w MW_MW ?_
                obtain ⟨⟨a27, rfl⟩, he27⟩ := hR27
                have htq27 := (he27 10 (by decide)).trans htq23
                refine x_st (st1 := [.int a27]) rfl ?_
                refine x_istore_n [(2, .int a27), (0, .ref (g.2 0 + 258)), (1, .int a1)] 133 C0 dX8_command_132 rfl rfl (by decide) rfl ?_
                refine x_lv (lv1 := [(0, .ref (g.2 0 + 258)), (1, .int a1), (2, .int a27)]) [1, 2, 0] rfl ?_
                exact x_return C0 dX8_command_133 rfl (Nat.le_of_ble_eq_true rfl) (Nat.le_of_ble_eq_true rfl) ⟨rfl, _, _, _, _, _, _, _, _, rfl, hJ27, ⟨rfl, hq23, by omega, htq27, by omega⟩⟩
              · exact x_return C0 dX8_command_126 rfl (Nat.le_of_ble_eq_true rfl) (Nat.le_of_ble_eq_true rfl) ⟨rfl, _, _, _, _, _, _, _, _, rfl, hJ23, ⟨rfl, hq23, by omega, htq23, by omega⟩⟩
      · refine x_iload_n 1 39 C0 dX8_command_38 rfl rfl rfl ?_
        refine x_iconst (v := 2) 40 C0 dX8_command_39 rfl (by decide) ?_
        refine x_icmp_ne 60 43 C0 dX8_command_40 rfl (by decide) (fun c28 => ?_) (fun c28 => ?_)
        · refine x_iload_n 1 61 C0 dX8_command_60 rfl rfl rfl ?_
          refine x_iconst (v := 1) 62 C0 dX8_command_61 rfl (by decide) ?_
          refine x_icmp_ne 112 65 C0 dX8_command_62 rfl (by decide) (fun c29 => ?_) (fun c29 => ?_)
          · refine x_aload_n 0 113 C0 dX8_command_112 rfl rfl rfl ?_
            refine x_getf (v := .int (t1 11)) 19 116 C0 dX8_command_113 rfl MR_MW.o rfl (by decide) inX8 mF_X8_204 rfl ?_
            refine x_if_ne 126 119 C0 dX8_command_116 rfl (by decide) (fun c30 => ?_) (fun c30 => ?_)
            · exact x_return C0 dX8_command_126 rfl (Nat.le_of_ble_eq_true rfl) (Nat.le_of_ble_eq_true rfl) ⟨rfl, _, _, _, _, _, _, _, _, rfl, hJ1, ⟨rfl, hq1, by omega, htq1, by omega⟩⟩
            · refine x_aload_n 0 120 C0 dX8_command_119 rfl rfl rfl ?_
              refine x_getf (v := .int (t1 12)) 20 123 C0 dX8_command_120 rfl MR_MW.o rfl (by decide) inX8 mF_X8_217 rfl ?_
              refine x_if_ne 127 126 C0 dX8_command_123 rfl (by decide) (fun c31 => ?_) (fun c31 => ?_)
              · refine x_aload_n 0 128 C0 dX8_command_127 rfl rfl rfl ?_
                refine x_iload_n 1 129 C0 dX8_command_128 rfl rfl rfl ?_
                refine x_callV 132 C0 (k_X8_does l hl g _ _ n t1 v1 bf1 sv1 pa1 lb1 ip1 td1 sg MR_MW hJ1 a1) dX8_command_129 rfl mC_X8_does mM_X8_220 mI_X8_does mV_X8_does mN_X8 yd_X8_does rfl rfl ⟨Nat.le_of_ble_eq_true rfl, Nat.le_of_ble_eq_true rfl⟩ MR_MW.o rfl rfl rfl rfl (Nat.le_of_ble_eq_true rfl) ⟨Nat.le_of_ble_eq_true rfl, Nat.le_of_ble_eq_true rfl⟩ (fun _ _ _ q => False.elim q) (fun r w1 sz1 hz hP => ?_)
                obtain ⟨rfl, t32, v32, bf32, sv32, pa32, lb32, ip32, td32, rfl, hJ32, hR32⟩ := hP
                refine x_w MW_MW ?_
                obtain ⟨⟨a32, rfl⟩, he32⟩ := hR32
                have htq32 := (he32 10 (by decide)).trans htq1
                refine x_st (st1 := [.int a32]) rfl ?_
                refine x_istore_n [(2, .int a32), (0, .ref (g.2 0 + 258)), (1, .int a1)] 133 C0 dX8_command_132 rfl rfl (by decide) rfl ?_
                refine x_lv (lv1 := [(0, .ref (g.2 0 + 258)), (1, .int a1), (2, .int a32)]) [1, 2, 0] rfl ?_
                exact x_return C0 dX8_command_133 rfl (Nat.le_of_ble_eq_true rfl) (Nat.le_of_ble_eq_true rfl) ⟨rfl, _, _, _, _, _, _, _, _, rfl, hJ32, ⟨rfl, hq1, by omega, htq32, by omega⟩⟩
              · exact x_return C0 dX8_command_126 rfl (Nat.le_of_ble_eq_true rfl) (Nat.le_of_ble_eq_true rfl) ⟨rfl, _, _, _, _, _, _, _, _, rfl, hJ1, ⟨rfl, hq1, by omega, htq1, by omega⟩⟩
          · refine x_aload_n 0 66 C0 dX8_command_65 rfl rfl rfl ?_
            refine x_bipush (v := 46) 68 C0 dX8_command_66 rfl (by decide) ?_
            refine x_callV 71 C0 (k_X8_mark l hl g _ _ n t1 v1 bf1 sv1 pa1 lb1 ip1 td1 sg MR_MW hJ1 hq1 (by omega) htq1 46 (by decide)) dX8_command_68 rfl mC_X8_mark mM_X8_214 mI_X8_mark mV_X8_mark mN_X8 yd_X8_mark rfl rfl ⟨Nat.le_of_ble_eq_true rfl, Nat.le_of_ble_eq_true rfl⟩ MR_MW.o rfl rfl rfl rfl (Nat.le_of_ble_eq_true rfl) ⟨Nat.le_of_ble_eq_true rfl, Nat.le_of_ble_eq_true rfl⟩ (fun _ _ _ q => False.elim q) (fun r w1 sz1 hz hP => ?_)
            obtain ⟨rfl, t33, v33, bf33, sv33, pa33, lb33, ip33, td33, rfl, hJ33, hR33⟩ := hP
            refine x_w MW_MW ?_
            obtain ⟨rfl, hq33, hhq33, htq33, hgq33, hwq33⟩ := hR33
            refine x_st (st1 := []) rfl ?_
            refine x_aload_n 0 72 C0 dX8_command_71 rfl rfl rfl ?_
            refine x_getf (v := .int (t33 11)) 19 75 C0 dX8_command_72 rfl MR_MW.o rfl (by decide) inX8 mF_X8_204 rfl ?_
            refine x_if_ne 95 78 C0 dX8_command_75 rfl (by decide) (fun c34 => ?_) (fun c34 => ?_)
            · refine x_aload_n 0 96 C0 dX8_command_95 rfl rfl rfl ?_
              refine x_bipush (v := 32) 98 C0 dX8_command_96 rfl (by decide) ?_
              refine x_callV 101 C0 (k_X8_mark l hl g _ _ n t33 v33 bf33 sv33 pa33 lb33 ip33 td33 sg MR_MW hJ33 hq33 (by omega) htq33 32 (by decide)) dX8_command_98 rfl mC_X8_mark mM_X8_214 mI_X8_mark mV_X8_mark mN_X8 yd_X8_mark rfl rfl ⟨Nat.le_of_ble_eq_true rfl, Nat.le_of_ble_eq_true rfl⟩ MR_MW.o rfl rfl rfl rfl (Nat.le_of_ble_eq_true rfl) ⟨Nat.le_of_ble_eq_true rfl, Nat.le_of_ble_eq_true rfl⟩ (fun _ _ _ q => False.elim q) (fun r w1 sz1 hz hP => ?_)
              obtain ⟨rfl, t35, v35, bf35, sv35, pa35, lb35, ip35, td35, rfl, hJ35, hR35⟩ := hP
              refine x_w MW_MW ?_
              obtain ⟨rfl, hq35, hhq35, htq35, hgq35, hwq35⟩ := hR35
              refine x_st (st1 := []) rfl ?_
              refine x_aload_n 0 102 C0 dX8_command_101 rfl rfl rfl ?_
              refine x_getf (v := .ref (g.2 0 + 258 + 7)) 15 105 C0 dX8_command_102 rfl MR_MW.o rfl (by decide) inX8 mF_X8_28 rfl ?_
              refine x_iconst (v := 3) 106 C0 dX8_command_105 rfl (by decide) ?_
              refine x_aload_n 0 107 C0 dX8_command_106 rfl rfl rfl ?_
              refine x_iconst (v := 2) 108 C0 dX8_command_107 rfl (by decide) ?_
              refine x_callV 111 C0 (k_X8_number l hl g _ _ n t35 v35 bf35 sv35 pa35 lb35 ip35 td35 sg MR_MW hJ35 hq35 (by omega) htq35 2 (by decide)) dX8_command_108 rfl mC_X8_number mM_X8_211 mI_X8_number mV_X8_number mN_X8 yd_X8_number rfl rfl ⟨Nat.le_of_ble_eq_true rfl, Nat.le_of_ble_eq_true rfl⟩ MR_MW.o rfl rfl rfl rfl (Nat.le_of_ble_eq_true rfl) ⟨Nat.le_of_ble_eq_true rfl, Nat.le_of_ble_eq_true rfl⟩ (fun _ _ _ q => False.elim q) (fun r w1 sz1 hz hP => ?_)
              obtain ⟨rfl, t36, v36, bf36, sv36, pa36, lb36, ip36, td36, rfl, hJ36, hR36⟩ := hP
              refine x_w MW_MW ?_
              obtain ⟨⟨a36, rfl⟩, hq36, hhq36, htq36, hgq36⟩ := hR36
              refine x_st (st1 := [.int a36, .int 3, .ref (g.2 0 + 258 + 7)]) rfl ?_
              refine x_iast 0 112 C0 dX8_command_111 rfl MR_MW.r_td (by show g.2 0 ≤ _; omega) rfl (vp_in_nI (n := 3) (by omega) (by decide)) ?_
              refine x_w (w1 := (MW g w t36 v36 bf36 sv36 pa36 lb36 ip36 (upd td36 3 a36) sg)) (by rw [show (3 : Int32).toNatClampNeg = 3 from nI_clamp (n := 3) (by omega)]; exact MW_td) ?_
              refine x_aload_n 0 113 C0 dX8_command_112 rfl rfl rfl ?_
              refine x_getf (v := .int (t36 11)) 19 116 C0 dX8_command_113 rfl MR_MW.o rfl (by decide) inX8 mF_X8_204 rfl ?_
              refine x_if_ne 126 119 C0 dX8_command_116 rfl (by decide) (fun c38 => ?_) (fun c38 => ?_)
              · exact x_return C0 dX8_command_126 rfl (Nat.le_of_ble_eq_true rfl) (Nat.le_of_ble_eq_true rfl) ⟨rfl, _, _, _, _, _, _, _, _, rfl, hJ36, ⟨rfl, hq36, by omega, htq36, by omega⟩⟩
              · refine x_aload_n 0 120 C0 dX8_command_119 rfl rfl rfl ?_
                refine x_getf (v := .int (t36 12)) 20 123 C0 dX8_command_120 rfl MR_MW.o rfl (by decide) inX8 mF_X8_217 rfl ?_
                refine x_if_ne 127 126 C0 dX8_command_123 rfl (by decide) (fun c39 => ?_) (fun c39 => ?_)
                · refine x_aload_n 0 128 C0 dX8_command_127 rfl rfl rfl ?_
                  refine x_iload_n 1 129 C0 dX8_command_128 rfl rfl rfl ?_
                  refine x_callV 132 C0 (k_X8_does l hl g _ _ n t36 v36 bf36 sv36 pa36 lb36 ip36 (upd td36 3 a36) sg MR_MW hJ36 a1) dX8_command_129 rfl mC_X8_does mM_X8_220 mI_X8_does mV_X8_does mN_X8 yd_X8_does rfl rfl ⟨Nat.le_of_ble_eq_true rfl, Nat.le_of_ble_eq_true rfl⟩ MR_MW.o rfl rfl rfl rfl (Nat.le_of_ble_eq_true rfl) ⟨Nat.le_of_ble_eq_true rfl, Nat.le_of_ble_eq_true rfl⟩ (fun _ _ _ q => False.elim q) (fun r w1 sz1 hz hP => ?_)
                  obtain ⟨rfl, t40, v40, bf40, sv40, pa40, lb40, ip40, td40, rfl, hJ40, hR40⟩ := hP
                  refine x_w MW_MW ?_
                  obtain ⟨⟨a40, rfl⟩, he40⟩ := hR40
                  have htq40 := (he40 10 (by decide)).trans htq36
                  refine x_st (st1 := [.int a40]) rfl ?_
                  refine x_istore_n [(2, .int a40), (0, .ref (g.2 0 + 258)), (1, .int a1)] 133 C0 dX8_command_132 rfl rfl (by decide) rfl ?_
                  refine x_lv (lv1 := [(0, .ref (g.2 0 + 258)), (1, .int a1), (2, .int a40)]) [1, 2, 0] rfl ?_
                  exact x_return C0 dX8_command_133 rfl (Nat.le_of_ble_eq_true rfl) (Nat.le_of_ble_eq_true rfl) ⟨rfl, _, _, _, _, _, _, _, _, rfl, hJ40, ⟨rfl, hq36, by omega, htq40, by omega⟩⟩
                · exact x_return C0 dX8_command_126 rfl (Nat.le_of_ble_eq_true rfl) (Nat.le_of_ble_eq_true rfl) ⟨rfl, _, _, _, _, _, _, _, _, rfl, hJ36, ⟨rfl, hq36, by omega, htq36, by omega⟩⟩
            · refine x_aload_n 0 79 C0 dX8_command_78 rfl rfl rfl ?_
              refine x_getf (v := .ref (g.2 0 + 258 + 7)) 15 82 C0 dX8_command_79 rfl MR_MW.o rfl (by decide) inX8 mF_X8_28 rfl ?_
              refine x_iconst (v := 2) 83 C0 dX8_command_82 rfl (by decide) ?_
              refine x_aload_n 0 84 C0 dX8_command_83 rfl rfl rfl ?_
              refine x_bipush (v := 8) 86 C0 dX8_command_84 rfl (by decide) ?_
              refine x_bipush (v := 10) 88 C0 dX8_command_86 rfl (by decide) ?_
              refine x_callV 91 C0 (k_X8_word l hl g _ _ n t33 v33 bf33 sv33 pa33 lb33 ip33 td33 sg MR_MW hJ33 hq33 (by omega) htq33 8 10 (by decide) (by decide)) dX8_command_88 rfl mC_X8_word mM_X8_208 mI_X8_word mV_X8_word mN_X8 yd_X8_word rfl rfl ⟨Nat.le_of_ble_eq_true rfl, Nat.le_of_ble_eq_true rfl⟩ MR_MW.o rfl rfl rfl rfl (Nat.le_of_ble_eq_true rfl) ⟨Nat.le_of_ble_eq_true rfl, Nat.le_of_ble_eq_true rfl⟩ (fun _ _ _ q => False.elim q) (fun r w1 sz1 hz hP => ?_)
              obtain ⟨rfl, t41, v41, bf41, sv41, pa41, lb41, ip41, td41, rfl, hJ41, hR41⟩ := hP
              refine x_w MW_MW ?_
              obtain ⟨⟨a41, rfl⟩, hq41, hhq41, htq41, hgq41⟩ := hR41
              refine x_st (st1 := [.int a41, .int 2, .ref (g.2 0 + 258 + 7)]) rfl ?_
              refine x_bipush (v := 8) 93 C0 dX8_command_91 rfl (by decide) ?_
              refine x_isub 94 C0 dX8_command_93 rfl ?_
              refine x_iast 0 95 C0 dX8_command_94 rfl MR_MW.r_td (by show g.2 0 ≤ _; omega) rfl (vp_in_nI (n := 2) (by omega) (by decide)) ?_
              refine x_w (w1 := (MW g w t41 v41 bf41 sv41 pa41 lb41 ip41 (upd td41 2 (a41 - 8)) sg)) (by rw [show (2 : Int32).toNatClampNeg = 2 from nI_clamp (n := 2) (by omega)]; exact MW_td) ?_
              refine x_aload_n 0 96 C0 dX8_command_95 rfl rfl rfl ?_
              refine x_bipush (v := 32) 98 C0 dX8_command_96 rfl (by decide) ?_
              refine x_callV 101 C0 (k_X8_mark l hl g _ _ n t41 v41 bf41 sv41 pa41 lb41 ip41 (upd td41 2 (a41 - 8)) sg MR_MW hJ41 hq41 (by omega) htq41 32 (by decide)) dX8_command_98 rfl mC_X8_mark mM_X8_214 mI_X8_mark mV_X8_mark mN_X8 yd_X8_mark rfl rfl ⟨Nat.le_of_ble_eq_true rfl, Nat.le_of_ble_eq_true rfl⟩ MR_MW.o rfl rfl rfl rfl (Nat.le_of_ble_eq_true rfl) ⟨Nat.le_of_ble_eq_true rfl, Nat.le_of_ble_eq_true rfl⟩ (fun _ _ _ q => False.elim q) (fun r w1 sz1 hz hP => ?_)
              obtain ⟨rfl, t43, v43, bf43, sv43, pa43, lb43, ip43, td43, rfl, hJ43, hR43⟩ := hP
              refine x_w MW_MW ?_
              obtain ⟨rfl, hq43, hhq43, htq43, hgq43, hwq43⟩ := hR43
              refine x_st (st1 := []) rfl ?_
              refine x_aload_n 0 102 C0 dX8_command_101 rfl rfl rfl ?_
              refine x_getf (v := .ref (g.2 0 + 258 + 7)) 15 105 C0 dX8_command_102 rfl MR_MW.o rfl (by decide) inX8 mF_X8_28 rfl ?_
              refine x_iconst (v := 3) 106 C0 dX8_command_105 rfl (by decide) ?_
              refine x_aload_n 0 107 C0 dX8_command_106 rfl rfl rfl ?_
              refine x_iconst (v := 2) 108 C0 dX8_command_107 rfl (by decide) ?_
              refine x_callV 111 C0 (k_X8_number l hl g _ _ n t43 v43 bf43 sv43 pa43 lb43 ip43 td43 sg MR_MW hJ43 hq43 (by omega) htq43 2 (by decide)) dX8_command_108 rfl mC_X8_number mM_X8_211 mI_X8_number mV_X8_number mN_X8 yd_X8_number rfl rfl ⟨Nat.le_of_ble_eq_true rfl, Nat.le_of_ble_eq_true rfl⟩ MR_MW.o rfl rfl rfl rfl (Nat.le_of_ble_eq_true rfl) ⟨Nat.le_of_ble_eq_true rfl, Nat.le_of_ble_eq_true rfl⟩ (fun _ _ _ q => False.elim q) (fun r w1 sz1 hz hP => ?_)
              obtain ⟨rfl, t44, v44, bf44, sv44, pa44, lb44, ip44, td44, rfl, hJ44, hR44⟩ := hP
              refine x_w MW_MW ?_
              obtain ⟨⟨a44, rfl⟩, hq44, hhq44, htq44, hgq44⟩ := hR44
              refine x_st (st1 := [.int a44, .int 3, .ref (g.2 0 + 258 + 7)]) rfl ?_
              refine x_iast 0 112 C0 dX8_command_111 rfl MR_MW.r_td (by show g.2 0 ≤ _; omega) rfl (vp_in_nI (n := 3) (by omega) (by decide)) ?_
              refine x_w (w1 := (MW g w t44 v44 bf44 sv44 pa44 lb44 ip44 (upd td44 3 a44) sg)) (by rw [show (3 : Int32).toNatClampNeg = 3 from nI_clamp (n := 3) (by omega)]; exact MW_td) ?_
              refine x_aload_n 0 113 C0 dX8_command_112 rfl rfl rfl ?_
              refine x_getf (v := .int (t44 11)) 19 116 C0 dX8_command_113 rfl MR_MW.o rfl (by decide) inX8 mF_X8_204 rfl ?_
              refine x_if_ne 126 119 C0 dX8_command_116 rfl (by decide) (fun c46 => ?_) (fun c46 => ?_)
              · exact x_return C0 dX8_command_126 rfl (Nat.le_of_ble_eq_true rfl) (Nat.le_of_ble_eq_true rfl) ⟨rfl, _, _, _, _, _, _, _, _, rfl, hJ44, ⟨rfl, hq44, by omega, htq44, by omega⟩⟩
              · refine x_aload_n 0 120 C0 dX8_command_119 rfl rfl rfl ?_
                refine x_getf (v := .int (t44 12)) 20 123 C0 dX8_command_120 rfl MR_MW.o rfl (by decide) inX8 mF_X8_217 rfl ?_
                refine x_if_ne 127 126 C0 dX8_command_123 rfl (by decide) (fun c47 => ?_) (fun c47 => ?_)
                · refine x_aload_n 0 128 C0 dX8_command_127 rfl rfl rfl ?_
                  refine x_iload_n 1 129 C0 dX8_command_128 rfl rfl rfl ?_
                  refine x_callV 132 C0 (k_X8_does l hl g _ _ n t44 v44 bf44 sv44 pa44 lb44 ip44 (upd td44 3 a44) sg MR_MW hJ44 a1) dX8_command_129 rfl mC_X8_does mM_X8_220 mI_X8_does mV_X8_does mN_X8 yd_X8_does rfl rfl ⟨Nat.le_of_ble_eq_true rfl, Nat.le_of_ble_eq_true rfl⟩ MR_MW.o rfl rfl rfl rfl (Nat.le_of_ble_eq_true rfl) ⟨Nat.le_of_ble_eq_true rfl, Nat.le_of_ble_eq_true rfl⟩ (fun _ _ _ q => False.elim q) (fun r w1 sz1 hz hP => ?_)
                  obtain ⟨rfl, t48, v48, bf48, sv48, pa48, lb48, ip48, td48, rfl, hJ48, hR48⟩ := hP
                  refine x_w MW_MW ?_
                  obtain ⟨⟨a48, rfl⟩, he48⟩ := hR48
                  have htq48 := (he48 10 (by decide)).trans htq44
                  refine x_st (st1 := [.int a48]) rfl ?_
                  refine x_istore_n [(2, .int a48), (0, .ref (g.2 0 + 258)), (1, .int a1)] 133 C0 dX8_command_132 rfl rfl (by decide) rfl ?_
                  refine x_lv (lv1 := [(0, .ref (g.2 0 + 258)), (1, .int a1), (2, .int a48)]) [1, 2, 0] rfl ?_
                  exact x_return C0 dX8_command_133 rfl (Nat.le_of_ble_eq_true rfl) (Nat.le_of_ble_eq_true rfl) ⟨rfl, _, _, _, _, _, _, _, _, rfl, hJ48, ⟨rfl, hq44, by omega, htq48, by omega⟩⟩
                · exact x_return C0 dX8_command_126 rfl (Nat.le_of_ble_eq_true rfl) (Nat.le_of_ble_eq_true rfl) ⟨rfl, _, _, _, _, _, _, _, _, rfl, hJ44, ⟨rfl, hq44, by omega, htq44, by omega⟩⟩
        · refine x_aload_n 0 44 C0 dX8_command_43 rfl rfl rfl ?_
          refine x_bipush (v := 32) 46 C0 dX8_command_44 rfl (by decide) ?_
          refine x_callV 49 C0 (k_X8_mark l hl g _ _ n t1 v1 bf1 sv1 pa1 lb1 ip1 td1 sg MR_MW hJ1 hq1 (by omega) htq1 32 (by decide)) dX8_command_46 rfl mC_X8_mark mM_X8_214 mI_X8_mark mV_X8_mark mN_X8 yd_X8_mark rfl rfl ⟨Nat.le_of_ble_eq_true rfl, Nat.le_of_ble_eq_true rfl⟩ MR_MW.o rfl rfl rfl rfl (Nat.le_of_ble_eq_true rfl) ⟨Nat.le_of_ble_eq_true rfl, Nat.le_of_ble_eq_true rfl⟩ (fun _ _ _ q => False.elim q) (fun r w1 sz1 hz hP => ?_)
          obtain ⟨rfl, t49, v49, bf49, sv49, pa49, lb49, ip49, td49, rfl, hJ49, hR49⟩ := hP
          refine x_w MW_MW ?_
          obtain ⟨rfl, hq49, hhq49, htq49, hgq49, hwq49⟩ := hR49
          refine x_st (st1 := []) rfl ?_
          refine x_aload_n 0 50 C0 dX8_command_49 rfl rfl rfl ?_
          refine x_getf (v := .ref (g.2 0 + 258 + 7)) 15 53 C0 dX8_command_50 rfl MR_MW.o rfl (by decide) inX8 mF_X8_28 rfl ?_
          refine x_iconst (v := 1) 54 C0 dX8_command_53 rfl (by decide) ?_
          refine x_aload_n 0 55 C0 dX8_command_54 rfl rfl rfl ?_
          refine x_iconst (v := 1) 56 C0 dX8_command_55 rfl (by decide) ?_
          refine x_callV 59 C0 (k_X8_number l hl g _ _ n t49 v49 bf49 sv49 pa49 lb49 ip49 td49 sg MR_MW hJ49 hq49 (by omega) htq49 1 (by decide)) dX8_command_56 rfl mC_X8_number mM_X8_211 mI_X8_number mV_X8_number mN_X8 yd_X8_number rfl rfl ⟨Nat.le_of_ble_eq_true rfl, Nat.le_of_ble_eq_true rfl⟩ MR_MW.o rfl rfl rfl rfl (Nat.le_of_ble_eq_true rfl) ⟨Nat.le_of_ble_eq_true rfl, Nat.le_of_ble_eq_true rfl⟩ (fun _ _ _ q => False.elim q) (fun r w1 sz1 hz hP => ?_)
          obtain ⟨rfl, t50, v50, bf50, sv50, pa50, lb50, ip50, td50, rfl, hJ50, hR50⟩ := hP
          refine x_w MW_MW ?_
          obtain ⟨⟨a50, rfl⟩, hq50, hhq50, htq50, hgq50⟩ := hR50
          refine x_st (st1 := [.int a50, .int 1, .ref (g.2 0 + 258 + 7)]) rfl ?_
          refine x_iast 0 60 C0 dX8_command_59 rfl MR_MW.r_td (by show g.2 0 ≤ _; omega) rfl (vp_in_nI (n := 1) (by omega) (by decide)) ?_
          refine x_w (w1 := (MW g w t50 v50 bf50 sv50 pa50 lb50 ip50 (upd td50 1 a50) sg)) (by rw [show (1 : Int32).toNatClampNeg = 1 from nI_clamp (n := 1) (by omega)]; exact MW_td) ?_
          refine x_iload_n 1 61 C0 dX8_command_60 rfl rfl rfl ?_
          refine x_iconst (v := 1) 62 C0 dX8_command_61 rfl (by decide) ?_
          refine x_icmp_ne 112 65 C0 dX8_command_62 rfl (by decide) (fun c52 => ?_) (fun c52 => ?_)
          · refine x_aload_n 0 113 C0 dX8_command_112 rfl rfl rfl ?_
            refine x_getf (v := .int (t50 11)) 19 116 C0 dX8_command_113 rfl MR_MW.o rfl (by decide) inX8 mF_X8_204 rfl ?_
            refine x_if_ne 126 119 C0 dX8_command_116 rfl (by decide) (fun c53 => ?_) (fun c53 => ?_)
            · exact x_return C0 dX8_command_126 rfl (Nat.le_of_ble_eq_true rfl) (Nat.le_of_ble_eq_true rfl) ⟨rfl, _, _, _, _, _, _, _, _, rfl, hJ50, ⟨rfl, hq50, by omega, htq50, by omega⟩⟩
            · refine x_aload_n 0 120 C0 dX8_command_119 rfl rfl rfl ?_
              refine x_getf (v := .int (t50 12)) 20 123 C0 dX8_command_120 rfl MR_MW.o rfl (by decide) inX8 mF_X8_217 rfl ?_
              refine x_if_ne 127 126 C0 dX8_command_123 rfl (by decide) (fun c54 => ?_) (fun c54 => ?_)
              · refine x_aload_n 0 128 C0 dX8_command_127 rfl rfl rfl ?_
                refine x_iload_n 1 129 C0 dX8_command_128 rfl rfl rfl ?_
                refine x_callV 132 C0 (k_X8_does l hl g _ _ n t50 v50 bf50 sv50 pa50 lb50 ip50 (upd td50 1 a50) sg MR_MW hJ50 a1) dX8_command_129 rfl mC_X8_does mM_X8_220 mI_X8_does mV_X8_does mN_X8 yd_X8_does rfl rfl ⟨Nat.le_of_ble_eq_true rfl, Nat.le_of_ble_eq_true rfl⟩ MR_MW.o rfl rfl rfl rfl (Nat.le_of_ble_eq_true rfl) ⟨Nat.le_of_ble_eq_true rfl, Nat.le_of_ble_eq_true rfl⟩ (fun _ _ _ q => False.elim q) (fun r w1 sz1 hz hP => ?_)
                obtain ⟨rfl, t55, v55, bf55, sv55, pa55, lb55, ip55, td55, rfl, hJ55, hR55⟩ := hP
                refine x_w MW_MW ?_
                obtain ⟨⟨a55, rfl⟩, he55⟩ := hR55
                have htq55 := (he55 10 (by decide)).trans htq50
                refine x_st (st1 := [.int a55]) rfl ?_
                refine x_istore_n [(2, .int a55), (0, .ref (g.2 0 + 258)), (1, .int a1)] 133 C0 dX8_command_132 rfl rfl (by decide) rfl ?_
                refine x_lv (lv1 := [(0, .ref (g.2 0 + 258)), (1, .int a1), (2, .int a55)]) [1, 2, 0] rfl ?_
                exact x_return C0 dX8_command_133 rfl (Nat.le_of_ble_eq_true rfl) (Nat.le_of_ble_eq_true rfl) ⟨rfl, _, _, _, _, _, _, _, _, rfl, hJ55, ⟨rfl, hq50, by omega, htq55, by omega⟩⟩
              · exact x_return C0 dX8_command_126 rfl (Nat.le_of_ble_eq_true rfl) (Nat.le_of_ble_eq_true rfl) ⟨rfl, _, _, _, _, _, _, _, _, rfl, hJ50, ⟨rfl, hq50, by omega, htq50, by omega⟩⟩
          · refine x_aload_n 0 66 C0 dX8_command_65 rfl rfl rfl ?_
            refine x_bipush (v := 46) 68 C0 dX8_command_66 rfl (by decide) ?_
            refine x_callV 71 C0 (k_X8_mark l hl g _ _ n t50 v50 bf50 sv50 pa50 lb50 ip50 (upd td50 1 a50) sg MR_MW hJ50 hq50 (by omega) htq50 46 (by decide)) dX8_command_68 rfl mC_X8_mark mM_X8_214 mI_X8_mark mV_X8_mark mN_X8 yd_X8_mark rfl rfl ⟨Nat.le_of_ble_eq_true rfl, Nat.le_of_ble_eq_true rfl⟩ MR_MW.o rfl rfl rfl rfl (Nat.le_of_ble_eq_true rfl) ⟨Nat.le_of_ble_eq_true rfl, Nat.le_of_ble_eq_true rfl⟩ (fun _ _ _ q => False.elim q) (fun r w1 sz1 hz hP => ?_)
            obtain ⟨rfl, t56, v56, bf56, sv56, pa56, lb56, ip56, td56, rfl, hJ56, hR56⟩ := hP
            refine x_w MW_MW ?_
            obtain ⟨rfl, hq56, hhq56, htq56, hgq56, hwq56⟩ := hR56
            refine x_st (st1 := []) rfl ?_
            refine x_aload_n 0 72 C0 dX8_command_71 rfl rfl rfl ?_
            refine x_getf (v := .int (t56 11)) 19 75 C0 dX8_command_72 rfl MR_MW.o rfl (by decide) inX8 mF_X8_204 rfl ?_
            refine x_if_ne 95 78 C0 dX8_command_75 rfl (by decide) (fun c57 => ?_) (fun c57 => ?_)
            · refine x_aload_n 0 96 C0 dX8_command_95 rfl rfl rfl ?_
              refine x_bipush (v := 32) 98 C0 dX8_command_96 rfl (by decide) ?_
              refine x_callV 101 C0 (k_X8_mark l hl g _ _ n t56 v56 bf56 sv56 pa56 lb56 ip56 td56 sg MR_MW hJ56 hq56 (by omega) htq56 32 (by decide)) dX8_command_98 rfl mC_X8_mark mM_X8_214 mI_X8_mark mV_X8_mark mN_X8 yd_X8_mark rfl rfl ⟨Nat.le_of_ble_eq_true rfl, Nat.le_of_ble_eq_true rfl⟩ MR_MW.o rfl rfl rfl rfl (Nat.le_of_ble_eq_true rfl) ⟨Nat.le_of_ble_eq_true rfl, Nat.le_of_ble_eq_true rfl⟩ (fun _ _ _ q => False.elim q) (fun r w1 sz1 hz hP => ?_)
              obtain ⟨rfl, t58, v58, bf58, sv58, pa58, lb58, ip58, td58, rfl, hJ58, hR58⟩ := hP
              refine x_w MW_MW ?_
              obtain ⟨rfl, hq58, hhq58, htq58, hgq58, hwq58⟩ := hR58
              refine x_st (st1 := []) rfl ?_
              refine x_aload_n 0 102 C0 dX8_command_101 rfl rfl rfl ?_
              refine x_getf (v := .ref (g.2 0 + 258 + 7)) 15 105 C0 dX8_command_102 rfl MR_MW.o rfl (by decide) inX8 mF_X8_28 rfl ?_
              refine x_iconst (v := 3) 106 C0 dX8_command_105 rfl (by decide) ?_
              refine x_aload_n 0 107 C0 dX8_command_106 rfl rfl rfl ?_
              refine x_iconst (v := 2) 108 C0 dX8_command_107 rfl (by decide) ?_
              refine x_callV 111 C0 (k_X8_number l hl g _ _ n t58 v58 bf58 sv58 pa58 lb58 ip58 td58 sg MR_MW hJ58 hq58 (by omega) htq58 2 (by decide)) dX8_command_108 rfl mC_X8_number mM_X8_211 mI_X8_number mV_X8_number mN_X8 yd_X8_number rfl rfl ⟨Nat.le_of_ble_eq_true rfl, Nat.le_of_ble_eq_true rfl⟩ MR_MW.o rfl rfl rfl rfl (Nat.le_of_ble_eq_true rfl) ⟨Nat.le_of_ble_eq_true rfl, Nat.le_of_ble_eq_true rfl⟩ (fun _ _ _ q => False.elim q) (fun r w1 sz1 hz hP => ?_)
              obtain ⟨rfl, t59, v59, bf59, sv59, pa59, lb59, ip59, td59, rfl, hJ59, hR59⟩ := hP
              refine x_w MW_MW ?_
              obtain ⟨⟨a59, rfl⟩, hq59, hhq59, htq59, hgq59⟩ := hR59
              refine x_st (st1 := [.int a59, .int 3, .ref (g.2 0 + 258 + 7)]) rfl ?_
              refine x_iast 0 112 C0 dX8_command_111 rfl MR_MW.r_td (by show g.2 0 ≤ _; omega) rfl (vp_in_nI (n := 3) (by omega) (by decide)) ?_
              refine x_w (w1 := (MW g w t59 v59 bf59 sv59 pa59 lb59 ip59 (upd td59 3 a59) sg)) (by rw [show (3 : Int32).toNatClampNeg = 3 from nI_clamp (n := 3) (by omega)]; exact MW_td) ?_
              refine x_aload_n 0 113 C0 dX8_command_112 rfl rfl rfl ?_
              refine x_getf (v := .int (t59 11)) 19 116 C0 dX8_command_113 rfl MR_MW.o rfl (by decide) inX8 mF_X8_204 rfl ?_
              refine x_if_ne 126 119 C0 dX8_command_116 rfl (by decide) (fun c61 => ?_) (fun c61 => ?_)
              · exact x_return C0 dX8_command_126 rfl (Nat.le_of_ble_eq_true rfl) (Nat.le_of_ble_eq_true rfl) ⟨rfl, _, _, _, _, _, _, _, _, rfl, hJ59, ⟨rfl, hq59, by omega, htq59, by omega⟩⟩
              · refine x_aload_n 0 120 C0 dX8_command_119 rfl rfl rfl ?_
                refine x_getf (v := .int (t59 12)) 20 123 C0 dX8_command_120 rfl MR_MW.o rfl (by decide) inX8 mF_X8_217 rfl ?_
                refine x_if_ne 127 126 C0 dX8_command_123 rfl (by decide) (fun c62 => ?_) (fun c62 => ?_)
                · refine x_aload_n 0 128 C0 dX8_command_127 rfl rfl rfl ?_
                  refine x_iload_n 1 129 C0 dX8_command_128 rfl rfl rfl ?_
                  refine x_callV 132 C0 (k_X8_does l hl g _ _ n t59 v59 bf59 sv59 pa59 lb59 ip59 (upd td59 3 a59) sg MR_MW hJ59 a1) dX8_command_129 rfl mC_X8_does mM_X8_220 mI_X8_does mV_X8_does mN_X8 yd_X8_does rfl rfl ⟨Nat.le_of_ble_eq_true rfl, Nat.le_of_ble_eq_true rfl⟩ MR_MW.o rfl rfl rfl rfl (Nat.le_of_ble_eq_true rfl) ⟨Nat.le_of_ble_eq_true rfl, Nat.le_of_ble_eq_true rfl⟩ (fun _ _ _ q => False.elim q) (fun r w1 sz1 hz hP => ?_)
                  obtain ⟨rfl, t63, v63, bf63, sv63, pa63, lb63, ip63, td63, rfl, hJ63, hR63⟩ := hP
                  refine x_w MW_MW ?_
                  obtain ⟨⟨a63, rfl⟩, he63⟩ := hR63
                  have htq63 := (he63 10 (by decide)).trans htq59
                  refine x_st (st1 := [.int a63]) rfl ?_
                  refine x_istore_n [(2, .int a63), (0, .ref (g.2 0 + 258)), (1, .int a1)] 133 C0 dX8_command_132 rfl rfl (by decide) rfl ?_
                  refine x_lv (lv1 := [(0, .ref (g.2 0 + 258)), (1, .int a1), (2, .int a63)]) [1, 2, 0] rfl ?_
                  exact x_return C0 dX8_command_133 rfl (Nat.le_of_ble_eq_true rfl) (Nat.le_of_ble_eq_true rfl) ⟨rfl, _, _, _, _, _, _, _, _, rfl, hJ63, ⟨rfl, hq59, by omega, htq63, by omega⟩⟩
                · exact x_return C0 dX8_command_126 rfl (Nat.le_of_ble_eq_true rfl) (Nat.le_of_ble_eq_true rfl) ⟨rfl, _, _, _, _, _, _, _, _, rfl, hJ59, ⟨rfl, hq59, by omega, htq59, by omega⟩⟩
            · refine x_aload_n 0 79 C0 dX8_command_78 rfl rfl rfl ?_
              refine x_getf (v := .ref (g.2 0 + 258 + 7)) 15 82 C0 dX8_command_79 rfl MR_MW.o rfl (by decide) inX8 mF_X8_28 rfl ?_
              refine x_iconst (v := 2) 83 C0 dX8_command_82 rfl (by decide) ?_
              refine x_aload_n 0 84 C0 dX8_command_83 rfl rfl rfl ?_
              refine x_bipush (v := 8) 86 C0 dX8_command_84 rfl (by decide) ?_
              refine x_bipush (v := 10) 88 C0 dX8_command_86 rfl (by decide) ?_
              refine x_callV 91 C0 (k_X8_word l hl g _ _ n t56 v56 bf56 sv56 pa56 lb56 ip56 td56 sg MR_MW hJ56 hq56 (by omega) htq56 8 10 (by decide) (by decide)) dX8_command_88 rfl mC_X8_word mM_X8_208 mI_X8_word mV_X8_word mN_X8 yd_X8_word rfl rfl ⟨Nat.le_of_ble_eq_true rfl, Nat.le_of_ble_eq_true rfl⟩ MR_MW.o rfl rfl rfl rfl (Nat.le_of_ble_eq_true rfl) ⟨Nat.le_of_ble_eq_true rfl, Nat.le_of_ble_eq_true rfl⟩ (fun _ _ _ q => False.elim q) (fun r w1 sz1 hz hP => ?_)
              obtain ⟨rfl, t64, v64, bf64, sv64, pa64, lb64, ip64, td64, rfl, hJ64, hR64⟩ := hP
              refine x_w MW_MW ?_
              obtain ⟨⟨a64, rfl⟩, hq64, hhq64, htq64, hgq64⟩ := hR64
              refine x_st (st1 := [.int a64, .int 2, .ref (g.2 0 + 258 + 7)]) rfl ?_
              refine x_bipush (v := 8) 93 C0 dX8_command_91 rfl (by decide) ?_
              refine x_isub 94 C0 dX8_command_93 rfl ?_
              refine x_iast 0 95 C0 dX8_command_94 rfl MR_MW.r_td (by show g.2 0 ≤ _; omega) rfl (vp_in_nI (n := 2) (by omega) (by decide)) ?_
              refine x_w (w1 := (MW g w t64 v64 bf64 sv64 pa64 lb64 ip64 (upd td64 2 (a64 - 8)) sg)) (by rw [show (2 : Int32).toNatClampNeg = 2 from nI_clamp (n := 2) (by omega)]; exact MW_td) ?_
              refine x_aload_n 0 96 C0 dX8_command_95 rfl rfl rfl ?_
              refine x_bipush (v := 32) 98 C0 dX8_command_96 rfl (by decide) ?_
              refine x_callV 101 C0 (k_X8_mark l hl g _ _ n t64 v64 bf64 sv64 pa64 lb64 ip64 (upd td64 2 (a64 - 8)) sg MR_MW hJ64 hq64 (by omega) htq64 32 (by decide)) dX8_command_98 rfl mC_X8_mark mM_X8_214 mI_X8_mark mV_X8_mark mN_X8 yd_X8_mark rfl rfl ⟨Nat.le_of_ble_eq_true rfl, Nat.le_of_ble_eq_true rfl⟩ MR_MW.o rfl rfl rfl rfl (Nat.le_of_ble_eq_true rfl) ⟨Nat.le_of_ble_eq_true rfl, Nat.le_of_ble_eq_true rfl⟩ (fun _ _ _ q => False.elim q) (fun r w1 sz1 hz hP => ?_)
              obtain ⟨rfl, t66, v66, bf66, sv66, pa66, lb66, ip66, td66, rfl, hJ66, hR66⟩ := hP
              refine x_w MW_MW ?_
              obtain ⟨rfl, hq66, hhq66, htq66, hgq66, hwq66⟩ := hR66
              refine x_st (st1 := []) rfl ?_
              refine x_aload_n 0 102 C0 dX8_command_101 rfl rfl rfl ?_
              refine x_getf (v := .ref (g.2 0 + 258 + 7)) 15 105 C0 dX8_command_102 rfl MR_MW.o rfl (by decide) inX8 mF_X8_28 rfl ?_
              refine x_iconst (v := 3) 106 C0 dX8_command_105 rfl (by decide) ?_
              refine x_aload_n 0 107 C0 dX8_command_106 rfl rfl rfl ?_
              refine x_iconst (v := 2) 108 C0 dX8_command_107 rfl (by decide) ?_
              refine x_callV 111 C0 (k_X8_number l hl g _ _ n t66 v66 bf66 sv66 pa66 lb66 ip66 td66 sg MR_MW hJ66 hq66 (by omega) htq66 2 (by decide)) dX8_command_108 rfl mC_X8_number mM_X8_211 mI_X8_number mV_X8_number mN_X8 yd_X8_number rfl rfl ⟨Nat.le_of_ble_eq_true rfl, Nat.le_of_ble_eq_true rfl⟩ MR_MW.o rfl rfl rfl rfl (Nat.le_of_ble_eq_true rfl) ⟨Nat.le_of_ble_eq_true rfl, Nat.le_of_ble_eq_true rfl⟩ (fun _ _ _ q => False.elim q) (fun r w1 sz1 hz hP => ?_)
              obtain ⟨rfl, t67, v67, bf67, sv67, pa67, lb67, ip67, td67, rfl, hJ67, hR67⟩ := hP
              refine x_w MW_MW ?_
              obtain ⟨⟨a67, rfl⟩, hq67, hhq67, htq67, hgq67⟩ := hR67
              refine x_st (st1 := [.int a67, .int 3, .ref (g.2 0 + 258 + 7)]) rfl ?_
              refine x_iast 0 112 C0 dX8_command_111 rfl MR_MW.r_td (by show g.2 0 ≤ _; omega) rfl (vp_in_nI (n := 3) (by omega) (by decide)) ?_
              refine x_w (w1 := (MW g w t67 v67 bf67 sv67 pa67 lb67 ip67 (upd td67 3 a67) sg)) (by rw [show (3 : Int32).toNatClampNeg = 3 from nI_clamp (n := 3) (by omega)]; exact MW_td) ?_
              refine x_aload_n 0 113 C0 dX8_command_112 rfl rfl rfl ?_
              refine x_getf (v := .int (t67 11)) 19 116 C0 dX8_command_113 rfl MR_MW.o rfl (by decide) inX8 mF_X8_204 rfl ?_
              refine x_if_ne 126 119 C0 dX8_command_116 rfl (by decide) (fun c69 => ?_) (fun c69 => ?_)
              · exact x_return C0 dX8_command_126 rfl (Nat.le_of_ble_eq_true rfl) (Nat.le_of_ble_eq_true rfl) ⟨rfl, _, _, _, _, _, _, _, _, rfl, hJ67, ⟨rfl, hq67, by omega, htq67, by omega⟩⟩
              · refine x_aload_n 0 120 C0 dX8_command_119 rfl rfl rfl ?_
                refine x_getf (v := .int (t67 12)) 20 123 C0 dX8_command_120 rfl MR_MW.o rfl (by decide) inX8 mF_X8_217 rfl ?_
                refine x_if_ne 127 126 C0 dX8_command_123 rfl (by decide) (fun c70 => ?_) (fun c70 => ?_)
                · refine x_aload_n 0 128 C0 dX8_command_127 rfl rfl rfl ?_
                  refine x_iload_n 1 129 C0 dX8_command_128 rfl rfl rfl ?_
                  refine x_callV 132 C0 (k_X8_does l hl g _ _ n t67 v67 bf67 sv67 pa67 lb67 ip67 (upd td67 3 a67) sg MR_MW hJ67 a1) dX8_command_129 rfl mC_X8_does mM_X8_220 mI_X8_does mV_X8_does mN_X8 yd_X8_does rfl rfl ⟨Nat.le_of_ble_eq_true rfl, Nat.le_of_ble_eq_true rfl⟩ MR_MW.o rfl rfl rfl rfl (Nat.le_of_ble_eq_true rfl) ⟨Nat.le_of_ble_eq_true rfl, Nat.le_of_ble_eq_true rfl⟩ (fun _ _ _ q => False.elim q) (fun r w1 sz1 hz hP => ?_)
                  obtain ⟨rfl, t71, v71, bf71, sv71, pa71, lb71, ip71, td71, rfl, hJ71, hR71⟩ := hP
                  refine x_w MW_MW ?_
                  obtain ⟨⟨a71, rfl⟩, he71⟩ := hR71
                  have htq71 := (he71 10 (by decide)).trans htq67
                  refine x_st (st1 := [.int a71]) rfl ?_
                  refine x_istore_n [(2, .int a71), (0, .ref (g.2 0 + 258)), (1, .int a1)] 133 C0 dX8_command_132 rfl rfl (by decide) rfl ?_
                  refine x_lv (lv1 := [(0, .ref (g.2 0 + 258)), (1, .int a1), (2, .int a71)]) [1, 2, 0] rfl ?_
                  exact x_return C0 dX8_command_133 rfl (Nat.le_of_ble_eq_true rfl) (Nat.le_of_ble_eq_true rfl) ⟨rfl, _, _, _, _, _, _, _, _, rfl, hJ71, ⟨rfl, hq67, by omega, htq71, by omega⟩⟩
                · exact x_return C0 dX8_command_126 rfl (Nat.le_of_ble_eq_true rfl) (Nat.le_of_ble_eq_true rfl) ⟨rfl, _, _, _, _, _, _, _, _, rfl, hJ67, ⟨rfl, hq67, by omega, htq67, by omega⟩⟩
    · refine x_aload_n 0 23 C0 dX8_command_22 rfl rfl rfl ?_
      refine x_getf (v := .ref (g.2 0 + 258 + 7)) 15 26 C0 dX8_command_23 rfl MR_MW.o rfl (by decide) inX8 mF_X8_28 rfl ?_
      refine x_iconst (v := 0) 27 C0 dX8_command_26 rfl (by decide) ?_
      refine x_aload_n 0 28 C0 dX8_command_27 rfl rfl rfl ?_
      refine x_iconst (v := 2) 29 C0 dX8_command_28 rfl (by decide) ?_
      refine x_callV 32 C0 (k_X8_number l hl g _ _ n t1 v1 bf1 sv1 pa1 lb1 ip1 td1 sg MR_MW hJ1 hq1 (by omega) htq1 2 (by decide)) dX8_command_29 rfl mC_X8_number mM_X8_211 mI_X8_number mV_X8_number mN_X8 yd_X8_number rfl rfl ⟨Nat.le_of_ble_eq_true rfl, Nat.le_of_ble_eq_true rfl⟩ MR_MW.o rfl rfl rfl rfl (Nat.le_of_ble_eq_true rfl) ⟨Nat.le_of_ble_eq_true rfl, Nat.le_of_ble_eq_true rfl⟩ (fun _ _ _ q => False.elim q) (fun r w1 sz1 hz hP => ?_)
      obtain ⟨rfl, t72, v72, bf72, sv72, pa72, lb72, ip72, td72, rfl, hJ72, hR72⟩ := hP
      refine x_w MW_MW ?_
      obtain ⟨⟨a72, rfl⟩, hq72, hhq72, htq72, hgq72⟩ := hR72
      refine x_st (st1 := [.int a72, .int 0, .ref (g.2 0 + 258 + 7)]) rfl ?_
      refine x_iast 0 33 C0 dX8_command_32 rfl MR_MW.r_td (by show g.2 0 ≤ _; omega) rfl (vp_in_nI (n := 0) (by omega) (by decide)) ?_
      refine x_w (w1 := (MW g w t72 v72 bf72 sv72 pa72 lb72 ip72 (upd td72 0 a72) sg)) (by rw [show (0 : Int32).toNatClampNeg = 0 from nI_clamp (n := 0) (by omega)]; exact MW_td) ?_
      refine x_iload_n 1 34 C0 dX8_command_33 rfl rfl rfl ?_
      refine x_iconst (v := 1) 35 C0 dX8_command_34 rfl (by decide) ?_
      refine x_icmp_eq 43 38 C0 dX8_command_35 rfl (by decide) (fun c74 => ?_) (fun c74 => ?_)
      · refine x_aload_n 0 44 C0 dX8_command_43 rfl rfl rfl ?_
        refine x_bipush (v := 32) 46 C0 dX8_command_44 rfl (by decide) ?_
        refine x_callV 49 C0 (k_X8_mark l hl g _ _ n t72 v72 bf72 sv72 pa72 lb72 ip72 (upd td72 0 a72) sg MR_MW hJ72 hq72 (by omega) htq72 32 (by decide)) dX8_command_46 rfl mC_X8_mark mM_X8_214 mI_X8_mark mV_X8_mark mN_X8 yd_X8_mark rfl rfl ⟨Nat.le_of_ble_eq_true rfl, Nat.le_of_ble_eq_true rfl⟩ MR_MW.o rfl rfl rfl rfl (Nat.le_of_ble_eq_true rfl) ⟨Nat.le_of_ble_eq_true rfl, Nat.le_of_ble_eq_true rfl⟩ (fun _ _ _ q => False.elim q) (fun r w1 sz1 hz hP => ?_)
        obtain ⟨rfl, t75, v75, bf75, sv75, pa75, lb75, ip75, td75, rfl, hJ75, hR75⟩ := hP
        refine x_w MW_MW ?_
        obtain ⟨rfl, hq75, hhq75, htq75, hgq75, hwq75⟩ := hR75
        refine x_st (st1 := []) rfl ?_
        refine x_aload_n 0 50 C0 dX8_command_49 rfl rfl rfl ?_
        refine x_getf (v := .ref (g.2 0 + 258 + 7)) 15 53 C0 dX8_command_50 rfl MR_MW.o rfl (by decide) inX8 mF_X8_28 rfl ?_
        refine x_iconst (v := 1) 54 C0 dX8_command_53 rfl (by decide) ?_
        refine x_aload_n 0 55 C0 dX8_command_54 rfl rfl rfl ?_
        refine x_iconst (v := 1) 56 C0 dX8_command_55 rfl (by decide) ?_
        refine x_callV 59 C0 (k_X8_number l hl g _ _ n t75 v75 bf75 sv75 pa75 lb75 ip75 td75 sg MR_MW hJ75 hq75 (by omega) htq75 1 (by decide)) dX8_command_56 rfl mC_X8_number mM_X8_211 mI_X8_number mV_X8_number mN_X8 yd_X8_number rfl rfl ⟨Nat.le_of_ble_eq_true rfl, Nat.le_of_ble_eq_true rfl⟩ MR_MW.o rfl rfl rfl rfl (Nat.le_of_ble_eq_true rfl) ⟨Nat.le_of_ble_eq_true rfl, Nat.le_of_ble_eq_true rfl⟩ (fun _ _ _ q => False.elim q) (fun r w1 sz1 hz hP => ?_)
        obtain ⟨rfl, t76, v76, bf76, sv76, pa76, lb76, ip76, td76, rfl, hJ76, hR76⟩ := hP
        refine x_w MW_MW ?_
        obtain ⟨⟨a76, rfl⟩, hq76, hhq76, htq76, hgq76⟩ := hR76
        refine x_st (st1 := [.int a76, .int 1, .ref (g.2 0 + 258 + 7)]) rfl ?_
        refine x_iast 0 60 C0 dX8_command_59 rfl MR_MW.r_td (by show g.2 0 ≤ _; omega) rfl (vp_in_nI (n := 1) (by omega) (by decide)) ?_
        refine x_w (w1 := (MW g w t76 v76 bf76 sv76 pa76 lb76 ip76 (upd td76 1 a76) sg)) (by rw [show (1 : Int32).toNatClampNeg = 1 from nI_clamp (n := 1) (by omega)]; exact MW_td) ?_
        refine x_iload_n 1 61 C0 dX8_command_60 rfl rfl rfl ?_
        refine x_iconst (v := 1) 62 C0 dX8_command_61 rfl (by decide) ?_
        refine x_icmp_ne 112 65 C0 dX8_command_62 rfl (by decide) (fun c78 => ?_) (fun c78 => ?_)
        · refine x_aload_n 0 113 C0 dX8_command_112 rfl rfl rfl ?_
          refine x_getf (v := .int (t76 11)) 19 116 C0 dX8_command_113 rfl MR_MW.o rfl (by decide) inX8 mF_X8_204 rfl ?_
          refine x_if_ne 126 119 C0 dX8_command_116 rfl (by decide) (fun c79 => ?_) (fun c79 => ?_)
          · exact x_return C0 dX8_command_126 rfl (Nat.le_of_ble_eq_true rfl) (Nat.le_of_ble_eq_true rfl) ⟨rfl, _, _, _, _, _, _, _, _, rfl, hJ76, ⟨rfl, hq76, by omega, htq76, by omega⟩⟩
          · refine x_aload_n 0 120 C0 dX8_command_119 rfl rfl rfl ?_
            refine x_getf (v := .int (t76 12)) 20 123 C0 dX8_command_120 rfl MR_MW.o rfl (by decide) inX8 mF_X8_217 rfl ?_
            refine x_if_ne 127 126 C0 dX8_command_123 rfl (by decide) (fun c80 => ?_) (fun c80 => ?_)
            · refine x_aload_n 0 128 C0 dX8_command_127 rfl rfl rfl ?_
              refine x_iload_n 1 129 C0 dX8_command_128 rfl rfl rfl ?_
              refine x_callV 132 C0 (k_X8_does l hl g _ _ n t76 v76 bf76 sv76 pa76 lb76 ip76 (upd td76 1 a76) sg MR_MW hJ76 a1) dX8_command_129 rfl mC_X8_does mM_X8_220 mI_X8_does mV_X8_does mN_X8 yd_X8_does rfl rfl ⟨Nat.le_of_ble_eq_true rfl, Nat.le_of_ble_eq_true rfl⟩ MR_MW.o rfl rfl rfl rfl (Nat.le_of_ble_eq_true rfl) ⟨Nat.le_of_ble_eq_true rfl, Nat.le_of_ble_eq_true rfl⟩ (fun _ _ _ q => False.elim q) (fun r w1 sz1 hz hP => ?_)
              obtain ⟨rfl, t81, v81, bf81, sv81, pa81, lb81, ip81, td81, rfl, hJ81, hR81⟩ := hP
              refine x_w MW_MW ?_
              obtain ⟨⟨a81, rfl⟩, he81⟩ := hR81
              have htq81 := (he81 10 (by decide)).trans htq76
              refine x_st (st1 := [.int a81]) rfl ?_
              refine x_istore_n [(2, .int a81), (0, .ref (g.2 0 + 258)), (1, .int a1)] 133 C0 dX8_command_132 rfl rfl (by decide) rfl ?_
              refine x_lv (lv1 := [(0, .ref (g.2 0 + 258)), (1, .int a1), (2, .int a81)]) [1, 2, 0] rfl ?_
              exact x_return C0 dX8_command_133 rfl (Nat.le_of_ble_eq_true rfl) (Nat.le_of_ble_eq_true rfl) ⟨rfl, _, _, _, _, _, _, _, _, rfl, hJ81, ⟨rfl, hq76, by omega, htq81, by omega⟩⟩
            · exact x_return C0 dX8_command_126 rfl (Nat.le_of_ble_eq_true rfl) (Nat.le_of_ble_eq_true rfl) ⟨rfl, _, _, _, _, _, _, _, _, rfl, hJ76, ⟨rfl, hq76, by omega, htq76, by omega⟩⟩
        · refine x_aload_n 0 66 C0 dX8_command_65 rfl rfl rfl ?_
          refine x_bipush (v := 46) 68 C0 dX8_command_66 rfl (by decide) ?_
          refine x_callV 71 C0 (k_X8_mark l hl g _ _ n t76 v76 bf76 sv76 pa76 lb76 ip76 (upd td76 1 a76) sg MR_MW hJ76 hq76 (by omega) htq76 46 (by decide)) dX8_command_68 rfl mC_X8_mark mM_X8_214 mI_X8_mark mV_X8_mark mN_X8 yd_X8_mark rfl rfl ⟨Nat.le_of_ble_eq_true rfl, Nat.le_of_ble_eq_true rfl⟩ MR_MW.o rfl rfl rfl rfl (Nat.le_of_ble_eq_true rfl) ⟨Nat.le_of_ble_eq_true rfl, Nat.le_of_ble_eq_true rfl⟩ (fun _ _ _ q => False.elim q) (fun r w1 sz1 hz hP => ?_)
          obtain ⟨rfl, t82, v82, bf82, sv82, pa82, lb82, ip82, td82, rfl, hJ82, hR82⟩ := hP
          refine x_w MW_MW ?_
          obtain ⟨rfl, hq82, hhq82, htq82, hgq82, hwq82⟩ := hR82
          refine x_st (st1 := []) rfl ?_
          refine x_aload_n 0 72 C0 dX8_command_71 rfl rfl rfl ?_
          refine x_getf (v := .int (t82 11)) 19 75 C0 dX8_command_72 rfl MR_MW.o rfl (by decide) inX8 mF_X8_204 rfl ?_
          refine x_if_ne 95 78 C0 dX8_command_75 rfl (by decide) (fun c83 => ?_) (fun c83 => ?_)
          · refine x_aload_n 0 96 C0 dX8_command_95 rfl rfl rfl ?_
            refine x_bipush (v := 32) 98 C0 dX8_command_96 rfl (by decide) ?_
            refine x_callV 101 C0 (k_X8_mark l hl g _ _ n t82 v82 bf82 sv82 pa82 lb82 ip82 td82 sg MR_MW hJ82 hq82 (by omega) htq82 32 (by decide)) dX8_command_98 rfl mC_X8_mark mM_X8_214 mI_X8_mark mV_X8_mark mN_X8 yd_X8_mark rfl rfl ⟨Nat.le_of_ble_eq_true rfl, Nat.le_of_ble_eq_true rfl⟩ MR_MW.o rfl rfl rfl rfl (Nat.le_of_ble_eq_true rfl) ⟨Nat.le_of_ble_eq_true rfl, Nat.le_of_ble_eq_true rfl⟩ (fun _ _ _ q => False.elim q) (fun r w1 sz1 hz hP => ?_)
            obtain ⟨rfl, t84, v84, bf84, sv84, pa84, lb84, ip84, td84, rfl, hJ84, hR84⟩ := hP
            refine x_w MW_MW ?_
            obtain ⟨rfl, hq84, hhq84, htq84, hgq84, hwq84⟩ := hR84
            refine x_st (st1 := []) rfl ?_
            refine x_aload_n 0 102 C0 dX8_command_101 rfl rfl rfl ?_
            refine x_getf (v := .ref (g.2 0 + 258 + 7)) 15 105 C0 dX8_command_102 rfl MR_MW.o rfl (by decide) inX8 mF_X8_28 rfl ?_
            refine x_iconst (v := 3) 106 C0 dX8_command_105 rfl (by decide) ?_
            refine x_aload_n 0 107 C0 dX8_command_106 rfl rfl rfl ?_
            refine x_iconst (v := 2) 108 C0 dX8_command_107 rfl (by decide) ?_
            refine x_callV 111 C0 (k_X8_number l hl g _ _ n t84 v84 bf84 sv84 pa84 lb84 ip84 td84 sg MR_MW hJ84 hq84 (by omega) htq84 2 (by decide)) dX8_command_108 rfl mC_X8_number mM_X8_211 mI_X8_number mV_X8_number mN_X8 yd_X8_number rfl rfl ⟨Nat.le_of_ble_eq_true rfl, Nat.le_of_ble_eq_true rfl⟩ MR_MW.o rfl rfl rfl rfl (Nat.le_of_ble_eq_true rfl) ⟨Nat.le_of_ble_eq_true rfl, Nat.le_of_ble_eq_true rfl⟩ (fun _ _ _ q => False.elim q) (fun r w1 sz1 hz hP => ?_)
            obtain ⟨rfl, t85, v85, bf85, sv85, pa85, lb85, ip85, td85, rfl, hJ85, hR85⟩ := hP
            refine x_w MW_MW ?_
            obtain ⟨⟨a85, rfl⟩, hq85, hhq85, htq85, hgq85⟩ := hR85
            refine x_st (st1 := [.int a85, .int 3, .ref (g.2 0 + 258 + 7)]) rfl ?_
            refine x_iast 0 112 C0 dX8_command_111 rfl MR_MW.r_td (by show g.2 0 ≤ _; omega) rfl (vp_in_nI (n := 3) (by omega) (by decide)) ?_
            refine x_w (w1 := (MW g w t85 v85 bf85 sv85 pa85 lb85 ip85 (upd td85 3 a85) sg)) (by rw [show (3 : Int32).toNatClampNeg = 3 from nI_clamp (n := 3) (by omega)]; exact MW_td) ?_
            refine x_aload_n 0 113 C0 dX8_command_112 rfl rfl rfl ?_
            refine x_getf (v := .int (t85 11)) 19 116 C0 dX8_command_113 rfl MR_MW.o rfl (by decide) inX8 mF_X8_204 rfl ?_
            refine x_if_ne 126 119 C0 dX8_command_116 rfl (by decide) (fun c87 => ?_) (fun c87 => ?_)
            · exact x_return C0 dX8_command_126 rfl (Nat.le_of_ble_eq_true rfl) (Nat.le_of_ble_eq_true rfl) ⟨rfl, _, _, _, _, _, _, _, _, rfl, hJ85, ⟨rfl, hq85, by omega, htq85, by omega⟩⟩
            · refine x_aload_n 0 120 C0 dX8_command_119 rfl rfl rfl ?_
              refine x_getf (v := .int (t85 12)) 20 123 C0 dX8_command_120 rfl MR_MW.o rfl (by decide) inX8 mF_X8_217 rfl ?_
              refine x_if_ne 127 126 C0 dX8_command_123 rfl (by decide) (fun c88 => ?_) (fun c88 => ?_)
              · refine x_aload_n 0 128 C0 dX8_command_127 rfl rfl rfl ?_
                refine x_iload_n 1 129 C0 dX8_command_128 rfl rfl rfl ?_
                refine x_callV 132 C0 (k_X8_does l hl g _ _ n t85 v85 bf85 sv85 pa85 lb85 ip85 (upd td85 3 a85) sg MR_MW hJ85 a1) dX8_command_129 rfl mC_X8_does mM_X8_220 mI_X8_does mV_X8_does mN_X8 yd_X8_does rfl rfl ⟨Nat.le_of_ble_eq_true rfl, Nat.le_of_ble_eq_true rfl⟩ MR_MW.o rfl rfl rfl rfl (Nat.le_of_ble_eq_true rfl) ⟨Nat.le_of_ble_eq_true rfl, Nat.le_of_ble_eq_true rfl⟩ (fun _ _ _ q => False.elim q) (fun r w1 sz1 hz hP => ?_)
                obtain ⟨rfl, t89, v89, bf89, sv89, pa89, lb89, ip89, td89, rfl, hJ89, hR89⟩ := hP
                refine x_w MW_MW ?_
                obtain ⟨⟨a89, rfl⟩, he89⟩ := hR89
                have htq89 := (he89 10 (by decide)).trans htq85
                refine x_st (st1 := [.int a89]) rfl ?_
                refine x_istore_n [(2, .int a89), (0, .ref (g.2 0 + 258)), (1, .int a1)] 133 C0 dX8_command_132 rfl rfl (by decide) rfl ?_
                refine x_lv (lv1 := [(0, .ref (g.2 0 + 258)), (1, .int a1), (2, .int a89)]) [1, 2, 0] rfl ?_
                exact x_return C0 dX8_command_133 rfl (Nat.le_of_ble_eq_true rfl) (Nat.le_of_ble_eq_true rfl) ⟨rfl, _, _, _, _, _, _, _, _, rfl, hJ89, ⟨rfl, hq85, by omega, htq89, by omega⟩⟩
              · exact x_return C0 dX8_command_126 rfl (Nat.le_of_ble_eq_true rfl) (Nat.le_of_ble_eq_true rfl) ⟨rfl, _, _, _, _, _, _, _, _, rfl, hJ85, ⟨rfl, hq85, by omega, htq85, by omega⟩⟩
          · refine x_aload_n 0 79 C0 dX8_command_78 rfl rfl rfl ?_
            refine x_getf (v := .ref (g.2 0 + 258 + 7)) 15 82 C0 dX8_command_79 rfl MR_MW.o rfl (by decide) inX8 mF_X8_28 rfl ?_
            refine x_iconst (v := 2) 83 C0 dX8_command_82 rfl (by decide) ?_
            refine x_aload_n 0 84 C0 dX8_command_83 rfl rfl rfl ?_
            refine x_bipush (v := 8) 86 C0 dX8_command_84 rfl (by decide) ?_
            refine x_bipush (v := 10) 88 C0 dX8_command_86 rfl (by decide) ?_
            refine x_callV 91 C0 (k_X8_word l hl g _ _ n t82 v82 bf82 sv82 pa82 lb82 ip82 td82 sg MR_MW hJ82 hq82 (by omega) htq82 8 10 (by decide) (by decide)) dX8_command_88 rfl mC_X8_word mM_X8_208 mI_X8_word mV_X8_word mN_X8 yd_X8_word rfl rfl ⟨Nat.le_of_ble_eq_true rfl, Nat.le_of_ble_eq_true rfl⟩ MR_MW.o rfl rfl rfl rfl (Nat.le_of_ble_eq_true rfl) ⟨Nat.le_of_ble_eq_true rfl, Nat.le_of_ble_eq_true rfl⟩ (fun _ _ _ q => False.elim q) (fun r w1 sz1 hz hP => ?_)
            obtain ⟨rfl, t90, v90, bf90, sv90, pa90, lb90, ip90, td90, rfl, hJ90, hR90⟩ := hP
            refine x_w MW_MW ?_
            obtain ⟨⟨a90, rfl⟩, hq90, hhq90, htq90, hgq90⟩ := hR90
            refine x_st (st1 := [.int a90, .int 2, .ref (g.2 0 + 258 + 7)]) rfl ?_
            refine x_bipush (v := 8) 93 C0 dX8_command_91 rfl (by decide) ?_
            refine x_isub 94 C0 dX8_command_93 rfl ?_
            refine x_iast 0 95 C0 dX8_command_94 rfl MR_MW.r_td (by show g.2 0 ≤ _; omega) rfl (vp_in_nI (n := 2) (by omega) (by decide)) ?_
            refine x_w (w1 := (MW g w t90 v90 bf90 sv90 pa90 lb90 ip90 (upd td90 2 (a90 - 8)) sg)) (by rw [show (2 : Int32).toNatClampNeg = 2 from nI_clamp (n := 2) (by omega)]; exact MW_td) ?_
            refine x_aload_n 0 96 C0 dX8_command_95 rfl rfl rfl ?_
            refine x_bipush (v := 32) 98 C0 dX8_command_96 rfl (by decide) ?_
            refine x_callV 101 C0 (k_X8_mark l hl g _ _ n t90 v90 bf90 sv90 pa90 lb90 ip90 (upd td90 2 (a90 - 8)) sg MR_MW hJ90 hq90 (by omega) htq90 32 (by decide)) dX8_command_98 rfl mC_X8_mark mM_X8_214 mI_X8_mark mV_X8_mark mN_X8 yd_X8_mark rfl rfl ⟨Nat.le_of_ble_eq_true rfl, Nat.le_of_ble_eq_true rfl⟩ MR_MW.o rfl rfl rfl rfl (Nat.le_of_ble_eq_true rfl) ⟨Nat.le_of_ble_eq_true rfl, Nat.le_of_ble_eq_true rfl⟩ (fun _ _ _ q => False.elim q) (fun r w1 sz1 hz hP => ?_)
            obtain ⟨rfl, t92, v92, bf92, sv92, pa92, lb92, ip92, td92, rfl, hJ92, hR92⟩ := hP
            refine x_w MW_MW ?_
            obtain ⟨rfl, hq92, hhq92, htq92, hgq92, hwq92⟩ := hR92
            refine x_st (st1 := []) rfl ?_
            refine x_aload_n 0 102 C0 dX8_command_101 rfl rfl rfl ?_
            refine x_getf (v := .ref (g.2 0 + 258 + 7)) 15 105 C0 dX8_command_102 rfl MR_MW.o rfl (by decide) inX8 mF_X8_28 rfl ?_
            refine x_iconst (v := 3) 106 C0 dX8_command_105 rfl (by decide) ?_
            refine x_aload_n 0 107 C0 dX8_command_106 rfl rfl rfl ?_
            refine x_iconst (v := 2) 108 C0 dX8_command_107 rfl (by decide) ?_
            refine x_callV 111 C0 (k_X8_number l hl g _ _ n t92 v92 bf92 sv92 pa92 lb92 ip92 td92 sg MR_MW hJ92 hq92 (by omega) htq92 2 (by decide)) dX8_command_108 rfl mC_X8_number mM_X8_211 mI_X8_number mV_X8_number mN_X8 yd_X8_number rfl rfl ⟨Nat.le_of_ble_eq_true rfl, Nat.le_of_ble_eq_true rfl⟩ MR_MW.o rfl rfl rfl rfl (Nat.le_of_ble_eq_true rfl) ⟨Nat.le_of_ble_eq_true rfl, Nat.le_of_ble_eq_true rfl⟩ (fun _ _ _ q => False.elim q) (fun r w1 sz1 hz hP => ?_)
            obtain ⟨rfl, t93, v93, bf93, sv93, pa93, lb93, ip93, td93, rfl, hJ93, hR93⟩ := hP
            refine x_w MW_MW ?_
            obtain ⟨⟨a93, rfl⟩, hq93, hhq93, htq93, hgq93⟩ := hR93
            refine x_st (st1 := [.int a93, .int 3, .ref (g.2 0 + 258 + 7)]) rfl ?_
            refine x_iast 0 112 C0 dX8_command_111 rfl MR_MW.r_td (by show g.2 0 ≤ _; omega) rfl (vp_in_nI (n := 3) (by omega) (by decide)) ?_
            refine x_w (w1 := (MW g w t93 v93 bf93 sv93 pa93 lb93 ip93 (upd td93 3 a93) sg)) (by rw [show (3 : Int32).toNatClampNeg = 3 from nI_clamp (n := 3) (by omega)]; exact MW_td) ?_
            refine x_aload_n 0 113 C0 dX8_command_112 rfl rfl rfl ?_
            refine x_getf (v := .int (t93 11)) 19 116 C0 dX8_command_113 rfl MR_MW.o rfl (by decide) inX8 mF_X8_204 rfl ?_
            refine x_if_ne 126 119 C0 dX8_command_116 rfl (by decide) (fun c95 => ?_) (fun c95 => ?_)
            · exact x_return C0 dX8_command_126 rfl (Nat.le_of_ble_eq_true rfl) (Nat.le_of_ble_eq_true rfl) ⟨rfl, _, _, _, _, _, _, _, _, rfl, hJ93, ⟨rfl, hq93, by omega, htq93, by omega⟩⟩
            · refine x_aload_n 0 120 C0 dX8_command_119 rfl rfl rfl ?_
              refine x_getf (v := .int (t93 12)) 20 123 C0 dX8_command_120 rfl MR_MW.o rfl (by decide) inX8 mF_X8_217 rfl ?_
              refine x_if_ne 127 126 C0 dX8_command_123 rfl (by decide) (fun c96 => ?_) (fun c96 => ?_)
              · refine x_aload_n 0 128 C0 dX8_command_127 rfl rfl rfl ?_
                refine x_iload_n 1 129 C0 dX8_command_128 rfl rfl rfl ?_
                refine x_callV 132 C0 (k_X8_does l hl g _ _ n t93 v93 bf93 sv93 pa93 lb93 ip93 (upd td93 3 a93) sg MR_MW hJ93 a1) dX8_command_129 rfl mC_X8_does mM_X8_220 mI_X8_does mV_X8_does mN_X8 yd_X8_does rfl rfl ⟨Nat.le_of_ble_eq_true rfl, Nat.le_of_ble_eq_true rfl⟩ MR_MW.o rfl rfl rfl rfl (Nat.le_of_ble_eq_true rfl) ⟨Nat.le_of_ble_eq_true rfl, Nat.le_of_ble_eq_true rfl⟩ (fun _ _ _ q => False.elim q) (fun r w1 sz1 hz hP => ?_)
                obtain ⟨rfl, t97, v97, bf97, sv97, pa97, lb97, ip97, td97, rfl, hJ97, hR97⟩ := hP
                refine x_w MW_MW ?_
                obtain ⟨⟨a97, rfl⟩, he97⟩ := hR97
                have htq97 := (he97 10 (by decide)).trans htq93
                refine x_st (st1 := [.int a97]) rfl ?_
                refine x_istore_n [(2, .int a97), (0, .ref (g.2 0 + 258)), (1, .int a1)] 133 C0 dX8_command_132 rfl rfl (by decide) rfl ?_
                refine x_lv (lv1 := [(0, .ref (g.2 0 + 258)), (1, .int a1), (2, .int a97)]) [1, 2, 0] rfl ?_
                exact x_return C0 dX8_command_133 rfl (Nat.le_of_ble_eq_true rfl) (Nat.le_of_ble_eq_true rfl) ⟨rfl, _, _, _, _, _, _, _, _, rfl, hJ97, ⟨rfl, hq93, by omega, htq97, by omega⟩⟩
              · exact x_return C0 dX8_command_126 rfl (Nat.le_of_ble_eq_true rfl) (Nat.le_of_ble_eq_true rfl) ⟨rfl, _, _, _, _, _, _, _, _, rfl, hJ93, ⟨rfl, hq93, by omega, htq93, by omega⟩⟩
      · refine x_iload_n 1 39 C0 dX8_command_38 rfl rfl rfl ?_
        refine x_iconst (v := 2) 40 C0 dX8_command_39 rfl (by decide) ?_
        refine x_icmp_ne 60 43 C0 dX8_command_40 rfl (by decide) (fun c98 => ?_) (fun c98 => ?_)
        · refine x_iload_n 1 61 C0 dX8_command_60 rfl rfl rfl ?_
          refine x_iconst (v := 1) 62 C0 dX8_command_61 rfl (by decide) ?_
          refine x_icmp_ne 112 65 C0 dX8_command_62 rfl (by decide) (fun c99 => ?_) (fun c99 => ?_)
          · refine x_aload_n 0 113 C0 dX8_command_112 rfl rfl rfl ?_
            refine x_getf (v := .int (t72 11)) 19 116 C0 dX8_command_113 rfl MR_MW.o rfl (by decide) inX8 mF_X8_204 rfl ?_
            refine x_if_ne 126 119 C0 dX8_command_116 rfl (by decide) (fun c100 => ?_) (fun c100 => ?_)
            · exact x_return C0 dX8_command_126 rfl (Nat.le_of_ble_eq_true rfl) (Nat.le_of_ble_eq_true rfl) ⟨rfl, _, _, _, _, _, _, _, _, rfl, hJ72, ⟨rfl, hq72, by omega, htq72, by omega⟩⟩
            · refine x_aload_n 0 120 C0 dX8_command_119 rfl rfl rfl ?_
              refine x_getf (v := .int (t72 12)) 20 123 C0 dX8_command_120 rfl MR_MW.o rfl (by decide) inX8 mF_X8_217 rfl ?_
              refine x_if_ne 127 126 C0 dX8_command_123 rfl (by decide) (fun c101 => ?_) (fun c101 => ?_)
              · refine x_aload_n 0 128 C0 dX8_command_127 rfl rfl rfl ?_
                refine x_iload_n 1 129 C0 dX8_command_128 rfl rfl rfl ?_
                refine x_callV 132 C0 (k_X8_does l hl g _ _ n t72 v72 bf72 sv72 pa72 lb72 ip72 (upd td72 0 a72) sg MR_MW hJ72 a1) dX8_command_129 rfl mC_X8_does mM_X8_220 mI_X8_does mV_X8_does mN_X8 yd_X8_does rfl rfl ⟨Nat.le_of_ble_eq_true rfl, Nat.le_of_ble_eq_true rfl⟩ MR_MW.o rfl rfl rfl rfl (Nat.le_of_ble_eq_true rfl) ⟨Nat.le_of_ble_eq_true rfl, Nat.le_of_ble_eq_true rfl⟩ (fun _ _ _ q => False.elim q) (fun r w1 sz1 hz hP => ?_)
                obtain ⟨rfl, t102, v102, bf102, sv102, pa102, lb102, ip102, td102, rfl, hJ102, hR102⟩ := hP
                refine x_w MW_MW ?_
                obtain ⟨⟨a102, rfl⟩, he102⟩ := hR102
                have htq102 := (he102 10 (by decide)).trans htq72
                refine x_st (st1 := [.int a102]) rfl ?_
                refine x_istore_n [(2, .int a102), (0, .ref (g.2 0 + 258)), (1, .int a1)] 133 C0 dX8_command_132 rfl rfl (by decide) rfl ?_
                refine x_lv (lv1 := [(0, .ref (g.2 0 + 258)), (1, .int a1), (2, .int a102)]) [1, 2, 0] rfl ?_
                exact x_return C0 dX8_command_133 rfl (Nat.le_of_ble_eq_true rfl) (Nat.le_of_ble_eq_true rfl) ⟨rfl, _, _, _, _, _, _, _, _, rfl, hJ102, ⟨rfl, hq72, by omega, htq102, by omega⟩⟩
              · exact x_return C0 dX8_command_126 rfl (Nat.le_of_ble_eq_true rfl) (Nat.le_of_ble_eq_true rfl) ⟨rfl, _, _, _, _, _, _, _, _, rfl, hJ72, ⟨rfl, hq72, by omega, htq72, by omega⟩⟩
          · refine x_aload_n 0 66 C0 dX8_command_65 rfl rfl rfl ?_
            refine x_bipush (v := 46) 68 C0 dX8_command_66 rfl (by decide) ?_
            refine x_callV 71 C0 (k_X8_mark l hl g _ _ n t72 v72 bf72 sv72 pa72 lb72 ip72 (upd td72 0 a72) sg MR_MW hJ72 hq72 (by omega) htq72 46 (by decide)) dX8_command_68 rfl mC_X8_mark mM_X8_214 mI_X8_mark mV_X8_mark mN_X8 yd_X8_mark rfl rfl ⟨Nat.le_of_ble_eq_true rfl, Nat.le_of_ble_eq_true rfl⟩ MR_MW.o rfl rfl rfl rfl (Nat.le_of_ble_eq_true rfl) ⟨Nat.le_of_ble_eq_true rfl, Nat.le_of_ble_eq_true rfl⟩ (fun _ _ _ q => False.elim q) (fun r w1 sz1 hz hP => ?_)
            obtain ⟨rfl, t103, v103, bf103, sv103, pa103, lb103, ip103, td103, rfl, hJ103, hR103⟩ := hP
            refine x_w MW_MW ?_
            obtain ⟨rfl, hq103, hhq103, htq103, hgq103, hwq103⟩ := hR103
            refine x_st (st1 := []) rfl ?_
            refine x_aload_n 0 72 C0 dX8_command_71 rfl rfl rfl ?_
            refine x_getf (v := .int (t103 11)) 19 75 C0 dX8_command_72 rfl MR_MW.o rfl (by decide) inX8 mF_X8_204 rfl ?_
            refine x_if_ne 95 78 C0 dX8_command_75 rfl (by decide) (fun c104 => ?_) (fun c104 => ?_)
            · refine x_aload_n 0 96 C0 dX8_command_95 rfl rfl rfl ?_
              refine x_bipush (v := 32) 98 C0 dX8_command_96 rfl (by decide) ?_
              refine x_callV 101 C0 (k_X8_mark l hl g _ _ n t103 v103 bf103 sv103 pa103 lb103 ip103 td103 sg MR_MW hJ103 hq103 (by omega) htq103 32 (by decide)) dX8_command_98 rfl mC_X8_mark mM_X8_214 mI_X8_mark mV_X8_mark mN_X8 yd_X8_mark rfl rfl ⟨Nat.le_of_ble_eq_true rfl, Nat.le_of_ble_eq_true rfl⟩ MR_MW.o rfl rfl rfl rfl (Nat.le_of_ble_eq_true rfl) ⟨Nat.le_of_ble_eq_true rfl, Nat.le_of_ble_eq_true rfl⟩ (fun _ _ _ q => False.elim q) (fun r w1 sz1 hz hP => ?_)
              obtain ⟨rfl, t105, v105, bf105, sv105, pa105, lb105, ip105, td105, rfl, hJ105, hR105⟩ := hP
              refine x_w MW_MW ?_
              obtain ⟨rfl, hq105, hhq105, htq105, hgq105, hwq105⟩ := hR105
              refine x_st (st1 := []) rfl ?_
              refine x_aload_n 0 102 C0 dX8_command_101 rfl rfl rfl ?_
              refine x_getf (v := .ref (g.2 0 + 258 + 7)) 15 105 C0 dX8_command_102 rfl MR_MW.o rfl (by decide) inX8 mF_X8_28 rfl ?_
              refine x_iconst (v := 3) 106 C0 dX8_command_105 rfl (by decide) ?_
              refine x_aload_n 0 107 C0 dX8_command_106 rfl rfl rfl ?_
              refine x_iconst (v := 2) 108 C0 dX8_command_107 rfl (by decide) ?_
              refine x_callV 111 C0 (k_X8_number l hl g _ _ n t105 v105 bf105 sv105 pa105 lb105 ip105 td105 sg MR_MW hJ105 hq105 (by omega) htq105 2 (by decide)) dX8_command_108 rfl mC_X8_number mM_X8_211 mI_X8_number mV_X8_number mN_X8 yd_X8_number rfl rfl ⟨Nat.le_of_ble_eq_true rfl, Nat.le_of_ble_eq_true rfl⟩ MR_MW.o rfl rfl rfl rfl (Nat.le_of_ble_eq_true rfl) ⟨Nat.le_of_ble_eq_true rfl, Nat.le_of_ble_eq_true rfl⟩ (fun _ _ _ q => False.elim q) (fun r w1 sz1 hz hP => ?_)
              obtain ⟨rfl, t106, v106, bf106, sv106, pa106, lb106, ip106, td106, rfl, hJ106, hR106⟩ := hP
              refine x_w MW_MW ?_
              obtain ⟨⟨a106, rfl⟩, hq106, hhq106, htq106, hgq106⟩ := hR106
              refine x_st (st1 := [.int a106, .int 3, .ref (g.2 0 + 258 + 7)]) rfl ?_
              refine x_iast 0 112 C0 dX8_command_111 rfl MR_MW.r_td (by show g.2 0 ≤ _; omega) rfl (vp_in_nI (n := 3) (by omega) (by decide)) ?_
              refine x_w (w1 := (MW g w t106 v106 bf106 sv106 pa106 lb106 ip106 (upd td106 3 a106) sg)) (by rw [show (3 : Int32).toNatClampNeg = 3 from nI_clamp (n := 3) (by omega)]; exact MW_td) ?_
              refine x_aload_n 0 113 C0 dX8_command_112 rfl rfl rfl ?_
              refine x_getf (v := .int (t106 11)) 19 116 C0 dX8_command_113 rfl MR_MW.o rfl (by decide) inX8 mF_X8_204 rfl ?_
              refine x_if_ne 126 119 C0 dX8_command_116 rfl (by decide) (fun c108 => ?_) (fun c108 => ?_)
              · exact x_return C0 dX8_command_126 rfl (Nat.le_of_ble_eq_true rfl) (Nat.le_of_ble_eq_true rfl) ⟨rfl, _, _, _, _, _, _, _, _, rfl, hJ106, ⟨rfl, hq106, by omega, htq106, by omega⟩⟩
              · refine x_aload_n 0 120 C0 dX8_command_119 rfl rfl rfl ?_
                refine x_getf (v := .int (t106 12)) 20 123 C0 dX8_command_120 rfl MR_MW.o rfl (by decide) inX8 mF_X8_217 rfl ?_
                refine x_if_ne 127 126 C0 dX8_command_123 rfl (by decide) (fun c109 => ?_) (fun c109 => ?_)
                · refine x_aload_n 0 128 C0 dX8_command_127 rfl rfl rfl ?_
                  refine x_iload_n 1 129 C0 dX8_command_128 rfl rfl rfl ?_
                  refine x_callV 132 C0 (k_X8_does l hl g _ _ n t106 v106 bf106 sv106 pa106 lb106 ip106 (upd td106 3 a106) sg MR_MW hJ106 a1) dX8_command_129 rfl mC_X8_does mM_X8_220 mI_X8_does mV_X8_does mN_X8 yd_X8_does rfl rfl ⟨Nat.le_of_ble_eq_true rfl, Nat.le_of_ble_eq_true rfl⟩ MR_MW.o rfl rfl rfl rfl (Nat.le_of_ble_eq_true rfl) ⟨Nat.le_of_ble_eq_true rfl, Nat.le_of_ble_eq_true rfl⟩ (fun _ _ _ q => False.elim q) (fun r w1 sz1 hz hP => ?_)
                  obtain ⟨rfl, t110, v110, bf110, sv110, pa110, lb110, ip110, td110, rfl, hJ110, hR110⟩ := hP
                  refine x_w MW_MW ?_
                  obtain ⟨⟨a110, rfl⟩, he110⟩ := hR110
                  have htq110 := (he110 10 (by decide)).trans htq106
                  refine x_st (st1 := [.int a110]) rfl ?_
                  refine x_istore_n [(2, .int a110), (0, .ref (g.2 0 + 258)), (1, .int a1)] 133 C0 dX8_command_132 rfl rfl (by decide) rfl ?_
                  refine x_lv (lv1 := [(0, .ref (g.2 0 + 258)), (1, .int a1), (2, .int a110)]) [1, 2, 0] rfl ?_
                  exact x_return C0 dX8_command_133 rfl (Nat.le_of_ble_eq_true rfl) (Nat.le_of_ble_eq_true rfl) ⟨rfl, _, _, _, _, _, _, _, _, rfl, hJ110, ⟨rfl, hq106, by omega, htq110, by omega⟩⟩
                · exact x_return C0 dX8_command_126 rfl (Nat.le_of_ble_eq_true rfl) (Nat.le_of_ble_eq_true rfl) ⟨rfl, _, _, _, _, _, _, _, _, rfl, hJ106, ⟨rfl, hq106, by omega, htq106, by omega⟩⟩
            · refine x_aload_n 0 79 C0 dX8_command_78 rfl rfl rfl ?_
              refine x_getf (v := .ref (g.2 0 + 258 + 7)) 15 82 C0 dX8_command_79 rfl MR_MW.o rfl (by decide) inX8 mF_X8_28 rfl ?_
              refine x_iconst (v := 2) 83 C0 dX8_command_82 rfl (by decide) ?_
              refine x_aload_n 0 84 C0 dX8_command_83 rfl rfl rfl ?_
              refine x_bipush (v := 8) 86 C0 dX8_command_84 rfl (by decide) ?_
              refine x_bipush (v := 10) 88 C0 dX8_command_86 rfl (by decide) ?_
              refine x_callV 91 C0 (k_X8_word l hl g _ _ n t103 v103 bf103 sv103 pa103 lb103 ip103 td103 sg MR_MW hJ103 hq103 (by omega) htq103 8 10 (by decide) (by decide)) dX8_command_88 rfl mC_X8_word mM_X8_208 mI_X8_word mV_X8_word mN_X8 yd_X8_word rfl rfl ⟨Nat.le_of_ble_eq_true rfl, Nat.le_of_ble_eq_true rfl⟩ MR_MW.o rfl rfl rfl rfl (Nat.le_of_ble_eq_true rfl) ⟨Nat.le_of_ble_eq_true rfl, Nat.le_of_ble_eq_true rfl⟩ (fun _ _ _ q => False.elim q) (fun r w1 sz1 hz hP => ?_)
              obtain ⟨rfl, t111, v111, bf111, sv111, pa111, lb111, ip111, td111, rfl, hJ111, hR111⟩ := hP
              refine x_w MW_MW ?_
              obtain ⟨⟨a111, rfl⟩, hq111, hhq111, htq111, hgq111⟩ := hR111
              refine x_st (st1 := [.int a111, .int 2, .ref (g.2 0 + 258 + 7)]) rfl ?_
              refine x_bipush (v := 8) 93 C0 dX8_command_91 rfl (by decide) ?_
              refine x_isub 94 C0 dX8_command_93 rfl ?_
              refine x_iast 0 95 C0 dX8_command_94 rfl MR_MW.r_td (by show g.2 0 ≤ _; omega) rfl (vp_in_nI (n := 2) (by omega) (by decide)) ?_
              refine x_w (w1 := (MW g w t111 v111 bf111 sv111 pa111 lb111 ip111 (upd td111 2 (a111 - 8)) sg)) (by rw [show (2 : Int32).toNatClampNeg = 2 from nI_clamp (n := 2) (by omega)]; exact MW_td) ?_
              refine x_aload_n 0 96 C0 dX8_command_95 rfl rfl rfl ?_
              refine x_bipush (v := 32) 98 C0 dX8_command_96 rfl (by decide) ?_
              refine x_callV 101 C0 (k_X8_mark l hl g _ _ n t111 v111 bf111 sv111 pa111 lb111 ip111 (upd td111 2 (a111 - 8)) sg MR_MW hJ111 hq111 (by omega) htq111 32 (by decide)) dX8_command_98 rfl mC_X8_mark mM_X8_214 mI_X8_mark mV_X8_mark mN_X8 yd_X8_mark rfl rfl ⟨Nat.le_of_ble_eq_true rfl, Nat.le_of_ble_eq_true rfl⟩ MR_MW.o rfl rfl rfl rfl (Nat.le_of_ble_eq_true rfl) ⟨Nat.le_of_ble_eq_true rfl, Nat.le_of_ble_eq_true rfl⟩ (fun _ _ _ q => False.elim q) (fun r w1 sz1 hz hP => ?_)
              obtain ⟨rfl, t113, v113, bf113, sv113, pa113, lb113, ip113, td113, rfl, hJ113, hR113⟩ := hP
              refine x_w MW_MW ?_
              obtain ⟨rfl, hq113, hhq113, htq113, hgq113, hwq113⟩ := hR113
              refine x_st (st1 := []) rfl ?_
              refine x_aload_n 0 102 C0 dX8_command_101 rfl rfl rfl ?_
              refine x_getf (v := .ref (g.2 0 + 258 + 7)) 15 105 C0 dX8_command_102 rfl MR_MW.o rfl (by decide) inX8 mF_X8_28 rfl ?_
              refine x_iconst (v := 3) 106 C0 dX8_command_105 rfl (by decide) ?_
              refine x_aload_n 0 107 C0 dX8_command_106 rfl rfl rfl ?_
              refine x_iconst (v := 2) 108 C0 dX8_command_107 rfl (by decide) ?_
              refine x_callV 111 C0 (k_X8_number l hl g _ _ n t113 v113 bf113 sv113 pa113 lb113 ip113 td113 sg MR_MW hJ113 hq113 (by omega) htq113 2 (by decide)) dX8_command_108 rfl mC_X8_number mM_X8_211 mI_X8_number mV_X8_number mN_X8 yd_X8_number rfl rfl ⟨Nat.le_of_ble_eq_true rfl, Nat.le_of_ble_eq_true rfl⟩ MR_MW.o rfl rfl rfl rfl (Nat.le_of_ble_eq_true rfl) ⟨Nat.le_of_ble_eq_true rfl, Nat.le_of_ble_eq_true rfl⟩ (fun _ _ _ q => False.elim q) (fun r w1 sz1 hz hP => ?_)
              obtain ⟨rfl, t114, v114, bf114, sv114, pa114, lb114, ip114, td114, rfl, hJ114, hR114⟩ := hP
              refine x_w MW_MW ?_
              obtain ⟨⟨a114, rfl⟩, hq114, hhq114, htq114, hgq114⟩ := hR114
              refine x_st (st1 := [.int a114, .int 3, .ref (g.2 0 + 258 + 7)]) rfl ?_
              refine x_iast 0 112 C0 dX8_command_111 rfl MR_MW.r_td (by show g.2 0 ≤ _; omega) rfl (vp_in_nI (n := 3) (by omega) (by decide)) ?_
              refine x_w (w1 := (MW g w t114 v114 bf114 sv114 pa114 lb114 ip114 (upd td114 3 a114) sg)) (by rw [show (3 : Int32).toNatClampNeg = 3 from nI_clamp (n := 3) (by omega)]; exact MW_td) ?_
              refine x_aload_n 0 113 C0 dX8_command_112 rfl rfl rfl ?_
              refine x_getf (v := .int (t114 11)) 19 116 C0 dX8_command_113 rfl MR_MW.o rfl (by decide) inX8 mF_X8_204 rfl ?_
              refine x_if_ne 126 119 C0 dX8_command_116 rfl (by decide) (fun c116 => ?_) (fun c116 => ?_)
              · exact x_return C0 dX8_command_126 rfl (Nat.le_of_ble_eq_true rfl) (Nat.le_of_ble_eq_true rfl) ⟨rfl, _, _, _, _, _, _, _, _, rfl, hJ114, ⟨rfl, hq114, by omega, htq114, by omega⟩⟩
              · refine x_aload_n 0 120 C0 dX8_command_119 rfl rfl rfl ?_
                refine x_getf (v := .int (t114 12)) 20 123 C0 dX8_command_120 rfl MR_MW.o rfl (by decide) inX8 mF_X8_217 rfl ?_
                refine x_if_ne 127 126 C0 dX8_command_123 rfl (by decide) (fun c117 => ?_) (fun c117 => ?_)
                · refine x_aload_n 0 128 C0 dX8_command_127 rfl rfl rfl ?_
                  refine x_iload_n 1 129 C0 dX8_command_128 rfl rfl rfl ?_
                  refine x_callV 132 C0 (k_X8_does l hl g _ _ n t114 v114 bf114 sv114 pa114 lb114 ip114 (upd td114 3 a114) sg MR_MW hJ114 a1) dX8_command_129 rfl mC_X8_does mM_X8_220 mI_X8_does mV_X8_does mN_X8 yd_X8_does rfl rfl ⟨Nat.le_of_ble_eq_true rfl, Nat.le_of_ble_eq_true rfl⟩ MR_MW.o rfl rfl rfl rfl (Nat.le_of_ble_eq_true rfl) ⟨Nat.le_of_ble_eq_true rfl, Nat.le_of_ble_eq_true rfl⟩ (fun _ _ _ q => False.elim q) (fun r w1 sz1 hz hP => ?_)
                  obtain ⟨rfl, t118, v118, bf118, sv118, pa118, lb118, ip118, td118, rfl, hJ118, hR118⟩ := hP
                  refine x_w MW_MW ?_
                  obtain ⟨⟨a118, rfl⟩, he118⟩ := hR118
                  have htq118 := (he118 10 (by decide)).trans htq114
                  refine x_st (st1 := [.int a118]) rfl ?_
                  refine x_istore_n [(2, .int a118), (0, .ref (g.2 0 + 258)), (1, .int a1)] 133 C0 dX8_command_132 rfl rfl (by decide) rfl ?_
                  refine x_lv (lv1 := [(0, .ref (g.2 0 + 258)), (1, .int a1), (2, .int a118)]) [1, 2, 0] rfl ?_
                  exact x_return C0 dX8_command_133 rfl (Nat.le_of_ble_eq_true rfl) (Nat.le_of_ble_eq_true rfl) ⟨rfl, _, _, _, _, _, _, _, _, rfl, hJ118, ⟨rfl, hq114, by omega, htq118, by omega⟩⟩
                · exact x_return C0 dX8_command_126 rfl (Nat.le_of_ble_eq_true rfl) (Nat.le_of_ble_eq_true rfl) ⟨rfl, _, _, _, _, _, _, _, _, rfl, hJ114, ⟨rfl, hq114, by omega, htq114, by omega⟩⟩
        · refine x_aload_n 0 44 C0 dX8_command_43 rfl rfl rfl ?_
          refine x_bipush (v := 32) 46 C0 dX8_command_44 rfl (by decide) ?_
          refine x_callV 49 C0 (k_X8_mark l hl g _ _ n t72 v72 bf72 sv72 pa72 lb72 ip72 (upd td72 0 a72) sg MR_MW hJ72 hq72 (by omega) htq72 32 (by decide)) dX8_command_46 rfl mC_X8_mark mM_X8_214 mI_X8_mark mV_X8_mark mN_X8 yd_X8_mark rfl rfl ⟨Nat.le_of_ble_eq_true rfl, Nat.le_of_ble_eq_true rfl⟩ MR_MW.o rfl rfl rfl rfl (Nat.le_of_ble_eq_true rfl) ⟨Nat.le_of_ble_eq_true rfl, Nat.le_of_ble_eq_true rfl⟩ (fun _ _ _ q => False.elim q) (fun r w1 sz1 hz hP => ?_)
          obtain ⟨rfl, t119, v119, bf119, sv119, pa119, lb119, ip119, td119, rfl, hJ119, hR119⟩ := hP
          refine x_w MW_MW ?_
          obtain ⟨rfl, hq119, hhq119, htq119, hgq119, hwq119⟩ := hR119
          refine x_st (st1 := []) rfl ?_
          refine x_aload_n 0 50 C0 dX8_command_49 rfl rfl rfl ?_
          refine x_getf (v := .ref (g.2 0 + 258 + 7)) 15 53 C0 dX8_command_50 rfl MR_MW.o rfl (by decide) inX8 mF_X8_28 rfl ?_
          refine x_iconst (v := 1) 54 C0 dX8_command_53 rfl (by decide) ?_
          refine x_aload_n 0 55 C0 dX8_command_54 rfl rfl rfl ?_
          refine x_iconst (v := 1) 56 C0 dX8_command_55 rfl (by decide) ?_
          refine x_callV 59 C0 (k_X8_number l hl g _ _ n t119 v119 bf119 sv119 pa119 lb119 ip119 td119 sg MR_MW hJ119 hq119 (by omega) htq119 1 (by decide)) dX8_command_56 rfl mC_X8_number mM_X8_211 mI_X8_number mV_X8_number mN_X8 yd_X8_number rfl rfl ⟨Nat.le_of_ble_eq_true rfl, Nat.le_of_ble_eq_true rfl⟩ MR_MW.o rfl rfl rfl rfl (Nat.le_of_ble_eq_true rfl) ⟨Nat.le_of_ble_eq_true rfl, Nat.le_of_ble_eq_true rfl⟩ (fun _ _ _ q => False.elim q) (fun r w1 sz1 hz hP => ?_)
          obtain ⟨rfl, t120, v120, bf120, sv120, pa120, lb120, ip120, td120, rfl, hJ120, hR120⟩ := hP
          refine x_w MW_MW ?_
          obtain ⟨⟨a120, rfl⟩, hq120, hhq120, htq120, hgq120⟩ := hR120
          refine x_st (st1 := [.int a120, .int 1, .ref (g.2 0 + 258 + 7)]) rfl ?_
          refine x_iast 0 60 C0 dX8_command_59 rfl MR_MW.r_td (by show g.2 0 ≤ _; omega) rfl (vp_in_nI (n := 1) (by omega) (by decide)) ?_
          refine x_w (w1 := (MW g w t120 v120 bf120 sv120 pa120 lb120 ip120 (upd td120 1 a120) sg)) (by rw [show (1 : Int32).toNatClampNeg = 1 from nI_clamp (n := 1) (by omega)]; exact MW_td) ?_
          refine x_iload_n 1 61 C0 dX8_command_60 rfl rfl rfl ?_
          refine x_iconst (v := 1) 62 C0 dX8_command_61 rfl (by decide) ?_
          refine x_icmp_ne 112 65 C0 dX8_command_62 rfl (by decide) (fun c122 => ?_) (fun c122 => ?_)
          · refine x_aload_n 0 113 C0 dX8_command_112 rfl rfl rfl ?_
            refine x_getf (v := .int (t120 11)) 19 116 C0 dX8_command_113 rfl MR_MW.o rfl (by decide) inX8 mF_X8_204 rfl ?_
            refine x_if_ne 126 119 C0 dX8_command_116 rfl (by decide) (fun c123 => ?_) (fun c123 => ?_)
            · exact x_return C0 dX8_command_126 rfl (Nat.le_of_ble_eq_true rfl) (Nat.le_of_ble_eq_true rfl) ⟨rfl, _, _, _, _, _, _, _, _, rfl, hJ120, ⟨rfl, hq120, by omega, htq120, by omega⟩⟩
            · refine x_aload_n 0 120 C0 dX8_command_119 rfl rfl rfl ?_
              refine x_getf (v := .int (t120 12)) 20 123 C0 dX8_command_120 rfl MR_MW.o rfl (by decide) inX8 mF_X8_217 rfl ?_
              refine x_if_ne 127 126 C0 dX8_command_123 rfl (by decide) (fun c124 => ?_) (fun c124 => ?_)
              · refine x_aload_n 0 128 C0 dX8_command_127 rfl rfl rfl ?_
                refine x_iload_n 1 129 C0 dX8_command_128 rfl rfl rfl ?_
                refine x_callV 132 C0 (k_X8_does l hl g _ _ n t120 v120 bf120 sv120 pa120 lb120 ip120 (upd td120 1 a120) sg MR_MW hJ120 a1) dX8_command_129 rfl mC_X8_does mM_X8_220 mI_X8_does mV_X8_does mN_X8 yd_X8_does rfl rfl ⟨Nat.le_of_ble_eq_true rfl, Nat.le_of_ble_eq_true rfl⟩ MR_MW.o rfl rfl rfl rfl (Nat.le_of_ble_eq_true rfl) ⟨Nat.le_of_ble_eq_true rfl, Nat.le_of_ble_eq_true rfl⟩ (fun _ _ _ q => False.elim q) (fun r w1 sz1 hz hP => ?_)
                obtain ⟨rfl, t125, v125, bf125, sv125, pa125, lb125, ip125, td125, rfl, hJ125, hR125⟩ := hP
                refine x_w MW_MW ?_
                obtain ⟨⟨a125, rfl⟩, he125⟩ := hR125
                have htq125 := (he125 10 (by decide)).trans htq120
                refine x_st (st1 := [.int a125]) rfl ?_
                refine x_istore_n [(2, .int a125), (0, .ref (g.2 0 + 258)), (1, .int a1)] 133 C0 dX8_command_132 rfl rfl (by decide) rfl ?_
                refine x_lv (lv1 := [(0, .ref (g.2 0 + 258)), (1, .int a1), (2, .int a125)]) [1, 2, 0] rfl ?_
                exact x_return C0 dX8_command_133 rfl (Nat.le_of_ble_eq_true rfl) (Nat.le_of_ble_eq_true rfl) ⟨rfl, _, _, _, _, _, _, _, _, rfl, hJ125, ⟨rfl, hq120, by omega, htq125, by omega⟩⟩
              · exact x_return C0 dX8_command_126 rfl (Nat.le_of_ble_eq_true rfl) (Nat.le_of_ble_eq_true rfl) ⟨rfl, _, _, _, _, _, _, _, _, rfl, hJ120, ⟨rfl, hq120, by omega, htq120, by omega⟩⟩
          · refine x_aload_n 0 66 C0 dX8_command_65 rfl rfl rfl ?_
            refine x_bipush (v := 46) 68 C0 dX8_command_66 rfl (by decide) ?_
            refine x_callV 71 C0 (k_X8_mark l hl g _ _ n t120 v120 bf120 sv120 pa120 lb120 ip120 (upd td120 1 a120) sg MR_MW hJ120 hq120 (by omega) htq120 46 (by decide)) dX8_command_68 rfl mC_X8_mark mM_X8_214 mI_X8_mark mV_X8_mark mN_X8 yd_X8_mark rfl rfl ⟨Nat.le_of_ble_eq_true rfl, Nat.le_of_ble_eq_true rfl⟩ MR_MW.o rfl rfl rfl rfl (Nat.le_of_ble_eq_true rfl) ⟨Nat.le_of_ble_eq_true rfl, Nat.le_of_ble_eq_true rfl⟩ (fun _ _ _ q => False.elim q) (fun r w1 sz1 hz hP => ?_)
            obtain ⟨rfl, t126, v126, bf126, sv126, pa126, lb126, ip126, td126, rfl, hJ126, hR126⟩ := hP
            refine x_w MW_MW ?_
            obtain ⟨rfl, hq126, hhq126, htq126, hgq126, hwq126⟩ := hR126
            refine x_st (st1 := []) rfl ?_
            refine x_aload_n 0 72 C0 dX8_command_71 rfl rfl rfl ?_
            refine x_getf (v := .int (t126 11)) 19 75 C0 dX8_command_72 rfl MR_MW.o rfl (by decide) inX8 mF_X8_204 rfl ?_
            refine x_if_ne 95 78 C0 dX8_command_75 rfl (by decide) (fun c127 => ?_) (fun c127 => ?_)
            · refine x_aload_n 0 96 C0 dX8_command_95 rfl rfl rfl ?_
              refine x_bipush (v := 32) 98 C0 dX8_command_96 rfl (by decide) ?_
              refine x_callV 101 C0 (k_X8_mark l hl g _ _ n t126 v126 bf126 sv126 pa126 lb126 ip126 td126 sg MR_MW hJ126 hq126 (by omega) htq126 32 (by decide)) dX8_command_98 rfl mC_X8_mark mM_X8_214 mI_X8_mark mV_X8_mark mN_X8 yd_X8_mark rfl rfl ⟨Nat.le_of_ble_eq_true rfl, Nat.le_of_ble_eq_true rfl⟩ MR_MW.o rfl rfl rfl rfl (Nat.le_of_ble_eq_true rfl) ⟨Nat.le_of_ble_eq_true rfl, Nat.le_of_ble_eq_true rfl⟩ (fun _ _ _ q => False.elim q) (fun r w1 sz1 hz hP => ?_)
              obtain ⟨rfl, t128, v128, bf128, sv128, pa128, lb128, ip128, td128, rfl, hJ128, hR128⟩ := hP
              refine x_w MW_MW ?_
              obtain ⟨rfl, hq128, hhq128, htq128, hgq128, hwq128⟩ := hR128
              refine x_st (st1 := []) rfl ?_
              refine x_aload_n 0 102 C0 dX8_command_101 rfl rfl rfl ?_
              refine x_getf (v := .ref (g.2 0 + 258 + 7)) 15 105 C0 dX8_command_102 rfl MR_MW.o rfl (by decide) inX8 mF_X8_28 rfl ?_
              refine x_iconst (v := 3) 106 C0 dX8_command_105 rfl (by decide) ?_
              refine x_aload_n 0 107 C0 dX8_command_106 rfl rfl rfl ?_
              refine x_iconst (v := 2) 108 C0 dX8_command_107 rfl (by decide) ?_
              refine x_callV 111 C0 (k_X8_number l hl g _ _ n t128 v128 bf128 sv128 pa128 lb128 ip128 td128 sg MR_MW hJ128 hq128 (by omega) htq128 2 (by decide)) dX8_command_108 rfl mC_X8_number mM_X8_211 mI_X8_number mV_X8_number mN_X8 yd_X8_number rfl rfl ⟨Nat.le_of_ble_eq_true rfl, Nat.le_of_ble_eq_true rfl⟩ MR_MW.o rfl rfl rfl rfl (Nat.le_of_ble_eq_true rfl) ⟨Nat.le_of_ble_eq_true rfl, Nat.le_of_ble_eq_true rfl⟩ (fun _ _ _ q => False.elim q) (fun r w1 sz1 hz hP => ?_)
              obtain ⟨rfl, t129, v129, bf129, sv129, pa129, lb129, ip129, td129, rfl, hJ129, hR129⟩ := hP
              refine x_w MW_MW ?_
              obtain ⟨⟨a129, rfl⟩, hq129, hhq129, htq129, hgq129⟩ := hR129
              refine x_st (st1 := [.int a129, .int 3, .ref (g.2 0 + 258 + 7)]) rfl ?_
              refine x_iast 0 112 C0 dX8_command_111 rfl MR_MW.r_td (by show g.2 0 ≤ _; omega) rfl (vp_in_nI (n := 3) (by omega) (by decide)) ?_
              refine x_w (w1 := (MW g w t129 v129 bf129 sv129 pa129 lb129 ip129 (upd td129 3 a129) sg)) (by rw [show (3 : Int32).toNatClampNeg = 3 from nI_clamp (n := 3) (by omega)]; exact MW_td) ?_
              refine x_aload_n 0 113 C0 dX8_command_112 rfl rfl rfl ?_
              refine x_getf (v := .int (t129 11)) 19 116 C0 dX8_command_113 rfl MR_MW.o rfl (by decide) inX8 mF_X8_204 rfl ?_
              refine x_if_ne 126 119 C0 dX8_command_116 rfl (by decide) (fun c131 => ?_) (fun c131 => ?_)
              · exact x_return C0 dX8_command_126 rfl (Nat.le_of_ble_eq_true rfl) (Nat.le_of_ble_eq_true rfl) ⟨rfl, _, _, _, _, _, _, _, _, rfl, hJ129, ⟨rfl, hq129, by omega, htq129, by omega⟩⟩
              · refine x_aload_n 0 120 C0 dX8_command_119 rfl rfl rfl ?_
                refine x_getf (v := .int (t129 12)) 20 123 C0 dX8_command_120 rfl MR_MW.o rfl (by decide) inX8 mF_X8_217 rfl ?_
                refine x_if_ne 127 126 C0 dX8_command_123 rfl (by decide) (fun c132 => ?_) (fun c132 => ?_)
                · refine x_aload_n 0 128 C0 dX8_command_127 rfl rfl rfl ?_
                  refine x_iload_n 1 129 C0 dX8_command_128 rfl rfl rfl ?_
                  refine x_callV 132 C0 (k_X8_does l hl g _ _ n t129 v129 bf129 sv129 pa129 lb129 ip129 (upd td129 3 a129) sg MR_MW hJ129 a1) dX8_command_129 rfl mC_X8_does mM_X8_220 mI_X8_does mV_X8_does mN_X8 yd_X8_does rfl rfl ⟨Nat.le_of_ble_eq_true rfl, Nat.le_of_ble_eq_true rfl⟩ MR_MW.o rfl rfl rfl rfl (Nat.le_of_ble_eq_true rfl) ⟨Nat.le_of_ble_eq_true rfl, Nat.le_of_ble_eq_true rfl⟩ (fun _ _ _ q => False.elim q) (fun r w1 sz1 hz hP => ?_)
                  obtain ⟨rfl, t133, v133, bf133, sv133, pa133, lb133, ip133, td133, rfl, hJ133, hR133⟩ := hP
                  refine x_w MW_MW ?_
                  obtain ⟨⟨a133, rfl⟩, he133⟩ := hR133
                  have htq133 := (he133 10 (by decide)).trans htq129
                  refine x_st (st1 := [.int a133]) rfl ?_
                  refine x_istore_n [(2, .int a133), (0, .ref (g.2 0 + 258)), (1, .int a1)] 133 C0 dX8_command_132 rfl rfl (by decide) rfl ?_
                  refine x_lv (lv1 := [(0, .ref (g.2 0 + 258)), (1, .int a1), (2, .int a133)]) [1, 2, 0] rfl ?_
                  exact x_return C0 dX8_command_133 rfl (Nat.le_of_ble_eq_true rfl) (Nat.le_of_ble_eq_true rfl) ⟨rfl, _, _, _, _, _, _, _, _, rfl, hJ133, ⟨rfl, hq129, by omega, htq133, by omega⟩⟩
                · exact x_return C0 dX8_command_126 rfl (Nat.le_of_ble_eq_true rfl) (Nat.le_of_ble_eq_true rfl) ⟨rfl, _, _, _, _, _, _, _, _, rfl, hJ129, ⟨rfl, hq129, by omega, htq129, by omega⟩⟩
            · refine x_aload_n 0 79 C0 dX8_command_78 rfl rfl rfl ?_
              refine x_getf (v := .ref (g.2 0 + 258 + 7)) 15 82 C0 dX8_command_79 rfl MR_MW.o rfl (by decide) inX8 mF_X8_28 rfl ?_
              refine x_iconst (v := 2) 83 C0 dX8_command_82 rfl (by decide) ?_
              refine x_aload_n 0 84 C0 dX8_command_83 rfl rfl rfl ?_
              refine x_bipush (v := 8) 86 C0 dX8_command_84 rfl (by decide) ?_
              refine x_bipush (v := 10) 88 C0 dX8_command_86 rfl (by decide) ?_
              refine x_callV 91 C0 (k_X8_word l hl g _ _ n t126 v126 bf126 sv126 pa126 lb126 ip126 td126 sg MR_MW hJ126 hq126 (by omega) htq126 8 10 (by decide) (by decide)) dX8_command_88 rfl mC_X8_word mM_X8_208 mI_X8_word mV_X8_word mN_X8 yd_X8_word rfl rfl ⟨Nat.le_of_ble_eq_true rfl, Nat.le_of_ble_eq_true rfl⟩ MR_MW.o rfl rfl rfl rfl (Nat.le_of_ble_eq_true rfl) ⟨Nat.le_of_ble_eq_true rfl, Nat.le_of_ble_eq_true rfl⟩ (fun _ _ _ q => False.elim q) (fun r w1 sz1 hz hP => ?_)
              obtain ⟨rfl, t134, v134, bf134, sv134, pa134, lb134, ip134, td134, rfl, hJ134, hR134⟩ := hP
              refine x_w MW_MW ?_
              obtain ⟨⟨a134, rfl⟩, hq134, hhq134, htq134, hgq134⟩ := hR134
              refine x_st (st1 := [.int a134, .int 2, .ref (g.2 0 + 258 + 7)]) rfl ?_
              refine x_bipush (v := 8) 93 C0 dX8_command_91 rfl (by decide) ?_
              refine x_isub 94 C0 dX8_command_93 rfl ?_
              refine x_iast 0 95 C0 dX8_command_94 rfl MR_MW.r_td (by show g.2 0 ≤ _; omega) rfl (vp_in_nI (n := 2) (by omega) (by decide)) ?_
              refine x_w (w1 := (MW g w t134 v134 bf134 sv134 pa134 lb134 ip134 (upd td134 2 (a134 - 8)) sg)) (by rw [show (2 : Int32).toNatClampNeg = 2 from nI_clamp (n := 2) (by omega)]; exact MW_td) ?_
              refine x_aload_n 0 96 C0 dX8_command_95 rfl rfl rfl ?_
              refine x_bipush (v := 32) 98 C0 dX8_command_96 rfl (by decide) ?_
              refine x_callV 101 C0 (k_X8_mark l hl g _ _ n t134 v134 bf134 sv134 pa134 lb134 ip134 (upd td134 2 (a134 - 8)) sg MR_MW hJ134 hq134 (by omega) htq134 32 (by decide)) dX8_command_98 rfl mC_X8_mark mM_X8_214 mI_X8_mark mV_X8_mark mN_X8 yd_X8_mark rfl rfl ⟨Nat.le_of_ble_eq_true rfl, Nat.le_of_ble_eq_true rfl⟩ MR_MW.o rfl rfl rfl rfl (Nat.le_of_ble_eq_true rfl) ⟨Nat.le_of_ble_eq_true rfl, Nat.le_of_ble_eq_true rfl⟩ (fun _ _ _ q => False.elim q) (fun r w1 sz1 hz hP => ?_)
              obtain ⟨rfl, t136, v136, bf136, sv136, pa136, lb136, ip136, td136, rfl, hJ136, hR136⟩ := hP
              refine x_w MW_MW ?_
              obtain ⟨rfl, hq136, hhq136, htq136, hgq136, hwq136⟩ := hR136
              refine x_st (st1 := []) rfl ?_
              refine x_aload_n 0 102 C0 dX8_command_101 rfl rfl rfl ?_
              refine x_getf (v := .ref (g.2 0 + 258 + 7)) 15 105 C0 dX8_command_102 rfl MR_MW.o rfl (by decide) inX8 mF_X8_28 rfl ?_
              refine x_iconst (v := 3) 106 C0 dX8_command_105 rfl (by decide) ?_
              refine x_aload_n 0 107 C0 dX8_command_106 rfl rfl rfl ?_
              refine x_iconst (v := 2) 108 C0 dX8_command_107 rfl (by decide) ?_
              refine x_callV 111 C0 (k_X8_number l hl g _ _ n t136 v136 bf136 sv136 pa136 lb136 ip136 td136 sg MR_MW hJ136 hq136 (by omega) htq136 2 (by decide)) dX8_command_108 rfl mC_X8_number mM_X8_211 mI_X8_number mV_X8_number mN_X8 yd_X8_number rfl rfl ⟨Nat.le_of_ble_eq_true rfl, Nat.le_of_ble_eq_true rfl⟩ MR_MW.o rfl rfl rfl rfl (Nat.le_of_ble_eq_true rfl) ⟨Nat.le_of_ble_eq_true rfl, Nat.le_of_ble_eq_true rfl⟩ (fun _ _ _ q => False.elim q) (fun r w1 sz1 hz hP => ?_)
              obtain ⟨rfl, t137, v137, bf137, sv137, pa137, lb137, ip137, td137, rfl, hJ137, hR137⟩ := hP
              refine x_w MW_MW ?_
              obtain ⟨⟨a137, rfl⟩, hq137, hhq137, htq137, hgq137⟩ := hR137
              refine x_st (st1 := [.int a137, .int 3, .ref (g.2 0 + 258 + 7)]) rfl ?_
              refine x_iast 0 112 C0 dX8_command_111 rfl MR_MW.r_td (by show g.2 0 ≤ _; omega) rfl (vp_in_nI (n := 3) (by omega) (by decide)) ?_
              refine x_w (w1 := (MW g w t137 v137 bf137 sv137 pa137 lb137 ip137 (upd td137 3 a137) sg)) (by rw [show (3 : Int32).toNatClampNeg = 3 from nI_clamp (n := 3) (by omega)]; exact MW_td) ?_
              refine x_aload_n 0 113 C0 dX8_command_112 rfl rfl rfl ?_
              refine x_getf (v := .int (t137 11)) 19 116 C0 dX8_command_113 rfl MR_MW.o rfl (by decide) inX8 mF_X8_204 rfl ?_
              refine x_if_ne 126 119 C0 dX8_command_116 rfl (by decide) (fun c139 => ?_) (fun c139 => ?_)
              · exact x_return C0 dX8_command_126 rfl (Nat.le_of_ble_eq_true rfl) (Nat.le_of_ble_eq_true rfl) ⟨rfl, _, _, _, _, _, _, _, _, rfl, hJ137, ⟨rfl, hq137, by omega, htq137, by omega⟩⟩
              · refine x_aload_n 0 120 C0 dX8_command_119 rfl rfl rfl ?_
                refine x_getf (v := .int (t137 12)) 20 123 C0 dX8_command_120 rfl MR_MW.o rfl (by decide) inX8 mF_X8_217 rfl ?_
                refine x_if_ne 127 126 C0 dX8_command_123 rfl (by decide) (fun c140 => ?_) (fun c140 => ?_)
                · refine x_aload_n 0 128 C0 dX8_command_127 rfl rfl rfl ?_
                  refine x_iload_n 1 129 C0 dX8_command_128 rfl rfl rfl ?_
                  refine x_callV 132 C0 (k_X8_does l hl g _ _ n t137 v137 bf137 sv137 pa137 lb137 ip137 (upd td137 3 a137) sg MR_MW hJ137 a1) dX8_command_129 rfl mC_X8_does mM_X8_220 mI_X8_does mV_X8_does mN_X8 yd_X8_does rfl rfl ⟨Nat.le_of_ble_eq_true rfl, Nat.le_of_ble_eq_true rfl⟩ MR_MW.o rfl rfl rfl rfl (Nat.le_of_ble_eq_true rfl) ⟨Nat.le_of_ble_eq_true rfl, Nat.le_of_ble_eq_true rfl⟩ (fun _ _ _ q => False.elim q) (fun r w1 sz1 hz hP => ?_)
                  obtain ⟨rfl, t141, v141, bf141, sv141, pa141, lb141, ip141, td141, rfl, hJ141, hR141⟩ := hP
                  refine x_w MW_MW ?_
                  obtain ⟨⟨a141, rfl⟩, he141⟩ := hR141
                  have htq141 := (he141 10 (by decide)).trans htq137
                  refine x_st (st1 := [.int a141]) rfl ?_
                  refine x_istore_n [(2, .int a141), (0, .ref (g.2 0 + 258)), (1, .int a1)] 133 C0 dX8_command_132 rfl rfl (by decide) rfl ?_
                  refine x_lv (lv1 := [(0, .ref (g.2 0 + 258)), (1, .int a1), (2, .int a141)]) [1, 2, 0] rfl ?_
                  exact x_return C0 dX8_command_133 rfl (Nat.le_of_ble_eq_true rfl) (Nat.le_of_ble_eq_true rfl) ⟨rfl, _, _, _, _, _, _, _, _, rfl, hJ141, ⟨rfl, hq137, by omega, htq141, by omega⟩⟩
                · exact x_return C0 dX8_command_126 rfl (Nat.le_of_ble_eq_true rfl) (Nat.le_of_ble_eq_true rfl) ⟨rfl, _, _, _, _, _, _, _, _, rfl, hJ137, ⟨rfl, hq137, by omega, htq137, by omega⟩⟩
  · exact x_return C0 dX8_command_15 rfl (Nat.le_of_ble_eq_true rfl) (Nat.le_of_ble_eq_true rfl) ⟨rfl, _, _, _, _, _, _, _, _, rfl, hJ1, ⟨rfl, hq1, by omega, htq1, by omega⟩⟩

set_option maxHeartbeats 4000000 in
set_option maxRecDepth 100000 in
theorem k_X8_commands (l : Launch) (hl : l.stackTraces = false) (g : xg_T) (w : xw_T) (sz n : Nat) (t v bf sv pa lb ip td sg : Nat → Int32) (hM : MR g w t v bf sv pa lb ip td sg) (hJ : MJ n t v bf sv pa sg) : xM l g yX8_commands cX8_commands 2 (some .int) ({ frames := 6, cells := 0, slots := 0, locals := 135 }) 0 0 [.ref (g.2 0 + 258)] w sz (mP g w sz n sg mA) (fun _ _ _ => False) := by
  have hn60 := hJ.2.2.2.2.2.2.1
  refine xM.of RX8 hl (by decide +kernel) rfl (Nat.le_of_ble_eq_true rfl) rfl ?_
  intro p e s m args below meth cD C0 hini
  refine x_aload_n 0 1 C0 dX8_commands_0 rfl rfl rfl ?_
  refine x_iconst (v := 0) 2 C0 dX8_commands_1 rfl (by decide) ?_
  refine x_w (MW_self hM) ?_
  refine x_putf 18 5 C0 dX8_commands_2 rfl MR_MW.o (by show g.2 0 ≤ _; omega) rfl (by decide) inX8 tyX8_ok nmX8 mF_X8_198 rfl rfl rfl rfl (Nat.le_of_ble_eq_true rfl) ?_
  refine x_w (w1 := (MW g w (upd t 10 0) v bf sv pa lb ip td sg)) (MW_o rfl) ?_
  have hJ1 : MJ n (upd t 10 0) v bf sv pa sg := hJ.j_h (m := 0) (by decide) nI_0.symm
  refine x_aload_n 0 6 C0 dX8_commands_5 rfl rfl rfl ?_
  refine x_iconst (v := 0) 7 C0 dX8_commands_6 rfl (by decide) ?_
  refine x_putf 19 10 C0 dX8_commands_7 rfl MR_MW.o (by show g.2 0 ≤ _; omega) rfl (by decide) inX8 tyX8_ok nmX8 mF_X8_204 rfl rfl rfl rfl (Nat.le_of_ble_eq_true rfl) ?_
  refine x_w (w1 := (MW g w (upd (upd t 10 0) 11 0) v bf sv pa lb ip td sg)) (MW_o rfl) ?_
  have hJ2 : MJ n (upd (upd t 10 0) 11 0) v bf sv pa sg := hJ1.j_t (by decide)
  refine x_iconst (v := 1) 11 C0 dX8_commands_10 rfl (by decide) ?_
  refine x_istore_n [(1, .int 1), (0, .ref (g.2 0 + 258))] 12 C0 dX8_commands_11 rfl rfl (by decide) rfl ?_
  refine x_lv (lv1 := [(0, .ref (g.2 0 + 258)), (1, .int 1)]) [1, 0] rfl ?_
  refine x_aload_n 0 13 C0 dX8_commands_12 rfl rfl rfl ?_
  refine x_callV 16 C0 (k_X8_command l hl g _ _ n (upd (upd t 10 0) 11 0) v bf sv pa lb ip td sg MR_MW hJ2 0 (by omega) rfl) dX8_commands_13 rfl mC_X8_command mM_X8_223 mI_X8_command mV_X8_command mN_X8 yd_X8_command rfl rfl ⟨Nat.le_of_ble_eq_true rfl, Nat.le_of_ble_eq_true rfl⟩ MR_MW.o rfl rfl rfl rfl (Nat.le_of_ble_eq_true rfl) ⟨Nat.le_of_ble_eq_true rfl, Nat.le_of_ble_eq_true rfl⟩ (fun _ _ _ q => False.elim q) (fun r w1 sz1 hz hP => ?_)
  obtain ⟨rfl, t3, v3, bf3, sv3, pa3, lb3, ip3, td3, rfl, hJ3, hR3⟩ := hP
  refine x_w MW_MW ?_
  obtain ⟨rfl, hq3, hhq3, htq3, hgq3⟩ := hR3
  refine x_st (st1 := []) rfl ?_
  have hX : ∀ (tl vl bfl svl pal lbl ipl tdl : Nat → Int32) (nn : Int32), MJ n tl vl bfl svl pal sg → ¬ tl 11 = 0 → xV p l e ({ frames := 6, cells := 0, slots := 0, locals := 135 }) s m args below meth cD (xQ g below (mP g w sz n sg mA) (fun _ _ _ => False) args s 0 0) g 2 (MW g w tl vl bfl svl pal lbl ipl tdl sg) sz (0 + 0) (0 + 0) 16 [(0, .ref (g.2 0 + 258)), (1, .int nn)] [] := by
    intro tl vl bfl svl pal lbl ipl tdl nn hJl hw9
    refine x_aload_n 0 17 C0 dX8_commands_16 rfl rfl rfl ?_
    refine x_getf (v := .int (tl 11)) 19 20 C0 dX8_commands_17 rfl MR_MW.o rfl (by decide) inX8 mF_X8_204 rfl ?_
    refine x_if_ne 64 23 C0 dX8_commands_20 rfl (by decide) (fun c9 => ?_) (fun c9 => absurd c9 hw9)
    refine x_iload_n 1 65 C0 dX8_commands_64 rfl rfl rfl ?_
    exact x_ireturn C0 dX8_commands_65 rfl rfl (Nat.le_of_ble_eq_true rfl) (Nat.le_of_ble_eq_true rfl) ⟨rfl, _, _, _, _, _, _, _, _, rfl, hJl, ⟨_, rfl⟩⟩
  have loop16 : ∀ (N hv : Nat) (tl vl bfl svl pal lbl ipl tdl : Nat → Int32) (nn : Int32), 60 - hv < N → MJ n tl vl bfl svl pal sg → hv ≤ 60 → tl 10 = nI hv → xV p l e ({ frames := 6, cells := 0, slots := 0, locals := 135 }) s m args below meth cD (xQ g below (mP g w sz n sg mA) (fun _ _ _ => False) args s 0 0) g 2 (MW g w tl vl bfl svl pal lbl ipl tdl sg) sz (0 + 0) (0 + 0) 16 [(0, .ref (g.2 0 + 258)), (1, .int nn)] [] := by
    intro N
    induction N with
    | zero => intro hv tl vl bfl svl pal lbl ipl tdl nn h1; omega
    | succ N ih =>
      intro hv tl vl bfl svl pal lbl ipl tdl nn hN hJl hhv htv
      refine x_aload_n 0 17 C0 dX8_commands_16 rfl rfl rfl ?_
      refine x_getf (v := .int (tl 11)) 19 20 C0 dX8_commands_17 rfl MR_MW.o rfl (by decide) inX8 mF_X8_204 rfl ?_
      refine x_if_ne 64 23 C0 dX8_commands_20 rfl (by decide) (fun c4 => ?_) (fun c4 => ?_)
      · refine x_iload_n 1 65 C0 dX8_commands_64 rfl rfl rfl ?_
        exact x_ireturn C0 dX8_commands_65 rfl rfl (Nat.le_of_ble_eq_true rfl) (Nat.le_of_ble_eq_true rfl) ⟨rfl, _, _, _, _, _, _, _, _, rfl, hJl, ⟨_, rfl⟩⟩
      · refine x_aload_n 0 24 C0 dX8_commands_23 rfl rfl rfl ?_
        refine x_getf (v := .int (tl 1)) 1 27 C0 dX8_commands_24 rfl MR_MW.o rfl (by decide) inX8 mF_X8_38 rfl ?_
        refine x_if_ne 64 30 C0 dX8_commands_27 rfl (by decide) (fun c5 => ?_) (fun c5 => ?_)
        · refine x_iload_n 1 65 C0 dX8_commands_64 rfl rfl rfl ?_
          exact x_ireturn C0 dX8_commands_65 rfl rfl (Nat.le_of_ble_eq_true rfl) (Nat.le_of_ble_eq_true rfl) ⟨rfl, _, _, _, _, _, _, _, _, rfl, hJl, ⟨_, rfl⟩⟩
        · refine x_aload_n 0 31 C0 dX8_commands_30 rfl rfl rfl ?_
          refine x_getf (v := .int (tl 10)) 18 34 C0 dX8_commands_31 rfl MR_MW.o rfl (by decide) inX8 mF_X8_198 rfl ?_
          refine x_st (st1 := [.int (nI hv)]) (congrArg (fun z => Value.int z :: _) (htv)) ?_
          refine x_aload_n 0 35 C0 dX8_commands_34 rfl rfl rfl ?_
          refine x_getf (v := .int (tl 9)) 17 38 C0 dX8_commands_35 rfl MR_MW.o rfl (by decide) inX8 mF_X8_195 rfl ?_
          refine x_st (st1 := [.int (nI n), .int (nI hv)]) (congrArg (fun z => Value.int z :: _) (hJl.2.2.2.2.2.1)) ?_
          refine x_icmp_ge 64 41 C0 dX8_commands_38 rfl (by decide) (fun c6 => ?_) (fun c6 => ?_)
          · have c6' := Int32.not_lt.mpr c6
            refine x_iload_n 1 65 C0 dX8_commands_64 rfl rfl rfl ?_
            exact x_ireturn C0 dX8_commands_65 rfl rfl (Nat.le_of_ble_eq_true rfl) (Nat.le_of_ble_eq_true rfl) ⟨rfl, _, _, _, _, _, _, _, _, rfl, hJl, ⟨_, rfl⟩⟩
          · have c6' := Int32.not_le.mp c6
            refine x_aload_n 0 42 C0 dX8_commands_41 rfl rfl rfl ?_
            refine x_bipush (v := 59) 44 C0 dX8_commands_42 rfl (by decide) ?_
            refine x_callV 47 C0 (k_X8_mark l hl g _ _ n tl vl bfl svl pal lbl ipl tdl sg MR_MW hJl hv (by omega) htv 59 (by decide)) dX8_commands_44 rfl mC_X8_mark mM_X8_214 mI_X8_mark mV_X8_mark mN_X8 yd_X8_mark rfl rfl ⟨Nat.le_of_ble_eq_true rfl, Nat.le_of_ble_eq_true rfl⟩ MR_MW.o rfl rfl rfl rfl (Nat.le_of_ble_eq_true rfl) ⟨Nat.le_of_ble_eq_true rfl, Nat.le_of_ble_eq_true rfl⟩ (fun _ _ _ q => False.elim q) (fun r w1 sz1 hz hP => ?_)
            obtain ⟨rfl, t7, v7, bf7, sv7, pa7, lb7, ip7, td7, rfl, hJ7, hR7⟩ := hP
            refine x_w MW_MW ?_
            obtain ⟨rfl, hq7, hhq7, htq7, hgq7, hwq7⟩ := hR7
            refine x_st (st1 := []) rfl ?_
            refine x_aload_n 0 48 C0 dX8_commands_47 rfl rfl rfl ?_
            refine x_getf (v := .int (t7 11)) 19 51 C0 dX8_commands_48 rfl MR_MW.o rfl (by decide) inX8 mF_X8_204 rfl ?_
            refine x_if_ne 58 54 C0 dX8_commands_51 rfl (by decide) (fun c8 => ?_) (fun c8 => ?_)
            · refine x_iinc [(1, .int (nn + 1)), (0, .ref (g.2 0 + 258))] 1 61 C0 dX8_commands_58 rfl rfl rfl (by decide) rfl ?_
              refine x_lv (lv1 := [(0, .ref (g.2 0 + 258)), (1, .int (nn + 1))]) [1, 0] rfl ?_
              refine x_goto 16 C0 dX8_commands_61 (by decide) ?_
              exact hX _ _ _ _ _ _ _ _ _ hJ7 c8
            · have hadv := hwq7 c8
              refine x_aload_n 0 55 C0 dX8_commands_54 rfl rfl rfl ?_
              refine x_callV 58 C0 (k_X8_command l hl g _ _ n t7 v7 bf7 sv7 pa7 lb7 ip7 td7 sg MR_MW hJ7 hq7 (by omega) htq7) dX8_commands_55 rfl mC_X8_command mM_X8_223 mI_X8_command mV_X8_command mN_X8 yd_X8_command rfl rfl ⟨Nat.le_of_ble_eq_true rfl, Nat.le_of_ble_eq_true rfl⟩ MR_MW.o rfl rfl rfl rfl (Nat.le_of_ble_eq_true rfl) ⟨Nat.le_of_ble_eq_true rfl, Nat.le_of_ble_eq_true rfl⟩ (fun _ _ _ q => False.elim q) (fun r w1 sz1 hz hP => ?_)
              obtain ⟨rfl, t9, v9, bf9, sv9, pa9, lb9, ip9, td9, rfl, hJ9, hR9⟩ := hP
              refine x_w MW_MW ?_
              obtain ⟨rfl, hq9, hhq9, htq9, hgq9⟩ := hR9
              refine x_st (st1 := []) rfl ?_
              refine x_iinc [(1, .int (nn + 1)), (0, .ref (g.2 0 + 258))] 1 61 C0 dX8_commands_58 rfl rfl rfl (by decide) rfl ?_
              refine x_lv (lv1 := [(0, .ref (g.2 0 + 258)), (1, .int (nn + 1))]) [1, 0] rfl ?_
              refine x_goto 16 C0 dX8_commands_61 (by decide) ?_
              exact ih _ _ _ _ _ _ _ _ _ _ (by omega) hJ9 (by omega) htq9
  exact loop16 61 hq3 _ _ _ _ _ _ _ _ _ (by omega) hJ3 (by omega) htq3

set_option maxHeartbeats 4000000 in
set_option maxRecDepth 100000 in
theorem k_X8_perform (l : Launch) (hl : l.stackTraces = false) (g : xg_T) (w : xw_T) (sz n : Nat) (t v bf sv pa lb ip td sg : Nat → Int32) (hM : MR g w t v bf sv pa lb ip td sg) (hJ : MJ n t v bf sv pa sg) : xM l g yX8_perform cX8_perform 2 (some .int) ({ frames := 7, cells := 0, slots := 0, locals := 156 }) 0 0 [.ref (g.2 0 + 258)] w sz (mP g w sz 0 sg mA) (fun _ _ _ => False) := by
  refine xM.of RX8 hl (by decide +kernel) rfl (Nat.le_of_ble_eq_true rfl) rfl ?_
  intro p e s m args below meth cD C0 hini
  refine x_aload_n 0 1 C0 dX8_perform_0 rfl rfl rfl ?_
  refine x_callV 4 C0 (k_X8_begins l hl g _ _ n t v bf sv pa lb ip td sg hM hJ) dX8_perform_1 rfl mC_X8_begins mM_X8_85 mI_X8_begins mV_X8_begins mN_X8 yd_X8_begins rfl rfl ⟨Nat.le_of_ble_eq_true rfl, Nat.le_of_ble_eq_true rfl⟩ hM.o rfl rfl rfl rfl (Nat.le_of_ble_eq_true rfl) ⟨Nat.le_of_ble_eq_true rfl, Nat.le_of_ble_eq_true rfl⟩ (fun _ _ _ q => False.elim q) (fun r w1 sz1 hz hP => ?_)
  obtain ⟨rfl, rfl, bf1, rfl, hJ1, hb1⟩ := hP
  refine x_st (st1 := []) rfl ?_
  refine x_aload_n 0 5 C0 dX8_perform_4 rfl rfl rfl ?_
  refine x_iconst (v := 0) 6 C0 dX8_perform_5 rfl (by decide) ?_
  refine x_putf 20 9 C0 dX8_perform_6 rfl MR_MW.o (by show g.2 0 ≤ _; omega) rfl (by decide) inX8 tyX8_ok nmX8 mF_X8_217 rfl rfl rfl rfl (Nat.le_of_ble_eq_true rfl) ?_
  refine x_w (w1 := (MW g w (upd (upd (upd t 0 0) 1 0) 12 0) v bf1 sv pa lb ip td sg)) (MW_o rfl) ?_
  have hJ2 : MJ n (upd (upd (upd t 0 0) 1 0) 12 0) v bf1 sv pa sg := hJ1.j_t (by decide)
  refine x_aload_n 0 10 C0 dX8_perform_9 rfl rfl rfl ?_
  refine x_callV 13 C0 (k_X8_commands l hl g _ _ n (upd (upd (upd t 0 0) 1 0) 12 0) v bf1 sv pa lb ip td sg MR_MW hJ2) dX8_perform_10 rfl mC_X8_commands mM_X8_226 mI_X8_commands mV_X8_commands mN_X8 yd_X8_commands rfl rfl ⟨Nat.le_of_ble_eq_true rfl, Nat.le_of_ble_eq_true rfl⟩ MR_MW.o rfl rfl rfl rfl (Nat.le_of_ble_eq_true rfl) ⟨Nat.le_of_ble_eq_true rfl, Nat.le_of_ble_eq_true rfl⟩ (fun _ _ _ q => False.elim q) (fun r w1 sz1 hz hP => ?_)
  obtain ⟨rfl, t3, v3, bf3, sv3, pa3, lb3, ip3, td3, rfl, hJ3, hR3⟩ := hP
  refine x_w MW_MW ?_
  obtain ⟨a3, rfl⟩ := hR3
  refine x_st (st1 := [.int a3]) rfl ?_
  refine x_istore_n [(1, .int a3), (0, .ref (g.2 0 + 258))] 14 C0 dX8_perform_13 rfl rfl (by decide) rfl ?_
  refine x_lv (lv1 := [(0, .ref (g.2 0 + 258)), (1, .int a3)]) [1, 0] rfl ?_
  refine x_aload_n 0 15 C0 dX8_perform_14 rfl rfl rfl ?_
  refine x_getf (v := .int (t3 11)) 19 18 C0 dX8_perform_15 rfl MR_MW.o rfl (by decide) inX8 mF_X8_204 rfl ?_
  refine x_if_eq 34 21 C0 dX8_perform_18 rfl (by decide) (fun c4 => ?_) (fun c4 => ?_)
  · refine x_aload_n 0 35 C0 dX8_perform_34 rfl rfl rfl ?_
    refine x_iconst (v := 1) 36 C0 dX8_perform_35 rfl (by decide) ?_
    refine x_putf 20 39 C0 dX8_perform_36 rfl MR_MW.o (by show g.2 0 ≤ _; omega) rfl (by decide) inX8 tyX8_ok nmX8 mF_X8_217 rfl rfl rfl rfl (Nat.le_of_ble_eq_true rfl) ?_
    refine x_w (w1 := (MW g w (upd t3 12 1) v3 bf3 sv3 pa3 lb3 ip3 td3 sg)) (MW_o rfl) ?_
    have hJ5 : MJ n (upd t3 12 1) v3 bf3 sv3 pa3 sg := hJ3.j_t (by decide)
    refine x_aload_n 0 40 C0 dX8_perform_39 rfl rfl rfl ?_
    refine x_callV 43 C0 (k_X8_commands l hl g _ _ n (upd t3 12 1) v3 bf3 sv3 pa3 lb3 ip3 td3 sg MR_MW hJ5) dX8_perform_40 rfl mC_X8_commands mM_X8_226 mI_X8_commands mV_X8_commands mN_X8 yd_X8_commands rfl rfl ⟨Nat.le_of_ble_eq_true rfl, Nat.le_of_ble_eq_true rfl⟩ MR_MW.o rfl rfl rfl rfl (Nat.le_of_ble_eq_true rfl) ⟨Nat.le_of_ble_eq_true rfl, Nat.le_of_ble_eq_true rfl⟩ (fun _ _ _ q => False.elim q) (fun r w1 sz1 hz hP => ?_)
    obtain ⟨rfl, t6, v6, bf6, sv6, pa6, lb6, ip6, td6, rfl, hJ6, hR6⟩ := hP
    refine x_w MW_MW ?_
    obtain ⟨a6, rfl⟩ := hR6
    refine x_st (st1 := [.int a6]) rfl ?_
    refine x_istore_n [(1, .int a6), (0, .ref (g.2 0 + 258))] 44 C0 dX8_perform_43 rfl rfl (by decide) rfl ?_
    refine x_lv (lv1 := [(0, .ref (g.2 0 + 258)), (1, .int a6)]) [1, 0] rfl ?_
    refine x_aload_n 0 45 C0 dX8_perform_44 rfl rfl rfl ?_
    refine x_iconst (v := 0) 46 C0 dX8_perform_45 rfl (by decide) ?_
    refine x_putf 17 49 C0 dX8_perform_46 rfl MR_MW.o (by show g.2 0 ≤ _; omega) rfl (by decide) inX8 tyX8_ok nmX8 mF_X8_195 rfl rfl rfl rfl (Nat.le_of_ble_eq_true rfl) ?_
    refine x_w (w1 := (MW g w (upd t6 9 0) v6 bf6 sv6 pa6 lb6 ip6 td6 sg)) (MW_o rfl) ?_
    have hJ7 : MJ 0 (upd t6 9 0) v6 bf6 sv6 pa6 sg := hJ6.j_n (m := 0) (by decide) nI_0.symm
    refine x_aload_n 0 50 C0 dX8_perform_49 rfl rfl rfl ?_
    refine x_getf (v := .int (t6 1)) 1 53 C0 dX8_perform_50 rfl MR_MW.o rfl (by decide) inX8 mF_X8_38 rfl ?_
    refine x_if_eq 66 56 C0 dX8_perform_53 rfl (by decide) (fun c8 => ?_) (fun c8 => ?_)
    · refine x_aload_n 0 67 C0 dX8_perform_66 rfl rfl rfl ?_
      refine x_iload_n 1 68 C0 dX8_perform_67 rfl rfl rfl ?_
      refine x_iconst (v := 0) 69 C0 dX8_perform_68 rfl (by decide) ?_
      refine x_iconst (v := 0) 70 C0 dX8_perform_69 rfl (by decide) ?_
      refine x_iconst (v := 1) 71 C0 dX8_perform_70 rfl (by decide) ?_
      refine x_callV 74 C0 (k_X8_ends l hl g _ _ 0 (upd t6 9 0) v6 bf6 sv6 pa6 lb6 ip6 td6 sg MR_MW hJ7 a6 0 0 1) dX8_perform_71 rfl mC_X8_ends mM_X8_92 mI_X8_ends mV_X8_ends mN_X8 yd_X8_ends rfl rfl ⟨Nat.le_of_ble_eq_true rfl, Nat.le_of_ble_eq_true rfl⟩ MR_MW.o rfl rfl rfl rfl (Nat.le_of_ble_eq_true rfl) ⟨Nat.le_of_ble_eq_true rfl, Nat.le_of_ble_eq_true rfl⟩ (fun _ _ _ q => False.elim q) (fun r w1 sz1 hz hP => ?_)
      obtain ⟨rfl, t9, v9, pa9, rfl, hJ9, h79, he9, hE9⟩ := hP
      obtain ⟨z9, rfl⟩ := endP_r hE9
      refine x_w MW_MW ?_
      refine x_st (st1 := [.int z9]) rfl ?_
      exact x_ireturn C0 dX8_perform_74 rfl rfl (Nat.le_of_ble_eq_true rfl) (Nat.le_of_ble_eq_true rfl) ⟨rfl, _, _, _, _, _, _, _, _, rfl, hJ9, ⟨_, rfl⟩⟩
    · refine x_aload_n 0 57 C0 dX8_perform_56 rfl rfl rfl ?_
      refine x_bipush (v := 19) 59 C0 dX8_perform_57 rfl (by decide) ?_
      refine x_iload_n 1 60 C0 dX8_perform_59 rfl rfl rfl ?_
      refine x_iconst (v := 1) 61 C0 dX8_perform_60 rfl (by decide) ?_
      refine x_isub 62 C0 dX8_perform_61 rfl ?_
      refine x_callV 65 C0 (k_X8_refuses l hl g _ _ 0 (upd t6 9 0) v6 bf6 sv6 pa6 lb6 ip6 td6 sg MR_MW hJ7 19 (a6 - 1)) dX8_perform_62 rfl mC_X8_refuses mM_X8_82 mI_X8_refuses mV_X8_refuses mN_X8 yd_X8_refuses rfl rfl ⟨Nat.le_of_ble_eq_true rfl, Nat.le_of_ble_eq_true rfl⟩ MR_MW.o rfl rfl rfl rfl (Nat.le_of_ble_eq_true rfl) ⟨Nat.le_of_ble_eq_true rfl, Nat.le_of_ble_eq_true rfl⟩ (fun _ _ _ q => False.elim q) (fun r w1 sz1 hz hP => ?_)
      obtain ⟨rfl, rfl, rfl⟩ := hP
      refine x_w MW_MW ?_
      have hJ10 : MJ 0 (upd (upd (upd (upd t6 9 0) 5 19) 6 (a6 - 1)) 1 3) v6 bf6 sv6 pa6 sg := (((hJ7.j_t (by decide)).j_t (by decide)).j_t (by decide))
      refine x_st (st1 := [.int 0]) rfl ?_
      refine x_istore_n [(1, .int 0), (0, .ref (g.2 0 + 258))] 66 C0 dX8_perform_65 rfl rfl (by decide) rfl ?_
      refine x_lv (lv1 := [(0, .ref (g.2 0 + 258)), (1, .int 0)]) [1, 0] rfl ?_
      refine x_aload_n 0 67 C0 dX8_perform_66 rfl rfl rfl ?_
      refine x_iload_n 1 68 C0 dX8_perform_67 rfl rfl rfl ?_
      refine x_iconst (v := 0) 69 C0 dX8_perform_68 rfl (by decide) ?_
      refine x_iconst (v := 0) 70 C0 dX8_perform_69 rfl (by decide) ?_
      refine x_iconst (v := 1) 71 C0 dX8_perform_70 rfl (by decide) ?_
      refine x_callV 74 C0 (k_X8_ends l hl g _ _ 0 (upd (upd (upd (upd t6 9 0) 5 19) 6 (a6 - 1)) 1 3) v6 bf6 sv6 pa6 lb6 ip6 td6 sg MR_MW hJ10 0 0 0 1) dX8_perform_71 rfl mC_X8_ends mM_X8_92 mI_X8_ends mV_X8_ends mN_X8 yd_X8_ends rfl rfl ⟨Nat.le_of_ble_eq_true rfl, Nat.le_of_ble_eq_true rfl⟩ MR_MW.o rfl rfl rfl rfl (Nat.le_of_ble_eq_true rfl) ⟨Nat.le_of_ble_eq_true rfl, Nat.le_of_ble_eq_true rfl⟩ (fun _ _ _ q => False.elim q) (fun r w1 sz1 hz hP => ?_)
      obtain ⟨rfl, t11, v11, pa11, rfl, hJ11, h711, he11, hE11⟩ := hP
      obtain ⟨z11, rfl⟩ := endP_r hE11
      refine x_w MW_MW ?_
      refine x_st (st1 := [.int z11]) rfl ?_
      exact x_ireturn C0 dX8_perform_74 rfl rfl (Nat.le_of_ble_eq_true rfl) (Nat.le_of_ble_eq_true rfl) ⟨rfl, _, _, _, _, _, _, _, _, rfl, hJ11, ⟨_, rfl⟩⟩
  · refine x_aload_n 0 22 C0 dX8_perform_21 rfl rfl rfl ?_
    refine x_iconst (v := 0) 23 C0 dX8_perform_22 rfl (by decide) ?_
    refine x_putf 17 26 C0 dX8_perform_23 rfl MR_MW.o (by show g.2 0 ≤ _; omega) rfl (by decide) inX8 tyX8_ok nmX8 mF_X8_195 rfl rfl rfl rfl (Nat.le_of_ble_eq_true rfl) ?_
    refine x_w (w1 := (MW g w (upd t3 9 0) v3 bf3 sv3 pa3 lb3 ip3 td3 sg)) (MW_o rfl) ?_
    have hJ12 : MJ 0 (upd t3 9 0) v3 bf3 sv3 pa3 sg := hJ3.j_n (m := 0) (by decide) nI_0.symm
    refine x_bipush (v := (-100)) 28 C0 dX8_perform_26 rfl (by decide) ?_
    refine x_aload_n 0 29 C0 dX8_perform_28 rfl rfl rfl ?_
    refine x_getf (v := .int (t3 10)) 18 32 C0 dX8_perform_29 rfl MR_MW.o rfl (by decide) inX8 mF_X8_198 rfl ?_
    refine x_isub 33 C0 dX8_perform_32 rfl ?_
    exact x_ireturn C0 dX8_perform_33 rfl rfl (Nat.le_of_ble_eq_true rfl) (Nat.le_of_ble_eq_true rfl) ⟨rfl, _, _, _, _, _, _, _, _, rfl, hJ12, ⟨_, rfl⟩⟩

set_option maxHeartbeats 4000000 in
set_option maxRecDepth 100000 in
theorem k_X8_undo (l : Launch) (hl : l.stackTraces = false) (g : xg_T) (w : xw_T) (sz n : Nat) (t v bf sv pa lb ip td sg : Nat → Int32) (hM : MR g w t v bf sv pa lb ip td sg) (hJ : MJ n t v bf sv pa sg) : xM l g yX8_undo cX8_undo 2 (some .int) ({ frames := 1, cells := 0, slots := 0, locals := 21 }) 0 0 [.ref (g.2 0 + 258)] w sz (fun r w1 sz1 => sz = sz1 ∧ ∃ t' v', w1 = MW g w t' v' bf sv pa lb ip td sg ∧ MJ n t' v' bf sv pa sg ∧ t' 7 = t 7 ∧ ((t 2 = 0 ∧ t' 0 = 1 ∧ r = some (.int 0) ∧ v' = v ∧ t' 2 = t 2) ∨ (∃ c : Nat, c < 8 ∧ t 2 - 1 = nI c ∧ t' 0 = 0 ∧ t' 2 = nI c ∧ r = some (.int (nI c)) ∧ ∀ j, j < 208 → v' j = pa (c * 208 + j)))) (fun _ _ _ => False) := by
  refine xM.of RX8 hl (by decide +kernel) rfl (Nat.le_of_ble_eq_true rfl) rfl ?_
  intro p e s m args below meth cD C0 hini
  refine x_aload_n 0 1 C0 dX8_undo_0 rfl rfl rfl ?_
  refine x_iconst (v := 0) 2 C0 dX8_undo_1 rfl (by decide) ?_
  refine x_w (MW_self hM) ?_
  refine x_putf 0 5 C0 dX8_undo_2 rfl MR_MW.o (by show g.2 0 ≤ _; omega) rfl (by decide) inX8 tyX8_ok nmX8 mF_X8_34 rfl rfl rfl rfl (Nat.le_of_ble_eq_true rfl) ?_
  refine x_w (w1 := (MW g w (upd t 0 0) v bf sv pa lb ip td sg)) (MW_o rfl) ?_
  have hJ1 : MJ n (upd t 0 0) v bf sv pa sg := hJ.j_t (by decide)
  refine x_aload_n 0 6 C0 dX8_undo_5 rfl rfl rfl ?_
  refine x_getf (v := .int (t 2)) 2 9 C0 dX8_undo_6 rfl MR_MW.o rfl (by decide) inX8 mF_X8_64 rfl ?_
  refine x_if_ne 18 12 C0 dX8_undo_9 rfl (by decide) (fun c2 => ?_) (fun c2 => ?_)
  · refine x_aload_n 0 19 C0 dX8_undo_18 rfl rfl rfl ?_
    refine x_dup 20 C0 dX8_undo_19 rfl rfl ?_
    refine x_getf (v := .int (t 2)) 2 23 C0 dX8_undo_20 rfl MR_MW.o rfl (by decide) inX8 mF_X8_64 rfl ?_
    refine x_iconst (v := 1) 24 C0 dX8_undo_23 rfl (by decide) ?_
    refine x_isub 25 C0 dX8_undo_24 rfl ?_
    refine x_putf 2 28 C0 dX8_undo_25 rfl MR_MW.o (by show g.2 0 ≤ _; omega) rfl (by decide) inX8 tyX8_ok nmX8 mF_X8_64 rfl rfl rfl rfl (Nat.le_of_ble_eq_true rfl) ?_
    refine x_w (w1 := (MW g w (upd (upd t 0 0) 2 ((t 2) - 1)) v bf sv pa lb ip td sg)) (MW_o rfl) ?_
    obtain ⟨c0, hc0, hct0⟩ := hJ1.2.2.2.2.1
    obtain ⟨c, hc7, hct⟩ : ∃ c : Nat, c < 8 ∧ t 2 - 1 = nI c := by
      cases c0 with
      | zero => exact absurd hct0 c2
      | succ c => exact ⟨c, by omega, (congrArg (fun z => z - 1) hct0).trans (nI_pred c)⟩
    have hJ3 : MJ n (upd (upd t 0 0) 2 ((t 2) - 1)) v bf sv pa sg := hJ1.j_c (c := c) (by omega) hct
    refine x_iconst (v := 0) 29 C0 dX8_undo_28 rfl (by decide) ?_
    refine x_istore_n [(1, .int 0), (0, .ref (g.2 0 + 258))] 30 C0 dX8_undo_29 rfl rfl (by decide) rfl ?_
    refine x_lv (lv1 := [(0, .ref (g.2 0 + 258)), (1, .int 0)]) [1, 0] rfl ?_
    have loop30 : ∀ (N i : Nat) (v1 : Nat → Int32), i ≤ 208 → 208 - i < N → (∀ j, j < i → v1 j = pa (c * 208 + j)) → xV p l e ({ frames := 1, cells := 0, slots := 0, locals := 21 }) s m args below meth cD (xQ g below (fun r w1 sz1 => sz = sz1 ∧ ∃ t' v', w1 = MW g w t' v' bf sv pa lb ip td sg ∧ MJ n t' v' bf sv pa sg ∧ t' 7 = t 7 ∧ ((t 2 = 0 ∧ t' 0 = 1 ∧ r = some (.int 0) ∧ v' = v ∧ t' 2 = t 2) ∨ (∃ c : Nat, c < 8 ∧ t 2 - 1 = nI c ∧ t' 0 = 0 ∧ t' 2 = nI c ∧ r = some (.int (nI c)) ∧ ∀ j, j < 208 → v' j = pa (c * 208 + j)))) (fun _ _ _ => False) args s 0 0) g 2 (MW g w (upd (upd t 0 0) 2 ((t 2) - 1)) v1 bf sv pa lb ip td sg) sz (0) (0) 30 [(0, .ref (g.2 0 + 258)), (1, .int (nI i))] [] := by
      intro N
      induction N with
      | zero => intro i v1 h1 h2; omega
      | succ N ih =>
        intro i v1 hi hN hV
        refine x_iload_n 1 31 C0 dX8_undo_30 rfl rfl rfl ?_
        refine x_sipush (v := 208) 34 C0 dX8_undo_31 rfl (by decide) ?_
        refine x_icmp_ge 64 37 C0 dX8_undo_34 rfl (by decide) (fun c4 => ?_) (fun c4 => ?_)
        · have hI := ix_eq 208 rfl (by decide) hi c4
          subst hI
          have hJv : MJ n (upd (upd t 0 0) 2 ((t 2) - 1)) v1 bf sv pa sg := hJ3.j_v ((hJ3.2.2.2.1 c hc7).cong (fun q hq => by rw [hV q hq, show c * 208 + q = 208 * c + q by omega]))
          refine x_aload_n 0 65 C0 dX8_undo_64 rfl rfl rfl ?_
          refine x_getf (v := .int ((t 2) - 1)) 2 68 C0 dX8_undo_65 rfl MR_MW.o rfl (by decide) inX8 mF_X8_64 rfl ?_
          exact x_ireturn C0 dX8_undo_68 rfl rfl (Nat.le_of_ble_eq_true rfl) (Nat.le_of_ble_eq_true rfl) ⟨rfl, _, _, rfl, hJv, rfl, Or.inr ⟨c, hc7, hct, rfl, hct, by rw [hct], hV⟩⟩
        · have hi2 := ix_lt 208 rfl (by decide) hi c4
          refine x_aload_n 0 38 C0 dX8_undo_37 rfl rfl rfl ?_
          refine x_getf (v := .ref (g.2 0 + 258 + 1)) 8 41 C0 dX8_undo_38 rfl MR_MW.o rfl (by decide) inX8 mF_X8_7 rfl ?_
          refine x_iload_n 1 42 C0 dX8_undo_41 rfl rfl rfl ?_
          refine x_aload_n 0 43 C0 dX8_undo_42 rfl rfl rfl ?_
          refine x_getf (v := .ref (g.2 0 + 258 + 4)) 11 46 C0 dX8_undo_43 rfl MR_MW.o rfl (by decide) inX8 mF_X8_19 rfl ?_
          refine x_aload_n 0 47 C0 dX8_undo_46 rfl rfl rfl ?_
          refine x_getf (v := .int ((t 2) - 1)) 2 50 C0 dX8_undo_47 rfl MR_MW.o rfl (by decide) inX8 mF_X8_64 rfl ?_
          refine x_st (st1 := [.int (nI c), .ref (g.2 0 + 258 + 4), .int (nI i), .ref (g.2 0 + 258 + 1)]) (congrArg (fun z => Value.int z :: _) (hct)) ?_
          refine x_sipush (v := 208) 53 C0 dX8_undo_50 rfl (by decide) ?_
          refine x_imul 54 C0 dX8_undo_53 rfl ?_
          refine x_st (st1 := [.int (nI (c * 208)), .ref (g.2 0 + 258 + 4), .int (nI i), .ref (g.2 0 + 258 + 1)]) (congrArg (fun z => Value.int z :: _) (nI_mulN c 208)) ?_
          refine x_iload_n 1 55 C0 dX8_undo_54 rfl rfl rfl ?_
          refine x_iadd 56 C0 dX8_undo_55 rfl ?_
          refine x_st (st1 := [.int (nI (c * 208 + i)), .ref (g.2 0 + 258 + 4), .int (nI i), .ref (g.2 0 + 258 + 1)]) (congrArg (fun z => Value.int z :: _) (nI_add (c * 208) i)) ?_
          refine x_iald 0 57 C0 dX8_undo_56 rfl MR_MW.r_pa rfl (vp_in_nI (n := c * 208 + i) (by omega) (by decide)) ?_
          refine x_st (st1 := [.int (pa (c * 208 + i)), .int (nI i), .ref (g.2 0 + 258 + 1)]) (congrArg (fun z => Value.int z :: _) (show pa (nI (c * 208 + i)).toNatClampNeg = pa (c * 208 + i) from by rw [nI_clamp (by omega)])) ?_
          refine x_iast 0 58 C0 dX8_undo_57 rfl MR_MW.r_v (by show g.2 0 ≤ _; omega) rfl (vp_in_nI (n := i) (by omega) (by decide)) ?_
          refine x_w (w1 := (MW g w (upd (upd t 0 0) 2 ((t 2) - 1)) (upd v1 i (pa (c * 208 + i))) bf sv pa lb ip td sg)) (by rw [show (nI i : Int32).toNatClampNeg = i from nI_clamp (n := i) (by omega)]; exact MW_v) ?_
          refine x_iinc [(1, .int (nI (i + 1))), (0, .ref (g.2 0 + 258))] 1 61 C0 dX8_undo_58 rfl rfl (nI_1 i) (by decide) rfl ?_
          refine x_lv (lv1 := [(0, .ref (g.2 0 + 258)), (1, .int (nI (i + 1)))]) [1, 0] rfl ?_
          refine x_goto 30 C0 dX8_undo_61 (by decide) ?_
          exact x_lv [0, 1] rfl (ih (i + 1) _ (by omega) (by omega) (fun j hj => by
              unfold upd
              by_cases e : j = i
              · rw [if_pos e, e]
              · rw [if_neg e]; exact hV j (by omega)))
    exact x_lv [0, 1] rfl (loop30 209 0 _ (by omega) (by omega) (fun j hj => absurd hj (by omega)))
  · refine x_aload_n 0 13 C0 dX8_undo_12 rfl rfl rfl ?_
    refine x_iconst (v := 1) 14 C0 dX8_undo_13 rfl (by decide) ?_
    refine x_callV 17 C0 (k_X8_no l hl g _ _ n (upd t 0 0) v bf sv pa lb ip td sg MR_MW hJ1 1) dX8_undo_14 rfl mC_X8_no mM_X8_61 mI_X8_no mV_X8_no mN_X8 yd_X8_no rfl rfl ⟨Nat.le_of_ble_eq_true rfl, Nat.le_of_ble_eq_true rfl⟩ MR_MW.o rfl rfl rfl rfl (Nat.le_of_ble_eq_true rfl) ⟨Nat.le_of_ble_eq_true rfl, Nat.le_of_ble_eq_true rfl⟩ (fun _ _ _ q => False.elim q) (fun r w1 sz1 hz hP => ?_)
    obtain ⟨rfl, rfl, rfl⟩ := hP
    refine x_w MW_MW ?_
    have hJ6 : MJ n (upd (upd t 0 0) 0 1) v bf sv pa sg := (hJ1.j_t (by decide))
    refine x_st (st1 := [.int 0]) rfl ?_
    exact x_ireturn C0 dX8_undo_17 rfl rfl (Nat.le_of_ble_eq_true rfl) (Nat.le_of_ble_eq_true rfl) ⟨rfl, _, _, rfl, hJ6, rfl, Or.inl ⟨c2, rfl, rfl, rfl, rfl⟩⟩

set_option maxHeartbeats 4000000 in
set_option maxRecDepth 100000 in
theorem k_X8_save (l : Launch) (hl : l.stackTraces = false) (g : xg_T) (w : xw_T) (sz n : Nat) (t v bf sv pa lb ip td sg : Nat → Int32) (hM : MR g w t v bf sv pa lb ip td sg) (hJ : MJ n t v bf sv pa sg) : xM l g yX8_save cX8_save 1 (some .int) ({ frames := 1, cells := 0, slots := 0, locals := 22 }) 0 0 [.ref (g.2 0 + 258)] w sz (fun r w1 sz1 => sz = sz1 ∧ ∃ t' sv', w1 = MW g w t' v bf sv' pa lb ip td sg ∧ MJ n t' v bf sv' pa sg ∧ t' 7 = 1 ∧ t' 2 = t 2 ∧ t' 0 = 0 ∧ r = some (.int (v 0)) ∧ ∀ j, j < 208 → sv' j = v j) (fun _ _ _ => False) := by
  refine xM.of RX8 hl (by decide +kernel) rfl (Nat.le_of_ble_eq_true rfl) rfl ?_
  intro p e s m args below meth cD C0 hini
  refine x_aload_n 0 1 C0 dX8_save_0 rfl rfl rfl ?_
  refine x_iconst (v := 0) 2 C0 dX8_save_1 rfl (by decide) ?_
  refine x_w (MW_self hM) ?_
  refine x_putf 0 5 C0 dX8_save_2 rfl MR_MW.o (by show g.2 0 ≤ _; omega) rfl (by decide) inX8 tyX8_ok nmX8 mF_X8_34 rfl rfl rfl rfl (Nat.le_of_ble_eq_true rfl) ?_
  refine x_w (w1 := (MW g w (upd t 0 0) v bf sv pa lb ip td sg)) (MW_o rfl) ?_
  have hJ1 : MJ n (upd t 0 0) v bf sv pa sg := hJ.j_t (by decide)
  refine x_aload_n 0 6 C0 dX8_save_5 rfl rfl rfl ?_
  refine x_getf (v := .ref (g.2 0 + 258 + 3)) 10 9 C0 dX8_save_6 rfl MR_MW.o rfl (by decide) inX8 mF_X8_16 rfl ?_
  refine x_aload_n 0 10 C0 dX8_save_9 rfl rfl rfl ?_
  refine x_getf (v := .ref (g.2 0 + 258 + 1)) 8 13 C0 dX8_save_10 rfl MR_MW.o rfl (by decide) inX8 mF_X8_7 rfl ?_
  refine x_callS 16 C0 (k_X8_lays l hl g _ _ _ _ _ _ MR_MW.r_sv MR_MW.r_v (by omega) (by show g.2 0 ≤ _; omega)) dX8_save_13 rfl mC_X8_lays mM_X8_51 mS_X8_lays mN_X8 yd_X8_lays rfl rfl ⟨Nat.le_of_ble_eq_true rfl, Nat.le_of_ble_eq_true rfl⟩ rfl rfl (Nat.le_of_ble_eq_true rfl) ⟨Nat.le_of_ble_eq_true rfl, Nat.le_of_ble_eq_true rfl⟩ (fun _ _ _ q => False.elim q) (fun r w1 sz1 hz hP => ?_)
  obtain ⟨rfl, ⟨f2, rfl, hf2⟩, rfl⟩ := hP
  refine x_w (w1 := (MW g w (upd t 0 0) v bf f2 pa lb ip td sg)) MW_sv ?_
  have hJ2 : MJ n (upd t 0 0) v bf f2 pa sg := hJ1.j_s (hJ1.1.cong hf2)
  refine x_st (st1 := []) rfl ?_
  refine x_aload_n 0 17 C0 dX8_save_16 rfl rfl rfl ?_
  refine x_iconst (v := 1) 18 C0 dX8_save_17 rfl (by decide) ?_
  refine x_putf 7 21 C0 dX8_save_18 rfl MR_MW.o (by show g.2 0 ≤ _; omega) rfl (by decide) inX8 tyX8_ok nmX8 mF_X8_229 rfl rfl rfl rfl (Nat.le_of_ble_eq_true rfl) ?_
  refine x_w (w1 := (MW g w (upd (upd t 0 0) 7 1) v bf f2 pa lb ip td sg)) (MW_o rfl) ?_
  have hJ3 : MJ n (upd (upd t 0 0) 7 1) v bf f2 pa sg := hJ2.j_t (by decide)
  refine x_aload_n 0 22 C0 dX8_save_21 rfl rfl rfl ?_
  refine x_getf (v := .ref (g.2 0 + 258 + 1)) 8 25 C0 dX8_save_22 rfl MR_MW.o rfl (by decide) inX8 mF_X8_7 rfl ?_
  refine x_iconst (v := 0) 26 C0 dX8_save_25 rfl (by decide) ?_
  refine x_iald 0 27 C0 dX8_save_26 rfl MR_MW.r_v rfl (vp_in_nI (n := 0) (by decide) (by decide)) ?_
  refine x_st (st1 := [.int (v 0)]) (congrArg (fun z => Value.int z :: _) (show v (nI 0).toNatClampNeg = v 0 from by rw [nI_clamp (by omega)])) ?_
  exact x_ireturn C0 dX8_save_27 rfl rfl (Nat.le_of_ble_eq_true rfl) (Nat.le_of_ble_eq_true rfl) ⟨rfl, _, _, rfl, hJ3, rfl, rfl, rfl, rfl, hf2⟩

set_option maxHeartbeats 4000000 in
set_option maxRecDepth 100000 in
theorem k_X8_restore (l : Launch) (hl : l.stackTraces = false) (g : xg_T) (w : xw_T) (sz n : Nat) (t v bf sv pa lb ip td sg : Nat → Int32) (hM : MR g w t v bf sv pa lb ip td sg) (hJ : MJ n t v bf sv pa sg) : xM l g yX8_restore cX8_restore 1 (some .int) ({ frames := 1, cells := 0, slots := 0, locals := 22 }) 0 0 [.ref (g.2 0 + 258)] w sz (fun r w1 sz1 => sz = sz1 ∧ ∃ t' v', w1 = MW g w t' v' bf sv pa lb ip td sg ∧ MJ n t' v' bf sv pa sg ∧ t' 7 = t 7 ∧ ((t 7 = 0 ∧ t' 0 = 1 ∧ r = some (.int 0) ∧ v' = v ∧ t' 2 = t 2) ∨ (¬ t 7 = 0 ∧ t' 0 = 0 ∧ t' 2 = 0 ∧ (∀ j, j < 208 → v' j = sv j) ∧ r = some (.int (v' 0))))) (fun _ _ _ => False) := by
  refine xM.of RX8 hl (by decide +kernel) rfl (Nat.le_of_ble_eq_true rfl) rfl ?_
  intro p e s m args below meth cD C0 hini
  refine x_aload_n 0 1 C0 dX8_restore_0 rfl rfl rfl ?_
  refine x_iconst (v := 0) 2 C0 dX8_restore_1 rfl (by decide) ?_
  refine x_w (MW_self hM) ?_
  refine x_putf 0 5 C0 dX8_restore_2 rfl MR_MW.o (by show g.2 0 ≤ _; omega) rfl (by decide) inX8 tyX8_ok nmX8 mF_X8_34 rfl rfl rfl rfl (Nat.le_of_ble_eq_true rfl) ?_
  refine x_w (w1 := (MW g w (upd t 0 0) v bf sv pa lb ip td sg)) (MW_o rfl) ?_
  have hJ1 : MJ n (upd t 0 0) v bf sv pa sg := hJ.j_t (by decide)
  refine x_aload_n 0 6 C0 dX8_restore_5 rfl rfl rfl ?_
  refine x_getf (v := .int (t 7)) 7 9 C0 dX8_restore_6 rfl MR_MW.o rfl (by decide) inX8 mF_X8_229 rfl ?_
  refine x_if_ne 18 12 C0 dX8_restore_9 rfl (by decide) (fun c2 => ?_) (fun c2 => ?_)
  · refine x_aload_n 0 19 C0 dX8_restore_18 rfl rfl rfl ?_
    refine x_getf (v := .ref (g.2 0 + 258 + 1)) 8 22 C0 dX8_restore_19 rfl MR_MW.o rfl (by decide) inX8 mF_X8_7 rfl ?_
    refine x_aload_n 0 23 C0 dX8_restore_22 rfl rfl rfl ?_
    refine x_getf (v := .ref (g.2 0 + 258 + 3)) 10 26 C0 dX8_restore_23 rfl MR_MW.o rfl (by decide) inX8 mF_X8_16 rfl ?_
    refine x_callS 29 C0 (k_X8_lays l hl g _ _ _ _ _ _ MR_MW.r_v MR_MW.r_sv (by omega) (by show g.2 0 ≤ _; omega)) dX8_restore_26 rfl mC_X8_lays mM_X8_51 mS_X8_lays mN_X8 yd_X8_lays rfl rfl ⟨Nat.le_of_ble_eq_true rfl, Nat.le_of_ble_eq_true rfl⟩ rfl rfl (Nat.le_of_ble_eq_true rfl) ⟨Nat.le_of_ble_eq_true rfl, Nat.le_of_ble_eq_true rfl⟩ (fun _ _ _ q => False.elim q) (fun r w1 sz1 hz hP => ?_)
    obtain ⟨rfl, ⟨f3, rfl, hf3⟩, rfl⟩ := hP
    refine x_w (w1 := (MW g w (upd t 0 0) f3 bf sv pa lb ip td sg)) MW_v ?_
    have hJ3 : MJ n (upd t 0 0) f3 bf sv pa sg := hJ1.j_v (hJ1.2.2.1.cong hf3)
    refine x_st (st1 := []) rfl ?_
    refine x_aload_n 0 30 C0 dX8_restore_29 rfl rfl rfl ?_
    refine x_iconst (v := 0) 31 C0 dX8_restore_30 rfl (by decide) ?_
    refine x_putf 2 34 C0 dX8_restore_31 rfl MR_MW.o (by show g.2 0 ≤ _; omega) rfl (by decide) inX8 tyX8_ok nmX8 mF_X8_64 rfl rfl rfl rfl (Nat.le_of_ble_eq_true rfl) ?_
    refine x_w (w1 := (MW g w (upd (upd t 0 0) 2 0) f3 bf sv pa lb ip td sg)) (MW_o rfl) ?_
    have hJ4 : MJ n (upd (upd t 0 0) 2 0) f3 bf sv pa sg := hJ3.j_c (c := 0) (by decide) nI_0.symm
    refine x_aload_n 0 35 C0 dX8_restore_34 rfl rfl rfl ?_
    refine x_getf (v := .ref (g.2 0 + 258 + 1)) 8 38 C0 dX8_restore_35 rfl MR_MW.o rfl (by decide) inX8 mF_X8_7 rfl ?_
    refine x_iconst (v := 0) 39 C0 dX8_restore_38 rfl (by decide) ?_
    refine x_iald 0 40 C0 dX8_restore_39 rfl MR_MW.r_v rfl (vp_in_nI (n := 0) (by decide) (by decide)) ?_
    refine x_st (st1 := [.int (f3 0)]) (congrArg (fun z => Value.int z :: _) (show f3 (nI 0).toNatClampNeg = f3 0 from by rw [nI_clamp (by omega)])) ?_
    exact x_ireturn C0 dX8_restore_40 rfl rfl (Nat.le_of_ble_eq_true rfl) (Nat.le_of_ble_eq_true rfl) ⟨rfl, _, _, rfl, hJ4, rfl, Or.inr ⟨c2, rfl, rfl, hf3, rfl⟩⟩
  · refine x_aload_n 0 13 C0 dX8_restore_12 rfl rfl rfl ?_
    refine x_iconst (v := 1) 14 C0 dX8_restore_13 rfl (by decide) ?_
    refine x_callV 17 C0 (k_X8_no l hl g _ _ n (upd t 0 0) v bf sv pa lb ip td sg MR_MW hJ1 1) dX8_restore_14 rfl mC_X8_no mM_X8_61 mI_X8_no mV_X8_no mN_X8 yd_X8_no rfl rfl ⟨Nat.le_of_ble_eq_true rfl, Nat.le_of_ble_eq_true rfl⟩ MR_MW.o rfl rfl rfl rfl (Nat.le_of_ble_eq_true rfl) ⟨Nat.le_of_ble_eq_true rfl, Nat.le_of_ble_eq_true rfl⟩ (fun _ _ _ q => False.elim q) (fun r w1 sz1 hz hP => ?_)
    obtain ⟨rfl, rfl, rfl⟩ := hP
    refine x_w MW_MW ?_
    have hJ5 : MJ n (upd (upd t 0 0) 0 1) v bf sv pa sg := (hJ1.j_t (by decide))
    refine x_st (st1 := [.int 0]) rfl ?_
    exact x_ireturn C0 dX8_restore_17 rfl rfl (Nat.le_of_ble_eq_true rfl) (Nat.le_of_ble_eq_true rfl) ⟨rfl, _, _, rfl, hJ5, rfl, Or.inl ⟨c2, rfl, rfl, rfl, rfl⟩⟩

