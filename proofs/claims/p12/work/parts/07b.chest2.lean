/-! A CHEST'S LABEL -/
def blankC : Nat → Int32 := fun j => if j = 1 then -1 else if j = 2 then -1 else if j = 7 then -1 else 0
def bi1 (n : Nat) : Int32 := if n = 0 then 0 else 1
theorem bi0_0 {n : Nat} (hn : n < 65536) (h : bi0 (nI n) = 0) : bi1 n = 1 := by
  unfold bi0 at h
  split at h
  · exact absurd h (by decide)
  · rename_i h1
    exact if_neg (fun e => h1 (by rw [e]; rfl))
theorem bi0_1 {n : Nat} (hn : n < 65536) (h : ¬ bi0 (nI n) = 0) : bi1 n = 0 := by
  unfold bi0 at h
  split at h
  · rename_i h1
    exact if_pos ((nI_eq (b := 0) (by omega) (by decide)).mp h1)
  · exact absurd rfl h
def xExt (w w1 : xw_T) (sz : Nat) : Prop := ∀ q, q < sz → w1 q = w q
def labN1 (ki : Nat) : Nat := 0 + 1 + 1 + xlen.getD (2 + ki) 0 + 1
def labN2 (ki po : Nat) : Nat := labN1 ki + dgN po
def labN (ki po : Nat) (da : Bool) : Nat := if da = true then labN2 ki po + xlen.getD 1 0 else labN2 ki po
def labF1 (ga ki : Nat) : Nat → Int32 := upd (putS (upd (putN (fun _ => 0) 0 ga) (0 + 1) 46) (0 + 1 + 1) (2 + ki)) (0 + 1 + 1 + xlen.getD (2 + ki) 0) 32
def labF2 (ga ki po : Nat) : Nat → Int32 := putN (labF1 ga ki) (labN1 ki) po
def labF (ga ki po : Nat) (da : Bool) : Nat → Int32 := if da = true then putS (labF2 ga ki po) (labN2 ki po) 1 else labF2 ga ki po
theorem dgN_le (q : Nat) : dgN q ≤ 2 := by
  unfold dgN
  split <;> omega
theorem lab16 {ki po : Nat} (h : ki < 3) : 0 + 1 + 1 + xlen.getD (2 + ki) 0 ≤ 8 ∧ labN1 ki ≤ 9 ∧ labN2 ki po ≤ 11 ∧ labN2 ki po + xlen.getD 1 0 ≤ 16 := by
  have h1 := xlen16 (2 + ki) (by omega)
  have h2 := dgN_le po
  have h3 : xlen.getD 1 0 = 5 := rfl
  unfold labN2 labN1
  omega
def fitB (f : Nat → Int32) : Prop := ∀ j, fits .byte (.int (f j)) = true
theorem fit48 : ∀ q, q < 10 → fits .byte (.int (nI (48 + q))) = true := by decide +kernel
theorem fitB.up {f : Nat → Int32} {a : Nat} {v : Int32} (h : fitB f) (hv : fits .byte (.int v) = true) : fitB (upd f a v) := by
  intro j
  unfold upd
  split
  · exact hv
  · exact h j
theorem fitB.n {f : Nat → Int32} {a q : Nat} (h : fitB f) (hq : q < 100) : fitB (putN f a q) := by
  unfold putN
  split
  · rename_i h1
    exact h.up (fit48 q h1)
  · exact (h.up (fit48 (q % 10) (by omega))).up (fit48 (q / 10) (by omega))
theorem fitB.s {f : Nat → Int32} {a i : Nat} (h : fitB f) (hi : i < 13) : fitB (putS f a i) := by
  intro j
  unfold putS va_cpy
  split
  · rename_i h1
    exact xb_fit i hi _ (by omega)
  · exact h j
theorem labF2_fit {ga ki po : Nat} (h1 : ga < 100) (h2 : ki < 3) (h3 : po < 100) : fitB (labF2 ga ki po) := ((((fitB.n (fun _ => rfl) h1).up (by decide)).s (by omega)).up (by decide)).n h3
theorem labF_fit {ga ki po : Nat} {da : Bool} (h1 : ga < 100) (h2 : ki < 3) (h3 : po < 100) : fitB (labF ga ki po da) := by
  unfold labF
  split
  · exact (labF2_fit h1 h2 h3).s (by omega)
  · exact labF2_fit h1 h2 h3
theorem isCh46 : isCh 46 := isCh_nI 46 (by decide)
theorem isCh32 : isCh 32 := isCh_nI 32 (by decide)
theorem SB_blank {g : xg_T} {w : xw_T} {b v : Nat} {e : va_E} {f : Nat → Int32} {n : Int32} (h : v ≠ b) : SB g (xup w b e) b v f n = SB g w b v f n := by
  unfold SB
  rw [xup_3 h.symm, xup_c h.symm]

set_option maxHeartbeats 4000000 in
set_option maxRecDepth 100000 in
theorem k_X1_init (l : Launch) (hl : l.stackTraces = false) (g : xg_T) (w : xw_T) (sz h0 : Nat) (num : Int32) (hw : w h0 = some (.inr (3, [.int 0, .int 0, .int 0, .int 0, .int 0, .int 0, .int 0, .int 0, .int 0, .null]))) (hA : xA g h0) : xM l g yX1_init cX1_init 2 none ({ frames := 1, cells := 0, slots := 0, locals := 12 }) 0 0 [.ref h0, .int num] w sz (fun r w1 sz1 => r = none ∧ w1 = xup w h0 (.inr (3, chestE num blankC (g.2 100))) ∧ sz = sz1) (fun _ _ _ => False) := by
  refine xM.of RX1 hl (by decide +kernel) rfl (Nat.le_of_ble_eq_true rfl) rfl ?_
  intro p e s m args below meth cD C0 hini
  refine x_aload_n 0 1 C0 dX1_init_0 rfl rfl rfl ?_
  refine x_objInit 4 C0 dX1_init_1 rfl mM_X1_3 mI_Object_init mC_Object_init (Nat.le_of_ble_eq_true rfl) (Nat.le_of_ble_eq_true rfl) ?_
  refine x_aload_n 0 5 C0 dX1_init_4 rfl rfl rfl ?_
  refine x_iconst (v := (-1)) 6 C0 dX1_init_5 rfl (by decide) ?_
  refine x_putf 2 9 C0 dX1_init_6 rfl hw hA rfl (by decide) inX1 tyX1_ok nmX1 mF_X1_9 rfl rfl rfl rfl (Nat.le_of_ble_eq_true rfl) ?_
  refine x_w (w1 := (xup w h0 (.inr (3, [.int 0, .int 0, .int (-1), .int 0, .int 0, .int 0, .int 0, .int 0, .int 0, .null])))) rfl ?_
  refine x_aload_n 0 10 C0 dX1_init_9 rfl rfl rfl ?_
  refine x_iconst (v := (-1)) 11 C0 dX1_init_10 rfl (by decide) ?_
  refine x_putf 3 14 C0 dX1_init_11 rfl (xup_s _ _ _) hA rfl (by decide) inX1 tyX1_ok nmX1 mF_X1_15 rfl rfl rfl rfl (Nat.le_of_ble_eq_true rfl) ?_
  refine x_w (w1 := (xup w h0 (.inr (3, [.int 0, .int 0, .int (-1), .int (-1), .int 0, .int 0, .int 0, .int 0, .int 0, .null])))) (xup_2 _ _ _ _) ?_
  refine x_aload_n 0 15 C0 dX1_init_14 rfl rfl rfl ?_
  refine x_iconst (v := (-1)) 16 C0 dX1_init_15 rfl (by decide) ?_
  refine x_putf 8 19 C0 dX1_init_16 rfl (xup_s _ _ _) hA rfl (by decide) inX1 tyX1_ok nmX1 mF_X1_18 rfl rfl rfl rfl (Nat.le_of_ble_eq_true rfl) ?_
  refine x_w (w1 := (xup w h0 (.inr (3, [.int 0, .int 0, .int (-1), .int (-1), .int 0, .int 0, .int 0, .int 0, .int (-1), .null])))) (xup_2 _ _ _ _) ?_
  refine x_aload_n 0 20 C0 dX1_init_19 rfl rfl rfl ?_
  refine x_ldcS 22 C0 dX1_init_20 rfl (xs_ldc C0.2.2.2.2.2.2.2.1.2.2 (RX1, 21, "", 100) (by decide +kernel)) ?_
  refine x_putf 9 25 C0 dX1_init_22 rfl (xup_s _ _ _) hA rfl (by decide) inX1 tyX1_ok nmX1 mF_X1_23 rfl rfl rfl rfl (Nat.le_of_ble_eq_true rfl) ?_
  refine x_w (w1 := (xup w h0 (.inr (3, [.int 0, .int 0, .int (-1), .int (-1), .int 0, .int 0, .int 0, .int 0, .int (-1), .ref (g.2 100)])))) (xup_2 _ _ _ _) ?_
  refine x_aload_n 0 26 C0 dX1_init_25 rfl rfl rfl ?_
  refine x_iload_n 1 27 C0 dX1_init_26 rfl rfl rfl ?_
  refine x_putF 0 30 C0 dX1_init_27 rfl (xup_s _ _ _) hA rfl (by decide) inX1 tyX1_ok nmX1 mF_X1_27 rfl rfl hini rfl rfl rfl (Nat.le_of_ble_eq_true rfl) ?_
  refine x_w (w1 := (xup w h0 (.inr (3, [.int num, .int 0, .int (-1), .int (-1), .int 0, .int 0, .int 0, .int 0, .int (-1), .ref (g.2 100)])))) (xup_2 _ _ _ _) ?_
  exact x_return C0 dX1_init_30 rfl (Nat.le_of_ble_eq_true rfl) (Nat.le_of_ble_eq_true rfl) ⟨rfl, rfl, rfl⟩

set_option maxHeartbeats 4000000 in
set_option maxRecDepth 100000 in
theorem k_X1_hasLabel (l : Launch) (hl : l.stackTraces = false) (g : xg_T) (w : xw_T) (sz : Nat) (h0 : Nat) (num : Int32) (f : Nat → Int32) (la : Nat) (hw : w h0 = some (.inr (3, chestE num f la))) (v n : Nat) (ft : Nat → Int32) (hS : xStrV g w la v n ft) (hn : n < 65536) : xM l g yX1_hasLabel cX1_hasLabel 1 (some .boolean) ({ frames := 1, cells := 0, slots := 0, locals := 20 }) 0 0 [.ref h0] w sz (fun r w1 sz1 => r = some (.int (bi1 n)) ∧ w = w1 ∧ sz = sz1) (fun _ _ _ => False) := by
  refine xM.of RX1 hl (by decide +kernel) rfl (Nat.le_of_ble_eq_true rfl) rfl ?_
  intro p e s m args below meth cD C0 hini
  refine x_aload_n 0 1 C0 dX1_hasLabel_0 rfl rfl rfl ?_
  refine x_getf (v := .ref la) 9 4 C0 dX1_hasLabel_1 rfl hw rfl (by decide) inX1 mF_X1_23 rfl ?_
  refine x_callR 7 (C := RJ0) C0 (k_J0_isEmpty_aae02 l hl g _ _ _ _ _ _ hS) dX1_hasLabel_4 rfl mC_J0_isEmpty_aae02 mM_X1_46 mI_J0_isEmpty_aae02 mV_J0_isEmpty_aae02 mN_J0 yd_J0_isEmpty_aae02 rfl rfl ⟨Nat.le_of_ble_eq_true rfl, Nat.le_of_ble_eq_true rfl⟩ (xRecv.str C0 hS) rfl rfl (Nat.le_of_ble_eq_true rfl) ⟨Nat.le_of_ble_eq_true rfl, Nat.le_of_ble_eq_true rfl⟩ (fun _ _ _ q => False.elim q) (fun r w1 sz1 hz hP => ?_)
  obtain ⟨rfl, rfl, rfl⟩ := hP
  refine x_st (st1 := [.int (bi0 (nI n))]) rfl ?_
  refine x_if_ne 14 10 C0 dX1_hasLabel_7 rfl (by decide) (fun c1 => ?_) (fun c1 => ?_)
  · refine x_iconst (v := 0) 15 C0 dX1_hasLabel_14 rfl (by decide) ?_
    exact x_ireturn C0 dX1_hasLabel_15 rfl rfl (Nat.le_of_ble_eq_true rfl) (Nat.le_of_ble_eq_true rfl) ⟨by rw [bi0_1 hn c1], rfl, rfl⟩
  · refine x_iconst (v := 1) 11 C0 dX1_hasLabel_10 rfl (by decide) ?_
    refine x_goto 15 C0 dX1_hasLabel_11 (by decide) ?_
    exact x_ireturn C0 dX1_hasLabel_15 rfl rfl (Nat.le_of_ble_eq_true rfl) (Nat.le_of_ble_eq_true rfl) ⟨by rw [bi0_0 hn c1], rfl, rfl⟩

set_option maxHeartbeats 4000000 in
set_option maxRecDepth 100000 in
theorem k_X1_writeLabel (l : Launch) (hl : l.stackTraces = false) (g : xg_T) (w : xw_T) (sz : Nat) (h0 : Nat) (num : Int32) (f : Nat → Int32) (la : Nat) (hw : w h0 = some (.inr (3, chestE num f la))) (hA : xA g h0) (h0z : h0 < sz) (hzA : xA g sz) (ga ki po : Nat) (hga : ga < 6) (hki : ki < 3) (hpo : po < 100) (hga2 : f 1 = nI ga) (hki2 : f 2 = nI ki) (hpo2 : f 3 = nI po) : xM l g yX1_writeLabel cX1_writeLabel 2 none ({ frames := 6, cells := 4, slots := 40, locals := 151 }) 4 40 [.ref h0] w sz (fun r w1 sz1 => r = none ∧ (∃ w2 : xw_T, xExt w w2 sz ∧ w1 = xup w2 h0 (.inr (3, chestE num f (sz + 2))) ∧ ∃ h : Nat → Int32, (∀ j, j < labN ki po (decide (1 ≤ f 6)) → h j = labF ga ki po (decide (1 ≤ f 6)) j) ∧ xStrV g w2 (sz + 2) (sz + 3) (labN ki po (decide (1 ≤ f 6))) h) ∧ sz + 1 + 1 + 1 + 1 = sz1) (fun _ _ _ => False) := by
  obtain ⟨hl0, hl1a, hl1, hl2⟩ := lab16 (ki := ki) (po := po) hki
  have hf2 := labF2_fit (ga := ga) (ki := ki) (po := po) (by omega) hki hpo
  have hfD := labF_fit (ga := ga) (ki := ki) (po := po) (da := true) (by omega) hki hpo
  have hl1 : labN1 ki + dgN po ≤ 16 := by
    have h9 : labN1 ki + dgN po = labN2 ki po := rfl
    omega
  refine xM.of RX1 hl (by decide +kernel) rfl (Nat.le_of_ble_eq_true rfl) rfl ?_
  intro p e s m args below meth cD C0 hini
  refine x_aload_n 0 1 C0 dX1_writeLabel_0 rfl rfl rfl ?_
  refine x_getf (v := .int (f 2)) 3 4 C0 dX1_writeLabel_1 rfl hw rfl (by decide) inX1 mF_X1_15 rfl ?_
  refine x_st (st1 := [.int (nI ki)]) (congrArg (fun z => Value.int z :: _) (hki2)) ?_
  refine x_if_lt 18 7 C0 dX1_writeLabel_4 rfl (by decide) (fun c1 => ?_) (fun c1 => ?_)
  · exact absurd c1 (nI_pos (by omega))
  refine x_aload_n 0 8 C0 dX1_writeLabel_7 rfl rfl rfl ?_
  refine x_getf (v := .int (f 2)) 3 11 C0 dX1_writeLabel_8 rfl hw rfl (by decide) inX1 mF_X1_15 rfl ?_
  refine x_st (st1 := [.int (nI ki)]) (congrArg (fun z => Value.int z :: _) (hki2)) ?_
  refine x_getsN 14 C0 dX1_writeLabel_11 rfl (xs_kinds C0.2.2.2.2.2.2.2.1.2.2).1 (xs_nf C0.2.2.2.2.2.2.2.1.2.2 (RX1, 52, "TeaChests", "KINDS", "[LTeaChests$Kind;", "TeaChests") (by decide +kernel)) ?_
  refine x_tlen 15 C0 dX1_writeLabel_14 rfl (xs_kinds C0.2.2.2.2.2.2.2.1.2.2).2 (v := 3) rfl ?_
  refine x_icmp_lt 19 18 C0 dX1_writeLabel_15 rfl (by decide) (fun c2 => ?_) (fun c2 => ?_)
  rotate_left
  · exact absurd (nI_lt hki (by decide)) c2
  refine x_new 1 22 C0 (fs := [.null, .int 0, .int 0, .int 0]) dX1_writeLabel_19 rfl rfl inJ4 tyJ4_ok mK_X1_56 mA_J4 mN_J4 (by decide) rfl rfl (Nat.le_of_ble_eq_true rfl) (Nat.le_of_ble_eq_true rfl) ?_
  refine x_dup 23 C0 dX1_writeLabel_22 rfl rfl ?_
  refine x_callI 26 C0 (k_J4_init_da8c8 l hl g _ _ _ (xup_s _ _ _) (Nat.ne_of_lt (Nat.lt_succ_self sz)) hzA) dX1_writeLabel_23 rfl mC_J4_init_da8c8 mM_X1_58 mI_J4_init_da8c8 mN_J4 rfl yd_J4_init_da8c8 rfl rfl ⟨Nat.le_of_ble_eq_true rfl, Nat.le_of_ble_eq_true rfl⟩ rfl rfl (Nat.le_of_ble_eq_true rfl) ⟨Nat.le_of_ble_eq_true rfl, Nat.le_of_ble_eq_true rfl⟩ (fun _ _ _ q => False.elim q) (fun r w1 sz1 hz hP => ?_)
  obtain ⟨rfl, rfl, rfl⟩ := hP
  refine x_w (w1 := (SB g w sz (sz + 1) (fun _ => 0) (nI (0)))) (by rw [SB_blank (by omega), nI_0]) ?_
  refine x_st (st1 := [.ref sz]) rfl ?_
  refine x_astore_n [(1, .ref sz), (0, .ref h0)] 27 C0 dX1_writeLabel_26 rfl rfl (by decide) rfl ?_
  refine x_lv (lv1 := [(0, .ref h0), (1, .ref sz)]) [1, 0] rfl ?_
  refine x_aload_n 1 28 C0 dX1_writeLabel_27 rfl rfl rfl ?_
  refine x_aload_n 0 29 C0 dX1_writeLabel_28 rfl rfl rfl ?_
  refine x_getf (v := .int (f 1)) 2 32 C0 dX1_writeLabel_29 rfl ((SB_q (by omega) (by omega)).trans hw) rfl (by decide) inX1 mF_X1_9 rfl ?_
  refine x_st (st1 := [.int (nI ga), .ref sz]) (congrArg (fun z => Value.int z :: _) (hga2)) ?_
  refine x_callV 35 C0 (k_J4_appendI1 l hl g w _ sz (sz + 1) (fun _ => 0) (by omega) hzA (xA_le1 hzA) _ ga (by omega) (by omega) (by omega)) dX1_writeLabel_32 rfl mC_J4_append_bf812 mM_X1_59 mI_J4_append_bf812 mV_J4_append_bf812 mN_J4 yd_J4_append_bf812 rfl rfl ⟨Nat.le_of_ble_eq_true rfl, Nat.le_of_ble_eq_true rfl⟩ SB_b rfl rfl rfl rfl (Nat.le_of_ble_eq_true rfl) ⟨Nat.le_of_ble_eq_true rfl, Nat.le_of_ble_eq_true rfl⟩ (fun _ _ _ q => False.elim q) (fun r w1 sz1 hz hP => ?_)
  obtain ⟨rfl, rfl, rfl⟩ := hP
  refine x_st (st1 := [.ref sz]) rfl ?_
  refine x_bipush (v := 46) 37 C0 dX1_writeLabel_35 rfl (by decide) ?_
  refine x_callV 40 C0 (k_J4_append_cf468 l hl g w _ sz (sz + 1) (putN (fun _ => 0) (0) ga) (by omega) hzA (xA_le1 hzA) _ _ (by omega) isCh46) dX1_writeLabel_37 rfl mC_J4_append_cf468 mM_X1_63 mI_J4_append_cf468 mV_J4_append_cf468 mN_J4 yd_J4_append_cf468 rfl rfl ⟨Nat.le_of_ble_eq_true rfl, Nat.le_of_ble_eq_true rfl⟩ SB_b rfl rfl rfl rfl (Nat.le_of_ble_eq_true rfl) ⟨Nat.le_of_ble_eq_true rfl, Nat.le_of_ble_eq_true rfl⟩ (fun _ _ _ q => False.elim q) (fun r w1 sz1 hz hP => ?_)
  obtain ⟨rfl, rfl, rfl⟩ := hP
  refine x_st (st1 := [.ref sz]) rfl ?_
  refine x_getsN 43 C0 dX1_writeLabel_40 rfl (xs_kinds C0.2.2.2.2.2.2.2.1.2.2).1 (xs_nf C0.2.2.2.2.2.2.2.1.2.2 (RX1, 52, "TeaChests", "KINDS", "[LTeaChests$Kind;", "TeaChests") (by decide +kernel)) ?_
  refine x_aload_n 0 44 C0 dX1_writeLabel_43 rfl rfl rfl ?_
  refine x_getf (v := .int (f 2)) 3 47 C0 dX1_writeLabel_44 rfl ((SB_q (by omega) (by omega)).trans hw) rfl (by decide) inX1 mF_X1_15 rfl ?_
  refine x_st (st1 := [.int (nI ki), .ref (g.2 10), .ref sz]) (congrArg (fun z => Value.int z :: _) (hki2)) ?_
  refine x_tq 48 C0 (v := .ref (g.2 (20 + ki))) dX1_writeLabel_47 rfl (xs_kinds C0.2.2.2.2.2.2.2.1.2.2).2 (vp_in_nI hki (by decide)) (by rw [nI_clamp (by omega)]) ?_
  refine x_getO 51 C0 (v := .ref (g.2 (102 + ki))) dX1_writeLabel_48 rfl (xs_kw C0.2.2.2.2.2.2.2.1.2.2 ki hki) mF_X1_66 ?_
  refine x_st (st1 := [.ref (g.2 (100 + (2 + ki))), .ref sz]) (by rw [show 102 + ki = 100 + (2 + ki) by omega]) ?_
  refine x_callV 54 C0 (k_J4_append_15ec4 l hl g w _ sz (sz + 1) (upd (putN (fun _ => 0) (0) ga) (0 + 1) 46) (by omega) hzA (xA_le1 hzA) _ (2 + ki) (by omega) (by omega)) dX1_writeLabel_51 rfl mC_J4_append_15ec4 mM_X1_71 mI_J4_append_15ec4 mV_J4_append_15ec4 mN_J4 yd_J4_append_15ec4 rfl rfl ⟨Nat.le_of_ble_eq_true rfl, Nat.le_of_ble_eq_true rfl⟩ SB_b rfl rfl rfl rfl (Nat.le_of_ble_eq_true rfl) ⟨Nat.le_of_ble_eq_true rfl, Nat.le_of_ble_eq_true rfl⟩ (fun _ _ _ q => False.elim q) (fun r w1 sz1 hz hP => ?_)
  obtain ⟨rfl, rfl, rfl⟩ := hP
  refine x_st (st1 := [.ref sz]) rfl ?_
  refine x_bipush (v := 32) 56 C0 dX1_writeLabel_54 rfl (by decide) ?_
  refine x_callV 59 C0 (k_J4_append_cf468 l hl g w _ sz (sz + 1) (putS (upd (putN (fun _ => 0) (0) ga) (0 + 1) 46) (0 + 1 + 1) (2 + ki)) (by omega) hzA (xA_le1 hzA) _ _ (by omega) isCh32) dX1_writeLabel_56 rfl mC_J4_append_cf468 mM_X1_63 mI_J4_append_cf468 mV_J4_append_cf468 mN_J4 yd_J4_append_cf468 rfl rfl ⟨Nat.le_of_ble_eq_true rfl, Nat.le_of_ble_eq_true rfl⟩ SB_b rfl rfl rfl rfl (Nat.le_of_ble_eq_true rfl) ⟨Nat.le_of_ble_eq_true rfl, Nat.le_of_ble_eq_true rfl⟩ (fun _ _ _ q => False.elim q) (fun r w1 sz1 hz hP => ?_)
  obtain ⟨rfl, rfl, rfl⟩ := hP
  refine x_st (st1 := [.ref sz]) rfl ?_
  refine x_aload_n 0 60 C0 dX1_writeLabel_59 rfl rfl rfl ?_
  refine x_getf (v := .int (f 3)) 4 63 C0 dX1_writeLabel_60 rfl ((SB_q (by omega) (by omega)).trans hw) rfl (by decide) inX1 mF_X1_33 rfl ?_
  refine x_st (st1 := [.int (nI po), .ref sz]) (congrArg (fun z => Value.int z :: _) (hpo2)) ?_
  refine x_callV 66 C0 (k_J4_append_bf812 l hl g w _ sz (sz + 1) (upd (putS (upd (putN (fun _ => 0) (0) ga) (0 + 1) 46) (0 + 1 + 1) (2 + ki)) (0 + 1 + 1 + xlen.getD (2 + ki) 0) 32) (by omega) hzA (xA_le1 hzA) (labN1 ki) po (by omega) hl1) dX1_writeLabel_63 rfl mC_J4_append_bf812 mM_X1_59 mI_J4_append_bf812 mV_J4_append_bf812 mN_J4 yd_J4_append_bf812 rfl rfl ⟨Nat.le_of_ble_eq_true rfl, Nat.le_of_ble_eq_true rfl⟩ SB_b rfl rfl rfl rfl (Nat.le_of_ble_eq_true rfl) ⟨Nat.le_of_ble_eq_true rfl, Nat.le_of_ble_eq_true rfl⟩ (fun _ _ _ q => False.elim q) (fun r w1 sz1 hz hP => ?_)
  obtain ⟨rfl, rfl, rfl⟩ := hP
  refine x_w (w1 := (SB g w sz (sz + 1) (labF2 ga ki po) (nI (labN2 ki po)))) rfl ?_
  refine x_st (st1 := [.ref sz]) rfl ?_
  refine x_pop 67 C0 dX1_writeLabel_66 rfl rfl ?_
  refine x_aload_n 0 68 C0 dX1_writeLabel_67 rfl rfl rfl ?_
  refine x_getf (v := .int (f 6)) 7 71 C0 dX1_writeLabel_68 rfl ((SB_q (by omega) (by omega)).trans hw) rfl (by decide) inX1 mF_X1_43 rfl ?_
  refine x_iconst (v := 1) 72 C0 dX1_writeLabel_71 rfl (by decide) ?_
  refine x_icmp_lt 82 75 C0 dX1_writeLabel_72 rfl (by decide) (fun c3 => ?_) (fun c3 => ?_)
  · have c3' := Int32.not_le.mpr c3
    refine x_aload_n 0 83 C0 dX1_writeLabel_82 rfl rfl rfl ?_
    refine x_aload_n 1 84 C0 dX1_writeLabel_83 rfl rfl rfl ?_
    refine x_callV 87 C0 (k_J4_toString_0e30d l hl g w _ sz (sz + 1) (labF2 ga ki po) (by omega) hzA (xA_le1 hzA) (labN2 ki po) (by omega) (by omega) (by omega) (xA_le hzA (by omega)) (fun j hj => hf2 j)) dX1_writeLabel_84 rfl mC_J4_toString_0e30d mM_X1_76 mI_J4_toString_0e30d mV_J4_toString_0e30d mN_J4 yd_J4_toString_0e30d rfl rfl ⟨Nat.le_of_ble_eq_true rfl, Nat.le_of_ble_eq_true rfl⟩ SB_b rfl rfl rfl rfl (Nat.le_of_ble_eq_true rfl) ⟨Nat.le_of_ble_eq_true rfl, Nat.le_of_ble_eq_true rfl⟩ (fun _ _ _ q => False.elim q) (fun r w1 sz1 hz hP => ?_)
    obtain ⟨rfl, ⟨h, hh, rfl⟩, rfl⟩ := hP
    refine x_w (w1 := (xup (xup (SB g w sz (sz + 1) (labF2 ga ki po) (nI (labN2 ki po))) (sz + 2) (.inr (0, [.ref (sz + 3), .int 0, .int 0, .int 0]))) (sz + 3) (.inl (g.2 3, labN2 ki po, .inl h)))) rfl ?_
    refine x_st (st1 := [.ref (sz + 2), .ref h0]) rfl ?_
    refine x_putf 9 90 C0 dX1_writeLabel_87 rfl ((xup_n (by omega)).trans ((xup_n (by omega)).trans ((SB_q (by omega) (by omega)).trans hw))) hA rfl (by decide) inX1 tyX1_ok nmX1 mF_X1_23 rfl rfl rfl rfl (Nat.le_of_ble_eq_true rfl) ?_
    refine x_w (w1 := (xup (xup (xup (SB g w sz (sz + 1) (labF2 ga ki po) (nI (labN2 ki po))) (sz + 2) (.inr (0, [.ref (sz + 3), .int 0, .int 0, .int 0]))) (sz + 3) (.inl (g.2 3, labN2 ki po, .inl h))) h0 (.inr (3, chestE num f (sz + 2))))) rfl ?_
    exact x_return C0 dX1_writeLabel_90 rfl (Nat.le_of_ble_eq_true rfl) (Nat.le_of_ble_eq_true rfl) ⟨rfl, ⟨_, fun q hq => (xup_n (by omega)).trans ((xup_n (by omega)).trans (SB_q (by omega) (by omega))), rfl, h, by rw [show decide (1 ≤ f 6) = false from decide_eq_false c3']; exact hh, by rw [show decide (1 ≤ f 6) = false from decide_eq_false c3']; exact Or.inr ⟨0, 0, (xup_n (by omega)).trans (xup_s _ _ _), xup_s _ _ _⟩⟩, rfl⟩
  · have c3' := Int32.not_lt.mp c3
    refine x_aload_n 1 76 C0 dX1_writeLabel_75 rfl rfl rfl ?_
    refine x_ldcS 78 C0 dX1_writeLabel_76 rfl (xs_ldc C0.2.2.2.2.2.2.2.1.2.2 (RX1, 74, " damp", 101) (by decide +kernel)) ?_
    refine x_callV 81 C0 (k_J4_append_15ec4 l hl g w _ sz (sz + 1) (labF2 ga ki po) (by omega) hzA (xA_le1 hzA) (labN2 ki po) 1 (by omega) hl2) dX1_writeLabel_78 rfl mC_J4_append_15ec4 mM_X1_71 mI_J4_append_15ec4 mV_J4_append_15ec4 mN_J4 yd_J4_append_15ec4 rfl rfl ⟨Nat.le_of_ble_eq_true rfl, Nat.le_of_ble_eq_true rfl⟩ SB_b rfl rfl rfl rfl (Nat.le_of_ble_eq_true rfl) ⟨Nat.le_of_ble_eq_true rfl, Nat.le_of_ble_eq_true rfl⟩ (fun _ _ _ q => False.elim q) (fun r w1 sz1 hz hP => ?_)
    obtain ⟨rfl, rfl, rfl⟩ := hP
    refine x_st (st1 := [.ref sz]) rfl ?_
    refine x_pop 82 C0 dX1_writeLabel_81 rfl rfl ?_
    refine x_aload_n 0 83 C0 dX1_writeLabel_82 rfl rfl rfl ?_
    refine x_aload_n 1 84 C0 dX1_writeLabel_83 rfl rfl rfl ?_
    refine x_callV 87 C0 (k_J4_toString_0e30d l hl g w _ sz (sz + 1) (putS (labF2 ga ki po) (labN2 ki po) 1) (by omega) hzA (xA_le1 hzA) (labN2 ki po + xlen.getD 1 0) (by omega) (by omega) (by omega) (xA_le hzA (by omega)) (fun j hj => hfD j)) dX1_writeLabel_84 rfl mC_J4_toString_0e30d mM_X1_76 mI_J4_toString_0e30d mV_J4_toString_0e30d mN_J4 yd_J4_toString_0e30d rfl rfl ⟨Nat.le_of_ble_eq_true rfl, Nat.le_of_ble_eq_true rfl⟩ SB_b rfl rfl rfl rfl (Nat.le_of_ble_eq_true rfl) ⟨Nat.le_of_ble_eq_true rfl, Nat.le_of_ble_eq_true rfl⟩ (fun _ _ _ q => False.elim q) (fun r w1 sz1 hz hP => ?_)
    obtain ⟨rfl, ⟨h, hh, rfl⟩, rfl⟩ := hP
    refine x_w (w1 := (xup (xup (SB g w sz (sz + 1) (putS (labF2 ga ki po) (labN2 ki po) 1) (nI (labN2 ki po + xlen.getD 1 0))) (sz + 2) (.inr (0, [.ref (sz + 3), .int 0, .int 0, .int 0]))) (sz + 3) (.inl (g.2 3, labN2 ki po + xlen.getD 1 0, .inl h)))) rfl ?_
    refine x_st (st1 := [.ref (sz + 2), .ref h0]) rfl ?_
    refine x_putf 9 90 C0 dX1_writeLabel_87 rfl ((xup_n (by omega)).trans ((xup_n (by omega)).trans ((SB_q (by omega) (by omega)).trans hw))) hA rfl (by decide) inX1 tyX1_ok nmX1 mF_X1_23 rfl rfl rfl rfl (Nat.le_of_ble_eq_true rfl) ?_
    refine x_w (w1 := (xup (xup (xup (SB g w sz (sz + 1) (putS (labF2 ga ki po) (labN2 ki po) 1) (nI (labN2 ki po + xlen.getD 1 0))) (sz + 2) (.inr (0, [.ref (sz + 3), .int 0, .int 0, .int 0]))) (sz + 3) (.inl (g.2 3, labN2 ki po + xlen.getD 1 0, .inl h))) h0 (.inr (3, chestE num f (sz + 2))))) rfl ?_
    exact x_return C0 dX1_writeLabel_90 rfl (Nat.le_of_ble_eq_true rfl) (Nat.le_of_ble_eq_true rfl) ⟨rfl, ⟨_, fun q hq => (xup_n (by omega)).trans ((xup_n (by omega)).trans (SB_q (by omega) (by omega))), rfl, h, by rw [show decide (1 ≤ f 6) = true from decide_eq_true c3']; exact hh, by rw [show decide (1 ≤ f 6) = true from decide_eq_true c3']; exact Or.inr ⟨0, 0, (xup_n (by omega)).trans (xup_s _ _ _), xup_s _ _ _⟩⟩, rfl⟩

