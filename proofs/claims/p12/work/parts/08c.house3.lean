/-! A HOUSE'S BEGINNING AND ITS COPY -/
def blankH : List Value := [.null, .null, .int 0, .int 0, .int 0, .int 0, .int 0, .int 0, .int 0, .int 0, .int 0, .int 0, .int 0, .int 0]
def blankL : List Value := [.int 0, .int 0, .int 0, .int 0, .int 0, .int 0, .int 0, .int 0, .int 0, .null]
theorem xup_d {w : xw_T} {a b d : Nat} {e e' e3 e2 : va_E} (h : a ≠ b) (h2 : a ≠ d) : xup (xup (xup (xup w a e) b e') d e3) a e2 = xup (xup (xup w a e2) b e') d e3 := by
  funext q
  unfold xup
  by_cases h3 : q = a
  · subst h3
    simp [h, h2]
  · simp [h3]
theorem HB_0 {g : xg_T} {w : xw_T} {h : Nat} : xup (xup (xup w h (.inr (6, houseL h x00))) (h + 1) (.inl (g.2 1, 18, .inl (fun _ => 0)))) (h + 2) (.inl (g.2 6, 20, .inr (.inr (.inr (.inr (fun _ => none)))))) = HB g w h 0 := by
  funext q
  unfold xup HB HBf
  by_cases h1 : q = h + 2
  · rw [if_pos h1, if_pos (by omega), if_neg (by omega), if_neg (by omega), if_pos h1]
    simp
  · rw [if_neg h1]
    by_cases h2 : q = h + 1
    · rw [if_pos h2, if_pos (by omega), if_neg (by omega), if_pos h2]
    · rw [if_neg h2]
      by_cases h3 : q = h
      · rw [if_pos h3, if_pos (by omega), if_pos h3]
      · rw [if_neg h3, if_neg (by omega)]

set_option maxHeartbeats 4000000 in
set_option maxRecDepth 100000 in
theorem k_X4_init (l : Launch) (hl : l.stackTraces = false) (g : xg_T) (w : xw_T) (h : Nat) (sz : Nat) (hsz : sz = h + 1) (hw : w h = some (.inr (6, blankH))) (hA : xA g h) : xM l g yX4_init cX4_init 2 none ({ frames := 2, cells := 22, slots := 238, locals := 33 }) 22 238 [.ref h] w sz (fun r w1 sz1 => r = none ∧ w1 = HW g w h x00 (fun _ => g.2 100) ∧ h + 23 = sz1) (fun _ _ _ => False) := by
  subst hsz
  refine xM.of RX4 hl (by decide +kernel) rfl (Nat.le_of_ble_eq_true rfl) rfl ?_
  intro p e s m args below meth cD C0 hini
  refine x_aload_n 0 1 C0 dX4_init_0 rfl rfl rfl ?_
  refine x_objInit 4 C0 dX4_init_1 rfl mM_X4_3 mI_Object_init mC_Object_init (Nat.le_of_ble_eq_true rfl) (Nat.le_of_ble_eq_true rfl) ?_
  refine x_aload_n 0 5 C0 dX4_init_4 rfl rfl rfl ?_
  refine x_bipush (v := 6) 7 C0 dX4_init_5 rfl (by decide) ?_
  refine x_getsN 10 C0 dX4_init_7 rfl (xs_kinds C0.2.2.2.2.2.2.2.1.2.2).1 (xs_nf C0.2.2.2.2.2.2.2.1.2.2 (RX4, 9, "TeaChests", "KINDS", "[LTeaChests$Kind;", "TeaChests") (by decide +kernel)) ?_
  refine x_tlen 11 C0 dX4_init_10 rfl (xs_kinds C0.2.2.2.2.2.2.2.1.2.2).2 (v := 3) rfl ?_
  refine x_imul 12 C0 dX4_init_11 rfl ?_
  refine x_st (st1 := [.int 18, .ref h]) (congrArg (fun z => Value.int z :: _) (by decide)) ?_
  refine x_newa 0 14 C0 (N := 18) (a0 := (18, .inl (fun _ => 0))) dX4_init_12 rfl mR_int rfl rfl (fun _ => rfl) (by decide) (by decide) (by decide) rfl rfl (Nat.le_of_ble_eq_true rfl) (Nat.le_of_ble_eq_true rfl) ?_
  refine x_putF 0 17 C0 dX4_init_14 rfl ((xup_n (by omega)).trans hw) hA rfl (by decide) inX4 tyX4_ok nmX4 mF_X4_13 rfl rfl hini rfl rfl rfl (Nat.le_of_ble_eq_true rfl) ?_
  refine x_w (w1 := (xup (xup w h (.inr (6, [.ref (h + 1), .null, .int 0, .int 0, .int 0, .int 0, .int 0, .int 0, .int 0, .int 0, .int 0, .int 0, .int 0, .int 0]))) (h + 1) (.inl (g.2 1, 18, .inl (fun _ => 0))))) (xup_c (by omega)) ?_
  refine x_aload_n 0 18 C0 dX4_init_17 rfl rfl rfl ?_
  refine x_bipush (v := 20) 20 C0 dX4_init_18 rfl (by decide) ?_
  refine x_newq 5 23 C0 (N := 20) dX4_init_20 rfl mK_X4_19 (xs_ao C0.2.2.2.2.2.2.2.1.2.2).1 rfl (by decide) (by decide) (by decide) rfl rfl (Nat.le_of_ble_eq_true rfl) (Nat.le_of_ble_eq_true rfl) ?_
  refine x_putF 1 26 C0 dX4_init_23 rfl ((xup_n (by omega)).trans ((xup_n (by omega)).trans (xup_s _ _ _))) hA rfl (by decide) inX4 tyX4_ok nmX4 mF_X4_21 rfl rfl hini rfl rfl rfl (Nat.le_of_ble_eq_true rfl) ?_
  refine x_w (w1 := (xup (xup (xup w h (.inr (6, [.ref (h + 1), .ref (h + 2), .int 0, .int 0, .int 0, .int 0, .int 0, .int 0, .int 0, .int 0, .int 0, .int 0, .int 0, .int 0]))) (h + 1) (.inl (g.2 1, 18, .inl (fun _ => 0)))) (h + 2) (.inl (g.2 6, 20, .inr (.inr (.inr (.inr (fun _ => none)))))))) (xup_d (by omega) (by omega)) ?_
  refine x_aload_n 0 27 C0 dX4_init_26 rfl rfl rfl ?_
  refine x_bipush (v := 10) 29 C0 dX4_init_27 rfl (by decide) ?_
  refine x_putf 3 32 C0 dX4_init_29 rfl ((xup_n (by omega)).trans ((xup_n (by omega)).trans (xup_s _ _ _))) hA rfl (by decide) inX4 tyX4_ok nmX4 mF_X4_25 rfl rfl rfl rfl (Nat.le_of_ble_eq_true rfl) ?_
  refine x_w (w1 := (xup (xup (xup w h (.inr (6, [.ref (h + 1), .ref (h + 2), .int 0, .int 10, .int 0, .int 0, .int 0, .int 0, .int 0, .int 0, .int 0, .int 0, .int 0, .int 0]))) (h + 1) (.inl (g.2 1, 18, .inl (fun _ => 0)))) (h + 2) (.inl (g.2 6, 20, .inr (.inr (.inr (.inr (fun _ => none)))))))) (xup_d (by omega) (by omega)) ?_
  refine x_aload_n 0 33 C0 dX4_init_32 rfl rfl rfl ?_
  refine x_bipush (v := 20) 35 C0 dX4_init_33 rfl (by decide) ?_
  refine x_putf 4 38 C0 dX4_init_35 rfl ((xup_n (by omega)).trans ((xup_n (by omega)).trans (xup_s _ _ _))) hA rfl (by decide) inX4 tyX4_ok nmX4 mF_X4_29 rfl rfl rfl rfl (Nat.le_of_ble_eq_true rfl) ?_
  refine x_w (w1 := (xup (xup (xup w h (.inr (6, [.ref (h + 1), .ref (h + 2), .int 0, .int 10, .int 20, .int 0, .int 0, .int 0, .int 0, .int 0, .int 0, .int 0, .int 0, .int 0]))) (h + 1) (.inl (g.2 1, 18, .inl (fun _ => 0)))) (h + 2) (.inl (g.2 6, 20, .inr (.inr (.inr (.inr (fun _ => none)))))))) (xup_d (by omega) (by omega)) ?_
  refine x_aload_n 0 39 C0 dX4_init_38 rfl rfl rfl ?_
  refine x_iconst (v := 4) 40 C0 dX4_init_39 rfl (by decide) ?_
  refine x_putf 6 43 C0 dX4_init_40 rfl ((xup_n (by omega)).trans ((xup_n (by omega)).trans (xup_s _ _ _))) hA rfl (by decide) inX4 tyX4_ok nmX4 mF_X4_32 rfl rfl rfl rfl (Nat.le_of_ble_eq_true rfl) ?_
  refine x_w (w1 := (xup (xup (xup w h (.inr (6, [.ref (h + 1), .ref (h + 2), .int 0, .int 10, .int 20, .int 0, .int 4, .int 0, .int 0, .int 0, .int 0, .int 0, .int 0, .int 0]))) (h + 1) (.inl (g.2 1, 18, .inl (fun _ => 0)))) (h + 2) (.inl (g.2 6, 20, .inr (.inr (.inr (.inr (fun _ => none)))))))) (xup_d (by omega) (by omega)) ?_
  refine x_iconst (v := 0) 44 C0 dX4_init_43 rfl (by decide) ?_
  refine x_istore_n [(1, .int 0), (0, .ref h)] 45 C0 dX4_init_44 rfl rfl (by decide) rfl ?_
  refine x_lv (lv1 := [(0, .ref h), (1, .int 0)]) [1, 0] rfl ?_
  refine x_w HB_0 ?_
  have loop45 : ∀ (N i : Nat), i ≤ 20 → 20 - i < N → xV p l e ({ frames := 2, cells := 22, slots := 238, locals := 33 }) s m args below meth cD (xQ g below (fun r w1 sz1 => r = none ∧ w1 = HW g w h x00 (fun _ => g.2 100) ∧ h + 23 = sz1) (fun _ _ _ => False) args s 22 238) g 2 (HB g w h i) (h + 3 + i) (2 + i) (38 + 10 * i) 45 [(0, .ref h), (1, .int (nI i))] [] := by
    intro N
    induction N with
    | zero => intro i h1 h2; omega
    | succ N ih =>
      intro i hi hN
      refine x_iload_n 1 46 C0 dX4_init_45 rfl rfl rfl ?_
      refine x_aload_n 0 47 C0 dX4_init_46 rfl rfl rfl ?_
      refine x_getf (v := .ref (h + 2)) 1 50 C0 dX4_init_47 rfl HB_h rfl (by decide) inX4 mF_X4_21 rfl ?_
      refine x_alen 5 51 C0 (v := 20) dX4_init_50 rfl HB_c rfl rfl ?_
      refine x_icmp_ge 74 54 C0 dX4_init_51 rfl (by decide) (fun c1 => ?_) (fun c1 => ?_)
      · have hI := ix_eq 20 rfl (by decide) hi c1
        subst hI
        refine x_w HB_20 ?_
        exact x_return C0 dX4_init_74 rfl (by show 2 + 20 ≤ 22; omega) (by show 38 + 10 * 20 ≤ 238; omega) ⟨rfl, rfl, rfl⟩
      · have hi2 := ix_lt 20 rfl (by decide) hi c1
        refine x_aload_n 0 55 C0 dX4_init_54 rfl rfl rfl ?_
        refine x_getf (v := .ref (h + 2)) 1 58 C0 dX4_init_55 rfl HB_h rfl (by decide) inX4 mF_X4_21 rfl ?_
        refine x_iload_n 1 59 C0 dX4_init_58 rfl rfl rfl ?_
        refine x_new 3 62 C0 (fs := blankL) dX4_init_59 rfl rfl inX1 tyX1_ok mK_X4_19 mA_X1 mN_X1 (by decide) rfl rfl (by show 2 + i + 1 ≤ 22; omega) (by show 38 + 10 * i + 10 ≤ 238; omega) ?_
        refine x_dup 63 C0 dX4_init_62 rfl rfl ?_
        refine x_iload_n 1 64 C0 dX4_init_63 rfl rfl rfl ?_
        refine x_callI 67 C0 (k_X1_init l hl g _ _ (h + 3 + i) (nI i) (xup_s _ _ _) (xA_le hA (by omega))) dX4_init_64 rfl mC_X1_init mM_X4_35 mI_X1_init mN_X1 rfl yd_X1_init rfl rfl ⟨Nat.le_of_ble_eq_true rfl, Nat.le_of_ble_eq_true rfl⟩ rfl rfl (Nat.le_of_ble_eq_true rfl) ⟨by show 2 + i + 1 ≤ 22; omega, by show 38 + 10 * i + 10 ≤ 238; omega⟩ (fun _ _ _ q => False.elim q) (fun r w1 sz1 hz hP => ?_)
        obtain ⟨rfl, rfl, rfl⟩ := hP
        refine x_w (w1 := (xup (HB g w h i) (h + 3 + i) (.inr (3, chestE (nI i) blankC (g.2 100))))) (xup_2 _ _ _ _) ?_
        refine x_st (st1 := [.ref (h + 3 + i), .int (nI i), .ref (h + 2)]) rfl ?_
        refine x_aast 5 3 68 C0 dX4_init_67 rfl ((xup_n (by omega)).trans HB_c) (xA_le hA (by omega)) (xup_s _ _ _) rfl rfl (vp_in_nI hi2 (by decide)) ?_
        refine x_w (w1 := (HB g w h (i + 1))) (by rw [nI_clamp (by omega)]; exact HB_1 hi2) ?_
        refine x_iinc [(1, .int (nI (i + 1))), (0, .ref h)] 1 71 C0 dX4_init_68 rfl rfl (nI_1 i) (by decide) rfl ?_
        refine x_lv (lv1 := [(0, .ref h), (1, .int (nI (i + 1)))]) [1, 0] rfl ?_
        refine x_goto 45 C0 dX4_init_71 (by decide) ?_
        have q9 := ih (i + 1) (by omega) (by omega)
        exact q9
  exact loop45 21 0 (by omega) (by omega)

set_option maxHeartbeats 4000000 in
set_option maxRecDepth 100000 in
theorem k_X4_copyFrom (l : Launch) (hl : l.stackTraces = false) (g : xg_T) (w : xw_T) (sz : Nat) (h : Nat) (x : Nat → Int32) (la : Nat → Nat) (hR : HR g w h x la) (hA : xA g h) (h2 : Nat) (y : Nat → Int32) (lb : Nat → Nat) (hR2 : HR g w h2 y lb) (hd : h2 + 23 ≤ h ∨ h + 23 ≤ h2) (hb2 : ∀ k, k < 20 → y (28 + 9 * k + 4) = 0 ∨ y (28 + 9 * k + 4) = 1) : xM l g yX4_copyFrom cX4_copyFrom 3 none ({ frames := 1, cells := 0, slots := 0, locals := 40 }) 0 0 [.ref h, .ref h2] w sz (fun r w1 sz1 => r = none ∧ w1 = HW g w h (cpX x y) lb ∧ sz = sz1) (fun _ _ _ => False) := by
  refine xM.of RX4 hl (by decide +kernel) rfl (Nat.le_of_ble_eq_true rfl) rfl ?_
  intro p e s m args below meth cD C0 hini
  refine x_aload_n 1 1 C0 dX4_copyFrom_0 rfl rfl rfl ?_
  refine x_getf (v := .ref (h2 + 1)) 0 4 C0 dX4_copyFrom_1 rfl (HR.ho hR2) rfl (by decide) inX4 mF_X4_13 rfl ?_
  refine x_iconst (v := 0) 5 C0 dX4_copyFrom_4 rfl (by decide) ?_
  refine x_aload_n 0 6 C0 dX4_copyFrom_5 rfl rfl rfl ?_
  refine x_getf (v := .ref (h + 1)) 0 9 C0 dX4_copyFrom_6 rfl (HR.ho hR) rfl (by decide) inX4 mF_X4_13 rfl ?_
  refine x_iconst (v := 0) 10 C0 dX4_copyFrom_9 rfl (by decide) ?_
  refine x_aload_n 0 11 C0 dX4_copyFrom_10 rfl rfl rfl ?_
  refine x_getf (v := .ref (h + 1)) 0 14 C0 dX4_copyFrom_11 rfl (HR.ho hR) rfl (by decide) inX4 mF_X4_13 rfl ?_
  refine x_alen 0 15 C0 (v := 18) dX4_copyFrom_14 rfl (HR.st hR) rfl rfl ?_
  refine x_copyC 0 18 C0 (ty := .int) (sp := 0) (dp := 0) (nn := 18) dX4_copyFrom_15 rfl mM_X4_38 mZ_System_arraycopy mS_System_arraycopy mN_J10 rfl (xsrcW (t0 := 0) C0 (HR.st hR2) rfl) (HR.st hR) (xA_le hA (by omega)) rfl (by decide) (by decide) (by decide) (by decide) (by decide) (fun _ _ => rfl) (Nat.le_of_ble_eq_true rfl) (by decide +kernel) ?_
  refine x_w (w1 := HW g w h (cpS x y) la) ((congrArg (fun z => xup z (h + 1) _) (HW_self hR)).trans HW_cpS) ?_
  refine x_w (w1 := (HW g w h (cpC x y 0) (cpL la lb 0))) rfl ?_
  refine x_iconst (v := 0) 19 C0 dX4_copyFrom_18 rfl (by decide) ?_
  refine x_istore_n [(2, .int 0), (0, .ref h), (1, .ref h2)] 20 C0 dX4_copyFrom_19 rfl rfl (by decide) rfl ?_
  refine x_lv (lv1 := [(0, .ref h), (1, .ref h2), (2, .int 0)]) [1, 2, 0] rfl ?_
  have loop20 : ∀ (N i : Nat), i ≤ 20 → 20 - i < N → xV p l e ({ frames := 1, cells := 0, slots := 0, locals := 40 }) s m args below meth cD (xQ g below (fun r w1 sz1 => r = none ∧ w1 = HW g w h (cpX x y) lb ∧ sz = sz1) (fun _ _ _ => False) args s 0 0) g 3 (HW g w h (cpC x y i) (cpL la lb i)) sz (0) (0) 20 [(0, .ref h), (1, .ref h2), (2, .int (nI i))] [] := by
    intro N
    induction N with
    | zero => intro i h1 h2; omega
    | succ N ih =>
      intro i hi hN
      refine x_iload_n 2 21 C0 dX4_copyFrom_20 rfl rfl rfl ?_
      refine x_aload_n 0 22 C0 dX4_copyFrom_21 rfl rfl rfl ?_
      refine x_getf (v := .ref (h + 2)) 1 25 C0 dX4_copyFrom_22 rfl (HR.ho HR_HW) rfl (by decide) inX4 mF_X4_21 rfl ?_
      refine x_alen 5 26 C0 (v := 20) dX4_copyFrom_25 rfl (HR.cs HR_HW) rfl rfl ?_
      refine x_icmp_ge 50 29 C0 dX4_copyFrom_26 rfl (by decide) (fun c1 => ?_) (fun c1 => ?_)
      · have hI := ix_eq 20 rfl (by decide) hi c1
        subst hI
        refine x_aload_n 0 51 C0 dX4_copyFrom_50 rfl rfl rfl ?_
        refine x_aload_n 1 52 C0 dX4_copyFrom_51 rfl rfl rfl ?_
        refine x_getf (v := .int (y 3)) 2 55 C0 dX4_copyFrom_52 rfl (HR.ho (HR_far hd hR2)) rfl (by decide) inX4 mF_X4_48 rfl ?_
        refine x_putf 2 58 C0 dX4_copyFrom_55 rfl (HR.ho HR_HW) hA rfl (by decide) inX4 tyX4_ok nmX4 mF_X4_48 rfl rfl rfl rfl (Nat.le_of_ble_eq_true rfl) ?_
        refine x_w (w1 := HW g w h (upd (cpC x y 20) 3 (y 3)) (cpL la lb 20)) (HW_putH (by decide) (houseS2 _ _ _)) ?_
        refine x_aload_n 0 59 C0 dX4_copyFrom_58 rfl rfl rfl ?_
        refine x_aload_n 1 60 C0 dX4_copyFrom_59 rfl rfl rfl ?_
        refine x_getf (v := .int (y 1)) 3 63 C0 dX4_copyFrom_60 rfl (HR.ho (HR_far hd hR2)) rfl (by decide) inX4 mF_X4_25 rfl ?_
        refine x_putf 3 66 C0 dX4_copyFrom_63 rfl (HR.ho HR_HW) hA rfl (by decide) inX4 tyX4_ok nmX4 mF_X4_25 rfl rfl rfl rfl (Nat.le_of_ble_eq_true rfl) ?_
        refine x_w (w1 := HW g w h (upd (upd (cpC x y 20) 3 (y 3)) 1 (y 1)) (cpL la lb 20)) (HW_putH (by decide) (houseS3 _ _ _)) ?_
        refine x_aload_n 0 67 C0 dX4_copyFrom_66 rfl rfl rfl ?_
        refine x_aload_n 1 68 C0 dX4_copyFrom_67 rfl rfl rfl ?_
        refine x_getf (v := .int (y 2)) 4 71 C0 dX4_copyFrom_68 rfl (HR.ho (HR_far hd hR2)) rfl (by decide) inX4 mF_X4_29 rfl ?_
        refine x_putf 4 74 C0 dX4_copyFrom_71 rfl (HR.ho HR_HW) hA rfl (by decide) inX4 tyX4_ok nmX4 mF_X4_29 rfl rfl rfl rfl (Nat.le_of_ble_eq_true rfl) ?_
        refine x_w (w1 := HW g w h (upd (upd (upd (cpC x y 20) 3 (y 3)) 1 (y 1)) 2 (y 2)) (cpL la lb 20)) (HW_putH (by decide) (houseS4 _ _ _)) ?_
        refine x_aload_n 0 75 C0 dX4_copyFrom_74 rfl rfl rfl ?_
        refine x_aload_n 1 76 C0 dX4_copyFrom_75 rfl rfl rfl ?_
        refine x_getf (v := .int (y 0)) 5 79 C0 dX4_copyFrom_76 rfl (HR.ho (HR_far hd hR2)) rfl (by decide) inX4 mF_X4_51 rfl ?_
        refine x_putf 5 82 C0 dX4_copyFrom_79 rfl (HR.ho HR_HW) hA rfl (by decide) inX4 tyX4_ok nmX4 mF_X4_51 rfl rfl rfl rfl (Nat.le_of_ble_eq_true rfl) ?_
        refine x_w (w1 := HW g w h (upd (upd (upd (upd (cpC x y 20) 3 (y 3)) 1 (y 1)) 2 (y 2)) 0 (y 0)) (cpL la lb 20)) (HW_putH (by decide) (houseS5 _ _ _)) ?_
        refine x_aload_n 0 83 C0 dX4_copyFrom_82 rfl rfl rfl ?_
        refine x_aload_n 1 84 C0 dX4_copyFrom_83 rfl rfl rfl ?_
        refine x_getf (v := .int (y 5)) 6 87 C0 dX4_copyFrom_84 rfl (HR.ho (HR_far hd hR2)) rfl (by decide) inX4 mF_X4_32 rfl ?_
        refine x_putf 6 90 C0 dX4_copyFrom_87 rfl (HR.ho HR_HW) hA rfl (by decide) inX4 tyX4_ok nmX4 mF_X4_32 rfl rfl rfl rfl (Nat.le_of_ble_eq_true rfl) ?_
        refine x_w (w1 := HW g w h (upd (upd (upd (upd (upd (cpC x y 20) 3 (y 3)) 1 (y 1)) 2 (y 2)) 0 (y 0)) 5 (y 5)) (cpL la lb 20)) (HW_putH (by decide) (houseS6 _ _ _)) ?_
        refine x_aload_n 0 91 C0 dX4_copyFrom_90 rfl rfl rfl ?_
        refine x_aload_n 1 92 C0 dX4_copyFrom_91 rfl rfl rfl ?_
        refine x_getf (v := .int (y 4)) 7 95 C0 dX4_copyFrom_92 rfl (HR.ho (HR_far hd hR2)) rfl (by decide) inX4 mF_X4_54 rfl ?_
        refine x_putf 7 98 C0 dX4_copyFrom_95 rfl (HR.ho HR_HW) hA rfl (by decide) inX4 tyX4_ok nmX4 mF_X4_54 rfl rfl rfl rfl (Nat.le_of_ble_eq_true rfl) ?_
        refine x_w (w1 := HW g w h (upd (upd (upd (upd (upd (upd (cpC x y 20) 3 (y 3)) 1 (y 1)) 2 (y 2)) 0 (y 0)) 5 (y 5)) 4 (y 4)) (cpL la lb 20)) (HW_putH (by decide) (houseS7 _ _ _)) ?_
        refine x_aload_n 0 99 C0 dX4_copyFrom_98 rfl rfl rfl ?_
        refine x_aload_n 1 100 C0 dX4_copyFrom_99 rfl rfl rfl ?_
        refine x_getf (v := .int (y 9)) 8 103 C0 dX4_copyFrom_100 rfl (HR.ho (HR_far hd hR2)) rfl (by decide) inX4 mF_X4_57 rfl ?_
        refine x_putf 8 106 C0 dX4_copyFrom_103 rfl (HR.ho HR_HW) hA rfl (by decide) inX4 tyX4_ok nmX4 mF_X4_57 rfl rfl rfl rfl (Nat.le_of_ble_eq_true rfl) ?_
        refine x_w (w1 := HW g w h (upd (upd (upd (upd (upd (upd (upd (cpC x y 20) 3 (y 3)) 1 (y 1)) 2 (y 2)) 0 (y 0)) 5 (y 5)) 4 (y 4)) 9 (y 9)) (cpL la lb 20)) (HW_putH (by decide) (houseS8 _ _ _)) ?_
        refine x_aload_n 0 107 C0 dX4_copyFrom_106 rfl rfl rfl ?_
        refine x_aload_n 1 108 C0 dX4_copyFrom_107 rfl rfl rfl ?_
        refine x_getf (v := .int (y 6)) 9 111 C0 dX4_copyFrom_108 rfl (HR.ho (HR_far hd hR2)) rfl (by decide) inX4 mF_X4_60 rfl ?_
        refine x_putf 9 114 C0 dX4_copyFrom_111 rfl (HR.ho HR_HW) hA rfl (by decide) inX4 tyX4_ok nmX4 mF_X4_60 rfl rfl rfl rfl (Nat.le_of_ble_eq_true rfl) ?_
        refine x_w (w1 := HW g w h (upd (upd (upd (upd (upd (upd (upd (upd (cpC x y 20) 3 (y 3)) 1 (y 1)) 2 (y 2)) 0 (y 0)) 5 (y 5)) 4 (y 4)) 9 (y 9)) 6 (y 6)) (cpL la lb 20)) (HW_putH (by decide) (houseS9 _ _ _)) ?_
        refine x_aload_n 0 115 C0 dX4_copyFrom_114 rfl rfl rfl ?_
        refine x_aload_n 1 116 C0 dX4_copyFrom_115 rfl rfl rfl ?_
        refine x_getf (v := .int (y 7)) 10 119 C0 dX4_copyFrom_116 rfl (HR.ho (HR_far hd hR2)) rfl (by decide) inX4 mF_X4_63 rfl ?_
        refine x_putf 10 122 C0 dX4_copyFrom_119 rfl (HR.ho HR_HW) hA rfl (by decide) inX4 tyX4_ok nmX4 mF_X4_63 rfl rfl rfl rfl (Nat.le_of_ble_eq_true rfl) ?_
        refine x_w (w1 := HW g w h (upd (upd (upd (upd (upd (upd (upd (upd (upd (cpC x y 20) 3 (y 3)) 1 (y 1)) 2 (y 2)) 0 (y 0)) 5 (y 5)) 4 (y 4)) 9 (y 9)) 6 (y 6)) 7 (y 7)) (cpL la lb 20)) (HW_putH (by decide) (houseS10 _ _ _)) ?_
        refine x_aload_n 0 123 C0 dX4_copyFrom_122 rfl rfl rfl ?_
        refine x_aload_n 1 124 C0 dX4_copyFrom_123 rfl rfl rfl ?_
        refine x_getf (v := .int (y 8)) 11 127 C0 dX4_copyFrom_124 rfl (HR.ho (HR_far hd hR2)) rfl (by decide) inX4 mF_X4_66 rfl ?_
        refine x_putf 11 130 C0 dX4_copyFrom_127 rfl (HR.ho HR_HW) hA rfl (by decide) inX4 tyX4_ok nmX4 mF_X4_66 rfl rfl rfl rfl (Nat.le_of_ble_eq_true rfl) ?_
        refine x_w (w1 := HW g w h (upd (upd (upd (upd (upd (upd (upd (upd (upd (upd (cpC x y 20) 3 (y 3)) 1 (y 1)) 2 (y 2)) 0 (y 0)) 5 (y 5)) 4 (y 4)) 9 (y 9)) 6 (y 6)) 7 (y 7)) 8 (y 8)) (cpL la lb 20)) (HW_putH (by decide) (houseS11 _ _ _)) ?_
        exact x_return C0 dX4_copyFrom_130 rfl (Nat.le_of_ble_eq_true rfl) (Nat.le_of_ble_eq_true rfl) ⟨rfl, HW_cpH, rfl⟩
      · have hi2 := ix_lt 20 rfl (by decide) hi c1
        refine x_aload_n 0 30 C0 dX4_copyFrom_29 rfl rfl rfl ?_
        refine x_getf (v := .ref (h + 2)) 1 33 C0 dX4_copyFrom_30 rfl (HR.ho HR_HW) rfl (by decide) inX4 mF_X4_21 rfl ?_
        refine x_iload_n 2 34 C0 dX4_copyFrom_33 rfl rfl rfl ?_
        refine x_aald 5 35 C0 dX4_copyFrom_34 rfl (HR.cs HR_HW) rfl (vp_in_nI hi2 (by decide)) ?_
        refine x_st (st1 := [.ref (h + 3 + i)]) (congrArg (· :: _) (chRef hi2)) ?_
        refine x_aload_n 1 36 C0 dX4_copyFrom_35 rfl rfl rfl ?_
        refine x_getf (v := .ref (h2 + 2)) 1 39 C0 dX4_copyFrom_36 rfl (HR.ho (HR_far hd hR2)) rfl (by decide) inX4 mF_X4_21 rfl ?_
        refine x_iload_n 2 40 C0 dX4_copyFrom_39 rfl rfl rfl ?_
        refine x_aald 5 41 C0 dX4_copyFrom_40 rfl (HR.cs (HR_far hd hR2)) rfl (vp_in_nI hi2 (by decide)) ?_
        refine x_st (st1 := [.ref (h2 + 3 + i), .ref (h + 3 + i)]) (congrArg (· :: _) (chRef hi2)) ?_
        refine x_callV 44 C0 (k_X1_copyFrom l hl g _ _ _ _ _ _ (HR.c HR_HW hi2) (xA_le hA (by omega)) _ _ _ _ (HR.c (HR_far hd hR2) hi2) (by omega) (hb2 i hi2)) dX4_copyFrom_41 rfl mC_X1_copyFrom mM_X4_44 mI_X1_copyFrom mV_X1_copyFrom mN_X1 yd_X1_copyFrom rfl rfl ⟨Nat.le_of_ble_eq_true rfl, Nat.le_of_ble_eq_true rfl⟩ (HR.c HR_HW hi2) rfl rfl rfl rfl (Nat.le_of_ble_eq_true rfl) ⟨Nat.le_of_ble_eq_true rfl, Nat.le_of_ble_eq_true rfl⟩ (fun _ _ _ q => False.elim q) (fun r w1 sz1 hz hP => ?_)
        obtain ⟨rfl, rfl, rfl⟩ := hP
        refine x_w (w1 := (HW g w h (cpC x y (i + 1)) (cpL la lb (i + 1)))) (HW_putRowL hi2) ?_
        refine x_st (st1 := []) rfl ?_
        refine x_iinc [(2, .int (nI (i + 1))), (0, .ref h), (1, .ref h2)] 2 47 C0 dX4_copyFrom_44 rfl rfl (nI_1 i) (by decide) rfl ?_
        refine x_lv (lv1 := [(0, .ref h), (1, .ref h2), (2, .int (nI (i + 1)))]) [1, 2, 0] rfl ?_
        refine x_goto 20 C0 dX4_copyFrom_47 (by decide) ?_
        exact ih (i + 1) (by omega) (by omega)
  exact loop20 21 0 (by omega) (by omega)

