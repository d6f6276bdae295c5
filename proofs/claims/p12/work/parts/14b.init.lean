/-! HOW AN OBJECT BEGINS -/
def laE (g : xg_T) : Nat → Nat := fun _ => g.2 100
def hIn (g : xg_T) (w : xw_T) (h i : Nat) : Prop := w h = some (.inr (5, [.ref (h + 1), .int 0, .int 0])) ∧ w (h + 1) = some (.inl (g.2 7, 9, .inr (.inr (.inr (.inr (fun j => if j < i then some (h + 2 + 23 * j) else none)))))) ∧ ∀ r, r < i → HR g w (h + 2 + 23 * r) x00 (laE g)
theorem HR_xup {g : xg_T} {w : xw_T} {h a : Nat} {x : Nat → Int32} {la : Nat → Nat} {e : va_E} (hR : HR g w h x la) (ha : a < h ∨ h + 23 ≤ a) : HR g (xup w a e) h x la := fun q h1 h2 => (xup_n (by omega)).trans (hR q h1 h2)
theorem hIn_step {g : xg_T} {w : xw_T} {h i : Nat} {c : va_E} (hI : hIn g w h i) (hi : i < 9) : hIn g (xup (HW g (xup w (h + 2 + 23 * i) c) (h + 2 + 23 * i) x00 (laE g)) (h + 1) (.inl (g.2 7, 9, .inr (.inr (.inr (.inr (va_up (fun j => if j < i then some (h + 2 + 23 * j) else none) i (some (h + 2 + 23 * i))))))))) h (i + 1) := by
  obtain ⟨h1, h2, h3⟩ := hI
  refine ⟨(xup_n (by omega)).trans ((HW_ne (by omega)).trans ((xup_n (by omega)).trans h1)), (xup_s _ _ _).trans ?_, fun r hr => ?_⟩
  · refine congrArg (fun z => some (Sum.inl (g.2 7, 9, Sum.inr (Sum.inr (Sum.inr (Sum.inr z)))))) (funext fun j => ?_)
    unfold va_up
    by_cases hj : j = i
    · subst hj
      simp
    · by_cases h4 : j < i
      · simp [hj, h4, show j < i + 1 by omega]
      · simp [hj, h4, show ¬ j < i + 1 by omega]
  · refine HR_xup ?_ (by omega)
    by_cases e : r = i
    · subst e
      exact HR_HW
    · exact HR_far (by omega) (HR_xup (h3 r (by omega)) (by omega))
def blT : List Value := [.null, .int 0, .int 0, .int 0, .null, .int 0, .int 0, .int 0, .int 0]
def blC : List Value := [.null, .null, .int 0, .null, .null]
def t00 : Nat → Int32 := fun _ => 0
/-- what the class's constructor leaves -/
def CB (g : xg_T) (w : xw_T) : Prop := (w (g.2 0) = some (clE (g.2 0) t00) ∧ w (g.2 0 + 47) = some (hiE (g.2 0) t00) ∧ w (g.2 0 + 48) = some (roE g (g.2 0)) ∧ w (g.2 0 + 256) = some (.inr (4, txtL (g.2 0 + 256) t00 none)) ∧ w (g.2 0 + 257) = some (siE g t00)) ∧ ∀ i, i < 11 → HR g w (hAd (g.2 0) i) x00 (laE g)
theorem CB.cr {g : xg_T} {w w1 : xw_T} {sz : Nat} (h : CB g w) (hq : ∀ q, g.2 0 ≤ q → q < g.2 0 + 258 → w1 q = w q) (hz : g.2 0 + 269 ≤ sz) : CR g w1 sz 0 (fun _ => x00) (fun _ => laE g) t00 t00 none t00 := by
  obtain ⟨⟨a1, a2, a3, a4, a5⟩, b⟩ := h
  refine ⟨⟨?_, ?_, ?_, ?_, ?_⟩, fun i hi => ?_, ⟨rfl, by omega, ⟨0, by omega, rfl⟩, ⟨0, by omega, rfl⟩⟩, Or.inl rfl, hz⟩
  · rw [hq _ (by omega) (by omega)]; exact a1
  · rw [hq _ (by omega) (by omega)]; exact a2
  · rw [hq _ (by omega) (by omega)]; exact a3
  · rw [hq _ (by omega) (by omega)]; exact a4
  · rw [hq _ (by omega) (by omega)]; exact a5
  · have := hAd_in (b := g.2 0) hi
    exact ⟨fun q q1 q2 => (hq q (by omega) (by omega)).trans (b i hi q q1 q2), hok_x00, fun _ => 0, fun _ _ => 0, fun k hk => ⟨xTx.empty, fun j => isCh_nI 0 (by omega)⟩⟩

set_option maxHeartbeats 4000000 in
set_option maxRecDepth 100000 in
theorem k_X2_init (l : Launch) (hl : l.stackTraces = false) (g : xg_T) (w : xw_T) (h sz : Nat) (hsz : sz = h + 1) (hw : w h = some (.inr (4, blT))) (hA : xA g h) : xM l g yX2_init cX2_init 1 none ({ frames := 1, cells := 1, slots := 60, locals := 12 }) 1 60 [.ref h] w sz (fun r w1 sz1 => r = none ∧ w1 = xup (xup w (h + 1) (siE g t00)) h (.inr (4, txtL h t00 none)) ∧ h + 2 = sz1) (fun _ _ _ => False) := by
  subst hsz
  refine xM.of RX2 hl (by decide +kernel) rfl (Nat.le_of_ble_eq_true rfl) rfl ?_
  intro p e s m args below meth cD C0 hini
  refine x_aload_n 0 1 C0 dX2_init_0 rfl rfl rfl ?_
  refine x_objInit 4 C0 dX2_init_1 rfl mM_X2_3 mI_Object_init mC_Object_init (Nat.le_of_ble_eq_true rfl) (Nat.le_of_ble_eq_true rfl) ?_
  refine x_aload_n 0 5 C0 dX2_init_4 rfl rfl rfl ?_
  refine x_bipush (v := 60) 7 C0 dX2_init_5 rfl (by decide) ?_
  refine x_newa 1 9 C0 (N := 60) (a0 := (60, .inl t00)) dX2_init_7 rfl mR_char rfl rfl (fun _ => rfl) (by decide) (by decide) (by decide) rfl rfl (Nat.le_of_ble_eq_true rfl) (Nat.le_of_ble_eq_true rfl) ?_
  refine x_putF 0 12 C0 dX2_init_9 rfl ((xup_n (by omega)).trans hw) hA rfl (by decide) inX2 tyX2_ok nmX2 mF_X2_9 rfl rfl hini rfl rfl rfl (Nat.le_of_ble_eq_true rfl) ?_
  refine x_w (w1 := (xup (xup w (h + 1) (siE g t00)) h (.inr (4, txtL h t00 none)))) rfl ?_
  exact x_return C0 dX2_init_12 rfl (Nat.le_of_ble_eq_true rfl) (Nat.le_of_ble_eq_true rfl) ⟨rfl, rfl, rfl⟩

set_option maxHeartbeats 4000000 in
set_option maxRecDepth 100000 in
theorem k_X3_init (l : Launch) (hl : l.stackTraces = false) (g : xg_T) (w : xw_T) (h sz : Nat) (hsz : sz = h + 1) (hw : w h = some (.inr (5, [.null, .int 0, .int 0]))) (hA : xA g h) : xM l g yX3_init cX3_init 2 none ({ frames := 3, cells := 208, slots := 2277, locals := 54 }) 208 2277 [.ref h] w sz (fun r w1 sz1 => r = none ∧ hIn g w1 h 9 ∧ (∀ q, q < h → w1 q = w q) ∧ h + 209 = sz1) (fun _ _ _ => False) := by
  subst hsz
  refine xM.of RX3 hl (by decide +kernel) rfl (Nat.le_of_ble_eq_true rfl) rfl ?_
  intro p e s m args below meth cD C0 hini
  refine x_aload_n 0 1 C0 dX3_init_0 rfl rfl rfl ?_
  refine x_objInit 4 C0 dX3_init_1 rfl mM_X3_3 mI_Object_init mC_Object_init (Nat.le_of_ble_eq_true rfl) (Nat.le_of_ble_eq_true rfl) ?_
  refine x_aload_n 0 5 C0 dX3_init_4 rfl rfl rfl ?_
  refine x_bipush (v := 9) 7 C0 dX3_init_5 rfl (by decide) ?_
  refine x_newq 6 10 C0 (N := 9) dX3_init_7 rfl mK_X3_11 (xs_ao C0.2.2.2.2.2.2.2.1.2.2).2 rfl (by decide) (by decide) (by decide) rfl rfl (Nat.le_of_ble_eq_true rfl) (Nat.le_of_ble_eq_true rfl) ?_
  refine x_putF 0 13 C0 dX3_init_10 rfl ((xup_n (by omega)).trans hw) hA rfl (by decide) inX3 tyX3_ok nmX3 mF_X3_13 rfl rfl hini rfl rfl rfl (Nat.le_of_ble_eq_true rfl) ?_
  refine x_w (w1 := (xup (xup w (h + 1) (.inl (g.2 7, 9, .inr (.inr (.inr (.inr (fun _ => none))))))) h (.inr (5, [.ref (h + 1), .int 0, .int 0])))) rfl ?_
  refine x_iconst (v := 0) 14 C0 dX3_init_13 rfl (by decide) ?_
  refine x_istore_n [(1, .int 0), (0, .ref h)] 15 C0 dX3_init_14 rfl rfl (by decide) rfl ?_
  refine x_lv (lv1 := [(0, .ref h), (1, .int 0)]) [1, 0] rfl ?_
  have loop15 : ∀ (N i : Nat) (wl : xw_T), i ≤ 9 → 9 - i < N → hIn g wl h i → (∀ q, q < h → wl q = w q) → xV p l e ({ frames := 3, cells := 208, slots := 2277, locals := 54 }) s m args below meth cD (xQ g below (fun r w1 sz1 => r = none ∧ hIn g w1 h 9 ∧ (∀ q, q < h → w1 q = w q) ∧ h + 209 = sz1) (fun _ _ _ => False) args s 208 2277) g 2 wl (h + 2 + 23 * i) (1 + 23 * i) (9 + 252 * i) 15 [(0, .ref h), (1, .int (nI i))] [] := by
    intro N
    induction N with
    | zero => intro i wl h1 h2; omega
    | succ N ih =>
      intro i wl hi hN hI hB
      refine x_iload_n 1 16 C0 dX3_init_15 rfl rfl rfl ?_
      refine x_aload_n 0 17 C0 dX3_init_16 rfl rfl rfl ?_
      refine x_getf (v := .ref (h + 1)) 0 20 C0 dX3_init_17 rfl hI.1 rfl (by decide) inX3 mF_X3_13 rfl ?_
      refine x_alen 6 21 C0 (v := 9) dX3_init_20 rfl hI.2.1 rfl rfl ?_
      refine x_icmp_ge 43 24 C0 dX3_init_21 rfl (by decide) (fun c1 => ?_) (fun c1 => ?_)
      · have hi9 := ix_eq 9 rfl (by decide) hi c1
        subst hi9
        exact x_return C0 dX3_init_43 rfl (by show 1 + 23 * 9 ≤ 208; omega) (by show 9 + 252 * 9 ≤ 2277; omega) ⟨rfl, hI, hB, rfl⟩
      · have hi2 := ix_lt 9 rfl (by decide) hi c1
        refine x_aload_n 0 25 C0 dX3_init_24 rfl rfl rfl ?_
        refine x_getf (v := .ref (h + 1)) 0 28 C0 dX3_init_25 rfl hI.1 rfl (by decide) inX3 mF_X3_13 rfl ?_
        refine x_iload_n 1 29 C0 dX3_init_28 rfl rfl rfl ?_
        refine x_new 6 32 C0 (fs := blankH) dX3_init_29 rfl rfl inX4 tyX4_ok mK_X3_11 mA_X4 mN_X4 (by decide) rfl rfl (by show 1 + 23 * i + 1 ≤ 208; omega) (by show 9 + 252 * i + 14 ≤ 2277; omega) ?_
        refine x_dup 33 C0 dX3_init_32 rfl rfl ?_
        refine x_callI 36 C0 (k_X4_init l hl g _ (h + 2 + 23 * i) _ rfl (xup_s _ _ _) (xA_le hA (by omega))) dX3_init_33 rfl mC_X4_init mM_X3_17 mI_X4_init mN_X4 rfl yd_X4_init rfl rfl ⟨Nat.le_of_ble_eq_true rfl, Nat.le_of_ble_eq_true rfl⟩ rfl rfl (Nat.le_of_ble_eq_true rfl) ⟨by show 1 + 23 * i + 1 + 22 ≤ 208; omega, by show 9 + 252 * i + 14 + 238 ≤ 2277; omega⟩ (fun _ _ _ q => False.elim q) (fun r w1 sz1 hz hP => ?_)
        obtain ⟨rfl, rfl, rfl⟩ := hP
        refine x_w (w1 := (HW g (xup wl (h + 2 + 23 * i) (.inr (6, blankH))) (h + 2 + 23 * i) x00 (laE g))) rfl ?_
        refine x_st (st1 := [.ref (h + 2 + 23 * i), .int (nI i), .ref (h + 1)]) rfl ?_
        refine x_aast 6 6 37 C0 dX3_init_36 rfl ((HW_ne (by omega)).trans ((xup_n (by omega)).trans hI.2.1)) (xA_le hA (by omega)) (HR.ho HR_HW) rfl rfl (vp_in_nI hi2 (by decide)) ?_
        rw [show (nI i).toNatClampNeg = i from nI_clamp (by omega)]
        refine x_iinc [(1, .int (nI (i + 1))), (0, .ref h)] 1 40 C0 dX3_init_37 rfl rfl (nI_1 i) (by decide) rfl ?_
        refine x_lv (lv1 := [(0, .ref h), (1, .int (nI (i + 1)))]) [1, 0] rfl ?_
        refine x_goto 15 C0 dX3_init_40 (by decide) ?_
        exact ih (i + 1) _ (by omega) (by omega) (hIn_step hI hi2) (fun q hq => (xup_n (by omega)).trans ((HW_ne (by omega)).trans ((xup_n (by omega)).trans (hB q hq))))
  exact loop15 10 0 _ (by omega) (by omega) ⟨xup_s _ _ _, (xup_n (by omega)).trans (by rw [xup_s]; simp), fun r hr => absurd hr (by omega)⟩ (fun q hq => (xup_n (by omega)).trans (xup_n (by omega)))

theorem CB_hr {g : xg_T} {w : xw_T} (h1 : HR g w (g.2 0 + 1) x00 (laE g)) (h2 : HR g w (g.2 0 + 24) x00 (laE g)) (h3 : ∀ r, r < 9 → HR g w (g.2 0 + 47 + 2 + 23 * r) x00 (laE g)) : ∀ i, i < 11 → HR g w (hAd (g.2 0) i) x00 (laE g) := by
  intro i hi
  by_cases e0 : i = 0
  · subst e0; exact h1
  · by_cases e1 : i = 1
    · subst e1; exact h2
    · obtain ⟨r, rfl⟩ : ∃ r, i = r + 2 := ⟨i - 2, by omega⟩
      rw [hAd_r]
      exact h3 r (by omega)
set_option maxHeartbeats 4000000 in
set_option maxRecDepth 100000 in
theorem k_X7_init (l : Launch) (hl : l.stackTraces = false) (g : xg_T) (w : xw_T) (sz : Nat) (hsz : sz = g.2 0 + 1) (hw : w (g.2 0) = some (.inr (7, blC))) : xM l g yX7_init cX7_init 1 none ({ frames := 4, cells := 260, slots := 2900, locals := 75 }) 260 2900 [.ref (g.2 0)] w sz (fun r w1 sz1 => r = none ∧ CB g w1 ∧ g.2 0 + 258 = sz1) (fun _ _ _ => False) := by
  subst hsz
  refine xM.of RX7 hl (by decide +kernel) rfl (Nat.le_of_ble_eq_true rfl) rfl ?_
  intro p e s m args below meth cD C0 hini
  refine x_aload_n 0 1 C0 dX7_init_0 rfl rfl rfl ?_
  refine x_objInit 4 C0 dX7_init_1 rfl mM_X7_1 mI_Object_init mC_Object_init (Nat.le_of_ble_eq_true rfl) (Nat.le_of_ble_eq_true rfl) ?_
  refine x_aload_n 0 5 C0 dX7_init_4 rfl rfl rfl ?_
  refine x_new 6 8 C0 (fs := blankH) dX7_init_5 rfl rfl inX4 tyX4_ok mK_X7_7 mA_X4 mN_X4 (by decide) rfl rfl (Nat.le_of_ble_eq_true rfl) (Nat.le_of_ble_eq_true rfl) ?_
  obtain ⟨u1, hE1⟩ : ∃ z, z = xup w (g.2 0 + 1) (.inr (6, blankH)) := ⟨_, rfl⟩
  refine x_w hE1.symm ?_
  have f1_0 : u1 (g.2 0) = some (.inr (7, blC)) := by rw [hE1]; exact (xup_n (by omega)).trans hw
  have fn1 : u1 (g.2 0 + 1) = some (.inr (6, blankH)) := by rw [hE1]; exact xup_s _ _ _
  refine x_dup 9 C0 dX7_init_8 rfl rfl ?_
  refine x_callI 12 C0 (k_X4_init l hl g _ (g.2 0 + 1) _ rfl fn1 (by show g.2 0 ≤ _; omega)) dX7_init_9 rfl mC_X4_init mM_X7_9 mI_X4_init mN_X4 rfl yd_X4_init rfl rfl ⟨Nat.le_of_ble_eq_true rfl, Nat.le_of_ble_eq_true rfl⟩ rfl rfl (Nat.le_of_ble_eq_true rfl) ⟨Nat.le_of_ble_eq_true rfl, Nat.le_of_ble_eq_true rfl⟩ (fun _ _ _ q => False.elim q) (fun r w1 sz1 hz hP => ?_)
  obtain ⟨rfl, hw1, rfl⟩ := hP
  refine x_w hw1 ?_
  refine x_w (w1 := HW g u1 (g.2 0 + 1) x00 (laE g)) rfl ?_
  obtain ⟨u2, hE2⟩ : ∃ z, z = HW g u1 (g.2 0 + 1) x00 (laE g) := ⟨_, rfl⟩
  refine x_w hE2.symm ?_
  have f2_0 : u2 (g.2 0) = some (.inr (7, blC)) := by rw [hE2]; exact (HW_ne (by omega)).trans f1_0
  have gn2 : HR g u2 (g.2 0 + 1) x00 (laE g) := by rw [hE2]; exact HR_HW
  refine x_st (st1 := [.ref (g.2 0 + 1), .ref (g.2 0)]) rfl ?_
  refine x_putF 0 15 C0 dX7_init_12 rfl f2_0 (Nat.le_refl _) rfl (by decide) inX7 tyX7_ok nmX7 mF_X7_10 rfl rfl hini rfl rfl rfl (Nat.le_of_ble_eq_true rfl) ?_
  refine x_w (w1 := xup u2 (g.2 0) (.inr (7, [.ref (g.2 0 + 1), .null, .int 0, .null, .null]))) rfl ?_
  obtain ⟨u3, hE3⟩ : ∃ z, z = xup u2 (g.2 0) (.inr (7, [.ref (g.2 0 + 1), .null, .int 0, .null, .null])) := ⟨_, rfl⟩
  refine x_w hE3.symm ?_
  have g3_0 : HR g u3 (g.2 0 + 1) x00 (laE g) := by rw [hE3]; exact HR_xup gn2 (by omega)
  have fb3 : u3 (g.2 0) = some (.inr (7, [.ref (g.2 0 + 1), .null, .int 0, .null, .null])) := by rw [hE3]; exact xup_s _ _ _
  refine x_aload_n 0 16 C0 dX7_init_15 rfl rfl rfl ?_
  refine x_new 6 19 C0 (fs := blankH) dX7_init_16 rfl rfl inX4 tyX4_ok mK_X7_7 mA_X4 mN_X4 (by decide) rfl rfl (Nat.le_of_ble_eq_true rfl) (Nat.le_of_ble_eq_true rfl) ?_
  obtain ⟨u4, hE4⟩ : ∃ z, z = xup u3 (g.2 0 + 24) (.inr (6, blankH)) := ⟨_, rfl⟩
  refine x_w hE4.symm ?_
  have f4_0 : u4 (g.2 0) = some (.inr (7, [.ref (g.2 0 + 1), .null, .int 0, .null, .null])) := by rw [hE4]; exact (xup_n (by omega)).trans fb3
  have g4_0 : HR g u4 (g.2 0 + 1) x00 (laE g) := by rw [hE4]; exact HR_xup g3_0 (by omega)
  have fn4 : u4 (g.2 0 + 24) = some (.inr (6, blankH)) := by rw [hE4]; exact xup_s _ _ _
  refine x_dup 20 C0 dX7_init_19 rfl rfl ?_
  refine x_callI 23 C0 (k_X4_init l hl g _ (g.2 0 + 24) _ rfl fn4 (by show g.2 0 ≤ _; omega)) dX7_init_20 rfl mC_X4_init mM_X7_9 mI_X4_init mN_X4 rfl yd_X4_init rfl rfl ⟨Nat.le_of_ble_eq_true rfl, Nat.le_of_ble_eq_true rfl⟩ rfl rfl (Nat.le_of_ble_eq_true rfl) ⟨Nat.le_of_ble_eq_true rfl, Nat.le_of_ble_eq_true rfl⟩ (fun _ _ _ q => False.elim q) (fun r w1 sz1 hz hP => ?_)
  obtain ⟨rfl, hw1, rfl⟩ := hP
  refine x_w hw1 ?_
  refine x_w (w1 := HW g u4 (g.2 0 + 24) x00 (laE g)) rfl ?_
  obtain ⟨u5, hE5⟩ : ∃ z, z = HW g u4 (g.2 0 + 24) x00 (laE g) := ⟨_, rfl⟩
  refine x_w hE5.symm ?_
  have f5_0 : u5 (g.2 0) = some (.inr (7, [.ref (g.2 0 + 1), .null, .int 0, .null, .null])) := by rw [hE5]; exact (HW_ne (by omega)).trans f4_0
  have g5_0 : HR g u5 (g.2 0 + 1) x00 (laE g) := by rw [hE5]; exact HR_far (by omega) g4_0
  have gn5 : HR g u5 (g.2 0 + 24) x00 (laE g) := by rw [hE5]; exact HR_HW
  refine x_st (st1 := [.ref (g.2 0 + 24), .ref (g.2 0)]) rfl ?_
  refine x_putF 1 26 C0 dX7_init_23 rfl f5_0 (Nat.le_refl _) rfl (by decide) inX7 tyX7_ok nmX7 mF_X7_16 rfl rfl hini rfl rfl rfl (Nat.le_of_ble_eq_true rfl) ?_
  refine x_w (w1 := xup u5 (g.2 0) (.inr (7, [.ref (g.2 0 + 1), .ref (g.2 0 + 24), .int 0, .null, .null]))) rfl ?_
  obtain ⟨u6, hE6⟩ : ∃ z, z = xup u5 (g.2 0) (.inr (7, [.ref (g.2 0 + 1), .ref (g.2 0 + 24), .int 0, .null, .null])) := ⟨_, rfl⟩
  refine x_w hE6.symm ?_
  have g6_0 : HR g u6 (g.2 0 + 1) x00 (laE g) := by rw [hE6]; exact HR_xup g5_0 (by omega)
  have g6_1 : HR g u6 (g.2 0 + 24) x00 (laE g) := by rw [hE6]; exact HR_xup gn5 (by omega)
  have fb6 : u6 (g.2 0) = some (.inr (7, [.ref (g.2 0 + 1), .ref (g.2 0 + 24), .int 0, .null, .null])) := by rw [hE6]; exact xup_s _ _ _
  refine x_aload_n 0 27 C0 dX7_init_26 rfl rfl rfl ?_
  refine x_iconst (v := 0) 28 C0 dX7_init_27 rfl (by decide) ?_
  refine x_putf 2 31 C0 dX7_init_28 rfl fb6 (Nat.le_refl _) rfl (by decide) inX7 tyX7_ok nmX7 mF_X7_19 rfl rfl rfl rfl (Nat.le_of_ble_eq_true rfl) ?_
  refine x_w (w1 := xup u6 (g.2 0) (.inr (7, [.ref (g.2 0 + 1), .ref (g.2 0 + 24), .int 0, .null, .null]))) rfl ?_
  obtain ⟨u7, hE7⟩ : ∃ z, z = xup u6 (g.2 0) (.inr (7, [.ref (g.2 0 + 1), .ref (g.2 0 + 24), .int 0, .null, .null])) := ⟨_, rfl⟩
  refine x_w hE7.symm ?_
  have g7_0 : HR g u7 (g.2 0 + 1) x00 (laE g) := by rw [hE7]; exact HR_xup g6_0 (by omega)
  have g7_1 : HR g u7 (g.2 0 + 24) x00 (laE g) := by rw [hE7]; exact HR_xup g6_1 (by omega)
  have fb7 : u7 (g.2 0) = some (.inr (7, [.ref (g.2 0 + 1), .ref (g.2 0 + 24), .int 0, .null, .null])) := by rw [hE7]; exact xup_s _ _ _
  refine x_aload_n 0 32 C0 dX7_init_31 rfl rfl rfl ?_
  refine x_new 5 35 C0 (fs := [.null, .int 0, .int 0]) dX7_init_32 rfl rfl inX3 tyX3_ok mK_X7_23 mA_X3 mN_X3 (by decide) rfl rfl (Nat.le_of_ble_eq_true rfl) (Nat.le_of_ble_eq_true rfl) ?_
  obtain ⟨u8, hE8⟩ : ∃ z, z = xup u7 (g.2 0 + 47) (.inr (5, [.null, .int 0, .int 0])) := ⟨_, rfl⟩
  refine x_w hE8.symm ?_
  have f8_0 : u8 (g.2 0) = some (.inr (7, [.ref (g.2 0 + 1), .ref (g.2 0 + 24), .int 0, .null, .null])) := by rw [hE8]; exact (xup_n (by omega)).trans fb7
  have g8_0 : HR g u8 (g.2 0 + 1) x00 (laE g) := by rw [hE8]; exact HR_xup g7_0 (by omega)
  have g8_1 : HR g u8 (g.2 0 + 24) x00 (laE g) := by rw [hE8]; exact HR_xup g7_1 (by omega)
  have fn8 : u8 (g.2 0 + 47) = some (.inr (5, [.null, .int 0, .int 0])) := by rw [hE8]; exact xup_s _ _ _
  refine x_dup 36 C0 dX7_init_35 rfl rfl ?_
  refine x_callI 39 C0 (k_X3_init l hl g _ (g.2 0 + 47) _ rfl fn8 (by show g.2 0 ≤ _; omega)) dX7_init_36 rfl mC_X3_init mM_X7_25 mI_X3_init mN_X3 rfl yd_X3_init rfl rfl ⟨Nat.le_of_ble_eq_true rfl, Nat.le_of_ble_eq_true rfl⟩ rfl rfl (Nat.le_of_ble_eq_true rfl) ⟨Nat.le_of_ble_eq_true rfl, Nat.le_of_ble_eq_true rfl⟩ (fun _ _ _ q => False.elim q) (fun r w1 sz1 hz hP => ?_)
  obtain ⟨rfl, hI, hB, rfl⟩ := hP
  obtain ⟨wh, hwh⟩ : ∃ z, z = w1 := ⟨_, rfl⟩
  refine x_w hwh.symm ?_
  rw [← hwh] at hI hB
  have fh0 : wh (g.2 0) = some (.inr (7, [.ref (g.2 0 + 1), .ref (g.2 0 + 24), .int 0, .null, .null])) := (hB _ (by omega)).trans f8_0
  have gh0 : HR g wh (g.2 0 + 1) x00 (laE g) := fun q h1 h2 => (hB q (by omega)).trans (g8_0 q h1 h2)
  have gh1 : HR g wh (g.2 0 + 24) x00 (laE g) := fun q h1 h2 => (hB q (by omega)).trans (g8_1 q h1 h2)
  refine x_st (st1 := [.ref (g.2 0 + 47), .ref (g.2 0)]) rfl ?_
  refine x_putF 3 42 C0 dX7_init_39 rfl fh0 (Nat.le_refl _) rfl (by decide) inX7 tyX7_ok nmX7 mF_X7_26 rfl rfl hini rfl rfl rfl (Nat.le_of_ble_eq_true rfl) ?_
  refine x_w (w1 := xup wh (g.2 0) (.inr (7, [.ref (g.2 0 + 1), .ref (g.2 0 + 24), .int 0, .ref (g.2 0 + 47), .null]))) rfl ?_
  obtain ⟨u9, hE9⟩ : ∃ z, z = xup wh (g.2 0) (.inr (7, [.ref (g.2 0 + 1), .ref (g.2 0 + 24), .int 0, .ref (g.2 0 + 47), .null])) := ⟨_, rfl⟩
  refine x_w hE9.symm ?_
  have f9_1 : u9 (g.2 0 + 47) = some (hiE (g.2 0) t00) := by rw [hE9]; exact (xup_n (by omega)).trans hI.1
  have f9_2 : u9 (g.2 0 + 48) = some (roE g (g.2 0)) := by rw [hE9]; exact (xup_n (by omega)).trans hI.2.1
  have g9_0 : HR g u9 (g.2 0 + 1) x00 (laE g) := by rw [hE9]; exact HR_xup gh0 (by omega)
  have g9_1 : HR g u9 (g.2 0 + 24) x00 (laE g) := by rw [hE9]; exact HR_xup gh1 (by omega)
  have hrow9 : ∀ r, r < 9 → HR g u9 (g.2 0 + 47 + 2 + 23 * r) x00 (laE g) := fun r hr => by rw [hE9]; exact HR_xup (hI.2.2 r hr) (by omega)
  have fb9 : u9 (g.2 0) = some (.inr (7, [.ref (g.2 0 + 1), .ref (g.2 0 + 24), .int 0, .ref (g.2 0 + 47), .null])) := by rw [hE9]; exact xup_s _ _ _
  refine x_aload_n 0 43 C0 dX7_init_42 rfl rfl rfl ?_
  refine x_new 4 46 C0 (fs := blT) dX7_init_43 rfl rfl inX2 tyX2_ok mK_X7_30 mA_X2 mN_X2 (by decide) rfl rfl (Nat.le_of_ble_eq_true rfl) (Nat.le_of_ble_eq_true rfl) ?_
  obtain ⟨u10, hE10⟩ : ∃ z, z = xup u9 (g.2 0 + 256) (.inr (4, blT)) := ⟨_, rfl⟩
  refine x_w hE10.symm ?_
  have f10_0 : u10 (g.2 0) = some (.inr (7, [.ref (g.2 0 + 1), .ref (g.2 0 + 24), .int 0, .ref (g.2 0 + 47), .null])) := by rw [hE10]; exact (xup_n (by omega)).trans fb9
  have f10_1 : u10 (g.2 0 + 47) = some (hiE (g.2 0) t00) := by rw [hE10]; exact (xup_n (by omega)).trans f9_1
  have f10_2 : u10 (g.2 0 + 48) = some (roE g (g.2 0)) := by rw [hE10]; exact (xup_n (by omega)).trans f9_2
  have g10_0 : HR g u10 (g.2 0 + 1) x00 (laE g) := by rw [hE10]; exact HR_xup g9_0 (by omega)
  have g10_1 : HR g u10 (g.2 0 + 24) x00 (laE g) := by rw [hE10]; exact HR_xup g9_1 (by omega)
  have hrow10 : ∀ r, r < 9 → HR g u10 (g.2 0 + 47 + 2 + 23 * r) x00 (laE g) := fun r hr => by rw [hE10]; exact HR_xup (hrow9 r hr) (by omega)
  have fn10 : u10 (g.2 0 + 256) = some (.inr (4, blT)) := by rw [hE10]; exact xup_s _ _ _
  refine x_dup 47 C0 dX7_init_46 rfl rfl ?_
  refine x_callIN 50 (host := "TeaChests") C0 (k_X2_init l hl g _ (g.2 0 + 256) _ rfl fn10 (by show g.2 0 ≤ _; omega)) dX7_init_47 rfl mC_X2_init (xs_nm C0.2.2.2.2.2.2.2.1.2.2) mI_X2_init mN_X2 rfl yd_X2_init rfl rfl ⟨Nat.le_of_ble_eq_true rfl, Nat.le_of_ble_eq_true rfl⟩ rfl rfl (Nat.le_of_ble_eq_true rfl) ⟨Nat.le_of_ble_eq_true rfl, Nat.le_of_ble_eq_true rfl⟩ (fun _ _ _ q => False.elim q) (fun r w1 sz1 hz hP => ?_)
  obtain ⟨rfl, hw1, rfl⟩ := hP
  obtain ⟨u11, hE11⟩ : ∃ z, z = xup u10 (g.2 0 + 256 + 1) (siE g t00) := ⟨_, rfl⟩
  have f11_0 : u11 (g.2 0) = some (.inr (7, [.ref (g.2 0 + 1), .ref (g.2 0 + 24), .int 0, .ref (g.2 0 + 47), .null])) := by rw [hE11]; exact (xup_n (by omega)).trans f10_0
  have f11_1 : u11 (g.2 0 + 47) = some (hiE (g.2 0) t00) := by rw [hE11]; exact (xup_n (by omega)).trans f10_1
  have f11_2 : u11 (g.2 0 + 48) = some (roE g (g.2 0)) := by rw [hE11]; exact (xup_n (by omega)).trans f10_2
  have g11_0 : HR g u11 (g.2 0 + 1) x00 (laE g) := by rw [hE11]; exact HR_xup g10_0 (by omega)
  have g11_1 : HR g u11 (g.2 0 + 24) x00 (laE g) := by rw [hE11]; exact HR_xup g10_1 (by omega)
  have hrow11 : ∀ r, r < 9 → HR g u11 (g.2 0 + 47 + 2 + 23 * r) x00 (laE g) := fun r hr => by rw [hE11]; exact HR_xup (hrow10 r hr) (by omega)
  have fs11 : u11 (g.2 0 + 257) = some (siE g t00) := by rw [hE11]; exact xup_s _ _ _
  rw [← hE11] at hw1
  refine x_w hw1 ?_
  obtain ⟨u12, hE12⟩ : ∃ z, z = xup u11 (g.2 0 + 256) (.inr (4, txtL (g.2 0 + 256) t00 none)) := ⟨_, rfl⟩
  refine x_w hE12.symm ?_
  have f12_0 : u12 (g.2 0) = some (.inr (7, [.ref (g.2 0 + 1), .ref (g.2 0 + 24), .int 0, .ref (g.2 0 + 47), .null])) := by rw [hE12]; exact (xup_n (by omega)).trans f11_0
  have f12_1 : u12 (g.2 0 + 47) = some (hiE (g.2 0) t00) := by rw [hE12]; exact (xup_n (by omega)).trans f11_1
  have f12_2 : u12 (g.2 0 + 48) = some (roE g (g.2 0)) := by rw [hE12]; exact (xup_n (by omega)).trans f11_2
  have f12_3 : u12 (g.2 0 + 257) = some (siE g t00) := by rw [hE12]; exact (xup_n (by omega)).trans fs11
  have g12_0 : HR g u12 (g.2 0 + 1) x00 (laE g) := by rw [hE12]; exact HR_xup g11_0 (by omega)
  have g12_1 : HR g u12 (g.2 0 + 24) x00 (laE g) := by rw [hE12]; exact HR_xup g11_1 (by omega)
  have hrow12 : ∀ r, r < 9 → HR g u12 (g.2 0 + 47 + 2 + 23 * r) x00 (laE g) := fun r hr => by rw [hE12]; exact HR_xup (hrow11 r hr) (by omega)
  have ft12 : u12 (g.2 0 + 256) = some (.inr (4, txtL (g.2 0 + 256) t00 none)) := by rw [hE12]; exact xup_s _ _ _
  refine x_st (st1 := [.ref (g.2 0 + 256), .ref (g.2 0)]) rfl ?_
  refine x_putF 4 53 C0 dX7_init_50 rfl f12_0 (Nat.le_refl _) rfl (by decide) inX7 tyX7_ok nmX7 mF_X7_33 rfl rfl hini rfl rfl rfl (Nat.le_of_ble_eq_true rfl) ?_
  refine x_w (w1 := xup u12 (g.2 0) (.inr (7, [.ref (g.2 0 + 1), .ref (g.2 0 + 24), .int 0, .ref (g.2 0 + 47), .ref (g.2 0 + 256)]))) rfl ?_
  obtain ⟨u13, hE13⟩ : ∃ z, z = xup u12 (g.2 0) (.inr (7, [.ref (g.2 0 + 1), .ref (g.2 0 + 24), .int 0, .ref (g.2 0 + 47), .ref (g.2 0 + 256)])) := ⟨_, rfl⟩
  refine x_w hE13.symm ?_
  have f13_1 : u13 (g.2 0 + 47) = some (hiE (g.2 0) t00) := by rw [hE13]; exact (xup_n (by omega)).trans f12_1
  have f13_2 : u13 (g.2 0 + 48) = some (roE g (g.2 0)) := by rw [hE13]; exact (xup_n (by omega)).trans f12_2
  have f13_3 : u13 (g.2 0 + 257) = some (siE g t00) := by rw [hE13]; exact (xup_n (by omega)).trans f12_3
  have f13_4 : u13 (g.2 0 + 256) = some (.inr (4, txtL (g.2 0 + 256) t00 none)) := by rw [hE13]; exact (xup_n (by omega)).trans ft12
  have g13_0 : HR g u13 (g.2 0 + 1) x00 (laE g) := by rw [hE13]; exact HR_xup g12_0 (by omega)
  have g13_1 : HR g u13 (g.2 0 + 24) x00 (laE g) := by rw [hE13]; exact HR_xup g12_1 (by omega)
  have hrow13 : ∀ r, r < 9 → HR g u13 (g.2 0 + 47 + 2 + 23 * r) x00 (laE g) := fun r hr => by rw [hE13]; exact HR_xup (hrow12 r hr) (by omega)
  have fb13 : u13 (g.2 0) = some (.inr (7, [.ref (g.2 0 + 1), .ref (g.2 0 + 24), .int 0, .ref (g.2 0 + 47), .ref (g.2 0 + 256)])) := by rw [hE13]; exact xup_s _ _ _
  exact x_return C0 dX7_init_53 rfl (Nat.le_of_ble_eq_true rfl) (Nat.le_of_ble_eq_true rfl) ⟨rfl, ⟨⟨fb13, f13_1, f13_2, f13_4, f13_3⟩, CB_hr g13_0 g13_1 hrow13⟩, rfl⟩

