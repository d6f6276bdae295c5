/-! A TEXT PERFORMED -/
def ctN (n : Nat) (sg : Nat → Int32) (N : Nat) : Prop := N < 60 ∧ (∀ i, i < N → kG n sg i) ∧ (cRes n sg (kP n sg N)).1 = true ∧ (cRes n sg (kP n sg N)).2 = n
def ctE (n : Nat) (sg : Nat → Int32) (e : Nat) : Prop := ∃ i : Nat, (∀ j, j < i → kG n sg j) ∧ ((cRes n sg (kP n sg i)).1 = false ∨ (¬ (cRes n sg (kP n sg i)).2 = n ∧ ¬ sgn n sg (cRes n sg (kP n sg i)).2 = 59)) ∧ (cRes n sg (kP n sg i)).2 ≤ 60 ∧ e = (cRes n sg (kP n sg i)).2
theorem ctR.cs {n : Nat} {sg : Nat → Int32} {v : Int32} (h : ctR n sg v) : (∃ N : Nat, ctN n sg N ∧ v = nI (N + 1)) ∨ ∃ e : Nat, e ≤ 60 ∧ ctE n sg e ∧ v = -100 - nI e := by
  rcases h with ⟨N, h1, h2, h3, h4, h5⟩ | ⟨i, h1, h2, h3, h4⟩
  · exact Or.inl ⟨N, ⟨h1, h2, h3, h4⟩, h5⟩
  · exact Or.inr ⟨_, h3, ⟨i, h1, h2, h3, rfl⟩, h4⟩
theorem ctN.ok {n : Nat} {sg : Nat → Int32} {N : Nat} (h : ctN n sg N) : (∀ i, i < N + 1 → (cRes n sg (kP n sg i)).1 = true) ∧ ∀ i, i + 1 < N + 1 → sgn n sg (cRes n sg (kP n sg i)).2 = 59 := by
  obtain ⟨-, h2, h3, -⟩ := h
  refine ⟨fun i hi => ?_, fun i hi => (h2 i (by omega)).2⟩
  by_cases e : i = N
  · subst e; exact h3
  · exact (h2 i (by omega)).1
theorem drop_eq {x x1 x5 x7 x8 : Nat → Nat → Int32} {la la1 la5 la7 la8 : Nat → Nat → Nat} {j : Nat} {a b : Int32} (h1 : x1 = va_up x (j + 2) (cpX (x (j + 2)) (x 0))) (l1 : la1 = va_up la (j + 2) (la 0)) (h5 : ∀ i, i ≠ 0 → x5 i = x1 i ∧ la5 i = la1 i) (h7 : x7 = va_up x5 0 (cpX (x5 0) (x5 (j + 2)))) (l7 : la7 = va_up la5 0 (la5 (j + 2))) (h8 : x8 = va_up x7 0 (upd (upd (x7 0) 208 a) 209 b)) (l8 : la8 = va_up la7 0 (la7 0)) : (∀ z, z < 208 → x8 0 z = x 0 z) ∧ la8 0 = la 0 ∧ ∀ i, i ≠ 0 → x8 i = x1 i ∧ la8 i = la1 i := by
  refine ⟨fun z hz => ?_, ?_, fun i hi => ⟨?_, ?_⟩⟩
  · rw [h8, va_up_self]
    have e1 : upd (upd (x7 0) 208 a) 209 b z = x7 0 z := (if_neg (by omega)).trans (if_neg (by omega))
    rw [e1, h7, va_up_self, (h5 (j + 2) (by omega)).1, h1, va_up_self]
    have e2 : ∀ p q : Nat → Int32, cpX p q z = q z := fun p q => (if_neg (by omega)).trans (if_neg (by omega))
    rw [e2, e2]
  · rw [l8, va_up_self, l7, va_up_self, (h5 (j + 2) (by omega)).2, l1, va_up_self]
  · rw [h8, va_up_ne _ _ hi, h7, va_up_ne _ _ hi]
    exact (h5 i hi).1
  · rw [l8, va_up_ne _ _ hi, l7, va_up_ne _ _ hi]
    exact (h5 i hi).2
def tC (t : Nat → Int32) : Nat → Int32 := upd (upd t 1 (t 1 + 1)) 2 (if t 2 + 1 < 8 then t 2 + 1 else 8)
def pfP (g : xg_T) (w : xw_T) (sz n : Nat) (x : Nat → Nat → Int32) (la : Nat → Nat → Nat) (t sg v0 : Nat → Int32) (c0 : Nat) : Option Value → xw_T → Nat → Prop := fun r w1 sz1 => xFr g w w1 sz ∧ sz ≤ sz1 ∧ ∃ (x' : Nat → Nat → Int32) (la' : Nat → Nat → Nat) (t' tt' : Nat → Int32) (vb' : Option Nat), CR g w1 sz1 0 x' la' t' tt' vb' sg ∧ ((∃ e : Nat, e ≤ 60 ∧ ctE n sg e ∧ r = some (.int (-100 - nI e)) ∧ x' = x ∧ la' = la ∧ t' = t) ∨ ∃ N : Nat, ctN n sg N ∧ r = some (.int (nI (N + 1))) ∧ (∀ j, j < N + 1 → OKI n sg v0 j) ∧ (∃ ln lf, ALI g w1 sz1 n sg v0 (N + 1) x' la' ln lf) ∧ t' = tC t ∧ ∀ i, i ≠ 0 → x' i = va_up x (c0 % 9 + 2) (cpX (x (c0 % 9 + 2)) (x 0)) i ∧ la' i = va_up la (c0 % 9 + 2) (la 0) i)
def pfX (g : xg_T) (w : xw_T) (sz n : Nat) (x : Nat → Nat → Int32) (la : Nat → Nat → Nat) (t sg v0 : Nat → Int32) (c0 : Nat) : String → xw_T → Nat → Prop := fun E w1 sz1 => E = "java/lang/UnsupportedOperationException" ∧ xFr g w w1 sz ∧ sz ≤ sz1 ∧ ∃ (x' : Nat → Nat → Int32) (la' : Nat → Nat → Nat) (tt' : Nat → Int32) (vb' : Option Nat), CR g w1 sz1 0 x' la' t tt' vb' sg ∧ ∃ N q : Nat, ctN n sg N ∧ q < N + 1 ∧ (∀ j, j < q → OKI n sg v0 j) ∧ NOI n sg v0 q ∧ (∀ z, z < 208 → x' 0 z = x 0 z) ∧ la' 0 = la 0 ∧ ∀ i, i ≠ 0 → x' i = va_up x (c0 % 9 + 2) (cpX (x (c0 % 9 + 2)) (x 0)) i ∧ la' i = va_up la (c0 % 9 + 2) (la 0) i
set_option maxHeartbeats 4000000 in
set_option maxRecDepth 100000 in
theorem e_X7_perform (l : Launch) (hl : l.stackTraces = false) (g : xg_T) (w : xw_T) (sz n : Nat) (x : Nat → Nat → Int32) (la : Nat → Nat → Nat) (t tt : Nat → Int32) (vb : Option Nat) (sg : Nat → Int32) (hC : CR g w sz n x la t tt vb sg) (v0 : Nat → Int32) (ln : Nat → Nat) (lf : Nat → Nat → Int32) (hL : ∀ k, k < 20 → xTx g w sz (la 0 k) (ln k) (lf k)) (hA0 : alk (x 0) v0) (hB0 : lbl ln lf (x 0) v0) (c0 : Nat) (hc0 : c0 < 2 ^ 31) (ht1 : t 1 = nI c0) : xM l g yX7_perform cX7_perform 3 (some .int) ({ frames := 10, cells := 256, slots := 2500, locals := 237 }) 256 2500 [.ref (g.2 0)] w sz (pfP g w sz n x la t sg v0 c0) (pfX g w sz n x la t sg v0 c0) := by
  have hz9 := hC.zz
  refine xM.of RX7 hl (by decide +kernel) rfl (Nat.le_of_ble_eq_true rfl) rfl ?_
  intro p e s m args below meth cD C0 hini
  refine x_aload_n 0 1 C0 dX7_perform_0 rfl rfl rfl ?_
  refine x_getf (v := .ref (g.2 0 + 256)) 4 4 C0 dX7_perform_1 rfl hC.1.1 rfl (by decide) inX7 mF_X7_33 rfl ?_
  refine x_callV 7 C0 (e_X2_countCommands l hl g _ _ (g.2 0 + 256) _ _ _ _ hC.1.2.2.2.1 hC.1.2.2.2.2 (Nat.le_add_right _ _) hC.2.2.1 hC.2.2.2.1) dX7_perform_4 rfl mC_X2_countCommands mM_X7_270 mI_X2_countCommands mV_X2_countCommands mN_X2 yd_X2_countCommands rfl rfl ⟨Nat.le_of_ble_eq_true rfl, Nat.le_of_ble_eq_true rfl⟩ hC.1.2.2.2.1 rfl rfl rfl rfl (Nat.le_of_ble_eq_true rfl) ⟨Nat.le_of_ble_eq_true rfl, Nat.le_of_ble_eq_true rfl⟩ (fun _ _ _ q => False.elim q) (fun r w1 sz1 hz hP => ?_)
  obtain ⟨wv1, hwv1⟩ : ∃ z, z = w1 := ⟨_, rfl⟩
  refine x_w hwv1.symm ?_
  obtain ⟨rfl, tt1, vb1, hw1, hT1, hv1, v1, rfl, hct1⟩ := hP
  rw [← hwv1] at hw1
  have hC1 : CR g wv1 sz n x la t tt1 vb1 sg := by rw [hw1]; exact hC.setTx hT1 hv1
  have hF1 : xFr g w wv1 sz := xFr.tr (sz1 := sz) xFr.rf (by rw [hw1]; exact xFr.up (by omega)) (by omega)
  rcases hct1.cs with ⟨N, hN, rfl⟩ | ⟨e9, he9, hE, rfl⟩
  · have hN60 := hN.1
    refine x_st (st1 := [.int (nI (N + 1))]) rfl ?_
    refine x_istore_n [(1, .int (nI (N + 1))), (0, .ref (g.2 0))] 8 C0 dX7_perform_7 rfl rfl (by decide) rfl ?_
    refine x_lv (lv1 := [(0, .ref (g.2 0)), (1, .int (nI (N + 1)))]) [1, 0] rfl ?_
    refine x_iload_n 1 9 C0 dX7_perform_8 rfl rfl rfl ?_
    refine x_if_ge 21 12 C0 dX7_perform_9 rfl (by decide) (fun c2 => ?_) (fun c2 => ?_)
    rotate_left
    · exact absurd (nI_pos' (by omega)) c2
    refine x_aload_n 0 22 C0 dX7_perform_21 rfl rfl rfl ?_
    refine x_getf (v := .ref (g.2 0 + 47)) 3 25 C0 dX7_perform_22 rfl hC1.1.1 rfl (by decide) inX7 mF_X7_26 rfl ?_
    refine x_aload_n 0 26 C0 dX7_perform_25 rfl rfl rfl ?_
    refine x_getf (v := .ref (g.2 0 + 1)) 0 29 C0 dX7_perform_26 rfl hC1.1.1 rfl (by decide) inX7 mF_X7_10 rfl ?_
    refine x_callV 32 C0 (k_X3_prepare l hl g _ _ _ x la t tt1 vb1 sg hC1) dX7_perform_29 rfl mC_X3_prepare mM_X7_45 mI_X3_prepare mV_X3_prepare mN_X3 yd_X3_prepare rfl rfl ⟨Nat.le_of_ble_eq_true rfl, Nat.le_of_ble_eq_true rfl⟩ hC1.1.2.1 rfl rfl rfl rfl (Nat.le_of_ble_eq_true rfl) ⟨Nat.le_of_ble_eq_true rfl, Nat.le_of_ble_eq_true rfl⟩ (fun _ _ _ q => False.elim q) (fun r w1 sz1 hz hP => ?_)
    obtain ⟨wv3, hwv3⟩ : ∃ z, z = w1 := ⟨_, rfl⟩
    obtain ⟨rfl, x3, la3, hC3, hx3, hl3, hG3, rfl, hXX3⟩ := hP
    refine x_w hwv3.symm ?_
    rw [← hwv3] at hC3 hG3
    have hF3 : xFr g w wv3 sz := xFr.tr (sz1 := sz) hF1 hG3 (by omega)
    refine x_st (st1 := []) rfl ?_
    obtain ⟨j, hj, hjc, hxe, hle⟩ := hXX3
    obtain rfl : j = c0 % 9 := hjc c0 hc0 ht1
    refine x_aload_n 0 33 C0 dX7_perform_32 rfl rfl rfl ?_
    refine x_iload_n 1 34 C0 dX7_perform_33 rfl rfl rfl ?_
    refine x_callV 37 C0 (e_X7_carryOutAll l hl g _ _ _ x3 la3 t tt1 vb1 sg hC3 (N + 1) (by omega) hN.ok.1 hN.ok.2 v0 ln lf (fun k hk => by rw [hl3]; exact (hL k hk).go (fun q q1 q2 => hF3 q (by omega) q2) (Nat.le_refl _)) (by rw [hx3]; exact hA0) (by rw [hx3]; exact hB0)) dX7_perform_34 rfl mC_X7_carryOutAll mM_X7_276 mI_X7_carryOutAll mV_X7_carryOutAll mN_X7 yd_X7_carryOutAll rfl rfl ⟨Nat.le_of_ble_eq_true rfl, Nat.le_of_ble_eq_true rfl⟩ hC3.1.1 rfl rfl rfl rfl (Nat.le_of_ble_eq_true rfl) ⟨Nat.le_of_ble_eq_true rfl, Nat.le_of_ble_eq_true rfl⟩ (fun _ _ _ q => False.elim q) (fun r w1 sz1 hz hP => ?_)
    obtain ⟨wv4, hwv4⟩ : ∃ z, z = w1 := ⟨_, rfl⟩
    obtain ⟨sv4, hsv4⟩ : ∃ z, z = sz1 := ⟨_, rfl⟩
    rw [← hwv4, ← hsv4] at hP ⊢
    obtain ⟨hG4, hz4, q9, x4, la4, tt4, vb4, hq9, rfl, hC4, hsm, hoks, hno, hal⟩ := hP
    have hF4 : xFr g w wv4 sz := xFr.tr (sz1 := sz) hF3 hG4 (by omega)
    refine x_st (st1 := [.int (nI q9)]) rfl ?_
    refine x_istore_n [(2, .int (nI q9)), (0, .ref (g.2 0)), (1, .int (nI (N + 1)))] 38 C0 dX7_perform_37 rfl rfl (by decide) rfl ?_
    refine x_lv (lv1 := [(0, .ref (g.2 0)), (1, .int (nI (N + 1))), (2, .int (nI q9))]) [1, 2, 0] rfl ?_
    refine x_aload_n 0 39 C0 dX7_perform_38 rfl rfl rfl ?_
    refine x_getf (v := .ref (g.2 0 + 256)) 4 42 C0 dX7_perform_39 rfl hC4.1.1 rfl (by decide) inX7 mF_X7_33 rfl ?_
    refine x_callV 45 C0 (k_X2_clear l hl g _ _ (g.2 0 + 256) _ _ _ _ hC4.1.2.2.2.1 hC4.1.2.2.2.2 (Nat.le_add_right _ _) hC4.2.2.1 hC4.2.2.2.1) dX7_perform_42 rfl mC_X2_clear mM_X7_273 mI_X2_clear mV_X2_clear mN_X2 yd_X2_clear rfl rfl ⟨Nat.le_of_ble_eq_true rfl, Nat.le_of_ble_eq_true rfl⟩ hC4.1.2.2.2.1 rfl rfl rfl rfl (Nat.le_of_ble_eq_true rfl) ⟨Nat.le_of_ble_eq_true rfl, Nat.le_of_ble_eq_true rfl⟩ (fun _ _ _ q => False.elim q) (fun r w1 sz1 hz hP => ?_)
    obtain ⟨wv5, hwv5⟩ : ∃ z, z = w1 := ⟨_, rfl⟩
    refine x_w hwv5.symm ?_
    obtain ⟨rfl, tt5, vb5, hw5, hT5, hv5, rfl⟩ := hP
    rw [← hwv5] at hw5
    have hC5 : CR g wv5 sv4 0 x4 la4 t tt5 vb5 sg := by rw [hw5]; exact hC4.setTx hT5 hv5
    have hF5 : xFr g w wv5 sz := xFr.tr (sz1 := sv4) hF4 (by rw [hw5]; exact xFr.up (by omega)) (by omega)
    refine x_st (st1 := []) rfl ?_
    have hGc : xFr g wv4 wv5 sv4 := by rw [hw5]; exact xFr.up (by omega)
    refine x_iload_n 2 46 C0 dX7_perform_45 rfl rfl rfl ?_
    refine x_iload_n 1 47 C0 dX7_perform_46 rfl rfl rfl ?_
    refine x_icmp_ge 72 50 C0 dX7_perform_47 rfl (by decide) (fun c6 => ?_) (fun c6 => ?_)
    · have hqN : q9 = N + 1 := Nat.le_antisymm hq9 ((nI_leI (by omega) (by omega)).mp c6)
      refine x_aload_n 0 73 C0 dX7_perform_72 rfl rfl rfl ?_
      refine x_iload_n 2 74 C0 dX7_perform_73 rfl rfl rfl ?_
      refine x_iload_n 1 75 C0 dX7_perform_74 rfl rfl rfl ?_
      refine x_icmp_ne 82 78 C0 dX7_perform_75 rfl (by decide) (fun c7 => ?_) (fun c7 => ?_)
      · exact absurd (congrArg nI hqN) c7
      refine x_iconst (v := 1) 79 C0 dX7_perform_78 rfl (by decide) ?_
      refine x_goto 83 C0 dX7_perform_79 (by decide) ?_
      refine x_callV 86 C0 (k_X7_conclude l hl g _ _ _ x4 la4 t tt5 vb5 sg hC5 1) dX7_perform_83 rfl mC_X7_conclude mM_X7_53 mI_X7_conclude mV_X7_conclude mN_X7 yd_X7_conclude rfl rfl ⟨Nat.le_of_ble_eq_true rfl, Nat.le_of_ble_eq_true rfl⟩ hC5.1.1 rfl rfl rfl rfl (Nat.le_of_ble_eq_true rfl) ⟨Nat.le_of_ble_eq_true rfl, Nat.le_of_ble_eq_true rfl⟩ (fun E9 w9 sz9 q => by obtain ⟨rfl, rfl, h9, hno9⟩ := q; exact x_out C0 rfl (Nat.le_of_ble_eq_true rfl) (Nat.le_of_ble_eq_true rfl) (absurd hno9 (by decide))) (fun r w1 sz1 hz hP => ?_)
      obtain ⟨wv8, hwv8⟩ : ∃ z, z = w1 := ⟨_, rfl⟩
      obtain ⟨rfl, t8, hC8, hG8, rfl, hb98, ht98⟩ := hP
      refine x_w hwv8.symm ?_
      rw [← hwv8] at hC8 hG8
      have hF8 : xFr g w wv8 sz := xFr.tr (sz1 := sv4) hF5 hG8 (by omega)
      refine x_st (st1 := []) rfl ?_
      refine x_iload_n 1 87 C0 dX7_perform_86 rfl rfl rfl ?_
      exact x_ireturn C0 dX7_perform_87 rfl rfl (Nat.le_of_ble_eq_true rfl) (Nat.le_of_ble_eq_true rfl) ⟨hF8, by omega, _, _, _, _, _, hC8, Or.inr ⟨N, hN, rfl, by rw [← hqN]; exact hoks, by obtain ⟨ln9, lf9, h9⟩ := hal hqN; exact ⟨ln9, lf9, (h9.go hGc (Nat.le_refl _)).go hG8 (Nat.le_refl _)⟩, ht98, fun i hi => by rw [(hsm i hi).1, (hsm i hi).2, hxe, hle]; exact ⟨rfl, rfl⟩⟩⟩
    · have hqN : q9 < N + 1 := Nat.lt_of_not_le (fun z => c6 ((nI_leI (by omega) (by omega)).mpr z))
      refine x_aload_n 0 51 C0 dX7_perform_50 rfl rfl rfl ?_
      refine x_getf (v := .ref (g.2 0 + 47)) 3 54 C0 dX7_perform_51 rfl hC5.1.1 rfl (by decide) inX7 mF_X7_26 rfl ?_
      refine x_aload_n 0 55 C0 dX7_perform_54 rfl rfl rfl ?_
      refine x_getf (v := .ref (g.2 0 + 1)) 0 58 C0 dX7_perform_55 rfl hC5.1.1 rfl (by decide) inX7 mF_X7_10 rfl ?_
      refine x_callV 61 C0 (k_X3_dropPrepared l hl g _ _ _ x4 la4 t tt5 vb5 sg hC5) dX7_perform_58 rfl mC_X3_dropPrepared mM_X7_279 mI_X3_dropPrepared mV_X3_dropPrepared mN_X3 yd_X3_dropPrepared rfl rfl ⟨Nat.le_of_ble_eq_true rfl, Nat.le_of_ble_eq_true rfl⟩ hC5.1.2.1 rfl rfl rfl rfl (Nat.le_of_ble_eq_true rfl) ⟨Nat.le_of_ble_eq_true rfl, Nat.le_of_ble_eq_true rfl⟩ (fun _ _ _ q => False.elim q) (fun r w1 sz1 hz hP => ?_)
      obtain ⟨wv9, hwv9⟩ : ∃ z, z = w1 := ⟨_, rfl⟩
      obtain ⟨rfl, x9, la9, t9, hC9, hG9, rfl, hXX9⟩ := hP
      refine x_w hwv9.symm ?_
      rw [← hwv9] at hC9 hG9
      have hF9 : xFr g w wv9 sz := xFr.tr (sz1 := sv4) hF5 hG9 (by omega)
      refine x_st (st1 := []) rfl ?_
      obtain ⟨ht9, j, hj2, hjc2, hxd, hld⟩ := hXX9
      obtain rfl : j = c0 % 9 := hjc2 c0 hc0 ht1
      rw [ht9] at hC9
      refine x_aload_n 0 62 C0 dX7_perform_61 rfl rfl rfl ?_
      refine x_getf (v := .ref (g.2 0 + 1)) 0 65 C0 dX7_perform_62 rfl hC9.1.1 rfl (by decide) inX7 mF_X7_10 rfl ?_
      refine x_bipush (v := 19) 67 C0 dX7_perform_65 rfl (by decide) ?_
      refine x_iload_n 2 68 C0 dX7_perform_67 rfl rfl rfl ?_
      refine x_callV 71 C0 (k_X4_refuse l hl g _ _ _ _ _ hC9.h0 (Nat.le_add_right _ _) 19 (nI q9)) dX7_perform_68 rfl mC_X4_refuse mM_X7_282 mI_X4_refuse mV_X4_refuse mN_X4 yd_X4_refuse rfl rfl ⟨Nat.le_of_ble_eq_true rfl, Nat.le_of_ble_eq_true rfl⟩ (HR.ho hC9.h0) rfl rfl rfl rfl (Nat.le_of_ble_eq_true rfl) ⟨Nat.le_of_ble_eq_true rfl, Nat.le_of_ble_eq_true rfl⟩ (fun _ _ _ q => False.elim q) (fun r w1 sz1 hz hP => ?_)
      obtain ⟨rfl, hw10, rfl⟩ := hP
      obtain ⟨wv10, hwv10⟩ : ∃ z, z = w1 := ⟨_, rfl⟩
      refine x_w hwv10.symm ?_
      rw [← hwv10] at hw10
      obtain ⟨x11, la11, hx11, hla11, hC11⟩ : ∃ x11 la11, x11 = va_up x9 0 (upd (upd (x9 0) 208 19) 209 ((nI q9))) ∧ la11 = va_up la9 0 (la9 0) ∧ CR g wv10 sv4 0 x11 la11 t tt5 vb5 sg := ⟨_, _, rfl, rfl, by rw [hw10]; exact hC9.set0 ((hC9.k0.up (by omega)).up (by omega)) hC9.l0⟩
      have hF11 : xFr g w wv10 sz := xFr.tr (sz1 := sv4) hF9 (by rw [hw10]; exact xFr.hw (by omega)) (by omega)
      refine x_st (st1 := [.int 0]) rfl ?_
      refine x_pop 72 C0 dX7_perform_71 rfl rfl ?_
      refine x_aload_n 0 73 C0 dX7_perform_72 rfl rfl rfl ?_
      refine x_iload_n 2 74 C0 dX7_perform_73 rfl rfl rfl ?_
      refine x_iload_n 1 75 C0 dX7_perform_74 rfl rfl rfl ?_
      refine x_icmp_ne 82 78 C0 dX7_perform_75 rfl (by decide) (fun c12 => ?_) (fun c12 => ?_)
      rotate_left
      · exact absurd ((nI_eq (by omega) (by omega)).mp c12) (by omega)
      refine x_iconst (v := 0) 83 C0 dX7_perform_82 rfl (by decide) ?_
      refine x_callV 86 C0 (k_X7_conclude l hl g _ _ _ x11 la11 t tt5 vb5 sg hC11 0) dX7_perform_83 rfl mC_X7_conclude mM_X7_53 mI_X7_conclude mV_X7_conclude mN_X7 yd_X7_conclude rfl rfl ⟨Nat.le_of_ble_eq_true rfl, Nat.le_of_ble_eq_true rfl⟩ hC11.1.1 rfl rfl rfl rfl (Nat.le_of_ble_eq_true rfl) ⟨Nat.le_of_ble_eq_true rfl, Nat.le_of_ble_eq_true rfl⟩ (fun E9 w9 sz9 q => by obtain ⟨rfl, rfl, h9, hno9⟩ := q; exact x_out C0 rfl (Nat.le_of_ble_eq_true rfl) (Nat.le_of_ble_eq_true rfl) ⟨rfl, hF11, by omega, _, _, _, _, hC11.grow h9, N, q9, hN, hqN, hoks, hno hqN, by have hD9 := drop_eq hxe hle hsm hxd hld hx11 hla11; exact ⟨hD9.1, hD9.2.1, fun i hi => by rw [← hxe, ← hle]; exact hD9.2.2 i hi⟩⟩) (fun r w1 sz1 hz hP => ?_)
      obtain ⟨wv13, hwv13⟩ : ∃ z, z = w1 := ⟨_, rfl⟩
      obtain ⟨rfl, t13, hC13, hG13, rfl, hb913, ht913⟩ := hP
      refine x_w hwv13.symm ?_
      rw [← hwv13] at hC13 hG13
      have hF13 : xFr g w wv13 sz := xFr.tr (sz1 := sv4) hF11 hG13 (by omega)
      refine x_st (st1 := []) rfl ?_
      refine x_iload_n 1 87 C0 dX7_perform_86 rfl rfl rfl ?_
      exact absurd rfl hb913
  · refine x_st (st1 := [.int ((-100) - nI e9)]) rfl ?_
    refine x_istore_n [(1, .int ((-100) - nI e9)), (0, .ref (g.2 0))] 8 C0 dX7_perform_7 rfl rfl (by decide) rfl ?_
    refine x_lv (lv1 := [(0, .ref (g.2 0)), (1, .int ((-100) - nI e9))]) [1, 0] rfl ?_
    refine x_iload_n 1 9 C0 dX7_perform_8 rfl rfl rfl ?_
    refine x_if_ge 21 12 C0 dX7_perform_9 rfl (by decide) (fun c14 => ?_) (fun c14 => ?_)
    · exact absurd c14 (Int32.not_le.mpr (neg100 e9 (by omega)))
    refine x_aload_n 0 13 C0 dX7_perform_12 rfl rfl rfl ?_
    refine x_getf (v := .ref (g.2 0 + 256)) 4 16 C0 dX7_perform_13 rfl hC1.1.1 rfl (by decide) inX7 mF_X7_33 rfl ?_
    refine x_callV 19 C0 (k_X2_clear l hl g _ _ (g.2 0 + 256) _ _ _ _ hC1.1.2.2.2.1 hC1.1.2.2.2.2 (Nat.le_add_right _ _) hC1.2.2.1 hC1.2.2.2.1) dX7_perform_16 rfl mC_X2_clear mM_X7_273 mI_X2_clear mV_X2_clear mN_X2 yd_X2_clear rfl rfl ⟨Nat.le_of_ble_eq_true rfl, Nat.le_of_ble_eq_true rfl⟩ hC1.1.2.2.2.1 rfl rfl rfl rfl (Nat.le_of_ble_eq_true rfl) ⟨Nat.le_of_ble_eq_true rfl, Nat.le_of_ble_eq_true rfl⟩ (fun _ _ _ q => False.elim q) (fun r w1 sz1 hz hP => ?_)
    obtain ⟨wv15, hwv15⟩ : ∃ z, z = w1 := ⟨_, rfl⟩
    refine x_w hwv15.symm ?_
    obtain ⟨rfl, tt15, vb15, hw15, hT15, hv15, rfl⟩ := hP
    rw [← hwv15] at hw15
    have hC15 : CR g wv15 sz 0 x la t tt15 vb15 sg := by rw [hw15]; exact hC1.setTx hT15 hv15
    have hF15 : xFr g w wv15 sz := xFr.tr (sz1 := sz) hF1 (by rw [hw15]; exact xFr.up (by omega)) (by omega)
    refine x_st (st1 := []) rfl ?_
    have hGc : xFr g wv1 wv15 sz := by rw [hw15]; exact xFr.up (by omega)
    refine x_iload_n 1 20 C0 dX7_perform_19 rfl rfl rfl ?_
    exact x_ireturn C0 dX7_perform_20 rfl rfl (Nat.le_of_ble_eq_true rfl) (Nat.le_of_ble_eq_true rfl) ⟨hF15, by omega, _, _, _, _, _, hC15, Or.inl ⟨e9, he9, hE, rfl, rfl, rfl, rfl⟩⟩

