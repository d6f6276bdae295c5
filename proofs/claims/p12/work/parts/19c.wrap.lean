/-! THE LAW'S WRAPPERS -/
set_option maxHeartbeats 4000000 in
set_option maxRecDepth 100000 in
theorem k_L_bring (l : Launch) (hl : l.stackTraces = false) (g : xg_T) (w : xw_T) (sz n : Nat) (hI : CI g w sz n) (hO : wO g w) (a1 : Int32) (a2 : Int32) (a3 : Int32) : xMH l g yL_bring cL_bring 6 (some .int) [((0), (12), (15), (13)), ((0), (12), (19), (15)), ((0), (12), (23), (17))] ({ frames := 8, cells := 8, slots := 64, locals := 127 }) 8 64 [.ref (g.2 0), .int a1, .int a2, .int a3, .ref (g.2 0 + 267)] w sz (wPo g w sz n) (fun _ _ _ => False) := by
  obtain ⟨x, la, t, tt, vb, sg, hC⟩ := hI
  obtain ⟨f, hO⟩ := hO
  have hz := hC.2.2.2.2
  refine xMH.of RL hl (by decide +kernel) rfl (Nat.le_of_ble_eq_true rfl) rfl ?_
  intro p e s m args below meth cD C0
  refine x_aload 4 2 C0 dL_bring_0 rfl rfl ?_
  refine x_iconst (v := 0) 3 C0 dL_bring_2 rfl (by decide) ?_
  refine x_aload_n 0 4 C0 dL_bring_3 rfl rfl rfl ?_
  refine x_iload_n 1 5 C0 dL_bring_4 rfl rfl rfl ?_
  refine x_iload_n 2 6 C0 dL_bring_5 rfl rfl rfl ?_
  refine x_iload_n 3 7 C0 dL_bring_6 rfl rfl rfl ?_
  refine x_callV 10 C0 (k_X7_bring l hl g w sz n x la t tt vb sg hC a1 a2 a3) dL_bring_7 rfl mC_X7_bring mM_L_7 mI_X7_bring mV_X7_bring mN_X7 yd_X7_bring rfl rfl ⟨(Nat.le_of_ble_eq_true rfl), (Nat.le_of_ble_eq_true rfl)⟩ hC.1.1 rfl rfl rfl rfl (Nat.le_of_ble_eq_true rfl) ⟨(Nat.le_of_ble_eq_true rfl), (Nat.le_of_ble_eq_true rfl)⟩ (fun E9 w9 sz9 q => ?_) (fun r w1 sz1 _ hP => ?_)
  · obtain ⟨hE, hI9, hF9, hz9⟩ := q
    simp only [List.mem_cons, List.not_mem_nil, or_false] at hE
    rcases hE with rfl | rfl | rfl
    · refine x_catch "java/lang/IndexOutOfBoundsException" 15 [] ⟨0, 12, 15, 13⟩ [⟨0, 12, 19, 15⟩, ⟨0, 12, 23, 17⟩] C0 rfl (fun _ h => absurd h List.not_mem_nil) (by decide) (by decide) mK_L_13 (by decide +kernel) rfl (fun q9 => ?_)
      refine x_astore [(5, .ref q9), (0, .ref (g.2 0)), (1, .int a1), (2, .int a2), (3, .int a3), (4, .ref (g.2 0 + 267))] 17 C0 dL_bring_15 rfl (by decide) rfl ?_
      refine x_iconst (v := 1) 18 C0 dL_bring_17 rfl (by decide) ?_
      exact x_ireturn C0 dL_bring_18 rfl rfl (Nat.le_of_ble_eq_true rfl) (Nat.le_of_ble_eq_true rfl) ⟨⟨_, rfl⟩, hI9, hF9.wf, ⟨f, hF9.o hz hO⟩, hz9⟩
    · refine x_catch "java/lang/IllegalArgumentException" 19 [⟨0, 12, 15, 13⟩] ⟨0, 12, 19, 15⟩ [⟨0, 12, 23, 17⟩] C0 rfl (List.forall_mem_cons.mpr ⟨⟨by decide, _, mK_L_13, by decide +kernel⟩, (fun _ h => absurd h List.not_mem_nil)⟩) (by decide) (by decide) mK_L_15 (by decide +kernel) rfl (fun q9 => ?_)
      refine x_astore [(5, .ref q9), (0, .ref (g.2 0)), (1, .int a1), (2, .int a2), (3, .int a3), (4, .ref (g.2 0 + 267))] 21 C0 dL_bring_19 rfl (by decide) rfl ?_
      refine x_iconst (v := 2) 22 C0 dL_bring_21 rfl (by decide) ?_
      exact x_ireturn C0 dL_bring_22 rfl rfl (Nat.le_of_ble_eq_true rfl) (Nat.le_of_ble_eq_true rfl) ⟨⟨_, rfl⟩, hI9, hF9.wf, ⟨f, hF9.o hz hO⟩, hz9⟩
    · refine x_catch "java/lang/UnsupportedOperationException" 23 [⟨0, 12, 15, 13⟩, ⟨0, 12, 19, 15⟩] ⟨0, 12, 23, 17⟩ [] C0 rfl (List.forall_mem_cons.mpr ⟨⟨by decide, _, mK_L_13, by decide +kernel⟩, (List.forall_mem_cons.mpr ⟨⟨by decide, _, mK_L_15, by decide +kernel⟩, (fun _ h => absurd h List.not_mem_nil)⟩)⟩) (by decide) (by decide) mK_L_17 (by decide +kernel) rfl (fun q9 => ?_)
      refine x_astore [(5, .ref q9), (0, .ref (g.2 0)), (1, .int a1), (2, .int a2), (3, .int a3), (4, .ref (g.2 0 + 267))] 25 C0 dL_bring_23 rfl (by decide) rfl ?_
      refine x_iconst (v := 3) 26 C0 dL_bring_25 rfl (by decide) ?_
      exact x_ireturn C0 dL_bring_26 rfl rfl (Nat.le_of_ble_eq_true rfl) (Nat.le_of_ble_eq_true rfl) ⟨⟨_, rfl⟩, hI9, hF9.wf, ⟨f, hF9.o hz hO⟩, hz9⟩
  · obtain ⟨⟨v, rfl⟩, hI1, hF1, hz1⟩ := hP
    refine x_st (st1 := [.int (v), .int 0, .ref (g.2 0 + 267)]) rfl ?_
    refine x_i2l (v := Int32.toInt64 (v)) 11 C0 dL_bring_10 rfl rfl ?_
    refine x_last 3 12 C0 dL_bring_11 rfl (hF1.o hz hO) (by show g.2 0 ≤ _; omega) rfl (by unfold vp_in; decide) ?_
    refine x_goto 27 C0 dL_bring_12 (by decide) ?_
    refine x_iconst (v := 0) 28 C0 dL_bring_27 rfl (by decide) ?_
    exact x_ireturn C0 dL_bring_28 rfl rfl (Nat.le_of_ble_eq_true rfl) (Nat.le_of_ble_eq_true rfl) ⟨⟨_, rfl⟩, hI1.up ⟨by omega, by omega⟩, hF1.wup, ⟨_, xup_s _ _ _⟩, hz1⟩

set_option maxHeartbeats 4000000 in
set_option maxRecDepth 100000 in
theorem k_L_leaves (l : Launch) (hl : l.stackTraces = false) (g : xg_T) (w : xw_T) (sz n : Nat) (hI : CI g w sz n) (hO : wO g w) (a1 : Int32) (a2 : Int32) : xMH l g yL_leaves cL_leaves 5 (some .int) [((0), (10), (13), (13))] ({ frames := 8, cells := 8, slots := 64, locals := 125 }) 8 64 [.ref (g.2 0), .int a1, .int a2, .ref (g.2 0 + 267)] w sz (wPo g w sz n) (fun _ _ _ => False) := by
  obtain ⟨x, la, t, tt, vb, sg, hC⟩ := hI
  obtain ⟨f, hO⟩ := hO
  have hz := hC.2.2.2.2
  refine xMH.of RL hl (by decide +kernel) rfl (Nat.le_of_ble_eq_true rfl) rfl ?_
  intro p e s m args below meth cD C0
  refine x_aload_n 3 1 C0 dL_leaves_0 rfl rfl rfl ?_
  refine x_iconst (v := 0) 2 C0 dL_leaves_1 rfl (by decide) ?_
  refine x_aload_n 0 3 C0 dL_leaves_2 rfl rfl rfl ?_
  refine x_iload_n 1 4 C0 dL_leaves_3 rfl rfl rfl ?_
  refine x_iload_n 2 5 C0 dL_leaves_4 rfl rfl rfl ?_
  refine x_callV 8 C0 (k_X7_leaves l hl g w sz n x la t tt vb sg hC a1 a2) dL_leaves_5 rfl mC_X7_leaves mM_L_19 mI_X7_leaves mV_X7_leaves mN_X7 yd_X7_leaves rfl rfl ⟨(Nat.le_of_ble_eq_true rfl), (Nat.le_of_ble_eq_true rfl)⟩ hC.1.1 rfl rfl rfl rfl (Nat.le_of_ble_eq_true rfl) ⟨(Nat.le_of_ble_eq_true rfl), (Nat.le_of_ble_eq_true rfl)⟩ (fun E9 w9 sz9 q => ?_) (fun r w1 sz1 _ hP => ?_)
  · obtain ⟨hE, hI9, hF9, hz9⟩ := q
    obtain rfl := List.mem_singleton.mp hE
    refine x_catch "java/lang/IndexOutOfBoundsException" 13 [] ⟨0, 10, 13, 13⟩ [] C0 rfl (fun _ h => absurd h List.not_mem_nil) (by decide) (by decide) mK_L_13 (by decide +kernel) rfl (fun q9 => ?_)
    refine x_astore [(4, .ref q9), (0, .ref (g.2 0)), (1, .int a1), (2, .int a2), (3, .ref (g.2 0 + 267))] 15 C0 dL_leaves_13 rfl (by decide) rfl ?_
    refine x_iconst (v := 1) 16 C0 dL_leaves_15 rfl (by decide) ?_
    exact x_ireturn C0 dL_leaves_16 rfl rfl (Nat.le_of_ble_eq_true rfl) (Nat.le_of_ble_eq_true rfl) ⟨⟨_, rfl⟩, hI9, hF9.wf, ⟨f, hF9.o hz hO⟩, hz9⟩
  · obtain ⟨⟨v, rfl⟩, hI1, hF1, hz1⟩ := hP
    refine x_st (st1 := [.int (v), .int 0, .ref (g.2 0 + 267)]) rfl ?_
    refine x_i2l (v := Int32.toInt64 (v)) 9 C0 dL_leaves_8 rfl rfl ?_
    refine x_last 3 10 C0 dL_leaves_9 rfl (hF1.o hz hO) (by show g.2 0 ≤ _; omega) rfl (by unfold vp_in; decide) ?_
    refine x_goto 17 C0 dL_leaves_10 (by decide) ?_
    refine x_iconst (v := 0) 18 C0 dL_leaves_17 rfl (by decide) ?_
    exact x_ireturn C0 dL_leaves_18 rfl rfl (Nat.le_of_ble_eq_true rfl) (Nat.le_of_ble_eq_true rfl) ⟨⟨_, rfl⟩, hI1.up ⟨by omega, by omega⟩, hF1.wup, ⟨_, xup_s _ _ _⟩, hz1⟩

set_option maxHeartbeats 4000000 in
set_option maxRecDepth 100000 in
theorem k_L_buy (l : Launch) (hl : l.stackTraces = false) (g : xg_T) (w : xw_T) (sz n : Nat) (hI : CI g w sz n) (hO : wO g w) (a1 : Int32) (a2 : Int32) : xMH l g yL_buy cL_buy 5 (some .int) [((0), (10), (13), (15))] ({ frames := 8, cells := 8, slots := 64, locals := 126 }) 8 64 [.ref (g.2 0), .int a1, .int a2, .ref (g.2 0 + 267)] w sz (wPo g w sz n) (fun _ _ _ => False) := by
  obtain ⟨x, la, t, tt, vb, sg, hC⟩ := hI
  obtain ⟨f, hO⟩ := hO
  have hz := hC.2.2.2.2
  refine xMH.of RL hl (by decide +kernel) rfl (Nat.le_of_ble_eq_true rfl) rfl ?_
  intro p e s m args below meth cD C0
  refine x_aload_n 3 1 C0 dL_buy_0 rfl rfl rfl ?_
  refine x_iconst (v := 0) 2 C0 dL_buy_1 rfl (by decide) ?_
  refine x_aload_n 0 3 C0 dL_buy_2 rfl rfl rfl ?_
  refine x_iload_n 1 4 C0 dL_buy_3 rfl rfl rfl ?_
  refine x_iload_n 2 5 C0 dL_buy_4 rfl rfl rfl ?_
  refine x_callV 8 C0 (k_X7_buy l hl g w sz n x la t tt vb sg hC a1 a2) dL_buy_5 rfl mC_X7_buy mM_L_23 mI_X7_buy mV_X7_buy mN_X7 yd_X7_buy rfl rfl ⟨(Nat.le_of_ble_eq_true rfl), (Nat.le_of_ble_eq_true rfl)⟩ hC.1.1 rfl rfl rfl rfl (Nat.le_of_ble_eq_true rfl) ⟨(Nat.le_of_ble_eq_true rfl), (Nat.le_of_ble_eq_true rfl)⟩ (fun E9 w9 sz9 q => ?_) (fun r w1 sz1 _ hP => ?_)
  · obtain ⟨hE, hI9, hF9, hz9⟩ := q
    obtain rfl := List.mem_singleton.mp hE
    refine x_catch "java/lang/IllegalArgumentException" 13 [] ⟨0, 10, 13, 15⟩ [] C0 rfl (fun _ h => absurd h List.not_mem_nil) (by decide) (by decide) mK_L_15 (by decide +kernel) rfl (fun q9 => ?_)
    refine x_astore [(4, .ref q9), (0, .ref (g.2 0)), (1, .int a1), (2, .int a2), (3, .ref (g.2 0 + 267))] 15 C0 dL_buy_13 rfl (by decide) rfl ?_
    refine x_iconst (v := 1) 16 C0 dL_buy_15 rfl (by decide) ?_
    exact x_ireturn C0 dL_buy_16 rfl rfl (Nat.le_of_ble_eq_true rfl) (Nat.le_of_ble_eq_true rfl) ⟨⟨_, rfl⟩, hI9, hF9.wf, ⟨f, hF9.o hz hO⟩, hz9⟩
  · obtain ⟨⟨v, rfl⟩, hI1, hF1, hz1⟩ := hP
    refine x_st (st1 := [.int (v), .int 0, .ref (g.2 0 + 267)]) rfl ?_
    refine x_i2l (v := Int32.toInt64 (v)) 9 C0 dL_buy_8 rfl rfl ?_
    refine x_last 3 10 C0 dL_buy_9 rfl (hF1.o hz hO) (by show g.2 0 ≤ _; omega) rfl (by unfold vp_in; decide) ?_
    refine x_goto 17 C0 dL_buy_10 (by decide) ?_
    refine x_iconst (v := 0) 18 C0 dL_buy_17 rfl (by decide) ?_
    exact x_ireturn C0 dL_buy_18 rfl rfl (Nat.le_of_ble_eq_true rfl) (Nat.le_of_ble_eq_true rfl) ⟨⟨_, rfl⟩, hI1.up ⟨by omega, by omega⟩, hF1.wup, ⟨_, xup_s _ _ _⟩, hz1⟩

set_option maxHeartbeats 4000000 in
set_option maxRecDepth 100000 in
theorem k_L_make (l : Launch) (hl : l.stackTraces = false) (g : xg_T) (w : xw_T) (sz n : Nat) (hI : CI g w sz n) (hO : wO g w) (a1 : Int32) : xMH l g yL_make cL_make 4 (some .int) [((0), (9), (12), (15)), ((0), (9), (15), (17))] ({ frames := 8, cells := 8, slots := 64, locals := 125 }) 8 64 [.ref (g.2 0), .int a1, .ref (g.2 0 + 267)] w sz (wPo g w sz n) (fun _ _ _ => False) := by
  obtain ⟨x, la, t, tt, vb, sg, hC⟩ := hI
  obtain ⟨f, hO⟩ := hO
  have hz := hC.2.2.2.2
  refine xMH.of RL hl (by decide +kernel) rfl (Nat.le_of_ble_eq_true rfl) rfl ?_
  intro p e s m args below meth cD C0
  refine x_aload_n 2 1 C0 dL_make_0 rfl rfl rfl ?_
  refine x_iconst (v := 0) 2 C0 dL_make_1 rfl (by decide) ?_
  refine x_aload_n 0 3 C0 dL_make_2 rfl rfl rfl ?_
  refine x_iload_n 1 4 C0 dL_make_3 rfl rfl rfl ?_
  refine x_callV 7 C0 (k_X7_make l hl g w sz n x la t tt vb sg hC a1) dL_make_4 rfl mC_X7_make mM_L_27 mI_X7_make mV_X7_make mN_X7 yd_X7_make rfl rfl ⟨(Nat.le_of_ble_eq_true rfl), (Nat.le_of_ble_eq_true rfl)⟩ hC.1.1 rfl rfl rfl rfl (Nat.le_of_ble_eq_true rfl) ⟨(Nat.le_of_ble_eq_true rfl), (Nat.le_of_ble_eq_true rfl)⟩ (fun E9 w9 sz9 q => ?_) (fun r w1 sz1 _ hP => ?_)
  · obtain ⟨hE, hI9, hF9, hz9⟩ := q
    simp only [List.mem_cons, List.not_mem_nil, or_false] at hE
    rcases hE with rfl | rfl
    · refine x_catch "java/lang/IllegalArgumentException" 12 [] ⟨0, 9, 12, 15⟩ [⟨0, 9, 15, 17⟩] C0 rfl (fun _ h => absurd h List.not_mem_nil) (by decide) (by decide) mK_L_15 (by decide +kernel) rfl (fun q9 => ?_)
      refine x_astore_n [(3, .ref q9), (0, .ref (g.2 0)), (1, .int a1), (2, .ref (g.2 0 + 267))] 13 C0 dL_make_12 rfl rfl (by decide) rfl ?_
      refine x_iconst (v := 1) 14 C0 dL_make_13 rfl (by decide) ?_
      exact x_ireturn C0 dL_make_14 rfl rfl (Nat.le_of_ble_eq_true rfl) (Nat.le_of_ble_eq_true rfl) ⟨⟨_, rfl⟩, hI9, hF9.wf, ⟨f, hF9.o hz hO⟩, hz9⟩
    · refine x_catch "java/lang/UnsupportedOperationException" 15 [⟨0, 9, 12, 15⟩] ⟨0, 9, 15, 17⟩ [] C0 rfl (List.forall_mem_cons.mpr ⟨⟨by decide, _, mK_L_15, by decide +kernel⟩, (fun _ h => absurd h List.not_mem_nil)⟩) (by decide) (by decide) mK_L_17 (by decide +kernel) rfl (fun q9 => ?_)
      refine x_astore_n [(3, .ref q9), (0, .ref (g.2 0)), (1, .int a1), (2, .ref (g.2 0 + 267))] 16 C0 dL_make_15 rfl rfl (by decide) rfl ?_
      refine x_iconst (v := 2) 17 C0 dL_make_16 rfl (by decide) ?_
      exact x_ireturn C0 dL_make_17 rfl rfl (Nat.le_of_ble_eq_true rfl) (Nat.le_of_ble_eq_true rfl) ⟨⟨_, rfl⟩, hI9, hF9.wf, ⟨f, hF9.o hz hO⟩, hz9⟩
  · obtain ⟨⟨v, rfl⟩, hI1, hF1, hz1⟩ := hP
    refine x_st (st1 := [.int (v), .int 0, .ref (g.2 0 + 267)]) rfl ?_
    refine x_i2l (v := Int32.toInt64 (v)) 8 C0 dL_make_7 rfl rfl ?_
    refine x_last 3 9 C0 dL_make_8 rfl (hF1.o hz hO) (by show g.2 0 ≤ _; omega) rfl (by unfold vp_in; decide) ?_
    refine x_goto 18 C0 dL_make_9 (by decide) ?_
    refine x_iconst (v := 0) 19 C0 dL_make_18 rfl (by decide) ?_
    exact x_ireturn C0 dL_make_19 rfl rfl (Nat.le_of_ble_eq_true rfl) (Nat.le_of_ble_eq_true rfl) ⟨⟨_, rfl⟩, hI1.up ⟨by omega, by omega⟩, hF1.wup, ⟨_, xup_s _ _ _⟩, hz1⟩

set_option maxHeartbeats 4000000 in
set_option maxRecDepth 100000 in
theorem k_L_line (l : Launch) (hl : l.stackTraces = false) (g : xg_T) (w : xw_T) (sz n : Nat) (hI : CI g w sz n) (hO : wO g w) (a1 : Int32) : xMH l g yL_line cL_line 4 (some .int) [((0), (9), (12), (13)), ((0), (9), (15), (17))] ({ frames := 8, cells := 8, slots := 64, locals := 126 }) 8 64 [.ref (g.2 0), .int a1, .ref (g.2 0 + 267)] w sz (wPo g w sz n) (fun _ _ _ => False) := by
  obtain ⟨x, la, t, tt, vb, sg, hC⟩ := hI
  obtain ⟨f, hO⟩ := hO
  have hz := hC.2.2.2.2
  refine xMH.of RL hl (by decide +kernel) rfl (Nat.le_of_ble_eq_true rfl) rfl ?_
  intro p e s m args below meth cD C0
  refine x_aload_n 2 1 C0 dL_line_0 rfl rfl rfl ?_
  refine x_iconst (v := 0) 2 C0 dL_line_1 rfl (by decide) ?_
  refine x_aload_n 0 3 C0 dL_line_2 rfl rfl rfl ?_
  refine x_iload_n 1 4 C0 dL_line_3 rfl rfl rfl ?_
  refine x_callV 7 C0 (k_X7_line l hl g w sz n x la t tt vb sg hC a1) dL_line_4 rfl mC_X7_line mM_L_31 mI_X7_line mV_X7_line mN_X7 yd_X7_line rfl rfl ⟨(Nat.le_of_ble_eq_true rfl), (Nat.le_of_ble_eq_true rfl)⟩ hC.1.1 rfl rfl rfl rfl (Nat.le_of_ble_eq_true rfl) ⟨(Nat.le_of_ble_eq_true rfl), (Nat.le_of_ble_eq_true rfl)⟩ (fun E9 w9 sz9 q => ?_) (fun r w1 sz1 _ hP => ?_)
  · obtain ⟨hE, hI9, hF9, hz9⟩ := q
    simp only [List.mem_cons, List.not_mem_nil, or_false] at hE
    rcases hE with rfl | rfl
    · refine x_catch "java/lang/IndexOutOfBoundsException" 12 [] ⟨0, 9, 12, 13⟩ [⟨0, 9, 15, 17⟩] C0 rfl (fun _ h => absurd h List.not_mem_nil) (by decide) (by decide) mK_L_13 (by decide +kernel) rfl (fun q9 => ?_)
      refine x_astore_n [(3, .ref q9), (0, .ref (g.2 0)), (1, .int a1), (2, .ref (g.2 0 + 267))] 13 C0 dL_line_12 rfl rfl (by decide) rfl ?_
      refine x_iconst (v := 1) 14 C0 dL_line_13 rfl (by decide) ?_
      exact x_ireturn C0 dL_line_14 rfl rfl (Nat.le_of_ble_eq_true rfl) (Nat.le_of_ble_eq_true rfl) ⟨⟨_, rfl⟩, hI9, hF9.wf, ⟨f, hF9.o hz hO⟩, hz9⟩
    · refine x_catch "java/lang/UnsupportedOperationException" 15 [⟨0, 9, 12, 13⟩] ⟨0, 9, 15, 17⟩ [] C0 rfl (List.forall_mem_cons.mpr ⟨⟨by decide, _, mK_L_13, by decide +kernel⟩, (fun _ h => absurd h List.not_mem_nil)⟩) (by decide) (by decide) mK_L_17 (by decide +kernel) rfl (fun q9 => ?_)
      refine x_astore_n [(3, .ref q9), (0, .ref (g.2 0)), (1, .int a1), (2, .ref (g.2 0 + 267))] 16 C0 dL_line_15 rfl rfl (by decide) rfl ?_
      refine x_iconst (v := 2) 17 C0 dL_line_16 rfl (by decide) ?_
      exact x_ireturn C0 dL_line_17 rfl rfl (Nat.le_of_ble_eq_true rfl) (Nat.le_of_ble_eq_true rfl) ⟨⟨_, rfl⟩, hI9, hF9.wf, ⟨f, hF9.o hz hO⟩, hz9⟩
  · obtain ⟨⟨v, rfl⟩, hI1, hF1, hz1⟩ := hP
    refine x_st (st1 := [.int (v), .int 0, .ref (g.2 0 + 267)]) rfl ?_
    refine x_i2l (v := Int32.toInt64 (v)) 8 C0 dL_line_7 rfl rfl ?_
    refine x_last 3 9 C0 dL_line_8 rfl (hF1.o hz hO) (by show g.2 0 ≤ _; omega) rfl (by unfold vp_in; decide) ?_
    refine x_goto 18 C0 dL_line_9 (by decide) ?_
    refine x_iconst (v := 0) 19 C0 dL_line_18 rfl (by decide) ?_
    exact x_ireturn C0 dL_line_19 rfl rfl (Nat.le_of_ble_eq_true rfl) (Nat.le_of_ble_eq_true rfl) ⟨⟨_, rfl⟩, hI1.up ⟨by omega, by omega⟩, hF1.wup, ⟨_, xup_s _ _ _⟩, hz1⟩

set_option maxHeartbeats 4000000 in
set_option maxRecDepth 100000 in
theorem k_L_fill (l : Launch) (hl : l.stackTraces = false) (g : xg_T) (w : xw_T) (sz n : Nat) (hI : CI g w sz n) (hO : wO g w) (a1 : Int32) (a2 : Int32) (a3 : Int32) (a4 : Int32) : xMH l g yL_fill cL_fill 7 (some .int) [((0), (14), (17), (13)), ((0), (14), (21), (15)), ((0), (14), (25), (17))] ({ frames := 8, cells := 8, slots := 64, locals := 129 }) 8 64 [.ref (g.2 0), .int a1, .int a2, .int a3, .int a4, .ref (g.2 0 + 267)] w sz (wPo g w sz n) (fun _ _ _ => False) := by
  obtain ⟨x, la, t, tt, vb, sg, hC⟩ := hI
  obtain ⟨f, hO⟩ := hO
  have hz := hC.2.2.2.2
  refine xMH.of RL hl (by decide +kernel) rfl (Nat.le_of_ble_eq_true rfl) rfl ?_
  intro p e s m args below meth cD C0
  refine x_aload 5 2 C0 dL_fill_0 rfl rfl ?_
  refine x_iconst (v := 0) 3 C0 dL_fill_2 rfl (by decide) ?_
  refine x_aload_n 0 4 C0 dL_fill_3 rfl rfl rfl ?_
  refine x_iload_n 1 5 C0 dL_fill_4 rfl rfl rfl ?_
  refine x_iload_n 2 6 C0 dL_fill_5 rfl rfl rfl ?_
  refine x_iload_n 3 7 C0 dL_fill_6 rfl rfl rfl ?_
  refine x_iload 4 9 C0 dL_fill_7 rfl rfl ?_
  refine x_callV 12 C0 (k_X7_fill l hl g w sz n x la t tt vb sg hC a1 a2 a3 a4) dL_fill_9 rfl mC_X7_fill mM_L_34 mI_X7_fill mV_X7_fill mN_X7 yd_X7_fill rfl rfl ⟨(Nat.le_of_ble_eq_true rfl), (Nat.le_of_ble_eq_true rfl)⟩ hC.1.1 rfl rfl rfl rfl (Nat.le_of_ble_eq_true rfl) ⟨(Nat.le_of_ble_eq_true rfl), (Nat.le_of_ble_eq_true rfl)⟩ (fun E9 w9 sz9 q => ?_) (fun r w1 sz1 _ hP => ?_)
  · obtain ⟨hE, hI9, hF9, hz9⟩ := q
    simp only [List.mem_cons, List.not_mem_nil, or_false] at hE
    rcases hE with rfl | rfl | rfl
    · refine x_catch "java/lang/IndexOutOfBoundsException" 17 [] ⟨0, 14, 17, 13⟩ [⟨0, 14, 21, 15⟩, ⟨0, 14, 25, 17⟩] C0 rfl (fun _ h => absurd h List.not_mem_nil) (by decide) (by decide) mK_L_13 (by decide +kernel) rfl (fun q9 => ?_)
      refine x_astore [(6, .ref q9), (0, .ref (g.2 0)), (1, .int a1), (2, .int a2), (3, .int a3), (4, .int a4), (5, .ref (g.2 0 + 267))] 19 C0 dL_fill_17 rfl (by decide) rfl ?_
      refine x_iconst (v := 1) 20 C0 dL_fill_19 rfl (by decide) ?_
      exact x_ireturn C0 dL_fill_20 rfl rfl (Nat.le_of_ble_eq_true rfl) (Nat.le_of_ble_eq_true rfl) ⟨⟨_, rfl⟩, hI9, hF9.wf, ⟨f, hF9.o hz hO⟩, hz9⟩
    · refine x_catch "java/lang/IllegalArgumentException" 21 [⟨0, 14, 17, 13⟩] ⟨0, 14, 21, 15⟩ [⟨0, 14, 25, 17⟩] C0 rfl (List.forall_mem_cons.mpr ⟨⟨by decide, _, mK_L_13, by decide +kernel⟩, (fun _ h => absurd h List.not_mem_nil)⟩) (by decide) (by decide) mK_L_15 (by decide +kernel) rfl (fun q9 => ?_)
      refine x_astore [(6, .ref q9), (0, .ref (g.2 0)), (1, .int a1), (2, .int a2), (3, .int a3), (4, .int a4), (5, .ref (g.2 0 + 267))] 23 C0 dL_fill_21 rfl (by decide) rfl ?_
      refine x_iconst (v := 2) 24 C0 dL_fill_23 rfl (by decide) ?_
      exact x_ireturn C0 dL_fill_24 rfl rfl (Nat.le_of_ble_eq_true rfl) (Nat.le_of_ble_eq_true rfl) ⟨⟨_, rfl⟩, hI9, hF9.wf, ⟨f, hF9.o hz hO⟩, hz9⟩
    · refine x_catch "java/lang/UnsupportedOperationException" 25 [⟨0, 14, 17, 13⟩, ⟨0, 14, 21, 15⟩] ⟨0, 14, 25, 17⟩ [] C0 rfl (List.forall_mem_cons.mpr ⟨⟨by decide, _, mK_L_13, by decide +kernel⟩, (List.forall_mem_cons.mpr ⟨⟨by decide, _, mK_L_15, by decide +kernel⟩, (fun _ h => absurd h List.not_mem_nil)⟩)⟩) (by decide) (by decide) mK_L_17 (by decide +kernel) rfl (fun q9 => ?_)
      refine x_astore [(6, .ref q9), (0, .ref (g.2 0)), (1, .int a1), (2, .int a2), (3, .int a3), (4, .int a4), (5, .ref (g.2 0 + 267))] 27 C0 dL_fill_25 rfl (by decide) rfl ?_
      refine x_iconst (v := 3) 28 C0 dL_fill_27 rfl (by decide) ?_
      exact x_ireturn C0 dL_fill_28 rfl rfl (Nat.le_of_ble_eq_true rfl) (Nat.le_of_ble_eq_true rfl) ⟨⟨_, rfl⟩, hI9, hF9.wf, ⟨f, hF9.o hz hO⟩, hz9⟩
  · obtain ⟨⟨v, rfl⟩, hI1, hF1, hz1⟩ := hP
    refine x_st (st1 := [.int (v), .int 0, .ref (g.2 0 + 267)]) rfl ?_
    refine x_i2l (v := Int32.toInt64 (v)) 13 C0 dL_fill_12 rfl rfl ?_
    refine x_last 3 14 C0 dL_fill_13 rfl (hF1.o hz hO) (by show g.2 0 ≤ _; omega) rfl (by unfold vp_in; decide) ?_
    refine x_goto 29 C0 dL_fill_14 (by decide) ?_
    refine x_iconst (v := 0) 30 C0 dL_fill_29 rfl (by decide) ?_
    exact x_ireturn C0 dL_fill_30 rfl rfl (Nat.le_of_ble_eq_true rfl) (Nat.le_of_ble_eq_true rfl) ⟨⟨_, rfl⟩, hI1.up ⟨by omega, by omega⟩, hF1.wup, ⟨_, xup_s _ _ _⟩, hz1⟩

set_option maxHeartbeats 4000000 in
set_option maxRecDepth 100000 in
theorem k_L_empty (l : Launch) (hl : l.stackTraces = false) (g : xg_T) (w : xw_T) (sz n : Nat) (hI : CI g w sz n) (hO : wO g w) (a1 : Int32) : xMH l g yL_empty cL_empty 4 (some .int) [((0), (9), (12), (13)), ((0), (9), (15), (17))] ({ frames := 8, cells := 8, slots := 64, locals := 127 }) 8 64 [.ref (g.2 0), .int a1, .ref (g.2 0 + 267)] w sz (wPo g w sz n) (fun _ _ _ => False) := by
  obtain ⟨x, la, t, tt, vb, sg, hC⟩ := hI
  obtain ⟨f, hO⟩ := hO
  have hz := hC.2.2.2.2
  refine xMH.of RL hl (by decide +kernel) rfl (Nat.le_of_ble_eq_true rfl) rfl ?_
  intro p e s m args below meth cD C0
  refine x_aload_n 2 1 C0 dL_empty_0 rfl rfl rfl ?_
  refine x_iconst (v := 0) 2 C0 dL_empty_1 rfl (by decide) ?_
  refine x_aload_n 0 3 C0 dL_empty_2 rfl rfl rfl ?_
  refine x_iload_n 1 4 C0 dL_empty_3 rfl rfl rfl ?_
  refine x_callV 7 C0 (k_X7_empty l hl g w sz n x la t tt vb sg hC a1) dL_empty_4 rfl mC_X7_empty mM_L_38 mI_X7_empty mV_X7_empty mN_X7 yd_X7_empty rfl rfl ⟨(Nat.le_of_ble_eq_true rfl), (Nat.le_of_ble_eq_true rfl)⟩ hC.1.1 rfl rfl rfl rfl (Nat.le_of_ble_eq_true rfl) ⟨(Nat.le_of_ble_eq_true rfl), (Nat.le_of_ble_eq_true rfl)⟩ (fun E9 w9 sz9 q => ?_) (fun r w1 sz1 _ hP => ?_)
  · obtain ⟨hE, hI9, hF9, hz9⟩ := q
    simp only [List.mem_cons, List.not_mem_nil, or_false] at hE
    rcases hE with rfl | rfl
    · refine x_catch "java/lang/IndexOutOfBoundsException" 12 [] ⟨0, 9, 12, 13⟩ [⟨0, 9, 15, 17⟩] C0 rfl (fun _ h => absurd h List.not_mem_nil) (by decide) (by decide) mK_L_13 (by decide +kernel) rfl (fun q9 => ?_)
      refine x_astore_n [(3, .ref q9), (0, .ref (g.2 0)), (1, .int a1), (2, .ref (g.2 0 + 267))] 13 C0 dL_empty_12 rfl rfl (by decide) rfl ?_
      refine x_iconst (v := 1) 14 C0 dL_empty_13 rfl (by decide) ?_
      exact x_ireturn C0 dL_empty_14 rfl rfl (Nat.le_of_ble_eq_true rfl) (Nat.le_of_ble_eq_true rfl) ⟨⟨_, rfl⟩, hI9, hF9.wf, ⟨f, hF9.o hz hO⟩, hz9⟩
    · refine x_catch "java/lang/UnsupportedOperationException" 15 [⟨0, 9, 12, 13⟩] ⟨0, 9, 15, 17⟩ [] C0 rfl (List.forall_mem_cons.mpr ⟨⟨by decide, _, mK_L_13, by decide +kernel⟩, (fun _ h => absurd h List.not_mem_nil)⟩) (by decide) (by decide) mK_L_17 (by decide +kernel) rfl (fun q9 => ?_)
      refine x_astore_n [(3, .ref q9), (0, .ref (g.2 0)), (1, .int a1), (2, .ref (g.2 0 + 267))] 16 C0 dL_empty_15 rfl rfl (by decide) rfl ?_
      refine x_iconst (v := 2) 17 C0 dL_empty_16 rfl (by decide) ?_
      exact x_ireturn C0 dL_empty_17 rfl rfl (Nat.le_of_ble_eq_true rfl) (Nat.le_of_ble_eq_true rfl) ⟨⟨_, rfl⟩, hI9, hF9.wf, ⟨f, hF9.o hz hO⟩, hz9⟩
  · obtain ⟨⟨v, rfl⟩, hI1, hF1, hz1⟩ := hP
    refine x_st (st1 := [.int (v), .int 0, .ref (g.2 0 + 267)]) rfl ?_
    refine x_i2l (v := Int32.toInt64 (v)) 8 C0 dL_empty_7 rfl rfl ?_
    refine x_last 3 9 C0 dL_empty_8 rfl (hF1.o hz hO) (by show g.2 0 ≤ _; omega) rfl (by unfold vp_in; decide) ?_
    refine x_goto 18 C0 dL_empty_9 (by decide) ?_
    refine x_iconst (v := 0) 19 C0 dL_empty_18 rfl (by decide) ?_
    exact x_ireturn C0 dL_empty_19 rfl rfl (Nat.le_of_ble_eq_true rfl) (Nat.le_of_ble_eq_true rfl) ⟨⟨_, rfl⟩, hI1.up ⟨by omega, by omega⟩, hF1.wup, ⟨_, xup_s _ _ _⟩, hz1⟩

set_option maxHeartbeats 4000000 in
set_option maxRecDepth 100000 in
theorem k_L_screw (l : Launch) (hl : l.stackTraces = false) (g : xg_T) (w : xw_T) (sz n : Nat) (hI : CI g w sz n) (hO : wO g w) (a1 : Int32) (a2 : Int32) : xMH l g yL_screw cL_screw 5 (some .int) [((0), (17), (20), (13)), ((0), (17), (24), (15)), ((0), (17), (28), (17))] ({ frames := 8, cells := 8, slots := 64, locals := 127 }) 8 64 [.ref (g.2 0), .int a1, .int a2, .ref (g.2 0 + 267)] w sz (wPo g w sz n) (fun _ _ _ => False) := by
  obtain ⟨x, la, t, tt, vb, sg, hC⟩ := hI
  obtain ⟨f, hO⟩ := hO
  have hz := hC.2.2.2.2
  refine xMH.of RL hl (by decide +kernel) rfl (Nat.le_of_ble_eq_true rfl) rfl ?_
  intro p e s m args below meth cD C0
  refine x_aload_n 3 1 C0 dL_screw_0 rfl rfl rfl ?_
  refine x_iconst (v := 0) 2 C0 dL_screw_1 rfl (by decide) ?_
  refine x_aload_n 0 3 C0 dL_screw_2 rfl rfl rfl ?_
  refine x_iload_n 1 4 C0 dL_screw_3 rfl rfl rfl ?_
  refine x_iload_n 2 5 C0 dL_screw_4 rfl rfl rfl ?_
  refine x_callV 8 C0 (k_X7_screw l hl g w sz n x la t tt vb sg hC a1 a2) dL_screw_5 rfl mC_X7_screw mM_L_41 mI_X7_screw mV_X7_screw mN_X7 yd_X7_screw rfl rfl ⟨(Nat.le_of_ble_eq_true rfl), (Nat.le_of_ble_eq_true rfl)⟩ hC.1.1 rfl rfl rfl rfl (Nat.le_of_ble_eq_true rfl) ⟨(Nat.le_of_ble_eq_true rfl), (Nat.le_of_ble_eq_true rfl)⟩ (fun E9 w9 sz9 q => ?_) (fun r w1 sz1 _ hP => ?_)
  · obtain ⟨hE, hI9, hF9, hz9⟩ := q
    simp only [List.mem_cons, List.not_mem_nil, or_false] at hE
    rcases hE with rfl | rfl | rfl
    · refine x_catch "java/lang/IndexOutOfBoundsException" 20 [] ⟨0, 17, 20, 13⟩ [⟨0, 17, 24, 15⟩, ⟨0, 17, 28, 17⟩] C0 rfl (fun _ h => absurd h List.not_mem_nil) (by decide) (by decide) mK_L_13 (by decide +kernel) rfl (fun q9 => ?_)
      refine x_astore [(4, .ref q9), (0, .ref (g.2 0)), (1, .int a1), (2, .int a2), (3, .ref (g.2 0 + 267))] 22 C0 dL_screw_20 rfl (by decide) rfl ?_
      refine x_iconst (v := 1) 23 C0 dL_screw_22 rfl (by decide) ?_
      exact x_ireturn C0 dL_screw_23 rfl rfl (Nat.le_of_ble_eq_true rfl) (Nat.le_of_ble_eq_true rfl) ⟨⟨_, rfl⟩, hI9, hF9.wf, ⟨f, hF9.o hz hO⟩, hz9⟩
    · refine x_catch "java/lang/IllegalArgumentException" 24 [⟨0, 17, 20, 13⟩] ⟨0, 17, 24, 15⟩ [⟨0, 17, 28, 17⟩] C0 rfl (List.forall_mem_cons.mpr ⟨⟨by decide, _, mK_L_13, by decide +kernel⟩, (fun _ h => absurd h List.not_mem_nil)⟩) (by decide) (by decide) mK_L_15 (by decide +kernel) rfl (fun q9 => ?_)
      refine x_astore [(4, .ref q9), (0, .ref (g.2 0)), (1, .int a1), (2, .int a2), (3, .ref (g.2 0 + 267))] 26 C0 dL_screw_24 rfl (by decide) rfl ?_
      refine x_iconst (v := 2) 27 C0 dL_screw_26 rfl (by decide) ?_
      exact x_ireturn C0 dL_screw_27 rfl rfl (Nat.le_of_ble_eq_true rfl) (Nat.le_of_ble_eq_true rfl) ⟨⟨_, rfl⟩, hI9, hF9.wf, ⟨f, hF9.o hz hO⟩, hz9⟩
    · refine x_catch "java/lang/UnsupportedOperationException" 28 [⟨0, 17, 20, 13⟩, ⟨0, 17, 24, 15⟩] ⟨0, 17, 28, 17⟩ [] C0 rfl (List.forall_mem_cons.mpr ⟨⟨by decide, _, mK_L_13, by decide +kernel⟩, (List.forall_mem_cons.mpr ⟨⟨by decide, _, mK_L_15, by decide +kernel⟩, (fun _ h => absurd h List.not_mem_nil)⟩)⟩) (by decide) (by decide) mK_L_17 (by decide +kernel) rfl (fun q9 => ?_)
      refine x_astore [(4, .ref q9), (0, .ref (g.2 0)), (1, .int a1), (2, .int a2), (3, .ref (g.2 0 + 267))] 30 C0 dL_screw_28 rfl (by decide) rfl ?_
      refine x_iconst (v := 3) 31 C0 dL_screw_30 rfl (by decide) ?_
      exact x_ireturn C0 dL_screw_31 rfl rfl (Nat.le_of_ble_eq_true rfl) (Nat.le_of_ble_eq_true rfl) ⟨⟨_, rfl⟩, hI9, hF9.wf, ⟨f, hF9.o hz hO⟩, hz9⟩
  · obtain ⟨⟨v, rfl⟩, hI1, hF1, hz1⟩ := hP
    refine x_st (st1 := [.int (v), .int 0, .ref (g.2 0 + 267)]) rfl ?_
    refine x_if_eq 15 11 C0 dL_screw_8 rfl (by decide) (fun _ => ?_) (fun _ => ?_)
    · refine x_lconst (v := 0) 16 C0 dL_screw_15 rfl (by decide) ?_
      refine x_last 3 17 C0 dL_screw_16 rfl (hF1.o hz hO) (by show g.2 0 ≤ _; omega) rfl (by unfold vp_in; decide) ?_
      refine x_goto 32 C0 dL_screw_17 (by decide) ?_
      refine x_iconst (v := 0) 33 C0 dL_screw_32 rfl (by decide) ?_
      exact x_ireturn C0 dL_screw_33 rfl rfl (Nat.le_of_ble_eq_true rfl) (Nat.le_of_ble_eq_true rfl) ⟨⟨_, rfl⟩, hI1.up ⟨by omega, by omega⟩, hF1.wup, ⟨_, xup_s _ _ _⟩, hz1⟩
    · refine x_lconst (v := 1) 12 C0 dL_screw_11 rfl (by decide) ?_
      refine x_goto 16 C0 dL_screw_12 (by decide) ?_
      refine x_last 3 17 C0 dL_screw_16 rfl (hF1.o hz hO) (by show g.2 0 ≤ _; omega) rfl (by unfold vp_in; decide) ?_
      refine x_goto 32 C0 dL_screw_17 (by decide) ?_
      refine x_iconst (v := 0) 33 C0 dL_screw_32 rfl (by decide) ?_
      exact x_ireturn C0 dL_screw_33 rfl rfl (Nat.le_of_ble_eq_true rfl) (Nat.le_of_ble_eq_true rfl) ⟨⟨_, rfl⟩, hI1.up ⟨by omega, by omega⟩, hF1.wup, ⟨_, xup_s _ _ _⟩, hz1⟩

set_option maxHeartbeats 4000000 in
set_option maxRecDepth 100000 in
theorem k_L_unscrew (l : Launch) (hl : l.stackTraces = false) (g : xg_T) (w : xw_T) (sz n : Nat) (hI : CI g w sz n) (hO : wO g w) (a1 : Int32) : xMH l g yL_unscrew cL_unscrew 4 (some .int) [((0), (9), (12), (13)), ((0), (9), (15), (17))] ({ frames := 8, cells := 8, slots := 64, locals := 127 }) 8 64 [.ref (g.2 0), .int a1, .ref (g.2 0 + 267)] w sz (wPo g w sz n) (fun _ _ _ => False) := by
  obtain ⟨x, la, t, tt, vb, sg, hC⟩ := hI
  obtain ⟨f, hO⟩ := hO
  have hz := hC.2.2.2.2
  refine xMH.of RL hl (by decide +kernel) rfl (Nat.le_of_ble_eq_true rfl) rfl ?_
  intro p e s m args below meth cD C0
  refine x_aload_n 2 1 C0 dL_unscrew_0 rfl rfl rfl ?_
  refine x_iconst (v := 0) 2 C0 dL_unscrew_1 rfl (by decide) ?_
  refine x_aload_n 0 3 C0 dL_unscrew_2 rfl rfl rfl ?_
  refine x_iload_n 1 4 C0 dL_unscrew_3 rfl rfl rfl ?_
  refine x_callV 7 C0 (k_X7_unscrew l hl g w sz n x la t tt vb sg hC a1) dL_unscrew_4 rfl mC_X7_unscrew mM_L_45 mI_X7_unscrew mV_X7_unscrew mN_X7 yd_X7_unscrew rfl rfl ⟨(Nat.le_of_ble_eq_true rfl), (Nat.le_of_ble_eq_true rfl)⟩ hC.1.1 rfl rfl rfl rfl (Nat.le_of_ble_eq_true rfl) ⟨(Nat.le_of_ble_eq_true rfl), (Nat.le_of_ble_eq_true rfl)⟩ (fun E9 w9 sz9 q => ?_) (fun r w1 sz1 _ hP => ?_)
  · obtain ⟨hE, hI9, hF9, hz9⟩ := q
    simp only [List.mem_cons, List.not_mem_nil, or_false] at hE
    rcases hE with rfl | rfl
    · refine x_catch "java/lang/IndexOutOfBoundsException" 12 [] ⟨0, 9, 12, 13⟩ [⟨0, 9, 15, 17⟩] C0 rfl (fun _ h => absurd h List.not_mem_nil) (by decide) (by decide) mK_L_13 (by decide +kernel) rfl (fun q9 => ?_)
      refine x_astore_n [(3, .ref q9), (0, .ref (g.2 0)), (1, .int a1), (2, .ref (g.2 0 + 267))] 13 C0 dL_unscrew_12 rfl rfl (by decide) rfl ?_
      refine x_iconst (v := 1) 14 C0 dL_unscrew_13 rfl (by decide) ?_
      exact x_ireturn C0 dL_unscrew_14 rfl rfl (Nat.le_of_ble_eq_true rfl) (Nat.le_of_ble_eq_true rfl) ⟨⟨_, rfl⟩, hI9, hF9.wf, ⟨f, hF9.o hz hO⟩, hz9⟩
    · refine x_catch "java/lang/UnsupportedOperationException" 15 [⟨0, 9, 12, 13⟩] ⟨0, 9, 15, 17⟩ [] C0 rfl (List.forall_mem_cons.mpr ⟨⟨by decide, _, mK_L_13, by decide +kernel⟩, (fun _ h => absurd h List.not_mem_nil)⟩) (by decide) (by decide) mK_L_17 (by decide +kernel) rfl (fun q9 => ?_)
      refine x_astore_n [(3, .ref q9), (0, .ref (g.2 0)), (1, .int a1), (2, .ref (g.2 0 + 267))] 16 C0 dL_unscrew_15 rfl rfl (by decide) rfl ?_
      refine x_iconst (v := 2) 17 C0 dL_unscrew_16 rfl (by decide) ?_
      exact x_ireturn C0 dL_unscrew_17 rfl rfl (Nat.le_of_ble_eq_true rfl) (Nat.le_of_ble_eq_true rfl) ⟨⟨_, rfl⟩, hI9, hF9.wf, ⟨f, hF9.o hz hO⟩, hz9⟩
  · obtain ⟨⟨v, rfl⟩, hI1, hF1, hz1⟩ := hP
    refine x_st (st1 := [.int (v), .int 0, .ref (g.2 0 + 267)]) rfl ?_
    refine x_i2l (v := Int32.toInt64 (v)) 8 C0 dL_unscrew_7 rfl rfl ?_
    refine x_last 3 9 C0 dL_unscrew_8 rfl (hF1.o hz hO) (by show g.2 0 ≤ _; omega) rfl (by unfold vp_in; decide) ?_
    refine x_goto 18 C0 dL_unscrew_9 (by decide) ?_
    refine x_iconst (v := 0) 19 C0 dL_unscrew_18 rfl (by decide) ?_
    exact x_ireturn C0 dL_unscrew_19 rfl rfl (Nat.le_of_ble_eq_true rfl) (Nat.le_of_ble_eq_true rfl) ⟨⟨_, rfl⟩, hI1.up ⟨by omega, by omega⟩, hF1.wup, ⟨_, xup_s _ _ _⟩, hz1⟩

set_option maxHeartbeats 4000000 in
set_option maxRecDepth 100000 in
theorem k_L_label (l : Launch) (hl : l.stackTraces = false) (g : xg_T) (w : xw_T) (sz n : Nat) (hI : CI g w sz n) (hO : wO g w) (a1 : Int32) : xMH l g yL_label cL_label 4 (some .int) [((0), (9), (12), (13)), ((0), (9), (15), (17))] ({ frames := 9, cells := 8, slots := 64, locals := 215 }) 8 64 [.ref (g.2 0), .int a1, .ref (g.2 0 + 267)] w sz (wPo g w sz n) (fun _ _ _ => False) := by
  obtain ⟨x, la, t, tt, vb, sg, hC⟩ := hI
  obtain ⟨f, hO⟩ := hO
  have hz := hC.2.2.2.2
  refine xMH.of RL hl (by decide +kernel) rfl (Nat.le_of_ble_eq_true rfl) rfl ?_
  intro p e s m args below meth cD C0
  refine x_aload_n 2 1 C0 dL_label_0 rfl rfl rfl ?_
  refine x_iconst (v := 0) 2 C0 dL_label_1 rfl (by decide) ?_
  refine x_aload_n 0 3 C0 dL_label_2 rfl rfl rfl ?_
  refine x_iload_n 1 4 C0 dL_label_3 rfl rfl rfl ?_
  refine x_callV 7 C0 (k_X7_label l hl g w sz n x la t tt vb sg hC a1) dL_label_4 rfl mC_X7_label mM_L_48 mI_X7_label mV_X7_label mN_X7 yd_X7_label rfl rfl ⟨(Nat.le_of_ble_eq_true rfl), (Nat.le_of_ble_eq_true rfl)⟩ hC.1.1 rfl rfl rfl rfl (Nat.le_of_ble_eq_true rfl) ⟨(Nat.le_of_ble_eq_true rfl), (Nat.le_of_ble_eq_true rfl)⟩ (fun E9 w9 sz9 q => ?_) (fun r w1 sz1 _ hP => ?_)
  · obtain ⟨hE, hI9, hF9, hz9⟩ := q
    simp only [List.mem_cons, List.not_mem_nil, or_false] at hE
    rcases hE with rfl | rfl
    · refine x_catch "java/lang/IndexOutOfBoundsException" 12 [] ⟨0, 9, 12, 13⟩ [⟨0, 9, 15, 17⟩] C0 rfl (fun _ h => absurd h List.not_mem_nil) (by decide) (by decide) mK_L_13 (by decide +kernel) rfl (fun q9 => ?_)
      refine x_astore_n [(3, .ref q9), (0, .ref (g.2 0)), (1, .int a1), (2, .ref (g.2 0 + 267))] 13 C0 dL_label_12 rfl rfl (by decide) rfl ?_
      refine x_iconst (v := 1) 14 C0 dL_label_13 rfl (by decide) ?_
      exact x_ireturn C0 dL_label_14 rfl rfl (Nat.le_of_ble_eq_true rfl) (Nat.le_of_ble_eq_true rfl) ⟨⟨_, rfl⟩, hI9, hF9.wf, ⟨f, hF9.o hz hO⟩, hz9⟩
    · refine x_catch "java/lang/UnsupportedOperationException" 15 [⟨0, 9, 12, 13⟩] ⟨0, 9, 15, 17⟩ [] C0 rfl (List.forall_mem_cons.mpr ⟨⟨by decide, _, mK_L_13, by decide +kernel⟩, (fun _ h => absurd h List.not_mem_nil)⟩) (by decide) (by decide) mK_L_17 (by decide +kernel) rfl (fun q9 => ?_)
      refine x_astore_n [(3, .ref q9), (0, .ref (g.2 0)), (1, .int a1), (2, .ref (g.2 0 + 267))] 16 C0 dL_label_15 rfl rfl (by decide) rfl ?_
      refine x_iconst (v := 2) 17 C0 dL_label_16 rfl (by decide) ?_
      exact x_ireturn C0 dL_label_17 rfl rfl (Nat.le_of_ble_eq_true rfl) (Nat.le_of_ble_eq_true rfl) ⟨⟨_, rfl⟩, hI9, hF9.wf, ⟨f, hF9.o hz hO⟩, hz9⟩
  · obtain ⟨⟨v, rfl⟩, hI1, hF1, hz1⟩ := hP
    refine x_st (st1 := [.int (v), .int 0, .ref (g.2 0 + 267)]) rfl ?_
    refine x_i2l (v := Int32.toInt64 (v)) 8 C0 dL_label_7 rfl rfl ?_
    refine x_last 3 9 C0 dL_label_8 rfl (hF1.o hz hO) (by show g.2 0 ≤ _; omega) rfl (by unfold vp_in; decide) ?_
    refine x_goto 18 C0 dL_label_9 (by decide) ?_
    refine x_iconst (v := 0) 19 C0 dL_label_18 rfl (by decide) ?_
    exact x_ireturn C0 dL_label_19 rfl rfl (Nat.le_of_ble_eq_true rfl) (Nat.le_of_ble_eq_true rfl) ⟨⟨_, rfl⟩, hI1.up ⟨by omega, by omega⟩, hF1.wup, ⟨_, xup_s _ _ _⟩, hz1⟩

set_option maxHeartbeats 4000000 in
set_option maxRecDepth 100000 in
theorem k_L_labelled (l : Launch) (hl : l.stackTraces = false) (g : xg_T) (w : xw_T) (sz n : Nat) (hI : CI g w sz n) (hO : wO g w) (a1 : Int32) (a2 : Int32) : xMH l g yL_labelled cL_labelled 5 (some .int) [((0), (10), (13), (13)), ((0), (10), (17), (55))] ({ frames := 8, cells := 8, slots := 64, locals := 127 }) 8 64 [.ref (g.2 0), .int a1, .int a2, .ref (g.2 0 + 267)] w sz (wPo g w sz n) (fun _ _ _ => False) := by
  obtain ⟨x, la, t, tt, vb, sg, hC⟩ := hI
  obtain ⟨f, hO⟩ := hO
  have hz := hC.2.2.2.2
  refine xMH.of RL hl (by decide +kernel) rfl (Nat.le_of_ble_eq_true rfl) rfl ?_
  intro p e s m args below meth cD C0
  refine x_aload_n 3 1 C0 dL_labelled_0 rfl rfl rfl ?_
  refine x_iconst (v := 0) 2 C0 dL_labelled_1 rfl (by decide) ?_
  refine x_aload_n 0 3 C0 dL_labelled_2 rfl rfl rfl ?_
  refine x_iload_n 1 4 C0 dL_labelled_3 rfl rfl rfl ?_
  refine x_iload_n 2 5 C0 dL_labelled_4 rfl rfl rfl ?_
  refine x_callV 8 C0 (k_X7_labelled l hl g w sz n x la t tt vb sg hC a1 a2) dL_labelled_5 rfl mC_X7_labelled mM_L_51 mI_X7_labelled mV_X7_labelled mN_X7 yd_X7_labelled rfl rfl ⟨(Nat.le_of_ble_eq_true rfl), (Nat.le_of_ble_eq_true rfl)⟩ hC.1.1 rfl rfl rfl rfl (Nat.le_of_ble_eq_true rfl) ⟨(Nat.le_of_ble_eq_true rfl), (Nat.le_of_ble_eq_true rfl)⟩ (fun E9 w9 sz9 q => ?_) (fun r w1 sz1 _ hP => ?_)
  · obtain ⟨hE, hI9, hF9, hz9⟩ := q
    simp only [List.mem_cons, List.not_mem_nil, or_false] at hE
    rcases hE with rfl | rfl
    · refine x_catch "java/lang/IndexOutOfBoundsException" 13 [] ⟨0, 10, 13, 13⟩ [⟨0, 10, 17, 55⟩] C0 rfl (fun _ h => absurd h List.not_mem_nil) (by decide) (by decide) mK_L_13 (by decide +kernel) rfl (fun q9 => ?_)
      refine x_astore [(4, .ref q9), (0, .ref (g.2 0)), (1, .int a1), (2, .int a2), (3, .ref (g.2 0 + 267))] 15 C0 dL_labelled_13 rfl (by decide) rfl ?_
      refine x_iconst (v := 1) 16 C0 dL_labelled_15 rfl (by decide) ?_
      exact x_ireturn C0 dL_labelled_16 rfl rfl (Nat.le_of_ble_eq_true rfl) (Nat.le_of_ble_eq_true rfl) ⟨⟨_, rfl⟩, hI9, hF9.wf, ⟨f, hF9.o hz hO⟩, hz9⟩
    · refine x_catch "java/util/NoSuchElementException" 17 [⟨0, 10, 13, 13⟩] ⟨0, 10, 17, 55⟩ [] C0 rfl (List.forall_mem_cons.mpr ⟨⟨by decide, _, mK_L_13, by decide +kernel⟩, (fun _ h => absurd h List.not_mem_nil)⟩) (by decide) (by decide) mK_L_55 (by decide +kernel) rfl (fun q9 => ?_)
      refine x_astore [(4, .ref q9), (0, .ref (g.2 0)), (1, .int a1), (2, .int a2), (3, .ref (g.2 0 + 267))] 19 C0 dL_labelled_17 rfl (by decide) rfl ?_
      refine x_iconst (v := 2) 20 C0 dL_labelled_19 rfl (by decide) ?_
      exact x_ireturn C0 dL_labelled_20 rfl rfl (Nat.le_of_ble_eq_true rfl) (Nat.le_of_ble_eq_true rfl) ⟨⟨_, rfl⟩, hI9, hF9.wf, ⟨f, hF9.o hz hO⟩, hz9⟩
  · obtain ⟨⟨v, rfl⟩, hI1, hF1, hz1⟩ := hP
    refine x_st (st1 := [.int (v), .int 0, .ref (g.2 0 + 267)]) rfl ?_
    refine x_i2l (v := Int32.toInt64 (v)) 9 C0 dL_labelled_8 rfl rfl ?_
    refine x_last 3 10 C0 dL_labelled_9 rfl (hF1.o hz hO) (by show g.2 0 ≤ _; omega) rfl (by unfold vp_in; decide) ?_
    refine x_goto 21 C0 dL_labelled_10 (by decide) ?_
    refine x_iconst (v := 0) 22 C0 dL_labelled_21 rfl (by decide) ?_
    exact x_ireturn C0 dL_labelled_22 rfl rfl (Nat.le_of_ble_eq_true rfl) (Nat.le_of_ble_eq_true rfl) ⟨⟨_, rfl⟩, hI1.up ⟨by omega, by omega⟩, hF1.wup, ⟨_, xup_s _ _ _⟩, hz1⟩

set_option maxHeartbeats 4000000 in
set_option maxRecDepth 100000 in
theorem k_L_chest (l : Launch) (hl : l.stackTraces = false) (g : xg_T) (w : xw_T) (sz n : Nat) (hI : CI g w sz n) (hO : wO g w) (a1 : Int32) (a2 : Int32) : xMH l g yL_chest cL_chest 5 (some .int) [((0), (10), (13), (13)), ((0), (10), (17), (15))] ({ frames := 8, cells := 8, slots := 64, locals := 127 }) 8 64 [.ref (g.2 0), .int a1, .int a2, .ref (g.2 0 + 267)] w sz (wPo g w sz n) (fun _ _ _ => False) := by
  obtain ⟨x, la, t, tt, vb, sg, hC⟩ := hI
  obtain ⟨f, hO⟩ := hO
  have hz := hC.2.2.2.2
  refine xMH.of RL hl (by decide +kernel) rfl (Nat.le_of_ble_eq_true rfl) rfl ?_
  intro p e s m args below meth cD C0
  refine x_aload_n 3 1 C0 dL_chest_0 rfl rfl rfl ?_
  refine x_iconst (v := 0) 2 C0 dL_chest_1 rfl (by decide) ?_
  refine x_aload_n 0 3 C0 dL_chest_2 rfl rfl rfl ?_
  refine x_iload_n 1 4 C0 dL_chest_3 rfl rfl rfl ?_
  refine x_iload_n 2 5 C0 dL_chest_4 rfl rfl rfl ?_
  refine x_callV 8 C0 (k_X7_chest l hl g w sz n x la t tt vb sg hC a1 a2) dL_chest_5 rfl mC_X7_chest mM_L_57 mI_X7_chest mV_X7_chest mN_X7 yd_X7_chest rfl rfl ⟨(Nat.le_of_ble_eq_true rfl), (Nat.le_of_ble_eq_true rfl)⟩ hC.1.1 rfl rfl rfl rfl (Nat.le_of_ble_eq_true rfl) ⟨(Nat.le_of_ble_eq_true rfl), (Nat.le_of_ble_eq_true rfl)⟩ (fun E9 w9 sz9 q => ?_) (fun r w1 sz1 _ hP => ?_)
  · obtain ⟨hE, hI9, hF9, hz9⟩ := q
    simp only [List.mem_cons, List.not_mem_nil, or_false] at hE
    rcases hE with rfl | rfl
    · refine x_catch "java/lang/IndexOutOfBoundsException" 13 [] ⟨0, 10, 13, 13⟩ [⟨0, 10, 17, 15⟩] C0 rfl (fun _ h => absurd h List.not_mem_nil) (by decide) (by decide) mK_L_13 (by decide +kernel) rfl (fun q9 => ?_)
      refine x_astore [(4, .ref q9), (0, .ref (g.2 0)), (1, .int a1), (2, .int a2), (3, .ref (g.2 0 + 267))] 15 C0 dL_chest_13 rfl (by decide) rfl ?_
      refine x_iconst (v := 1) 16 C0 dL_chest_15 rfl (by decide) ?_
      exact x_ireturn C0 dL_chest_16 rfl rfl (Nat.le_of_ble_eq_true rfl) (Nat.le_of_ble_eq_true rfl) ⟨⟨_, rfl⟩, hI9, hF9.wf, ⟨f, hF9.o hz hO⟩, hz9⟩
    · refine x_catch "java/lang/IllegalArgumentException" 17 [⟨0, 10, 13, 13⟩] ⟨0, 10, 17, 15⟩ [] C0 rfl (List.forall_mem_cons.mpr ⟨⟨by decide, _, mK_L_13, by decide +kernel⟩, (fun _ h => absurd h List.not_mem_nil)⟩) (by decide) (by decide) mK_L_15 (by decide +kernel) rfl (fun q9 => ?_)
      refine x_astore [(4, .ref q9), (0, .ref (g.2 0)), (1, .int a1), (2, .int a2), (3, .ref (g.2 0 + 267))] 19 C0 dL_chest_17 rfl (by decide) rfl ?_
      refine x_iconst (v := 2) 20 C0 dL_chest_19 rfl (by decide) ?_
      exact x_ireturn C0 dL_chest_20 rfl rfl (Nat.le_of_ble_eq_true rfl) (Nat.le_of_ble_eq_true rfl) ⟨⟨_, rfl⟩, hI9, hF9.wf, ⟨f, hF9.o hz hO⟩, hz9⟩
  · obtain ⟨⟨v, rfl⟩, hI1, hF1, hz1⟩ := hP
    refine x_st (st1 := [.int (v), .int 0, .ref (g.2 0 + 267)]) rfl ?_
    refine x_i2l (v := Int32.toInt64 (v)) 9 C0 dL_chest_8 rfl rfl ?_
    refine x_last 3 10 C0 dL_chest_9 rfl (hF1.o hz hO) (by show g.2 0 ≤ _; omega) rfl (by unfold vp_in; decide) ?_
    refine x_goto 21 C0 dL_chest_10 (by decide) ?_
    refine x_iconst (v := 0) 22 C0 dL_chest_21 rfl (by decide) ?_
    exact x_ireturn C0 dL_chest_22 rfl rfl (Nat.le_of_ble_eq_true rfl) (Nat.le_of_ble_eq_true rfl) ⟨⟨_, rfl⟩, hI1.up ⟨by omega, by omega⟩, hF1.wup, ⟨_, xup_s _ _ _⟩, hz1⟩

set_option maxHeartbeats 4000000 in
set_option maxRecDepth 100000 in
theorem k_L_worth (l : Launch) (hl : l.stackTraces = false) (g : xg_T) (w : xw_T) (sz n : Nat) (hI : CI g w sz n) (hO : wO g w) (a1 : Int32) : xMH l g yL_worth cL_worth 4 (some .int) [((0), (9), (12), (13))] ({ frames := 8, cells := 8, slots := 64, locals := 125 }) 8 64 [.ref (g.2 0), .int a1, .ref (g.2 0 + 267)] w sz (wPo g w sz n) (fun _ _ _ => False) := by
  obtain ⟨x, la, t, tt, vb, sg, hC⟩ := hI
  obtain ⟨f, hO⟩ := hO
  have hz := hC.2.2.2.2
  refine xMH.of RL hl (by decide +kernel) rfl (Nat.le_of_ble_eq_true rfl) rfl ?_
  intro p e s m args below meth cD C0
  refine x_aload_n 2 1 C0 dL_worth_0 rfl rfl rfl ?_
  refine x_iconst (v := 0) 2 C0 dL_worth_1 rfl (by decide) ?_
  refine x_aload_n 0 3 C0 dL_worth_2 rfl rfl rfl ?_
  refine x_iload_n 1 4 C0 dL_worth_3 rfl rfl rfl ?_
  refine x_callV 7 C0 (k_X7_worth l hl g w sz n x la t tt vb sg hC a1) dL_worth_4 rfl mC_X7_worth mM_L_60 mI_X7_worth mV_X7_worth mN_X7 yd_X7_worth rfl rfl ⟨(Nat.le_of_ble_eq_true rfl), (Nat.le_of_ble_eq_true rfl)⟩ hC.1.1 rfl rfl rfl rfl (Nat.le_of_ble_eq_true rfl) ⟨(Nat.le_of_ble_eq_true rfl), (Nat.le_of_ble_eq_true rfl)⟩ (fun E9 w9 sz9 q => ?_) (fun r w1 sz1 _ hP => ?_)
  · obtain ⟨hE, hI9, hF9, hz9⟩ := q
    obtain rfl := List.mem_singleton.mp hE
    refine x_catch "java/lang/IndexOutOfBoundsException" 12 [] ⟨0, 9, 12, 13⟩ [] C0 rfl (fun _ h => absurd h List.not_mem_nil) (by decide) (by decide) mK_L_13 (by decide +kernel) rfl (fun q9 => ?_)
    refine x_astore_n [(3, .ref q9), (0, .ref (g.2 0)), (1, .int a1), (2, .ref (g.2 0 + 267))] 13 C0 dL_worth_12 rfl rfl (by decide) rfl ?_
    refine x_iconst (v := 1) 14 C0 dL_worth_13 rfl (by decide) ?_
    exact x_ireturn C0 dL_worth_14 rfl rfl (Nat.le_of_ble_eq_true rfl) (Nat.le_of_ble_eq_true rfl) ⟨⟨_, rfl⟩, hI9, hF9.wf, ⟨f, hF9.o hz hO⟩, hz9⟩
  · obtain ⟨⟨v, rfl⟩, hI1, hF1, hz1⟩ := hP
    refine x_st (st1 := [.int (v), .int 0, .ref (g.2 0 + 267)]) rfl ?_
    refine x_i2l (v := Int32.toInt64 (v)) 8 C0 dL_worth_7 rfl rfl ?_
    refine x_last 3 9 C0 dL_worth_8 rfl (hF1.o hz hO) (by show g.2 0 ≤ _; omega) rfl (by unfold vp_in; decide) ?_
    refine x_goto 15 C0 dL_worth_9 (by decide) ?_
    refine x_iconst (v := 0) 16 C0 dL_worth_15 rfl (by decide) ?_
    exact x_ireturn C0 dL_worth_16 rfl rfl (Nat.le_of_ble_eq_true rfl) (Nat.le_of_ble_eq_true rfl) ⟨⟨_, rfl⟩, hI1.up ⟨by omega, by omega⟩, hF1.wup, ⟨_, xup_s _ _ _⟩, hz1⟩

set_option maxHeartbeats 4000000 in
set_option maxRecDepth 100000 in
theorem k_L_ranked (l : Launch) (hl : l.stackTraces = false) (g : xg_T) (w : xw_T) (sz n : Nat) (hI : CI g w sz n) (hO : wO g w) (a1 : Int32) : xMH l g yL_ranked cL_ranked 4 (some .int) [((0), (9), (12), (55))] ({ frames := 7, cells := 8, slots := 64, locals := 114 }) 8 64 [.ref (g.2 0), .int a1, .ref (g.2 0 + 267)] w sz (wPo g w sz n) (fun _ _ _ => False) := by
  obtain ⟨x, la, t, tt, vb, sg, hC⟩ := hI
  obtain ⟨f, hO⟩ := hO
  have hz := hC.2.2.2.2
  refine xMH.of RL hl (by decide +kernel) rfl (Nat.le_of_ble_eq_true rfl) rfl ?_
  intro p e s m args below meth cD C0
  refine x_aload_n 2 1 C0 dL_ranked_0 rfl rfl rfl ?_
  refine x_iconst (v := 0) 2 C0 dL_ranked_1 rfl (by decide) ?_
  refine x_aload_n 0 3 C0 dL_ranked_2 rfl rfl rfl ?_
  refine x_iload_n 1 4 C0 dL_ranked_3 rfl rfl rfl ?_
  refine x_callV 7 C0 (k_X7_ranked l hl g w sz n x la t tt vb sg hC a1) dL_ranked_4 rfl mC_X7_ranked mM_L_63 mI_X7_ranked mV_X7_ranked mN_X7 yd_X7_ranked rfl rfl ⟨(Nat.le_of_ble_eq_true rfl), (Nat.le_of_ble_eq_true rfl)⟩ hC.1.1 rfl rfl rfl rfl (Nat.le_of_ble_eq_true rfl) ⟨(Nat.le_of_ble_eq_true rfl), (Nat.le_of_ble_eq_true rfl)⟩ (fun E9 w9 sz9 q => ?_) (fun r w1 sz1 _ hP => ?_)
  · obtain ⟨hE, hI9, hF9, hz9⟩ := q
    obtain rfl := List.mem_singleton.mp hE
    refine x_catch "java/util/NoSuchElementException" 12 [] ⟨0, 9, 12, 55⟩ [] C0 rfl (fun _ h => absurd h List.not_mem_nil) (by decide) (by decide) mK_L_55 (by decide +kernel) rfl (fun q9 => ?_)
    refine x_astore_n [(3, .ref q9), (0, .ref (g.2 0)), (1, .int a1), (2, .ref (g.2 0 + 267))] 13 C0 dL_ranked_12 rfl rfl (by decide) rfl ?_
    refine x_iconst (v := 1) 14 C0 dL_ranked_13 rfl (by decide) ?_
    exact x_ireturn C0 dL_ranked_14 rfl rfl (Nat.le_of_ble_eq_true rfl) (Nat.le_of_ble_eq_true rfl) ⟨⟨_, rfl⟩, hI9, hF9.wf, ⟨f, hF9.o hz hO⟩, hz9⟩
  · obtain ⟨⟨v, rfl⟩, hI1, hF1, hz1⟩ := hP
    refine x_st (st1 := [.int (v), .int 0, .ref (g.2 0 + 267)]) rfl ?_
    refine x_i2l (v := Int32.toInt64 (v)) 8 C0 dL_ranked_7 rfl rfl ?_
    refine x_last 3 9 C0 dL_ranked_8 rfl (hF1.o hz hO) (by show g.2 0 ≤ _; omega) rfl (by unfold vp_in; decide) ?_
    refine x_goto 15 C0 dL_ranked_9 (by decide) ?_
    refine x_iconst (v := 0) 16 C0 dL_ranked_15 rfl (by decide) ?_
    exact x_ireturn C0 dL_ranked_16 rfl rfl (Nat.le_of_ble_eq_true rfl) (Nat.le_of_ble_eq_true rfl) ⟨⟨_, rfl⟩, hI1.up ⟨by omega, by omega⟩, hF1.wup, ⟨_, xup_s _ _ _⟩, hz1⟩

set_option maxHeartbeats 4000000 in
set_option maxRecDepth 100000 in
theorem k_L_toQuay (l : Launch) (hl : l.stackTraces = false) (g : xg_T) (w : xw_T) (sz n : Nat) (hI : CI g w sz n) (hO : wO g w) (a1 : Int32) : xMH l g yL_toQuay cL_toQuay 4 (some .int) [((0), (9), (12), (13)), ((0), (9), (15), (17))] ({ frames := 8, cells := 8, slots := 64, locals := 126 }) 8 64 [.ref (g.2 0), .int a1, .ref (g.2 0 + 267)] w sz (wPo g w sz n) (fun _ _ _ => False) := by
  obtain ⟨x, la, t, tt, vb, sg, hC⟩ := hI
  obtain ⟨f, hO⟩ := hO
  have hz := hC.2.2.2.2
  refine xMH.of RL hl (by decide +kernel) rfl (Nat.le_of_ble_eq_true rfl) rfl ?_
  intro p e s m args below meth cD C0
  refine x_aload_n 2 1 C0 dL_toQuay_0 rfl rfl rfl ?_
  refine x_iconst (v := 0) 2 C0 dL_toQuay_1 rfl (by decide) ?_
  refine x_aload_n 0 3 C0 dL_toQuay_2 rfl rfl rfl ?_
  refine x_iload_n 1 4 C0 dL_toQuay_3 rfl rfl rfl ?_
  refine x_callV 7 C0 (k_X7_toQuay l hl g w sz n x la t tt vb sg hC a1) dL_toQuay_4 rfl mC_X7_toQuay mM_L_66 mI_X7_toQuay mV_X7_toQuay mN_X7 yd_X7_toQuay rfl rfl ⟨(Nat.le_of_ble_eq_true rfl), (Nat.le_of_ble_eq_true rfl)⟩ hC.1.1 rfl rfl rfl rfl (Nat.le_of_ble_eq_true rfl) ⟨(Nat.le_of_ble_eq_true rfl), (Nat.le_of_ble_eq_true rfl)⟩ (fun E9 w9 sz9 q => ?_) (fun r w1 sz1 _ hP => ?_)
  · obtain ⟨hE, hI9, hF9, hz9⟩ := q
    simp only [List.mem_cons, List.not_mem_nil, or_false] at hE
    rcases hE with rfl | rfl
    · refine x_catch "java/lang/IndexOutOfBoundsException" 12 [] ⟨0, 9, 12, 13⟩ [⟨0, 9, 15, 17⟩] C0 rfl (fun _ h => absurd h List.not_mem_nil) (by decide) (by decide) mK_L_13 (by decide +kernel) rfl (fun q9 => ?_)
      refine x_astore_n [(3, .ref q9), (0, .ref (g.2 0)), (1, .int a1), (2, .ref (g.2 0 + 267))] 13 C0 dL_toQuay_12 rfl rfl (by decide) rfl ?_
      refine x_iconst (v := 1) 14 C0 dL_toQuay_13 rfl (by decide) ?_
      exact x_ireturn C0 dL_toQuay_14 rfl rfl (Nat.le_of_ble_eq_true rfl) (Nat.le_of_ble_eq_true rfl) ⟨⟨_, rfl⟩, hI9, hF9.wf, ⟨f, hF9.o hz hO⟩, hz9⟩
    · refine x_catch "java/lang/UnsupportedOperationException" 15 [⟨0, 9, 12, 13⟩] ⟨0, 9, 15, 17⟩ [] C0 rfl (List.forall_mem_cons.mpr ⟨⟨by decide, _, mK_L_13, by decide +kernel⟩, (fun _ h => absurd h List.not_mem_nil)⟩) (by decide) (by decide) mK_L_17 (by decide +kernel) rfl (fun q9 => ?_)
      refine x_astore_n [(3, .ref q9), (0, .ref (g.2 0)), (1, .int a1), (2, .ref (g.2 0 + 267))] 16 C0 dL_toQuay_15 rfl rfl (by decide) rfl ?_
      refine x_iconst (v := 2) 17 C0 dL_toQuay_16 rfl (by decide) ?_
      exact x_ireturn C0 dL_toQuay_17 rfl rfl (Nat.le_of_ble_eq_true rfl) (Nat.le_of_ble_eq_true rfl) ⟨⟨_, rfl⟩, hI9, hF9.wf, ⟨f, hF9.o hz hO⟩, hz9⟩
  · obtain ⟨⟨v, rfl⟩, hI1, hF1, hz1⟩ := hP
    refine x_st (st1 := [.int (v), .int 0, .ref (g.2 0 + 267)]) rfl ?_
    refine x_i2l (v := Int32.toInt64 (v)) 8 C0 dL_toQuay_7 rfl rfl ?_
    refine x_last 3 9 C0 dL_toQuay_8 rfl (hF1.o hz hO) (by show g.2 0 ≤ _; omega) rfl (by unfold vp_in; decide) ?_
    refine x_goto 18 C0 dL_toQuay_9 (by decide) ?_
    refine x_iconst (v := 0) 19 C0 dL_toQuay_18 rfl (by decide) ?_
    exact x_ireturn C0 dL_toQuay_19 rfl rfl (Nat.le_of_ble_eq_true rfl) (Nat.le_of_ble_eq_true rfl) ⟨⟨_, rfl⟩, hI1.up ⟨by omega, by omega⟩, hF1.wup, ⟨_, xup_s _ _ _⟩, hz1⟩

set_option maxHeartbeats 4000000 in
set_option maxRecDepth 100000 in
theorem k_L_load (l : Launch) (hl : l.stackTraces = false) (g : xg_T) (w : xw_T) (sz n : Nat) (hI : CI g w sz n) (hO : wO g w) (a1 : Int32) : xMH l g yL_load cL_load 4 (some .int) [((0), (9), (12), (13)), ((0), (9), (15), (17))] ({ frames := 8, cells := 8, slots := 64, locals := 126 }) 8 64 [.ref (g.2 0), .int a1, .ref (g.2 0 + 267)] w sz (wPo g w sz n) (fun _ _ _ => False) := by
  obtain ⟨x, la, t, tt, vb, sg, hC⟩ := hI
  obtain ⟨f, hO⟩ := hO
  have hz := hC.2.2.2.2
  refine xMH.of RL hl (by decide +kernel) rfl (Nat.le_of_ble_eq_true rfl) rfl ?_
  intro p e s m args below meth cD C0
  refine x_aload_n 2 1 C0 dL_load_0 rfl rfl rfl ?_
  refine x_iconst (v := 0) 2 C0 dL_load_1 rfl (by decide) ?_
  refine x_aload_n 0 3 C0 dL_load_2 rfl rfl rfl ?_
  refine x_iload_n 1 4 C0 dL_load_3 rfl rfl rfl ?_
  refine x_callV 7 C0 (k_X7_load l hl g w sz n x la t tt vb sg hC a1) dL_load_4 rfl mC_X7_load mM_L_69 mI_X7_load mV_X7_load mN_X7 yd_X7_load rfl rfl ⟨(Nat.le_of_ble_eq_true rfl), (Nat.le_of_ble_eq_true rfl)⟩ hC.1.1 rfl rfl rfl rfl (Nat.le_of_ble_eq_true rfl) ⟨(Nat.le_of_ble_eq_true rfl), (Nat.le_of_ble_eq_true rfl)⟩ (fun E9 w9 sz9 q => ?_) (fun r w1 sz1 _ hP => ?_)
  · obtain ⟨hE, hI9, hF9, hz9⟩ := q
    simp only [List.mem_cons, List.not_mem_nil, or_false] at hE
    rcases hE with rfl | rfl
    · refine x_catch "java/lang/IndexOutOfBoundsException" 12 [] ⟨0, 9, 12, 13⟩ [⟨0, 9, 15, 17⟩] C0 rfl (fun _ h => absurd h List.not_mem_nil) (by decide) (by decide) mK_L_13 (by decide +kernel) rfl (fun q9 => ?_)
      refine x_astore_n [(3, .ref q9), (0, .ref (g.2 0)), (1, .int a1), (2, .ref (g.2 0 + 267))] 13 C0 dL_load_12 rfl rfl (by decide) rfl ?_
      refine x_iconst (v := 1) 14 C0 dL_load_13 rfl (by decide) ?_
      exact x_ireturn C0 dL_load_14 rfl rfl (Nat.le_of_ble_eq_true rfl) (Nat.le_of_ble_eq_true rfl) ⟨⟨_, rfl⟩, hI9, hF9.wf, ⟨f, hF9.o hz hO⟩, hz9⟩
    · refine x_catch "java/lang/UnsupportedOperationException" 15 [⟨0, 9, 12, 13⟩] ⟨0, 9, 15, 17⟩ [] C0 rfl (List.forall_mem_cons.mpr ⟨⟨by decide, _, mK_L_13, by decide +kernel⟩, (fun _ h => absurd h List.not_mem_nil)⟩) (by decide) (by decide) mK_L_17 (by decide +kernel) rfl (fun q9 => ?_)
      refine x_astore_n [(3, .ref q9), (0, .ref (g.2 0)), (1, .int a1), (2, .ref (g.2 0 + 267))] 16 C0 dL_load_15 rfl rfl (by decide) rfl ?_
      refine x_iconst (v := 2) 17 C0 dL_load_16 rfl (by decide) ?_
      exact x_ireturn C0 dL_load_17 rfl rfl (Nat.le_of_ble_eq_true rfl) (Nat.le_of_ble_eq_true rfl) ⟨⟨_, rfl⟩, hI9, hF9.wf, ⟨f, hF9.o hz hO⟩, hz9⟩
  · obtain ⟨⟨v, rfl⟩, hI1, hF1, hz1⟩ := hP
    refine x_st (st1 := [.int (v), .int 0, .ref (g.2 0 + 267)]) rfl ?_
    refine x_i2l (v := Int32.toInt64 (v)) 8 C0 dL_load_7 rfl rfl ?_
    refine x_last 3 9 C0 dL_load_8 rfl (hF1.o hz hO) (by show g.2 0 ≤ _; omega) rfl (by unfold vp_in; decide) ?_
    refine x_goto 18 C0 dL_load_9 (by decide) ?_
    refine x_iconst (v := 0) 19 C0 dL_load_18 rfl (by decide) ?_
    exact x_ireturn C0 dL_load_19 rfl rfl (Nat.le_of_ble_eq_true rfl) (Nat.le_of_ble_eq_true rfl) ⟨⟨_, rfl⟩, hI1.up ⟨by omega, by omega⟩, hF1.wup, ⟨_, xup_s _ _ _⟩, hz1⟩

set_option maxHeartbeats 4000000 in
set_option maxRecDepth 100000 in
theorem k_L_sail (l : Launch) (hl : l.stackTraces = false) (g : xg_T) (w : xw_T) (sz n : Nat) (hI : CI g w sz n) (hO : wO g w) : xMH l g yL_sail cL_sail 3 (some .int) [((0), (8), (11), (17))] ({ frames := 8, cells := 8, slots := 64, locals := 124 }) 8 64 [.ref (g.2 0), .ref (g.2 0 + 267)] w sz (wPo g w sz n) (fun _ _ _ => False) := by
  obtain ⟨x, la, t, tt, vb, sg, hC⟩ := hI
  obtain ⟨f, hO⟩ := hO
  have hz := hC.2.2.2.2
  refine xMH.of RL hl (by decide +kernel) rfl (Nat.le_of_ble_eq_true rfl) rfl ?_
  intro p e s m args below meth cD C0
  refine x_aload_n 1 1 C0 dL_sail_0 rfl rfl rfl ?_
  refine x_iconst (v := 0) 2 C0 dL_sail_1 rfl (by decide) ?_
  refine x_aload_n 0 3 C0 dL_sail_2 rfl rfl rfl ?_
  refine x_callV 6 C0 (k_X7_sail l hl g w sz n x la t tt vb sg hC) dL_sail_3 rfl mC_X7_sail mM_L_72 mI_X7_sail mV_X7_sail mN_X7 yd_X7_sail rfl rfl ⟨(Nat.le_of_ble_eq_true rfl), (Nat.le_of_ble_eq_true rfl)⟩ hC.1.1 rfl rfl rfl rfl (Nat.le_of_ble_eq_true rfl) ⟨(Nat.le_of_ble_eq_true rfl), (Nat.le_of_ble_eq_true rfl)⟩ (fun E9 w9 sz9 q => ?_) (fun r w1 sz1 _ hP => ?_)
  · obtain ⟨hE, hI9, hF9, hz9⟩ := q
    obtain rfl := List.mem_singleton.mp hE
    refine x_catch "java/lang/UnsupportedOperationException" 11 [] ⟨0, 8, 11, 17⟩ [] C0 rfl (fun _ h => absurd h List.not_mem_nil) (by decide) (by decide) mK_L_17 (by decide +kernel) rfl (fun q9 => ?_)
    refine x_astore_n [(2, .ref q9), (0, .ref (g.2 0)), (1, .ref (g.2 0 + 267))] 12 C0 dL_sail_11 rfl rfl (by decide) rfl ?_
    refine x_iconst (v := 1) 13 C0 dL_sail_12 rfl (by decide) ?_
    exact x_ireturn C0 dL_sail_13 rfl rfl (Nat.le_of_ble_eq_true rfl) (Nat.le_of_ble_eq_true rfl) ⟨⟨_, rfl⟩, hI9, hF9.wf, ⟨f, hF9.o hz hO⟩, hz9⟩
  · obtain ⟨⟨v, rfl⟩, hI1, hF1, hz1⟩ := hP
    refine x_st (st1 := [.int (v), .int 0, .ref (g.2 0 + 267)]) rfl ?_
    refine x_i2l (v := Int32.toInt64 (v)) 7 C0 dL_sail_6 rfl rfl ?_
    refine x_last 3 8 C0 dL_sail_7 rfl (hF1.o hz hO) (by show g.2 0 ≤ _; omega) rfl (by unfold vp_in; decide) ?_
    refine x_goto 14 C0 dL_sail_8 (by decide) ?_
    refine x_iconst (v := 0) 15 C0 dL_sail_14 rfl (by decide) ?_
    exact x_ireturn C0 dL_sail_15 rfl rfl (Nat.le_of_ble_eq_true rfl) (Nat.le_of_ble_eq_true rfl) ⟨⟨_, rfl⟩, hI1.up ⟨by omega, by omega⟩, hF1.wup, ⟨_, xup_s _ _ _⟩, hz1⟩

set_option maxHeartbeats 4000000 in
set_option maxRecDepth 100000 in
theorem k_L_height (l : Launch) (hl : l.stackTraces = false) (g : xg_T) (w : xw_T) (sz n : Nat) (hI : CI g w sz n) (hO : wO g w) (a1 : Int32) : xMH l g yL_height cL_height 4 (some .int) [((0), (9), (12), (15))] ({ frames := 8, cells := 8, slots := 64, locals := 125 }) 8 64 [.ref (g.2 0), .int a1, .ref (g.2 0 + 267)] w sz (wPo g w sz n) (fun _ _ _ => False) := by
  obtain ⟨x, la, t, tt, vb, sg, hC⟩ := hI
  obtain ⟨f, hO⟩ := hO
  have hz := hC.2.2.2.2
  refine xMH.of RL hl (by decide +kernel) rfl (Nat.le_of_ble_eq_true rfl) rfl ?_
  intro p e s m args below meth cD C0
  refine x_aload_n 2 1 C0 dL_height_0 rfl rfl rfl ?_
  refine x_iconst (v := 0) 2 C0 dL_height_1 rfl (by decide) ?_
  refine x_aload_n 0 3 C0 dL_height_2 rfl rfl rfl ?_
  refine x_iload_n 1 4 C0 dL_height_3 rfl rfl rfl ?_
  refine x_callV 7 C0 (k_X7_height l hl g w sz n x la t tt vb sg hC a1) dL_height_4 rfl mC_X7_height mM_L_76 mI_X7_height mV_X7_height mN_X7 yd_X7_height rfl rfl ⟨(Nat.le_of_ble_eq_true rfl), (Nat.le_of_ble_eq_true rfl)⟩ hC.1.1 rfl rfl rfl rfl (Nat.le_of_ble_eq_true rfl) ⟨(Nat.le_of_ble_eq_true rfl), (Nat.le_of_ble_eq_true rfl)⟩ (fun E9 w9 sz9 q => ?_) (fun r w1 sz1 _ hP => ?_)
  · obtain ⟨hE, hI9, hF9, hz9⟩ := q
    obtain rfl := List.mem_singleton.mp hE
    refine x_catch "java/lang/IllegalArgumentException" 12 [] ⟨0, 9, 12, 15⟩ [] C0 rfl (fun _ h => absurd h List.not_mem_nil) (by decide) (by decide) mK_L_15 (by decide +kernel) rfl (fun q9 => ?_)
    refine x_astore_n [(3, .ref q9), (0, .ref (g.2 0)), (1, .int a1), (2, .ref (g.2 0 + 267))] 13 C0 dL_height_12 rfl rfl (by decide) rfl ?_
    refine x_iconst (v := 1) 14 C0 dL_height_13 rfl (by decide) ?_
    exact x_ireturn C0 dL_height_14 rfl rfl (Nat.le_of_ble_eq_true rfl) (Nat.le_of_ble_eq_true rfl) ⟨⟨_, rfl⟩, hI9, hF9.wf, ⟨f, hF9.o hz hO⟩, hz9⟩
  · obtain ⟨⟨v, rfl⟩, hI1, hF1, hz1⟩ := hP
    refine x_st (st1 := [.int (v), .int 0, .ref (g.2 0 + 267)]) rfl ?_
    refine x_i2l (v := Int32.toInt64 (v)) 8 C0 dL_height_7 rfl rfl ?_
    refine x_last 3 9 C0 dL_height_8 rfl (hF1.o hz hO) (by show g.2 0 ≤ _; omega) rfl (by unfold vp_in; decide) ?_
    refine x_goto 15 C0 dL_height_9 (by decide) ?_
    refine x_iconst (v := 0) 16 C0 dL_height_15 rfl (by decide) ?_
    exact x_ireturn C0 dL_height_16 rfl rfl (Nat.le_of_ble_eq_true rfl) (Nat.le_of_ble_eq_true rfl) ⟨⟨_, rfl⟩, hI1.up ⟨by omega, by omega⟩, hF1.wup, ⟨_, xup_s _ _ _⟩, hz1⟩

set_option maxHeartbeats 4000000 in
set_option maxRecDepth 100000 in
theorem k_L_heightAgain (l : Launch) (hl : l.stackTraces = false) (g : xg_T) (w : xw_T) (sz n : Nat) (hI : CI g w sz n) (hO : wO g w) (a1 : Int32) : xMH l g yL_heightAgain cL_heightAgain 4 (some .int) [((0), (9), (12), (15))] ({ frames := 8, cells := 8, slots := 64, locals := 129 }) 8 64 [.ref (g.2 0), .int a1, .ref (g.2 0 + 267)] w sz (wPo g w sz n) (fun _ _ _ => False) := by
  obtain ⟨x, la, t, tt, vb, sg, hC⟩ := hI
  obtain ⟨f, hO⟩ := hO
  have hz := hC.2.2.2.2
  refine xMH.of RL hl (by decide +kernel) rfl (Nat.le_of_ble_eq_true rfl) rfl ?_
  intro p e s m args below meth cD C0
  refine x_aload_n 2 1 C0 dL_heightAgain_0 rfl rfl rfl ?_
  refine x_iconst (v := 0) 2 C0 dL_heightAgain_1 rfl (by decide) ?_
  refine x_aload_n 0 3 C0 dL_heightAgain_2 rfl rfl rfl ?_
  refine x_iload_n 1 4 C0 dL_heightAgain_3 rfl rfl rfl ?_
  refine x_callV 7 C0 (k_X7_heightAgain l hl g w sz n x la t tt vb sg hC a1) dL_heightAgain_4 rfl mC_X7_heightAgain mM_L_79 mI_X7_heightAgain mV_X7_heightAgain mN_X7 yd_X7_heightAgain rfl rfl ⟨(Nat.le_of_ble_eq_true rfl), (Nat.le_of_ble_eq_true rfl)⟩ hC.1.1 rfl rfl rfl rfl (Nat.le_of_ble_eq_true rfl) ⟨(Nat.le_of_ble_eq_true rfl), (Nat.le_of_ble_eq_true rfl)⟩ (fun E9 w9 sz9 q => ?_) (fun r w1 sz1 _ hP => ?_)
  · obtain ⟨hE, hI9, hF9, hz9⟩ := q
    obtain rfl := List.mem_singleton.mp hE
    refine x_catch "java/lang/IllegalArgumentException" 12 [] ⟨0, 9, 12, 15⟩ [] C0 rfl (fun _ h => absurd h List.not_mem_nil) (by decide) (by decide) mK_L_15 (by decide +kernel) rfl (fun q9 => ?_)
    refine x_astore_n [(3, .ref q9), (0, .ref (g.2 0)), (1, .int a1), (2, .ref (g.2 0 + 267))] 13 C0 dL_heightAgain_12 rfl rfl (by decide) rfl ?_
    refine x_iconst (v := 1) 14 C0 dL_heightAgain_13 rfl (by decide) ?_
    exact x_ireturn C0 dL_heightAgain_14 rfl rfl (Nat.le_of_ble_eq_true rfl) (Nat.le_of_ble_eq_true rfl) ⟨⟨_, rfl⟩, hI9, hF9.wf, ⟨f, hF9.o hz hO⟩, hz9⟩
  · obtain ⟨⟨v, rfl⟩, hI1, hF1, hz1⟩ := hP
    refine x_st (st1 := [.int (v), .int 0, .ref (g.2 0 + 267)]) rfl ?_
    refine x_i2l (v := Int32.toInt64 (v)) 8 C0 dL_heightAgain_7 rfl rfl ?_
    refine x_last 3 9 C0 dL_heightAgain_8 rfl (hF1.o hz hO) (by show g.2 0 ≤ _; omega) rfl (by unfold vp_in; decide) ?_
    refine x_goto 15 C0 dL_heightAgain_9 (by decide) ?_
    refine x_iconst (v := 0) 16 C0 dL_heightAgain_15 rfl (by decide) ?_
    exact x_ireturn C0 dL_heightAgain_16 rfl rfl (Nat.le_of_ble_eq_true rfl) (Nat.le_of_ble_eq_true rfl) ⟨⟨_, rfl⟩, hI1.up ⟨by omega, by omega⟩, hF1.wup, ⟨_, xup_s _ _ _⟩, hz1⟩

set_option maxHeartbeats 4000000 in
set_option maxRecDepth 100000 in
theorem k_L_setHumidity (l : Launch) (hl : l.stackTraces = false) (g : xg_T) (w : xw_T) (sz n : Nat) (hI : CI g w sz n) (hO : wO g w) (a1 : Int32) : xMH l g yL_setHumidity cL_setHumidity 4 (some .int) [((0), (9), (12), (15))] ({ frames := 8, cells := 8, slots := 64, locals := 126 }) 8 64 [.ref (g.2 0), .int a1, .ref (g.2 0 + 267)] w sz (wPo g w sz n) (fun _ _ _ => False) := by
  obtain ⟨x, la, t, tt, vb, sg, hC⟩ := hI
  obtain ⟨f, hO⟩ := hO
  have hz := hC.2.2.2.2
  refine xMH.of RL hl (by decide +kernel) rfl (Nat.le_of_ble_eq_true rfl) rfl ?_
  intro p e s m args below meth cD C0
  refine x_aload_n 2 1 C0 dL_setHumidity_0 rfl rfl rfl ?_
  refine x_iconst (v := 0) 2 C0 dL_setHumidity_1 rfl (by decide) ?_
  refine x_aload_n 0 3 C0 dL_setHumidity_2 rfl rfl rfl ?_
  refine x_iload_n 1 4 C0 dL_setHumidity_3 rfl rfl rfl ?_
  refine x_callV 7 C0 (k_X7_setHumidity l hl g w sz n x la t tt vb sg hC a1) dL_setHumidity_4 rfl mC_X7_setHumidity mM_L_82 mI_X7_setHumidity mV_X7_setHumidity mN_X7 yd_X7_setHumidity rfl rfl ⟨(Nat.le_of_ble_eq_true rfl), (Nat.le_of_ble_eq_true rfl)⟩ hC.1.1 rfl rfl rfl rfl (Nat.le_of_ble_eq_true rfl) ⟨(Nat.le_of_ble_eq_true rfl), (Nat.le_of_ble_eq_true rfl)⟩ (fun E9 w9 sz9 q => ?_) (fun r w1 sz1 _ hP => ?_)
  · obtain ⟨hE, hI9, hF9, hz9⟩ := q
    obtain rfl := List.mem_singleton.mp hE
    refine x_catch "java/lang/IllegalArgumentException" 12 [] ⟨0, 9, 12, 15⟩ [] C0 rfl (fun _ h => absurd h List.not_mem_nil) (by decide) (by decide) mK_L_15 (by decide +kernel) rfl (fun q9 => ?_)
    refine x_astore_n [(3, .ref q9), (0, .ref (g.2 0)), (1, .int a1), (2, .ref (g.2 0 + 267))] 13 C0 dL_setHumidity_12 rfl rfl (by decide) rfl ?_
    refine x_iconst (v := 1) 14 C0 dL_setHumidity_13 rfl (by decide) ?_
    exact x_ireturn C0 dL_setHumidity_14 rfl rfl (Nat.le_of_ble_eq_true rfl) (Nat.le_of_ble_eq_true rfl) ⟨⟨_, rfl⟩, hI9, hF9.wf, ⟨f, hF9.o hz hO⟩, hz9⟩
  · obtain ⟨⟨v, rfl⟩, hI1, hF1, hz1⟩ := hP
    refine x_st (st1 := [.int (v), .int 0, .ref (g.2 0 + 267)]) rfl ?_
    refine x_i2l (v := Int32.toInt64 (v)) 8 C0 dL_setHumidity_7 rfl rfl ?_
    refine x_last 3 9 C0 dL_setHumidity_8 rfl (hF1.o hz hO) (by show g.2 0 ≤ _; omega) rfl (by unfold vp_in; decide) ?_
    refine x_goto 15 C0 dL_setHumidity_9 (by decide) ?_
    refine x_iconst (v := 0) 16 C0 dL_setHumidity_15 rfl (by decide) ?_
    exact x_ireturn C0 dL_setHumidity_16 rfl rfl (Nat.le_of_ble_eq_true rfl) (Nat.le_of_ble_eq_true rfl) ⟨⟨_, rfl⟩, hI1.up ⟨by omega, by omega⟩, hF1.wup, ⟨_, xup_s _ _ _⟩, hz1⟩

set_option maxHeartbeats 4000000 in
set_option maxRecDepth 100000 in
theorem k_L_pass (l : Launch) (hl : l.stackTraces = false) (g : xg_T) (w : xw_T) (sz n : Nat) (hI : CI g w sz n) (hO : wO g w) (a1 : Int32) : xMH l g yL_pass cL_pass 4 (some .int) [((0), (9), (12), (15))] ({ frames := 8, cells := 8, slots := 64, locals := 125 }) 8 64 [.ref (g.2 0), .int a1, .ref (g.2 0 + 267)] w sz (wPo g w sz n) (fun _ _ _ => False) := by
  obtain ⟨x, la, t, tt, vb, sg, hC⟩ := hI
  obtain ⟨f, hO⟩ := hO
  have hz := hC.2.2.2.2
  refine xMH.of RL hl (by decide +kernel) rfl (Nat.le_of_ble_eq_true rfl) rfl ?_
  intro p e s m args below meth cD C0
  refine x_aload_n 2 1 C0 dL_pass_0 rfl rfl rfl ?_
  refine x_iconst (v := 0) 2 C0 dL_pass_1 rfl (by decide) ?_
  refine x_aload_n 0 3 C0 dL_pass_2 rfl rfl rfl ?_
  refine x_iload_n 1 4 C0 dL_pass_3 rfl rfl rfl ?_
  refine x_callV 7 C0 (k_X7_pass l hl g w sz n x la t tt vb sg hC a1) dL_pass_4 rfl mC_X7_pass mM_L_85 mI_X7_pass mV_X7_pass mN_X7 yd_X7_pass rfl rfl ⟨(Nat.le_of_ble_eq_true rfl), (Nat.le_of_ble_eq_true rfl)⟩ hC.1.1 rfl rfl rfl rfl (Nat.le_of_ble_eq_true rfl) ⟨(Nat.le_of_ble_eq_true rfl), (Nat.le_of_ble_eq_true rfl)⟩ (fun E9 w9 sz9 q => ?_) (fun r w1 sz1 _ hP => ?_)
  · obtain ⟨hE, hI9, hF9, hz9⟩ := q
    obtain rfl := List.mem_singleton.mp hE
    refine x_catch "java/lang/IllegalArgumentException" 12 [] ⟨0, 9, 12, 15⟩ [] C0 rfl (fun _ h => absurd h List.not_mem_nil) (by decide) (by decide) mK_L_15 (by decide +kernel) rfl (fun q9 => ?_)
    refine x_astore_n [(3, .ref q9), (0, .ref (g.2 0)), (1, .int a1), (2, .ref (g.2 0 + 267))] 13 C0 dL_pass_12 rfl rfl (by decide) rfl ?_
    refine x_iconst (v := 1) 14 C0 dL_pass_13 rfl (by decide) ?_
    exact x_ireturn C0 dL_pass_14 rfl rfl (Nat.le_of_ble_eq_true rfl) (Nat.le_of_ble_eq_true rfl) ⟨⟨_, rfl⟩, hI9, hF9.wf, ⟨f, hF9.o hz hO⟩, hz9⟩
  · obtain ⟨⟨v, rfl⟩, hI1, hF1, hz1⟩ := hP
    refine x_st (st1 := [.int (v), .int 0, .ref (g.2 0 + 267)]) rfl ?_
    refine x_i2l (v := Int32.toInt64 (v)) 8 C0 dL_pass_7 rfl rfl ?_
    refine x_last 3 9 C0 dL_pass_8 rfl (hF1.o hz hO) (by show g.2 0 ≤ _; omega) rfl (by unfold vp_in; decide) ?_
    refine x_goto 15 C0 dL_pass_9 (by decide) ?_
    refine x_iconst (v := 0) 16 C0 dL_pass_15 rfl (by decide) ?_
    exact x_ireturn C0 dL_pass_16 rfl rfl (Nat.le_of_ble_eq_true rfl) (Nat.le_of_ble_eq_true rfl) ⟨⟨_, rfl⟩, hI1.up ⟨by omega, by omega⟩, hF1.wup, ⟨_, xup_s _ _ _⟩, hz1⟩

set_option maxHeartbeats 4000000 in
set_option maxRecDepth 100000 in
theorem k_L_meanDamp (l : Launch) (hl : l.stackTraces = false) (g : xg_T) (w : xw_T) (sz n : Nat) (hI : CI g w sz n) (hD : wD g w) : xMH l g yL_meanDamp cL_meanDamp 3 (some .int) [((0), (7), (10), (92))] ({ frames := 7, cells := 8, slots := 64, locals := 103 }) 8 64 [.ref (g.2 0), .ref (g.2 0 + 268)] w sz (wPd g w sz n) (fun _ _ _ => False) := by
  obtain ⟨x, la, t, tt, vb, sg, hC⟩ := hI
  obtain ⟨f, hD⟩ := hD
  have hz := hC.2.2.2.2
  refine xMH.of RL hl (by decide +kernel) rfl (Nat.le_of_ble_eq_true rfl) rfl ?_
  intro p e s m args below meth cD C0
  refine x_aload_n 1 1 C0 dL_meanDamp_0 rfl rfl rfl ?_
  refine x_iconst (v := 0) 2 C0 dL_meanDamp_1 rfl (by decide) ?_
  refine x_aload_n 0 3 C0 dL_meanDamp_2 rfl rfl rfl ?_
  refine x_callV 6 C0 (k_X7_meanDamp l hl g w sz n x la t tt vb sg hC) dL_meanDamp_3 rfl mC_X7_meanDamp mM_L_88 mI_X7_meanDamp mV_X7_meanDamp mN_X7 yd_X7_meanDamp rfl rfl ⟨(Nat.le_of_ble_eq_true rfl), (Nat.le_of_ble_eq_true rfl)⟩ hC.1.1 rfl rfl rfl rfl (Nat.le_of_ble_eq_true rfl) ⟨(Nat.le_of_ble_eq_true rfl), (Nat.le_of_ble_eq_true rfl)⟩ (fun E9 w9 sz9 q => ?_) (fun r w1 sz1 _ hP => ?_)
  · obtain ⟨hE, hI9, hF9, hz9⟩ := q
    obtain rfl := List.mem_singleton.mp hE
    refine x_catch "java/lang/ArithmeticException" 10 [] ⟨0, 7, 10, 92⟩ [] C0 rfl (fun _ h => absurd h List.not_mem_nil) (by decide) (by decide) mK_L_92 (by decide +kernel) rfl (fun q9 => ?_)
    refine x_astore_n [(2, .ref q9), (0, .ref (g.2 0)), (1, .ref (g.2 0 + 268))] 11 C0 dL_meanDamp_10 rfl rfl (by decide) rfl ?_
    refine x_iconst (v := 1) 12 C0 dL_meanDamp_11 rfl (by decide) ?_
    exact x_ireturn C0 dL_meanDamp_12 rfl rfl (Nat.le_of_ble_eq_true rfl) (Nat.le_of_ble_eq_true rfl) ⟨⟨_, rfl⟩, hI9, hF9.wf, ⟨f, hF9.d hz hD⟩, hz9⟩
  · obtain ⟨⟨v, rfl⟩, hI1, hF1, hz1⟩ := hP
    refine x_st (st1 := [.double (v), .int 0, .ref (g.2 0 + 268)]) rfl ?_
    refine x_dast 4 7 C0 dL_meanDamp_6 rfl (hF1.d hz hD) (by show g.2 0 ≤ _; omega) rfl (by unfold vp_in; decide) ?_
    refine x_goto 13 C0 dL_meanDamp_7 (by decide) ?_
    refine x_iconst (v := 0) 14 C0 dL_meanDamp_13 rfl (by decide) ?_
    exact x_ireturn C0 dL_meanDamp_14 rfl rfl (Nat.le_of_ble_eq_true rfl) (Nat.le_of_ble_eq_true rfl) ⟨⟨_, rfl⟩, hI1.up ⟨by omega, by omega⟩, hF1.wup, ⟨_, xup_s _ _ _⟩, hz1⟩

set_option maxHeartbeats 4000000 in
set_option maxRecDepth 100000 in
theorem k_L_sailedShare (l : Launch) (hl : l.stackTraces = false) (g : xg_T) (w : xw_T) (sz n : Nat) (hI : CI g w sz n) (hD : wD g w) : xMH l g yL_sailedShare cL_sailedShare 3 (some .int) [((0), (8), (11), (92))] ({ frames := 7, cells := 8, slots := 64, locals := 102 }) 8 64 [.ref (g.2 0), .ref (g.2 0 + 268)] w sz (wPd g w sz n) (fun _ _ _ => False) := by
  obtain ⟨x, la, t, tt, vb, sg, hC⟩ := hI
  obtain ⟨f, hD⟩ := hD
  have hz := hC.2.2.2.2
  refine xMH.of RL hl (by decide +kernel) rfl (Nat.le_of_ble_eq_true rfl) rfl ?_
  intro p e s m args below meth cD C0
  refine x_aload_n 1 1 C0 dL_sailedShare_0 rfl rfl rfl ?_
  refine x_iconst (v := 0) 2 C0 dL_sailedShare_1 rfl (by decide) ?_
  refine x_aload_n 0 3 C0 dL_sailedShare_2 rfl rfl rfl ?_
  refine x_callV 6 C0 (k_X7_sailedShare l hl g w sz n x la t tt vb sg hC) dL_sailedShare_3 rfl mC_X7_sailedShare mM_L_94 mI_X7_sailedShare mV_X7_sailedShare mN_X7 yd_X7_sailedShare rfl rfl ⟨(Nat.le_of_ble_eq_true rfl), (Nat.le_of_ble_eq_true rfl)⟩ hC.1.1 rfl rfl rfl rfl (Nat.le_of_ble_eq_true rfl) ⟨(Nat.le_of_ble_eq_true rfl), (Nat.le_of_ble_eq_true rfl)⟩ (fun E9 w9 sz9 q => ?_) (fun r w1 sz1 _ hP => ?_)
  · obtain ⟨hE, hI9, hF9, hz9⟩ := q
    obtain rfl := List.mem_singleton.mp hE
    refine x_catch "java/lang/ArithmeticException" 11 [] ⟨0, 8, 11, 92⟩ [] C0 rfl (fun _ h => absurd h List.not_mem_nil) (by decide) (by decide) mK_L_92 (by decide +kernel) rfl (fun q9 => ?_)
    refine x_astore_n [(2, .ref q9), (0, .ref (g.2 0)), (1, .ref (g.2 0 + 268))] 12 C0 dL_sailedShare_11 rfl rfl (by decide) rfl ?_
    refine x_iconst (v := 1) 13 C0 dL_sailedShare_12 rfl (by decide) ?_
    exact x_ireturn C0 dL_sailedShare_13 rfl rfl (Nat.le_of_ble_eq_true rfl) (Nat.le_of_ble_eq_true rfl) ⟨⟨_, rfl⟩, hI9, hF9.wf, ⟨f, hF9.d hz hD⟩, hz9⟩
  · obtain ⟨⟨v, rfl, hv⟩, hI1, hF1, hz1⟩ := hP
    refine x_st (st1 := [.float (v), .int 0, .ref (g.2 0 + 268)]) rfl ?_
    refine x_f2d 7 C0 dL_sailedShare_6 rfl (f2d_ok hv) ?_
    refine x_dast 4 8 C0 dL_sailedShare_7 rfl (hF1.d hz hD) (by show g.2 0 ≤ _; omega) rfl (by unfold vp_in; decide) ?_
    refine x_goto 14 C0 dL_sailedShare_8 (by decide) ?_
    refine x_iconst (v := 0) 15 C0 dL_sailedShare_14 rfl (by decide) ?_
    exact x_ireturn C0 dL_sailedShare_15 rfl rfl (Nat.le_of_ble_eq_true rfl) (Nat.le_of_ble_eq_true rfl) ⟨⟨_, rfl⟩, hI1.up ⟨by omega, by omega⟩, hF1.wup, ⟨_, xup_s _ _ _⟩, hz1⟩

set_option maxHeartbeats 4000000 in
set_option maxRecDepth 100000 in
theorem k_L_reason (l : Launch) (hl : l.stackTraces = false) (g : xg_T) (w : xw_T) (sz n : Nat) (hI : CI g w sz n) (hO : wO g w) (a1 : Int32) : xMH l g yL_reason cL_reason 4 (some .int) [((0), (9), (12), (55))] ({ frames := 7, cells := 8, slots := 64, locals := 103 }) 8 64 [.ref (g.2 0), .int a1, .ref (g.2 0 + 267)] w sz (wPo g w sz n) (fun _ _ _ => False) := by
  obtain ⟨x, la, t, tt, vb, sg, hC⟩ := hI
  obtain ⟨f, hO⟩ := hO
  have hz := hC.2.2.2.2
  refine xMH.of RL hl (by decide +kernel) rfl (Nat.le_of_ble_eq_true rfl) rfl ?_
  intro p e s m args below meth cD C0
  refine x_aload_n 2 1 C0 dL_reason_0 rfl rfl rfl ?_
  refine x_iconst (v := 0) 2 C0 dL_reason_1 rfl (by decide) ?_
  refine x_aload_n 0 3 C0 dL_reason_2 rfl rfl rfl ?_
  refine x_iload_n 1 4 C0 dL_reason_3 rfl rfl rfl ?_
  refine x_callV 7 C0 (k_X7_reason l hl g w sz n x la t tt vb sg hC a1) dL_reason_4 rfl mC_X7_reason mM_L_98 mI_X7_reason mV_X7_reason mN_X7 yd_X7_reason rfl rfl ⟨(Nat.le_of_ble_eq_true rfl), (Nat.le_of_ble_eq_true rfl)⟩ hC.1.1 rfl rfl rfl rfl (Nat.le_of_ble_eq_true rfl) ⟨(Nat.le_of_ble_eq_true rfl), (Nat.le_of_ble_eq_true rfl)⟩ (fun E9 w9 sz9 q => ?_) (fun r w1 sz1 _ hP => ?_)
  · obtain ⟨hE, hI9, hF9, hz9⟩ := q
    obtain rfl := List.mem_singleton.mp hE
    refine x_catch "java/util/NoSuchElementException" 12 [] ⟨0, 9, 12, 55⟩ [] C0 rfl (fun _ h => absurd h List.not_mem_nil) (by decide) (by decide) mK_L_55 (by decide +kernel) rfl (fun q9 => ?_)
    refine x_astore_n [(3, .ref q9), (0, .ref (g.2 0)), (1, .int a1), (2, .ref (g.2 0 + 267))] 13 C0 dL_reason_12 rfl rfl (by decide) rfl ?_
    refine x_iconst (v := 1) 14 C0 dL_reason_13 rfl (by decide) ?_
    exact x_ireturn C0 dL_reason_14 rfl rfl (Nat.le_of_ble_eq_true rfl) (Nat.le_of_ble_eq_true rfl) ⟨⟨_, rfl⟩, hI9, hF9.wf, ⟨f, hF9.o hz hO⟩, hz9⟩
  · obtain ⟨⟨v, rfl⟩, hI1, hF1, hz1⟩ := hP
    refine x_st (st1 := [.int (v), .int 0, .ref (g.2 0 + 267)]) rfl ?_
    refine x_i2l (v := Int32.toInt64 (v)) 8 C0 dL_reason_7 rfl rfl ?_
    refine x_last 3 9 C0 dL_reason_8 rfl (hF1.o hz hO) (by show g.2 0 ≤ _; omega) rfl (by unfold vp_in; decide) ?_
    refine x_goto 15 C0 dL_reason_9 (by decide) ?_
    refine x_iconst (v := 0) 16 C0 dL_reason_15 rfl (by decide) ?_
    exact x_ireturn C0 dL_reason_16 rfl rfl (Nat.le_of_ble_eq_true rfl) (Nat.le_of_ble_eq_true rfl) ⟨⟨_, rfl⟩, hI1.up ⟨by omega, by omega⟩, hF1.wup, ⟨_, xup_s _ _ _⟩, hz1⟩

set_option maxHeartbeats 4000000 in
set_option maxRecDepth 100000 in
theorem k_L_account (l : Launch) (hl : l.stackTraces = false) (g : xg_T) (w : xw_T) (sz n : Nat) (hI : CI g w sz n) (hO : wO g w) (a1 : Int32) : xMH l g yL_account cL_account 4 (some .int) [((0), (9), (12), (15))] ({ frames := 7, cells := 8, slots := 64, locals := 109 }) 8 64 [.ref (g.2 0), .int a1, .ref (g.2 0 + 267)] w sz (wPo g w sz n) (fun _ _ _ => False) := by
  obtain ⟨x, la, t, tt, vb, sg, hC⟩ := hI
  obtain ⟨f, hO⟩ := hO
  have hz := hC.2.2.2.2
  refine xMH.of RL hl (by decide +kernel) rfl (Nat.le_of_ble_eq_true rfl) rfl ?_
  intro p e s m args below meth cD C0
  refine x_aload_n 2 1 C0 dL_account_0 rfl rfl rfl ?_
  refine x_iconst (v := 0) 2 C0 dL_account_1 rfl (by decide) ?_
  refine x_aload_n 0 3 C0 dL_account_2 rfl rfl rfl ?_
  refine x_iload_n 1 4 C0 dL_account_3 rfl rfl rfl ?_
  refine x_callV 7 C0 (k_X7_account l hl g w sz n x la t tt vb sg hC a1) dL_account_4 rfl mC_X7_account mM_L_102 mI_X7_account mV_X7_account mN_X7 yd_X7_account rfl rfl ⟨(Nat.le_of_ble_eq_true rfl), (Nat.le_of_ble_eq_true rfl)⟩ hC.1.1 rfl rfl rfl rfl (Nat.le_of_ble_eq_true rfl) ⟨(Nat.le_of_ble_eq_true rfl), (Nat.le_of_ble_eq_true rfl)⟩ (fun E9 w9 sz9 q => ?_) (fun r w1 sz1 _ hP => ?_)
  · obtain ⟨hE, hI9, hF9, hz9⟩ := q
    obtain rfl := List.mem_singleton.mp hE
    refine x_catch "java/lang/IllegalArgumentException" 12 [] ⟨0, 9, 12, 15⟩ [] C0 rfl (fun _ h => absurd h List.not_mem_nil) (by decide) (by decide) mK_L_15 (by decide +kernel) rfl (fun q9 => ?_)
    refine x_astore_n [(3, .ref q9), (0, .ref (g.2 0)), (1, .int a1), (2, .ref (g.2 0 + 267))] 13 C0 dL_account_12 rfl rfl (by decide) rfl ?_
    refine x_iconst (v := 1) 14 C0 dL_account_13 rfl (by decide) ?_
    exact x_ireturn C0 dL_account_14 rfl rfl (Nat.le_of_ble_eq_true rfl) (Nat.le_of_ble_eq_true rfl) ⟨⟨_, rfl⟩, hI9, hF9.wf, ⟨f, hF9.o hz hO⟩, hz9⟩
  · obtain ⟨⟨v, rfl⟩, hI1, hF1, hz1⟩ := hP
    refine x_st (st1 := [.int (v), .int 0, .ref (g.2 0 + 267)]) rfl ?_
    refine x_i2l (v := Int32.toInt64 (v)) 8 C0 dL_account_7 rfl rfl ?_
    refine x_last 3 9 C0 dL_account_8 rfl (hF1.o hz hO) (by show g.2 0 ≤ _; omega) rfl (by unfold vp_in; decide) ?_
    refine x_goto 15 C0 dL_account_9 (by decide) ?_
    refine x_iconst (v := 0) 16 C0 dL_account_15 rfl (by decide) ?_
    exact x_ireturn C0 dL_account_16 rfl rfl (Nat.le_of_ble_eq_true rfl) (Nat.le_of_ble_eq_true rfl) ⟨⟨_, rfl⟩, hI1.up ⟨by omega, by omega⟩, hF1.wup, ⟨_, xup_s _ _ _⟩, hz1⟩

set_option maxHeartbeats 4000000 in
set_option maxRecDepth 100000 in
theorem k_L_feed (l : Launch) (hl : l.stackTraces = false) (g : xg_T) (w : xw_T) (sz n : Nat) (hI : CI g w sz n) (hO : wO g w) (a1 : Int32) : xMH l g yL_feed cL_feed 4 (some .int) [((0), (9), (12), (109))] ({ frames := 7, cells := 8, slots := 64, locals := 103 }) 8 64 [.ref (g.2 0), .int a1, .ref (g.2 0 + 267)] w sz (wPf g w sz n) (fun _ _ _ => False) := by
  obtain ⟨x, la, t, tt, vb, sg, hC⟩ := hI
  obtain ⟨f, hO⟩ := hO
  have hz := hC.2.2.2.2
  refine xMH.of RL hl (by decide +kernel) rfl (Nat.le_of_ble_eq_true rfl) rfl ?_
  intro p e s m args below meth cD C0
  refine x_aload_n 2 1 C0 dL_feed_0 rfl rfl rfl ?_
  refine x_iconst (v := 0) 2 C0 dL_feed_1 rfl (by decide) ?_
  refine x_aload_n 0 3 C0 dL_feed_2 rfl rfl rfl ?_
  refine x_iload_n 1 4 C0 dL_feed_3 rfl rfl rfl ?_
  refine x_callV 7 C0 (k_X7_feed l hl g w sz n x la t tt vb sg hC a1) dL_feed_4 rfl mC_X7_feed mM_L_105 mI_X7_feed mV_X7_feed mN_X7 yd_X7_feed rfl rfl ⟨(Nat.le_of_ble_eq_true rfl), (Nat.le_of_ble_eq_true rfl)⟩ hC.1.1 rfl rfl rfl rfl (Nat.le_of_ble_eq_true rfl) ⟨(Nat.le_of_ble_eq_true rfl), (Nat.le_of_ble_eq_true rfl)⟩ (fun E9 w9 sz9 q => ?_) (fun r w1 sz1 _ hP => ?_)
  · obtain ⟨rfl, hn, hI9, hF9, hz9⟩ := q
    refine x_catch "java/lang/IllegalStateException" 12 [] ⟨0, 9, 12, 109⟩ [] C0 rfl (fun _ h => absurd h List.not_mem_nil) (by decide) (by decide) mK_L_109 (by decide +kernel) rfl (fun q9 => ?_)
    refine x_astore_n [(3, .ref q9), (0, .ref (g.2 0)), (1, .int a1), (2, .ref (g.2 0 + 267))] 13 C0 dL_feed_12 rfl rfl (by decide) rfl ?_
    refine x_iconst (v := 1) 14 C0 dL_feed_13 rfl (by decide) ?_
    exact x_ireturn C0 dL_feed_14 rfl rfl (Nat.le_of_ble_eq_true rfl) (Nat.le_of_ble_eq_true rfl) ⟨hF9.wf, hz9, Or.inr ⟨hn, rfl, hI9, f, hF9.o hz hO⟩⟩
  · obtain ⟨hn, rfl, hI1, hF1, hz1⟩ := hP
    refine x_st (st1 := [.int (nI (n + 1)), .int 0, .ref (g.2 0 + 267)]) rfl ?_
    refine x_i2l (v := Int32.toInt64 (nI (n + 1))) 8 C0 dL_feed_7 rfl rfl ?_
    refine x_last 3 9 C0 dL_feed_8 rfl (hF1.o hz hO) (by show g.2 0 ≤ _; omega) rfl (by unfold vp_in; decide) ?_
    refine x_goto 15 C0 dL_feed_9 (by decide) ?_
    refine x_iconst (v := 0) 16 C0 dL_feed_15 rfl (by decide) ?_
    exact x_ireturn C0 dL_feed_16 rfl rfl (Nat.le_of_ble_eq_true rfl) (Nat.le_of_ble_eq_true rfl) ⟨hF1.wup, hz1, Or.inl ⟨hn, rfl, hI1.up ⟨by omega, by omega⟩, _, xup_s _ _ _, rfl⟩⟩

set_option maxHeartbeats 4000000 in
set_option maxRecDepth 100000 in
theorem k_L_perform (l : Launch) (hl : l.stackTraces = false) (g : xg_T) (w : xw_T) (sz n : Nat) (hI : CI g w sz n) (hO : wO g w) : xMH l g yL_perform cL_perform 3 (some .int) [((0), (8), (11), (17))] ({ frames := 11, cells := 256, slots := 2500, locals := 259 }) 256 2500 [.ref (g.2 0), .ref (g.2 0 + 267)] w sz (wPo g w sz 0) (fun _ _ _ => False) := by
  obtain ⟨x, la, t, tt, vb, sg, hC⟩ := hI
  obtain ⟨f, hO⟩ := hO
  have hz := hC.2.2.2.2
  refine xMH.of RL hl (by decide +kernel) rfl (Nat.le_of_ble_eq_true rfl) rfl ?_
  intro p e s m args below meth cD C0
  refine x_aload_n 1 1 C0 dL_perform_0 rfl rfl rfl ?_
  refine x_iconst (v := 0) 2 C0 dL_perform_1 rfl (by decide) ?_
  refine x_aload_n 0 3 C0 dL_perform_2 rfl rfl rfl ?_
  refine x_callV 6 C0 (k_X7_perform l hl g w sz n x la t tt vb sg hC) dL_perform_3 rfl mC_X7_perform mM_L_111 mI_X7_perform mV_X7_perform mN_X7 yd_X7_perform rfl rfl ⟨(Nat.le_of_ble_eq_true rfl), (Nat.le_of_ble_eq_true rfl)⟩ hC.1.1 rfl rfl rfl rfl (Nat.le_of_ble_eq_true rfl) ⟨(Nat.le_of_ble_eq_true rfl), (Nat.le_of_ble_eq_true rfl)⟩ (fun E9 w9 sz9 q => ?_) (fun r w1 sz1 _ hP => ?_)
  · obtain ⟨hE, hI9, hF9, hz9⟩ := q
    obtain rfl := List.mem_singleton.mp hE
    refine x_catch "java/lang/UnsupportedOperationException" 11 [] ⟨0, 8, 11, 17⟩ [] C0 rfl (fun _ h => absurd h List.not_mem_nil) (by decide) (by decide) mK_L_17 (by decide +kernel) rfl (fun q9 => ?_)
    refine x_astore_n [(2, .ref q9), (0, .ref (g.2 0)), (1, .ref (g.2 0 + 267))] 12 C0 dL_perform_11 rfl rfl (by decide) rfl ?_
    refine x_iconst (v := 1) 13 C0 dL_perform_12 rfl (by decide) ?_
    exact x_ireturn C0 dL_perform_13 rfl rfl (Nat.le_of_ble_eq_true rfl) (Nat.le_of_ble_eq_true rfl) ⟨⟨_, rfl⟩, hI9, hF9.wf, ⟨f, hF9.o hz hO⟩, hz9⟩
  · obtain ⟨⟨v, rfl⟩, hI1, hF1, hz1⟩ := hP
    refine x_st (st1 := [.int (v), .int 0, .ref (g.2 0 + 267)]) rfl ?_
    refine x_i2l (v := Int32.toInt64 (v)) 7 C0 dL_perform_6 rfl rfl ?_
    refine x_last 3 8 C0 dL_perform_7 rfl (hF1.o hz hO) (by show g.2 0 ≤ _; omega) rfl (by unfold vp_in; decide) ?_
    refine x_goto 14 C0 dL_perform_8 (by decide) ?_
    refine x_iconst (v := 0) 15 C0 dL_perform_14 rfl (by decide) ?_
    exact x_ireturn C0 dL_perform_15 rfl rfl (Nat.le_of_ble_eq_true rfl) (Nat.le_of_ble_eq_true rfl) ⟨⟨_, rfl⟩, hI1.up ⟨by omega, by omega⟩, hF1.wup, ⟨_, xup_s _ _ _⟩, hz1⟩

set_option maxHeartbeats 4000000 in
set_option maxRecDepth 100000 in
theorem k_L_undo (l : Launch) (hl : l.stackTraces = false) (g : xg_T) (w : xw_T) (sz n : Nat) (hI : CI g w sz n) (hO : wO g w) : xMH l g yL_undo cL_undo 3 (some .int) [((0), (8), (11), (109))] ({ frames := 7, cells := 8, slots := 64, locals := 103 }) 8 64 [.ref (g.2 0), .ref (g.2 0 + 267)] w sz (wPo g w sz n) (fun _ _ _ => False) := by
  obtain ⟨x, la, t, tt, vb, sg, hC⟩ := hI
  obtain ⟨f, hO⟩ := hO
  have hz := hC.2.2.2.2
  refine xMH.of RL hl (by decide +kernel) rfl (Nat.le_of_ble_eq_true rfl) rfl ?_
  intro p e s m args below meth cD C0
  refine x_aload_n 1 1 C0 dL_undo_0 rfl rfl rfl ?_
  refine x_iconst (v := 0) 2 C0 dL_undo_1 rfl (by decide) ?_
  refine x_aload_n 0 3 C0 dL_undo_2 rfl rfl rfl ?_
  refine x_callV 6 C0 (k_X7_undo l hl g w sz n x la t tt vb sg hC) dL_undo_3 rfl mC_X7_undo mM_L_114 mI_X7_undo mV_X7_undo mN_X7 yd_X7_undo rfl rfl ⟨(Nat.le_of_ble_eq_true rfl), (Nat.le_of_ble_eq_true rfl)⟩ hC.1.1 rfl rfl rfl rfl (Nat.le_of_ble_eq_true rfl) ⟨(Nat.le_of_ble_eq_true rfl), (Nat.le_of_ble_eq_true rfl)⟩ (fun E9 w9 sz9 q => ?_) (fun r w1 sz1 _ hP => ?_)
  · obtain ⟨hE, hI9, hF9, hz9⟩ := q
    obtain rfl := List.mem_singleton.mp hE
    refine x_catch "java/lang/IllegalStateException" 11 [] ⟨0, 8, 11, 109⟩ [] C0 rfl (fun _ h => absurd h List.not_mem_nil) (by decide) (by decide) mK_L_109 (by decide +kernel) rfl (fun q9 => ?_)
    refine x_astore_n [(2, .ref q9), (0, .ref (g.2 0)), (1, .ref (g.2 0 + 267))] 12 C0 dL_undo_11 rfl rfl (by decide) rfl ?_
    refine x_iconst (v := 1) 13 C0 dL_undo_12 rfl (by decide) ?_
    exact x_ireturn C0 dL_undo_13 rfl rfl (Nat.le_of_ble_eq_true rfl) (Nat.le_of_ble_eq_true rfl) ⟨⟨_, rfl⟩, hI9, hF9.wf, ⟨f, hF9.o hz hO⟩, hz9⟩
  · obtain ⟨⟨v, rfl⟩, hI1, hF1, hz1⟩ := hP
    refine x_st (st1 := [.int (v), .int 0, .ref (g.2 0 + 267)]) rfl ?_
    refine x_i2l (v := Int32.toInt64 (v)) 7 C0 dL_undo_6 rfl rfl ?_
    refine x_last 3 8 C0 dL_undo_7 rfl (hF1.o hz hO) (by show g.2 0 ≤ _; omega) rfl (by unfold vp_in; decide) ?_
    refine x_goto 14 C0 dL_undo_8 (by decide) ?_
    refine x_iconst (v := 0) 15 C0 dL_undo_14 rfl (by decide) ?_
    exact x_ireturn C0 dL_undo_15 rfl rfl (Nat.le_of_ble_eq_true rfl) (Nat.le_of_ble_eq_true rfl) ⟨⟨_, rfl⟩, hI1.up ⟨by omega, by omega⟩, hF1.wup, ⟨_, xup_s _ _ _⟩, hz1⟩

set_option maxHeartbeats 4000000 in
set_option maxRecDepth 100000 in
theorem k_L_restore (l : Launch) (hl : l.stackTraces = false) (g : xg_T) (w : xw_T) (sz n : Nat) (hI : CI g w sz n) (hO : wO g w) : xMH l g yL_restore cL_restore 3 (some .int) [((0), (8), (11), (109))] ({ frames := 7, cells := 8, slots := 64, locals := 102 }) 8 64 [.ref (g.2 0), .ref (g.2 0 + 267)] w sz (wPo g w sz n) (fun _ _ _ => False) := by
  obtain ⟨x, la, t, tt, vb, sg, hC⟩ := hI
  obtain ⟨f, hO⟩ := hO
  have hz := hC.2.2.2.2
  refine xMH.of RL hl (by decide +kernel) rfl (Nat.le_of_ble_eq_true rfl) rfl ?_
  intro p e s m args below meth cD C0
  refine x_aload_n 1 1 C0 dL_restore_0 rfl rfl rfl ?_
  refine x_iconst (v := 0) 2 C0 dL_restore_1 rfl (by decide) ?_
  refine x_aload_n 0 3 C0 dL_restore_2 rfl rfl rfl ?_
  refine x_callV 6 C0 (k_X7_restore l hl g w sz n x la t tt vb sg hC) dL_restore_3 rfl mC_X7_restore mM_L_117 mI_X7_restore mV_X7_restore mN_X7 yd_X7_restore rfl rfl ⟨(Nat.le_of_ble_eq_true rfl), (Nat.le_of_ble_eq_true rfl)⟩ hC.1.1 rfl rfl rfl rfl (Nat.le_of_ble_eq_true rfl) ⟨(Nat.le_of_ble_eq_true rfl), (Nat.le_of_ble_eq_true rfl)⟩ (fun E9 w9 sz9 q => ?_) (fun r w1 sz1 _ hP => ?_)
  · obtain ⟨hE, hI9, hF9, hz9⟩ := q
    obtain rfl := List.mem_singleton.mp hE
    refine x_catch "java/lang/IllegalStateException" 11 [] ⟨0, 8, 11, 109⟩ [] C0 rfl (fun _ h => absurd h List.not_mem_nil) (by decide) (by decide) mK_L_109 (by decide +kernel) rfl (fun q9 => ?_)
    refine x_astore_n [(2, .ref q9), (0, .ref (g.2 0)), (1, .ref (g.2 0 + 267))] 12 C0 dL_restore_11 rfl rfl (by decide) rfl ?_
    refine x_iconst (v := 1) 13 C0 dL_restore_12 rfl (by decide) ?_
    exact x_ireturn C0 dL_restore_13 rfl rfl (Nat.le_of_ble_eq_true rfl) (Nat.le_of_ble_eq_true rfl) ⟨⟨_, rfl⟩, hI9, hF9.wf, ⟨f, hF9.o hz hO⟩, hz9⟩
  · obtain ⟨⟨v, rfl⟩, hI1, hF1, hz1⟩ := hP
    refine x_st (st1 := [.int (v), .int 0, .ref (g.2 0 + 267)]) rfl ?_
    refine x_i2l (v := Int32.toInt64 (v)) 7 C0 dL_restore_6 rfl rfl ?_
    refine x_last 3 8 C0 dL_restore_7 rfl (hF1.o hz hO) (by show g.2 0 ≤ _; omega) rfl (by unfold vp_in; decide) ?_
    refine x_goto 14 C0 dL_restore_8 (by decide) ?_
    refine x_iconst (v := 0) 15 C0 dL_restore_14 rfl (by decide) ?_
    exact x_ireturn C0 dL_restore_15 rfl rfl (Nat.le_of_ble_eq_true rfl) (Nat.le_of_ble_eq_true rfl) ⟨⟨_, rfl⟩, hI1.up ⟨by omega, by omega⟩, hF1.wup, ⟨_, xup_s _ _ _⟩, hz1⟩
