/-! THE LAW'S BEGINNING -/
def w00 : xw_T := fun _ => none
theorem AL_00 : AL (fun _ => x00) t00 (fun _ _ => 0) (fun _ _ _ => 0) 0 t00 v00 t00 t00 := by
  refine ⟨⟨⟨?_, ⟨0, by omega, rfl, fun k hk => absurd hk (Nat.not_lt_zero k), fun k _ hk j hj => x00_row k hk j (by omega)⟩, fun k hk => ⟨⟨0, by omega, (x00_row k hk 6 (by omega)).trans rfl⟩, fun q => absurd q (show ¬ nI k < nI 0 from nI_nlt (a := k) (b := 0) (Nat.zero_le k) (by omega))⟩⟩, fun k hk => ⟨fun q => absurd q (show ¬ nI k < nI 0 from nI_nlt (a := k) (b := 0) (Nat.zero_le k) (by omega)), fun _ => rfl⟩⟩, ⟨rfl, fun q => absurd rfl q⟩, rfl, 0, by omega, by omega, rfl, rfl, fun i hi => absurd hi (Nat.not_lt_zero i)⟩
  decide
section LB
variable {p : Program} {l : Launch} {e : Env} {s : State} {m : MethodId} {args : Array Value} {below : List Frame} {meth : Method} {cD : Code} {Q : State → Prop} {g : xg_T} {rt : Option FieldType} {tb : List ExceptionTableEntry} {b L : Nat} {xs : Nat → Int32}
set_option maxHeartbeats 4000000 in
set_option maxRecDepth 100000 in
theorem law_begin (hl : l.stackTraces = false) (C0 : xC p l s m args meth cD g cL_law 9 RL rt tb) (hX : va_X b L xs s s.heap) (hbl : b < s.heap.size) (hbA : ¬ xA g b) (hL : L ≤ 2560) (hEnd : ∀ (w : xw_T) (sz k q : Nat) (lv : List (Nat × Value)), k ≤ 603072 → q ≤ 7202922 → xV p l e room_1 s m args below meth cD Q g 9 w sz k q 1192 lv [.int 1]) : xV p l e room_1 s m args below meth cD Q g 9 w00 (g.2 0) 0 0 0 [(0, .ref b)] [] := by
  refine x_new 7 3 C0 (fs := blC) dL_law_0 rfl rfl inX7 tyX7_ok mK_L_8 mA_X7 mN_X7 (by decide) rfl rfl (Nat.le_of_ble_eq_true rfl) (Nat.le_of_ble_eq_true rfl) ?_
  refine x_dup 4 C0 dL_law_3 rfl rfl ?_
  refine x_callI 7 C0 (k_X7_init l hl g _ (g.2 0 + 1) rfl (xup_s _ _ _)) dL_law_4 rfl mC_X7_init mM_L_120 mI_X7_init mN_X7 rfl yd_X7_init rfl rfl ⟨Nat.le_of_ble_eq_true rfl, Nat.le_of_ble_eq_true rfl⟩ rfl rfl (Nat.le_of_ble_eq_true rfl) ⟨Nat.le_of_ble_eq_true rfl, Nat.le_of_ble_eq_true rfl⟩ (fun _ _ _ q => False.elim q) (fun r w1 sz1 _ hP => ?_)
  obtain ⟨rfl, hB, rfl⟩ := hP
  refine x_st (st1 := [.ref (g.2 0)]) rfl ?_
  refine x_astore_n [(1, .ref (g.2 0)), (0, .ref b)] 8 C0 dL_law_7 rfl rfl (by decide) rfl ?_
  refine x_new 8 11 C0 (fs := blM) dL_law_8 rfl rfl inX8 tyX8_ok mK_L_121 mA_X8 mN_X8 (by decide) rfl rfl (Nat.le_of_ble_eq_true rfl) (Nat.le_of_ble_eq_true rfl) ?_
  refine x_dup 12 C0 dL_law_11 rfl rfl ?_
  refine x_callI 15 C0 (k_X8_init l hl g _ (g.2 0 + 258 + 1) rfl (xup_s _ _ _)) dL_law_12 rfl mC_X8_init mM_L_123 mI_X8_init mN_X8 rfl yd_X8_init rfl rfl ⟨Nat.le_of_ble_eq_true rfl, Nat.le_of_ble_eq_true rfl⟩ rfl rfl (Nat.le_of_ble_eq_true rfl) ⟨Nat.le_of_ble_eq_true rfl, Nat.le_of_ble_eq_true rfl⟩ (fun _ _ _ q => False.elim q) (fun r w2 sz2 _ hP => ?_)
  obtain ⟨rfl, rfl, rfl⟩ := hP
  refine x_st (st1 := [.ref (g.2 0 + 258)]) rfl ?_
  refine x_astore_n [(2, .ref (g.2 0 + 258)), (1, .ref (g.2 0)), (0, .ref b)] 16 C0 dL_law_15 rfl rfl (by decide) rfl ?_
  refine x_iconst (v := 1) 17 C0 dL_law_16 rfl (by decide) ?_
  refine x_newa 3 19 C0 (N := 1) (a0 := (1, .inr (.inl (fun _ => 0)))) dL_law_17 rfl mR_long rfl rfl (fun _ => rfl) (by decide) (by decide) (by decide) rfl rfl (Nat.le_of_ble_eq_true rfl) (Nat.le_of_ble_eq_true rfl) ?_
  refine x_st (st1 := [.ref (g.2 0 + 267)]) rfl ?_
  refine x_astore_n [(3, .ref (g.2 0 + 267)), (2, .ref (g.2 0 + 258)), (1, .ref (g.2 0)), (0, .ref b)] 20 C0 dL_law_19 rfl rfl (by decide) rfl ?_
  refine x_iconst (v := 1) 21 C0 dL_law_20 rfl (by decide) ?_
  refine x_newa 4 23 C0 (N := 1) (a0 := (1, .inr (.inr (.inr (.inl (fun _ => 0)))))) dL_law_21 rfl mR_double rfl rfl (fun _ => rfl) (by decide) (by decide) (by decide) rfl rfl (Nat.le_of_ble_eq_true rfl) (Nat.le_of_ble_eq_true rfl) ?_
  refine x_st (st1 := [.ref (g.2 0 + 268)]) rfl ?_
  refine x_astore [(4, .ref (g.2 0 + 268)), (3, .ref (g.2 0 + 267)), (2, .ref (g.2 0 + 258)), (1, .ref (g.2 0)), (0, .ref b)] 25 C0 dL_law_23 rfl (by decide) rfl ?_
  refine x_iconst (v := 0) 26 C0 dL_law_25 rfl (by decide) ?_
  refine x_istore [(5, .int 0), (4, .ref (g.2 0 + 268)), (3, .ref (g.2 0 + 267)), (2, .ref (g.2 0 + 258)), (1, .ref (g.2 0)), (0, .ref b)] 28 C0 dL_law_26 rfl (by decide) rfl ?_
  refine x_widen 272 5377 (Nat.le_of_ble_eq_true rfl) (Nat.le_of_ble_eq_true rfl) ?_
  refine x_lv [5, 4, 3, 2, 1, 0] rfl (law_loop hl C0 hX hbl hbA hL hEnd (L + 6) 0 0 _ _ 0 272 5377 (by omega) rfl (by omega) (by omega) (by omega) ?_)
  refine ⟨⟨fun _ => x00, fun _ => laE g, t00, t00, none, t00, fun _ _ => 0, fun _ _ _ => 0, t00, v00, t00, t00, t00, t00, t00, sgK 77, 0, Nat.le_refl _, hB.cr (fun q q1 q2 => (xup_n (by omega)).trans ((xup_n (by omega)).trans ((MI_ne (by omega)).trans (xup_n (by omega))))) (by omega), fun i hi k hk => xTx.empty, fun j hj => (xup_n (by omega)).trans ((xup_n (by omega)).trans (MI_MR j hj)), MJ_00, AL_00⟩, ⟨_, (xup_n (by omega)).trans (xup_s _ _ _)⟩, ⟨_, xup_s _ _ _⟩⟩
end LB
