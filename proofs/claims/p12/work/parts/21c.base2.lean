/-! THE BASE AT THE START, WHOLE -/
theorem inJx00060 : ∀ w ∈ u_ws RJx00060 TJx00060 6, w ∈ xT := xT_list [450, 452, 454, 456, 458, 460] (by decide +kernel) (by decide +kernel)
theorem kn_at {b : Nat} {s : State} (hX : ∀ w ∈ xT, w.before #[.ref b] s = true) (k : Nat) : ∃ d : ClassId × (Nat → Nat), ∀ q : vw_C, vwCl[k]? = some q → u_Kn s q.1 q.2.1 q.2.2 d.1 d.2 := by
  match k with
  | 0 =>
    obtain ⟨c, i, h⟩ := u_known hX inJ0 (hX _ mA_J0)
    exact ⟨(c, i), fun q hq => by cases hq; exact h⟩
  | 1 =>
    obtain ⟨c, i, h⟩ := u_known hX inJ4 (hX _ mA_J4)
    exact ⟨(c, i), fun q hq => by cases hq; exact h⟩
  | 2 =>
    obtain ⟨c, i, h⟩ := u_known hX inJx00060 (hX _ mA_Jx00060)
    exact ⟨(c, i), fun q hq => by cases hq; exact h⟩
  | 3 =>
    obtain ⟨c, i, h⟩ := u_known hX inX1 (hX _ mA_X1)
    exact ⟨(c, i), fun q hq => by cases hq; exact h⟩
  | 4 =>
    obtain ⟨c, i, h⟩ := u_known hX inX2 (hX _ mA_X2)
    exact ⟨(c, i), fun q hq => by cases hq; exact h⟩
  | 5 =>
    obtain ⟨c, i, h⟩ := u_known hX inX3 (hX _ mA_X3)
    exact ⟨(c, i), fun q hq => by cases hq; exact h⟩
  | 6 =>
    obtain ⟨c, i, h⟩ := u_known hX inX4 (hX _ mA_X4)
    exact ⟨(c, i), fun q hq => by cases hq; exact h⟩
  | 7 =>
    obtain ⟨c, i, h⟩ := u_known hX inX7 (hX _ mA_X7)
    exact ⟨(c, i), fun q hq => by cases hq; exact h⟩
  | 8 =>
    obtain ⟨c, i, h⟩ := u_known hX inX8 (hX _ mA_X8)
    exact ⟨(c, i), fun q hq => by cases hq; exact h⟩
  | k + 9 => exact ⟨(0, fun _ => 0), fun q hq => by simp [vwCl] at hq⟩
set_option maxHeartbeats 4000000 in
set_option maxRecDepth 100000 in
theorem b_xS {b : Nat} {s : State} (hts : ∀ w ∈ lw_tbl, w.before #[.ref b] s = true) (h : Giv b s) (D : va_G) (ids : List Nat) (hA : ∀ a : Nat, a < s.heap.size → ¬ xA (D, bkG b s ids) a) : xS (D, bkG b s ids) s s.heap := by
  refine ⟨b_str h hA ids, ?_⟩
  refine ⟨(List.forall_mem_cons.mpr ⟨vk_R.of (hts _ (lT_1 (i := 55) (by decide +kernel))) (b_ev h ids 0 (by decide)), (List.forall_mem_cons.mpr ⟨vk_R.of (hts _ (lT_4 (i := 154) (by decide +kernel))) (b_ev h ids 1 (by decide)), (List.forall_mem_cons.mpr ⟨vk_R.of (hts _ (lT_4 (i := 236) (by decide +kernel))) (b_ms h ids 0 (by decide)), (List.forall_mem_cons.mpr ⟨vk_R.of (hts _ (lT_5 (i := 25) (by decide +kernel))) (b_ms h ids 1 (by decide)), (List.forall_mem_cons.mpr ⟨vk_R.of (hts _ (lT_5 (i := 54) (by decide +kernel))) (b_ms h ids 2 (by decide)), (List.forall_mem_cons.mpr ⟨vk_R.of (hts _ (lT_5 (i := 187) (by decide +kernel))) (b_ms h ids 3 (by decide)), (List.forall_mem_cons.mpr ⟨vk_R.of (hts _ (lT_5 (i := 200) (by decide +kernel))) (b_ms h ids 4 (by decide)), (List.forall_mem_cons.mpr ⟨vk_R.of (hts _ (lT_5 (i := 208) (by decide +kernel))) (b_ms h ids 5 (by decide)), (List.forall_mem_cons.mpr ⟨vk_R.of (hts _ (lT_5 (i := 216) (by decide +kernel))) (b_ms h ids 6 (by decide)), (List.forall_mem_cons.mpr ⟨vk_R.of (hts _ (lT_5 (i := 238) (by decide +kernel))) (b_ms h ids 7 (by decide)), (List.forall_mem_cons.mpr ⟨vk_R.of (hts _ (lT_6 (i := 119) (by decide +kernel))) (b_ms h ids 8 (by decide)), (List.forall_mem_cons.mpr ⟨vk_R.of (hts _ (lT_6 (i := 127) (by decide +kernel))) (b_ms h ids 9 (by decide)), (List.forall_mem_cons.mpr ⟨vk_R.of (hts _ (lT_2 (i := 208) (by decide +kernel))) (b_ms h ids 10 (by decide)), (List.forall_mem_cons.mpr ⟨vk_R.of (hts _ (lT_2 (i := 189) (by decide +kernel))) (b_ms h ids 11 (by decide)), (List.forall_mem_cons.mpr ⟨vk_R.of (hts _ (lT_3 (i := 80) (by decide +kernel))) (b_ms h ids 12 (by decide)), (List.forall_mem_cons.mpr ⟨vk_R.of (hts _ (lT_3 (i := 12) (by decide +kernel))) (b_ms h ids 13 (by decide)), (fun _ q => absurd q List.not_mem_nil)⟩)⟩)⟩)⟩)⟩)⟩)⟩)⟩)⟩)⟩)⟩)⟩)⟩)⟩)⟩)⟩), ?_⟩
  refine ⟨vx_Zqof (hts _ (lT_2 (i := 109) (by decide +kernel))) (hts _ (lT_1 (i := 7) (by decide +kernel))) (nOt_ok h _ (by decide +kernel)) hA, ?_⟩
  refine ⟨vx_Zqof (hts _ (lT_2 (i := 111) (by decide +kernel))) (hts _ (lT_1 (i := 7) (by decide +kernel))) (nOt_ok h _ (by decide +kernel)) hA, ?_⟩
  refine ⟨(List.forall_mem_cons.mpr ⟨va_any rfl (hts _ (lT_2 (i := 182) (by decide +kernel))), (List.forall_mem_cons.mpr ⟨va_any rfl (hts _ (lT_2 (i := 201) (by decide +kernel))), (List.forall_mem_cons.mpr ⟨va_any rfl (hts _ (lT_3 (i := 5) (by decide +kernel))), (List.forall_mem_cons.mpr ⟨va_any rfl (hts _ (lT_4 (i := 229) (by decide +kernel))), (List.forall_mem_cons.mpr ⟨va_any rfl (hts _ (lT_5 (i := 231) (by decide +kernel))), (List.forall_mem_cons.mpr ⟨va_any rfl (hts _ (lT_5 (i := 176) (by decide +kernel))), (List.forall_mem_cons.mpr ⟨va_any rfl (hts _ (lT_4 (i := 28) (by decide +kernel))), (fun _ q => absurd q List.not_mem_nil)⟩)⟩)⟩)⟩)⟩)⟩)⟩), ?_⟩
  refine ⟨(List.forall_mem_cons.mpr ⟨va_Nc.of (args := #[.ref b]) (nOt_ok h _ (by decide +kernel)), (List.forall_mem_cons.mpr ⟨va_Nc.of (args := #[.ref b]) (nOt_ok h _ (by decide +kernel)), (List.forall_mem_cons.mpr ⟨va_Nc.of (args := #[.ref b]) (nOt_ok h _ (by decide +kernel)), (List.forall_mem_cons.mpr ⟨va_Nc.of (args := #[.ref b]) (nOt_ok h _ (by decide +kernel)), (fun _ q => absurd q List.not_mem_nil)⟩)⟩)⟩)⟩), ?_⟩
  refine ⟨⟨va_AO.of (hts _ (lT_1 (i := 49) (by decide +kernel))), va_AO.of (hts _ (lT_1 (i := 169) (by decide +kernel)))⟩, ?_⟩
  refine ⟨(List.forall_mem_cons.mpr ⟨va_any rfl (hts _ (lT_1 (i := 46) (by decide +kernel))), (List.forall_mem_cons.mpr ⟨va_any rfl (hts _ (lT_3 (i := 199) (by decide +kernel))), (List.forall_mem_cons.mpr ⟨va_any rfl (hts _ (lT_6 (i := 28) (by decide +kernel))), (List.forall_mem_cons.mpr ⟨va_any rfl (hts _ (lT_6 (i := 77) (by decide +kernel))), (fun _ q => absurd q List.not_mem_nil)⟩)⟩)⟩)⟩), ?_⟩
  refine ⟨va_any rfl (hts _ (lT_1 (i := 184) (by decide +kernel))), ?_⟩
  obtain ⟨k1, k2⟩ := b_ar (tm := .static RX7 "KINDS" "[LTeaChests$Kind;") (ty := .object RX5) (N := 3) (f := fun j => .ref (bkG b s ids (20 + j))) hA ids 10 (by decide) rfl (by decide) (nAr_ok h _ aw_a.1) (nAr_ok h _ aw_l.1) (fun j hj => va_eqv (nAr_ok h _ (aw_k j hj)) (b_k h ids j hj))
  refine ⟨⟨va_Zof (hts _ (lT_1 (i := 47) (by decide +kernel))) (hts _ (lT_1 (i := 1) (by decide +kernel))) k1 hA, k2⟩, ?_⟩
  obtain ⟨v1, v2⟩ := b_ar (tm := .static RX7 "VERBS" "[LTeaChests$Verb;") (ty := .object RX6) (N := 8) (f := fun j => .ref (bkG b s ids (30 + j))) hA ids 11 (by decide) rfl (by decide) (nAr_ok h _ aw_a.2.1) (nAr_ok h _ aw_l.2.1) (fun j hj => va_eqv (nAr_ok h _ (aw_v j hj)) (b_v h hA ids j hj).1)
  refine ⟨⟨va_Zof (hts _ (lT_6 (i := 29) (by decide +kernel))) (hts _ (lT_1 (i := 1) (by decide +kernel))) v1 hA, v2⟩, ?_⟩
  obtain ⟨m1, m2⟩ := b_ar (tm := .static RX0 "$SwitchMap$TeaChests$Verb" "[I") (ty := .int) (N := 8) (f := fun j => .int (nI (j + 1))) hA ids 12 (by decide) rfl (by decide) (nAr_ok h _ aw_a.2.2.1) (nAr_ok h _ aw_l.2.2.1) (fun j hj => va_eqt (nAr_ok h _ (aw_m j hj)))
  refine ⟨⟨va_Zof (hts _ (lT_6 (i := 42) (by decide +kernel))) (hts _ (lT_1 (i := 29) (by decide +kernel))) m1 hA, m2⟩, ?_⟩
  refine ⟨⟨va_Zof (hts _ (lT_6 (i := 97) (by decide +kernel))) (hts _ (lT_1 (i := 31) (by decide +kernel))) (b_v h hA ids 6 (by decide)).1 hA, va_Zof (hts _ (lT_6 (i := 99) (by decide +kernel))) (hts _ (lT_1 (i := 31) (by decide +kernel))) (b_v h hA ids 7 (by decide)).1 hA⟩, ?_⟩
  refine ⟨b_kw h hA ids, b_vw h hA ids, b_vo h hA ids, b_vc h hA ids, ?_⟩
  refine ⟨va_Zof (hts _ (lT_3 (i := 210) (by decide +kernel))) (hts _ (lT_1 (i := 12) (by decide +kernel))) (va_eqt (nOt_ok h _ (by decide +kernel))) hA, ?_⟩
  refine ⟨(List.forall_mem_cons.mpr ⟨va_any (A := #[.ref b]) rfl (up_sel (z := yJ5_isLatin1_aae02) (hts _ (lT_4 (i := 35) (by decide +kernel))) rfl (hts _ (lT_4 (i := 2) (by decide +kernel))) (hts _ (lT_4 (i := 3) (by decide +kernel))) (by decide +kernel)), (List.forall_mem_cons.mpr ⟨va_any (A := #[.ref b]) rfl (up_sel (z := yJ5_isLatin1_aae02) (hts _ (lT_4 (i := 35) (by decide +kernel))) rfl (hts _ (lT_4 (i := 140) (by decide +kernel))) (hts _ (lT_4 (i := 141) (by decide +kernel))) (by decide +kernel)), (List.forall_mem_cons.mpr ⟨va_any (A := #[.ref b]) rfl (up_sel (z := yJ5_isLatin1_aae02) (hts _ (lT_4 (i := 35) (by decide +kernel))) rfl (hts _ (lT_4 (i := 144) (by decide +kernel))) (hts _ (lT_4 (i := 145) (by decide +kernel))) (by decide +kernel)), (fun _ q => absurd q List.not_mem_nil)⟩)⟩)⟩), ?_⟩
  refine ⟨va_Zqof (hts _ (lT_4 (i := 57) (by decide +kernel))) (hts _ (lT_1 (i := 24) (by decide +kernel))) (nOt_ok h _ (by decide +kernel)) hA, ?_⟩
  obtain ⟨t1, t2⟩ := b_ar (tm := .static "java/lang/Integer" "DigitTens" "[B") (ty := .byte) (N := 100) (f := fun j => .int (nI (48 + j / 10))) hA ids 13 (by decide) rfl (by decide) (nAr_ok h _ aw_a.2.2.2.1) (nAr_ok h _ aw_l.2.2.2.1) (fun j hj => va_eqt (nDt_ok h _ (aw_t j hj)))
  refine ⟨⟨va_Zof (hts _ (lT_4 (i := 43) (by decide +kernel))) (hts _ (lT_1 (i := 21) (by decide +kernel))) t1 hA, t2⟩, ?_⟩
  obtain ⟨o1, o2⟩ := b_ar (tm := .static "java/lang/Integer" "DigitOnes" "[B") (ty := .byte) (N := 100) (f := fun j => .int (nI (48 + j % 10))) hA ids 14 (by decide) rfl (by decide) (nAr_ok h _ aw_a.2.2.2.2) (nAr_ok h _ aw_l.2.2.2.2) (fun j hj => va_eqt (nDo_ok h _ (aw_o j hj)))
  exact ⟨va_Zof (hts _ (lT_4 (i := 41) (by decide +kernel))) (hts _ (lT_1 (i := 21) (by decide +kernel))) o1 hA, o2⟩
theorem base_at {b : Nat} {s : State} (hts : ∀ w ∈ lw_tbl, w.before #[.ref b] s = true) (h : Giv b s) : ∃ g : xg_T, g.2 0 = s.heap.size ∧ xG g s s.heap := by
  have hX : ∀ w ∈ xT, w.before #[.ref b] s = true := fun w hw => hts w (xT_tbl hw)
  obtain ⟨d, hd⟩ := Classical.axiomOfChoice (kn_at hX)
  obtain ⟨cI, i1, i2⟩ := aC_of (hX _ mR_int)
  obtain ⟨cC, c1, c2⟩ := aC_of (hX _ mR_char)
  obtain ⟨cB, b1, b2⟩ := aC_of (hX _ mR_byte)
  obtain ⟨cJ, j1, j2⟩ := aC_of (hX _ mR_long)
  obtain ⟨cD, d1, d2⟩ := aC_of (hX _ mR_double)
  obtain ⟨o1, p1, p2⟩ := aO_of (C := RX1) (hts _ (lT_1 (i := 49) (by decide +kernel)))
  obtain ⟨o4, q1, q2⟩ := aO_of (C := RX4) (hts _ (lT_1 (i := 169) (by decide +kernel)))
  have hA : ∀ a : Nat, a < s.heap.size → ¬ xA ((fun k => (d k).1, fun k => (d k).2), bkG b s [s.heap.size, cI, cC, cB, cJ, cD, o1, o4]) a := fun a ha => Nat.not_le.mpr ha
  refine ⟨((fun k => (d k).1, fun k => (d k).2), bkG b s [s.heap.size, cI, cC, cB, cJ, cD, o1, o4]), rfl, ⟨hd, fun k q hq => ?_⟩, Nat.le_refl _, b_xS hts h _ _ hA⟩
  match k, hq with
  | 0, hq => cases hq; exact ⟨i2, i1⟩
  | 1, hq => cases hq; exact ⟨c2, c1⟩
  | 2, hq => cases hq; exact ⟨b2, b1⟩
  | 3, hq => cases hq; exact ⟨j2, j1⟩
  | 4, hq => cases hq; exact ⟨d2, d1⟩
  | 5, hq => cases hq; exact ⟨p1, p2⟩
  | 6, hq => cases hq; exact ⟨q1, q2⟩
  | k + 7, hq => simp [xtys] at hq
