/-! THE COMMANDS OF A TEXT, ONE BEHIND ANOTHER, BESIDE THE REFERENCE'S -/
def nmA (n : Nat) (sg : Nat → Int32) (p : Nat) : Nat := if cW n sg p = 6 then 0 else vN n sg (c1 n sg p)
def nmB (n : Nat) (sg : Nat → Int32) (p : Nat) : Nat := if cW n sg p = 1 ∨ cW n sg p = 2 then dv n sg (c3 n sg p) else 0
def nmK (n : Nat) (sg : Nat → Int32) (p : Nat) : Nat := if cW n sg p = 1 then cK n sg p - 8 else 0
def nmD (n : Nat) (sg : Nat → Int32) (p : Nat) : Nat := if cW n sg p = 1 then vN n sg (c7 n sg p) else 0
section MABC
variable {n : Nat} {sg : Nat → Int32} {p : Nat}
theorem snd_f {a : Bool} {b : Nat} {x : Bool × Nat} (h : x = (a, b)) : x.1 = a := by rw [h]
theorem ok_8 (h : (cRes n sg p).1 = true) : cW n sg p < 8 := by
  have h8 : ¬ cW n sg p = 8 := fun e => by
    rw [snd_f (cr_0 e)] at h
    exact absurd h (by decide)
  have hW := (fst_le (isW n sg p) 0 8).2
  exact Nat.lt_of_le_of_ne (by unfold cW fwd; omega) h8
theorem ok_c (h : (cRes n sg p).1 = true) (h6 : ¬ cW n sg p = 6) : dgt n sg (c1 n sg p) = true := by
  have h8 := ok_8 h
  by_cases e : dgt n sg (c1 n sg p) = true
  · exact e
  · rw [snd_f (cr_n0 (by omega) h6 e)] at h
    exact absurd h (by decide)
theorem ok_d (h : (cRes n sg p).1 = true) (hW : cW n sg p = 1 ∨ cW n sg p = 2) : sgn n sg (c2 n sg p) = 32 ∧ dgt n sg (c3 n sg p) = true := by
  have hc := ok_c h (by omega)
  by_cases e : sgn n sg (c2 n sg p) = 32
  · by_cases e2 : dgt n sg (c3 n sg p) = true
    · exact ⟨e, e2⟩
    · rw [snd_f (cr_d0 hW hc e e2)] at h
      exact absurd h (by decide)
  · rw [snd_f (cr_b0 hW hc e)] at h
    exact absurd h (by decide)
theorem ok_f (h : (cRes n sg p).1 = true) (hW : cW n sg p = 1) : cK n sg p < 11 ∧ 8 ≤ cK n sg p ∧ dgt n sg (c7 n sg p) = true := by
  have hc := ok_c h (by omega)
  obtain ⟨hb, hd⟩ := ok_d h (Or.inl hW)
  have hK := fst_le (isW n sg (c5 n sg p)) 8 3
  have hK : 8 ≤ cK n sg p ∧ cK n sg p ≤ 8 + 3 := hK
  by_cases e : sgn n sg (c4 n sg p) = 46
  · by_cases e2 : cK n sg p = 11
    · rw [snd_f (cr_k0 hW hc hb hd e e2)] at h
      exact absurd h (by decide)
    · by_cases e3 : sgn n sg (c6 n sg p) = 32
      · by_cases e4 : dgt n sg (c7 n sg p) = true
        · exact ⟨by omega, hK.1, e4⟩
        · rw [snd_f (cr_m0 hW hc hb hd e e2 e3 e4)] at h
          exact absurd h (by decide)
      · rw [snd_f (cr_e0 hW hc hb hd e e2 e3)] at h
        exact absurd h (by decide)
  · rw [snd_f (cr_p0 hW hc hb hd e)] at h
    exact absurd h (by decide)
theorem m_lt (h : (cRes n sg p).1 = true) : nmA n sg p < 100 ∧ nmB n sg p < 10 ∧ nmK n sg p < 3 ∧ nmD n sg p < 100 := by
  refine ⟨?_, ?_, ?_, ?_⟩
  · unfold nmA
    split
    · decide
    · rename_i e
      exact vN_lt (ok_c h e)
  · unfold nmB
    split
    · rename_i e
      exact (dv_ok (ok_d h e).2).1
    · decide
  · unfold nmK
    split
    · rename_i e
      have := ok_f h e
      omega
    · decide
  · unfold nmD
    split
    · rename_i e
      exact vN_lt (ok_f h e).2.2
    · decide
theorem m_arg {g : xg_T} {vb : Option Nat} {tt : Nat → Int32} (h : cArg g n sg p vb tt) : tArg (cW n sg p) (nmA n sg p) (nmB n sg p) (nmK n sg p) (nmD n sg p) tt := by
  obtain ⟨-, -, h3, h7, h2, h1⟩ := h
  refine ⟨fun q6 q7 => ?_, fun q7 => ?_, fun q2 => ?_, fun q1 => ?_⟩
  · unfold nmA
    rw [if_neg q6]
    exact h3 q6 q7
  · unfold nmA
    rw [if_neg (by omega)]
    exact h7 q7
  · unfold nmB
    rw [if_pos (Or.inr q2)]
    exact h2 q2
  · obtain ⟨k1, k2, i, k3, k4, k5⟩ := h1 q1
    unfold nmB nmK nmD
    rw [if_pos (Or.inl q1), if_pos q1, if_pos q1, k4]
    exact ⟨k1, k2, by rw [k5, Nat.add_sub_cancel_left]⟩
end MABC
/-- the reference's command i, from v to v' -/
def DOI (n : Nat) (sg : Nat → Int32) (i : Nat) (t v : Nat → Int32) (r : Option Value) (t' v' : Nat → Int32) : Prop := DOES (cW n sg (kP n sg i)) (nmA n sg (kP n sg i)) (nmB n sg (kP n sg i)) (nmK n sg (kP n sg i)) (nmD n sg (kP n sg i)) t v r t' v'
/-- where the reference stands when i commands are done -/
def SEQ (n : Nat) (sg v0 : Nat → Int32) : Nat → (Nat → Int32) → Prop
  | 0, v => ∀ q, q < 208 → v q = v0 q
  | i + 1, v => ∃ (u t : Nat → Int32) (r : Option Value) (t' : Nat → Int32), SEQ n sg v0 i u ∧ DOI n sg i t u r t' v ∧ t 1 = 0 ∧ t' 1 = 0
def OKI (n : Nat) (sg v0 : Nat → Int32) (i : Nat) : Prop := ∀ u t r t' u', SEQ n sg v0 i u → DOI n sg i t u r t' u' → t 1 = 0 → t' 1 = 0
def NOI (n : Nat) (sg v0 : Nat → Int32) (i : Nat) : Prop := ∀ u t r t' u', SEQ n sg v0 i u → DOI n sg i t u r t' u' → t 1 = 0 → ¬ t' 1 = 0
/-- the class's house beside the reference's i-th -/
def ALI (g : xg_T) (w : xw_T) (sz n : Nat) (sg v0 : Nat → Int32) (i : Nat) (x : Nat → Nat → Int32) (la : Nat → Nat → Nat) (ln : Nat → Nat) (lf : Nat → Nat → Int32) : Prop := (∀ k, k < 20 → xTx g w sz (la 0 k) (ln k) (lf k)) ∧ ∀ v, SEQ n sg v0 i v → alk (x 0) v ∧ lbl ln lf (x 0) v
def caP (g : xg_T) (w : xw_T) (sz n : Nat) (x : Nat → Nat → Int32) (la : Nat → Nat → Nat) (t sg v0 : Nat → Int32) (mq : Nat) : Option Value → xw_T → Nat → Prop := fun r w1 sz1 => xFr g w w1 sz ∧ sz ≤ sz1 ∧ ∃ (q : Nat) (x' : Nat → Nat → Int32) (la' : Nat → Nat → Nat) (tt' : Nat → Int32) (vb' : Option Nat), q ≤ mq ∧ r = some (.int (nI q)) ∧ CR g w1 sz1 n x' la' t tt' vb' sg ∧ (∀ i, i ≠ 0 → x' i = x i ∧ la' i = la i) ∧ (∀ j, j < q → OKI n sg v0 j) ∧ (q < mq → NOI n sg v0 q) ∧ (q = mq → ∃ ln lf, ALI g w1 sz1 n sg v0 mq x' la' ln lf)
theorem ALI.go {g : xg_T} {w w1 : xw_T} {sz sz1 n : Nat} {sg v0 : Nat → Int32} {i : Nat} {x : Nat → Nat → Int32} {la : Nat → Nat → Nat} {ln : Nat → Nat} {lf : Nat → Nat → Int32} (h : ALI g w sz n sg v0 i x la ln lf) (hq : xFr g w w1 sz) (hz : sz ≤ sz1) : ALI g w1 sz1 n sg v0 i x la ln lf := ⟨fun k hk => (h.1 k hk).go (fun q q1 q2 => hq q (by omega) q2) hz, h.2⟩
set_option maxHeartbeats 4000000 in
set_option maxRecDepth 100000 in
theorem e_X7_carryOutAll (l : Launch) (hl : l.stackTraces = false) (g : xg_T) (w : xw_T) (sz n : Nat) (x : Nat → Nat → Int32) (la : Nat → Nat → Nat) (t tt : Nat → Int32) (vb : Option Nat) (sg : Nat → Int32) (hC : CR g w sz n x la t tt vb sg) (mq : Nat) (hm60 : mq ≤ 60) (hok : ∀ i, i < mq → (cRes n sg (kP n sg i)).1 = true) (hsep : ∀ i, i + 1 < mq → sgn n sg (cRes n sg (kP n sg i)).2 = 59) (v0 : Nat → Int32) (ln : Nat → Nat) (lf : Nat → Nat → Int32) (hL : ∀ k, k < 20 → xTx g w sz (la 0 k) (ln k) (lf k)) (hA0 : alk (x 0) v0) (hB0 : lbl ln lf (x 0) v0) : xM l g yX7_carryOutAll cX7_carryOutAll 3 (some .int) ({ frames := 9, cells := 240, slots := 2400, locals := 215 }) 240 2400 [.ref (g.2 0), .int (nI mq)] w sz (caP g w sz n x la t sg v0 mq) (fun _ _ _ => False) := by
  have hz9 := hC.zz
  refine xM.of RX7 hl (by decide +kernel) rfl (Nat.le_of_ble_eq_true rfl) rfl ?_
  intro p e s m args below meth cD C0 hini
  refine x_aload_n 0 1 C0 dX7_carryOutAll_0 rfl rfl rfl ?_
  refine x_getf (v := .ref (g.2 0 + 256)) 4 4 C0 dX7_carryOutAll_1 rfl hC.1.1 rfl (by decide) inX7 mF_X7_33 rfl ?_
  refine x_callV 7 C0 (e_X2_rewind l hl g _ _ (g.2 0 + 256) _ _ _ _ hC.1.2.2.2.1 hC.1.2.2.2.2 (Nat.le_add_right _ _) hC.2.2.1 hC.2.2.2.1) dX7_carryOutAll_4 rfl mC_X2_rewind mM_X7_325 mI_X2_rewind mV_X2_rewind mN_X2 yd_X2_rewind rfl rfl ⟨Nat.le_of_ble_eq_true rfl, Nat.le_of_ble_eq_true rfl⟩ hC.1.2.2.2.1 rfl rfl rfl rfl (Nat.le_of_ble_eq_true rfl) ⟨Nat.le_of_ble_eq_true rfl, Nat.le_of_ble_eq_true rfl⟩ (fun _ _ _ q => False.elim q) (fun r w1 sz1 hz hP => ?_)
  obtain ⟨wv1, hwv1⟩ : ∃ z, z = w1 := ⟨_, rfl⟩
  refine x_w hwv1.symm ?_
  obtain ⟨rfl, rfl, hw1, hT1⟩ := hP
  rw [← hwv1] at hw1
  have hC1 : CR g wv1 sz n x la t (upd tt 1 0) vb sg := by rw [hw1]; exact hC.setTx hT1 hC.2.2.2.1
  have hG1 : xFr g w wv1 sz := by rw [hw1]; exact xFr.up (by omega)
  have hF1 : xFr g w wv1 sz := xFr.tr (sz1 := sz) xFr.rf hG1 (by omega)
  refine x_st (st1 := []) rfl ?_
  refine x_iconst (v := 0) 8 C0 dX7_carryOutAll_7 rfl (by decide) ?_
  refine x_istore_n [(2, .int 0), (0, .ref (g.2 0)), (1, .int (nI mq))] 9 C0 dX7_carryOutAll_8 rfl rfl (by decide) rfl ?_
  refine x_lv (lv1 := [(0, .ref (g.2 0)), (1, .int (nI mq)), (2, .int 0)]) [1, 2, 0] rfl ?_
  have loop9 : ∀ (N i szl : Nat) (wl : xw_T) (xl : Nat → Nat → Int32) (lal : Nat → Nat → Nat) (ttl : Nat → Int32) (vbl : Option Nat) (lnl : Nat → Nat) (lfl : Nat → Nat → Int32), i ≤ mq → mq - i < N → sz ≤ szl → CR g wl szl n xl lal t ttl vbl sg → xFr g w wl sz → (i < mq → ttl 1 = nI (kP n sg i)) → (∀ j, j ≠ 0 → xl j = x j ∧ lal j = la j) → (∀ j, j < i → OKI n sg v0 j) → ALI g wl szl n sg v0 i xl lal lnl lfl → xV p l e ({ frames := 9, cells := 240, slots := 2400, locals := 215 }) s m args below meth cD (xQ g below (caP g w sz n x la t sg v0 mq) (fun _ _ _ => False) args s 240 2400) g 3 wl szl (4 * i) (40 * i) 9 [(0, .ref (g.2 0)), (1, .int (nI mq)), (2, .int (nI i))] [] := by
    intro N
    induction N with
    | zero => intro i szl wl xl lal ttl vbl lnl lfl h1 h2; omega
    | succ N ih =>
      intro i szl wl xl lal ttl vbl lnl lfl hi hN hzl hCl hFl hat hsame hoks hAli
      have hz8 := hCl.zz
      refine x_iload_n 2 10 C0 dX7_carryOutAll_9 rfl rfl rfl ?_
      refine x_iload_n 1 11 C0 dX7_carryOutAll_10 rfl rfl rfl ?_
      refine x_icmp_ge 49 14 C0 dX7_carryOutAll_11 rfl (by decide) (fun c2 => ?_) (fun c2 => ?_)
      · obtain rfl := ix_eq mq rfl (by omega) hi c2
        refine x_iload_n 1 50 C0 dX7_carryOutAll_49 rfl rfl rfl ?_
        exact x_widen 240 2400 (by show 4 * i ≤ 240; omega) (by show 40 * i ≤ 2400; omega) (x_ireturn C0 dX7_carryOutAll_50 rfl rfl (Nat.le_of_ble_eq_true rfl) (Nat.le_of_ble_eq_true rfl) ⟨hFl, by omega, i, _, _, _, _, Nat.le_refl _, rfl, hCl, hsame, hoks, fun z => absurd z (Nat.lt_irrefl _), fun _ => ⟨lnl, lfl, hAli⟩⟩)
      · have hi2 := ix_lt mq rfl (by omega) hi c2
        have hkP : kP n sg i < 1000 := kP_le n sg hC.2.2.1.2.1 i (fun j hj => ⟨hok j (by omega), hsep j (by omega)⟩)
        refine x_aload_n 0 15 C0 dX7_carryOutAll_14 rfl rfl rfl ?_
        refine x_getf (v := .ref (g.2 0 + 256)) 4 18 C0 dX7_carryOutAll_15 rfl hCl.1.1 rfl (by decide) inX7 mF_X7_33 rfl ?_
        refine x_callV 21 C0 (e_X2_readCommand l hl g _ _ (g.2 0 + 256) _ _ _ _ hCl.1.2.2.2.1 hCl.1.2.2.2.2 (Nat.le_add_right _ _) hCl.2.2.1 hCl.2.2.2.1 (kP n sg i) (hat hi2) (tOk_q hCl.2.2.1 (hat hi2) (Nat.lt_trans hkP (by decide)))) dX7_carryOutAll_18 rfl mC_X2_readCommand mM_X7_328 mI_X2_readCommand mV_X2_readCommand mN_X2 yd_X2_readCommand rfl rfl ⟨Nat.le_of_ble_eq_true rfl, Nat.le_of_ble_eq_true rfl⟩ hCl.1.2.2.2.1 rfl rfl rfl rfl (Nat.le_of_ble_eq_true rfl) ⟨by show _ ≤ 240; omega, by show _ ≤ 2400; omega⟩ (fun _ _ _ q => False.elim q) (fun r w1 sz1 hz hP => ?_)
        obtain ⟨wv3, hwv3⟩ : ∃ z, z = w1 := ⟨_, rfl⟩
        refine x_w hwv3.symm ?_
        obtain ⟨rfl, tt3, vb3, hw3, hT3, hv3, rfl, hp3, hA3⟩ := hP
        rw [← hwv3] at hw3
        have hok9 := hok i hi2
        have hC3 : CR g wv3 szl n xl lal t tt3 vb3 sg := by rw [hw3]; exact hCl.setTx hT3 hv3
        have hG3 : xFr g wl wv3 szl := by rw [hw3]; exact xFr.up (by omega)
        have hF3 : xFr g w wv3 sz := xFr.tr (sz1 := szl) hFl hG3 (by omega)
        refine x_st (st1 := [.int 1]) (by rw [hok9]; rfl) ?_
        refine x_if_eq 31 24 C0 dX7_carryOutAll_21 rfl (by decide) (fun q => False.elim (by revert q; decide)) (fun _ => ?_)
        refine x_aload_n 0 25 C0 dX7_carryOutAll_24 rfl rfl rfl ?_
        have hAL := hAli.go hG3 (Nat.le_refl _)
        refine x_callV 28 C0 (e_X7_carryOutRead l hl g _ _ _ xl lal t tt3 vb3 sg hC3 lnl lfl hAL.1 (cW n sg (kP n sg i)) (ok_8 hok9) (hA3 hok9).1) dX7_carryOutAll_25 rfl mC_X7_carryOutRead mM_X7_331 mI_X7_carryOutRead mV_X7_carryOutRead mN_X7 yd_X7_carryOutRead rfl rfl ⟨Nat.le_of_ble_eq_true rfl, Nat.le_of_ble_eq_true rfl⟩ hC3.1.1 rfl rfl rfl rfl (Nat.le_of_ble_eq_true rfl) ⟨by show _ ≤ 240; omega, by show _ ≤ 2400; omega⟩ (fun _ _ _ q => False.elim q) (fun r w1 sz1 hz hP => ?_)
        obtain ⟨wv5, hwv5⟩ : ∃ z, z = w1 := ⟨_, rfl⟩
        obtain ⟨sv5, hsv5⟩ : ∃ z, z = sz1 := ⟨_, rfl⟩
        rw [← hwv5, ← hsv5] at hP ⊢
        obtain ⟨-, hG5, hz5, x5, la5, t5, hC5, hD5⟩ := hP
        have hF5 : xFr g w wv5 sz := xFr.tr (sz1 := szl) hF3 hG5 (by omega)
        have hAL2 := hAL.go hG5 hz5
        obtain ⟨hsm, ht9, hYN⟩ := co_eq hC3.k0 hAL2.1 hD5 (m_arg (hA3 hok9)) (m_lt hok9).1 (m_lt hok9).2.1 (m_lt hok9).2.2.1 (m_lt hok9).2.2.2 (ok_8 hok9)
        rw [ht9] at hC5
        rcases hYN with ⟨rfl, hY⟩ | ⟨rfl, hN⟩
        · refine x_st (st1 := [.int 1]) rfl ?_
          refine x_if_ne 33 31 C0 dX7_carryOutAll_28 rfl (by decide) (fun _ => ?_) (fun q => False.elim (by revert q; decide))
          refine x_aload_n 0 34 C0 dX7_carryOutAll_33 rfl rfl rfl ?_
          refine x_getf (v := .ref (g.2 0 + 256)) 4 37 C0 dX7_carryOutAll_34 rfl hC5.1.1 rfl (by decide) inX7 mF_X7_33 rfl ?_
          refine x_bipush (v := 59) 39 C0 dX7_carryOutAll_37 rfl (by decide) ?_
          refine x_callV 42 C0 (e_X2_readSign l hl g _ _ (g.2 0 + 256) _ _ _ _ hC5.1.2.2.2.1 hC5.1.2.2.2.2 (Nat.le_add_right _ _) hC5.2.2.1 hC5.2.2.2.1 (cRes n sg (kP n sg i)).2 hp3 (tOk_q hC5.2.2.1 hp3 (cRes_le n sg _ hkP)) 59 (by decide)) dX7_carryOutAll_39 rfl mC_X2_readSign mM_X7_334 mI_X2_readSign mV_X2_readSign mN_X2 yd_X2_readSign rfl rfl ⟨Nat.le_of_ble_eq_true rfl, Nat.le_of_ble_eq_true rfl⟩ hC5.1.2.2.2.1 rfl rfl rfl rfl (Nat.le_of_ble_eq_true rfl) ⟨by show _ ≤ 240; omega, by show _ ≤ 2400; omega⟩ (fun _ _ _ q => False.elim q) (fun r w1 sz1 hz hP => ?_)
          obtain ⟨wv7, hwv7⟩ : ∃ z, z = w1 := ⟨_, rfl⟩
          refine x_w hwv7.symm ?_
          obtain ⟨rfl, tt7, hw7, hT7, hk7, hQ7⟩ := hP
          rw [← hwv7] at hw7
          obtain ⟨b7, hb7, hat7⟩ : ∃ b : Int32, r = some (.int b) ∧ (i + 1 < mq → tt7 1 = nI (kP n sg (i + 1))) := by
            rcases hQ7 with ⟨h1, h2, h3⟩ | ⟨h1, h2, h3⟩
            · exact ⟨1, h2, fun _ => h3⟩
            · exact ⟨0, h2, fun z => absurd (hsep i z) h1⟩
          subst hb7
          have hC7 : CR g wv7 sv5 n x5 la5 t tt7 vb3 sg := by rw [hw7]; exact hC5.setTx hT7 hC5.2.2.2.1
          have hG7 : xFr g wv5 wv7 sv5 := by rw [hw7]; exact xFr.up (by omega)
          have hF7 : xFr g w wv7 sz := xFr.tr (sz1 := sv5) hF5 hG7 (by omega)
          refine x_st (st1 := [.int b7]) rfl ?_
          refine x_pop 43 C0 dX7_carryOutAll_42 rfl rfl ?_
          refine x_iinc [(2, .int (nI (i + 1))), (0, .ref (g.2 0)), (1, .int (nI mq))] 2 46 C0 dX7_carryOutAll_43 rfl rfl (nI_1 i) (by decide) rfl ?_
          refine x_lv (lv1 := [(0, .ref (g.2 0)), (1, .int (nI mq)), (2, .int (nI (i + 1)))]) [1, 2, 0] rfl ?_
          refine x_goto 9 C0 dX7_carryOutAll_46 (by decide) ?_
          obtain ⟨ln9, lf9, hY1, hY2⟩ := hY
          have hnew : ALI g wv7 sv5 n sg v0 (i + 1) x5 la5 ln9 lf9 := ⟨fun k hk => (hY1 k hk).go (fun q q1 q2 => hG7 q (by omega) q2) (Nat.le_refl _), fun v hv => by obtain ⟨u, t1, r1, t2, k1, k2, k3, k4⟩ := hv; obtain ⟨m1, m2⟩ := hAli.2 u k1; exact (hY2 u t1 r1 t2 v m1 m2 k2 k3).2⟩
          have hokI : OKI n sg v0 i := fun u t1 r1 t2 u2 k1 k2 k3 => by obtain ⟨m1, m2⟩ := hAli.2 u k1; exact (hY2 u t1 r1 t2 u2 m1 m2 k2 k3).1
          exact x_lv [0, 1, 2] rfl (x_widen (4 * (i + 1)) (40 * (i + 1)) (by show 4 * i + 4 ≤ 4 * (i + 1); omega) (by show 40 * i + 40 ≤ 40 * (i + 1); omega) (ih (i + 1) _ _ _ _ _ _ _ _ (by omega) (by omega) (by omega) hC7 hF7 hat7 (fun j hj => ⟨(hsm j hj).1.trans (hsame j hj).1, (hsm j hj).2.trans (hsame j hj).2⟩) (fun j hj => by by_cases e : j = i; subst e; exact hokI; exact hoks j (by omega)) hnew))
        · refine x_st (st1 := [.int 0]) rfl ?_
          refine x_if_ne 33 31 C0 dX7_carryOutAll_28 rfl (by decide) (fun q => False.elim (by revert q; decide)) (fun _ => ?_)
          refine x_iload_n 2 32 C0 dX7_carryOutAll_31 rfl rfl rfl ?_
          exact x_widen 240 2400 (by show 4 * i + 4 ≤ 240; omega) (by show 40 * i + 40 ≤ 2400; omega) (x_ireturn C0 dX7_carryOutAll_32 rfl rfl (Nat.le_of_ble_eq_true rfl) (Nat.le_of_ble_eq_true rfl) ⟨hF5, by omega, i, _, _, _, _, by omega, rfl, hC5, fun j hj => ⟨(hsm j hj).1.trans (hsame j hj).1, (hsm j hj).2.trans (hsame j hj).2⟩, hoks, fun _ u t1 r1 t2 u2 k1 k2 k3 => by obtain ⟨m1, m2⟩ := hAli.2 u k1; exact hN u t1 r1 t2 u2 m1 m2 k2 k3, fun z => absurd z (by omega)⟩)
  exact x_lv [0, 1, 2] rfl (loop9 (mq + 1) 0 _ _ _ _ _ _ ln lf (by omega) (by omega) (Nat.le_refl _) hC1 hF1 (fun _ => if_pos rfl) (fun _ _ => ⟨rfl, rfl⟩) (fun j hj => absurd hj (Nat.not_lt_zero j)) ⟨fun k hk => (hL k hk).go (fun q q1 q2 => hF1 q (by omega) q2) (Nat.le_refl _), fun v hv => ⟨hA0.congV hv, hB0.congV hv⟩⟩)

