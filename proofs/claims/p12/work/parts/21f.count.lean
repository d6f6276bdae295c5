/-! THE TEXT'S COMMANDS, ONE BEHIND ANOTHER -/
/-- where the commands of a text begin, if each is followed by one sign -/
def kP (n : Nat) (sg : Nat → Int32) : Nat → Nat
  | 0 => 0
  | i + 1 => (cRes n sg (kP n sg i)).2 + 1
def kG (n : Nat) (sg : Nat → Int32) (i : Nat) : Prop := (cRes n sg (kP n sg i)).1 = true ∧ sgn n sg (cRes n sg (kP n sg i)).2 = 59
/-- how many commands, or where the text breaks off -/
def ctR (n : Nat) (sg : Nat → Int32) (v : Int32) : Prop := (∃ N : Nat, N < 60 ∧ (∀ i, i < N → kG n sg i) ∧ (cRes n sg (kP n sg N)).1 = true ∧ (cRes n sg (kP n sg N)).2 = n ∧ v = nI (N + 1)) ∨ ∃ i : Nat, (∀ j, j < i → kG n sg j) ∧ ((cRes n sg (kP n sg i)).1 = false ∨ (¬ (cRes n sg (kP n sg i)).2 = n ∧ ¬ sgn n sg (cRes n sg (kP n sg i)).2 = 59)) ∧ (cRes n sg (kP n sg i)).2 ≤ 60 ∧ v = -100 - nI (cRes n sg (kP n sg i)).2
theorem fst_le (f : Nat → Bool) (a : Nat) : ∀ c, a ≤ fst1 f a c ∧ fst1 f a c ≤ a + c := by
  intro c
  induction c with
  | zero => exact ⟨Nat.le_refl _, Nat.le_refl _⟩
  | succ c ih =>
    unfold fst1
    split
    · split <;> omega
    · omega
theorem fst_yes {f : Nat → Bool} {a : Nat} : ∀ c, fst1 f a c < a + c → f (fst1 f a c) = true := by
  intro c
  induction c with
  | zero => intro h; exact absurd h (Nat.lt_irrefl _)
  | succ c ih =>
    intro h
    unfold fst1 at h ⊢
    by_cases e : fst1 f a c = a + c
    · rw [if_pos e] at h ⊢
      by_cases e2 : f (a + c) = true
      · rw [if_pos e2]
        exact e2
      · rw [if_neg e2] at h
        omega
    · rw [if_neg e]
      exact ih (by have := fst_le f a c; omega)
theorem fst_no {f : Nat → Bool} {a : Nat} : ∀ c i, i < c → a + i < fst1 f a c → f (a + i) = false := by
  intro c
  induction c with
  | zero => intro i h; omega
  | succ c ih =>
    intro i hi h
    unfold fst1 at h
    by_cases e : fst1 f a c = a + c
    · rw [if_pos e] at h
      by_cases e3 : i = c
      · subst e3
        by_cases e2 : f (a + i) = true
        · rw [if_pos e2] at h
          omega
        · exact Bool.eq_false_iff.mpr e2
      · exact ih i (by omega) (by omega)
    · rw [if_neg e] at h
      have := fst_le f a c
      exact ih i (by omega) h
theorem pwd_ge (n : Nat) (sg : Nat → Int32) (p a c : Nat) : p ≤ pwd n sg p a c := by
  unfold pwd
  split <;> omega
theorem qN_ge (n : Nat) (sg : Nat → Int32) (p : Nat) : p < qN n sg p := by
  unfold qN
  split <;> omega
theorem snd_mk {a : Bool} {b : Nat} {x : Bool × Nat} (h : x = (a, b)) : x.2 = b := by rw [h]
theorem cRes_2 (n : Nat) (sg : Nat → Int32) (p : Nat) : (cRes n sg p).2 = c1 n sg p ∨ (cRes n sg p).2 = c2 n sg p ∨ (cRes n sg p).2 = c3 n sg p ∨ (cRes n sg p).2 = c4 n sg p ∨ (cRes n sg p).2 = c6 n sg p ∨ (cRes n sg p).2 = c7 n sg p ∨ (cRes n sg p).2 = c8 n sg p := by
  by_cases h0 : cW n sg p = 8
  · exact Or.inl (snd_mk (cr_0 h0))
  by_cases h6 : cW n sg p = 6
  · exact Or.inl (snd_mk (cr_sail h6))
  by_cases hd : dgt n sg (c1 n sg p) = true
  · by_cases hW : cW n sg p = 1 ∨ cW n sg p = 2
    · by_cases hb : sgn n sg (c2 n sg p) = 32
      · by_cases hd3 : dgt n sg (c3 n sg p) = true
        · by_cases h2 : cW n sg p = 2
          · exact Or.inr (Or.inr (Or.inr (Or.inl (snd_mk (cr_s1 h2 hd hb hd3)))))
          · have h1 : cW n sg p = 1 := hW.resolve_right h2
            by_cases hq : sgn n sg (c4 n sg p) = 46
            · by_cases hk : cK n sg p = 11
              · exact Or.inr (Or.inr (Or.inr (Or.inr (Or.inl (snd_mk (cr_k0 h1 hd hb hd3 hq hk))))))
              · by_cases he : sgn n sg (c6 n sg p) = 32
                · by_cases hm : dgt n sg (c7 n sg p) = true
                  · exact Or.inr (Or.inr (Or.inr (Or.inr (Or.inr (Or.inr (snd_mk (cr_f1 h1 hd hb hd3 hq hk he hm)))))))
                  · exact Or.inr (Or.inr (Or.inr (Or.inr (Or.inr (Or.inl (snd_mk (cr_m0 h1 hd hb hd3 hq hk he hm)))))))
                · exact Or.inr (Or.inr (Or.inr (Or.inr (Or.inl (snd_mk (cr_e0 h1 hd hb hd3 hq hk he))))))
            · exact Or.inr (Or.inr (Or.inr (Or.inl (snd_mk (cr_p0 h1 hd hb hd3 hq)))))
        · exact Or.inr (Or.inr (Or.inl (snd_mk (cr_d0 hW hd hb hd3))))
      · exact Or.inr (Or.inl (snd_mk (cr_b0 hW hd hb)))
    · exact Or.inr (Or.inl (snd_mk (cr_n1 h0 h6 (fun z => hW (Or.inl z)) (fun z => hW (Or.inr z)) hd)))
  · exact Or.inl (snd_mk (cr_n0 h0 h6 hd))
theorem cRes_adv {n : Nat} {sg : Nat → Int32} {p : Nat} (h : (cRes n sg p).1 = true) : p + 4 ≤ (cRes n sg p).2 := by
  have w4 : ∀ w, w < 8 → 4 ≤ wl w := by decide
  have h8 : ¬ cW n sg p = 8 := fun e => by
    rw [cr_0 e] at h
    exact absurd (show false = true from h) (by decide)
  have hW := (fst_le (isW n sg p) 0 8).2
  have hlt : cW n sg p < 8 := Nat.lt_of_le_of_ne (by unfold cW fwd; omega) h8
  have k1 : p + 4 ≤ c1 n sg p := by
    have h8' : ¬ fwd n sg p 0 8 = 8 := h8
    have hlt' : fwd n sg p 0 8 < 8 := hlt
    unfold c1 pwd
    rw [if_neg (by omega)]
    have := w4 _ hlt'
    omega
  have k2 : c1 n sg p < c2 n sg p := qN_ge n sg _
  have k3 : c3 n sg p = c2 n sg p + 1 := rfl
  have k4 : c4 n sg p = c3 n sg p + 1 := rfl
  have k5 : c5 n sg p = c4 n sg p + 1 := rfl
  have k6 : c5 n sg p ≤ c6 n sg p := pwd_ge n sg _ _ _
  have k7 : c7 n sg p = c6 n sg p + 1 := rfl
  have k8 : c7 n sg p < c8 n sg p := qN_ge n sg _
  rcases cRes_2 n sg p with e | e | e | e | e | e | e <;> omega
theorem kP_ge {n : Nat} {sg : Nat → Int32} : ∀ i, (∀ j, j < i → kG n sg j) → 5 * i ≤ kP n sg i := by
  intro i
  induction i with
  | zero => intro _; exact Nat.le_refl _
  | succ i ih =>
    intro h
    have h1 := ih (fun j hj => h j (by omega))
    have h2 := cRes_adv (h i (by omega)).1
    show 5 * (i + 1) ≤ (cRes n sg (kP n sg i)).2 + 1
    omega

set_option maxHeartbeats 4000000 in
set_option maxRecDepth 100000 in
theorem e_X2_rewind (l : Launch) (hl : l.stackTraces = false) (g : xg_T) (w : xw_T) (sz a n : Nat) (tt : Nat → Int32) (vb : Option Nat) (sg : Nat → Int32) (hw : w a = some (.inr (4, txtL a tt vb))) (hs : w (a + 1) = some (siE g sg)) (hA : xA g a) (hT : tOk n tt) (hv : vbOk g vb) : xM l g yX2_rewind cX2_rewind 1 none ({ frames := 0, cells := 0, slots := 0, locals := 0 }) 0 0 [.ref a] w sz (fun r w1 sz1 => sz = sz1 ∧ r = none ∧ w1 = xup w a (.inr (4, txtL a (upd tt 1 0) vb)) ∧ tOk n (upd tt 1 0)) (fun _ _ _ => False) := by
  refine xM.of RX2 hl (by decide +kernel) rfl (Nat.le_of_ble_eq_true rfl) rfl ?_
  intro p e s m args below meth cD C0 hini
  refine x_aload_n 0 1 C0 dX2_rewind_0 rfl rfl rfl ?_
  refine x_iconst (v := 0) 2 C0 dX2_rewind_1 rfl (by decide) ?_
  refine x_putf 2 5 C0 dX2_rewind_2 rfl hw hA rfl (by decide) inX2 tyX2_ok nmX2 mF_X2_19 rfl rfl rfl rfl (Nat.le_of_ble_eq_true rfl) ?_
  refine x_w (w1 := (xup w a (.inr (4, txtL a (upd tt 1 0) vb)))) rfl ?_
  have hT1 : tOk n (upd tt 1 0) := hT.at (m := 0) (by omega) nI_0.symm
  exact x_return C0 dX2_rewind_5 rfl (Nat.le_of_ble_eq_true rfl) (Nat.le_of_ble_eq_true rfl) ⟨rfl, rfl, rfl, hT1⟩

theorem cRes_le (n : Nat) (sg : Nat → Int32) (p : Nat) (hp : p < 1000) : (cRes n sg p).2 < 2000 := by
  have k1 : c1 n sg p ≤ p + 6 := pwd_le n sg _ _ _
  have k2 : c2 n sg p ≤ c1 n sg p + 2 := qN_le n sg _
  have k3 : c3 n sg p = c2 n sg p + 1 := rfl
  have k4 : c4 n sg p = c3 n sg p + 1 := rfl
  have k5 : c5 n sg p = c4 n sg p + 1 := rfl
  have k6 : c6 n sg p ≤ c5 n sg p + 6 := pwd_le n sg _ _ _
  have k7 : c7 n sg p = c6 n sg p + 1 := rfl
  have k8 : c8 n sg p ≤ c7 n sg p + 2 := qN_le n sg _
  rcases cRes_2 n sg p with e | e | e | e | e | e | e <;> omega
theorem kP_le (n : Nat) (sg : Nat → Int32) (hn : n ≤ 60) : ∀ i, (∀ j, j < i → kG n sg j) → kP n sg i < 1000 := by
  intro i
  induction i with
  | zero => intro _; exact (by decide : (0 : Nat) < 1000)
  | succ i ih =>
    intro h
    have h1 := ih (fun j hj => h j (by omega))
    have h2 := cRes_le n sg (kP n sg i) h1
    have h3 : (cRes n sg (kP n sg i)).2 < n := by
      have h4 := (h i (by omega)).2
      unfold sgn sgAt at h4
      split at h4
      · rename_i h5
        exact (nI_ltI (by omega) (by omega)).mp h5.2
      · exact absurd h4 (by decide)
    show (cRes n sg (kP n sg i)).2 + 1 < 1000
    omega
set_option maxHeartbeats 4000000 in
set_option maxRecDepth 100000 in
theorem e_X2_countCommands (l : Launch) (hl : l.stackTraces = false) (g : xg_T) (w : xw_T) (sz a n : Nat) (tt : Nat → Int32) (vb : Option Nat) (sg : Nat → Int32) (hw : w a = some (.inr (4, txtL a tt vb))) (hs : w (a + 1) = some (siE g sg)) (hA : xA g a) (hT : tOk n tt) (hv : vbOk g vb) : xM l g yX2_countCommands cX2_countCommands 2 (some .int) ({ frames := 8, cells := 0, slots := 0, locals := 168 }) 0 0 [.ref a] w sz (fun r w1 sz1 => sz = sz1 ∧ ∃ tt' vb', w1 = xup w a (.inr (4, txtL a tt' vb')) ∧ tOk n tt' ∧ vbOk g vb' ∧ ∃ v : Int32, r = some (.int v) ∧ ctR n sg v) (fun _ _ _ => False) := by
  refine xM.of RX2 hl (by decide +kernel) rfl (Nat.le_of_ble_eq_true rfl) rfl ?_
  intro p e s m args below meth cD C0 hini
  refine x_aload_n 0 1 C0 dX2_countCommands_0 rfl rfl rfl ?_
  refine x_callV 4 C0 (e_X2_rewind l hl g _ _ a _ _ _ _ hw hs hA hT hv) dX2_countCommands_1 rfl mC_X2_rewind mM_X2_22 mI_X2_rewind mV_X2_rewind mN_X2 yd_X2_rewind rfl rfl ⟨Nat.le_of_ble_eq_true rfl, Nat.le_of_ble_eq_true rfl⟩ hw rfl rfl rfl rfl (Nat.le_of_ble_eq_true rfl) ⟨Nat.le_of_ble_eq_true rfl, Nat.le_of_ble_eq_true rfl⟩ (fun _ _ _ q => False.elim q) (fun r w1 sz1 hz hP => ?_)
  obtain ⟨rfl, rfl, rfl, hT1⟩ := hP
  refine x_st (st1 := []) rfl ?_
  refine x_iconst (v := 1) 5 C0 dX2_countCommands_4 rfl (by decide) ?_
  refine x_istore_n [(1, .int 1), (0, .ref a)] 6 C0 dX2_countCommands_5 rfl rfl (by decide) rfl ?_
  refine x_lv (lv1 := [(0, .ref a), (1, .int 1)]) [1, 0] rfl ?_
  have loop6 : ∀ (N i : Nat), i ≤ 60 → 60 - i < N → ∀ (t : Nat → Int32) (v : Option Nat), tOk n t → vbOk g v → t 1 = nI (kP n sg i) → (∀ j, j < i → kG n sg j) → xV p l e ({ frames := 8, cells := 0, slots := 0, locals := 168 }) s m args below meth cD (xQ g below (fun r w1 sz1 => sz = sz1 ∧ ∃ tt' vb', w1 = xup w a (.inr (4, txtL a tt' vb')) ∧ tOk n tt' ∧ vbOk g vb' ∧ ∃ v : Int32, r = some (.int v) ∧ ctR n sg v) (fun _ _ _ => False) args s 0 0) g 2 (xup w a (.inr (4, txtL a t v))) sz (0 + 0) (0 + 0) 6 [(0, .ref a), (1, .int (nI (i + 1)))] [] := by
    intro N
    induction N with
    | zero => intro i h1 h2; omega
    | succ N ih =>
      intro i hi hN t v hT0 hv0 h1 hG
      have hq9 : kP n sg i ≤ 60 := tOk_q hT0 h1 (Nat.lt_trans (kP_le n sg hT.2.1 i hG) (by decide))
      refine x_iload_n 1 7 C0 dX2_countCommands_6 rfl rfl rfl ?_
      refine x_bipush (v := 60) 9 C0 dX2_countCommands_7 rfl (by decide) ?_
      refine x_icmp_gt 63 12 C0 dX2_countCommands_9 rfl (by decide) (fun c2 => ?_) (fun c2 => ?_)
      · exfalso
        have := kP_ge i hG
        have := (nI_ltI (a := 60) (by omega) (by omega)).mp c2
        omega
      · have hi2 : i < 60 := Nat.lt_of_not_le (fun z => c2 (nI_lt (a := 60) (by omega) (by omega)))
        refine x_aload_n 0 13 C0 dX2_countCommands_12 rfl rfl rfl ?_
        refine x_callV 16 C0 (e_X2_readCommand l hl g _ _ a _ _ _ _ (xup_s _ _ _) ((xup_n (by omega)).trans hs) hA hT0 hv0 (kP n sg i) h1 hq9) dX2_countCommands_13 rfl mC_X2_readCommand mM_X2_25 mI_X2_readCommand mV_X2_readCommand mN_X2 yd_X2_readCommand rfl rfl ⟨Nat.le_of_ble_eq_true rfl, Nat.le_of_ble_eq_true rfl⟩ (xup_s _ _ _) rfl rfl rfl rfl (Nat.le_of_ble_eq_true rfl) ⟨Nat.le_of_ble_eq_true rfl, Nat.le_of_ble_eq_true rfl⟩ (fun _ _ _ q => False.elim q) (fun r w1 sz1 hz hP => ?_)
        obtain ⟨rfl, t3, v3, rfl, hT3, hv3, rfl, hp3, hA3⟩ := hP
        refine x_w (xup_2 _ _ _ _) ?_
        have h60x := tOk_q hT3 hp3 (cRes_le n sg (kP n sg i) (by omega))
        refine x_st (st1 := [.int (bi (cRes n sg (kP n sg i)).1)]) rfl ?_
        refine x_if_ne 27 19 C0 dX2_countCommands_16 rfl (by decide) (fun c4 => ?_) (fun c4 => ?_)
        · have c4 := bi_no c4
          refine x_aload_n 0 28 C0 dX2_countCommands_27 rfl rfl rfl ?_
          refine x_getf (v := .int (t3 1)) 2 31 C0 dX2_countCommands_28 rfl (xup_s _ _ _) rfl (by decide) inX2 mF_X2_19 rfl ?_
          refine x_aload_n 0 32 C0 dX2_countCommands_31 rfl rfl rfl ?_
          refine x_getf (v := .int (t3 0)) 1 35 C0 dX2_countCommands_32 rfl (xup_s _ _ _) rfl (by decide) inX2 mF_X2_15 rfl ?_
          refine x_icmp_ne 40 38 C0 dX2_countCommands_35 rfl (by decide) (fun c5 => ?_) (fun c5 => ?_)
          · refine x_aload_n 0 41 C0 dX2_countCommands_40 rfl rfl rfl ?_
            refine x_bipush (v := 59) 43 C0 dX2_countCommands_41 rfl (by decide) ?_
            refine x_callV 46 C0 (e_X2_readSign l hl g _ _ a _ _ _ _ (xup_s _ _ _) ((xup_n (by omega)).trans hs) hA hT3 hv3 ((cRes n sg (kP n sg i)).2) hp3 h60x 59 (by decide)) dX2_countCommands_43 rfl mC_X2_readSign mM_X2_29 mI_X2_readSign mV_X2_readSign mN_X2 yd_X2_readSign rfl rfl ⟨Nat.le_of_ble_eq_true rfl, Nat.le_of_ble_eq_true rfl⟩ (xup_s _ _ _) rfl rfl rfl rfl (Nat.le_of_ble_eq_true rfl) ⟨Nat.le_of_ble_eq_true rfl, Nat.le_of_ble_eq_true rfl⟩ (fun _ _ _ q => False.elim q) (fun r w1 sz1 hz hP => ?_)
            obtain ⟨rfl, t6, rfl, hT6, hk6, hQ6⟩ := hP
            rcases hQ6 with ⟨hc6, rfl, hp6⟩ | ⟨hc6, rfl, hp6⟩
            · have hq66 : ((cRes n sg (kP n sg i)).2) + 1 ≤ 60 := tOk_q hT6 hp6 (by omega)
              refine x_w (xup_2 _ _ _ _) ?_
              refine x_st (st1 := [.int 1]) rfl ?_
              refine x_if_ne 57 49 C0 dX2_countCommands_46 rfl (by decide) (fun _ => ?_) (fun q => False.elim (by revert q; decide))
              refine x_iinc [(1, .int (nI (i + 1 + 1))), (0, .ref a)] 1 60 C0 dX2_countCommands_57 rfl rfl (nI_1 (i + 1)) (by decide) rfl ?_
              refine x_lv (lv1 := [(0, .ref a), (1, .int (nI (i + 1 + 1)))]) [1, 0] rfl ?_
              refine x_goto 6 C0 dX2_countCommands_60 (by decide) ?_
              exact x_lv [0, 1] rfl (ih (i + 1) (by omega) (by omega) _ _ hT6 hv3 hp6 (fun j hj => by by_cases e : j = i; subst e; exact ⟨c4, hc6⟩; exact hG j (by omega)))
            · have hq66 : ((cRes n sg (kP n sg i)).2) ≤ 60 := tOk_q hT6 hp6 (by omega)
              refine x_w (xup_2 _ _ _ _) ?_
              refine x_st (st1 := [.int 0]) rfl ?_
              refine x_if_ne 57 49 C0 dX2_countCommands_46 rfl (by decide) (fun q => False.elim (by revert q; decide)) (fun _ => ?_)
              refine x_bipush (v := (-100)) 51 C0 dX2_countCommands_49 rfl (by decide) ?_
              refine x_aload_n 0 52 C0 dX2_countCommands_51 rfl rfl rfl ?_
              refine x_getf (v := .int (t6 1)) 2 55 C0 dX2_countCommands_52 rfl (xup_s _ _ _) rfl (by decide) inX2 mF_X2_19 rfl ?_
              refine x_isub 56 C0 dX2_countCommands_55 rfl ?_
              exact x_ireturn C0 dX2_countCommands_56 rfl rfl (Nat.le_of_ble_eq_true rfl) (Nat.le_of_ble_eq_true rfl) ⟨rfl, _, _, rfl, hT6, hv3, _, rfl, Or.inr ⟨i, hG, Or.inr ⟨fun z => c5 (hp3.trans ((congrArg nI z).trans hT3.1.symm)), hc6⟩, h60x, by rw [hp6]⟩⟩
          · refine x_iload_n 1 39 C0 dX2_countCommands_38 rfl rfl rfl ?_
            exact x_ireturn C0 dX2_countCommands_39 rfl rfl (Nat.le_of_ble_eq_true rfl) (Nat.le_of_ble_eq_true rfl) ⟨rfl, _, _, rfl, hT3, hv3, _, rfl, Or.inl ⟨i, hi2, hG, c4, (nI_eq (by omega) (by have := hT.2.1; omega)).mp (hp3.symm.trans (c5.trans hT3.1)), rfl⟩⟩
        · have c4 := bi_yes c4
          refine x_bipush (v := (-100)) 21 C0 dX2_countCommands_19 rfl (by decide) ?_
          refine x_aload_n 0 22 C0 dX2_countCommands_21 rfl rfl rfl ?_
          refine x_getf (v := .int (t3 1)) 2 25 C0 dX2_countCommands_22 rfl (xup_s _ _ _) rfl (by decide) inX2 mF_X2_19 rfl ?_
          refine x_isub 26 C0 dX2_countCommands_25 rfl ?_
          exact x_ireturn C0 dX2_countCommands_26 rfl rfl (Nat.le_of_ble_eq_true rfl) (Nat.le_of_ble_eq_true rfl) ⟨rfl, _, _, rfl, hT3, hv3, _, rfl, Or.inr ⟨i, hG, Or.inl c4, h60x, by rw [hp3]⟩⟩
  exact x_lv [0, 1] rfl (loop6 61 0 (by omega) (by omega) _ _ hT1 hv (if_pos rfl) (fun j hj => absurd hj (Nat.not_lt_zero j)))

