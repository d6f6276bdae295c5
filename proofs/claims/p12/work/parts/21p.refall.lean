/-! THE REFERENCE'S TEXT PERFORMED, EXACTLY -/
theorem dgt_n {n : Nat} {ip : Nat → Int32} {p : Nat} (hn : n ≤ 60) (hp : p < 1000) (h : dgt n ip p = true) : qN n ip p ≤ n := by
  have h1 := dgt_in hn hp h
  unfold qN
  split
  · rename_i h2
    exact dgt_in hn (by omega) h2
  · exact h1
theorem en_le {n : Nat} {ip : Nat → Int32} {p : Nat} (hn : n ≤ 60) (hp : p ≤ 60) (h : (cRes n ip p).1 = true) : (cRes n ip p).2 ≤ n := by
  have h8 := ok_8 h
  have k1 : c1 n ip p ≤ p + 6 := pwd_le n ip _ _ _
  have k2 : c2 n ip p ≤ c1 n ip p + 2 := qN_le n ip _
  have k3 : c3 n ip p = c2 n ip p + 1 := rfl
  have k4 : c4 n ip p = c3 n ip p + 1 := rfl
  have k5 : c5 n ip p = c4 n ip p + 1 := rfl
  have k6 : c6 n ip p ≤ c5 n ip p + 6 := pwd_le n ip _ _ _
  have k7 : c7 n ip p = c6 n ip p + 1 := rfl
  by_cases h6 : cW n ip p = 6
  · rw [snd_mk (cr_sail h6)]
    have hf : fwd n ip p 0 8 = 0 + 6 := h6
    have hw : isW n ip p 6 = true := by
      have := fst_yes (f := isW n ip p) (a := 0) 8 (by have : fst1 (isW n ip p) 0 8 = 6 := h6; omega)
      rw [show fst1 (isW n ip p) 0 8 = 6 from h6] at this
      exact this
    have hP := isW_P.mp hw
    have e4 : wl 6 = 4 := rfl
    have h3 := wc_sgn (hP 3 (by omega))
    have := sgn_in hn (by omega) (fun e => sgM_ne (7 * 6 + 3) (by omega) (h3.symm.trans e))
    have e1 : c1 n ip p = p + wl (0 + 6) := pwd_y hf (by omega)
    rw [e1]
    show p + 4 ≤ n
    omega
  · have hc := ok_c h h6
    by_cases h12 : cW n ip p = 1 ∨ cW n ip p = 2
    · obtain ⟨hb, hd⟩ := ok_d h h12
      rcases h12 with h1 | h2
      · obtain ⟨hk, -, hm⟩ := ok_f h h1
        by_cases hq : sgn n ip (c4 n ip p) = 46
        · by_cases he : sgn n ip (c6 n ip p) = 32
          · rw [snd_mk (cr_f1 h1 hc hb hd hq (by omega) he hm)]
            exact dgt_n hn (by omega) hm
          · rw [snd_f (cr_e0 h1 hc hb hd hq (by omega) he)] at h
            exact absurd h (by decide)
        · rw [snd_f (cr_p0 h1 hc hb hd hq)] at h
          exact absurd h (by decide)
      · rw [snd_mk (cr_s1 h2 hc hb hd)]
        exact dgt_in hn (by omega) hd
    · rw [snd_mk (cr_n1 (by omega) h6 (fun z => h12 (Or.inl z)) (fun z => h12 (Or.inr z)) hc)]
      exact dgt_n hn (by omega) hc
theorem cRes_lo (n : Nat) (ip : Nat → Int32) {p : Nat} (hp : p ≤ 60) : (cRes n ip p).2 < 200 := by
  obtain ⟨k1, k2, k3, k4, k5, k6, k7, k8⟩ := cs_lt n ip hp
  rcases cRes_2 n ip p with e | e | e | e | e | e | e <;> omega
theorem kP_s {n : Nat} {ip : Nat → Int32} (hn : n ≤ 60) : ∀ {i : Nat}, (∀ j, j < i → kG n ip j) → kP n ip i ≤ 60 := by
  intro i
  induction i with
  | zero => intro _; exact Nat.zero_le _
  | succ i ih =>
    intro h
    have h1 := ih (fun j hj => h j (by omega))
    have h2 := cRes_lo n ip h1
    have h3 := sgn_in (p := (cRes n ip (kP n ip i)).2) hn (by omega) (fun e => by
      have := (h i (by omega)).2
      rw [e] at this
      exact absurd this (by decide))
    show (cRes n ip (kP n ip i)).2 + 1 ≤ 60
    omega
/-- an end of the commands that are only read -/
def mR0 (g : xg_T) (w : xw_T) (sz n : Nat) (t v bf sv pa lb ip sg : Nat → Int32) : Option Value → xw_T → Nat → Prop := fun r w1 sz1 => sz = sz1 ∧ ∃ (t' td' : Nat → Int32) (nn : Int32), w1 = MW g w t' v bf sv pa lb ip td' sg ∧ MJ n t' v bf sv pa sg ∧ tW t t' ∧ r = some (.int nn) ∧ ((t' 11 = 0 ∧ ∃ N : Nat, ctN n ip N ∧ nn = nI (N + 1)) ∨ (t' 11 = 1 ∧ ∃ e : Nat, e ≤ 60 ∧ ctE n ip e ∧ t' 10 = nI e))
/-- of those that are carried out -/
def tY (t t' : Nat → Int32) : Prop := ∀ i, (i = 0 ∨ i = 2 ∨ i = 7 ∨ i = 12) → t' i = t i
def mR1 (g : xg_T) (w : xw_T) (sz n : Nat) (t v bf sv pa ip sg : Nat → Int32) (N : Nat) : Option Value → xw_T → Nat → Prop := fun r w1 sz1 => sz = sz1 ∧ ∃ (t' v' lb' td' : Nat → Int32) (q : Nat), w1 = MW g w t' v' bf sv pa lb' ip td' sg ∧ MJ n t' v' bf sv pa sg ∧ tY t t' ∧ q ≤ N ∧ r = some (.int (nI (q + 1))) ∧ ((t' 1 = 0 ∧ q = N ∧ SEQ n ip v (N + 1) v') ∨ (¬ t' 1 = 0 ∧ ∃ (u tm : Nat → Int32) (rm : Option Value) (tm' : Nat → Int32), SEQ n ip v q u ∧ DOI n ip q tm u rm tm' v' ∧ tm 1 = 0 ∧ ¬ tm' 1 = 0))
def mPf (g : xg_T) (w : xw_T) (sz n : Nat) (t v sv pa ip sg : Nat → Int32) : Option Value → xw_T → Nat → Prop := fun r w1 sz1 => sz = sz1 ∧ ∃ t' v' bf' pa' lb' td', w1 = MW g w t' v' bf' sv pa' lb' ip td' sg ∧ MJ 0 t' v' bf' sv pa' sg ∧ t' 7 = t 7 ∧ ((∃ e : Nat, e ≤ 60 ∧ ctE n ip e ∧ r = some (.int (-100 - nI e)) ∧ t' 0 = 0 ∧ t' 2 = t 2 ∧ v' = v ∧ pa' = pa) ∨ ∃ (N : Nat) (t1 v1 bf : Nat → Int32) (z : Int32), ctN n ip N ∧ (∀ j, j < 208 → bf j = v j) ∧ t1 2 = t 2 ∧ t1 0 = 0 ∧ endP t1 v1 bf pa z 0 0 1 r t' v' pa' ∧ ((t1 1 = 0 ∧ z = nI (N + 1) ∧ SEQ n ip v (N + 1) v1) ∨ (t1 1 = 3 ∧ ∃ (q : Nat) (u tm : Nat → Int32) (rm : Option Value) (tm' u' : Nat → Int32), q ≤ N ∧ SEQ n ip v q u ∧ DOI n ip q tm u rm tm' u' ∧ tm 1 = 0 ∧ ¬ tm' 1 = 0)))

set_option maxHeartbeats 4000000 in
set_option maxRecDepth 100000 in
theorem e_X8_commands0 (l : Launch) (hl : l.stackTraces = false) (g : xg_T) (w : xw_T) (sz n : Nat) (t v bf sv pa lb ip td sg : Nat → Int32) (hM : MR g w t v bf sv pa lb ip td sg) (hJ : MJ n t v bf sv pa sg) (hdo : t 12 = 0) (hf0 : t 1 = 0) : xM l g yX8_commands cX8_commands 2 (some .int) ({ frames := 6, cells := 0, slots := 0, locals := 135 }) 0 0 [.ref (g.2 0 + 258)] w sz (mR0 g w sz n t v bf sv pa lb ip sg) (fun _ _ _ => False) := by
  have hn60 := hJ.2.2.2.2.2.2.1
  refine xM.of RX8 hl (by decide +kernel) rfl (Nat.le_of_ble_eq_true rfl) rfl ?_
  intro p e s m args below meth cD C0 hini
  refine x_aload_n 0 1 C0 dX8_commands_0 rfl rfl rfl ?_
  refine x_iconst (v := 0) 2 C0 dX8_commands_1 rfl (by decide) ?_
  refine x_w (MW_self hM) ?_
  refine x_putf 18 5 C0 dX8_commands_2 rfl MR_MW.o (by show g.2 0 ≤ _; omega) rfl (by decide) inX8 tyX8_ok nmX8 mF_X8_198 rfl rfl rfl rfl (Nat.le_of_ble_eq_true rfl) ?_
  refine x_w (w1 := (MW g w (upd t 10 0) v bf sv pa lb ip td sg)) (MW_o rfl) ?_
  have hJ1 : MJ n (upd t 10 0) v bf sv pa sg := hJ.j_h (m := 0) (by decide) nI_0.symm
  refine x_aload_n 0 6 C0 dX8_commands_5 rfl rfl rfl ?_
  refine x_iconst (v := 0) 7 C0 dX8_commands_6 rfl (by decide) ?_
  refine x_putf 19 10 C0 dX8_commands_7 rfl MR_MW.o (by show g.2 0 ≤ _; omega) rfl (by decide) inX8 tyX8_ok nmX8 mF_X8_204 rfl rfl rfl rfl (Nat.le_of_ble_eq_true rfl) ?_
  refine x_w (w1 := (MW g w (upd (upd t 10 0) 11 0) v bf sv pa lb ip td sg)) (MW_o rfl) ?_
  have hJ2 : MJ n (upd (upd t 10 0) 11 0) v bf sv pa sg := hJ1.j_t (by decide)
  refine x_iconst (v := 1) 11 C0 dX8_commands_10 rfl (by decide) ?_
  refine x_istore_n [(1, .int 1), (0, .ref (g.2 0 + 258))] 12 C0 dX8_commands_11 rfl rfl (by decide) rfl ?_
  refine x_lv (lv1 := [(0, .ref (g.2 0 + 258)), (1, .int 1)]) [1, 0] rfl ?_
  refine x_aload_n 0 13 C0 dX8_commands_12 rfl rfl rfl ?_
  refine x_callV 16 C0 (e_X8_command0 l hl g _ _ n (upd (upd t 10 0) 11 0) v bf sv pa lb ip td sg MR_MW hJ2 (kP n ip 0) (mj_h hJ2 rfl (show (0 : Nat) < 2000 by decide)) rfl hdo) dX8_commands_13 rfl mC_X8_command mM_X8_223 mI_X8_command mV_X8_command mN_X8 yd_X8_command rfl rfl ⟨Nat.le_of_ble_eq_true rfl, Nat.le_of_ble_eq_true rfl⟩ MR_MW.o rfl rfl rfl rfl (Nat.le_of_ble_eq_true rfl) ⟨Nat.le_of_ble_eq_true rfl, Nat.le_of_ble_eq_true rfl⟩ (fun _ _ _ q => False.elim q) (fun r w1 sz1 hz hP => ?_)
  obtain ⟨rfl, rfl, tp3, td3, hJ3, hW3, hp3, hq3, hD3⟩ := hP
  obtain rfl : w1 = _ := hD3.elim (fun z => z.2) (fun z => absurd z.1 (by decide))
  refine x_w MW_MW ?_
  refine x_st (st1 := []) rfl ?_
  have hX : ∀ (ee : Nat) (nn : Int32) (tl tdl : Nat → Int32), MJ n tl v bf sv pa sg → tW t tl → tl 11 = 1 → tl 10 = nI ee → ee ≤ 60 → ctE n ip ee → xV p l e ({ frames := 6, cells := 0, slots := 0, locals := 135 }) s m args below meth cD (xQ g below (mR0 g w sz n t v bf sv pa lb ip sg) (fun _ _ _ => False) args s 0 0) g 2 (MW g w tl v bf sv pa lb ip tdl sg) sz (0 + 0) (0 + 0) 16 [(0, .ref (g.2 0 + 258)), (1, .int nn)] [] := by
    intro ee nn tl tdl hJl hWl h11 h10 he hE
    refine x_aload_n 0 17 C0 dX8_commands_16 rfl rfl rfl ?_
    refine x_getf (v := .int (tl 11)) 19 20 C0 dX8_commands_17 rfl MR_MW.o rfl (by decide) inX8 mF_X8_204 rfl ?_
    refine x_st (st1 := [.int 1]) (congrArg (fun z => Value.int z :: _) (h11)) ?_
    refine x_if_ne 64 23 C0 dX8_commands_20 rfl (by decide) (fun _ => ?_) (fun q => False.elim (by revert q; decide))
    refine x_iload_n 1 65 C0 dX8_commands_64 rfl rfl rfl ?_
    exact x_ireturn C0 dX8_commands_65 rfl rfl (Nat.le_of_ble_eq_true rfl) (Nat.le_of_ble_eq_true rfl) ⟨rfl, _, _, _, rfl, hJl, hWl, rfl, Or.inr ⟨h11, ee, he, hE, h10⟩⟩
  have loop16 : ∀ (N9 i : Nat) (tl tdl : Nat → Int32), i < 60 → 60 - i < N9 → MJ n tl v bf sv pa sg → tW t tl → tl 10 = nI (cRes n ip (kP n ip i)).2 → tl 11 = (if (cRes n ip (kP n ip i)).1 = true then 0 else 1) → (∀ j, j < i → kG n ip j) → xV p l e ({ frames := 6, cells := 0, slots := 0, locals := 135 }) s m args below meth cD (xQ g below (mR0 g w sz n t v bf sv pa lb ip sg) (fun _ _ _ => False) args s 0 0) g 2 (MW g w tl v bf sv pa lb ip tdl sg) sz (0 + 0) (0 + 0) 16 [(0, .ref (g.2 0 + 258)), (1, .int (nI (i + 1)))] [] := by
    intro N9
    induction N9 with
    | zero => intro i tl tdl h1 h2; omega
    | succ N9 ih =>
      intro i tl tdl hi hN hJl hWl h10 h11 hG
      have hkP := kP_s hn60 hG
      have he60 : (cRes n ip (kP n ip i)).2 ≤ 60 := mj_h hJl h10 (cRes_le n ip _ (by omega))
      cases hok : (cRes n ip (kP n ip i)).1
      · rw [hok] at h11
        exact hX _ _ _ _ hJl hWl h11 h10 he60 ⟨i, hG, Or.inl hok, he60, rfl⟩
      · rw [hok] at h11
        have h110 : tl 11 = 0 := h11
        have hen := en_le hn60 (by omega) hok
        refine x_aload_n 0 17 C0 dX8_commands_16 rfl rfl rfl ?_
        refine x_getf (v := .int (tl 11)) 19 20 C0 dX8_commands_17 rfl MR_MW.o rfl (by decide) inX8 mF_X8_204 rfl ?_
        refine x_st (st1 := [.int 0]) (congrArg (fun z => Value.int z :: _) (h110)) ?_
        refine x_if_ne 64 23 C0 dX8_commands_20 rfl (by decide) (fun q => False.elim (by revert q; decide)) (fun _ => ?_)
        refine x_aload_n 0 24 C0 dX8_commands_23 rfl rfl rfl ?_
        refine x_getf (v := .int (tl 1)) 1 27 C0 dX8_commands_24 rfl MR_MW.o rfl (by decide) inX8 mF_X8_38 rfl ?_
        refine x_st (st1 := [.int 0]) (congrArg (fun z => Value.int z :: _) (((hWl 1 (by decide) (by decide)).trans hf0))) ?_
        refine x_if_ne 64 30 C0 dX8_commands_27 rfl (by decide) (fun q => False.elim (by revert q; decide)) (fun _ => ?_)
        refine x_aload_n 0 31 C0 dX8_commands_30 rfl rfl rfl ?_
        refine x_getf (v := .int (tl 10)) 18 34 C0 dX8_commands_31 rfl MR_MW.o rfl (by decide) inX8 mF_X8_198 rfl ?_
        refine x_st (st1 := [.int (nI ((cRes n ip (kP n ip i)).2))]) (congrArg (fun z => Value.int z :: _) (h10)) ?_
        refine x_aload_n 0 35 C0 dX8_commands_34 rfl rfl rfl ?_
        refine x_getf (v := .int (tl 9)) 17 38 C0 dX8_commands_35 rfl MR_MW.o rfl (by decide) inX8 mF_X8_195 rfl ?_
        refine x_st (st1 := [.int (nI n), .int (nI ((cRes n ip (kP n ip i)).2))]) (congrArg (fun z => Value.int z :: _) (hJl.2.2.2.2.2.1)) ?_
        refine x_icmp_ge 64 41 C0 dX8_commands_38 rfl (by decide) (fun c7 => ?_) (fun c7 => ?_)
        · have hE9 : n ≤ (cRes n ip (kP n ip i)).2 := (nI_leI (by omega) (by omega)).mp c7
          refine x_iload_n 1 65 C0 dX8_commands_64 rfl rfl rfl ?_
          exact x_ireturn C0 dX8_commands_65 rfl rfl (Nat.le_of_ble_eq_true rfl) (Nat.le_of_ble_eq_true rfl) ⟨rfl, _, _, _, rfl, hJl, hWl, rfl, Or.inl ⟨h110, i, ⟨hi, hG, hok, by omega⟩, rfl⟩⟩
        · have hL9 : (cRes n ip (kP n ip i)).2 < n := Nat.lt_of_not_le (fun z => c7 ((nI_leI (by omega) (by omega)).mpr z))
          refine x_aload_n 0 42 C0 dX8_commands_41 rfl rfl rfl ?_
          refine x_bipush (v := 59) 44 C0 dX8_commands_42 rfl (by decide) ?_
          refine x_callV 47 C0 (e_X8_mark l hl g _ _ n tl v bf sv pa lb ip tdl sg MR_MW hJl ((cRes n ip (kP n ip i)).2) (mj_h hJl h10 (by omega)) h10 59 (by decide)) dX8_commands_44 rfl mC_X8_mark mM_X8_214 mI_X8_mark mV_X8_mark mN_X8 yd_X8_mark rfl rfl ⟨Nat.le_of_ble_eq_true rfl, Nat.le_of_ble_eq_true rfl⟩ MR_MW.o rfl rfl rfl rfl (Nat.le_of_ble_eq_true rfl) ⟨Nat.le_of_ble_eq_true rfl, Nat.le_of_ble_eq_true rfl⟩ (fun _ _ _ q => False.elim q) (fun r w1 sz1 hz hP => ?_)
          obtain ⟨rfl, t8, rfl, hJ8, hW8, hR8⟩ := hP
          refine x_w MW_MW ?_
          rcases hR8 with ⟨hz8, rfl, ht8⟩ | ⟨hz8, hd8, rfl, hwr8, hp8⟩ | ⟨hz8, hd8, rfl, hwr8, hp8⟩
          · exact absurd h110 hz8
          · refine x_st (st1 := []) rfl ?_
            refine x_aload_n 0 48 C0 dX8_commands_47 rfl rfl rfl ?_
            refine x_getf (v := .int (t8 11)) 19 51 C0 dX8_commands_48 rfl MR_MW.o rfl (by decide) inX8 mF_X8_204 rfl ?_
            refine x_st (st1 := [.int 1]) (congrArg (fun z => Value.int z :: _) (hwr8)) ?_
            refine x_if_ne 58 54 C0 dX8_commands_51 rfl (by decide) (fun _ => ?_) (fun q => False.elim (by revert q; decide))
            refine x_iinc [(1, .int (nI (i + 1 + 1))), (0, .ref (g.2 0 + 258))] 1 61 C0 dX8_commands_58 rfl rfl (nI_1 (i + 1)) (by decide) rfl ?_
            refine x_lv (lv1 := [(0, .ref (g.2 0 + 258)), (1, .int (nI (i + 1 + 1)))]) [1, 0] rfl ?_
            refine x_goto 16 C0 dX8_commands_61 (by decide) ?_
            exact hX _ _ _ _ hJ8 (tW.tr hWl hW8) hwr8 ((hp8).trans rfl) he60 ⟨i, hG, Or.inr ⟨by omega, hd8⟩, he60, rfl⟩
          · have hG2 : ∀ j, j < i + 1 → kG n ip j := fun j hj => (Nat.lt_or_ge j i).elim (hG j) (fun z => by rw [show j = i by omega]; exact ⟨hok, hd8⟩)
            refine x_st (st1 := []) rfl ?_
            refine x_aload_n 0 48 C0 dX8_commands_47 rfl rfl rfl ?_
            refine x_getf (v := .int (t8 11)) 19 51 C0 dX8_commands_48 rfl MR_MW.o rfl (by decide) inX8 mF_X8_204 rfl ?_
            refine x_st (st1 := [.int 0]) (congrArg (fun z => Value.int z :: _) (hwr8)) ?_
            refine x_if_ne 58 54 C0 dX8_commands_51 rfl (by decide) (fun q => False.elim (by revert q; decide)) (fun _ => ?_)
            refine x_aload_n 0 55 C0 dX8_commands_54 rfl rfl rfl ?_
            refine x_callV 58 C0 (e_X8_command0 l hl g _ _ n t8 v bf sv pa lb ip tdl sg MR_MW hJ8 (kP n ip (i + 1)) (mj_h hJ8 hp8 (by have := kP_s hn60 hG2; omega)) hp8 (((tW.tr hWl hW8) 12 (by decide) (by decide)).trans hdo)) dX8_commands_55 rfl mC_X8_command mM_X8_223 mI_X8_command mV_X8_command mN_X8 yd_X8_command rfl rfl ⟨Nat.le_of_ble_eq_true rfl, Nat.le_of_ble_eq_true rfl⟩ MR_MW.o rfl rfl rfl rfl (Nat.le_of_ble_eq_true rfl) ⟨Nat.le_of_ble_eq_true rfl, Nat.le_of_ble_eq_true rfl⟩ (fun _ _ _ q => False.elim q) (fun r w1 sz1 hz hP => ?_)
            obtain ⟨rfl, rfl, tp11, td11, hJ11, hW11, hp11, hq11, hD11⟩ := hP
            obtain rfl : w1 = _ := hD11.elim (fun z => z.2) (fun z => absurd z.1 (by decide))
            refine x_w MW_MW ?_
            refine x_st (st1 := []) rfl ?_
            refine x_iinc [(1, .int (nI (i + 1 + 1))), (0, .ref (g.2 0 + 258))] 1 61 C0 dX8_commands_58 rfl rfl (nI_1 (i + 1)) (by decide) rfl ?_
            refine x_lv (lv1 := [(0, .ref (g.2 0 + 258)), (1, .int (nI (i + 1 + 1)))]) [1, 0] rfl ?_
            refine x_goto 16 C0 dX8_commands_61 (by decide) ?_
            exact ih (i + 1) _ _ (by have := kP_ge (i + 1) hG2; have := kP_s hn60 hG2; omega) (by have := kP_ge (i + 1) hG2; have := kP_s hn60 hG2; omega) hJ11 (tW.tr (tW.tr hWl hW8) hW11) hp11 hq11 hG2
  exact loop16 61 0 _ _ (by omega) (by omega) hJ3 (tW.tr (fun q z1 z2 => (if_neg z2).trans (if_neg z1)) hW3) hp3 hq3 (fun j hj => absurd hj (Nat.not_lt_zero j))

set_option maxHeartbeats 4000000 in
set_option maxRecDepth 100000 in
theorem e_X8_commands1 (l : Launch) (hl : l.stackTraces = false) (g : xg_T) (w : xw_T) (sz n : Nat) (t v bf sv pa lb ip td sg : Nat → Int32) (hM : MR g w t v bf sv pa lb ip td sg) (hJ : MJ n t v bf sv pa sg) (hdo : t 12 = 1) (hf0 : t 1 = 0) (N : Nat) (hN : ctN n ip N) : xM l g yX8_commands cX8_commands 2 (some .int) ({ frames := 6, cells := 0, slots := 0, locals := 135 }) 0 0 [.ref (g.2 0 + 258)] w sz (mR1 g w sz n t v bf sv pa ip sg N) (fun _ _ _ => False) := by
  have hn60 := hJ.2.2.2.2.2.2.1
  have hok := hN.ok
  have hN4 := hN.2.2.2
  have hN60 := hN.1
  refine xM.of RX8 hl (by decide +kernel) rfl (Nat.le_of_ble_eq_true rfl) rfl ?_
  intro p e s m args below meth cD C0 hini
  refine x_aload_n 0 1 C0 dX8_commands_0 rfl rfl rfl ?_
  refine x_iconst (v := 0) 2 C0 dX8_commands_1 rfl (by decide) ?_
  refine x_w (MW_self hM) ?_
  refine x_putf 18 5 C0 dX8_commands_2 rfl MR_MW.o (by show g.2 0 ≤ _; omega) rfl (by decide) inX8 tyX8_ok nmX8 mF_X8_198 rfl rfl rfl rfl (Nat.le_of_ble_eq_true rfl) ?_
  refine x_w (w1 := (MW g w (upd t 10 0) v bf sv pa lb ip td sg)) (MW_o rfl) ?_
  have hJ1 : MJ n (upd t 10 0) v bf sv pa sg := hJ.j_h (m := 0) (by decide) nI_0.symm
  refine x_aload_n 0 6 C0 dX8_commands_5 rfl rfl rfl ?_
  refine x_iconst (v := 0) 7 C0 dX8_commands_6 rfl (by decide) ?_
  refine x_putf 19 10 C0 dX8_commands_7 rfl MR_MW.o (by show g.2 0 ≤ _; omega) rfl (by decide) inX8 tyX8_ok nmX8 mF_X8_204 rfl rfl rfl rfl (Nat.le_of_ble_eq_true rfl) ?_
  refine x_w (w1 := (MW g w (upd (upd t 10 0) 11 0) v bf sv pa lb ip td sg)) (MW_o rfl) ?_
  have hJ2 : MJ n (upd (upd t 10 0) 11 0) v bf sv pa sg := hJ1.j_t (by decide)
  refine x_iconst (v := 1) 11 C0 dX8_commands_10 rfl (by decide) ?_
  refine x_istore_n [(1, .int 1), (0, .ref (g.2 0 + 258))] 12 C0 dX8_commands_11 rfl rfl (by decide) rfl ?_
  refine x_lv (lv1 := [(0, .ref (g.2 0 + 258)), (1, .int 1)]) [1, 0] rfl ?_
  refine x_aload_n 0 13 C0 dX8_commands_12 rfl rfl rfl ?_
  refine x_callV 16 C0 (e_X8_command1 l hl g _ _ n (upd (upd t 10 0) 11 0) v bf sv pa lb ip td sg MR_MW hJ2 (kP n ip 0) (mj_h hJ2 rfl (show (0 : Nat) < 2000 by decide)) rfl hdo) dX8_commands_13 rfl mC_X8_command mM_X8_223 mI_X8_command mV_X8_command mN_X8 yd_X8_command rfl rfl ⟨Nat.le_of_ble_eq_true rfl, Nat.le_of_ble_eq_true rfl⟩ MR_MW.o rfl rfl rfl rfl (Nat.le_of_ble_eq_true rfl) ⟨Nat.le_of_ble_eq_true rfl, Nat.le_of_ble_eq_true rfl⟩ (fun _ _ _ q => False.elim q) (fun r w1 sz1 hz hP => ?_)
  obtain ⟨rfl, rfl, tp3, td3, hJ3, hW3, hp3, hq3, hD3⟩ := hP
  obtain ⟨-, -, r3, t3, v3, lb3, rfl, hK3, ht3, hX3⟩ := hD3.resolve_left (fun z => z.1.elim (fun y => absurd y (by decide)) (fun y => by rw [(hok.1 0 (by omega))] at y; exact absurd y (by decide)))
  refine x_w MW_MW ?_
  refine x_st (st1 := []) rfl ?_
  have loop16 : ∀ (N9 i : Nat) (tl vl lbl tdl : Nat → Int32), i ≤ N → N - i < N9 → MJ n tl vl bf sv pa sg → tY t tl → tl 10 = nI (cRes n ip (kP n ip i)).2 → tl 11 = 0 → ((tl 1 = 0 ∧ SEQ n ip v (i + 1) vl) ∨ (¬ tl 1 = 0 ∧ ∃ (u tm : Nat → Int32) (rm : Option Value) (tm' : Nat → Int32), SEQ n ip v i u ∧ DOI n ip i tm u rm tm' vl ∧ tm 1 = 0 ∧ ¬ tm' 1 = 0)) → xV p l e ({ frames := 6, cells := 0, slots := 0, locals := 135 }) s m args below meth cD (xQ g below (mR1 g w sz n t v bf sv pa ip sg N) (fun _ _ _ => False) args s 0 0) g 2 (MW g w tl vl bf sv pa lbl ip tdl sg) sz (0 + 0) (0 + 0) 16 [(0, .ref (g.2 0 + 258)), (1, .int (nI (i + 1)))] [] := by
    intro N9
    induction N9 with
    | zero => intro i tl vl lbl tdl h1 h2; omega
    | succ N9 ih =>
      intro i tl vl lbl tdl hi hN hJl hY h10 h11 hS0
      have hkP := kP_s hn60 (fun j (hj : j < i) => (⟨hok.1 j (by omega), hok.2 j (by omega)⟩ : kG n ip j))
      have he60 : (cRes n ip (kP n ip i)).2 ≤ 60 := mj_h hJl h10 (cRes_le n ip _ (by omega))
      have hen := en_le hn60 (by omega) (hok.1 i (by omega))
      have hdl : tl 12 = 1 := (hY 12 (by decide)).trans hdo
      refine x_aload_n 0 17 C0 dX8_commands_16 rfl rfl rfl ?_
      refine x_getf (v := .int (tl 11)) 19 20 C0 dX8_commands_17 rfl MR_MW.o rfl (by decide) inX8 mF_X8_204 rfl ?_
      refine x_st (st1 := [.int 0]) (congrArg (fun z => Value.int z :: _) (h11)) ?_
      refine x_if_ne 64 23 C0 dX8_commands_20 rfl (by decide) (fun q => False.elim (by revert q; decide)) (fun _ => ?_)
      refine x_aload_n 0 24 C0 dX8_commands_23 rfl rfl rfl ?_
      refine x_getf (v := .int (tl 1)) 1 27 C0 dX8_commands_24 rfl MR_MW.o rfl (by decide) inX8 mF_X8_38 rfl ?_
      refine x_if_ne 64 30 C0 dX8_commands_27 rfl (by decide) (fun c5 => ?_) (fun c5 => ?_)
      · skip
        refine x_iload_n 1 65 C0 dX8_commands_64 rfl rfl rfl ?_
        exact x_ireturn C0 dX8_commands_65 rfl rfl (Nat.le_of_ble_eq_true rfl) (Nat.le_of_ble_eq_true rfl) ⟨rfl, _, _, _, _, i, rfl, hJl, hY, hi, rfl, Or.inr (hS0.resolve_left (fun z => c5 z.1))⟩
      · have h1 : tl 1 = 0 := c5
        have hS : tl 1 = 0 → SEQ n ip v (i + 1) vl := fun z => hS0.elim (fun y => y.2) (fun y => absurd z y.1)
        refine x_aload_n 0 31 C0 dX8_commands_30 rfl rfl rfl ?_
        refine x_getf (v := .int (tl 10)) 18 34 C0 dX8_commands_31 rfl MR_MW.o rfl (by decide) inX8 mF_X8_198 rfl ?_
        refine x_st (st1 := [.int (nI ((cRes n ip (kP n ip i)).2))]) (congrArg (fun z => Value.int z :: _) (h10)) ?_
        refine x_aload_n 0 35 C0 dX8_commands_34 rfl rfl rfl ?_
        refine x_getf (v := .int (tl 9)) 17 38 C0 dX8_commands_35 rfl MR_MW.o rfl (by decide) inX8 mF_X8_195 rfl ?_
        refine x_st (st1 := [.int (nI n), .int (nI ((cRes n ip (kP n ip i)).2))]) (congrArg (fun z => Value.int z :: _) (hJl.2.2.2.2.2.1)) ?_
        refine x_icmp_ge 64 41 C0 dX8_commands_38 rfl (by decide) (fun c6 => ?_) (fun c6 => ?_)
        · have hE9 : n ≤ (cRes n ip (kP n ip i)).2 := (nI_leI (by omega) (by omega)).mp c6
          have hNi : ¬ i < N := fun y => by have z2 := hok.2 i (by omega); have z3 := sgn_in (p := (cRes n ip (kP n ip i)).2) hn60 (by omega) (fun e => by rw [e] at z2; exact absurd z2 (by decide)); omega
          refine x_iload_n 1 65 C0 dX8_commands_64 rfl rfl rfl ?_
          exact x_ireturn C0 dX8_commands_65 rfl rfl (Nat.le_of_ble_eq_true rfl) (Nat.le_of_ble_eq_true rfl) ⟨rfl, _, _, _, _, i, rfl, hJl, hY, hi, rfl, Or.inl ⟨h1, by omega, by rw [show N = i by omega]; exact hS h1⟩⟩
        · have hL9 : (cRes n ip (kP n ip i)).2 < n := Nat.lt_of_not_le (fun z => c6 ((nI_leI (by omega) (by omega)).mpr z))
          have hiN : i < N := Nat.lt_of_le_of_ne hi (fun e => by rw [e, hN4] at hL9; exact absurd hL9 (Nat.lt_irrefl n))
          refine x_aload_n 0 42 C0 dX8_commands_41 rfl rfl rfl ?_
          refine x_bipush (v := 59) 44 C0 dX8_commands_42 rfl (by decide) ?_
          refine x_callV 47 C0 (e_X8_mark l hl g _ _ n tl vl bf sv pa lbl ip tdl sg MR_MW hJl ((cRes n ip (kP n ip i)).2) (mj_h hJl h10 (by omega)) h10 59 (by decide)) dX8_commands_44 rfl mC_X8_mark mM_X8_214 mI_X8_mark mV_X8_mark mN_X8 yd_X8_mark rfl rfl ⟨Nat.le_of_ble_eq_true rfl, Nat.le_of_ble_eq_true rfl⟩ MR_MW.o rfl rfl rfl rfl (Nat.le_of_ble_eq_true rfl) ⟨Nat.le_of_ble_eq_true rfl, Nat.le_of_ble_eq_true rfl⟩ (fun _ _ _ q => False.elim q) (fun r w1 sz1 hz hP => ?_)
          obtain ⟨rfl, t7, rfl, hJ7, hW7, hR7⟩ := hP
          refine x_w MW_MW ?_
          rcases hR7 with ⟨hz7, rfl, ht7⟩ | ⟨hz7, hd7, rfl, hwr7, hp7⟩ | ⟨hz7, hd7, rfl, hwr7, hp7⟩
          · exact absurd h11 hz7
          · exact absurd (hok.2 i (by omega)) hd7
          · refine x_st (st1 := []) rfl ?_
            refine x_aload_n 0 48 C0 dX8_commands_47 rfl rfl rfl ?_
            refine x_getf (v := .int (t7 11)) 19 51 C0 dX8_commands_48 rfl MR_MW.o rfl (by decide) inX8 mF_X8_204 rfl ?_
            refine x_st (st1 := [.int 0]) (congrArg (fun z => Value.int z :: _) (hwr7)) ?_
            refine x_if_ne 58 54 C0 dX8_commands_51 rfl (by decide) (fun q => False.elim (by revert q; decide)) (fun _ => ?_)
            refine x_aload_n 0 55 C0 dX8_commands_54 rfl rfl rfl ?_
            refine x_callV 58 C0 (e_X8_command1 l hl g _ _ n t7 vl bf sv pa lbl ip tdl sg MR_MW hJ7 (kP n ip (i + 1)) (mj_h hJ7 hp7 (by have := kP_s hn60 (fun j (hj : j < i + 1) => (⟨hok.1 j (by omega), hok.2 j (by omega)⟩ : kG n ip j)); omega)) hp7 ((hW7 12 (by decide) (by decide)).trans hdl)) dX8_commands_55 rfl mC_X8_command mM_X8_223 mI_X8_command mV_X8_command mN_X8 yd_X8_command rfl rfl ⟨Nat.le_of_ble_eq_true rfl, Nat.le_of_ble_eq_true rfl⟩ MR_MW.o rfl rfl rfl rfl (Nat.le_of_ble_eq_true rfl) ⟨Nat.le_of_ble_eq_true rfl, Nat.le_of_ble_eq_true rfl⟩ (fun _ _ _ q => False.elim q) (fun r w1 sz1 hz hP => ?_)
            obtain ⟨rfl, rfl, tp9, td9, hJ9, hW9, hp9, hq9, hD9⟩ := hP
            obtain ⟨-, -, r9, t9, v9, lb9, rfl, hK9, ht9, hX9⟩ := hD9.resolve_left (fun z => z.1.elim (fun y => absurd y (by decide)) (fun y => by rw [(hok.1 (i + 1) (by omega))] at y; exact absurd y (by decide)))
            refine x_w MW_MW ?_
            refine x_st (st1 := []) rfl ?_
            refine x_iinc [(1, .int (nI (i + 1 + 1))), (0, .ref (g.2 0 + 258))] 1 61 C0 dX8_commands_58 rfl rfl (nI_1 (i + 1)) (by decide) rfl ?_
            refine x_lv (lv1 := [(0, .ref (g.2 0 + 258)), (1, .int (nI (i + 1 + 1)))]) [1, 0] rfl ?_
            refine x_goto 16 C0 dX8_commands_61 (by decide) ?_
            exact ih (i + 1) _ _ _ _ (by omega) (by omega) hK9 (fun q z => (ht9 q (by omega)).trans ((hW9 q (by omega) (by omega)).trans ((hW7 q (by omega) (by omega)).trans (hY q z)))) ((ht9 10 (by decide)).trans hp9) ((ht9 11 (by decide)).trans (hq9.trans (if_pos (hok.1 (i + 1) (by omega))))) (by
                have ht0 : tp9 1 = 0 := (hW9 1 (by decide) (by decide)).trans ((hW7 1 (by decide) (by decide)).trans h1)
                have hS2 : SEQ n ip v (i + 1) vl := hS h1
                by_cases e : t9 1 = 0
                · exact Or.inl ⟨e, vl, tp9, r9, t9, hS2, hX9, ht0, e⟩
                · exact Or.inr ⟨e, vl, tp9, r9, t9, hS2, hX9, ht0, e⟩)
  exact loop16 (N + 1) 0 _ _ _ _ (Nat.zero_le _) (by omega) hK3 (fun q z => (ht3 q (by omega)).trans (((hW3 q (by omega) (by omega)).trans ((if_neg (by omega)).trans (if_neg (by omega)))))) ((ht3 10 (by decide)).trans hp3) ((ht3 11 (by decide)).trans (hq3.trans (if_pos (hok.1 0 (by omega))))) (by
      have ht0 : tp3 1 = 0 := (hW3 1 (by decide) (by decide)).trans hf0
      have hS2 : SEQ n ip v 0 v := fun _ _ => rfl
      by_cases e : t3 1 = 0
      · exact Or.inl ⟨e, v, tp3, r3, t3, hS2, hX3, ht0, e⟩
      · exact Or.inr ⟨e, v, tp3, r3, t3, hS2, hX3, ht0, e⟩)

set_option maxHeartbeats 4000000 in
set_option maxRecDepth 100000 in
theorem e_X8_perform (l : Launch) (hl : l.stackTraces = false) (g : xg_T) (w : xw_T) (sz n : Nat) (t v bf sv pa lb ip td sg : Nat → Int32) (hM : MR g w t v bf sv pa lb ip td sg) (hJ : MJ n t v bf sv pa sg) : xM l g yX8_perform cX8_perform 2 (some .int) ({ frames := 7, cells := 0, slots := 0, locals := 156 }) 0 0 [.ref (g.2 0 + 258)] w sz (mPf g w sz n t v sv pa ip sg) (fun _ _ _ => False) := by
  have hn60 := hJ.2.2.2.2.2.2.1
  refine xM.of RX8 hl (by decide +kernel) rfl (Nat.le_of_ble_eq_true rfl) rfl ?_
  intro p e s m args below meth cD C0 hini
  refine x_aload_n 0 1 C0 dX8_perform_0 rfl rfl rfl ?_
  refine x_callV 4 C0 (k_X8_begins l hl g _ _ n t v bf sv pa lb ip td sg hM hJ) dX8_perform_1 rfl mC_X8_begins mM_X8_85 mI_X8_begins mV_X8_begins mN_X8 yd_X8_begins rfl rfl ⟨Nat.le_of_ble_eq_true rfl, Nat.le_of_ble_eq_true rfl⟩ hM.o rfl rfl rfl rfl (Nat.le_of_ble_eq_true rfl) ⟨Nat.le_of_ble_eq_true rfl, Nat.le_of_ble_eq_true rfl⟩ (fun _ _ _ q => False.elim q) (fun r w1 sz1 hz hP => ?_)
  obtain ⟨rfl, rfl, bf1, rfl, hJ1, hb1⟩ := hP
  refine x_st (st1 := []) rfl ?_
  refine x_aload_n 0 5 C0 dX8_perform_4 rfl rfl rfl ?_
  refine x_iconst (v := 0) 6 C0 dX8_perform_5 rfl (by decide) ?_
  refine x_putf 20 9 C0 dX8_perform_6 rfl MR_MW.o (by show g.2 0 ≤ _; omega) rfl (by decide) inX8 tyX8_ok nmX8 mF_X8_217 rfl rfl rfl rfl (Nat.le_of_ble_eq_true rfl) ?_
  refine x_w (w1 := (MW g w (upd (upd (upd t 0 0) 1 0) 12 0) v bf1 sv pa lb ip td sg)) (MW_o rfl) ?_
  have hJ2 : MJ n (upd (upd (upd t 0 0) 1 0) 12 0) v bf1 sv pa sg := hJ1.j_t (by decide)
  refine x_aload_n 0 10 C0 dX8_perform_9 rfl rfl rfl ?_
  refine x_callV 13 C0 (e_X8_commands0 l hl g _ _ n (upd (upd (upd t 0 0) 1 0) 12 0) v bf1 sv pa lb ip td sg MR_MW hJ2 rfl rfl) dX8_perform_10 rfl mC_X8_commands mM_X8_226 mI_X8_commands mV_X8_commands mN_X8 yd_X8_commands rfl rfl ⟨Nat.le_of_ble_eq_true rfl, Nat.le_of_ble_eq_true rfl⟩ MR_MW.o rfl rfl rfl rfl (Nat.le_of_ble_eq_true rfl) ⟨Nat.le_of_ble_eq_true rfl, Nat.le_of_ble_eq_true rfl⟩ (fun _ _ _ q => False.elim q) (fun r w1 sz1 hz hP => ?_)
  obtain ⟨rfl, t3, td3, nn3, rfl, hJ3, hW3, rfl, hR3⟩ := hP
  refine x_w MW_MW ?_
  rcases hR3 with ⟨h11, N, hN, rfl⟩ | ⟨h11, e9, he9, hE9, h10⟩
  · refine x_st (st1 := [.int (nI (N + 1))]) rfl ?_
    refine x_istore_n [(1, .int (nI (N + 1))), (0, .ref (g.2 0 + 258))] 14 C0 dX8_perform_13 rfl rfl (by decide) rfl ?_
    refine x_lv (lv1 := [(0, .ref (g.2 0 + 258)), (1, .int (nI (N + 1)))]) [1, 0] rfl ?_
    refine x_aload_n 0 15 C0 dX8_perform_14 rfl rfl rfl ?_
    refine x_getf (v := .int (t3 11)) 19 18 C0 dX8_perform_15 rfl MR_MW.o rfl (by decide) inX8 mF_X8_204 rfl ?_
    refine x_st (st1 := [.int 0]) (congrArg (fun z => Value.int z :: _) (h11)) ?_
    refine x_if_eq 34 21 C0 dX8_perform_18 rfl (by decide) (fun _ => ?_) (fun q => False.elim (by revert q; decide))
    refine x_aload_n 0 35 C0 dX8_perform_34 rfl rfl rfl ?_
    refine x_iconst (v := 1) 36 C0 dX8_perform_35 rfl (by decide) ?_
    refine x_putf 20 39 C0 dX8_perform_36 rfl MR_MW.o (by show g.2 0 ≤ _; omega) rfl (by decide) inX8 tyX8_ok nmX8 mF_X8_217 rfl rfl rfl rfl (Nat.le_of_ble_eq_true rfl) ?_
    refine x_w (w1 := (MW g w (upd t3 12 1) v bf1 sv pa lb ip td3 sg)) (MW_o rfl) ?_
    have hJ5 : MJ n (upd t3 12 1) v bf1 sv pa sg := hJ3.j_t (by decide)
    refine x_aload_n 0 40 C0 dX8_perform_39 rfl rfl rfl ?_
    refine x_callV 43 C0 (e_X8_commands1 l hl g _ _ n (upd t3 12 1) v bf1 sv pa lb ip td3 sg MR_MW hJ5 rfl ((if_neg (by decide)).trans ((hW3 1 (by decide) (by decide)).trans rfl)) N hN) dX8_perform_40 rfl mC_X8_commands mM_X8_226 mI_X8_commands mV_X8_commands mN_X8 yd_X8_commands rfl rfl ⟨Nat.le_of_ble_eq_true rfl, Nat.le_of_ble_eq_true rfl⟩ MR_MW.o rfl rfl rfl rfl (Nat.le_of_ble_eq_true rfl) ⟨Nat.le_of_ble_eq_true rfl, Nat.le_of_ble_eq_true rfl⟩ (fun _ _ _ q => False.elim q) (fun r w1 sz1 hz hP => ?_)
    obtain ⟨rfl, t6, v6, lb6, td6, q9, rfl, hJ6, hY6, hq9, rfl, hR6⟩ := hP
    refine x_w MW_MW ?_
    rcases hR6 with ⟨h1z, hqN, hS9⟩ | ⟨h1z, hB9⟩
    · refine x_st (st1 := [.int (nI (q9 + 1))]) rfl ?_
      refine x_istore_n [(1, .int (nI (q9 + 1))), (0, .ref (g.2 0 + 258))] 44 C0 dX8_perform_43 rfl rfl (by decide) rfl ?_
      refine x_lv (lv1 := [(0, .ref (g.2 0 + 258)), (1, .int (nI (q9 + 1)))]) [1, 0] rfl ?_
      refine x_aload_n 0 45 C0 dX8_perform_44 rfl rfl rfl ?_
      refine x_iconst (v := 0) 46 C0 dX8_perform_45 rfl (by decide) ?_
      refine x_putf 17 49 C0 dX8_perform_46 rfl MR_MW.o (by show g.2 0 ≤ _; omega) rfl (by decide) inX8 tyX8_ok nmX8 mF_X8_195 rfl rfl rfl rfl (Nat.le_of_ble_eq_true rfl) ?_
      refine x_w (w1 := (MW g w (upd t6 9 0) v6 bf1 sv pa lb6 ip td6 sg)) (MW_o rfl) ?_
      have hJ7 : MJ 0 (upd t6 9 0) v6 bf1 sv pa sg := hJ6.j_n (m := 0) (by decide) nI_0.symm
      refine x_aload_n 0 50 C0 dX8_perform_49 rfl rfl rfl ?_
      refine x_getf (v := .int (t6 1)) 1 53 C0 dX8_perform_50 rfl MR_MW.o rfl (by decide) inX8 mF_X8_38 rfl ?_
      refine x_if_eq 66 56 C0 dX8_perform_53 rfl (by decide) (fun c8 => ?_) (fun c8 => ?_)
      · skip
        refine x_aload_n 0 67 C0 dX8_perform_66 rfl rfl rfl ?_
        refine x_iload_n 1 68 C0 dX8_perform_67 rfl rfl rfl ?_
        refine x_iconst (v := 0) 69 C0 dX8_perform_68 rfl (by decide) ?_
        refine x_iconst (v := 0) 70 C0 dX8_perform_69 rfl (by decide) ?_
        refine x_iconst (v := 1) 71 C0 dX8_perform_70 rfl (by decide) ?_
        refine x_callV 74 C0 (k_X8_ends l hl g _ _ 0 (upd t6 9 0) v6 bf1 sv pa lb6 ip td6 sg MR_MW hJ7 (nI (q9 + 1)) 0 0 1) dX8_perform_71 rfl mC_X8_ends mM_X8_92 mI_X8_ends mV_X8_ends mN_X8 yd_X8_ends rfl rfl ⟨Nat.le_of_ble_eq_true rfl, Nat.le_of_ble_eq_true rfl⟩ MR_MW.o rfl rfl rfl rfl (Nat.le_of_ble_eq_true rfl) ⟨Nat.le_of_ble_eq_true rfl, Nat.le_of_ble_eq_true rfl⟩ (fun _ _ _ q => False.elim q) (fun r w1 sz1 hz hP => ?_)
        obtain ⟨rfl, t9, v9, pa9, rfl, hJ9, h79, h109, hE9⟩ := hP
        refine x_w MW_MW ?_
        obtain ⟨a9, rfl⟩ := endP_r hE9
        refine x_st (st1 := [.int a9]) rfl ?_
        exact x_ireturn C0 dX8_perform_74 rfl rfl (Nat.le_of_ble_eq_true rfl) (Nat.le_of_ble_eq_true rfl) ⟨rfl, _, _, _, _, _, _, rfl, hJ9, h79.trans ((if_neg (by decide)).trans ((hY6 7 (by decide)).trans ((if_neg (by decide)).trans ((hW3 7 (by decide) (by decide)).trans rfl)))), Or.inr ⟨N, _, _, _, _, hN, hb1, ((if_neg (by decide)).trans ((hY6 2 (by decide)).trans ((if_neg (by decide)).trans ((hW3 2 (by decide) (by decide)).trans rfl)))), ((if_neg (by decide)).trans ((hY6 0 (by decide)).trans ((if_neg (by decide)).trans ((hW3 0 (by decide) (by decide)).trans rfl)))), hE9, Or.inl ⟨(if_neg (by decide)).trans h1z, by rw [hqN], hS9⟩⟩⟩
      · exact absurd h1z c8
    · refine x_st (st1 := [.int (nI (q9 + 1))]) rfl ?_
      refine x_istore_n [(1, .int (nI (q9 + 1))), (0, .ref (g.2 0 + 258))] 44 C0 dX8_perform_43 rfl rfl (by decide) rfl ?_
      refine x_lv (lv1 := [(0, .ref (g.2 0 + 258)), (1, .int (nI (q9 + 1)))]) [1, 0] rfl ?_
      refine x_aload_n 0 45 C0 dX8_perform_44 rfl rfl rfl ?_
      refine x_iconst (v := 0) 46 C0 dX8_perform_45 rfl (by decide) ?_
      refine x_putf 17 49 C0 dX8_perform_46 rfl MR_MW.o (by show g.2 0 ≤ _; omega) rfl (by decide) inX8 tyX8_ok nmX8 mF_X8_195 rfl rfl rfl rfl (Nat.le_of_ble_eq_true rfl) ?_
      refine x_w (w1 := (MW g w (upd t6 9 0) v6 bf1 sv pa lb6 ip td6 sg)) (MW_o rfl) ?_
      have hJ10 : MJ 0 (upd t6 9 0) v6 bf1 sv pa sg := hJ6.j_n (m := 0) (by decide) nI_0.symm
      refine x_aload_n 0 50 C0 dX8_perform_49 rfl rfl rfl ?_
      refine x_getf (v := .int (t6 1)) 1 53 C0 dX8_perform_50 rfl MR_MW.o rfl (by decide) inX8 mF_X8_38 rfl ?_
      refine x_if_eq 66 56 C0 dX8_perform_53 rfl (by decide) (fun c11 => ?_) (fun c11 => ?_)
      · exact absurd c11 h1z
      · skip
        refine x_aload_n 0 57 C0 dX8_perform_56 rfl rfl rfl ?_
        refine x_bipush (v := 19) 59 C0 dX8_perform_57 rfl (by decide) ?_
        refine x_iload_n 1 60 C0 dX8_perform_59 rfl rfl rfl ?_
        refine x_iconst (v := 1) 61 C0 dX8_perform_60 rfl (by decide) ?_
        refine x_isub 62 C0 dX8_perform_61 rfl ?_
        refine x_callV 65 C0 (k_X8_refuses l hl g _ _ 0 (upd t6 9 0) v6 bf1 sv pa lb6 ip td6 sg MR_MW hJ10 19 ((nI (q9 + 1)) - 1)) dX8_perform_62 rfl mC_X8_refuses mM_X8_82 mI_X8_refuses mV_X8_refuses mN_X8 yd_X8_refuses rfl rfl ⟨Nat.le_of_ble_eq_true rfl, Nat.le_of_ble_eq_true rfl⟩ MR_MW.o rfl rfl rfl rfl (Nat.le_of_ble_eq_true rfl) ⟨Nat.le_of_ble_eq_true rfl, Nat.le_of_ble_eq_true rfl⟩ (fun _ _ _ q => False.elim q) (fun r w1 sz1 hz hP => ?_)
        obtain ⟨rfl, rfl, rfl⟩ := hP
        refine x_w MW_MW ?_
        have hJ12 : MJ 0 (upd (upd (upd (upd t6 9 0) 5 19) 6 ((nI (q9 + 1)) - 1)) 1 3) v6 bf1 sv pa sg := (((hJ10.j_t (by decide)).j_t (by decide)).j_t (by decide))
        refine x_st (st1 := [.int 0]) rfl ?_
        refine x_istore_n [(1, .int 0), (0, .ref (g.2 0 + 258))] 66 C0 dX8_perform_65 rfl rfl (by decide) rfl ?_
        refine x_lv (lv1 := [(0, .ref (g.2 0 + 258)), (1, .int 0)]) [1, 0] rfl ?_
        refine x_aload_n 0 67 C0 dX8_perform_66 rfl rfl rfl ?_
        refine x_iload_n 1 68 C0 dX8_perform_67 rfl rfl rfl ?_
        refine x_iconst (v := 0) 69 C0 dX8_perform_68 rfl (by decide) ?_
        refine x_iconst (v := 0) 70 C0 dX8_perform_69 rfl (by decide) ?_
        refine x_iconst (v := 1) 71 C0 dX8_perform_70 rfl (by decide) ?_
        refine x_callV 74 C0 (k_X8_ends l hl g _ _ 0 (upd (upd (upd (upd t6 9 0) 5 19) 6 ((nI (q9 + 1)) - 1)) 1 3) v6 bf1 sv pa lb6 ip td6 sg MR_MW hJ12 0 0 0 1) dX8_perform_71 rfl mC_X8_ends mM_X8_92 mI_X8_ends mV_X8_ends mN_X8 yd_X8_ends rfl rfl ⟨Nat.le_of_ble_eq_true rfl, Nat.le_of_ble_eq_true rfl⟩ MR_MW.o rfl rfl rfl rfl (Nat.le_of_ble_eq_true rfl) ⟨Nat.le_of_ble_eq_true rfl, Nat.le_of_ble_eq_true rfl⟩ (fun _ _ _ q => False.elim q) (fun r w1 sz1 hz hP => ?_)
        obtain ⟨rfl, t13, v13, pa13, rfl, hJ13, h713, h1013, hE13⟩ := hP
        refine x_w MW_MW ?_
        obtain ⟨a13, rfl⟩ := endP_r hE13
        refine x_st (st1 := [.int a13]) rfl ?_
        exact x_ireturn C0 dX8_perform_74 rfl rfl (Nat.le_of_ble_eq_true rfl) (Nat.le_of_ble_eq_true rfl) ⟨rfl, _, _, _, _, _, _, rfl, hJ13, h713.trans ((if_neg (by decide)).trans ((if_neg (by decide)).trans ((if_neg (by decide)).trans ((if_neg (by decide)).trans ((hY6 7 (by decide)).trans ((if_neg (by decide)).trans ((hW3 7 (by decide) (by decide)).trans rfl))))))), Or.inr ⟨N, _, _, _, _, hN, hb1, ((if_neg (by decide)).trans ((if_neg (by decide)).trans ((if_neg (by decide)).trans ((if_neg (by decide)).trans ((hY6 2 (by decide)).trans ((if_neg (by decide)).trans ((hW3 2 (by decide) (by decide)).trans rfl))))))), ((if_neg (by decide)).trans ((if_neg (by decide)).trans ((if_neg (by decide)).trans ((if_neg (by decide)).trans ((hY6 0 (by decide)).trans ((if_neg (by decide)).trans ((hW3 0 (by decide) (by decide)).trans rfl))))))), hE13, Or.inr ⟨rfl, q9, by obtain ⟨u9, tm9, rm9, tn9, z1, z2, z3, z4⟩ := hB9; exact ⟨u9, tm9, rm9, tn9, _, hq9, z1, z2, z3, z4⟩⟩⟩⟩
  · refine x_st (st1 := [.int nn3]) rfl ?_
    refine x_istore_n [(1, .int nn3), (0, .ref (g.2 0 + 258))] 14 C0 dX8_perform_13 rfl rfl (by decide) rfl ?_
    refine x_lv (lv1 := [(0, .ref (g.2 0 + 258)), (1, .int nn3)]) [1, 0] rfl ?_
    refine x_aload_n 0 15 C0 dX8_perform_14 rfl rfl rfl ?_
    refine x_getf (v := .int (t3 11)) 19 18 C0 dX8_perform_15 rfl MR_MW.o rfl (by decide) inX8 mF_X8_204 rfl ?_
    refine x_st (st1 := [.int 1]) (congrArg (fun z => Value.int z :: _) (h11)) ?_
    refine x_if_eq 34 21 C0 dX8_perform_18 rfl (by decide) (fun q => False.elim (by revert q; decide)) (fun _ => ?_)
    refine x_aload_n 0 22 C0 dX8_perform_21 rfl rfl rfl ?_
    refine x_iconst (v := 0) 23 C0 dX8_perform_22 rfl (by decide) ?_
    refine x_putf 17 26 C0 dX8_perform_23 rfl MR_MW.o (by show g.2 0 ≤ _; omega) rfl (by decide) inX8 tyX8_ok nmX8 mF_X8_195 rfl rfl rfl rfl (Nat.le_of_ble_eq_true rfl) ?_
    refine x_w (w1 := (MW g w (upd t3 9 0) v bf1 sv pa lb ip td3 sg)) (MW_o rfl) ?_
    have hJ15 : MJ 0 (upd t3 9 0) v bf1 sv pa sg := hJ3.j_n (m := 0) (by decide) nI_0.symm
    refine x_bipush (v := (-100)) 28 C0 dX8_perform_26 rfl (by decide) ?_
    refine x_aload_n 0 29 C0 dX8_perform_28 rfl rfl rfl ?_
    refine x_getf (v := .int (t3 10)) 18 32 C0 dX8_perform_29 rfl MR_MW.o rfl (by decide) inX8 mF_X8_198 rfl ?_
    refine x_st (st1 := [.int (nI e9), .int (-100)]) (congrArg (fun z => Value.int z :: _) (h10)) ?_
    refine x_isub 33 C0 dX8_perform_32 rfl ?_
    exact x_ireturn C0 dX8_perform_33 rfl rfl (Nat.le_of_ble_eq_true rfl) (Nat.le_of_ble_eq_true rfl) ⟨rfl, _, _, _, _, _, _, rfl, hJ15, (if_neg (by decide)).trans ((hW3 7 (by decide) (by decide)).trans rfl), Or.inl ⟨e9, he9, hE9, rfl, (if_neg (by decide)).trans ((hW3 0 (by decide) (by decide)).trans rfl), (if_neg (by decide)).trans ((hW3 2 (by decide) (by decide)).trans rfl), rfl, rfl⟩⟩

