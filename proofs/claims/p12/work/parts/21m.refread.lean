/-! THE REFERENCE'S READER, EXACTLY -/
theorem mj_h {n : Nat} {t v bf sv pa sg : Nat → Int32} (h : MJ n t v bf sv pa sg) {q : Nat} (e : t 10 = nI q) (hq : q < 2000) : q ≤ 60 := by
  obtain ⟨m, hm, e2⟩ := h.2.2.2.2.2.2.2.1
  have := (nI_eq (by omega) (by omega)).mp (e2.symm.trans e)
  omega
theorem mj_s {n : Nat} {t v bf sv pa sg : Nat → Int32} (h : MJ n t v bf sv pa sg) {j : Nat} (hj : j < 77) : sg j = sgM j := h.2.2.2.2.2.2.2.2 j hj
theorem sgn_lt {n : Nat} {ip : Nat → Int32} {q : Nat} (hq : q < 2 ^ 31) (hn : n ≤ 60) (h : q < n) : sgn n ip q = ip q := by
  unfold sgn sgAt
  rw [if_pos ⟨nI_pos' hq, nI_lt h (by omega)⟩, nI_clamp hq]
theorem sgn_ge {n : Nat} {ip : Nat → Int32} {q : Nat} (hq : q < 2 ^ 31) (hn : n ≤ 60) (h : n ≤ q) : sgn n ip q = -1 := by
  unfold sgn sgAt
  rw [if_neg (fun z => nI_nlt h hq z.2)]
def tW (t t' : Nat → Int32) : Prop := ∀ i, ¬ i = 10 → ¬ i = 11 → t' i = t i
/-- an end of the reference's reader -/
def mQ (g : xg_T) (w : xw_T) (sz n : Nat) (t v bf sv pa lb ip td sg : Nat → Int32) (R : Option Value → (Nat → Int32) → Prop) : Option Value → xw_T → Nat → Prop := fun r w1 sz1 => sz = sz1 ∧ ∃ t', w1 = MW g w t' v bf sv pa lb ip td sg ∧ MJ n t' v bf sv pa sg ∧ tW t t' ∧ R r t'

set_option maxHeartbeats 4000000 in
set_option maxRecDepth 100000 in
theorem e_X8_sign (l : Launch) (hl : l.stackTraces = false) (g : xg_T) (w : xw_T) (sz n : Nat) (t v bf sv pa lb ip td sg : Nat → Int32) (hM : MR g w t v bf sv pa lb ip td sg) (hJ : MJ n t v bf sv pa sg) (h0 : Nat) (hh0 : h0 ≤ 60) (ht0 : t 10 = nI h0) : xM l g yX8_sign cX8_sign 1 (some .int) ({ frames := 0, cells := 0, slots := 0, locals := 0 }) 0 0 [.ref (g.2 0 + 258)] w sz (fun r w1 sz1 => r = some (.int (sgn n ip h0)) ∧ w = w1 ∧ sz = sz1) (fun _ _ _ => False) := by
  have hn60 := hJ.2.2.2.2.2.2.1
  refine xM.of RX8 hl (by decide +kernel) rfl (Nat.le_of_ble_eq_true rfl) rfl ?_
  intro p e s m args below meth cD C0 hini
  refine x_aload_n 0 1 C0 dX8_sign_0 rfl rfl rfl ?_
  refine x_getf (v := .int (t 10)) 18 4 C0 dX8_sign_1 rfl hM.o rfl (by decide) inX8 mF_X8_198 rfl ?_
  refine x_st (st1 := [.int (nI h0)]) (congrArg (fun z => Value.int z :: _) (ht0)) ?_
  refine x_aload_n 0 5 C0 dX8_sign_4 rfl rfl rfl ?_
  refine x_getf (v := .int (t 9)) 17 8 C0 dX8_sign_5 rfl hM.o rfl (by decide) inX8 mF_X8_195 rfl ?_
  refine x_st (st1 := [.int (nI n), .int (nI h0)]) (congrArg (fun z => Value.int z :: _) (hJ.2.2.2.2.2.1)) ?_
  refine x_icmp_ge 23 11 C0 dX8_sign_8 rfl (by decide) (fun c1 => ?_) (fun c1 => ?_)
  · have c1' := Int32.not_lt.mpr c1
    refine x_iconst (v := (-1)) 24 C0 dX8_sign_23 rfl (by decide) ?_
    exact x_ireturn C0 dX8_sign_24 rfl rfl (Nat.le_of_ble_eq_true rfl) (Nat.le_of_ble_eq_true rfl) ⟨by rw [sgn_ge (by omega) hn60 ((nI_leI (by omega) (by omega)).mp c1)], rfl, rfl⟩
  · have c1' := Int32.not_le.mp c1
    have hlt : h0 < n := Nat.lt_of_not_le (fun z => c1 (nI_le z (by omega)))
    refine x_aload_n 0 12 C0 dX8_sign_11 rfl rfl rfl ?_
    refine x_getf (v := .ref (g.2 0 + 258 + 6)) 14 15 C0 dX8_sign_12 rfl hM.o rfl (by decide) inX8 mF_X8_25 rfl ?_
    refine x_aload_n 0 16 C0 dX8_sign_15 rfl rfl rfl ?_
    refine x_getf (v := .int (t 10)) 18 19 C0 dX8_sign_16 rfl hM.o rfl (by decide) inX8 mF_X8_198 rfl ?_
    refine x_st (st1 := [.int (nI h0), .ref (g.2 0 + 258 + 6)]) (congrArg (fun z => Value.int z :: _) (ht0)) ?_
    refine x_iald 0 20 C0 dX8_sign_19 rfl hM.r_ip rfl (vp_in_nI (n := h0) (by omega) (by decide)) ?_
    refine x_st (st1 := [.int (ip h0)]) (congrArg (fun z => Value.int z :: _) (show ip (nI h0).toNatClampNeg = ip h0 from by rw [nI_clamp (by omega)])) ?_
    refine x_goto 24 C0 dX8_sign_20 (by decide) ?_
    exact x_ireturn C0 dX8_sign_24 rfl rfl (Nat.le_of_ble_eq_true rfl) (Nat.le_of_ble_eq_true rfl) ⟨by rw [sgn_lt (by omega) hn60 hlt], rfl, rfl⟩

set_option maxHeartbeats 4000000 in
set_option maxRecDepth 100000 in
theorem e_X8_word (l : Launch) (hl : l.stackTraces = false) (g : xg_T) (w : xw_T) (sz n : Nat) (t v bf sv pa lb ip td sg : Nat → Int32) (hM : MR g w t v bf sv pa lb ip td sg) (hJ : MJ n t v bf sv pa sg) (h0 : Nat) (hh0 : h0 ≤ 60) (ht0 : t 10 = nI h0) (a c b : Nat) (hac : a + c ≤ 11) (hbc : b + 1 = a + c) : xM l g yX8_word cX8_word 8 (some .int) ({ frames := 1, cells := 0, slots := 0, locals := 20 }) 0 0 [.ref (g.2 0 + 258), .int (nI a), .int (nI b)] w sz (mQ g w sz n t v bf sv pa lb ip td sg (fun r t' => t' 10 = nI (pwd n ip h0 a c) ∧ ((∃ k : Nat, k < c ∧ fwd n ip h0 a c = a + k ∧ r = some (.int (nI (a + k))) ∧ t' 11 = 0) ∨ (fwd n ip h0 a c = a + c ∧ r = some (.int 0) ∧ t' 11 = 1)))) (fun _ _ _ => False) := by
  have hn60 := hJ.2.2.2.2.2.2.1
  refine xM.of RX8 hl (by decide +kernel) rfl (Nat.le_of_ble_eq_true rfl) rfl ?_
  intro p e s m args below meth cD C0 hini
  refine x_sipush (v := 2047) 3 C0 dX8_word_0 rfl (by decide) ?_
  refine x_istore_n [(3, .int 2047), (0, .ref (g.2 0 + 258)), (1, .int (nI a)), (2, .int (nI b))] 4 C0 dX8_word_3 rfl rfl (by decide) rfl ?_
  refine x_lv (lv1 := [(0, .ref (g.2 0 + 258)), (1, .int (nI a)), (2, .int (nI b)), (3, .int 2047)]) [1, 2, 3, 0] rfl ?_
  refine x_iconst (v := 0) 5 C0 dX8_word_4 rfl (by decide) ?_
  refine x_istore [(4, .int 0), (0, .ref (g.2 0 + 258)), (1, .int (nI a)), (2, .int (nI b)), (3, .int 2047)] 7 C0 dX8_word_5 rfl (by decide) rfl ?_
  refine x_lv (lv1 := [(0, .ref (g.2 0 + 258)), (1, .int (nI a)), (2, .int (nI b)), (3, .int 2047), (4, .int 0)]) [1, 2, 3, 4, 0] rfl ?_
  refine x_w (MW_self hM) ?_
  have loop7 : ∀ (N i M : Nat) (tl : Nat → Int32), i ≤ 6 → 6 - i < N → MJ n tl v bf sv pa sg → tl 10 = nI (h0 + i) → tW t tl → oI n ip h0 a c M i → xV p l e ({ frames := 1, cells := 0, slots := 0, locals := 20 }) s m args below meth cD (xQ g below (mQ g w sz n t v bf sv pa lb ip td sg (fun r t' => t' 10 = nI (pwd n ip h0 a c) ∧ ((∃ k : Nat, k < c ∧ fwd n ip h0 a c = a + k ∧ r = some (.int (nI (a + k))) ∧ t' 11 = 0) ∨ (fwd n ip h0 a c = a + c ∧ r = some (.int 0) ∧ t' 11 = 1)))) (fun _ _ _ => False) args s 0 0) g 8 (MW g w tl v bf sv pa lb ip td sg) sz (0) (0) 7 [(0, .ref (g.2 0 + 258)), (1, .int (nI a)), (2, .int (nI b)), (3, .int (nI M)), (4, .int (nI i))] [] := by
    intro N
    induction N with
    | zero => intro i M tl h1 h2; omega
    | succ N ih =>
      intro i M tl hi hN hJl htl hkl hO
      refine x_iload 4 9 C0 dX8_word_7 rfl rfl ?_
      refine x_bipush (v := 6) 11 C0 dX8_word_9 rfl (by decide) ?_
      refine x_icmp_ge 153 14 C0 dX8_word_11 rfl (by decide) (fun c1 => ?_) (fun c1 => ?_)
      · exfalso
        have := (nI_leI (a := 6) (by omega) (by omega)).mp c1
        obtain rfl : i = 6 := by omega
        exact w_end hac hO
      · have hi2 : i < 6 := Nat.lt_of_not_le (fun z => c1 (nI_le (a := 6) z (by omega)))
        refine x_iconst (v := 0) 15 C0 dX8_word_14 rfl (by decide) ?_
        refine x_istore [(5, .int 0), (0, .ref (g.2 0 + 258)), (1, .int (nI a)), (2, .int (nI b)), (3, .int (nI M)), (4, .int (nI i))] 17 C0 dX8_word_15 rfl (by decide) rfl ?_
        refine x_lv (lv1 := [(0, .ref (g.2 0 + 258)), (1, .int (nI a)), (2, .int (nI b)), (3, .int (nI M)), (4, .int (nI i)), (5, .int 0)]) [1, 2, 3, 4, 5, 0] rfl ?_
        refine x_iconst (v := (-1)) 18 C0 dX8_word_17 rfl (by decide) ?_
        refine x_istore [(6, .int (-1)), (0, .ref (g.2 0 + 258)), (1, .int (nI a)), (2, .int (nI b)), (3, .int (nI M)), (4, .int (nI i)), (5, .int 0)] 20 C0 dX8_word_18 rfl (by decide) rfl ?_
        refine x_lv (lv1 := [(0, .ref (g.2 0 + 258)), (1, .int (nI a)), (2, .int (nI b)), (3, .int (nI M)), (4, .int (nI i)), (5, .int 0), (6, .int (-1))]) [1, 2, 3, 4, 5, 6, 0] rfl ?_
        refine x_iload_n 1 21 C0 dX8_word_20 rfl rfl rfl ?_
        refine x_istore [(7, .int (nI a)), (0, .ref (g.2 0 + 258)), (1, .int (nI a)), (2, .int (nI b)), (3, .int (nI M)), (4, .int (nI i)), (5, .int 0), (6, .int (-1))] 23 C0 dX8_word_21 rfl (by decide) rfl ?_
        refine x_lv (lv1 := [(0, .ref (g.2 0 + 258)), (1, .int (nI a)), (2, .int (nI b)), (3, .int (nI M)), (4, .int (nI i)), (5, .int 0), (6, .int (-1)), (7, .int (nI a))]) [1, 2, 3, 4, 5, 6, 7, 0] rfl ?_
        have loop23 : ∀ (N j G : Nat) (wo : Int32), a ≤ j → j ≤ a + c → a + c - j < N → nI9 n ip h0 a G j i wo → xV p l e ({ frames := 1, cells := 0, slots := 0, locals := 20 }) s m args below meth cD (xQ g below (mQ g w sz n t v bf sv pa lb ip td sg (fun r t' => t' 10 = nI (pwd n ip h0 a c) ∧ ((∃ k : Nat, k < c ∧ fwd n ip h0 a c = a + k ∧ r = some (.int (nI (a + k))) ∧ t' 11 = 0) ∨ (fwd n ip h0 a c = a + c ∧ r = some (.int 0) ∧ t' 11 = 1)))) (fun _ _ _ => False) args s 0 0) g 8 (MW g w tl v bf sv pa lb ip td sg) sz (0) (0) 23 [(0, .ref (g.2 0 + 258)), (1, .int (nI a)), (2, .int (nI b)), (3, .int (nI M)), (4, .int (nI i)), (5, .int (nI G)), (6, .int wo), (7, .int (nI j))] [] := by
          intro Nj
          induction Nj with
          | zero => intro j G wo h0 h1 h2; omega
          | succ Nj ihj =>
            intro j G wo haj hjb hNj hI
            refine x_iload 7 25 C0 dX8_word_23 rfl rfl ?_
            refine x_iload_n 2 26 C0 dX8_word_25 rfl rfl rfl ?_
            refine x_icmp_gt 103 29 C0 dX8_word_26 rfl (by decide) (fun c2 => ?_) (fun c2 => ?_)
            · have hj9 : j = a + c := by have := (nI_ltI (by omega) (by omega)).mp c2; omega
              have hI : nI9 n ip h0 a G (a + c) i wo := by rw [← hj9]; exact hI
              refine x_aload_n 0 104 C0 dX8_word_103 rfl rfl rfl ?_
              refine x_iload 5 106 C0 dX8_word_104 rfl rfl ?_
              refine x_if_ne 113 109 C0 dX8_word_106 rfl (by decide) (fun c3 => ?_) (fun c3 => ?_)
              · have hG9 : ¬ G = 0 := fun z => c3 (by rw [z]; rfl)
                refine x_iconst (v := 0) 114 C0 dX8_word_113 rfl (by decide) ?_
                refine x_putf 19 117 C0 dX8_word_114 rfl MR_MW.o (by show g.2 0 ≤ _; omega) rfl (by decide) inX8 tyX8_ok nmX8 mF_X8_204 rfl rfl rfl rfl (Nat.le_of_ble_eq_true rfl) ?_
                refine x_w (w1 := (MW g w (upd tl 11 0) v bf sv pa lb ip td sg)) (MW_o rfl) ?_
                have hJ4 : MJ n (upd tl 11 0) v bf sv pa sg := hJl.j_t (by decide)
                refine x_aload_n 0 118 C0 dX8_word_117 rfl rfl rfl ?_
                refine x_getf (v := .int 0) 19 121 C0 dX8_word_118 rfl MR_MW.o rfl (by decide) inX8 mF_X8_204 rfl ?_
                refine x_if_eq 126 124 C0 dX8_word_121 rfl (by decide) (fun _ => ?_) (fun q => False.elim (by revert q; decide))
                have hb60 : ¬ G = 0 → h0 + i + 1 ≤ 60 := fun z => by
                  obtain ⟨w9, hw9⟩ := Nat.exists_testBit_of_ne_zero z
                  have z2 := (hI.2.1 w9).mp hw9
                  have z3 := wc_sgn (z2.2.2 i (by omega))
                  have z4 := sgn_in hn60 (by omega) (fun e => sgM_ne (7 * w9 + i) (by omega) (z3.symm.trans e))
                  omega
                refine x_iload 5 128 C0 dX8_word_126 rfl rfl ?_
                refine x_istore_n [(3, .int (nI G)), (0, .ref (g.2 0 + 258)), (1, .int (nI a)), (2, .int (nI b)), (4, .int (nI i)), (5, .int (nI G)), (6, .int wo), (7, .int (nI j))] 129 C0 dX8_word_128 rfl rfl (by decide) rfl ?_
                refine x_lv (lv1 := [(0, .ref (g.2 0 + 258)), (1, .int (nI a)), (2, .int (nI b)), (3, .int (nI G)), (4, .int (nI i)), (5, .int (nI G)), (6, .int wo), (7, .int (nI j))]) [1, 2, 3, 0, 4, 5, 6, 7] rfl ?_
                refine x_aload_n 0 130 C0 dX8_word_129 rfl rfl rfl ?_
                refine x_dup 131 C0 dX8_word_130 rfl rfl ?_
                refine x_getf (v := .int (tl 10)) 18 134 C0 dX8_word_131 rfl MR_MW.o rfl (by decide) inX8 mF_X8_198 rfl ?_
                refine x_st (st1 := [.int (nI (h0 + i)), .ref (g.2 0 + 258)]) (congrArg (fun z => Value.int z :: _) (htl)) ?_
                refine x_iconst (v := 1) 135 C0 dX8_word_134 rfl (by decide) ?_
                refine x_iadd 136 C0 dX8_word_135 rfl ?_
                refine x_st (st1 := [.int (nI (h0 + i + 1)), .ref (g.2 0 + 258)]) (congrArg (fun z => Value.int z :: _) (nI_add (h0 + i) 1)) ?_
                refine x_putf 18 139 C0 dX8_word_136 rfl MR_MW.o (by show g.2 0 ≤ _; omega) rfl (by decide) inX8 tyX8_ok nmX8 mF_X8_198 rfl rfl rfl rfl (Nat.le_of_ble_eq_true rfl) ?_
                refine x_w (w1 := (MW g w (upd (upd tl 11 0) 10 (nI (h0 + i + 1))) v bf sv pa lb ip td sg)) (MW_o rfl) ?_
                have hJ6 : MJ n (upd (upd tl 11 0) 10 (nI (h0 + i + 1))) v bf sv pa sg := hJ4.j_h (m := h0 + i + 1) (hb60 hG9) rfl
                refine x_iload 6 141 C0 dX8_word_139 rfl rfl ?_
                refine x_if_lt 147 144 C0 dX8_word_141 rfl (by decide) (fun c7 => ?_) (fun c7 => ?_)
                · have c7' := Int32.not_le.mpr c7
                  refine x_iinc [(4, .int (nI (i + 1))), (0, .ref (g.2 0 + 258)), (1, .int (nI a)), (2, .int (nI b)), (3, .int (nI G)), (5, .int (nI G)), (6, .int wo), (7, .int (nI j))] 4 150 C0 dX8_word_147 rfl rfl (nI_1 i) (by decide) rfl ?_
                  refine x_lv (lv1 := [(0, .ref (g.2 0 + 258)), (1, .int (nI a)), (2, .int (nI b)), (3, .int (nI G)), (4, .int (nI (i + 1))), (5, .int (nI G)), (6, .int wo), (7, .int (nI j))]) [1, 2, 3, 4, 0, 5, 6, 7] rfl ?_
                  refine x_goto 7 C0 dX8_word_150 (by decide) ?_
                  exact x_lv [0, 1, 2, 3, 4] rfl (ih (i + 1) _ _ (by omega) (by omega) hJ6 rfl (fun q z1 z2 => (if_neg z1).trans ((if_neg z2).trans (hkl q z1 z2))) (w_next hac (by omega) hO hI hG9 c7))
                · have c7' := Int32.not_lt.mp c7
                  refine x_iload 6 146 C0 dX8_word_144 rfl rfl ?_
                  exact x_ireturn C0 dX8_word_146 rfl rfl (Nat.le_of_ble_eq_true rfl) (Nat.le_of_ble_eq_true rfl) ⟨rfl, _, rfl, hJ6, fun q z1 z2 => (if_neg z1).trans ((if_neg z2).trans (hkl q z1 z2)), by obtain ⟨k, hk, hw1, hw2, hw3⟩ := w_hit hac hi2 hO hI (Int32.not_lt.mp c7); exact ⟨by rw [pwd_y hw2 hk, hw3]; rfl, Or.inl ⟨k, hk, hw2, by rw [hw1], rfl⟩⟩⟩
              · have hG9 : G = 0 := (nI_eq (b := 0) (by have := hI.1; omega) (by omega)).mp c3
                refine x_iconst (v := 1) 110 C0 dX8_word_109 rfl (by decide) ?_
                refine x_goto 114 C0 dX8_word_110 (by decide) ?_
                refine x_putf 19 117 C0 dX8_word_114 rfl MR_MW.o (by show g.2 0 ≤ _; omega) rfl (by decide) inX8 tyX8_ok nmX8 mF_X8_204 rfl rfl rfl rfl (Nat.le_of_ble_eq_true rfl) ?_
                refine x_w (w1 := (MW g w (upd tl 11 1) v bf sv pa lb ip td sg)) (MW_o rfl) ?_
                have hJ8 : MJ n (upd tl 11 1) v bf sv pa sg := hJl.j_t (by decide)
                refine x_aload_n 0 118 C0 dX8_word_117 rfl rfl rfl ?_
                refine x_getf (v := .int 1) 19 121 C0 dX8_word_118 rfl MR_MW.o rfl (by decide) inX8 mF_X8_204 rfl ?_
                refine x_if_eq 126 124 C0 dX8_word_121 rfl (by decide) (fun q => False.elim (by revert q; decide)) (fun _ => ?_)
                refine x_iconst (v := 0) 125 C0 dX8_word_124 rfl (by decide) ?_
                exact x_ireturn C0 dX8_word_125 rfl rfl (Nat.le_of_ble_eq_true rfl) (Nat.le_of_ble_eq_true rfl) ⟨rfl, _, rfl, hJ8, fun q z1 z2 => (if_neg z2).trans (hkl q z1 z2), by have hw9 := w_bad hac hO hI hG9; exact ⟨by rw [pwd_n hw9.1, hw9.2]; exact htl, Or.inr ⟨hw9.1, rfl, rfl⟩⟩⟩
            · have hjc : j < a + c := by have := Nat.le_of_not_lt (fun z => c2 ((nI_ltI (by omega) (by omega)).mpr z)); omega
              refine x_iload_n 3 30 C0 dX8_word_29 rfl rfl rfl ?_
              refine x_iload 7 32 C0 dX8_word_30 rfl rfl ?_
              refine x_ishr 33 C0 dX8_word_32 rfl ?_
              refine x_iconst (v := 1) 34 C0 dX8_word_33 rfl (by decide) ?_
              refine x_iand 35 C0 dX8_word_34 rfl ?_
              refine x_if_eq 97 38 C0 dX8_word_35 rfl (by decide) (fun c10 => ?_) (fun c10 => ?_)
              · have hno : ¬ wP n ip h0 j (i + 1) := fun z => by have z2 := (hO.2.1 j haj hjc).mpr (z.le (Nat.le_succ i)); rw [(w_bit hO.1 (by omega)).mp c10] at z2; exact absurd z2 (by decide)
                refine x_iinc [(7, .int (nI (j + 1))), (0, .ref (g.2 0 + 258)), (1, .int (nI a)), (2, .int (nI b)), (3, .int (nI M)), (4, .int (nI i)), (5, .int (nI G)), (6, .int wo)] 7 100 C0 dX8_word_97 rfl rfl (nI_1 j) (by decide) rfl ?_
                refine x_lv (lv1 := [(0, .ref (g.2 0 + 258)), (1, .int (nI a)), (2, .int (nI b)), (3, .int (nI M)), (4, .int (nI i)), (5, .int (nI G)), (6, .int wo), (7, .int (nI (j + 1)))]) [1, 2, 3, 4, 5, 6, 7, 0] rfl ?_
                refine x_goto 23 C0 dX8_word_100 (by decide) ?_
                exact x_lv [0, 1, 2, 3, 4, 5, 6, 7] rfl (ihj (j + 1) _ _ (by omega) (by omega) (by omega) (hI.no hno))
              · have hwi : wP n ip h0 j i := by cases z9 : M.testBit j with | false => exact absurd ((w_bit hO.1 (by omega)).mpr z9) c10 | true => exact (hO.2.1 j haj hjc).mp z9
                refine x_aload_n 0 39 C0 dX8_word_38 rfl rfl rfl ?_
                refine x_getf (v := .ref (g.2 0 + 258 + 8)) 16 42 C0 dX8_word_39 rfl MR_MW.o rfl (by decide) inX8 mF_X8_31 rfl ?_
                refine x_bipush (v := 7) 44 C0 dX8_word_42 rfl (by decide) ?_
                refine x_iload 7 46 C0 dX8_word_44 rfl rfl ?_
                refine x_imul 47 C0 dX8_word_46 rfl ?_
                refine x_st (st1 := [.int (nI (7 * j)), .ref (g.2 0 + 258 + 8)]) (congrArg (fun z => Value.int z :: _) (nI_mulN 7 j)) ?_
                refine x_iload 4 49 C0 dX8_word_47 rfl rfl ?_
                refine x_iadd 50 C0 dX8_word_49 rfl ?_
                refine x_st (st1 := [.int (nI (7 * j + i)), .ref (g.2 0 + 258 + 8)]) (congrArg (fun z => Value.int z :: _) (nI_add (7 * j) i)) ?_
                refine x_iald 0 51 C0 dX8_word_50 rfl MR_MW.r_sg rfl (vp_in_nI (n := 7 * j + i) (by omega) (by decide)) ?_
                refine x_st (st1 := [.int (sg (7 * j + i))]) (congrArg (fun z => Value.int z :: _) (show sg (nI (7 * j + i)).toNatClampNeg = sg (7 * j + i) from by rw [nI_clamp (by omega)])) ?_
                refine x_aload_n 0 52 C0 dX8_word_51 rfl rfl rfl ?_
                refine x_callV 55 C0 (e_X8_sign l hl g _ _ n tl v bf sv pa lb ip td sg MR_MW hJl (h0 + i) (mj_h hJl htl (by omega)) htl) dX8_word_52 rfl mC_X8_sign mM_X8_201 mI_X8_sign mV_X8_sign mN_X8 yd_X8_sign rfl rfl ⟨Nat.le_of_ble_eq_true rfl, Nat.le_of_ble_eq_true rfl⟩ MR_MW.o rfl rfl rfl rfl (Nat.le_of_ble_eq_true rfl) ⟨Nat.le_of_ble_eq_true rfl, Nat.le_of_ble_eq_true rfl⟩ (fun _ _ _ q => False.elim q) (fun r w1 sz1 hz hP => ?_)
                obtain ⟨rfl, rfl, rfl⟩ := hP
                refine x_st (st1 := [.int (sgn n ip (h0 + i)), .int (sg (7 * j + i))]) rfl ?_
                refine x_icmp_eq 61 58 C0 dX8_word_55 rfl (by decide) (fun c11 => ?_) (fun c11 => ?_)
                · have hyes : wP n ip h0 j (i + 1) := wP_1 hwi (decide_eq_true (c11.symm.trans (mj_s hJl (by omega))))
                  have hgo := hI.go haj (by omega) hyes
                  refine x_iload 5 63 C0 dX8_word_61 rfl rfl ?_
                  refine x_iconst (v := 1) 64 C0 dX8_word_63 rfl (by decide) ?_
                  refine x_iload 7 66 C0 dX8_word_64 rfl rfl ?_
                  refine x_ishl 67 C0 dX8_word_66 rfl ?_
                  refine x_ior 68 C0 dX8_word_67 rfl ?_
                  refine x_st (st1 := [.int (nI (G ||| 2 ^ j))]) (congrArg (fun z => Value.int z :: _) (w_set (by omega))) ?_
                  refine x_istore [(5, .int (nI (G ||| 2 ^ j))), (0, .ref (g.2 0 + 258)), (1, .int (nI a)), (2, .int (nI b)), (3, .int (nI M)), (4, .int (nI i)), (6, .int wo), (7, .int (nI j))] 70 C0 dX8_word_68 rfl (by decide) rfl ?_
                  refine x_lv (lv1 := [(0, .ref (g.2 0 + 258)), (1, .int (nI a)), (2, .int (nI b)), (3, .int (nI M)), (4, .int (nI i)), (5, .int (nI (G ||| 2 ^ j))), (6, .int wo), (7, .int (nI j))]) [1, 2, 3, 4, 5, 0, 6, 7] rfl ?_
                  refine x_aload_n 0 71 C0 dX8_word_70 rfl rfl rfl ?_
                  refine x_getf (v := .ref (g.2 0 + 258 + 8)) 16 74 C0 dX8_word_71 rfl MR_MW.o rfl (by decide) inX8 mF_X8_31 rfl ?_
                  refine x_bipush (v := 7) 76 C0 dX8_word_74 rfl (by decide) ?_
                  refine x_iload 7 78 C0 dX8_word_76 rfl rfl ?_
                  refine x_imul 79 C0 dX8_word_78 rfl ?_
                  refine x_st (st1 := [.int (nI (7 * j)), .ref (g.2 0 + 258 + 8)]) (congrArg (fun z => Value.int z :: _) (nI_mulN 7 j)) ?_
                  refine x_iload 4 81 C0 dX8_word_79 rfl rfl ?_
                  refine x_iadd 82 C0 dX8_word_81 rfl ?_
                  refine x_st (st1 := [.int (nI (7 * j + i)), .ref (g.2 0 + 258 + 8)]) (congrArg (fun z => Value.int z :: _) (nI_add (7 * j) i)) ?_
                  refine x_iconst (v := 1) 83 C0 dX8_word_82 rfl (by decide) ?_
                  refine x_iadd 84 C0 dX8_word_83 rfl ?_
                  refine x_st (st1 := [.int (nI (7 * j + i + 1)), .ref (g.2 0 + 258 + 8)]) (congrArg (fun z => Value.int z :: _) (nI_add (7 * j + i) 1)) ?_
                  refine x_iald 0 85 C0 dX8_word_84 rfl MR_MW.r_sg rfl (vp_in_nI (n := 7 * j + i + 1) (by omega) (by decide)) ?_
                  refine x_st (st1 := [.int (sg (7 * j + i + 1))]) (congrArg (fun z => Value.int z :: _) (show sg (nI (7 * j + i + 1)).toNatClampNeg = sg (7 * j + i + 1) from by rw [nI_clamp (by omega)])) ?_
                  refine x_if_ne 93 88 C0 dX8_word_85 rfl (by decide) (fun c12 => ?_) (fun c12 => ?_)
                  · refine x_iload 6 95 C0 dX8_word_93 rfl rfl ?_
                    refine x_istore [(6, .int wo), (0, .ref (g.2 0 + 258)), (1, .int (nI a)), (2, .int (nI b)), (3, .int (nI M)), (4, .int (nI i)), (5, .int (nI (G ||| 2 ^ j))), (7, .int (nI j))] 97 C0 dX8_word_95 rfl (by decide) rfl ?_
                    refine x_lv (lv1 := [(0, .ref (g.2 0 + 258)), (1, .int (nI a)), (2, .int (nI b)), (3, .int (nI M)), (4, .int (nI i)), (5, .int (nI (G ||| 2 ^ j))), (6, .int wo), (7, .int (nI j))]) [1, 2, 3, 4, 5, 6, 0, 7] rfl ?_
                    refine x_iinc [(7, .int (nI (j + 1))), (0, .ref (g.2 0 + 258)), (1, .int (nI a)), (2, .int (nI b)), (3, .int (nI M)), (4, .int (nI i)), (5, .int (nI (G ||| 2 ^ j))), (6, .int wo)] 7 100 C0 dX8_word_97 rfl rfl (nI_1 j) (by decide) rfl ?_
                    refine x_lv (lv1 := [(0, .ref (g.2 0 + 258)), (1, .int (nI a)), (2, .int (nI b)), (3, .int (nI M)), (4, .int (nI i)), (5, .int (nI (G ||| 2 ^ j))), (6, .int wo), (7, .int (nI (j + 1)))]) [1, 2, 3, 4, 5, 6, 7, 0] rfl ?_
                    refine x_goto 23 C0 dX8_word_100 (by decide) ?_
                    exact x_lv [0, 1, 2, 3, 4, 5, 6, 7] rfl (ihj (j + 1) _ _ (by omega) (by omega) (by omega) (hgo.2 (fun z => c12 ((mj_s hJl (by omega)).trans z))))
                  · refine x_iload 7 90 C0 dX8_word_88 rfl rfl ?_
                    refine x_goto 95 C0 dX8_word_90 (by decide) ?_
                    refine x_istore [(6, .int (nI j)), (0, .ref (g.2 0 + 258)), (1, .int (nI a)), (2, .int (nI b)), (3, .int (nI M)), (4, .int (nI i)), (5, .int (nI (G ||| 2 ^ j))), (7, .int (nI j))] 97 C0 dX8_word_95 rfl (by decide) rfl ?_
                    refine x_lv (lv1 := [(0, .ref (g.2 0 + 258)), (1, .int (nI a)), (2, .int (nI b)), (3, .int (nI M)), (4, .int (nI i)), (5, .int (nI (G ||| 2 ^ j))), (6, .int (nI j)), (7, .int (nI j))]) [1, 2, 3, 4, 5, 6, 0, 7] rfl ?_
                    refine x_iinc [(7, .int (nI (j + 1))), (0, .ref (g.2 0 + 258)), (1, .int (nI a)), (2, .int (nI b)), (3, .int (nI M)), (4, .int (nI i)), (5, .int (nI (G ||| 2 ^ j))), (6, .int (nI j))] 7 100 C0 dX8_word_97 rfl rfl (nI_1 j) (by decide) rfl ?_
                    refine x_lv (lv1 := [(0, .ref (g.2 0 + 258)), (1, .int (nI a)), (2, .int (nI b)), (3, .int (nI M)), (4, .int (nI i)), (5, .int (nI (G ||| 2 ^ j))), (6, .int (nI j)), (7, .int (nI (j + 1)))]) [1, 2, 3, 4, 5, 6, 7, 0] rfl ?_
                    refine x_goto 23 C0 dX8_word_100 (by decide) ?_
                    exact x_lv [0, 1, 2, 3, 4, 5, 6, 7] rfl (ihj (j + 1) _ _ (by omega) (by omega) (by omega) (hgo.1 ((mj_s hJl (by omega)).symm.trans c12)))
                · have hno : ¬ wP n ip h0 j (i + 1) := fun z => c11 ((mj_s hJl (by omega)).trans (wc_sgn (z i (by omega))).symm)
                  refine x_goto 97 C0 dX8_word_58 (by decide) ?_
                  refine x_iinc [(7, .int (nI (j + 1))), (0, .ref (g.2 0 + 258)), (1, .int (nI a)), (2, .int (nI b)), (3, .int (nI M)), (4, .int (nI i)), (5, .int (nI G)), (6, .int wo)] 7 100 C0 dX8_word_97 rfl rfl (nI_1 j) (by decide) rfl ?_
                  refine x_lv (lv1 := [(0, .ref (g.2 0 + 258)), (1, .int (nI a)), (2, .int (nI b)), (3, .int (nI M)), (4, .int (nI i)), (5, .int (nI G)), (6, .int wo), (7, .int (nI (j + 1)))]) [1, 2, 3, 4, 5, 6, 7, 0] rfl ?_
                  refine x_goto 23 C0 dX8_word_100 (by decide) ?_
                  exact x_lv [0, 1, 2, 3, 4, 5, 6, 7] rfl (ihj (j + 1) _ _ (by omega) (by omega) (by omega) (hI.no hno))
        exact x_lv [0, 1, 2, 3, 4, 5, 6, 7] rfl (loop23 (c + 1) a 0 _ (Nat.le_refl _) (by omega) (by omega) nI9_0)
  exact x_lv [0, 1, 2, 3, 4] rfl (loop7 7 0 2047 _ (by omega) (by omega) hJ ht0 (fun _ _ _ => rfl) (oI_0 hac))

