/-! LABELS, ON BOTH SIDES -/
def zKL (b : Nat) : Nat := if b = 1 then 6 else 4
def zRK (ga : Int32) (b : Nat) : Nat → Int32 := fun j => if j = 0 then 48 + ga else if j = 1 then 46 else sgM (7 * (8 + b) + (j - 2))
def zM (b : Nat) (po : Int32) : Nat := if po < 10 then 2 + zKL b + 1 + 1 else 2 + zKL b + 1 + 1 + 1
def zD (ga : Int32) (b : Nat) (po : Int32) : Nat → Int32 := if po < 10 then upd (upd (zRK ga b) (2 + zKL b) 32) (2 + zKL b + 1) (48 + (po - po / 10 * 10)) else upd (upd (upd (zRK ga b) (2 + zKL b) 32) (2 + zKL b + 1) (48 + (po / 10))) (2 + zKL b + 1 + 1) (48 + (po - po / 10 * 10))
def zN (b : Nat) (po lc : Int32) : Nat := if lc = 1 then zM b po else zM b po + 1 + 1 + 1 + 1 + 1
def zF (ga : Int32) (b : Nat) (po lc : Int32) : Nat → Int32 := if lc = 1 then zD ga b po else upd (upd (upd (upd (upd (zD ga b po) (zM b po) 32) (zM b po + 1) 100) (zM b po + 1 + 1) 97) (zM b po + 1 + 1 + 1) 109) (zM b po + 1 + 1 + 1 + 1) 112
def zAg (N : Nat) (f F : Nat → Int32) : Prop := ∀ j, j < N → f j = F j
def rlb (v : Nat → Int32) (kc L : Nat) (f : Nat → Int32) : Prop := (v (28 + 9 * kc + 8) = 0 ∧ L = 0) ∨ (¬ v (28 + 9 * kc + 8) = 0 ∧ ∃ b : Nat, b < 3 ∧ v (28 + 9 * kc + 2) = nI b ∧ L = zN b (v (28 + 9 * kc + 3)) (v (28 + 9 * kc + 8)) ∧ zAg L f (zF (v (28 + 9 * kc + 1)) b (v (28 + 9 * kc + 3)) (v (28 + 9 * kc + 8))))
section RLB
variable {f f3 f4 F : Nat → Int32} {N i b : Nat} {ga po lc z : Int32}
theorem zAg.up (h : zAg N f F) : zAg (N + 1) (upd f N z) (upd F N z) := by
  intro j hj
  by_cases e : j = N
  · rw [show upd f N z j = z from if_pos e, show upd F N z j = z from if_pos e]
  · rw [show upd f N z j = f j from if_neg e, show upd F N z j = F j from if_neg e]
    exact h j (by omega)
theorem agr_k (h : zAg (2 + i) f (zRK ga b)) (e : f3 = upd f (2 + i) (sgM (7 * (8 + b) + i))) : zAg (2 + (i + 1)) f3 (zRK ga b) := by
  intro j hj
  rw [e]
  by_cases q : j = 2 + i
  · rw [show upd f (2 + i) (sgM (7 * (8 + b) + i)) j = sgM (7 * (8 + b) + i) from if_pos q]
    unfold zRK
    rw [if_neg (by omega), if_neg (by omega), q, show 2 + i - 2 = i by omega]
  · rw [show upd f (2 + i) (sgM (7 * (8 + b) + i)) j = f j from if_neg q]
    exact h j (by omega)
theorem agr_0 (h3 : f3 = upd f 0 (48 + ga)) (h4 : f4 = upd f3 (0 + 1) 46) : zAg (2 + 0) f4 (zRK ga b) := by
  intro j hj
  rcases (show j = 0 ∨ j = 1 by omega) with rfl | rfl
  · rw [h4, h3]
    rfl
  · rw [h4]
    rfl
theorem kl_nz : ∀ b, b < 3 → ∀ j, j < 6 → j < zKL b → ¬ sgM (7 * (8 + b) + j) = 0 := by decide +kernel
theorem kl_z : ∀ b, b < 3 → sgM (7 * (8 + b) + zKL b) = 0 ∧ zKL b ≤ 6 := by decide +kernel
theorem kl_of (hb : b < 3) (hi : i ≤ 6) (h0 : sgM (7 * (8 + b) + i) = 0) (hn : ∀ j, j < i → ¬ sgM (7 * (8 + b) + j) = 0) : i = zKL b := by
  obtain ⟨k1, k2⟩ := kl_z b hb
  rcases Nat.lt_trichotomy i (zKL b) with h | h | h
  · exact absurd h0 (kl_nz b hb i (by omega) h)
  · exact h
  · exact absurd k1 (hn _ h)
theorem rl_a (hi : i = zKL b) (h7 : po < 10) (h9 : lc = 1) (hg : zAg (2 + i + 1 + 1) f (upd (upd (zRK ga b) (2 + i) 32) (2 + i + 1) (48 + (po - po / 10 * 10)))) : 2 + i + 1 + 1 = zN b po lc ∧ zAg (2 + i + 1 + 1) f (zF ga b po lc) := by
  subst hi
  have e1 : zM b po = 2 + zKL b + 1 + 1 := if_pos h7
  have e2 : zD ga b po = upd (upd (zRK ga b) (2 + zKL b) 32) (2 + zKL b + 1) (48 + (po - po / 10 * 10)) := if_pos h7
  have e3 : zN b po lc = zM b po := if_pos h9
  have e4 : zF ga b po lc = zD ga b po := if_pos h9
  rw [e3, e4, e1, e2]
  exact ⟨rfl, hg⟩
theorem rl_b (hi : i = zKL b) (h7 : ¬ po < 10) (h9 : lc = 1) (hg : zAg (2 + i + 1 + 1 + 1) f (upd (upd (upd (zRK ga b) (2 + i) 32) (2 + i + 1) (48 + (po / 10))) (2 + i + 1 + 1) (48 + (po - po / 10 * 10)))) : 2 + i + 1 + 1 + 1 = zN b po lc ∧ zAg (2 + i + 1 + 1 + 1) f (zF ga b po lc) := by
  subst hi
  have e1 : zM b po = 2 + zKL b + 1 + 1 + 1 := if_neg h7
  have e2 : zD ga b po = upd (upd (upd (zRK ga b) (2 + zKL b) 32) (2 + zKL b + 1) (48 + (po / 10))) (2 + zKL b + 1 + 1) (48 + (po - po / 10 * 10)) := if_neg h7
  have e3 : zN b po lc = zM b po := if_pos h9
  have e4 : zF ga b po lc = zD ga b po := if_pos h9
  rw [e3, e4, e1, e2]
  exact ⟨rfl, hg⟩
theorem rl_c (hi : i = zKL b) (h7 : po < 10) (h9 : ¬ lc = 1) (hg : zAg (2 + i + 1 + 1 + 1 + 1 + 1 + 1 + 1) f (upd (upd (upd (upd (upd (upd (upd (zRK ga b) (2 + i) 32) (2 + i + 1) (48 + (po - po / 10 * 10))) (2 + i + 1 + 1) 32) (2 + i + 1 + 1 + 1) 100) (2 + i + 1 + 1 + 1 + 1) 97) (2 + i + 1 + 1 + 1 + 1 + 1) 109) (2 + i + 1 + 1 + 1 + 1 + 1 + 1) 112)) : 2 + i + 1 + 1 + 1 + 1 + 1 + 1 + 1 = zN b po lc ∧ zAg (2 + i + 1 + 1 + 1 + 1 + 1 + 1 + 1) f (zF ga b po lc) := by
  subst hi
  have e1 : zM b po = 2 + zKL b + 1 + 1 := if_pos h7
  have e2 : zD ga b po = upd (upd (zRK ga b) (2 + zKL b) 32) (2 + zKL b + 1) (48 + (po - po / 10 * 10)) := if_pos h7
  have e3 : zN b po lc = zM b po + 1 + 1 + 1 + 1 + 1 := if_neg h9
  have e4 : zF ga b po lc = upd (upd (upd (upd (upd (zD ga b po) (zM b po) 32) (zM b po + 1) 100) (zM b po + 1 + 1) 97) (zM b po + 1 + 1 + 1) 109) (zM b po + 1 + 1 + 1 + 1) 112 := if_neg h9
  rw [e3, e4, e1, e2]
  exact ⟨rfl, hg⟩
theorem rl_d (hi : i = zKL b) (h7 : ¬ po < 10) (h9 : ¬ lc = 1) (hg : zAg (2 + i + 1 + 1 + 1 + 1 + 1 + 1 + 1 + 1) f (upd (upd (upd (upd (upd (upd (upd (upd (zRK ga b) (2 + i) 32) (2 + i + 1) (48 + (po / 10))) (2 + i + 1 + 1) (48 + (po - po / 10 * 10))) (2 + i + 1 + 1 + 1) 32) (2 + i + 1 + 1 + 1 + 1) 100) (2 + i + 1 + 1 + 1 + 1 + 1) 97) (2 + i + 1 + 1 + 1 + 1 + 1 + 1) 109) (2 + i + 1 + 1 + 1 + 1 + 1 + 1 + 1) 112)) : 2 + i + 1 + 1 + 1 + 1 + 1 + 1 + 1 + 1 = zN b po lc ∧ zAg (2 + i + 1 + 1 + 1 + 1 + 1 + 1 + 1 + 1) f (zF ga b po lc) := by
  subst hi
  have e1 : zM b po = 2 + zKL b + 1 + 1 + 1 := if_neg h7
  have e2 : zD ga b po = upd (upd (upd (zRK ga b) (2 + zKL b) 32) (2 + zKL b + 1) (48 + (po / 10))) (2 + zKL b + 1 + 1) (48 + (po - po / 10 * 10)) := if_neg h7
  have e3 : zN b po lc = zM b po + 1 + 1 + 1 + 1 + 1 := if_neg h9
  have e4 : zF ga b po lc = upd (upd (upd (upd (upd (zD ga b po) (zM b po) 32) (zM b po + 1) 100) (zM b po + 1 + 1) 97) (zM b po + 1 + 1 + 1) 109) (zM b po + 1 + 1 + 1 + 1) 112 := if_neg h9
  rw [e3, e4, e1, e2]
  exact ⟨rfl, hg⟩
end RLB
/-- the reference's signs are the label's -/
theorem lab_n : ∀ ki, ki < 3 → ∀ p, p < 51 → zN ki (nI p) 1 = labN ki p false ∧ zN ki (nI p) 2 = labN ki p true ∧ labN ki p true ≤ 16 ∧ labN ki p false ≤ 16 := by decide +kernel
theorem lab_f1 : ∀ ga, ga < 6 → ∀ ki, ki < 3 → ∀ p, p < 51 → ∀ j, j < 16 → j < labN ki p false → zF (nI ga) ki (nI p) 1 j = labF ga ki p false j := by decide +kernel
theorem lab_f2 : ∀ ga, ga < 6 → ∀ ki, ki < 3 → ∀ p, p < 51 → ∀ j, j < 16 → j < labN ki p true → zF (nI ga) ki (nI p) 2 j = labF ga ki p true j := by decide +kernel
section RLC
variable {x v v' f : Nat → Int32} {k L : Nat} {ln : Nat → Nat} {lf : Nat → Nat → Int32}
theorem nat_nI {y : Int32} {p : Nat} (h : y = nI p) (hp : p < 2 ^ 31) : nat y = p := by
  rw [h]
  exact nI_clamp hp
theorem rlb_lab {da : Bool} (hx : hok x) (hk : k < 20) (hp : 0 < x (28 + 9 * k + 3)) (e1 : v' (28 + 9 * k + 1) = x (28 + 9 * k + 1)) (e2 : v' (28 + 9 * k + 2) = x (28 + 9 * k + 2)) (e3 : v' (28 + 9 * k + 3) = x (28 + 9 * k + 3)) (h8 : v' (28 + 9 * k + 8) = if da = true then 2 else 1) (h : rlb v' k L f) : L = labN (nat (x (28 + 9 * k + 2))) (nat (x (28 + 9 * k + 3))) da ∧ ∀ j, j < L → f j = labF (nat (x (28 + 9 * k + 1))) (nat (x (28 + 9 * k + 2))) (nat (x (28 + 9 * k + 3))) da j := by
  obtain ⟨n, hn, en, hc⟩ := hx
  obtain ⟨⟨z, p, hz, hp2, -, ez, ep, hg⟩, -⟩ := hc k hk
  have hp0 : p ≠ 0 := fun q => by
    rw [ep, q] at hp
    exact absurd hp (by decide)
  obtain ⟨ga, ki, hga, hki, ega, eki⟩ := hg hp0
  rw [nat_nI ega (by omega), nat_nI eki (by omega), nat_nI ep (by omega)]
  rcases h with ⟨q, -⟩ | ⟨-, b, hb, eb, eL, hag⟩
  · rw [h8] at q
    cases da
    · exact absurd q (by decide)
    · exact absurd q (by decide)
  · have hbk : b = ki := (nI_eq (by omega) (by omega)).mp ((eb.symm.trans e2).trans eki)
    subst hbk
    rw [e3, ep, h8] at eL
    rw [e1, ega, e3, ep, h8] at hag
    obtain ⟨l1, l2, l3, l4⟩ := lab_n b hb p (by omega)
    cases da
    · have eL2 : L = labN b p false := eL.trans l1
      exact ⟨eL2, fun j hj => (hag j hj).trans (lab_f1 ga hga b hb p (by omega) j (by omega) (by omega))⟩
    · have eL2 : L = labN b p true := eL.trans l2
      exact ⟨eL2, fun j hj => (hag j hj).trans (lab_f2 ga hga b hb p (by omega) j (by omega) (by omega))⟩
theorem lab_same (hA : hAl x ln lf v) (hx : hok x) (hm : nI k < x 3) (hk : k < 20) (h : rlb v k L f) : L = ln k ∧ ∀ j, j < L → f j = lf k j := by
  rcases (hA.2 k hk).1 hm with ⟨h8, h0⟩ | ⟨da, h8, hp, h1, h2⟩
  · rcases h with ⟨-, q⟩ | ⟨q, -⟩
    · exact ⟨q.trans h0.symm, fun j hj => absurd hj (by omega)⟩
    · exact absurd h8 q
  · obtain ⟨a1, a2⟩ := rlb_lab hx hk hp (hA.1.row hm hk (j := 1) (by omega)) (hA.1.row hm hk (j := 2) (by omega)) (hA.1.row hm hk (j := 3) (by omega)) h8 h
    exact ⟨a1.trans h1.symm, fun j hj => (a2 j hj).trans (h2 j (by omega)).symm⟩
end RLC
set_option maxHeartbeats 4000000 in
set_option maxRecDepth 100000 in
theorem e_X8_writesLabel (l : Launch) (hl : l.stackTraces = false) (g : xg_T) (w : xw_T) (sz n : Nat) (t v bf sv pa lb ip td sg : Nat → Int32) (hM : MR g w t v bf sv pa lb ip td sg) (hJ : MJ n t v bf sv pa sg) (kc : Nat) (hkc : kc < 20) : xM l g yX8_writesLabel cX8_writesLabel 5 none ({ frames := 1, cells := 0, slots := 0, locals := 21 }) 0 0 [.ref (g.2 0 + 258), .int (nI kc)] w sz (fun r w1 sz1 => sz = sz1 ∧ r = none ∧ ∃ t' lb', w1 = MW g w t' v bf sv pa lb' ip td sg ∧ MJ n t' v bf sv pa sg ∧ (∀ i, i ≠ 8 → t' i = t i) ∧ ∃ L : Nat, L ≤ 20 ∧ t' 8 = nI L ∧ rlb v kc L lb') (fun _ _ _ => False) := by
  refine xM.of RX8 hl (by decide +kernel) rfl (Nat.le_of_ble_eq_true rfl) rfl ?_
  intro p e s m args below meth cD C0 hini
  refine x_aload_n 0 1 C0 dX8_writesLabel_0 rfl rfl rfl ?_
  refine x_iconst (v := 0) 2 C0 dX8_writesLabel_1 rfl (by decide) ?_
  refine x_w (MW_self hM) ?_
  refine x_putf 13 5 C0 dX8_writesLabel_2 rfl MR_MW.o (by show g.2 0 ≤ _; omega) rfl (by decide) inX8 tyX8_ok nmX8 mF_X8_136 rfl rfl rfl rfl (Nat.le_of_ble_eq_true rfl) ?_
  refine x_w (w1 := (MW g w (upd t 8 0) v bf sv pa lb ip td sg)) (MW_o rfl) ?_
  have hJ1 : MJ n (upd t 8 0) v bf sv pa sg := hJ.j_t (by decide)
  refine x_aload_n 0 6 C0 dX8_writesLabel_5 rfl rfl rfl ?_
  refine x_getf (v := .ref (g.2 0 + 258 + 1)) 8 9 C0 dX8_writesLabel_6 rfl MR_MW.o rfl (by decide) inX8 mF_X8_7 rfl ?_
  refine x_iload_n 1 10 C0 dX8_writesLabel_9 rfl rfl rfl ?_
  refine x_bipush (v := 8) 12 C0 dX8_writesLabel_10 rfl (by decide) ?_
  refine x_callS 15 C0 (k_X8_at l hl g _ _ (nI kc) 8) dX8_writesLabel_12 rfl mC_X8_at mM_X8_71 mS_X8_at mN_X8 yd_X8_at rfl rfl ⟨Nat.le_of_ble_eq_true rfl, Nat.le_of_ble_eq_true rfl⟩ rfl rfl (Nat.le_of_ble_eq_true rfl) ⟨Nat.le_of_ble_eq_true rfl, Nat.le_of_ble_eq_true rfl⟩ (fun _ _ _ q => False.elim q) (fun r w1 sz1 hz hP => ?_)
  obtain ⟨rfl, rfl, rfl⟩ := hP
  refine x_st (st1 := [.int (nI (28 + 9 * kc + 8)), .ref (g.2 0 + 258 + 1)]) (congrArg (fun z => Value.int z :: _) (at_nI 28 9 kc 8)) ?_
  refine x_iald 0 16 C0 dX8_writesLabel_15 rfl MR_MW.r_v rfl (vp_in_nI (n := 28 + 9 * kc + 8) (by omega) (by decide)) ?_
  refine x_st (st1 := [.int (v (28 + 9 * kc + 8))]) (congrArg (fun z => Value.int z :: _) (show v (nI (28 + 9 * kc + 8)).toNatClampNeg = v (28 + 9 * kc + 8) from by rw [nI_clamp (by omega)])) ?_
  refine x_if_ne 20 19 C0 dX8_writesLabel_16 rfl (by decide) (fun c2 => ?_) (fun c2 => ?_)
  · obtain ⟨b, hb, hbv⟩ := hJ1.1.kind hkc c2
    refine x_aload_n 0 21 C0 dX8_writesLabel_20 rfl rfl rfl ?_
    refine x_getf (v := .ref (g.2 0 + 258 + 1)) 8 24 C0 dX8_writesLabel_21 rfl MR_MW.o rfl (by decide) inX8 mF_X8_7 rfl ?_
    refine x_iload_n 1 25 C0 dX8_writesLabel_24 rfl rfl rfl ?_
    refine x_iconst (v := 2) 26 C0 dX8_writesLabel_25 rfl (by decide) ?_
    refine x_callS 29 C0 (k_X8_at l hl g _ _ (nI kc) 2) dX8_writesLabel_26 rfl mC_X8_at mM_X8_71 mS_X8_at mN_X8 yd_X8_at rfl rfl ⟨Nat.le_of_ble_eq_true rfl, Nat.le_of_ble_eq_true rfl⟩ rfl rfl (Nat.le_of_ble_eq_true rfl) ⟨Nat.le_of_ble_eq_true rfl, Nat.le_of_ble_eq_true rfl⟩ (fun _ _ _ q => False.elim q) (fun r w1 sz1 hz hP => ?_)
    obtain ⟨rfl, rfl, rfl⟩ := hP
    refine x_st (st1 := [.int (nI (28 + 9 * kc + 2)), .ref (g.2 0 + 258 + 1)]) (congrArg (fun z => Value.int z :: _) (at_nI 28 9 kc 2)) ?_
    refine x_iald 0 30 C0 dX8_writesLabel_29 rfl MR_MW.r_v rfl (vp_in_nI (n := 28 + 9 * kc + 2) (by omega) (by decide)) ?_
    refine x_st (st1 := [.int (v (28 + 9 * kc + 2))]) (congrArg (fun z => Value.int z :: _) (show v (nI (28 + 9 * kc + 2)).toNatClampNeg = v (28 + 9 * kc + 2) from by rw [nI_clamp (by omega)])) ?_
    refine x_st (st1 := [.int (nI b)]) (congrArg (fun z => Value.int z :: _) (hbv)) ?_
    refine x_istore_n [(2, .int (nI b)), (0, .ref (g.2 0 + 258)), (1, .int (nI kc))] 31 C0 dX8_writesLabel_30 rfl rfl (by decide) rfl ?_
    refine x_lv (lv1 := [(0, .ref (g.2 0 + 258)), (1, .int (nI kc)), (2, .int (nI b))]) [1, 2, 0] rfl ?_
    refine x_aload_n 0 32 C0 dX8_writesLabel_31 rfl rfl rfl ?_
    refine x_getf (v := .ref (g.2 0 + 258 + 1)) 8 35 C0 dX8_writesLabel_32 rfl MR_MW.o rfl (by decide) inX8 mF_X8_7 rfl ?_
    refine x_iload_n 1 36 C0 dX8_writesLabel_35 rfl rfl rfl ?_
    refine x_iconst (v := 3) 37 C0 dX8_writesLabel_36 rfl (by decide) ?_
    refine x_callS 40 C0 (k_X8_at l hl g _ _ (nI kc) 3) dX8_writesLabel_37 rfl mC_X8_at mM_X8_71 mS_X8_at mN_X8 yd_X8_at rfl rfl ⟨Nat.le_of_ble_eq_true rfl, Nat.le_of_ble_eq_true rfl⟩ rfl rfl (Nat.le_of_ble_eq_true rfl) ⟨Nat.le_of_ble_eq_true rfl, Nat.le_of_ble_eq_true rfl⟩ (fun _ _ _ q => False.elim q) (fun r w1 sz1 hz hP => ?_)
    obtain ⟨rfl, rfl, rfl⟩ := hP
    refine x_st (st1 := [.int (nI (28 + 9 * kc + 3)), .ref (g.2 0 + 258 + 1)]) (congrArg (fun z => Value.int z :: _) (at_nI 28 9 kc 3)) ?_
    refine x_iald 0 41 C0 dX8_writesLabel_40 rfl MR_MW.r_v rfl (vp_in_nI (n := 28 + 9 * kc + 3) (by omega) (by decide)) ?_
    refine x_st (st1 := [.int (v (28 + 9 * kc + 3))]) (congrArg (fun z => Value.int z :: _) (show v (nI (28 + 9 * kc + 3)).toNatClampNeg = v (28 + 9 * kc + 3) from by rw [nI_clamp (by omega)])) ?_
    refine x_istore_n [(3, .int (v (28 + 9 * kc + 3))), (0, .ref (g.2 0 + 258)), (1, .int (nI kc)), (2, .int (nI b))] 42 C0 dX8_writesLabel_41 rfl rfl (by decide) rfl ?_
    refine x_lv (lv1 := [(0, .ref (g.2 0 + 258)), (1, .int (nI kc)), (2, .int (nI b)), (3, .int (v (28 + 9 * kc + 3)))]) [1, 2, 3, 0] rfl ?_
    refine x_aload_n 0 43 C0 dX8_writesLabel_42 rfl rfl rfl ?_
    refine x_bipush (v := 48) 45 C0 dX8_writesLabel_43 rfl (by decide) ?_
    refine x_aload_n 0 46 C0 dX8_writesLabel_45 rfl rfl rfl ?_
    refine x_getf (v := .ref (g.2 0 + 258 + 1)) 8 49 C0 dX8_writesLabel_46 rfl MR_MW.o rfl (by decide) inX8 mF_X8_7 rfl ?_
    refine x_iload_n 1 50 C0 dX8_writesLabel_49 rfl rfl rfl ?_
    refine x_iconst (v := 1) 51 C0 dX8_writesLabel_50 rfl (by decide) ?_
    refine x_callS 54 C0 (k_X8_at l hl g _ _ (nI kc) 1) dX8_writesLabel_51 rfl mC_X8_at mM_X8_71 mS_X8_at mN_X8 yd_X8_at rfl rfl ⟨Nat.le_of_ble_eq_true rfl, Nat.le_of_ble_eq_true rfl⟩ rfl rfl (Nat.le_of_ble_eq_true rfl) ⟨Nat.le_of_ble_eq_true rfl, Nat.le_of_ble_eq_true rfl⟩ (fun _ _ _ q => False.elim q) (fun r w1 sz1 hz hP => ?_)
    obtain ⟨rfl, rfl, rfl⟩ := hP
    refine x_st (st1 := [.int (nI (28 + 9 * kc + 1)), .ref (g.2 0 + 258 + 1), .int 48, .ref (g.2 0 + 258)]) (congrArg (fun z => Value.int z :: _) (at_nI 28 9 kc 1)) ?_
    refine x_iald 0 55 C0 dX8_writesLabel_54 rfl MR_MW.r_v rfl (vp_in_nI (n := 28 + 9 * kc + 1) (by omega) (by decide)) ?_
    refine x_st (st1 := [.int (v (28 + 9 * kc + 1)), .int 48, .ref (g.2 0 + 258)]) (congrArg (fun z => Value.int z :: _) (show v (nI (28 + 9 * kc + 1)).toNatClampNeg = v (28 + 9 * kc + 1) from by rw [nI_clamp (by omega)])) ?_
    refine x_iadd 56 C0 dX8_writesLabel_55 rfl ?_
    refine x_callV 59 C0 (k_X8_writes l hl g _ _ n (upd t 8 0) v bf sv pa lb ip td sg MR_MW hJ1 0 (by omega) rfl (48 + (v (28 + 9 * kc + 1)))) dX8_writesLabel_56 rfl mC_X8_writes mM_X8_139 mI_X8_writes mV_X8_writes mN_X8 yd_X8_writes rfl rfl ⟨Nat.le_of_ble_eq_true rfl, Nat.le_of_ble_eq_true rfl⟩ MR_MW.o rfl rfl rfl rfl (Nat.le_of_ble_eq_true rfl) ⟨Nat.le_of_ble_eq_true rfl, Nat.le_of_ble_eq_true rfl⟩ (fun _ _ _ q => False.elim q) (fun r w1 sz1 hz hP => ?_)
    obtain ⟨rfl, rfl, rfl⟩ := hP
    refine x_w MW_MW ?_
    obtain ⟨lx3, hlx3⟩ : ∃ z, z = (upd lb 0 (48 + (v (28 + 9 * kc + 1)))) := ⟨_, rfl⟩
    rw [← hlx3]
    obtain ⟨tx3, htx3⟩ : ∃ z, z = (upd (upd t 8 0) 8 (nI (0 + 1))) := ⟨_, rfl⟩
    rw [← htx3]
    have hJ3 : MJ n tx3 v bf sv pa sg := by rw [htx3]; exact hJ1.j_t (by decide)
    have h83 : tx3 8 = nI (0 + 1) := by rw [htx3]; rfl
    have hx3 : ∀ i, i ≠ 8 → tx3 i = t i := by rw [htx3]; exact fun i h => (if_neg h).trans ((fun i h => if_neg h) i h)
    refine x_st (st1 := []) rfl ?_
    refine x_aload_n 0 60 C0 dX8_writesLabel_59 rfl rfl rfl ?_
    refine x_bipush (v := 46) 62 C0 dX8_writesLabel_60 rfl (by decide) ?_
    refine x_callV 65 C0 (k_X8_writes l hl g _ _ n tx3 v bf sv pa lx3 ip td sg MR_MW hJ3 (0 + 1) (by omega) h83 46) dX8_writesLabel_62 rfl mC_X8_writes mM_X8_139 mI_X8_writes mV_X8_writes mN_X8 yd_X8_writes rfl rfl ⟨Nat.le_of_ble_eq_true rfl, Nat.le_of_ble_eq_true rfl⟩ MR_MW.o rfl rfl rfl rfl (Nat.le_of_ble_eq_true rfl) ⟨Nat.le_of_ble_eq_true rfl, Nat.le_of_ble_eq_true rfl⟩ (fun _ _ _ q => False.elim q) (fun r w1 sz1 hz hP => ?_)
    obtain ⟨rfl, rfl, rfl⟩ := hP
    refine x_w MW_MW ?_
    obtain ⟨lx4, hlx4⟩ : ∃ z, z = (upd lx3 (0 + 1) 46) := ⟨_, rfl⟩
    rw [← hlx4]
    obtain ⟨tx4, htx4⟩ : ∃ z, z = (upd tx3 8 (nI (0 + 1 + 1))) := ⟨_, rfl⟩
    rw [← htx4]
    have hJ4 : MJ n tx4 v bf sv pa sg := by rw [htx4]; exact hJ3.j_t (by decide)
    have h84 : tx4 8 = nI (0 + 1 + 1) := by rw [htx4]; rfl
    have hx4 : ∀ i, i ≠ 8 → tx4 i = t i := by rw [htx4]; exact fun i h => (if_neg h).trans (hx3 i h)
    refine x_st (st1 := []) rfl ?_
    refine x_iconst (v := 0) 66 C0 dX8_writesLabel_65 rfl (by decide) ?_
    refine x_istore [(4, .int 0), (0, .ref (g.2 0 + 258)), (1, .int (nI kc)), (2, .int (nI b)), (3, .int (v (28 + 9 * kc + 3)))] 68 C0 dX8_writesLabel_66 rfl (by decide) rfl ?_
    refine x_lv (lv1 := [(0, .ref (g.2 0 + 258)), (1, .int (nI kc)), (2, .int (nI b)), (3, .int (v (28 + 9 * kc + 3))), (4, .int 0)]) [1, 2, 3, 4, 0] rfl ?_
    obtain ⟨po, hpo⟩ : ∃ z : Int32, z = v (28 + 9 * kc + 3) := ⟨_, rfl⟩
    rw [← hpo]
    have loop68 : ∀ (N i : Nat) (tl lbl : Nat → Int32), i ≤ 6 → 6 - i < N → MJ n tl v bf sv pa sg → tl 8 = nI (2 + i) → (∀ i, i ≠ 8 → tl i = t i) → zAg (2 + i) lbl (zRK (v (28 + 9 * kc + 1)) b) → (∀ j, j < i → ¬ sgM (7 * (8 + b) + j) = 0) → xV p l e ({ frames := 1, cells := 0, slots := 0, locals := 21 }) s m args below meth cD (xQ g below (fun r w1 sz1 => sz = sz1 ∧ r = none ∧ ∃ t' lb', w1 = MW g w t' v bf sv pa lb' ip td sg ∧ MJ n t' v bf sv pa sg ∧ (∀ i, i ≠ 8 → t' i = t i) ∧ ∃ L : Nat, L ≤ 20 ∧ t' 8 = nI L ∧ rlb v kc L lb') (fun _ _ _ => False) args s 0 0) g 5 (MW g w tl v bf sv pa lbl ip td sg) sz (0 + 0 + 0 + 0 + 0 + 0 + 0) (0 + 0 + 0 + 0 + 0 + 0 + 0) 68 [(0, .ref (g.2 0 + 258)), (1, .int (nI kc)), (2, .int (nI b)), (3, .int po), (4, .int (nI i))] [] := by
      intro N
      induction N with
      | zero => intro i tl lbl h1 h2; omega
      | succ N ih =>
        intro i tl lbl hi hN hJl h8l hel hgl hkl
        refine x_aload_n 0 69 C0 dX8_writesLabel_68 rfl rfl rfl ?_
        refine x_getf (v := .ref (g.2 0 + 258 + 8)) 16 72 C0 dX8_writesLabel_69 rfl MR_MW.o rfl (by decide) inX8 mF_X8_31 rfl ?_
        refine x_bipush (v := 7) 74 C0 dX8_writesLabel_72 rfl (by decide) ?_
        refine x_bipush (v := 8) 76 C0 dX8_writesLabel_74 rfl (by decide) ?_
        refine x_iload_n 2 77 C0 dX8_writesLabel_76 rfl rfl rfl ?_
        refine x_iadd 78 C0 dX8_writesLabel_77 rfl ?_
        refine x_st (st1 := [.int (nI (8 + b)), .int 7, .ref (g.2 0 + 258 + 8)]) (congrArg (fun z => Value.int z :: _) (nI_add 8 b)) ?_
        refine x_imul 79 C0 dX8_writesLabel_78 rfl ?_
        refine x_st (st1 := [.int (nI (7 * (8 + b))), .ref (g.2 0 + 258 + 8)]) (congrArg (fun z => Value.int z :: _) (nI_mulN 7 (8 + b))) ?_
        refine x_iload 4 81 C0 dX8_writesLabel_79 rfl rfl ?_
        refine x_iadd 82 C0 dX8_writesLabel_81 rfl ?_
        refine x_st (st1 := [.int (nI (7 * (8 + b) + i)), .ref (g.2 0 + 258 + 8)]) (congrArg (fun z => Value.int z :: _) (nI_add (7 * (8 + b)) i)) ?_
        refine x_iald 0 83 C0 dX8_writesLabel_82 rfl MR_MW.r_sg rfl (vp_in_nI (n := 7 * (8 + b) + i) (by omega) (by decide)) ?_
        refine x_st (st1 := [.int (sg (7 * (8 + b) + i))]) (congrArg (fun z => Value.int z :: _) (show sg (nI (7 * (8 + b) + i)).toNatClampNeg = sg (7 * (8 + b) + i) from by rw [nI_clamp (by omega)])) ?_
        refine x_if_eq 111 86 C0 dX8_writesLabel_83 rfl (by decide) (fun c5 => ?_) (fun c5 => ?_)
        · have hik := kl_of hb hi ((hJl.2.2.2.2.2.2.2.2 (7 * (8 + b) + i) (by omega)).symm.trans c5) hkl
          refine x_aload_n 0 112 C0 dX8_writesLabel_111 rfl rfl rfl ?_
          refine x_bipush (v := 32) 114 C0 dX8_writesLabel_112 rfl (by decide) ?_
          refine x_callV 117 C0 (k_X8_writes l hl g _ _ n tl v bf sv pa lbl ip td sg MR_MW hJl (2 + i) (by omega) h8l 32) dX8_writesLabel_114 rfl mC_X8_writes mM_X8_139 mI_X8_writes mV_X8_writes mN_X8 yd_X8_writes rfl rfl ⟨Nat.le_of_ble_eq_true rfl, Nat.le_of_ble_eq_true rfl⟩ MR_MW.o rfl rfl rfl rfl (Nat.le_of_ble_eq_true rfl) ⟨Nat.le_of_ble_eq_true rfl, Nat.le_of_ble_eq_true rfl⟩ (fun _ _ _ q => False.elim q) (fun r w1 sz1 hz hP => ?_)
          obtain ⟨rfl, rfl, rfl⟩ := hP
          refine x_w MW_MW ?_
          obtain ⟨lx6, hlx6⟩ : ∃ z, z = (upd lbl (2 + i) 32) := ⟨_, rfl⟩
          rw [← hlx6]
          obtain ⟨tx6, htx6⟩ : ∃ z, z = (upd tl 8 (nI (2 + i + 1))) := ⟨_, rfl⟩
          rw [← htx6]
          have hJ6 : MJ n tx6 v bf sv pa sg := by rw [htx6]; exact hJl.j_t (by decide)
          have h86 : tx6 8 = nI (2 + i + 1) := by rw [htx6]; rfl
          have hx6 : ∀ i, i ≠ 8 → tx6 i = t i := by rw [htx6]; exact fun i h => (if_neg h).trans (hel i h)
          have hg6 : zAg ((2 + i) + 1) lx6 (upd (zRK (v (28 + 9 * kc + 1)) b) (2 + i) 32) := by rw [hlx6]; exact hgl.up
          refine x_st (st1 := []) rfl ?_
          refine x_iload_n 3 118 C0 dX8_writesLabel_117 rfl rfl rfl ?_
          refine x_bipush (v := 10) 120 C0 dX8_writesLabel_118 rfl (by decide) ?_
          refine x_icmp_lt 134 123 C0 dX8_writesLabel_120 rfl (by decide) (fun c7 => ?_) (fun c7 => ?_)
          · have c7' := Int32.not_le.mpr c7
            refine x_aload_n 0 135 C0 dX8_writesLabel_134 rfl rfl rfl ?_
            refine x_bipush (v := 48) 137 C0 dX8_writesLabel_135 rfl (by decide) ?_
            refine x_iload_n 3 138 C0 dX8_writesLabel_137 rfl rfl rfl ?_
            refine x_bipush (v := 10) 140 C0 dX8_writesLabel_138 rfl (by decide) ?_
            refine x_irem 141 C0 dX8_writesLabel_140 rfl (by decide) ?_
            refine x_iadd 142 C0 dX8_writesLabel_141 rfl ?_
            refine x_callV 145 C0 (k_X8_writes l hl g _ _ n tx6 v bf sv pa lx6 ip td sg MR_MW hJ6 (2 + i + 1) (by omega) h86 (48 + (po - po / 10 * 10))) dX8_writesLabel_142 rfl mC_X8_writes mM_X8_139 mI_X8_writes mV_X8_writes mN_X8 yd_X8_writes rfl rfl ⟨Nat.le_of_ble_eq_true rfl, Nat.le_of_ble_eq_true rfl⟩ MR_MW.o rfl rfl rfl rfl (Nat.le_of_ble_eq_true rfl) ⟨Nat.le_of_ble_eq_true rfl, Nat.le_of_ble_eq_true rfl⟩ (fun _ _ _ q => False.elim q) (fun r w1 sz1 hz hP => ?_)
            obtain ⟨rfl, rfl, rfl⟩ := hP
            refine x_w MW_MW ?_
            obtain ⟨lx8, hlx8⟩ : ∃ z, z = (upd lx6 (2 + i + 1) (48 + (po - po / 10 * 10))) := ⟨_, rfl⟩
            rw [← hlx8]
            obtain ⟨tx8, htx8⟩ : ∃ z, z = (upd tx6 8 (nI (2 + i + 1 + 1))) := ⟨_, rfl⟩
            rw [← htx8]
            have hJ8 : MJ n tx8 v bf sv pa sg := by rw [htx8]; exact hJ6.j_t (by decide)
            have h88 : tx8 8 = nI (2 + i + 1 + 1) := by rw [htx8]; rfl
            have hx8 : ∀ i, i ≠ 8 → tx8 i = t i := by rw [htx8]; exact fun i h => (if_neg h).trans (hx6 i h)
            have hg8 : zAg ((2 + i + 1) + 1) lx8 (upd (upd (zRK (v (28 + 9 * kc + 1)) b) (2 + i) 32) (2 + i + 1) (48 + (po - po / 10 * 10))) := by rw [hlx8]; exact hg6.up
            refine x_st (st1 := []) rfl ?_
            refine x_aload_n 0 146 C0 dX8_writesLabel_145 rfl rfl rfl ?_
            refine x_getf (v := .ref (g.2 0 + 258 + 1)) 8 149 C0 dX8_writesLabel_146 rfl MR_MW.o rfl (by decide) inX8 mF_X8_7 rfl ?_
            refine x_iload_n 1 150 C0 dX8_writesLabel_149 rfl rfl rfl ?_
            refine x_bipush (v := 8) 152 C0 dX8_writesLabel_150 rfl (by decide) ?_
            refine x_callS 155 C0 (k_X8_at l hl g _ _ (nI kc) 8) dX8_writesLabel_152 rfl mC_X8_at mM_X8_71 mS_X8_at mN_X8 yd_X8_at rfl rfl ⟨Nat.le_of_ble_eq_true rfl, Nat.le_of_ble_eq_true rfl⟩ rfl rfl (Nat.le_of_ble_eq_true rfl) ⟨Nat.le_of_ble_eq_true rfl, Nat.le_of_ble_eq_true rfl⟩ (fun _ _ _ q => False.elim q) (fun r w1 sz1 hz hP => ?_)
            obtain ⟨rfl, rfl, rfl⟩ := hP
            refine x_st (st1 := [.int (nI (28 + 9 * kc + 8)), .ref (g.2 0 + 258 + 1)]) (congrArg (fun z => Value.int z :: _) (at_nI 28 9 kc 8)) ?_
            refine x_iald 0 156 C0 dX8_writesLabel_155 rfl MR_MW.r_v rfl (vp_in_nI (n := 28 + 9 * kc + 8) (by omega) (by decide)) ?_
            refine x_st (st1 := [.int (v (28 + 9 * kc + 8))]) (congrArg (fun z => Value.int z :: _) (show v (nI (28 + 9 * kc + 8)).toNatClampNeg = v (28 + 9 * kc + 8) from by rw [nI_clamp (by omega)])) ?_
            refine x_iconst (v := 1) 157 C0 dX8_writesLabel_156 rfl (by decide) ?_
            refine x_icmp_ne 161 160 C0 dX8_writesLabel_157 rfl (by decide) (fun c9 => ?_) (fun c9 => ?_)
            · refine x_aload_n 0 162 C0 dX8_writesLabel_161 rfl rfl rfl ?_
              refine x_bipush (v := 32) 164 C0 dX8_writesLabel_162 rfl (by decide) ?_
              refine x_callV 167 C0 (k_X8_writes l hl g _ _ n tx8 v bf sv pa lx8 ip td sg MR_MW hJ8 (2 + i + 1 + 1) (by omega) h88 32) dX8_writesLabel_164 rfl mC_X8_writes mM_X8_139 mI_X8_writes mV_X8_writes mN_X8 yd_X8_writes rfl rfl ⟨Nat.le_of_ble_eq_true rfl, Nat.le_of_ble_eq_true rfl⟩ MR_MW.o rfl rfl rfl rfl (Nat.le_of_ble_eq_true rfl) ⟨Nat.le_of_ble_eq_true rfl, Nat.le_of_ble_eq_true rfl⟩ (fun _ _ _ q => False.elim q) (fun r w1 sz1 hz hP => ?_)
              obtain ⟨rfl, rfl, rfl⟩ := hP
              refine x_w MW_MW ?_
              obtain ⟨lx10, hlx10⟩ : ∃ z, z = (upd lx8 (2 + i + 1 + 1) 32) := ⟨_, rfl⟩
              rw [← hlx10]
              obtain ⟨tx10, htx10⟩ : ∃ z, z = (upd tx8 8 (nI (2 + i + 1 + 1 + 1))) := ⟨_, rfl⟩
              rw [← htx10]
              have hJ10 : MJ n tx10 v bf sv pa sg := by rw [htx10]; exact hJ8.j_t (by decide)
              have h810 : tx10 8 = nI (2 + i + 1 + 1 + 1) := by rw [htx10]; rfl
              have hx10 : ∀ i, i ≠ 8 → tx10 i = t i := by rw [htx10]; exact fun i h => (if_neg h).trans (hx8 i h)
              have hg10 : zAg ((2 + i + 1 + 1) + 1) lx10 (upd (upd (upd (zRK (v (28 + 9 * kc + 1)) b) (2 + i) 32) (2 + i + 1) (48 + (po - po / 10 * 10))) (2 + i + 1 + 1) 32) := by rw [hlx10]; exact hg8.up
              refine x_st (st1 := []) rfl ?_
              refine x_aload_n 0 168 C0 dX8_writesLabel_167 rfl rfl rfl ?_
              refine x_bipush (v := 100) 170 C0 dX8_writesLabel_168 rfl (by decide) ?_
              refine x_callV 173 C0 (k_X8_writes l hl g _ _ n tx10 v bf sv pa lx10 ip td sg MR_MW hJ10 (2 + i + 1 + 1 + 1) (by omega) h810 100) dX8_writesLabel_170 rfl mC_X8_writes mM_X8_139 mI_X8_writes mV_X8_writes mN_X8 yd_X8_writes rfl rfl ⟨Nat.le_of_ble_eq_true rfl, Nat.le_of_ble_eq_true rfl⟩ MR_MW.o rfl rfl rfl rfl (Nat.le_of_ble_eq_true rfl) ⟨Nat.le_of_ble_eq_true rfl, Nat.le_of_ble_eq_true rfl⟩ (fun _ _ _ q => False.elim q) (fun r w1 sz1 hz hP => ?_)
              obtain ⟨rfl, rfl, rfl⟩ := hP
              refine x_w MW_MW ?_
              obtain ⟨lx11, hlx11⟩ : ∃ z, z = (upd lx10 (2 + i + 1 + 1 + 1) 100) := ⟨_, rfl⟩
              rw [← hlx11]
              obtain ⟨tx11, htx11⟩ : ∃ z, z = (upd tx10 8 (nI (2 + i + 1 + 1 + 1 + 1))) := ⟨_, rfl⟩
              rw [← htx11]
              have hJ11 : MJ n tx11 v bf sv pa sg := by rw [htx11]; exact hJ10.j_t (by decide)
              have h811 : tx11 8 = nI (2 + i + 1 + 1 + 1 + 1) := by rw [htx11]; rfl
              have hx11 : ∀ i, i ≠ 8 → tx11 i = t i := by rw [htx11]; exact fun i h => (if_neg h).trans (hx10 i h)
              have hg11 : zAg ((2 + i + 1 + 1 + 1) + 1) lx11 (upd (upd (upd (upd (zRK (v (28 + 9 * kc + 1)) b) (2 + i) 32) (2 + i + 1) (48 + (po - po / 10 * 10))) (2 + i + 1 + 1) 32) (2 + i + 1 + 1 + 1) 100) := by rw [hlx11]; exact hg10.up
              refine x_st (st1 := []) rfl ?_
              refine x_aload_n 0 174 C0 dX8_writesLabel_173 rfl rfl rfl ?_
              refine x_bipush (v := 97) 176 C0 dX8_writesLabel_174 rfl (by decide) ?_
              refine x_callV 179 C0 (k_X8_writes l hl g _ _ n tx11 v bf sv pa lx11 ip td sg MR_MW hJ11 (2 + i + 1 + 1 + 1 + 1) (by omega) h811 97) dX8_writesLabel_176 rfl mC_X8_writes mM_X8_139 mI_X8_writes mV_X8_writes mN_X8 yd_X8_writes rfl rfl ⟨Nat.le_of_ble_eq_true rfl, Nat.le_of_ble_eq_true rfl⟩ MR_MW.o rfl rfl rfl rfl (Nat.le_of_ble_eq_true rfl) ⟨Nat.le_of_ble_eq_true rfl, Nat.le_of_ble_eq_true rfl⟩ (fun _ _ _ q => False.elim q) (fun r w1 sz1 hz hP => ?_)
              obtain ⟨rfl, rfl, rfl⟩ := hP
              refine x_w MW_MW ?_
              obtain ⟨lx12, hlx12⟩ : ∃ z, z = (upd lx11 (2 + i + 1 + 1 + 1 + 1) 97) := ⟨_, rfl⟩
              rw [← hlx12]
              obtain ⟨tx12, htx12⟩ : ∃ z, z = (upd tx11 8 (nI (2 + i + 1 + 1 + 1 + 1 + 1))) := ⟨_, rfl⟩
              rw [← htx12]
              have hJ12 : MJ n tx12 v bf sv pa sg := by rw [htx12]; exact hJ11.j_t (by decide)
              have h812 : tx12 8 = nI (2 + i + 1 + 1 + 1 + 1 + 1) := by rw [htx12]; rfl
              have hx12 : ∀ i, i ≠ 8 → tx12 i = t i := by rw [htx12]; exact fun i h => (if_neg h).trans (hx11 i h)
              have hg12 : zAg ((2 + i + 1 + 1 + 1 + 1) + 1) lx12 (upd (upd (upd (upd (upd (zRK (v (28 + 9 * kc + 1)) b) (2 + i) 32) (2 + i + 1) (48 + (po - po / 10 * 10))) (2 + i + 1 + 1) 32) (2 + i + 1 + 1 + 1) 100) (2 + i + 1 + 1 + 1 + 1) 97) := by rw [hlx12]; exact hg11.up
              refine x_st (st1 := []) rfl ?_
              refine x_aload_n 0 180 C0 dX8_writesLabel_179 rfl rfl rfl ?_
              refine x_bipush (v := 109) 182 C0 dX8_writesLabel_180 rfl (by decide) ?_
              refine x_callV 185 C0 (k_X8_writes l hl g _ _ n tx12 v bf sv pa lx12 ip td sg MR_MW hJ12 (2 + i + 1 + 1 + 1 + 1 + 1) (by omega) h812 109) dX8_writesLabel_182 rfl mC_X8_writes mM_X8_139 mI_X8_writes mV_X8_writes mN_X8 yd_X8_writes rfl rfl ⟨Nat.le_of_ble_eq_true rfl, Nat.le_of_ble_eq_true rfl⟩ MR_MW.o rfl rfl rfl rfl (Nat.le_of_ble_eq_true rfl) ⟨Nat.le_of_ble_eq_true rfl, Nat.le_of_ble_eq_true rfl⟩ (fun _ _ _ q => False.elim q) (fun r w1 sz1 hz hP => ?_)
              obtain ⟨rfl, rfl, rfl⟩ := hP
              refine x_w MW_MW ?_
              obtain ⟨lx13, hlx13⟩ : ∃ z, z = (upd lx12 (2 + i + 1 + 1 + 1 + 1 + 1) 109) := ⟨_, rfl⟩
              rw [← hlx13]
              obtain ⟨tx13, htx13⟩ : ∃ z, z = (upd tx12 8 (nI (2 + i + 1 + 1 + 1 + 1 + 1 + 1))) := ⟨_, rfl⟩
              rw [← htx13]
              have hJ13 : MJ n tx13 v bf sv pa sg := by rw [htx13]; exact hJ12.j_t (by decide)
              have h813 : tx13 8 = nI (2 + i + 1 + 1 + 1 + 1 + 1 + 1) := by rw [htx13]; rfl
              have hx13 : ∀ i, i ≠ 8 → tx13 i = t i := by rw [htx13]; exact fun i h => (if_neg h).trans (hx12 i h)
              have hg13 : zAg ((2 + i + 1 + 1 + 1 + 1 + 1) + 1) lx13 (upd (upd (upd (upd (upd (upd (zRK (v (28 + 9 * kc + 1)) b) (2 + i) 32) (2 + i + 1) (48 + (po - po / 10 * 10))) (2 + i + 1 + 1) 32) (2 + i + 1 + 1 + 1) 100) (2 + i + 1 + 1 + 1 + 1) 97) (2 + i + 1 + 1 + 1 + 1 + 1) 109) := by rw [hlx13]; exact hg12.up
              refine x_st (st1 := []) rfl ?_
              refine x_aload_n 0 186 C0 dX8_writesLabel_185 rfl rfl rfl ?_
              refine x_bipush (v := 112) 188 C0 dX8_writesLabel_186 rfl (by decide) ?_
              refine x_callV 191 C0 (k_X8_writes l hl g _ _ n tx13 v bf sv pa lx13 ip td sg MR_MW hJ13 (2 + i + 1 + 1 + 1 + 1 + 1 + 1) (by omega) h813 112) dX8_writesLabel_188 rfl mC_X8_writes mM_X8_139 mI_X8_writes mV_X8_writes mN_X8 yd_X8_writes rfl rfl ⟨Nat.le_of_ble_eq_true rfl, Nat.le_of_ble_eq_true rfl⟩ MR_MW.o rfl rfl rfl rfl (Nat.le_of_ble_eq_true rfl) ⟨Nat.le_of_ble_eq_true rfl, Nat.le_of_ble_eq_true rfl⟩ (fun _ _ _ q => False.elim q) (fun r w1 sz1 hz hP => ?_)
              obtain ⟨rfl, rfl, rfl⟩ := hP
              refine x_w MW_MW ?_
              obtain ⟨lx14, hlx14⟩ : ∃ z, z = (upd lx13 (2 + i + 1 + 1 + 1 + 1 + 1 + 1) 112) := ⟨_, rfl⟩
              rw [← hlx14]
              obtain ⟨tx14, htx14⟩ : ∃ z, z = (upd tx13 8 (nI (2 + i + 1 + 1 + 1 + 1 + 1 + 1 + 1))) := ⟨_, rfl⟩
              rw [← htx14]
              have hJ14 : MJ n tx14 v bf sv pa sg := by rw [htx14]; exact hJ13.j_t (by decide)
              have h814 : tx14 8 = nI (2 + i + 1 + 1 + 1 + 1 + 1 + 1 + 1) := by rw [htx14]; rfl
              have hx14 : ∀ i, i ≠ 8 → tx14 i = t i := by rw [htx14]; exact fun i h => (if_neg h).trans (hx13 i h)
              have hg14 : zAg ((2 + i + 1 + 1 + 1 + 1 + 1 + 1) + 1) lx14 (upd (upd (upd (upd (upd (upd (upd (zRK (v (28 + 9 * kc + 1)) b) (2 + i) 32) (2 + i + 1) (48 + (po - po / 10 * 10))) (2 + i + 1 + 1) 32) (2 + i + 1 + 1 + 1) 100) (2 + i + 1 + 1 + 1 + 1) 97) (2 + i + 1 + 1 + 1 + 1 + 1) 109) (2 + i + 1 + 1 + 1 + 1 + 1 + 1) 112) := by rw [hlx14]; exact hg13.up
              refine x_st (st1 := []) rfl ?_
              exact x_return C0 dX8_writesLabel_191 rfl (Nat.le_of_ble_eq_true rfl) (Nat.le_of_ble_eq_true rfl) ⟨rfl, rfl, _, _, rfl, hJ14, hx14, (2 + i + 1 + 1 + 1 + 1 + 1 + 1 + 1), by omega, h814, Or.inr ⟨c2, b, hb, hbv, by rw [← hpo]; exact rl_c hik c7 c9 hg14⟩⟩
            · exact x_return C0 dX8_writesLabel_160 rfl (Nat.le_of_ble_eq_true rfl) (Nat.le_of_ble_eq_true rfl) ⟨rfl, rfl, _, _, rfl, hJ8, hx8, (2 + i + 1 + 1), by omega, h88, Or.inr ⟨c2, b, hb, hbv, by rw [← hpo]; exact rl_a hik c7 c9 hg8⟩⟩
          · have c7' := Int32.not_lt.mp c7
            refine x_aload_n 0 124 C0 dX8_writesLabel_123 rfl rfl rfl ?_
            refine x_bipush (v := 48) 126 C0 dX8_writesLabel_124 rfl (by decide) ?_
            refine x_iload_n 3 127 C0 dX8_writesLabel_126 rfl rfl rfl ?_
            refine x_bipush (v := 10) 129 C0 dX8_writesLabel_127 rfl (by decide) ?_
            refine x_idiv 130 C0 dX8_writesLabel_129 rfl (by decide) ?_
            refine x_iadd 131 C0 dX8_writesLabel_130 rfl ?_
            refine x_callV 134 C0 (k_X8_writes l hl g _ _ n tx6 v bf sv pa lx6 ip td sg MR_MW hJ6 (2 + i + 1) (by omega) h86 (48 + (po / 10))) dX8_writesLabel_131 rfl mC_X8_writes mM_X8_139 mI_X8_writes mV_X8_writes mN_X8 yd_X8_writes rfl rfl ⟨Nat.le_of_ble_eq_true rfl, Nat.le_of_ble_eq_true rfl⟩ MR_MW.o rfl rfl rfl rfl (Nat.le_of_ble_eq_true rfl) ⟨Nat.le_of_ble_eq_true rfl, Nat.le_of_ble_eq_true rfl⟩ (fun _ _ _ q => False.elim q) (fun r w1 sz1 hz hP => ?_)
            obtain ⟨rfl, rfl, rfl⟩ := hP
            refine x_w MW_MW ?_
            obtain ⟨lx15, hlx15⟩ : ∃ z, z = (upd lx6 (2 + i + 1) (48 + (po / 10))) := ⟨_, rfl⟩
            rw [← hlx15]
            obtain ⟨tx15, htx15⟩ : ∃ z, z = (upd tx6 8 (nI (2 + i + 1 + 1))) := ⟨_, rfl⟩
            rw [← htx15]
            have hJ15 : MJ n tx15 v bf sv pa sg := by rw [htx15]; exact hJ6.j_t (by decide)
            have h815 : tx15 8 = nI (2 + i + 1 + 1) := by rw [htx15]; rfl
            have hx15 : ∀ i, i ≠ 8 → tx15 i = t i := by rw [htx15]; exact fun i h => (if_neg h).trans (hx6 i h)
            have hg15 : zAg ((2 + i + 1) + 1) lx15 (upd (upd (zRK (v (28 + 9 * kc + 1)) b) (2 + i) 32) (2 + i + 1) (48 + (po / 10))) := by rw [hlx15]; exact hg6.up
            refine x_st (st1 := []) rfl ?_
            refine x_aload_n 0 135 C0 dX8_writesLabel_134 rfl rfl rfl ?_
            refine x_bipush (v := 48) 137 C0 dX8_writesLabel_135 rfl (by decide) ?_
            refine x_iload_n 3 138 C0 dX8_writesLabel_137 rfl rfl rfl ?_
            refine x_bipush (v := 10) 140 C0 dX8_writesLabel_138 rfl (by decide) ?_
            refine x_irem 141 C0 dX8_writesLabel_140 rfl (by decide) ?_
            refine x_iadd 142 C0 dX8_writesLabel_141 rfl ?_
            refine x_callV 145 C0 (k_X8_writes l hl g _ _ n tx15 v bf sv pa lx15 ip td sg MR_MW hJ15 (2 + i + 1 + 1) (by omega) h815 (48 + (po - po / 10 * 10))) dX8_writesLabel_142 rfl mC_X8_writes mM_X8_139 mI_X8_writes mV_X8_writes mN_X8 yd_X8_writes rfl rfl ⟨Nat.le_of_ble_eq_true rfl, Nat.le_of_ble_eq_true rfl⟩ MR_MW.o rfl rfl rfl rfl (Nat.le_of_ble_eq_true rfl) ⟨Nat.le_of_ble_eq_true rfl, Nat.le_of_ble_eq_true rfl⟩ (fun _ _ _ q => False.elim q) (fun r w1 sz1 hz hP => ?_)
            obtain ⟨rfl, rfl, rfl⟩ := hP
            refine x_w MW_MW ?_
            obtain ⟨lx16, hlx16⟩ : ∃ z, z = (upd lx15 (2 + i + 1 + 1) (48 + (po - po / 10 * 10))) := ⟨_, rfl⟩
            rw [← hlx16]
            obtain ⟨tx16, htx16⟩ : ∃ z, z = (upd tx15 8 (nI (2 + i + 1 + 1 + 1))) := ⟨_, rfl⟩
            rw [← htx16]
            have hJ16 : MJ n tx16 v bf sv pa sg := by rw [htx16]; exact hJ15.j_t (by decide)
            have h816 : tx16 8 = nI (2 + i + 1 + 1 + 1) := by rw [htx16]; rfl
            have hx16 : ∀ i, i ≠ 8 → tx16 i = t i := by rw [htx16]; exact fun i h => (if_neg h).trans (hx15 i h)
            have hg16 : zAg ((2 + i + 1 + 1) + 1) lx16 (upd (upd (upd (zRK (v (28 + 9 * kc + 1)) b) (2 + i) 32) (2 + i + 1) (48 + (po / 10))) (2 + i + 1 + 1) (48 + (po - po / 10 * 10))) := by rw [hlx16]; exact hg15.up
            refine x_st (st1 := []) rfl ?_
            refine x_aload_n 0 146 C0 dX8_writesLabel_145 rfl rfl rfl ?_
            refine x_getf (v := .ref (g.2 0 + 258 + 1)) 8 149 C0 dX8_writesLabel_146 rfl MR_MW.o rfl (by decide) inX8 mF_X8_7 rfl ?_
            refine x_iload_n 1 150 C0 dX8_writesLabel_149 rfl rfl rfl ?_
            refine x_bipush (v := 8) 152 C0 dX8_writesLabel_150 rfl (by decide) ?_
            refine x_callS 155 C0 (k_X8_at l hl g _ _ (nI kc) 8) dX8_writesLabel_152 rfl mC_X8_at mM_X8_71 mS_X8_at mN_X8 yd_X8_at rfl rfl ⟨Nat.le_of_ble_eq_true rfl, Nat.le_of_ble_eq_true rfl⟩ rfl rfl (Nat.le_of_ble_eq_true rfl) ⟨Nat.le_of_ble_eq_true rfl, Nat.le_of_ble_eq_true rfl⟩ (fun _ _ _ q => False.elim q) (fun r w1 sz1 hz hP => ?_)
            obtain ⟨rfl, rfl, rfl⟩ := hP
            refine x_st (st1 := [.int (nI (28 + 9 * kc + 8)), .ref (g.2 0 + 258 + 1)]) (congrArg (fun z => Value.int z :: _) (at_nI 28 9 kc 8)) ?_
            refine x_iald 0 156 C0 dX8_writesLabel_155 rfl MR_MW.r_v rfl (vp_in_nI (n := 28 + 9 * kc + 8) (by omega) (by decide)) ?_
            refine x_st (st1 := [.int (v (28 + 9 * kc + 8))]) (congrArg (fun z => Value.int z :: _) (show v (nI (28 + 9 * kc + 8)).toNatClampNeg = v (28 + 9 * kc + 8) from by rw [nI_clamp (by omega)])) ?_
            refine x_iconst (v := 1) 157 C0 dX8_writesLabel_156 rfl (by decide) ?_
            refine x_icmp_ne 161 160 C0 dX8_writesLabel_157 rfl (by decide) (fun c17 => ?_) (fun c17 => ?_)
            · refine x_aload_n 0 162 C0 dX8_writesLabel_161 rfl rfl rfl ?_
              refine x_bipush (v := 32) 164 C0 dX8_writesLabel_162 rfl (by decide) ?_
              refine x_callV 167 C0 (k_X8_writes l hl g _ _ n tx16 v bf sv pa lx16 ip td sg MR_MW hJ16 (2 + i + 1 + 1 + 1) (by omega) h816 32) dX8_writesLabel_164 rfl mC_X8_writes mM_X8_139 mI_X8_writes mV_X8_writes mN_X8 yd_X8_writes rfl rfl ⟨Nat.le_of_ble_eq_true rfl, Nat.le_of_ble_eq_true rfl⟩ MR_MW.o rfl rfl rfl rfl (Nat.le_of_ble_eq_true rfl) ⟨Nat.le_of_ble_eq_true rfl, Nat.le_of_ble_eq_true rfl⟩ (fun _ _ _ q => False.elim q) (fun r w1 sz1 hz hP => ?_)
              obtain ⟨rfl, rfl, rfl⟩ := hP
              refine x_w MW_MW ?_
              obtain ⟨lx18, hlx18⟩ : ∃ z, z = (upd lx16 (2 + i + 1 + 1 + 1) 32) := ⟨_, rfl⟩
              rw [← hlx18]
              obtain ⟨tx18, htx18⟩ : ∃ z, z = (upd tx16 8 (nI (2 + i + 1 + 1 + 1 + 1))) := ⟨_, rfl⟩
              rw [← htx18]
              have hJ18 : MJ n tx18 v bf sv pa sg := by rw [htx18]; exact hJ16.j_t (by decide)
              have h818 : tx18 8 = nI (2 + i + 1 + 1 + 1 + 1) := by rw [htx18]; rfl
              have hx18 : ∀ i, i ≠ 8 → tx18 i = t i := by rw [htx18]; exact fun i h => (if_neg h).trans (hx16 i h)
              have hg18 : zAg ((2 + i + 1 + 1 + 1) + 1) lx18 (upd (upd (upd (upd (zRK (v (28 + 9 * kc + 1)) b) (2 + i) 32) (2 + i + 1) (48 + (po / 10))) (2 + i + 1 + 1) (48 + (po - po / 10 * 10))) (2 + i + 1 + 1 + 1) 32) := by rw [hlx18]; exact hg16.up
              refine x_st (st1 := []) rfl ?_
              refine x_aload_n 0 168 C0 dX8_writesLabel_167 rfl rfl rfl ?_
              refine x_bipush (v := 100) 170 C0 dX8_writesLabel_168 rfl (by decide) ?_
              refine x_callV 173 C0 (k_X8_writes l hl g _ _ n tx18 v bf sv pa lx18 ip td sg MR_MW hJ18 (2 + i + 1 + 1 + 1 + 1) (by omega) h818 100) dX8_writesLabel_170 rfl mC_X8_writes mM_X8_139 mI_X8_writes mV_X8_writes mN_X8 yd_X8_writes rfl rfl ⟨Nat.le_of_ble_eq_true rfl, Nat.le_of_ble_eq_true rfl⟩ MR_MW.o rfl rfl rfl rfl (Nat.le_of_ble_eq_true rfl) ⟨Nat.le_of_ble_eq_true rfl, Nat.le_of_ble_eq_true rfl⟩ (fun _ _ _ q => False.elim q) (fun r w1 sz1 hz hP => ?_)
              obtain ⟨rfl, rfl, rfl⟩ := hP
              refine x_w MW_MW ?_
              obtain ⟨lx19, hlx19⟩ : ∃ z, z = (upd lx18 (2 + i + 1 + 1 + 1 + 1) 100) := ⟨_, rfl⟩
              rw [← hlx19]
              obtain ⟨tx19, htx19⟩ : ∃ z, z = (upd tx18 8 (nI (2 + i + 1 + 1 + 1 + 1 + 1))) := ⟨_, rfl⟩
              rw [← htx19]
              have hJ19 : MJ n tx19 v bf sv pa sg := by rw [htx19]; exact hJ18.j_t (by decide)
              have h819 : tx19 8 = nI (2 + i + 1 + 1 + 1 + 1 + 1) := by rw [htx19]; rfl
              have hx19 : ∀ i, i ≠ 8 → tx19 i = t i := by rw [htx19]; exact fun i h => (if_neg h).trans (hx18 i h)
              have hg19 : zAg ((2 + i + 1 + 1 + 1 + 1) + 1) lx19 (upd (upd (upd (upd (upd (zRK (v (28 + 9 * kc + 1)) b) (2 + i) 32) (2 + i + 1) (48 + (po / 10))) (2 + i + 1 + 1) (48 + (po - po / 10 * 10))) (2 + i + 1 + 1 + 1) 32) (2 + i + 1 + 1 + 1 + 1) 100) := by rw [hlx19]; exact hg18.up
              refine x_st (st1 := []) rfl ?_
              refine x_aload_n 0 174 C0 dX8_writesLabel_173 rfl rfl rfl ?_
              refine x_bipush (v := 97) 176 C0 dX8_writesLabel_174 rfl (by decide) ?_
              refine x_callV 179 C0 (k_X8_writes l hl g _ _ n tx19 v bf sv pa lx19 ip td sg MR_MW hJ19 (2 + i + 1 + 1 + 1 + 1 + 1) (by omega) h819 97) dX8_writesLabel_176 rfl mC_X8_writes mM_X8_139 mI_X8_writes mV_X8_writes mN_X8 yd_X8_writes rfl rfl ⟨Nat.le_of_ble_eq_true rfl, Nat.le_of_ble_eq_true rfl⟩ MR_MW.o rfl rfl rfl rfl (Nat.le_of_ble_eq_true rfl) ⟨Nat.le_of_ble_eq_true rfl, Nat.le_of_ble_eq_true rfl⟩ (fun _ _ _ q => False.elim q) (fun r w1 sz1 hz hP => ?_)
              obtain ⟨rfl, rfl, rfl⟩ := hP
              refine x_w MW_MW ?_
              obtain ⟨lx20, hlx20⟩ : ∃ z, z = (upd lx19 (2 + i + 1 + 1 + 1 + 1 + 1) 97) := ⟨_, rfl⟩
              rw [← hlx20]
              obtain ⟨tx20, htx20⟩ : ∃ z, z = (upd tx19 8 (nI (2 + i + 1 + 1 + 1 + 1 + 1 + 1))) := ⟨_, rfl⟩
              rw [← htx20]
              have hJ20 : MJ n tx20 v bf sv pa sg := by rw [htx20]; exact hJ19.j_t (by decide)
              have h820 : tx20 8 = nI (2 + i + 1 + 1 + 1 + 1 + 1 + 1) := by rw [htx20]; rfl
              have hx20 : ∀ i, i ≠ 8 → tx20 i = t i := by rw [htx20]; exact fun i h => (if_neg h).trans (hx19 i h)
              have hg20 : zAg ((2 + i + 1 + 1 + 1 + 1 + 1) + 1) lx20 (upd (upd (upd (upd (upd (upd (zRK (v (28 + 9 * kc + 1)) b) (2 + i) 32) (2 + i + 1) (48 + (po / 10))) (2 + i + 1 + 1) (48 + (po - po / 10 * 10))) (2 + i + 1 + 1 + 1) 32) (2 + i + 1 + 1 + 1 + 1) 100) (2 + i + 1 + 1 + 1 + 1 + 1) 97) := by rw [hlx20]; exact hg19.up
              refine x_st (st1 := []) rfl ?_
              refine x_aload_n 0 180 C0 dX8_writesLabel_179 rfl rfl rfl ?_
              refine x_bipush (v := 109) 182 C0 dX8_writesLabel_180 rfl (by decide) ?_
              refine x_callV 185 C0 (k_X8_writes l hl g _ _ n tx20 v bf sv pa lx20 ip td sg MR_MW hJ20 (2 + i + 1 + 1 + 1 + 1 + 1 + 1) (by omega) h820 109) dX8_writesLabel_182 rfl mC_X8_writes mM_X8_139 mI_X8_writes mV_X8_writes mN_X8 yd_X8_writes rfl rfl ⟨Nat.le_of_ble_eq_true rfl, Nat.le_of_ble_eq_true rfl⟩ MR_MW.o rfl rfl rfl rfl (Nat.le_of_ble_eq_true rfl) ⟨Nat.le_of_ble_eq_true rfl, Nat.le_of_ble_eq_true rfl⟩ (fun _ _ _ q => False.elim q) (fun r w1 sz1 hz hP => ?_)
              obtain ⟨rfl, rfl, rfl⟩ := hP
              refine x_w MW_MW ?_
              obtain ⟨lx21, hlx21⟩ : ∃ z, z = (upd lx20 (2 + i + 1 + 1 + 1 + 1 + 1 + 1) 109) := ⟨_, rfl⟩
              rw [← hlx21]
              obtain ⟨tx21, htx21⟩ : ∃ z, z = (upd tx20 8 (nI (2 + i + 1 + 1 + 1 + 1 + 1 + 1 + 1))) := ⟨_, rfl⟩
              rw [← htx21]
              have hJ21 : MJ n tx21 v bf sv pa sg := by rw [htx21]; exact hJ20.j_t (by decide)
              have h821 : tx21 8 = nI (2 + i + 1 + 1 + 1 + 1 + 1 + 1 + 1) := by rw [htx21]; rfl
              have hx21 : ∀ i, i ≠ 8 → tx21 i = t i := by rw [htx21]; exact fun i h => (if_neg h).trans (hx20 i h)
              have hg21 : zAg ((2 + i + 1 + 1 + 1 + 1 + 1 + 1) + 1) lx21 (upd (upd (upd (upd (upd (upd (upd (zRK (v (28 + 9 * kc + 1)) b) (2 + i) 32) (2 + i + 1) (48 + (po / 10))) (2 + i + 1 + 1) (48 + (po - po / 10 * 10))) (2 + i + 1 + 1 + 1) 32) (2 + i + 1 + 1 + 1 + 1) 100) (2 + i + 1 + 1 + 1 + 1 + 1) 97) (2 + i + 1 + 1 + 1 + 1 + 1 + 1) 109) := by rw [hlx21]; exact hg20.up
              refine x_st (st1 := []) rfl ?_
              refine x_aload_n 0 186 C0 dX8_writesLabel_185 rfl rfl rfl ?_
              refine x_bipush (v := 112) 188 C0 dX8_writesLabel_186 rfl (by decide) ?_
              refine x_callV 191 C0 (k_X8_writes l hl g _ _ n tx21 v bf sv pa lx21 ip td sg MR_MW hJ21 (2 + i + 1 + 1 + 1 + 1 + 1 + 1 + 1) (by omega) h821 112) dX8_writesLabel_188 rfl mC_X8_writes mM_X8_139 mI_X8_writes mV_X8_writes mN_X8 yd_X8_writes rfl rfl ⟨Nat.le_of_ble_eq_true rfl, Nat.le_of_ble_eq_true rfl⟩ MR_MW.o rfl rfl rfl rfl (Nat.le_of_ble_eq_true rfl) ⟨Nat.le_of_ble_eq_true rfl, Nat.le_of_ble_eq_true rfl⟩ (fun _ _ _ q => False.elim q) (fun r w1 sz1 hz hP => ?_)
              obtain ⟨rfl, rfl, rfl⟩ := hP
              refine x_w MW_MW ?_
              obtain ⟨lx22, hlx22⟩ : ∃ z, z = (upd lx21 (2 + i + 1 + 1 + 1 + 1 + 1 + 1 + 1) 112) := ⟨_, rfl⟩
              rw [← hlx22]
              obtain ⟨tx22, htx22⟩ : ∃ z, z = (upd tx21 8 (nI (2 + i + 1 + 1 + 1 + 1 + 1 + 1 + 1 + 1))) := ⟨_, rfl⟩
              rw [← htx22]
              have hJ22 : MJ n tx22 v bf sv pa sg := by rw [htx22]; exact hJ21.j_t (by decide)
              have h822 : tx22 8 = nI (2 + i + 1 + 1 + 1 + 1 + 1 + 1 + 1 + 1) := by rw [htx22]; rfl
              have hx22 : ∀ i, i ≠ 8 → tx22 i = t i := by rw [htx22]; exact fun i h => (if_neg h).trans (hx21 i h)
              have hg22 : zAg ((2 + i + 1 + 1 + 1 + 1 + 1 + 1 + 1) + 1) lx22 (upd (upd (upd (upd (upd (upd (upd (upd (zRK (v (28 + 9 * kc + 1)) b) (2 + i) 32) (2 + i + 1) (48 + (po / 10))) (2 + i + 1 + 1) (48 + (po - po / 10 * 10))) (2 + i + 1 + 1 + 1) 32) (2 + i + 1 + 1 + 1 + 1) 100) (2 + i + 1 + 1 + 1 + 1 + 1) 97) (2 + i + 1 + 1 + 1 + 1 + 1 + 1) 109) (2 + i + 1 + 1 + 1 + 1 + 1 + 1 + 1) 112) := by rw [hlx22]; exact hg21.up
              refine x_st (st1 := []) rfl ?_
              exact x_return C0 dX8_writesLabel_191 rfl (Nat.le_of_ble_eq_true rfl) (Nat.le_of_ble_eq_true rfl) ⟨rfl, rfl, _, _, rfl, hJ22, hx22, (2 + i + 1 + 1 + 1 + 1 + 1 + 1 + 1 + 1), by omega, h822, Or.inr ⟨c2, b, hb, hbv, by rw [← hpo]; exact rl_d hik c7 c17 hg22⟩⟩
            · exact x_return C0 dX8_writesLabel_160 rfl (Nat.le_of_ble_eq_true rfl) (Nat.le_of_ble_eq_true rfl) ⟨rfl, rfl, _, _, rfl, hJ16, hx16, (2 + i + 1 + 1 + 1), by omega, h816, Or.inr ⟨c2, b, hb, hbv, by rw [← hpo]; exact rl_b hik c7 c17 hg16⟩⟩
        · have hi2 : i < 6 := Nat.lt_of_le_of_ne hi (fun e => c5 (by rw [hJl.2.2.2.2.2.2.2.2 _ (by omega), e]; exact sgM_end b hb))
          refine x_aload_n 0 87 C0 dX8_writesLabel_86 rfl rfl rfl ?_
          refine x_aload_n 0 88 C0 dX8_writesLabel_87 rfl rfl rfl ?_
          refine x_getf (v := .ref (g.2 0 + 258 + 8)) 16 91 C0 dX8_writesLabel_88 rfl MR_MW.o rfl (by decide) inX8 mF_X8_31 rfl ?_
          refine x_bipush (v := 7) 93 C0 dX8_writesLabel_91 rfl (by decide) ?_
          refine x_bipush (v := 8) 95 C0 dX8_writesLabel_93 rfl (by decide) ?_
          refine x_iload_n 2 96 C0 dX8_writesLabel_95 rfl rfl rfl ?_
          refine x_iadd 97 C0 dX8_writesLabel_96 rfl ?_
          refine x_st (st1 := [.int (nI (8 + b)), .int 7, .ref (g.2 0 + 258 + 8), .ref (g.2 0 + 258)]) (congrArg (fun z => Value.int z :: _) (nI_add 8 b)) ?_
          refine x_imul 98 C0 dX8_writesLabel_97 rfl ?_
          refine x_st (st1 := [.int (nI (7 * (8 + b))), .ref (g.2 0 + 258 + 8), .ref (g.2 0 + 258)]) (congrArg (fun z => Value.int z :: _) (nI_mulN 7 (8 + b))) ?_
          refine x_iload 4 100 C0 dX8_writesLabel_98 rfl rfl ?_
          refine x_iadd 101 C0 dX8_writesLabel_100 rfl ?_
          refine x_st (st1 := [.int (nI (7 * (8 + b) + i)), .ref (g.2 0 + 258 + 8), .ref (g.2 0 + 258)]) (congrArg (fun z => Value.int z :: _) (nI_add (7 * (8 + b)) i)) ?_
          refine x_iald 0 102 C0 dX8_writesLabel_101 rfl MR_MW.r_sg rfl (vp_in_nI (n := 7 * (8 + b) + i) (by omega) (by decide)) ?_
          refine x_st (st1 := [.int (sg (7 * (8 + b) + i)), .ref (g.2 0 + 258)]) (congrArg (fun z => Value.int z :: _) (show sg (nI (7 * (8 + b) + i)).toNatClampNeg = sg (7 * (8 + b) + i) from by rw [nI_clamp (by omega)])) ?_
          refine x_callV 105 C0 (k_X8_writes l hl g _ _ n tl v bf sv pa lbl ip td sg MR_MW hJl (2 + i) (by omega) h8l (sg (7 * (8 + b) + i))) dX8_writesLabel_102 rfl mC_X8_writes mM_X8_139 mI_X8_writes mV_X8_writes mN_X8 yd_X8_writes rfl rfl ⟨Nat.le_of_ble_eq_true rfl, Nat.le_of_ble_eq_true rfl⟩ MR_MW.o rfl rfl rfl rfl (Nat.le_of_ble_eq_true rfl) ⟨Nat.le_of_ble_eq_true rfl, Nat.le_of_ble_eq_true rfl⟩ (fun _ _ _ q => False.elim q) (fun r w1 sz1 hz hP => ?_)
          obtain ⟨rfl, rfl, rfl⟩ := hP
          refine x_w MW_MW ?_
          obtain ⟨lx23, hlx23⟩ : ∃ z, z = (upd lbl (2 + i) (sg (7 * (8 + b) + i))) := ⟨_, rfl⟩
          rw [← hlx23]
          obtain ⟨tx23, htx23⟩ : ∃ z, z = (upd tl 8 (nI (2 + i + 1))) := ⟨_, rfl⟩
          rw [← htx23]
          have hJ23 : MJ n tx23 v bf sv pa sg := by rw [htx23]; exact hJl.j_t (by decide)
          have h823 : tx23 8 = nI (2 + i + 1) := by rw [htx23]; rfl
          have hx23 : ∀ i, i ≠ 8 → tx23 i = t i := by rw [htx23]; exact fun i h => (if_neg h).trans (hel i h)
          refine x_st (st1 := []) rfl ?_
          refine x_iinc [(4, .int (nI (i + 1))), (0, .ref (g.2 0 + 258)), (1, .int (nI kc)), (2, .int (nI b)), (3, .int po)] 4 108 C0 dX8_writesLabel_105 rfl rfl (nI_1 i) (by decide) rfl ?_
          refine x_lv (lv1 := [(0, .ref (g.2 0 + 258)), (1, .int (nI kc)), (2, .int (nI b)), (3, .int po), (4, .int (nI (i + 1)))]) [1, 2, 3, 4, 0] rfl ?_
          refine x_goto 68 C0 dX8_writesLabel_108 (by decide) ?_
          exact x_lv [0, 1, 2, 3, 4] rfl (ih (i + 1) _ _ (by omega) (by omega) hJ23 h823 hx23 (agr_k hgl (by rw [hlx23, hJl.2.2.2.2.2.2.2.2 (7 * (8 + b) + i) (by omega)])) (fun j hj => (Nat.lt_succ_iff_lt_or_eq.mp hj).elim (hkl j) (fun q => by rw [q, ← hJl.2.2.2.2.2.2.2.2 (7 * (8 + b) + i) (by omega)]; exact c5)))
    exact x_lv [0, 1, 2, 3, 4] rfl (loop68 7 0 _ _ (by omega) (by omega) hJ4 h84 hx4 (agr_0 hlx3 hlx4) (fun j hj => absurd hj (Nat.not_lt_zero j)))
  · exact x_return C0 dX8_writesLabel_19 rfl (Nat.le_of_ble_eq_true rfl) (Nat.le_of_ble_eq_true rfl) ⟨rfl, rfl, _, _, rfl, hJ1, (fun i h => if_neg h), 0, by omega, rfl, Or.inl ⟨c2, rfl⟩⟩

def R9_X8_labels (t v : Nat → Int32) (cn : Int32) (r : Option Value) (t' v' : Nat → Int32) : Prop :=
  (∃ (kc : Nat), (cn = nI kc) ∧ (nI kc < v 3) ∧ (kc < 20) ∧ (v (28 + 9 * kc + 7) = 0) ∧ (v (28 + 9 * kc + 3) = 0) ∧ (t' 1 = 3)) ∨
  (∃ (kc : Nat) (t9 : Nat → Int32), (cn = nI kc) ∧ (nI kc < v 3) ∧ (kc < 20) ∧ (v (28 + 9 * kc + 7) = 0) ∧ (¬ (v (28 + 9 * kc + 3) = 0)) ∧ (v (28 + 9 * kc + 6) ≤ 0) ∧ (t9 1 = t 1) ∧ (∃ (L : Nat) (f : Nat → Int32), t9 8 = nI L ∧ rlb (upd v (28 + 9 * kc + 8) 1) kc L f) ∧ (t' 1 = t 1) ∧ (r = some (.int (t9 8))) ∧ (v' = (upd v (28 + 9 * kc + 8) 1))) ∨
  (∃ (kc : Nat) (t11 : Nat → Int32), (cn = nI kc) ∧ (nI kc < v 3) ∧ (kc < 20) ∧ (v (28 + 9 * kc + 7) = 0) ∧ (¬ (v (28 + 9 * kc + 3) = 0)) ∧ (¬ (v (28 + 9 * kc + 6) ≤ 0)) ∧ (t11 1 = t 1) ∧ (∃ (L : Nat) (f : Nat → Int32), t11 8 = nI L ∧ rlb (upd v (28 + 9 * kc + 8) 2) kc L f) ∧ (t' 1 = t 1) ∧ (r = some (.int (t11 8))) ∧ (v' = (upd v (28 + 9 * kc + 8) 2))) ∨
  (∃ (kc : Nat), (cn = nI kc) ∧ (nI kc < v 3) ∧ (kc < 20) ∧ (¬ (v (28 + 9 * kc + 7) = 0)) ∧ (t' 1 = 3)) ∨
  ((¬ (0 ≤ cn ∧ cn < v 3)) ∧ (t' 1 = 1))
theorem R9_labels_w {t v t' v' : Nat → Int32} {cn : Int32} {r : Option Value} (h : R9_X8_labels t v cn r t' v') : R_X8_labels t v cn r t' v' := by
  rcases h with h | ⟨kc, t9, a1, a2, a3, a4, a5, a6, a7, -, a8, a9, b1⟩ | ⟨kc, t9, a1, a2, a3, a4, a5, a6, a7, -, a8, a9, b1⟩ | h | h
  · exact Or.inl h
  · exact Or.inr (Or.inl ⟨kc, t9, a1, a2, a3, a4, a5, a6, a7, a8, a9, b1⟩)
  · exact Or.inr (Or.inr (Or.inl ⟨kc, t9, a1, a2, a3, a4, a5, a6, a7, a8, a9, b1⟩))
  · exact Or.inr (Or.inr (Or.inr (Or.inl h)))
  · exact Or.inr (Or.inr (Or.inr (Or.inr h)))
theorem cP_w {t v pa : Nat → Int32} {X Y : Option Value → (Nat → Int32) → (Nat → Int32) → Prop} {ja jb jc : Int32} {r : Option Value} {t' v' pa' : Nat → Int32} (h : cP t v pa X ja jb jc r t' v' pa') (hw : ∀ r t v, X r t v → Y r t v) : cP t v pa Y ja jb jc r t' v' pa' := by
  obtain ⟨a, t1, v1, bf, h1, h2⟩ := h
  exact ⟨a, t1, v1, bf, hw _ _ _ h1, h2⟩
theorem lab_ans {x v t t' v' : Nat → Int32} {k : Nat} {ln : Nat → Nat} {lf : Nat → Nat → Int32} {a : Int32} (hA : hAl x ln lf v) (hx : hok x) (hm : nI k < x 3) (hk : k < 20) (hO : labelOk x k) (hX : R9_X8_labels t v (nI k) (some (.int a)) t' v') : some (Value.int (nI (labLen x k))) = some (.int a) := by
  have e1 := hA.1.row hm hk (j := 1) (by omega)
  have e2 := hA.1.row hm hk (j := 2) (by omega)
  have e3 := hA.1.row hm hk (j := 3) (by omega)
  have e6 := hA.1.row hm hk (j := 6) (by omega)
  have e7 := hA.1.row hm hk (j := 7) (by omega)
  have hd := damp_pos hA.1 hk
  rcases hX with ⟨kc, ek, -, hkc, -, h3, -⟩ | ⟨kc, t9, ek, -, hkc, -, -, h6, -, ⟨L, f, hL, hr⟩, -, q, -⟩ | ⟨kc, t9, ek, -, hkc, -, -, h6, -, ⟨L, f, hL, hr⟩, -, q, -⟩ | ⟨kc, ek, -, hkc, h7, -⟩ | ⟨hc, -⟩
  · obtain rfl := hA.1.kk hk hkc ek
    rw [e3] at h3
    exact absurd h3 ((hx.po hk).mp hO.2)
  · obtain rfl := hA.1.kk hk hkc ek
    rw [e6] at h6
    obtain ⟨l1, -⟩ := rlb_lab (v' := upd v (28 + 9 * k + 8) 1) (da := false) hx hk hO.2 ((if_neg (by omega)).trans e1) ((if_neg (by omega)).trans e2) ((if_neg (by omega)).trans e3) (if_pos rfl) hr
    rw [q, hL, l1]
    unfold labLen
    rw [decide_eq_false (fun z => hd.mp z h6)]
  · obtain rfl := hA.1.kk hk hkc ek
    rw [e6] at h6
    obtain ⟨l1, -⟩ := rlb_lab (v' := upd v (28 + 9 * k + 8) 2) (da := true) hx hk hO.2 ((if_neg (by omega)).trans e1) ((if_neg (by omega)).trans e2) ((if_neg (by omega)).trans e3) (if_pos rfl) hr
    rw [q, hL, l1]
    unfold labLen
    rw [decide_eq_true (hd.mpr h6)]
  · obtain rfl := hA.1.kk hk hkc ek
    rw [e7] at h7
    exact absurd hO.1 h7
  · exact chest_in hA.1 hm hk hc
set_option maxHeartbeats 4000000 in
set_option maxRecDepth 100000 in
theorem e_X8_labels (l : Launch) (hl : l.stackTraces = false) (g : xg_T) (w : xw_T) (sz n : Nat) (t v bf sv pa lb ip td sg : Nat → Int32) (hM : MR g w t v bf sv pa lb ip td sg) (hJ : MJ n t v bf sv pa sg) (cn : Int32) : xM l g yX8_labels cX8_labels 2 (some .int) ({ frames := 2, cells := 0, slots := 0, locals := 45 }) 0 0 [.ref (g.2 0 + 258), .int cn] w sz (mX g w sz n bf sv pa ip td sg (fun r t' v' => mT t r t' v' ∧ R9_X8_labels t v cn r t' v')) (fun _ _ _ => False) := by
  refine xM.of RX8 hl (by decide +kernel) rfl (Nat.le_of_ble_eq_true rfl) rfl ?_
  intro p e s m args below meth cD C0 hini
  refine x_aload_n 0 1 C0 dX8_labels_0 rfl rfl rfl ?_
  refine x_iload_n 1 2 C0 dX8_labels_1 rfl rfl rfl ?_
  refine x_callV 5 C0 (k_X8_isChest l hl g _ _ n t v bf sv pa lb ip td sg hM hJ cn) dX8_labels_2 rfl mC_X8_isChest mM_X8_108 mI_X8_isChest mV_X8_isChest mN_X8 yd_X8_isChest rfl rfl ⟨Nat.le_of_ble_eq_true rfl, Nat.le_of_ble_eq_true rfl⟩ hM.o rfl rfl rfl rfl (Nat.le_of_ble_eq_true rfl) ⟨Nat.le_of_ble_eq_true rfl, Nat.le_of_ble_eq_true rfl⟩ (fun _ _ _ q => False.elim q) (fun r w1 sz1 hz hP => ?_)
  obtain ⟨hr, rfl, rfl⟩ := hP
  rcases hr with ⟨⟨kc, hkc, hkv, hk3⟩, rfl⟩ | ⟨rfl, hkn⟩
  · subst hkv
    refine x_st (st1 := [.int 1]) rfl ?_
    refine x_if_ne 14 8 C0 dX8_labels_5 rfl (by decide) (fun _ => ?_) (fun q => False.elim (by revert q; decide))
    refine x_aload_n 0 15 C0 dX8_labels_14 rfl rfl rfl ?_
    refine x_getf (v := .ref (g.2 0 + 258 + 1)) 8 18 C0 dX8_labels_15 rfl hM.o rfl (by decide) inX8 mF_X8_7 rfl ?_
    refine x_iload_n 1 19 C0 dX8_labels_18 rfl rfl rfl ?_
    refine x_bipush (v := 7) 21 C0 dX8_labels_19 rfl (by decide) ?_
    refine x_callS 24 C0 (k_X8_at l hl g _ _ (nI kc) 7) dX8_labels_21 rfl mC_X8_at mM_X8_71 mS_X8_at mN_X8 yd_X8_at rfl rfl ⟨Nat.le_of_ble_eq_true rfl, Nat.le_of_ble_eq_true rfl⟩ rfl rfl (Nat.le_of_ble_eq_true rfl) ⟨Nat.le_of_ble_eq_true rfl, Nat.le_of_ble_eq_true rfl⟩ (fun _ _ _ q => False.elim q) (fun r w1 sz1 hz hP => ?_)
    obtain ⟨rfl, rfl, rfl⟩ := hP
    refine x_st (st1 := [.int (nI (28 + 9 * kc + 7)), .ref (g.2 0 + 258 + 1)]) (congrArg (fun z => Value.int z :: _) (at_nI 28 9 kc 7)) ?_
    refine x_iald 0 25 C0 dX8_labels_24 rfl hM.r_v rfl (vp_in_nI (n := 28 + 9 * kc + 7) (by omega) (by decide)) ?_
    refine x_st (st1 := [.int (v (28 + 9 * kc + 7))]) (congrArg (fun z => Value.int z :: _) (show v (nI (28 + 9 * kc + 7)).toNatClampNeg = v (28 + 9 * kc + 7) from by rw [nI_clamp (by omega)])) ?_
    refine x_if_eq 45 28 C0 dX8_labels_25 rfl (by decide) (fun c2 => ?_) (fun c2 => ?_)
    · refine x_aload_n 0 46 C0 dX8_labels_45 rfl rfl rfl ?_
      refine x_iload_n 1 47 C0 dX8_labels_46 rfl rfl rfl ?_
      refine x_callV 50 C0 (k_X8_isEmpty l hl g _ _ n t v bf sv pa lb ip td sg hM hJ kc (by omega)) dX8_labels_47 rfl mC_X8_isEmpty mM_X8_118 mI_X8_isEmpty mV_X8_isEmpty mN_X8 yd_X8_isEmpty rfl rfl ⟨Nat.le_of_ble_eq_true rfl, Nat.le_of_ble_eq_true rfl⟩ hM.o rfl rfl rfl rfl (Nat.le_of_ble_eq_true rfl) ⟨Nat.le_of_ble_eq_true rfl, Nat.le_of_ble_eq_true rfl⟩ (fun _ _ _ q => False.elim q) (fun r w1 sz1 hz hP => ?_)
      obtain ⟨hR3, rfl, rfl⟩ := hP
      rcases hR3 with ⟨rfl, hq3⟩ | ⟨rfl, hq3⟩
      · refine x_st (st1 := [.int 1]) rfl ?_
        refine x_if_eq 61 53 C0 dX8_labels_50 rfl (by decide) (fun q => False.elim (by revert q; decide)) (fun _ => ?_)
        refine x_aload_n 0 54 C0 dX8_labels_53 rfl rfl rfl ?_
        refine x_bipush (v := 10) 56 C0 dX8_labels_54 rfl (by decide) ?_
        refine x_iload_n 1 57 C0 dX8_labels_56 rfl rfl rfl ?_
        refine x_callV 60 C0 (k_X8_refuses l hl g _ _ n t v bf sv pa lb ip td sg hM hJ 10 (nI kc)) dX8_labels_57 rfl mC_X8_refuses mM_X8_82 mI_X8_refuses mV_X8_refuses mN_X8 yd_X8_refuses rfl rfl ⟨Nat.le_of_ble_eq_true rfl, Nat.le_of_ble_eq_true rfl⟩ hM.o rfl rfl rfl rfl (Nat.le_of_ble_eq_true rfl) ⟨Nat.le_of_ble_eq_true rfl, Nat.le_of_ble_eq_true rfl⟩ (fun _ _ _ q => False.elim q) (fun r w1 sz1 hz hP => ?_)
        obtain ⟨rfl, rfl, rfl⟩ := hP
        have hJ5 : MJ n (upd (upd (upd t 5 10) 6 (nI kc)) 1 3) v bf sv pa sg := (((hJ.j_t (by decide)).j_t (by decide)).j_t (by decide))
        refine x_st (st1 := [.int 0]) rfl ?_
        exact x_ireturn C0 dX8_labels_60 rfl rfl (Nat.le_of_ble_eq_true rfl) (Nat.le_of_ble_eq_true rfl) ⟨rfl, _, _, _, rfl, hJ5, ⟨⟨⟨_, rfl⟩, (((tK.rf.up (by decide)).up (by decide)).up (by decide))⟩, (Or.inl ⟨kc, rfl, hk3, hkc, c2, hq3, rfl⟩)⟩⟩
      · refine x_st (st1 := [.int 0]) rfl ?_
        refine x_if_eq 61 53 C0 dX8_labels_50 rfl (by decide) (fun _ => ?_) (fun q => False.elim (by revert q; decide))
        refine x_aload_n 0 62 C0 dX8_labels_61 rfl rfl rfl ?_
        refine x_getf (v := .ref (g.2 0 + 258 + 1)) 8 65 C0 dX8_labels_62 rfl hM.o rfl (by decide) inX8 mF_X8_7 rfl ?_
        refine x_iload_n 1 66 C0 dX8_labels_65 rfl rfl rfl ?_
        refine x_bipush (v := 8) 68 C0 dX8_labels_66 rfl (by decide) ?_
        refine x_callS 71 C0 (k_X8_at l hl g _ _ (nI kc) 8) dX8_labels_68 rfl mC_X8_at mM_X8_71 mS_X8_at mN_X8 yd_X8_at rfl rfl ⟨Nat.le_of_ble_eq_true rfl, Nat.le_of_ble_eq_true rfl⟩ rfl rfl (Nat.le_of_ble_eq_true rfl) ⟨Nat.le_of_ble_eq_true rfl, Nat.le_of_ble_eq_true rfl⟩ (fun _ _ _ q => False.elim q) (fun r w1 sz1 hz hP => ?_)
        obtain ⟨rfl, rfl, rfl⟩ := hP
        refine x_st (st1 := [.int (nI (28 + 9 * kc + 8)), .ref (g.2 0 + 258 + 1)]) (congrArg (fun z => Value.int z :: _) (at_nI 28 9 kc 8)) ?_
        refine x_aload_n 0 72 C0 dX8_labels_71 rfl rfl rfl ?_
        refine x_getf (v := .ref (g.2 0 + 258 + 1)) 8 75 C0 dX8_labels_72 rfl hM.o rfl (by decide) inX8 mF_X8_7 rfl ?_
        refine x_iload_n 1 76 C0 dX8_labels_75 rfl rfl rfl ?_
        refine x_bipush (v := 6) 78 C0 dX8_labels_76 rfl (by decide) ?_
        refine x_callS 81 C0 (k_X8_at l hl g _ _ (nI kc) 6) dX8_labels_78 rfl mC_X8_at mM_X8_71 mS_X8_at mN_X8 yd_X8_at rfl rfl ⟨Nat.le_of_ble_eq_true rfl, Nat.le_of_ble_eq_true rfl⟩ rfl rfl (Nat.le_of_ble_eq_true rfl) ⟨Nat.le_of_ble_eq_true rfl, Nat.le_of_ble_eq_true rfl⟩ (fun _ _ _ q => False.elim q) (fun r w1 sz1 hz hP => ?_)
        obtain ⟨rfl, rfl, rfl⟩ := hP
        refine x_st (st1 := [.int (nI (28 + 9 * kc + 6)), .ref (g.2 0 + 258 + 1), .int (nI (28 + 9 * kc + 8)), .ref (g.2 0 + 258 + 1)]) (congrArg (fun z => Value.int z :: _) (at_nI 28 9 kc 6)) ?_
        refine x_iald 0 82 C0 dX8_labels_81 rfl hM.r_v rfl (vp_in_nI (n := 28 + 9 * kc + 6) (by omega) (by decide)) ?_
        refine x_st (st1 := [.int (v (28 + 9 * kc + 6)), .int (nI (28 + 9 * kc + 8)), .ref (g.2 0 + 258 + 1)]) (congrArg (fun z => Value.int z :: _) (show v (nI (28 + 9 * kc + 6)).toNatClampNeg = v (28 + 9 * kc + 6) from by rw [nI_clamp (by omega)])) ?_
        refine x_if_le 89 85 C0 dX8_labels_82 rfl (by decide) (fun c7 => ?_) (fun c7 => ?_)
        · have c7' := Int32.not_lt.mpr c7
          refine x_iconst (v := 1) 90 C0 dX8_labels_89 rfl (by decide) ?_
          refine x_w (MW_self hM) ?_
          refine x_iast 0 91 C0 dX8_labels_90 rfl MR_MW.r_v (by show g.2 0 ≤ _; omega) rfl (vp_in_nI (n := 28 + 9 * kc + 8) (by omega) (by decide)) ?_
          refine x_w (w1 := (MW g w t (upd v (28 + 9 * kc + 8) 1) bf sv pa lb ip td sg)) (by rw [show (nI (28 + 9 * kc + 8) : Int32).toNatClampNeg = (28 + 9 * kc + 8) from nI_clamp (n := 28 + 9 * kc + 8) (by omega)]; exact MW_v) ?_
          have hJ8 : MJ n t (upd v (28 + 9 * kc + 8) 1) bf sv pa sg := hJ.j_v (hJ.1.la hkc hq3)
          refine x_aload_n 0 92 C0 dX8_labels_91 rfl rfl rfl ?_
          refine x_iload_n 1 93 C0 dX8_labels_92 rfl rfl rfl ?_
          refine x_callV 96 C0 (e_X8_writesLabel l hl g _ _ n t (upd v (28 + 9 * kc + 8) 1) bf sv pa lb ip td sg MR_MW hJ8 kc (by omega)) dX8_labels_93 rfl mC_X8_writesLabel mM_X8_143 mI_X8_writesLabel mV_X8_writesLabel mN_X8 yd_X8_writesLabel rfl rfl ⟨Nat.le_of_ble_eq_true rfl, Nat.le_of_ble_eq_true rfl⟩ MR_MW.o rfl rfl rfl rfl (Nat.le_of_ble_eq_true rfl) ⟨Nat.le_of_ble_eq_true rfl, Nat.le_of_ble_eq_true rfl⟩ (fun _ _ _ q => False.elim q) (fun r w1 sz1 hz hP => ?_)
          obtain ⟨rfl, rfl, t9, lb9, rfl, hJ9, he9, L9, hL9, h89, hE9⟩ := hP
          refine x_w MW_MW ?_
          refine x_st (st1 := []) rfl ?_
          refine x_aload_n 0 97 C0 dX8_labels_96 rfl rfl rfl ?_
          refine x_getf (v := .int (t9 8)) 13 100 C0 dX8_labels_97 rfl MR_MW.o rfl (by decide) inX8 mF_X8_136 rfl ?_
          exact x_ireturn C0 dX8_labels_100 rfl rfl (Nat.le_of_ble_eq_true rfl) (Nat.le_of_ble_eq_true rfl) ⟨rfl, _, _, _, rfl, hJ9, ⟨⟨⟨_, rfl⟩, (tK.of8 he9 tK.rf)⟩, (Or.inr (Or.inl ⟨kc, t9, rfl, hk3, hkc, c2, hq3, c7, (he9 1 (by decide)), ⟨L9, lb9, h89, hE9⟩, (he9 1 (by decide)), rfl, rfl⟩))⟩⟩
        · have c7' := Int32.not_le.mp c7
          refine x_iconst (v := 2) 86 C0 dX8_labels_85 rfl (by decide) ?_
          refine x_goto 90 C0 dX8_labels_86 (by decide) ?_
          refine x_w (MW_self hM) ?_
          refine x_iast 0 91 C0 dX8_labels_90 rfl MR_MW.r_v (by show g.2 0 ≤ _; omega) rfl (vp_in_nI (n := 28 + 9 * kc + 8) (by omega) (by decide)) ?_
          refine x_w (w1 := (MW g w t (upd v (28 + 9 * kc + 8) 2) bf sv pa lb ip td sg)) (by rw [show (nI (28 + 9 * kc + 8) : Int32).toNatClampNeg = (28 + 9 * kc + 8) from nI_clamp (n := 28 + 9 * kc + 8) (by omega)]; exact MW_v) ?_
          have hJ10 : MJ n t (upd v (28 + 9 * kc + 8) 2) bf sv pa sg := hJ.j_v (hJ.1.la hkc hq3)
          refine x_aload_n 0 92 C0 dX8_labels_91 rfl rfl rfl ?_
          refine x_iload_n 1 93 C0 dX8_labels_92 rfl rfl rfl ?_
          refine x_callV 96 C0 (e_X8_writesLabel l hl g _ _ n t (upd v (28 + 9 * kc + 8) 2) bf sv pa lb ip td sg MR_MW hJ10 kc (by omega)) dX8_labels_93 rfl mC_X8_writesLabel mM_X8_143 mI_X8_writesLabel mV_X8_writesLabel mN_X8 yd_X8_writesLabel rfl rfl ⟨Nat.le_of_ble_eq_true rfl, Nat.le_of_ble_eq_true rfl⟩ MR_MW.o rfl rfl rfl rfl (Nat.le_of_ble_eq_true rfl) ⟨Nat.le_of_ble_eq_true rfl, Nat.le_of_ble_eq_true rfl⟩ (fun _ _ _ q => False.elim q) (fun r w1 sz1 hz hP => ?_)
          obtain ⟨rfl, rfl, t11, lb11, rfl, hJ11, he11, L11, hL11, h811, hE11⟩ := hP
          refine x_w MW_MW ?_
          refine x_st (st1 := []) rfl ?_
          refine x_aload_n 0 97 C0 dX8_labels_96 rfl rfl rfl ?_
          refine x_getf (v := .int (t11 8)) 13 100 C0 dX8_labels_97 rfl MR_MW.o rfl (by decide) inX8 mF_X8_136 rfl ?_
          exact x_ireturn C0 dX8_labels_100 rfl rfl (Nat.le_of_ble_eq_true rfl) (Nat.le_of_ble_eq_true rfl) ⟨rfl, _, _, _, rfl, hJ11, ⟨⟨⟨_, rfl⟩, (tK.of8 he11 tK.rf)⟩, (Or.inr (Or.inr (Or.inl ⟨kc, t11, rfl, hk3, hkc, c2, hq3, c7, (he11 1 (by decide)), ⟨L11, lb11, h811, hE11⟩, (he11 1 (by decide)), rfl, rfl⟩)))⟩⟩
    · refine x_aload_n 0 29 C0 dX8_labels_28 rfl rfl rfl ?_
      refine x_iconst (v := 3) 30 C0 dX8_labels_29 rfl (by decide) ?_
      refine x_aload_n 0 31 C0 dX8_labels_30 rfl rfl rfl ?_
      refine x_getf (v := .ref (g.2 0 + 258 + 1)) 8 34 C0 dX8_labels_31 rfl hM.o rfl (by decide) inX8 mF_X8_7 rfl ?_
      refine x_iload_n 1 35 C0 dX8_labels_34 rfl rfl rfl ?_
      refine x_bipush (v := 7) 37 C0 dX8_labels_35 rfl (by decide) ?_
      refine x_callS 40 C0 (k_X8_at l hl g _ _ (nI kc) 7) dX8_labels_37 rfl mC_X8_at mM_X8_71 mS_X8_at mN_X8 yd_X8_at rfl rfl ⟨Nat.le_of_ble_eq_true rfl, Nat.le_of_ble_eq_true rfl⟩ rfl rfl (Nat.le_of_ble_eq_true rfl) ⟨Nat.le_of_ble_eq_true rfl, Nat.le_of_ble_eq_true rfl⟩ (fun _ _ _ q => False.elim q) (fun r w1 sz1 hz hP => ?_)
      obtain ⟨rfl, rfl, rfl⟩ := hP
      refine x_st (st1 := [.int (nI (28 + 9 * kc + 7)), .ref (g.2 0 + 258 + 1), .int 3, .ref (g.2 0 + 258)]) (congrArg (fun z => Value.int z :: _) (at_nI 28 9 kc 7)) ?_
      refine x_iald 0 41 C0 dX8_labels_40 rfl hM.r_v rfl (vp_in_nI (n := 28 + 9 * kc + 7) (by omega) (by decide)) ?_
      refine x_st (st1 := [.int (v (28 + 9 * kc + 7)), .int 3, .ref (g.2 0 + 258)]) (congrArg (fun z => Value.int z :: _) (show v (nI (28 + 9 * kc + 7)).toNatClampNeg = v (28 + 9 * kc + 7) from by rw [nI_clamp (by omega)])) ?_
      refine x_callV 44 C0 (k_X8_refuses l hl g _ _ n t v bf sv pa lb ip td sg hM hJ 3 (v (28 + 9 * kc + 7))) dX8_labels_41 rfl mC_X8_refuses mM_X8_82 mI_X8_refuses mV_X8_refuses mN_X8 yd_X8_refuses rfl rfl ⟨Nat.le_of_ble_eq_true rfl, Nat.le_of_ble_eq_true rfl⟩ hM.o rfl rfl rfl rfl (Nat.le_of_ble_eq_true rfl) ⟨Nat.le_of_ble_eq_true rfl, Nat.le_of_ble_eq_true rfl⟩ (fun _ _ _ q => False.elim q) (fun r w1 sz1 hz hP => ?_)
      obtain ⟨rfl, rfl, rfl⟩ := hP
      have hJ12 : MJ n (upd (upd (upd t 5 3) 6 (v (28 + 9 * kc + 7))) 1 3) v bf sv pa sg := (((hJ.j_t (by decide)).j_t (by decide)).j_t (by decide))
      refine x_st (st1 := [.int 0]) rfl ?_
      exact x_ireturn C0 dX8_labels_44 rfl rfl (Nat.le_of_ble_eq_true rfl) (Nat.le_of_ble_eq_true rfl) ⟨rfl, _, _, _, rfl, hJ12, ⟨⟨⟨_, rfl⟩, (((tK.rf.up (by decide)).up (by decide)).up (by decide))⟩, (Or.inr (Or.inr (Or.inr (Or.inl ⟨kc, rfl, hk3, hkc, c2, rfl⟩))))⟩⟩
  · refine x_st (st1 := [.int 0]) rfl ?_
    refine x_if_ne 14 8 C0 dX8_labels_5 rfl (by decide) (fun q => False.elim (by revert q; decide)) (fun _ => ?_)
    refine x_aload_n 0 9 C0 dX8_labels_8 rfl rfl rfl ?_
    refine x_iconst (v := 1) 10 C0 dX8_labels_9 rfl (by decide) ?_
    refine x_callV 13 C0 (k_X8_fail l hl g _ _ n t v bf sv pa lb ip td sg hM hJ 1) dX8_labels_10 rfl mC_X8_fail mM_X8_47 mI_X8_fail mV_X8_fail mN_X8 yd_X8_fail rfl rfl ⟨Nat.le_of_ble_eq_true rfl, Nat.le_of_ble_eq_true rfl⟩ hM.o rfl rfl rfl rfl (Nat.le_of_ble_eq_true rfl) ⟨Nat.le_of_ble_eq_true rfl, Nat.le_of_ble_eq_true rfl⟩ (fun _ _ _ q => False.elim q) (fun r w1 sz1 hz hP => ?_)
    obtain ⟨rfl, rfl, rfl⟩ := hP
    have hJ14 : MJ n (upd t 1 1) v bf sv pa sg := (hJ.j_t (by decide))
    refine x_st (st1 := [.int 0]) rfl ?_
    exact x_ireturn C0 dX8_labels_13 rfl rfl (Nat.le_of_ble_eq_true rfl) (Nat.le_of_ble_eq_true rfl) ⟨rfl, _, _, _, rfl, hJ14, ⟨⟨⟨_, rfl⟩, (tK.rf.up (by decide))⟩, (Or.inr (Or.inr (Or.inr (Or.inr (⟨hkn, rfl⟩)))))⟩⟩

set_option maxHeartbeats 4000000 in
set_option maxRecDepth 100000 in
theorem e_X8_label (l : Launch) (hl : l.stackTraces = false) (g : xg_T) (w : xw_T) (sz n : Nat) (t v bf sv pa lb ip td sg : Nat → Int32) (hM : MR g w t v bf sv pa lb ip td sg) (hJ : MJ n t v bf sv pa sg) (cn : Int32) : xM l g yX8_label cX8_label 2 (some .int) ({ frames := 3, cells := 0, slots := 0, locals := 66 }) 0 0 [.ref (g.2 0 + 258), .int cn] w sz (mC g w sz n t sv ip td sg (fun r t' v' pa' => cP t v pa (R9_X8_labels (upd (upd t 0 0) 1 0) v cn) 1 0 2 r t' v' pa')) (fun _ _ _ => False) := by
  refine xM.of RX8 hl (by decide +kernel) rfl (Nat.le_of_ble_eq_true rfl) rfl ?_
  intro p e s m args below meth cD C0 hini
  refine x_aload_n 0 1 C0 dX8_label_0 rfl rfl rfl ?_
  refine x_callV 4 C0 (k_X8_begins l hl g _ _ n t v bf sv pa lb ip td sg hM hJ) dX8_label_1 rfl mC_X8_begins mM_X8_85 mI_X8_begins mV_X8_begins mN_X8 yd_X8_begins rfl rfl ⟨Nat.le_of_ble_eq_true rfl, Nat.le_of_ble_eq_true rfl⟩ hM.o rfl rfl rfl rfl (Nat.le_of_ble_eq_true rfl) ⟨Nat.le_of_ble_eq_true rfl, Nat.le_of_ble_eq_true rfl⟩ (fun _ _ _ q => False.elim q) (fun r w1 sz1 hz hP => ?_)
  obtain ⟨rfl, rfl, bf1, rfl, hJ1, hb1⟩ := hP
  refine x_st (st1 := []) rfl ?_
  refine x_aload_n 0 5 C0 dX8_label_4 rfl rfl rfl ?_
  refine x_aload_n 0 6 C0 dX8_label_5 rfl rfl rfl ?_
  refine x_iload_n 1 7 C0 dX8_label_6 rfl rfl rfl ?_
  refine x_callV 10 C0 (e_X8_labels l hl g _ _ n (upd (upd t 0 0) 1 0) v bf1 sv pa lb ip td sg MR_MW hJ1 cn) dX8_label_7 rfl mC_X8_labels mM_X8_146 mI_X8_labels mV_X8_labels mN_X8 yd_X8_labels rfl rfl ⟨Nat.le_of_ble_eq_true rfl, Nat.le_of_ble_eq_true rfl⟩ MR_MW.o rfl rfl rfl rfl (Nat.le_of_ble_eq_true rfl) ⟨Nat.le_of_ble_eq_true rfl, Nat.le_of_ble_eq_true rfl⟩ (fun _ _ _ q => False.elim q) (fun r w1 sz1 hz hP => ?_)
  obtain ⟨rfl, t2, v2, lb2, rfl, hJ2, hR2⟩ := hP
  refine x_w MW_MW ?_
  obtain ⟨⟨⟨a2, rfl⟩, he2⟩, hX2⟩ := hR2
  refine x_st (st1 := [.int a2, .ref (g.2 0 + 258)]) rfl ?_
  refine x_iconst (v := 1) 11 C0 dX8_label_10 rfl (by decide) ?_
  refine x_iconst (v := 0) 12 C0 dX8_label_11 rfl (by decide) ?_
  refine x_iconst (v := 2) 13 C0 dX8_label_12 rfl (by decide) ?_
  refine x_callV 16 C0 (k_X8_ends l hl g _ _ n t2 v2 bf1 sv pa lb2 ip td sg MR_MW hJ2 a2 1 0 2) dX8_label_13 rfl mC_X8_ends mM_X8_92 mI_X8_ends mV_X8_ends mN_X8 yd_X8_ends rfl rfl ⟨Nat.le_of_ble_eq_true rfl, Nat.le_of_ble_eq_true rfl⟩ MR_MW.o rfl rfl rfl rfl (Nat.le_of_ble_eq_true rfl) ⟨Nat.le_of_ble_eq_true rfl, Nat.le_of_ble_eq_true rfl⟩ (fun _ _ _ q => False.elim q) (fun r w1 sz1 hz hP => ?_)
  obtain ⟨rfl, t3, v3, pa3, rfl, hJ3, h73, he3, hE3⟩ := hP
  obtain ⟨z3, rfl⟩ := endP_r hE3
  refine x_w MW_MW ?_
  refine x_st (st1 := [.int z3]) rfl ?_
  exact x_ireturn C0 dX8_label_16 rfl rfl (Nat.le_of_ble_eq_true rfl) (Nat.le_of_ble_eq_true rfl) ⟨rfl, _, _, _, _, _, rfl, hJ3, h73.trans (he2 7 (by decide)), ⟨a2, t2, v2, bf1, hX2, he2, hb1, hE3⟩⟩

section RLY
variable {g : xg_T} {w1 : xw_T} {sz1 : Nat} {x x' : Nat → Nat → Int32} {la la' : Nat → Nat → Nat} {t t' tm tm' v v' sv pa pa' : Nat → Int32} {LN : Nat → Nat → Nat} {LF : Nat → Nat → Nat → Int32} {c0 : Nat} {r rm : Option Value} {E : String} {ja jb jc : Int32} {X : Option Value → (Nat → Int32) → (Nat → Int32) → Prop}
theorem al9_label_y (cn : Int32) (hA : AL x t LN LF c0 tm v sv pa) (hT : TX g w1 sz1 la LN LF) (hx : hok (x 0)) (hc : c0 < 2 ^ 30) (h7 : tm' 7 = tm 7) (hP : cP tm v pa (R9_X8_labels (upd (upd tm 0 0) 1 0) v cn) 1 0 2 rm tm' v' pa') (hL : L_X7_label g w1 sz1 x la t cn r x' la' t') : r = rm ∧ tm' 0 = 0 ∧ aft g w1 sz1 x' la' t' (c0 + 1) tm' v' sv pa' := by
  obtain ⟨k, x1, la1, b2, xb, lb, t4, rfl, hm, hk, hj, hlb, hb, rfl, rfl, rfl, rfl, rfl⟩ := hL
  have hj : pRow x la t _ _ := hj
  have e0 := hj.e0
  obtain ⟨hO, rfl, a9, rfl, hT9⟩ : labelOk (x1 0) k ∧ _ := hlb.elim (fun q => ⟨q.1, q.2.2⟩) (fun q => absurd q.2.1 hb)
  obtain ⟨⟨a, t1, v1, hrm, hX⟩, hz, hf⟩ := (hj.yes (g := g) (w1 := w1) (sz1 := sz1) (x2 := x1 0) (l2 := va_up (la1 0) k a9) hc hA.h1 rfl rfl rfl).alike hA hT hc h7 hP (fun a t1 v1 hX => by
    rw [e0.1] at hO hT9 ⊢
    rw [e0.2]
    rcases label_eq hA.1.1 hx hm hk (R9_labels_w hX) with ⟨-, q1, q2⟩ | ⟨q, -⟩
    · refine ⟨q1.trans rfl, va_up (LN 0) k (labLen (x 0) k), va_up (LF 0) k (labTxt (x 0) k), fun k2 hk2 => ?_, by rw [q2]; exact hA.1.1.lab, by rw [q2]; exact hA.1.2.mark hm hO.2⟩
      by_cases e : k2 = k
      · subst e
        rw [va_up_self, va_up_self, va_up_self]
        exact hT9
      · rw [va_up_ne _ _ e, va_up_ne _ _ e, va_up_ne _ _ e]
        exact hT 0 (by omega) k2 hk2
    · exact absurd hO q)
  refine ⟨?_, hz, hf⟩
  rw [hrm, e0.1]
  rw [e0.1] at hO
  exact lab_ans hA.1 hx hm hk hO hX
end RLY
