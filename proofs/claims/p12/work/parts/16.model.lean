/-! THE REFERENCE: its small methods -/
def tK (t t' : Nat → Int32) : Prop := ∀ i, (i = 0 ∨ i = 2 ∨ i = 7 ∨ i = 10 ∨ i = 11 ∨ i = 12) → t' i = t i
theorem tK.rf {t : Nat → Int32} : tK t t := fun _ _ => rfl
theorem tK.up {t u : Nat → Int32} {i : Nat} {z : Int32} (h : tK t u) (hi : ¬ (i = 0 ∨ i = 2 ∨ i = 7 ∨ i = 10 ∨ i = 11 ∨ i = 12)) : tK t (upd u i z) := fun j hj => (if_neg (fun e => hi (by rw [← e]; exact hj))).trans (h j hj)
theorem tK.trans {a b c : Nat → Int32} (h : tK b c) (h2 : tK a b) : tK a c := fun i hi => (h i hi).trans (h2 i hi)
theorem tK.of8 {a b c : Nat → Int32} (h : ∀ i, i ≠ 8 → c i = b i) (h2 : tK a b) : tK a c := fun i hi => (h i (by omega)).trans (h2 i hi)
def tL (t t' : Nat → Int32) : Prop := ∀ i, (i = 2 ∨ i = 7 ∨ i = 10) → t' i = t i
theorem tL.rf {t : Nat → Int32} : tL t t := fun _ _ => rfl
theorem tL.up {t u : Nat → Int32} {i : Nat} {z : Int32} (h : tL t u) (hi : ¬ (i = 2 ∨ i = 7 ∨ i = 10)) : tL t (upd u i z) := fun j hj => (if_neg (fun e => hi (by rw [← e]; exact hj))).trans (h j hj)
theorem tL.trans {a b c : Nat → Int32} (h : tL b c) (h2 : tL a b) : tL a c := fun i hi => (h i hi).trans (h2 i hi)
theorem tL.of8 {a b c : Nat → Int32} (h : ∀ i, i ≠ 8 → c i = b i) (h2 : tL a b) : tL a c := fun i hi => (h i (by omega)).trans (h2 i hi)
def mT (t : Nat → Int32) (r : Option Value) (t' _ : Nat → Int32) : Prop := (∃ z : Int32, r = some (.int z)) ∧ tK t t'
set_option maxHeartbeats 4000000 in
set_option maxRecDepth 100000 in
theorem k_X8_thrown (l : Launch) (hl : l.stackTraces = false) (g : xg_T) (w : xw_T) (sz n : Nat) (t v bf sv pa lb ip td sg : Nat → Int32) (hM : MR g w t v bf sv pa lb ip td sg) (hJ : MJ n t v bf sv pa sg) : xM l g yX8_thrown cX8_thrown 1 (some .int) ({ frames := 0, cells := 0, slots := 0, locals := 0 }) 0 0 [.ref (g.2 0 + 258)] w sz (fun r w1 sz1 => r = some (.int (t 0)) ∧ w = w1 ∧ sz = sz1) (fun _ _ _ => False) := by
  refine xM.of RX8 hl (by decide +kernel) rfl (Nat.le_of_ble_eq_true rfl) rfl ?_
  intro p e s m args below meth cD C0 hini
  refine x_aload_n 0 1 C0 dX8_thrown_0 rfl rfl rfl ?_
  refine x_getf (v := .int (t 0)) 0 4 C0 dX8_thrown_1 rfl hM.o rfl (by decide) inX8 mF_X8_34 rfl ?_
  exact x_ireturn C0 dX8_thrown_4 rfl rfl (Nat.le_of_ble_eq_true rfl) (Nat.le_of_ble_eq_true rfl) ⟨rfl, rfl, rfl⟩

set_option maxHeartbeats 4000000 in
set_option maxRecDepth 100000 in
theorem k_X8_no (l : Launch) (hl : l.stackTraces = false) (g : xg_T) (w : xw_T) (sz n : Nat) (t v bf sv pa lb ip td sg : Nat → Int32) (hM : MR g w t v bf sv pa lb ip td sg) (hJ : MJ n t v bf sv pa sg) (cd : Int32) : xM l g yX8_no cX8_no 2 (some .int) ({ frames := 0, cells := 0, slots := 0, locals := 0 }) 0 0 [.ref (g.2 0 + 258), .int cd] w sz (fun r w1 sz1 => r = some (.int 0) ∧ w1 = MW g w (upd t 0 cd) v bf sv pa lb ip td sg ∧ sz = sz1) (fun _ _ _ => False) := by
  refine xM.of RX8 hl (by decide +kernel) rfl (Nat.le_of_ble_eq_true rfl) rfl ?_
  intro p e s m args below meth cD C0 hini
  refine x_aload_n 0 1 C0 dX8_no_0 rfl rfl rfl ?_
  refine x_iload_n 1 2 C0 dX8_no_1 rfl rfl rfl ?_
  refine x_w (MW_self hM) ?_
  refine x_putf 0 5 C0 dX8_no_2 rfl MR_MW.o (by show g.2 0 ≤ _; omega) rfl (by decide) inX8 tyX8_ok nmX8 mF_X8_34 rfl rfl rfl rfl (Nat.le_of_ble_eq_true rfl) ?_
  refine x_w (w1 := (MW g w (upd t 0 cd) v bf sv pa lb ip td sg)) (MW_o rfl) ?_
  have hJ1 : MJ n (upd t 0 cd) v bf sv pa sg := hJ.j_t (by decide)
  refine x_iconst (v := 0) 6 C0 dX8_no_5 rfl (by decide) ?_
  exact x_ireturn C0 dX8_no_6 rfl rfl (Nat.le_of_ble_eq_true rfl) (Nat.le_of_ble_eq_true rfl) ⟨rfl, rfl, rfl⟩

set_option maxHeartbeats 4000000 in
set_option maxRecDepth 100000 in
theorem k_X8_fail (l : Launch) (hl : l.stackTraces = false) (g : xg_T) (w : xw_T) (sz n : Nat) (t v bf sv pa lb ip td sg : Nat → Int32) (hM : MR g w t v bf sv pa lb ip td sg) (hJ : MJ n t v bf sv pa sg) (cd : Int32) : xM l g yX8_fail cX8_fail 2 (some .int) ({ frames := 0, cells := 0, slots := 0, locals := 0 }) 0 0 [.ref (g.2 0 + 258), .int cd] w sz (fun r w1 sz1 => r = some (.int 0) ∧ w1 = MW g w (upd t 1 cd) v bf sv pa lb ip td sg ∧ sz = sz1) (fun _ _ _ => False) := by
  refine xM.of RX8 hl (by decide +kernel) rfl (Nat.le_of_ble_eq_true rfl) rfl ?_
  intro p e s m args below meth cD C0 hini
  refine x_aload_n 0 1 C0 dX8_fail_0 rfl rfl rfl ?_
  refine x_iload_n 1 2 C0 dX8_fail_1 rfl rfl rfl ?_
  refine x_w (MW_self hM) ?_
  refine x_putf 1 5 C0 dX8_fail_2 rfl MR_MW.o (by show g.2 0 ≤ _; omega) rfl (by decide) inX8 tyX8_ok nmX8 mF_X8_38 rfl rfl rfl rfl (Nat.le_of_ble_eq_true rfl) ?_
  refine x_w (w1 := (MW g w (upd t 1 cd) v bf sv pa lb ip td sg)) (MW_o rfl) ?_
  have hJ1 : MJ n (upd t 1 cd) v bf sv pa sg := hJ.j_t (by decide)
  refine x_iconst (v := 0) 6 C0 dX8_fail_5 rfl (by decide) ?_
  exact x_ireturn C0 dX8_fail_6 rfl rfl (Nat.le_of_ble_eq_true rfl) (Nat.le_of_ble_eq_true rfl) ⟨rfl, rfl, rfl⟩

set_option maxHeartbeats 4000000 in
set_option maxRecDepth 100000 in
theorem k_X8_refuses (l : Launch) (hl : l.stackTraces = false) (g : xg_T) (w : xw_T) (sz n : Nat) (t v bf sv pa lb ip td sg : Nat → Int32) (hM : MR g w t v bf sv pa lb ip td sg) (hJ : MJ n t v bf sv pa sg) (aa : Int32) (bb : Int32) : xM l g yX8_refuses cX8_refuses 3 (some .int) ({ frames := 1, cells := 0, slots := 0, locals := 21 }) 0 0 [.ref (g.2 0 + 258), .int aa, .int bb] w sz (fun r w1 sz1 => r = some (.int 0) ∧ w1 = MW g w (upd (upd (upd t 5 aa) 6 bb) 1 3) v bf sv pa lb ip td sg ∧ sz = sz1) (fun _ _ _ => False) := by
  refine xM.of RX8 hl (by decide +kernel) rfl (Nat.le_of_ble_eq_true rfl) rfl ?_
  intro p e s m args below meth cD C0 hini
  refine x_aload_n 0 1 C0 dX8_refuses_0 rfl rfl rfl ?_
  refine x_iload_n 1 2 C0 dX8_refuses_1 rfl rfl rfl ?_
  refine x_w (MW_self hM) ?_
  refine x_putf 5 5 C0 dX8_refuses_2 rfl MR_MW.o (by show g.2 0 ≤ _; omega) rfl (by decide) inX8 tyX8_ok nmX8 mF_X8_41 rfl rfl rfl rfl (Nat.le_of_ble_eq_true rfl) ?_
  refine x_w (w1 := (MW g w (upd t 5 aa) v bf sv pa lb ip td sg)) (MW_o rfl) ?_
  have hJ1 : MJ n (upd t 5 aa) v bf sv pa sg := hJ.j_t (by decide)
  refine x_aload_n 0 6 C0 dX8_refuses_5 rfl rfl rfl ?_
  refine x_iload_n 2 7 C0 dX8_refuses_6 rfl rfl rfl ?_
  refine x_putf 6 10 C0 dX8_refuses_7 rfl MR_MW.o (by show g.2 0 ≤ _; omega) rfl (by decide) inX8 tyX8_ok nmX8 mF_X8_44 rfl rfl rfl rfl (Nat.le_of_ble_eq_true rfl) ?_
  refine x_w (w1 := (MW g w (upd (upd t 5 aa) 6 bb) v bf sv pa lb ip td sg)) (MW_o rfl) ?_
  have hJ2 : MJ n (upd (upd t 5 aa) 6 bb) v bf sv pa sg := hJ1.j_t (by decide)
  refine x_aload_n 0 11 C0 dX8_refuses_10 rfl rfl rfl ?_
  refine x_iconst (v := 3) 12 C0 dX8_refuses_11 rfl (by decide) ?_
  refine x_callV 15 C0 (k_X8_fail l hl g _ _ n (upd (upd t 5 aa) 6 bb) v bf sv pa lb ip td sg MR_MW hJ2 3) dX8_refuses_12 rfl mC_X8_fail mM_X8_47 mI_X8_fail mV_X8_fail mN_X8 yd_X8_fail rfl rfl ⟨Nat.le_of_ble_eq_true rfl, Nat.le_of_ble_eq_true rfl⟩ MR_MW.o rfl rfl rfl rfl (Nat.le_of_ble_eq_true rfl) ⟨Nat.le_of_ble_eq_true rfl, Nat.le_of_ble_eq_true rfl⟩ (fun _ _ _ q => False.elim q) (fun r w1 sz1 hz hP => ?_)
  obtain ⟨rfl, rfl, rfl⟩ := hP
  refine x_w MW_MW ?_
  have hJ3 : MJ n (upd (upd (upd t 5 aa) 6 bb) 1 3) v bf sv pa sg := (hJ2.j_t (by decide))
  refine x_st (st1 := [.int 0]) rfl ?_
  exact x_ireturn C0 dX8_refuses_15 rfl rfl (Nat.le_of_ble_eq_true rfl) (Nat.le_of_ble_eq_true rfl) ⟨rfl, rfl, rfl⟩

set_option maxHeartbeats 4000000 in
set_option maxRecDepth 100000 in
theorem k_X8_isIn (l : Launch) (hl : l.stackTraces = false) (g : xg_T) (w : xw_T) (sz : Nat) (v a b : Int32) : xM l g yX8_isIn cX8_isIn 3 (some .boolean) ({ frames := 0, cells := 0, slots := 0, locals := 0 }) 0 0 [.int v, .int a, .int b] w sz (fun r w1 sz1 => ((r = some (.int 1) ∧ a ≤ v ∧ v ≤ b) ∨ (r = some (.int 0) ∧ ¬ (a ≤ v ∧ v ≤ b))) ∧ w = w1 ∧ sz = sz1) (fun _ _ _ => False) := by
  refine xM.of RX8 hl (by decide +kernel) rfl (Nat.le_of_ble_eq_true rfl) rfl ?_
  intro p e s m args below meth cD C0 hini
  refine x_iload_n 0 1 C0 dX8_isIn_0 rfl rfl rfl ?_
  refine x_iload_n 1 2 C0 dX8_isIn_1 rfl rfl rfl ?_
  refine x_icmp_lt 14 5 C0 dX8_isIn_2 rfl (by decide) (fun c1 => ?_) (fun c1 => ?_)
  · have c1' := Int32.not_le.mpr c1
    refine x_iconst (v := 0) 15 C0 dX8_isIn_14 rfl (by decide) ?_
    exact x_ireturn C0 dX8_isIn_15 rfl rfl (Nat.le_of_ble_eq_true rfl) (Nat.le_of_ble_eq_true rfl) ⟨Or.inr ⟨rfl, fun z => absurd z.1 c1'⟩, rfl, rfl⟩
  · have c1' := Int32.not_lt.mp c1
    refine x_iload_n 0 6 C0 dX8_isIn_5 rfl rfl rfl ?_
    refine x_iload_n 2 7 C0 dX8_isIn_6 rfl rfl rfl ?_
    refine x_icmp_gt 14 10 C0 dX8_isIn_7 rfl (by decide) (fun c2 => ?_) (fun c2 => ?_)
    · have c2' := Int32.not_le.mpr c2
      refine x_iconst (v := 0) 15 C0 dX8_isIn_14 rfl (by decide) ?_
      exact x_ireturn C0 dX8_isIn_15 rfl rfl (Nat.le_of_ble_eq_true rfl) (Nat.le_of_ble_eq_true rfl) ⟨Or.inr ⟨rfl, fun z => absurd z.2 c2'⟩, rfl, rfl⟩
    · have c2' := Int32.not_lt.mp c2
      refine x_iconst (v := 1) 11 C0 dX8_isIn_10 rfl (by decide) ?_
      refine x_goto 15 C0 dX8_isIn_11 (by decide) ?_
      exact x_ireturn C0 dX8_isIn_15 rfl rfl (Nat.le_of_ble_eq_true rfl) (Nat.le_of_ble_eq_true rfl) ⟨Or.inl ⟨rfl, c1', c2'⟩, rfl, rfl⟩

def lsr (a b : Int32) : Int32 := if a < b then a else b
set_option maxHeartbeats 4000000 in
set_option maxRecDepth 100000 in
theorem k_X8_lesser (l : Launch) (hl : l.stackTraces = false) (g : xg_T) (w : xw_T) (sz : Nat) (a b : Int32) : xM l g yX8_lesser cX8_lesser 2 (some .int) ({ frames := 0, cells := 0, slots := 0, locals := 0 }) 0 0 [.int a, .int b] w sz (fun r w1 sz1 => r = some (.int (lsr a b)) ∧ w = w1 ∧ sz = sz1) (fun _ _ _ => False) := by
  refine xM.of RX8 hl (by decide +kernel) rfl (Nat.le_of_ble_eq_true rfl) rfl ?_
  intro p e s m args below meth cD C0 hini
  refine x_iload_n 0 1 C0 dX8_lesser_0 rfl rfl rfl ?_
  refine x_iload_n 1 2 C0 dX8_lesser_1 rfl rfl rfl ?_
  refine x_icmp_ge 9 5 C0 dX8_lesser_2 rfl (by decide) (fun c1 => ?_) (fun c1 => ?_)
  · have c1' := Int32.not_lt.mpr c1
    refine x_iload_n 1 10 C0 dX8_lesser_9 rfl rfl rfl ?_
    exact x_ireturn C0 dX8_lesser_10 rfl rfl (Nat.le_of_ble_eq_true rfl) (Nat.le_of_ble_eq_true rfl) ⟨by unfold lsr; rw [if_neg c1'], rfl, rfl⟩
  · have c1' := Int32.not_le.mp c1
    refine x_iload_n 0 6 C0 dX8_lesser_5 rfl rfl rfl ?_
    refine x_goto 10 C0 dX8_lesser_6 (by decide) ?_
    exact x_ireturn C0 dX8_lesser_10 rfl rfl (Nat.le_of_ble_eq_true rfl) (Nat.le_of_ble_eq_true rfl) ⟨by unfold lsr; rw [if_pos c1'], rfl, rfl⟩

set_option maxHeartbeats 4000000 in
set_option maxRecDepth 100000 in
theorem k_X8_at (l : Launch) (hl : l.stackTraces = false) (g : xg_T) (w : xw_T) (sz : Nat) (a b : Int32) : xM l g yX8_at cX8_at 2 (some .int) ({ frames := 0, cells := 0, slots := 0, locals := 0 }) 0 0 [.int a, .int b] w sz (fun r w1 sz1 => r = some (.int (28 + 9 * a + b)) ∧ w = w1 ∧ sz = sz1) (fun _ _ _ => False) := by
  refine xM.of RX8 hl (by decide +kernel) rfl (Nat.le_of_ble_eq_true rfl) rfl ?_
  intro p e s m args below meth cD C0 hini
  refine x_bipush (v := 28) 2 C0 dX8_at_0 rfl (by decide) ?_
  refine x_bipush (v := 9) 4 C0 dX8_at_2 rfl (by decide) ?_
  refine x_iload_n 0 5 C0 dX8_at_4 rfl rfl rfl ?_
  refine x_imul 6 C0 dX8_at_5 rfl ?_
  refine x_iadd 7 C0 dX8_at_6 rfl ?_
  refine x_iload_n 1 8 C0 dX8_at_7 rfl rfl rfl ?_
  refine x_iadd 9 C0 dX8_at_8 rfl ?_
  exact x_ireturn C0 dX8_at_9 rfl rfl (Nat.le_of_ble_eq_true rfl) (Nat.le_of_ble_eq_true rfl) ⟨rfl, rfl, rfl⟩

set_option maxHeartbeats 4000000 in
set_option maxRecDepth 100000 in
theorem k_X8_leaf (l : Launch) (hl : l.stackTraces = false) (g : xg_T) (w : xw_T) (sz : Nat) (a b : Int32) : xM l g yX8_leaf cX8_leaf 2 (some .int) ({ frames := 0, cells := 0, slots := 0, locals := 0 }) 0 0 [.int a, .int b] w sz (fun r w1 sz1 => r = some (.int (10 + 3 * a + b)) ∧ w = w1 ∧ sz = sz1) (fun _ _ _ => False) := by
  refine xM.of RX8 hl (by decide +kernel) rfl (Nat.le_of_ble_eq_true rfl) rfl ?_
  intro p e s m args below meth cD C0 hini
  refine x_bipush (v := 10) 2 C0 dX8_leaf_0 rfl (by decide) ?_
  refine x_iconst (v := 3) 3 C0 dX8_leaf_2 rfl (by decide) ?_
  refine x_iload_n 0 4 C0 dX8_leaf_3 rfl rfl rfl ?_
  refine x_imul 5 C0 dX8_leaf_4 rfl ?_
  refine x_iadd 6 C0 dX8_leaf_5 rfl ?_
  refine x_iload_n 1 7 C0 dX8_leaf_6 rfl rfl rfl ?_
  refine x_iadd 8 C0 dX8_leaf_7 rfl ?_
  exact x_ireturn C0 dX8_leaf_8 rfl rfl (Nat.le_of_ble_eq_true rfl) (Nat.le_of_ble_eq_true rfl) ⟨rfl, rfl, rfl⟩

theorem at_nI (c d a b : Nat) : nI c + nI d * nI a + nI b = nI (c + d * a + b) := by rw [nI_mulN, nI_add, nI_add]
def hgt (x : Int32) : Int32 := if 6 - (x - x / 12 * 12) < 0 then -(6 - (x - x / 12 * 12)) else 6 - (x - x / 12 * 12)
set_option maxHeartbeats 4000000 in
set_option maxRecDepth 100000 in
theorem k_X8_heightAt (l : Launch) (hl : l.stackTraces = false) (g : xg_T) (w : xw_T) (sz : Nat) (x : Int32) : xM l g yX8_heightAt cX8_heightAt 2 (some .int) ({ frames := 0, cells := 0, slots := 0, locals := 0 }) 0 0 [.int x] w sz (fun r w1 sz1 => r = some (.int (hgt x)) ∧ w = w1 ∧ sz = sz1) (fun _ _ _ => False) := by
  refine xM.of RX8 hl (by decide +kernel) rfl (Nat.le_of_ble_eq_true rfl) rfl ?_
  intro p e s m args below meth cD C0 hini
  refine x_bipush (v := 6) 2 C0 dX8_heightAt_0 rfl (by decide) ?_
  refine x_iload_n 0 3 C0 dX8_heightAt_2 rfl rfl rfl ?_
  refine x_bipush (v := 12) 5 C0 dX8_heightAt_3 rfl (by decide) ?_
  refine x_irem 6 C0 dX8_heightAt_5 rfl (by decide) ?_
  refine x_isub 7 C0 dX8_heightAt_6 rfl ?_
  refine x_istore_n [(1, .int (6 - (x - x / 12 * 12))), (0, .int x)] 8 C0 dX8_heightAt_7 rfl rfl (by decide) rfl ?_
  refine x_lv (lv1 := [(0, .int x), (1, .int (6 - (x - x / 12 * 12)))]) [1, 0] rfl ?_
  refine x_iload_n 1 9 C0 dX8_heightAt_8 rfl rfl rfl ?_
  refine x_if_ge 17 12 C0 dX8_heightAt_9 rfl (by decide) (fun c1 => ?_) (fun c1 => ?_)
  · have c1' := Int32.not_lt.mpr c1
    refine x_iload_n 1 18 C0 dX8_heightAt_17 rfl rfl rfl ?_
    exact x_ireturn C0 dX8_heightAt_18 rfl rfl (Nat.le_of_ble_eq_true rfl) (Nat.le_of_ble_eq_true rfl) ⟨by unfold hgt; rw [if_neg (Int32.not_lt.mpr c1)], rfl, rfl⟩
  · have c1' := Int32.not_le.mp c1
    refine x_iload_n 1 13 C0 dX8_heightAt_12 rfl rfl rfl ?_
    refine x_ineg 14 C0 dX8_heightAt_13 rfl ?_
    refine x_goto 18 C0 dX8_heightAt_14 (by decide) ?_
    exact x_ireturn C0 dX8_heightAt_18 rfl rfl (Nat.le_of_ble_eq_true rfl) (Nat.le_of_ble_eq_true rfl) ⟨by unfold hgt; rw [if_pos (Int32.not_le.mp c1)], rfl, rfl⟩

set_option maxHeartbeats 4000000 in
set_option maxRecDepth 100000 in
theorem k_X8_lays (l : Launch) (hl : l.stackTraces = false) (g : xg_T) (w : xw_T) (sz a b : Nat) (f gg : Nat → Int32) (ha : w a = some (inA g 208 f)) (hb : w b = some (inA g 208 gg)) (hne : b ≠ a) (hA : xA g a) : xM l g yX8_lays cX8_lays 3 none ({ frames := 0, cells := 0, slots := 0, locals := 0 }) 0 0 [.ref a, .ref b] w sz (fun r w1 sz1 => r = none ∧ (∃ f1 : Nat → Int32, w1 = xup w a (inA g 208 f1) ∧ ∀ j, j < 208 → f1 j = gg j) ∧ sz = sz1) (fun _ _ _ => False) := by
  refine xM.of RX8 hl (by decide +kernel) rfl (Nat.le_of_ble_eq_true rfl) rfl ?_
  intro p e s m args below meth cD C0 hini
  refine x_iconst (v := 0) 1 C0 dX8_lays_0 rfl (by decide) ?_
  refine x_istore_n [(2, .int 0), (0, .ref a), (1, .ref b)] 2 C0 dX8_lays_1 rfl rfl (by decide) rfl ?_
  refine x_lv (lv1 := [(0, .ref a), (1, .ref b), (2, .int 0)]) [1, 2, 0] rfl ?_
  have loop2 : ∀ (N i : Nat) (f1 : Nat → Int32), i ≤ 208 → 208 - i < N → (∀ j, j < i → f1 j = gg j) → xV p l e ({ frames := 0, cells := 0, slots := 0, locals := 0 }) s m args below meth cD (xQ g below (fun r w1 sz1 => r = none ∧ (∃ f1 : Nat → Int32, w1 = xup w a (inA g 208 f1) ∧ ∀ j, j < 208 → f1 j = gg j) ∧ sz = sz1) (fun _ _ _ => False) args s 0 0) g 3 (xup w a (inA g 208 f1)) sz (0) (0) 2 [(0, .ref a), (1, .ref b), (2, .int (nI i))] [] := by
    intro N
    induction N with
    | zero => intro i f1 h1 h2; omega
    | succ N ih =>
      intro i f1 hi hN hV
      refine x_iload_n 2 3 C0 dX8_lays_2 rfl rfl rfl ?_
      refine x_sipush (v := 208) 6 C0 dX8_lays_3 rfl (by decide) ?_
      refine x_icmp_ge 21 9 C0 dX8_lays_6 rfl (by decide) (fun c1 => ?_) (fun c1 => ?_)
      · have hI := ix_eq 208 rfl (by decide) hi c1
        exact x_return C0 dX8_lays_21 rfl (Nat.le_of_ble_eq_true rfl) (Nat.le_of_ble_eq_true rfl) ⟨rfl, ⟨_, rfl, fun j hj => hV j (by omega)⟩, rfl⟩
      · have hi2 := ix_lt 208 rfl (by decide) hi c1
        refine x_aload_n 0 10 C0 dX8_lays_9 rfl rfl rfl ?_
        refine x_iload_n 2 11 C0 dX8_lays_10 rfl rfl rfl ?_
        refine x_aload_n 1 12 C0 dX8_lays_11 rfl rfl rfl ?_
        refine x_iload_n 2 13 C0 dX8_lays_12 rfl rfl rfl ?_
        refine x_iald 0 14 C0 dX8_lays_13 rfl ((xup_n hne).trans hb) rfl (vp_in_nI hi2 (by decide)) ?_
        refine x_st (st1 := [.int (gg i), .int (nI i), .ref a]) (congrArg (fun z => Value.int z :: _) (show gg (nI i).toNatClampNeg = gg i from by rw [nI_clamp (by omega)])) ?_
        refine x_iast 0 15 C0 dX8_lays_14 rfl (xup_s _ _ _) hA rfl (vp_in_nI hi2 (by decide)) ?_
        refine x_w (w1 := (xup w a (inA g 208 (upd f1 i (gg i))))) (by rw [nI_clamp (by omega)]; exact xup_2 _ _ _ _) ?_
        refine x_iinc [(2, .int (nI (i + 1))), (0, .ref a), (1, .ref b)] 2 18 C0 dX8_lays_15 rfl rfl (nI_1 i) (by decide) rfl ?_
        refine x_lv (lv1 := [(0, .ref a), (1, .ref b), (2, .int (nI (i + 1)))]) [1, 2, 0] rfl ?_
        refine x_goto 2 C0 dX8_lays_18 (by decide) ?_
        exact x_lv [0, 1, 2] rfl (ih (i + 1) _ (by omega) (by omega) (fun j hj => by
            unfold upd
            by_cases e : j = i
            · rw [if_pos e, e]
            · rw [if_neg e]; exact hV j (by omega)))
  refine x_w (xup_id ha) ?_
  exact x_lv [0, 1, 2] rfl (loop2 209 0 _ (by omega) (by omega) (fun j hj => absurd hj (by omega)))

def mBg (g : xg_T) (w : xw_T) (sz n : Nat) (t v sv pa lb ip td sg : Nat → Int32) : Option Value → xw_T → Nat → Prop := fun r w1 sz1 => sz = sz1 ∧ r = none ∧ ∃ bf, w1 = MW g w (upd (upd t 0 0) 1 0) v bf sv pa lb ip td sg ∧ MJ n (upd (upd t 0 0) 1 0) v bf sv pa sg ∧ ∀ j, j < 208 → bf j = v j
def endP (t v bf pa : Nat → Int32) (iz ja jb jc : Int32) (r : Option Value) (t' v' pa' : Nat → Int32) : Prop :=
  (¬ t 1 = 0 ∧ (∀ j, j < 208 → v' j = bf j) ∧ pa' = pa ∧ t' 2 = t 2 ∧ ((t 1 = 1 ∧ t' 0 = ja) ∨ (¬ t 1 = 1 ∧ t 1 = 2 ∧ t' 0 = jb) ∨ (¬ t 1 = 1 ∧ ¬ t 1 = 2 ∧ t' 0 = jc)) ∧ r = some (.int 0)) ∨
  (t 1 = 0 ∧ v' = v ∧ t' 0 = t 0 ∧ r = some (.int iz) ∧ ∃ c : Nat, c < 8 ∧ t' 2 = nI (c + 1) ∧ (∀ k, k < 208 → pa' (c * 208 + k) = bf k) ∧ ((t 2 = nI c ∧ ∀ q, q < c * 208 → pa' q = pa q) ∨ (t 2 = 8 ∧ c = 7 ∧ ∀ q, q < 7 * 208 → pa' q = pa (q + 208))))
theorem endP_r {t v bf pa : Nat → Int32} {iz ja jb jc : Int32} {r : Option Value} {t' v' pa' : Nat → Int32} (h : endP t v bf pa iz ja jb jc r t' v' pa') : ∃ z : Int32, r = some (.int z) := by
  rcases h with h | h
  · exact ⟨0, h.2.2.2.2.2⟩
  · exact ⟨iz, h.2.2.2.1⟩
def mEn (g : xg_T) (w : xw_T) (sz n : Nat) (t bf sv lb ip td sg : Nat → Int32) (E : Option Value → (Nat → Int32) → (Nat → Int32) → (Nat → Int32) → Prop) : Option Value → xw_T → Nat → Prop := fun r w1 sz1 => sz = sz1 ∧ ∃ t' v' pa', w1 = MW g w t' v' bf sv pa' lb ip td sg ∧ MJ n t' v' bf sv pa' sg ∧ t' 7 = t 7 ∧ t' 10 = t 10 ∧ E r t' v' pa'
set_option maxHeartbeats 4000000 in
set_option maxRecDepth 100000 in
theorem k_X8_begins (l : Launch) (hl : l.stackTraces = false) (g : xg_T) (w : xw_T) (sz n : Nat) (t v bf sv pa lb ip td sg : Nat → Int32) (hM : MR g w t v bf sv pa lb ip td sg) (hJ : MJ n t v bf sv pa sg) : xM l g yX8_begins cX8_begins 1 none ({ frames := 1, cells := 0, slots := 0, locals := 22 }) 0 0 [.ref (g.2 0 + 258)] w sz (mBg g w sz n t v sv pa lb ip td sg) (fun _ _ _ => False) := by
  refine xM.of RX8 hl (by decide +kernel) rfl (Nat.le_of_ble_eq_true rfl) rfl ?_
  intro p e s m args below meth cD C0 hini
  refine x_aload_n 0 1 C0 dX8_begins_0 rfl rfl rfl ?_
  refine x_iconst (v := 0) 2 C0 dX8_begins_1 rfl (by decide) ?_
  refine x_w (MW_self hM) ?_
  refine x_putf 0 5 C0 dX8_begins_2 rfl MR_MW.o (by show g.2 0 ≤ _; omega) rfl (by decide) inX8 tyX8_ok nmX8 mF_X8_34 rfl rfl rfl rfl (Nat.le_of_ble_eq_true rfl) ?_
  refine x_w (w1 := (MW g w (upd t 0 0) v bf sv pa lb ip td sg)) (MW_o rfl) ?_
  have hJ1 : MJ n (upd t 0 0) v bf sv pa sg := hJ.j_t (by decide)
  refine x_aload_n 0 6 C0 dX8_begins_5 rfl rfl rfl ?_
  refine x_iconst (v := 0) 7 C0 dX8_begins_6 rfl (by decide) ?_
  refine x_putf 1 10 C0 dX8_begins_7 rfl MR_MW.o (by show g.2 0 ≤ _; omega) rfl (by decide) inX8 tyX8_ok nmX8 mF_X8_38 rfl rfl rfl rfl (Nat.le_of_ble_eq_true rfl) ?_
  refine x_w (w1 := (MW g w (upd (upd t 0 0) 1 0) v bf sv pa lb ip td sg)) (MW_o rfl) ?_
  have hJ2 : MJ n (upd (upd t 0 0) 1 0) v bf sv pa sg := hJ1.j_t (by decide)
  refine x_aload_n 0 11 C0 dX8_begins_10 rfl rfl rfl ?_
  refine x_getf (v := .ref (g.2 0 + 258 + 2)) 9 14 C0 dX8_begins_11 rfl MR_MW.o rfl (by decide) inX8 mF_X8_13 rfl ?_
  refine x_aload_n 0 15 C0 dX8_begins_14 rfl rfl rfl ?_
  refine x_getf (v := .ref (g.2 0 + 258 + 1)) 8 18 C0 dX8_begins_15 rfl MR_MW.o rfl (by decide) inX8 mF_X8_7 rfl ?_
  refine x_callS 21 C0 (k_X8_lays l hl g _ _ _ _ _ _ MR_MW.r_bf MR_MW.r_v (by omega) (by show g.2 0 ≤ _; omega)) dX8_begins_18 rfl mC_X8_lays mM_X8_51 mS_X8_lays mN_X8 yd_X8_lays rfl rfl ⟨Nat.le_of_ble_eq_true rfl, Nat.le_of_ble_eq_true rfl⟩ rfl rfl (Nat.le_of_ble_eq_true rfl) ⟨Nat.le_of_ble_eq_true rfl, Nat.le_of_ble_eq_true rfl⟩ (fun _ _ _ q => False.elim q) (fun r w1 sz1 hz hP => ?_)
  obtain ⟨rfl, ⟨f3, rfl, hf3⟩, rfl⟩ := hP
  refine x_w (w1 := (MW g w (upd (upd t 0 0) 1 0) v f3 sv pa lb ip td sg)) MW_bf ?_
  have hJ3 : MJ n (upd (upd t 0 0) 1 0) v f3 sv pa sg := hJ2.j_b (hJ2.1.cong hf3)
  refine x_st (st1 := []) rfl ?_
  exact x_return C0 dX8_begins_21 rfl (Nat.le_of_ble_eq_true rfl) (Nat.le_of_ble_eq_true rfl) ⟨rfl, rfl, _, rfl, hJ3, hf3⟩

set_option maxHeartbeats 4000000 in
set_option maxRecDepth 100000 in
theorem k_X8_ends (l : Launch) (hl : l.stackTraces = false) (g : xg_T) (w : xw_T) (sz n : Nat) (t v bf sv pa lb ip td sg : Nat → Int32) (hM : MR g w t v bf sv pa lb ip td sg) (hJ : MJ n t v bf sv pa sg) (iz ja jb jc : Int32) : xM l g yX8_ends cX8_ends 6 (some .int) ({ frames := 1, cells := 0, slots := 0, locals := 22 }) 0 0 [.ref (g.2 0 + 258), .int iz, .int ja, .int jb, .int jc] w sz (mEn g w sz n t bf sv lb ip td sg (endP t v bf pa iz ja jb jc)) (fun _ _ _ => False) := by
  refine xM.of RX8 hl (by decide +kernel) rfl (Nat.le_of_ble_eq_true rfl) rfl ?_
  intro p e s m args below meth cD C0 hini
  refine x_aload_n 0 1 C0 dX8_ends_0 rfl rfl rfl ?_
  refine x_getf (v := .int (t 1)) 1 4 C0 dX8_ends_1 rfl hM.o rfl (by decide) inX8 mF_X8_38 rfl ?_
  refine x_if_eq 73 7 C0 dX8_ends_4 rfl (by decide) (fun c1 => ?_) (fun c1 => ?_)
  · refine x_aload_n 0 74 C0 dX8_ends_73 rfl rfl rfl ?_
    refine x_getf (v := .int (t 2)) 2 77 C0 dX8_ends_74 rfl hM.o rfl (by decide) inX8 mF_X8_64 rfl ?_
    refine x_bipush (v := 8) 79 C0 dX8_ends_77 rfl (by decide) ?_
    have hz0 := c1
    refine x_icmp_ne 127 82 C0 dX8_ends_79 rfl (by decide) (fun c2 => ?_) (fun c2 => ?_)
    · obtain ⟨c0, hc0, hct0⟩ := hJ.2.2.2.2.1
      obtain ⟨c, hc7, hct⟩ : ∃ c : Nat, c < 8 ∧ t 2 = nI c := ⟨c0, Nat.lt_of_le_of_ne hc0 (fun e => c2 (by rw [hct0, e]; rfl)), hct0⟩
      refine x_iconst (v := 0) 128 C0 dX8_ends_127 rfl (by decide) ?_
      refine x_istore [(5, .int 0), (0, .ref (g.2 0 + 258)), (1, .int iz), (2, .int ja), (3, .int jb), (4, .int jc)] 130 C0 dX8_ends_128 rfl (by decide) rfl ?_
      refine x_lv (lv1 := [(0, .ref (g.2 0 + 258)), (1, .int iz), (2, .int ja), (3, .int jb), (4, .int jc), (5, .int 0)]) [1, 2, 3, 4, 5, 0] rfl ?_
      refine x_w (MW_self hM) ?_
      have loop130 : ∀ (N i : Nat) (p2 : Nat → Int32), i ≤ 208 → 208 - i < N → ((∀ k, k < i → p2 (c * 208 + k) = bf k) ∧ (∀ q, (q < c * 208 ∨ c * 208 + i ≤ q) → p2 q = pa q)) → xV p l e ({ frames := 1, cells := 0, slots := 0, locals := 22 }) s m args below meth cD (xQ g below (mEn g w sz n t bf sv lb ip td sg (endP t v bf pa iz ja jb jc)) (fun _ _ _ => False) args s 0 0) g 6 (MW g w t v bf sv p2 lb ip td sg) sz (0) (0) 130 [(0, .ref (g.2 0 + 258)), (1, .int iz), (2, .int ja), (3, .int jb), (4, .int jc), (5, .int (nI i))] [] := by
        intro N
        induction N with
        | zero => intro i p2 h1 h2; omega
        | succ N ih =>
          intro i p2 hi hN hV
          refine x_iload 5 132 C0 dX8_ends_130 rfl rfl ?_
          refine x_sipush (v := 208) 135 C0 dX8_ends_132 rfl (by decide) ?_
          refine x_icmp_ge 167 138 C0 dX8_ends_135 rfl (by decide) (fun c3 => ?_) (fun c3 => ?_)
          · have hI := ix_eq 208 rfl (by decide) hi c3
            subst hI
            have hJp : MJ n t v bf sv p2 sg := hJ.j_p (fun r hr => by
              by_cases e : r = c
              · exact (hJ.2.1).cong (fun q hq => by rw [show 208 * r + q = c * 208 + q by omega]; exact hV.1 q hq)
              · exact (hJ.2.2.2.1 r hr).cong (fun q hq => hV.2 (208 * r + q) (by omega)))
            refine x_aload_n 0 168 C0 dX8_ends_167 rfl rfl rfl ?_
            refine x_dup 169 C0 dX8_ends_168 rfl rfl ?_
            refine x_getf (v := .int (t 2)) 2 172 C0 dX8_ends_169 rfl MR_MW.o rfl (by decide) inX8 mF_X8_64 rfl ?_
            refine x_iconst (v := 1) 173 C0 dX8_ends_172 rfl (by decide) ?_
            refine x_iadd 174 C0 dX8_ends_173 rfl ?_
            refine x_putf 2 177 C0 dX8_ends_174 rfl MR_MW.o (by show g.2 0 ≤ _; omega) rfl (by decide) inX8 tyX8_ok nmX8 mF_X8_64 rfl rfl rfl rfl (Nat.le_of_ble_eq_true rfl) ?_
            refine x_w (w1 := (MW g w (upd t 2 ((t 2) + 1)) v bf sv p2 lb ip td sg)) (MW_o rfl) ?_
            have hJ4 : MJ n (upd t 2 ((t 2) + 1)) v bf sv p2 sg := hJp.j_c (c := c + 1) (by omega) ((congrArg (fun z => z + 1) hct).trans (nI_1 c))
            refine x_iload_n 1 178 C0 dX8_ends_177 rfl rfl rfl ?_
            exact x_ireturn C0 dX8_ends_178 rfl rfl (Nat.le_of_ble_eq_true rfl) (Nat.le_of_ble_eq_true rfl) ⟨rfl, _, _, _, rfl, hJ4, rfl, rfl, Or.inr ⟨hz0, rfl, rfl, rfl, c, hc7, (congrArg (fun z => z + 1) hct).trans (nI_1 c), fun k hk => hV.1 k hk, Or.inl ⟨hct, fun q hq => hV.2 q (Or.inl hq)⟩⟩⟩
          · have hi2 := ix_lt 208 rfl (by decide) hi c3
            refine x_aload_n 0 139 C0 dX8_ends_138 rfl rfl rfl ?_
            refine x_getf (v := .ref (g.2 0 + 258 + 4)) 11 142 C0 dX8_ends_139 rfl MR_MW.o rfl (by decide) inX8 mF_X8_19 rfl ?_
            refine x_aload_n 0 143 C0 dX8_ends_142 rfl rfl rfl ?_
            refine x_getf (v := .int (t 2)) 2 146 C0 dX8_ends_143 rfl MR_MW.o rfl (by decide) inX8 mF_X8_64 rfl ?_
            refine x_st (st1 := [.int (nI c), .ref (g.2 0 + 258 + 4)]) (congrArg (fun z => Value.int z :: _) (hct)) ?_
            refine x_sipush (v := 208) 149 C0 dX8_ends_146 rfl (by decide) ?_
            refine x_imul 150 C0 dX8_ends_149 rfl ?_
            refine x_st (st1 := [.int (nI (c * 208)), .ref (g.2 0 + 258 + 4)]) (congrArg (fun z => Value.int z :: _) (nI_mulN c 208)) ?_
            refine x_iload 5 152 C0 dX8_ends_150 rfl rfl ?_
            refine x_iadd 153 C0 dX8_ends_152 rfl ?_
            refine x_st (st1 := [.int (nI (c * 208 + i)), .ref (g.2 0 + 258 + 4)]) (congrArg (fun z => Value.int z :: _) (nI_add (c * 208) i)) ?_
            refine x_aload_n 0 154 C0 dX8_ends_153 rfl rfl rfl ?_
            refine x_getf (v := .ref (g.2 0 + 258 + 2)) 9 157 C0 dX8_ends_154 rfl MR_MW.o rfl (by decide) inX8 mF_X8_13 rfl ?_
            refine x_iload 5 159 C0 dX8_ends_157 rfl rfl ?_
            refine x_iald 0 160 C0 dX8_ends_159 rfl MR_MW.r_bf rfl (vp_in_nI (n := i) (by omega) (by decide)) ?_
            refine x_st (st1 := [.int (bf i), .int (nI (c * 208 + i)), .ref (g.2 0 + 258 + 4)]) (congrArg (fun z => Value.int z :: _) (show bf (nI i).toNatClampNeg = bf i from by rw [nI_clamp (by omega)])) ?_
            refine x_iast 0 161 C0 dX8_ends_160 rfl MR_MW.r_pa (by show g.2 0 ≤ _; omega) rfl (vp_in_nI (n := c * 208 + i) (by omega) (by decide)) ?_
            refine x_w (w1 := (MW g w t v bf sv (upd p2 (c * 208 + i) (bf i)) lb ip td sg)) (by rw [show (nI (c * 208 + i) : Int32).toNatClampNeg = (c * 208 + i) from nI_clamp (n := c * 208 + i) (by omega)]; exact MW_pa) ?_
            refine x_iinc [(5, .int (nI (i + 1))), (0, .ref (g.2 0 + 258)), (1, .int iz), (2, .int ja), (3, .int jb), (4, .int jc)] 5 164 C0 dX8_ends_161 rfl rfl (nI_1 i) (by decide) rfl ?_
            refine x_lv (lv1 := [(0, .ref (g.2 0 + 258)), (1, .int iz), (2, .int ja), (3, .int jb), (4, .int jc), (5, .int (nI (i + 1)))]) [1, 2, 3, 4, 5, 0] rfl ?_
            refine x_goto 130 C0 dX8_ends_164 (by decide) ?_
            exact x_lv [0, 1, 2, 3, 4, 5] rfl (ih (i + 1) _ (by omega) (by omega) ⟨fun k hk => by
                unfold upd
                by_cases e : k = i
                · rw [if_pos (by omega), e]
                · rw [if_neg (by omega)]; exact hV.1 k (by omega), fun q hq => by
                unfold upd
                rw [if_neg (by omega)]; exact hV.2 q (by omega)⟩)
      exact x_lv [0, 1, 2, 3, 4, 5] rfl (loop130 209 0 _ (by omega) (by omega) ⟨fun k hk => absurd hk (by omega), fun q _ => rfl⟩)
    · have hc8 := c2
      refine x_iconst (v := 0) 83 C0 dX8_ends_82 rfl (by decide) ?_
      refine x_istore [(5, .int 0), (0, .ref (g.2 0 + 258)), (1, .int iz), (2, .int ja), (3, .int jb), (4, .int jc)] 85 C0 dX8_ends_83 rfl (by decide) rfl ?_
      refine x_lv (lv1 := [(0, .ref (g.2 0 + 258)), (1, .int iz), (2, .int ja), (3, .int jb), (4, .int jc), (5, .int 0)]) [1, 2, 3, 4, 5, 0] rfl ?_
      refine x_w (MW_self hM) ?_
      have loop85 : ∀ (N i : Nat) (p1 : Nat → Int32), i ≤ 1456 → 1456 - i < N → (∀ q, (q < i → p1 q = pa (q + 208)) ∧ (i ≤ q → p1 q = pa q)) → xV p l e ({ frames := 1, cells := 0, slots := 0, locals := 22 }) s m args below meth cD (xQ g below (mEn g w sz n t bf sv lb ip td sg (endP t v bf pa iz ja jb jc)) (fun _ _ _ => False) args s 0 0) g 6 (MW g w t v bf sv p1 lb ip td sg) sz (0) (0) 85 [(0, .ref (g.2 0 + 258)), (1, .int iz), (2, .int ja), (3, .int jb), (4, .int jc), (5, .int (nI i))] [] := by
        intro N
        induction N with
        | zero => intro i p1 h1 h2; omega
        | succ N ih =>
          intro i p1 hi hN hV
          refine x_iload 5 87 C0 dX8_ends_85 rfl rfl ?_
          refine x_sipush (v := 1456) 90 C0 dX8_ends_87 rfl (by decide) ?_
          refine x_icmp_ge 117 93 C0 dX8_ends_90 rfl (by decide) (fun c6 => ?_) (fun c6 => ?_)
          · have hI := ix_eq 1456 rfl (by decide) hi c6
            subst hI
            have hJp : MJ n t v bf sv p1 sg := hJ.j_p (fun r hr => by
              by_cases e : r < 7
              · exact (hJ.2.2.2.1 (r + 1) (by omega)).cong (fun q hq => ((hV (208 * r + q)).1 (by omega)).trans (by rw [show 208 * r + q + 208 = 208 * (r + 1) + q by omega]))
              · exact (hJ.2.2.2.1 r hr).cong (fun q hq => (hV (208 * r + q)).2 (by omega)))
            have hV8 := hV
            refine x_aload_n 0 118 C0 dX8_ends_117 rfl rfl rfl ?_
            refine x_dup 119 C0 dX8_ends_118 rfl rfl ?_
            refine x_getf (v := .int (t 2)) 2 122 C0 dX8_ends_119 rfl MR_MW.o rfl (by decide) inX8 mF_X8_64 rfl ?_
            refine x_iconst (v := 1) 123 C0 dX8_ends_122 rfl (by decide) ?_
            refine x_isub 124 C0 dX8_ends_123 rfl ?_
            refine x_putf 2 127 C0 dX8_ends_124 rfl MR_MW.o (by show g.2 0 ≤ _; omega) rfl (by decide) inX8 tyX8_ok nmX8 mF_X8_64 rfl rfl rfl rfl (Nat.le_of_ble_eq_true rfl) ?_
            refine x_w (w1 := (MW g w (upd t 2 ((t 2) - 1)) v bf sv p1 lb ip td sg)) (MW_o rfl) ?_
            have hJ7 : MJ n (upd t 2 ((t 2) - 1)) v bf sv p1 sg := hJp.j_c (c := 7) (by decide) (by rw [hc8]; decide)
            obtain ⟨c, hc7, hct, hc77⟩ : ∃ c : Nat, c < 8 ∧ (upd t 2 ((t 2) - 1)) 2 = nI c ∧ c = 7 := ⟨7, by omega, by show t 2 - 1 = nI 7; rw [hc8]; decide, rfl⟩
            refine x_iconst (v := 0) 128 C0 dX8_ends_127 rfl (by decide) ?_
            refine x_istore [(5, .int 0), (0, .ref (g.2 0 + 258)), (1, .int iz), (2, .int ja), (3, .int jb), (4, .int jc)] 130 C0 dX8_ends_128 rfl (by decide) rfl ?_
            refine x_lv (lv1 := [(0, .ref (g.2 0 + 258)), (1, .int iz), (2, .int ja), (3, .int jb), (4, .int jc), (5, .int 0)]) [1, 2, 3, 4, 5, 0] rfl ?_
            have loop130 : ∀ (N i : Nat) (p2 : Nat → Int32), i ≤ 208 → 208 - i < N → ((∀ k, k < i → p2 (c * 208 + k) = bf k) ∧ (∀ q, (q < c * 208 ∨ c * 208 + i ≤ q) → p2 q = p1 q)) → xV p l e ({ frames := 1, cells := 0, slots := 0, locals := 22 }) s m args below meth cD (xQ g below (mEn g w sz n t bf sv lb ip td sg (endP t v bf pa iz ja jb jc)) (fun _ _ _ => False) args s 0 0) g 6 (MW g w (upd t 2 ((t 2) - 1)) v bf sv p2 lb ip td sg) sz (0) (0) 130 [(0, .ref (g.2 0 + 258)), (1, .int iz), (2, .int ja), (3, .int jb), (4, .int jc), (5, .int (nI i))] [] := by
              intro N
              induction N with
              | zero => intro i p2 h1 h2; omega
              | succ N ih =>
                intro i p2 hi hN hV
                refine x_iload 5 132 C0 dX8_ends_130 rfl rfl ?_
                refine x_sipush (v := 208) 135 C0 dX8_ends_132 rfl (by decide) ?_
                refine x_icmp_ge 167 138 C0 dX8_ends_135 rfl (by decide) (fun c8 => ?_) (fun c8 => ?_)
                · have hI := ix_eq 208 rfl (by decide) hi c8
                  subst hI
                  have hJp : MJ n (upd t 2 ((t 2) - 1)) v bf sv p2 sg := hJ7.j_p (fun r hr => by
                    by_cases e : r = c
                    · exact (hJ7.2.1).cong (fun q hq => by rw [show 208 * r + q = c * 208 + q by omega]; exact hV.1 q hq)
                    · exact (hJ7.2.2.2.1 r hr).cong (fun q hq => hV.2 (208 * r + q) (by omega)))
                  refine x_aload_n 0 168 C0 dX8_ends_167 rfl rfl rfl ?_
                  refine x_dup 169 C0 dX8_ends_168 rfl rfl ?_
                  refine x_getf (v := .int ((t 2) - 1)) 2 172 C0 dX8_ends_169 rfl MR_MW.o rfl (by decide) inX8 mF_X8_64 rfl ?_
                  refine x_iconst (v := 1) 173 C0 dX8_ends_172 rfl (by decide) ?_
                  refine x_iadd 174 C0 dX8_ends_173 rfl ?_
                  refine x_putf 2 177 C0 dX8_ends_174 rfl MR_MW.o (by show g.2 0 ≤ _; omega) rfl (by decide) inX8 tyX8_ok nmX8 mF_X8_64 rfl rfl rfl rfl (Nat.le_of_ble_eq_true rfl) ?_
                  refine x_w (w1 := (MW g w (upd (upd t 2 ((t 2) - 1)) 2 (((t 2) - 1) + 1)) v bf sv p2 lb ip td sg)) (MW_o rfl) ?_
                  have hJ9 : MJ n (upd (upd t 2 ((t 2) - 1)) 2 (((t 2) - 1) + 1)) v bf sv p2 sg := hJp.j_c (c := c + 1) (by omega) ((congrArg (fun z => z + 1) hct).trans (nI_1 c))
                  refine x_iload_n 1 178 C0 dX8_ends_177 rfl rfl rfl ?_
                  exact x_ireturn C0 dX8_ends_178 rfl rfl (Nat.le_of_ble_eq_true rfl) (Nat.le_of_ble_eq_true rfl) ⟨rfl, _, _, _, rfl, hJ9, rfl, rfl, Or.inr ⟨hz0, rfl, rfl, rfl, c, hc7, (congrArg (fun z => z + 1) hct).trans (nI_1 c), fun k hk => hV.1 k hk, Or.inr ⟨hc8, hc77, fun q hq => (hV.2 q (Or.inl (by rw [hc77]; exact hq))).trans ((hV8 q).1 (by omega))⟩⟩⟩
                · have hi2 := ix_lt 208 rfl (by decide) hi c8
                  refine x_aload_n 0 139 C0 dX8_ends_138 rfl rfl rfl ?_
                  refine x_getf (v := .ref (g.2 0 + 258 + 4)) 11 142 C0 dX8_ends_139 rfl MR_MW.o rfl (by decide) inX8 mF_X8_19 rfl ?_
                  refine x_aload_n 0 143 C0 dX8_ends_142 rfl rfl rfl ?_
                  refine x_getf (v := .int ((t 2) - 1)) 2 146 C0 dX8_ends_143 rfl MR_MW.o rfl (by decide) inX8 mF_X8_64 rfl ?_
                  refine x_st (st1 := [.int (nI c), .ref (g.2 0 + 258 + 4)]) (congrArg (fun z => Value.int z :: _) (hct)) ?_
                  refine x_sipush (v := 208) 149 C0 dX8_ends_146 rfl (by decide) ?_
                  refine x_imul 150 C0 dX8_ends_149 rfl ?_
                  refine x_st (st1 := [.int (nI (c * 208)), .ref (g.2 0 + 258 + 4)]) (congrArg (fun z => Value.int z :: _) (nI_mulN c 208)) ?_
                  refine x_iload 5 152 C0 dX8_ends_150 rfl rfl ?_
                  refine x_iadd 153 C0 dX8_ends_152 rfl ?_
                  refine x_st (st1 := [.int (nI (c * 208 + i)), .ref (g.2 0 + 258 + 4)]) (congrArg (fun z => Value.int z :: _) (nI_add (c * 208) i)) ?_
                  refine x_aload_n 0 154 C0 dX8_ends_153 rfl rfl rfl ?_
                  refine x_getf (v := .ref (g.2 0 + 258 + 2)) 9 157 C0 dX8_ends_154 rfl MR_MW.o rfl (by decide) inX8 mF_X8_13 rfl ?_
                  refine x_iload 5 159 C0 dX8_ends_157 rfl rfl ?_
                  refine x_iald 0 160 C0 dX8_ends_159 rfl MR_MW.r_bf rfl (vp_in_nI (n := i) (by omega) (by decide)) ?_
                  refine x_st (st1 := [.int (bf i), .int (nI (c * 208 + i)), .ref (g.2 0 + 258 + 4)]) (congrArg (fun z => Value.int z :: _) (show bf (nI i).toNatClampNeg = bf i from by rw [nI_clamp (by omega)])) ?_
                  refine x_iast 0 161 C0 dX8_ends_160 rfl MR_MW.r_pa (by show g.2 0 ≤ _; omega) rfl (vp_in_nI (n := c * 208 + i) (by omega) (by decide)) ?_
                  refine x_w (w1 := (MW g w (upd t 2 ((t 2) - 1)) v bf sv (upd p2 (c * 208 + i) (bf i)) lb ip td sg)) (by rw [show (nI (c * 208 + i) : Int32).toNatClampNeg = (c * 208 + i) from nI_clamp (n := c * 208 + i) (by omega)]; exact MW_pa) ?_
                  refine x_iinc [(5, .int (nI (i + 1))), (0, .ref (g.2 0 + 258)), (1, .int iz), (2, .int ja), (3, .int jb), (4, .int jc)] 5 164 C0 dX8_ends_161 rfl rfl (nI_1 i) (by decide) rfl ?_
                  refine x_lv (lv1 := [(0, .ref (g.2 0 + 258)), (1, .int iz), (2, .int ja), (3, .int jb), (4, .int jc), (5, .int (nI (i + 1)))]) [1, 2, 3, 4, 5, 0] rfl ?_
                  refine x_goto 130 C0 dX8_ends_164 (by decide) ?_
                  exact x_lv [0, 1, 2, 3, 4, 5] rfl (ih (i + 1) _ (by omega) (by omega) ⟨fun k hk => by
                      unfold upd
                      by_cases e : k = i
                      · rw [if_pos (by omega), e]
                      · rw [if_neg (by omega)]; exact hV.1 k (by omega), fun q hq => by
                      unfold upd
                      rw [if_neg (by omega)]; exact hV.2 q (by omega)⟩)
            exact x_lv [0, 1, 2, 3, 4, 5] rfl (loop130 209 0 _ (by omega) (by omega) ⟨fun k hk => absurd hk (by omega), fun q _ => rfl⟩)
          · have hi2 := ix_lt 1456 rfl (by decide) hi c6
            refine x_aload_n 0 94 C0 dX8_ends_93 rfl rfl rfl ?_
            refine x_getf (v := .ref (g.2 0 + 258 + 4)) 11 97 C0 dX8_ends_94 rfl MR_MW.o rfl (by decide) inX8 mF_X8_19 rfl ?_
            refine x_iload 5 99 C0 dX8_ends_97 rfl rfl ?_
            refine x_aload_n 0 100 C0 dX8_ends_99 rfl rfl rfl ?_
            refine x_getf (v := .ref (g.2 0 + 258 + 4)) 11 103 C0 dX8_ends_100 rfl MR_MW.o rfl (by decide) inX8 mF_X8_19 rfl ?_
            refine x_iload 5 105 C0 dX8_ends_103 rfl rfl ?_
            refine x_sipush (v := 208) 108 C0 dX8_ends_105 rfl (by decide) ?_
            refine x_iadd 109 C0 dX8_ends_108 rfl ?_
            refine x_st (st1 := [.int (nI (i + 208)), .ref (g.2 0 + 258 + 4), .int (nI i), .ref (g.2 0 + 258 + 4)]) (congrArg (fun z => Value.int z :: _) (nI_add i 208)) ?_
            refine x_iald 0 110 C0 dX8_ends_109 rfl MR_MW.r_pa rfl (vp_in_nI (n := i + 208) (by omega) (by decide)) ?_
            refine x_st (st1 := [.int (p1 (i + 208)), .int (nI i), .ref (g.2 0 + 258 + 4)]) (congrArg (fun z => Value.int z :: _) (show p1 (nI (i + 208)).toNatClampNeg = p1 (i + 208) from by rw [nI_clamp (by omega)])) ?_
            refine x_iast 0 111 C0 dX8_ends_110 rfl MR_MW.r_pa (by show g.2 0 ≤ _; omega) rfl (vp_in_nI (n := i) (by omega) (by decide)) ?_
            refine x_w (w1 := (MW g w t v bf sv (upd p1 i (p1 (i + 208))) lb ip td sg)) (by rw [show (nI i : Int32).toNatClampNeg = i from nI_clamp (n := i) (by omega)]; exact MW_pa) ?_
            refine x_iinc [(5, .int (nI (i + 1))), (0, .ref (g.2 0 + 258)), (1, .int iz), (2, .int ja), (3, .int jb), (4, .int jc)] 5 114 C0 dX8_ends_111 rfl rfl (nI_1 i) (by decide) rfl ?_
            refine x_lv (lv1 := [(0, .ref (g.2 0 + 258)), (1, .int iz), (2, .int ja), (3, .int jb), (4, .int jc), (5, .int (nI (i + 1)))]) [1, 2, 3, 4, 5, 0] rfl ?_
            refine x_goto 85 C0 dX8_ends_114 (by decide) ?_
            exact x_lv [0, 1, 2, 3, 4, 5] rfl (ih (i + 1) _ (by omega) (by omega) (fun q => ⟨fun hq => by
                unfold upd
                by_cases e : q = i
                · rw [if_pos e, e]; exact (hV (i + 208)).2 (by omega)
                · rw [if_neg e]; exact (hV q).1 (by omega), fun hq => by
                unfold upd
                rw [if_neg (by omega)]; exact (hV q).2 (by omega)⟩))
      exact x_lv [0, 1, 2, 3, 4, 5] rfl (loop85 1457 0 _ (by omega) (by omega) (fun q => ⟨fun hq => absurd hq (by omega), fun _ => rfl⟩))
  · refine x_aload_n 0 8 C0 dX8_ends_7 rfl rfl rfl ?_
    refine x_getf (v := .ref (g.2 0 + 258 + 1)) 8 11 C0 dX8_ends_8 rfl hM.o rfl (by decide) inX8 mF_X8_7 rfl ?_
    refine x_aload_n 0 12 C0 dX8_ends_11 rfl rfl rfl ?_
    refine x_getf (v := .ref (g.2 0 + 258 + 2)) 9 15 C0 dX8_ends_12 rfl hM.o rfl (by decide) inX8 mF_X8_13 rfl ?_
    refine x_w (MW_self hM) ?_
    refine x_callS 18 C0 (k_X8_lays l hl g _ _ _ _ _ _ MR_MW.r_v MR_MW.r_bf (by omega) (by show g.2 0 ≤ _; omega)) dX8_ends_15 rfl mC_X8_lays mM_X8_51 mS_X8_lays mN_X8 yd_X8_lays rfl rfl ⟨Nat.le_of_ble_eq_true rfl, Nat.le_of_ble_eq_true rfl⟩ rfl rfl (Nat.le_of_ble_eq_true rfl) ⟨Nat.le_of_ble_eq_true rfl, Nat.le_of_ble_eq_true rfl⟩ (fun _ _ _ q => False.elim q) (fun r w1 sz1 hz hP => ?_)
    obtain ⟨rfl, ⟨f12, rfl, hf12⟩, rfl⟩ := hP
    refine x_w (w1 := (MW g w t f12 bf sv pa lb ip td sg)) MW_v ?_
    have hJ12 : MJ n t f12 bf sv pa sg := hJ.j_v (hJ.2.1.cong hf12)
    refine x_st (st1 := []) rfl ?_
    refine x_aload_n 0 19 C0 dX8_ends_18 rfl rfl rfl ?_
    refine x_getf (v := .int (t 1)) 1 22 C0 dX8_ends_19 rfl MR_MW.o rfl (by decide) inX8 mF_X8_38 rfl ?_
    refine x_iconst (v := 3) 23 C0 dX8_ends_22 rfl (by decide) ?_
    refine x_icmp_ne 42 26 C0 dX8_ends_23 rfl (by decide) (fun c13 => ?_) (fun c13 => ?_)
    · refine x_aload_n 0 43 C0 dX8_ends_42 rfl rfl rfl ?_
      refine x_aload_n 0 44 C0 dX8_ends_43 rfl rfl rfl ?_
      refine x_getf (v := .int (t 1)) 1 47 C0 dX8_ends_44 rfl MR_MW.o rfl (by decide) inX8 mF_X8_38 rfl ?_
      refine x_iconst (v := 1) 48 C0 dX8_ends_47 rfl (by decide) ?_
      refine x_icmp_ne 55 51 C0 dX8_ends_48 rfl (by decide) (fun c14 => ?_) (fun c14 => ?_)
      · refine x_aload_n 0 56 C0 dX8_ends_55 rfl rfl rfl ?_
        refine x_getf (v := .int (t 1)) 1 59 C0 dX8_ends_56 rfl MR_MW.o rfl (by decide) inX8 mF_X8_38 rfl ?_
        refine x_iconst (v := 2) 60 C0 dX8_ends_59 rfl (by decide) ?_
        refine x_icmp_ne 67 63 C0 dX8_ends_60 rfl (by decide) (fun c15 => ?_) (fun c15 => ?_)
        · refine x_iload 4 69 C0 dX8_ends_67 rfl rfl ?_
          refine x_callV 72 C0 (k_X8_no l hl g _ _ n t f12 bf sv pa lb ip td sg MR_MW hJ12 jc) dX8_ends_69 rfl mC_X8_no mM_X8_61 mI_X8_no mV_X8_no mN_X8 yd_X8_no rfl rfl ⟨Nat.le_of_ble_eq_true rfl, Nat.le_of_ble_eq_true rfl⟩ MR_MW.o rfl rfl rfl rfl (Nat.le_of_ble_eq_true rfl) ⟨Nat.le_of_ble_eq_true rfl, Nat.le_of_ble_eq_true rfl⟩ (fun _ _ _ q => False.elim q) (fun r w1 sz1 hz hP => ?_)
          obtain ⟨rfl, rfl, rfl⟩ := hP
          refine x_w MW_MW ?_
          have hJ16 : MJ n (upd t 0 jc) f12 bf sv pa sg := (hJ12.j_t (by decide))
          refine x_st (st1 := [.int 0]) rfl ?_
          exact x_ireturn C0 dX8_ends_72 rfl rfl (Nat.le_of_ble_eq_true rfl) (Nat.le_of_ble_eq_true rfl) ⟨rfl, _, _, _, rfl, hJ16, rfl, rfl, Or.inl ⟨c1, hf12, rfl, rfl, Or.inr (Or.inr ⟨c14, c15, rfl⟩), rfl⟩⟩
        · refine x_iload_n 3 64 C0 dX8_ends_63 rfl rfl rfl ?_
          refine x_goto 69 C0 dX8_ends_64 (by decide) ?_
          refine x_callV 72 C0 (k_X8_no l hl g _ _ n t f12 bf sv pa lb ip td sg MR_MW hJ12 jb) dX8_ends_69 rfl mC_X8_no mM_X8_61 mI_X8_no mV_X8_no mN_X8 yd_X8_no rfl rfl ⟨Nat.le_of_ble_eq_true rfl, Nat.le_of_ble_eq_true rfl⟩ MR_MW.o rfl rfl rfl rfl (Nat.le_of_ble_eq_true rfl) ⟨Nat.le_of_ble_eq_true rfl, Nat.le_of_ble_eq_true rfl⟩ (fun _ _ _ q => False.elim q) (fun r w1 sz1 hz hP => ?_)
          obtain ⟨rfl, rfl, rfl⟩ := hP
          refine x_w MW_MW ?_
          have hJ17 : MJ n (upd t 0 jb) f12 bf sv pa sg := (hJ12.j_t (by decide))
          refine x_st (st1 := [.int 0]) rfl ?_
          exact x_ireturn C0 dX8_ends_72 rfl rfl (Nat.le_of_ble_eq_true rfl) (Nat.le_of_ble_eq_true rfl) ⟨rfl, _, _, _, rfl, hJ17, rfl, rfl, Or.inl ⟨c1, hf12, rfl, rfl, Or.inr (Or.inl ⟨c14, c15, rfl⟩), rfl⟩⟩
      · refine x_iload_n 2 52 C0 dX8_ends_51 rfl rfl rfl ?_
        refine x_goto 69 C0 dX8_ends_52 (by decide) ?_
        refine x_callV 72 C0 (k_X8_no l hl g _ _ n t f12 bf sv pa lb ip td sg MR_MW hJ12 ja) dX8_ends_69 rfl mC_X8_no mM_X8_61 mI_X8_no mV_X8_no mN_X8 yd_X8_no rfl rfl ⟨Nat.le_of_ble_eq_true rfl, Nat.le_of_ble_eq_true rfl⟩ MR_MW.o rfl rfl rfl rfl (Nat.le_of_ble_eq_true rfl) ⟨Nat.le_of_ble_eq_true rfl, Nat.le_of_ble_eq_true rfl⟩ (fun _ _ _ q => False.elim q) (fun r w1 sz1 hz hP => ?_)
        obtain ⟨rfl, rfl, rfl⟩ := hP
        refine x_w MW_MW ?_
        have hJ18 : MJ n (upd t 0 ja) f12 bf sv pa sg := (hJ12.j_t (by decide))
        refine x_st (st1 := [.int 0]) rfl ?_
        exact x_ireturn C0 dX8_ends_72 rfl rfl (Nat.le_of_ble_eq_true rfl) (Nat.le_of_ble_eq_true rfl) ⟨rfl, _, _, _, rfl, hJ18, rfl, rfl, Or.inl ⟨c1, hf12, rfl, rfl, Or.inl ⟨c14, rfl⟩, rfl⟩⟩
    · refine x_aload_n 0 27 C0 dX8_ends_26 rfl rfl rfl ?_
      refine x_aload_n 0 28 C0 dX8_ends_27 rfl rfl rfl ?_
      refine x_getf (v := .int (t 5)) 5 31 C0 dX8_ends_28 rfl MR_MW.o rfl (by decide) inX8 mF_X8_41 rfl ?_
      refine x_putf 3 34 C0 dX8_ends_31 rfl MR_MW.o (by show g.2 0 ≤ _; omega) rfl (by decide) inX8 tyX8_ok nmX8 mF_X8_55 rfl rfl rfl rfl (Nat.le_of_ble_eq_true rfl) ?_
      refine x_w (w1 := (MW g w (upd t 3 (t 5)) f12 bf sv pa lb ip td sg)) (MW_o rfl) ?_
      have hJ19 : MJ n (upd t 3 (t 5)) f12 bf sv pa sg := hJ12.j_t (by decide)
      refine x_aload_n 0 35 C0 dX8_ends_34 rfl rfl rfl ?_
      refine x_aload_n 0 36 C0 dX8_ends_35 rfl rfl rfl ?_
      refine x_getf (v := .int (t 6)) 6 39 C0 dX8_ends_36 rfl MR_MW.o rfl (by decide) inX8 mF_X8_44 rfl ?_
      refine x_putf 4 42 C0 dX8_ends_39 rfl MR_MW.o (by show g.2 0 ≤ _; omega) rfl (by decide) inX8 tyX8_ok nmX8 mF_X8_58 rfl rfl rfl rfl (Nat.le_of_ble_eq_true rfl) ?_
      refine x_w (w1 := (MW g w (upd (upd t 3 (t 5)) 4 (t 6)) f12 bf sv pa lb ip td sg)) (MW_o rfl) ?_
      have hJ20 : MJ n (upd (upd t 3 (t 5)) 4 (t 6)) f12 bf sv pa sg := hJ19.j_t (by decide)
      refine x_aload_n 0 43 C0 dX8_ends_42 rfl rfl rfl ?_
      refine x_aload_n 0 44 C0 dX8_ends_43 rfl rfl rfl ?_
      refine x_getf (v := .int (t 1)) 1 47 C0 dX8_ends_44 rfl MR_MW.o rfl (by decide) inX8 mF_X8_38 rfl ?_
      refine x_iconst (v := 1) 48 C0 dX8_ends_47 rfl (by decide) ?_
      refine x_icmp_ne 55 51 C0 dX8_ends_48 rfl (by decide) (fun c21 => ?_) (fun c21 => ?_)
      · refine x_aload_n 0 56 C0 dX8_ends_55 rfl rfl rfl ?_
        refine x_getf (v := .int (t 1)) 1 59 C0 dX8_ends_56 rfl MR_MW.o rfl (by decide) inX8 mF_X8_38 rfl ?_
        refine x_iconst (v := 2) 60 C0 dX8_ends_59 rfl (by decide) ?_
        refine x_icmp_ne 67 63 C0 dX8_ends_60 rfl (by decide) (fun c22 => ?_) (fun c22 => ?_)
        · refine x_iload 4 69 C0 dX8_ends_67 rfl rfl ?_
          refine x_callV 72 C0 (k_X8_no l hl g _ _ n (upd (upd t 3 (t 5)) 4 (t 6)) f12 bf sv pa lb ip td sg MR_MW hJ20 jc) dX8_ends_69 rfl mC_X8_no mM_X8_61 mI_X8_no mV_X8_no mN_X8 yd_X8_no rfl rfl ⟨Nat.le_of_ble_eq_true rfl, Nat.le_of_ble_eq_true rfl⟩ MR_MW.o rfl rfl rfl rfl (Nat.le_of_ble_eq_true rfl) ⟨Nat.le_of_ble_eq_true rfl, Nat.le_of_ble_eq_true rfl⟩ (fun _ _ _ q => False.elim q) (fun r w1 sz1 hz hP => ?_)
          obtain ⟨rfl, rfl, rfl⟩ := hP
          refine x_w MW_MW ?_
          have hJ23 : MJ n (upd (upd (upd t 3 (t 5)) 4 (t 6)) 0 jc) f12 bf sv pa sg := (hJ20.j_t (by decide))
          refine x_st (st1 := [.int 0]) rfl ?_
          exact x_ireturn C0 dX8_ends_72 rfl rfl (Nat.le_of_ble_eq_true rfl) (Nat.le_of_ble_eq_true rfl) ⟨rfl, _, _, _, rfl, hJ23, rfl, rfl, Or.inl ⟨c1, hf12, rfl, rfl, Or.inr (Or.inr ⟨c21, c22, rfl⟩), rfl⟩⟩
        · refine x_iload_n 3 64 C0 dX8_ends_63 rfl rfl rfl ?_
          refine x_goto 69 C0 dX8_ends_64 (by decide) ?_
          refine x_callV 72 C0 (k_X8_no l hl g _ _ n (upd (upd t 3 (t 5)) 4 (t 6)) f12 bf sv pa lb ip td sg MR_MW hJ20 jb) dX8_ends_69 rfl mC_X8_no mM_X8_61 mI_X8_no mV_X8_no mN_X8 yd_X8_no rfl rfl ⟨Nat.le_of_ble_eq_true rfl, Nat.le_of_ble_eq_true rfl⟩ MR_MW.o rfl rfl rfl rfl (Nat.le_of_ble_eq_true rfl) ⟨Nat.le_of_ble_eq_true rfl, Nat.le_of_ble_eq_true rfl⟩ (fun _ _ _ q => False.elim q) (fun r w1 sz1 hz hP => ?_)
          obtain ⟨rfl, rfl, rfl⟩ := hP
          refine x_w MW_MW ?_
          have hJ24 : MJ n (upd (upd (upd t 3 (t 5)) 4 (t 6)) 0 jb) f12 bf sv pa sg := (hJ20.j_t (by decide))
          refine x_st (st1 := [.int 0]) rfl ?_
          exact x_ireturn C0 dX8_ends_72 rfl rfl (Nat.le_of_ble_eq_true rfl) (Nat.le_of_ble_eq_true rfl) ⟨rfl, _, _, _, rfl, hJ24, rfl, rfl, Or.inl ⟨c1, hf12, rfl, rfl, Or.inr (Or.inl ⟨c21, c22, rfl⟩), rfl⟩⟩
      · refine x_iload_n 2 52 C0 dX8_ends_51 rfl rfl rfl ?_
        refine x_goto 69 C0 dX8_ends_52 (by decide) ?_
        refine x_callV 72 C0 (k_X8_no l hl g _ _ n (upd (upd t 3 (t 5)) 4 (t 6)) f12 bf sv pa lb ip td sg MR_MW hJ20 ja) dX8_ends_69 rfl mC_X8_no mM_X8_61 mI_X8_no mV_X8_no mN_X8 yd_X8_no rfl rfl ⟨Nat.le_of_ble_eq_true rfl, Nat.le_of_ble_eq_true rfl⟩ MR_MW.o rfl rfl rfl rfl (Nat.le_of_ble_eq_true rfl) ⟨Nat.le_of_ble_eq_true rfl, Nat.le_of_ble_eq_true rfl⟩ (fun _ _ _ q => False.elim q) (fun r w1 sz1 hz hP => ?_)
        obtain ⟨rfl, rfl, rfl⟩ := hP
        refine x_w MW_MW ?_
        have hJ25 : MJ n (upd (upd (upd t 3 (t 5)) 4 (t 6)) 0 ja) f12 bf sv pa sg := (hJ20.j_t (by decide))
        refine x_st (st1 := [.int 0]) rfl ?_
        exact x_ireturn C0 dX8_ends_72 rfl rfl (Nat.le_of_ble_eq_true rfl) (Nat.le_of_ble_eq_true rfl) ⟨rfl, _, _, _, rfl, hJ25, rfl, rfl, Or.inl ⟨c1, hf12, rfl, rfl, Or.inl ⟨c21, rfl⟩, rfl⟩⟩

