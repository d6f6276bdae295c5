/-! THE TEXT, EXACTLY: what stands at a place -/
def sgn (n : Nat) (sg : Nat → Int32) (p : Nat) : Int32 := sgAt n sg (nI p)
def dgt (n : Nat) (sg : Nat → Int32) (p : Nat) : Bool := decide (48 ≤ sgn n sg p ∧ sgn n sg p ≤ 57)
theorem dgt_mk {n : Nat} {sg : Nat → Int32} {p : Nat} (h1 : 48 ≤ sgn n sg p) (h2 : sgn n sg p ≤ 57) : dgt n sg p = true := decide_eq_true ⟨h1, h2⟩
theorem dgt_of {n : Nat} {sg : Nat → Int32} {p : Nat} (h : dgt n sg p = true) : 48 ≤ sgn n sg p ∧ sgn n sg p ≤ 57 := of_decide_eq_true h
def dv (n : Nat) (sg : Nat → Int32) (p : Nat) : Nat := (sgn n sg p - 48).toNatClampNeg
def vN (n : Nat) (sg : Nat → Int32) (p : Nat) : Nat := if dgt n sg (p + 1) then 10 * dv n sg p + dv n sg (p + 1) else dv n sg p
def qN (n : Nat) (sg : Nat → Int32) (p : Nat) : Nat := if dgt n sg (p + 1) then p + 1 + 1 else p + 1
def wl (w : Nat) : Nat := [5, 5, 6, 6, 5, 5, 4, 6, 4, 6, 4].getD w 0
def wc (w j : Nat) : Int32 := sgM (7 * w + j)
def mt (n : Nat) (sg : Nat → Int32) (p w j : Nat) : Bool := decide (sgn n sg (p + j) = wc w j)
/-- how many lead -/
def al (m : Nat → Bool) : Nat → Nat
  | 0 => 0
  | L + 1 => if al m L = L then (if m L = true then L + 1 else L) else al m L
def alw (n : Nat) (sg : Nat → Int32) (p w : Nat) : Nat := al (mt n sg p w) (wl w)
/-- the first of c from a on, or a + c -/
def fst1 (f : Nat → Bool) (a : Nat) : Nat → Nat
  | 0 => a
  | c + 1 => if fst1 f a c = a + c then (if f (a + c) = true then a + c else a + c + 1) else fst1 f a c
def mx1 (h : Nat → Nat) (a : Nat) : Nat → Nat
  | 0 => 0
  | c + 1 => if mx1 h a c < h (a + c) then h (a + c) else mx1 h a c
def isW (n : Nat) (sg : Nat → Int32) (p w : Nat) : Bool := decide (alw n sg p w = wl w)
def fwd (n : Nat) (sg : Nat → Int32) (p a c : Nat) : Nat := fst1 (isW n sg p) a c
def pwd (n : Nat) (sg : Nat → Int32) (p a c : Nat) : Nat := if fwd n sg p a c = a + c then p + mx1 (alw n sg p) a c else p + wl (fwd n sg p a c)
theorem al_le (m : Nat → Bool) : ∀ L, al m L ≤ L := by
  intro L
  induction L with
  | zero => exact Nat.le_refl _
  | succ L ih =>
    unfold al
    split
    · split <;> omega
    · omega
theorem al_go {m : Nat → Bool} {i : Nat} (h : al m i = i) (hm : m i = true) : al m (i + 1) = i + 1 := by
  unfold al
  rw [if_pos h, if_pos hm]
theorem al_stop {m : Nat → Bool} {i : Nat} (h : al m i = i) (hm : m i = false) : ∀ L, i < L → al m L = i := by
  intro L
  induction L with
  | zero => intro hL; omega
  | succ L ih =>
    intro hL
    unfold al
    by_cases e : i = L
    · subst e
      rw [if_pos h, if_neg (by rw [hm]; decide)]
    · have := ih (by omega)
      rw [if_neg (by omega)]
      exact this
theorem al_cg {m m' : Nat → Bool} : ∀ L, (∀ j, j < L → m j = m' j) → al m L = al m' L := by
  intro L
  induction L with
  | zero => intro _; rfl
  | succ L ih =>
    intro h
    unfold al
    rw [ih (fun j hj => h j (by omega)), h L (by omega)]
theorem al_in {m : Nat → Bool} : ∀ L i, i < al m L → m i = true := by
  intro L
  induction L with
  | zero => intro i hi; exact absurd hi (Nat.not_lt_zero _)
  | succ L ih =>
    intro i hi
    unfold al at hi
    split at hi
    · rename_i e
      split at hi
      · rename_i e2
        by_cases e3 : i = L
        · subst e3; exact e2
        · exact ih i (by omega)
      · exact ih i (by omega)
    · exact ih i hi
theorem al_out {m : Nat → Bool} : ∀ L, al m L < L → m (al m L) = false := by
  intro L
  induction L with
  | zero => intro h; exact absurd h (Nat.not_lt_zero _)
  | succ L ih =>
    intro h
    unfold al at h ⊢
    by_cases e : al m L = L
    · rw [if_pos e] at h ⊢
      by_cases e2 : m L = true
      · rw [if_pos e2] at h
        omega
      · rw [if_neg e2]
        exact Bool.eq_false_iff.mpr e2
    · rw [if_neg e]
      exact ih (by have := al_le m L; omega)
theorem fst_go {f : Nat → Bool} {a i : Nat} (h : fst1 f a i = a + i) (hf : f (a + i) = false) : fst1 f a (i + 1) = a + (i + 1) := by
  unfold fst1
  rw [if_pos h, if_neg (by rw [hf]; decide)]
  rfl
theorem fst_hit {f : Nat → Bool} {a i : Nat} (h : fst1 f a i = a + i) (hf : f (a + i) = true) : ∀ c, i < c → fst1 f a c = a + i := by
  intro c
  induction c with
  | zero => intro hc; omega
  | succ c ih =>
    intro hc
    unfold fst1
    by_cases e : i = c
    · subst e
      rw [if_pos h, if_pos hf]
    · have := ih (by omega)
      rw [if_neg (by omega)]
      exact this
theorem mx_go (h : Nat → Nat) (a i : Nat) : mx1 h a (i + 1) = if mx1 h a i < h (a + i) then h (a + i) else mx1 h a i := rfl
theorem mx_le {h : Nat → Nat} {a b : Nat} : ∀ c, (∀ i, i < c → h (a + i) ≤ b) → mx1 h a c ≤ b := by
  intro c
  induction c with
  | zero => intro _; exact Nat.zero_le _
  | succ c ih =>
    intro hb
    have h1 := ih (fun i hi => hb i (by omega))
    have h2 := hb c (by omega)
    rw [mx_go]
    split <;> omega
theorem wl_c : (∀ w, w < 8 → xlen.getD (5 + w) 0 = wl w ∧ ∀ j, j < wl w → (xbyt.getD (5 + w) []).getD j 0 = wc w j) ∧ ∀ w, w < 3 → xlen.getD (2 + w) 0 = wl (8 + w) ∧ ∀ j, j < wl (8 + w) → (xbyt.getD (2 + w) []).getD j 0 = wc (8 + w) j := by decide +kernel
theorem sgn_in {n : Nat} {sg : Nat → Int32} {p : Nat} (hn : n ≤ 60) (hp : p < 1000) (h : ¬ sgn n sg p = -1) : p < n := sgAt_in hn hp h
theorem dgt_in {n : Nat} {sg : Nat → Int32} {p : Nat} (hn : n ≤ 60) (hp : p < 1000) (h : dgt n sg p) : p < n := sgn_in hn hp (fun e => by
  have := (dgt_of h).1
  rw [e] at this
  exact absurd this (by decide))
theorem dv_ok {n : Nat} {sg : Nat → Int32} {p : Nat} (h : dgt n sg p) : dv n sg p < 10 ∧ sgn n sg p - 48 = nI (dv n sg p) := by
  obtain ⟨h1, h2⟩ := dgt_of h
  rw [Int32.le_iff_toInt_le] at h1 h2
  have h1 : (48 : Int) ≤ (sgn n sg p).toInt := h1
  have h2 : (sgn n sg p).toInt ≤ 57 := h2
  have e : (sgn n sg p - 48).toInt = (sgn n sg p).toInt - 48 := by
    rw [Int32.toInt_sub]
    show ((sgn n sg p).toInt - 48).bmod (2 ^ 32) = _
    exact Int.bmod_eq_of_le (by omega) (by omega)
  obtain ⟨d, hd, e2⟩ : ∃ d : Nat, d < 10 ∧ sgn n sg p - 48 = nI d := ⟨((sgn n sg p).toInt - 48).toNat, by omega, Int32.toInt_inj.mp (by rw [e, nI_toInt (by omega)]; omega)⟩
  unfold dv
  rw [e2, nI_clamp (by omega)]
  exact ⟨hd, rfl⟩
theorem vN_lt {n : Nat} {sg : Nat → Int32} {p : Nat} (h : dgt n sg p) : vN n sg p < 100 := by
  have := dv_ok h
  unfold vN
  split
  · rename_i h2
    have := dv_ok h2
    omega
  · omega
/-- an end of the exact reader: the counts that it wrote -/
def tX (g : xg_T) (w : xw_T) (sz a n : Nat) (tt : Nat → Int32) (vb : Option Nat) (K : Nat → Prop) (R : Option Value → (Nat → Int32) → Prop) : Option Value → xw_T → Nat → Prop := fun r w1 sz1 => sz = sz1 ∧ ∃ tt', w1 = xup w a (.inr (4, txtL a tt' vb)) ∧ tOk n tt' ∧ (∀ i, ¬ K i → tt' i = tt i) ∧ R r tt'

theorem tOk_q {n : Nat} {tt : Nat → Int32} (h : tOk n tt) {q : Nat} (hq : tt 1 = nI q) (hq9 : q < 2000) : q ≤ 60 := by
  obtain ⟨-, -, ⟨m, hm, e⟩, -⟩ := h
  have := (nI_eq (by omega) (by omega)).mp (e.symm.trans hq)
  omega
set_option maxHeartbeats 4000000 in
set_option maxRecDepth 100000 in
theorem e_X2_readSign (l : Launch) (hl : l.stackTraces = false) (g : xg_T) (w : xw_T) (sz a n : Nat) (tt : Nat → Int32) (vb : Option Nat) (sg : Nat → Int32) (hw : w a = some (.inr (4, txtL a tt vb))) (hs : w (a + 1) = some (siE g sg)) (hA : xA g a) (hT : tOk n tt) (hv : vbOk g vb) (q : Nat) (hq : tt 1 = nI q) (hq60 : q ≤ 60) (c : Int32) (hc : ¬ c = -1) : xM l g yX2_readSign cX2_readSign 2 (some .boolean) ({ frames := 1, cells := 0, slots := 0, locals := 21 }) 0 0 [.ref a, .int c] w sz (tX g w sz a n tt vb (fun i => i = 1) (fun r tt' => (sgn n sg q = c ∧ r = some (.int 1) ∧ tt' 1 = nI (q + 1)) ∨ (¬ sgn n sg q = c ∧ r = some (.int 0) ∧ tt' 1 = nI q))) (fun _ _ _ => False) := by
  refine xM.of RX2 hl (by decide +kernel) rfl (Nat.le_of_ble_eq_true rfl) rfl ?_
  intro p e s m args below meth cD C0 hini
  refine x_aload_n 0 1 C0 dX2_readSign_0 rfl rfl rfl ?_
  refine x_aload_n 0 2 C0 dX2_readSign_1 rfl rfl rfl ?_
  refine x_getf (v := .int (tt 1)) 2 5 C0 dX2_readSign_2 rfl hw rfl (by decide) inX2 mF_X2_19 rfl ?_
  refine x_callV 8 C0 (k_X2_signAt l hl g _ _ a _ _ _ _ hw hs hA hT hv (tt 1)) dX2_readSign_5 rfl mC_X2_signAt mM_X2_65 mI_X2_signAt mV_X2_signAt mN_X2 yd_X2_signAt rfl rfl ⟨Nat.le_of_ble_eq_true rfl, Nat.le_of_ble_eq_true rfl⟩ hw rfl rfl rfl rfl (Nat.le_of_ble_eq_true rfl) ⟨Nat.le_of_ble_eq_true rfl, Nat.le_of_ble_eq_true rfl⟩ (fun _ _ _ q => False.elim q) (fun r w1 sz1 hz hP => ?_)
  obtain ⟨rfl, rfl, rfl⟩ := hP
  refine x_st (st1 := [.int (sgn n sg q)]) (by rw [show sgAt n sg (tt 1) = sgn n sg q from congrArg (sgAt n sg) hq]; rfl) ?_
  refine x_iload_n 1 9 C0 dX2_readSign_8 rfl rfl rfl ?_
  refine x_icmp_eq 14 12 C0 dX2_readSign_9 rfl (by decide) (fun c1 => ?_) (fun c1 => ?_)
  · refine x_aload_n 0 15 C0 dX2_readSign_14 rfl rfl rfl ?_
    refine x_dup 16 C0 dX2_readSign_15 rfl rfl ?_
    refine x_getf (v := .int (tt 1)) 2 19 C0 dX2_readSign_16 rfl hw rfl (by decide) inX2 mF_X2_19 rfl ?_
    refine x_iconst (v := 1) 20 C0 dX2_readSign_19 rfl (by decide) ?_
    refine x_iadd 21 C0 dX2_readSign_20 rfl ?_
    refine x_putf 2 24 C0 dX2_readSign_21 rfl hw hA rfl (by decide) inX2 tyX2_ok nmX2 mF_X2_19 rfl rfl rfl rfl (Nat.le_of_ble_eq_true rfl) ?_
    refine x_w (w1 := (xup w a (.inr (4, txtL a (upd tt 1 ((tt 1) + 1)) vb)))) rfl ?_
    have hT2 : tOk n (upd tt 1 ((tt 1) + 1)) := hT.at1 (fun z => hc (c1.symm.trans (by rw [show sgn n sg q = sgAt n sg (tt 1) from congrArg (sgAt n sg) hq.symm]; exact z)))
    refine x_iconst (v := 1) 25 C0 dX2_readSign_24 rfl (by decide) ?_
    exact x_ireturn C0 dX2_readSign_25 rfl rfl (Nat.le_of_ble_eq_true rfl) (Nat.le_of_ble_eq_true rfl) ⟨rfl, _, rfl, hT2, fun i h => if_neg h, Or.inl ⟨c1, rfl, (if_pos rfl).trans (by rw [hq]; exact nI_1 q)⟩⟩
  · refine x_iconst (v := 0) 13 C0 dX2_readSign_12 rfl (by decide) ?_
    exact x_ireturn C0 dX2_readSign_13 rfl rfl (Nat.le_of_ble_eq_true rfl) (Nat.le_of_ble_eq_true rfl) ⟨rfl, _, xup_id hw, hT, fun _ _ => rfl, Or.inr ⟨c1, rfl, hq⟩⟩

set_option maxHeartbeats 4000000 in
set_option maxRecDepth 100000 in
theorem e_X2_readDigit (l : Launch) (hl : l.stackTraces = false) (g : xg_T) (w : xw_T) (sz a n : Nat) (tt : Nat → Int32) (vb : Option Nat) (sg : Nat → Int32) (hw : w a = some (.inr (4, txtL a tt vb))) (hs : w (a + 1) = some (siE g sg)) (hA : xA g a) (hT : tOk n tt) (hv : vbOk g vb) (q : Nat) (hq : tt 1 = nI q) (hq60 : q ≤ 60) : xM l g yX2_readDigit cX2_readDigit 2 (some .int) ({ frames := 1, cells := 0, slots := 0, locals := 21 }) 0 0 [.ref a] w sz (tX g w sz a n tt vb (fun i => i = 1) (fun r tt' => (dgt n sg q ∧ r = some (.int (nI (dv n sg q))) ∧ tt' 1 = nI (q + 1)) ∨ (¬ dgt n sg q ∧ r = some (.int (-1)) ∧ tt' 1 = nI q))) (fun _ _ _ => False) := by
  refine xM.of RX2 hl (by decide +kernel) rfl (Nat.le_of_ble_eq_true rfl) rfl ?_
  intro p e s m args below meth cD C0 hini
  refine x_aload_n 0 1 C0 dX2_readDigit_0 rfl rfl rfl ?_
  refine x_aload_n 0 2 C0 dX2_readDigit_1 rfl rfl rfl ?_
  refine x_getf (v := .int (tt 1)) 2 5 C0 dX2_readDigit_2 rfl hw rfl (by decide) inX2 mF_X2_19 rfl ?_
  refine x_callV 8 C0 (k_X2_signAt l hl g _ _ a _ _ _ _ hw hs hA hT hv (tt 1)) dX2_readDigit_5 rfl mC_X2_signAt mM_X2_65 mI_X2_signAt mV_X2_signAt mN_X2 yd_X2_signAt rfl rfl ⟨Nat.le_of_ble_eq_true rfl, Nat.le_of_ble_eq_true rfl⟩ hw rfl rfl rfl rfl (Nat.le_of_ble_eq_true rfl) ⟨Nat.le_of_ble_eq_true rfl, Nat.le_of_ble_eq_true rfl⟩ (fun _ _ _ q => False.elim q) (fun r w1 sz1 hz hP => ?_)
  obtain ⟨rfl, rfl, rfl⟩ := hP
  refine x_st (st1 := [.int (sgn n sg q)]) (by rw [show sgAt n sg (tt 1) = sgn n sg q from congrArg (sgAt n sg) hq]; rfl) ?_
  refine x_istore_n [(1, .int (sgn n sg q)), (0, .ref a)] 9 C0 dX2_readDigit_8 rfl rfl (by decide) rfl ?_
  refine x_lv (lv1 := [(0, .ref a), (1, .int (sgn n sg q))]) [1, 0] rfl ?_
  refine x_iload_n 1 10 C0 dX2_readDigit_9 rfl rfl rfl ?_
  refine x_bipush (v := 48) 12 C0 dX2_readDigit_10 rfl (by decide) ?_
  refine x_icmp_lt 21 15 C0 dX2_readDigit_12 rfl (by decide) (fun c1 => ?_) (fun c1 => ?_)
  · have c1' := Int32.not_le.mpr c1
    refine x_iconst (v := (-1)) 22 C0 dX2_readDigit_21 rfl (by decide) ?_
    exact x_ireturn C0 dX2_readDigit_22 rfl rfl (Nat.le_of_ble_eq_true rfl) (Nat.le_of_ble_eq_true rfl) ⟨rfl, _, xup_id hw, hT, fun _ _ => rfl, Or.inr ⟨fun z => absurd (dgt_of z).1 (Int32.not_le.mpr c1), rfl, hq⟩⟩
  · have c1' := Int32.not_lt.mp c1
    refine x_iload_n 1 16 C0 dX2_readDigit_15 rfl rfl rfl ?_
    refine x_bipush (v := 57) 18 C0 dX2_readDigit_16 rfl (by decide) ?_
    refine x_icmp_le 23 21 C0 dX2_readDigit_18 rfl (by decide) (fun c2 => ?_) (fun c2 => ?_)
    · have c2' := Int32.not_lt.mpr c2
      refine x_aload_n 0 24 C0 dX2_readDigit_23 rfl rfl rfl ?_
      refine x_dup 25 C0 dX2_readDigit_24 rfl rfl ?_
      refine x_getf (v := .int (tt 1)) 2 28 C0 dX2_readDigit_25 rfl hw rfl (by decide) inX2 mF_X2_19 rfl ?_
      refine x_iconst (v := 1) 29 C0 dX2_readDigit_28 rfl (by decide) ?_
      refine x_iadd 30 C0 dX2_readDigit_29 rfl ?_
      refine x_putf 2 33 C0 dX2_readDigit_30 rfl hw hA rfl (by decide) inX2 tyX2_ok nmX2 mF_X2_19 rfl rfl rfl rfl (Nat.le_of_ble_eq_true rfl) ?_
      refine x_w (w1 := (xup w a (.inr (4, txtL a (upd tt 1 ((tt 1) + 1)) vb)))) rfl ?_
      have hT3 : tOk n (upd tt 1 ((tt 1) + 1)) := hT.at1 (fun z => absurd ((show sgn n sg q = -1 by rw [show sgn n sg q = sgAt n sg (tt 1) from congrArg (sgAt n sg) hq.symm]; exact z) ▸ c1) (by decide))
      refine x_iload_n 1 34 C0 dX2_readDigit_33 rfl rfl rfl ?_
      refine x_bipush (v := 48) 36 C0 dX2_readDigit_34 rfl (by decide) ?_
      refine x_isub 37 C0 dX2_readDigit_36 rfl ?_
      exact x_ireturn C0 dX2_readDigit_37 rfl rfl (Nat.le_of_ble_eq_true rfl) (Nat.le_of_ble_eq_true rfl) ⟨rfl, _, rfl, hT3, fun i h => if_neg h, Or.inl ⟨dgt_mk (Int32.not_lt.mp c1) c2, congrArg (fun z => some (Value.int z)) (dv_ok (dgt_mk (Int32.not_lt.mp c1) c2)).2, (if_pos rfl).trans (by rw [hq]; exact nI_1 q)⟩⟩
    · have c2' := Int32.not_le.mp c2
      refine x_iconst (v := (-1)) 22 C0 dX2_readDigit_21 rfl (by decide) ?_
      exact x_ireturn C0 dX2_readDigit_22 rfl rfl (Nat.le_of_ble_eq_true rfl) (Nat.le_of_ble_eq_true rfl) ⟨rfl, _, xup_id hw, hT, fun _ _ => rfl, Or.inr ⟨fun z => c2 (dgt_of z).2, rfl, hq⟩⟩

set_option maxHeartbeats 4000000 in
set_option maxRecDepth 100000 in
theorem e_X2_readNumber (l : Launch) (hl : l.stackTraces = false) (g : xg_T) (w : xw_T) (sz a n : Nat) (tt : Nat → Int32) (vb : Option Nat) (sg : Nat → Int32) (hw : w a = some (.inr (4, txtL a tt vb))) (hs : w (a + 1) = some (siE g sg)) (hA : xA g a) (hT : tOk n tt) (hv : vbOk g vb) (q : Nat) (hq : tt 1 = nI q) (hq60 : q ≤ 60) : xM l g yX2_readNumber cX2_readNumber 3 (some .int) ({ frames := 2, cells := 0, slots := 0, locals := 42 }) 0 0 [.ref a] w sz (tX g w sz a n tt vb (fun i => i = 1) (fun r tt' => (dgt n sg q ∧ r = some (.int (nI (vN n sg q))) ∧ tt' 1 = nI (qN n sg q)) ∨ (¬ dgt n sg q ∧ r = some (.int (-1)) ∧ tt' 1 = nI q))) (fun _ _ _ => False) := by
  refine xM.of RX2 hl (by decide +kernel) rfl (Nat.le_of_ble_eq_true rfl) rfl ?_
  intro p e s m args below meth cD C0 hini
  refine x_aload_n 0 1 C0 dX2_readNumber_0 rfl rfl rfl ?_
  refine x_callV 4 C0 (e_X2_readDigit l hl g _ _ a _ _ _ _ hw hs hA hT hv q hq hq60) dX2_readNumber_1 rfl mC_X2_readDigit mM_X2_69 mI_X2_readDigit mV_X2_readDigit mN_X2 yd_X2_readDigit rfl rfl ⟨Nat.le_of_ble_eq_true rfl, Nat.le_of_ble_eq_true rfl⟩ hw rfl rfl rfl rfl (Nat.le_of_ble_eq_true rfl) ⟨Nat.le_of_ble_eq_true rfl, Nat.le_of_ble_eq_true rfl⟩ (fun _ _ _ q => False.elim q) (fun r w1 sz1 hz hP => ?_)
  obtain ⟨rfl, t1, rfl, hT1, hk1, hQ1⟩ := hP
  rcases hQ1 with ⟨hc1, rfl, hp1⟩ | ⟨hc1, rfl, hp1⟩
  · have hq61 : q + 1 ≤ 60 := tOk_q hT1 hp1 (by omega)
    refine x_st (st1 := [.int (nI (dv n sg q))]) rfl ?_
    refine x_istore_n [(1, .int (nI (dv n sg q))), (0, .ref a)] 5 C0 dX2_readNumber_4 rfl rfl (by decide) rfl ?_
    refine x_lv (lv1 := [(0, .ref a), (1, .int (nI (dv n sg q)))]) [1, 0] rfl ?_
    refine x_iload_n 1 6 C0 dX2_readNumber_5 rfl rfl rfl ?_
    refine x_if_ge 11 9 C0 dX2_readNumber_6 rfl (by decide) (fun c2 => ?_) (fun c2 => ?_)
    rotate_left
    · exact absurd (nI_pos' (by have := dv_ok (by assumption : dgt n sg q); omega)) c2
    refine x_aload_n 0 12 C0 dX2_readNumber_11 rfl rfl rfl ?_
    refine x_callV 15 C0 (e_X2_readDigit l hl g _ _ a _ _ _ _ (xup_s _ _ _) ((xup_n (by omega)).trans hs) hA hT1 hv (q + 1) hp1 hq61) dX2_readNumber_12 rfl mC_X2_readDigit mM_X2_69 mI_X2_readDigit mV_X2_readDigit mN_X2 yd_X2_readDigit rfl rfl ⟨Nat.le_of_ble_eq_true rfl, Nat.le_of_ble_eq_true rfl⟩ (xup_s _ _ _) rfl rfl rfl rfl (Nat.le_of_ble_eq_true rfl) ⟨Nat.le_of_ble_eq_true rfl, Nat.le_of_ble_eq_true rfl⟩ (fun _ _ _ q => False.elim q) (fun r w1 sz1 hz hP => ?_)
    obtain ⟨rfl, t3, rfl, hT3, hk3, hQ3⟩ := hP
    rcases hQ3 with ⟨hc3, rfl, hp3⟩ | ⟨hc3, rfl, hp3⟩
    · have hq63 : (q + 1) + 1 ≤ 60 := tOk_q hT3 hp3 (by omega)
      refine x_w (xup_2 _ _ _ _) ?_
      refine x_st (st1 := [.int (nI (dv n sg (q + 1)))]) rfl ?_
      refine x_istore_n [(2, .int (nI (dv n sg (q + 1)))), (0, .ref a), (1, .int (nI (dv n sg q)))] 16 C0 dX2_readNumber_15 rfl rfl (by decide) rfl ?_
      refine x_lv (lv1 := [(0, .ref a), (1, .int (nI (dv n sg q))), (2, .int (nI (dv n sg (q + 1))))]) [1, 2, 0] rfl ?_
      refine x_iload_n 2 17 C0 dX2_readNumber_16 rfl rfl rfl ?_
      refine x_if_ge 24 20 C0 dX2_readNumber_17 rfl (by decide) (fun c4 => ?_) (fun c4 => ?_)
      rotate_left
      · exact absurd (nI_pos' (by have := dv_ok (by assumption : dgt n sg (q + 1)); omega)) c4
      refine x_bipush (v := 10) 26 C0 dX2_readNumber_24 rfl (by decide) ?_
      refine x_iload_n 1 27 C0 dX2_readNumber_26 rfl rfl rfl ?_
      refine x_imul 28 C0 dX2_readNumber_27 rfl ?_
      refine x_iload_n 2 29 C0 dX2_readNumber_28 rfl rfl rfl ?_
      refine x_iadd 30 C0 dX2_readNumber_29 rfl ?_
      refine x_st (st1 := [.int (nI (10 * dv n sg q + dv n sg (q + 1)))]) (congrArg (fun z => Value.int z :: _) (by rw [show (10 : Int32) = nI 10 from rfl, nI_mulN, nI_add])) ?_
      exact x_ireturn C0 dX2_readNumber_30 rfl rfl (Nat.le_of_ble_eq_true rfl) (Nat.le_of_ble_eq_true rfl) ⟨rfl, _, rfl, hT3, fun i h => ((hk3 i h).trans (hk1 i h)), Or.inl ⟨hc1, (by unfold vN; rw [if_pos hc3]), (by rw [hp3]; unfold qN; rw [if_pos hc3])⟩⟩
    · have hq63 : (q + 1) ≤ 60 := tOk_q hT3 hp3 (by omega)
      refine x_w (xup_2 _ _ _ _) ?_
      refine x_st (st1 := [.int (-1)]) rfl ?_
      refine x_istore_n [(2, .int (-1)), (0, .ref a), (1, .int (nI (dv n sg q)))] 16 C0 dX2_readNumber_15 rfl rfl (by decide) rfl ?_
      refine x_lv (lv1 := [(0, .ref a), (1, .int (nI (dv n sg q))), (2, .int (-1))]) [1, 2, 0] rfl ?_
      refine x_iload_n 2 17 C0 dX2_readNumber_16 rfl rfl rfl ?_
      refine x_if_ge 24 20 C0 dX2_readNumber_17 rfl (by decide) (fun q => False.elim (by revert q; decide)) (fun _ => ?_)
      refine x_iload_n 1 21 C0 dX2_readNumber_20 rfl rfl rfl ?_
      refine x_goto 30 C0 dX2_readNumber_21 (by decide) ?_
      exact x_ireturn C0 dX2_readNumber_30 rfl rfl (Nat.le_of_ble_eq_true rfl) (Nat.le_of_ble_eq_true rfl) ⟨rfl, _, rfl, hT3, fun i h => ((hk3 i h).trans (hk1 i h)), Or.inl ⟨hc1, (by unfold vN; rw [if_neg hc3]), (by rw [hp3]; unfold qN; rw [if_neg hc3])⟩⟩
  · have hq61 : q ≤ 60 := tOk_q hT1 hp1 (by omega)
    refine x_st (st1 := [.int (-1)]) rfl ?_
    refine x_istore_n [(1, .int (-1)), (0, .ref a)] 5 C0 dX2_readNumber_4 rfl rfl (by decide) rfl ?_
    refine x_lv (lv1 := [(0, .ref a), (1, .int (-1))]) [1, 0] rfl ?_
    refine x_iload_n 1 6 C0 dX2_readNumber_5 rfl rfl rfl ?_
    refine x_if_ge 11 9 C0 dX2_readNumber_6 rfl (by decide) (fun q => False.elim (by revert q; decide)) (fun _ => ?_)
    refine x_iconst (v := (-1)) 10 C0 dX2_readNumber_9 rfl (by decide) ?_
    exact x_ireturn C0 dX2_readNumber_10 rfl rfl (Nat.le_of_ble_eq_true rfl) (Nat.le_of_ble_eq_true rfl) ⟨rfl, _, rfl, hT1, fun i h => (hk1 i h), Or.inr ⟨hc1, rfl, hp1⟩⟩

set_option maxHeartbeats 4000000 in
set_option maxRecDepth 100000 in
theorem e_X2_readChest (l : Launch) (hl : l.stackTraces = false) (g : xg_T) (w : xw_T) (sz a n : Nat) (tt : Nat → Int32) (vb : Option Nat) (sg : Nat → Int32) (hw : w a = some (.inr (4, txtL a tt vb))) (hs : w (a + 1) = some (siE g sg)) (hA : xA g a) (hT : tOk n tt) (hv : vbOk g vb) (q : Nat) (hq : tt 1 = nI q) (hq60 : q ≤ 60) : xM l g yX2_readChest cX2_readChest 1 (some .boolean) ({ frames := 3, cells := 0, slots := 0, locals := 64 }) 0 0 [.ref a] w sz (tX g w sz a n tt vb (fun i => i = 1 ∨ i = 3) (fun r tt' => (dgt n sg q ∧ r = some (.int 1) ∧ tt' 1 = nI (qN n sg q) ∧ tt' 3 = nI (vN n sg q)) ∨ (¬ dgt n sg q ∧ r = some (.int 0) ∧ tt' 1 = nI q))) (fun _ _ _ => False) := by
  refine xM.of RX2 hl (by decide +kernel) rfl (Nat.le_of_ble_eq_true rfl) rfl ?_
  intro p e s m args below meth cD C0 hini
  refine x_aload_n 0 1 C0 dX2_readChest_0 rfl rfl rfl ?_
  refine x_aload_n 0 2 C0 dX2_readChest_1 rfl rfl rfl ?_
  refine x_callV 5 C0 (e_X2_readNumber l hl g _ _ a _ _ _ _ hw hs hA hT hv q hq hq60) dX2_readChest_2 rfl mC_X2_readNumber mM_X2_78 mI_X2_readNumber mV_X2_readNumber mN_X2 yd_X2_readNumber rfl rfl ⟨Nat.le_of_ble_eq_true rfl, Nat.le_of_ble_eq_true rfl⟩ hw rfl rfl rfl rfl (Nat.le_of_ble_eq_true rfl) ⟨Nat.le_of_ble_eq_true rfl, Nat.le_of_ble_eq_true rfl⟩ (fun _ _ _ q => False.elim q) (fun r w1 sz1 hz hP => ?_)
  obtain ⟨rfl, t1, rfl, hT1, hk1, hQ1⟩ := hP
  rcases hQ1 with ⟨hc1, rfl, hp1⟩ | ⟨hc1, rfl, hp1⟩
  · have hq61 : qN n sg q ≤ 60 := tOk_q hT1 hp1 (by unfold qN; split <;> omega)
    refine x_st (st1 := [.int (nI (vN n sg q)), .ref a]) rfl ?_
    refine x_putf 5 8 C0 dX2_readChest_5 rfl (xup_s _ _ _) hA rfl (by decide) inX2 tyX2_ok nmX2 mF_X2_81 rfl rfl rfl rfl (Nat.le_of_ble_eq_true rfl) ?_
    refine x_w (w1 := (xup w a (.inr (4, txtL a (upd t1 3 (nI (vN n sg q))) vb)))) (xup_2 _ _ _ _) ?_
    have hT2 : tOk n (upd t1 3 (nI (vN n sg q))) := hT1.up (by decide)
    refine x_aload_n 0 9 C0 dX2_readChest_8 rfl rfl rfl ?_
    refine x_getf (v := .int (nI (vN n sg q))) 5 12 C0 dX2_readChest_9 rfl (xup_s _ _ _) rfl (by decide) inX2 mF_X2_81 rfl ?_
    refine x_if_lt 19 15 C0 dX2_readChest_12 rfl (by decide) (fun c3 => ?_) (fun c3 => ?_)
    · exact absurd c3 (Int32.not_lt.mpr (nI_pos' (by have := vN_lt (by assumption : dgt n sg q); omega)))
    refine x_iconst (v := 1) 16 C0 dX2_readChest_15 rfl (by decide) ?_
    refine x_goto 20 C0 dX2_readChest_16 (by decide) ?_
    exact x_ireturn C0 dX2_readChest_20 rfl rfl (Nat.le_of_ble_eq_true rfl) (Nat.le_of_ble_eq_true rfl) ⟨rfl, _, rfl, hT2, fun i h => (if_neg (fun e => h (Or.inr e))).trans (hk1 i (fun e => h (Or.inl e))), Or.inl ⟨hc1, rfl, (if_neg (by decide)).trans hp1, if_pos rfl⟩⟩
  · have hq61 : q ≤ 60 := tOk_q hT1 hp1 (by omega)
    refine x_st (st1 := [.int (-1), .ref a]) rfl ?_
    refine x_putf 5 8 C0 dX2_readChest_5 rfl (xup_s _ _ _) hA rfl (by decide) inX2 tyX2_ok nmX2 mF_X2_81 rfl rfl rfl rfl (Nat.le_of_ble_eq_true rfl) ?_
    refine x_w (w1 := (xup w a (.inr (4, txtL a (upd t1 3 (-1)) vb)))) (xup_2 _ _ _ _) ?_
    have hT4 : tOk n (upd t1 3 (-1)) := hT1.up (by decide)
    refine x_aload_n 0 9 C0 dX2_readChest_8 rfl rfl rfl ?_
    refine x_getf (v := .int (-1)) 5 12 C0 dX2_readChest_9 rfl (xup_s _ _ _) rfl (by decide) inX2 mF_X2_81 rfl ?_
    refine x_if_lt 19 15 C0 dX2_readChest_12 rfl (by decide) (fun _ => ?_) (fun q => False.elim (by revert q; decide))
    refine x_iconst (v := 0) 20 C0 dX2_readChest_19 rfl (by decide) ?_
    exact x_ireturn C0 dX2_readChest_20 rfl rfl (Nat.le_of_ble_eq_true rfl) (Nat.le_of_ble_eq_true rfl) ⟨rfl, _, rfl, hT4, fun i h => (if_neg (fun e => h (Or.inr e))).trans (hk1 i (fun e => h (Or.inl e))), Or.inr ⟨hc1, rfl, (if_neg (by decide)).trans hp1⟩⟩

set_option maxHeartbeats 4000000 in
set_option maxRecDepth 100000 in
theorem e_X2_readManyAsNumber (l : Launch) (hl : l.stackTraces = false) (g : xg_T) (w : xw_T) (sz a n : Nat) (tt : Nat → Int32) (vb : Option Nat) (sg : Nat → Int32) (hw : w a = some (.inr (4, txtL a tt vb))) (hs : w (a + 1) = some (siE g sg)) (hA : xA g a) (hT : tOk n tt) (hv : vbOk g vb) (q : Nat) (hq : tt 1 = nI q) (hq60 : q ≤ 60) : xM l g yX2_readManyAsNumber cX2_readManyAsNumber 1 (some .boolean) ({ frames := 3, cells := 0, slots := 0, locals := 64 }) 0 0 [.ref a] w sz (tX g w sz a n tt vb (fun i => i = 1 ∨ i = 6) (fun r tt' => (dgt n sg q ∧ r = some (.int 1) ∧ tt' 1 = nI (qN n sg q) ∧ tt' 6 = nI (vN n sg q)) ∨ (¬ dgt n sg q ∧ r = some (.int 0) ∧ tt' 1 = nI q))) (fun _ _ _ => False) := by
  refine xM.of RX2 hl (by decide +kernel) rfl (Nat.le_of_ble_eq_true rfl) rfl ?_
  intro p e s m args below meth cD C0 hini
  refine x_aload_n 0 1 C0 dX2_readManyAsNumber_0 rfl rfl rfl ?_
  refine x_aload_n 0 2 C0 dX2_readManyAsNumber_1 rfl rfl rfl ?_
  refine x_callV 5 C0 (e_X2_readNumber l hl g _ _ a _ _ _ _ hw hs hA hT hv q hq hq60) dX2_readManyAsNumber_2 rfl mC_X2_readNumber mM_X2_78 mI_X2_readNumber mV_X2_readNumber mN_X2 yd_X2_readNumber rfl rfl ⟨Nat.le_of_ble_eq_true rfl, Nat.le_of_ble_eq_true rfl⟩ hw rfl rfl rfl rfl (Nat.le_of_ble_eq_true rfl) ⟨Nat.le_of_ble_eq_true rfl, Nat.le_of_ble_eq_true rfl⟩ (fun _ _ _ q => False.elim q) (fun r w1 sz1 hz hP => ?_)
  obtain ⟨rfl, t1, rfl, hT1, hk1, hQ1⟩ := hP
  rcases hQ1 with ⟨hc1, rfl, hp1⟩ | ⟨hc1, rfl, hp1⟩
  · have hq61 : qN n sg q ≤ 60 := tOk_q hT1 hp1 (by unfold qN; split <;> omega)
    refine x_st (st1 := [.int (nI (vN n sg q)), .ref a]) rfl ?_
    refine x_putf 8 8 C0 dX2_readManyAsNumber_5 rfl (xup_s _ _ _) hA rfl (by decide) inX2 tyX2_ok nmX2 mF_X2_84 rfl rfl rfl rfl (Nat.le_of_ble_eq_true rfl) ?_
    refine x_w (w1 := (xup w a (.inr (4, txtL a (upd t1 6 (nI (vN n sg q))) vb)))) (xup_2 _ _ _ _) ?_
    have hT2 : tOk n (upd t1 6 (nI (vN n sg q))) := hT1.up (by decide)
    refine x_aload_n 0 9 C0 dX2_readManyAsNumber_8 rfl rfl rfl ?_
    refine x_getf (v := .int (nI (vN n sg q))) 8 12 C0 dX2_readManyAsNumber_9 rfl (xup_s _ _ _) rfl (by decide) inX2 mF_X2_84 rfl ?_
    refine x_if_lt 19 15 C0 dX2_readManyAsNumber_12 rfl (by decide) (fun c3 => ?_) (fun c3 => ?_)
    · exact absurd c3 (Int32.not_lt.mpr (nI_pos' (by have := vN_lt (by assumption : dgt n sg q); omega)))
    refine x_iconst (v := 1) 16 C0 dX2_readManyAsNumber_15 rfl (by decide) ?_
    refine x_goto 20 C0 dX2_readManyAsNumber_16 (by decide) ?_
    exact x_ireturn C0 dX2_readManyAsNumber_20 rfl rfl (Nat.le_of_ble_eq_true rfl) (Nat.le_of_ble_eq_true rfl) ⟨rfl, _, rfl, hT2, fun i h => (if_neg (fun e => h (Or.inr e))).trans (hk1 i (fun e => h (Or.inl e))), Or.inl ⟨hc1, rfl, (if_neg (by decide)).trans hp1, if_pos rfl⟩⟩
  · have hq61 : q ≤ 60 := tOk_q hT1 hp1 (by omega)
    refine x_st (st1 := [.int (-1), .ref a]) rfl ?_
    refine x_putf 8 8 C0 dX2_readManyAsNumber_5 rfl (xup_s _ _ _) hA rfl (by decide) inX2 tyX2_ok nmX2 mF_X2_84 rfl rfl rfl rfl (Nat.le_of_ble_eq_true rfl) ?_
    refine x_w (w1 := (xup w a (.inr (4, txtL a (upd t1 6 (-1)) vb)))) (xup_2 _ _ _ _) ?_
    have hT4 : tOk n (upd t1 6 (-1)) := hT1.up (by decide)
    refine x_aload_n 0 9 C0 dX2_readManyAsNumber_8 rfl rfl rfl ?_
    refine x_getf (v := .int (-1)) 8 12 C0 dX2_readManyAsNumber_9 rfl (xup_s _ _ _) rfl (by decide) inX2 mF_X2_84 rfl ?_
    refine x_if_lt 19 15 C0 dX2_readManyAsNumber_12 rfl (by decide) (fun _ => ?_) (fun q => False.elim (by revert q; decide))
    refine x_iconst (v := 0) 20 C0 dX2_readManyAsNumber_19 rfl (by decide) ?_
    exact x_ireturn C0 dX2_readManyAsNumber_20 rfl rfl (Nat.le_of_ble_eq_true rfl) (Nat.le_of_ble_eq_true rfl) ⟨rfl, _, rfl, hT4, fun i h => (if_neg (fun e => h (Or.inr e))).trans (hk1 i (fun e => h (Or.inl e))), Or.inr ⟨hc1, rfl, (if_neg (by decide)).trans hp1⟩⟩

set_option maxHeartbeats 4000000 in
set_option maxRecDepth 100000 in
theorem e_X2_readManyAsDigit (l : Launch) (hl : l.stackTraces = false) (g : xg_T) (w : xw_T) (sz a n : Nat) (tt : Nat → Int32) (vb : Option Nat) (sg : Nat → Int32) (hw : w a = some (.inr (4, txtL a tt vb))) (hs : w (a + 1) = some (siE g sg)) (hA : xA g a) (hT : tOk n tt) (hv : vbOk g vb) (q : Nat) (hq : tt 1 = nI q) (hq60 : q ≤ 60) : xM l g yX2_readManyAsDigit cX2_readManyAsDigit 1 (some .boolean) ({ frames := 2, cells := 0, slots := 0, locals := 42 }) 0 0 [.ref a] w sz (tX g w sz a n tt vb (fun i => i = 1 ∨ i = 6) (fun r tt' => (dgt n sg q ∧ r = some (.int 1) ∧ tt' 1 = nI (q + 1) ∧ tt' 6 = nI (dv n sg q)) ∨ (¬ dgt n sg q ∧ r = some (.int 0) ∧ tt' 1 = nI q))) (fun _ _ _ => False) := by
  refine xM.of RX2 hl (by decide +kernel) rfl (Nat.le_of_ble_eq_true rfl) rfl ?_
  intro p e s m args below meth cD C0 hini
  refine x_aload_n 0 1 C0 dX2_readManyAsDigit_0 rfl rfl rfl ?_
  refine x_aload_n 0 2 C0 dX2_readManyAsDigit_1 rfl rfl rfl ?_
  refine x_callV 5 C0 (e_X2_readDigit l hl g _ _ a _ _ _ _ hw hs hA hT hv q hq hq60) dX2_readManyAsDigit_2 rfl mC_X2_readDigit mM_X2_69 mI_X2_readDigit mV_X2_readDigit mN_X2 yd_X2_readDigit rfl rfl ⟨Nat.le_of_ble_eq_true rfl, Nat.le_of_ble_eq_true rfl⟩ hw rfl rfl rfl rfl (Nat.le_of_ble_eq_true rfl) ⟨Nat.le_of_ble_eq_true rfl, Nat.le_of_ble_eq_true rfl⟩ (fun _ _ _ q => False.elim q) (fun r w1 sz1 hz hP => ?_)
  obtain ⟨rfl, t1, rfl, hT1, hk1, hQ1⟩ := hP
  rcases hQ1 with ⟨hc1, rfl, hp1⟩ | ⟨hc1, rfl, hp1⟩
  · have hq61 : q + 1 ≤ 60 := tOk_q hT1 hp1 (by omega)
    refine x_st (st1 := [.int (nI (dv n sg q)), .ref a]) rfl ?_
    refine x_putf 8 8 C0 dX2_readManyAsDigit_5 rfl (xup_s _ _ _) hA rfl (by decide) inX2 tyX2_ok nmX2 mF_X2_84 rfl rfl rfl rfl (Nat.le_of_ble_eq_true rfl) ?_
    refine x_w (w1 := (xup w a (.inr (4, txtL a (upd t1 6 (nI (dv n sg q))) vb)))) (xup_2 _ _ _ _) ?_
    have hT2 : tOk n (upd t1 6 (nI (dv n sg q))) := hT1.up (by decide)
    refine x_aload_n 0 9 C0 dX2_readManyAsDigit_8 rfl rfl rfl ?_
    refine x_getf (v := .int (nI (dv n sg q))) 8 12 C0 dX2_readManyAsDigit_9 rfl (xup_s _ _ _) rfl (by decide) inX2 mF_X2_84 rfl ?_
    refine x_if_lt 19 15 C0 dX2_readManyAsDigit_12 rfl (by decide) (fun c3 => ?_) (fun c3 => ?_)
    · exact absurd c3 (Int32.not_lt.mpr (nI_pos' (by have := dv_ok (by assumption : dgt n sg q); omega)))
    refine x_iconst (v := 1) 16 C0 dX2_readManyAsDigit_15 rfl (by decide) ?_
    refine x_goto 20 C0 dX2_readManyAsDigit_16 (by decide) ?_
    exact x_ireturn C0 dX2_readManyAsDigit_20 rfl rfl (Nat.le_of_ble_eq_true rfl) (Nat.le_of_ble_eq_true rfl) ⟨rfl, _, rfl, hT2, fun i h => (if_neg (fun e => h (Or.inr e))).trans (hk1 i (fun e => h (Or.inl e))), Or.inl ⟨hc1, rfl, (if_neg (by decide)).trans hp1, if_pos rfl⟩⟩
  · have hq61 : q ≤ 60 := tOk_q hT1 hp1 (by omega)
    refine x_st (st1 := [.int (-1), .ref a]) rfl ?_
    refine x_putf 8 8 C0 dX2_readManyAsDigit_5 rfl (xup_s _ _ _) hA rfl (by decide) inX2 tyX2_ok nmX2 mF_X2_84 rfl rfl rfl rfl (Nat.le_of_ble_eq_true rfl) ?_
    refine x_w (w1 := (xup w a (.inr (4, txtL a (upd t1 6 (-1)) vb)))) (xup_2 _ _ _ _) ?_
    have hT4 : tOk n (upd t1 6 (-1)) := hT1.up (by decide)
    refine x_aload_n 0 9 C0 dX2_readManyAsDigit_8 rfl rfl rfl ?_
    refine x_getf (v := .int (-1)) 8 12 C0 dX2_readManyAsDigit_9 rfl (xup_s _ _ _) rfl (by decide) inX2 mF_X2_84 rfl ?_
    refine x_if_lt 19 15 C0 dX2_readManyAsDigit_12 rfl (by decide) (fun _ => ?_) (fun q => False.elim (by revert q; decide))
    refine x_iconst (v := 0) 20 C0 dX2_readManyAsDigit_19 rfl (by decide) ?_
    exact x_ireturn C0 dX2_readManyAsDigit_20 rfl rfl (Nat.le_of_ble_eq_true rfl) (Nat.le_of_ble_eq_true rfl) ⟨rfl, _, rfl, hT4, fun i h => (if_neg (fun e => h (Or.inr e))).trans (hk1 i (fun e => h (Or.inl e))), Or.inr ⟨hc1, rfl, (if_neg (by decide)).trans hp1⟩⟩

