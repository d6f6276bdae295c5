/-! READS WITH LOOPS, ON BOTH SIDES -/
/-! the tide, hour by hour -/
def wC (w c : Int32) : Int32 := if w = 0 then 1 else if w = 6 then -1 else c
def wS : Nat → Int32 × Int32
  | 0 => (6, -1)
  | n + 1 => ((wS n).1 + wC (wS n).1 (wS n).2, wC (wS n).1 (wS n).2)
theorem wS_s {i : Nat} {wa chg c9 : Int32} (hw : wa = (wS i).1) (hg : chg = (wS i).2) (hc : wC wa chg = c9) : wa + c9 = (wS (i + 1)).1 ∧ c9 = (wS (i + 1)).2 := by
  subst hc hw hg
  exact ⟨rfl, rfl⟩
theorem wS_13 : ∀ n, wS (n + 13) = wS (n + 1) := by
  intro n
  induction n with
  | zero => decide
  | succ n ih =>
    show ((wS (n + 13)).1 + wC (wS (n + 13)).1 (wS (n + 13)).2, wC (wS (n + 13)).1 (wS (n + 13)).2) = _
    rw [ih]
    rfl
theorem wS_r (r : Nat) : ∀ q, wS (12 * q + r + 1) = wS (r + 1) := by
  intro q
  induction q with
  | zero => rw [show 12 * 0 + r + 1 = r + 1 by omega]
  | succ q ih => rw [show 12 * (q + 1) + r + 1 = 12 * q + r + 13 by omega, wS_13, ih]
def hg9 (y : Int32) : Int32 := if 6 - y < 0 then -(6 - y) else 6 - y
theorem wS_f : ∀ r, r < 12 → (wS (r + 1)).1 = hg9 (nI ((r + 1) % 12)) := by decide
theorem hgt_wS {n : Nat} (hn : n < 2 ^ 31) : hgt (nI n) = (wS n).1 := by
  have e : nI n - nI n / 12 * 12 = nI (n % 12) := pk_rem (d := 12) hn (by omega) (by omega)
  have e2 : hgt (nI n) = hg9 (nI (n % 12)) := by
    show (if 6 - (nI n - nI n / 12 * 12) < 0 then -(6 - (nI n - nI n / 12 * 12)) else 6 - (nI n - nI n / 12 * 12)) = _
    rw [e]
    rfl
  rw [e2]
  cases n with
  | zero => decide
  | succ m =>
    have h := wS_r (m % 12) (m / 12)
    rw [show 12 * (m / 12) + m % 12 + 1 = m + 1 by omega] at h
    rw [h, wS_f (m % 12) (by omega), show (m % 12 + 1) % 12 = (m + 1) % 12 by omega]
theorem wa_end {hr : Int32} {i : Nat} {wa : Int32} (hi : i < 2 ^ 31) (hle : i ≤ hr.toInt.toNat) (hw : wa = (wS i).1) (c : hr ≤ nI i) : some (Value.int wa) = some (.int (wS hr.toInt.toNat).1) := by
  have h := Int32.le_iff_toInt_le.mp c
  rw [nI_toInt hi] at h
  rw [hw, show i = hr.toInt.toNat by omega]
def L_X7_heightAgain (g : xg_T) (x : Nat → Nat → Int32) (la : Nat → Nat → Nat) (t : Nat → Int32) (hs : Int32) (r : Option Value) (x' : Nat → Nat → Int32) (la' : Nat → Nat → Nat) (t' : Nat → Int32) : Prop :=
  ((0 ≤ hs ∧ hs ≤ 99) ∧ (r = some (.int (wS (x 0 0 + hs).toInt.toNat).1)) ∧ (x' = x) ∧ (la' = la) ∧ (t' = t))
def E_X7_heightAgain (g : xg_T) (x : Nat → Nat → Int32) (la : Nat → Nat → Nat) (t : Nat → Int32) (hs : Int32) (E : String) (x' : Nat → Nat → Int32) (la' : Nat → Nat → Nat) (t' : Nat → Int32) : Prop :=
  ((E = "java/lang/IllegalArgumentException") ∧ (¬ (0 ≤ hs ∧ hs ≤ 99)) ∧ (x' = x) ∧ (la' = la) ∧ (t' = t))
set_option maxHeartbeats 4000000 in
set_option maxRecDepth 100000 in
theorem e_X7_heightAgain (l : Launch) (hl : l.stackTraces = false) (g : xg_T) (w : xw_T) (sz n : Nat) (x : Nat → Nat → Int32) (la : Nat → Nat → Nat) (t tt : Nat → Int32) (vb : Option Nat) (sg : Nat → Int32) (hC : CR g w sz n x la t tt vb sg) (hs : Int32) : xM l g yX7_heightAgain cX7_heightAgain 6 (some .int) ({ frames := 7, cells := 8, slots := 64, locals := 104 }) 8 64 [.ref (g.2 0), .int hs] w sz (cQ g w sz n tt vb sg (fun r x' la' t' => L_X7_heightAgain g x la t hs r x' la' t')) (cE g w sz n tt vb sg (fun E x' la' t' => E_X7_heightAgain g x la t hs E x' la' t')) := by
  have hz9 := hC.zz
  refine xM.of RX7 hl (by decide +kernel) rfl (Nat.le_of_ble_eq_true rfl) rfl ?_
  intro p e s m args below meth cD C0 hini
  refine x_iload_n 1 1 C0 dX7_heightAgain_0 rfl rfl rfl ?_
  refine x_iconst (v := 0) 2 C0 dX7_heightAgain_1 rfl (by decide) ?_
  refine x_bipush (v := 99) 4 C0 dX7_heightAgain_2 rfl (by decide) ?_
  refine x_callS 7 C0 (k_X7_needRange l hl g _ _ hs 0 99) dX7_heightAgain_4 rfl mC_X7_needRange mM_X7_41 mS_X7_needRange mN_X7 yd_X7_needRange rfl rfl ⟨Nat.le_of_ble_eq_true rfl, Nat.le_of_ble_eq_true rfl⟩ rfl rfl (Nat.le_of_ble_eq_true rfl) ⟨Nat.le_of_ble_eq_true rfl, Nat.le_of_ble_eq_true rfl⟩ (fun E9 w9 sz9 q => by obtain ⟨rfl, rfl, h9, hno9⟩ := q; exact x_out C0 rfl (Nat.le_of_ble_eq_true rfl) (Nat.le_of_ble_eq_true rfl) ⟨xFr.rf, by omega, _, _, _, hC.grow h9, ⟨rfl, hno9, rfl, rfl, rfl⟩⟩) (fun r w1 sz1 hz hP => ?_)
  obtain ⟨rfl, h19, h59, rfl, rfl⟩ := hP
  refine x_st (st1 := []) rfl ?_
  refine x_aload_n 0 8 C0 dX7_heightAgain_7 rfl rfl rfl ?_
  refine x_getf (v := .ref (g.2 0 + 1)) 0 11 C0 dX7_heightAgain_8 rfl hC.1.1 rfl (by decide) inX7 mF_X7_10 rfl ?_
  refine x_getf (v := .int (x 0 0)) 5 14 C0 dX7_heightAgain_11 rfl (HR.ho hC.h0) rfl (by decide) inX4 mF_X7_201 rfl ?_
  refine x_iload_n 1 15 C0 dX7_heightAgain_14 rfl rfl rfl ?_
  refine x_iadd 16 C0 dX7_heightAgain_15 rfl ?_
  obtain ⟨hr, ehr⟩ : ∃ y : Int32, y = (x 0 0) + hs := ⟨_, rfl⟩
  refine x_st (st1 := [.int hr]) (by rw [ehr]) ?_
  refine x_istore_n [(2, .int hr), (0, .ref (g.2 0)), (1, .int hs)] 17 C0 dX7_heightAgain_16 rfl rfl (by decide) rfl ?_
  refine x_lv (lv1 := [(0, .ref (g.2 0)), (1, .int hs), (2, .int hr)]) [1, 2, 0] rfl ?_
  refine x_bipush (v := 6) 19 C0 dX7_heightAgain_17 rfl (by decide) ?_
  refine x_istore_n [(3, .int 6), (0, .ref (g.2 0)), (1, .int hs), (2, .int hr)] 20 C0 dX7_heightAgain_19 rfl rfl (by decide) rfl ?_
  refine x_lv (lv1 := [(0, .ref (g.2 0)), (1, .int hs), (2, .int hr), (3, .int 6)]) [1, 2, 3, 0] rfl ?_
  refine x_iconst (v := (-1)) 21 C0 dX7_heightAgain_20 rfl (by decide) ?_
  refine x_istore [(4, .int (-1)), (0, .ref (g.2 0)), (1, .int hs), (2, .int hr), (3, .int 6)] 23 C0 dX7_heightAgain_21 rfl (by decide) rfl ?_
  refine x_lv (lv1 := [(0, .ref (g.2 0)), (1, .int hs), (2, .int hr), (3, .int 6), (4, .int (-1))]) [1, 2, 3, 4, 0] rfl ?_
  refine x_iconst (v := 0) 24 C0 dX7_heightAgain_23 rfl (by decide) ?_
  refine x_istore [(5, .int 0), (0, .ref (g.2 0)), (1, .int hs), (2, .int hr), (3, .int 6), (4, .int (-1))] 26 C0 dX7_heightAgain_24 rfl (by decide) rfl ?_
  refine x_lv (lv1 := [(0, .ref (g.2 0)), (1, .int hs), (2, .int hr), (3, .int 6), (4, .int (-1)), (5, .int 0)]) [1, 2, 3, 4, 5, 0] rfl ?_
  have loop26 : ∀ (N i : Nat) (wa chg : Int32), i < 2 ^ 31 → hr.toInt - i < N → i ≤ hr.toInt.toNat → wa = (wS i).1 → chg = (wS i).2 → xV p l e ({ frames := 7, cells := 8, slots := 64, locals := 104 }) s m args below meth cD (xQ g below (cQ g w sz n tt vb sg (fun r x' la' t' => L_X7_heightAgain g x la t hs r x' la' t')) (cE g w sz n tt vb sg (fun E x' la' t' => E_X7_heightAgain g x la t hs E x' la' t')) args s 8 64) g 6 w sz (0 + 1) (0 + 6) 26 [(0, .ref (g.2 0)), (1, .int hs), (2, .int hr), (3, .int wa), (4, .int chg), (5, .int (nI i))] [] := by
    intro N
    induction N with
    | zero =>
      intro i wa chg hi hN hle hw hg
      refine x_iload 5 28 C0 dX7_heightAgain_26 rfl rfl ?_
      refine x_iload_n 2 29 C0 dX7_heightAgain_28 rfl rfl rfl ?_
      refine x_icmp_ge 62 32 C0 dX7_heightAgain_29 rfl (by decide) (fun c1 => ?_) (fun c1 => ?_)
      · refine x_iload_n 3 63 C0 dX7_heightAgain_62 rfl rfl rfl ?_
        exact x_ireturn C0 dX7_heightAgain_63 rfl rfl (Nat.le_of_ble_eq_true rfl) (Nat.le_of_ble_eq_true rfl) ⟨⟨_, rfl⟩, xFr.rf, by omega, _, _, _, hC, ⟨⟨h19, h59⟩, by rw [← ehr]; exact wa_end hi hle hw c1, rfl, rfl, rfl⟩⟩
      · have hi2 := lt_nat hi c1
        have hi3 := Int32.toInt_lt hr
        exfalso
        omega
    | succ N ih =>
      intro i wa chg hi hN hle hw hg
      refine x_iload 5 28 C0 dX7_heightAgain_26 rfl rfl ?_
      refine x_iload_n 2 29 C0 dX7_heightAgain_28 rfl rfl rfl ?_
      refine x_icmp_ge 62 32 C0 dX7_heightAgain_29 rfl (by decide) (fun c2 => ?_) (fun c2 => ?_)
      · refine x_iload_n 3 63 C0 dX7_heightAgain_62 rfl rfl rfl ?_
        exact x_ireturn C0 dX7_heightAgain_63 rfl rfl (Nat.le_of_ble_eq_true rfl) (Nat.le_of_ble_eq_true rfl) ⟨⟨_, rfl⟩, xFr.rf, by omega, _, _, _, hC, ⟨⟨h19, h59⟩, by rw [← ehr]; exact wa_end hi hle hw c2, rfl, rfl, rfl⟩⟩
      · have hi2 := lt_nat hi c2
        have hi3 := Int32.toInt_lt hr
        refine x_iload_n 3 33 C0 dX7_heightAgain_32 rfl rfl rfl ?_
        refine x_if_ne 42 36 C0 dX7_heightAgain_33 rfl (by decide) (fun c3 => ?_) (fun c3 => ?_)
        · refine x_iload_n 3 43 C0 dX7_heightAgain_42 rfl rfl rfl ?_
          refine x_bipush (v := 6) 45 C0 dX7_heightAgain_43 rfl (by decide) ?_
          refine x_icmp_ne 51 48 C0 dX7_heightAgain_45 rfl (by decide) (fun c4 => ?_) (fun c4 => ?_)
          · refine x_iload_n 3 52 C0 dX7_heightAgain_51 rfl rfl rfl ?_
            refine x_iload 4 54 C0 dX7_heightAgain_52 rfl rfl ?_
            refine x_iadd 55 C0 dX7_heightAgain_54 rfl ?_
            refine x_istore_n [(3, .int (wa + chg)), (0, .ref (g.2 0)), (1, .int hs), (2, .int hr), (4, .int chg), (5, .int (nI i))] 56 C0 dX7_heightAgain_55 rfl rfl (by decide) rfl ?_
            refine x_lv (lv1 := [(0, .ref (g.2 0)), (1, .int hs), (2, .int hr), (3, .int (wa + chg)), (4, .int chg), (5, .int (nI i))]) [1, 2, 3, 0, 4, 5] rfl ?_
            refine x_iinc [(5, .int (nI (i + 1))), (0, .ref (g.2 0)), (1, .int hs), (2, .int hr), (3, .int (wa + chg)), (4, .int chg)] 5 59 C0 dX7_heightAgain_56 rfl rfl (nI_1 i) (by decide) rfl ?_
            refine x_lv (lv1 := [(0, .ref (g.2 0)), (1, .int hs), (2, .int hr), (3, .int (wa + chg)), (4, .int chg), (5, .int (nI (i + 1)))]) [1, 2, 3, 4, 5, 0] rfl ?_
            refine x_goto 26 C0 dX7_heightAgain_59 (by decide) ?_
            exact x_lv [0, 1, 2, 3, 4, 5] rfl (ih (i + 1) _ _ (by omega) (by omega) (by omega) (wS_s hw hg (by unfold wC; rw [if_neg c3, if_neg c4])).1 (wS_s hw hg (by unfold wC; rw [if_neg c3, if_neg c4])).2)
          · refine x_iconst (v := (-1)) 49 C0 dX7_heightAgain_48 rfl (by decide) ?_
            refine x_istore [(4, .int (-1)), (0, .ref (g.2 0)), (1, .int hs), (2, .int hr), (3, .int wa), (5, .int (nI i))] 51 C0 dX7_heightAgain_49 rfl (by decide) rfl ?_
            refine x_lv (lv1 := [(0, .ref (g.2 0)), (1, .int hs), (2, .int hr), (3, .int wa), (4, .int (-1)), (5, .int (nI i))]) [1, 2, 3, 4, 0, 5] rfl ?_
            refine x_iload_n 3 52 C0 dX7_heightAgain_51 rfl rfl rfl ?_
            refine x_iload 4 54 C0 dX7_heightAgain_52 rfl rfl ?_
            refine x_iadd 55 C0 dX7_heightAgain_54 rfl ?_
            refine x_istore_n [(3, .int (wa + (-1))), (0, .ref (g.2 0)), (1, .int hs), (2, .int hr), (4, .int (-1)), (5, .int (nI i))] 56 C0 dX7_heightAgain_55 rfl rfl (by decide) rfl ?_
            refine x_lv (lv1 := [(0, .ref (g.2 0)), (1, .int hs), (2, .int hr), (3, .int (wa + (-1))), (4, .int (-1)), (5, .int (nI i))]) [1, 2, 3, 0, 4, 5] rfl ?_
            refine x_iinc [(5, .int (nI (i + 1))), (0, .ref (g.2 0)), (1, .int hs), (2, .int hr), (3, .int (wa + (-1))), (4, .int (-1))] 5 59 C0 dX7_heightAgain_56 rfl rfl (nI_1 i) (by decide) rfl ?_
            refine x_lv (lv1 := [(0, .ref (g.2 0)), (1, .int hs), (2, .int hr), (3, .int (wa + (-1))), (4, .int (-1)), (5, .int (nI (i + 1)))]) [1, 2, 3, 4, 5, 0] rfl ?_
            refine x_goto 26 C0 dX7_heightAgain_59 (by decide) ?_
            exact x_lv [0, 1, 2, 3, 4, 5] rfl (ih (i + 1) _ _ (by omega) (by omega) (by omega) (wS_s hw hg (by unfold wC; rw [if_neg c3, if_pos c4])).1 (wS_s hw hg (by unfold wC; rw [if_neg c3, if_pos c4])).2)
        · refine x_iconst (v := 1) 37 C0 dX7_heightAgain_36 rfl (by decide) ?_
          refine x_istore [(4, .int 1), (0, .ref (g.2 0)), (1, .int hs), (2, .int hr), (3, .int wa), (5, .int (nI i))] 39 C0 dX7_heightAgain_37 rfl (by decide) rfl ?_
          refine x_lv (lv1 := [(0, .ref (g.2 0)), (1, .int hs), (2, .int hr), (3, .int wa), (4, .int 1), (5, .int (nI i))]) [1, 2, 3, 4, 0, 5] rfl ?_
          refine x_goto 51 C0 dX7_heightAgain_39 (by decide) ?_
          refine x_iload_n 3 52 C0 dX7_heightAgain_51 rfl rfl rfl ?_
          refine x_iload 4 54 C0 dX7_heightAgain_52 rfl rfl ?_
          refine x_iadd 55 C0 dX7_heightAgain_54 rfl ?_
          refine x_istore_n [(3, .int (wa + 1)), (0, .ref (g.2 0)), (1, .int hs), (2, .int hr), (4, .int 1), (5, .int (nI i))] 56 C0 dX7_heightAgain_55 rfl rfl (by decide) rfl ?_
          refine x_lv (lv1 := [(0, .ref (g.2 0)), (1, .int hs), (2, .int hr), (3, .int (wa + 1)), (4, .int 1), (5, .int (nI i))]) [1, 2, 3, 0, 4, 5] rfl ?_
          refine x_iinc [(5, .int (nI (i + 1))), (0, .ref (g.2 0)), (1, .int hs), (2, .int hr), (3, .int (wa + 1)), (4, .int 1)] 5 59 C0 dX7_heightAgain_56 rfl rfl (nI_1 i) (by decide) rfl ?_
          refine x_lv (lv1 := [(0, .ref (g.2 0)), (1, .int hs), (2, .int hr), (3, .int (wa + 1)), (4, .int 1), (5, .int (nI (i + 1)))]) [1, 2, 3, 4, 5, 0] rfl ?_
          refine x_goto 26 C0 dX7_heightAgain_59 (by decide) ?_
          exact x_lv [0, 1, 2, 3, 4, 5] rfl (ih (i + 1) _ _ (by omega) (by omega) (by omega) (wS_s hw hg (by unfold wC; rw [if_pos c3])).1 (wS_s hw hg (by unfold wC; rw [if_pos c3])).2)
  exact x_lv [0, 1, 2, 3, 4, 5] rfl (loop26 (hr.toInt.toNat + 1) 0 _ _ (by omega) (by omega) (Nat.zero_le _) rfl rfl)

section RHA
variable {g : xg_T} {x x' : Nat → Nat → Int32} {la la' : Nat → Nat → Nat} {t t' v tm tm0 sv pa : Nat → Int32} {r rm : Option Value} {E : String} {z : Int32} {n B : Nat} {ln : Nat → Nat} {lf : Nat → Nat → Int32}
theorem st_heightAgain {hs : Int32} (h : L_X7_heightAgain g x la t hs r x' la' t') : x' = x ∧ la' = la ∧ t' = t := h.2.2
theorem sx_heightAgain {hs : Int32} (h : E_X7_heightAgain g x la t hs E x' la' t') : x' = x ∧ la' = la ∧ t' = t := h.2.2
theorem kc_heightAgain {hs : Int32} (hE : E_X7_heightAgain g x la t hs E x' la' t') : ¬ kc [("java/lang/IllegalArgumentException", 1)] E = 0 := by
  obtain ⟨rfl, -⟩ := hE
  decide +kernel
theorem rd_heightAgain_y (hs : Int32) (hA : hAl (x 0) ln lf v) (hI : KI (4320 * B) tm0 v sv pa) (hB : B ≤ 512) (hQ : Q_X8_heightAgain n tm v hs rm z) (hL : L_X7_heightAgain g x la t hs r x' la' t') : r = rm ∧ z = 0 := by
  obtain ⟨hp, rfl, -⟩ := hL
  obtain ⟨c, hc, e0⟩ := hI.1.1
  obtain ⟨h, h9, rfl⟩ := nI_of2 (M := 99) (n := 99) rfl (Int32.not_lt.mpr hp.1) hp.2
  obtain ⟨a1, t1, hq, hz, rfl⟩ := hQ
  rcases hq with ⟨-, q1, q2⟩ | ⟨q, -⟩
  · refine ⟨?_, hz.trans q1⟩
    rw [q2, ← hA.1.at (q := 0) (by omega), e0, nI_add, nI_toInt (by omega), Int.toNat_natCast, hgt_wS (by omega)]
  · exact absurd hp q
theorem rd_heightAgain_n (hs : Int32) (_ : hAl (x 0) ln lf v) (_ : KI (4320 * B) tm0 v sv pa) (_ : B ≤ 512) (hQ : Q_X8_heightAgain n tm v hs rm z) (hE : E_X7_heightAgain g x la t hs E x' la' t') : z = kc [("java/lang/IllegalArgumentException", 1)] E := by
  obtain ⟨rfl, hp, -⟩ := hE
  obtain ⟨a1, t1, hq, hz, -⟩ := hQ
  rcases hq with ⟨q, -⟩ | ⟨-, q1, -⟩
  · exact absurd q hp
  · exact (hz.trans q1).trans (by decide +kernel)
end RHA
