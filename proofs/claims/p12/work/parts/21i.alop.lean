/-! ONE COMMAND, ON BOTH SIDES: what the reference does with a command's numbers -/
def DOES (W A B K D : Nat) (t v : Nat → Int32) (r : Option Value) (t' v' : Nat → Int32) : Prop :=
  (W = 0 ∧ R_X8_linesChest t v (nI A) r t' v') ∨ (W = 1 ∧ R_X8_fills t v (nI A) (nI B) (nI K) (nI D) r t' v') ∨
  (W = 2 ∧ R_X8_screws t v (nI A) (nI B) r t' v') ∨ (W = 3 ∧ R_X8_labels t v (nI A) r t' v') ∨
  (W = 4 ∧ R_X8_goesOut t v (nI A) r t' v') ∨ (W = 5 ∧ R_X8_loads t v (nI A) r t' v') ∨
  (W = 6 ∧ R_X8_sails t v r t' v') ∨ (W = 7 ∧ R_X8_passes t v (nI A) r t' v')
def tArg (W A B K D : Nat) (tt : Nat → Int32) : Prop := (¬ W = 6 → ¬ W = 7 → tt 3 = nI A) ∧ (W = 7 → tt 6 = nI A) ∧ (W = 2 → tt 6 = nI B) ∧ (W = 1 → tt 4 = nI B ∧ tt 6 = nI D ∧ tt 5 = nI K)
section DOESS
variable {A B K D : Nat} {t v t' v' : Nat → Int32} {r : Option Value}
theorem DOES.w0 (h : DOES 0 A B K D t v r t' v') : R_X8_linesChest t v (nI A) r t' v' := by
  rcases h with ⟨e, h⟩ | ⟨e, h⟩ | ⟨e, h⟩ | ⟨e, h⟩ | ⟨e, h⟩ | ⟨e, h⟩ | ⟨e, h⟩ | ⟨e, h⟩ <;> first | exact h | exact absurd e (by decide)
theorem DOES.w1 (h : DOES 1 A B K D t v r t' v') : R_X8_fills t v (nI A) (nI B) (nI K) (nI D) r t' v' := by
  rcases h with ⟨e, h⟩ | ⟨e, h⟩ | ⟨e, h⟩ | ⟨e, h⟩ | ⟨e, h⟩ | ⟨e, h⟩ | ⟨e, h⟩ | ⟨e, h⟩ <;> first | exact h | exact absurd e (by decide)
theorem DOES.w2 (h : DOES 2 A B K D t v r t' v') : R_X8_screws t v (nI A) (nI B) r t' v' := by
  rcases h with ⟨e, h⟩ | ⟨e, h⟩ | ⟨e, h⟩ | ⟨e, h⟩ | ⟨e, h⟩ | ⟨e, h⟩ | ⟨e, h⟩ | ⟨e, h⟩ <;> first | exact h | exact absurd e (by decide)
theorem DOES.w3 (h : DOES 3 A B K D t v r t' v') : R_X8_labels t v (nI A) r t' v' := by
  rcases h with ⟨e, h⟩ | ⟨e, h⟩ | ⟨e, h⟩ | ⟨e, h⟩ | ⟨e, h⟩ | ⟨e, h⟩ | ⟨e, h⟩ | ⟨e, h⟩ <;> first | exact h | exact absurd e (by decide)
theorem DOES.w4 (h : DOES 4 A B K D t v r t' v') : R_X8_goesOut t v (nI A) r t' v' := by
  rcases h with ⟨e, h⟩ | ⟨e, h⟩ | ⟨e, h⟩ | ⟨e, h⟩ | ⟨e, h⟩ | ⟨e, h⟩ | ⟨e, h⟩ | ⟨e, h⟩ <;> first | exact h | exact absurd e (by decide)
theorem DOES.w5 (h : DOES 5 A B K D t v r t' v') : R_X8_loads t v (nI A) r t' v' := by
  rcases h with ⟨e, h⟩ | ⟨e, h⟩ | ⟨e, h⟩ | ⟨e, h⟩ | ⟨e, h⟩ | ⟨e, h⟩ | ⟨e, h⟩ | ⟨e, h⟩ <;> first | exact h | exact absurd e (by decide)
theorem DOES.w6 (h : DOES 6 A B K D t v r t' v') : R_X8_sails t v r t' v' := by
  rcases h with ⟨e, h⟩ | ⟨e, h⟩ | ⟨e, h⟩ | ⟨e, h⟩ | ⟨e, h⟩ | ⟨e, h⟩ | ⟨e, h⟩ | ⟨e, h⟩ <;> first | exact h | exact absurd e (by decide)
theorem DOES.w7 (h : DOES 7 A B K D t v r t' v') : R_X8_passes t v (nI A) r t' v' := by
  rcases h with ⟨e, h⟩ | ⟨e, h⟩ | ⟨e, h⟩ | ⟨e, h⟩ | ⟨e, h⟩ | ⟨e, h⟩ | ⟨e, h⟩ | ⟨e, h⟩ <;> first | exact h | exact absurd e (by decide)
end DOESS
/-- the class's command came to its end, with the reference's -/
def coY (g : xg_T) (w1 : xw_T) (sz1 : Nat) (x0 : Nat → Int32) (ln : Nat → Nat) (lf : Nat → Nat → Int32) (W A B K D : Nat) (x1 : Nat → Int32) (l1 : Nat → Nat) : Prop := ∃ (ln' : Nat → Nat) (lf' : Nat → Nat → Int32), (∀ k, k < 20 → xTx g w1 sz1 (l1 k) (ln' k) (lf' k)) ∧ ∀ v tm rm tm' v', alk x0 v → lbl ln lf x0 v → DOES W A B K D tm v rm tm' v' → tm 1 = 0 → tm' 1 = 0 ∧ alk x1 v' ∧ lbl ln' lf' x1 v'
def coN (x0 : Nat → Int32) (ln : Nat → Nat) (lf : Nat → Nat → Int32) (W A B K D : Nat) : Prop := ∀ v tm rm tm' v', alk x0 v → lbl ln lf x0 v → DOES W A B K D tm v rm tm' v' → tm 1 = 0 → ¬ tm' 1 = 0
theorem not0 {z : Int32} (h : z = 1 ∨ z = 2 ∨ z = 3) : ¬ z = 0 := by
  rcases h with rfl | rfl | rfl <;> decide
theorem int1 {b : Int32} (h : some (Value.int b) = some (.int 1)) : b = 1 := Value.int.inj (Option.some.inj h)
theorem int0 {b : Int32} (h : some (Value.int b) = some (.int 0)) : b = 0 := Value.int.inj (Option.some.inj h)
set_option maxHeartbeats 4000000 in
theorem co_eq {g : xg_T} {w1 : xw_T} {sz1 : Nat} {x x' : Nat → Nat → Int32} {la la' : Nat → Nat → Nat} {t t' tt : Nat → Int32} {ln : Nat → Nat} {lf : Nat → Nat → Int32} {W A B K D : Nat} {r : Option Value} (hx : hok (x 0)) (hL : ∀ k, k < 20 → xTx g w1 sz1 (la 0 k) (ln k) (lf k)) (hD : L_X7_carryOutRead g w1 sz1 x la t tt ln lf W r x' la' t') (ha : tArg W A B K D tt) (hA9 : A < 100) (hB9 : B < 10) (hK9 : K < 3) (hD9 : D < 100) (hW : W < 8) :
    (∀ i, i ≠ 0 → x' i = x i ∧ la' i = la i) ∧ t' = t ∧ ((r = some (.int 1) ∧ coY g w1 sz1 (x 0) ln lf W A B K D (x' 0) (la' 0)) ∨ (r = some (.int 0) ∧ coN (x 0) ln lf W A B K D)) := by
  obtain ⟨a3, a7, a2, a1⟩ := ha
  have up1 : ∀ (z : Nat → Int32) (l : Nat → Nat), ∀ i, i ≠ 0 → va_up x 0 z i = x i ∧ va_up la 0 l i = la i := fun z l i hi => ⟨va_up_ne _ _ hi, va_up_ne _ _ hi⟩
  have idn : ∀ i : Nat, i ≠ 0 → x i = x i ∧ la i = la i := fun _ _ => ⟨rfl, rfl⟩
  have nA : ∀ k : Nat, k < 20 → nI A = nI k → A = k := fun k hk e => (nI_eq (by omega) (by omega)).mp e
  rcases hD with ⟨k, x6, x5, la6, b, e3, hm, hk, rfl, rfl, rfl, ht, rfl, rfl, rfl, rfl⟩ | ⟨k, e3, hm, hk, rfl, hlf, rfl, rfl, rfl, rfl⟩ | ⟨k, x6, x5, la6, l5, b, e3, hm, hk, rfl, hlf, hpo, rfl, rfl, hf, hb, rfl, rfl, rfl, rfl⟩ | ⟨k, x6, x5, la6, l5, b, e3, hm, hk, rfl, hlf, hpo, rfl, rfl, hf, hb, rfl, rfl, rfl, rfl⟩ | ⟨k, e3, hm, hk, rfl, hlf, hpo, rfl, rfl, rfl, rfl⟩ | ⟨k, x6, x5, la6, b, e3, hm, hk, rfl, hpo, rfl, rfl, ht, hb, rfl, rfl, rfl, rfl⟩ | ⟨k, x6, x5, la6, b, e3, hm, hk, rfl, hpo, rfl, rfl, ht, hb, rfl, rfl, rfl, rfl⟩ | ⟨k, e3, hm, hk, rfl, hpo, rfl, rfl, rfl, rfl⟩ | ⟨k, b, xb, lb, e3, hm, hk, rfl, hlb, rfl, rfl, rfl, rfl⟩ | ⟨k, x6, x5, la6, b, e3, hm, hk, rfl, rfl, rfl, ht, rfl, rfl, rfl, rfl⟩ | ⟨k, x6, x5, la6, b, e3, hm, hk, rfl, rfl, rfl, ht, rfl, rfl, rfl, rfl⟩ | ⟨h6, h7, hc, rfl, rfl, rfl, rfl⟩ | ⟨nh, x6, la6, h6, rfl, hr7, e7, hn7, rfl, rfl, rfl, rfl, rfl, rfl⟩ | ⟨h6, rfl, hr7, rfl, rfl, rfl, rfl⟩ | ⟨x6, x5, la6, b, rfl, rfl, rfl, ht, rfl, rfl, rfl, rfl⟩
  · -- line
    obtain rfl := nA k hk ((a3 (by decide) (by decide)).symm.trans e3)
    refine ⟨up1 _ _, rfl, ?_⟩
    rw [va_up_self, va_up_self]
    rcases ht with ⟨hO, hb, rfl⟩ | ⟨hO, hb, hr⟩
    · refine Or.inl ⟨hb, ln, lf, hL, fun v tm rm tm' v' hA hB hd h0 => ?_⟩
      rcases line_eq hA hx hm hk hd.w0 with ⟨-, q1, -, q2, q3⟩ | ⟨q, -⟩
      · exact ⟨q1.trans h0, q2, hB.same q3⟩
      · exact absurd hO q
    · refine Or.inr ⟨hb, fun v tm rm tm' v' hA hB hd h0 => ?_⟩
      rcases line_eq hA hx hm hk hd.w0 with ⟨q, -⟩ | ⟨-, q⟩
      · exact absurd q hO
      · exact not0 (Or.inr (Or.inr q))
  · -- no such leaf
    refine ⟨idn, rfl, Or.inr ⟨rfl, fun v tm rm tm' v' hA hB hd h0 => not0 (Or.inl ((fill_bad hA hd.w1).2.1 (fun q => ?_)))⟩⟩
    rw [(a1 rfl).1, (a1 rfl).2.2, q] at hlf
    exact absurd hlf (by decide)
  · -- fill refused
    obtain rfl := nA k hk ((a3 (by decide) (by decide)).symm.trans e3)
    obtain ⟨b4, b6, b5⟩ := a1 rfl
    rw [b4, b5] at hlf
    rw [b6] at hpo
    rw [b4, b5, b6] at hf
    refine ⟨up1 _ _, rfl, Or.inr ⟨rfl, fun v tm rm tm' v' hA hB hd h0 => ?_⟩⟩
    rcases hf with ⟨-, q, -⟩ | ⟨hO, -⟩
    · rw [int1 q] at hb
      exact absurd hb (by decide)
    · rcases fill_eq hA hx hm hk hlf hpo hd.w1 with ⟨q, -⟩ | ⟨-, q⟩
      · exact absurd q hO
      · exact not0 (Or.inr (Or.inr q))
  · -- filled
    obtain rfl := nA k hk ((a3 (by decide) (by decide)).symm.trans e3)
    obtain ⟨b4, b6, b5⟩ := a1 rfl
    rw [b4, b5] at hlf
    rw [b6] at hpo
    rw [b4, b5, b6] at hf
    refine ⟨up1 _ _, rfl, ?_⟩
    rw [va_up_self, va_up_self]
    rcases hf with ⟨hO, -, rfl, rfl⟩ | ⟨-, q, -⟩
    · refine Or.inl ⟨rfl, va_up ln A 0, lf, fun k2 hk2 => ?_, fun v tm rm tm' v' hA hB hd h0 => ?_⟩
      · by_cases e : k2 = A
        · subst e
          rw [va_up_self, va_up_self]
          exact xTx.empty
        · rw [va_up_ne _ _ e, va_up_ne _ _ e]
          exact hL k2 hk2
      · rcases fill_eq hA hx hm hk hlf hpo hd.w1 with ⟨-, q1, -, q2, q3, q4, q5⟩ | ⟨q, -⟩
        · exact ⟨q1.trans h0, q2, hB.drop q4 q3 q5⟩
        · exact absurd hO q
    · exact absurd (int0 q) hb
  · -- too many pounds
    obtain ⟨b4, b6, b5⟩ := a1 rfl
    rw [b4, b5] at hlf
    rw [b6] at hpo
    refine ⟨idn, rfl, Or.inr ⟨rfl, fun v tm rm tm' v' hA hB hd h0 => not0 (Or.inr (Or.inl ((fill_bad hA hd.w1).2.2 k hk ((a3 (by decide) (by decide)).symm.trans e3) hm hlf hpo)))⟩⟩
  · -- screw refused
    obtain rfl := nA k hk ((a3 (by decide) (by decide)).symm.trans e3)
    rw [a2 rfl] at hpo ht
    refine ⟨up1 _ _, rfl, Or.inr ⟨rfl, fun v tm rm tm' v' hA hB hd h0 => ?_⟩⟩
    rcases ht with ⟨-, q, -⟩ | ⟨hO, -⟩
    · rw [int1 q] at hb
      exact absurd hb (by decide)
    · rcases screw_eq hA hx hm hk hpo hd.w2 with ⟨q, -⟩ | ⟨-, q⟩
      · exact absurd q hO
      · exact not0 (Or.inr (Or.inr q))
  · -- screwed
    obtain rfl := nA k hk ((a3 (by decide) (by decide)).symm.trans e3)
    rw [a2 rfl] at hpo ht
    refine ⟨up1 _ _, rfl, ?_⟩
    rw [va_up_self, va_up_self]
    rcases ht with ⟨hO, -, rfl⟩ | ⟨-, q, -⟩
    · refine Or.inl ⟨rfl, ln, lf, hL, fun v tm rm tm' v' hA hB hd h0 => ?_⟩
      rcases screw_eq hA hx hm hk hpo hd.w2 with ⟨-, q1, -, q2, q3⟩ | ⟨q, -⟩
      · exact ⟨q1.trans h0, q2, hB.same q3⟩
      · exact absurd hO q
    · exact absurd (int0 q) hb
  · -- too many screws
    rw [a2 rfl] at hpo
    refine ⟨idn, rfl, Or.inr ⟨rfl, fun v tm rm tm' v' hA hB hd h0 => not0 (Or.inr (Or.inl ((screw_bad hA hd.w2).2 k hk ((a3 (by decide) (by decide)).symm.trans e3) hm hpo)))⟩⟩
  · -- label
    obtain rfl := nA k hk ((a3 (by decide) (by decide)).symm.trans e3)
    rcases hlb with ⟨hO, rfl, rfl, a, rfl, hT⟩ | ⟨hO, rfl, x9, hr, rfl, rfl⟩
    · refine ⟨up1 _ _, rfl, ?_⟩
      rw [va_up_self, va_up_self]
      refine Or.inl ⟨rfl, va_up ln A (labLen (x 0) A), va_up lf A (labTxt (x 0) A), fun k2 hk2 => ?_, fun v tm rm tm' v' hA hB hd h0 => ?_⟩
      · by_cases e : k2 = A
        · subst e
          rw [va_up_self, va_up_self, va_up_self]
          exact hT
        · rw [va_up_ne _ _ e, va_up_ne _ _ e, va_up_ne _ _ e]
          exact hL k2 hk2
      · rcases label_eq hA hx hm hk hd.w3 with ⟨-, q1, q2⟩ | ⟨q, -⟩
        · rw [q2]
          exact ⟨q1.trans h0, hA.lab, hB.mark hm hO.2⟩
        · exact absurd hO q
    · refine ⟨up1 _ _, rfl, Or.inr ⟨rfl, fun v tm rm tm' v' hA hB hd h0 => ?_⟩⟩
      rcases label_eq hA hx hm hk hd.w3 with ⟨q, -⟩ | ⟨-, q⟩
      · exact absurd q hO
      · exact not0 (Or.inr (Or.inr q))
  · -- quay
    obtain rfl := nA k hk ((a3 (by decide) (by decide)).symm.trans e3)
    refine ⟨up1 _ _, rfl, ?_⟩
    rw [va_up_self, va_up_self]
    rcases ht with ⟨hO, hb, rfl⟩ | ⟨hO, hb, hr⟩
    · refine Or.inl ⟨hb, ln, lf, hL, fun v tm rm tm' v' hA hB hd h0 => ?_⟩
      rcases quay_eq hA hx hm hk (hB.ne hm hk) hd.w4 with ⟨-, q1, -, q2, q3⟩ | ⟨q, -⟩
      · exact ⟨q1.trans h0, q2, hB.same q3⟩
      · exact absurd hO q
    · refine Or.inr ⟨hb, fun v tm rm tm' v' hA hB hd h0 => ?_⟩
      rcases quay_eq hA hx hm hk (hB.ne hm hk) hd.w4 with ⟨q, -⟩ | ⟨-, q⟩
      · exact absurd q hO
      · exact not0 (Or.inr (Or.inr q))
  · -- load
    obtain rfl := nA k hk ((a3 (by decide) (by decide)).symm.trans e3)
    refine ⟨up1 _ _, rfl, ?_⟩
    rw [va_up_self, va_up_self]
    rcases ht with ⟨hO, hb, rfl⟩ | ⟨hO, hb, hr⟩
    · refine Or.inl ⟨hb, ln, lf, hL, fun v tm rm tm' v' hA hB hd h0 => ?_⟩
      rcases load_eq hA hm hk hd.w5 with ⟨-, q1, -, q2, q3⟩ | ⟨q, -⟩
      · exact ⟨q1.trans h0, q2, hB.same q3⟩
      · exact absurd hO q
    · refine Or.inr ⟨hb, fun v tm rm tm' v' hA hB hd h0 => ?_⟩
      rcases load_eq hA hm hk hd.w5 with ⟨q, -⟩ | ⟨-, q⟩
      · exact absurd q hO
      · exact not0 (Or.inr (Or.inr q))
  · -- no such chest
    rw [a3 h6 h7] at hc
    refine ⟨idn, rfl, Or.inr ⟨rfl, fun v tm rm tm' v' hA hB hd h0 => ?_⟩⟩
    rcases (show W = 0 ∨ W = 1 ∨ W = 2 ∨ W = 3 ∨ W = 4 ∨ W = 5 by omega) with rfl | rfl | rfl | rfl | rfl | rfl
    · exact not0 (Or.inl (line_bad hA hc hd.w0))
    · exact not0 (Or.inl ((fill_bad hA hd.w1).1 hc))
    · exact not0 (Or.inl ((screw_bad hA hd.w2).1 hc))
    · exact not0 (Or.inl (label_bad hA hc hd.w3))
    · exact not0 (Or.inl (quay_bad hA hc hd.w4))
    · exact not0 (Or.inl (load_bad hA hc hd.w5))
  · -- hours
    have eA : A = nh := (nI_eq (by omega) (by omega)).mp ((a7 rfl).symm.trans e7)
    subst eA
    refine ⟨up1 _ _, rfl, Or.inl ⟨rfl, ln, lf, ?_, fun v tm rm tm' v' hA hB hd h0 => ?_⟩⟩
    · rw [va_up_self]
      exact hL
    · rw [va_up_self]
      have h1 : 1 ≤ A := by
        have := hr7.1
        rw [e7] at this
        exact (nI_leI (a := 1) (by omega) (by omega)).mp this
      obtain ⟨q1, -, q2, q3⟩ := pass_eq hA hx hn7 h1 hd.w7
      exact ⟨q1.trans h0, q2, hB.same q3⟩
  · -- too many hours
    rw [a7 rfl] at hr7
    exact ⟨idn, rfl, Or.inr ⟨rfl, fun v tm rm tm' v' hA hB hd h0 => not0 (Or.inr (Or.inl (pass_bad hr7 hd.w7)))⟩⟩
  · -- sail
    refine ⟨up1 _ _, rfl, ?_⟩
    rw [va_up_self, va_up_self]
    rcases ht with ⟨hO, hb, rfl⟩ | ⟨hO, hb, hr⟩
    · refine Or.inl ⟨hb, ln, lf, hL, fun v tm rm tm' v' hA hB hd h0 => ?_⟩
      rcases sail_eq hA hd.w6 with ⟨-, q1, -, q2, q3⟩ | ⟨q, -⟩
      · exact ⟨q1.trans h0, q2, hB.same q3⟩
      · exact absurd hO q
    · refine Or.inr ⟨hb, fun v tm rm tm' v' hA hB hd h0 => ?_⟩
      rcases sail_eq hA hd.w6 with ⟨q, -⟩ | ⟨-, q⟩
      · exact absurd q hO
      · exact not0 (Or.inr (Or.inr q))
