/-! BUY, UNDO, SAVE, RESTORE, PERFORM, ON BOTH SIDES -/
section CALLS2
variable {g : xg_T} {w1 : xw_T} {sz1 : Nat} {x x' : Nat → Nat → Int32} {la la' : Nat → Nat → Nat} {t t' tm tm' v v' sv sv' pa pa' : Nat → Int32} {LN : Nat → Nat → Nat} {LF : Nat → Nat → Nat → Int32} {c0 : Nat} {r rm : Option Value} {E : String}
theorem al_buy_y (sc mn : Int32) (hA : AL x t LN LF c0 tm v sv pa) (hT : TX g w1 sz1 la LN LF) (hc : c0 < 2 ^ 30) (h7 : tm' 7 = tm 7) (hP : (¬ sc = 0 ∧ cP tm v pa (R_X8_buys (upd (upd tm 0 0) 1 0) v 2 mn) 0 1 0 rm tm' v' pa') ∨ (sc = 0 ∧ cP tm v pa (R_X8_buys (upd (upd tm 0 0) 1 0) v 1 mn) 0 1 0 rm tm' v' pa')) (hL : L_X7_buy g x la t sc mn r x' la' t') : r = rm ∧ tm' 0 = 0 ∧ aft g w1 sz1 x' la' t' (c0 + 1) tm' v' sv pa' := by
  rcases hL with ⟨x1, la1, t4, x4, la4, hp, hj, rfl, hs, rfl, rfl, rfl, rfl, rfl, rfl⟩ | ⟨x1, la1, t4, x4, la4, hp, hj, rfl, hs, rfl, rfl, rfl, rfl, rfl, rfl⟩
  · have hj : pRow x la t _ _ := hj
    have e0 := hj.e0
    obtain ⟨-, hP⟩ := hP.resolve_left (fun q => q.1 hs)
    obtain ⟨⟨a, t1, v1, hrm, hX⟩, hz, hf⟩ := (hj.yes (g := g) (w1 := w1) (sz1 := sz1) (x2 := upd (x1 0) 1 (lo200 (x1 0 1 + mn))) (l2 := la1 0) hc hA.h1 rfl rfl rfl).alike hA hT hc h7 hP (fun a t1 v1 hX => by
      rw [e0.1, e0.2]
      obtain ⟨q1, q2, q3, q4⟩ := buy_eq hA.1.1 (Or.inl rfl) hp hX
      exact ⟨q1.trans rfl, LN 0, LF 0, hT 0 (by omega), q3, hA.1.2.same q4⟩)
    refine ⟨?_, hz, hf⟩
    rw [hrm, va_up_self, e0.1]
    exact (buy_eq hA.1.1 (Or.inl rfl) hp hX).2.1.symm
  · have hj : pRow x la t _ _ := hj
    have e0 := hj.e0
    obtain ⟨-, hP⟩ := hP.resolve_right (fun q => hs q.1)
    obtain ⟨⟨a, t1, v1, hrm, hX⟩, hz, hf⟩ := (hj.yes (g := g) (w1 := w1) (sz1 := sz1) (x2 := upd (x1 0) 2 (lo200 (x1 0 2 + mn))) (l2 := la1 0) hc hA.h1 rfl rfl rfl).alike hA hT hc h7 hP (fun a t1 v1 hX => by
      rw [e0.1, e0.2]
      obtain ⟨q1, q2, q3, q4⟩ := buy_eq hA.1.1 (Or.inr rfl) hp hX
      exact ⟨q1.trans rfl, LN 0, LF 0, hT 0 (by omega), q3, hA.1.2.same q4⟩)
    refine ⟨?_, hz, hf⟩
    rw [hrm, va_up_self, e0.1]
    exact (buy_eq hA.1.1 (Or.inr rfl) hp hX).2.1.symm
theorem al_buy_n (sc mn : Int32) (hA : AL x t LN LF c0 tm v sv pa) (hT : TX g w1 sz1 la LN LF) (h7 : tm' 7 = tm 7) (hP : (¬ sc = 0 ∧ cP tm v pa (R_X8_buys (upd (upd tm 0 0) 1 0) v 2 mn) 0 1 0 rm tm' v' pa') ∨ (sc = 0 ∧ cP tm v pa (R_X8_buys (upd (upd tm 0 0) 1 0) v 1 mn) 0 1 0 rm tm' v' pa')) (hE : E_X7_buy g x la t sc mn E x' la' t') : tm' 0 = kc [("java/lang/IllegalArgumentException", 1)] E ∧ aft g w1 sz1 x' la' t' (c0 + 1) tm' v' sv pa' := by
  obtain ⟨rfl, hp, rfl, rfl, rfl⟩ := hE
  rcases hP with ⟨-, hP⟩ | ⟨-, hP⟩
  · obtain ⟨q1, q2⟩ := kNo.id.c2 hA hT h7 hP (fun a t1 v1 hX => buy_bad hp hX)
    exact ⟨q1.trans (by decide +kernel), q2⟩
  · obtain ⟨q1, q2⟩ := kNo.id.c2 hA hT h7 hP (fun a t1 v1 hX => buy_bad hp hX)
    exact ⟨q1.trans (by decide +kernel), q2⟩
/-- the reference's undo, save, restore -/
def uP (tm v pa : Nat → Int32) (rm : Option Value) (tm' v' : Nat → Int32) : Prop := (tm 2 = 0 ∧ tm' 0 = 1 ∧ rm = some (.int 0) ∧ v' = v ∧ tm' 2 = tm 2) ∨ (∃ c : Nat, c < 8 ∧ tm 2 - 1 = nI c ∧ tm' 0 = 0 ∧ tm' 2 = nI c ∧ rm = some (.int (nI c)) ∧ ∀ j, j < 208 → v' j = pa (c * 208 + j))
theorem al_undo_y (hA : AL x t LN LF c0 tm v sv pa) (hT : TX g w1 sz1 la LN LF) (hc : c0 < 2 ^ 30) (h7 : tm' 7 = tm 7) (hP : uP tm v pa rm tm' v') (hL : L_X7_undo g x la t r x' la' t') : r = rm ∧ tm' 0 = 0 ∧ aft g w1 sz1 x' la' t' (c0 + 1) tm' v' sv pa := by
  obtain ⟨b1, x1, la1, t1, hd, hb, rfl, rfl, rfl, rfl⟩ := hL
  obtain ⟨h20, -, rfl, j, -, hj, rfl, rfl⟩ := hd.resolve_left (fun q => hb (int0 q.2.1))
  obtain ⟨a1, ⟨a2, a3⟩, a4, h, h8, hc0, e2, em2, hrow⟩ := hA
  have h1 : 1 ≤ h := by
    rcases Nat.eq_zero_or_pos h with rfl | z
    · exact absurd e2 h20
    · exact z
  obtain ⟨m, rfl⟩ : ∃ m, h = m + 1 := ⟨h - 1, by omega⟩
  obtain ⟨c, rfl⟩ : ∃ c, c0 = c + 1 := ⟨c0 - 1, by omega⟩
  have e1 : t 1 - 1 = nI c := by rw [a4]; exact nI_pred c
  have e3 : t 2 - 1 = nI m := by rw [e2]; exact nI_pred m
  obtain rfl := hj c (by omega) e1
  rcases hP with ⟨q, -⟩ | ⟨c2, hc2, q1, q2, q3, q4, q5⟩
  · rw [em2] at q
    exact absurd q (nI_ne0 (by omega) (by omega))
  obtain rfl : c2 = m := by
    rw [em2] at q1
    exact (nI_eq (by omega) (by omega)).mp (q1.symm.trans (nI_pred m))
  refine ⟨?_, q2, c, va_up LN 0 (LN (c % 9 + 2)), va_up LF 0 (LF (c % 9 + 2)), by omega, hT.up (fun k hk => hT _ (by omega) k hk), ?_, ⟨(if_neg (by decide)).trans ((if_neg (by decide)).trans (a2.trans h7.symm)), fun z => ?_⟩, (if_pos rfl).trans e1, c2, by omega, by omega, (if_neg (by decide)).trans ((if_pos rfl).trans e3), q3, fun i hi => ?_⟩
  · rw [q4]
    exact congrArg (fun z => some (Value.int z)) ((if_neg (by decide)).trans ((if_pos rfl).trans e3))
  · rw [va_up_self, va_up_self, va_up_self]
    have e : rw9 (c + 1) (c2 + 1) c2 = c % 9 + 2 := by
      unfold rw9
      rw [show c + 1 - (c2 + 1) + c2 = c by omega]
      omega
    have := hrow c2 (by omega)
    rw [e] at this
    refine this.cong (fun q hq => cpX_in hq) (fun q hq => ?_)
    rw [q5 q hq, show c2 * 208 + q = 208 * c2 + q by omega]
  · rw [h7] at z
    rw [va_up_ne _ _ (by decide), va_up_ne _ _ (by decide), va_up_ne _ _ (by decide)]
    exact a3 z
  · have e : rw9 c c2 i = rw9 (c + 1) (c2 + 1) i := by
      unfold rw9
      rw [show c + 1 - (c2 + 1) + i = c - c2 + i by omega]
    have h0 : rw9 (c + 1) (c2 + 1) i ≠ 0 := by
      unfold rw9
      omega
    rw [e, va_up_ne _ _ h0, va_up_ne _ _ h0, va_up_ne _ _ h0]
    exact hrow i (by omega)
theorem al_undo_n (hA : AL x t LN LF c0 tm v sv pa) (hT : TX g w1 sz1 la LN LF) (h7 : tm' 7 = tm 7) (hP : uP tm v pa rm tm' v') (hE : E_X7_undo g x la t E x' la' t') : tm' 0 = kc [("java/lang/IllegalStateException", 1)] E ∧ aft g w1 sz1 x' la' t' (c0 + 1) tm' v' sv pa := by
  obtain ⟨b1, x1, la1, t1, hd, hb, rfl, rfl, rfl, rfl⟩ := hE
  obtain ⟨h20, -, rfl, rfl, rfl⟩ := hd.resolve_right (fun q => absurd (int1 q.2.1 ▸ hb) (by decide))
  obtain ⟨a1, a23, a4, h, h8, hc0, e2, em2, hrow⟩ := hA
  have hh : h = 0 := (nI_eq (b := 0) (by omega) (by omega)).mp (e2.symm.trans h20)
  subst hh
  rcases hP with ⟨-, q1, -, q2, q3⟩ | ⟨c2, hc2, q1, -⟩
  · subst q2
    exact ⟨q1.trans (by decide +kernel), c0, LN, LF, by omega, hT, a1, ⟨a23.1.trans h7.symm, fun z => a23.2 (by rw [← h7]; exact z)⟩, a4, 0, by omega, by omega, e2, q3.trans em2, fun i hi => absurd hi (Nat.not_lt_zero i)⟩
  · rw [em2] at q1
    exact absurd q1 (fun z => by
      have h2 := congrArg Int32.toInt z
      rw [nI_toInt (by omega)] at h2
      have h3 : (nI 0 - 1).toInt = -1 := by decide
      rw [h3] at h2
      omega)
theorem al_save (hA : AL x t LN LF c0 tm v sv pa) (hT : TX g w1 sz1 la LN LF) (h7 : tm' 7 = 1) (h2 : tm' 2 = tm 2) (hrm : rm = some (.int (v 0))) (hs : ∀ j, j < 208 → sv' j = v j) (hL : L_X7_save g x la t r x' la' t') : r = rm ∧ aft g w1 sz1 x' la' t' (c0 + 1) tm' v sv' pa := by
  obtain ⟨x2, la2, t4, rfl, rfl, rfl, rfl, rfl, rfl, rfl⟩ := hL
  obtain ⟨a1, a23, a4, h, h8, hc0, e2, em2, hrow⟩ := hA
  refine ⟨?_, c0, va_up LN 1 (LN 0), va_up LF 1 (LF 0), by omega, hT.up (fun k hk => hT 0 (by omega) k hk), ?_, ⟨(if_pos rfl).trans h7.symm, fun _ => ?_⟩, (if_neg (by decide)).trans a4, h, h8, hc0, (if_neg (by decide)).trans e2, h2.trans em2, fun i hi => ?_⟩
  · rw [hrm, va_up_ne _ _ (by decide), a1.1.at (by omega)]
  · rw [va_up_ne _ _ (by decide), va_up_ne _ _ (by decide), va_up_ne _ _ (by decide)]
    exact a1
  · rw [va_up_self, va_up_self, va_up_self]
    exact a1.cong (fun q hq => cpX_in hq) hs
  · have h0 : rw9 c0 h i ≠ 1 := by
      unfold rw9
      omega
    rw [va_up_ne _ _ h0, va_up_ne _ _ h0, va_up_ne _ _ h0]
    exact hrow i hi
def reP (tm v sv : Nat → Int32) (rm : Option Value) (tm' v' : Nat → Int32) : Prop := (tm 7 = 0 ∧ tm' 0 = 1 ∧ rm = some (.int 0) ∧ v' = v ∧ tm' 2 = tm 2) ∨ (¬ tm 7 = 0 ∧ tm' 0 = 0 ∧ tm' 2 = 0 ∧ (∀ j, j < 208 → v' j = sv j) ∧ rm = some (.int (v' 0)))
theorem al_restore_y (hA : AL x t LN LF c0 tm v sv pa) (hT : TX g w1 sz1 la LN LF) (h7 : tm' 7 = tm 7) (hP : reP tm v sv rm tm' v') (hL : L_X7_restore g x la t r x' la' t') : r = rm ∧ tm' 0 = 0 ∧ aft g w1 sz1 x' la' t' (c0 + 1) tm' v' sv pa := by
  obtain ⟨x3, la3, t4, h0, rfl, rfl, rfl, rfl, rfl, rfl, rfl⟩ := hL
  obtain ⟨a1, ⟨a2, a3⟩, a4, h, h8, hc0, e2, em2, hrow⟩ := hA
  rcases hP with ⟨q, -⟩ | ⟨q0, q1, q2, q3, q4⟩
  · exact absurd (a2.trans q) h0
  have hs := a3 q0
  refine ⟨?_, q1, c0, va_up LN 0 (LN 1), va_up LF 0 (LF 1), by omega, hT.up (fun k hk => hT 1 (by omega) k hk), ?_, ⟨(if_neg (by decide)).trans (a2.trans h7.symm), fun _ => ?_⟩, (if_neg (by decide)).trans a4, 0, by omega, by omega, if_pos rfl, q2, fun i hi => absurd hi (Nat.not_lt_zero i)⟩
  · rw [q4, va_up_self, q3 0 (by omega), hs.1.at (by omega)]
    rfl
  · rw [va_up_self, va_up_self, va_up_self]
    exact hs.cong (fun q hq => cpX_in hq) q3
  · rw [va_up_ne _ _ (by decide), va_up_ne _ _ (by decide), va_up_ne _ _ (by decide)]
    exact hs
theorem al_restore_n (hA : AL x t LN LF c0 tm v sv pa) (hT : TX g w1 sz1 la LN LF) (h7 : tm' 7 = tm 7) (hP : reP tm v sv rm tm' v') (hE : E_X7_restore g x la t E x' la' t') : tm' 0 = kc [("java/lang/IllegalStateException", 1)] E ∧ aft g w1 sz1 x' la' t' (c0 + 1) tm' v' sv pa := by
  obtain ⟨h0, rfl, rfl, rfl, rfl⟩ := hE
  obtain ⟨a1, ⟨a2, a3⟩, a4, h, h8, hc0, e2, em2, hrow⟩ := hA
  rcases hP with ⟨-, q1, -, q2, q3⟩ | ⟨q, -⟩
  · subst q2
    exact ⟨q1.trans (by decide +kernel), c0, LN, LF, by omega, hT, a1, ⟨a2.trans h7.symm, fun z => a3 (by rw [← h7]; exact z)⟩, a4, h, h8, hc0, e2, q3.trans em2, hrow⟩
  · exact absurd (a2.symm.trans h0) q
/-- the same text breaks off, or ends, at one place -/
theorem ctE_uq {n : Nat} {sg : Nat → Int32} {e e' : Nat} (h : ctE n sg e) (h' : ctE n sg e') : e = e' := by
  obtain ⟨i, g1, b1, -, he⟩ := h
  obtain ⟨i', g2, b2, -, he'⟩ := h'
  have bad : ∀ {a : Nat}, kG n sg a → ((cRes n sg (kP n sg a)).1 = false ∨ (¬ (cRes n sg (kP n sg a)).2 = n ∧ ¬ sgn n sg (cRes n sg (kP n sg a)).2 = 59)) → False := fun hg hb => by
    rcases hb with q | q
    · rw [hg.1] at q
      exact absurd q (by decide)
    · exact q.2 hg.2
  rcases Nat.lt_or_ge i i' with z | z
  · exact (bad (g2 i z) b1).elim
  · rcases Nat.lt_or_ge i' i with y | y
    · exact (bad (g1 i' y) b2).elim
    · have e9 : i = i' := Nat.le_antisymm y z
      rw [e9] at he
      exact he.trans he'.symm
theorem ctN_no {n : Nat} {sg : Nat → Int32} (hn : n ≤ 60) {N e : Nat} (h : ctN n sg N) (h' : ctE n sg e) : False := by
  obtain ⟨-, g1, o1, e1⟩ := h
  obtain ⟨i, g2, b2, -, -⟩ := h'
  rcases Nat.lt_or_ge i N with z | z
  · rcases b2 with q | q
    · rw [(g1 i z).1] at q
      exact absurd q (by decide)
    · exact q.2 (g1 i z).2
  · rcases Nat.lt_or_ge N i with y | y
    · have := (g2 N y).2
      rw [e1, sgn_ge (by omega) hn (Nat.le_refl _)] at this
      exact absurd this (by decide)
    · have e : i = N := by omega
      subst e
      rcases b2 with q | q
      · rw [o1] at q
        exact absurd q (by decide)
      · exact q.1 e1
theorem ctN_uq {n : Nat} {sg : Nat → Int32} (hn : n ≤ 60) {N N' : Nat} (h : ctN n sg N) (h' : ctN n sg N') : N = N' := by
  obtain ⟨-, g1, o1, e1⟩ := h
  obtain ⟨-, g2, o2, e2⟩ := h'
  have no : sgn n sg n = 59 → False := fun q => by
    rw [sgn_ge (by omega) hn (Nat.le_refl _)] at q
    exact absurd q (by decide)
  rcases Nat.lt_or_ge N N' with z | z
  · have := (g2 N z).2
    rw [e1] at this
    exact (no this).elim
  · rcases Nat.lt_or_ge N' N with y | y
    · have := (g1 N' y).2
      rw [e2] at this
      exact (no this).elim
    · omega
theorem SEQ_at {n : Nat} {sg v0 : Nat → Int32} : ∀ {m : Nat} {v : Nat → Int32}, SEQ n sg v0 m v → ∀ q, q < m → ∃ u t r t' u', SEQ n sg v0 q u ∧ DOI n sg q t u r t' u' ∧ t 1 = 0 ∧ t' 1 = 0 := by
  intro m
  induction m with
  | zero => intro v _ q hq; exact absurd hq (Nat.not_lt_zero q)
  | succ m ih =>
    intro v h q hq
    obtain ⟨u, t, r, t', h1, h2, h3, h4⟩ := h
    rcases Nat.lt_or_ge q m with z | z
    · exact ih h1 q z
    · obtain rfl : q = m := by omega
      exact ⟨u, t, r, t', v, h1, h2, h3, h4⟩
theorem al_perform_y {w : xw_T} {sz n : Nat} {sg : Nat → Int32} (hn : n ≤ 60) (hA : AL x t LN LF c0 tm v sv pa) (hT : TX g w1 sz1 la LN LF) (hc : c0 < 2 ^ 30) (h7 : tm' 7 = tm 7)
    (hL : (∃ e : Nat, e ≤ 60 ∧ ctE n sg e ∧ r = some (.int (-100 - nI e)) ∧ x' = x ∧ la' = la ∧ t' = t) ∨ ∃ N : Nat, ctN n sg N ∧ r = some (.int (nI (N + 1))) ∧ (∀ j, j < N + 1 → OKI n sg v j) ∧ (∃ ln lf, ALI g w1 sz1 n sg v (N + 1) x' la' ln lf) ∧ t' = tC t ∧ ∀ i, i ≠ 0 → x' i = va_up x (c0 % 9 + 2) (cpX (x (c0 % 9 + 2)) (x 0)) i ∧ la' i = va_up la (c0 % 9 + 2) (la 0) i)
    (hP : (∃ e : Nat, e ≤ 60 ∧ ctE n sg e ∧ rm = some (.int (-100 - nI e)) ∧ tm' 0 = 0 ∧ tm' 2 = tm 2 ∧ v' = v ∧ pa' = pa) ∨ ∃ (N : Nat) (t1 v1 bf : Nat → Int32) (z : Int32), ctN n sg N ∧ (∀ j, j < 208 → bf j = v j) ∧ t1 2 = tm 2 ∧ t1 0 = 0 ∧ endP t1 v1 bf pa z 0 0 1 rm tm' v' pa' ∧ ((t1 1 = 0 ∧ z = nI (N + 1) ∧ SEQ n sg v (N + 1) v1) ∨ (t1 1 = 3 ∧ ∃ (q : Nat) (u tm : Nat → Int32) (rm : Option Value) (tm' u' : Nat → Int32), q ≤ N ∧ SEQ n sg v q u ∧ DOI n sg q tm u rm tm' u' ∧ tm 1 = 0 ∧ ¬ tm' 1 = 0))) : r = rm ∧ tm' 0 = 0 ∧ aft g w1 sz1 x' la' t' (c0 + 1) tm' v' sv pa' := by
  rcases hL with ⟨e, -, hE, rfl, rfl, rfl, rfl⟩ | ⟨N, hN, rfl, hok, ⟨ln, lf, hal⟩, ht, hrow⟩
  · rcases hP with ⟨e2, -, hE2, rfl, q1, q2, rfl, rfl⟩ | ⟨N2, t1, v1, bf, z, hN2, -⟩
    · rw [ctE_uq hE hE2]
      exact ⟨rfl, q1, c0, LN, LF, by omega, hT, AL.no hA (fun _ _ => rfl) (fun _ _ _ => rfl) (fun _ _ => ⟨rfl, rfl⟩) rfl (fun _ _ => rfl) rfl q2 h7⟩
    · exact (ctN_no hn hN2 hE).elim
  · rcases hP with ⟨e2, -, hE2, -⟩ | ⟨N2, t1, v1, bf, z, hN2, hbf, k2, k0, hE, hd⟩
    · exact (ctN_no hn hN hE2).elim
    · obtain rfl := ctN_uq hn hN hN2
      rcases hd with ⟨h1, rfl, hS⟩ | ⟨-, q, u, tq, rq, tq', u', hq, hS, hD, h0, h0'⟩
      · have hT2 := (hT.up (i := c0 % 9 + 2) (fun k hk => hT 0 (by omega) k hk)).up (i := 0) hal.1
        obtain ⟨r1, r2, r3⟩ := AL.yes (LN' := va_up (va_up LN (c0 % 9 + 2) (LN 0)) 0 ln) (LF' := va_up (va_up LF (c0 % 9 + 2) (LF 0)) 0 lf) hA hc (fun i hi => (hrow i hi).1) (fun i hi => va_up_ne _ _ hi) (fun i hi => va_up_ne _ _ hi) ht (by rw [va_up_self, va_up_self]; exact hal.2 v1 hS) hE h1 hbf k2 k0 h7
        refine ⟨r1.symm, r2, c0 + 1, _, _, Nat.le_refl _, fun i hi k hk => ?_, r3⟩
        have := hT2 i hi k hk
        by_cases e : i = 0
        · subst e
          rw [va_up_self] at this
          exact this
        · rw [(hrow i e).2]
          rw [va_up_ne _ _ e] at this
          exact this
      · exact absurd (hok q (by omega) u tq rq tq' u' hS hD h0) h0'
theorem al_perform_n {n : Nat} {sg : Nat → Int32} (hn : n ≤ 60) (hA : AL x t LN LF c0 tm v sv pa) (hT : TX g w1 sz1 la LN LF) (h7 : tm' 7 = tm 7)
    (hE : E = "java/lang/UnsupportedOperationException") (ht : t' = t) (hL : ∃ N q : Nat, ctN n sg N ∧ q < N + 1 ∧ (∀ j, j < q → OKI n sg v j) ∧ NOI n sg v q ∧ (∀ z, z < 208 → x' 0 z = x 0 z) ∧ la' 0 = la 0 ∧ ∀ i, i ≠ 0 → x' i = va_up x (c0 % 9 + 2) (cpX (x (c0 % 9 + 2)) (x 0)) i ∧ la' i = va_up la (c0 % 9 + 2) (la 0) i)
    (hP : (∃ e : Nat, e ≤ 60 ∧ ctE n sg e ∧ rm = some (.int (-100 - nI e)) ∧ tm' 0 = 0 ∧ tm' 2 = tm 2 ∧ v' = v ∧ pa' = pa) ∨ ∃ (N : Nat) (t1 v1 bf : Nat → Int32) (z : Int32), ctN n sg N ∧ (∀ j, j < 208 → bf j = v j) ∧ t1 2 = tm 2 ∧ t1 0 = 0 ∧ endP t1 v1 bf pa z 0 0 1 rm tm' v' pa' ∧ ((t1 1 = 0 ∧ z = nI (N + 1) ∧ SEQ n sg v (N + 1) v1) ∨ (t1 1 = 3 ∧ ∃ (q : Nat) (u tm : Nat → Int32) (rm : Option Value) (tm' u' : Nat → Int32), q ≤ N ∧ SEQ n sg v q u ∧ DOI n sg q tm u rm tm' u' ∧ tm 1 = 0 ∧ ¬ tm' 1 = 0))) : tm' 0 = kc [("java/lang/UnsupportedOperationException", 1)] E ∧ aft g w1 sz1 x' la' t' (c0 + 1) tm' v' sv pa' := by
  obtain ⟨N, q, hN, hq, hok, hno, hx0, hl0, hrow⟩ := hL
  subst hE
  rcases hP with ⟨e2, -, hE2, -⟩ | ⟨N2, t1, v1, bf, z, hN2, hbf, k2, k0, hE, hd⟩
  · exact (ctN_no hn hN hE2).elim
  · obtain rfl := ctN_uq hn hN hN2
    rcases hd with ⟨h1, -, hS⟩ | ⟨h3, -⟩
    · obtain ⟨u, tq, rq, tq', u', y1, y2, y3, y4⟩ := SEQ_at hS q hq
      exact absurd y4 (hno u tq rq tq' u' y1 y2 y3)
    · obtain ⟨b1, b2, b3, -, -, b4⟩ := endP_no hE (by rw [h3]; decide)
      refine ⟨(b4 h3).trans (by decide +kernel), c0, va_up LN (c0 % 9 + 2) (LN 0), va_up LF (c0 % 9 + 2) (LF 0), by omega, fun i hi k hk => ?_, AL.no hA hx0 (fun i hi hi2 => (hrow i hi).1.trans (va_up_ne _ _ hi2)) (fun i hi => ⟨va_up_ne _ _ hi, va_up_ne _ _ hi⟩) ht (fun j hj => (b1 j hj).trans (hbf j hj)) b2 (b3.trans k2) h7⟩
      by_cases e : i = c0 % 9 + 2
      · subst e
        rw [va_up_self, va_up_self, (hrow _ (by omega)).2, va_up_self]
        exact hT 0 (by omega) k hk
      · rw [va_up_ne _ _ e, va_up_ne _ _ e]
        by_cases e0 : i = 0
        · subst e0
          rw [hl0]
          exact hT 0 hi k hk
        · rw [(hrow i e0).2, va_up_ne _ _ e]
          exact hT i hi k hk
end CALLS2
