/-! ALIKE AS A WHOLE: the houses, what is saved, the history -/
def TX (g : xg_T) (w : xw_T) (sz : Nat) (la : Nat → Nat → Nat) (LN : Nat → Nat → Nat) (LF : Nat → Nat → Nat → Int32) : Prop := ∀ i, i < 11 → ∀ k, k < 20 → xTx g w sz (la i k) (LN i k) (LF i k)
def hAl (x : Nat → Int32) (ln : Nat → Nat) (lf : Nat → Nat → Int32) (v : Nat → Int32) : Prop := alk x v ∧ lbl ln lf x v
def rw9 (c h i : Nat) : Nat := 2 + (c - h + i) % 9
def AL (x : Nat → Nat → Int32) (t : Nat → Int32) (LN : Nat → Nat → Nat) (LF : Nat → Nat → Nat → Int32) (c0 : Nat) (tm v sv pa : Nat → Int32) : Prop :=
  hAl (x 0) (LN 0) (LF 0) v ∧ (t 0 = tm 7 ∧ (¬ tm 7 = 0 → hAl (x 1) (LN 1) (LF 1) sv)) ∧ t 1 = nI c0 ∧ ∃ h : Nat, h ≤ 8 ∧ h ≤ c0 ∧ t 2 = nI h ∧ tm 2 = nI h ∧ ∀ i, i < h → hAl (x (rw9 c0 h i)) (LN (rw9 c0 h i)) (LF (rw9 c0 h i)) (fun q => pa (208 * i + q))
theorem hAl.cong {x x' v v' : Nat → Int32} {ln : Nat → Nat} {lf : Nat → Nat → Int32} (h : hAl x ln lf v) (hx : ∀ q, q < 208 → x' q = x q) (hv : ∀ q, q < 208 → v' q = v q) : hAl x' ln lf v' := ⟨(h.1.cong hx).congV hv, (h.2.cong hx).congV hv⟩
theorem cpX_in {p q : Nat → Int32} {z : Nat} (hz : z < 208) : cpX p q z = q z := (if_neg (by omega)).trans (if_neg (by omega))
theorem TX.go {g : xg_T} {w w1 : xw_T} {sz sz1 : Nat} {la : Nat → Nat → Nat} {LN : Nat → Nat → Nat} {LF : Nat → Nat → Nat → Int32} (h : TX g w sz la LN LF) (hq : xFr g w w1 sz) (hz : sz ≤ sz1) : TX g w1 sz1 la LN LF := fun i hi k hk => (h i hi k hk).go (fun q q1 q2 => hq q (by omega) q2) hz
theorem TX.up {g : xg_T} {w : xw_T} {sz : Nat} {la : Nat → Nat → Nat} {LN : Nat → Nat → Nat} {LF : Nat → Nat → Nat → Int32} (h : TX g w sz la LN LF) {i : Nat} {l : Nat → Nat} {ln : Nat → Nat} {lf : Nat → Nat → Int32} (hl : ∀ k, k < 20 → xTx g w sz (l k) (ln k) (lf k)) : TX g w sz (va_up la i l) (va_up LN i ln) (va_up LF i lf) := by
  intro j hj k hk
  by_cases e : j = i
  · subst e
    rw [va_up_self, va_up_self, va_up_self]
    exact hl k hk
  · rw [va_up_ne _ _ e, va_up_ne _ _ e, va_up_ne _ _ e]
    exact h j hj k hk
def tCC (t : Nat → Int32) : Nat → Int32 := upd (upd t 1 (t 1 + 1)) 2 (if t 2 + 1 < 8 then t 2 + 1 else 8)
section ALS
variable {x x' : Nat → Nat → Int32} {t t' tm tm' t1 v v' v1 sv pa pa' bf : Nat → Int32} {LN LN' : Nat → Nat → Nat} {LF LF' : Nat → Nat → Nat → Int32} {c0 : Nat} {a ja jb jc : Int32} {rm : Option Value}
/-- a change that is kept -/
theorem AL.yes (hA : AL x t LN LF c0 tm v sv pa) (hc : c0 < 2 ^ 30) (hx : ∀ i, i ≠ 0 → x' i = va_up x (c0 % 9 + 2) (cpX (x (c0 % 9 + 2)) (x 0)) i) (hn : ∀ i, i ≠ 0 → LN' i = va_up LN (c0 % 9 + 2) (LN 0) i) (hf : ∀ i, i ≠ 0 → LF' i = va_up LF (c0 % 9 + 2) (LF 0) i) (ht : t' = tCC t) (h0 : hAl (x' 0) (LN' 0) (LF' 0) v1) (hE : endP t1 v1 bf pa a ja jb jc rm tm' v' pa') (h1 : t1 1 = 0) (hbf : ∀ j, j < 208 → bf j = v j) (hK2 : t1 2 = tm 2) (hK0 : t1 0 = 0) (h7 : tm' 7 = tm 7) : rm = some (.int a) ∧ tm' 0 = 0 ∧ AL x' t' LN' LF' (c0 + 1) tm' v' sv pa' := by
  obtain ⟨a1, ⟨a2, a3⟩, a4, h, h8, hc0, e2, em2, hrow⟩ := hA
  rcases hE with ⟨b1, -⟩ | ⟨-, b2, b3, b4, c, c8, b5, b6, b7⟩
  · exact absurd h1 b1
  have hj1 : c0 % 9 + 2 ≠ 1 := by omega
  have t0 : t' 0 = t 0 := by
    rw [ht]
    unfold tCC
    exact (if_neg (by decide)).trans (if_neg (by decide))
  have t1' : t' 1 = nI (c0 + 1) := by
    rw [ht]
    unfold tCC
    refine (if_neg (by decide)).trans ((if_pos rfl).trans ?_)
    rw [a4, nI_1]
  have t2' : t' 2 = nI (if h + 1 < 8 then h + 1 else 8) := by
    rw [ht]
    unfold tCC
    refine (if_pos rfl).trans ?_
    rw [e2, nI_1]
    by_cases z : h + 1 < 8
    · rw [if_pos z]
      exact if_pos (nI_lt (b := 8) z (by omega))
    · rw [if_neg z]
      exact if_neg (fun q => z ((nI_ltI (b := 8) (by omega) (by omega)).mp q))
  have hprep : hAl (x' (c0 % 9 + 2)) (LN' (c0 % 9 + 2)) (LF' (c0 % 9 + 2)) (fun q => pa' (208 * c + q)) := by
    rw [hx _ (by omega), hn _ (by omega), hf _ (by omega), va_up_self, va_up_self, va_up_self]
    refine a1.cong (fun q hq => cpX_in hq) (fun q hq => ?_)
    show pa' (208 * c + q) = v q
    rw [show 208 * c + q = c * 208 + q by omega, b6 q hq, hbf q hq]
  have hkeep : ∀ m, m < 9 → m ≠ c0 % 9 → x' (2 + m) = x (2 + m) ∧ LN' (2 + m) = LN (2 + m) ∧ LF' (2 + m) = LF (2 + m) := fun m hm hne => ⟨(hx _ (by omega)).trans (va_up_ne _ _ (by omega)), (hn _ (by omega)).trans (va_up_ne _ _ (by omega)), (hf _ (by omega)).trans (va_up_ne _ _ (by omega))⟩
  refine ⟨b4, b3.trans hK0, by rw [b2]; exact h0, ⟨t0.trans (a2.trans h7.symm), fun q => ?_⟩, t1', ?_⟩
  · rw [h7] at q
    rw [hx 1 (by decide), hn 1 (by decide), hf 1 (by decide), va_up_ne _ _ (Ne.symm hj1), va_up_ne _ _ (Ne.symm hj1), va_up_ne _ _ (Ne.symm hj1)]
    exact a3 q
  rcases Nat.lt_or_ge h 8 with hl | hl
  · have ec : c = h := by
      rcases b7 with ⟨q, -⟩ | ⟨q, -⟩
      · rw [hK2, em2] at q
        exact ((nI_eq (by omega) (by omega)).mp q).symm
      · rw [hK2, em2] at q
        have := (nI_eq (b := 8) (by omega) (by omega)).mp q
        omega
    subst ec
    have hpa : ∀ q, q < c * 208 → pa' q = pa q := by
      rcases b7 with ⟨-, q⟩ | ⟨q, -⟩
      · exact q
      · rw [hK2, em2] at q
        have := (nI_eq (b := 8) (by omega) (by omega)).mp q
        omega
    refine ⟨c + 1, by omega, by omega, ?_, b5, fun i hi => ?_⟩
    · rw [t2']
      by_cases z : c + 1 < 8
      · rw [if_pos z]
      · rw [if_neg z, show c = 7 by omega]
    · rcases Nat.lt_or_ge i c with z | z
      · have e : rw9 (c0 + 1) (c + 1) i = rw9 c0 c i := by
          unfold rw9
          rw [show c0 + 1 - (c + 1) + i = c0 - c + i by omega]
        rw [e]
        have := hrow i z
        unfold rw9 at this ⊢
        obtain ⟨k1, k2, k3⟩ := hkeep ((c0 - c + i) % 9) (Nat.mod_lt _ (by omega)) (by omega)
        rw [k1, k2, k3]
        exact this.cong (fun _ _ => rfl) (fun q hq => hpa _ (by omega))
      · have ei : i = c := by omega
        subst ei
        have e : rw9 (c0 + 1) (i + 1) i = c0 % 9 + 2 := by
          unfold rw9
          rw [show c0 + 1 - (i + 1) + i = c0 by omega]
          omega
        rw [e]
        exact hprep
  · have eh : h = 8 := by omega
    subst eh
    obtain ⟨ec, hpa⟩ : c = 7 ∧ ∀ q, q < 7 * 208 → pa' q = pa (q + 208) := by
      rcases b7 with ⟨q, -⟩ | ⟨-, q⟩
      · rw [hK2, em2] at q
        have := (nI_eq (a := 8) (by omega) (by omega)).mp q
        omega
      · exact q
    subst ec
    refine ⟨8, by omega, by omega, by rw [t2', if_neg (by omega)], b5, fun i hi => ?_⟩
    rcases Nat.lt_or_ge i 7 with z | z
    · have e : rw9 (c0 + 1) 8 i = rw9 c0 8 (i + 1) := by
        unfold rw9
        rw [show c0 + 1 - 8 + i = c0 - 8 + (i + 1) by omega]
      rw [e]
      have := hrow (i + 1) (by omega)
      unfold rw9 at this ⊢
      obtain ⟨k1, k2, k3⟩ := hkeep ((c0 - 8 + (i + 1)) % 9) (Nat.mod_lt _ (by omega)) (by omega)
      rw [k1, k2, k3]
      refine this.cong (fun _ _ => rfl) (fun q hq => ?_)
      show pa' (208 * i + q) = pa (208 * (i + 1) + q)
      rw [hpa _ (by omega), show 208 * i + q + 208 = 208 * (i + 1) + q by omega]
    · have ei : i = 7 := by omega
      subst ei
      have e : rw9 (c0 + 1) 8 7 = c0 % 9 + 2 := by
        unfold rw9
        rw [show c0 + 1 - 8 + 7 = c0 by omega]
        omega
      rw [e]
      exact hprep
/-- nothing that counts has changed -/
theorem AL.no (hA : AL x t LN LF c0 tm v sv pa) (hx0 : ∀ z, z < 208 → x' 0 z = x 0 z) (hx : ∀ i, i ≠ 0 → i ≠ c0 % 9 + 2 → x' i = x i) (hn : ∀ i, i ≠ c0 % 9 + 2 → LN' i = LN i ∧ LF' i = LF i) (ht : t' = t) (hv : ∀ j, j < 208 → v' j = v j) (hpa : pa' = pa) (h2 : tm' 2 = tm 2) (h7 : tm' 7 = tm 7) : AL x' t' LN' LF' c0 tm' v' sv pa' := by
  obtain ⟨a1, ⟨a2, a3⟩, a4, h, h8, hc0, e2, em2, hrow⟩ := hA
  subst ht hpa
  refine ⟨?_, ⟨by rw [h7]; exact a2, fun q => ?_⟩, a4, h, h8, hc0, e2, h2.trans em2, fun i hi => ?_⟩
  · rw [(hn 0 (by omega)).1, (hn 0 (by omega)).2]
    exact a1.cong hx0 hv
  · rw [h7] at q
    rw [hx 1 (by omega) (by omega), (hn 1 (by omega)).1, (hn 1 (by omega)).2]
    exact a3 q
  · have h9 : rw9 c0 h i ≠ c0 % 9 + 2 := by
      unfold rw9
      omega
    have h90 : rw9 c0 h i ≠ 0 := by
      unfold rw9
      omega
    rw [hx _ h90 h9, (hn _ h9).1, (hn _ h9).2]
    exact hrow i hi
theorem endP_no {t v bf pa : Nat → Int32} {iz ja jb jc : Int32} {r : Option Value} {t' v' pa' : Nat → Int32} (h : endP t v bf pa iz ja jb jc r t' v' pa') (h1 : ¬ t 1 = 0) : (∀ j, j < 208 → v' j = bf j) ∧ pa' = pa ∧ t' 2 = t 2 ∧ (t 1 = 1 → t' 0 = ja) ∧ (t 1 = 2 → t' 0 = jb) ∧ (t 1 = 3 → t' 0 = jc) := by
  rcases h with ⟨-, b1, b2, b3, b4, -⟩ | ⟨b, -⟩
  · refine ⟨b1, b2, b3, fun q => ?_, fun q => ?_, fun q => ?_⟩
    · rcases b4 with ⟨-, z⟩ | ⟨z, -⟩ | ⟨z, -⟩
      · exact z
      · exact absurd q z
      · exact absurd q z
    · rcases b4 with ⟨z, -⟩ | ⟨-, -, z⟩ | ⟨-, z, -⟩
      · rw [q] at z; exact absurd z (by decide)
      · exact z
      · exact absurd q z
    · rcases b4 with ⟨z, -⟩ | ⟨-, z, -⟩ | ⟨-, -, z⟩
      · rw [q] at z; exact absurd z (by decide)
      · rw [q] at z; exact absurd z (by decide)
      · exact z
  · exact absurd b h1
end ALS
theorem tri_y {C : Prop} {z x x' : Nat → Int32} {b : Int32} (h : tri C z x x' (some (.int b))) (hb : ¬ b = 0) : C ∧ z = x' := by
  rcases h with ⟨h1, -, h2⟩ | ⟨-, h1, -⟩
  · exact ⟨h1, h2⟩
  · exact absurd (int0 h1) hb
theorem tri_n {C : Prop} {z x x' : Nat → Int32} {b : Int32} (h : tri C z x x' (some (.int b))) (hb : b = 0) : ¬ C ∧ refd x x' := by
  rcases h with ⟨-, h1, -⟩ | ⟨h1, -, h2⟩
  · rw [int1 h1] at hb
    exact absurd hb (by decide)
  · exact ⟨h1, h2⟩
theorem refd_lo {x x' : Nat → Int32} (h : refd x x') {z : Nat} (hz : z < 208) : x' z = x z := by
  obtain ⟨a, b, rfl⟩ := h
  exact (if_neg (by omega)).trans (if_neg (by omega))
/-- the class's change was kept: the row ahead of it, and the new house -/
def kYes (g : xg_T) (w1 : xw_T) (sz1 : Nat) (x : Nat → Nat → Int32) (la : Nat → Nat → Nat) (t : Nat → Int32) (c0 : Nat) (x2 : Nat → Int32) (l2 : Nat → Nat) (x' : Nat → Nat → Int32) (la' : Nat → Nat → Nat) (t' : Nat → Int32) : Prop := x' 0 = x2 ∧ la' 0 = l2 ∧ (∀ i, i ≠ 0 → x' i = va_up x (c0 % 9 + 2) (cpX (x (c0 % 9 + 2)) (x 0)) i ∧ la' i = va_up la (c0 % 9 + 2) (la 0) i) ∧ t' = tCC t
def kNo (x : Nat → Nat → Int32) (la : Nat → Nat → Nat) (t : Nat → Int32) (c0 : Nat) (x' : Nat → Nat → Int32) (la' : Nat → Nat → Nat) (t' : Nat → Int32) : Prop := (∀ z, z < 208 → x' 0 z = x 0 z) ∧ la' 0 = la 0 ∧ ((∀ i, i ≠ 0 → x' i = va_up x (c0 % 9 + 2) (cpX (x (c0 % 9 + 2)) (x 0)) i ∧ la' i = va_up la (c0 % 9 + 2) (la 0) i) ∨ (∀ i, i ≠ 0 → x' i = x i ∧ la' i = la i)) ∧ t' = t
section KYN
variable {g : xg_T} {w1 : xw_T} {sz1 : Nat} {x x1 x' : Nat → Nat → Int32} {la la1 la' : Nat → Nat → Nat} {t t' tm tm' v v' sv pa pa' : Nat → Int32} {LN : Nat → Nat → Nat} {LF : Nat → Nat → Nat → Int32} {c0 : Nat} {x2 : Nat → Int32} {l2 : Nat → Nat} {ja jb jc : Int32} {rm : Option Value} {X : Option Value → (Nat → Int32) → (Nat → Int32) → Prop}
/-- the history's row, prepared -/
def pRow (x : Nat → Nat → Int32) (la : Nat → Nat → Nat) (t : Nat → Int32) (x1 : Nat → Nat → Int32) (la1 : Nat → Nat → Nat) : Prop := ∃ j : Nat, j < 9 ∧ (∀ c : Nat, c < 2 ^ 31 → t 1 = nI c → j = c % 9) ∧ x1 = va_up x (j + 2) (cpX (x (j + 2)) (x 0)) ∧ la1 = va_up la (j + 2) (la 0)
theorem pRow.e0 (h : pRow x la t x1 la1) : x1 0 = x 0 ∧ la1 0 = la 0 := by
  obtain ⟨j, -, -, rfl, rfl⟩ := h
  exact ⟨va_up_ne _ _ (by omega), va_up_ne _ _ (by omega)⟩
theorem pRow.yes (h : pRow x la t x1 la1) (hc : c0 < 2 ^ 30) (h1 : t 1 = nI c0) (hx : x' = va_up x1 0 x2) (hl : la' = va_up la1 0 l2) (ht : t' = tCC t) : kYes g w1 sz1 x la t c0 x2 l2 x' la' t' := by
  obtain ⟨j, -, hj, rfl, rfl⟩ := h
  obtain rfl := hj c0 (by omega) h1
  subst hx hl
  exact ⟨va_up_self _ _ _, va_up_self _ _ _, fun i hi => ⟨va_up_ne _ _ hi, va_up_ne _ _ hi⟩, ht⟩
theorem pRow.no (h : pRow x la t x1 la1) (hc : c0 < 2 ^ 30) (h1 : t 1 = nI c0) (hx : x' = va_up x1 0 x2) (hl : la' = va_up la1 0 (la1 0)) (ht : t' = t) (hr : refd (x1 0) x2) : kNo x la t c0 x' la' t' := by
  have e0 := h.e0
  obtain ⟨j, -, hj, rfl, rfl⟩ := h
  obtain rfl := hj c0 (by omega) h1
  subst hx hl
  refine ⟨fun z hz => ?_, ?_, Or.inl (fun i hi => ⟨va_up_ne _ _ hi, va_up_ne _ _ hi⟩), ht⟩
  · rw [va_up_self, refd_lo hr hz, e0.1]
  · rw [va_up_self, e0.2]
theorem kNo.id : kNo x la t c0 x la t := ⟨fun _ _ => rfl, rfl, Or.inr (fun _ _ => ⟨rfl, rfl⟩), rfl⟩
/-- after a call: alike again -/
def aft (g : xg_T) (w1 : xw_T) (sz1 : Nat) (x' : Nat → Nat → Int32) (la' : Nat → Nat → Nat) (t' : Nat → Int32) (c1 : Nat) (tm' v' sv pa' : Nat → Int32) : Prop := ∃ c LN' LF', c ≤ c1 ∧ TX g w1 sz1 la' LN' LF' ∧ AL x' t' LN' LF' c tm' v' sv pa'
theorem kYes.alike (hk : kYes g w1 sz1 x la t c0 x2 l2 x' la' t') (hA : AL x t LN LF c0 tm v sv pa) (hT : TX g w1 sz1 la LN LF) (hc : c0 < 2 ^ 30) (h7 : tm' 7 = tm 7) (hP : cP tm v pa X ja jb jc rm tm' v' pa')
    (hx : ∀ a t1 v1, X (some (.int a)) t1 v1 → t1 1 = 0 ∧ ∃ ln lf, (∀ k, k < 20 → xTx g w1 sz1 (l2 k) (ln k) (lf k)) ∧ hAl x2 ln lf v1) : (∃ a t1 v1, rm = some (.int a) ∧ X (some (.int a)) t1 v1) ∧ tm' 0 = 0 ∧ aft g w1 sz1 x' la' t' (c0 + 1) tm' v' sv pa' := by
  obtain ⟨a, t1, v1, bf, hX, hK, hbf, hE⟩ := hP
  obtain ⟨h1, ln, lf, hl, h0⟩ := hx a t1 v1 hX
  obtain ⟨k1, k2, k3, k4⟩ := hk
  have hT2 := (hT.up (i := c0 % 9 + 2) (fun k hk => hT 0 (by omega) k hk)).up (i := 0) hl
  have hTl : ∀ i, i ≠ 0 → la' i = va_up (va_up la (c0 % 9 + 2) (la 0)) 0 l2 i := fun i hi => (k3 i hi).2.trans (va_up_ne _ _ hi).symm
  obtain ⟨r1, r2, r3⟩ := AL.yes (LN' := va_up (va_up LN (c0 % 9 + 2) (LN 0)) 0 ln) (LF' := va_up (va_up LF (c0 % 9 + 2) (LF 0)) 0 lf) hA hc (fun i hi => (k3 i hi).1) (fun i hi => va_up_ne _ _ hi) (fun i hi => va_up_ne _ _ hi) k4 (by rw [va_up_self, va_up_self, k1]; exact h0) hE h1 hbf ((hK 2 (by decide)).trans ((if_neg (by decide)).trans (if_neg (by decide)))) ((hK 0 (by decide)).trans ((if_neg (by decide)).trans (if_pos rfl))) h7
  refine ⟨⟨a, t1, v1, r1, hX⟩, r2, c0 + 1, _, _, Nat.le_refl _, fun i hi k hk => ?_, r3⟩
  have := hT2 i hi k hk
  by_cases e : i = 0
  · subst e
    rw [k2]
    rw [va_up_self] at this
    exact this
  · rw [hTl i e]
    exact this
theorem kNo.alike (hk : kNo x la t c0 x' la' t') (hA : AL x t LN LF c0 tm v sv pa) (hT : TX g w1 sz1 la LN LF) (h7 : tm' 7 = tm 7) (hP : cP tm v pa X ja jb jc rm tm' v' pa')
    (hx : ∀ a t1 v1, X (some (.int a)) t1 v1 → ¬ t1 1 = 0) : (∃ a t1 v1, X (some (.int a)) t1 v1 ∧ (t1 1 = 1 → tm' 0 = ja) ∧ (t1 1 = 2 → tm' 0 = jb) ∧ (t1 1 = 3 → tm' 0 = jc)) ∧ aft g w1 sz1 x' la' t' (c0 + 1) tm' v' sv pa' := by
  obtain ⟨a, t1, v1, bf, hX, hK, hbf, hE⟩ := hP
  obtain ⟨b1, b2, b3, b4⟩ := endP_no hE (hx a t1 v1 hX)
  obtain ⟨k1, k2, k3, k4⟩ := hk
  have h2 := b3.trans ((hK 2 (by decide)).trans ((if_neg (by decide)).trans (if_neg (by decide))))
  refine ⟨⟨a, t1, v1, hX, b4⟩, ?_⟩
  rcases k3 with q | q
  · refine ⟨c0, va_up LN (c0 % 9 + 2) (LN 0), va_up LF (c0 % 9 + 2) (LF 0), by omega, fun i hi k hk => ?_, AL.no hA k1 (fun i hi hi2 => (q i hi).1.trans (va_up_ne _ _ hi2)) (fun i hi => ⟨va_up_ne _ _ hi, va_up_ne _ _ hi⟩) k4 (fun j hj => (b1 j hj).trans (hbf j hj)) b2 h2 h7⟩
    by_cases e : i = c0 % 9 + 2
    · subst e
      rw [va_up_self, va_up_self, (q _ (by omega)).2, va_up_self]
      exact hT 0 (by omega) k hk
    · rw [va_up_ne _ _ e, va_up_ne _ _ e]
      by_cases e0 : i = 0
      · subst e0
        rw [k2]
        exact hT 0 hi k hk
      · rw [(q i e0).2, va_up_ne _ _ e]
        exact hT i hi k hk
  · refine ⟨c0, LN, LF, by omega, fun i hi k hk => ?_, AL.no hA k1 (fun i hi hi2 => (q i hi).1) (fun i hi => ⟨rfl, rfl⟩) k4 (fun j hj => (b1 j hj).trans (hbf j hj)) b2 h2 h7⟩
    by_cases e0 : i = 0
    · subst e0
      rw [k2]
      exact hT 0 hi k hk
    · rw [(q i e0).2]
      exact hT i hi k hk
end KYN
