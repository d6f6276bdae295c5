/-! THE REFERENCE: nine cells from M = base + 258 on: itself, its rows v, before, saved, past, label, input, told, signs -/
theorem nI_mulN (a b : Nat) : nI a * nI b = nI (a * b) := (Int32.ofNat_mul a b).symm
def sgL : List Int32 := [108, 105, 110, 101, 32, 0, 0, 102, 105, 108, 108, 32, 0, 0, 115, 99, 114, 101, 119, 32, 0, 108, 97, 98, 101, 108, 32, 0, 113, 117, 97, 121, 32, 0, 0, 108, 111, 97, 100, 32, 0, 0, 115, 97, 105, 108, 0, 0, 0, 104, 111, 117, 114, 115, 32, 0, 100, 117, 115, 116, 0, 0, 0, 98, 114, 111, 107, 101, 110, 0, 116, 105, 112, 115, 0, 0, 0]
def sgM (j : Nat) : Int32 := sgL.getD j 0
theorem sgM_ne : ∀ j, j < 77 → sgM j ≠ -1 := by decide +kernel
theorem sgM_end : ∀ b, b < 3 → sgM (7 * (8 + b) + 6) = 0 := by decide +kernel
def vok (x : Nat → Int32) : Prop := ∃ n : Nat, n ≤ 20 ∧ x 3 = nI n ∧ ∀ c, c < 20 → (x (28 + 9 * c + 3) = 0 ∨ ∃ a b : Nat, a < 6 ∧ b < 3 ∧ x (28 + 9 * c + 1) = nI a ∧ x (28 + 9 * c + 2) = nI b) ∧ (x (28 + 9 * c + 8) = 0 ∨ ∃ b : Nat, b < 3 ∧ x (28 + 9 * c + 2) = nI b)
section VOK
variable {x x' : Nat → Int32} {k : Nat} {z : Int32}
theorem vok.cong (h : vok x) (he : ∀ q, q < 208 → x' q = x q) : vok x' := by
  obtain ⟨n, hn, e3, hc⟩ := h
  refine ⟨n, hn, (he 3 (by omega)).trans e3, fun c h2 => ?_⟩
  rw [he _ (by omega), he _ (by omega), he _ (by omega), he _ (by omega)]
  exact hc c h2
theorem vok.up (h : vok x) {i : Nat} (hi : (i < 28 ∧ i ≠ 3) ∨ ∃ c j, c < 20 ∧ (j = 0 ∨ (4 ≤ j ∧ j ≤ 7)) ∧ i = 28 + 9 * c + j) : vok (upd x i z) := by
  have hne : ∀ c j, (j = 1 ∨ j = 2 ∨ j = 3 ∨ j = 8) → 28 + 9 * c + j ≠ i := by
    intro c j hj
    rcases hi with hi | ⟨c2, j2, h1, h2, h3⟩ <;> omega
  obtain ⟨n, hn, e3, hc⟩ := h
  refine ⟨n, hn, (if_neg (by rcases hi with hi | ⟨c2, j2, h1, h2, h3⟩ <;> omega)).trans e3, fun c h2 => ?_⟩
  rw [show upd x i z (28 + 9 * c + 3) = x (28 + 9 * c + 3) from if_neg (hne c 3 (by omega)), show upd x i z (28 + 9 * c + 1) = x (28 + 9 * c + 1) from if_neg (hne c 1 (by omega)), show upd x i z (28 + 9 * c + 2) = x (28 + 9 * c + 2) from if_neg (hne c 2 (by omega)), show upd x i z (28 + 9 * c + 8) = x (28 + 9 * c + 8) from if_neg (hne c 8 (by omega))]
  exact hc c h2
/-- one chest's row and the number of chests written: what must hold of them -/
theorem vok.row (h : vok x) (hk : k < 20) (h3 : ∃ n : Nat, n ≤ 20 ∧ x' 3 = nI n) (ho : ∀ q, 28 ≤ q → (q < 28 + 9 * k ∨ 28 + 9 * k + 9 ≤ q) → x' q = x q) (hr : (x' (28 + 9 * k + 3) = 0 ∨ ∃ a b : Nat, a < 6 ∧ b < 3 ∧ x' (28 + 9 * k + 1) = nI a ∧ x' (28 + 9 * k + 2) = nI b) ∧ (x' (28 + 9 * k + 8) = 0 ∨ ∃ b : Nat, b < 3 ∧ x' (28 + 9 * k + 2) = nI b)) : vok x' := by
  obtain ⟨n, hn, e3, hc⟩ := h
  obtain ⟨n2, hn2, e4⟩ := h3
  refine ⟨n2, hn2, e4, fun c h2 => ?_⟩
  by_cases e : c = k
  · subst e
    exact hr
  · rw [ho _ (by omega) (by omega), ho _ (by omega) (by omega), ho _ (by omega) (by omega), ho _ (by omega) (by omega)]
    exact hc c h2
theorem vok.ga (h : vok x) (hk : k < 20) {a : Nat} (ha : a < 6) : vok (upd x (28 + 9 * k + 1) (nI a)) := by
  obtain ⟨n, hn, e3, hc⟩ := id h
  obtain ⟨h1, h2⟩ := hc k hk
  refine h.row hk ⟨n, hn, (if_neg (by omega)).trans e3⟩ (fun q q1 q2 => if_neg (by omega)) ⟨?_, ?_⟩
  · rcases h1 with h1 | ⟨a2, b, g1, g2, g3, g4⟩
    · exact Or.inl ((if_neg (by omega)).trans h1)
    · exact Or.inr ⟨a, b, ha, g2, if_pos rfl, (if_neg (by omega)).trans g4⟩
  · rcases h2 with h2 | ⟨b, g2, g4⟩
    · exact Or.inl ((if_neg (by omega)).trans h2)
    · exact Or.inr ⟨b, g2, (if_neg (by omega)).trans g4⟩
theorem vok.ki (h : vok x) (hk : k < 20) {b : Nat} (hb : b < 3) : vok (upd x (28 + 9 * k + 2) (nI b)) := by
  obtain ⟨n, hn, e3, hc⟩ := id h
  obtain ⟨h1, h2⟩ := hc k hk
  refine h.row hk ⟨n, hn, (if_neg (by omega)).trans e3⟩ (fun q q1 q2 => if_neg (by omega)) ⟨?_, Or.inr ⟨b, hb, if_pos rfl⟩⟩
  rcases h1 with h1 | ⟨a2, b2, g1, g2, g3, g4⟩
  · exact Or.inl ((if_neg (by omega)).trans h1)
  · exact Or.inr ⟨a2, b, g1, hb, (if_neg (by omega)).trans g3, if_pos rfl⟩
theorem vok.po (h : vok x) (hk : k < 20) {a b : Nat} (ha : a < 6) (hb : b < 3) (e1 : x (28 + 9 * k + 1) = nI a) (e2 : x (28 + 9 * k + 2) = nI b) : vok (upd x (28 + 9 * k + 3) z) := by
  obtain ⟨n, hn, e3, hc⟩ := id h
  exact h.row hk ⟨n, hn, (if_neg (by omega)).trans e3⟩ (fun q q1 q2 => if_neg (by omega)) ⟨Or.inr ⟨a, b, ha, hb, (if_neg (by omega)).trans e1, (if_neg (by omega)).trans e2⟩, Or.inr ⟨b, hb, (if_neg (by omega)).trans e2⟩⟩
theorem vok.la0 (h : vok x) (hk : k < 20) : vok (upd x (28 + 9 * k + 8) 0) := by
  obtain ⟨n, hn, e3, hc⟩ := id h
  obtain ⟨h1, h2⟩ := hc k hk
  refine h.row hk ⟨n, hn, (if_neg (by omega)).trans e3⟩ (fun q q1 q2 => if_neg (by omega)) ⟨?_, Or.inl (if_pos rfl)⟩
  rcases h1 with h1 | ⟨a2, b2, g1, g2, g3, g4⟩
  · exact Or.inl ((if_neg (by omega)).trans h1)
  · exact Or.inr ⟨a2, b2, g1, g2, (if_neg (by omega)).trans g3, (if_neg (by omega)).trans g4⟩
theorem vok.la (h : vok x) (hk : k < 20) (hp : ¬ x (28 + 9 * k + 3) = 0) : vok (upd x (28 + 9 * k + 8) z) := by
  obtain ⟨n, hn, e3, hc⟩ := id h
  obtain ⟨h1, h2⟩ := hc k hk
  obtain ⟨a2, b2, g1, g2, g3, g4⟩ := h1.resolve_left hp
  exact h.row hk ⟨n, hn, (if_neg (by omega)).trans e3⟩ (fun q q1 q2 => if_neg (by omega)) ⟨Or.inr ⟨a2, b2, g1, g2, (if_neg (by omega)).trans g3, (if_neg (by omega)).trans g4⟩, Or.inr ⟨b2, g2, (if_neg (by omega)).trans g4⟩⟩
theorem vok.out (h : vok x) (hk : k < 20) {a b d : Int32} : vok (upd (upd (upd (upd (upd x (28 + 9 * k + 1) a) (28 + 9 * k + 2) b) (28 + 9 * k + 3) 0) (28 + 9 * k + 6) d) (28 + 9 * k + 8) 0) := by
  obtain ⟨n, hn, e3, hc⟩ := id h
  refine h.row hk ⟨n, hn, ?_⟩ (fun q q1 q2 => ?_) ⟨Or.inl ?_, Or.inl (if_pos rfl)⟩ <;> unfold upd
  · rw [if_neg (by omega), if_neg (by omega), if_neg (by omega), if_neg (by omega), if_neg (by omega)]
    exact e3
  · rw [if_neg (by omega), if_neg (by omega), if_neg (by omega), if_neg (by omega), if_neg (by omega)]
  · rw [if_neg (by omega), if_neg (by omega), if_pos rfl]
theorem vok.n (h : vok x) : ∃ n : Nat, n ≤ 20 ∧ x 3 = nI n := by
  obtain ⟨n, hn, e3, -⟩ := h
  exact ⟨n, hn, e3⟩
theorem vok.leaf (h : vok x) (hk : k < 20) (hp : ¬ x (28 + 9 * k + 3) = 0) : ∃ a b : Nat, a < 6 ∧ b < 3 ∧ x (28 + 9 * k + 1) = nI a ∧ x (28 + 9 * k + 2) = nI b := by
  obtain ⟨n, hn, e3, hc⟩ := h
  exact (hc k hk).1.resolve_left hp
theorem vok.kind (h : vok x) (hk : k < 20) (hp : ¬ x (28 + 9 * k + 8) = 0) : ∃ b : Nat, b < 3 ∧ x (28 + 9 * k + 2) = nI b := by
  obtain ⟨n, hn, e3, hc⟩ := h
  exact (hc k hk).2.resolve_left hp
end VOK
def moL (M : Nat) (t : Nat → Int32) : List Value := [.int (t 0), .int (t 1), .int (t 2), .int (t 3), .int (t 4), .int (t 5), .int (t 6), .int (t 7), .ref (M + 1), .ref (M + 2), .ref (M + 3), .ref (M + 4), .ref (M + 5), .int (t 8), .ref (M + 6), .ref (M + 7), .ref (M + 8), .int (t 9), .int (t 10), .int (t 11), .int (t 12)]
def inA (g : xg_T) (n : Nat) (f : Nat → Int32) : va_E := .inl (g.2 1, n, .inl f)
def MWf (g : xg_T) (t v bf sv pa lb ip td sg : Nat → Int32) (j : Nat) : Option va_E :=
  if j = 0 then some (.inr (8, moL (g.2 0 + 258) t)) else if j = 1 then some (inA g 208 v) else if j = 2 then some (inA g 208 bf) else if j = 3 then some (inA g 208 sv) else if j = 4 then some (inA g 1664 pa) else if j = 5 then some (inA g 20 lb) else if j = 6 then some (inA g 60 ip) else if j = 7 then some (inA g 4 td) else some (inA g 77 sg)
def MW (g : xg_T) (w : xw_T) (t v bf sv pa lb ip td sg : Nat → Int32) : xw_T := fun q => if g.2 0 + 258 ≤ q ∧ q < g.2 0 + 267 then MWf g t v bf sv pa lb ip td sg (q - (g.2 0 + 258)) else w q
def MR (g : xg_T) (w : xw_T) (t v bf sv pa lb ip td sg : Nat → Int32) : Prop := ∀ j, j < 9 → w (g.2 0 + 258 + j) = MWf g t v bf sv pa lb ip td sg j
section MRS
variable {g : xg_T} {w : xw_T} {t v bf sv pa lb ip td sg t' v' bf' sv' pa' lb' ip' td' sg' f : Nat → Int32} {n : Nat}
theorem MR.o (h : MR g w t v bf sv pa lb ip td sg) : w (g.2 0 + 258) = some (.inr (8, moL (g.2 0 + 258) t)) := h 0 (by omega)
theorem MR.r_v (h : MR g w t v bf sv pa lb ip td sg) : w (g.2 0 + 258 + 1) = some (inA g 208 v) := h 1 (by omega)
theorem MR.r_bf (h : MR g w t v bf sv pa lb ip td sg) : w (g.2 0 + 258 + 2) = some (inA g 208 bf) := h 2 (by omega)
theorem MR.r_sv (h : MR g w t v bf sv pa lb ip td sg) : w (g.2 0 + 258 + 3) = some (inA g 208 sv) := h 3 (by omega)
theorem MR.r_pa (h : MR g w t v bf sv pa lb ip td sg) : w (g.2 0 + 258 + 4) = some (inA g 1664 pa) := h 4 (by omega)
theorem MR.r_lb (h : MR g w t v bf sv pa lb ip td sg) : w (g.2 0 + 258 + 5) = some (inA g 20 lb) := h 5 (by omega)
theorem MR.r_ip (h : MR g w t v bf sv pa lb ip td sg) : w (g.2 0 + 258 + 6) = some (inA g 60 ip) := h 6 (by omega)
theorem MR.r_td (h : MR g w t v bf sv pa lb ip td sg) : w (g.2 0 + 258 + 7) = some (inA g 4 td) := h 7 (by omega)
theorem MR.r_sg (h : MR g w t v bf sv pa lb ip td sg) : w (g.2 0 + 258 + 8) = some (inA g 77 sg) := h 8 (by omega)
theorem MR_MW : MR g (MW g w t v bf sv pa lb ip td sg) t v bf sv pa lb ip td sg := fun j hj => by
  unfold MW
  rw [if_pos (by omega), show g.2 0 + 258 + j - (g.2 0 + 258) = j by omega]
theorem MW_self (h : MR g w t v bf sv pa lb ip td sg) : w = MW g w t v bf sv pa lb ip td sg := by
  funext q
  unfold MW
  by_cases hq : g.2 0 + 258 ≤ q ∧ q < g.2 0 + 267
  · rw [if_pos hq, ← h (q - (g.2 0 + 258)) (by omega), show g.2 0 + 258 + (q - (g.2 0 + 258)) = q by omega]
  · rw [if_neg hq]
theorem MW_MW : MW g (MW g w t v bf sv pa lb ip td sg) t' v' bf' sv' pa' lb' ip' td' sg' = MW g w t' v' bf' sv' pa' lb' ip' td' sg' := by
  funext q
  unfold MW
  by_cases hq : g.2 0 + 258 ≤ q ∧ q < g.2 0 + 267
  · rw [if_pos hq, if_pos hq]
  · rw [if_neg hq, if_neg hq, if_neg hq]
theorem MW_ne {q : Nat} (hq : q < g.2 0 + 258 ∨ g.2 0 + 267 ≤ q) : MW g w t v bf sv pa lb ip td sg q = w q := if_neg (by omega)
theorem MW_put {j : Nat} {e : va_E} (hj : j < 9) (hs : MWf g t' v' bf' sv' pa' lb' ip' td' sg' j = some e) (ho : ∀ i, i ≠ j → MWf g t' v' bf' sv' pa' lb' ip' td' sg' i = MWf g t v bf sv pa lb ip td sg i) : xup (MW g w t v bf sv pa lb ip td sg) (g.2 0 + 258 + j) e = MW g w t' v' bf' sv' pa' lb' ip' td' sg' := by
  funext q
  unfold xup MW
  by_cases hq : q = g.2 0 + 258 + j
  · rw [if_pos hq, if_pos (by omega), ← hs, show q - (g.2 0 + 258) = j by omega]
  · rw [if_neg hq]
    by_cases hr : g.2 0 + 258 ≤ q ∧ q < g.2 0 + 267
    · rw [if_pos hr, if_pos hr, ho _ (by omega)]
    · rw [if_neg hr, if_neg hr]
theorem MW_o {fs : List Value} (h : fs = moL (g.2 0 + 258) t') : xup (MW g w t v bf sv pa lb ip td sg) (g.2 0 + 258) (.inr (8, fs)) = MW g w t' v bf sv pa lb ip td sg := by
  subst h
  exact MW_put (j := 0) (by omega) rfl (fun i hi => by unfold MWf; rw [if_neg hi, if_neg hi])
theorem MW_v : xup (MW g w t v bf sv pa lb ip td sg) (g.2 0 + 258 + 1) (inA g 208 f) = MW g w t f bf sv pa lb ip td sg := MW_put (by omega) rfl (fun i hi => by unfold MWf; rw [if_neg hi, if_neg hi])
theorem MW_bf : xup (MW g w t v bf sv pa lb ip td sg) (g.2 0 + 258 + 2) (inA g 208 f) = MW g w t v f sv pa lb ip td sg := MW_put (by omega) rfl (fun i hi => by unfold MWf; rw [if_neg hi, if_neg hi])
theorem MW_sv : xup (MW g w t v bf sv pa lb ip td sg) (g.2 0 + 258 + 3) (inA g 208 f) = MW g w t v bf f pa lb ip td sg := MW_put (by omega) rfl (fun i hi => by unfold MWf; rw [if_neg hi, if_neg hi])
theorem MW_pa : xup (MW g w t v bf sv pa lb ip td sg) (g.2 0 + 258 + 4) (inA g 1664 f) = MW g w t v bf sv f lb ip td sg := MW_put (by omega) rfl (fun i hi => by unfold MWf; rw [if_neg hi, if_neg hi])
theorem MW_lb : xup (MW g w t v bf sv pa lb ip td sg) (g.2 0 + 258 + 5) (inA g 20 f) = MW g w t v bf sv pa f ip td sg := MW_put (by omega) rfl (fun i hi => by unfold MWf; rw [if_neg hi, if_neg hi])
theorem MW_ip : xup (MW g w t v bf sv pa lb ip td sg) (g.2 0 + 258 + 6) (inA g 60 f) = MW g w t v bf sv pa lb f td sg := MW_put (by omega) rfl (fun i hi => by unfold MWf; rw [if_neg hi, if_neg hi])
theorem MW_td : xup (MW g w t v bf sv pa lb ip td sg) (g.2 0 + 258 + 7) (inA g 4 f) = MW g w t v bf sv pa lb ip f sg := MW_put (by omega) rfl (fun i hi => by unfold MWf; rw [if_neg hi, if_neg hi])
/-- what every call of the reference keeps -/
def MJ (n : Nat) (t v bf sv pa sg : Nat → Int32) : Prop := vok v ∧ vok bf ∧ vok sv ∧ (∀ r, r < 8 → vok (fun k => pa (208 * r + k))) ∧ (∃ c : Nat, c ≤ 8 ∧ t 2 = nI c) ∧ t 9 = nI n ∧ n ≤ 60 ∧ (∃ h : Nat, h ≤ 60 ∧ t 10 = nI h) ∧ ∀ j, j < 77 → sg j = sgM j
theorem MJ.j_t (h : MJ n t v bf sv pa sg) {i : Nat} {z : Int32} (hi : i ≠ 2 ∧ i ≠ 9 ∧ i ≠ 10) : MJ n (upd t i z) v bf sv pa sg := by
  obtain ⟨h1, h2, h3, h4, ⟨c, h5, h6⟩, h7, h8, ⟨q, h9, h10⟩, h11⟩ := h
  exact ⟨h1, h2, h3, h4, ⟨c, h5, (if_neg (by omega)).trans h6⟩, (if_neg (by omega)).trans h7, h8, ⟨q, h9, (if_neg (by omega)).trans h10⟩, h11⟩
theorem MJ.j_v (h : MJ n t v bf sv pa sg) (hv : vok v') : MJ n t v' bf sv pa sg := ⟨hv, h.2⟩
theorem MJ.j_b (h : MJ n t v bf sv pa sg) (hv : vok bf') : MJ n t v bf' sv pa sg := ⟨h.1, hv, h.2.2⟩
theorem MJ.j_s (h : MJ n t v bf sv pa sg) (hv : vok sv') : MJ n t v bf sv' pa sg := ⟨h.1, h.2.1, hv, h.2.2.2⟩
theorem MJ.j_p (h : MJ n t v bf sv pa sg) (hv : ∀ r, r < 8 → vok (fun k => pa' (208 * r + k))) : MJ n t v bf sv pa' sg := ⟨h.1, h.2.1, h.2.2.1, hv, h.2.2.2.2⟩
theorem MJ.j_c (h : MJ n t v bf sv pa sg) {z : Int32} {c : Nat} (hc : c ≤ 8) (e : z = nI c) : MJ n (upd t 2 z) v bf sv pa sg := by
  obtain ⟨h1, h2, h3, h4, -, h7, h8, ⟨q, h9, h10⟩, h11⟩ := h
  exact ⟨h1, h2, h3, h4, ⟨c, hc, e⟩, h7, h8, ⟨q, h9, h10⟩, h11⟩
theorem MJ.j_n (h : MJ n t v bf sv pa sg) {z : Int32} {m : Nat} (hm : m ≤ 60) (e : z = nI m) : MJ m (upd t 9 z) v bf sv pa sg := by
  obtain ⟨h1, h2, h3, h4, ⟨c, h5, h6⟩, h7, h8, ⟨q, h9, h10⟩, h11⟩ := h
  exact ⟨h1, h2, h3, h4, ⟨c, h5, h6⟩, e, hm, ⟨q, h9, h10⟩, h11⟩
theorem MJ.j_h (h : MJ n t v bf sv pa sg) {z : Int32} {m : Nat} (hm : m ≤ 60) (e : z = nI m) : MJ n (upd t 10 z) v bf sv pa sg := by
  obtain ⟨h1, h2, h3, h4, ⟨c, h5, h6⟩, h7, h8, -, h11⟩ := h
  exact ⟨h1, h2, h3, h4, ⟨c, h5, h6⟩, h7, h8, ⟨m, hm, e⟩, h11⟩
end MRS
theorem idx_lt {x : Int32} {L : Nat} (hL : L ≤ 1000) (h0 : 0 ≤ x) (h1 : x ≤ nI L - 1) : ∃ q : Nat, q < L ∧ x = nI q := by
  cases L with
  | zero => exact absurd (Int32.le_trans h0 h1) (by decide)
  | succ L =>
    rw [nI_pred] at h1
    obtain ⟨q, rfl, hq⟩ := i32_nat (a := x) (n := L + 1) rfl (by omega) h0 (Int32.lt_of_le_of_lt h1 (nI_lt (by omega) (by omega)))
    exact ⟨q, hq, rfl⟩
theorem nar_c (x : Int32) : narrow .char (.int (x.toUInt32 % 65536).toInt32) = .int (x.toUInt32 % 65536).toInt32 := by
  simp [narrow]
  rw [show x.toUInt32 % 65536 % 65536 = x.toUInt32 % 65536 from UInt32.toNat_inj.mp (by rw [UInt32.toNat_mod, UInt32.toNat_mod]; exact Nat.mod_mod _ _)]
/-- an end of the reference's methods: some answer with R, the nine cells in order, all else as it was -/
def mP (g : xg_T) (w : xw_T) (sz n : Nat) (sg : Nat → Int32) (R : Option Value → (Nat → Int32) → (Nat → Int32) → Prop) : Option Value → xw_T → Nat → Prop := fun r w1 sz1 => sz = sz1 ∧ ∃ t v bf sv pa lb ip td, w1 = MW g w t v bf sv pa lb ip td sg ∧ MJ n t v bf sv pa sg ∧ R r t v
def mK (t : Nat → Int32) (r : Option Value) (t' _ : Nat → Int32) : Prop := (∃ z : Int32, r = some (.int z)) ∧ t' 10 = t 10
