/-! WHAT THE REFERENCE'S ROWS KEEP: the clock's bound, stores of at most 500, pounds within the size, no damp without pounds -/
def KR (u : Nat → Int32) (k : Nat) : Prop := ∃ z p : Nat, z ≤ 5 ∧ p ≤ 10 * z ∧ u (28 + 9 * k + 0) = nI z ∧ u (28 + 9 * k + 3) = nI p ∧ (p = 0 → u (28 + 9 * k + 6) = 0)
def KP (b : Nat) (u : Nat → Int32) : Prop := (∃ c : Nat, c ≤ b ∧ u 0 = nI c) ∧ (∀ q, 10 ≤ q → q < 28 → ∃ s : Nat, s ≤ 500 ∧ u q = nI s) ∧ ∀ k, k < 20 → KR u k
section RPS
variable {u u' t t' v v' : Nat → Int32} {b i k : Nat} {z : Int32} {r : Option Value}
theorem KP.keep (h : KP b u) (h0 : u' 0 = u 0) (hs : ∀ q, 10 ≤ q → q < 28 → u' q = u q) (hr : ∀ k, k < 20 → u' (28 + 9 * k + 0) = u (28 + 9 * k + 0) ∧ u' (28 + 9 * k + 3) = u (28 + 9 * k + 3) ∧ u' (28 + 9 * k + 6) = u (28 + 9 * k + 6)) : KP b u' := by
  obtain ⟨⟨c, hc, e⟩, h2, h3⟩ := h
  refine ⟨⟨c, hc, h0.trans e⟩, fun q q1 q2 => ?_, fun k hk => ?_⟩
  · rw [hs q q1 q2]
    exact h2 q q1 q2
  · obtain ⟨z, p, a1, a2, a3, a4, a5⟩ := h3 k hk
    obtain ⟨b1, b2, b3⟩ := hr k hk
    exact ⟨z, p, a1, a2, b1.trans a3, b2.trans a4, fun q => b3.trans (a5 q)⟩
theorem KP.cong (h : KP b u) (he : ∀ q, q < 208 → u' q = u q) : KP b u' := h.keep (he 0 (by omega)) (fun q _ q2 => he q (by omega)) (fun k hk => ⟨he _ (by omega), he _ (by omega), he _ (by omega)⟩)
theorem KP.mono (h : KP b u) {b' : Nat} (hb : b ≤ b') : KP b' u := by
  obtain ⟨⟨c, hc, e⟩, h2⟩ := h
  exact ⟨⟨c, Nat.le_trans hc hb, e⟩, h2⟩
/-- a place that nothing is said of -/
theorem KP.up (h : KP b u) (h0 : i ≠ 0) (h1 : i < 10 ∨ 28 ≤ i) (h2 : ∀ k, k < 20 → i ≠ 28 + 9 * k + 0 ∧ i ≠ 28 + 9 * k + 3 ∧ i ≠ 28 + 9 * k + 6) : KP b (upd u i z) := h.keep (if_neg (by omega)) (fun q q1 q2 => if_neg (by omega)) (fun k hk => ⟨if_neg (fun e => (h2 k hk).1 e.symm), if_neg (fun e => (h2 k hk).2.1 e.symm), if_neg (fun e => (h2 k hk).2.2 e.symm)⟩)
theorem KP.lo (h : KP b u) (hi : 0 < i ∧ i < 10) : KP b (upd u i z) := h.up (by omega) (by omega) (fun k hk => by omega)
theorem KP.ro (h : KP b u) {j : Nat} (hj : j = 1 ∨ j = 2 ∨ j = 4 ∨ j = 5 ∨ j = 7 ∨ j = 8) : KP b (upd u (28 + 9 * k + j) z) := h.up (by omega) (by omega) (fun k hk => by omega)
theorem KP.st (h : KP b u) (hi : 10 ≤ i ∧ i < 28) (hz : ∃ s : Nat, s ≤ 500 ∧ z = nI s) : KP b (upd u i z) := by
  obtain ⟨h1, h2, h3⟩ := h
  refine ⟨?_, fun q q1 q2 => ?_, fun k hk => ?_⟩
  · rw [show upd u i z 0 = u 0 from if_neg (by omega)]
    exact h1
  · by_cases e : q = i
    · rw [show upd u i z q = z from if_pos e]
      exact hz
    · rw [show upd u i z q = u q from if_neg e]
      exact h2 q q1 q2
  · obtain ⟨z1, p, a1, a2, a3, a4, a5⟩ := h3 k hk
    exact ⟨z1, p, a1, a2, (if_neg (by omega)).trans a3, (if_neg (by omega)).trans a4, fun q => (if_neg (by omega)).trans (a5 q)⟩
/-- one row anew -/
theorem KP.rn (h : KP b u) (h0 : u' 0 = u 0) (hs : ∀ q, 10 ≤ q → q < 28 → u' q = u q) (ho : ∀ i, i < 20 → i ≠ k → ∀ j, j < 9 → u' (28 + 9 * i + j) = u (28 + 9 * i + j)) (hk : KR u' k) : KP b u' := by
  obtain ⟨⟨c, hc, e⟩, h2, h3⟩ := h
  refine ⟨⟨c, hc, h0.trans e⟩, fun q q1 q2 => ?_, fun i hi => ?_⟩
  · rw [hs q q1 q2]
    exact h2 q q1 q2
  · by_cases e : i = k
    · rw [e]
      exact hk
    · obtain ⟨z, p, a1, a2, a3, a4, a5⟩ := h3 i hi
      exact ⟨z, p, a1, a2, (ho i hi e 0 (by omega)).trans a3, (ho i hi e 3 (by omega)).trans a4, fun q => (ho i hi e 6 (by omega)).trans (a5 q)⟩
theorem KP.po (h : KP b u) (hk : k < 20) {p s : Nat} (hs : s ≤ 5) (es : u (28 + 9 * k + 0) = nI s) (hp : p ≤ 10 * s) (h0 : 0 < p) (ez : z = nI p) : KP b (upd u (28 + 9 * k + 3) z) := h.rn (k := k) (if_neg (by omega)) (fun q q1 q2 => if_neg (by omega)) (fun i hi hne j hj => if_neg (by omega)) ⟨s, p, hs, hp, (if_neg (by omega)).trans es, (if_pos rfl).trans ez, fun q => absurd q (by omega)⟩
theorem KP.no (h : KP b u) (hk : k < 20) : KP b (upd (upd u (28 + 9 * k + 3) 0) (28 + 9 * k + 6) 0) := by
  obtain ⟨s, p, a1, a2, a3, -, -⟩ := h.2.2 k hk
  exact h.rn (k := k) ((if_neg (by omega)).trans (if_neg (by omega))) (fun q q1 q2 => (if_neg (by omega)).trans (if_neg (by omega))) (fun i hi hne j hj => (if_neg (by omega)).trans (if_neg (by omega))) ⟨s, 0, a1, by omega, (if_neg (by omega)).trans ((if_neg (by omega)).trans a3), (if_neg (by omega)).trans (if_pos rfl), fun _ => if_pos rfl⟩
theorem KP.sz (h : KP b u) (hk : k < 20) {s : Nat} (hs : s ≤ 5) (ez : z = nI s) (h3 : u (28 + 9 * k + 3) = 0) (h6 : u (28 + 9 * k + 6) = 0) : KP b (upd u (28 + 9 * k + 0) z) := h.rn (k := k) (if_neg (by omega)) (fun q q1 q2 => if_neg (by omega)) (fun i hi hne j hj => if_neg (by omega)) ⟨s, 0, hs, by omega, (if_pos rfl).trans ez, (if_neg (by omega)).trans h3, fun _ => (if_neg (by omega)).trans h6⟩
theorem KP.da (h : KP b u) (hk : k < 20) (hp : ¬ u (28 + 9 * k + 3) = 0) : KP b (upd u (28 + 9 * k + 6) z) := by
  obtain ⟨s, p, a1, a2, a3, a4, -⟩ := h.2.2 k hk
  exact h.rn (k := k) (if_neg (by omega)) (fun q q1 q2 => if_neg (by omega)) (fun i hi hne j hj => if_neg (by omega)) ⟨s, p, a1, a2, (if_neg (by omega)).trans a3, (if_neg (by omega)).trans a4, fun q => absurd (by rw [a4, q]; rfl) hp⟩
theorem KP.ho (h : KP b u) : KP (b + 1) (upd u 0 (u 0 + 1)) := by
  obtain ⟨⟨c, hc, e⟩, h2, h3⟩ := h
  refine ⟨⟨c + 1, by omega, (if_pos rfl).trans (by rw [e, nI_1])⟩, fun q q1 q2 => ?_, fun k hk => ?_⟩
  · rw [show upd u 0 (u 0 + 1) q = u q from if_neg (by omega)]
    exact h2 q q1 q2
  · obtain ⟨z1, p, a1, a2, a3, a4, a5⟩ := h3 k hk
    exact ⟨z1, p, a1, a2, (if_neg (by omega)).trans a3, (if_neg (by omega)).trans a4, fun q => (if_neg (by omega)).trans (a5 q)⟩
theorem nat_of {x : Int32} {n : Nat} {M : Int32} (hM : M.toInt = n) (h1 : 1 ≤ x) (h2 : x ≤ M) : ∃ p : Nat, p ≤ n ∧ x = nI p := nI_of2 hM (Int32.not_lt.mpr (Int32.le_trans (show (0 : Int32) ≤ 1 by decide) h1)) h2

theorem KP_brings (ga : Int32) (ki : Int32) (po : Int32) {bb : Nat} (h : KP bb v) (hR : R_X8_brings t v ga ki po r t' v') (h1 : t' 1 = 0) : KP bb v' := by
  rcases hR with ⟨a, b, q0, q1, q2, q3, q4, q5, q6, q7, rfl⟩ | ⟨_, _, -, -, -, -, -, -, q⟩ | ⟨_, _, -, -, -, -, -, q⟩ | ⟨-, q⟩
  · refine (h.st (i := 10 + 3 * a + b) (by omega) ?_).lo (by omega)
    obtain ⟨s, s5, es⟩ := h.2.1 (10 + 3 * a + b) (by omega) (by omega)
    obtain ⟨p, p5, rfl⟩ := nat_of (n := 500) rfl q4.1 q4.2
    rw [es, nI_add]
    have e := q5
    rw [es, nI_add] at e
    exact ⟨s + p, (nI_leI (b := 500) (by omega) (by omega)).mp e, rfl⟩
  · rw [q] at h1
    exact absurd h1 (by decide)
  · rw [q] at h1
    exact absurd h1 (by decide)
  · rw [q] at h1
    exact absurd h1 (by decide)
theorem KP_buys (kw : Nat) (mn : Int32) (hkw : 0 < kw ∧ kw < 10) (h : KP b v) (hR : R_X8_buys t v kw mn r t' v') (h1 : t' 1 = 0) : KP b v' := by
  rcases hR with ⟨q0, q1, q2, rfl⟩ | ⟨-, q⟩
  · exact h.lo hkw
  · rw [q] at h1
    exact absurd h1 (by decide)
theorem KP_makes (si : Int32) (h : KP b v) (hR : R_X8_makes t v si r t' v') (h1 : t' 1 = 0) : KP b v' := by
  rcases hR with ⟨nC3, nq, v1, q0, q1, q2, q3, q4, q5, q6, q7, q8, q9, rfl⟩ | ⟨_, -, -, -, -, q⟩ | ⟨-, q⟩
  · obtain ⟨s, s5, rfl⟩ := nat_of (n := 5) rfl q0.1 q0.2
    have g1 := q6
    have g2 := q7
    have hn : nq < 20 := q5
    refine ((((((h.rn (k := nq) (u' := v1) (g1 0 (by omega)) (fun q q1 q2 => g1 q (by omega)) (fun i hi hne j hj => g1 _ (by omega)) ⟨0, 0, by omega, by omega, g2 0 (by omega), g2 3 (by omega), fun _ => g2 6 (by omega)⟩).sz hn s5 rfl (g2 3 (by omega)) (g2 6 (by omega))).ro (by omega)).ro (by omega)).lo (by omega)))
  · rw [q] at h1
    exact absurd h1 (by decide)
  · rw [q] at h1
    exact absurd h1 (by decide)
theorem KP_linesChest (cn : Int32) (h : KP b v) (hR : R_X8_linesChest t v cn r t' v') (h1 : t' 1 = 0) : KP b v' := by
  rcases hR with ⟨kc, q0, q1, q2, q3, q4, q5, q6, q7, q8, rfl⟩ | ⟨_, -, -, -, -, -, -, -, q⟩ | ⟨_, -, -, -, -, -, -, q⟩ | ⟨_, _, -, -, -, -, -, q⟩ | ⟨-, q⟩
  · exact (h.lo (by omega)).ro (by omega)
  · rw [q] at h1
    exact absurd h1 (by decide)
  · rw [q] at h1
    exact absurd h1 (by decide)
  · rw [q] at h1
    exact absurd h1 (by decide)
  · rw [q] at h1
    exact absurd h1 (by decide)
theorem KP_fills (cn : Int32) (ga : Int32) (ki : Int32) (po : Int32) {bb : Nat} (h : KP bb v) (hR : R_X8_fills t v cn ga ki po r t' v') (h1 : t' 1 = 0) : KP bb v' := by
  rcases hR with ⟨kc, a, b, q0, q1, q2, q3, q4, q5, q6, q7, q8, q9, q10, q11, q12, q13, q14, rfl⟩ | ⟨_, _, _, -, -, -, -, -, -, -, -, -, -, -, -, -, q⟩ | ⟨_, _, _, -, -, -, -, -, -, -, -, -, -, -, -, q⟩ | ⟨_, _, _, -, -, -, -, -, -, -, -, -, -, -, -, q⟩ | ⟨kc, a, b, q0, q1, q2, q3, q4, q5, q6, q7, q8, q9, q10, q11, q12, q13, q14, q15, q16, rfl⟩ | ⟨_, _, _, -, -, -, -, -, -, -, -, -, -, -, -, -, -, -, q⟩ | ⟨_, _, _, -, -, -, -, -, -, -, -, -, -, -, -, -, -, q⟩ | ⟨_, _, _, -, -, -, -, -, -, -, -, -, -, -, -, -, q⟩ | ⟨_, _, _, _, -, -, -, -, -, -, -, -, -, -, q⟩ | ⟨_, _, _, -, -, -, -, -, -, -, -, q⟩ | ⟨_, -, -, -, -, q⟩ | ⟨-, q⟩
  · obtain ⟨s, s5, es⟩ := h.2.1 (10 + 3 * a + b) (by omega) (by omega)
    obtain ⟨p, p5, rfl⟩ := nat_of (n := 50) rfl q7.1 q7.2
    obtain ⟨z, p0, z5, pz, e0, e3, -⟩ := h.2.2 kc q2
    have e := q12
    have e9 := q11
    have p1 : 1 ≤ p := (nI_leI (a := 1) (by omega) (by omega)).mp q7.1
    rw [es] at e
    have eps := (nI_leI (by omega) (by omega)).mp e
    rw [e0, e3] at e9
    have e8 := nI_ten z5 (by omega) p5 e9
    have hs := h.st (i := 10 + 3 * a + b) (z := v (10 + 3 * a + b) - nI p) (by omega) ⟨s - p, by omega, by rw [es, pk_sub eps]⟩
    refine ((((hs.ro (by omega)).ro (by omega)).po q2 z5 ?_ e8 (by omega) ?_).ro (by omega))
    · exact (if_neg (by omega)).trans ((if_neg (by omega)).trans ((if_neg (by omega)).trans e0))
    · rw [show (upd (upd (upd v (10 + 3 * a + b) ((v (10 + 3 * a + b)) - nI p)) (28 + 9 * kc + 1) (nI a)) (28 + 9 * kc + 2) (nI b)) (28 + 9 * kc + 3) = v (28 + 9 * kc + 3) from (if_neg (by omega)).trans ((if_neg (by omega)).trans (if_neg (by omega))), e3, nI_add]
  · rw [q] at h1
    exact absurd h1 (by decide)
  · rw [q] at h1
    exact absurd h1 (by decide)
  · rw [q] at h1
    exact absurd h1 (by decide)
  · obtain ⟨s, s5, es⟩ := h.2.1 (10 + 3 * a + b) (by omega) (by omega)
    obtain ⟨p, p5, rfl⟩ := nat_of (n := 50) rfl q7.1 q7.2
    obtain ⟨z, p0, z5, pz, e0, e3, -⟩ := h.2.2 kc q2
    have e := q14
    have e9 := q13
    have p1 : 1 ≤ p := (nI_leI (a := 1) (by omega) (by omega)).mp q7.1
    rw [es] at e
    have eps := (nI_leI (by omega) (by omega)).mp e
    rw [e0, e3] at e9
    have e8 := nI_ten z5 (by omega) p5 e9
    have hs := h.st (i := 10 + 3 * a + b) (z := v (10 + 3 * a + b) - nI p) (by omega) ⟨s - p, by omega, by rw [es, pk_sub eps]⟩
    refine ((((hs.ro (by omega)).ro (by omega)).po q2 z5 ?_ e8 (by omega) ?_).ro (by omega))
    · exact (if_neg (by omega)).trans ((if_neg (by omega)).trans ((if_neg (by omega)).trans e0))
    · rw [show (upd (upd (upd v (10 + 3 * a + b) ((v (10 + 3 * a + b)) - nI p)) (28 + 9 * kc + 1) (nI a)) (28 + 9 * kc + 2) (nI b)) (28 + 9 * kc + 3) = v (28 + 9 * kc + 3) from (if_neg (by omega)).trans ((if_neg (by omega)).trans (if_neg (by omega))), e3, nI_add]
  · rw [q] at h1
    exact absurd h1 (by decide)
  · rw [q] at h1
    exact absurd h1 (by decide)
  · rw [q] at h1
    exact absurd h1 (by decide)
  · rw [q] at h1
    exact absurd h1 (by decide)
  · rw [q] at h1
    exact absurd h1 (by decide)
  · rw [q] at h1
    exact absurd h1 (by decide)
  · rw [q] at h1
    exact absurd h1 (by decide)
theorem KP_empties (cn : Int32) {bb : Nat} (h : KP bb v) (hR : R_X8_empties t v cn r t' v') (h1 : t' 1 = 0) : KP bb v' := by
  rcases hR with ⟨_, -, -, -, -, -, -, q⟩ | ⟨kc, a, b, q0, q1, q2, q3, q4, q5, q6, q7, q8, q9, q10, q11, rfl⟩ | ⟨_, _, -, -, -, -, -, q⟩ | ⟨-, q⟩
  · rw [q] at h1
    exact absurd h1 (by decide)
  · obtain ⟨s, s5, es⟩ := h.2.1 (10 + 3 * a + b) (by omega) (by omega)
    obtain ⟨z, p0, z5, pz, e0, e3, -⟩ := h.2.2 kc q2
    refine ((((((h.st (i := 10 + 3 * a + b) (by omega) ?_).lo (by omega)).ro (by omega)).ro (by omega)).no q2).ro (by omega))
    rw [es, e3, show (500 : Int32) = nI 500 from rfl, pk_sub s5]
    unfold lsr
    split
    · rename_i hl
      have hl2 := (nI_ltI (by omega) (by omega)).mp hl
      exact ⟨s + p0, by omega, nI_add _ _⟩
    · exact ⟨s + (500 - s), by omega, nI_add _ _⟩
  · rw [q] at h1
    exact absurd h1 (by decide)
  · rw [q] at h1
    exact absurd h1 (by decide)
theorem KP_screws (cn : Int32) (mn : Int32) (h : KP b v) (hR : R_X8_screws t v cn mn r t' v') (h1 : t' 1 = 0) : KP b v' := by
  rcases hR with ⟨_, -, -, -, -, -, -, q⟩ | ⟨kc, q0, q1, q2, q3, q4, q5, q6, q7, q8, q9, q10, rfl⟩ | ⟨kc, q0, q1, q2, q3, q4, q5, q6, q7, q8, q9, q10, rfl⟩ | ⟨_, -, -, -, -, -, -, -, -, q⟩ | ⟨_, -, -, -, -, -, -, -, q⟩ | ⟨_, -, -, -, -, -, q⟩ | ⟨_, -, -, -, -, q⟩ | ⟨-, q⟩
  · rw [q] at h1
    exact absurd h1 (by decide)
  · exact (h.lo (by omega)).ro (by omega)
  · exact (h.lo (by omega)).ro (by omega)
  · rw [q] at h1
    exact absurd h1 (by decide)
  · rw [q] at h1
    exact absurd h1 (by decide)
  · rw [q] at h1
    exact absurd h1 (by decide)
  · rw [q] at h1
    exact absurd h1 (by decide)
  · rw [q] at h1
    exact absurd h1 (by decide)
theorem KP_unscrews (cn : Int32) (h : KP b v) (hR : R_X8_unscrews t v cn r t' v') (h1 : t' 1 = 0) : KP b v' := by
  rcases hR with ⟨kc, q0, q1, q2, q3, q4, q5, rfl⟩ | ⟨_, -, -, -, -, q⟩ | ⟨-, q⟩
  · exact (h.lo (by omega)).ro (by omega)
  · rw [q] at h1
    exact absurd h1 (by decide)
  · rw [q] at h1
    exact absurd h1 (by decide)
theorem KP_labels (cn : Int32) (h : KP b v) (hR : R_X8_labels t v cn r t' v') (h1 : t' 1 = 0) : KP b v' := by
  rcases hR with ⟨_, -, -, -, -, -, q⟩ | ⟨kc, t9, q0, q1, q2, q3, q4, q5, q6, q7, q8, rfl⟩ | ⟨kc, t11, q0, q1, q2, q3, q4, q5, q6, q7, q8, rfl⟩ | ⟨_, -, -, -, -, q⟩ | ⟨-, q⟩
  · rw [q] at h1
    exact absurd h1 (by decide)
  · exact h.ro (by omega)
  · exact h.ro (by omega)
  · rw [q] at h1
    exact absurd h1 (by decide)
  · rw [q] at h1
    exact absurd h1 (by decide)
theorem KP_goesOut (cn : Int32) (h : KP b v) (hR : R_X8_goesOut t v cn r t' v') (h1 : t' 1 = 0) : KP b v' := by
  rcases hR with ⟨_, -, -, -, -, -, q⟩ | ⟨kc, m11, q0, q1, q2, q3, q4, q5, q6, q7, q8, q9, q10, rfl⟩ | ⟨_, -, -, -, -, -, -, -, q⟩ | ⟨_, -, -, -, -, -, -, q⟩ | ⟨_, -, -, -, -, q⟩ | ⟨-, q⟩
  · rw [q] at h1
    exact absurd h1 (by decide)
  · exact h.ro (by omega)
  · rw [q] at h1
    exact absurd h1 (by decide)
  · rw [q] at h1
    exact absurd h1 (by decide)
  · rw [q] at h1
    exact absurd h1 (by decide)
  · rw [q] at h1
    exact absurd h1 (by decide)
theorem KP_loads (cn : Int32) (h : KP b v) (hR : R_X8_loads t v cn r t' v') (h1 : t' 1 = 0) : KP b v' := by
  rcases hR with ⟨kc, m4, m7, q0, q1, q2, q3, q4, q5, q6, q7, q8, q9, q10, q11, rfl⟩ | ⟨_, _, _, -, -, -, -, -, -, -, -, -, -, q⟩ | ⟨_, -, -, -, -, -, q⟩ | ⟨_, -, -, -, -, q⟩ | ⟨-, q⟩
  · exact h.ro (by omega)
  · rw [q] at h1
    exact absurd h1 (by decide)
  · rw [q] at h1
    exact absurd h1 (by decide)
  · rw [q] at h1
    exact absurd h1 (by decide)
  · rw [q] at h1
    exact absurd h1 (by decide)
theorem KP_sailR (h : KP b v) : ∀ n, KP b (sailR v n) := by
  intro n
  induction n with
  | zero => exact h
  | succ n ih =>
    unfold sailR
    split
    · exact (ih.ro (by omega)).lo (by omega)
    · exact ih
theorem KP_dampR (h : KP b v) : ∀ n, n ≤ 20 → KP b (dampR v n) := by
  intro n
  induction n with
  | zero => intro _; exact h
  | succ n ih =>
    intro hn
    have i := ih (by omega)
    unfold dampR
    split
    · rename_i hc
      exact i.da (by omega) hc.2.1
    · exact i
theorem KP_hourR (h : KP b v) {m : Nat} (hm : m ≤ 20) : KP (b + 1) (hourR v m) := by
  unfold hourR
  split
  · exact KP_dampR h.ho m hm
  · exact h.ho
theorem KP_passR (h : KP b v) {m : Nat} (hm : m ≤ 20) : ∀ n, KP (b + n) (passR v m n) := by
  intro n
  induction n with
  | zero => exact h
  | succ n ih => exact KP_hourR ih hm
theorem KP_sails (h : KP b v) (hR : R_X8_sails t v r t' v') (h1 : t' 1 = 0) : KP b v' := by
  rcases hR with ⟨m1, m4, co, i, tl, vl, q0, q1, q2, q3, q4, q5, q6, q7, q8, q9, q10, q11, q12, q13, rfl⟩ | ⟨_, -, -, -, -, q⟩ | ⟨_, -, -, -, q⟩
  · subst q11
    exact ((KP_sailR h _).lo (by omega)).lo (by omega)
  · rw [q] at h1
    exact absurd h1 (by decide)
  · rw [q] at h1
    exact absurd h1 (by decide)
theorem KP_humid (hu : Int32) (h : KP b v) (hR : R_X8_humid t v hu r t' v') (h1 : t' 1 = 0) : KP b v' := by
  rcases hR with ⟨q0, q1, q2, rfl⟩ | ⟨-, q⟩
  · exact h.lo (by omega)
  · rw [q] at h1
    exact absurd h1 (by decide)
theorem KP_passes (hs0 : Int32) (h : KP b v) (hR : R_X8_passes t v hs0 r t' v') (h1 : t' 1 = 0) : KP (b + 72) v' := by
  rcases hR with ⟨i, m0, tl, vl, q0, q1, q2, q3, q4, q5, q6, q7, q8, q9, rfl⟩ | ⟨-, q⟩
  · rw [q7]
    exact (KP_passR h q4 i).mono (by omega)
  · rw [q] at h1
    exact absurd h1 (by decide)
theorem KP_does {W A B K D : Nat} (h : KP b v) (hD : DOES W A B K D t v r t' v') (h1 : t' 1 = 0) : KP (b + 72) v' := by
  rcases hD with ⟨-, h2⟩ | ⟨-, h2⟩ | ⟨-, h2⟩ | ⟨-, h2⟩ | ⟨-, h2⟩ | ⟨-, h2⟩ | ⟨-, h2⟩ | ⟨-, h2⟩
  · exact (KP_linesChest _ h h2 h1).mono (by omega)
  · exact (KP_fills _ _ _ _ h h2 h1).mono (by omega)
  · exact (KP_screws _ _ h h2 h1).mono (by omega)
  · exact (KP_labels _ h h2 h1).mono (by omega)
  · exact (KP_goesOut _ h h2 h1).mono (by omega)
  · exact (KP_loads _ h h2 h1).mono (by omega)
  · exact (KP_sails h h2 h1).mono (by omega)
  · exact KP_passes _ h h2 h1
theorem KP_seq {n : Nat} {sg : Nat → Int32} (h : KP b v) : ∀ (m : Nat) (u : Nat → Int32), SEQ n sg v m u → KP (b + 72 * m) u := by
  intro m
  induction m with
  | zero => intro u hs; exact h.cong hs
  | succ m ih =>
    intro u hs
    obtain ⟨u1, t1, r1, t2, h1, h2, -, h4⟩ := hs
    exact (KP_does (ih u1 h1) h2 h4).mono (by omega)
end RPS
/-- all rows that can come back -/
def KI (b : Nat) (t v sv pa : Nat → Int32) : Prop := KP b v ∧ KP b sv ∧ ∃ h : Nat, h ≤ 8 ∧ t 2 = nI h ∧ ∀ i, i < h → KP b (fun q => pa (208 * i + q))
section RIS
variable {t t' t1 v v' v1 sv sv' pa pa' bf : Nat → Int32} {b b' : Nat} {ja jb jc iz : Int32} {rm : Option Value} {X : Option Value → (Nat → Int32) → (Nat → Int32) → Prop}
theorem KI.tm (h : KI b t v sv pa) (h2 : t' 2 = t 2) (hb : b ≤ b') : KI b' t' v sv pa := by
  obtain ⟨h1, h3, c, h8, e, hr⟩ := h
  exact ⟨h1.mono hb, h3.mono hb, c, h8, h2.trans e, fun i hi => (hr i hi).mono hb⟩
theorem KI.ends (h : KI b t v sv pa) (hb : b ≤ b') (h2 : t1 2 = t 2) (hbf : ∀ j, j < 208 → bf j = v j) (hX : t1 1 = 0 → KP b' v1) (hE : endP t1 v1 bf pa iz ja jb jc rm t' v' pa') : KI b' t' v' sv pa' := by
  obtain ⟨h1, h3, c, h8, e, hr⟩ := h
  rcases hE with ⟨-, e1, e2, e3, -⟩ | ⟨q1, e1, -, -, c2, q2, q3, q4, q5⟩
  · subst e2
    exact ⟨(h1.mono hb).cong (fun q hq => (e1 q hq).trans (hbf q hq)), h3.mono hb, c, h8, e3.trans (h2.trans e), fun i hi => (hr i hi).mono hb⟩
  · subst e1
    refine ⟨hX q1, h3.mono hb, c2 + 1, by omega, q3, fun i hi => ?_⟩
    have hnew : ∀ i, i = c2 → KP b' (fun q => pa' (208 * i + q)) := fun i hi => (h1.mono hb).cong (fun q hq => by
      show pa' (208 * i + q) = v q
      rw [hi, show 208 * c2 + q = c2 * 208 + q by omega, q4 q hq, hbf q hq])
    rcases Nat.lt_or_ge i c2 with z | z
    · rcases q5 with ⟨y1, y2⟩ | ⟨y1, y2, y3⟩
      · have ec : c = c2 := by
          rw [h2, e] at y1
          exact (nI_eq (by omega) (by omega)).mp y1
        exact ((hr i (by omega)).mono hb).cong (fun q hq => y2 _ (by omega))
      · have ec : c = 8 := by
          rw [h2, e] at y1
          exact (nI_eq (b := 8) (by omega) (by omega)).mp y1
        refine ((hr (i + 1) (by omega)).mono hb).cong (fun q hq => ?_)
        show pa' (208 * i + q) = pa (208 * (i + 1) + q)
        rw [y3 _ (by omega), show 208 * i + q + 208 = 208 * (i + 1) + q by omega]
    · exact hnew i (by omega)
theorem KI.cp (h : KI b t v sv pa) (hb : b ≤ b') (hP : cP t v pa X ja jb jc rm t' v' pa') (hX : ∀ a t1 v1, X (some (.int a)) t1 v1 → t1 1 = 0 → KP b' v1) : KI b' t' v' sv pa' := by
  obtain ⟨a, t1, v1, bf, hx, hK, hbf, hE⟩ := hP
  exact h.ends hb ((hK 2 (by decide)).trans ((if_neg (by decide)).trans (if_neg (by decide)))) hbf (hX a t1 v1 hx) hE
theorem KI.svd (h : KI b t v sv pa) (h2 : t' 2 = t 2) (hs : ∀ j, j < 208 → sv' j = v j) (hb : b ≤ b') : KI b' t' v sv' pa := by
  obtain ⟨h1, h3, c, h8, e, hr⟩ := h
  exact ⟨h1.mono hb, (h1.mono hb).cong hs, c, h8, h2.trans e, fun i hi => (hr i hi).mono hb⟩
theorem KI.un (h : KI b t v sv pa) (hb : b ≤ b') (hP : uP t v pa rm t' v') : KI b' t' v' sv pa := by
  obtain ⟨h1, h3, c, h8, e, hr⟩ := h
  rcases hP with ⟨-, -, -, rfl, e2⟩ | ⟨c2, hc2, q1, -, q2, -, q3⟩
  · exact ⟨h1.mono hb, h3.mono hb, c, h8, e2.trans e, fun i hi => (hr i hi).mono hb⟩
  · have ec : c = c2 + 1 := by
      cases c with
      | zero =>
        rw [e] at q1
        have h2 := congrArg Int32.toInt q1
        rw [nI_toInt (by omega)] at h2
        have h3 : (nI 0 - 1).toInt = -1 := by decide
        rw [h3] at h2
        omega
      | succ c =>
        rw [e, nI_pred] at q1
        rw [(nI_eq (by omega) (by omega)).mp q1]
    exact ⟨((hr c2 (by omega)).mono hb).cong (fun q hq => by show v' q = pa (208 * c2 + q); rw [q3 q hq, show c2 * 208 + q = 208 * c2 + q by omega]), h3.mono hb, c2, by omega, q2, fun i hi => (hr i (by omega)).mono hb⟩
theorem KI.re (h : KI b t v sv pa) (hb : b ≤ b') (hP : reP t v sv rm t' v') : KI b' t' v' sv pa := by
  obtain ⟨h1, h3, c, h8, e, hr⟩ := h
  rcases hP with ⟨-, -, -, rfl, e2⟩ | ⟨-, -, e2, q, -⟩
  · exact ⟨h1.mono hb, h3.mono hb, c, h8, e2.trans e, fun i hi => (hr i hi).mono hb⟩
  · exact ⟨(h3.mono hb).cong q, h3.mono hb, 0, by omega, e2, fun i hi => absurd hi (Nat.not_lt_zero i)⟩
theorem ri_bring {ga : Int32} {ki : Int32} {po : Int32} (h : KI b t v sv pa) (hP : cP t v pa (R_X8_brings (upd (upd t 0 0) 1 0) v ga ki po) ja jb jc rm t' v' pa') : KI (b + 4320) t' v' sv pa' := h.cp (by omega) hP (fun _ t1 v1 q h1 => (KP_brings _ _ _ h.1 q h1).mono (by omega))
theorem ri_make {si : Int32} (h : KI b t v sv pa) (hP : cP t v pa (R_X8_makes (upd (upd t 0 0) 1 0) v si) ja jb jc rm t' v' pa') : KI (b + 4320) t' v' sv pa' := h.cp (by omega) hP (fun _ t1 v1 q h1 => (KP_makes _ h.1 q h1).mono (by omega))
theorem ri_line {cn : Int32} (h : KI b t v sv pa) (hP : cP t v pa (R_X8_linesChest (upd (upd t 0 0) 1 0) v cn) ja jb jc rm t' v' pa') : KI (b + 4320) t' v' sv pa' := h.cp (by omega) hP (fun _ t1 v1 q h1 => (KP_linesChest _ h.1 q h1).mono (by omega))
theorem ri_fill {cn : Int32} {ga : Int32} {ki : Int32} {po : Int32} (h : KI b t v sv pa) (hP : cP t v pa (R_X8_fills (upd (upd t 0 0) 1 0) v cn ga ki po) ja jb jc rm t' v' pa') : KI (b + 4320) t' v' sv pa' := h.cp (by omega) hP (fun _ t1 v1 q h1 => (KP_fills _ _ _ _ h.1 q h1).mono (by omega))
theorem ri_empty {cn : Int32} (h : KI b t v sv pa) (hP : cP t v pa (R_X8_empties (upd (upd t 0 0) 1 0) v cn) ja jb jc rm t' v' pa') : KI (b + 4320) t' v' sv pa' := h.cp (by omega) hP (fun _ t1 v1 q h1 => (KP_empties _ h.1 q h1).mono (by omega))
theorem ri_screw {cn : Int32} {mn : Int32} (h : KI b t v sv pa) (hP : cP t v pa (R_X8_screws (upd (upd t 0 0) 1 0) v cn mn) ja jb jc rm t' v' pa') : KI (b + 4320) t' v' sv pa' := h.cp (by omega) hP (fun _ t1 v1 q h1 => (KP_screws _ _ h.1 q h1).mono (by omega))
theorem ri_unscrew {cn : Int32} (h : KI b t v sv pa) (hP : cP t v pa (R_X8_unscrews (upd (upd t 0 0) 1 0) v cn) ja jb jc rm t' v' pa') : KI (b + 4320) t' v' sv pa' := h.cp (by omega) hP (fun _ t1 v1 q h1 => (KP_unscrews _ h.1 q h1).mono (by omega))
theorem ri_label {cn : Int32} (h : KI b t v sv pa) (hP : cP t v pa (R_X8_labels (upd (upd t 0 0) 1 0) v cn) ja jb jc rm t' v' pa') : KI (b + 4320) t' v' sv pa' := h.cp (by omega) hP (fun _ t1 v1 q h1 => (KP_labels _ h.1 q h1).mono (by omega))
theorem ri_toQuay {cn : Int32} (h : KI b t v sv pa) (hP : cP t v pa (R_X8_goesOut (upd (upd t 0 0) 1 0) v cn) ja jb jc rm t' v' pa') : KI (b + 4320) t' v' sv pa' := h.cp (by omega) hP (fun _ t1 v1 q h1 => (KP_goesOut _ h.1 q h1).mono (by omega))
theorem ri_load {cn : Int32} (h : KI b t v sv pa) (hP : cP t v pa (R_X8_loads (upd (upd t 0 0) 1 0) v cn) ja jb jc rm t' v' pa') : KI (b + 4320) t' v' sv pa' := h.cp (by omega) hP (fun _ t1 v1 q h1 => (KP_loads _ h.1 q h1).mono (by omega))
theorem ri_sail (h : KI b t v sv pa) (hP : cP t v pa (R_X8_sails (upd (upd t 0 0) 1 0) v) ja jb jc rm t' v' pa') : KI (b + 4320) t' v' sv pa' := h.cp (by omega) hP (fun _ t1 v1 q h1 => (KP_sails h.1 q h1).mono (by omega))
theorem ri_setHumidity {hu : Int32} (h : KI b t v sv pa) (hP : cP t v pa (R_X8_humid (upd (upd t 0 0) 1 0) v hu) ja jb jc rm t' v' pa') : KI (b + 4320) t' v' sv pa' := h.cp (by omega) hP (fun _ t1 v1 q h1 => (KP_humid _ h.1 q h1).mono (by omega))
theorem ri_pass {hs : Int32} (h : KI b t v sv pa) (hP : cP t v pa (R_X8_passes (upd (upd t 0 0) 1 0) v hs) ja jb jc rm t' v' pa') : KI (b + 4320) t' v' sv pa' := h.cp (by omega) hP (fun _ t1 v1 q h1 => (KP_passes _ h.1 q h1).mono (by omega))
theorem ri_buy {sc mn : Int32} (h : KI b t v sv pa) (hP : (¬ sc = 0 ∧ cP t v pa (R_X8_buys (upd (upd t 0 0) 1 0) v 2 mn) ja jb jc rm t' v' pa') ∨ (sc = 0 ∧ cP t v pa (R_X8_buys (upd (upd t 0 0) 1 0) v 1 mn) ja jb jc rm t' v' pa')) : KI (b + 4320) t' v' sv pa' := by
  rcases hP with ⟨-, hP⟩ | ⟨-, hP⟩
  · exact h.cp (by omega) hP (fun _ t1 v1 q h1 => (KP_buys _ _ (by omega) h.1 q h1).mono (by omega))
  · exact h.cp (by omega) hP (fun _ t1 v1 q h1 => (KP_buys _ _ (by omega) h.1 q h1).mono (by omega))
theorem ri_perform {n : Nat} {ip : Nat → Int32} (h : KI b t v sv pa) (hP : (∃ e : Nat, e ≤ 60 ∧ ctE n ip e ∧ rm = some (.int (-100 - nI e)) ∧ t' 0 = 0 ∧ t' 2 = t 2 ∧ v' = v ∧ pa' = pa) ∨ ∃ (N : Nat) (t1 v1 bf : Nat → Int32) (z : Int32), ctN n ip N ∧ (∀ j, j < 208 → bf j = v j) ∧ t1 2 = t 2 ∧ t1 0 = 0 ∧ endP t1 v1 bf pa z 0 0 1 rm t' v' pa' ∧ ((t1 1 = 0 ∧ z = nI (N + 1) ∧ SEQ n ip v (N + 1) v1) ∨ (t1 1 = 3 ∧ ∃ (q : Nat) (u tm : Nat → Int32) (rm : Option Value) (tm' u' : Nat → Int32), q ≤ N ∧ SEQ n ip v q u ∧ DOI n ip q tm u rm tm' u' ∧ tm 1 = 0 ∧ ¬ tm' 1 = 0))) : KI (b + 4320) t' v' sv pa' := by
  rcases hP with ⟨e, -, -, -, -, q1, rfl, rfl⟩ | ⟨N, t1, v1, bf, z, hN, hbf, k2, -, hE, hd⟩
  · exact h.tm q1 (by omega)
  · have hN6 := hN.1
    refine h.ends (by omega) k2 hbf (fun h1 => ?_) hE
    rcases hd with ⟨-, -, hS⟩ | ⟨h3, -⟩
    · exact (KP_seq h.1 (N + 1) v1 hS).mono (by omega)
    · rw [h3] at h1
      exact absurd h1 (by decide)
theorem KP_00 : KP 0 t00 := ⟨⟨0, by omega, rfl⟩, fun q _ _ => ⟨0, by omega, rfl⟩, fun k _ => ⟨0, 0, by omega, by omega, rfl, rfl, fun _ => rfl⟩⟩
theorem KI_00 : KI 0 t00 v00 t00 t00 := ⟨((KP_00.lo (by omega)).lo (by omega)).lo (by omega), KP_00, 0, by omega, rfl, fun i hi => absurd hi (Nat.not_lt_zero i)⟩
end RIS
