/-! THE REFERENCE'S WORDS: those that may stand here, as bits -/
theorem w_or (a b : Nat) : nI a ||| nI b = nI (a ||| b) := by
  refine Int32.toBitVec_inj.mp ?_
  rw [Int32.toBitVec_or]
  exact BitVec.ofNat_or.symm
theorem w_s : ∀ w, w < 11 → ((nI w &&& 31).toBitVec.smod 32).toNat = w := by decide +kernel
theorem w_bit {M w : Nat} (hM : M < 2048) (hw : w < 11) : ((nI M >>> (nI w &&& 31)) &&& 1 = 0) ↔ M.testBit w = false := by
  have hd : M / 2 ^ w < 2 ^ 31 := Nat.lt_of_le_of_lt (Nat.div_le_self _ _) (by omega)
  rw [pk_shrN (by omega) _ w (w_s w hw), pk_andN (by omega) (m := 1) 1 rfl, show (0 : Int32) = nI 0 from rfl, nI_eq (by omega) (by omega), Nat.testBit_eq_decide_div_mod_eq, decide_eq_false_iff_not]
  omega
theorem w_set {G w : Nat} (hw : w < 11) : nI G ||| (1 : Int32) <<< (nI w &&& 31) = nI (G ||| 2 ^ w) := by
  have h2 : 2 ^ w < 2 ^ 11 := Nat.pow_lt_pow_right (by decide) hw
  rw [show (1 : Int32) = nI 1 from rfl, pk_shlN _ w (w_s w hw) (by omega), Nat.one_mul, w_or]
theorem w_lt {G w : Nat} (hG : G < 2048) (hw : w < 11) : G ||| 2 ^ w < 2048 := Nat.or_lt_two_pow (n := 11) hG (Nat.pow_lt_pow_right (by decide) hw)
theorem w_tb {G w j : Nat} : (G ||| 2 ^ w).testBit j = (G.testBit j || decide (w = j)) := by rw [Nat.testBit_or, Nat.testBit_two_pow]
theorem w_all : ∀ w, w < 11 → (2047 : Nat).testBit w = true := by decide +kernel
/-- the first i signs of a word stand here -/
def wP (n : Nat) (ip : Nat → Int32) (h w i : Nat) : Prop := ∀ j, j < i → mt n ip h w j = true
theorem wc_end : ∀ w, w < 11 → 4 ≤ wl w ∧ ∀ i, i < 6 → (sgM (7 * w + i + 1) = 0 ↔ wl w ≤ i + 1) := by decide +kernel
theorem wc_two : ∀ a, a < 11 → ∀ b, b < 11 → a ≠ b → ∃ j, j < 6 ∧ j < wl a ∧ j < wl b ∧ wc a j ≠ wc b j := by decide +kernel
section WPS
variable {n : Nat} {ip : Nat → Int32} {h w i : Nat}
theorem wP.le (hp : wP n ip h w i) {k : Nat} (hk : k ≤ i) : wP n ip h w k := fun j hj => hp j (by omega)
theorem wP_al (hi : i ≤ wl w) : wP n ip h w i ↔ i ≤ alw n ip h w := by
  constructor
  · intro hp
    refine Nat.le_of_not_lt (fun z => ?_)
    have h1 := al_out (m := mt n ip h w) (wl w) (by unfold alw at z; omega)
    have h2 := hp _ z
    unfold alw at h2
    rw [h1] at h2
    exact absurd h2 (by decide)
  · intro hp j hj
    exact al_in (wl w) j (by unfold alw at hp; omega)
theorem isW_P : isW n ip h w = true ↔ wP n ip h w (wl w) := by
  rw [wP_al (Nat.le_refl _)]
  unfold isW
  rw [decide_eq_true_iff]
  have := al_le (mt n ip h w) (wl w)
  unfold alw
  omega
theorem wc_sgn {j : Nat} (hm : mt n ip h w j = true) : sgn n ip (h + j) = wc w j := of_decide_eq_true hm
theorem isW_uq {b : Nat} (hw : w < 11) (hb : b < 11) (h1 : isW n ip h w = true) (h2 : isW n ip h b = true) : w = b := by
  by_cases e : w = b
  · exact e
  · obtain ⟨j, -, j1, j2, j3⟩ := wc_two w hw b hb e
    exact absurd ((wc_sgn (isW_P.mp h1 j j1)).symm.trans (wc_sgn (isW_P.mp h2 j j2))) j3
/-- one word stands here: it's the first -/
theorem fwd_yes {a c k : Nat} (hc : a + c ≤ 11) (hk : k < c) (h1 : isW n ip h (a + k) = true) : fwd n ip h a c = a + k := by
  have hno : ∀ m, m ≤ k → fst1 (isW n ip h) a m = a + m := by
    intro m
    induction m with
    | zero => intro _; rfl
    | succ m ih =>
      intro hm
      refine fst_go (ih (by omega)) ?_
      cases e : isW n ip h (a + m) with
      | false => rfl
      | true =>
        have := isW_uq (by omega) (by omega) e h1
        omega
  exact fst_hit (hno k (Nat.le_refl _)) h1 c hk
theorem fwd_no {a c : Nat} (h1 : ∀ k, k < c → isW n ip h (a + k) = false) : fwd n ip h a c = a + c := by
  unfold fwd
  induction c with
  | zero => rfl
  | succ c ih => exact fst_go (ih (fun k hk => h1 k (by omega))) (h1 c (by omega))
theorem mx_ge {f : Nat → Nat} {a : Nat} : ∀ c k, k < c → f (a + k) ≤ mx1 f a c := by
  intro c
  induction c with
  | zero => intro k hk; omega
  | succ c ih =>
    intro k hk
    rw [mx_go]
    by_cases e : k = c
    · subst e
      split <;> omega
    · have := ih k (by omega)
      split <;> omega
end WPS
/-- the outer rounds: M the words whose first i signs stand here; none has been read whole -/
def oI (n : Nat) (ip : Nat → Int32) (h a c M i : Nat) : Prop := M < 2048 ∧ (∀ w, a ≤ w → w < a + c → (M.testBit w = true ↔ wP n ip h w i)) ∧ (∀ w, a ≤ w → w < a + c → ¬ (wP n ip h w (wl w) ∧ wl w ≤ i)) ∧ (i = 0 ∨ ∃ w, a ≤ w ∧ w < a + c ∧ wP n ip h w i)
/-- the inner rounds: G the words ahead of j that go on, wo one that is whole -/
def nI9 (n : Nat) (ip : Nat → Int32) (h a G j i : Nat) (wo : Int32) : Prop := G < 2048 ∧ (∀ w, G.testBit w = true ↔ (a ≤ w ∧ w < j ∧ wP n ip h w (i + 1))) ∧ ((wo = -1 ∧ ∀ w, a ≤ w → w < j → wP n ip h w (i + 1) → ¬ sgM (7 * w + i + 1) = 0) ∨ ∃ w, a ≤ w ∧ w < j ∧ wo = nI w ∧ wP n ip h w (i + 1) ∧ sgM (7 * w + i + 1) = 0)
section WRD
variable {n : Nat} {ip : Nat → Int32} {h a c M i G j : Nat} {wo : Int32}
theorem oI_0 (hc : a + c ≤ 11) : oI n ip h a c 2047 0 := ⟨by decide, fun w h1 h2 => ⟨fun _ k hk => absurd hk (Nat.not_lt_zero k), fun _ => w_all w (by omega)⟩, fun w h1 h2 q => by have := (wc_end w (by omega)).1; omega, Or.inl rfl⟩
theorem nI9_0 : nI9 n ip h a 0 a i (-1) := ⟨by decide, fun w => ⟨fun q => by rw [Nat.zero_testBit] at q; exact absurd q (by decide), fun q => by omega⟩, Or.inl ⟨rfl, fun w h1 h2 => by omega⟩⟩
theorem wP_1 {w : Nat} (hp : wP n ip h w i) (hm : mt n ip h w i = true) : wP n ip h w (i + 1) := fun k hk => by
  by_cases e : k = i
  · subst e; exact hm
  · exact hp k (by omega)
/-- the word j does not go on -/
theorem nI9.no (hI : nI9 n ip h a G j i wo) (hn : ¬ wP n ip h j (i + 1)) : nI9 n ip h a G (j + 1) i wo := by
  obtain ⟨h1, h2, h3⟩ := hI
  refine ⟨h1, fun w => ?_, ?_⟩
  · rw [h2 w]
    constructor
    · rintro ⟨q1, q2, q3⟩
      exact ⟨q1, by omega, q3⟩
    · rintro ⟨q1, q2, q3⟩
      refine ⟨q1, ?_, q3⟩
      by_cases e : w = j
      · subst e; exact absurd q3 hn
      · omega
  · rcases h3 with ⟨q1, q2⟩ | ⟨w, q1, q2, q3⟩
    · refine Or.inl ⟨q1, fun w k1 k2 k3 => ?_⟩
      by_cases e : w = j
      · subst e; exact absurd k3 hn
      · exact q2 w k1 (by omega) k3
    · exact Or.inr ⟨w, q1, by omega, q3⟩
/-- the word j goes on, and is whole or not -/
theorem nI9.go (hI : nI9 n ip h a G j i wo) (ha : a ≤ j) (hj : j < 11) (hy : wP n ip h j (i + 1)) : (sgM (7 * j + i + 1) = 0 → nI9 n ip h a (G ||| 2 ^ j) (j + 1) i (nI j)) ∧ (¬ sgM (7 * j + i + 1) = 0 → nI9 n ip h a (G ||| 2 ^ j) (j + 1) i wo) := by
  obtain ⟨h1, h2, h3⟩ := hI
  have hb : ∀ w, (G ||| 2 ^ j).testBit w = true ↔ (a ≤ w ∧ w < j + 1 ∧ wP n ip h w (i + 1)) := by
    intro w
    rw [w_tb, Bool.or_eq_true, h2 w, decide_eq_true_iff]
    constructor
    · rintro (⟨q1, q2, q3⟩ | rfl)
      · exact ⟨q1, by omega, q3⟩
      · exact ⟨ha, by omega, hy⟩
    · rintro ⟨q1, q2, q3⟩
      by_cases e : j = w
      · exact Or.inr e
      · exact Or.inl ⟨q1, by omega, q3⟩
  refine ⟨fun q => ⟨w_lt h1 hj, hb, Or.inr ⟨j, ha, by omega, rfl, hy, q⟩⟩, fun q => ⟨w_lt h1 hj, hb, ?_⟩⟩
  rcases h3 with ⟨q1, q2⟩ | ⟨w, q1, q2, q3⟩
  · refine Or.inl ⟨q1, fun w k1 k2 k3 => ?_⟩
    by_cases e : w = j
    · subst e; exact q
    · exact q2 w k1 (by omega) k3
  · exact Or.inr ⟨w, q1, by omega, q3⟩
theorem wl_lt {w : Nat} (hc : a + c ≤ 11) (hO : oI n ip h a c M i) (h1 : a ≤ w) (h2 : w < a + c) (hp : wP n ip h w i) : i < wl w := Nat.lt_of_not_le (fun z => hO.2.2.1 w h1 h2 ⟨hp.le z, z⟩)
/-- none goes on: the text breaks off here -/
theorem w_bad (hc : a + c ≤ 11) (hO : oI n ip h a c M i) (hI : nI9 n ip h a G (a + c) i wo) (hG : G = 0) : fwd n ip h a c = a + c ∧ mx1 (alw n ip h) a c = i := by
  have hn : ∀ w, a ≤ w → w < a + c → ¬ wP n ip h w (i + 1) := fun w q1 q2 q3 => by
    have := (hI.2.1 w).mpr ⟨q1, q2, q3⟩
    rw [hG, Nat.zero_testBit] at this
    exact absurd this (by decide)
  have hal : ∀ k, k < c → alw n ip h (a + k) ≤ i := by
    intro k hk
    refine Nat.le_of_not_lt (fun z => hn (a + k) (by omega) (by omega) ?_)
    have := al_le (mt n ip h (a + k)) (wl (a + k))
    exact (wP_al (by unfold alw at z; omega)).mpr z
  refine ⟨fwd_no (fun k hk => ?_), Nat.le_antisymm (mx_le c hal) ?_⟩
  · cases e : isW n ip h (a + k) with
    | false => rfl
    | true =>
      have h1 := isW_P.mp e
      have h2 := hal k hk
      have h3 := (wP_al (Nat.le_refl _)).mp h1
      exact absurd ⟨h1, by omega⟩ (hO.2.2.1 (a + k) (by omega) (by omega))
  · rcases hO.2.2.2 with rfl | ⟨w, q1, q2, q3⟩
    · exact Nat.zero_le _
    · have hl := wl_lt hc hO q1 q2 q3
      have h1 := (wP_al (Nat.le_of_lt hl)).mp q3
      have h2 := mx_ge (f := alw n ip h) (a := a) c (w - a) (by omega)
      rw [show a + (w - a) = w by omega] at h2
      omega
/-- one is whole -/
theorem w_hit (hc : a + c ≤ 11) (hi : i < 6) (hO : oI n ip h a c M i) (hI : nI9 n ip h a G (a + c) i wo) (hw : 0 ≤ wo) : ∃ k, k < c ∧ wo = nI (a + k) ∧ fwd n ip h a c = a + k ∧ wl (a + k) = i + 1 := by
  rcases hI.2.2 with ⟨rfl, -⟩ | ⟨w, q1, q2, q3, q4, q5⟩
  · exact absurd hw (by decide)
  · have hl := ((wc_end w (by omega)).2 i hi).mp q5
    have hlt := wl_lt hc hO q1 q2 (q4.le (Nat.le_succ i))
    have e : wl w = i + 1 := by omega
    have hY : isW n ip h w = true := isW_P.mpr (by rw [e]; exact q4)
    have ew : a + (w - a) = w := by omega
    refine ⟨w - a, by omega, by rw [ew]; exact q3, ?_, by rw [ew]; exact e⟩
    rw [ew]
    have := fwd_yes (n := n) (ip := ip) (h := h) (a := a) (c := c) (k := w - a) hc (by omega) (by rw [ew]; exact hY)
    rw [this, ew]
/-- on to the next sign -/
theorem w_next (hc : a + c ≤ 11) (hi : i < 6) (hO : oI n ip h a c M i) (hI : nI9 n ip h a G (a + c) i wo) (hG : ¬ G = 0) (hw : wo < 0) : oI n ip h a c G (i + 1) := by
  have hno : ∀ w, a ≤ w → w < a + c → wP n ip h w (i + 1) → ¬ sgM (7 * w + i + 1) = 0 := by
    rcases hI.2.2 with ⟨-, q⟩ | ⟨w, q1, q2, q3, -⟩
    · exact q
    · rw [q3] at hw
      exact absurd hw (by rw [show (0 : Int32) = nI 0 from rfl]; exact nI_nlt (by omega) (by omega))
  refine ⟨hI.1, fun w q1 q2 => ?_, fun w q1 q2 q3 => ?_, Or.inr ?_⟩
  · rw [hI.2.1 w]
    exact ⟨fun z => z.2.2, fun z => ⟨q1, q2, z⟩⟩
  · rcases Nat.lt_or_ge i (wl w) with z | z
    · have e : wl w = i + 1 := by omega
      refine hno w q1 q2 ?_ (((wc_end w (by omega)).2 i hi).mpr (by omega))
      have := q3.1
      rw [e] at this
      exact this
    · exact hO.2.2.1 w q1 q2 ⟨q3.1, z⟩
  · obtain ⟨w, hw2⟩ := Nat.exists_testBit_of_ne_zero hG
    have := (hI.2.1 w).mp hw2
    exact ⟨w, this⟩
/-- six signs are too many -/
theorem w_end (hc : a + c ≤ 11) (hO : oI n ip h a c M 6) : False := by
  rcases hO.2.2.2 with q | ⟨w, q1, q2, q3⟩
  · exact absurd q (by decide)
  · exact hO.2.2.1 w q1 q2 ⟨q3.le (wl_le w), wl_le w⟩
end WRD
