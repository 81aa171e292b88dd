/-- a fraction's cells hold this rational -/
def FrAt (h : AH) (f : Nat) (r : Rat) : Prop := rd h 0 f 0 = some (aJ r.num) ∧ rd h 0 f 1 = some (aJ (r.den : Int))
def fset (h : AH) (f : Nat) (r : Rat) : AH := wr (wr h 0 f 0 (aJ r.num)) 0 f 1 (aJ (r.den : Int))
theorem fset_at {h : AH} {f : Nat} {x y : AV} (h0 : rd h 0 f 0 = some x) (h1 : rd h 0 f 1 = some y) (r : Rat) : FrAt (fset h f r) f r := by
  constructor
  · unfold fset
    rw [rd_wn (Or.inr (Or.inr (by decide))), rd_wr h0]
  · unfold fset
    exact rd_wr (by rw [rd_wn (Or.inr (Or.inr (by decide)))]; exact h1)
theorem fset_ne {h : AH} {f t a k : Nat} (r : Rat) (q : t ≠ 0 ∨ a ≠ f) : rd (fset h f r) t a k = rd h t a k := by
  unfold fset
  have q' : t ≠ 0 ∨ a ≠ f ∨ k ≠ 1 := q.elim Or.inl (fun z => Or.inr (Or.inl z))
  have q'' : t ≠ 0 ∨ a ≠ f ∨ k ≠ 0 := q.elim Or.inl (fun z => Or.inr (Or.inl z))
  rw [rd_wn q', rd_wn q'']
theorem fset_isO {h : AH} {f t a : Nat} {r : Rat} : isO (fset h f r) t a = isO h t a := by unfold fset; rw [isO_wr, isO_wr]
theorem fset_ln {h : AH} {f a : Nat} {r : Rat} : ln (fset h f r) a = ln h a := by unfold fset; rw [ln_wr, ln_wr]
theorem c_take {h : AH} {f g : Nat} {r : Rat} {x y : AV} (h0 : rd h 0 f 0 = some x) (h1 : rd h 0 f 1 = some y) (hg : FrAt h g r) : E mX0_take [aR (some f), aR (some g)] h = some (none, fset h f r) := by
  obtain ⟨g0, g1⟩ := hg
  have q1 : rd (wr h 0 f 0 (aJ r.num)) 0 g 1 = some (aJ (r.den : Int)) := by rw [rd_wn (Or.inr (Or.inr (by decide)))]; exact g1
  have q2 : rd (wr h 0 f 0 (aJ r.num)) 0 f 1 = some y := by rw [rd_wn (Or.inr (Or.inr (by decide)))]; exact h1
  rw [e_X0_take]
  simp only [↓x_X0_take_0, ↓x_X0_take_1, ↓x_X0_take_2, ↓x_X0_take_5, ↓x_X0_take_8, ↓x_X0_take_9, ↓x_X0_take_10, ↓x_X0_take_13, ↓x_X0_take_16, ↓gK_of g0, ↓gK_of q1, ↓pK_of h0, ↓pK_of q2]
  rfl
/-- Euclid's way -/
theorem l_common {h : AH} {a0 b0 : Int} : ∀ (j k a b : Nat) (v9 v10 : AV), b < a → a * b < 2 ^ j → k + j ≤ 190 → X mX0_common 9 [aJ a0, aU, aJ b0, aU, aJ a, aU, aJ b, aU, aI k, v9, v10] [] h = some (some (aJ ((Nat.gcd a b : Nat) : Int)), h) := by
  have h0 : ∀ (k a b : Nat) (v9 v10 : AV), b = 0 → k ≤ 190 → X mX0_common 9 [aJ a0, aU, aJ b0, aU, aJ a, aU, aJ b, aU, aI k, v9, v10] [] h = some (some (aJ ((Nat.gcd a b : Nat) : Int)), h) := by
    intro k a b v9 v10 hb hk
    subst hb
    rw [x_X0_common_9, Nat.gcd_zero_right]
    (repeat' (first | (simp only [↓reduceIte, not_true_eq_false, not_false_eq_true, eq_self, ↓x_X0_common_0, ↓x_X0_common_1, ↓x_X0_common_3, ↓x_X0_common_4, ↓x_X0_common_6, ↓x_X0_common_7, ↓x_X0_common_11, ↓x_X0_common_14, ↓x_X0_common_17, ↓x_X0_common_19, ↓x_X0_common_20, ↓x_X0_common_21, ↓x_X0_common_24, ↓x_X0_common_26, ↓x_X0_common_28, ↓x_X0_common_29, ↓x_X0_common_31, ↓x_X0_common_33, ↓x_X0_common_35, ↓x_X0_common_37, ↓x_X0_common_39, ↓x_X0_common_42, ↓x_X0_common_45, ↓x_X0_common_47, fc_eq, fc_le, fc_ge, fc_lt, fc_gt]) | rw [if_pos (by omega)] | rw [if_neg (by omega)] | split))
  intro j
  induction j with
  | zero =>
    intro k a b v9 v10 hab hj hk
    refine h0 k a b v9 v10 ?_ (by omega)
    rcases Nat.eq_zero_or_pos b with q | q
    · exact q
    · have := Nat.mul_le_mul (show 1 ≤ a by omega) (show 1 ≤ b from q)
      omega
  | succ j ih =>
    intro k a b v9 v10 hab hj hk
    by_cases hb : b = 0
    · exact h0 k a b v9 v10 hb (by omega)
    · have e5 : w32 ((k : Int) + 1) = ((k + 1 : Nat) : Int) := by rw [w32_in] <;> omega
      have k1 : ¬ ((200 : Int) ≤ (k : Int)) := by omega
      have k2 : ¬ ((b : Int) = 0) := by omega
      have e1 : ((a : Int)).tmod (b : Int) = ((a % b : Nat) : Int) := rfl
      have hlt : a % b < b := Nat.mod_lt _ (by omega)
      have hh : b * (a % b) < 2 ^ j := by
        have q1 : 2 * (a % b) ≤ a := by
          have q2 := Nat.div_add_mod a b
          have q3 : 1 ≤ a / b := (Nat.le_div_iff_mul_le (by omega)).mpr (by omega)
          have q4 := Nat.mul_le_mul_left b q3
          omega
        have q5 := Nat.mul_le_mul_left b q1
        rw [Nat.pow_succ, Nat.mul_comm a b] at hj
        have q6 : b * (2 * (a % b)) = 2 * (b * (a % b)) := by rw [← Nat.mul_assoc, Nat.mul_comm b 2, Nat.mul_assoc]
        omega
      have ih' := ih (k + 1) b (a % b) (aJ ((a % b : Nat) : Int)) aU hlt hh (by omega)
      have e6 : Nat.gcd a b = Nat.gcd b (a % b) := by rw [Nat.gcd_comm a b, Nat.gcd_rec b a, Nat.gcd_comm]
      rw [x_X0_common_9, e6]
      simp only [↓reduceIte, not_true_eq_false, not_false_eq_true, ↓x_X0_common_0, ↓x_X0_common_1, ↓x_X0_common_3, ↓x_X0_common_4, ↓x_X0_common_6, ↓x_X0_common_7, ↓x_X0_common_11, ↓x_X0_common_14, ↓x_X0_common_17, ↓x_X0_common_19, ↓x_X0_common_20, ↓x_X0_common_21, ↓x_X0_common_24, ↓x_X0_common_26, ↓x_X0_common_28, ↓x_X0_common_29, ↓x_X0_common_31, ↓x_X0_common_33, ↓x_X0_common_35, ↓x_X0_common_37, ↓x_X0_common_39, ↓x_X0_common_42, ↓x_X0_common_45, ↓x_X0_common_47, fc_eq, fc_le, fc_ge, fc_lt, fc_gt, k1, k2, e1, e5]
      exact ih'
theorem c_common {h : AH} {a b : Nat} (ha : a ≤ 4611686018427387904) (hb : 0 < b ∧ b ≤ 4611686018427387904) : E mX0_common [aJ a, aJ b] h = some (some (aJ ((Nat.gcd a b : Nat) : Int)), h) := by
  have e1 : ((a : Int)).tmod (b : Int) = ((a % b : Nat) : Int) := rfl
  have e5 : w32 ((0 : Int) + 1) = ((1 : Nat) : Int) := by decide
  have k2 : ¬ ((b : Int) = 0) := by omega
  have k1 : ¬ ((200 : Int) ≤ 0) := by decide
  have hlt : a % b < b := Nat.mod_lt _ (by omega)
  have hp : b * (a % b) < 2 ^ 126 := by
    have p1 := Nat.mul_le_mul hb.2 (show a % b ≤ 4611686018427387904 by omega)
    have p3 : (4611686018427387904 : Nat) * 4611686018427387904 < 2 ^ 126 := by decide
    omega
  have e6 : Nat.gcd a b = Nat.gcd b (a % b) := by rw [Nat.gcd_comm a b, Nat.gcd_rec b a, Nat.gcd_comm]
  have := l_common (h := h) (a0 := a) (b0 := b) 126 1 b (a % b) (aJ ((a % b : Nat) : Int)) aU hlt hp (by omega)
  rw [e_X0_common, e6]
  simp only [↓reduceIte, ↓x_X0_common_0, ↓x_X0_common_1, ↓x_X0_common_3, ↓x_X0_common_4, ↓x_X0_common_6, ↓x_X0_common_7, ↓x_X0_common_11, ↓x_X0_common_14, ↓x_X0_common_17, ↓x_X0_common_19, ↓x_X0_common_20, ↓x_X0_common_21, ↓x_X0_common_24, ↓x_X0_common_26, ↓x_X0_common_28, ↓x_X0_common_29, ↓x_X0_common_31, ↓x_X0_common_33, ↓x_X0_common_35, ↓x_X0_common_37, ↓x_X0_common_39, ↓x_X0_common_42, ↓x_X0_common_45, ↓x_X0_common_47]
  rw [x_X0_common_9]
  simp only [↓reduceIte, not_true_eq_false, not_false_eq_true, ↓x_X0_common_0, ↓x_X0_common_1, ↓x_X0_common_3, ↓x_X0_common_4, ↓x_X0_common_6, ↓x_X0_common_7, ↓x_X0_common_11, ↓x_X0_common_14, ↓x_X0_common_17, ↓x_X0_common_19, ↓x_X0_common_20, ↓x_X0_common_21, ↓x_X0_common_24, ↓x_X0_common_26, ↓x_X0_common_28, ↓x_X0_common_29, ↓x_X0_common_31, ↓x_X0_common_33, ↓x_X0_common_35, ↓x_X0_common_37, ↓x_X0_common_39, ↓x_X0_common_42, ↓x_X0_common_45, ↓x_X0_common_47, fc_eq, fc_le, fc_ge, fc_lt, fc_gt, k1, k2, e1, e5]
  exact this
theorem mk_num {a : Int} {b : Nat} (hb : 0 < b) : (mkRat a b).num = a.tdiv ((Nat.gcd a.natAbs b : Nat) : Int) := by
  rw [Rat.num_mkRat, if_neg (by omega), Nat.gcd_comm]
  exact (Int.tdiv_eq_ediv_of_dvd (Int.ofNat_dvd_left.mpr (Nat.gcd_dvd_left _ _))).symm
theorem mk_den {a : Int} {b : Nat} (hb : 0 < b) : ((mkRat a b).den : Int) = (b : Int).tdiv ((Nat.gcd a.natAbs b : Nat) : Int) := by
  rw [Rat.den_mkRat, if_neg (by omega), Nat.gcd_comm]
  rfl
theorem mk_b {a : Int} {b : Nat} (hb : 0 < b) : (mkRat a b).num.natAbs ≤ a.natAbs ∧ (mkRat a b).den ≤ b := by
  constructor
  · rw [mk_num hb, Int.natAbs_tdiv]
    exact Nat.div_le_self _ _
  · rw [Rat.den_mkRat, if_neg (by omega)]
    exact Nat.div_le_self _ _
theorem c_become {h : AH} {f : Nat} {a : Int} {b : Nat} {x y : AV} (h0 : rd h 0 f 0 = some x) (h1 : rd h 0 f 1 = some y) (ha : -4611686018427387904 ≤ a ∧ a ≤ 4611686018427387904) (hb : 0 < b ∧ b ≤ 4611686018427387904) : E mX0_become [aR (some f), aJ a, aJ b] h = some (none, fset h f (mkRat a b)) := by
  have c1 := c_abs (h := h) (a := a) (by omega)
  have ea : (if a < 0 then -a else a) = ((a.natAbs : Nat) : Int) := by split <;> omega
  rw [ea] at c1
  have c2 := c_common (h := h) (a := a.natAbs) (b := b) (by omega) hb
  have hg : 0 < Nat.gcd a.natAbs b := Nat.gcd_pos_of_pos_right _ hb.1
  have bd := mk_b (a := a) hb.1
  have en := mk_num (a := a) hb.1
  have ed := mk_den (a := a) hb.1
  have k1 : ¬ ((b : Int) ≤ 0) := by omega
  have k2 : ¬ (((Nat.gcd a.natAbs b : Nat) : Int) ≤ 0) := by omega
  have k3 : ¬ (((Nat.gcd a.natAbs b : Nat) : Int) = 0) := by omega
  have e1 : w64 (a.tdiv ((Nat.gcd a.natAbs b : Nat) : Int)) = (mkRat a b).num := by rw [← en, w64_in] <;> omega
  have e2 : w64 ((b : Int).tdiv ((Nat.gcd a.natAbs b : Nat) : Int)) = ((mkRat a b).den : Int) := by rw [← ed, w64_in] <;> omega
  have q2 : rd (wr h 0 f 0 (aJ (mkRat a b).num)) 0 f 1 = some y := by rw [rd_wn (Or.inr (Or.inr (by decide)))]; exact h1
  rw [e_X0_become]
  simp only [↓reduceIte, not_true_eq_false, not_false_eq_true, ↓x_X0_become_0, ↓x_X0_become_1, ↓x_X0_become_4, ↓x_X0_become_5, ↓x_X0_become_8, ↓x_X0_become_10, ↓x_X0_become_11, ↓x_X0_become_12, ↓x_X0_become_13, ↓x_X0_become_16, ↓x_X0_become_18, ↓x_X0_become_19, ↓x_X0_become_20, ↓x_X0_become_23, ↓x_X0_become_24, ↓x_X0_become_25, ↓x_X0_become_27, ↓x_X0_become_28, ↓x_X0_become_31, ↓x_X0_become_32, ↓x_X0_become_33, ↓x_X0_become_35, ↓x_X0_become_36, ↓x_X0_become_39, ↓cKJ c1, ↓cKJ c2, fc_eq, fc_le, fc_ge, fc_lt, fc_gt, k1, k2, k3, e1, e2, ↓pK_of h0, ↓pK_of q2, pK_of h0, pK_of q2]
  rfl
/-- 1, 0, -1 as a rational is greater, alike, less -/
def rc (r s : Rat) : Int := if s < r then 1 else if r = s then 0 else -1
theorem rc_sg (r s : Rat) : sg (r.num * (s.den : Int) - s.num * (r.den : Int)) = rc r s := by
  unfold sg rc
  have h1 : s < r ↔ s.num * (r.den : Int) < r.num * (s.den : Int) := Rat.lt_iff s r
  have h2 : r = s ↔ r.num * (s.den : Int) = s.num * (r.den : Int) := by
    constructor
    · intro e; subst e; rfl
    · intro e
      have a1 : ¬ s < r := fun q => by have := h1.mp q; omega
      have a2 : ¬ r < s := fun q => by have := (Rat.lt_iff r s).mp q; omega
      exact Rat.le_antisymm (Rat.not_lt.mp a1) (Rat.not_lt.mp a2)
  by_cases q1 : s < r
  · rw [if_pos q1, if_pos (by have := h1.mp q1; omega)]
  · rw [if_neg q1, if_neg (fun z => q1 (h1.mpr (by omega)))]
    by_cases q2 : r = s
    · rw [if_pos q2, if_pos (by have := h2.mp q2; omega)]
    · rw [if_neg q2, if_neg (fun z => q2 (h2.mpr (by omega)))]
/-- numbers that fit -/
def RB (r : Rat) : Prop := -2199023255552 ≤ r.num ∧ r.num ≤ 2199023255552 ∧ r.den ≤ 34359738368
theorem c_against {h : AH} {f g : Nat} {r s : Rat} (hf : FrAt h f r) (hg : FrAt h g s) (hr : RB r) (hs : RB s) : E mX0_against [aR (some f), aR (some g)] h = some (some (aI (rc r s)), h) := by
  have c := c_weigh (h := h) (a := r.num) (b := r.den) (c := s.num) (d := s.den) ⟨by have := hr.1; omega, by have := hr.2.1; omega⟩ ⟨by have := r.den_pos; omega, by have := hr.2.2; omega⟩ ⟨by have := hs.1; omega, by have := hs.2.1; omega⟩ ⟨by have := s.den_pos; omega, by have := hs.2.2; omega⟩
  rw [rc_sg] at c
  rw [e_X0_against]
  simp only [↓x_X0_against_0, ↓x_X0_against_1, ↓x_X0_against_4, ↓x_X0_against_5, ↓x_X0_against_8, ↓x_X0_against_9, ↓x_X0_against_12, ↓x_X0_against_13, ↓x_X0_against_16, ↓x_X0_against_19, ↓gK_of hf.1, ↓gK_of hf.2, ↓gK_of hg.1, ↓gK_of hg.2, ↓cKI c]
