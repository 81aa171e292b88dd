def sg (x : Int) : Int := if 0 < x then 1 else if x = 0 then 0 else -1
theorem xor_neg {a b : Int} (ha : -9223372036854775808 ≤ a ∧ a ≤ 9223372036854775807) (hb : 0 < b ∧ b ≤ 9223372036854775807) : fXorJ a b < 0 ↔ a < 0 := by
  unfold fXorJ
  have e1 : (Int64.ofInt a).toInt = a := i64_of ha.1 ha.2
  have e2 : (Int64.ofInt b).toInt = b := i64_of (by omega) hb.2
  generalize Int64.ofInt a = x at e1
  generalize Int64.ofInt b = y at e2
  have k1 : ∀ z : Int64, z.toInt < 0 ↔ z.toBitVec.msb = true := by
    intro z
    rw [BitVec.msb_eq_toInt]
    simp
  rw [k1, Int64.toBitVec_xor, BitVec.msb_xor, ← e1, k1]
  have : y.toBitVec.msb = false := by
    cases hm : y.toBitVec.msb with
    | false => rfl
    | true =>
      have := (k1 y).mpr hm
      omega
  rw [this]
  simp
theorem c_abs {h : AH} {a : Int} (ha : -9223372036854775807 ≤ a ∧ a ≤ 9223372036854775807) : E mJ9_abs_067f4 [aJ a] h = some (some (aJ (if a < 0 then -a else a)), h) := by
  have e : w64 (-a) = -a := w64_in (by omega) (by omega)
  rw [e_J9_abs_067f4]
  (repeat' (first | (simp only [↓reduceIte, not_true_eq_false, not_false_eq_true, eq_self, ↓x_J9_abs_067f4_0, ↓x_J9_abs_067f4_1, ↓x_J9_abs_067f4_2, ↓x_J9_abs_067f4_3, ↓x_J9_abs_067f4_6, ↓x_J9_abs_067f4_7, ↓x_J9_abs_067f4_8, ↓x_J9_abs_067f4_11, ↓x_J9_abs_067f4_12, e, fc_eq, fc_le, fc_ge, fc_lt, fc_gt]) | rw [if_pos (by omega)] | rw [if_neg (by omega)] | split))
theorem div_b {a b : Int} (hb : 0 < b) : b * (a / b) ≤ a ∧ a < b * (a / b) + b ∧ (0 ≤ a → 0 ≤ a / b ∧ a / b ≤ a) ∧ (a ≤ 0 → a ≤ a / b ∧ a / b ≤ 0) := by
  have h1 := Int.mul_ediv_add_emod a b
  have h2 := Int.emod_nonneg a (b := b) (by omega)
  have h3 := Int.emod_lt_of_pos a hb
  refine ⟨by omega, by omega, fun z => ⟨Int.ediv_nonneg z (by omega), Int.ediv_le_self b z⟩, fun z => ⟨?_, ?_⟩⟩
  · apply Int.le_ediv_of_mul_le hb
    have q1 := Int.mul_nonneg (show 0 ≤ -a by omega) (show 0 ≤ b - 1 by omega)
    have q2 : -a * (b - 1) = a - a * b := by grind
    omega
  · have h0 := Int.ediv_le_ediv hb z
    rw [Int.zero_ediv] at h0
    exact h0
theorem c_fdiv {h : AH} {a b : Int} (ha : -4611686018427387904 ≤ a ∧ a ≤ 4611686018427387904) (hb : 0 < b ∧ b ≤ 4611686018427387904) : E mJ9_floorDiv_f86c9 [aJ a, aJ b] h = some (some (aJ (a / b)), h) := by
  have hx := xor_neg (a := a) (b := b) (by omega) (by omega)
  have hd := div_b (a := a) hb.1
  have hm : a / b * b = b * (a / b) := Int.mul_comm _ _
  have hte := Int.tdiv_eq_ediv (a := a) (b := b)
  rw [e_J9_floorDiv_f86c9]
  by_cases h0 : 0 ≤ a
  · rw [if_pos (Or.inl h0)] at hte
    have e1 : w64 (a.tdiv b) = a / b := by rw [w64_in] <;> omega
    (repeat' (first | (simp only [↓reduceIte, not_true_eq_false, not_false_eq_true, eq_self, ↓x_J9_floorDiv_f86c9_0, ↓x_J9_floorDiv_f86c9_1, ↓x_J9_floorDiv_f86c9_2, ↓x_J9_floorDiv_f86c9_3, ↓x_J9_floorDiv_f86c9_5, ↓x_J9_floorDiv_f86c9_6, ↓x_J9_floorDiv_f86c9_7, ↓x_J9_floorDiv_f86c9_8, ↓x_J9_floorDiv_f86c9_9, ↓x_J9_floorDiv_f86c9_10, ↓x_J9_floorDiv_f86c9_13, ↓x_J9_floorDiv_f86c9_15, ↓x_J9_floorDiv_f86c9_16, ↓x_J9_floorDiv_f86c9_17, ↓x_J9_floorDiv_f86c9_18, ↓x_J9_floorDiv_f86c9_19, ↓x_J9_floorDiv_f86c9_22, ↓x_J9_floorDiv_f86c9_24, ↓x_J9_floorDiv_f86c9_25, ↓x_J9_floorDiv_f86c9_26, ↓x_J9_floorDiv_f86c9_27, ↓x_J9_floorDiv_f86c9_29, e1, fc_eq, fc_le, fc_ge, fc_lt, fc_gt]) | rw [if_pos (by omega)] | rw [if_neg (by omega)] | split))
  · by_cases h1 : b ∣ a
    · rw [if_pos (Or.inr h1)] at hte
      have e1 : w64 (a.tdiv b) = a / b := by rw [w64_in] <;> omega
      have e2 : w64 (a / b * b) = a := by
        have := Int.ediv_mul_cancel h1
        rw [w64_in] <;> omega
      (repeat' (first | (simp only [↓reduceIte, not_true_eq_false, not_false_eq_true, eq_self, ↓x_J9_floorDiv_f86c9_0, ↓x_J9_floorDiv_f86c9_1, ↓x_J9_floorDiv_f86c9_2, ↓x_J9_floorDiv_f86c9_3, ↓x_J9_floorDiv_f86c9_5, ↓x_J9_floorDiv_f86c9_6, ↓x_J9_floorDiv_f86c9_7, ↓x_J9_floorDiv_f86c9_8, ↓x_J9_floorDiv_f86c9_9, ↓x_J9_floorDiv_f86c9_10, ↓x_J9_floorDiv_f86c9_13, ↓x_J9_floorDiv_f86c9_15, ↓x_J9_floorDiv_f86c9_16, ↓x_J9_floorDiv_f86c9_17, ↓x_J9_floorDiv_f86c9_18, ↓x_J9_floorDiv_f86c9_19, ↓x_J9_floorDiv_f86c9_22, ↓x_J9_floorDiv_f86c9_24, ↓x_J9_floorDiv_f86c9_25, ↓x_J9_floorDiv_f86c9_26, ↓x_J9_floorDiv_f86c9_27, ↓x_J9_floorDiv_f86c9_29, e1, e2, fc_eq, fc_le, fc_ge, fc_lt, fc_gt]) | rw [if_pos (by omega)] | rw [if_neg (by omega)] | split))
    · rw [if_neg (fun q => q.elim h0 h1), Int.sign_eq_one_of_pos hb.1] at hte
      have e1 : w64 (a.tdiv b) = a / b + 1 := by rw [w64_in] <;> omega
      have e4 : (a / b + 1) * b = b * (a / b) + b := by rw [Int.add_mul, Int.one_mul, hm]
      have e2 : w64 ((a / b + 1) * b) = b * (a / b) + b := by rw [e4, w64_in] <;> omega
      have e3 : w64 (a / b + 1 - 1) = a / b := by rw [w64_in] <;> omega
      have e5 : ¬ (b * (a / b) + b = a) := by omega
      (repeat' (first | (simp only [↓reduceIte, not_true_eq_false, not_false_eq_true, eq_self, ↓x_J9_floorDiv_f86c9_0, ↓x_J9_floorDiv_f86c9_1, ↓x_J9_floorDiv_f86c9_2, ↓x_J9_floorDiv_f86c9_3, ↓x_J9_floorDiv_f86c9_5, ↓x_J9_floorDiv_f86c9_6, ↓x_J9_floorDiv_f86c9_7, ↓x_J9_floorDiv_f86c9_8, ↓x_J9_floorDiv_f86c9_9, ↓x_J9_floorDiv_f86c9_10, ↓x_J9_floorDiv_f86c9_13, ↓x_J9_floorDiv_f86c9_15, ↓x_J9_floorDiv_f86c9_16, ↓x_J9_floorDiv_f86c9_17, ↓x_J9_floorDiv_f86c9_18, ↓x_J9_floorDiv_f86c9_19, ↓x_J9_floorDiv_f86c9_22, ↓x_J9_floorDiv_f86c9_24, ↓x_J9_floorDiv_f86c9_25, ↓x_J9_floorDiv_f86c9_26, ↓x_J9_floorDiv_f86c9_27, ↓x_J9_floorDiv_f86c9_29, e1, e2, e3, e5, fc_eq, fc_le, fc_ge, fc_lt, fc_gt]) | rw [if_pos (by omega)] | rw [if_neg (by omega)] | split))
theorem sg_pos {x : Int} (h : 0 < x) : sg x = 1 := by unfold sg; rw [if_pos h]
theorem sg_neg {x : Int} (h : x < 0) : sg x = -1 := by unfold sg; rw [if_neg (by omega), if_neg (by omega)]
theorem sg_zero : sg 0 = 0 := rfl
theorem sg_flip (x : Int) : sg (-x) = -sg x := by
  unfold sg
  split <;> (try split) <;> (try split) <;> (try split) <;> omega
theorem sg_b (x : Int) : -1 ≤ sg x ∧ sg x ≤ 1 := by
  unfold sg
  split <;> (try split) <;> omega
/-- one turn: the wholes are alike, the rests are held against each other upside down -/
theorem sg_turn {a b c d q : Int} : sg (b * (c - q * d) - d * (a - q * b)) = -sg (a * d - c * b) := by
  rw [← sg_flip]
  congr 1
  grind
theorem sg_gt {a b c d : Int} (hb : 0 < b) (hd : 0 < d) (h : c / d < a / b) : sg (a * d - c * b) = 1 := by
  apply sg_pos
  have h1 := div_b (a := a) hb
  have h2 := div_b (a := c) hd
  have h3 : c < d * (a / b) := by
    have : d * (c / d) + d ≤ d * (a / b) := by
      have := Int.mul_le_mul_of_nonneg_left (show c / d + 1 ≤ a / b by omega) (show 0 ≤ d by omega)
      rw [Int.mul_add, Int.mul_one] at this
      exact this
    omega
  have h4 : c * b < d * (a / b) * b := Int.mul_lt_mul_of_pos_right h3 hb
  have h5 : b * (a / b) * d ≤ a * d := Int.mul_le_mul_of_nonneg_right h1.1 (by omega)
  have h6 : b * (a / b) * d = d * (a / b) * b := by grind
  omega
theorem sg_lt {a b c d : Int} (hb : 0 < b) (hd : 0 < d) (h : a / b < c / d) : sg (a * d - c * b) = -1 := by
  have := sg_gt hd hb h
  have e : a * d - c * b = -(c * b - a * d) := by omega
  rw [e, sg_flip, this]

theorem ts_sg {x : Int} (h : x = 1 ∨ x = -1) : -1 ≤ x ∧ x ≤ 1 ∧ w32 (-x) = -x := by
  rcases h with h | h <;> subst h <;> refine ⟨by decide, by decide, by decide⟩
theorem l_weigh0 {h : AH} {a0 b0 c0 d0 : Int} (k : Nat) (a b c d s : Int) (v18 v19 v20 v21 v22 v23 v24 v25 : AV) (hb : 0 ≤ b) (hab : b = 0 → 0 < a) (hk : k ≤ 190) (hd : 0 ≤ d) (hdc : d = 0 → 0 < c) (hs : s = 1 ∨ s = -1) (hz : b = 0 ∨ d = 0) :
    X mX0_weigh 20 [aJ a0, aU, aJ b0, aU, aJ c0, aU, aJ d0, aU, aJ a, aU, aJ b, aU, aJ c, aU, aJ d, aU, aI s, aI k, v18, v19, v20, v21, v22, v23, v24, v25] [] h = some (some (aI (s * sg (a * d - c * b))), h) := by
  obtain ⟨t1, t2, t3⟩ := ts_sg hs
  rw [x_X0_weigh_20]
  by_cases hb0 : b = 0
  · subst hb0
    by_cases hd0 : d = 0
    · subst hd0
      have e : s * sg (a * 0 - c * 0) = 0 := by simp [sg]
      rw [e]
      (repeat' (first | (simp only [↓reduceIte, not_true_eq_false, not_false_eq_true, eq_self, ↓x_X0_weigh_0, ↓x_X0_weigh_1, ↓x_X0_weigh_3, ↓x_X0_weigh_4, ↓x_X0_weigh_6, ↓x_X0_weigh_8, ↓x_X0_weigh_10, ↓x_X0_weigh_12, ↓x_X0_weigh_14, ↓x_X0_weigh_15, ↓x_X0_weigh_17, ↓x_X0_weigh_18, ↓x_X0_weigh_22, ↓x_X0_weigh_25, ↓x_X0_weigh_28, ↓x_X0_weigh_30, ↓x_X0_weigh_31, ↓x_X0_weigh_32, ↓x_X0_weigh_35, ↓x_X0_weigh_37, ↓x_X0_weigh_38, ↓x_X0_weigh_39, ↓x_X0_weigh_42, ↓x_X0_weigh_44, ↓x_X0_weigh_46, ↓x_X0_weigh_49, ↓x_X0_weigh_51, ↓x_X0_weigh_53, ↓x_X0_weigh_55, ↓x_X0_weigh_58, ↓x_X0_weigh_60, ↓x_X0_weigh_62, ↓x_X0_weigh_64, ↓x_X0_weigh_65, ↓x_X0_weigh_68, ↓x_X0_weigh_70, ↓x_X0_weigh_72, ↓x_X0_weigh_73, ↓x_X0_weigh_76, ↓x_X0_weigh_78, ↓x_X0_weigh_81, ↓x_X0_weigh_83, ↓x_X0_weigh_84, ↓x_X0_weigh_85, ↓x_X0_weigh_87, ↓x_X0_weigh_89, ↓x_X0_weigh_91, ↓x_X0_weigh_92, ↓x_X0_weigh_93, ↓x_X0_weigh_95, ↓x_X0_weigh_97, ↓x_X0_weigh_99, ↓x_X0_weigh_101, ↓x_X0_weigh_102, ↓x_X0_weigh_103, ↓x_X0_weigh_105, ↓x_X0_weigh_107, ↓x_X0_weigh_109, ↓x_X0_weigh_111, ↓x_X0_weigh_113, ↓x_X0_weigh_115, ↓x_X0_weigh_117, ↓x_X0_weigh_119, ↓x_X0_weigh_121, ↓x_X0_weigh_123, ↓x_X0_weigh_124, ↓x_X0_weigh_126, ↓x_X0_weigh_129, ↓x_X0_weigh_132, ↓x_X0_weigh_134, ↓x_X0_weigh_136, ↓x_X0_weigh_137, ↓x_X0_weigh_140, ↓x_X0_weigh_141, ↓x_X0_weigh_142, ↓x_X0_weigh_144, ↓x_X0_weigh_145, ↓x_X0_weigh_146, ↓x_X0_weigh_149, ↓x_X0_weigh_151, ↓x_X0_weigh_154, ↓x_X0_weigh_156, ↓x_X0_weigh_157, fc_eq, fc_le, fc_ge, fc_lt, fc_gt]) | rw [if_pos (by omega)] | rw [if_neg (by omega)] | split))
    · have e : sg (a * d - c * 0) = 1 := by
        apply sg_pos
        have := Int.mul_pos (hab rfl) (show 0 < d by omega)
        omega
      rw [e, Int.mul_one]
      (repeat' (first | (simp only [↓reduceIte, not_true_eq_false, not_false_eq_true, eq_self, ↓x_X0_weigh_0, ↓x_X0_weigh_1, ↓x_X0_weigh_3, ↓x_X0_weigh_4, ↓x_X0_weigh_6, ↓x_X0_weigh_8, ↓x_X0_weigh_10, ↓x_X0_weigh_12, ↓x_X0_weigh_14, ↓x_X0_weigh_15, ↓x_X0_weigh_17, ↓x_X0_weigh_18, ↓x_X0_weigh_22, ↓x_X0_weigh_25, ↓x_X0_weigh_28, ↓x_X0_weigh_30, ↓x_X0_weigh_31, ↓x_X0_weigh_32, ↓x_X0_weigh_35, ↓x_X0_weigh_37, ↓x_X0_weigh_38, ↓x_X0_weigh_39, ↓x_X0_weigh_42, ↓x_X0_weigh_44, ↓x_X0_weigh_46, ↓x_X0_weigh_49, ↓x_X0_weigh_51, ↓x_X0_weigh_53, ↓x_X0_weigh_55, ↓x_X0_weigh_58, ↓x_X0_weigh_60, ↓x_X0_weigh_62, ↓x_X0_weigh_64, ↓x_X0_weigh_65, ↓x_X0_weigh_68, ↓x_X0_weigh_70, ↓x_X0_weigh_72, ↓x_X0_weigh_73, ↓x_X0_weigh_76, ↓x_X0_weigh_78, ↓x_X0_weigh_81, ↓x_X0_weigh_83, ↓x_X0_weigh_84, ↓x_X0_weigh_85, ↓x_X0_weigh_87, ↓x_X0_weigh_89, ↓x_X0_weigh_91, ↓x_X0_weigh_92, ↓x_X0_weigh_93, ↓x_X0_weigh_95, ↓x_X0_weigh_97, ↓x_X0_weigh_99, ↓x_X0_weigh_101, ↓x_X0_weigh_102, ↓x_X0_weigh_103, ↓x_X0_weigh_105, ↓x_X0_weigh_107, ↓x_X0_weigh_109, ↓x_X0_weigh_111, ↓x_X0_weigh_113, ↓x_X0_weigh_115, ↓x_X0_weigh_117, ↓x_X0_weigh_119, ↓x_X0_weigh_121, ↓x_X0_weigh_123, ↓x_X0_weigh_124, ↓x_X0_weigh_126, ↓x_X0_weigh_129, ↓x_X0_weigh_132, ↓x_X0_weigh_134, ↓x_X0_weigh_136, ↓x_X0_weigh_137, ↓x_X0_weigh_140, ↓x_X0_weigh_141, ↓x_X0_weigh_142, ↓x_X0_weigh_144, ↓x_X0_weigh_145, ↓x_X0_weigh_146, ↓x_X0_weigh_149, ↓x_X0_weigh_151, ↓x_X0_weigh_154, ↓x_X0_weigh_156, ↓x_X0_weigh_157, fc_eq, fc_le, fc_ge, fc_lt, fc_gt]) | rw [if_pos (by omega)] | rw [if_neg (by omega)] | split))
  · have hd0 : d = 0 := by omega
    subst hd0
    have e : sg (a * 0 - c * b) = -1 := by
      apply sg_neg
      have := Int.mul_pos (hdc rfl) (show 0 < b by omega)
      omega
    rw [e, Int.mul_neg, Int.mul_one]
    (repeat' (first | (simp only [↓reduceIte, not_true_eq_false, not_false_eq_true, eq_self, ↓x_X0_weigh_0, ↓x_X0_weigh_1, ↓x_X0_weigh_3, ↓x_X0_weigh_4, ↓x_X0_weigh_6, ↓x_X0_weigh_8, ↓x_X0_weigh_10, ↓x_X0_weigh_12, ↓x_X0_weigh_14, ↓x_X0_weigh_15, ↓x_X0_weigh_17, ↓x_X0_weigh_18, ↓x_X0_weigh_22, ↓x_X0_weigh_25, ↓x_X0_weigh_28, ↓x_X0_weigh_30, ↓x_X0_weigh_31, ↓x_X0_weigh_32, ↓x_X0_weigh_35, ↓x_X0_weigh_37, ↓x_X0_weigh_38, ↓x_X0_weigh_39, ↓x_X0_weigh_42, ↓x_X0_weigh_44, ↓x_X0_weigh_46, ↓x_X0_weigh_49, ↓x_X0_weigh_51, ↓x_X0_weigh_53, ↓x_X0_weigh_55, ↓x_X0_weigh_58, ↓x_X0_weigh_60, ↓x_X0_weigh_62, ↓x_X0_weigh_64, ↓x_X0_weigh_65, ↓x_X0_weigh_68, ↓x_X0_weigh_70, ↓x_X0_weigh_72, ↓x_X0_weigh_73, ↓x_X0_weigh_76, ↓x_X0_weigh_78, ↓x_X0_weigh_81, ↓x_X0_weigh_83, ↓x_X0_weigh_84, ↓x_X0_weigh_85, ↓x_X0_weigh_87, ↓x_X0_weigh_89, ↓x_X0_weigh_91, ↓x_X0_weigh_92, ↓x_X0_weigh_93, ↓x_X0_weigh_95, ↓x_X0_weigh_97, ↓x_X0_weigh_99, ↓x_X0_weigh_101, ↓x_X0_weigh_102, ↓x_X0_weigh_103, ↓x_X0_weigh_105, ↓x_X0_weigh_107, ↓x_X0_weigh_109, ↓x_X0_weigh_111, ↓x_X0_weigh_113, ↓x_X0_weigh_115, ↓x_X0_weigh_117, ↓x_X0_weigh_119, ↓x_X0_weigh_121, ↓x_X0_weigh_123, ↓x_X0_weigh_124, ↓x_X0_weigh_126, ↓x_X0_weigh_129, ↓x_X0_weigh_132, ↓x_X0_weigh_134, ↓x_X0_weigh_136, ↓x_X0_weigh_137, ↓x_X0_weigh_140, ↓x_X0_weigh_141, ↓x_X0_weigh_142, ↓x_X0_weigh_144, ↓x_X0_weigh_145, ↓x_X0_weigh_146, ↓x_X0_weigh_149, ↓x_X0_weigh_151, ↓x_X0_weigh_154, ↓x_X0_weigh_156, ↓x_X0_weigh_157, fc_eq, fc_le, fc_ge, fc_lt, fc_gt, t3]) | rw [if_pos (by omega)] | rw [if_neg (by omega)] | split))
/-- one turn of the loop, both lower numbers above 0 -/
theorem l_weigh1 {h : AH} {a0 b0 c0 d0 : Int} (k : Nat) (a b c d s : Int) (v18 v19 v20 v21 v22 v23 v24 v25 : AV) (hb : 0 < b ∧ b ≤ 4611686018427387904) (hk : k ≤ 190) (hd : 0 < d ∧ d ≤ 4611686018427387904) (hs : s = 1 ∨ s = -1) (ha : -4611686018427387904 ≤ a ∧ a ≤ 4611686018427387904) (hc : -4611686018427387904 ≤ c ∧ c ≤ 4611686018427387904)
    (ih : ∀ (v18 v19 v20 v21 v22 v23 v24 v25 : AV), a / b = c / d → X mX0_weigh 20 [aJ a0, aU, aJ b0, aU, aJ c0, aU, aJ d0, aU, aJ b, aU, aJ (a - a / b * b), aU, aJ d, aU, aJ (c - c / d * d), aU, aI (-s), aI ((k + 1 : Nat) : Int), v18, v19, v20, v21, v22, v23, v24, v25] [] h = some (some (aI (-s * sg (b * (c - c / d * d) - d * (a - a / b * b)))), h)) :
    X mX0_weigh 20 [aJ a0, aU, aJ b0, aU, aJ c0, aU, aJ d0, aU, aJ a, aU, aJ b, aU, aJ c, aU, aJ d, aU, aI s, aI k, v18, v19, v20, v21, v22, v23, v24, v25] [] h = some (some (aI (s * sg (a * d - c * b))), h) := by
  obtain ⟨t1, t2, t3⟩ := ts_sg hs
  have e5 : w32 ((k : Int) + 1) = ((k + 1 : Nat) : Int) := by rw [w32_in] <;> omega
  have k1 : ¬ ((200 : Int) ≤ (k : Int)) := by omega
  have k2 : ¬ (b ≤ 0) := by omega
  have k3 : ¬ (d ≤ 0) := by omega
  have f1 := c_fdiv (h := h) ha hb
  have f2 := c_fdiv (h := h) hc hd
  have step : ∀ {a b : Int}, 0 < b → b ≤ 4611686018427387904 → -4611686018427387904 ≤ a → a ≤ 4611686018427387904 → w64 (a / b * b) = a / b * b ∧ w64 (a - a / b * b) = a - a / b * b := by
    intro a b h1 h2 h3 h4
    have hq := div_b (a := a) h1
    have m1 : a / b * b = b * (a / b) := Int.mul_comm _ _
    rw [m1]
    exact ⟨w64_in (by omega) (by omega), w64_in (by omega) (by omega)⟩
  obtain ⟨e1, e3⟩ := step hb.1 hb.2 ha.1 ha.2
  obtain ⟨e2, e4⟩ := step hd.1 hd.2 hc.1 hc.2
  rw [x_X0_weigh_20]
  rcases Int.lt_trichotomy (a / b) (c / d) with q | q | q
  · have k4 : ¬ (a / b = c / d) := by omega
    have k5 : a / b ≤ c / d := by omega
    rw [sg_lt hb.1 hd.1 q, Int.mul_neg, Int.mul_one]
    simp only [↓reduceIte, not_true_eq_false, not_false_eq_true, ↓x_X0_weigh_0, ↓x_X0_weigh_1, ↓x_X0_weigh_3, ↓x_X0_weigh_4, ↓x_X0_weigh_6, ↓x_X0_weigh_8, ↓x_X0_weigh_10, ↓x_X0_weigh_12, ↓x_X0_weigh_14, ↓x_X0_weigh_15, ↓x_X0_weigh_17, ↓x_X0_weigh_18, ↓x_X0_weigh_22, ↓x_X0_weigh_25, ↓x_X0_weigh_28, ↓x_X0_weigh_30, ↓x_X0_weigh_31, ↓x_X0_weigh_32, ↓x_X0_weigh_35, ↓x_X0_weigh_37, ↓x_X0_weigh_38, ↓x_X0_weigh_39, ↓x_X0_weigh_42, ↓x_X0_weigh_44, ↓x_X0_weigh_46, ↓x_X0_weigh_49, ↓x_X0_weigh_51, ↓x_X0_weigh_53, ↓x_X0_weigh_55, ↓x_X0_weigh_58, ↓x_X0_weigh_60, ↓x_X0_weigh_62, ↓x_X0_weigh_64, ↓x_X0_weigh_65, ↓x_X0_weigh_68, ↓x_X0_weigh_70, ↓x_X0_weigh_72, ↓x_X0_weigh_73, ↓x_X0_weigh_76, ↓x_X0_weigh_78, ↓x_X0_weigh_81, ↓x_X0_weigh_83, ↓x_X0_weigh_84, ↓x_X0_weigh_85, ↓x_X0_weigh_87, ↓x_X0_weigh_89, ↓x_X0_weigh_91, ↓x_X0_weigh_92, ↓x_X0_weigh_93, ↓x_X0_weigh_95, ↓x_X0_weigh_97, ↓x_X0_weigh_99, ↓x_X0_weigh_101, ↓x_X0_weigh_102, ↓x_X0_weigh_103, ↓x_X0_weigh_105, ↓x_X0_weigh_107, ↓x_X0_weigh_109, ↓x_X0_weigh_111, ↓x_X0_weigh_113, ↓x_X0_weigh_115, ↓x_X0_weigh_117, ↓x_X0_weigh_119, ↓x_X0_weigh_121, ↓x_X0_weigh_123, ↓x_X0_weigh_124, ↓x_X0_weigh_126, ↓x_X0_weigh_129, ↓x_X0_weigh_132, ↓x_X0_weigh_134, ↓x_X0_weigh_136, ↓x_X0_weigh_137, ↓x_X0_weigh_140, ↓x_X0_weigh_141, ↓x_X0_weigh_142, ↓x_X0_weigh_144, ↓x_X0_weigh_145, ↓x_X0_weigh_146, ↓x_X0_weigh_149, ↓x_X0_weigh_151, ↓x_X0_weigh_154, ↓x_X0_weigh_156, ↓x_X0_weigh_157, ↓cKJ f1, ↓cKJ f2, fc_eq, fc_le, fc_ge, fc_lt, fc_gt, k1, k2, k3, k4, k5, t3]
  · have k4 := q
    rw [show sg (a * d - c * b) = -sg (b * (c - c / d * d) - d * (a - a / b * b)) by rw [q, sg_turn, Int.neg_neg], Int.mul_neg, ← Int.neg_mul]
    have ih' := ih (aJ (c / d)) aU (aJ (c / d)) aU (aJ (a - a / b * b)) aU (aJ (c - c / d * d)) aU q
    rw [q] at ih' e1 e3
    simp only [↓reduceIte, not_true_eq_false, not_false_eq_true, ↓x_X0_weigh_0, ↓x_X0_weigh_1, ↓x_X0_weigh_3, ↓x_X0_weigh_4, ↓x_X0_weigh_6, ↓x_X0_weigh_8, ↓x_X0_weigh_10, ↓x_X0_weigh_12, ↓x_X0_weigh_14, ↓x_X0_weigh_15, ↓x_X0_weigh_17, ↓x_X0_weigh_18, ↓x_X0_weigh_22, ↓x_X0_weigh_25, ↓x_X0_weigh_28, ↓x_X0_weigh_30, ↓x_X0_weigh_31, ↓x_X0_weigh_32, ↓x_X0_weigh_35, ↓x_X0_weigh_37, ↓x_X0_weigh_38, ↓x_X0_weigh_39, ↓x_X0_weigh_42, ↓x_X0_weigh_44, ↓x_X0_weigh_46, ↓x_X0_weigh_49, ↓x_X0_weigh_51, ↓x_X0_weigh_53, ↓x_X0_weigh_55, ↓x_X0_weigh_58, ↓x_X0_weigh_60, ↓x_X0_weigh_62, ↓x_X0_weigh_64, ↓x_X0_weigh_65, ↓x_X0_weigh_68, ↓x_X0_weigh_70, ↓x_X0_weigh_72, ↓x_X0_weigh_73, ↓x_X0_weigh_76, ↓x_X0_weigh_78, ↓x_X0_weigh_81, ↓x_X0_weigh_83, ↓x_X0_weigh_84, ↓x_X0_weigh_85, ↓x_X0_weigh_87, ↓x_X0_weigh_89, ↓x_X0_weigh_91, ↓x_X0_weigh_92, ↓x_X0_weigh_93, ↓x_X0_weigh_95, ↓x_X0_weigh_97, ↓x_X0_weigh_99, ↓x_X0_weigh_101, ↓x_X0_weigh_102, ↓x_X0_weigh_103, ↓x_X0_weigh_105, ↓x_X0_weigh_107, ↓x_X0_weigh_109, ↓x_X0_weigh_111, ↓x_X0_weigh_113, ↓x_X0_weigh_115, ↓x_X0_weigh_117, ↓x_X0_weigh_119, ↓x_X0_weigh_121, ↓x_X0_weigh_123, ↓x_X0_weigh_124, ↓x_X0_weigh_126, ↓x_X0_weigh_129, ↓x_X0_weigh_132, ↓x_X0_weigh_134, ↓x_X0_weigh_136, ↓x_X0_weigh_137, ↓x_X0_weigh_140, ↓x_X0_weigh_141, ↓x_X0_weigh_142, ↓x_X0_weigh_144, ↓x_X0_weigh_145, ↓x_X0_weigh_146, ↓x_X0_weigh_149, ↓x_X0_weigh_151, ↓x_X0_weigh_154, ↓x_X0_weigh_156, ↓x_X0_weigh_157, ↓cKJ f1, ↓cKJ f2, fc_eq, fc_le, fc_ge, fc_lt, fc_gt, k1, k2, k3, k4, e1, e2, e3, e4, e5, t3]
    exact ih'
  · have k4 : ¬ (a / b = c / d) := by omega
    have k5 : ¬ (a / b ≤ c / d) := by omega
    rw [sg_gt hb.1 hd.1 q, Int.mul_one]
    simp only [↓reduceIte, not_true_eq_false, not_false_eq_true, ↓x_X0_weigh_0, ↓x_X0_weigh_1, ↓x_X0_weigh_3, ↓x_X0_weigh_4, ↓x_X0_weigh_6, ↓x_X0_weigh_8, ↓x_X0_weigh_10, ↓x_X0_weigh_12, ↓x_X0_weigh_14, ↓x_X0_weigh_15, ↓x_X0_weigh_17, ↓x_X0_weigh_18, ↓x_X0_weigh_22, ↓x_X0_weigh_25, ↓x_X0_weigh_28, ↓x_X0_weigh_30, ↓x_X0_weigh_31, ↓x_X0_weigh_32, ↓x_X0_weigh_35, ↓x_X0_weigh_37, ↓x_X0_weigh_38, ↓x_X0_weigh_39, ↓x_X0_weigh_42, ↓x_X0_weigh_44, ↓x_X0_weigh_46, ↓x_X0_weigh_49, ↓x_X0_weigh_51, ↓x_X0_weigh_53, ↓x_X0_weigh_55, ↓x_X0_weigh_58, ↓x_X0_weigh_60, ↓x_X0_weigh_62, ↓x_X0_weigh_64, ↓x_X0_weigh_65, ↓x_X0_weigh_68, ↓x_X0_weigh_70, ↓x_X0_weigh_72, ↓x_X0_weigh_73, ↓x_X0_weigh_76, ↓x_X0_weigh_78, ↓x_X0_weigh_81, ↓x_X0_weigh_83, ↓x_X0_weigh_84, ↓x_X0_weigh_85, ↓x_X0_weigh_87, ↓x_X0_weigh_89, ↓x_X0_weigh_91, ↓x_X0_weigh_92, ↓x_X0_weigh_93, ↓x_X0_weigh_95, ↓x_X0_weigh_97, ↓x_X0_weigh_99, ↓x_X0_weigh_101, ↓x_X0_weigh_102, ↓x_X0_weigh_103, ↓x_X0_weigh_105, ↓x_X0_weigh_107, ↓x_X0_weigh_109, ↓x_X0_weigh_111, ↓x_X0_weigh_113, ↓x_X0_weigh_115, ↓x_X0_weigh_117, ↓x_X0_weigh_119, ↓x_X0_weigh_121, ↓x_X0_weigh_123, ↓x_X0_weigh_124, ↓x_X0_weigh_126, ↓x_X0_weigh_129, ↓x_X0_weigh_132, ↓x_X0_weigh_134, ↓x_X0_weigh_136, ↓x_X0_weigh_137, ↓x_X0_weigh_140, ↓x_X0_weigh_141, ↓x_X0_weigh_142, ↓x_X0_weigh_144, ↓x_X0_weigh_145, ↓x_X0_weigh_146, ↓x_X0_weigh_149, ↓x_X0_weigh_151, ↓x_X0_weigh_154, ↓x_X0_weigh_156, ↓x_X0_weigh_157, ↓cKJ f1, ↓cKJ f2, fc_eq, fc_le, fc_ge, fc_lt, fc_gt, k1, k2, k3, k4, k5, t3]
theorem nsg {s : Int} (h : s = 1 ∨ s = -1) : -s = 1 ∨ -s = -1 := by omega
/-- a turn halves the product of both numbers of a side -/
theorem half {a b j : Int} (hb : 0 < b) (hab : b < a) (h : a * b < 2 * j) : b * (a - a / b * b) < j := by
  have hq := div_b (a := a) hb
  have hr : 2 * (a - a / b * b) ≤ a := by
    have h1 : 1 ≤ a / b := Int.le_ediv_of_mul_le hb (by omega)
    have h2 := Int.mul_nonneg (show 0 ≤ a / b - 1 by omega) (show 0 ≤ b by omega)
    have h3 : (a / b - 1) * b = a / b * b - b := by rw [Int.sub_mul, Int.one_mul]
    rw [Int.mul_comm b] at hq
    omega
  have h4 := Int.mul_le_mul_of_nonneg_left hr (show 0 ≤ b by omega)
  have h5 : b * (2 * (a - a / b * b)) = 2 * (b * (a - a / b * b)) := by rw [← Int.mul_assoc, Int.mul_comm b 2, Int.mul_assoc]
  have h6 : b * a = a * b := Int.mul_comm _ _
  omega
theorem l_weigh {h : AH} {a0 b0 c0 d0 : Int} : ∀ (j : Nat) (k : Nat) (a b c d s : Int) (v18 v19 v20 v21 v22 v23 v24 v25 : AV), 0 ≤ b → b < a → a * b < 2 ^ j → k + j ≤ 190 → 0 ≤ d → (d = 0 → 0 < c) → (s = 1 ∨ s = -1) → a ≤ 4611686018427387904 → -4611686018427387904 ≤ c → c ≤ 4611686018427387904 → d ≤ 4611686018427387904 →
    X mX0_weigh 20 [aJ a0, aU, aJ b0, aU, aJ c0, aU, aJ d0, aU, aJ a, aU, aJ b, aU, aJ c, aU, aJ d, aU, aI s, aI k, v18, v19, v20, v21, v22, v23, v24, v25] [] h = some (some (aI (s * sg (a * d - c * b))), h) := by
  intro j
  induction j with
  | zero =>
    intro k a b c d s v18 v19 v20 v21 v22 v23 v24 v25 hb hab hj hk hd hdc hs ha hc1 hc2 hd2
    have hb0 : b = 0 := by
      rcases Int.lt_or_le 0 b with q | q
      · have := Int.mul_le_mul_of_nonneg_right (show 1 ≤ a by omega) (show 0 ≤ b by omega)
        omega
      · omega
    exact l_weigh0 k a b c d s v18 v19 v20 v21 v22 v23 v24 v25 hb (fun _ => by omega) (by omega) hd hdc hs (Or.inl hb0)
  | succ j ih =>
    intro k a b c d s v18 v19 v20 v21 v22 v23 v24 v25 hb hab hj hk hd hdc hs ha hc1 hc2 hd2
    by_cases hz : b = 0 ∨ d = 0
    · exact l_weigh0 k a b c d s v18 v19 v20 v21 v22 v23 v24 v25 hb (fun _ => by omega) (by omega) hd hdc hs hz
    · have hb1 : 0 < b := by omega
      have hd1 : 0 < d := by omega
      refine l_weigh1 k a b c d s v18 v19 v20 v21 v22 v23 v24 v25 ⟨hb1, by omega⟩ (by omega) ⟨hd1, hd2⟩ hs ⟨by omega, ha⟩ ⟨hc1, hc2⟩ ?_
      intro v18 v19 v20 v21 v22 v23 v24 v25 _
      have q1 := div_b (a := a) hb1
      have q2 := div_b (a := c) hd1
      have m1 : a / b * b = b * (a / b) := Int.mul_comm _ _
      have m2 : c / d * d = d * (c / d) := Int.mul_comm _ _
      have hh := half hb1 hab (j := 2 ^ j) (by rw [Int.pow_succ] at hj; omega)
      have := ih (k + 1) b (a - a / b * b) d (c - c / d * d) (-s) v18 v19 v20 v21 v22 v23 v24 v25 (by omega) (by omega) hh (by omega) (by omega) (fun _ => hd1) (nsg hs) (by omega) (by omega) hd2 (by omega)
      exact this
/-- weigh: 1, 0, -1 as a by b is greater than, like, less than c by d -/
theorem c_weigh {h : AH} {a b c d : Int} (ha : -4611686018427387904 ≤ a ∧ a ≤ 4611686018427387904) (hb : 0 < b ∧ b ≤ 4611686018427387904) (hc : -4611686018427387904 ≤ c ∧ c ≤ 4611686018427387904) (hd : 0 < d ∧ d ≤ 4611686018427387904) : E mX0_weigh [aJ a, aJ b, aJ c, aJ d] h = some (some (aI (sg (a * d - c * b))), h) := by
  rw [e_X0_weigh]
  simp only [↓reduceIte, ↓x_X0_weigh_0, ↓x_X0_weigh_1, ↓x_X0_weigh_3, ↓x_X0_weigh_4, ↓x_X0_weigh_6, ↓x_X0_weigh_8, ↓x_X0_weigh_10, ↓x_X0_weigh_12, ↓x_X0_weigh_14, ↓x_X0_weigh_15, ↓x_X0_weigh_17, ↓x_X0_weigh_18, ↓x_X0_weigh_22, ↓x_X0_weigh_25, ↓x_X0_weigh_28, ↓x_X0_weigh_30, ↓x_X0_weigh_31, ↓x_X0_weigh_32, ↓x_X0_weigh_35, ↓x_X0_weigh_37, ↓x_X0_weigh_38, ↓x_X0_weigh_39, ↓x_X0_weigh_42, ↓x_X0_weigh_44, ↓x_X0_weigh_46, ↓x_X0_weigh_49, ↓x_X0_weigh_51, ↓x_X0_weigh_53, ↓x_X0_weigh_55, ↓x_X0_weigh_58, ↓x_X0_weigh_60, ↓x_X0_weigh_62, ↓x_X0_weigh_64, ↓x_X0_weigh_65, ↓x_X0_weigh_68, ↓x_X0_weigh_70, ↓x_X0_weigh_72, ↓x_X0_weigh_73, ↓x_X0_weigh_76, ↓x_X0_weigh_78, ↓x_X0_weigh_81, ↓x_X0_weigh_83, ↓x_X0_weigh_84, ↓x_X0_weigh_85, ↓x_X0_weigh_87, ↓x_X0_weigh_89, ↓x_X0_weigh_91, ↓x_X0_weigh_92, ↓x_X0_weigh_93, ↓x_X0_weigh_95, ↓x_X0_weigh_97, ↓x_X0_weigh_99, ↓x_X0_weigh_101, ↓x_X0_weigh_102, ↓x_X0_weigh_103, ↓x_X0_weigh_105, ↓x_X0_weigh_107, ↓x_X0_weigh_109, ↓x_X0_weigh_111, ↓x_X0_weigh_113, ↓x_X0_weigh_115, ↓x_X0_weigh_117, ↓x_X0_weigh_119, ↓x_X0_weigh_121, ↓x_X0_weigh_123, ↓x_X0_weigh_124, ↓x_X0_weigh_126, ↓x_X0_weigh_129, ↓x_X0_weigh_132, ↓x_X0_weigh_134, ↓x_X0_weigh_136, ↓x_X0_weigh_137, ↓x_X0_weigh_140, ↓x_X0_weigh_141, ↓x_X0_weigh_142, ↓x_X0_weigh_144, ↓x_X0_weigh_145, ↓x_X0_weigh_146, ↓x_X0_weigh_149, ↓x_X0_weigh_151, ↓x_X0_weigh_154, ↓x_X0_weigh_156, ↓x_X0_weigh_157]
  have := l_weigh1 (h := h) (a0 := a) (b0 := b) (c0 := c) (d0 := d) 0 a b c d 1 aU aU aU aU aU aU aU aU hb (by omega) hd (Or.inl rfl) ha hc ?_
  · rw [Int.one_mul] at this
    exact this
  · intro v18 v19 v20 v21 v22 v23 v24 v25 _
    have q1 := div_b (a := a) hb.1
    have q2 := div_b (a := c) hd.1
    have m1 : a / b * b = b * (a / b) := Int.mul_comm _ _
    have m2 : c / d * d = d * (c / d) := Int.mul_comm _ _
    have hp : b * (a - a / b * b) < 2 ^ 126 := by
      have p1 := Int.mul_le_mul_of_nonneg_left (show a - a / b * b ≤ 4611686018427387904 by omega) (show 0 ≤ b by omega)
      have p2 := Int.mul_le_mul_of_nonneg_right hb.2 (show (0 : Int) ≤ 4611686018427387904 by omega)
      have p3 : (4611686018427387904 : Int) * 4611686018427387904 < 2 ^ 126 := by decide
      omega
    exact l_weigh 126 1 b (a - a / b * b) d (c - c / d * d) (-1) v18 v19 v20 v21 v22 v23 v24 v25 (by omega) (by omega) hp (by omega) (by omega) (fun _ => hd.1) (Or.inr rfl) hb.2 (by omega) hd.2 (by omega)
