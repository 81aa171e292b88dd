/-! ===== compared; value; worthOf ===== -/
theorem dvm {a b : Int} (hb : 0 < b) : a / b * b ≤ a ∧ a - b < a / b * b := by
  have h1 := div_b (a := a) hb
  have h2 : a / b * b = b * (a / b) := Int.mul_comm _ _
  omega
theorem lr_cmp {h : AH} {a0 b0 c0 d0 : Int} : ∀ (j : Nat) (a b c d s : Int) (v17 v18 v19 v20 v21 v22 v23 v24 : AV), b.toNat ≤ j → (0 < b ∧ b ≤ 4611686018427387904) → (0 < d ∧ d ≤ 4611686018427387904) → (-4611686018427387904 ≤ a ∧ a ≤ 4611686018427387904) → (-4611686018427387904 ≤ c ∧ c ≤ 4611686018427387904) → (s = 1 ∨ s = -1) →
    X mX5_compared 17 [aJ a0, aU, aJ b0, aU, aJ c0, aU, aJ d0, aU, aJ a, aU, aJ b, aU, aJ c, aU, aJ d, aU, aI s, v17, v18, v19, v20, v21, v22, v23, v24] [] h = some (some (aI (s * sg (a * d - c * b))), h) := by
  intro j
  induction j with
  | zero => intro a b c d s v17 v18 v19 v20 v21 v22 v23 v24 hj hb; omega
  | succ j ih =>
    intro a b c d s v17 v18 v19 v20 v21 v22 v23 v24 hj hb hd ha hc hs
    have cx := c_cutDown (h := h) ha hb
    have cy := c_cutDown (h := h) hc hd
    have d1 := dvm (a := a) hb.1
    have d2 := dvm (a := c) hd.1
    have hsn := ts_sg hs
    have ns : w32 (-s) = -s := hsn.2.2
    rw [x_X5_compared_17]
    by_cases e : a / b = c / d
    · have k1 : w64 (a / b * b) = a / b * b := by clear ns hsn; rw [w64_in] <;> omega
      have k2 : w64 (a - a / b * b) = a - a / b * b := by clear ns hsn k1; rw [w64_in] <;> omega
      have k3 : w64 (c / d * d) = c / d * d := by clear ns hsn k1 k2; rw [w64_in] <;> omega
      have k4 : w64 (c - c / d * d) = c - c / d * d := by clear ns hsn k1 k2 k3; rw [w64_in] <;> omega
      have key := sg_turn (a := a) (b := b) (c := c) (d := d) (q := a / b)
      have e' : c - a / b * d = c - c / d * d := by rw [e]
      rw [e'] at key
      have s80 : X mX5_compared 17 [aJ a0, aU, aJ b0, aU, aJ c0, aU, aJ d0, aU, aJ a, aU, aJ b, aU, aJ c, aU, aJ d, aU, aI s, v17, v18, v19, v20, v21, v22, v23, v24] [] h = X mX5_compared 80 [aJ a0, aU, aJ b0, aU, aJ c0, aU, aJ d0, aU, aJ a, aU, aJ b, aU, aJ c, aU, aJ d, aU, aI s, aJ (a / b), aU, aJ (c / d), aU, aJ (a - a / b * b), aU, aJ (c - c / d * d), aU] [] h := by
        rw [x_X5_compared_17]
        simp only [↓x_X5_compared_0, ↓x_X5_compared_1, ↓x_X5_compared_3, ↓x_X5_compared_4, ↓x_X5_compared_6, ↓x_X5_compared_8, ↓x_X5_compared_10, ↓x_X5_compared_12, ↓x_X5_compared_14, ↓x_X5_compared_15, ↓x_X5_compared_19, ↓x_X5_compared_21, ↓x_X5_compared_24, ↓x_X5_compared_26, ↓x_X5_compared_28, ↓x_X5_compared_30, ↓x_X5_compared_33, ↓x_X5_compared_35, ↓x_X5_compared_37, ↓x_X5_compared_39, ↓x_X5_compared_40, ↓x_X5_compared_43, ↓x_X5_compared_45, ↓x_X5_compared_47, ↓x_X5_compared_48, ↓x_X5_compared_51, ↓x_X5_compared_53, ↓x_X5_compared_56, ↓x_X5_compared_58, ↓x_X5_compared_59, ↓x_X5_compared_60, ↓x_X5_compared_62, ↓x_X5_compared_64, ↓x_X5_compared_66, ↓x_X5_compared_67, ↓x_X5_compared_68, ↓x_X5_compared_70, ↓x_X5_compared_72, ↓x_X5_compared_74, ↓x_X5_compared_76, ↓x_X5_compared_77, ↓x_X5_compared_78, ↓x_X5_compared_82, ↓x_X5_compared_83, ↓x_X5_compared_84, ↓x_X5_compared_87, ↓x_X5_compared_89, ↓x_X5_compared_90, ↓x_X5_compared_91, ↓x_X5_compared_94, ↓x_X5_compared_96, ↓x_X5_compared_98, ↓x_X5_compared_99, ↓x_X5_compared_102, ↓x_X5_compared_103, ↓x_X5_compared_106, ↓x_X5_compared_108, ↓x_X5_compared_109, ↓x_X5_compared_110, ↓x_X5_compared_113, ↓x_X5_compared_115, ↓x_X5_compared_116, ↓x_X5_compared_119, ↓x_X5_compared_121, ↓x_X5_compared_122, ↓x_X5_compared_124, ↓x_X5_compared_126, ↓x_X5_compared_128, ↓x_X5_compared_130, ↓x_X5_compared_132, ↓x_X5_compared_134, ↓x_X5_compared_136, ↓x_X5_compared_138, ↓x_X5_compared_140, ↓x_X5_compared_141, ↓x_X5_compared_143, ↓cKJ cx, ↓cKJ cy, fc_eq, e, ↓reduceIte]
        simp only [← e, k1, k2]
        rw [e, k3, k4]
      rw [← x_X5_compared_17, s80]
      clear k1 k2 k3 k4 s80 cx cy
      generalize hr : a - a / b * b = r at *
      generalize hz : c - c / d * d = z at *
      have rb : 0 ≤ r ∧ r < b := by clear ns hsn; omega
      have zb : 0 ≤ z ∧ z < d := by clear ns hsn; omega
      by_cases r0 : r = 0
      · by_cases z0 : z = 0
        · have k5 : sg (a * d - c * b) = 0 := by
            have : b * z - d * r = 0 := by rw [r0, z0]; omega
            rw [this, sg_zero] at key
            clear ns hsn
            omega
          rw [k5, Int.mul_zero]
          subst r0
          subst z0
          simp only [↓x_X5_compared_0, ↓x_X5_compared_1, ↓x_X5_compared_3, ↓x_X5_compared_4, ↓x_X5_compared_6, ↓x_X5_compared_8, ↓x_X5_compared_10, ↓x_X5_compared_12, ↓x_X5_compared_14, ↓x_X5_compared_15, ↓x_X5_compared_19, ↓x_X5_compared_21, ↓x_X5_compared_24, ↓x_X5_compared_26, ↓x_X5_compared_28, ↓x_X5_compared_30, ↓x_X5_compared_33, ↓x_X5_compared_35, ↓x_X5_compared_37, ↓x_X5_compared_39, ↓x_X5_compared_40, ↓x_X5_compared_43, ↓x_X5_compared_45, ↓x_X5_compared_47, ↓x_X5_compared_48, ↓x_X5_compared_51, ↓x_X5_compared_53, ↓x_X5_compared_56, ↓x_X5_compared_58, ↓x_X5_compared_59, ↓x_X5_compared_60, ↓x_X5_compared_62, ↓x_X5_compared_64, ↓x_X5_compared_66, ↓x_X5_compared_67, ↓x_X5_compared_68, ↓x_X5_compared_70, ↓x_X5_compared_72, ↓x_X5_compared_74, ↓x_X5_compared_76, ↓x_X5_compared_77, ↓x_X5_compared_78, ↓x_X5_compared_80, ↓x_X5_compared_82, ↓x_X5_compared_83, ↓x_X5_compared_84, ↓x_X5_compared_87, ↓x_X5_compared_89, ↓x_X5_compared_90, ↓x_X5_compared_91, ↓x_X5_compared_94, ↓x_X5_compared_96, ↓x_X5_compared_98, ↓x_X5_compared_99, ↓x_X5_compared_102, ↓x_X5_compared_103, ↓x_X5_compared_106, ↓x_X5_compared_108, ↓x_X5_compared_109, ↓x_X5_compared_110, ↓x_X5_compared_113, ↓x_X5_compared_115, ↓x_X5_compared_116, ↓x_X5_compared_119, ↓x_X5_compared_121, ↓x_X5_compared_122, ↓x_X5_compared_124, ↓x_X5_compared_126, ↓x_X5_compared_128, ↓x_X5_compared_130, ↓x_X5_compared_132, ↓x_X5_compared_134, ↓x_X5_compared_136, ↓x_X5_compared_138, ↓x_X5_compared_140, ↓x_X5_compared_141, ↓x_X5_compared_143, fc_eq, not_true_eq_false, ↓reduceIte]
        · have k5 : sg (a * d - c * b) = -1 := by
            have : 0 < b * z - d * r := by
              rw [r0, Int.mul_zero, Int.sub_zero]
              exact Int.mul_pos hb.1 (by clear ns hsn; omega)
            rw [sg_pos this] at key
            clear ns hsn
            omega
          have k6 : s * -1 = -s := by clear ns hsn; omega
          have k7 : ¬ (0 : Int) = z := fun q => z0 q.symm
          rw [k5, k6]
          subst r0
          simp only [↓x_X5_compared_0, ↓x_X5_compared_1, ↓x_X5_compared_3, ↓x_X5_compared_4, ↓x_X5_compared_6, ↓x_X5_compared_8, ↓x_X5_compared_10, ↓x_X5_compared_12, ↓x_X5_compared_14, ↓x_X5_compared_15, ↓x_X5_compared_19, ↓x_X5_compared_21, ↓x_X5_compared_24, ↓x_X5_compared_26, ↓x_X5_compared_28, ↓x_X5_compared_30, ↓x_X5_compared_33, ↓x_X5_compared_35, ↓x_X5_compared_37, ↓x_X5_compared_39, ↓x_X5_compared_40, ↓x_X5_compared_43, ↓x_X5_compared_45, ↓x_X5_compared_47, ↓x_X5_compared_48, ↓x_X5_compared_51, ↓x_X5_compared_53, ↓x_X5_compared_56, ↓x_X5_compared_58, ↓x_X5_compared_59, ↓x_X5_compared_60, ↓x_X5_compared_62, ↓x_X5_compared_64, ↓x_X5_compared_66, ↓x_X5_compared_67, ↓x_X5_compared_68, ↓x_X5_compared_70, ↓x_X5_compared_72, ↓x_X5_compared_74, ↓x_X5_compared_76, ↓x_X5_compared_77, ↓x_X5_compared_78, ↓x_X5_compared_80, ↓x_X5_compared_82, ↓x_X5_compared_83, ↓x_X5_compared_84, ↓x_X5_compared_87, ↓x_X5_compared_89, ↓x_X5_compared_90, ↓x_X5_compared_91, ↓x_X5_compared_94, ↓x_X5_compared_96, ↓x_X5_compared_98, ↓x_X5_compared_99, ↓x_X5_compared_102, ↓x_X5_compared_103, ↓x_X5_compared_106, ↓x_X5_compared_108, ↓x_X5_compared_109, ↓x_X5_compared_110, ↓x_X5_compared_113, ↓x_X5_compared_115, ↓x_X5_compared_116, ↓x_X5_compared_119, ↓x_X5_compared_121, ↓x_X5_compared_122, ↓x_X5_compared_124, ↓x_X5_compared_126, ↓x_X5_compared_128, ↓x_X5_compared_130, ↓x_X5_compared_132, ↓x_X5_compared_134, ↓x_X5_compared_136, ↓x_X5_compared_138, ↓x_X5_compared_140, ↓x_X5_compared_141, ↓x_X5_compared_143, fc_eq, k7, ns, not_true_eq_false, not_false_eq_true, ↓reduceIte]
      · by_cases z0 : z = 0
        · have k5 : sg (a * d - c * b) = 1 := by
            have : b * z - d * r < 0 := by
              rw [z0, Int.mul_zero]
              have := Int.mul_pos hd.1 (show 0 < r by clear ns hsn; omega)
              clear ns hsn
              omega
            rw [sg_neg this] at key
            clear ns hsn
            omega
          rw [k5, Int.mul_one]
          subst z0
          simp only [↓x_X5_compared_0, ↓x_X5_compared_1, ↓x_X5_compared_3, ↓x_X5_compared_4, ↓x_X5_compared_6, ↓x_X5_compared_8, ↓x_X5_compared_10, ↓x_X5_compared_12, ↓x_X5_compared_14, ↓x_X5_compared_15, ↓x_X5_compared_19, ↓x_X5_compared_21, ↓x_X5_compared_24, ↓x_X5_compared_26, ↓x_X5_compared_28, ↓x_X5_compared_30, ↓x_X5_compared_33, ↓x_X5_compared_35, ↓x_X5_compared_37, ↓x_X5_compared_39, ↓x_X5_compared_40, ↓x_X5_compared_43, ↓x_X5_compared_45, ↓x_X5_compared_47, ↓x_X5_compared_48, ↓x_X5_compared_51, ↓x_X5_compared_53, ↓x_X5_compared_56, ↓x_X5_compared_58, ↓x_X5_compared_59, ↓x_X5_compared_60, ↓x_X5_compared_62, ↓x_X5_compared_64, ↓x_X5_compared_66, ↓x_X5_compared_67, ↓x_X5_compared_68, ↓x_X5_compared_70, ↓x_X5_compared_72, ↓x_X5_compared_74, ↓x_X5_compared_76, ↓x_X5_compared_77, ↓x_X5_compared_78, ↓x_X5_compared_80, ↓x_X5_compared_82, ↓x_X5_compared_83, ↓x_X5_compared_84, ↓x_X5_compared_87, ↓x_X5_compared_89, ↓x_X5_compared_90, ↓x_X5_compared_91, ↓x_X5_compared_94, ↓x_X5_compared_96, ↓x_X5_compared_98, ↓x_X5_compared_99, ↓x_X5_compared_102, ↓x_X5_compared_103, ↓x_X5_compared_106, ↓x_X5_compared_108, ↓x_X5_compared_109, ↓x_X5_compared_110, ↓x_X5_compared_113, ↓x_X5_compared_115, ↓x_X5_compared_116, ↓x_X5_compared_119, ↓x_X5_compared_121, ↓x_X5_compared_122, ↓x_X5_compared_124, ↓x_X5_compared_126, ↓x_X5_compared_128, ↓x_X5_compared_130, ↓x_X5_compared_132, ↓x_X5_compared_134, ↓x_X5_compared_136, ↓x_X5_compared_138, ↓x_X5_compared_140, ↓x_X5_compared_141, ↓x_X5_compared_143, fc_eq, r0, not_true_eq_false, not_false_eq_true, ↓reduceIte]
        · have i := ih b r d z (-s) (aJ (a / b)) aU (aJ (c / d)) aU (aJ r) aU (aJ z) aU (by clear ns hsn; omega) (by clear ns hsn; omega) (by clear ns hsn; omega) (by clear ns hsn; omega) (by clear ns hsn; omega) (by clear ns hsn; omega)
          rw [key] at i
          have k6 : -s * -sg (a * d - c * b) = s * sg (a * d - c * b) := by rw [Int.neg_mul_neg]
          rw [k6] at i
          simp only [↓x_X5_compared_0, ↓x_X5_compared_1, ↓x_X5_compared_3, ↓x_X5_compared_4, ↓x_X5_compared_6, ↓x_X5_compared_8, ↓x_X5_compared_10, ↓x_X5_compared_12, ↓x_X5_compared_14, ↓x_X5_compared_15, ↓x_X5_compared_19, ↓x_X5_compared_21, ↓x_X5_compared_24, ↓x_X5_compared_26, ↓x_X5_compared_28, ↓x_X5_compared_30, ↓x_X5_compared_33, ↓x_X5_compared_35, ↓x_X5_compared_37, ↓x_X5_compared_39, ↓x_X5_compared_40, ↓x_X5_compared_43, ↓x_X5_compared_45, ↓x_X5_compared_47, ↓x_X5_compared_48, ↓x_X5_compared_51, ↓x_X5_compared_53, ↓x_X5_compared_56, ↓x_X5_compared_58, ↓x_X5_compared_59, ↓x_X5_compared_60, ↓x_X5_compared_62, ↓x_X5_compared_64, ↓x_X5_compared_66, ↓x_X5_compared_67, ↓x_X5_compared_68, ↓x_X5_compared_70, ↓x_X5_compared_72, ↓x_X5_compared_74, ↓x_X5_compared_76, ↓x_X5_compared_77, ↓x_X5_compared_78, ↓x_X5_compared_80, ↓x_X5_compared_82, ↓x_X5_compared_83, ↓x_X5_compared_84, ↓x_X5_compared_87, ↓x_X5_compared_89, ↓x_X5_compared_90, ↓x_X5_compared_91, ↓x_X5_compared_94, ↓x_X5_compared_96, ↓x_X5_compared_98, ↓x_X5_compared_99, ↓x_X5_compared_102, ↓x_X5_compared_103, ↓x_X5_compared_106, ↓x_X5_compared_108, ↓x_X5_compared_109, ↓x_X5_compared_110, ↓x_X5_compared_113, ↓x_X5_compared_115, ↓x_X5_compared_116, ↓x_X5_compared_119, ↓x_X5_compared_121, ↓x_X5_compared_122, ↓x_X5_compared_124, ↓x_X5_compared_126, ↓x_X5_compared_128, ↓x_X5_compared_130, ↓x_X5_compared_132, ↓x_X5_compared_134, ↓x_X5_compared_136, ↓x_X5_compared_138, ↓x_X5_compared_140, ↓x_X5_compared_141, ↓x_X5_compared_143, fc_eq, r0, z0, ns, not_true_eq_false, not_false_eq_true, ↓reduceIte]
          exact i
    · by_cases g : c / d < a / b
      · have k5 := sg_gt hb.1 hd.1 g
        have k6 : ¬ a / b ≤ c / d := by clear ns hsn; omega
        rw [k5, Int.mul_one]
        simp only [↓x_X5_compared_0, ↓x_X5_compared_1, ↓x_X5_compared_3, ↓x_X5_compared_4, ↓x_X5_compared_6, ↓x_X5_compared_8, ↓x_X5_compared_10, ↓x_X5_compared_12, ↓x_X5_compared_14, ↓x_X5_compared_15, ↓x_X5_compared_19, ↓x_X5_compared_21, ↓x_X5_compared_24, ↓x_X5_compared_26, ↓x_X5_compared_28, ↓x_X5_compared_30, ↓x_X5_compared_33, ↓x_X5_compared_35, ↓x_X5_compared_37, ↓x_X5_compared_39, ↓x_X5_compared_40, ↓x_X5_compared_43, ↓x_X5_compared_45, ↓x_X5_compared_47, ↓x_X5_compared_48, ↓x_X5_compared_51, ↓x_X5_compared_53, ↓x_X5_compared_56, ↓x_X5_compared_58, ↓x_X5_compared_59, ↓x_X5_compared_60, ↓x_X5_compared_62, ↓x_X5_compared_64, ↓x_X5_compared_66, ↓x_X5_compared_67, ↓x_X5_compared_68, ↓x_X5_compared_70, ↓x_X5_compared_72, ↓x_X5_compared_74, ↓x_X5_compared_76, ↓x_X5_compared_77, ↓x_X5_compared_78, ↓x_X5_compared_80, ↓x_X5_compared_82, ↓x_X5_compared_83, ↓x_X5_compared_84, ↓x_X5_compared_87, ↓x_X5_compared_89, ↓x_X5_compared_90, ↓x_X5_compared_91, ↓x_X5_compared_94, ↓x_X5_compared_96, ↓x_X5_compared_98, ↓x_X5_compared_99, ↓x_X5_compared_102, ↓x_X5_compared_103, ↓x_X5_compared_106, ↓x_X5_compared_108, ↓x_X5_compared_109, ↓x_X5_compared_110, ↓x_X5_compared_113, ↓x_X5_compared_115, ↓x_X5_compared_116, ↓x_X5_compared_119, ↓x_X5_compared_121, ↓x_X5_compared_122, ↓x_X5_compared_124, ↓x_X5_compared_126, ↓x_X5_compared_128, ↓x_X5_compared_130, ↓x_X5_compared_132, ↓x_X5_compared_134, ↓x_X5_compared_136, ↓x_X5_compared_138, ↓x_X5_compared_140, ↓x_X5_compared_141, ↓x_X5_compared_143, ↓cKJ cx, ↓cKJ cy, fc_eq, fc_le, e, k6, ↓reduceIte]
      · have k5 := sg_lt hb.1 hd.1 (show a / b < c / d by clear ns hsn; omega)
        have k6 : a / b ≤ c / d := by clear ns hsn; omega
        have k7 : s * -1 = -s := by clear ns hsn; omega
        rw [k5, k7]
        simp only [↓x_X5_compared_0, ↓x_X5_compared_1, ↓x_X5_compared_3, ↓x_X5_compared_4, ↓x_X5_compared_6, ↓x_X5_compared_8, ↓x_X5_compared_10, ↓x_X5_compared_12, ↓x_X5_compared_14, ↓x_X5_compared_15, ↓x_X5_compared_19, ↓x_X5_compared_21, ↓x_X5_compared_24, ↓x_X5_compared_26, ↓x_X5_compared_28, ↓x_X5_compared_30, ↓x_X5_compared_33, ↓x_X5_compared_35, ↓x_X5_compared_37, ↓x_X5_compared_39, ↓x_X5_compared_40, ↓x_X5_compared_43, ↓x_X5_compared_45, ↓x_X5_compared_47, ↓x_X5_compared_48, ↓x_X5_compared_51, ↓x_X5_compared_53, ↓x_X5_compared_56, ↓x_X5_compared_58, ↓x_X5_compared_59, ↓x_X5_compared_60, ↓x_X5_compared_62, ↓x_X5_compared_64, ↓x_X5_compared_66, ↓x_X5_compared_67, ↓x_X5_compared_68, ↓x_X5_compared_70, ↓x_X5_compared_72, ↓x_X5_compared_74, ↓x_X5_compared_76, ↓x_X5_compared_77, ↓x_X5_compared_78, ↓x_X5_compared_80, ↓x_X5_compared_82, ↓x_X5_compared_83, ↓x_X5_compared_84, ↓x_X5_compared_87, ↓x_X5_compared_89, ↓x_X5_compared_90, ↓x_X5_compared_91, ↓x_X5_compared_94, ↓x_X5_compared_96, ↓x_X5_compared_98, ↓x_X5_compared_99, ↓x_X5_compared_102, ↓x_X5_compared_103, ↓x_X5_compared_106, ↓x_X5_compared_108, ↓x_X5_compared_109, ↓x_X5_compared_110, ↓x_X5_compared_113, ↓x_X5_compared_115, ↓x_X5_compared_116, ↓x_X5_compared_119, ↓x_X5_compared_121, ↓x_X5_compared_122, ↓x_X5_compared_124, ↓x_X5_compared_126, ↓x_X5_compared_128, ↓x_X5_compared_130, ↓x_X5_compared_132, ↓x_X5_compared_134, ↓x_X5_compared_136, ↓x_X5_compared_138, ↓x_X5_compared_140, ↓x_X5_compared_141, ↓x_X5_compared_143, ↓cKJ cx, ↓cKJ cy, fc_eq, fc_le, e, k6, ns, ↓reduceIte]
theorem c_compared {h : AH} {a b c d : Int} (ha : -4611686018427387904 ≤ a ∧ a ≤ 4611686018427387904) (hb : 0 < b ∧ b ≤ 4611686018427387904) (hc : -4611686018427387904 ≤ c ∧ c ≤ 4611686018427387904) (hd : 0 < d ∧ d ≤ 4611686018427387904) : E mX5_compared [aJ a, aJ b, aJ c, aJ d] h = some (some (aI (sg (a * d - c * b))), h) := by
  have l := lr_cmp (h := h) (a0 := a) (b0 := b) (c0 := c) (d0 := d) b.toNat a b c d 1 aU aU aU aU aU aU aU aU (Nat.le_refl _) hb hd ha hc (Or.inl rfl)
  rw [Int.one_mul] at l
  rw [e_X5_compared]
  simp only [↓x_X5_compared_0, ↓x_X5_compared_1, ↓x_X5_compared_3, ↓x_X5_compared_4, ↓x_X5_compared_6, ↓x_X5_compared_8, ↓x_X5_compared_10, ↓x_X5_compared_12, ↓x_X5_compared_14, ↓x_X5_compared_15, ↓x_X5_compared_19, ↓x_X5_compared_21, ↓x_X5_compared_24, ↓x_X5_compared_26, ↓x_X5_compared_28, ↓x_X5_compared_30, ↓x_X5_compared_33, ↓x_X5_compared_35, ↓x_X5_compared_37, ↓x_X5_compared_39, ↓x_X5_compared_40, ↓x_X5_compared_43, ↓x_X5_compared_45, ↓x_X5_compared_47, ↓x_X5_compared_48, ↓x_X5_compared_51, ↓x_X5_compared_53, ↓x_X5_compared_56, ↓x_X5_compared_58, ↓x_X5_compared_59, ↓x_X5_compared_60, ↓x_X5_compared_62, ↓x_X5_compared_64, ↓x_X5_compared_66, ↓x_X5_compared_67, ↓x_X5_compared_68, ↓x_X5_compared_70, ↓x_X5_compared_72, ↓x_X5_compared_74, ↓x_X5_compared_76, ↓x_X5_compared_77, ↓x_X5_compared_78, ↓x_X5_compared_80, ↓x_X5_compared_82, ↓x_X5_compared_83, ↓x_X5_compared_84, ↓x_X5_compared_87, ↓x_X5_compared_89, ↓x_X5_compared_90, ↓x_X5_compared_91, ↓x_X5_compared_94, ↓x_X5_compared_96, ↓x_X5_compared_98, ↓x_X5_compared_99, ↓x_X5_compared_102, ↓x_X5_compared_103, ↓x_X5_compared_106, ↓x_X5_compared_108, ↓x_X5_compared_109, ↓x_X5_compared_110, ↓x_X5_compared_113, ↓x_X5_compared_115, ↓x_X5_compared_116, ↓x_X5_compared_119, ↓x_X5_compared_121, ↓x_X5_compared_122, ↓x_X5_compared_124, ↓x_X5_compared_126, ↓x_X5_compared_128, ↓x_X5_compared_130, ↓x_X5_compared_132, ↓x_X5_compared_134, ↓x_X5_compared_136, ↓x_X5_compared_138, ↓x_X5_compared_140, ↓x_X5_compared_141, ↓x_X5_compared_143]
  exact l
/-- numbers that fit, of the reference -/
def RBr (r : Rat) : Prop := -512000000000000 ≤ r.num ∧ r.num ≤ 512000000000000 ∧ r.den ≤ 512000000000000
theorem c_cmpR {h : AH} {r s : Rat} (hr : RBr r) (hs : RBr s) : E mX5_compared [aJ r.num, aJ (r.den : Int), aJ s.num, aJ (s.den : Int)] h = some (some (aI (rc r s)), h) := by
  have c := c_compared (h := h) (a := r.num) (b := r.den) (c := s.num) (d := s.den) ⟨by have := hr.1; omega, by have := hr.2.1; omega⟩ ⟨by have := r.den_pos; omega, by have := hr.2.2; omega⟩ ⟨by have := hs.1; omega, by have := hs.2.1; omega⟩ ⟨by have := s.den_pos; omega, by have := hs.2.2; omega⟩
  rw [rc_sg] at c
  exact c
section CV
variable {S : SS} {m s : Nat}
theorem Sc.up {h : AH} {r : Rat} : Sc h (upH h r) := (Sc.w (Or.inr (Or.inr ⟨rfl, Or.inl rfl⟩))).tr (Sc.w (Or.inr (Or.inr ⟨rfl, Or.inr rfl⟩)))
theorem c_value (F : WF S) (hm : m < mS S) (hs : s < nS S m) {set : Nat} (hset : set < 32) {h : AH} (H : RB0 S h) : ∃ h', E mX5_value [aR (some 0), aI m, aI s, aI set] h = some (none, h') ∧ RB0 S h' ∧ Sc h h' ∧ UpAt h' (vR S m s set) ∧ RBr (vR S m s set) := by
  obtain ⟨hn, en, hpy, hw⟩ := F.m hm
  have m0 : (0 : Int) ≤ (m : Int) := Int.natCast_nonneg _
  have ho : isO h 5 0 = true := isO_rd (H.f 4 rfl)
  obtain ⟨h1, a1, a2, a3, a4⟩ := c_layTable (col := s) (pd := true) F hm hset H (pz := 1) rfl
  obtain ⟨h2, b1, b2, b3, b4⟩ := c_det hn a2 a4
  obtain ⟨h3, c1, c2, c3, c4⟩ := c_layTable (col := s) (pd := false) F hm hset b2 (pz := 0) rfl
  obtain ⟨h4, d1, d2, d3, d4⟩ := c_det hn c2 c4
  have q12 := H.f 12 rfl
  have q12a := a2.f 12 rfl
  have q7a := a2.r7 hm
  rw [← en] at q7a
  have q12c := c2.f 12 rfl
  have q7c := c2.r7 hm
  rw [← en] at q7c
  have ho1 : isO h1 5 0 = true := isO_rd (a2.f 4 rfl)
  have ho2 : isO h2 5 0 = true := isO_rd (b2.f 4 rfl)
  have ho3 : isO h3 5 0 = true := isO_rd (c2.f 4 rfl)
  have ho4 : isO h4 5 0 = true := isO_rd (d2.f 4 rfl)
  obtain ⟨vp, vv⟩ := val_eq (set := set) F hm hs
  have bA := det_b (set := set) (col := s) F hm true
  have bB := det_b (set := set) (col := s) F hm false
  have vq := vR_eq F hm hs vv
  have w1 : w64 (Dv (nS S m) (lyT S m set s true) (2 ^ nS S m - 1)) = Dv (nS S m) (lyT S m set s true) (2 ^ nS S m - 1) := by rw [w64_in] <;> omega
  rw [w1] at b1
  clear w1
  have w2 : w64 (Dv (nS S m) (lyT S m set s false) (2 ^ nS S m - 1)) = Dv (nS S m) (lyT S m set s false) (2 ^ nS S m - 1) := by rw [w64_in] <;> omega
  rw [w2] at d1
  clear w2
  generalize Dv (nS S m) (lyT S m set s true) (2 ^ nS S m - 1) = A at *
  generalize Dv (nS S m) (lyT S m set s false) (2 ^ nS S m - 1) = B at *
  obtain ⟨b, rfl⟩ := Int.eq_ofNat_of_zero_le (show 0 ≤ B by omega)
  rw [Int.toNat_natCast] at vq
  have cf := c_fraction d2 (a := A) (b := b) ⟨by omega, by omega⟩ ⟨by omega, by omega⟩
  have mb' := mk_b (a := A) (b := b) (by omega)
  rw [vq]
  obtain ⟨u1, u2⟩ := d2.up (mkRat A b)
  refine ⟨upH h4 (mkRat A b), ?_, u1, ((((a3.tr b3).tr c3).tr d3).tr Sc.up), u2, ⟨by omega, by omega, by omega⟩⟩
  rw [e_X5_value]
  simp only [↓x_X5_value_0, ↓x_X5_value_1, ↓x_X5_value_2, ↓x_X5_value_3, ↓x_X5_value_4, ↓x_X5_value_5, ↓x_X5_value_8, ↓x_X5_value_9, ↓x_X5_value_10, ↓x_X5_value_13, ↓x_X5_value_14, ↓x_X5_value_18, ↓x_X5_value_20, ↓x_X5_value_21, ↓x_X5_value_22, ↓x_X5_value_23, ↓x_X5_value_24, ↓x_X5_value_25, ↓x_X5_value_28, ↓x_X5_value_29, ↓x_X5_value_30, ↓x_X5_value_33, ↓x_X5_value_34, ↓x_X5_value_38, ↓x_X5_value_40, ↓x_X5_value_41, ↓x_X5_value_43, ↓x_X5_value_45, ↓x_X5_value_48, ho, ↓cKV a1, ↓gK_of q12a, m0, Int.toNat_natCast, gK_of q7a, ↓reduceIte]
  simp only [↓x_X5_value_0, ↓x_X5_value_1, ↓x_X5_value_2, ↓x_X5_value_3, ↓x_X5_value_4, ↓x_X5_value_5, ↓x_X5_value_8, ↓x_X5_value_9, ↓x_X5_value_10, ↓x_X5_value_13, ↓x_X5_value_14, ↓x_X5_value_15, ↓x_X5_value_18, ↓x_X5_value_20, ↓x_X5_value_21, ↓x_X5_value_22, ↓x_X5_value_23, ↓x_X5_value_24, ↓x_X5_value_25, ↓x_X5_value_28, ↓x_X5_value_29, ↓x_X5_value_30, ↓x_X5_value_33, ↓x_X5_value_34, ↓x_X5_value_38, ↓x_X5_value_40, ↓x_X5_value_41, ↓x_X5_value_43, ↓x_X5_value_45, ↓x_X5_value_48, ho1, ho2, ↓cKJ b1, ↓cKV c1, ↓gK_of q12c, m0, Int.toNat_natCast, gK_of q7c, ↓reduceIte]
  simp only [↓x_X5_value_0, ↓x_X5_value_1, ↓x_X5_value_2, ↓x_X5_value_3, ↓x_X5_value_4, ↓x_X5_value_5, ↓x_X5_value_8, ↓x_X5_value_9, ↓x_X5_value_10, ↓x_X5_value_13, ↓x_X5_value_14, ↓x_X5_value_15, ↓x_X5_value_18, ↓x_X5_value_20, ↓x_X5_value_21, ↓x_X5_value_22, ↓x_X5_value_23, ↓x_X5_value_24, ↓x_X5_value_25, ↓x_X5_value_28, ↓x_X5_value_29, ↓x_X5_value_30, ↓x_X5_value_33, ↓x_X5_value_34, ↓x_X5_value_35, ↓x_X5_value_38, ↓x_X5_value_40, ↓x_X5_value_41, ↓x_X5_value_43, ↓x_X5_value_45, ↓x_X5_value_48, ho3, ho4, ↓cKJ d1, ↓cKV cf]
/-- the best of the first sets -/
def Bw (S : SS) (m s k : Nat) (r : Rat) : Prop := RBr r ∧ (∃ j, j < k ∧ r = vR S m s j) ∧ ∀ j, j < k → vR S m s j ≤ r
theorem lr_worth (F : WF S) (hm : m < mS S) (hs : s < nS S m) : ∀ (d k : Nat) (h : AH) (r : Rat), k + d = 2 ^ nS S m → 1 ≤ k → RB0 S h → Bw S m s k r →
    ∃ h' r', X mX5_worthOf 21 [aR (some 0), aI m, aI s, aJ r.num, aU, aJ (r.den : Int), aU, aI k] [] h = X mX5_worthOf 76 [aR (some 0), aI m, aI s, aJ r'.num, aU, aJ (r'.den : Int), aU, aI (2 ^ nS S m : Nat)] [] h' ∧ RB0 S h' ∧ Sc h h' ∧ Bw S m s (2 ^ nS S m) r' := by
  obtain ⟨hn, en, hpy, hw⟩ := F.m hm
  have m0 : (0 : Int) ≤ (m : Int) := Int.natCast_nonneg _
  have pb := p2_b (nS S m) (by omega)
  have e1 := shl1 (nS S m) (by omega)
  intro d
  induction d with
  | zero =>
    intro k h r hd hk H B
    have e : k = 2 ^ nS S m := by omega
    subst e
    have q12 := H.f 12 rfl
    have q7 := H.r7 hm
    rw [← en] at q7
    have n1 : ((2 ^ nS S m : Nat) : Int) ≤ ((2 ^ nS S m : Nat) : Int) := Int.le_refl _
    refine ⟨h, r, ?_, H, Sc.rf, B⟩
    rw [x_X5_worthOf_21]
    simp only [↓x_X5_worthOf_0, ↓x_X5_worthOf_1, ↓x_X5_worthOf_2, ↓x_X5_worthOf_3, ↓x_X5_worthOf_4, ↓x_X5_worthOf_7, ↓x_X5_worthOf_8, ↓x_X5_worthOf_11, ↓x_X5_worthOf_12, ↓x_X5_worthOf_13, ↓x_X5_worthOf_16, ↓x_X5_worthOf_18, ↓x_X5_worthOf_19, ↓x_X5_worthOf_23, ↓x_X5_worthOf_24, ↓x_X5_worthOf_25, ↓x_X5_worthOf_28, ↓x_X5_worthOf_29, ↓x_X5_worthOf_30, ↓x_X5_worthOf_31, ↓x_X5_worthOf_34, ↓x_X5_worthOf_35, ↓x_X5_worthOf_36, ↓x_X5_worthOf_37, ↓x_X5_worthOf_39, ↓x_X5_worthOf_42, ↓x_X5_worthOf_43, ↓x_X5_worthOf_46, ↓x_X5_worthOf_47, ↓x_X5_worthOf_50, ↓x_X5_worthOf_51, ↓x_X5_worthOf_53, ↓x_X5_worthOf_56, ↓x_X5_worthOf_59, ↓x_X5_worthOf_60, ↓x_X5_worthOf_63, ↓x_X5_worthOf_64, ↓x_X5_worthOf_65, ↓x_X5_worthOf_68, ↓x_X5_worthOf_70, ↓x_X5_worthOf_73, ↓x_X5_worthOf_77, ↓x_X5_worthOf_78, ↓x_X5_worthOf_81, ↓x_X5_worthOf_82, ↓x_X5_worthOf_84, ↓x_X5_worthOf_87, ↓gK_of q12, m0, Int.toNat_natCast, gK_of q7, e1, n1, ↓reduceIte]
  | succ d ih =>
    intro k h r hd hk H B
    have q12 := H.f 12 rfl
    have q7 := H.r7 hm
    rw [← en] at q7
    have ho : isO h 5 0 = true := isO_rd (H.f 4 rfl)
    have n3 : ¬ ((2 ^ nS S m : Nat) : Int) ≤ (k : Int) := by omega
    have hk5 : k ≤ 1000 := by omega
    obtain ⟨h1, a1, a2, a3, a4, a5⟩ := c_value F hm hs (set := k) (by omega) H
    obtain ⟨b1, b2, b3⟩ := B
    have cc := c_cmpR (h := h1) a5 b1
    by_cases c : r < vR S m s k
    · obtain ⟨h', r', f1, f2, f3, f4⟩ := ih (k + 1) h1 (vR S m s k) (by omega) (by omega) a2 ⟨a5, ⟨k, by omega, rfl⟩, fun j hj => by
        by_cases e : j = k
        · subst e; exact Rat.le_refl
        · exact Rat.le_trans (b3 j (by omega)) (Rat.le_of_lt c)⟩
      have c2 : ¬ vR S m s k ≤ r := Rat.not_le.mpr c
      refine ⟨h', r', ?_, f2, a3.tr f3, f4⟩
      rw [← f1, x_X5_worthOf_21]
      simp only [↓x_X5_worthOf_0, ↓x_X5_worthOf_1, ↓x_X5_worthOf_2, ↓x_X5_worthOf_3, ↓x_X5_worthOf_4, ↓x_X5_worthOf_7, ↓x_X5_worthOf_8, ↓x_X5_worthOf_11, ↓x_X5_worthOf_12, ↓x_X5_worthOf_13, ↓x_X5_worthOf_16, ↓x_X5_worthOf_18, ↓x_X5_worthOf_19, ↓x_X5_worthOf_23, ↓x_X5_worthOf_24, ↓x_X5_worthOf_25, ↓x_X5_worthOf_28, ↓x_X5_worthOf_29, ↓x_X5_worthOf_30, ↓x_X5_worthOf_31, ↓x_X5_worthOf_34, ↓x_X5_worthOf_35, ↓x_X5_worthOf_36, ↓x_X5_worthOf_37, ↓x_X5_worthOf_39, ↓x_X5_worthOf_42, ↓x_X5_worthOf_43, ↓x_X5_worthOf_46, ↓x_X5_worthOf_47, ↓x_X5_worthOf_50, ↓x_X5_worthOf_51, ↓x_X5_worthOf_53, ↓x_X5_worthOf_56, ↓x_X5_worthOf_59, ↓x_X5_worthOf_60, ↓x_X5_worthOf_63, ↓x_X5_worthOf_64, ↓x_X5_worthOf_65, ↓x_X5_worthOf_68, ↓x_X5_worthOf_70, ↓x_X5_worthOf_73, ↓x_X5_worthOf_77, ↓x_X5_worthOf_78, ↓x_X5_worthOf_81, ↓x_X5_worthOf_82, ↓x_X5_worthOf_84, ↓x_X5_worthOf_87, ↓gK_of q12, m0, Int.toNat_natCast, gK_of q7, e1, n3, ho, ↓cKV a1, ↓gK_of a4.1, ↓gK_of a4.2, ↓cKI cc, rc_le, c2, w32_s hk5, ↓reduceIte]
    · obtain ⟨h', r', f1, f2, f3, f4⟩ := ih (k + 1) h1 r (by omega) (by omega) a2 ⟨b1, (by obtain ⟨j, j1, j2⟩ := b2; exact ⟨j, by omega, j2⟩), fun j hj => by
        by_cases e : j = k
        · subst e; exact Rat.not_lt.mp c
        · exact b3 j (by omega)⟩
      have c2 : vR S m s k ≤ r := Rat.not_lt.mp c
      refine ⟨h', r', ?_, f2, a3.tr f3, f4⟩
      rw [← f1, x_X5_worthOf_21]
      simp only [↓x_X5_worthOf_0, ↓x_X5_worthOf_1, ↓x_X5_worthOf_2, ↓x_X5_worthOf_3, ↓x_X5_worthOf_4, ↓x_X5_worthOf_7, ↓x_X5_worthOf_8, ↓x_X5_worthOf_11, ↓x_X5_worthOf_12, ↓x_X5_worthOf_13, ↓x_X5_worthOf_16, ↓x_X5_worthOf_18, ↓x_X5_worthOf_19, ↓x_X5_worthOf_23, ↓x_X5_worthOf_24, ↓x_X5_worthOf_25, ↓x_X5_worthOf_28, ↓x_X5_worthOf_29, ↓x_X5_worthOf_30, ↓x_X5_worthOf_31, ↓x_X5_worthOf_34, ↓x_X5_worthOf_35, ↓x_X5_worthOf_36, ↓x_X5_worthOf_37, ↓x_X5_worthOf_39, ↓x_X5_worthOf_42, ↓x_X5_worthOf_43, ↓x_X5_worthOf_46, ↓x_X5_worthOf_47, ↓x_X5_worthOf_50, ↓x_X5_worthOf_51, ↓x_X5_worthOf_53, ↓x_X5_worthOf_56, ↓x_X5_worthOf_59, ↓x_X5_worthOf_60, ↓x_X5_worthOf_63, ↓x_X5_worthOf_64, ↓x_X5_worthOf_65, ↓x_X5_worthOf_68, ↓x_X5_worthOf_70, ↓x_X5_worthOf_73, ↓x_X5_worthOf_77, ↓x_X5_worthOf_78, ↓x_X5_worthOf_81, ↓x_X5_worthOf_82, ↓x_X5_worthOf_84, ↓x_X5_worthOf_87, ↓gK_of q12, m0, Int.toNat_natCast, gK_of q7, e1, n3, ho, ↓cKV a1, ↓gK_of a4.1, ↓gK_of a4.2, ↓cKI cc, rc_le, c2, w32_s hk5, ↓reduceIte]
theorem enc_ex (T : Nat → Bool) : ∀ n, ∃ k, k < 2 ^ n ∧ ∀ u, u < n → Nat.testBit k u = T u
  | 0 => ⟨0, by decide, fun u hu => by omega⟩
  | n + 1 => by
    obtain ⟨k, h1, h2⟩ := enc_ex T n
    have hp : 2 ^ (n + 1) = 2 ^ n + 2 ^ n := by rw [Nat.pow_succ]; omega
    cases hT : T n with
    | false =>
      refine ⟨k, by omega, fun u hu => ?_⟩
      by_cases e : u = n
      · subst e; rw [hT]; exact Nat.testBit_lt_two_pow h1
      · exact h2 u (by omega)
    | true =>
      refine ⟨2 ^ n + k, by omega, fun u hu => ?_⟩
      by_cases e : u = n
      · subst e; rw [hT, Nat.testBit_two_pow_add_eq, Nat.testBit_lt_two_pow h1]; rfl
      · rw [Nat.testBit_two_pow_add_gt (by omega)]; exact h2 u (by omega)
theorem Bw.wR (F : WF S) (hm : m < mS S) (hs : s < nS S m) {r : Rat} (B : Bw S m s (2 ^ nS S m) r) : wR S m s = r := by
  obtain ⟨hn, en, hpy, hw⟩ := F.m hm
  obtain ⟨hpq, ep, eq⟩ := F.pq
  have sy := sysR hw ⟨hpq.1, hpq.2.1⟩ (n := nS S m)
  have isv : ∀ j, IsV (nS S m) (rAl (qS S) (nS S m) (wS S m)) (rW (pS S) (wS S m)) (rPy (pyS S m)) s (Nat.testBit j) (vR S m s j) := fun j => by
    obtain ⟨r, hr⟩ := exV sy (rPy (pyS S m)) hs (Nat.testBit j)
    rw [vR_eq F hm hs hr]
    exact hr
  obtain ⟨b1, ⟨j, j1, j2⟩, b3⟩ := B
  refine wR_eq ⟨⟨Nat.testBit j, by rw [j2]; exact isv j⟩, fun T r' h => ?_⟩
  obtain ⟨k, k1, k2⟩ := enc_ex T (nS S m)
  have h' := h.congr (T' := Nat.testBit k) (fun u hu => (k2 u hu).symm)
  have := IsV.uniq sy hs h' (isv k)
  rw [this]
  exact b3 k k1
theorem c_worthR (F : WF S) (hm : m < mS S) (hs : s < nS S m) {h : AH} (H : RB0 S h) : ∃ h', E mX5_worthOf [aR (some 0), aI m, aI s] h = some (none, h') ∧ RB0 S h' ∧ Sc h h' ∧ UpAt h' (wR S m s) ∧ RBr (wR S m s) := by
  have ho : isO h 5 0 = true := isO_rd (H.f 4 rfl)
  have pb := p2_b (nS S m) (by have := (F.m hm).1; omega)
  obtain ⟨h1, a1, a2, a3, a4, a5⟩ := c_value F hm hs (set := 0) (by decide) H
  obtain ⟨h2, r, b1, b2, b3, b4⟩ := lr_worth F hm hs (2 ^ nS S m - 1) 1 h1 (vR S m s 0) (by omega) (by omega) a2 ⟨a5, ⟨0, by decide, rfl⟩, fun j hj => by
    have : j = 0 := by omega
    subst this
    exact Rat.le_refl⟩
  rw [b4.wR F hm hs]
  obtain ⟨x, hx⟩ := b2.1 0 17 (by decide)
  obtain ⟨y, hy⟩ := b2.1 0 18 (by decide)
  have hx' : rd h2 5 0 17 = some x := hx
  have hy' : rd (wr h2 5 0 17 (aJ r.num)) 5 0 18 = some y := by rw [rd_wn (Or.inr (Or.inr (by decide)))]; exact hy
  obtain ⟨u1, u2⟩ := b2.up r
  refine ⟨upH h2 r, ?_, u1, (a3.tr b3).tr Sc.up, u2, b4.1⟩
  rw [e_X5_worthOf]
  have a1' : E mX5_value [aR (some 0), aI m, aI s, aI 0] h = some (none, h1) := a1
  simp only [↓x_X5_worthOf_0, ↓x_X5_worthOf_1, ↓x_X5_worthOf_2, ↓x_X5_worthOf_3, ↓x_X5_worthOf_4, ↓x_X5_worthOf_7, ↓x_X5_worthOf_8, ↓x_X5_worthOf_11, ↓x_X5_worthOf_12, ↓x_X5_worthOf_13, ↓x_X5_worthOf_16, ↓x_X5_worthOf_18, ↓x_X5_worthOf_19, ↓x_X5_worthOf_23, ↓x_X5_worthOf_24, ↓x_X5_worthOf_25, ↓x_X5_worthOf_28, ↓x_X5_worthOf_29, ↓x_X5_worthOf_30, ↓x_X5_worthOf_31, ↓x_X5_worthOf_34, ↓x_X5_worthOf_35, ↓x_X5_worthOf_36, ↓x_X5_worthOf_37, ↓x_X5_worthOf_39, ↓x_X5_worthOf_42, ↓x_X5_worthOf_43, ↓x_X5_worthOf_46, ↓x_X5_worthOf_47, ↓x_X5_worthOf_50, ↓x_X5_worthOf_51, ↓x_X5_worthOf_53, ↓x_X5_worthOf_56, ↓x_X5_worthOf_59, ↓x_X5_worthOf_60, ↓x_X5_worthOf_63, ↓x_X5_worthOf_64, ↓x_X5_worthOf_65, ↓x_X5_worthOf_68, ↓x_X5_worthOf_70, ↓x_X5_worthOf_73, ↓x_X5_worthOf_76, ↓x_X5_worthOf_77, ↓x_X5_worthOf_78, ↓x_X5_worthOf_81, ↓x_X5_worthOf_82, ↓x_X5_worthOf_84, ↓x_X5_worthOf_87, ho, ↓cKV a1', ↓gK_of a4.1, ↓gK_of a4.2]
  refine b1.trans ?_
  simp only [↓x_X5_worthOf_0, ↓x_X5_worthOf_1, ↓x_X5_worthOf_2, ↓x_X5_worthOf_3, ↓x_X5_worthOf_4, ↓x_X5_worthOf_7, ↓x_X5_worthOf_8, ↓x_X5_worthOf_11, ↓x_X5_worthOf_12, ↓x_X5_worthOf_13, ↓x_X5_worthOf_16, ↓x_X5_worthOf_18, ↓x_X5_worthOf_19, ↓x_X5_worthOf_23, ↓x_X5_worthOf_24, ↓x_X5_worthOf_25, ↓x_X5_worthOf_28, ↓x_X5_worthOf_29, ↓x_X5_worthOf_30, ↓x_X5_worthOf_31, ↓x_X5_worthOf_34, ↓x_X5_worthOf_35, ↓x_X5_worthOf_36, ↓x_X5_worthOf_37, ↓x_X5_worthOf_39, ↓x_X5_worthOf_42, ↓x_X5_worthOf_43, ↓x_X5_worthOf_46, ↓x_X5_worthOf_47, ↓x_X5_worthOf_50, ↓x_X5_worthOf_51, ↓x_X5_worthOf_53, ↓x_X5_worthOf_56, ↓x_X5_worthOf_59, ↓x_X5_worthOf_60, ↓x_X5_worthOf_63, ↓x_X5_worthOf_64, ↓x_X5_worthOf_65, ↓x_X5_worthOf_68, ↓x_X5_worthOf_70, ↓x_X5_worthOf_73, ↓x_X5_worthOf_76, ↓x_X5_worthOf_77, ↓x_X5_worthOf_78, ↓x_X5_worthOf_81, ↓x_X5_worthOf_82, ↓x_X5_worthOf_84, ↓x_X5_worthOf_87, ↓pK_of hx', ↓pK_of hy']
  rfl
end CV
