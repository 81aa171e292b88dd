/-! ===== the reference: worth, way, even, better, mean, row, compare ===== -/
theorem RI.sc {S : SS} {h h' : AH} (H : RI S h) (B : RB0 S h') (sc : Sc h h') : RI S h' := by
  obtain ⟨r, r1, r2⟩ := H.2
  exact ⟨B, r, by rw [sc.1 _ _ _ (by decide) (by decide) (Or.inr (by decide))]; exact r1, r2⟩
theorem isM_n {S : SS} {m : Int} (c : isM S m) : m.toNat < mS S ∧ ((m.toNat : Nat) : Int) = m := ⟨by unfold mS; omega, by omega⟩
theorem isQ_n {S : SS} (F : WF S) {m s : Int} (c : isM S m) (c2 : isQ S m s) : s.toNat < nS S m.toNat ∧ ((s.toNat : Nat) : Int) = s := by
  have := (F.m (isM_n c).1).2.1
  exact ⟨by omega, by omega⟩
section NEED
variable {S : SS} {h : AH}
theorem nd_1 (F : WF S) (H : RI S h) {m s : Int} (c : ¬ isM S m) : E mX5_need [aR (some 0), aI m, aI s] h = some (some (aI (-1)), h) := by
  have ho : isO h 5 0 = true := isO_rd (H.1.f 4 rfl)
  have ca := c_isMachine F H.1 m
  rw [if_neg c] at ca
  rw [e_X5_need]
  simp only [↓x_X5_need_0, ↓x_X5_need_1, ↓x_X5_need_2, ↓x_X5_need_5, ↓x_X5_need_8, ↓x_X5_need_9, ↓x_X5_need_12, ↓x_X5_need_13, ↓x_X5_need_14, ↓x_X5_need_15, ↓x_X5_need_18, ↓x_X5_need_21, ↓x_X5_need_22, ↓x_X5_need_23, ↓x_X5_need_26, ↓x_X5_need_29, ↓x_X5_need_30, ho, ↓cKI ca, not_true_eq_false, ↓reduceIte]
theorem nd_2 (F : WF S) (H : RI S h) {m s : Int} (c : isM S m) (c2 : ¬ isQ S m s) : E mX5_need [aR (some 0), aI m, aI s] h = some (some (aI (-3)), rmH S h 2) := by
  have ho : isO h 5 0 = true := isO_rd (H.1.f 4 rfl)
  have ca := c_isMachine F H.1 m
  have cf2 := m_fd2 H.1
  have z : ¬ (1 : Int) = 0 := by decide
  rw [if_pos c] at ca
  have cs := c_isQ F H.1 c s
  rw [if_neg c2] at cs
  rw [e_X5_need]
  simp only [↓x_X5_need_0, ↓x_X5_need_1, ↓x_X5_need_2, ↓x_X5_need_5, ↓x_X5_need_8, ↓x_X5_need_9, ↓x_X5_need_12, ↓x_X5_need_13, ↓x_X5_need_14, ↓x_X5_need_15, ↓x_X5_need_18, ↓x_X5_need_21, ↓x_X5_need_22, ↓x_X5_need_23, ↓x_X5_need_26, ↓x_X5_need_29, ↓x_X5_need_30, ho, ↓cKI ca, z, ↓cKI cs, ↓cKI cf2, not_true_eq_false, not_false_eq_true, ↓reduceIte]
theorem nd_0 (F : WF S) (H : RI S h) {m s : Int} (c : isM S m) (c2 : isQ S m s) : E mX5_need [aR (some 0), aI m, aI s] h = some (some (aI 0), h) := by
  have ho : isO h 5 0 = true := isO_rd (H.1.f 4 rfl)
  have ca := c_isMachine F H.1 m
  have z : ¬ (1 : Int) = 0 := by decide
  rw [if_pos c] at ca
  have cs := c_isQ F H.1 c s
  rw [if_pos c2] at cs
  rw [e_X5_need]
  simp only [↓x_X5_need_0, ↓x_X5_need_1, ↓x_X5_need_2, ↓x_X5_need_5, ↓x_X5_need_8, ↓x_X5_need_9, ↓x_X5_need_12, ↓x_X5_need_13, ↓x_X5_need_14, ↓x_X5_need_15, ↓x_X5_need_18, ↓x_X5_need_21, ↓x_X5_need_22, ↓x_X5_need_23, ↓x_X5_need_26, ↓x_X5_need_29, ↓x_X5_need_30, ho, ↓cKI ca, z, ↓cKI cs, not_false_eq_true, ↓reduceIte]
end NEED
theorem CR_worth {S : SS} (F : WF S) (m s : Int) : CR mX5_worth [aI m, aI s] aI S (o_worth m s S) := by
  intro h H
  have ho : isO h 5 0 = true := isO_rd (H.1.f 4 rfl)
  have y1 : ¬ (0 : Int) ≤ -1 := by decide
  have y3 : ¬ (0 : Int) ≤ -3 := by decide
  unfold o_worth
  rw [e_X5_worth]
  by_cases c1 : isM S m
  · rw [if_neg (not_not_intro c1)]
    by_cases c2 : isQ S m s
    · rw [if_neg (not_not_intro c2)]
      have nd := nd_0 F H c1 c2
      obtain ⟨hm, em⟩ := isM_n c1
      obtain ⟨hs, es⟩ := isQ_n F c1 c2
      obtain ⟨h1, a1, a2, a3, a4, a5⟩ := c_worthR F hm hs H.1
      rw [em, es] at a1
      obtain ⟨h2, b1, b2, b3⟩ := c_tells (H.sc a2 a3) a4
      have ho1 : isO h1 5 0 = true := isO_rd (a2.f 4 rfl)
      refine ⟨h2, ?_, b2, a3.2.tr b3⟩
      simp only [↓x_X5_worth_0, ↓x_X5_worth_1, ↓x_X5_worth_2, ↓x_X5_worth_3, ↓x_X5_worth_6, ↓x_X5_worth_7, ↓x_X5_worth_8, ↓x_X5_worth_11, ↓x_X5_worth_12, ↓x_X5_worth_13, ↓x_X5_worth_14, ↓x_X5_worth_15, ↓x_X5_worth_16, ↓x_X5_worth_19, ↓x_X5_worth_20, ↓x_X5_worth_23, ho, ho1, ↓cKI nd, ↓cKV a1, ↓cKI b1, Int.le_refl, ↓reduceIte]
    · rw [if_pos c2]
      have nd := nd_2 F H c1 c2
      refine ⟨_, ?_, H.mt (f := 2) (by decide)⟩
      simp only [↓x_X5_worth_0, ↓x_X5_worth_1, ↓x_X5_worth_2, ↓x_X5_worth_3, ↓x_X5_worth_6, ↓x_X5_worth_7, ↓x_X5_worth_8, ↓x_X5_worth_11, ↓x_X5_worth_12, ↓x_X5_worth_13, ↓x_X5_worth_14, ↓x_X5_worth_15, ↓x_X5_worth_16, ↓x_X5_worth_19, ↓x_X5_worth_20, ↓x_X5_worth_23, ho, ↓cKI nd, y3, ↓reduceIte]
  · rw [if_pos c1]
    have nd := nd_1 (s := s) F H c1
    refine ⟨h, ?_, H, L0.rf⟩
    simp only [↓x_X5_worth_0, ↓x_X5_worth_1, ↓x_X5_worth_2, ↓x_X5_worth_3, ↓x_X5_worth_6, ↓x_X5_worth_7, ↓x_X5_worth_8, ↓x_X5_worth_11, ↓x_X5_worth_12, ↓x_X5_worth_13, ↓x_X5_worth_14, ↓x_X5_worth_15, ↓x_X5_worth_16, ↓x_X5_worth_19, ↓x_X5_worth_20, ↓x_X5_worth_23, ho, ↓cKI nd, y1, ↓reduceIte]
theorem CR_way {S : SS} (F : WF S) (m s k : Int) : CR mX5_way [aI m, aI s, aI k] aI S (o_way m s k S) := by
  intro h H
  have ho : isO h 5 0 = true := isO_rd (H.1.f 4 rfl)
  have ci := c_in (h := h) (v := k) (lo := 0) (hi := 31)
  have y1 : ¬ (0 : Int) ≤ -1 := by decide
  have y3 : ¬ (0 : Int) ≤ -3 := by decide
  have z : ¬ (1 : Int) = 0 := by decide
  unfold o_way
  rw [e_X5_way]
  by_cases c0 : k < 0 ∨ 31 < k
  · rw [if_neg (by omega)] at ci
    rw [if_pos (Or.inr c0)]
    refine ⟨h, ?_, H, L0.rf⟩
    simp only [↓x_X5_way_0, ↓x_X5_way_1, ↓x_X5_way_2, ↓x_X5_way_3, ↓x_X5_way_6, ↓x_X5_way_9, ↓x_X5_way_12, ↓x_X5_way_13, ↓x_X5_way_14, ↓x_X5_way_15, ↓x_X5_way_16, ↓x_X5_way_17, ↓x_X5_way_20, ↓x_X5_way_22, ↓x_X5_way_24, ↓x_X5_way_27, ↓x_X5_way_29, ↓x_X5_way_30, ↓x_X5_way_31, ↓x_X5_way_32, ↓x_X5_way_33, ↓x_X5_way_34, ↓x_X5_way_37, ↓x_X5_way_38, ↓x_X5_way_41, ho, ↓cKI ci, not_true_eq_false, ↓reduceIte]
  · rw [if_pos (by omega)] at ci
    by_cases c1 : isM S m
    · rw [if_neg (by omega)]
      by_cases c2 : isQ S m s
      · rw [if_neg (not_not_intro c2)]
        have nd := nd_0 F H c1 c2
        obtain ⟨hm, em⟩ := isM_n c1
        obtain ⟨hs, es⟩ := isQ_n F c1 c2
        have ek : ((k.toNat : Nat) : Int) = k := by omega
        obtain ⟨h1, a1, a2, a3, a4, a5⟩ := c_value F hm hs (set := k.toNat) (by omega) H.1
        rw [em, es, ek] at a1
        obtain ⟨h2, b1, b2, b3⟩ := c_tells (H.sc a2 a3) a4
        have ho1 : isO h1 5 0 = true := isO_rd (a2.f 4 rfl)
        refine ⟨h2, ?_, b2, a3.2.tr b3⟩
        simp only [↓x_X5_way_0, ↓x_X5_way_1, ↓x_X5_way_2, ↓x_X5_way_3, ↓x_X5_way_6, ↓x_X5_way_9, ↓x_X5_way_12, ↓x_X5_way_13, ↓x_X5_way_14, ↓x_X5_way_15, ↓x_X5_way_16, ↓x_X5_way_17, ↓x_X5_way_20, ↓x_X5_way_22, ↓x_X5_way_24, ↓x_X5_way_27, ↓x_X5_way_29, ↓x_X5_way_30, ↓x_X5_way_31, ↓x_X5_way_32, ↓x_X5_way_33, ↓x_X5_way_34, ↓x_X5_way_37, ↓x_X5_way_38, ↓x_X5_way_41, ho, ho1, ↓cKI ci, z, ↓cKI nd, ↓cKV a1, ↓cKI b1, Int.le_refl, not_false_eq_true, ↓reduceIte]
      · rw [if_pos c2]
        have nd := nd_2 F H c1 c2
        refine ⟨_, ?_, H.mt (f := 2) (by decide)⟩
        simp only [↓x_X5_way_0, ↓x_X5_way_1, ↓x_X5_way_2, ↓x_X5_way_3, ↓x_X5_way_6, ↓x_X5_way_9, ↓x_X5_way_12, ↓x_X5_way_13, ↓x_X5_way_14, ↓x_X5_way_15, ↓x_X5_way_16, ↓x_X5_way_17, ↓x_X5_way_20, ↓x_X5_way_22, ↓x_X5_way_24, ↓x_X5_way_27, ↓x_X5_way_29, ↓x_X5_way_30, ↓x_X5_way_31, ↓x_X5_way_32, ↓x_X5_way_33, ↓x_X5_way_34, ↓x_X5_way_37, ↓x_X5_way_38, ↓x_X5_way_41, ho, ↓cKI ci, z, ↓cKI nd, y3, not_false_eq_true, ↓reduceIte]
    · rw [if_pos (Or.inl c1)]
      have nd := nd_1 (s := s) F H c1
      refine ⟨h, ?_, H, L0.rf⟩
      simp only [↓x_X5_way_0, ↓x_X5_way_1, ↓x_X5_way_2, ↓x_X5_way_3, ↓x_X5_way_6, ↓x_X5_way_9, ↓x_X5_way_12, ↓x_X5_way_13, ↓x_X5_way_14, ↓x_X5_way_15, ↓x_X5_way_16, ↓x_X5_way_17, ↓x_X5_way_20, ↓x_X5_way_22, ↓x_X5_way_24, ↓x_X5_way_27, ↓x_X5_way_29, ↓x_X5_way_30, ↓x_X5_way_31, ↓x_X5_way_32, ↓x_X5_way_33, ↓x_X5_way_34, ↓x_X5_way_37, ↓x_X5_way_38, ↓x_X5_way_41, ho, ↓cKI ci, z, ↓cKI nd, y1, not_false_eq_true, ↓reduceIte]
theorem CR_upper {S : SS} : CR mX5_upper [] aJ S (S 8 0 0 0, S) := by
  intro h H
  refine ⟨h, ?_, H, L0.rf⟩
  rw [e_X5_upper]
  simp only [↓x_X5_upper_0, ↓x_X5_upper_1, ↓x_X5_upper_4, ↓gK_of (H.1.f 19 rfl)]
theorem CR_lower {S : SS} : CR mX5_lower [] aJ S (S 8 1 0 0, S) := by
  intro h H
  refine ⟨h, ?_, H, L0.rf⟩
  rw [e_X5_lower]
  simp only [↓x_X5_lower_0, ↓x_X5_lower_1, ↓x_X5_lower_4, ↓gK_of (H.1.f 20 rfl)]
theorem CR_even {S : SS} (F : WF S) (m s a b : Int) : CR mX5_even [aI m, aI s, aI a, aI b] aI S (o_even m s a b S) := by
  intro h H
  have ho : isO h 5 0 = true := isO_rd (H.1.f 4 rfl)
  have ca := c_isMachine F H.1 m
  have ci := c_in (h := h) (v := a) (lo := -1000000) (hi := 1000000)
  have cj := c_in (h := h) (v := b) (lo := 0) (hi := 1000000)
  have cf2 := m_fd2 H.1
  have cf4 := m_fd4 H.1
  have z : ¬ (1 : Int) = 0 := by decide
  unfold o_even
  rw [e_X5_even]
  by_cases c1 : isM S m
  · rw [if_pos c1] at ca
    by_cases d1 : a < -1000000 ∨ 1000000 < a
    · rw [if_neg (by omega)] at ci
      rw [if_pos (Or.inr (Or.inl d1))]
      refine ⟨h, ?_, H, L0.rf⟩
      simp only [↓x_X5_even_0, ↓x_X5_even_1, ↓x_X5_even_2, ↓x_X5_even_5, ↓x_X5_even_8, ↓x_X5_even_9, ↓x_X5_even_10, ↓x_X5_even_13, ↓x_X5_even_16, ↓x_X5_even_19, ↓x_X5_even_22, ↓x_X5_even_24, ↓x_X5_even_25, ↓x_X5_even_26, ↓x_X5_even_29, ↓x_X5_even_32, ↓x_X5_even_35, ↓x_X5_even_36, ↓x_X5_even_37, ↓x_X5_even_38, ↓x_X5_even_39, ↓x_X5_even_40, ↓x_X5_even_43, ↓x_X5_even_46, ↓x_X5_even_47, ↓x_X5_even_48, ↓x_X5_even_51, ↓x_X5_even_52, ↓x_X5_even_54, ↓x_X5_even_57, ↓x_X5_even_58, ↓x_X5_even_59, ↓x_X5_even_62, ↓x_X5_even_63, ↓x_X5_even_64, ↓x_X5_even_65, ↓x_X5_even_66, ↓x_X5_even_69, ↓x_X5_even_70, ↓x_X5_even_73, ↓x_X5_even_74, ↓x_X5_even_77, ↓x_X5_even_78, ↓x_X5_even_79, ↓x_X5_even_81, ↓x_X5_even_82, ↓x_X5_even_85, ↓x_X5_even_87, ↓x_X5_even_89, ↓x_X5_even_92, ↓x_X5_even_93, ↓x_X5_even_96, ↓x_X5_even_98, ↓x_X5_even_101, ↓x_X5_even_102, ↓x_X5_even_105, ↓x_X5_even_106, ho, ↓cKI ca, z, ↓cKI ci, ↓reduceIte]
    · rw [if_pos (by omega)] at ci
      by_cases d2 : b < 0 ∨ 1000000 < b
      · rw [if_neg (by omega)] at cj
        rw [if_pos (Or.inr (Or.inr d2))]
        refine ⟨h, ?_, H, L0.rf⟩
        simp only [↓x_X5_even_0, ↓x_X5_even_1, ↓x_X5_even_2, ↓x_X5_even_5, ↓x_X5_even_8, ↓x_X5_even_9, ↓x_X5_even_10, ↓x_X5_even_13, ↓x_X5_even_16, ↓x_X5_even_19, ↓x_X5_even_22, ↓x_X5_even_24, ↓x_X5_even_25, ↓x_X5_even_26, ↓x_X5_even_29, ↓x_X5_even_32, ↓x_X5_even_35, ↓x_X5_even_36, ↓x_X5_even_37, ↓x_X5_even_38, ↓x_X5_even_39, ↓x_X5_even_40, ↓x_X5_even_43, ↓x_X5_even_46, ↓x_X5_even_47, ↓x_X5_even_48, ↓x_X5_even_51, ↓x_X5_even_52, ↓x_X5_even_54, ↓x_X5_even_57, ↓x_X5_even_58, ↓x_X5_even_59, ↓x_X5_even_62, ↓x_X5_even_63, ↓x_X5_even_64, ↓x_X5_even_65, ↓x_X5_even_66, ↓x_X5_even_69, ↓x_X5_even_70, ↓x_X5_even_73, ↓x_X5_even_74, ↓x_X5_even_77, ↓x_X5_even_78, ↓x_X5_even_79, ↓x_X5_even_81, ↓x_X5_even_82, ↓x_X5_even_85, ↓x_X5_even_87, ↓x_X5_even_89, ↓x_X5_even_92, ↓x_X5_even_93, ↓x_X5_even_96, ↓x_X5_even_98, ↓x_X5_even_101, ↓x_X5_even_102, ↓x_X5_even_105, ↓x_X5_even_106, ho, ↓cKI ca, z, ↓cKI ci, ↓cKI cj, not_true_eq_false, ↓reduceIte]
      · rw [if_pos (by omega)] at cj
        rw [if_neg (by omega)]
        have cs := c_isQ F H.1 c1 s
        by_cases c2 : isQ S m s
        · rw [if_pos c2] at cs
          rw [if_neg (not_not_intro c2)]
          by_cases c3 : b = 0
          · rw [if_pos c3]
            have n1 : ¬ ¬ b = 0 := not_not_intro c3
            refine ⟨_, ?_, H.mt (f := 4) (by decide)⟩
            simp only [↓x_X5_even_0, ↓x_X5_even_1, ↓x_X5_even_2, ↓x_X5_even_5, ↓x_X5_even_8, ↓x_X5_even_9, ↓x_X5_even_10, ↓x_X5_even_13, ↓x_X5_even_16, ↓x_X5_even_19, ↓x_X5_even_22, ↓x_X5_even_24, ↓x_X5_even_25, ↓x_X5_even_26, ↓x_X5_even_29, ↓x_X5_even_32, ↓x_X5_even_35, ↓x_X5_even_36, ↓x_X5_even_37, ↓x_X5_even_38, ↓x_X5_even_39, ↓x_X5_even_40, ↓x_X5_even_43, ↓x_X5_even_46, ↓x_X5_even_47, ↓x_X5_even_48, ↓x_X5_even_51, ↓x_X5_even_54, ↓x_X5_even_57, ↓x_X5_even_58, ↓x_X5_even_59, ↓x_X5_even_62, ↓x_X5_even_63, ↓x_X5_even_64, ↓x_X5_even_65, ↓x_X5_even_66, ↓x_X5_even_69, ↓x_X5_even_70, ↓x_X5_even_73, ↓x_X5_even_74, ↓x_X5_even_77, ↓x_X5_even_78, ↓x_X5_even_79, ↓x_X5_even_81, ↓x_X5_even_82, ↓x_X5_even_85, ↓x_X5_even_87, ↓x_X5_even_89, ↓x_X5_even_92, ↓x_X5_even_93, ↓x_X5_even_96, ↓x_X5_even_98, ↓x_X5_even_101, ↓x_X5_even_102, ↓x_X5_even_105, ↓x_X5_even_106, ho, ↓cKI ca, z, ↓cKI ci, ↓cKI cj, ↓cKI cs, not_false_eq_true, ↓reduceIte]
            simp only [↓x_X5_even_0, ↓x_X5_even_1, ↓x_X5_even_2, ↓x_X5_even_5, ↓x_X5_even_8, ↓x_X5_even_9, ↓x_X5_even_10, ↓x_X5_even_13, ↓x_X5_even_16, ↓x_X5_even_19, ↓x_X5_even_22, ↓x_X5_even_24, ↓x_X5_even_25, ↓x_X5_even_26, ↓x_X5_even_29, ↓x_X5_even_32, ↓x_X5_even_35, ↓x_X5_even_36, ↓x_X5_even_37, ↓x_X5_even_38, ↓x_X5_even_39, ↓x_X5_even_40, ↓x_X5_even_43, ↓x_X5_even_46, ↓x_X5_even_47, ↓x_X5_even_48, ↓x_X5_even_51, ↓x_X5_even_52, ↓x_X5_even_54, ↓x_X5_even_57, ↓x_X5_even_58, ↓x_X5_even_59, ↓x_X5_even_62, ↓x_X5_even_63, ↓x_X5_even_64, ↓x_X5_even_65, ↓x_X5_even_66, ↓x_X5_even_69, ↓x_X5_even_70, ↓x_X5_even_73, ↓x_X5_even_74, ↓x_X5_even_77, ↓x_X5_even_78, ↓x_X5_even_79, ↓x_X5_even_81, ↓x_X5_even_82, ↓x_X5_even_85, ↓x_X5_even_87, ↓x_X5_even_89, ↓x_X5_even_92, ↓x_X5_even_93, ↓x_X5_even_96, ↓x_X5_even_98, ↓x_X5_even_101, ↓x_X5_even_102, ↓x_X5_even_105, ↓x_X5_even_106, ho, n1, ↓cKI cf4, ↓reduceIte]
          · rw [if_neg c3]
            obtain ⟨hm, em⟩ := isM_n c1
            obtain ⟨hs, es⟩ := isQ_n F c1 c2
            obtain ⟨h1, a1, a2, a3, a4, rb⟩ := c_worthR F hm hs H.1
            rw [em, es] at a1
            have cw := c_compared (h := h1) (a := (wR S m.toNat s.toNat).num) (b := ((wR S m.toNat s.toNat).den : Int)) (c := a) (d := b) ⟨by have := rb.1; omega, by have := rb.2.1; omega⟩ ⟨by have := (wR S m.toNat s.toNat).den_pos; omega, by have := rb.2.2; omega⟩ ⟨by omega, by omega⟩ ⟨by omega, by omega⟩
            refine ⟨h1, ?_, H.sc a2 a3, a3.2⟩
            generalize sg ((wR S m.toNat s.toNat).num * b - a * ((wR S m.toNat s.toNat).den : Int)) = x at cw ⊢
            have s87 : X mX5_even 0 [aR (some 0), aI m, aI s, aI a, aI b, aU] [] h = X mX5_even 87 [aR (some 0), aI m, aI s, aI a, aI b, aI x] [] h1 := by
              simp only [↓x_X5_even_0, ↓x_X5_even_1, ↓x_X5_even_2, ↓x_X5_even_5, ↓x_X5_even_8, ↓x_X5_even_9, ↓x_X5_even_10, ↓x_X5_even_13, ↓x_X5_even_16, ↓x_X5_even_19, ↓x_X5_even_22, ↓x_X5_even_24, ↓x_X5_even_25, ↓x_X5_even_26, ↓x_X5_even_29, ↓x_X5_even_32, ↓x_X5_even_35, ↓x_X5_even_36, ↓x_X5_even_37, ↓x_X5_even_38, ↓x_X5_even_39, ↓x_X5_even_40, ↓x_X5_even_43, ↓x_X5_even_46, ↓x_X5_even_47, ↓x_X5_even_48, ↓x_X5_even_51, ↓x_X5_even_54, ↓x_X5_even_57, ↓x_X5_even_58, ↓x_X5_even_59, ↓x_X5_even_62, ↓x_X5_even_63, ↓x_X5_even_64, ↓x_X5_even_65, ↓x_X5_even_66, ↓x_X5_even_69, ↓x_X5_even_70, ↓x_X5_even_73, ↓x_X5_even_74, ↓x_X5_even_77, ↓x_X5_even_78, ↓x_X5_even_79, ↓x_X5_even_81, ↓x_X5_even_82, ↓x_X5_even_85, ↓x_X5_even_89, ↓x_X5_even_92, ↓x_X5_even_93, ↓x_X5_even_96, ↓x_X5_even_98, ↓x_X5_even_101, ↓x_X5_even_102, ↓x_X5_even_105, ↓x_X5_even_106, ho, ↓cKI ca, z, ↓cKI ci, ↓cKI cj, ↓cKI cs, not_false_eq_true, ↓reduceIte]
              simp only [↓x_X5_even_0, ↓x_X5_even_1, ↓x_X5_even_2, ↓x_X5_even_5, ↓x_X5_even_8, ↓x_X5_even_9, ↓x_X5_even_10, ↓x_X5_even_13, ↓x_X5_even_16, ↓x_X5_even_19, ↓x_X5_even_22, ↓x_X5_even_24, ↓x_X5_even_25, ↓x_X5_even_26, ↓x_X5_even_29, ↓x_X5_even_32, ↓x_X5_even_35, ↓x_X5_even_36, ↓x_X5_even_37, ↓x_X5_even_38, ↓x_X5_even_39, ↓x_X5_even_40, ↓x_X5_even_43, ↓x_X5_even_46, ↓x_X5_even_47, ↓x_X5_even_48, ↓x_X5_even_51, ↓x_X5_even_52, ↓x_X5_even_54, ↓x_X5_even_57, ↓x_X5_even_58, ↓x_X5_even_59, ↓x_X5_even_62, ↓x_X5_even_63, ↓x_X5_even_64, ↓x_X5_even_65, ↓x_X5_even_66, ↓x_X5_even_69, ↓x_X5_even_70, ↓x_X5_even_73, ↓x_X5_even_74, ↓x_X5_even_77, ↓x_X5_even_78, ↓x_X5_even_79, ↓x_X5_even_81, ↓x_X5_even_82, ↓x_X5_even_85, ↓x_X5_even_89, ↓x_X5_even_92, ↓x_X5_even_93, ↓x_X5_even_96, ↓x_X5_even_98, ↓x_X5_even_101, ↓x_X5_even_102, ↓x_X5_even_105, ↓x_X5_even_106, ho, c3, ↓cKV a1, ↓gK_of a4.1, ↓gK_of a4.2, ↓cKI cw, not_false_eq_true, ↓reduceIte]
            rw [s87]
            unfold asA
            by_cases e1 : x = 0
            · have e2 : (0 : Int) ≤ 0 := Int.le_refl _
              subst e1
              simp only [↓x_X5_even_0, ↓x_X5_even_1, ↓x_X5_even_2, ↓x_X5_even_5, ↓x_X5_even_8, ↓x_X5_even_9, ↓x_X5_even_10, ↓x_X5_even_13, ↓x_X5_even_16, ↓x_X5_even_19, ↓x_X5_even_22, ↓x_X5_even_24, ↓x_X5_even_25, ↓x_X5_even_26, ↓x_X5_even_29, ↓x_X5_even_32, ↓x_X5_even_35, ↓x_X5_even_36, ↓x_X5_even_37, ↓x_X5_even_38, ↓x_X5_even_39, ↓x_X5_even_40, ↓x_X5_even_43, ↓x_X5_even_46, ↓x_X5_even_47, ↓x_X5_even_48, ↓x_X5_even_51, ↓x_X5_even_52, ↓x_X5_even_54, ↓x_X5_even_57, ↓x_X5_even_58, ↓x_X5_even_59, ↓x_X5_even_62, ↓x_X5_even_63, ↓x_X5_even_64, ↓x_X5_even_65, ↓x_X5_even_66, ↓x_X5_even_69, ↓x_X5_even_70, ↓x_X5_even_73, ↓x_X5_even_74, ↓x_X5_even_77, ↓x_X5_even_78, ↓x_X5_even_79, ↓x_X5_even_81, ↓x_X5_even_82, ↓x_X5_even_85, ↓x_X5_even_87, ↓x_X5_even_89, ↓x_X5_even_92, ↓x_X5_even_93, ↓x_X5_even_96, ↓x_X5_even_98, ↓x_X5_even_101, ↓x_X5_even_102, ↓x_X5_even_105, ↓x_X5_even_106, e2, not_true_eq_false, ↓reduceIte]
            · by_cases e2 : 0 < x
              · have e3 : ¬ x ≤ 0 := by omega
                simp only [↓x_X5_even_0, ↓x_X5_even_1, ↓x_X5_even_2, ↓x_X5_even_5, ↓x_X5_even_8, ↓x_X5_even_9, ↓x_X5_even_10, ↓x_X5_even_13, ↓x_X5_even_16, ↓x_X5_even_19, ↓x_X5_even_22, ↓x_X5_even_24, ↓x_X5_even_25, ↓x_X5_even_26, ↓x_X5_even_29, ↓x_X5_even_32, ↓x_X5_even_35, ↓x_X5_even_36, ↓x_X5_even_37, ↓x_X5_even_38, ↓x_X5_even_39, ↓x_X5_even_40, ↓x_X5_even_43, ↓x_X5_even_46, ↓x_X5_even_47, ↓x_X5_even_48, ↓x_X5_even_51, ↓x_X5_even_52, ↓x_X5_even_54, ↓x_X5_even_57, ↓x_X5_even_58, ↓x_X5_even_59, ↓x_X5_even_62, ↓x_X5_even_63, ↓x_X5_even_64, ↓x_X5_even_65, ↓x_X5_even_66, ↓x_X5_even_69, ↓x_X5_even_70, ↓x_X5_even_73, ↓x_X5_even_74, ↓x_X5_even_77, ↓x_X5_even_78, ↓x_X5_even_79, ↓x_X5_even_81, ↓x_X5_even_82, ↓x_X5_even_85, ↓x_X5_even_87, ↓x_X5_even_89, ↓x_X5_even_92, ↓x_X5_even_93, ↓x_X5_even_96, ↓x_X5_even_98, ↓x_X5_even_101, ↓x_X5_even_102, ↓x_X5_even_105, ↓x_X5_even_106, e1, e2, e3, ↓reduceIte]
              · have e3 : x ≤ 0 := by omega
                simp only [↓x_X5_even_0, ↓x_X5_even_1, ↓x_X5_even_2, ↓x_X5_even_5, ↓x_X5_even_8, ↓x_X5_even_9, ↓x_X5_even_10, ↓x_X5_even_13, ↓x_X5_even_16, ↓x_X5_even_19, ↓x_X5_even_22, ↓x_X5_even_24, ↓x_X5_even_25, ↓x_X5_even_26, ↓x_X5_even_29, ↓x_X5_even_32, ↓x_X5_even_35, ↓x_X5_even_36, ↓x_X5_even_37, ↓x_X5_even_38, ↓x_X5_even_39, ↓x_X5_even_40, ↓x_X5_even_43, ↓x_X5_even_46, ↓x_X5_even_47, ↓x_X5_even_48, ↓x_X5_even_51, ↓x_X5_even_52, ↓x_X5_even_54, ↓x_X5_even_57, ↓x_X5_even_58, ↓x_X5_even_59, ↓x_X5_even_62, ↓x_X5_even_63, ↓x_X5_even_64, ↓x_X5_even_65, ↓x_X5_even_66, ↓x_X5_even_69, ↓x_X5_even_70, ↓x_X5_even_73, ↓x_X5_even_74, ↓x_X5_even_77, ↓x_X5_even_78, ↓x_X5_even_79, ↓x_X5_even_81, ↓x_X5_even_82, ↓x_X5_even_85, ↓x_X5_even_87, ↓x_X5_even_89, ↓x_X5_even_92, ↓x_X5_even_93, ↓x_X5_even_96, ↓x_X5_even_98, ↓x_X5_even_101, ↓x_X5_even_102, ↓x_X5_even_105, ↓x_X5_even_106, e1, e2, e3, not_false_eq_true, ↓reduceIte]
        · rw [if_neg c2] at cs
          rw [if_pos c2]
          refine ⟨_, ?_, H.mt (f := 2) (by decide)⟩
          simp only [↓x_X5_even_0, ↓x_X5_even_1, ↓x_X5_even_2, ↓x_X5_even_5, ↓x_X5_even_8, ↓x_X5_even_9, ↓x_X5_even_10, ↓x_X5_even_13, ↓x_X5_even_16, ↓x_X5_even_19, ↓x_X5_even_22, ↓x_X5_even_24, ↓x_X5_even_25, ↓x_X5_even_26, ↓x_X5_even_29, ↓x_X5_even_32, ↓x_X5_even_35, ↓x_X5_even_36, ↓x_X5_even_37, ↓x_X5_even_38, ↓x_X5_even_39, ↓x_X5_even_40, ↓x_X5_even_43, ↓x_X5_even_46, ↓x_X5_even_47, ↓x_X5_even_48, ↓x_X5_even_51, ↓x_X5_even_52, ↓x_X5_even_54, ↓x_X5_even_57, ↓x_X5_even_58, ↓x_X5_even_59, ↓x_X5_even_62, ↓x_X5_even_63, ↓x_X5_even_64, ↓x_X5_even_65, ↓x_X5_even_66, ↓x_X5_even_69, ↓x_X5_even_70, ↓x_X5_even_73, ↓x_X5_even_74, ↓x_X5_even_77, ↓x_X5_even_78, ↓x_X5_even_79, ↓x_X5_even_81, ↓x_X5_even_82, ↓x_X5_even_85, ↓x_X5_even_87, ↓x_X5_even_89, ↓x_X5_even_92, ↓x_X5_even_93, ↓x_X5_even_96, ↓x_X5_even_98, ↓x_X5_even_101, ↓x_X5_even_102, ↓x_X5_even_105, ↓x_X5_even_106, ho, ↓cKI ca, z, ↓cKI ci, ↓cKI cj, ↓cKI cs, ↓cKI cf2, not_true_eq_false, not_false_eq_true, ↓reduceIte]
  · rw [if_neg c1] at ca
    rw [if_pos (Or.inl c1)]
    refine ⟨h, ?_, H, L0.rf⟩
    simp only [↓x_X5_even_0, ↓x_X5_even_1, ↓x_X5_even_2, ↓x_X5_even_5, ↓x_X5_even_8, ↓x_X5_even_9, ↓x_X5_even_10, ↓x_X5_even_13, ↓x_X5_even_16, ↓x_X5_even_19, ↓x_X5_even_22, ↓x_X5_even_24, ↓x_X5_even_25, ↓x_X5_even_26, ↓x_X5_even_29, ↓x_X5_even_32, ↓x_X5_even_35, ↓x_X5_even_36, ↓x_X5_even_37, ↓x_X5_even_38, ↓x_X5_even_39, ↓x_X5_even_40, ↓x_X5_even_43, ↓x_X5_even_46, ↓x_X5_even_47, ↓x_X5_even_48, ↓x_X5_even_51, ↓x_X5_even_52, ↓x_X5_even_54, ↓x_X5_even_57, ↓x_X5_even_58, ↓x_X5_even_59, ↓x_X5_even_62, ↓x_X5_even_63, ↓x_X5_even_64, ↓x_X5_even_65, ↓x_X5_even_66, ↓x_X5_even_69, ↓x_X5_even_70, ↓x_X5_even_73, ↓x_X5_even_74, ↓x_X5_even_77, ↓x_X5_even_78, ↓x_X5_even_79, ↓x_X5_even_81, ↓x_X5_even_82, ↓x_X5_even_85, ↓x_X5_even_87, ↓x_X5_even_89, ↓x_X5_even_92, ↓x_X5_even_93, ↓x_X5_even_96, ↓x_X5_even_98, ↓x_X5_even_101, ↓x_X5_even_102, ↓x_X5_even_105, ↓x_X5_even_106, ho, ↓cKI ca, ↓reduceIte]
theorem CR_better {S : SS} (F : WF S) (m s : Int) : CR mX5_better [aI m, aI s] aI S (o_better m s S) := by
  intro h H
  have ho : isO h 5 0 = true := isO_rd (H.1.f 4 rfl)
  have y1 : ¬ (0 : Int) ≤ -1 := by decide
  have y3 : ¬ (0 : Int) ≤ -3 := by decide
  unfold o_better
  rw [e_X5_better]
  by_cases c1 : isM S m
  · rw [if_neg (not_not_intro c1)]
    by_cases c2 : isQ S m s
    · rw [if_neg (not_not_intro c2)]
      have nd := nd_0 F H c1 c2
      obtain ⟨hm, em⟩ := isM_n c1
      obtain ⟨hs, es⟩ := isQ_n F c1 c2
      obtain ⟨h1, a1, a2, a3, a4, rb1, rb2, rb3⟩ := c_worthR F hm hs H.1
      rw [em, es] at a1
      obtain ⟨hn, en, hpy, hw⟩ := F.m hm
      obtain ⟨qv, j0, hm16, hs5⟩ := a2.pv F c1 c2
      have q14 := a2.f 14 rfl
      have hb : -50 ≤ S 2 m.toNat s.toNat 0 ∧ S 2 m.toNat s.toNat 0 ≤ 50 := hpy s.toNat hs
      have dp := (wR S m.toNat s.toNat).den_pos
      have f0 := a4.1
      have f1 := a4.2
      have ho1 : isO h1 5 0 = true := isO_rd (a2.f 4 rfl)
      generalize hD : (wR S m.toNat s.toNat).den = D at *
      generalize hN : (wR S m.toNat s.toNat).num = N at *
      generalize hV : S 2 m.toNat s.toNat 0 = V at *
      have b1 : V * (D : Int) ≤ 50 * (D : Int) := Int.mul_le_mul_of_nonneg_right hb.2 (by omega)
      have b2 : -50 * (D : Int) ≤ V * (D : Int) := Int.mul_le_mul_of_nonneg_right hb.1 (by omega)
      have ec : (D : Int) * V = V * (D : Int) := Int.mul_comm _ _
      have cb := c_fraction a2 (a := N - V * (D : Int)) (b := D) ⟨by omega, by omega⟩ ⟨by omega, by omega⟩
      obtain ⟨u1, u2⟩ := a2.up (mkRat (N - V * (D : Int)) D)
      obtain ⟨h2, t1, t2, t3⟩ := c_tells (H.sc u1 (a3.tr Sc.up)) u2
      have ho2 : isO (upH h1 (mkRat (N - V * (D : Int)) D)) 5 0 = true := isO_rd (u1.f 4 rfl)
      have e1 : w64 ((D : Int) * V) = V * (D : Int) := by rw [ec, w64_in] <;> omega
      have e2 : w64 (N - V * (D : Int)) = N - V * (D : Int) := by clear e1; rw [w64_in] <;> omega
      refine ⟨h2, ?_, t2, (a3.2.tr upH_L).tr t3⟩
      simp only [↓x_X5_better_0, ↓x_X5_better_1, ↓x_X5_better_2, ↓x_X5_better_3, ↓x_X5_better_6, ↓x_X5_better_7, ↓x_X5_better_8, ↓x_X5_better_11, ↓x_X5_better_12, ↓x_X5_better_13, ↓x_X5_better_14, ↓x_X5_better_15, ↓x_X5_better_16, ↓x_X5_better_19, ↓x_X5_better_20, ↓x_X5_better_21, ↓x_X5_better_24, ↓x_X5_better_25, ↓x_X5_better_28, ↓x_X5_better_29, ↓x_X5_better_32, ↓x_X5_better_33, ↓x_X5_better_34, ↓x_X5_better_35, ↓x_X5_better_36, ↓x_X5_better_37, ↓x_X5_better_38, ↓x_X5_better_39, ↓x_X5_better_40, ↓x_X5_better_41, ↓x_X5_better_42, ↓x_X5_better_48, ↓x_X5_better_49, ↓x_X5_better_52, ho, ↓cKI nd, ↓cKV a1, ↓gK_of f0, ↓gK_of f1, ↓gK_of q14, w5a hm16, w5b hm16 hs5, j0, ↓gK_of qv, gK_of qv, e1, e2, Int.le_refl, ↓reduceIte]
      simp only [↓x_X5_better_0, ↓x_X5_better_1, ↓x_X5_better_2, ↓x_X5_better_3, ↓x_X5_better_6, ↓x_X5_better_7, ↓x_X5_better_8, ↓x_X5_better_11, ↓x_X5_better_12, ↓x_X5_better_13, ↓x_X5_better_14, ↓x_X5_better_15, ↓x_X5_better_16, ↓x_X5_better_19, ↓x_X5_better_20, ↓x_X5_better_21, ↓x_X5_better_24, ↓x_X5_better_25, ↓x_X5_better_28, ↓x_X5_better_29, ↓x_X5_better_32, ↓x_X5_better_33, ↓x_X5_better_34, ↓x_X5_better_35, ↓x_X5_better_36, ↓x_X5_better_37, ↓x_X5_better_38, ↓x_X5_better_39, ↓x_X5_better_40, ↓x_X5_better_41, ↓x_X5_better_42, ↓x_X5_better_45, ↓x_X5_better_48, ↓x_X5_better_49, ↓x_X5_better_52, ho1, ↓cKV cb, ho2, ↓cKI t1]
    · rw [if_pos c2]
      have nd := nd_2 F H c1 c2
      refine ⟨_, ?_, H.mt (f := 2) (by decide)⟩
      simp only [↓x_X5_better_0, ↓x_X5_better_1, ↓x_X5_better_2, ↓x_X5_better_3, ↓x_X5_better_6, ↓x_X5_better_7, ↓x_X5_better_8, ↓x_X5_better_11, ↓x_X5_better_12, ↓x_X5_better_13, ↓x_X5_better_14, ↓x_X5_better_15, ↓x_X5_better_16, ↓x_X5_better_19, ↓x_X5_better_20, ↓x_X5_better_21, ↓x_X5_better_24, ↓x_X5_better_25, ↓x_X5_better_28, ↓x_X5_better_29, ↓x_X5_better_32, ↓x_X5_better_33, ↓x_X5_better_34, ↓x_X5_better_35, ↓x_X5_better_36, ↓x_X5_better_37, ↓x_X5_better_38, ↓x_X5_better_39, ↓x_X5_better_40, ↓x_X5_better_41, ↓x_X5_better_42, ↓x_X5_better_45, ↓x_X5_better_48, ↓x_X5_better_49, ↓x_X5_better_52, ho, ↓cKI nd, y3, ↓reduceIte]
  · rw [if_pos c1]
    have nd := nd_1 (s := s) F H c1
    refine ⟨h, ?_, H, L0.rf⟩
    simp only [↓x_X5_better_0, ↓x_X5_better_1, ↓x_X5_better_2, ↓x_X5_better_3, ↓x_X5_better_6, ↓x_X5_better_7, ↓x_X5_better_8, ↓x_X5_better_11, ↓x_X5_better_12, ↓x_X5_better_13, ↓x_X5_better_14, ↓x_X5_better_15, ↓x_X5_better_16, ↓x_X5_better_19, ↓x_X5_better_20, ↓x_X5_better_21, ↓x_X5_better_24, ↓x_X5_better_25, ↓x_X5_better_28, ↓x_X5_better_29, ↓x_X5_better_32, ↓x_X5_better_33, ↓x_X5_better_34, ↓x_X5_better_35, ↓x_X5_better_36, ↓x_X5_better_37, ↓x_X5_better_38, ↓x_X5_better_39, ↓x_X5_better_40, ↓x_X5_better_41, ↓x_X5_better_42, ↓x_X5_better_45, ↓x_X5_better_48, ↓x_X5_better_49, ↓x_X5_better_52, ho, ↓cKI nd, y1, ↓reduceIte]
theorem lr_mean {S : SS} {h : AH} (F : WF S) (H : RB0 S h) {m s : Int} (c1 : isM S m) (c2 : isQ S m s) {v3 : Int} : ∀ (d t : Nat), t + d = nS S m.toNat →
    X mX5_mean 19 [aR (some 0), aI m, aI s, aI v3, aJ (sumI (mnF S m.toNat s.toNat) t), aU, aI t] [] h = X mX5_mean 71 [aR (some 0), aI m, aI s, aI v3, aJ (sumI (mnF S m.toNat s.toNat) (nS S m.toNat)), aU, aI (nS S m.toNat : Nat)] [] h := by
  obtain ⟨hm, em⟩ := isM_n c1
  obtain ⟨hs, es⟩ := isQ_n F c1 c2
  obtain ⟨hn, en, hpy, hw⟩ := F.m hm
  have q12 := H.f 12 rfl
  have q14 := H.f 14 rfl
  have q15 := H.f 15 rfl
  have q7 := H.r7 hm
  rw [← en] at q7
  have m0 := c1.1
  obtain ⟨-, -, hm16, hs5⟩ := H.pv F c1 c2
  intro d
  induction d with
  | zero =>
    intro t hd
    have e : t = nS S m.toNat := by omega
    subst e
    have n1 : ((nS S m.toNat : Nat) : Int) ≤ ((nS S m.toNat : Nat) : Int) := Int.le_refl _
    rw [x_X5_mean_19]
    simp only [↓x_X5_mean_0, ↓x_X5_mean_1, ↓x_X5_mean_2, ↓x_X5_mean_3, ↓x_X5_mean_6, ↓x_X5_mean_7, ↓x_X5_mean_8, ↓x_X5_mean_11, ↓x_X5_mean_12, ↓x_X5_mean_13, ↓x_X5_mean_14, ↓x_X5_mean_16, ↓x_X5_mean_17, ↓x_X5_mean_21, ↓x_X5_mean_22, ↓x_X5_mean_25, ↓x_X5_mean_26, ↓x_X5_mean_27, ↓x_X5_mean_30, ↓x_X5_mean_32, ↓x_X5_mean_33, ↓x_X5_mean_36, ↓x_X5_mean_38, ↓x_X5_mean_39, ↓x_X5_mean_40, ↓x_X5_mean_41, ↓x_X5_mean_42, ↓x_X5_mean_43, ↓x_X5_mean_44, ↓x_X5_mean_46, ↓x_X5_mean_47, ↓x_X5_mean_48, ↓x_X5_mean_49, ↓x_X5_mean_50, ↓x_X5_mean_53, ↓x_X5_mean_54, ↓x_X5_mean_55, ↓x_X5_mean_56, ↓x_X5_mean_58, ↓x_X5_mean_59, ↓x_X5_mean_60, ↓x_X5_mean_61, ↓x_X5_mean_62, ↓x_X5_mean_63, ↓x_X5_mean_65, ↓x_X5_mean_68, ↓x_X5_mean_72, ↓x_X5_mean_74, ↓x_X5_mean_75, ↓x_X5_mean_76, ↓x_X5_mean_77, ↓x_X5_mean_80, ↓x_X5_mean_81, ↓x_X5_mean_84, ↓x_X5_mean_85, ↓x_X5_mean_88, ↓gK_of q12, m0, ↓gK_of q7, n1, ↓reduceIte]
  | succ d ih =>
    intro t hd
    have n3 : ¬ ((nS S m.toNat : Nat) : Int) ≤ (t : Int) := by omega
    have ht5 : t ≤ 1000 := by omega
    have ct : isQ S m (t : Int) := ⟨by omega, by omega⟩
    obtain ⟨qv, j0, -, ht⟩ := H.pv F c1 ct
    obtain ⟨wv, i0, -⟩ := H.wv F c1 c2 ct
    rw [Int.toNat_natCast] at qv wv
    have b1 := mnF_b F hm hs t (by omega)
    have b2 := mnS_b F hm hs (t := t) (by omega)
    rw [← ih (t + 1) (by omega), x_X5_mean_19]
    have e1 : w64 (S 3 m.toNat s.toNat t * S 2 m.toNat t 0) = mnF S m.toNat s.toNat t := by
      show w64 (mnF S m.toNat s.toNat t) = mnF S m.toNat s.toNat t
      rw [w64_in] <;> omega
    have e2 : w64 (sumI (mnF S m.toNat s.toNat) t + mnF S m.toNat s.toNat t) = sumI (mnF S m.toNat s.toNat) (t + 1) := by clear e1; rw [sumI, w64_in] <;> omega
    simp only [↓x_X5_mean_0, ↓x_X5_mean_1, ↓x_X5_mean_2, ↓x_X5_mean_3, ↓x_X5_mean_6, ↓x_X5_mean_7, ↓x_X5_mean_8, ↓x_X5_mean_11, ↓x_X5_mean_12, ↓x_X5_mean_13, ↓x_X5_mean_14, ↓x_X5_mean_16, ↓x_X5_mean_17, ↓x_X5_mean_21, ↓x_X5_mean_22, ↓x_X5_mean_25, ↓x_X5_mean_26, ↓x_X5_mean_27, ↓x_X5_mean_30, ↓x_X5_mean_32, ↓x_X5_mean_33, ↓x_X5_mean_36, ↓x_X5_mean_38, ↓x_X5_mean_39, ↓x_X5_mean_40, ↓x_X5_mean_41, ↓x_X5_mean_42, ↓x_X5_mean_43, ↓x_X5_mean_44, ↓x_X5_mean_46, ↓x_X5_mean_47, ↓x_X5_mean_48, ↓x_X5_mean_49, ↓x_X5_mean_50, ↓x_X5_mean_53, ↓x_X5_mean_54, ↓x_X5_mean_55, ↓x_X5_mean_56, ↓x_X5_mean_58, ↓x_X5_mean_59, ↓x_X5_mean_60, ↓x_X5_mean_61, ↓x_X5_mean_62, ↓x_X5_mean_63, ↓x_X5_mean_65, ↓x_X5_mean_68, ↓x_X5_mean_72, ↓x_X5_mean_74, ↓x_X5_mean_75, ↓x_X5_mean_76, ↓x_X5_mean_77, ↓x_X5_mean_80, ↓x_X5_mean_81, ↓x_X5_mean_84, ↓x_X5_mean_85, ↓x_X5_mean_88, ↓gK_of q12, ↓gK_of q14, ↓gK_of q15, m0, ↓gK_of q7, n3, w25a hm16, w5s hs5, w25b hm16 hs5, w25c hm16 hs5 ⟨ht.1, Int.le_of_lt ht.2⟩, w5a hm16, w5b hm16 ht, i0, j0, ↓gK_of wv, gK_of wv, ↓gK_of qv, gK_of qv, e1, e2, w32_s ht5, ↓reduceIte]
theorem CR_mean {S : SS} (F : WF S) (m s : Int) : CR mX5_mean [aI m, aI s] aI S (o_mean m s S) := by
  intro h H
  have ho : isO h 5 0 = true := isO_rd (H.1.f 4 rfl)
  have y1 : ¬ (0 : Int) ≤ -1 := by decide
  have y3 : ¬ (0 : Int) ≤ -3 := by decide
  unfold o_mean
  rw [e_X5_mean]
  by_cases c1 : isM S m
  · rw [if_neg (not_not_intro c1)]
    by_cases c2 : isQ S m s
    · rw [if_neg (not_not_intro c2)]
      have nd := nd_0 F H c1 c2
      obtain ⟨hm, em⟩ := isM_n c1
      obtain ⟨hs, es⟩ := isQ_n F c1 c2
      obtain ⟨hn, en, hpy, hw⟩ := F.m hm
      have lm := lr_mean F H.1 c1 c2 (v3 := 0) (nS S m.toNat) 0 (by omega)
      have cs := c_sum F H.1 c1 c2
      have hb2 := (hw s.toNat hs).2
      have mb2 := mnS_b F hm hs (Nat.le_refl _)
      obtain ⟨D, hD⟩ := Int.eq_ofNat_of_zero_le (show 0 ≤ sumI (wS S m.toNat s.toNat) (nS S m.toNat) by omega)
      rw [hD] at cs hb2
      rw [hD, Int.toNat_natCast]
      have cb := c_fraction H.1 (a := sumI (mnF S m.toNat s.toNat) (nS S m.toNat)) (b := D) ⟨by omega, by omega⟩ ⟨by omega, by omega⟩
      obtain ⟨u1, u2⟩ := H.1.up (mkRat (sumI (mnF S m.toNat s.toNat) (nS S m.toNat)) D)
      obtain ⟨h2, t1, t2, t3⟩ := c_tells (H.sc u1 Sc.up) u2
      have ho2 : isO (upH h (mkRat (sumI (mnF S m.toNat s.toNat) (nS S m.toNat)) D)) 5 0 = true := isO_rd (u1.f 4 rfl)
      refine ⟨h2, ?_, t2, upH_L.tr t3⟩
      simp only [↓x_X5_mean_0, ↓x_X5_mean_1, ↓x_X5_mean_2, ↓x_X5_mean_3, ↓x_X5_mean_6, ↓x_X5_mean_7, ↓x_X5_mean_8, ↓x_X5_mean_11, ↓x_X5_mean_12, ↓x_X5_mean_13, ↓x_X5_mean_14, ↓x_X5_mean_16, ↓x_X5_mean_17, ↓x_X5_mean_21, ↓x_X5_mean_22, ↓x_X5_mean_25, ↓x_X5_mean_26, ↓x_X5_mean_27, ↓x_X5_mean_30, ↓x_X5_mean_32, ↓x_X5_mean_33, ↓x_X5_mean_36, ↓x_X5_mean_38, ↓x_X5_mean_39, ↓x_X5_mean_40, ↓x_X5_mean_41, ↓x_X5_mean_42, ↓x_X5_mean_43, ↓x_X5_mean_44, ↓x_X5_mean_46, ↓x_X5_mean_47, ↓x_X5_mean_48, ↓x_X5_mean_49, ↓x_X5_mean_50, ↓x_X5_mean_53, ↓x_X5_mean_54, ↓x_X5_mean_55, ↓x_X5_mean_56, ↓x_X5_mean_58, ↓x_X5_mean_59, ↓x_X5_mean_60, ↓x_X5_mean_61, ↓x_X5_mean_62, ↓x_X5_mean_63, ↓x_X5_mean_65, ↓x_X5_mean_68, ↓x_X5_mean_71, ↓x_X5_mean_72, ↓x_X5_mean_74, ↓x_X5_mean_75, ↓x_X5_mean_76, ↓x_X5_mean_77, ↓x_X5_mean_80, ↓x_X5_mean_81, ↓x_X5_mean_84, ↓x_X5_mean_85, ↓x_X5_mean_88, ho, ↓cKI nd, Int.le_refl, ↓reduceIte]
      refine lm.trans ?_
      simp only [↓x_X5_mean_0, ↓x_X5_mean_1, ↓x_X5_mean_2, ↓x_X5_mean_3, ↓x_X5_mean_6, ↓x_X5_mean_7, ↓x_X5_mean_8, ↓x_X5_mean_11, ↓x_X5_mean_12, ↓x_X5_mean_13, ↓x_X5_mean_14, ↓x_X5_mean_16, ↓x_X5_mean_17, ↓x_X5_mean_21, ↓x_X5_mean_22, ↓x_X5_mean_25, ↓x_X5_mean_26, ↓x_X5_mean_27, ↓x_X5_mean_30, ↓x_X5_mean_32, ↓x_X5_mean_33, ↓x_X5_mean_36, ↓x_X5_mean_38, ↓x_X5_mean_39, ↓x_X5_mean_40, ↓x_X5_mean_41, ↓x_X5_mean_42, ↓x_X5_mean_43, ↓x_X5_mean_44, ↓x_X5_mean_46, ↓x_X5_mean_47, ↓x_X5_mean_48, ↓x_X5_mean_49, ↓x_X5_mean_50, ↓x_X5_mean_53, ↓x_X5_mean_54, ↓x_X5_mean_55, ↓x_X5_mean_56, ↓x_X5_mean_58, ↓x_X5_mean_59, ↓x_X5_mean_60, ↓x_X5_mean_61, ↓x_X5_mean_62, ↓x_X5_mean_63, ↓x_X5_mean_65, ↓x_X5_mean_68, ↓x_X5_mean_71, ↓x_X5_mean_72, ↓x_X5_mean_74, ↓x_X5_mean_75, ↓x_X5_mean_76, ↓x_X5_mean_77, ↓x_X5_mean_80, ↓x_X5_mean_81, ↓x_X5_mean_84, ↓x_X5_mean_85, ↓x_X5_mean_88, ho, ↓cKI cs, ↓cKV cb, ho2, ↓cKI t1]
    · rw [if_pos c2]
      have nd := nd_2 F H c1 c2
      refine ⟨_, ?_, H.mt (f := 2) (by decide)⟩
      simp only [↓x_X5_mean_0, ↓x_X5_mean_1, ↓x_X5_mean_2, ↓x_X5_mean_3, ↓x_X5_mean_6, ↓x_X5_mean_7, ↓x_X5_mean_8, ↓x_X5_mean_11, ↓x_X5_mean_12, ↓x_X5_mean_13, ↓x_X5_mean_14, ↓x_X5_mean_16, ↓x_X5_mean_17, ↓x_X5_mean_21, ↓x_X5_mean_22, ↓x_X5_mean_25, ↓x_X5_mean_26, ↓x_X5_mean_27, ↓x_X5_mean_30, ↓x_X5_mean_32, ↓x_X5_mean_33, ↓x_X5_mean_36, ↓x_X5_mean_38, ↓x_X5_mean_39, ↓x_X5_mean_40, ↓x_X5_mean_41, ↓x_X5_mean_42, ↓x_X5_mean_43, ↓x_X5_mean_44, ↓x_X5_mean_46, ↓x_X5_mean_47, ↓x_X5_mean_48, ↓x_X5_mean_49, ↓x_X5_mean_50, ↓x_X5_mean_53, ↓x_X5_mean_54, ↓x_X5_mean_55, ↓x_X5_mean_56, ↓x_X5_mean_58, ↓x_X5_mean_59, ↓x_X5_mean_60, ↓x_X5_mean_61, ↓x_X5_mean_62, ↓x_X5_mean_63, ↓x_X5_mean_65, ↓x_X5_mean_68, ↓x_X5_mean_71, ↓x_X5_mean_72, ↓x_X5_mean_74, ↓x_X5_mean_75, ↓x_X5_mean_76, ↓x_X5_mean_77, ↓x_X5_mean_80, ↓x_X5_mean_81, ↓x_X5_mean_84, ↓x_X5_mean_85, ↓x_X5_mean_88, ho, ↓cKI nd, y3, ↓reduceIte]
  · rw [if_pos c1]
    have nd := nd_1 (s := s) F H c1
    refine ⟨h, ?_, H, L0.rf⟩
    simp only [↓x_X5_mean_0, ↓x_X5_mean_1, ↓x_X5_mean_2, ↓x_X5_mean_3, ↓x_X5_mean_6, ↓x_X5_mean_7, ↓x_X5_mean_8, ↓x_X5_mean_11, ↓x_X5_mean_12, ↓x_X5_mean_13, ↓x_X5_mean_14, ↓x_X5_mean_16, ↓x_X5_mean_17, ↓x_X5_mean_21, ↓x_X5_mean_22, ↓x_X5_mean_25, ↓x_X5_mean_26, ↓x_X5_mean_27, ↓x_X5_mean_30, ↓x_X5_mean_32, ↓x_X5_mean_33, ↓x_X5_mean_36, ↓x_X5_mean_38, ↓x_X5_mean_39, ↓x_X5_mean_40, ↓x_X5_mean_41, ↓x_X5_mean_42, ↓x_X5_mean_43, ↓x_X5_mean_44, ↓x_X5_mean_46, ↓x_X5_mean_47, ↓x_X5_mean_48, ↓x_X5_mean_49, ↓x_X5_mean_50, ↓x_X5_mean_53, ↓x_X5_mean_54, ↓x_X5_mean_55, ↓x_X5_mean_56, ↓x_X5_mean_58, ↓x_X5_mean_59, ↓x_X5_mean_60, ↓x_X5_mean_61, ↓x_X5_mean_62, ↓x_X5_mean_63, ↓x_X5_mean_65, ↓x_X5_mean_68, ↓x_X5_mean_71, ↓x_X5_mean_72, ↓x_X5_mean_74, ↓x_X5_mean_75, ↓x_X5_mean_76, ↓x_X5_mean_77, ↓x_X5_mean_80, ↓x_X5_mean_81, ↓x_X5_mean_84, ↓x_X5_mean_85, ↓x_X5_mean_88, ho, ↓cKI nd, y1, ↓reduceIte]
theorem CR_compare {S : SS} (F : WF S) (m s o t : Int) : CR mX5_compare [aI m, aI s, aI o, aI t] aI S (o_compare m s o t S) := by
  intro h H
  have ho : isO h 5 0 = true := isO_rd (H.1.f 4 rfl)
  have ca := c_isMachine F H.1 m
  have cb := c_isMachine F H.1 o
  have cf2 := m_fd2 H.1
  have z : ¬ (1 : Int) = 0 := by decide
  unfold o_compare
  rw [e_X5_compare]
  by_cases c1 : isM S m
  · rw [if_pos c1] at ca
    by_cases c0 : isM S o
    · rw [if_pos c0] at cb
      rw [if_neg (by omega)]
      have cs := c_isQ F H.1 c1 s
      have ct := c_isQ F H.1 c0 t
      by_cases c2 : isQ S m s
      · rw [if_pos c2] at cs
        by_cases c3 : isQ S o t
        · rw [if_pos c3] at ct
          rw [if_neg (by omega)]
          obtain ⟨hm, em⟩ := isM_n c1
          obtain ⟨hs, es⟩ := isQ_n F c1 c2
          obtain ⟨hm2, em2⟩ := isM_n c0
          obtain ⟨hs2, es2⟩ := isQ_n F c0 c3
          obtain ⟨h1, a1, a2, a3, a4, a5⟩ := c_worthR F hm hs H.1
          rw [em, es] at a1
          obtain ⟨h2, b1, b2, b3, b4, b5⟩ := c_worthR F hm2 hs2 a2
          rw [em2, es2] at b1
          have ho1 : isO h1 5 0 = true := isO_rd (a2.f 4 rfl)
          have cc := c_cmpR (h := h2) a5 b5
          refine ⟨h2, ?_, H.sc b2 (a3.tr b3), a3.2.tr b3.2⟩
          generalize rc (wR S m.toNat s.toNat) (wR S o.toNat t.toNat) = x at cc ⊢
          have s85 : X mX5_compare 0 [aR (some 0), aI m, aI s, aI o, aI t, aU, aU, aU, aU, aU] [] h = X mX5_compare 85 [aR (some 0), aI m, aI s, aI o, aI t, aJ (wR S m.toNat s.toNat).num, aU, aJ ((wR S m.toNat s.toNat).den : Int), aU, aI x] [] h2 := by
            simp only [↓x_X5_compare_0, ↓x_X5_compare_1, ↓x_X5_compare_2, ↓x_X5_compare_5, ↓x_X5_compare_8, ↓x_X5_compare_9, ↓x_X5_compare_10, ↓x_X5_compare_13, ↓x_X5_compare_16, ↓x_X5_compare_17, ↓x_X5_compare_18, ↓x_X5_compare_19, ↓x_X5_compare_20, ↓x_X5_compare_21, ↓x_X5_compare_24, ↓x_X5_compare_27, ↓x_X5_compare_28, ↓x_X5_compare_29, ↓x_X5_compare_31, ↓x_X5_compare_34, ↓x_X5_compare_37, ↓x_X5_compare_38, ↓x_X5_compare_39, ↓x_X5_compare_42, ↓x_X5_compare_43, ↓x_X5_compare_44, ↓x_X5_compare_45, ↓x_X5_compare_46, ↓x_X5_compare_49, ↓x_X5_compare_50, ↓x_X5_compare_53, ↓x_X5_compare_55, ↓x_X5_compare_56, ↓x_X5_compare_59, ↓x_X5_compare_61, ↓x_X5_compare_62, ↓x_X5_compare_63, ↓x_X5_compare_65, ↓x_X5_compare_68, ↓x_X5_compare_70, ↓x_X5_compare_72, ↓x_X5_compare_73, ↓x_X5_compare_76, ↓x_X5_compare_77, ↓x_X5_compare_80, ↓x_X5_compare_83, ↓x_X5_compare_87, ↓x_X5_compare_90, ↓x_X5_compare_91, ↓x_X5_compare_94, ↓x_X5_compare_96, ↓x_X5_compare_99, ↓x_X5_compare_100, ↓x_X5_compare_103, ↓x_X5_compare_104, ho, ho1, ↓cKI ca, ↓cKI cb, z, ↓cKI cs, ↓cKI ct, ↓cKV a1, ↓gK_of a4.1, ↓gK_of a4.2, ↓cKV b1, ↓gK_of b4.1, ↓gK_of b4.2, ↓cKI cc, not_false_eq_true, ↓reduceIte]
          rw [s85]
          unfold asA
          by_cases e1 : x = 0
          · have e2 : (0 : Int) ≤ 0 := Int.le_refl _
            subst e1
            simp only [↓x_X5_compare_0, ↓x_X5_compare_1, ↓x_X5_compare_2, ↓x_X5_compare_5, ↓x_X5_compare_8, ↓x_X5_compare_9, ↓x_X5_compare_10, ↓x_X5_compare_13, ↓x_X5_compare_16, ↓x_X5_compare_17, ↓x_X5_compare_18, ↓x_X5_compare_19, ↓x_X5_compare_20, ↓x_X5_compare_21, ↓x_X5_compare_24, ↓x_X5_compare_27, ↓x_X5_compare_28, ↓x_X5_compare_29, ↓x_X5_compare_31, ↓x_X5_compare_34, ↓x_X5_compare_37, ↓x_X5_compare_38, ↓x_X5_compare_39, ↓x_X5_compare_42, ↓x_X5_compare_43, ↓x_X5_compare_44, ↓x_X5_compare_45, ↓x_X5_compare_46, ↓x_X5_compare_49, ↓x_X5_compare_50, ↓x_X5_compare_53, ↓x_X5_compare_55, ↓x_X5_compare_56, ↓x_X5_compare_59, ↓x_X5_compare_61, ↓x_X5_compare_62, ↓x_X5_compare_63, ↓x_X5_compare_65, ↓x_X5_compare_68, ↓x_X5_compare_70, ↓x_X5_compare_72, ↓x_X5_compare_73, ↓x_X5_compare_76, ↓x_X5_compare_77, ↓x_X5_compare_80, ↓x_X5_compare_83, ↓x_X5_compare_85, ↓x_X5_compare_87, ↓x_X5_compare_90, ↓x_X5_compare_91, ↓x_X5_compare_94, ↓x_X5_compare_96, ↓x_X5_compare_99, ↓x_X5_compare_100, ↓x_X5_compare_103, ↓x_X5_compare_104, e2, not_true_eq_false, ↓reduceIte]
          · by_cases e2 : 0 < x
            · have e3 : ¬ x ≤ 0 := by omega
              simp only [↓x_X5_compare_0, ↓x_X5_compare_1, ↓x_X5_compare_2, ↓x_X5_compare_5, ↓x_X5_compare_8, ↓x_X5_compare_9, ↓x_X5_compare_10, ↓x_X5_compare_13, ↓x_X5_compare_16, ↓x_X5_compare_17, ↓x_X5_compare_18, ↓x_X5_compare_19, ↓x_X5_compare_20, ↓x_X5_compare_21, ↓x_X5_compare_24, ↓x_X5_compare_27, ↓x_X5_compare_28, ↓x_X5_compare_29, ↓x_X5_compare_31, ↓x_X5_compare_34, ↓x_X5_compare_37, ↓x_X5_compare_38, ↓x_X5_compare_39, ↓x_X5_compare_42, ↓x_X5_compare_43, ↓x_X5_compare_44, ↓x_X5_compare_45, ↓x_X5_compare_46, ↓x_X5_compare_49, ↓x_X5_compare_50, ↓x_X5_compare_53, ↓x_X5_compare_55, ↓x_X5_compare_56, ↓x_X5_compare_59, ↓x_X5_compare_61, ↓x_X5_compare_62, ↓x_X5_compare_63, ↓x_X5_compare_65, ↓x_X5_compare_68, ↓x_X5_compare_70, ↓x_X5_compare_72, ↓x_X5_compare_73, ↓x_X5_compare_76, ↓x_X5_compare_77, ↓x_X5_compare_80, ↓x_X5_compare_83, ↓x_X5_compare_85, ↓x_X5_compare_87, ↓x_X5_compare_90, ↓x_X5_compare_91, ↓x_X5_compare_94, ↓x_X5_compare_96, ↓x_X5_compare_99, ↓x_X5_compare_100, ↓x_X5_compare_103, ↓x_X5_compare_104, e1, e2, e3, ↓reduceIte]
            · have e3 : x ≤ 0 := by omega
              simp only [↓x_X5_compare_0, ↓x_X5_compare_1, ↓x_X5_compare_2, ↓x_X5_compare_5, ↓x_X5_compare_8, ↓x_X5_compare_9, ↓x_X5_compare_10, ↓x_X5_compare_13, ↓x_X5_compare_16, ↓x_X5_compare_17, ↓x_X5_compare_18, ↓x_X5_compare_19, ↓x_X5_compare_20, ↓x_X5_compare_21, ↓x_X5_compare_24, ↓x_X5_compare_27, ↓x_X5_compare_28, ↓x_X5_compare_29, ↓x_X5_compare_31, ↓x_X5_compare_34, ↓x_X5_compare_37, ↓x_X5_compare_38, ↓x_X5_compare_39, ↓x_X5_compare_42, ↓x_X5_compare_43, ↓x_X5_compare_44, ↓x_X5_compare_45, ↓x_X5_compare_46, ↓x_X5_compare_49, ↓x_X5_compare_50, ↓x_X5_compare_53, ↓x_X5_compare_55, ↓x_X5_compare_56, ↓x_X5_compare_59, ↓x_X5_compare_61, ↓x_X5_compare_62, ↓x_X5_compare_63, ↓x_X5_compare_65, ↓x_X5_compare_68, ↓x_X5_compare_70, ↓x_X5_compare_72, ↓x_X5_compare_73, ↓x_X5_compare_76, ↓x_X5_compare_77, ↓x_X5_compare_80, ↓x_X5_compare_83, ↓x_X5_compare_85, ↓x_X5_compare_87, ↓x_X5_compare_90, ↓x_X5_compare_91, ↓x_X5_compare_94, ↓x_X5_compare_96, ↓x_X5_compare_99, ↓x_X5_compare_100, ↓x_X5_compare_103, ↓x_X5_compare_104, e1, e2, e3, not_false_eq_true, ↓reduceIte]
        · rw [if_neg c3] at ct
          rw [if_pos (Or.inr c3)]
          refine ⟨_, ?_, H.mt (f := 2) (by decide)⟩
          simp only [↓x_X5_compare_0, ↓x_X5_compare_1, ↓x_X5_compare_2, ↓x_X5_compare_5, ↓x_X5_compare_8, ↓x_X5_compare_9, ↓x_X5_compare_10, ↓x_X5_compare_13, ↓x_X5_compare_16, ↓x_X5_compare_17, ↓x_X5_compare_18, ↓x_X5_compare_19, ↓x_X5_compare_20, ↓x_X5_compare_21, ↓x_X5_compare_24, ↓x_X5_compare_27, ↓x_X5_compare_28, ↓x_X5_compare_29, ↓x_X5_compare_31, ↓x_X5_compare_34, ↓x_X5_compare_37, ↓x_X5_compare_38, ↓x_X5_compare_39, ↓x_X5_compare_42, ↓x_X5_compare_43, ↓x_X5_compare_44, ↓x_X5_compare_45, ↓x_X5_compare_46, ↓x_X5_compare_49, ↓x_X5_compare_50, ↓x_X5_compare_53, ↓x_X5_compare_55, ↓x_X5_compare_56, ↓x_X5_compare_59, ↓x_X5_compare_61, ↓x_X5_compare_62, ↓x_X5_compare_63, ↓x_X5_compare_65, ↓x_X5_compare_68, ↓x_X5_compare_70, ↓x_X5_compare_72, ↓x_X5_compare_73, ↓x_X5_compare_76, ↓x_X5_compare_77, ↓x_X5_compare_80, ↓x_X5_compare_83, ↓x_X5_compare_85, ↓x_X5_compare_87, ↓x_X5_compare_90, ↓x_X5_compare_91, ↓x_X5_compare_94, ↓x_X5_compare_96, ↓x_X5_compare_99, ↓x_X5_compare_100, ↓x_X5_compare_103, ↓x_X5_compare_104, ho, ↓cKI ca, ↓cKI cb, z, ↓cKI cs, ↓cKI ct, ↓cKI cf2, not_true_eq_false, not_false_eq_true, ↓reduceIte]
      · rw [if_neg c2] at cs
        rw [if_pos (Or.inl c2)]
        refine ⟨_, ?_, H.mt (f := 2) (by decide)⟩
        simp only [↓x_X5_compare_0, ↓x_X5_compare_1, ↓x_X5_compare_2, ↓x_X5_compare_5, ↓x_X5_compare_8, ↓x_X5_compare_9, ↓x_X5_compare_10, ↓x_X5_compare_13, ↓x_X5_compare_16, ↓x_X5_compare_17, ↓x_X5_compare_18, ↓x_X5_compare_19, ↓x_X5_compare_20, ↓x_X5_compare_21, ↓x_X5_compare_24, ↓x_X5_compare_27, ↓x_X5_compare_28, ↓x_X5_compare_29, ↓x_X5_compare_31, ↓x_X5_compare_34, ↓x_X5_compare_37, ↓x_X5_compare_38, ↓x_X5_compare_39, ↓x_X5_compare_42, ↓x_X5_compare_43, ↓x_X5_compare_44, ↓x_X5_compare_45, ↓x_X5_compare_46, ↓x_X5_compare_49, ↓x_X5_compare_50, ↓x_X5_compare_53, ↓x_X5_compare_55, ↓x_X5_compare_56, ↓x_X5_compare_59, ↓x_X5_compare_61, ↓x_X5_compare_62, ↓x_X5_compare_63, ↓x_X5_compare_65, ↓x_X5_compare_68, ↓x_X5_compare_70, ↓x_X5_compare_72, ↓x_X5_compare_73, ↓x_X5_compare_76, ↓x_X5_compare_77, ↓x_X5_compare_80, ↓x_X5_compare_83, ↓x_X5_compare_85, ↓x_X5_compare_87, ↓x_X5_compare_90, ↓x_X5_compare_91, ↓x_X5_compare_94, ↓x_X5_compare_96, ↓x_X5_compare_99, ↓x_X5_compare_100, ↓x_X5_compare_103, ↓x_X5_compare_104, ho, ↓cKI ca, ↓cKI cb, z, ↓cKI cs, ↓cKI cf2, not_false_eq_true, ↓reduceIte]
    · rw [if_neg c0] at cb
      rw [if_pos (Or.inr c0)]
      refine ⟨h, ?_, H, L0.rf⟩
      simp only [↓x_X5_compare_0, ↓x_X5_compare_1, ↓x_X5_compare_2, ↓x_X5_compare_5, ↓x_X5_compare_8, ↓x_X5_compare_9, ↓x_X5_compare_10, ↓x_X5_compare_13, ↓x_X5_compare_16, ↓x_X5_compare_17, ↓x_X5_compare_18, ↓x_X5_compare_19, ↓x_X5_compare_20, ↓x_X5_compare_21, ↓x_X5_compare_24, ↓x_X5_compare_27, ↓x_X5_compare_28, ↓x_X5_compare_29, ↓x_X5_compare_31, ↓x_X5_compare_34, ↓x_X5_compare_37, ↓x_X5_compare_38, ↓x_X5_compare_39, ↓x_X5_compare_42, ↓x_X5_compare_43, ↓x_X5_compare_44, ↓x_X5_compare_45, ↓x_X5_compare_46, ↓x_X5_compare_49, ↓x_X5_compare_50, ↓x_X5_compare_53, ↓x_X5_compare_55, ↓x_X5_compare_56, ↓x_X5_compare_59, ↓x_X5_compare_61, ↓x_X5_compare_62, ↓x_X5_compare_63, ↓x_X5_compare_65, ↓x_X5_compare_68, ↓x_X5_compare_70, ↓x_X5_compare_72, ↓x_X5_compare_73, ↓x_X5_compare_76, ↓x_X5_compare_77, ↓x_X5_compare_80, ↓x_X5_compare_83, ↓x_X5_compare_85, ↓x_X5_compare_87, ↓x_X5_compare_90, ↓x_X5_compare_91, ↓x_X5_compare_94, ↓x_X5_compare_96, ↓x_X5_compare_99, ↓x_X5_compare_100, ↓x_X5_compare_103, ↓x_X5_compare_104, ho, ↓cKI ca, ↓cKI cb, z, not_true_eq_false, ↓reduceIte]
  · rw [if_neg c1] at ca
    rw [if_pos (Or.inl c1)]
    refine ⟨h, ?_, H, L0.rf⟩
    simp only [↓x_X5_compare_0, ↓x_X5_compare_1, ↓x_X5_compare_2, ↓x_X5_compare_5, ↓x_X5_compare_8, ↓x_X5_compare_9, ↓x_X5_compare_10, ↓x_X5_compare_13, ↓x_X5_compare_16, ↓x_X5_compare_17, ↓x_X5_compare_18, ↓x_X5_compare_19, ↓x_X5_compare_20, ↓x_X5_compare_21, ↓x_X5_compare_24, ↓x_X5_compare_27, ↓x_X5_compare_28, ↓x_X5_compare_29, ↓x_X5_compare_31, ↓x_X5_compare_34, ↓x_X5_compare_37, ↓x_X5_compare_38, ↓x_X5_compare_39, ↓x_X5_compare_42, ↓x_X5_compare_43, ↓x_X5_compare_44, ↓x_X5_compare_45, ↓x_X5_compare_46, ↓x_X5_compare_49, ↓x_X5_compare_50, ↓x_X5_compare_53, ↓x_X5_compare_55, ↓x_X5_compare_56, ↓x_X5_compare_59, ↓x_X5_compare_61, ↓x_X5_compare_62, ↓x_X5_compare_63, ↓x_X5_compare_65, ↓x_X5_compare_68, ↓x_X5_compare_70, ↓x_X5_compare_72, ↓x_X5_compare_73, ↓x_X5_compare_76, ↓x_X5_compare_77, ↓x_X5_compare_80, ↓x_X5_compare_83, ↓x_X5_compare_85, ↓x_X5_compare_87, ↓x_X5_compare_90, ↓x_X5_compare_91, ↓x_X5_compare_94, ↓x_X5_compare_96, ↓x_X5_compare_99, ↓x_X5_compare_100, ↓x_X5_compare_103, ↓x_X5_compare_104, ho, ↓cKI ca, ↓reduceIte]
