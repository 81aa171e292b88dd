/-! ===== the reference: chance; fractions ===== -/
theorem CR_chance {S : SS} (F : WF S) (m s t w : Int) : CR mX5_chance [aI m, aI s, aI t, aI w] aI S (o_chance m s t w S) := by
  intro h H
  have ho : isO h 5 0 = true := isO_rd (H.1.f 4 rfl)
  have ca := c_isMachine F H.1 m
  have ci := c_in (h := h) (v := w) (lo := 0) (hi := 10)
  have cf2 := m_fd2 H.1
  have cf3 := m_fd3 H.1
  have z : ¬ (1 : Int) = 0 := by decide
  unfold o_chance
  rw [e_X5_chance]
  by_cases c1 : isM S m
  · rw [if_pos c1] at ca
    by_cases c0 : w < 0 ∨ 10 < w
    · rw [if_neg (by omega)] at ci
      rw [if_pos (Or.inr c0)]
      refine ⟨h, ?_, H, L0.rf⟩
      simp only [↓x_X5_chance_0, ↓x_X5_chance_1, ↓x_X5_chance_2, ↓x_X5_chance_5, ↓x_X5_chance_8, ↓x_X5_chance_10, ↓x_X5_chance_11, ↓x_X5_chance_12, ↓x_X5_chance_15, ↓x_X5_chance_18, ↓x_X5_chance_21, ↓x_X5_chance_22, ↓x_X5_chance_23, ↓x_X5_chance_24, ↓x_X5_chance_25, ↓x_X5_chance_28, ↓x_X5_chance_31, ↓x_X5_chance_32, ↓x_X5_chance_33, ↓x_X5_chance_36, ↓x_X5_chance_37, ↓x_X5_chance_38, ↓x_X5_chance_39, ↓x_X5_chance_40, ↓x_X5_chance_43, ↓x_X5_chance_46, ↓x_X5_chance_47, ↓x_X5_chance_48, ↓x_X5_chance_49, ↓x_X5_chance_52, ↓x_X5_chance_55, ↓x_X5_chance_56, ↓x_X5_chance_57, ↓x_X5_chance_60, ↓x_X5_chance_61, ↓x_X5_chance_63, ↓x_X5_chance_64, ↓x_X5_chance_65, ↓x_X5_chance_66, ↓x_X5_chance_67, ↓x_X5_chance_68, ↓x_X5_chance_69, ↓x_X5_chance_70, ↓x_X5_chance_71, ↓x_X5_chance_73, ↓x_X5_chance_74, ↓x_X5_chance_77, ↓x_X5_chance_79, ↓x_X5_chance_80, ↓x_X5_chance_82, ↓x_X5_chance_83, ↓x_X5_chance_84, ↓x_X5_chance_85, ↓x_X5_chance_88, ↓x_X5_chance_90, ↓x_X5_chance_91, ↓x_X5_chance_93, ↓x_X5_chance_94, ↓x_X5_chance_95, ↓x_X5_chance_96, ↓x_X5_chance_99, ↓x_X5_chance_102, ↓x_X5_chance_105, ↓x_X5_chance_107, ↓x_X5_chance_108, ↓x_X5_chance_109, ↓x_X5_chance_112, ↓x_X5_chance_114, ↓x_X5_chance_116, ↓x_X5_chance_117, ↓x_X5_chance_119, ho, ↓cKI ca, z, ↓cKI ci, not_true_eq_false, ↓reduceIte]
    · rw [if_pos (by omega)] at ci
      rw [if_neg (by omega)]
      have hm : m.toNat < mS S := by unfold mS; omega
      have cg := c_isA F H.1 c1
      obtain ⟨k1, k2⟩ := (F.2.1 m.toNat hm).1
      by_cases c2 : S 1 m.toNat 0 0 = 2 ∨ S 1 m.toNat 0 0 = 3
      · rw [if_pos (by omega)] at cg
        rw [if_pos c2]
        refine ⟨_, ?_, H.mt (f := 3) (by decide)⟩
        simp only [↓x_X5_chance_0, ↓x_X5_chance_1, ↓x_X5_chance_2, ↓x_X5_chance_5, ↓x_X5_chance_8, ↓x_X5_chance_10, ↓x_X5_chance_11, ↓x_X5_chance_12, ↓x_X5_chance_15, ↓x_X5_chance_18, ↓x_X5_chance_21, ↓x_X5_chance_22, ↓x_X5_chance_23, ↓x_X5_chance_24, ↓x_X5_chance_25, ↓x_X5_chance_28, ↓x_X5_chance_31, ↓x_X5_chance_32, ↓x_X5_chance_33, ↓x_X5_chance_36, ↓x_X5_chance_37, ↓x_X5_chance_38, ↓x_X5_chance_39, ↓x_X5_chance_40, ↓x_X5_chance_43, ↓x_X5_chance_46, ↓x_X5_chance_47, ↓x_X5_chance_48, ↓x_X5_chance_49, ↓x_X5_chance_52, ↓x_X5_chance_55, ↓x_X5_chance_56, ↓x_X5_chance_57, ↓x_X5_chance_60, ↓x_X5_chance_61, ↓x_X5_chance_63, ↓x_X5_chance_64, ↓x_X5_chance_65, ↓x_X5_chance_66, ↓x_X5_chance_67, ↓x_X5_chance_68, ↓x_X5_chance_69, ↓x_X5_chance_70, ↓x_X5_chance_71, ↓x_X5_chance_73, ↓x_X5_chance_74, ↓x_X5_chance_77, ↓x_X5_chance_79, ↓x_X5_chance_80, ↓x_X5_chance_82, ↓x_X5_chance_83, ↓x_X5_chance_84, ↓x_X5_chance_85, ↓x_X5_chance_88, ↓x_X5_chance_90, ↓x_X5_chance_91, ↓x_X5_chance_93, ↓x_X5_chance_94, ↓x_X5_chance_95, ↓x_X5_chance_96, ↓x_X5_chance_99, ↓x_X5_chance_102, ↓x_X5_chance_105, ↓x_X5_chance_107, ↓x_X5_chance_108, ↓x_X5_chance_109, ↓x_X5_chance_112, ↓x_X5_chance_114, ↓x_X5_chance_116, ↓x_X5_chance_117, ↓x_X5_chance_119, ho, ↓cKI ca, z, ↓cKI ci, ↓cKI cg, ↓cKI cf3, not_false_eq_true, ↓reduceIte]
      · rw [if_neg (by omega)] at cg
        rw [if_neg c2]
        have cs := c_isQ F H.1 c1 s
        have ct := c_isQ F H.1 c1 t
        by_cases c3 : isQ S m s
        · rw [if_pos c3] at cs
          by_cases c4 : isQ S m t
          · rw [if_pos c4] at ct
            rw [if_neg (by omega)]
            obtain ⟨⟨n1, n5'⟩, en, hpy, hw⟩ := F.m hm
            obtain ⟨-, -, hm16, hs5⟩ := H.1.pv F c1 c3
            obtain ⟨wv, i0, ht5⟩ := H.1.wv F c1 c3 c4
            have q15 := H.1.f 15 rfl
            have cu := c_sum F H.1 c1 c3
            have hb1 : 0 ≤ S 3 m.toNat s.toNat t.toNat ∧ S 3 m.toNat s.toNat t.toNat ≤ 10 := (hw s.toNat (by omega)).1 t.toNat (by omega)
            have hb2 := (hw s.toNat (by omega)).2
            generalize hx : sumI (wS S m.toNat s.toNat) (nS S m.toNat) = x at cu hb2 ⊢
            generalize hy : S 3 m.toNat s.toNat t.toNat = y at wv hb1 ⊢
            have f1 : w32 (x - y) = x - y := by rw [w32_in] <;> omega
            have f2 : w32 (x - y + w) = x - y + w := by clear f1; rw [w32_in] <;> omega
            have cj := c_in (h := h) (v := x - y + w) (lo := 1) (hi := 10)
            have B := H.1.a10 m.toNat s.toNat t.toNat (by clear f1 f2; omega) (by clear f1 f2; omega) (by clear f1 f2; omega) (by clear f1 f2; omega) w
            rw [← (n25 hm16 hs5 ht5).2] at B
            have s99 : X mX5_chance 0 [aR (some 0), aI m, aI s, aI t, aI w, aU, aU] [] h = X mX5_chance 99 [aR (some 0), aI m, aI s, aI t, aI w, aI (25 * m + 5 * s + t), aI y] [aJ 10, aJ 1, aJ (x - y + w)] h := by
              simp only [↓x_X5_chance_0, ↓x_X5_chance_1, ↓x_X5_chance_2, ↓x_X5_chance_5, ↓x_X5_chance_8, ↓x_X5_chance_10, ↓x_X5_chance_11, ↓x_X5_chance_12, ↓x_X5_chance_15, ↓x_X5_chance_18, ↓x_X5_chance_21, ↓x_X5_chance_22, ↓x_X5_chance_23, ↓x_X5_chance_24, ↓x_X5_chance_25, ↓x_X5_chance_28, ↓x_X5_chance_31, ↓x_X5_chance_32, ↓x_X5_chance_33, ↓x_X5_chance_36, ↓x_X5_chance_37, ↓x_X5_chance_38, ↓x_X5_chance_39, ↓x_X5_chance_40, ↓x_X5_chance_43, ↓x_X5_chance_46, ↓x_X5_chance_47, ↓x_X5_chance_48, ↓x_X5_chance_49, ↓x_X5_chance_52, ↓x_X5_chance_55, ↓x_X5_chance_56, ↓x_X5_chance_57, ↓x_X5_chance_60, ↓x_X5_chance_63, ↓x_X5_chance_64, ↓x_X5_chance_65, ↓x_X5_chance_66, ↓x_X5_chance_67, ↓x_X5_chance_68, ↓x_X5_chance_69, ↓x_X5_chance_70, ↓x_X5_chance_71, ↓x_X5_chance_73, ↓x_X5_chance_74, ↓x_X5_chance_77, ↓x_X5_chance_79, ↓x_X5_chance_80, ↓x_X5_chance_82, ↓x_X5_chance_83, ↓x_X5_chance_84, ↓x_X5_chance_85, ↓x_X5_chance_88, ↓x_X5_chance_90, ↓x_X5_chance_91, ↓x_X5_chance_93, ↓x_X5_chance_94, ↓x_X5_chance_95, ↓x_X5_chance_96, ↓x_X5_chance_102, ↓x_X5_chance_105, ↓x_X5_chance_107, ↓x_X5_chance_108, ↓x_X5_chance_109, ↓x_X5_chance_112, ↓x_X5_chance_114, ↓x_X5_chance_116, ↓x_X5_chance_117, ↓x_X5_chance_119, ho, ↓cKI ca, z, ↓cKI ci, ↓cKI cg, ↓cKI cs, ↓cKI ct, not_false_eq_true, ↓reduceIte]
              simp only [↓x_X5_chance_0, ↓x_X5_chance_1, ↓x_X5_chance_2, ↓x_X5_chance_5, ↓x_X5_chance_8, ↓x_X5_chance_10, ↓x_X5_chance_11, ↓x_X5_chance_12, ↓x_X5_chance_15, ↓x_X5_chance_18, ↓x_X5_chance_21, ↓x_X5_chance_22, ↓x_X5_chance_23, ↓x_X5_chance_24, ↓x_X5_chance_25, ↓x_X5_chance_28, ↓x_X5_chance_31, ↓x_X5_chance_32, ↓x_X5_chance_33, ↓x_X5_chance_36, ↓x_X5_chance_37, ↓x_X5_chance_38, ↓x_X5_chance_39, ↓x_X5_chance_40, ↓x_X5_chance_43, ↓x_X5_chance_46, ↓x_X5_chance_47, ↓x_X5_chance_48, ↓x_X5_chance_49, ↓x_X5_chance_52, ↓x_X5_chance_55, ↓x_X5_chance_56, ↓x_X5_chance_57, ↓x_X5_chance_60, ↓x_X5_chance_61, ↓x_X5_chance_63, ↓x_X5_chance_64, ↓x_X5_chance_65, ↓x_X5_chance_66, ↓x_X5_chance_67, ↓x_X5_chance_68, ↓x_X5_chance_69, ↓x_X5_chance_70, ↓x_X5_chance_71, ↓x_X5_chance_73, ↓x_X5_chance_74, ↓x_X5_chance_77, ↓x_X5_chance_79, ↓x_X5_chance_80, ↓x_X5_chance_82, ↓x_X5_chance_83, ↓x_X5_chance_84, ↓x_X5_chance_85, ↓x_X5_chance_88, ↓x_X5_chance_90, ↓x_X5_chance_91, ↓x_X5_chance_93, ↓x_X5_chance_94, ↓x_X5_chance_95, ↓x_X5_chance_96, ↓x_X5_chance_102, ↓x_X5_chance_105, ↓x_X5_chance_107, ↓x_X5_chance_108, ↓x_X5_chance_109, ↓x_X5_chance_112, ↓x_X5_chance_114, ↓x_X5_chance_116, ↓x_X5_chance_117, ↓x_X5_chance_119, w25a hm16, w5s hs5, w25b hm16 hs5, w25c hm16 hs5 ⟨ht5.1, Int.le_of_lt ht5.2⟩, ↓gK_of q15, i0, ↓gK_of wv, ho, ↓cKI cu, f1, f2, ↓reduceIte]
            rw [s99]
            clear f1 f2
            by_cases c5 : x - y + w < 1 ∨ 10 < x - y + w
            · rw [if_neg (by omega)] at cj
              rw [if_pos c5]
              refine ⟨h, ?_, H, L0.rf⟩
              simp only [↓x_X5_chance_0, ↓x_X5_chance_1, ↓x_X5_chance_2, ↓x_X5_chance_5, ↓x_X5_chance_8, ↓x_X5_chance_10, ↓x_X5_chance_11, ↓x_X5_chance_12, ↓x_X5_chance_15, ↓x_X5_chance_18, ↓x_X5_chance_21, ↓x_X5_chance_22, ↓x_X5_chance_23, ↓x_X5_chance_24, ↓x_X5_chance_25, ↓x_X5_chance_28, ↓x_X5_chance_31, ↓x_X5_chance_32, ↓x_X5_chance_33, ↓x_X5_chance_36, ↓x_X5_chance_37, ↓x_X5_chance_38, ↓x_X5_chance_39, ↓x_X5_chance_40, ↓x_X5_chance_43, ↓x_X5_chance_46, ↓x_X5_chance_47, ↓x_X5_chance_48, ↓x_X5_chance_49, ↓x_X5_chance_52, ↓x_X5_chance_55, ↓x_X5_chance_56, ↓x_X5_chance_57, ↓x_X5_chance_60, ↓x_X5_chance_61, ↓x_X5_chance_63, ↓x_X5_chance_64, ↓x_X5_chance_65, ↓x_X5_chance_66, ↓x_X5_chance_67, ↓x_X5_chance_68, ↓x_X5_chance_69, ↓x_X5_chance_70, ↓x_X5_chance_71, ↓x_X5_chance_73, ↓x_X5_chance_74, ↓x_X5_chance_77, ↓x_X5_chance_79, ↓x_X5_chance_80, ↓x_X5_chance_82, ↓x_X5_chance_83, ↓x_X5_chance_84, ↓x_X5_chance_85, ↓x_X5_chance_88, ↓x_X5_chance_90, ↓x_X5_chance_91, ↓x_X5_chance_93, ↓x_X5_chance_94, ↓x_X5_chance_95, ↓x_X5_chance_96, ↓x_X5_chance_99, ↓x_X5_chance_102, ↓x_X5_chance_105, ↓x_X5_chance_107, ↓x_X5_chance_108, ↓x_X5_chance_109, ↓x_X5_chance_112, ↓x_X5_chance_114, ↓x_X5_chance_116, ↓x_X5_chance_117, ↓x_X5_chance_119, ↓cKI cj, not_true_eq_false, ↓reduceIte]
            · rw [if_pos (by omega)] at cj
              rw [if_neg c5]
              refine ⟨wr h 10 10 (25 * m + 5 * s + t).toNat (aI w), ?_, H.w B (Or.inl (by decide)) rfl, L0.w⟩
              simp only [↓x_X5_chance_0, ↓x_X5_chance_1, ↓x_X5_chance_2, ↓x_X5_chance_5, ↓x_X5_chance_8, ↓x_X5_chance_10, ↓x_X5_chance_11, ↓x_X5_chance_12, ↓x_X5_chance_15, ↓x_X5_chance_18, ↓x_X5_chance_21, ↓x_X5_chance_22, ↓x_X5_chance_23, ↓x_X5_chance_24, ↓x_X5_chance_25, ↓x_X5_chance_28, ↓x_X5_chance_31, ↓x_X5_chance_32, ↓x_X5_chance_33, ↓x_X5_chance_36, ↓x_X5_chance_37, ↓x_X5_chance_38, ↓x_X5_chance_39, ↓x_X5_chance_40, ↓x_X5_chance_43, ↓x_X5_chance_46, ↓x_X5_chance_47, ↓x_X5_chance_48, ↓x_X5_chance_49, ↓x_X5_chance_52, ↓x_X5_chance_55, ↓x_X5_chance_56, ↓x_X5_chance_57, ↓x_X5_chance_60, ↓x_X5_chance_61, ↓x_X5_chance_63, ↓x_X5_chance_64, ↓x_X5_chance_65, ↓x_X5_chance_66, ↓x_X5_chance_67, ↓x_X5_chance_68, ↓x_X5_chance_69, ↓x_X5_chance_70, ↓x_X5_chance_71, ↓x_X5_chance_73, ↓x_X5_chance_74, ↓x_X5_chance_77, ↓x_X5_chance_79, ↓x_X5_chance_80, ↓x_X5_chance_82, ↓x_X5_chance_83, ↓x_X5_chance_84, ↓x_X5_chance_85, ↓x_X5_chance_88, ↓x_X5_chance_90, ↓x_X5_chance_91, ↓x_X5_chance_93, ↓x_X5_chance_94, ↓x_X5_chance_95, ↓x_X5_chance_96, ↓x_X5_chance_99, ↓x_X5_chance_102, ↓x_X5_chance_105, ↓x_X5_chance_107, ↓x_X5_chance_108, ↓x_X5_chance_109, ↓x_X5_chance_112, ↓x_X5_chance_114, ↓x_X5_chance_116, ↓x_X5_chance_117, ↓x_X5_chance_119, ↓cKI cj, z, ↓gK_of q15, i0, ↓pK_of wv, not_false_eq_true, ↓reduceIte]
          · rw [if_neg c4] at ct
            rw [if_pos (Or.inr c4)]
            refine ⟨_, ?_, H.mt (f := 2) (by decide)⟩
            simp only [↓x_X5_chance_0, ↓x_X5_chance_1, ↓x_X5_chance_2, ↓x_X5_chance_5, ↓x_X5_chance_8, ↓x_X5_chance_10, ↓x_X5_chance_11, ↓x_X5_chance_12, ↓x_X5_chance_15, ↓x_X5_chance_18, ↓x_X5_chance_21, ↓x_X5_chance_22, ↓x_X5_chance_23, ↓x_X5_chance_24, ↓x_X5_chance_25, ↓x_X5_chance_28, ↓x_X5_chance_31, ↓x_X5_chance_32, ↓x_X5_chance_33, ↓x_X5_chance_36, ↓x_X5_chance_37, ↓x_X5_chance_38, ↓x_X5_chance_39, ↓x_X5_chance_40, ↓x_X5_chance_43, ↓x_X5_chance_46, ↓x_X5_chance_47, ↓x_X5_chance_48, ↓x_X5_chance_49, ↓x_X5_chance_52, ↓x_X5_chance_55, ↓x_X5_chance_56, ↓x_X5_chance_57, ↓x_X5_chance_60, ↓x_X5_chance_61, ↓x_X5_chance_63, ↓x_X5_chance_64, ↓x_X5_chance_65, ↓x_X5_chance_66, ↓x_X5_chance_67, ↓x_X5_chance_68, ↓x_X5_chance_69, ↓x_X5_chance_70, ↓x_X5_chance_71, ↓x_X5_chance_73, ↓x_X5_chance_74, ↓x_X5_chance_77, ↓x_X5_chance_79, ↓x_X5_chance_80, ↓x_X5_chance_82, ↓x_X5_chance_83, ↓x_X5_chance_84, ↓x_X5_chance_85, ↓x_X5_chance_88, ↓x_X5_chance_90, ↓x_X5_chance_91, ↓x_X5_chance_93, ↓x_X5_chance_94, ↓x_X5_chance_95, ↓x_X5_chance_96, ↓x_X5_chance_99, ↓x_X5_chance_102, ↓x_X5_chance_105, ↓x_X5_chance_107, ↓x_X5_chance_108, ↓x_X5_chance_109, ↓x_X5_chance_112, ↓x_X5_chance_114, ↓x_X5_chance_116, ↓x_X5_chance_117, ↓x_X5_chance_119, ho, ↓cKI ca, z, ↓cKI ci, ↓cKI cg, ↓cKI cs, ↓cKI ct, ↓cKI cf2, not_true_eq_false, not_false_eq_true, ↓reduceIte]
        · rw [if_neg c3] at cs
          rw [if_pos (Or.inl c3)]
          refine ⟨_, ?_, H.mt (f := 2) (by decide)⟩
          simp only [↓x_X5_chance_0, ↓x_X5_chance_1, ↓x_X5_chance_2, ↓x_X5_chance_5, ↓x_X5_chance_8, ↓x_X5_chance_10, ↓x_X5_chance_11, ↓x_X5_chance_12, ↓x_X5_chance_15, ↓x_X5_chance_18, ↓x_X5_chance_21, ↓x_X5_chance_22, ↓x_X5_chance_23, ↓x_X5_chance_24, ↓x_X5_chance_25, ↓x_X5_chance_28, ↓x_X5_chance_31, ↓x_X5_chance_32, ↓x_X5_chance_33, ↓x_X5_chance_36, ↓x_X5_chance_37, ↓x_X5_chance_38, ↓x_X5_chance_39, ↓x_X5_chance_40, ↓x_X5_chance_43, ↓x_X5_chance_46, ↓x_X5_chance_47, ↓x_X5_chance_48, ↓x_X5_chance_49, ↓x_X5_chance_52, ↓x_X5_chance_55, ↓x_X5_chance_56, ↓x_X5_chance_57, ↓x_X5_chance_60, ↓x_X5_chance_61, ↓x_X5_chance_63, ↓x_X5_chance_64, ↓x_X5_chance_65, ↓x_X5_chance_66, ↓x_X5_chance_67, ↓x_X5_chance_68, ↓x_X5_chance_69, ↓x_X5_chance_70, ↓x_X5_chance_71, ↓x_X5_chance_73, ↓x_X5_chance_74, ↓x_X5_chance_77, ↓x_X5_chance_79, ↓x_X5_chance_80, ↓x_X5_chance_82, ↓x_X5_chance_83, ↓x_X5_chance_84, ↓x_X5_chance_85, ↓x_X5_chance_88, ↓x_X5_chance_90, ↓x_X5_chance_91, ↓x_X5_chance_93, ↓x_X5_chance_94, ↓x_X5_chance_95, ↓x_X5_chance_96, ↓x_X5_chance_99, ↓x_X5_chance_102, ↓x_X5_chance_105, ↓x_X5_chance_107, ↓x_X5_chance_108, ↓x_X5_chance_109, ↓x_X5_chance_112, ↓x_X5_chance_114, ↓x_X5_chance_116, ↓x_X5_chance_117, ↓x_X5_chance_119, ho, ↓cKI ca, z, ↓cKI ci, ↓cKI cg, ↓cKI cs, ↓cKI cf2, not_false_eq_true, ↓reduceIte]
  · rw [if_neg c1] at ca
    rw [if_pos (Or.inl c1)]
    refine ⟨h, ?_, H, L0.rf⟩
    simp only [↓x_X5_chance_0, ↓x_X5_chance_1, ↓x_X5_chance_2, ↓x_X5_chance_5, ↓x_X5_chance_8, ↓x_X5_chance_10, ↓x_X5_chance_11, ↓x_X5_chance_12, ↓x_X5_chance_15, ↓x_X5_chance_18, ↓x_X5_chance_21, ↓x_X5_chance_22, ↓x_X5_chance_23, ↓x_X5_chance_24, ↓x_X5_chance_25, ↓x_X5_chance_28, ↓x_X5_chance_31, ↓x_X5_chance_32, ↓x_X5_chance_33, ↓x_X5_chance_36, ↓x_X5_chance_37, ↓x_X5_chance_38, ↓x_X5_chance_39, ↓x_X5_chance_40, ↓x_X5_chance_43, ↓x_X5_chance_46, ↓x_X5_chance_47, ↓x_X5_chance_48, ↓x_X5_chance_49, ↓x_X5_chance_52, ↓x_X5_chance_55, ↓x_X5_chance_56, ↓x_X5_chance_57, ↓x_X5_chance_60, ↓x_X5_chance_61, ↓x_X5_chance_63, ↓x_X5_chance_64, ↓x_X5_chance_65, ↓x_X5_chance_66, ↓x_X5_chance_67, ↓x_X5_chance_68, ↓x_X5_chance_69, ↓x_X5_chance_70, ↓x_X5_chance_71, ↓x_X5_chance_73, ↓x_X5_chance_74, ↓x_X5_chance_77, ↓x_X5_chance_79, ↓x_X5_chance_80, ↓x_X5_chance_82, ↓x_X5_chance_83, ↓x_X5_chance_84, ↓x_X5_chance_85, ↓x_X5_chance_88, ↓x_X5_chance_90, ↓x_X5_chance_91, ↓x_X5_chance_93, ↓x_X5_chance_94, ↓x_X5_chance_95, ↓x_X5_chance_96, ↓x_X5_chance_99, ↓x_X5_chance_102, ↓x_X5_chance_105, ↓x_X5_chance_107, ↓x_X5_chance_108, ↓x_X5_chance_109, ↓x_X5_chance_112, ↓x_X5_chance_114, ↓x_X5_chance_116, ↓x_X5_chance_117, ↓x_X5_chance_119, ho, ↓cKI ca, ↓reduceIte]
theorem lr_gcd {h : AH} {a0 b0 : Int} : ∀ (j a b : Nat) (v8 v9 : AV), b ≤ j → X mX5_gcd 17 [aJ a0, aU, aJ b0, aU, aJ a, aU, aJ b, aU, v8, v9] [] h = some (some (aJ ((Nat.gcd a b : Nat) : Int)), h) := by
  intro j
  induction j with
  | zero =>
    intro a b v8 v9 hb
    have e : b = 0 := by omega
    subst e
    rw [x_X5_gcd_17, Nat.gcd_zero_right]
    have n1 : ((0 : Nat) : Int) = 0 := rfl
    simp only [↓x_X5_gcd_0, ↓x_X5_gcd_1, ↓x_X5_gcd_2, ↓x_X5_gcd_3, ↓x_X5_gcd_6, ↓x_X5_gcd_7, ↓x_X5_gcd_8, ↓x_X5_gcd_11, ↓x_X5_gcd_12, ↓x_X5_gcd_14, ↓x_X5_gcd_15, ↓x_X5_gcd_19, ↓x_X5_gcd_20, ↓x_X5_gcd_21, ↓x_X5_gcd_24, ↓x_X5_gcd_26, ↓x_X5_gcd_28, ↓x_X5_gcd_29, ↓x_X5_gcd_31, ↓x_X5_gcd_33, ↓x_X5_gcd_35, ↓x_X5_gcd_37, ↓x_X5_gcd_39, ↓x_X5_gcd_42, ↓x_X5_gcd_44, fc_eq, n1, ↓reduceIte]
  | succ j ih =>
    intro a b v8 v9 hb
    by_cases c : b = 0
    · subst c
      rw [x_X5_gcd_17, Nat.gcd_zero_right]
      have n1 : ((0 : Nat) : Int) = 0 := rfl
      simp only [↓x_X5_gcd_0, ↓x_X5_gcd_1, ↓x_X5_gcd_2, ↓x_X5_gcd_3, ↓x_X5_gcd_6, ↓x_X5_gcd_7, ↓x_X5_gcd_8, ↓x_X5_gcd_11, ↓x_X5_gcd_12, ↓x_X5_gcd_14, ↓x_X5_gcd_15, ↓x_X5_gcd_19, ↓x_X5_gcd_20, ↓x_X5_gcd_21, ↓x_X5_gcd_24, ↓x_X5_gcd_26, ↓x_X5_gcd_28, ↓x_X5_gcd_29, ↓x_X5_gcd_31, ↓x_X5_gcd_33, ↓x_X5_gcd_35, ↓x_X5_gcd_37, ↓x_X5_gcd_39, ↓x_X5_gcd_42, ↓x_X5_gcd_44, fc_eq, n1, ↓reduceIte]
    · have k2 : ¬ ((b : Int) = 0) := by omega
      have e1 : ((a : Int)).tmod (b : Int) = ((a % b : Nat) : Int) := rfl
      have hlt : a % b < b := Nat.mod_lt _ (by omega)
      have e6 : Nat.gcd a b = Nat.gcd b (a % b) := by rw [Nat.gcd_comm a b, Nat.gcd_rec b a, Nat.gcd_comm]
      rw [x_X5_gcd_17, e6]
      simp only [↓x_X5_gcd_0, ↓x_X5_gcd_1, ↓x_X5_gcd_2, ↓x_X5_gcd_3, ↓x_X5_gcd_6, ↓x_X5_gcd_7, ↓x_X5_gcd_8, ↓x_X5_gcd_11, ↓x_X5_gcd_12, ↓x_X5_gcd_14, ↓x_X5_gcd_15, ↓x_X5_gcd_19, ↓x_X5_gcd_20, ↓x_X5_gcd_21, ↓x_X5_gcd_24, ↓x_X5_gcd_26, ↓x_X5_gcd_28, ↓x_X5_gcd_29, ↓x_X5_gcd_31, ↓x_X5_gcd_33, ↓x_X5_gcd_35, ↓x_X5_gcd_37, ↓x_X5_gcd_39, ↓x_X5_gcd_42, ↓x_X5_gcd_44, fc_eq, k2, e1, ↓reduceIte]
      exact ih b (a % b) (aJ ((a % b : Nat) : Int)) aU (by omega)
theorem c_gcd {h : AH} {a : Int} {b : Nat} (ha : -4611686018427387904 ≤ a ∧ a ≤ 4611686018427387904) : E mX5_gcd [aJ a, aJ b] h = some (some (aJ ((Nat.gcd a.natAbs b : Nat) : Int)), h) := by
  have l := lr_gcd (h := h) (a0 := a) (b0 := b) b a.natAbs b aU aU (Nat.le_refl _)
  rw [e_X5_gcd]
  by_cases c : 0 ≤ a
  · have e : ((a.natAbs : Nat) : Int) = a := by omega
    rw [e] at l
    simp only [↓x_X5_gcd_0, ↓x_X5_gcd_1, ↓x_X5_gcd_2, ↓x_X5_gcd_3, ↓x_X5_gcd_6, ↓x_X5_gcd_7, ↓x_X5_gcd_8, ↓x_X5_gcd_11, ↓x_X5_gcd_12, ↓x_X5_gcd_14, ↓x_X5_gcd_15, ↓x_X5_gcd_19, ↓x_X5_gcd_20, ↓x_X5_gcd_21, ↓x_X5_gcd_24, ↓x_X5_gcd_26, ↓x_X5_gcd_28, ↓x_X5_gcd_29, ↓x_X5_gcd_31, ↓x_X5_gcd_33, ↓x_X5_gcd_35, ↓x_X5_gcd_37, ↓x_X5_gcd_39, ↓x_X5_gcd_42, ↓x_X5_gcd_44, fc_ge, c, ↓reduceIte]
    exact l
  · have e : ((a.natAbs : Nat) : Int) = -a := by omega
    have e2 : w64 (-a) = -a := by rw [w64_in] <;> omega
    rw [e] at l
    simp only [↓x_X5_gcd_0, ↓x_X5_gcd_1, ↓x_X5_gcd_2, ↓x_X5_gcd_3, ↓x_X5_gcd_6, ↓x_X5_gcd_7, ↓x_X5_gcd_8, ↓x_X5_gcd_11, ↓x_X5_gcd_12, ↓x_X5_gcd_14, ↓x_X5_gcd_15, ↓x_X5_gcd_19, ↓x_X5_gcd_20, ↓x_X5_gcd_21, ↓x_X5_gcd_24, ↓x_X5_gcd_26, ↓x_X5_gcd_28, ↓x_X5_gcd_29, ↓x_X5_gcd_31, ↓x_X5_gcd_33, ↓x_X5_gcd_35, ↓x_X5_gcd_37, ↓x_X5_gcd_39, ↓x_X5_gcd_42, ↓x_X5_gcd_44, fc_ge, c, e2, ↓reduceIte]
    exact l
/-- a fraction beside -/
def upH (h : AH) (r : Rat) : AH := wr (wr h 5 0 17 (aJ r.num)) 5 0 18 (aJ (r.den : Int))
def UpAt (h : AH) (r : Rat) : Prop := rd h 5 0 17 = some (aJ r.num) ∧ rd h 5 0 18 = some (aJ (r.den : Int))
theorem RB0.up {S : SS} {h : AH} (H : RB0 S h) (r : Rat) : RB0 S (upH h r) ∧ UpAt (upH h r) r := by
  obtain ⟨x, hx⟩ := H.1 0 17 (by decide)
  obtain ⟨y, hy⟩ := H.1 0 18 (by decide)
  have hx' : rd h 5 0 17 = some x := hx
  have hy' : rd (wr h 5 0 17 (aJ r.num)) 5 0 18 = some y := by rw [rd_wn (Or.inr (Or.inr (by decide)))]; exact hy
  refine ⟨(H.wn 0 17 (aJ r.num) rfl).wn 0 18 (aJ (r.den : Int)) rfl, ?_, rd_wr hy'⟩
  unfold upH
  rw [rd_wn (Or.inr (Or.inr (by decide)))]
  exact rd_wr hx'
theorem upH_L {h : AH} {r : Rat} : L0 h (upH h r) := L0.w.tr L0.w
theorem c_fraction {S : SS} {h : AH} (H : RB0 S h) {a : Int} {b : Nat} (ha : -4611686018427387904 ≤ a ∧ a ≤ 4611686018427387904) (hb : 0 < b ∧ b ≤ 4611686018427387904) : E mX5_fraction [aR (some 0), aJ a, aJ b] h = some (none, upH h (mkRat a b)) := by
  have cg := c_gcd (h := h) (b := b) ha
  have hg : 0 < Nat.gcd a.natAbs b := Nat.gcd_pos_of_pos_right _ hb.1
  have bd := mk_b (a := a) hb.1
  have en := mk_num (a := a) hb.1
  have ed := mk_den (a := a) hb.1
  obtain ⟨x, hx⟩ := H.1 0 17 (by decide)
  obtain ⟨y, hy⟩ := H.1 0 18 (by decide)
  have hx' : rd h 5 0 17 = some x := hx
  have hy' : rd (wr h 5 0 17 (aJ (mkRat a b).num)) 5 0 18 = some y := by rw [rd_wn (Or.inr (Or.inr (by decide)))]; exact hy
  have k3 : ¬ (((Nat.gcd a.natAbs b : Nat) : Int) = 0) := by omega
  have e1 : w64 (a.tdiv ((Nat.gcd a.natAbs b : Nat) : Int)) = (mkRat a b).num := by rw [← en, w64_in] <;> omega
  have e2 : w64 ((b : Int).tdiv ((Nat.gcd a.natAbs b : Nat) : Int)) = ((mkRat a b).den : Int) := by rw [← ed, w64_in] <;> omega
  rw [e_X5_fraction]
  simp only [↓x_X5_fraction_0, ↓x_X5_fraction_1, ↓x_X5_fraction_2, ↓x_X5_fraction_5, ↓x_X5_fraction_7, ↓x_X5_fraction_8, ↓x_X5_fraction_9, ↓x_X5_fraction_11, ↓x_X5_fraction_12, ↓x_X5_fraction_15, ↓x_X5_fraction_16, ↓x_X5_fraction_17, ↓x_X5_fraction_19, ↓x_X5_fraction_20, ↓x_X5_fraction_23, ↓cKJ cg, k3, e1, e2, ↓pK_of hx', ↓reduceIte]
  simp only [pK_of hx', pK_of hy']
  rfl
theorem c_tells {S : SS} {h : AH} (H : RI S h) {r : Rat} (u : UpAt h r) : ∃ h', E mX5_tells [aR (some 0)] h = some (some (aI 1), h') ∧ RI (tlS S r) h' ∧ L0 h h' := by
  have q19 := H.1.f 19 rfl
  have q18 : rd (wr h 5 0 19 (aJ r.num)) 5 0 18 = some (aJ (r.den : Int)) := by rw [rd_wn (Or.inr (Or.inr (by decide)))]; exact u.2
  have q20 : rd (wr h 5 0 19 (aJ r.num)) 5 0 20 = some (aJ (S 8 1 0 0)) := by rw [rd_wn (Or.inr (Or.inr (by decide)))]; exact H.1.f 20 rfl
  refine ⟨wr (wr h 5 0 19 (aJ r.num)) 5 0 20 (aJ (r.den : Int)), ?_, (H.w (H.1.f19 r.num) (Or.inr (Or.inr (by decide))) rfl).w ((H.1.f19 r.num).f20 (r.den : Int)) (Or.inr (Or.inr (by decide))) rfl, L0.w.tr L0.w⟩
  rw [e_X5_tells]
  simp only [↓x_X5_tells_0, ↓x_X5_tells_1, ↓x_X5_tells_2, ↓x_X5_tells_5, ↓x_X5_tells_8, ↓x_X5_tells_9, ↓x_X5_tells_10, ↓x_X5_tells_13, ↓x_X5_tells_16, ↓x_X5_tells_17, ↓gK_of u.1, ↓pK_of q19, ↓gK_of q18, ↓pK_of q20]
theorem c_cutDown {h : AH} {a b : Int} (ha : -4611686018427387904 ≤ a ∧ a ≤ 4611686018427387904) (hb : 0 < b ∧ b ≤ 4611686018427387904) : E mX5_cutDown [aJ a, aJ b] h = some (some (aJ (a / b)), h) := by
  have hd := div_b (a := a) hb.1
  have k0 : ¬ b = 0 := by omega
  rw [e_X5_cutDown]
  by_cases h0 : 0 ≤ a
  · have e0 : a.tdiv b = a / b := Int.tdiv_eq_ediv_of_nonneg h0
    have e1 : w64 (a / b) = a / b := by rw [w64_in] <;> omega
    have e2 : a.tmod b = a % b := Int.tmod_eq_emod_of_nonneg h0
    have e3 : 0 ≤ a % b := Int.emod_nonneg _ k0
    simp only [↓x_X5_cutDown_0, ↓x_X5_cutDown_1, ↓x_X5_cutDown_2, ↓x_X5_cutDown_3, ↓x_X5_cutDown_5, ↓x_X5_cutDown_6, ↓x_X5_cutDown_7, ↓x_X5_cutDown_8, ↓x_X5_cutDown_9, ↓x_X5_cutDown_10, ↓x_X5_cutDown_13, ↓x_X5_cutDown_15, ↓x_X5_cutDown_16, ↓x_X5_cutDown_17, ↓x_X5_cutDown_20, ↓x_X5_cutDown_22, k0, e0, e1, e2, fc_ge, e3, ↓reduceIte]
  · have e2 : a.tmod b = -((-a) % b) := by
      have := Int.neg_tmod (-a) b
      rw [Int.neg_neg] at this
      rw [this, Int.tmod_eq_emod_of_nonneg (by omega)]
    have e4 : a.tdiv b = -((-a) / b) := by
      have := Int.neg_tdiv (-a) b
      rw [Int.neg_neg] at this
      rw [this, Int.tdiv_eq_ediv_of_nonneg (by omega)]
    have h1 := Int.mul_ediv_add_emod (-a) b
    have h2 := Int.emod_nonneg (-a) k0
    have h3 := Int.emod_lt_of_pos (-a) hb.1
    have hd2 := div_b (a := -a) hb.1
    by_cases c : (-a) % b = 0
    · have e5 : -((-a) / b) = a / b := by
        symm
        apply Int.ediv_eq_of_eq_mul_left k0
        have : -(-a / b) * b = -(b * (-a / b)) := by rw [Int.neg_mul, Int.mul_comm]
        omega
      have e1 : w64 (a / b) = a / b := by rw [w64_in] <;> omega
      have e6 : (0 : Int) ≤ -0 := by decide
      simp only [↓x_X5_cutDown_0, ↓x_X5_cutDown_1, ↓x_X5_cutDown_2, ↓x_X5_cutDown_3, ↓x_X5_cutDown_5, ↓x_X5_cutDown_6, ↓x_X5_cutDown_7, ↓x_X5_cutDown_8, ↓x_X5_cutDown_9, ↓x_X5_cutDown_10, ↓x_X5_cutDown_13, ↓x_X5_cutDown_15, ↓x_X5_cutDown_16, ↓x_X5_cutDown_17, ↓x_X5_cutDown_20, ↓x_X5_cutDown_22, k0, e4, e5, e1, e2, c, fc_ge, e6, ↓reduceIte]
    · have e5 : -((-a) / b) - 1 = a / b := by
        have q1 : b * (-((-a) / b) - 1) = -(b * ((-a) / b)) - b := by grind
        have hd1 := hd.1
        have hd2' := hd.2.1
        have u1 : a / b < -((-a) / b) := by
          apply Int.lt_of_mul_lt_mul_left (a := b) _ (by omega)
          have : b * -(-a / b) = -(b * (-a / b)) := by rw [Int.mul_neg]
          omega
        have u2 : -((-a) / b) - 1 < a / b + 1 := by
          apply Int.lt_of_mul_lt_mul_left (a := b) _ (by omega)
          have : b * (a / b + 1) = b * (a / b) + b := by rw [Int.mul_add, Int.mul_one]
          omega
        omega
      have e1 : w64 (-((-a) / b)) = -((-a) / b) := by rw [w64_in] <;> omega
      have e7 : w64 (-((-a) / b) - 1) = a / b := by rw [e5]; clear e1; rw [w64_in] <;> omega
      have e6 : ¬ (0 : Int) ≤ -((-a) % b) := by clear e1 e7; omega
      simp only [↓x_X5_cutDown_0, ↓x_X5_cutDown_1, ↓x_X5_cutDown_2, ↓x_X5_cutDown_3, ↓x_X5_cutDown_5, ↓x_X5_cutDown_6, ↓x_X5_cutDown_7, ↓x_X5_cutDown_8, ↓x_X5_cutDown_9, ↓x_X5_cutDown_10, ↓x_X5_cutDown_13, ↓x_X5_cutDown_15, ↓x_X5_cutDown_16, ↓x_X5_cutDown_17, ↓x_X5_cutDown_20, ↓x_X5_cutDown_22, k0, e4, e1, e7, e2, fc_ge, e6, ↓reduceIte]
