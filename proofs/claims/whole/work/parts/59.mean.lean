/-! ===== even, better, mean, row ===== -/
noncomputable def o_even (m s a b : Int) (S : SS) : Int × SS := if ¬ isM S m ∨ (a < -1000000 ∨ 1000000 < a) ∨ b < 0 ∨ 1000000 < b then (-1, S) else if ¬ isQ S m s then (-3, fdS S 2) else if b = 0 then (-3, fdS S 4) else (asA (sg ((wR S m.toNat s.toNat).num * b - a * ((wR S m.toNat s.toNat).den : Int))), S)
theorem CK_even {S : SS} (F : WF S) (m s a b : Int) : CK mX4_even [aI m, aI s, aI a, aI b] aI S (o_even m s a b S) := by
  intro h C
  have C0 := C
  obtain ⟨G, K, mb, sb, own, P⟩ := C
  have ho : isO h 4 0 = true := isO_rd G.1.1
  have ca := c_machineAt F G P m
  have cf2 := c_fd2 C0
  have cf4 := c_fd4 C0
  have z : ¬ (1 : Int) = 0 := by decide
  unfold o_even
  rw [e_X4_even]
  by_cases c1 : isM S m
  · rw [if_pos c1] at ca
    by_cases c0 : (a < -1000000 ∨ 1000000 < a) ∨ b < 0 ∨ 1000000 < b
    · rw [if_pos (Or.inr c0)]
      refine ⟨h, ?_, C0, grow_rf⟩
      by_cases d1 : a < -1000000
      · simp only [↓x_X4_even_0, ↓x_X4_even_1, ↓x_X4_even_2, ↓x_X4_even_5, ↓x_X4_even_7, ↓x_X4_even_9n, ↓x_X4_even_9s, ↓x_X4_even_12, ↓x_X4_even_13, ↓x_X4_even_15, ↓x_X4_even_18, ↓x_X4_even_19, ↓x_X4_even_21, ↓x_X4_even_24, ↓x_X4_even_26, ↓x_X4_even_29, ↓x_X4_even_31, ↓x_X4_even_33, ↓x_X4_even_36, ↓x_X4_even_37, ↓x_X4_even_38, ↓x_X4_even_40, ↓x_X4_even_41, ↓x_X4_even_44, ↓x_X4_even_47, ↓x_X4_even_48, ↓x_X4_even_49, ↓x_X4_even_52, ↓x_X4_even_53, ↓x_X4_even_55, ↓x_X4_even_58, ↓x_X4_even_59, ↓x_X4_even_60, ↓x_X4_even_63, ↓x_X4_even_64, ↓x_X4_even_65, ↓x_X4_even_67, ↓x_X4_even_68, ↓x_X4_even_71, ↓x_X4_even_73, ↓x_X4_even_75, ↓x_X4_even_78, ↓x_X4_even_80, ↓x_X4_even_83, ↓x_X4_even_84, ↓x_X4_even_85, ↓x_X4_even_87, ↓x_X4_even_88, ↓x_X4_even_91, ↓x_X4_even_94, ho, ↓cKR ca, d1, ↓reduceIte]
      · by_cases d2 : 1000000 < a
        · simp only [↓x_X4_even_0, ↓x_X4_even_1, ↓x_X4_even_2, ↓x_X4_even_5, ↓x_X4_even_7, ↓x_X4_even_9n, ↓x_X4_even_9s, ↓x_X4_even_12, ↓x_X4_even_13, ↓x_X4_even_15, ↓x_X4_even_18, ↓x_X4_even_19, ↓x_X4_even_21, ↓x_X4_even_24, ↓x_X4_even_26, ↓x_X4_even_29, ↓x_X4_even_31, ↓x_X4_even_33, ↓x_X4_even_36, ↓x_X4_even_37, ↓x_X4_even_38, ↓x_X4_even_40, ↓x_X4_even_41, ↓x_X4_even_44, ↓x_X4_even_47, ↓x_X4_even_48, ↓x_X4_even_49, ↓x_X4_even_52, ↓x_X4_even_53, ↓x_X4_even_55, ↓x_X4_even_58, ↓x_X4_even_59, ↓x_X4_even_60, ↓x_X4_even_63, ↓x_X4_even_64, ↓x_X4_even_65, ↓x_X4_even_67, ↓x_X4_even_68, ↓x_X4_even_71, ↓x_X4_even_73, ↓x_X4_even_75, ↓x_X4_even_78, ↓x_X4_even_80, ↓x_X4_even_83, ↓x_X4_even_84, ↓x_X4_even_85, ↓x_X4_even_87, ↓x_X4_even_88, ↓x_X4_even_91, ↓x_X4_even_94, ho, ↓cKR ca, d1, d2, ↓reduceIte]
        · by_cases d3 : b < 0
          · simp only [↓x_X4_even_0, ↓x_X4_even_1, ↓x_X4_even_2, ↓x_X4_even_5, ↓x_X4_even_7, ↓x_X4_even_9n, ↓x_X4_even_9s, ↓x_X4_even_12, ↓x_X4_even_13, ↓x_X4_even_15, ↓x_X4_even_18, ↓x_X4_even_19, ↓x_X4_even_21, ↓x_X4_even_24, ↓x_X4_even_26, ↓x_X4_even_29, ↓x_X4_even_31, ↓x_X4_even_33, ↓x_X4_even_36, ↓x_X4_even_37, ↓x_X4_even_38, ↓x_X4_even_40, ↓x_X4_even_41, ↓x_X4_even_44, ↓x_X4_even_47, ↓x_X4_even_48, ↓x_X4_even_49, ↓x_X4_even_52, ↓x_X4_even_53, ↓x_X4_even_55, ↓x_X4_even_58, ↓x_X4_even_59, ↓x_X4_even_60, ↓x_X4_even_63, ↓x_X4_even_64, ↓x_X4_even_65, ↓x_X4_even_67, ↓x_X4_even_68, ↓x_X4_even_71, ↓x_X4_even_73, ↓x_X4_even_75, ↓x_X4_even_78, ↓x_X4_even_80, ↓x_X4_even_83, ↓x_X4_even_84, ↓x_X4_even_85, ↓x_X4_even_87, ↓x_X4_even_88, ↓x_X4_even_91, ↓x_X4_even_94, ho, ↓cKR ca, d1, d2, d3, ↓reduceIte]
          · have d4 : ¬ b ≤ 1000000 := by omega
            simp only [↓x_X4_even_0, ↓x_X4_even_1, ↓x_X4_even_2, ↓x_X4_even_5, ↓x_X4_even_7, ↓x_X4_even_9n, ↓x_X4_even_9s, ↓x_X4_even_12, ↓x_X4_even_13, ↓x_X4_even_15, ↓x_X4_even_18, ↓x_X4_even_19, ↓x_X4_even_21, ↓x_X4_even_24, ↓x_X4_even_26, ↓x_X4_even_29, ↓x_X4_even_31, ↓x_X4_even_33, ↓x_X4_even_36, ↓x_X4_even_37, ↓x_X4_even_38, ↓x_X4_even_40, ↓x_X4_even_41, ↓x_X4_even_44, ↓x_X4_even_47, ↓x_X4_even_48, ↓x_X4_even_49, ↓x_X4_even_52, ↓x_X4_even_53, ↓x_X4_even_55, ↓x_X4_even_58, ↓x_X4_even_59, ↓x_X4_even_60, ↓x_X4_even_63, ↓x_X4_even_64, ↓x_X4_even_65, ↓x_X4_even_67, ↓x_X4_even_68, ↓x_X4_even_71, ↓x_X4_even_73, ↓x_X4_even_75, ↓x_X4_even_78, ↓x_X4_even_80, ↓x_X4_even_83, ↓x_X4_even_84, ↓x_X4_even_85, ↓x_X4_even_87, ↓x_X4_even_88, ↓x_X4_even_91, ↓x_X4_even_94, ho, ↓cKR ca, d1, d2, d3, d4, ↓reduceIte]
    · rw [if_neg (by omega)]
      have d1 : ¬ a < -1000000 := by omega
      have d2 : ¬ 1000000 < a := by omega
      have d3 : ¬ b < 0 := by omega
      have d4 : b ≤ 1000000 := by omega
      have hm : m.toNat < mS S := by unfold mS; omega
      obtain ⟨p1, p2, ⟨M, -⟩, p4⟩ := P.1 m.toNat hm
      obtain ⟨⟨n1, n5⟩, en, hpy, hw⟩ := F.m hm
      have hoM : isO h 1 (mb m.toNat) = true := isO_rd M.2.1
      have ch := has_e M (by omega) s
      by_cases c2 : isQ S m s
      · rw [if_pos c2] at ch
        rw [if_neg (not_not_intro c2)]
        by_cases c3 : b = 0
        · rw [if_pos c3]
          refine ⟨_, ?_, K_fd C0 4⟩
          simp only [↓x_X4_even_0, ↓x_X4_even_1, ↓x_X4_even_2, ↓x_X4_even_5, ↓x_X4_even_7, ↓x_X4_even_9n, ↓x_X4_even_9s, ↓x_X4_even_12, ↓x_X4_even_13, ↓x_X4_even_15, ↓x_X4_even_18, ↓x_X4_even_19, ↓x_X4_even_21, ↓x_X4_even_24, ↓x_X4_even_26, ↓x_X4_even_29, ↓x_X4_even_31, ↓x_X4_even_33, ↓x_X4_even_36, ↓x_X4_even_37, ↓x_X4_even_38, ↓x_X4_even_40, ↓x_X4_even_41, ↓x_X4_even_44, ↓x_X4_even_47, ↓x_X4_even_48, ↓x_X4_even_49, ↓x_X4_even_52, ↓x_X4_even_53, ↓x_X4_even_55, ↓x_X4_even_58, ↓x_X4_even_59, ↓x_X4_even_60, ↓x_X4_even_63, ↓x_X4_even_64, ↓x_X4_even_65, ↓x_X4_even_67, ↓x_X4_even_68, ↓x_X4_even_71, ↓x_X4_even_73, ↓x_X4_even_75, ↓x_X4_even_78, ↓x_X4_even_80, ↓x_X4_even_83, ↓x_X4_even_84, ↓x_X4_even_85, ↓x_X4_even_87, ↓x_X4_even_88, ↓x_X4_even_91, ↓x_X4_even_94, ho, hoM, ↓cKR ca, ↓cKI ch, ↓cKI cf4, d1, d2, d3, d4, c3, z, not_true_eq_false, not_false_eq_true, ↓reduceIte, Int.lt_irrefl, (by decide : (0 : Int) ≤ 1000000)]
        · rw [if_neg c3]
          obtain ⟨s', rfl⟩ := Int.eq_ofNat_of_zero_le c2.1
          rw [Int.toNat_natCast]
          have hs : s' < nS S m.toNat := by omega
          obtain ⟨h', r1, J', r3, r4, r5, r6⟩ := c_worthOf F ⟨G, K, P⟩ hm hs
          obtain ⟨fr, rb⟩ := J'.wg hm r3 hs
          have cw := c_weigh (h := h') (a := (wR S m.toNat s').num) (b := ((wR S m.toNat s').den : Int)) (c := a) (d := b) ⟨by have := rb.1; omega, by have := rb.2.1; omega⟩ ⟨by have := (wR S m.toNat s').den_pos; omega, by have := rb.2.2; omega⟩ ⟨by omega, by omega⟩ ⟨by omega, by omega⟩
          refine ⟨h', ?_, J'.ci, grow_eq ⟨r5, r6⟩⟩
          simp only [↓x_X4_even_0, ↓x_X4_even_1, ↓x_X4_even_2, ↓x_X4_even_5, ↓x_X4_even_7, ↓x_X4_even_9n, ↓x_X4_even_9s, ↓x_X4_even_12, ↓x_X4_even_13, ↓x_X4_even_15, ↓x_X4_even_18, ↓x_X4_even_19, ↓x_X4_even_21, ↓x_X4_even_24, ↓x_X4_even_26, ↓x_X4_even_29, ↓x_X4_even_31, ↓x_X4_even_33, ↓x_X4_even_36, ↓x_X4_even_37, ↓x_X4_even_38, ↓x_X4_even_40, ↓x_X4_even_41, ↓x_X4_even_44, ↓x_X4_even_47, ↓x_X4_even_48, ↓x_X4_even_49, ↓x_X4_even_52, ↓x_X4_even_53, ↓x_X4_even_55, ↓x_X4_even_58, ↓x_X4_even_59, ↓x_X4_even_60, ↓x_X4_even_63, ↓x_X4_even_64, ↓x_X4_even_65, ↓x_X4_even_67, ↓x_X4_even_68, ↓x_X4_even_71, ↓x_X4_even_73, ↓x_X4_even_75, ↓x_X4_even_78, ↓x_X4_even_80, ↓x_X4_even_83, ↓x_X4_even_84, ↓x_X4_even_85, ↓x_X4_even_87, ↓x_X4_even_88, ↓x_X4_even_91, ↓x_X4_even_94, ho, hoM, ↓cKR ca, ↓cKI ch, ↓cKR r1, ↓gK_of fr.1, ↓gK_of fr.2, ↓cKI cw, ↓cKI c_asAnswer, d1, d2, d3, d4, c3, z, not_true_eq_false, not_false_eq_true, ↓reduceIte]
      · rw [if_neg c2] at ch
        rw [if_pos c2]
        refine ⟨_, ?_, K_fd C0 2⟩
        simp only [↓x_X4_even_0, ↓x_X4_even_1, ↓x_X4_even_2, ↓x_X4_even_5, ↓x_X4_even_7, ↓x_X4_even_9n, ↓x_X4_even_9s, ↓x_X4_even_12, ↓x_X4_even_13, ↓x_X4_even_15, ↓x_X4_even_18, ↓x_X4_even_19, ↓x_X4_even_21, ↓x_X4_even_24, ↓x_X4_even_26, ↓x_X4_even_29, ↓x_X4_even_31, ↓x_X4_even_33, ↓x_X4_even_36, ↓x_X4_even_37, ↓x_X4_even_38, ↓x_X4_even_40, ↓x_X4_even_41, ↓x_X4_even_44, ↓x_X4_even_47, ↓x_X4_even_48, ↓x_X4_even_49, ↓x_X4_even_52, ↓x_X4_even_53, ↓x_X4_even_55, ↓x_X4_even_58, ↓x_X4_even_59, ↓x_X4_even_60, ↓x_X4_even_63, ↓x_X4_even_64, ↓x_X4_even_65, ↓x_X4_even_67, ↓x_X4_even_68, ↓x_X4_even_71, ↓x_X4_even_73, ↓x_X4_even_75, ↓x_X4_even_78, ↓x_X4_even_80, ↓x_X4_even_83, ↓x_X4_even_84, ↓x_X4_even_85, ↓x_X4_even_87, ↓x_X4_even_88, ↓x_X4_even_91, ↓x_X4_even_94, ho, hoM, ↓cKR ca, ↓cKI ch, ↓cKI cf2, d1, d2, d3, d4, not_true_eq_false, ↓reduceIte]
  · rw [if_neg c1] at ca
    rw [if_pos (Or.inl c1)]
    refine ⟨h, ?_, C0, grow_rf⟩
    simp only [↓x_X4_even_0, ↓x_X4_even_1, ↓x_X4_even_2, ↓x_X4_even_5, ↓x_X4_even_7, ↓x_X4_even_9n, ↓x_X4_even_9s, ↓x_X4_even_12, ↓x_X4_even_13, ↓x_X4_even_15, ↓x_X4_even_18, ↓x_X4_even_19, ↓x_X4_even_21, ↓x_X4_even_24, ↓x_X4_even_26, ↓x_X4_even_29, ↓x_X4_even_31, ↓x_X4_even_33, ↓x_X4_even_36, ↓x_X4_even_37, ↓x_X4_even_38, ↓x_X4_even_40, ↓x_X4_even_41, ↓x_X4_even_44, ↓x_X4_even_47, ↓x_X4_even_48, ↓x_X4_even_49, ↓x_X4_even_52, ↓x_X4_even_53, ↓x_X4_even_55, ↓x_X4_even_58, ↓x_X4_even_59, ↓x_X4_even_60, ↓x_X4_even_63, ↓x_X4_even_64, ↓x_X4_even_65, ↓x_X4_even_67, ↓x_X4_even_68, ↓x_X4_even_71, ↓x_X4_even_73, ↓x_X4_even_75, ↓x_X4_even_78, ↓x_X4_even_80, ↓x_X4_even_83, ↓x_X4_even_84, ↓x_X4_even_85, ↓x_X4_even_87, ↓x_X4_even_88, ↓x_X4_even_91, ↓x_X4_even_94, ho, ↓cKR ca]
noncomputable def o_better (m s : Int) (S : SS) : Int × SS := if ¬ isM S m then (-1, S) else if ¬ isQ S m s then (-3, fdS S 2) else (1, tlS S (mkRat ((wR S m.toNat s.toNat).num - S 2 m.toNat s.toNat 0 * ((wR S m.toNat s.toNat).den : Int)) (wR S m.toNat s.toNat).den))
theorem CK_better {S : SS} (F : WF S) (m s : Int) : CK mX4_better [aI m, aI s] aI S (o_better m s S) := by
  intro h C
  have C0 := C
  obtain ⟨G, K, mb, sb, own, P⟩ := C
  have ho : isO h 4 0 = true := isO_rd G.1.1
  have ca := c_machineAt F G P m
  have cf2 := c_fd2 C0
  have z : ¬ (1 : Int) = 0 := by decide
  unfold o_better
  rw [e_X4_better]
  by_cases c1 : isM S m
  · rw [if_pos c1] at ca
    rw [if_neg (not_not_intro c1)]
    have hm : m.toNat < mS S := by unfold mS; omega
    obtain ⟨p1, p2, ⟨M, -⟩, p4⟩ := P.1 m.toNat hm
    obtain ⟨⟨n1, n5⟩, en, hpy, hw⟩ := F.m hm
    have hoM : isO h 1 (mb m.toNat) = true := isO_rd M.2.1
    have ch := has_e M (by omega) s
    by_cases c2 : isQ S m s
    · rw [if_pos c2] at ch
      rw [if_neg (not_not_intro c2)]
      obtain ⟨s', rfl⟩ := Int.eq_ofNat_of_zero_le c2.1
      rw [Int.toNat_natCast]
      have hs : s' < nS S m.toNat := by omega
      obtain ⟨h', r1, J', r3, r4, r5, r6⟩ := c_worthOf F ⟨G, K, P⟩ hm hs
      have g3 := J'.1.1.2.2.2.1
      obtain ⟨fr, rb1, rb2, rb3⟩ := J'.wg hm r3 hs
      obtain ⟨q1, q2, ⟨M', -⟩, q4⟩ := J'.2.2.1 m.toNat hm
      have hoM' : isO h' 1 (mb m.toNat) = true := isO_rd M'.2.1
      have cp := c_payAt M' hs
      have t8 := J'.1.2.2.2.2.2.2.1
      have hb : -50 ≤ S 2 m.toNat s' 0 ∧ S 2 m.toNat s' 0 ≤ 50 := hpy s' hs
      have dp := (wR S m.toNat s').den_pos
      have e0 : pyS S m.toNat s' = S 2 m.toNat s' 0 := rfl
      rw [e0] at cp
      generalize hD : (wR S m.toNat s').den = D at *
      generalize hN : (wR S m.toNat s').num = N at *
      generalize hV : S 2 m.toNat s' 0 = V at *
      have b1 : V * (D : Int) ≤ 50 * (D : Int) := Int.mul_le_mul_of_nonneg_right hb.2 (by omega)
      have b2 : -50 * (D : Int) ≤ V * (D : Int) := Int.mul_le_mul_of_nonneg_right hb.1 (by omega)
      have e1 : w64 (V * (D : Int)) = V * (D : Int) := by rw [w64_in] <;> omega
      have e2 : w64 (N - V * (D : Int)) = N - V * (D : Int) := by rw [w64_in] <;> omega
      have cb := c_become (f := 8) (a := N - V * (D : Int)) (b := D) (t8 0 (by decide)) (t8 1 (by decide)) ⟨by omega, by omega⟩ ⟨by omega, by omega⟩
      have ho8 : isO h' 0 8 = true := isO_rd (t8 0 (by decide))
      have f0 := fr.1
      have f1 := fr.2
      rw [hN] at f0
      rw [hD] at f1
      refine ⟨_, ?_, J'.ci.wT _, grow_eq ⟨by rw [fset_len.1]; exact r5, by rw [fset_len.2]; exact r6⟩⟩
      simp only [↓x_X4_better_0, ↓x_X4_better_1, ↓x_X4_better_2, ↓x_X4_better_5, ↓x_X4_better_6, ↓x_X4_better_7n, ↓x_X4_better_7s, ↓x_X4_better_10, ↓x_X4_better_11, ↓x_X4_better_12, ↓x_X4_better_13, ↓x_X4_better_14, ↓x_X4_better_17, ↓x_X4_better_20, ↓x_X4_better_21, ↓x_X4_better_22, ↓x_X4_better_25, ↓x_X4_better_26, ↓x_X4_better_27, ↓x_X4_better_28, ↓x_X4_better_29, ↓x_X4_better_32, ↓x_X4_better_34, ↓x_X4_better_35, ↓x_X4_better_38, ↓x_X4_better_40, ↓x_X4_better_43, ↓x_X4_better_44, ↓x_X4_better_45, ↓x_X4_better_48, ↓x_X4_better_49, ↓x_X4_better_51, ↓x_X4_better_54, ↓x_X4_better_55, ↓x_X4_better_56, ↓x_X4_better_58, ↓x_X4_better_64, ↓x_X4_better_65, ho, hoM, hoM', ↓cKR ca, ↓cKI ch, z, ↓gK_of g3, ↓cKR r1, ↓gK_of f0, ↓gK_of f1, ↓cKI cp, e1, e2, not_false_eq_true, ↓reduceIte]
      simp only [↓x_X4_better_0, ↓x_X4_better_1, ↓x_X4_better_2, ↓x_X4_better_5, ↓x_X4_better_6, ↓x_X4_better_7n, ↓x_X4_better_7s, ↓x_X4_better_10, ↓x_X4_better_11, ↓x_X4_better_12, ↓x_X4_better_13, ↓x_X4_better_14, ↓x_X4_better_17, ↓x_X4_better_20, ↓x_X4_better_21, ↓x_X4_better_22, ↓x_X4_better_25, ↓x_X4_better_26, ↓x_X4_better_27, ↓x_X4_better_28, ↓x_X4_better_29, ↓x_X4_better_32, ↓x_X4_better_34, ↓x_X4_better_35, ↓x_X4_better_38, ↓x_X4_better_40, ↓x_X4_better_43, ↓x_X4_better_44, ↓x_X4_better_45, ↓x_X4_better_48, ↓x_X4_better_49, ↓x_X4_better_51, ↓x_X4_better_54, ↓x_X4_better_55, ↓x_X4_better_56, ↓x_X4_better_58, ↓x_X4_better_61, ↓x_X4_better_64, ↓x_X4_better_65, ho8, ↓cKV cb]
    · rw [if_neg c2] at ch
      rw [if_pos c2]
      refine ⟨_, ?_, K_fd C0 2⟩
      simp only [↓x_X4_better_0, ↓x_X4_better_1, ↓x_X4_better_2, ↓x_X4_better_5, ↓x_X4_better_6, ↓x_X4_better_7n, ↓x_X4_better_7s, ↓x_X4_better_10, ↓x_X4_better_11, ↓x_X4_better_12, ↓x_X4_better_13, ↓x_X4_better_14, ↓x_X4_better_17, ↓x_X4_better_20, ↓x_X4_better_21, ↓x_X4_better_22, ↓x_X4_better_25, ↓x_X4_better_26, ↓x_X4_better_27, ↓x_X4_better_28, ↓x_X4_better_29, ↓x_X4_better_32, ↓x_X4_better_34, ↓x_X4_better_35, ↓x_X4_better_38, ↓x_X4_better_40, ↓x_X4_better_43, ↓x_X4_better_44, ↓x_X4_better_45, ↓x_X4_better_48, ↓x_X4_better_49, ↓x_X4_better_51, ↓x_X4_better_54, ↓x_X4_better_55, ↓x_X4_better_56, ↓x_X4_better_58, ↓x_X4_better_61, ↓x_X4_better_64, ↓x_X4_better_65, ho, hoM, ↓cKR ca, ↓cKI ch, ↓cKI cf2, not_true_eq_false, ↓reduceIte]
  · rw [if_neg c1] at ca
    rw [if_pos c1]
    refine ⟨h, ?_, C0, grow_rf⟩
    simp only [↓x_X4_better_0, ↓x_X4_better_1, ↓x_X4_better_2, ↓x_X4_better_5, ↓x_X4_better_6, ↓x_X4_better_7n, ↓x_X4_better_7s, ↓x_X4_better_10, ↓x_X4_better_11, ↓x_X4_better_12, ↓x_X4_better_13, ↓x_X4_better_14, ↓x_X4_better_17, ↓x_X4_better_20, ↓x_X4_better_21, ↓x_X4_better_22, ↓x_X4_better_25, ↓x_X4_better_26, ↓x_X4_better_27, ↓x_X4_better_28, ↓x_X4_better_29, ↓x_X4_better_32, ↓x_X4_better_34, ↓x_X4_better_35, ↓x_X4_better_38, ↓x_X4_better_40, ↓x_X4_better_43, ↓x_X4_better_44, ↓x_X4_better_45, ↓x_X4_better_48, ↓x_X4_better_49, ↓x_X4_better_51, ↓x_X4_better_54, ↓x_X4_better_55, ↓x_X4_better_56, ↓x_X4_better_58, ↓x_X4_better_61, ↓x_X4_better_64, ↓x_X4_better_65, ho, ↓cKR ca]
abbrev mnF (S : SS) (m s : Nat) : Nat → Int := fun t => S 3 m s t * S 2 m t 0
noncomputable def o_mean (m s : Int) (S : SS) : Int × SS := if ¬ isM S m then (-1, S) else if ¬ isQ S m s then (-3, fdS S 2) else (1, tlS S (mkRat (sumI (mnF S m.toNat s.toNat) (nS S m.toNat)) (sumI (wS S m.toNat s.toNat) (nS S m.toNat)).toNat))
theorem mnF_b {S : SS} (F : WF S) {m s : Nat} (hm : m < mS S) (hs : s < nS S m) : ∀ t, t < nS S m → -500 ≤ mnF S m s t ∧ mnF S m s t ≤ 500 := by
  intro t ht
  obtain ⟨⟨n1, n5⟩, en, hpy, hw⟩ := F.m hm
  have h1 : 0 ≤ S 3 m s t ∧ S 3 m s t ≤ 10 := (hw s hs).1 t ht
  have h2 : -50 ≤ S 2 m t 0 ∧ S 2 m t 0 ≤ 50 := hpy t ht
  show -500 ≤ S 3 m s t * S 2 m t 0 ∧ S 3 m s t * S 2 m t 0 ≤ 500
  have b1 : S 3 m s t * S 2 m t 0 ≤ S 3 m s t * 50 := Int.mul_le_mul_of_nonneg_left h2.2 h1.1
  have b2 : S 3 m s t * -50 ≤ S 3 m s t * S 2 m t 0 := Int.mul_le_mul_of_nonneg_left h2.1 h1.1
  omega
theorem mnS_b {S : SS} (F : WF S) {m s : Nat} (hm : m < mS S) (hs : s < nS S m) {t : Nat} (ht : t ≤ nS S m) : -2500 ≤ sumI (mnF S m s) t ∧ sumI (mnF S m s) t ≤ 2500 := by
  obtain ⟨⟨n1, n5⟩, en, hpy, hw⟩ := F.m hm
  have := sumI_b (f := mnF S m s) (n := t) (lo := -500) (hi := 500) (fun j hj => mnF_b F hm hs j (by omega))
  omega
section MEAN
variable {S : SS} {mb sb own : Nat → Nat} {m : Nat}
theorem l_mean (F : WF S) (hm : m < mS S) {s : Nat} (hs : s < nS S m) {vm : Int} {h : AH} (M : Mach h (mb m) (S 1 m 0 0) (nS S m) (pyS S m) (wS S m)) : ∀ (d t : Nat), t + d = nS S m →
    X mX4_mean 32 [aR (some 0), aI vm, aI s, aR (some (mb m)), aJ (sumI (mnF S m s) t), aU, aI t] [] h = X mX4_mean 67 [aR (some 0), aI vm, aI s, aR (some (mb m)), aJ (sumI (mnF S m s) (nS S m)), aU, aI (nS S m)] [] h := by
  obtain ⟨⟨n1, n5⟩, en, hpy, hw⟩ := F.m hm
  have g1 := M.2.2.1
  have hoM : isO h 1 (mb m) = true := isO_rd M.2.1
  intro d
  induction d with
  | zero =>
    intro t hd
    have e : t = nS S m := by omega
    subst e
    have n1 : ((nS S m : Nat) : Int) ≤ ((nS S m : Nat) : Int) := Int.le_refl _
    rw [x_X4_mean_32]
    simp only [↓x_X4_mean_0, ↓x_X4_mean_1, ↓x_X4_mean_2, ↓x_X4_mean_5, ↓x_X4_mean_6, ↓x_X4_mean_7n, ↓x_X4_mean_7s, ↓x_X4_mean_10, ↓x_X4_mean_11, ↓x_X4_mean_12, ↓x_X4_mean_13, ↓x_X4_mean_14, ↓x_X4_mean_17, ↓x_X4_mean_20, ↓x_X4_mean_21, ↓x_X4_mean_22, ↓x_X4_mean_25, ↓x_X4_mean_26, ↓x_X4_mean_27, ↓x_X4_mean_29, ↓x_X4_mean_30, ↓x_X4_mean_34, ↓x_X4_mean_35, ↓x_X4_mean_38, ↓x_X4_mean_41, ↓x_X4_mean_43, ↓x_X4_mean_44, ↓x_X4_mean_45, ↓x_X4_mean_47, ↓x_X4_mean_50, ↓x_X4_mean_51, ↓x_X4_mean_53, ↓x_X4_mean_56, ↓x_X4_mean_57, ↓x_X4_mean_58, ↓x_X4_mean_59, ↓x_X4_mean_61, ↓x_X4_mean_64, ↓x_X4_mean_68, ↓x_X4_mean_71, ↓x_X4_mean_73, ↓x_X4_mean_74, ↓x_X4_mean_75, ↓x_X4_mean_78, ↓x_X4_mean_79, ↓x_X4_mean_82, ↓x_X4_mean_83, ↓gK_of g1, n1, ↓reduceIte]
  | succ d ih =>
    intro t hd
    have n3 : ¬ ((nS S m : Nat) : Int) ≤ (t : Int) := by omega
    have e5 : w32 ((t : Int) + 1) = ((t + 1 : Nat) : Int) := by rw [w32_in] <;> omega
    have cw := c_weightAt M hs (t := t) (by omega)
    have cp := c_payAt M (s := t) (by omega)
    have b1 := mnF_b F hm hs t (by omega)
    have b2 := mnS_b F hm hs (t := t) (by omega)
    have e1 : w32 (wS S m s t * pyS S m t) = mnF S m s t := by
      show w32 (mnF S m s t) = mnF S m s t
      rw [w32_in] <;> omega
    have e2 : w64 (sumI (mnF S m s) t + mnF S m s t) = sumI (mnF S m s) (t + 1) := by rw [sumI, w64_in] <;> omega
    rw [← ih (t + 1) (by omega), x_X4_mean_32]
    simp only [↓x_X4_mean_0, ↓x_X4_mean_1, ↓x_X4_mean_2, ↓x_X4_mean_5, ↓x_X4_mean_6, ↓x_X4_mean_7n, ↓x_X4_mean_7s, ↓x_X4_mean_10, ↓x_X4_mean_11, ↓x_X4_mean_12, ↓x_X4_mean_13, ↓x_X4_mean_14, ↓x_X4_mean_17, ↓x_X4_mean_20, ↓x_X4_mean_21, ↓x_X4_mean_22, ↓x_X4_mean_25, ↓x_X4_mean_26, ↓x_X4_mean_27, ↓x_X4_mean_29, ↓x_X4_mean_30, ↓x_X4_mean_34, ↓x_X4_mean_35, ↓x_X4_mean_38, ↓x_X4_mean_41, ↓x_X4_mean_43, ↓x_X4_mean_44, ↓x_X4_mean_45, ↓x_X4_mean_47, ↓x_X4_mean_50, ↓x_X4_mean_51, ↓x_X4_mean_53, ↓x_X4_mean_56, ↓x_X4_mean_57, ↓x_X4_mean_58, ↓x_X4_mean_59, ↓x_X4_mean_61, ↓x_X4_mean_64, ↓x_X4_mean_68, ↓x_X4_mean_71, ↓x_X4_mean_73, ↓x_X4_mean_74, ↓x_X4_mean_75, ↓x_X4_mean_78, ↓x_X4_mean_79, ↓x_X4_mean_82, ↓x_X4_mean_83, ↓gK_of g1, n3, hoM, ↓cKI cw, ↓cKI cp, e1, e2, e5, ↓reduceIte]
end MEAN
theorem CK_mean {S : SS} (F : WF S) (m s : Int) : CK mX4_mean [aI m, aI s] aI S (o_mean m s S) := by
  intro h C
  have C0 := C
  obtain ⟨G, K, mb, sb, own, P⟩ := C
  have ho : isO h 4 0 = true := isO_rd G.1.1
  have ca := c_machineAt F G P m
  have cf2 := c_fd2 C0
  have z : ¬ (1 : Int) = 0 := by decide
  unfold o_mean
  rw [e_X4_mean]
  by_cases c1 : isM S m
  · rw [if_pos c1] at ca
    rw [if_neg (not_not_intro c1)]
    have hm : m.toNat < mS S := by unfold mS; omega
    obtain ⟨p1, p2, ⟨M, -⟩, p4⟩ := P.1 m.toNat hm
    obtain ⟨⟨n1, n5⟩, en, hpy, hw⟩ := F.m hm
    have hoM : isO h 1 (mb m.toNat) = true := isO_rd M.2.1
    have ch := has_e M (by omega) s
    by_cases c2 : isQ S m s
    · rw [if_pos c2] at ch
      rw [if_neg (not_not_intro c2)]
      obtain ⟨s', rfl⟩ := Int.eq_ofNat_of_zero_le c2.1
      rw [Int.toNat_natCast]
      have hs : s' < nS S m.toNat := by omega
      have g3 := G.1.2.2.2.1
      have lm := l_mean F hm hs (vm := m) M (nS S m.toNat) 0 (by omega)
      have t8 := G.2.2.2.2.2.2.1
      have cs := c_sumOf M hw hs
      have hb2 := (hw s' hs).2
      have mb2 := mnS_b F hm hs (Nat.le_refl _)
      obtain ⟨D, hD⟩ := Int.eq_ofNat_of_zero_le (show 0 ≤ sumI (wS S m.toNat s') (nS S m.toNat) by omega)
      rw [hD] at cs hb2
      rw [hD, Int.toNat_natCast]
      have cb := c_become (f := 8) (a := sumI (mnF S m.toNat s') (nS S m.toNat)) (b := D) (t8 0 (by decide)) (t8 1 (by decide)) ⟨by omega, by omega⟩ ⟨by omega, by omega⟩
      have ho8 : isO h 0 8 = true := isO_rd (t8 0 (by decide))
      refine ⟨_, ?_, C0.wT _, grow_eq fset_len⟩
      simp only [↓x_X4_mean_0, ↓x_X4_mean_1, ↓x_X4_mean_2, ↓x_X4_mean_5, ↓x_X4_mean_6, ↓x_X4_mean_7n, ↓x_X4_mean_7s, ↓x_X4_mean_10, ↓x_X4_mean_11, ↓x_X4_mean_12, ↓x_X4_mean_13, ↓x_X4_mean_14, ↓x_X4_mean_17, ↓x_X4_mean_20, ↓x_X4_mean_21, ↓x_X4_mean_22, ↓x_X4_mean_25, ↓x_X4_mean_26, ↓x_X4_mean_27, ↓x_X4_mean_29, ↓x_X4_mean_30, ↓x_X4_mean_34, ↓x_X4_mean_35, ↓x_X4_mean_38, ↓x_X4_mean_41, ↓x_X4_mean_43, ↓x_X4_mean_44, ↓x_X4_mean_45, ↓x_X4_mean_47, ↓x_X4_mean_50, ↓x_X4_mean_51, ↓x_X4_mean_53, ↓x_X4_mean_56, ↓x_X4_mean_57, ↓x_X4_mean_58, ↓x_X4_mean_59, ↓x_X4_mean_61, ↓x_X4_mean_64, ↓x_X4_mean_67, ↓x_X4_mean_68, ↓x_X4_mean_71, ↓x_X4_mean_73, ↓x_X4_mean_74, ↓x_X4_mean_75, ↓x_X4_mean_78, ↓x_X4_mean_79, ↓x_X4_mean_82, ↓x_X4_mean_83, ho, hoM, ↓cKR ca, ↓cKI ch, z, not_false_eq_true, ↓reduceIte]
      refine lm.trans ?_
      simp only [↓x_X4_mean_0, ↓x_X4_mean_1, ↓x_X4_mean_2, ↓x_X4_mean_5, ↓x_X4_mean_6, ↓x_X4_mean_7n, ↓x_X4_mean_7s, ↓x_X4_mean_10, ↓x_X4_mean_11, ↓x_X4_mean_12, ↓x_X4_mean_13, ↓x_X4_mean_14, ↓x_X4_mean_17, ↓x_X4_mean_20, ↓x_X4_mean_21, ↓x_X4_mean_22, ↓x_X4_mean_25, ↓x_X4_mean_26, ↓x_X4_mean_27, ↓x_X4_mean_29, ↓x_X4_mean_30, ↓x_X4_mean_34, ↓x_X4_mean_35, ↓x_X4_mean_38, ↓x_X4_mean_41, ↓x_X4_mean_43, ↓x_X4_mean_44, ↓x_X4_mean_45, ↓x_X4_mean_47, ↓x_X4_mean_50, ↓x_X4_mean_51, ↓x_X4_mean_53, ↓x_X4_mean_56, ↓x_X4_mean_57, ↓x_X4_mean_58, ↓x_X4_mean_59, ↓x_X4_mean_61, ↓x_X4_mean_64, ↓x_X4_mean_67, ↓x_X4_mean_68, ↓x_X4_mean_71, ↓x_X4_mean_73, ↓x_X4_mean_74, ↓x_X4_mean_75, ↓x_X4_mean_78, ↓x_X4_mean_79, ↓x_X4_mean_82, ↓x_X4_mean_83, ho, hoM, ↓gK_of g3, ↓cKI cs, ho8, ↓cKV cb]
    · rw [if_neg c2] at ch
      rw [if_pos c2]
      refine ⟨_, ?_, K_fd C0 2⟩
      simp only [↓x_X4_mean_0, ↓x_X4_mean_1, ↓x_X4_mean_2, ↓x_X4_mean_5, ↓x_X4_mean_6, ↓x_X4_mean_7n, ↓x_X4_mean_7s, ↓x_X4_mean_10, ↓x_X4_mean_11, ↓x_X4_mean_12, ↓x_X4_mean_13, ↓x_X4_mean_14, ↓x_X4_mean_17, ↓x_X4_mean_20, ↓x_X4_mean_21, ↓x_X4_mean_22, ↓x_X4_mean_25, ↓x_X4_mean_26, ↓x_X4_mean_27, ↓x_X4_mean_29, ↓x_X4_mean_30, ↓x_X4_mean_34, ↓x_X4_mean_35, ↓x_X4_mean_38, ↓x_X4_mean_41, ↓x_X4_mean_43, ↓x_X4_mean_44, ↓x_X4_mean_45, ↓x_X4_mean_47, ↓x_X4_mean_50, ↓x_X4_mean_51, ↓x_X4_mean_53, ↓x_X4_mean_56, ↓x_X4_mean_57, ↓x_X4_mean_58, ↓x_X4_mean_59, ↓x_X4_mean_61, ↓x_X4_mean_64, ↓x_X4_mean_67, ↓x_X4_mean_68, ↓x_X4_mean_71, ↓x_X4_mean_73, ↓x_X4_mean_74, ↓x_X4_mean_75, ↓x_X4_mean_78, ↓x_X4_mean_79, ↓x_X4_mean_82, ↓x_X4_mean_83, ho, hoM, ↓cKR ca, ↓cKI ch, ↓cKI cf2, not_true_eq_false, ↓reduceIte]
  · rw [if_neg c1] at ca
    rw [if_pos c1]
    refine ⟨h, ?_, C0, grow_rf⟩
    simp only [↓x_X4_mean_0, ↓x_X4_mean_1, ↓x_X4_mean_2, ↓x_X4_mean_5, ↓x_X4_mean_6, ↓x_X4_mean_7n, ↓x_X4_mean_7s, ↓x_X4_mean_10, ↓x_X4_mean_11, ↓x_X4_mean_12, ↓x_X4_mean_13, ↓x_X4_mean_14, ↓x_X4_mean_17, ↓x_X4_mean_20, ↓x_X4_mean_21, ↓x_X4_mean_22, ↓x_X4_mean_25, ↓x_X4_mean_26, ↓x_X4_mean_27, ↓x_X4_mean_29, ↓x_X4_mean_30, ↓x_X4_mean_34, ↓x_X4_mean_35, ↓x_X4_mean_38, ↓x_X4_mean_41, ↓x_X4_mean_43, ↓x_X4_mean_44, ↓x_X4_mean_45, ↓x_X4_mean_47, ↓x_X4_mean_50, ↓x_X4_mean_51, ↓x_X4_mean_53, ↓x_X4_mean_56, ↓x_X4_mean_57, ↓x_X4_mean_58, ↓x_X4_mean_59, ↓x_X4_mean_61, ↓x_X4_mean_64, ↓x_X4_mean_67, ↓x_X4_mean_68, ↓x_X4_mean_71, ↓x_X4_mean_73, ↓x_X4_mean_74, ↓x_X4_mean_75, ↓x_X4_mean_78, ↓x_X4_mean_79, ↓x_X4_mean_82, ↓x_X4_mean_83, ho, ↓cKR ca]
noncomputable def o_row (m s : Int) (S : SS) : Int × SS := if ¬ isM S m then (-1, S) else if ¬ (S 1 m.toNat 0 0 = 2 ∨ S 1 m.toNat 0 0 = 3) then (-3, fdS S 3) else if ¬ isQ S m s then (-3, fdS S 2) else (((rwL S m.toNat s.toNat : Nat) : Int), S)
theorem CK_row {S : SS} (F : WF S) (m s : Int) : CK mX4_row [aI m, aI s] aI S (o_row m s S) := by
  intro h C
  have C0 := C
  obtain ⟨G, K, mb, sb, own, P⟩ := C
  have ho : isO h 4 0 = true := isO_rd G.1.1
  have ca := c_machineAt F G P m
  have cf2 := c_fd2 C0
  have cf3 := c_fd3 C0
  have z : ¬ (1 : Int) = 0 := by decide
  unfold o_row
  rw [e_X4_row]
  by_cases c1 : isM S m
  · rw [if_pos c1] at ca
    rw [if_neg (not_not_intro c1)]
    have hm : m.toNat < mS S := by unfold mS; omega
    obtain ⟨p1, p2, ⟨M, -⟩, p4⟩ := P.1 m.toNat hm
    obtain ⟨⟨n1, n5⟩, en, hpy, hw⟩ := F.m hm
    have hoM : isO h 1 (mb m.toNat) = true := isO_rd M.2.1
    have ch := has_e M (by omega) s
    have cu := c_isUnder (o := 2) M.2.1
    by_cases c3 : S 1 m.toNat 0 0 = 2 ∨ S 1 m.toNat 0 0 = 3
    · rw [if_pos (by omega)] at cu
      rw [if_neg (not_not_intro c3)]
      by_cases c2 : isQ S m s
      · rw [if_pos c2] at ch
        rw [if_neg (not_not_intro c2)]
        obtain ⟨s', rfl⟩ := Int.eq_ofNat_of_zero_le c2.1
        rw [Int.toNat_natCast]
        have hs : s' < nS S m.toNat := by omega
        obtain ⟨hpq, ep, eq⟩ := F.pq
        have g8 : rd h 4 0 8 = some (aI ((pS S : Nat) : Int)) := by rw [ep]; exact G.2.1 8 (by decide) (by decide)
        have g9 : rd h 4 0 9 = some (aI ((qS S : Nat) : Int)) := by rw [eq]; exact G.2.1 9 (by decide) (by decide)
        have g2 := G.1.2.2.1
        have hoK : isO h 2 3 = true := isO_rd K.1.1
        obtain ⟨h', L, la, r1, r2, r3, r4⟩ := c_row p2 hpy hw hpq hs K M
        have J' : CJ S h' mb sb own := CJ.reck ⟨G, K, P⟩ r2 (fun t x z => Rg1_b2 z) r3
        rw [rwL_eq r4]
        refine ⟨h', ?_, J'.ci, grow_eq ⟨r2.2.2.2.2.1, r2.2.2.2.2.2⟩⟩
        simp only [↓x_X4_row_0, ↓x_X4_row_1, ↓x_X4_row_2, ↓x_X4_row_5, ↓x_X4_row_6, ↓x_X4_row_7n, ↓x_X4_row_7s, ↓x_X4_row_10, ↓x_X4_row_11, ↓x_X4_row_12, ↓x_X4_row_13, ↓x_X4_row_14, ↓x_X4_row_17, ↓x_X4_row_20, ↓x_X4_row_21, ↓x_X4_row_22, ↓x_X4_row_25, ↓x_X4_row_26, ↓x_X4_row_27, ↓x_X4_row_28, ↓x_X4_row_31, ↓x_X4_row_34, ↓x_X4_row_35, ↓x_X4_row_36, ↓x_X4_row_39, ↓x_X4_row_40, ↓x_X4_row_41, ↓x_X4_row_44, ↓x_X4_row_45, ↓x_X4_row_46, ↓x_X4_row_47, ↓x_X4_row_50, ↓x_X4_row_51, ↓x_X4_row_54, ↓x_X4_row_57, ho, hoM, hoK, ↓cKR ca, ↓cKI ch, ↓cKI cu, z, ↓gK_of g2, ↓gK_of g8, ↓gK_of g9, ↓cKI r1, not_false_eq_true, ↓reduceIte]
      · rw [if_neg c2] at ch
        rw [if_pos c2]
        refine ⟨_, ?_, K_fd C0 2⟩
        simp only [↓x_X4_row_0, ↓x_X4_row_1, ↓x_X4_row_2, ↓x_X4_row_5, ↓x_X4_row_6, ↓x_X4_row_7n, ↓x_X4_row_7s, ↓x_X4_row_10, ↓x_X4_row_11, ↓x_X4_row_12, ↓x_X4_row_13, ↓x_X4_row_14, ↓x_X4_row_17, ↓x_X4_row_20, ↓x_X4_row_21, ↓x_X4_row_22, ↓x_X4_row_25, ↓x_X4_row_26, ↓x_X4_row_27, ↓x_X4_row_28, ↓x_X4_row_31, ↓x_X4_row_34, ↓x_X4_row_35, ↓x_X4_row_36, ↓x_X4_row_39, ↓x_X4_row_40, ↓x_X4_row_41, ↓x_X4_row_44, ↓x_X4_row_45, ↓x_X4_row_46, ↓x_X4_row_47, ↓x_X4_row_50, ↓x_X4_row_51, ↓x_X4_row_54, ↓x_X4_row_57, ho, hoM, ↓cKR ca, ↓cKI ch, ↓cKI cu, ↓cKI cf2, z, not_true_eq_false, not_false_eq_true, ↓reduceIte]
    · rw [if_neg (by omega)] at cu
      rw [if_pos c3]
      refine ⟨_, ?_, K_fd C0 3⟩
      simp only [↓x_X4_row_0, ↓x_X4_row_1, ↓x_X4_row_2, ↓x_X4_row_5, ↓x_X4_row_6, ↓x_X4_row_7n, ↓x_X4_row_7s, ↓x_X4_row_10, ↓x_X4_row_11, ↓x_X4_row_12, ↓x_X4_row_13, ↓x_X4_row_14, ↓x_X4_row_17, ↓x_X4_row_20, ↓x_X4_row_21, ↓x_X4_row_22, ↓x_X4_row_25, ↓x_X4_row_26, ↓x_X4_row_27, ↓x_X4_row_28, ↓x_X4_row_31, ↓x_X4_row_34, ↓x_X4_row_35, ↓x_X4_row_36, ↓x_X4_row_39, ↓x_X4_row_40, ↓x_X4_row_41, ↓x_X4_row_44, ↓x_X4_row_45, ↓x_X4_row_46, ↓x_X4_row_47, ↓x_X4_row_50, ↓x_X4_row_51, ↓x_X4_row_54, ↓x_X4_row_57, ho, hoM, ↓cKR ca, ↓cKI cu, ↓cKI cf3, not_true_eq_false, ↓reduceIte]
  · rw [if_neg c1] at ca
    rw [if_pos c1]
    refine ⟨h, ?_, C0, grow_rf⟩
    simp only [↓x_X4_row_0, ↓x_X4_row_1, ↓x_X4_row_2, ↓x_X4_row_5, ↓x_X4_row_6, ↓x_X4_row_7n, ↓x_X4_row_7s, ↓x_X4_row_10, ↓x_X4_row_11, ↓x_X4_row_12, ↓x_X4_row_13, ↓x_X4_row_14, ↓x_X4_row_17, ↓x_X4_row_20, ↓x_X4_row_21, ↓x_X4_row_22, ↓x_X4_row_25, ↓x_X4_row_26, ↓x_X4_row_27, ↓x_X4_row_28, ↓x_X4_row_31, ↓x_X4_row_34, ↓x_X4_row_35, ↓x_X4_row_36, ↓x_X4_row_39, ↓x_X4_row_40, ↓x_X4_row_41, ↓x_X4_row_44, ↓x_X4_row_45, ↓x_X4_row_46, ↓x_X4_row_47, ↓x_X4_row_50, ↓x_X4_row_51, ↓x_X4_row_54, ↓x_X4_row_57, ho, ↓cKR ca]
