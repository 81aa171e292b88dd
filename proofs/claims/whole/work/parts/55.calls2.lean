/-! ===== chance, ask, fill ===== -/
theorem WF.pay {S : SS} (F : WF S) {m s : Nat} {v : Int} (hv : -50 ≤ v ∧ v ≤ 50) : WF (ups S 2 m s 0 v) := by
  obtain ⟨F0, F1, F2⟩ := F
  refine ⟨?_, fun m' hm' => ?_, fun k hk => ?_⟩
  · rw [ups_t (by decide), ups_t (by decide), ups_t (by decide), ups_t (by decide), ups_t (by decide), ups_t (by decide)]; exact F0
  · unfold mS at hm'
    rw [ups_t (by decide)] at hm'
    obtain ⟨k0, n0, s0, hpy, hw⟩ := F1 m' hm'
    have e3 : wS (ups S 2 m s 0 v) m' = wS S m' := funext fun i => funext fun t => ups_t (by decide)
    have en : nS (ups S 2 m s 0 v) m' = nS S m' := by unfold nS; rw [ups_t (by decide)]
    rw [ups_t (by decide), ups_t (by decide), ups_t (by decide), e3, en]
    refine ⟨k0, n0, s0, fun j hj => ?_, hw⟩
    show -50 ≤ ups S 2 m s 0 v 2 m' j 0 ∧ ups S 2 m s 0 v 2 m' j 0 ≤ 50
    unfold ups
    split
    · exact hv
    · exact hpy j hj
  · unfold sS at hk
    rw [ups_t (by decide)] at hk
    rw [ups_t (by decide), ups_t (by decide), ups_t (by decide)]
    exact F2 k hk
def o_chance (m s t w : Int) (S : SS) : Int × SS := if ¬ isM S m ∨ w < 0 ∨ 10 < w then (-1, S) else if S 1 m.toNat 0 0 = 2 ∨ S 1 m.toNat 0 0 = 3 then (-3, fdS S 3) else if ¬ isQ S m s ∨ ¬ isQ S m t then (-3, fdS S 2) else if sumI (wS S m.toNat s.toNat) (nS S m.toNat) - S 3 m.toNat s.toNat t.toNat + w < 1 ∨ 10 < sumI (wS S m.toNat s.toNat) (nS S m.toNat) - S 3 m.toNat s.toNat t.toNat + w then (-4, S) else (S 3 m.toNat s.toNat t.toNat, ups S 3 m.toNat s.toNat t.toNat w)
theorem CK_chance {S : SS} (F : WF S) (m s t w : Int) : CK mX4_chance [aI m, aI s, aI t, aI w] aI S (o_chance m s t w S) := by
  intro h C
  have C0 := C
  obtain ⟨G, K, mb, sb, own, P⟩ := C
  have ho : isO h 4 0 = true := isO_rd G.1.1
  have ca := c_machineAt F G P m
  have cf2 := c_fd2 C0
  have cf3 := c_fd3 C0
  have z : ¬ (1 : Int) = 0 := by decide
  unfold o_chance
  rw [e_X4_chance]
  by_cases c1 : isM S m
  · rw [if_pos c1] at ca
    by_cases c0 : w < 0 ∨ 10 < w
    · rw [if_pos (Or.inr c0)]
      refine ⟨h, ?_, C0, grow_rf⟩
      by_cases c2 : w < 0
      · simp only [↓x_X4_chance_0, ↓x_X4_chance_1, ↓x_X4_chance_2, ↓x_X4_chance_5, ↓x_X4_chance_7, ↓x_X4_chance_9n, ↓x_X4_chance_9s, ↓x_X4_chance_12, ↓x_X4_chance_14, ↓x_X4_chance_17, ↓x_X4_chance_19, ↓x_X4_chance_21, ↓x_X4_chance_24, ↓x_X4_chance_25, ↓x_X4_chance_26, ↓x_X4_chance_28, ↓x_X4_chance_29, ↓x_X4_chance_32, ↓x_X4_chance_35, ↓x_X4_chance_36, ↓x_X4_chance_37, ↓x_X4_chance_40, ↓x_X4_chance_41, ↓x_X4_chance_43, ↓x_X4_chance_44, ↓x_X4_chance_47, ↓x_X4_chance_50, ↓x_X4_chance_52, ↓x_X4_chance_53, ↓x_X4_chance_56, ↓x_X4_chance_59, ↓x_X4_chance_60, ↓x_X4_chance_61, ↓x_X4_chance_64, ↓x_X4_chance_65, ↓x_X4_chance_67, ↓x_X4_chance_68, ↓x_X4_chance_69, ↓x_X4_chance_72, ↓x_X4_chance_74, ↓x_X4_chance_76, ↓x_X4_chance_77, ↓x_X4_chance_80, ↓x_X4_chance_82, ↓x_X4_chance_83, ↓x_X4_chance_85, ↓x_X4_chance_86, ↓x_X4_chance_88, ↓x_X4_chance_90, ↓x_X4_chance_91, ↓x_X4_chance_94, ↓x_X4_chance_96, ↓x_X4_chance_98, ↓x_X4_chance_101, ↓x_X4_chance_103, ↓x_X4_chance_104, ↓x_X4_chance_106, ↓x_X4_chance_107, ↓x_X4_chance_108, ↓x_X4_chance_110, ↓x_X4_chance_113, ↓x_X4_chance_115, ho, ↓cKR ca, c2, ↓reduceIte]
      · have c3 : ¬ w ≤ 10 := by omega
        simp only [↓x_X4_chance_0, ↓x_X4_chance_1, ↓x_X4_chance_2, ↓x_X4_chance_5, ↓x_X4_chance_7, ↓x_X4_chance_9n, ↓x_X4_chance_9s, ↓x_X4_chance_12, ↓x_X4_chance_14, ↓x_X4_chance_17, ↓x_X4_chance_19, ↓x_X4_chance_21, ↓x_X4_chance_24, ↓x_X4_chance_25, ↓x_X4_chance_26, ↓x_X4_chance_28, ↓x_X4_chance_29, ↓x_X4_chance_32, ↓x_X4_chance_35, ↓x_X4_chance_36, ↓x_X4_chance_37, ↓x_X4_chance_40, ↓x_X4_chance_41, ↓x_X4_chance_43, ↓x_X4_chance_44, ↓x_X4_chance_47, ↓x_X4_chance_50, ↓x_X4_chance_52, ↓x_X4_chance_53, ↓x_X4_chance_56, ↓x_X4_chance_59, ↓x_X4_chance_60, ↓x_X4_chance_61, ↓x_X4_chance_64, ↓x_X4_chance_65, ↓x_X4_chance_67, ↓x_X4_chance_68, ↓x_X4_chance_69, ↓x_X4_chance_72, ↓x_X4_chance_74, ↓x_X4_chance_76, ↓x_X4_chance_77, ↓x_X4_chance_80, ↓x_X4_chance_82, ↓x_X4_chance_83, ↓x_X4_chance_85, ↓x_X4_chance_86, ↓x_X4_chance_88, ↓x_X4_chance_90, ↓x_X4_chance_91, ↓x_X4_chance_94, ↓x_X4_chance_96, ↓x_X4_chance_98, ↓x_X4_chance_101, ↓x_X4_chance_103, ↓x_X4_chance_104, ↓x_X4_chance_106, ↓x_X4_chance_107, ↓x_X4_chance_108, ↓x_X4_chance_110, ↓x_X4_chance_113, ↓x_X4_chance_115, ho, ↓cKR ca, c2, c3, ↓reduceIte]
    · rw [if_neg (by omega)]
      have w0 : ¬ w < 0 := by omega
      have w1 : w ≤ 10 := by omega
      have hm : m.toNat < mS S := by unfold mS; omega
      obtain ⟨p1, p2, ⟨M, ⟨wd, g5, g5'⟩, g6, g7, Fr⟩, p4⟩ := P.1 m.toNat hm
      obtain ⟨⟨k1, k2⟩, ⟨n1, n2⟩, ⟨s1, s2⟩, hpy, hw⟩ := F.2.1 m.toNat hm
      have hoM : isO h 1 (mb m.toNat) = true := isO_rd M.2.1
      have cu := c_isUnder (o := 2) M.2.1
      by_cases c2 : S 1 m.toNat 0 0 = 2 ∨ S 1 m.toNat 0 0 = 3
      · rw [if_pos (by omega)] at cu
        rw [if_pos c2]
        refine ⟨_, ?_, K_fd C0 3⟩
        simp only [↓x_X4_chance_0, ↓x_X4_chance_1, ↓x_X4_chance_2, ↓x_X4_chance_5, ↓x_X4_chance_7, ↓x_X4_chance_9n, ↓x_X4_chance_9s, ↓x_X4_chance_12, ↓x_X4_chance_14, ↓x_X4_chance_17, ↓x_X4_chance_19, ↓x_X4_chance_21, ↓x_X4_chance_24, ↓x_X4_chance_25, ↓x_X4_chance_26, ↓x_X4_chance_28, ↓x_X4_chance_29, ↓x_X4_chance_32, ↓x_X4_chance_35, ↓x_X4_chance_36, ↓x_X4_chance_37, ↓x_X4_chance_40, ↓x_X4_chance_41, ↓x_X4_chance_43, ↓x_X4_chance_44, ↓x_X4_chance_47, ↓x_X4_chance_50, ↓x_X4_chance_52, ↓x_X4_chance_53, ↓x_X4_chance_56, ↓x_X4_chance_59, ↓x_X4_chance_60, ↓x_X4_chance_61, ↓x_X4_chance_64, ↓x_X4_chance_65, ↓x_X4_chance_67, ↓x_X4_chance_68, ↓x_X4_chance_69, ↓x_X4_chance_72, ↓x_X4_chance_74, ↓x_X4_chance_76, ↓x_X4_chance_77, ↓x_X4_chance_80, ↓x_X4_chance_82, ↓x_X4_chance_83, ↓x_X4_chance_85, ↓x_X4_chance_86, ↓x_X4_chance_88, ↓x_X4_chance_90, ↓x_X4_chance_91, ↓x_X4_chance_94, ↓x_X4_chance_96, ↓x_X4_chance_98, ↓x_X4_chance_101, ↓x_X4_chance_103, ↓x_X4_chance_104, ↓x_X4_chance_106, ↓x_X4_chance_107, ↓x_X4_chance_108, ↓x_X4_chance_110, ↓x_X4_chance_113, ↓x_X4_chance_115, ho, hoM, ↓cKR ca, w0, w1, ↓cKI cu, ↓cKI cf3, z, ↓reduceIte]
      · rw [if_neg (by omega)] at cu
        rw [if_neg c2]
        have ch := has_e M n1 s
        have cg := has_e M n1 t
        by_cases c3 : isQ S m s
        · rw [if_pos c3] at ch
          by_cases c4 : isQ S m t
          · rw [if_pos c4] at cg
            rw [if_neg (by omega)]
            obtain ⟨s', rfl⟩ := Int.eq_ofNat_of_zero_le c3.1
            obtain ⟨t', rfl⟩ := Int.eq_ofNat_of_zero_le c4.1
            rw [Int.toNat_natCast, Int.toNat_natCast]
            have hs : s' < nS S m.toNat := by unfold nS; omega
            have ht : t' < nS S m.toNat := by unfold nS; omega
            have cw := c_weightAt M hs ht
            have cs := c_sumOf M hw hs
            have hb1 : 0 ≤ S 3 m.toNat s' t' ∧ S 3 m.toNat s' t' ≤ 10 := (hw s' hs).1 t' ht
            have hb2 := (hw s' hs).2
            generalize hx : sumI (wS S m.toNat s') (nS S m.toNat) = x at cs hb2 ⊢
            have e1 : w32 (x - S 3 m.toNat s' t') = x - S 3 m.toNat s' t' := by rw [w32_in] <;> omega
            have e2 : w32 (x - S 3 m.toNat s' t' + w) = x - S 3 m.toNat s' t' + w := by rw [w32_in] <;> omega
            have e0 : wS S m.toNat s' t' = S 3 m.toNat s' t' := rfl
            rw [e0] at cw
            by_cases c5 : x - S 3 m.toNat s' t' + w < 1 ∨ 10 < x - S 3 m.toNat s' t' + w
            · rw [if_pos c5]
              refine ⟨h, ?_, C0, grow_rf⟩
              by_cases c6 : x - S 3 m.toNat s' t' + w < 1
              · simp only [↓x_X4_chance_0, ↓x_X4_chance_1, ↓x_X4_chance_2, ↓x_X4_chance_5, ↓x_X4_chance_7, ↓x_X4_chance_9n, ↓x_X4_chance_9s, ↓x_X4_chance_12, ↓x_X4_chance_14, ↓x_X4_chance_17, ↓x_X4_chance_19, ↓x_X4_chance_21, ↓x_X4_chance_24, ↓x_X4_chance_25, ↓x_X4_chance_26, ↓x_X4_chance_28, ↓x_X4_chance_29, ↓x_X4_chance_32, ↓x_X4_chance_35, ↓x_X4_chance_36, ↓x_X4_chance_37, ↓x_X4_chance_40, ↓x_X4_chance_41, ↓x_X4_chance_43, ↓x_X4_chance_44, ↓x_X4_chance_47, ↓x_X4_chance_50, ↓x_X4_chance_52, ↓x_X4_chance_53, ↓x_X4_chance_56, ↓x_X4_chance_59, ↓x_X4_chance_60, ↓x_X4_chance_61, ↓x_X4_chance_64, ↓x_X4_chance_65, ↓x_X4_chance_67, ↓x_X4_chance_68, ↓x_X4_chance_69, ↓x_X4_chance_72, ↓x_X4_chance_74, ↓x_X4_chance_76, ↓x_X4_chance_77, ↓x_X4_chance_80, ↓x_X4_chance_82, ↓x_X4_chance_83, ↓x_X4_chance_85, ↓x_X4_chance_86, ↓x_X4_chance_88, ↓x_X4_chance_90, ↓x_X4_chance_91, ↓x_X4_chance_94, ↓x_X4_chance_96, ↓x_X4_chance_98, ↓x_X4_chance_101, ↓x_X4_chance_103, ↓x_X4_chance_104, ↓x_X4_chance_106, ↓x_X4_chance_107, ↓x_X4_chance_108, ↓x_X4_chance_110, ↓x_X4_chance_113, ↓x_X4_chance_115, ho, hoM, ↓cKR ca, w0, w1, ↓cKI cu, ↓cKI ch, ↓cKI cg, ↓cKI cw, ↓cKI cs, z, e1, e2, c6, not_false_eq_true, ↓reduceIte]
              · have c7 : ¬ x - S 3 m.toNat s' t' + w ≤ 10 := by omega
                simp only [↓x_X4_chance_0, ↓x_X4_chance_1, ↓x_X4_chance_2, ↓x_X4_chance_5, ↓x_X4_chance_7, ↓x_X4_chance_9n, ↓x_X4_chance_9s, ↓x_X4_chance_12, ↓x_X4_chance_14, ↓x_X4_chance_17, ↓x_X4_chance_19, ↓x_X4_chance_21, ↓x_X4_chance_24, ↓x_X4_chance_25, ↓x_X4_chance_26, ↓x_X4_chance_28, ↓x_X4_chance_29, ↓x_X4_chance_32, ↓x_X4_chance_35, ↓x_X4_chance_36, ↓x_X4_chance_37, ↓x_X4_chance_40, ↓x_X4_chance_41, ↓x_X4_chance_43, ↓x_X4_chance_44, ↓x_X4_chance_47, ↓x_X4_chance_50, ↓x_X4_chance_52, ↓x_X4_chance_53, ↓x_X4_chance_56, ↓x_X4_chance_59, ↓x_X4_chance_60, ↓x_X4_chance_61, ↓x_X4_chance_64, ↓x_X4_chance_65, ↓x_X4_chance_67, ↓x_X4_chance_68, ↓x_X4_chance_69, ↓x_X4_chance_72, ↓x_X4_chance_74, ↓x_X4_chance_76, ↓x_X4_chance_77, ↓x_X4_chance_80, ↓x_X4_chance_82, ↓x_X4_chance_83, ↓x_X4_chance_85, ↓x_X4_chance_86, ↓x_X4_chance_88, ↓x_X4_chance_90, ↓x_X4_chance_91, ↓x_X4_chance_94, ↓x_X4_chance_96, ↓x_X4_chance_98, ↓x_X4_chance_101, ↓x_X4_chance_103, ↓x_X4_chance_104, ↓x_X4_chance_106, ↓x_X4_chance_107, ↓x_X4_chance_108, ↓x_X4_chance_110, ↓x_X4_chance_113, ↓x_X4_chance_115, ho, hoM, ↓cKR ca, w0, w1, ↓cKI cu, ↓cKI ch, ↓cKI cg, ↓cKI cw, ↓cKI cs, z, e1, e2, c6, c7, not_false_eq_true, ↓reduceIte]
            · rw [if_neg c5]
              have c6 : ¬ x - S 3 m.toNat s' t' + w < 1 := by omega
              have c7 : x - S 3 m.toNat s' t' + w ≤ 10 := by omega
              have cp := c_setWeight (v := w) M g5 hs ht
              refine ⟨_, ?_, (wM_weight F G K P hm hs ht w).ci, (⟨by rw [wr_len, wr_len]; omega, by rw [wr_slt, wr_slt]; omega⟩ : grow h _)⟩
              simp only [↓x_X4_chance_0, ↓x_X4_chance_1, ↓x_X4_chance_2, ↓x_X4_chance_5, ↓x_X4_chance_7, ↓x_X4_chance_9n, ↓x_X4_chance_9s, ↓x_X4_chance_12, ↓x_X4_chance_14, ↓x_X4_chance_17, ↓x_X4_chance_19, ↓x_X4_chance_21, ↓x_X4_chance_24, ↓x_X4_chance_25, ↓x_X4_chance_26, ↓x_X4_chance_28, ↓x_X4_chance_29, ↓x_X4_chance_32, ↓x_X4_chance_35, ↓x_X4_chance_36, ↓x_X4_chance_37, ↓x_X4_chance_40, ↓x_X4_chance_41, ↓x_X4_chance_43, ↓x_X4_chance_44, ↓x_X4_chance_47, ↓x_X4_chance_50, ↓x_X4_chance_52, ↓x_X4_chance_53, ↓x_X4_chance_56, ↓x_X4_chance_59, ↓x_X4_chance_60, ↓x_X4_chance_61, ↓x_X4_chance_64, ↓x_X4_chance_65, ↓x_X4_chance_67, ↓x_X4_chance_68, ↓x_X4_chance_69, ↓x_X4_chance_72, ↓x_X4_chance_74, ↓x_X4_chance_76, ↓x_X4_chance_77, ↓x_X4_chance_80, ↓x_X4_chance_82, ↓x_X4_chance_83, ↓x_X4_chance_85, ↓x_X4_chance_86, ↓x_X4_chance_88, ↓x_X4_chance_90, ↓x_X4_chance_91, ↓x_X4_chance_94, ↓x_X4_chance_96, ↓x_X4_chance_98, ↓x_X4_chance_101, ↓x_X4_chance_103, ↓x_X4_chance_104, ↓x_X4_chance_106, ↓x_X4_chance_107, ↓x_X4_chance_108, ↓x_X4_chance_110, ↓x_X4_chance_113, ↓x_X4_chance_115, ho, hoM, ↓cKR ca, w0, w1, ↓cKI cu, ↓cKI ch, ↓cKI cg, ↓cKI cw, ↓cKI cs, ↓cKV cp, z, e1, e2, c6, c7, not_false_eq_true, ↓reduceIte]
          · rw [if_neg c4] at cg
            rw [if_pos (Or.inr c4)]
            refine ⟨_, ?_, K_fd C0 2⟩
            simp only [↓x_X4_chance_0, ↓x_X4_chance_1, ↓x_X4_chance_2, ↓x_X4_chance_5, ↓x_X4_chance_7, ↓x_X4_chance_9n, ↓x_X4_chance_9s, ↓x_X4_chance_12, ↓x_X4_chance_14, ↓x_X4_chance_17, ↓x_X4_chance_19, ↓x_X4_chance_21, ↓x_X4_chance_24, ↓x_X4_chance_25, ↓x_X4_chance_26, ↓x_X4_chance_28, ↓x_X4_chance_29, ↓x_X4_chance_32, ↓x_X4_chance_35, ↓x_X4_chance_36, ↓x_X4_chance_37, ↓x_X4_chance_40, ↓x_X4_chance_41, ↓x_X4_chance_43, ↓x_X4_chance_44, ↓x_X4_chance_47, ↓x_X4_chance_50, ↓x_X4_chance_52, ↓x_X4_chance_53, ↓x_X4_chance_56, ↓x_X4_chance_59, ↓x_X4_chance_60, ↓x_X4_chance_61, ↓x_X4_chance_64, ↓x_X4_chance_65, ↓x_X4_chance_67, ↓x_X4_chance_68, ↓x_X4_chance_69, ↓x_X4_chance_72, ↓x_X4_chance_74, ↓x_X4_chance_76, ↓x_X4_chance_77, ↓x_X4_chance_80, ↓x_X4_chance_82, ↓x_X4_chance_83, ↓x_X4_chance_85, ↓x_X4_chance_86, ↓x_X4_chance_88, ↓x_X4_chance_90, ↓x_X4_chance_91, ↓x_X4_chance_94, ↓x_X4_chance_96, ↓x_X4_chance_98, ↓x_X4_chance_101, ↓x_X4_chance_103, ↓x_X4_chance_104, ↓x_X4_chance_106, ↓x_X4_chance_107, ↓x_X4_chance_108, ↓x_X4_chance_110, ↓x_X4_chance_113, ↓x_X4_chance_115, ho, hoM, ↓cKR ca, w0, w1, ↓cKI cu, ↓cKI ch, ↓cKI cg, ↓cKI cf2, z, not_true_eq_false, not_false_eq_true, ↓reduceIte]
        · rw [if_neg c3] at ch
          rw [if_pos (Or.inl c3)]
          refine ⟨_, ?_, K_fd C0 2⟩
          simp only [↓x_X4_chance_0, ↓x_X4_chance_1, ↓x_X4_chance_2, ↓x_X4_chance_5, ↓x_X4_chance_7, ↓x_X4_chance_9n, ↓x_X4_chance_9s, ↓x_X4_chance_12, ↓x_X4_chance_14, ↓x_X4_chance_17, ↓x_X4_chance_19, ↓x_X4_chance_21, ↓x_X4_chance_24, ↓x_X4_chance_25, ↓x_X4_chance_26, ↓x_X4_chance_28, ↓x_X4_chance_29, ↓x_X4_chance_32, ↓x_X4_chance_35, ↓x_X4_chance_36, ↓x_X4_chance_37, ↓x_X4_chance_40, ↓x_X4_chance_41, ↓x_X4_chance_43, ↓x_X4_chance_44, ↓x_X4_chance_47, ↓x_X4_chance_50, ↓x_X4_chance_52, ↓x_X4_chance_53, ↓x_X4_chance_56, ↓x_X4_chance_59, ↓x_X4_chance_60, ↓x_X4_chance_61, ↓x_X4_chance_64, ↓x_X4_chance_65, ↓x_X4_chance_67, ↓x_X4_chance_68, ↓x_X4_chance_69, ↓x_X4_chance_72, ↓x_X4_chance_74, ↓x_X4_chance_76, ↓x_X4_chance_77, ↓x_X4_chance_80, ↓x_X4_chance_82, ↓x_X4_chance_83, ↓x_X4_chance_85, ↓x_X4_chance_86, ↓x_X4_chance_88, ↓x_X4_chance_90, ↓x_X4_chance_91, ↓x_X4_chance_94, ↓x_X4_chance_96, ↓x_X4_chance_98, ↓x_X4_chance_101, ↓x_X4_chance_103, ↓x_X4_chance_104, ↓x_X4_chance_106, ↓x_X4_chance_107, ↓x_X4_chance_108, ↓x_X4_chance_110, ↓x_X4_chance_113, ↓x_X4_chance_115, ho, hoM, ↓cKR ca, w0, w1, ↓cKI cu, ↓cKI ch, ↓cKI cf2, z, not_true_eq_false, not_false_eq_true, ↓reduceIte]
  · rw [if_neg c1] at ca
    rw [if_pos (Or.inl c1)]
    refine ⟨h, ?_, C0, grow_rf⟩
    simp only [↓x_X4_chance_0, ↓x_X4_chance_1, ↓x_X4_chance_2, ↓x_X4_chance_5, ↓x_X4_chance_7, ↓x_X4_chance_9n, ↓x_X4_chance_9s, ↓x_X4_chance_12, ↓x_X4_chance_14, ↓x_X4_chance_17, ↓x_X4_chance_19, ↓x_X4_chance_21, ↓x_X4_chance_24, ↓x_X4_chance_25, ↓x_X4_chance_26, ↓x_X4_chance_28, ↓x_X4_chance_29, ↓x_X4_chance_32, ↓x_X4_chance_35, ↓x_X4_chance_36, ↓x_X4_chance_37, ↓x_X4_chance_40, ↓x_X4_chance_41, ↓x_X4_chance_43, ↓x_X4_chance_44, ↓x_X4_chance_47, ↓x_X4_chance_50, ↓x_X4_chance_52, ↓x_X4_chance_53, ↓x_X4_chance_56, ↓x_X4_chance_59, ↓x_X4_chance_60, ↓x_X4_chance_61, ↓x_X4_chance_64, ↓x_X4_chance_65, ↓x_X4_chance_67, ↓x_X4_chance_68, ↓x_X4_chance_69, ↓x_X4_chance_72, ↓x_X4_chance_74, ↓x_X4_chance_76, ↓x_X4_chance_77, ↓x_X4_chance_80, ↓x_X4_chance_82, ↓x_X4_chance_83, ↓x_X4_chance_85, ↓x_X4_chance_86, ↓x_X4_chance_88, ↓x_X4_chance_90, ↓x_X4_chance_91, ↓x_X4_chance_94, ↓x_X4_chance_96, ↓x_X4_chance_98, ↓x_X4_chance_101, ↓x_X4_chance_103, ↓x_X4_chance_104, ↓x_X4_chance_106, ↓x_X4_chance_107, ↓x_X4_chance_108, ↓x_X4_chance_110, ↓x_X4_chance_113, ↓x_X4_chance_115, ho, ↓cKR ca]
def o_ask (m s k : Int) (S : SS) : Int × SS := if ¬ isM S m then (-1, S) else if ¬ isQ S m s then (-3, fdS S 2) else if k < 0 ∨ S 1 m.toNat 1 0 < k then (-1, S) else (1, ups S 0 13 0 0 (if k = 0 then S 2 m.toNat s.toNat 0 else S 3 m.toNat s.toNat (k - 1).toNat))
theorem CK_ask {S : SS} (F : WF S) (m s k : Int) : CK mX4_ask [aI m, aI s, aI k] aI S (o_ask m s k S) := by
  intro h C
  have C0 := C
  obtain ⟨G, K, mb, sb, own, P⟩ := C
  have ho : isO h 4 0 = true := isO_rd G.1.1
  have ca := c_machineAt F G P m
  have cf2 := c_fd2 C0
  have z : ¬ (1 : Int) = 0 := by decide
  unfold o_ask
  rw [e_X4_ask]
  by_cases c1 : isM S m
  · rw [if_pos c1] at ca
    rw [if_neg (not_not_intro c1)]
    have hm : m.toNat < mS S := by unfold mS; omega
    obtain ⟨p1, p2, ⟨M, ⟨wd, g5, g5'⟩, g6, g7, Fr⟩, p4⟩ := P.1 m.toNat hm
    obtain ⟨⟨k1, k2⟩, ⟨n1, n2⟩, ⟨s1, s2⟩, hpy, hw⟩ := F.2.1 m.toNat hm
    have en : ((nS S m.toNat : Nat) : Int) = S 1 m.toNat 1 0 := by unfold nS; omega
    have hoM : isO h 1 (mb m.toNat) = true := isO_rd M.2.1
    have ch := has_e M n1 s
    have g1 := M.2.2.1
    rw [en] at g1
    by_cases c2 : isQ S m s
    · rw [if_pos c2] at ch
      rw [if_neg (not_not_intro c2)]
      by_cases c3 : k < 0 ∨ S 1 m.toNat 1 0 < k
      · rw [if_pos c3]
        refine ⟨h, ?_, C0, grow_rf⟩
        by_cases c4 : k < 0
        · simp only [↓x_X4_ask_0, ↓x_X4_ask_1, ↓x_X4_ask_2, ↓x_X4_ask_5, ↓x_X4_ask_7, ↓x_X4_ask_9n, ↓x_X4_ask_9s, ↓x_X4_ask_12, ↓x_X4_ask_13, ↓x_X4_ask_14, ↓x_X4_ask_16, ↓x_X4_ask_17, ↓x_X4_ask_20, ↓x_X4_ask_23, ↓x_X4_ask_24, ↓x_X4_ask_25, ↓x_X4_ask_28, ↓x_X4_ask_29, ↓x_X4_ask_30, ↓x_X4_ask_33, ↓x_X4_ask_34, ↓x_X4_ask_36, ↓x_X4_ask_39, ↓x_X4_ask_42, ↓x_X4_ask_43, ↓x_X4_ask_44, ↓x_X4_ask_45, ↓x_X4_ask_46, ↓x_X4_ask_49, ↓x_X4_ask_51, ↓x_X4_ask_52, ↓x_X4_ask_55, ↓x_X4_ask_56, ↓x_X4_ask_59, ↓x_X4_ask_61, ↓x_X4_ask_62, ↓x_X4_ask_63, ↓x_X4_ask_64, ↓x_X4_ask_65, ↓x_X4_ask_68, ↓x_X4_ask_69, ↓x_X4_ask_72, ↓x_X4_ask_73, ho, hoM, ↓cKR ca, ↓cKI ch, z, c4, not_false_eq_true, ↓reduceIte]
        · have c5 : ¬ k ≤ S 1 m.toNat 1 0 := by omega
          simp only [↓x_X4_ask_0, ↓x_X4_ask_1, ↓x_X4_ask_2, ↓x_X4_ask_5, ↓x_X4_ask_7, ↓x_X4_ask_9n, ↓x_X4_ask_9s, ↓x_X4_ask_12, ↓x_X4_ask_13, ↓x_X4_ask_14, ↓x_X4_ask_16, ↓x_X4_ask_17, ↓x_X4_ask_20, ↓x_X4_ask_23, ↓x_X4_ask_24, ↓x_X4_ask_25, ↓x_X4_ask_28, ↓x_X4_ask_29, ↓x_X4_ask_30, ↓x_X4_ask_33, ↓x_X4_ask_34, ↓x_X4_ask_36, ↓x_X4_ask_39, ↓x_X4_ask_42, ↓x_X4_ask_43, ↓x_X4_ask_44, ↓x_X4_ask_45, ↓x_X4_ask_46, ↓x_X4_ask_49, ↓x_X4_ask_51, ↓x_X4_ask_52, ↓x_X4_ask_55, ↓x_X4_ask_56, ↓x_X4_ask_59, ↓x_X4_ask_61, ↓x_X4_ask_62, ↓x_X4_ask_63, ↓x_X4_ask_64, ↓x_X4_ask_65, ↓x_X4_ask_68, ↓x_X4_ask_69, ↓x_X4_ask_72, ↓x_X4_ask_73, ho, hoM, ↓cKR ca, ↓cKI ch, ↓gK_of g1, z, c4, c5, not_false_eq_true, ↓reduceIte]
      · rw [if_neg c3]
        have c4 : ¬ k < 0 := by omega
        have c5 : k ≤ S 1 m.toNat 1 0 := by omega
        have q13 := G.2.2.1 13 (by decide) (by decide)
        obtain ⟨s', rfl⟩ := Int.eq_ofNat_of_zero_le c2.1
        rw [Int.toNat_natCast]
        have hs : s' < nS S m.toNat := by unfold nS; omega
        refine ⟨_, ?_, C0.wJ (k := 13) (by decide) _, wlen⟩
        by_cases c6 : k = 0
        · subst c6
          rw [if_pos rfl]
          have ct := c_payAt M hs
          have c7 : (0 : Int) ≤ S 1 m.toNat 1 0 := by omega
          have c8 : ¬ (0 : Int) < 0 := by decide
          simp only [↓x_X4_ask_0, ↓x_X4_ask_1, ↓x_X4_ask_2, ↓x_X4_ask_5, ↓x_X4_ask_7, ↓x_X4_ask_9n, ↓x_X4_ask_9s, ↓x_X4_ask_12, ↓x_X4_ask_13, ↓x_X4_ask_14, ↓x_X4_ask_16, ↓x_X4_ask_17, ↓x_X4_ask_20, ↓x_X4_ask_23, ↓x_X4_ask_24, ↓x_X4_ask_25, ↓x_X4_ask_28, ↓x_X4_ask_29, ↓x_X4_ask_30, ↓x_X4_ask_33, ↓x_X4_ask_34, ↓x_X4_ask_36, ↓x_X4_ask_39, ↓x_X4_ask_42, ↓x_X4_ask_43, ↓x_X4_ask_44, ↓x_X4_ask_45, ↓x_X4_ask_46, ↓x_X4_ask_49, ↓x_X4_ask_51, ↓x_X4_ask_52, ↓x_X4_ask_55, ↓x_X4_ask_56, ↓x_X4_ask_59, ↓x_X4_ask_61, ↓x_X4_ask_62, ↓x_X4_ask_63, ↓x_X4_ask_64, ↓x_X4_ask_65, ↓x_X4_ask_68, ↓x_X4_ask_69, ↓x_X4_ask_72, ↓x_X4_ask_73, ho, hoM, ↓cKR ca, ↓cKI ch, ↓gK_of g1, z, c7, c8, ↓cKI ct, ↓pK_of q13, not_false_eq_true, not_true_eq_false, ↓reduceIte]
        · rw [if_neg c6]
          obtain ⟨k', hk'⟩ := Int.eq_ofNat_of_zero_le (show 0 ≤ k - 1 by omega)
          have e1 : w32 (k - 1) = ((k' : Nat) : Int) := by rw [w32_in] <;> omega
          have ht : k' < nS S m.toNat := by unfold nS; omega
          have cw := c_weightAt M hs ht
          rw [hk', Int.toNat_natCast]
          simp only [↓x_X4_ask_0, ↓x_X4_ask_1, ↓x_X4_ask_2, ↓x_X4_ask_5, ↓x_X4_ask_7, ↓x_X4_ask_9n, ↓x_X4_ask_9s, ↓x_X4_ask_12, ↓x_X4_ask_13, ↓x_X4_ask_14, ↓x_X4_ask_16, ↓x_X4_ask_17, ↓x_X4_ask_20, ↓x_X4_ask_23, ↓x_X4_ask_24, ↓x_X4_ask_25, ↓x_X4_ask_28, ↓x_X4_ask_29, ↓x_X4_ask_30, ↓x_X4_ask_33, ↓x_X4_ask_34, ↓x_X4_ask_36, ↓x_X4_ask_39, ↓x_X4_ask_42, ↓x_X4_ask_43, ↓x_X4_ask_44, ↓x_X4_ask_45, ↓x_X4_ask_46, ↓x_X4_ask_49, ↓x_X4_ask_51, ↓x_X4_ask_52, ↓x_X4_ask_55, ↓x_X4_ask_56, ↓x_X4_ask_59, ↓x_X4_ask_61, ↓x_X4_ask_62, ↓x_X4_ask_63, ↓x_X4_ask_64, ↓x_X4_ask_68, ↓x_X4_ask_69, ↓x_X4_ask_72, ↓x_X4_ask_73, ho, hoM, ↓cKR ca, ↓cKI ch, ↓gK_of g1, z, c4, c5, c6, e1, not_false_eq_true, ↓reduceIte]
          simp only [↓x_X4_ask_0, ↓x_X4_ask_1, ↓x_X4_ask_2, ↓x_X4_ask_5, ↓x_X4_ask_7, ↓x_X4_ask_9n, ↓x_X4_ask_9s, ↓x_X4_ask_12, ↓x_X4_ask_13, ↓x_X4_ask_14, ↓x_X4_ask_16, ↓x_X4_ask_17, ↓x_X4_ask_20, ↓x_X4_ask_23, ↓x_X4_ask_24, ↓x_X4_ask_25, ↓x_X4_ask_28, ↓x_X4_ask_29, ↓x_X4_ask_30, ↓x_X4_ask_33, ↓x_X4_ask_34, ↓x_X4_ask_36, ↓x_X4_ask_39, ↓x_X4_ask_42, ↓x_X4_ask_43, ↓x_X4_ask_44, ↓x_X4_ask_45, ↓x_X4_ask_46, ↓x_X4_ask_49, ↓x_X4_ask_51, ↓x_X4_ask_52, ↓x_X4_ask_55, ↓x_X4_ask_56, ↓x_X4_ask_59, ↓x_X4_ask_61, ↓x_X4_ask_62, ↓x_X4_ask_63, ↓x_X4_ask_64, ↓x_X4_ask_65, ↓x_X4_ask_68, ↓x_X4_ask_69, ↓x_X4_ask_72, ↓x_X4_ask_73, hoM, ↓cKI cw, ↓pK_of q13]
    · rw [if_neg c2] at ch
      rw [if_pos c2]
      refine ⟨_, ?_, K_fd C0 2⟩
      simp only [↓x_X4_ask_0, ↓x_X4_ask_1, ↓x_X4_ask_2, ↓x_X4_ask_5, ↓x_X4_ask_7, ↓x_X4_ask_9n, ↓x_X4_ask_9s, ↓x_X4_ask_12, ↓x_X4_ask_13, ↓x_X4_ask_14, ↓x_X4_ask_16, ↓x_X4_ask_17, ↓x_X4_ask_20, ↓x_X4_ask_23, ↓x_X4_ask_24, ↓x_X4_ask_25, ↓x_X4_ask_28, ↓x_X4_ask_29, ↓x_X4_ask_30, ↓x_X4_ask_33, ↓x_X4_ask_34, ↓x_X4_ask_36, ↓x_X4_ask_39, ↓x_X4_ask_42, ↓x_X4_ask_43, ↓x_X4_ask_44, ↓x_X4_ask_45, ↓x_X4_ask_46, ↓x_X4_ask_49, ↓x_X4_ask_51, ↓x_X4_ask_52, ↓x_X4_ask_55, ↓x_X4_ask_56, ↓x_X4_ask_59, ↓x_X4_ask_61, ↓x_X4_ask_62, ↓x_X4_ask_63, ↓x_X4_ask_64, ↓x_X4_ask_65, ↓x_X4_ask_68, ↓x_X4_ask_69, ↓x_X4_ask_72, ↓x_X4_ask_73, ho, hoM, ↓cKR ca, ↓cKI ch, ↓cKI cf2, not_true_eq_false, ↓reduceIte]
  · rw [if_neg c1] at ca
    rw [if_pos c1]
    refine ⟨h, ?_, C0, grow_rf⟩
    simp only [↓x_X4_ask_0, ↓x_X4_ask_1, ↓x_X4_ask_2, ↓x_X4_ask_5, ↓x_X4_ask_7, ↓x_X4_ask_9n, ↓x_X4_ask_9s, ↓x_X4_ask_12, ↓x_X4_ask_13, ↓x_X4_ask_14, ↓x_X4_ask_16, ↓x_X4_ask_17, ↓x_X4_ask_20, ↓x_X4_ask_23, ↓x_X4_ask_24, ↓x_X4_ask_25, ↓x_X4_ask_28, ↓x_X4_ask_29, ↓x_X4_ask_30, ↓x_X4_ask_33, ↓x_X4_ask_34, ↓x_X4_ask_36, ↓x_X4_ask_39, ↓x_X4_ask_42, ↓x_X4_ask_43, ↓x_X4_ask_44, ↓x_X4_ask_45, ↓x_X4_ask_46, ↓x_X4_ask_49, ↓x_X4_ask_51, ↓x_X4_ask_52, ↓x_X4_ask_55, ↓x_X4_ask_56, ↓x_X4_ask_59, ↓x_X4_ask_61, ↓x_X4_ask_62, ↓x_X4_ask_63, ↓x_X4_ask_64, ↓x_X4_ask_65, ↓x_X4_ask_68, ↓x_X4_ask_69, ↓x_X4_ask_72, ↓x_X4_ask_73, ho, ↓cKR ca]
