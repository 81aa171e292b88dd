/-! ===== the reference: row, goes, least, order, best ===== -/
section R7
variable {S : SS} {m : Nat}
theorem vR_is (F : WF S) (hm : m < mS S) {s : Nat} (hs : s < nS S m) (set : Nat) : IsV (nS S m) (rAl (qS S) (nS S m) (wS S m)) (rW (pS S) (wS S m)) (rPy (pyS S m)) s (Nat.testBit set) (vR S m s set) := by
  obtain ⟨hn, en, hpy, hw⟩ := F.m hm
  obtain ⟨hpq, ep, eq⟩ := F.pq
  obtain ⟨r, hr⟩ := exV (sysR hw ⟨hpq.1, hpq.2.1⟩ (n := nS S m)) (rPy (pyS S m)) hs (Nat.testBit set)
  rw [vR_eq F hm hs hr]
  exact hr
theorem w_sN {s N : Nat} (h : s ≤ 100) (h2 : N ≤ 100) : w32 ((s : Int) + ((N + 1 : Nat) : Int)) = ((s + N + 1 : Nat) : Int) ∧ w32 (((s + N + 1 : Nat) : Int) - 1) = ((s + N : Nat) : Int) := ⟨by rw [w32_in] <;> omega, by rw [w32_in] <;> omega⟩
theorem lr_row (F : WF S) (hm : m < mS S) {s : Nat} (hs : s < nS S m) : ∀ (d N : Nat) (h : AH) (set L : Nat) (a b : Int), s + N + d = nS S m → set < 32 → (∀ t, Nat.testBit set t = rowT s N t) → RB0 S h → ((N = 0 ∧ L = 0) ∨ ∃ la, a = la.num ∧ b = (la.den : Int) ∧ RBr la ∧ IsRow (nS S m) (rAl (qS S) (nS S m) (wS S m)) (rW (pS S) (wS S m)) (rPy (pyS S m)) s N L la) →
    ∃ h' L' la, X mX5_row 53 [aR (some 0), aI m, aI s, aI L, aJ a, aU, aJ b, aU, aI set, aI (N + 1 : Nat)] [] h = some (some (aI (L' : Nat)), h') ∧ RB0 S h' ∧ Sc h h' ∧ IsRow (nS S m) (rAl (qS S) (nS S m) (wS S m)) (rW (pS S) (wS S m)) (rPy (pyS S m)) s (nS S m - s) L' la := by
  obtain ⟨hn, en, hpy, hw⟩ := F.m hm
  obtain ⟨hpq, ep, eq⟩ := F.pq
  have sy := sysR hw ⟨hpq.1, hpq.2.1⟩ (n := nS S m)
  have m0 : (0 : Int) ≤ (m : Int) := Int.natCast_nonneg _
  intro d
  induction d with
  | zero =>
    intro N h set L a b hd hset hT H B
    have e : s + N = nS S m := by omega
    have q12 := H.f 12 rfl
    have q7 := H.r7 hm
    rw [← en] at q7
    rcases B with ⟨b1, b2⟩ | ⟨la, b1, b2, b3, b4⟩
    · omega
    · refine ⟨h, L, la, ?_, H, Sc.rf, by rw [show nS S m - s = N by omega]; exact b4⟩
      have n1 : ((nS S m : Nat) : Int) < ((s + N + 1 : Nat) : Int) := by omega
      obtain ⟨w1, w2⟩ := w_sN (s := s) (N := N) (by omega) (by omega)
      rw [x_X5_row_53]
      simp only [↓x_X5_row_0, ↓x_X5_row_1, ↓x_X5_row_2, ↓x_X5_row_5, ↓x_X5_row_8, ↓x_X5_row_9, ↓x_X5_row_10, ↓x_X5_row_11, ↓x_X5_row_12, ↓x_X5_row_15, ↓x_X5_row_18, ↓x_X5_row_19, ↓x_X5_row_20, ↓x_X5_row_23, ↓x_X5_row_24, ↓x_X5_row_25, ↓x_X5_row_26, ↓x_X5_row_27, ↓x_X5_row_30, ↓x_X5_row_33, ↓x_X5_row_34, ↓x_X5_row_35, ↓x_X5_row_38, ↓x_X5_row_39, ↓x_X5_row_40, ↓x_X5_row_41, ↓x_X5_row_42, ↓x_X5_row_44, ↓x_X5_row_45, ↓x_X5_row_47, ↓x_X5_row_48, ↓x_X5_row_50, ↓x_X5_row_51, ↓x_X5_row_54, ↓x_X5_row_56, ↓x_X5_row_57, ↓x_X5_row_58, ↓x_X5_row_61, ↓x_X5_row_62, ↓x_X5_row_63, ↓x_X5_row_66, ↓x_X5_row_68, ↓x_X5_row_69, ↓x_X5_row_70, ↓x_X5_row_72, ↓x_X5_row_73, ↓x_X5_row_74, ↓x_X5_row_75, ↓x_X5_row_76, ↓x_X5_row_77, ↓x_X5_row_79, ↓x_X5_row_80, ↓x_X5_row_81, ↓x_X5_row_82, ↓x_X5_row_84, ↓x_X5_row_87, ↓x_X5_row_88, ↓x_X5_row_91, ↓x_X5_row_92, ↓x_X5_row_95, ↓x_X5_row_96, ↓x_X5_row_99, ↓x_X5_row_101, ↓x_X5_row_103, ↓x_X5_row_106, ↓x_X5_row_109, ↓x_X5_row_111, ↓x_X5_row_112, ↓x_X5_row_113, ↓x_X5_row_116, ↓x_X5_row_118, ↓x_X5_row_119, ↓x_X5_row_122, ↓x_X5_row_124, ↓x_X5_row_127, ↓x_X5_row_130, ↓x_X5_row_131, w1, ↓gK_of q12, m0, Int.toNat_natCast, gK_of q7, n1, ↓reduceIte]
  | succ d ih =>
    intro N h set L a b hd hset hT H B
    have q12 := H.f 12 rfl
    have q7 := H.r7 hm
    rw [← en] at q7
    have ho : isO h 5 0 = true := isO_rd (H.f 4 rfl)
    have n1 : ¬ ((nS S m : Nat) : Int) < ((s + N + 1 : Nat) : Int) := by omega
    have hN5 : N + 1 ≤ 1000 := by omega
    have eo := bit_or set hset (s + N) (by omega)
    have hset' := bit_add set hset (s + N) (by omega)
    have hT' := rowT_next hT
    obtain ⟨h1, g1, g2, g3, g4, g5⟩ := c_value F hm hs hset' H
    have gv := (vR_is F hm hs (set ||| 1 <<< (s + N))).congr (T' := rowT s (N + 1)) fun u _ => hT' u
    have hu : ∀ r', IsV (nS S m) (rAl (qS S) (nS S m) (wS S m)) (rW (pS S) (wS S m)) (rPy (pyS S m)) s (rowT s (N + 1)) r' → r' = vR S m s (set ||| 1 <<< (s + N)) := fun r' h' => IsV.uniq sy hs h' gv
    generalize hr : vR S m s (set ||| 1 <<< (s + N)) = r at *
    have ws := w_sN (s := s) (N := N) (by omega) (by omega)
    have st : X mX5_row 53 [aR (some 0), aI m, aI s, aI L, aJ a, aU, aJ b, aU, aI set, aI (N + 1 : Nat)] [] h = X mX5_row 87 [aR (some 0), aI m, aI s, aI L, aJ a, aU, aJ b, aU, aI (set ||| 1 <<< (s + N) : Nat), aI (N + 1 : Nat)] [] h1 := by
      rw [x_X5_row_53]
      simp only [↓x_X5_row_0, ↓x_X5_row_1, ↓x_X5_row_2, ↓x_X5_row_5, ↓x_X5_row_8, ↓x_X5_row_9, ↓x_X5_row_10, ↓x_X5_row_11, ↓x_X5_row_12, ↓x_X5_row_15, ↓x_X5_row_18, ↓x_X5_row_19, ↓x_X5_row_20, ↓x_X5_row_23, ↓x_X5_row_24, ↓x_X5_row_25, ↓x_X5_row_26, ↓x_X5_row_27, ↓x_X5_row_30, ↓x_X5_row_33, ↓x_X5_row_34, ↓x_X5_row_35, ↓x_X5_row_38, ↓x_X5_row_39, ↓x_X5_row_40, ↓x_X5_row_41, ↓x_X5_row_42, ↓x_X5_row_44, ↓x_X5_row_45, ↓x_X5_row_47, ↓x_X5_row_48, ↓x_X5_row_50, ↓x_X5_row_51, ↓x_X5_row_54, ↓x_X5_row_56, ↓x_X5_row_57, ↓x_X5_row_58, ↓x_X5_row_61, ↓x_X5_row_62, ↓x_X5_row_63, ↓x_X5_row_66, ↓x_X5_row_68, ↓x_X5_row_69, ↓x_X5_row_70, ↓x_X5_row_72, ↓x_X5_row_73, ↓x_X5_row_74, ↓x_X5_row_75, ↓x_X5_row_76, ↓x_X5_row_77, ↓x_X5_row_79, ↓x_X5_row_80, ↓x_X5_row_81, ↓x_X5_row_82, ↓x_X5_row_88, ↓x_X5_row_91, ↓x_X5_row_92, ↓x_X5_row_95, ↓x_X5_row_96, ↓x_X5_row_99, ↓x_X5_row_101, ↓x_X5_row_103, ↓x_X5_row_106, ↓x_X5_row_109, ↓x_X5_row_111, ↓x_X5_row_112, ↓x_X5_row_113, ↓x_X5_row_116, ↓x_X5_row_118, ↓x_X5_row_119, ↓x_X5_row_122, ↓x_X5_row_124, ↓x_X5_row_127, ↓x_X5_row_130, ↓x_X5_row_131, ws.1, ws.2, ↓gK_of q12, m0, Int.toNat_natCast, gK_of q7, n1, eo, ↓reduceIte]
      simp only [↓x_X5_row_0, ↓x_X5_row_1, ↓x_X5_row_2, ↓x_X5_row_5, ↓x_X5_row_8, ↓x_X5_row_9, ↓x_X5_row_10, ↓x_X5_row_11, ↓x_X5_row_12, ↓x_X5_row_15, ↓x_X5_row_18, ↓x_X5_row_19, ↓x_X5_row_20, ↓x_X5_row_23, ↓x_X5_row_24, ↓x_X5_row_25, ↓x_X5_row_26, ↓x_X5_row_27, ↓x_X5_row_30, ↓x_X5_row_33, ↓x_X5_row_34, ↓x_X5_row_35, ↓x_X5_row_38, ↓x_X5_row_39, ↓x_X5_row_40, ↓x_X5_row_41, ↓x_X5_row_42, ↓x_X5_row_44, ↓x_X5_row_45, ↓x_X5_row_47, ↓x_X5_row_48, ↓x_X5_row_50, ↓x_X5_row_51, ↓x_X5_row_54, ↓x_X5_row_56, ↓x_X5_row_57, ↓x_X5_row_58, ↓x_X5_row_61, ↓x_X5_row_62, ↓x_X5_row_63, ↓x_X5_row_66, ↓x_X5_row_68, ↓x_X5_row_69, ↓x_X5_row_70, ↓x_X5_row_72, ↓x_X5_row_73, ↓x_X5_row_74, ↓x_X5_row_75, ↓x_X5_row_76, ↓x_X5_row_77, ↓x_X5_row_79, ↓x_X5_row_80, ↓x_X5_row_81, ↓x_X5_row_82, ↓x_X5_row_84, ↓x_X5_row_88, ↓x_X5_row_91, ↓x_X5_row_92, ↓x_X5_row_95, ↓x_X5_row_96, ↓x_X5_row_99, ↓x_X5_row_101, ↓x_X5_row_103, ↓x_X5_row_106, ↓x_X5_row_109, ↓x_X5_row_111, ↓x_X5_row_112, ↓x_X5_row_113, ↓x_X5_row_116, ↓x_X5_row_118, ↓x_X5_row_119, ↓x_X5_row_122, ↓x_X5_row_124, ↓x_X5_row_127, ↓x_X5_row_130, ↓x_X5_row_131, ho, ↓cKV g1]
    clear ws
    rw [st]
    rcases B with ⟨b1, b2⟩ | ⟨la, b1, b2, b3, b4⟩
    · subst b1; subst b2
      obtain ⟨h', L', la', f1, f2, f3, f4⟩ := ih 1 h1 (set ||| 1 <<< (s + 0)) 1 r.num (r.den : Int) (by omega) hset' hT' g2 (Or.inr ⟨r, rfl, rfl, g5, ⟨by omega, by omega⟩, gv, fun L' r' h1 h2 h3 => by
        have e : L' = 0 + 1 := by omega
        subst e
        rw [hu r' h3]
        exact ⟨Rat.le_refl, fun z => by omega⟩⟩)
      refine ⟨h', L', la', ?_, f2, g3.tr f3, f4⟩
      refine Eq.trans ?_ f1
      have n3 : ((0 : Nat) : Int) = 0 := rfl
      simp only [↓x_X5_row_0, ↓x_X5_row_1, ↓x_X5_row_2, ↓x_X5_row_5, ↓x_X5_row_8, ↓x_X5_row_9, ↓x_X5_row_10, ↓x_X5_row_11, ↓x_X5_row_12, ↓x_X5_row_15, ↓x_X5_row_18, ↓x_X5_row_19, ↓x_X5_row_20, ↓x_X5_row_23, ↓x_X5_row_24, ↓x_X5_row_25, ↓x_X5_row_26, ↓x_X5_row_27, ↓x_X5_row_30, ↓x_X5_row_33, ↓x_X5_row_34, ↓x_X5_row_35, ↓x_X5_row_38, ↓x_X5_row_39, ↓x_X5_row_40, ↓x_X5_row_41, ↓x_X5_row_42, ↓x_X5_row_44, ↓x_X5_row_45, ↓x_X5_row_47, ↓x_X5_row_48, ↓x_X5_row_50, ↓x_X5_row_51, ↓x_X5_row_54, ↓x_X5_row_56, ↓x_X5_row_57, ↓x_X5_row_58, ↓x_X5_row_61, ↓x_X5_row_62, ↓x_X5_row_63, ↓x_X5_row_66, ↓x_X5_row_68, ↓x_X5_row_69, ↓x_X5_row_70, ↓x_X5_row_72, ↓x_X5_row_73, ↓x_X5_row_74, ↓x_X5_row_75, ↓x_X5_row_76, ↓x_X5_row_77, ↓x_X5_row_79, ↓x_X5_row_80, ↓x_X5_row_81, ↓x_X5_row_82, ↓x_X5_row_84, ↓x_X5_row_87, ↓x_X5_row_88, ↓x_X5_row_91, ↓x_X5_row_92, ↓x_X5_row_95, ↓x_X5_row_96, ↓x_X5_row_99, ↓x_X5_row_101, ↓x_X5_row_103, ↓x_X5_row_106, ↓x_X5_row_109, ↓x_X5_row_111, ↓x_X5_row_112, ↓x_X5_row_113, ↓x_X5_row_116, ↓x_X5_row_118, ↓x_X5_row_119, ↓x_X5_row_122, ↓x_X5_row_124, ↓x_X5_row_127, ↓x_X5_row_130, ↓x_X5_row_131, n3, ↓gK_of g4.1, ↓gK_of g4.2, w32_s hN5, ↓reduceIte]
    · have n3 : ¬ ((L : Int) = 0) := by have := b4.1.1; omega
      have cc := c_cmpR (h := h1) g5 b3
      subst b1; subst b2
      by_cases hlt : la < r
      · have n4 : ¬ r ≤ la := Rat.not_le.mpr hlt
        obtain ⟨h', L', la', f1, f2, f3, f4⟩ := ih (N + 1) h1 (set ||| 1 <<< (s + N)) (N + 1) r.num (r.den : Int) (by omega) hset' hT' g2 (Or.inr ⟨r, rfl, rfl, g5, ⟨by omega, by omega⟩, gv, fun L' r' h1 h2 h3 => by
          by_cases e : L' = N + 1
          · subst e
            rw [hu r' h3]
            exact ⟨Rat.le_refl, fun z => by omega⟩
          · have h4 := (b4.2.2 L' r' h1 (by omega) h3).1
            have h5 : r' < r := by grind
            exact ⟨Rat.le_of_lt h5, fun _ => h5⟩⟩)
        refine ⟨h', L', la', ?_, f2, g3.tr f3, f4⟩
        rw [← f1]
        simp only [↓x_X5_row_0, ↓x_X5_row_1, ↓x_X5_row_2, ↓x_X5_row_5, ↓x_X5_row_8, ↓x_X5_row_9, ↓x_X5_row_10, ↓x_X5_row_11, ↓x_X5_row_12, ↓x_X5_row_15, ↓x_X5_row_18, ↓x_X5_row_19, ↓x_X5_row_20, ↓x_X5_row_23, ↓x_X5_row_24, ↓x_X5_row_25, ↓x_X5_row_26, ↓x_X5_row_27, ↓x_X5_row_30, ↓x_X5_row_33, ↓x_X5_row_34, ↓x_X5_row_35, ↓x_X5_row_38, ↓x_X5_row_39, ↓x_X5_row_40, ↓x_X5_row_41, ↓x_X5_row_42, ↓x_X5_row_44, ↓x_X5_row_45, ↓x_X5_row_47, ↓x_X5_row_48, ↓x_X5_row_50, ↓x_X5_row_51, ↓x_X5_row_54, ↓x_X5_row_56, ↓x_X5_row_57, ↓x_X5_row_58, ↓x_X5_row_61, ↓x_X5_row_62, ↓x_X5_row_63, ↓x_X5_row_66, ↓x_X5_row_68, ↓x_X5_row_69, ↓x_X5_row_70, ↓x_X5_row_72, ↓x_X5_row_73, ↓x_X5_row_74, ↓x_X5_row_75, ↓x_X5_row_76, ↓x_X5_row_77, ↓x_X5_row_79, ↓x_X5_row_80, ↓x_X5_row_81, ↓x_X5_row_82, ↓x_X5_row_84, ↓x_X5_row_87, ↓x_X5_row_88, ↓x_X5_row_91, ↓x_X5_row_92, ↓x_X5_row_95, ↓x_X5_row_96, ↓x_X5_row_99, ↓x_X5_row_101, ↓x_X5_row_103, ↓x_X5_row_106, ↓x_X5_row_109, ↓x_X5_row_111, ↓x_X5_row_112, ↓x_X5_row_113, ↓x_X5_row_116, ↓x_X5_row_118, ↓x_X5_row_119, ↓x_X5_row_122, ↓x_X5_row_124, ↓x_X5_row_127, ↓x_X5_row_130, ↓x_X5_row_131, n3, ↓gK_of g4.1, ↓gK_of g4.2, ↓cKI cc, rc_le, n4, w32_s hN5, ↓reduceIte]
      · have n4 : r ≤ la := Rat.not_lt.mp hlt
        obtain ⟨h', L', la', f1, f2, f3, f4⟩ := ih (N + 1) h1 (set ||| 1 <<< (s + N)) L la.num (la.den : Int) (by omega) hset' hT' g2 (Or.inr ⟨la, rfl, rfl, b3, ⟨b4.1.1, by have := b4.1.2; omega⟩, b4.2.1, fun L' r' h1 h2 h3 => by
          by_cases e : L' = N + 1
          · subst e
            rw [hu r' h3]
            exact ⟨n4, fun z => by have := b4.1.2; omega⟩
          · exact b4.2.2 L' r' h1 (by omega) h3⟩)
        refine ⟨h', L', la', ?_, f2, g3.tr f3, f4⟩
        rw [← f1]
        simp only [↓x_X5_row_0, ↓x_X5_row_1, ↓x_X5_row_2, ↓x_X5_row_5, ↓x_X5_row_8, ↓x_X5_row_9, ↓x_X5_row_10, ↓x_X5_row_11, ↓x_X5_row_12, ↓x_X5_row_15, ↓x_X5_row_18, ↓x_X5_row_19, ↓x_X5_row_20, ↓x_X5_row_23, ↓x_X5_row_24, ↓x_X5_row_25, ↓x_X5_row_26, ↓x_X5_row_27, ↓x_X5_row_30, ↓x_X5_row_33, ↓x_X5_row_34, ↓x_X5_row_35, ↓x_X5_row_38, ↓x_X5_row_39, ↓x_X5_row_40, ↓x_X5_row_41, ↓x_X5_row_42, ↓x_X5_row_44, ↓x_X5_row_45, ↓x_X5_row_47, ↓x_X5_row_48, ↓x_X5_row_50, ↓x_X5_row_51, ↓x_X5_row_54, ↓x_X5_row_56, ↓x_X5_row_57, ↓x_X5_row_58, ↓x_X5_row_61, ↓x_X5_row_62, ↓x_X5_row_63, ↓x_X5_row_66, ↓x_X5_row_68, ↓x_X5_row_69, ↓x_X5_row_70, ↓x_X5_row_72, ↓x_X5_row_73, ↓x_X5_row_74, ↓x_X5_row_75, ↓x_X5_row_76, ↓x_X5_row_77, ↓x_X5_row_79, ↓x_X5_row_80, ↓x_X5_row_81, ↓x_X5_row_82, ↓x_X5_row_84, ↓x_X5_row_87, ↓x_X5_row_88, ↓x_X5_row_91, ↓x_X5_row_92, ↓x_X5_row_95, ↓x_X5_row_96, ↓x_X5_row_99, ↓x_X5_row_101, ↓x_X5_row_103, ↓x_X5_row_106, ↓x_X5_row_109, ↓x_X5_row_111, ↓x_X5_row_112, ↓x_X5_row_113, ↓x_X5_row_116, ↓x_X5_row_118, ↓x_X5_row_119, ↓x_X5_row_122, ↓x_X5_row_124, ↓x_X5_row_127, ↓x_X5_row_130, ↓x_X5_row_131, n3, ↓gK_of g4.1, ↓gK_of g4.2, ↓cKI cc, rc_le, n4, w32_s hN5, ↓reduceIte]
end R7
theorem CR_row {S : SS} (F : WF S) (m s : Int) : CR mX5_row [aI m, aI s] aI S (o_row m s S) := by
  intro h H
  have ho : isO h 5 0 = true := isO_rd (H.1.f 4 rfl)
  have ca := c_isMachine F H.1 m
  have cf2 := m_fd2 H.1
  have cf3 := m_fd3 H.1
  have z : ¬ (1 : Int) = 0 := by decide
  unfold o_row
  rw [e_X5_row]
  by_cases c1 : isM S m
  · rw [if_pos c1] at ca
    rw [if_neg (not_not_intro c1)]
    obtain ⟨hm, em⟩ := isM_n c1
    have cg := c_isA F H.1 c1
    obtain ⟨k1, k2⟩ := (F.2.1 m.toNat hm).1
    by_cases c3 : S 1 m.toNat 0 0 = 2 ∨ S 1 m.toNat 0 0 = 3
    · rw [if_pos (by omega)] at cg
      rw [if_neg (not_not_intro c3)]
      have cs := c_isQ F H.1 c1 s
      by_cases c2 : isQ S m s
      · rw [if_pos c2] at cs
        rw [if_neg (not_not_intro c2)]
        obtain ⟨hs, es⟩ := isQ_n F c1 c2
        obtain ⟨h', L', la, a1, a2, a3, a4⟩ := lr_row F hm hs (nS S m.toNat - s.toNat) 0 h 0 0 0 1 (by omega) (by decide) (fun t => by rw [Nat.zero_testBit]; unfold rowT; exact Bool.eq_iff_iff.mpr (by simp)) H.1 (Or.inl ⟨rfl, rfl⟩)
        rw [em, es] at a1
        rw [rwL_eq a4]
        refine ⟨h', ?_, H.sc a2 a3, a3.2⟩
        simp only [↓x_X5_row_0, ↓x_X5_row_1, ↓x_X5_row_2, ↓x_X5_row_5, ↓x_X5_row_8, ↓x_X5_row_9, ↓x_X5_row_10, ↓x_X5_row_11, ↓x_X5_row_12, ↓x_X5_row_15, ↓x_X5_row_18, ↓x_X5_row_19, ↓x_X5_row_20, ↓x_X5_row_23, ↓x_X5_row_24, ↓x_X5_row_25, ↓x_X5_row_26, ↓x_X5_row_27, ↓x_X5_row_30, ↓x_X5_row_33, ↓x_X5_row_34, ↓x_X5_row_35, ↓x_X5_row_38, ↓x_X5_row_39, ↓x_X5_row_40, ↓x_X5_row_41, ↓x_X5_row_42, ↓x_X5_row_44, ↓x_X5_row_45, ↓x_X5_row_47, ↓x_X5_row_48, ↓x_X5_row_50, ↓x_X5_row_51, ↓x_X5_row_54, ↓x_X5_row_56, ↓x_X5_row_57, ↓x_X5_row_58, ↓x_X5_row_61, ↓x_X5_row_62, ↓x_X5_row_63, ↓x_X5_row_66, ↓x_X5_row_68, ↓x_X5_row_69, ↓x_X5_row_70, ↓x_X5_row_72, ↓x_X5_row_73, ↓x_X5_row_74, ↓x_X5_row_75, ↓x_X5_row_76, ↓x_X5_row_77, ↓x_X5_row_79, ↓x_X5_row_80, ↓x_X5_row_81, ↓x_X5_row_82, ↓x_X5_row_84, ↓x_X5_row_87, ↓x_X5_row_88, ↓x_X5_row_91, ↓x_X5_row_92, ↓x_X5_row_95, ↓x_X5_row_96, ↓x_X5_row_99, ↓x_X5_row_101, ↓x_X5_row_103, ↓x_X5_row_106, ↓x_X5_row_109, ↓x_X5_row_111, ↓x_X5_row_112, ↓x_X5_row_113, ↓x_X5_row_116, ↓x_X5_row_118, ↓x_X5_row_119, ↓x_X5_row_122, ↓x_X5_row_124, ↓x_X5_row_127, ↓x_X5_row_130, ↓x_X5_row_131, ho, ↓cKI ca, z, ↓cKI cg, ↓cKI cs, not_false_eq_true, ↓reduceIte]
        exact a1
      · rw [if_neg c2] at cs
        rw [if_pos c2]
        refine ⟨_, ?_, H.mt (f := 2) (by decide)⟩
        simp only [↓x_X5_row_0, ↓x_X5_row_1, ↓x_X5_row_2, ↓x_X5_row_5, ↓x_X5_row_8, ↓x_X5_row_9, ↓x_X5_row_10, ↓x_X5_row_11, ↓x_X5_row_12, ↓x_X5_row_15, ↓x_X5_row_18, ↓x_X5_row_19, ↓x_X5_row_20, ↓x_X5_row_23, ↓x_X5_row_24, ↓x_X5_row_25, ↓x_X5_row_26, ↓x_X5_row_27, ↓x_X5_row_30, ↓x_X5_row_33, ↓x_X5_row_34, ↓x_X5_row_35, ↓x_X5_row_38, ↓x_X5_row_39, ↓x_X5_row_40, ↓x_X5_row_41, ↓x_X5_row_42, ↓x_X5_row_44, ↓x_X5_row_45, ↓x_X5_row_47, ↓x_X5_row_48, ↓x_X5_row_50, ↓x_X5_row_51, ↓x_X5_row_54, ↓x_X5_row_56, ↓x_X5_row_57, ↓x_X5_row_58, ↓x_X5_row_61, ↓x_X5_row_62, ↓x_X5_row_63, ↓x_X5_row_66, ↓x_X5_row_68, ↓x_X5_row_69, ↓x_X5_row_70, ↓x_X5_row_72, ↓x_X5_row_73, ↓x_X5_row_74, ↓x_X5_row_75, ↓x_X5_row_76, ↓x_X5_row_77, ↓x_X5_row_79, ↓x_X5_row_80, ↓x_X5_row_81, ↓x_X5_row_82, ↓x_X5_row_84, ↓x_X5_row_87, ↓x_X5_row_88, ↓x_X5_row_91, ↓x_X5_row_92, ↓x_X5_row_95, ↓x_X5_row_96, ↓x_X5_row_99, ↓x_X5_row_101, ↓x_X5_row_103, ↓x_X5_row_106, ↓x_X5_row_109, ↓x_X5_row_111, ↓x_X5_row_112, ↓x_X5_row_113, ↓x_X5_row_116, ↓x_X5_row_118, ↓x_X5_row_119, ↓x_X5_row_122, ↓x_X5_row_124, ↓x_X5_row_127, ↓x_X5_row_130, ↓x_X5_row_131, ho, ↓cKI ca, z, ↓cKI cg, ↓cKI cs, ↓cKI cf2, not_true_eq_false, not_false_eq_true, ↓reduceIte]
    · rw [if_neg (by omega)] at cg
      rw [if_pos c3]
      refine ⟨_, ?_, H.mt (f := 3) (by decide)⟩
      simp only [↓x_X5_row_0, ↓x_X5_row_1, ↓x_X5_row_2, ↓x_X5_row_5, ↓x_X5_row_8, ↓x_X5_row_9, ↓x_X5_row_10, ↓x_X5_row_11, ↓x_X5_row_12, ↓x_X5_row_15, ↓x_X5_row_18, ↓x_X5_row_19, ↓x_X5_row_20, ↓x_X5_row_23, ↓x_X5_row_24, ↓x_X5_row_25, ↓x_X5_row_26, ↓x_X5_row_27, ↓x_X5_row_30, ↓x_X5_row_33, ↓x_X5_row_34, ↓x_X5_row_35, ↓x_X5_row_38, ↓x_X5_row_39, ↓x_X5_row_40, ↓x_X5_row_41, ↓x_X5_row_42, ↓x_X5_row_44, ↓x_X5_row_45, ↓x_X5_row_47, ↓x_X5_row_48, ↓x_X5_row_50, ↓x_X5_row_51, ↓x_X5_row_54, ↓x_X5_row_56, ↓x_X5_row_57, ↓x_X5_row_58, ↓x_X5_row_61, ↓x_X5_row_62, ↓x_X5_row_63, ↓x_X5_row_66, ↓x_X5_row_68, ↓x_X5_row_69, ↓x_X5_row_70, ↓x_X5_row_72, ↓x_X5_row_73, ↓x_X5_row_74, ↓x_X5_row_75, ↓x_X5_row_76, ↓x_X5_row_77, ↓x_X5_row_79, ↓x_X5_row_80, ↓x_X5_row_81, ↓x_X5_row_82, ↓x_X5_row_84, ↓x_X5_row_87, ↓x_X5_row_88, ↓x_X5_row_91, ↓x_X5_row_92, ↓x_X5_row_95, ↓x_X5_row_96, ↓x_X5_row_99, ↓x_X5_row_101, ↓x_X5_row_103, ↓x_X5_row_106, ↓x_X5_row_109, ↓x_X5_row_111, ↓x_X5_row_112, ↓x_X5_row_113, ↓x_X5_row_116, ↓x_X5_row_118, ↓x_X5_row_119, ↓x_X5_row_122, ↓x_X5_row_124, ↓x_X5_row_127, ↓x_X5_row_130, ↓x_X5_row_131, ho, ↓cKI ca, z, ↓cKI cg, ↓cKI cf3, not_true_eq_false, not_false_eq_true, ↓reduceIte]
  · rw [if_neg c1] at ca
    rw [if_pos c1]
    refine ⟨h, ?_, H, L0.rf⟩
    simp only [↓x_X5_row_0, ↓x_X5_row_1, ↓x_X5_row_2, ↓x_X5_row_5, ↓x_X5_row_8, ↓x_X5_row_9, ↓x_X5_row_10, ↓x_X5_row_11, ↓x_X5_row_12, ↓x_X5_row_15, ↓x_X5_row_18, ↓x_X5_row_19, ↓x_X5_row_20, ↓x_X5_row_23, ↓x_X5_row_24, ↓x_X5_row_25, ↓x_X5_row_26, ↓x_X5_row_27, ↓x_X5_row_30, ↓x_X5_row_33, ↓x_X5_row_34, ↓x_X5_row_35, ↓x_X5_row_38, ↓x_X5_row_39, ↓x_X5_row_40, ↓x_X5_row_41, ↓x_X5_row_42, ↓x_X5_row_44, ↓x_X5_row_45, ↓x_X5_row_47, ↓x_X5_row_48, ↓x_X5_row_50, ↓x_X5_row_51, ↓x_X5_row_54, ↓x_X5_row_56, ↓x_X5_row_57, ↓x_X5_row_58, ↓x_X5_row_61, ↓x_X5_row_62, ↓x_X5_row_63, ↓x_X5_row_66, ↓x_X5_row_68, ↓x_X5_row_69, ↓x_X5_row_70, ↓x_X5_row_72, ↓x_X5_row_73, ↓x_X5_row_74, ↓x_X5_row_75, ↓x_X5_row_76, ↓x_X5_row_77, ↓x_X5_row_79, ↓x_X5_row_80, ↓x_X5_row_81, ↓x_X5_row_82, ↓x_X5_row_84, ↓x_X5_row_87, ↓x_X5_row_88, ↓x_X5_row_91, ↓x_X5_row_92, ↓x_X5_row_95, ↓x_X5_row_96, ↓x_X5_row_99, ↓x_X5_row_101, ↓x_X5_row_103, ↓x_X5_row_106, ↓x_X5_row_109, ↓x_X5_row_111, ↓x_X5_row_112, ↓x_X5_row_113, ↓x_X5_row_116, ↓x_X5_row_118, ↓x_X5_row_119, ↓x_X5_row_122, ↓x_X5_row_124, ↓x_X5_row_127, ↓x_X5_row_130, ↓x_X5_row_131, ho, ↓cKI ca, not_true_eq_false, ↓reduceIte]
-- the worths of one machine, side by side
def Sw (h h' : AH) : Prop := (∀ t x k, (x < 12 ∨ 16 < x) → (x ≠ 0 ∨ (k ≠ 17 ∧ k ≠ 18)) → rd h' t x k = rd h t x k) ∧ L0 h h'
theorem Sw.rf {h : AH} : Sw h h := ⟨fun _ _ _ _ _ => rfl, L0.rf⟩
theorem Sw.tr {h h1 h2 : AH} (a : Sw h h1) (b : Sw h1 h2) : Sw h h2 := ⟨fun t x k p q => (b.1 t x k p q).trans (a.1 t x k p q), a.2.tr b.2⟩
theorem Sw.sc {h h' : AH} (a : Sc h h') : Sw h h' := ⟨fun t x k p q => a.1 t x k (by omega) (by omega) q, a.2⟩
theorem Sw.w {h : AH} {t x k : Nat} {v : AV} (c : (12 ≤ x ∧ x ≤ 16) ∨ (x = 0 ∧ (k = 17 ∨ k = 18))) : Sw h (wr h t x k v) := ⟨fun t' x' k' p q => rd_wn (by omega), L0.w⟩
theorem RI.sw {S : SS} {h h' : AH} (H : RI S h) (B : RB0 S h') (sc : Sw h h') : RI S h' := by
  obtain ⟨r, r1, r2⟩ := H.2
  exact ⟨B, r, by rw [sc.1 _ _ _ (by decide) (Or.inr (by decide))]; exact r1, r2⟩
def LW (S : SS) (m : Nat) (h : AH) (k : Nat) : Prop := ∀ s, s < k → rd h 11 14 s = some (aJ (wR S m s).num) ∧ rd h 11 15 s = some (aJ ((wR S m s).den : Int)) ∧ RBr (wR S m s)
section LWS
variable {S : SS} {m : Nat}
theorem lr_lay (F : WF S) (hm : m < mS S) : ∀ (d s : Nat) (h : AH), s + d = nS S m → RB0 S h → LW S m h s → ∃ h', X mX5_layWorths 2 [aR (some 0), aI m, aI s] [] h = some (none, h') ∧ RB0 S h' ∧ Sw h h' ∧ LW S m h' (nS S m) := by
  obtain ⟨hn, en, hpy, hw⟩ := F.m hm
  have m0 : (0 : Int) ≤ (m : Int) := Int.natCast_nonneg _
  intro d
  induction d with
  | zero =>
    intro s h hd H W
    have e : s = nS S m := by omega
    subst e
    have q12 := H.f 12 rfl
    have q7 := H.r7 hm
    rw [← en] at q7
    have n1 : ((nS S m : Nat) : Int) ≤ ((nS S m : Nat) : Int) := Int.le_refl _
    refine ⟨h, ?_, H, Sw.rf, W⟩
    rw [x_X5_layWorths_2]
    simp only [↓x_X5_layWorths_0, ↓x_X5_layWorths_1, ↓x_X5_layWorths_3, ↓x_X5_layWorths_4, ↓x_X5_layWorths_7, ↓x_X5_layWorths_8, ↓x_X5_layWorths_9, ↓x_X5_layWorths_12, ↓x_X5_layWorths_13, ↓x_X5_layWorths_14, ↓x_X5_layWorths_15, ↓x_X5_layWorths_18, ↓x_X5_layWorths_19, ↓x_X5_layWorths_22, ↓x_X5_layWorths_23, ↓x_X5_layWorths_24, ↓x_X5_layWorths_27, ↓x_X5_layWorths_28, ↓x_X5_layWorths_29, ↓x_X5_layWorths_32, ↓x_X5_layWorths_33, ↓x_X5_layWorths_34, ↓x_X5_layWorths_37, ↓x_X5_layWorths_38, ↓x_X5_layWorths_41, ↓x_X5_layWorths_44, ↓gK_of q12, m0, Int.toNat_natCast, gK_of q7, n1, ↓reduceIte]
  | succ d ih =>
    intro s h hd H W
    have hs : s < nS S m := by omega
    have q12 := H.f 12 rfl
    have q7 := H.r7 hm
    rw [← en] at q7
    have ho : isO h 5 0 = true := isO_rd (H.f 4 rfl)
    have n3 : ¬ ((nS S m : Nat) : Int) ≤ (s : Int) := by omega
    have hs5 : s ≤ 1000 := by omega
    have s0 : (0 : Int) ≤ (s : Int) := Int.natCast_nonneg _
    obtain ⟨h1, a1, a2, a3, a4, a5⟩ := c_worthR F hm hs H
    have q23 := a2.f 23 rfl
    obtain ⟨x, hx⟩ := a2.1 14 s (show s < 5 by omega)
    obtain ⟨y, hy⟩ := a2.1 15 s (show s < 5 by omega)
    have hx' : rd h1 11 14 s = some x := hx
    have hy' : rd (wr h1 11 14 s (aJ (wR S m s).num)) 11 15 s = some y := by rw [rd_wn (Or.inr (Or.inl (by decide)))]; exact hy
    have q24 : rd (wr h1 11 14 s (aJ (wR S m s).num)) 5 0 24 = some (aR (some 15)) := by rw [rd_wn (Or.inl (by decide))]; exact a2.f 24 rfl
    have q18 : rd (wr h1 11 14 s (aJ (wR S m s).num)) 5 0 18 = some (aJ ((wR S m s).den : Int)) := by rw [rd_wn (Or.inl (by decide))]; exact a4.2
    obtain ⟨h', b1, b2, b3, b4⟩ := ih (s + 1) (wr (wr h1 11 14 s (aJ (wR S m s).num)) 11 15 s (aJ ((wR S m s).den : Int))) (by omega) ((a2.wn 14 s _ rfl).wn 15 s _ rfl) (fun t ht => by
      by_cases e : t = s
      · subst e
        exact ⟨by rw [rd_wn (Or.inr (Or.inl (by decide)))]; exact rd_wr hx', rd_wr hy', a5⟩
      · obtain ⟨w1, w2, w3⟩ := W t (by omega)
        exact ⟨by rw [rd_wn (Or.inr (Or.inl (by decide))), rd_wn (Or.inr (Or.inr e)), a3.1 _ _ _ (by decide) (by decide) (Or.inl (by decide))]; exact w1, by rw [rd_wn (Or.inr (Or.inr e)), rd_wn (Or.inr (Or.inl (by decide))), a3.1 _ _ _ (by decide) (by decide) (Or.inl (by decide))]; exact w2, w3⟩)
    refine ⟨h', ?_, b2, (((Sw.sc a3).tr (Sw.w (Or.inl (by decide)))).tr (Sw.w (Or.inl (by decide)))).tr b3, b4⟩
    rw [← b1, x_X5_layWorths_2]
    simp only [↓x_X5_layWorths_0, ↓x_X5_layWorths_1, ↓x_X5_layWorths_3, ↓x_X5_layWorths_4, ↓x_X5_layWorths_7, ↓x_X5_layWorths_8, ↓x_X5_layWorths_9, ↓x_X5_layWorths_12, ↓x_X5_layWorths_13, ↓x_X5_layWorths_14, ↓x_X5_layWorths_15, ↓x_X5_layWorths_18, ↓x_X5_layWorths_19, ↓x_X5_layWorths_22, ↓x_X5_layWorths_23, ↓x_X5_layWorths_24, ↓x_X5_layWorths_27, ↓x_X5_layWorths_28, ↓x_X5_layWorths_29, ↓x_X5_layWorths_32, ↓x_X5_layWorths_33, ↓x_X5_layWorths_34, ↓x_X5_layWorths_37, ↓x_X5_layWorths_38, ↓x_X5_layWorths_41, ↓x_X5_layWorths_44, ↓gK_of q12, m0, Int.toNat_natCast, gK_of q7, n3, ho, ↓cKV a1, ↓gK_of q23, ↓gK_of a4.1, s0, pK_of hx', ↓reduceIte]
    simp only [↓x_X5_layWorths_0, ↓x_X5_layWorths_1, ↓x_X5_layWorths_3, ↓x_X5_layWorths_4, ↓x_X5_layWorths_7, ↓x_X5_layWorths_8, ↓x_X5_layWorths_9, ↓x_X5_layWorths_12, ↓x_X5_layWorths_13, ↓x_X5_layWorths_14, ↓x_X5_layWorths_15, ↓x_X5_layWorths_18, ↓x_X5_layWorths_19, ↓x_X5_layWorths_22, ↓x_X5_layWorths_23, ↓x_X5_layWorths_24, ↓x_X5_layWorths_27, ↓x_X5_layWorths_28, ↓x_X5_layWorths_29, ↓x_X5_layWorths_32, ↓x_X5_layWorths_33, ↓x_X5_layWorths_34, ↓x_X5_layWorths_37, ↓x_X5_layWorths_38, ↓x_X5_layWorths_41, ↓x_X5_layWorths_44, ↓gK_of q24, ↓gK_of q18, gK_of q24, gK_of q18, s0, Int.toNat_natCast, pK_of hy', w32_s hs5, ↓reduceIte]
theorem c_layW (F : WF S) (hm : m < mS S) {h : AH} (H : RB0 S h) : ∃ h', E mX5_layWorths [aR (some 0), aI m] h = some (none, h') ∧ RB0 S h' ∧ Sw h h' ∧ LW S m h' (nS S m) := by
  obtain ⟨h', a1, a2⟩ := lr_lay F hm (nS S m) 0 h (by omega) H (fun s hs => by omega)
  refine ⟨h', ?_, a2⟩
  rw [e_X5_layWorths]
  simp only [↓x_X5_layWorths_0, ↓x_X5_layWorths_1, ↓x_X5_layWorths_3, ↓x_X5_layWorths_4, ↓x_X5_layWorths_7, ↓x_X5_layWorths_8, ↓x_X5_layWorths_9, ↓x_X5_layWorths_12, ↓x_X5_layWorths_13, ↓x_X5_layWorths_14, ↓x_X5_layWorths_15, ↓x_X5_layWorths_18, ↓x_X5_layWorths_19, ↓x_X5_layWorths_22, ↓x_X5_layWorths_23, ↓x_X5_layWorths_24, ↓x_X5_layWorths_27, ↓x_X5_layWorths_28, ↓x_X5_layWorths_29, ↓x_X5_layWorths_32, ↓x_X5_layWorths_33, ↓x_X5_layWorths_34, ↓x_X5_layWorths_37, ↓x_X5_layWorths_38, ↓x_X5_layWorths_41, ↓x_X5_layWorths_44]
  exact a1
theorem c_between {h : AH} (H : RB0 S h) {n : Nat} (W : LW S m h n) {s t : Nat} (hs : s < n) (ht : t < n) : E mX5_between [aR (some 0), aI s, aI t] h = some (some (aI (rc (wR S m s) (wR S m t))), h) := by
  have q23 := H.f 23 rfl
  have q24 := H.f 24 rfl
  obtain ⟨a1, a2, a3⟩ := W s hs
  obtain ⟨b1, b2, b3⟩ := W t ht
  have s0 : (0 : Int) ≤ (s : Int) := Int.natCast_nonneg _
  have t0 : (0 : Int) ≤ (t : Int) := Int.natCast_nonneg _
  have cc := c_cmpR (h := h) a3 b3
  rw [e_X5_between]
  simp only [↓x_X5_between_0, ↓x_X5_between_1, ↓x_X5_between_4, ↓x_X5_between_5, ↓x_X5_between_6, ↓x_X5_between_7, ↓x_X5_between_10, ↓x_X5_between_11, ↓x_X5_between_12, ↓x_X5_between_13, ↓x_X5_between_16, ↓x_X5_between_17, ↓x_X5_between_18, ↓x_X5_between_19, ↓x_X5_between_22, ↓x_X5_between_23, ↓x_X5_between_27, ↓gK_of q23, ↓gK_of q24, s0, t0, Int.toNat_natCast, gK_of a1, gK_of a2, gK_of b1, gK_of b2, ↓reduceIte]
  simp only [↓x_X5_between_0, ↓x_X5_between_1, ↓x_X5_between_4, ↓x_X5_between_5, ↓x_X5_between_6, ↓x_X5_between_7, ↓x_X5_between_10, ↓x_X5_between_11, ↓x_X5_between_12, ↓x_X5_between_13, ↓x_X5_between_16, ↓x_X5_between_17, ↓x_X5_between_18, ↓x_X5_between_19, ↓x_X5_between_22, ↓x_X5_between_23, ↓x_X5_between_24, ↓x_X5_between_27, ↓cKI cc]
theorem or0 : ∀ x, x < 32 → fOr ((x : Nat) : Int) 0 = ((x : Nat) : Int) := by decide +kernel
theorem lr_goes (F : WF S) (hm : m < mS S) {s : Nat} (hs : s < nS S m) {h : AH} (H : RB0 S h) (W : LW S m h (nS S m)) {v3 : Int} : ∀ (d t : Nat), t + d = nS S m → X mX5_goes 24 [aR (some 0), aI m, aI s, aI v3, aI (gsN S m s t : Nat), aI t] [] h = some (some (aI (gsN S m s (nS S m) : Nat)), h) := by
  obtain ⟨hn, en, hpy, hw⟩ := F.m hm
  have m0 : (0 : Int) ≤ (m : Int) := Int.natCast_nonneg _
  have q12 := H.f 12 rfl
  have q7 := H.r7 hm
  rw [← en] at q7
  have ho : isO h 5 0 = true := isO_rd (H.f 4 rfl)
  intro d
  induction d with
  | zero =>
    intro t hd
    have e : t = nS S m := by omega
    subst e
    have n1 : ((nS S m : Nat) : Int) ≤ ((nS S m : Nat) : Int) := Int.le_refl _
    rw [x_X5_goes_24]
    simp only [↓x_X5_goes_0, ↓x_X5_goes_1, ↓x_X5_goes_2, ↓x_X5_goes_3, ↓x_X5_goes_6, ↓x_X5_goes_7, ↓x_X5_goes_8, ↓x_X5_goes_11, ↓x_X5_goes_12, ↓x_X5_goes_13, ↓x_X5_goes_14, ↓x_X5_goes_15, ↓x_X5_goes_18, ↓x_X5_goes_19, ↓x_X5_goes_21, ↓x_X5_goes_22, ↓x_X5_goes_26, ↓x_X5_goes_27, ↓x_X5_goes_30, ↓x_X5_goes_31, ↓x_X5_goes_32, ↓x_X5_goes_35, ↓x_X5_goes_37, ↓x_X5_goes_38, ↓x_X5_goes_40, ↓x_X5_goes_41, ↓x_X5_goes_44, ↓x_X5_goes_47, ↓x_X5_goes_48, ↓x_X5_goes_50, ↓x_X5_goes_51, ↓x_X5_goes_54, ↓x_X5_goes_55, ↓x_X5_goes_56, ↓x_X5_goes_58, ↓x_X5_goes_61, ↓x_X5_goes_64, ↓x_X5_goes_66, ↓gK_of q12, m0, Int.toNat_natCast, gK_of q7, n1, ↓reduceIte]
  | succ d ih =>
    intro t hd
    have n3 : ¬ ((nS S m : Nat) : Int) ≤ (t : Int) := by omega
    have ht5 : t ≤ 1000 := by omega
    have gb := gsN_b S m s t (by omega)
    have eo := bit_or _ gb t (by omega)
    have cb := c_between H W (s := t) (t := s) (by omega) hs
    have ez := or0 _ gb
    rw [← ih (t + 1) (by omega), x_X5_goes_24, gsN]
    by_cases c1 : wR S m s ≤ wR S m t
    · rw [if_pos c1]
      have c2 : ¬ wR S m t < wR S m s := Rat.not_lt.mpr c1
      simp only [↓x_X5_goes_0, ↓x_X5_goes_1, ↓x_X5_goes_2, ↓x_X5_goes_3, ↓x_X5_goes_6, ↓x_X5_goes_7, ↓x_X5_goes_8, ↓x_X5_goes_11, ↓x_X5_goes_12, ↓x_X5_goes_13, ↓x_X5_goes_14, ↓x_X5_goes_15, ↓x_X5_goes_18, ↓x_X5_goes_19, ↓x_X5_goes_21, ↓x_X5_goes_22, ↓x_X5_goes_26, ↓x_X5_goes_27, ↓x_X5_goes_30, ↓x_X5_goes_31, ↓x_X5_goes_32, ↓x_X5_goes_35, ↓x_X5_goes_37, ↓x_X5_goes_38, ↓x_X5_goes_40, ↓x_X5_goes_41, ↓x_X5_goes_44, ↓x_X5_goes_47, ↓x_X5_goes_48, ↓x_X5_goes_50, ↓x_X5_goes_51, ↓x_X5_goes_54, ↓x_X5_goes_55, ↓x_X5_goes_56, ↓x_X5_goes_58, ↓x_X5_goes_61, ↓x_X5_goes_64, ↓x_X5_goes_66, ↓gK_of q12, m0, Int.toNat_natCast, gK_of q7, n3, ho, ↓cKI cb, rc_lt, c2, eo, w32_s ht5, ↓reduceIte]
    · rw [if_neg c1]
      have c2 : wR S m t < wR S m s := Rat.not_le.mp c1
      simp only [↓x_X5_goes_0, ↓x_X5_goes_1, ↓x_X5_goes_2, ↓x_X5_goes_3, ↓x_X5_goes_6, ↓x_X5_goes_7, ↓x_X5_goes_8, ↓x_X5_goes_11, ↓x_X5_goes_12, ↓x_X5_goes_13, ↓x_X5_goes_14, ↓x_X5_goes_15, ↓x_X5_goes_18, ↓x_X5_goes_19, ↓x_X5_goes_21, ↓x_X5_goes_22, ↓x_X5_goes_26, ↓x_X5_goes_27, ↓x_X5_goes_30, ↓x_X5_goes_31, ↓x_X5_goes_32, ↓x_X5_goes_35, ↓x_X5_goes_37, ↓x_X5_goes_38, ↓x_X5_goes_40, ↓x_X5_goes_41, ↓x_X5_goes_44, ↓x_X5_goes_47, ↓x_X5_goes_48, ↓x_X5_goes_50, ↓x_X5_goes_51, ↓x_X5_goes_54, ↓x_X5_goes_55, ↓x_X5_goes_56, ↓x_X5_goes_58, ↓x_X5_goes_61, ↓x_X5_goes_64, ↓x_X5_goes_66, ↓gK_of q12, m0, Int.toNat_natCast, gK_of q7, n3, ho, ↓cKI cb, rc_lt, c2, ez, w32_s ht5, ↓reduceIte]
theorem lr_least (F : WF S) (hm : m < mS S) {h : AH} (H : RB0 S h) (W : LW S m h (nS S m)) : ∀ (d t : Nat), t + d = nS S m → 1 ≤ t → X mX5_least 19 [aR (some 0), aI m, aI (lsN S m t : Nat), aI t] [] h = X mX5_least 50 [aR (some 0), aI m, aI (lsN S m (nS S m) : Nat), aI (nS S m : Nat)] [] h := by
  obtain ⟨hn, en, hpy, hw⟩ := F.m hm
  have m0 : (0 : Int) ≤ (m : Int) := Int.natCast_nonneg _
  have q12 := H.f 12 rfl
  have q7 := H.r7 hm
  rw [← en] at q7
  have ho : isO h 5 0 = true := isO_rd (H.f 4 rfl)
  intro d
  induction d with
  | zero =>
    intro t hd h1
    have e : t = nS S m := by omega
    subst e
    have n1 : ((nS S m : Nat) : Int) ≤ ((nS S m : Nat) : Int) := Int.le_refl _
    rw [x_X5_least_19]
    simp only [↓x_X5_least_0, ↓x_X5_least_1, ↓x_X5_least_2, ↓x_X5_least_5, ↓x_X5_least_8, ↓x_X5_least_9, ↓x_X5_least_10, ↓x_X5_least_11, ↓x_X5_least_12, ↓x_X5_least_15, ↓x_X5_least_16, ↓x_X5_least_17, ↓x_X5_least_18, ↓x_X5_least_20, ↓x_X5_least_21, ↓x_X5_least_24, ↓x_X5_least_25, ↓x_X5_least_26, ↓x_X5_least_29, ↓x_X5_least_30, ↓x_X5_least_31, ↓x_X5_least_32, ↓x_X5_least_35, ↓x_X5_least_38, ↓x_X5_least_39, ↓x_X5_least_42, ↓x_X5_least_43, ↓x_X5_least_44, ↓x_X5_least_47, ↓x_X5_least_51, ↓x_X5_least_52, ↓x_X5_least_55, ↓x_X5_least_56, ↓x_X5_least_57, ↓x_X5_least_60, ↓x_X5_least_61, ↓x_X5_least_62, ↓x_X5_least_65, ↓x_X5_least_66, ↓x_X5_least_67, ↓x_X5_least_70, ↓x_X5_least_71, ↓x_X5_least_74, ↓gK_of q12, m0, Int.toNat_natCast, gK_of q7, n1, ↓reduceIte]
  | succ d ih =>
    intro t hd h1
    have n3 : ¬ ((nS S m : Nat) : Int) ≤ (t : Int) := by omega
    have ht5 : t ≤ 1000 := by omega
    have lb := lsN_b S m t h1
    have cb := c_between H W (s := t) (t := lsN S m t) (by omega) (by omega)
    rw [← ih (t + 1) (by omega) (by omega), x_X5_least_19, lsN]
    by_cases c1 : wR S m t < wR S m (lsN S m t)
    · rw [if_pos c1]
      have c2 : ¬ wR S m (lsN S m t) ≤ wR S m t := Rat.not_le.mpr c1
      simp only [↓x_X5_least_0, ↓x_X5_least_1, ↓x_X5_least_2, ↓x_X5_least_5, ↓x_X5_least_8, ↓x_X5_least_9, ↓x_X5_least_10, ↓x_X5_least_11, ↓x_X5_least_12, ↓x_X5_least_15, ↓x_X5_least_16, ↓x_X5_least_17, ↓x_X5_least_18, ↓x_X5_least_20, ↓x_X5_least_21, ↓x_X5_least_24, ↓x_X5_least_25, ↓x_X5_least_26, ↓x_X5_least_29, ↓x_X5_least_30, ↓x_X5_least_31, ↓x_X5_least_32, ↓x_X5_least_35, ↓x_X5_least_38, ↓x_X5_least_39, ↓x_X5_least_42, ↓x_X5_least_43, ↓x_X5_least_44, ↓x_X5_least_47, ↓x_X5_least_51, ↓x_X5_least_52, ↓x_X5_least_55, ↓x_X5_least_56, ↓x_X5_least_57, ↓x_X5_least_60, ↓x_X5_least_61, ↓x_X5_least_62, ↓x_X5_least_65, ↓x_X5_least_66, ↓x_X5_least_67, ↓x_X5_least_70, ↓x_X5_least_71, ↓x_X5_least_74, ↓gK_of q12, m0, Int.toNat_natCast, gK_of q7, n3, ho, ↓cKI cb, rc_ge, c2, w32_s ht5, ↓reduceIte]
    · rw [if_neg c1]
      have c2 : wR S m (lsN S m t) ≤ wR S m t := Rat.not_lt.mp c1
      simp only [↓x_X5_least_0, ↓x_X5_least_1, ↓x_X5_least_2, ↓x_X5_least_5, ↓x_X5_least_8, ↓x_X5_least_9, ↓x_X5_least_10, ↓x_X5_least_11, ↓x_X5_least_12, ↓x_X5_least_15, ↓x_X5_least_16, ↓x_X5_least_17, ↓x_X5_least_18, ↓x_X5_least_20, ↓x_X5_least_21, ↓x_X5_least_24, ↓x_X5_least_25, ↓x_X5_least_26, ↓x_X5_least_29, ↓x_X5_least_30, ↓x_X5_least_31, ↓x_X5_least_32, ↓x_X5_least_35, ↓x_X5_least_38, ↓x_X5_least_39, ↓x_X5_least_42, ↓x_X5_least_43, ↓x_X5_least_44, ↓x_X5_least_47, ↓x_X5_least_51, ↓x_X5_least_52, ↓x_X5_least_55, ↓x_X5_least_56, ↓x_X5_least_57, ↓x_X5_least_60, ↓x_X5_least_61, ↓x_X5_least_62, ↓x_X5_least_65, ↓x_X5_least_66, ↓x_X5_least_67, ↓x_X5_least_70, ↓x_X5_least_71, ↓x_X5_least_74, ↓gK_of q12, m0, Int.toNat_natCast, gK_of q7, n3, ho, ↓cKI cb, rc_ge, c2, w32_s ht5, ↓reduceIte]
end LWS
theorem CR_goes {S : SS} (F : WF S) (m s : Int) : CR mX5_goes [aI m, aI s] aI S (o_goes m s S) := by
  intro h H
  have ho : isO h 5 0 = true := isO_rd (H.1.f 4 rfl)
  have y1 : ¬ (0 : Int) ≤ -1 := by decide
  have y3 : ¬ (0 : Int) ≤ -3 := by decide
  unfold o_goes
  rw [e_X5_goes]
  by_cases c1 : isM S m
  · rw [if_neg (not_not_intro c1)]
    by_cases c2 : isQ S m s
    · rw [if_neg (not_not_intro c2)]
      have nd := nd_0 F H c1 c2
      obtain ⟨hm, em⟩ := isM_n c1
      obtain ⟨hs, es⟩ := isQ_n F c1 c2
      obtain ⟨h1, a1, a2, a3, a4⟩ := c_layW F hm H.1
      rw [em] at a1
      have l := lr_goes F hm hs a2 a4 (v3 := 0) (nS S m.toNat) 0 (by omega)
      rw [em, es] at l
      refine ⟨h1, ?_, H.sw a2 a3, a3.2⟩
      simp only [↓x_X5_goes_0, ↓x_X5_goes_1, ↓x_X5_goes_2, ↓x_X5_goes_3, ↓x_X5_goes_6, ↓x_X5_goes_7, ↓x_X5_goes_8, ↓x_X5_goes_11, ↓x_X5_goes_12, ↓x_X5_goes_13, ↓x_X5_goes_14, ↓x_X5_goes_15, ↓x_X5_goes_18, ↓x_X5_goes_19, ↓x_X5_goes_21, ↓x_X5_goes_22, ↓x_X5_goes_26, ↓x_X5_goes_27, ↓x_X5_goes_30, ↓x_X5_goes_31, ↓x_X5_goes_32, ↓x_X5_goes_35, ↓x_X5_goes_37, ↓x_X5_goes_38, ↓x_X5_goes_40, ↓x_X5_goes_41, ↓x_X5_goes_44, ↓x_X5_goes_47, ↓x_X5_goes_48, ↓x_X5_goes_50, ↓x_X5_goes_51, ↓x_X5_goes_54, ↓x_X5_goes_55, ↓x_X5_goes_56, ↓x_X5_goes_58, ↓x_X5_goes_61, ↓x_X5_goes_64, ↓x_X5_goes_66, ho, ↓cKI nd, ↓cKV a1, Int.le_refl, ↓reduceIte]
      exact l
    · rw [if_pos c2]
      have nd := nd_2 F H c1 c2
      refine ⟨_, ?_, H.mt (f := 2) (by decide)⟩
      simp only [↓x_X5_goes_0, ↓x_X5_goes_1, ↓x_X5_goes_2, ↓x_X5_goes_3, ↓x_X5_goes_6, ↓x_X5_goes_7, ↓x_X5_goes_8, ↓x_X5_goes_11, ↓x_X5_goes_12, ↓x_X5_goes_13, ↓x_X5_goes_14, ↓x_X5_goes_15, ↓x_X5_goes_18, ↓x_X5_goes_19, ↓x_X5_goes_21, ↓x_X5_goes_22, ↓x_X5_goes_26, ↓x_X5_goes_27, ↓x_X5_goes_30, ↓x_X5_goes_31, ↓x_X5_goes_32, ↓x_X5_goes_35, ↓x_X5_goes_37, ↓x_X5_goes_38, ↓x_X5_goes_40, ↓x_X5_goes_41, ↓x_X5_goes_44, ↓x_X5_goes_47, ↓x_X5_goes_48, ↓x_X5_goes_50, ↓x_X5_goes_51, ↓x_X5_goes_54, ↓x_X5_goes_55, ↓x_X5_goes_56, ↓x_X5_goes_58, ↓x_X5_goes_61, ↓x_X5_goes_64, ↓x_X5_goes_66, ho, ↓cKI nd, y3, ↓reduceIte]
  · rw [if_pos c1]
    have nd := nd_1 (s := s) F H c1
    refine ⟨h, ?_, H, L0.rf⟩
    simp only [↓x_X5_goes_0, ↓x_X5_goes_1, ↓x_X5_goes_2, ↓x_X5_goes_3, ↓x_X5_goes_6, ↓x_X5_goes_7, ↓x_X5_goes_8, ↓x_X5_goes_11, ↓x_X5_goes_12, ↓x_X5_goes_13, ↓x_X5_goes_14, ↓x_X5_goes_15, ↓x_X5_goes_18, ↓x_X5_goes_19, ↓x_X5_goes_21, ↓x_X5_goes_22, ↓x_X5_goes_26, ↓x_X5_goes_27, ↓x_X5_goes_30, ↓x_X5_goes_31, ↓x_X5_goes_32, ↓x_X5_goes_35, ↓x_X5_goes_37, ↓x_X5_goes_38, ↓x_X5_goes_40, ↓x_X5_goes_41, ↓x_X5_goes_44, ↓x_X5_goes_47, ↓x_X5_goes_48, ↓x_X5_goes_50, ↓x_X5_goes_51, ↓x_X5_goes_54, ↓x_X5_goes_55, ↓x_X5_goes_56, ↓x_X5_goes_58, ↓x_X5_goes_61, ↓x_X5_goes_64, ↓x_X5_goes_66, ho, ↓cKI nd, y1, ↓reduceIte]
theorem CR_least {S : SS} (F : WF S) (m : Int) : CR mX5_least [aI m] aI S (o_least m S) := by
  intro h H
  have ho : isO h 5 0 = true := isO_rd (H.1.f 4 rfl)
  have ca := c_isMachine F H.1 m
  have z : ¬ (1 : Int) = 0 := by decide
  unfold o_least
  rw [e_X5_least]
  by_cases c1 : isM S m
  · rw [if_pos c1] at ca
    rw [if_neg (not_not_intro c1)]
    obtain ⟨hm, em⟩ := isM_n c1
    have hn := (F.m hm).1
    obtain ⟨h1, a1, a2, a3, a4⟩ := c_layW F hm H.1
    rw [em] at a1
    have l1 : lsN S m.toNat 1 = 0 := by have := lsN_b S m.toNat 1 (by omega); omega
    have l := lr_least F hm a2 a4 (nS S m.toNat - 1) 1 (by omega) (by omega)
    rw [em, l1] at l
    have lb := lsN_b S m.toNat _ hn.1
    obtain ⟨w1, w2, w3⟩ := a4 _ lb
    generalize lsN S m.toNat (nS S m.toNat) = x at *
    obtain ⟨u1, u2⟩ := a2.up (wR S m.toNat x)
    obtain ⟨h2, t1, t2, t3⟩ := c_tells (H.sw u1 (a3.tr (Sw.sc Sc.up))) u2
    have x0 : (0 : Int) ≤ (x : Int) := Int.natCast_nonneg _
    have q23 := a2.f 23 rfl
    obtain ⟨p, hp⟩ := a2.1 0 17 (by decide)
    have hp' : rd h1 5 0 17 = some p := hp
    obtain ⟨q, hq⟩ := a2.1 0 18 (by decide)
    have hq' : rd (wr h1 5 0 17 (aJ (wR S m.toNat x).num)) 5 0 18 = some q := by rw [rd_wn (Or.inr (Or.inr (by decide)))]; exact hq
    have q24 : rd (wr h1 5 0 17 (aJ (wR S m.toNat x).num)) 5 0 24 = some (aR (some 15)) := by rw [rd_wn (Or.inr (Or.inr (by decide)))]; exact a2.f 24 rfl
    have w2' : rd (wr h1 5 0 17 (aJ (wR S m.toNat x).num)) 11 15 x = some (aJ ((wR S m.toNat x).den : Int)) := by rw [rd_wn (Or.inl (by decide))]; exact w2
    have ho2 : isO (upH h1 (wR S m.toNat x)) 5 0 = true := isO_rd (u1.f 4 rfl)
    refine ⟨h2, ?_, t2, (a3.2.tr upH_L).tr t3⟩
    simp only [↓x_X5_least_0, ↓x_X5_least_1, ↓x_X5_least_2, ↓x_X5_least_5, ↓x_X5_least_8, ↓x_X5_least_9, ↓x_X5_least_10, ↓x_X5_least_11, ↓x_X5_least_12, ↓x_X5_least_15, ↓x_X5_least_16, ↓x_X5_least_17, ↓x_X5_least_18, ↓x_X5_least_20, ↓x_X5_least_21, ↓x_X5_least_24, ↓x_X5_least_25, ↓x_X5_least_26, ↓x_X5_least_29, ↓x_X5_least_30, ↓x_X5_least_31, ↓x_X5_least_32, ↓x_X5_least_35, ↓x_X5_least_38, ↓x_X5_least_39, ↓x_X5_least_42, ↓x_X5_least_43, ↓x_X5_least_44, ↓x_X5_least_47, ↓x_X5_least_50, ↓x_X5_least_51, ↓x_X5_least_52, ↓x_X5_least_55, ↓x_X5_least_56, ↓x_X5_least_57, ↓x_X5_least_60, ↓x_X5_least_61, ↓x_X5_least_62, ↓x_X5_least_65, ↓x_X5_least_66, ↓x_X5_least_67, ↓x_X5_least_70, ↓x_X5_least_71, ↓x_X5_least_74, ho, ↓cKI ca, z, ↓cKV a1, not_false_eq_true, ↓reduceIte]
    refine l.trans ?_
    simp only [↓x_X5_least_0, ↓x_X5_least_1, ↓x_X5_least_2, ↓x_X5_least_5, ↓x_X5_least_8, ↓x_X5_least_9, ↓x_X5_least_10, ↓x_X5_least_11, ↓x_X5_least_12, ↓x_X5_least_15, ↓x_X5_least_16, ↓x_X5_least_17, ↓x_X5_least_18, ↓x_X5_least_20, ↓x_X5_least_21, ↓x_X5_least_24, ↓x_X5_least_25, ↓x_X5_least_26, ↓x_X5_least_29, ↓x_X5_least_30, ↓x_X5_least_31, ↓x_X5_least_32, ↓x_X5_least_35, ↓x_X5_least_38, ↓x_X5_least_39, ↓x_X5_least_42, ↓x_X5_least_43, ↓x_X5_least_44, ↓x_X5_least_47, ↓x_X5_least_50, ↓x_X5_least_51, ↓x_X5_least_52, ↓x_X5_least_55, ↓x_X5_least_56, ↓x_X5_least_57, ↓x_X5_least_60, ↓x_X5_least_61, ↓x_X5_least_62, ↓x_X5_least_65, ↓x_X5_least_66, ↓x_X5_least_67, ↓x_X5_least_70, ↓x_X5_least_74, ↓gK_of q23, x0, Int.toNat_natCast, gK_of w1, pK_of hp', gK_of q24, gK_of w2', pK_of hq', ↓reduceIte]
    refine Eq.trans (x_X5_least_71 (h := upH h1 (wR S m.toNat x)) ho2) ?_
    simp only [↓x_X5_least_0, ↓x_X5_least_1, ↓x_X5_least_2, ↓x_X5_least_5, ↓x_X5_least_8, ↓x_X5_least_9, ↓x_X5_least_10, ↓x_X5_least_11, ↓x_X5_least_12, ↓x_X5_least_15, ↓x_X5_least_16, ↓x_X5_least_17, ↓x_X5_least_18, ↓x_X5_least_20, ↓x_X5_least_21, ↓x_X5_least_24, ↓x_X5_least_25, ↓x_X5_least_26, ↓x_X5_least_29, ↓x_X5_least_30, ↓x_X5_least_31, ↓x_X5_least_32, ↓x_X5_least_35, ↓x_X5_least_38, ↓x_X5_least_39, ↓x_X5_least_42, ↓x_X5_least_43, ↓x_X5_least_44, ↓x_X5_least_47, ↓x_X5_least_50, ↓x_X5_least_51, ↓x_X5_least_52, ↓x_X5_least_55, ↓x_X5_least_56, ↓x_X5_least_57, ↓x_X5_least_60, ↓x_X5_least_61, ↓x_X5_least_62, ↓x_X5_least_65, ↓x_X5_least_66, ↓x_X5_least_67, ↓x_X5_least_70, ↓x_X5_least_71, ↓x_X5_least_74, ↓cKI t1]
  · rw [if_neg c1] at ca
    rw [if_pos c1]
    refine ⟨h, ?_, H, L0.rf⟩
    simp only [↓x_X5_least_0, ↓x_X5_least_1, ↓x_X5_least_2, ↓x_X5_least_5, ↓x_X5_least_8, ↓x_X5_least_9, ↓x_X5_least_10, ↓x_X5_least_11, ↓x_X5_least_12, ↓x_X5_least_15, ↓x_X5_least_16, ↓x_X5_least_17, ↓x_X5_least_18, ↓x_X5_least_20, ↓x_X5_least_21, ↓x_X5_least_24, ↓x_X5_least_25, ↓x_X5_least_26, ↓x_X5_least_29, ↓x_X5_least_30, ↓x_X5_least_31, ↓x_X5_least_32, ↓x_X5_least_35, ↓x_X5_least_38, ↓x_X5_least_39, ↓x_X5_least_42, ↓x_X5_least_43, ↓x_X5_least_44, ↓x_X5_least_47, ↓x_X5_least_50, ↓x_X5_least_51, ↓x_X5_least_52, ↓x_X5_least_55, ↓x_X5_least_56, ↓x_X5_least_57, ↓x_X5_least_60, ↓x_X5_least_61, ↓x_X5_least_62, ↓x_X5_least_65, ↓x_X5_least_66, ↓x_X5_least_67, ↓x_X5_least_70, ↓x_X5_least_71, ↓x_X5_least_74, ho, ↓cKI ca, not_true_eq_false, ↓reduceIte]
