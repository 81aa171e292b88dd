/-! ===== the reference's calls on sheets ===== -/
theorem RI.w {S S' : SS} {h : AH} {t a k : Nat} {v : AV} (H : RI S h) (B : RB0 S' (wr h t a k v)) (h1 : t ≠ 5 ∨ a ≠ 0 ∨ k ≠ 28) (h2 : S' 0 11 0 0 = S 0 11 0 0) : RI S' (wr h t a k v) := ⟨B, H.2.wn h1 h2⟩
theorem L0.w {h : AH} {t a k : Nat} {v : AV} : L0 h (wr h t a k v) := ⟨wr_len, wr_slt⟩
/-- a field's write beside a new state -/
theorem RB0.put0 {S S' : SS} {h : AH} (H : RB0 S h) (k0 : Nat) (v0 : AV) (hl : k0 < 30) (h1 : ∀ a, a ≠ 0 → ∀ k v, rV S' a k = some v → rd h (rT a) a k = some v) (h2 : ∀ k, k ≠ k0 → rF S' k = rF S k) (h3 : rF S' k0 = some v0) : RB0 S' (wr h 5 0 k0 v0) := by
  refine ⟨H.1.put _ _ _ _, fun a k v q => ?_⟩
  by_cases e : a = 0
  · subst e
    by_cases e2 : k = k0
    · subst e2
      obtain ⟨w, hw⟩ := H.1 0 k hl
      have e3 : some v = some v0 := q.symm.trans h3
      cases e3
      exact rd_wr hw
    · show rd (wr h 5 0 k0 v0) 5 0 k = some v
      rw [rd_wn (Or.inr (Or.inr e2))]
      exact H.2 0 k v ((h2 k e2).symm.trans q)
  · rw [rd_wn (Or.inr (Or.inl e))]
    exact h1 a e k v q
theorem CR_share {S : SS} (p q : Int) : CR mX5_share [aI p, aI q] aI S (o_share p q S) := by
  intro h H
  have ci1 := c_in (h := h) (v := p) (lo := 1) (hi := 7)
  have ci2 := c_in (h := h) (v := q) (lo := 2) (hi := 8)
  have q2 := H.1.f 2 rfl
  have q3 : rd (wr h 5 0 2 (aI p)) 5 0 3 = some (aI (S 0 9 0 0)) := by rw [rd_wn (Or.inr (Or.inr (by decide)))]; exact H.1.f 3 rfl
  have z : ¬ (1 : Int) = 0 := by decide
  unfold o_share
  rw [e_X5_share]
  by_cases d1 : 1 ≤ p ∧ p ≤ 7
  · rw [if_pos d1] at ci1
    by_cases d2 : 2 ≤ q ∧ q ≤ 8
    · rw [if_pos d2] at ci2
      by_cases d3 : p < q
      · rw [if_neg (by omega)]
        refine ⟨wr (wr h 5 0 2 (aI p)) 5 0 3 (aI q), ?_, (H.w (H.1.f2 p) (Or.inr (Or.inr (by decide))) (ups_a (by decide))).w ((H.1.f2 p).f3 q) (Or.inr (Or.inr (by decide))) rfl, L0.w.tr L0.w⟩
        simp only [↓x_X5_share_0, ↓x_X5_share_1, ↓x_X5_share_2, ↓x_X5_share_3, ↓x_X5_share_6, ↓x_X5_share_9, ↓x_X5_share_12, ↓x_X5_share_13, ↓x_X5_share_14, ↓x_X5_share_17, ↓x_X5_share_20, ↓x_X5_share_23, ↓x_X5_share_26, ↓x_X5_share_27, ↓x_X5_share_28, ↓x_X5_share_31, ↓x_X5_share_32, ↓x_X5_share_33, ↓x_X5_share_34, ↓x_X5_share_35, ↓x_X5_share_38, ↓x_X5_share_39, ↓x_X5_share_40, ↓x_X5_share_43, ↓x_X5_share_44, ↓cKI ci1, ↓cKI ci2, z, d3, ↓pK_of q2, ↓pK_of q3, ↓reduceIte]
      · rw [if_pos (by omega)]
        refine ⟨h, ?_, H, L0.rf⟩
        simp only [↓x_X5_share_0, ↓x_X5_share_1, ↓x_X5_share_2, ↓x_X5_share_3, ↓x_X5_share_6, ↓x_X5_share_9, ↓x_X5_share_12, ↓x_X5_share_13, ↓x_X5_share_14, ↓x_X5_share_17, ↓x_X5_share_20, ↓x_X5_share_23, ↓x_X5_share_26, ↓x_X5_share_27, ↓x_X5_share_28, ↓x_X5_share_31, ↓x_X5_share_32, ↓x_X5_share_33, ↓x_X5_share_34, ↓x_X5_share_35, ↓x_X5_share_38, ↓x_X5_share_39, ↓x_X5_share_40, ↓x_X5_share_43, ↓x_X5_share_44, ↓cKI ci1, ↓cKI ci2, z, d3, ↓reduceIte]
    · rw [if_neg d2] at ci2
      rw [if_pos (by omega)]
      refine ⟨h, ?_, H, L0.rf⟩
      simp only [↓x_X5_share_0, ↓x_X5_share_1, ↓x_X5_share_2, ↓x_X5_share_3, ↓x_X5_share_6, ↓x_X5_share_9, ↓x_X5_share_12, ↓x_X5_share_13, ↓x_X5_share_14, ↓x_X5_share_17, ↓x_X5_share_20, ↓x_X5_share_23, ↓x_X5_share_26, ↓x_X5_share_27, ↓x_X5_share_28, ↓x_X5_share_31, ↓x_X5_share_32, ↓x_X5_share_33, ↓x_X5_share_34, ↓x_X5_share_35, ↓x_X5_share_38, ↓x_X5_share_39, ↓x_X5_share_40, ↓x_X5_share_43, ↓x_X5_share_44, ↓cKI ci1, ↓cKI ci2, z, ↓reduceIte]
  · rw [if_neg d1] at ci1
    rw [if_pos (by omega)]
    refine ⟨h, ?_, H, L0.rf⟩
    simp only [↓x_X5_share_0, ↓x_X5_share_1, ↓x_X5_share_2, ↓x_X5_share_3, ↓x_X5_share_6, ↓x_X5_share_9, ↓x_X5_share_12, ↓x_X5_share_13, ↓x_X5_share_14, ↓x_X5_share_17, ↓x_X5_share_20, ↓x_X5_share_23, ↓x_X5_share_26, ↓x_X5_share_27, ↓x_X5_share_28, ↓x_X5_share_31, ↓x_X5_share_32, ↓x_X5_share_33, ↓x_X5_share_34, ↓x_X5_share_35, ↓x_X5_share_38, ↓x_X5_share_39, ↓x_X5_share_40, ↓x_X5_share_43, ↓x_X5_share_44, ↓cKI ci1, ↓reduceIte]
theorem CR_tear {S : SS} (F : WF S) (k : Int) : CR mX5_tear [aI k] aI S (o_tear k S) := by
  intro h H
  have ho : isO h 5 0 = true := isO_rd (H.1.f 4 rfl)
  have ca := c_isSheet F H.1 k
  have cf := m_fd1 H.1
  have q6 := H.1.f 6 rfl
  have z : ¬ (1 : Int) = 0 := by decide
  unfold o_tear
  rw [e_X5_tear]
  by_cases c1 : isT S k
  · rw [if_pos c1] at ca
    rw [if_neg (not_not_intro c1)]
    obtain ⟨k', rfl⟩ := Int.eq_ofNat_of_zero_le c1.1
    rw [Int.toNat_natCast]
    have f7 := F.1.2.1
    have hk : k' < sS S := by unfold sS; omega
    have q3 := H.1.r3 hk
    have f24 := (F.2.2 k' hk).2.1
    have m0 : (0 : Int) ≤ (k' : Int) := Int.natCast_nonneg _
    by_cases c2 : S 4 k' 2 0 = 0
    · rw [if_pos c2] at q3
      rw [if_neg (not_not_intro c2)]
      have n1 : 0 ≤ S 4 k' 1 0 := f24.1
      refine ⟨wr h 10 3 k' (aI (-1)), ?_, H.w (H.1.a3 k' (by unfold sS at hk; omega)) (Or.inl (by decide)) rfl, L0.w⟩
      simp only [↓x_X5_tear_0, ↓x_X5_tear_1, ↓x_X5_tear_2, ↓x_X5_tear_5, ↓x_X5_tear_8, ↓x_X5_tear_9, ↓x_X5_tear_10, ↓x_X5_tear_11, ↓x_X5_tear_14, ↓x_X5_tear_15, ↓x_X5_tear_16, ↓x_X5_tear_19, ↓x_X5_tear_20, ↓x_X5_tear_21, ↓x_X5_tear_24, ↓x_X5_tear_25, ↓x_X5_tear_26, ↓x_X5_tear_29, ↓x_X5_tear_30, ↓x_X5_tear_31, ↓x_X5_tear_32, ↓x_X5_tear_33, ho, ↓cKI ca, z, ↓gK_of q6, m0, Int.toNat_natCast, gK_of q3, pK_of q3, n1, not_false_eq_true, ↓reduceIte]
    · rw [if_neg c2] at q3
      rw [if_pos c2]
      have n1 : ¬ (0 : Int) ≤ -1 := by decide
      refine ⟨_, ?_, H.mt (f := 1) (by decide)⟩
      simp only [↓x_X5_tear_0, ↓x_X5_tear_1, ↓x_X5_tear_2, ↓x_X5_tear_5, ↓x_X5_tear_8, ↓x_X5_tear_9, ↓x_X5_tear_10, ↓x_X5_tear_11, ↓x_X5_tear_14, ↓x_X5_tear_15, ↓x_X5_tear_16, ↓x_X5_tear_19, ↓x_X5_tear_20, ↓x_X5_tear_21, ↓x_X5_tear_24, ↓x_X5_tear_25, ↓x_X5_tear_26, ↓x_X5_tear_29, ↓x_X5_tear_30, ↓x_X5_tear_31, ↓x_X5_tear_32, ↓x_X5_tear_33, ho, ↓cKI ca, z, ↓gK_of q6, m0, Int.toNat_natCast, gK_of q3, n1, ↓cKI cf, not_false_eq_true, ↓reduceIte]
  · rw [if_neg c1] at ca
    rw [if_pos c1]
    refine ⟨h, ?_, H, L0.rf⟩
    simp only [↓x_X5_tear_0, ↓x_X5_tear_1, ↓x_X5_tear_2, ↓x_X5_tear_5, ↓x_X5_tear_8, ↓x_X5_tear_9, ↓x_X5_tear_10, ↓x_X5_tear_11, ↓x_X5_tear_14, ↓x_X5_tear_15, ↓x_X5_tear_16, ↓x_X5_tear_19, ↓x_X5_tear_20, ↓x_X5_tear_21, ↓x_X5_tear_24, ↓x_X5_tear_25, ↓x_X5_tear_26, ↓x_X5_tear_29, ↓x_X5_tear_30, ↓x_X5_tear_31, ↓x_X5_tear_32, ↓x_X5_tear_33, ho, ↓cKI ca, not_true_eq_false, ↓reduceIte]
theorem c_lacks {S : SS} {h : AH} (F : WF S) (H : RB0 S h) {k : Nat} (hk : k < sS S) (i : Int) : E mX5_lacks [aR (some 0), aI k, aI i] h = some (some (aI (if S 4 k 2 0 = 0 then (if 0 ≤ i ∧ i < S 4 k 1 0 then 0 else 2) else 1)), h) := by
  have q6 := H.f 6 rfl
  have q3 := H.r3 hk
  have f24 := (F.2.2 k hk).2.1
  have m0 : (0 : Int) ≤ (k : Int) := Int.natCast_nonneg _
  have e1 : w32 (S 4 k 1 0 - 1) = S 4 k 1 0 - 1 := by rw [w32_in] <;> omega
  have ci := c_in (h := h) (v := i) (lo := 0) (hi := S 4 k 1 0 - 1)
  have z : ¬ (1 : Int) = 0 := by decide
  rw [e_X5_lacks]
  by_cases c : S 4 k 2 0 = 0
  · rw [if_pos c] at q3
    rw [if_pos c]
    have n1 : 0 ≤ S 4 k 1 0 := f24.1
    have s25 : X mX5_lacks 0 [aR (some 0), aI k, aI i] [] h = X mX5_lacks 25 [aR (some 0), aI k, aI i] [aJ (S 4 k 1 0 - 1), aJ 0, aJ i] h := by
      simp only [↓x_X5_lacks_0, ↓x_X5_lacks_1, ↓x_X5_lacks_4, ↓x_X5_lacks_5, ↓x_X5_lacks_6, ↓x_X5_lacks_9, ↓x_X5_lacks_10, ↓x_X5_lacks_13, ↓x_X5_lacks_14, ↓x_X5_lacks_15, ↓x_X5_lacks_16, ↓x_X5_lacks_17, ↓x_X5_lacks_20, ↓x_X5_lacks_21, ↓x_X5_lacks_22, ↓x_X5_lacks_23, ↓x_X5_lacks_24, ↓x_X5_lacks_28, ↓x_X5_lacks_31, ↓x_X5_lacks_32, ↓x_X5_lacks_35, ↓x_X5_lacks_36, ↓gK_of q6, m0, Int.toNat_natCast, gK_of q3, n1, e1, ↓reduceIte]
    rw [s25]
    by_cases d : 0 ≤ i ∧ i < S 4 k 1 0
    · rw [if_pos (by omega)] at ci
      rw [if_pos d]
      simp only [↓x_X5_lacks_0, ↓x_X5_lacks_1, ↓x_X5_lacks_4, ↓x_X5_lacks_5, ↓x_X5_lacks_6, ↓x_X5_lacks_9, ↓x_X5_lacks_10, ↓x_X5_lacks_13, ↓x_X5_lacks_14, ↓x_X5_lacks_15, ↓x_X5_lacks_16, ↓x_X5_lacks_17, ↓x_X5_lacks_20, ↓x_X5_lacks_21, ↓x_X5_lacks_22, ↓x_X5_lacks_23, ↓x_X5_lacks_24, ↓x_X5_lacks_25, ↓x_X5_lacks_28, ↓x_X5_lacks_31, ↓x_X5_lacks_32, ↓x_X5_lacks_35, ↓x_X5_lacks_36, ↓cKI ci, z, ↓reduceIte]
    · rw [if_neg (by omega)] at ci
      rw [if_neg d]
      simp only [↓x_X5_lacks_0, ↓x_X5_lacks_1, ↓x_X5_lacks_4, ↓x_X5_lacks_5, ↓x_X5_lacks_6, ↓x_X5_lacks_9, ↓x_X5_lacks_10, ↓x_X5_lacks_13, ↓x_X5_lacks_14, ↓x_X5_lacks_15, ↓x_X5_lacks_16, ↓x_X5_lacks_17, ↓x_X5_lacks_20, ↓x_X5_lacks_21, ↓x_X5_lacks_22, ↓x_X5_lacks_23, ↓x_X5_lacks_24, ↓x_X5_lacks_25, ↓x_X5_lacks_28, ↓x_X5_lacks_31, ↓x_X5_lacks_32, ↓x_X5_lacks_35, ↓x_X5_lacks_36, ↓cKI ci, ↓reduceIte]
  · rw [if_neg c] at q3
    rw [if_neg c]
    have n1 : ¬ (0 : Int) ≤ -1 := by decide
    simp only [↓x_X5_lacks_0, ↓x_X5_lacks_1, ↓x_X5_lacks_4, ↓x_X5_lacks_5, ↓x_X5_lacks_6, ↓x_X5_lacks_9, ↓x_X5_lacks_10, ↓x_X5_lacks_13, ↓x_X5_lacks_14, ↓x_X5_lacks_15, ↓x_X5_lacks_16, ↓x_X5_lacks_17, ↓x_X5_lacks_20, ↓x_X5_lacks_21, ↓x_X5_lacks_22, ↓x_X5_lacks_23, ↓x_X5_lacks_24, ↓x_X5_lacks_25, ↓x_X5_lacks_28, ↓x_X5_lacks_31, ↓x_X5_lacks_32, ↓x_X5_lacks_35, ↓x_X5_lacks_36, ↓gK_of q6, m0, Int.toNat_natCast, gK_of q3, n1, ↓reduceIte]
theorem w24a {k : Nat} (hk : k < 12) : w32 (24 * (k : Int)) = ((24 * k : Nat) : Int) := by rw [w32_in] <;> omega
theorem w24b {k i : Nat} (hk : k < 12) (hi : i < 100) : w32 (((24 * k : Nat) : Int) + (i : Int)) = ((24 * k + i : Nat) : Int) := by rw [w32_in] <;> omega
theorem w24c {k i j : Nat} (hk : k < 12) (hi : i < 100) (hj : j < 100) : w32 (((24 * k + i : Nat) : Int) + (j : Int)) = ((24 * k + i + j : Nat) : Int) := by rw [w32_in] <;> omega
theorem CR_lay {S : SS} (F : WF S) (k i v : Int) : CR mX5_lay [aI k, aI i, aJ v] aI S (o_lay k i v S) := by
  intro h H
  have ho : isO h 5 0 = true := isO_rd (H.1.f 4 rfl)
  have ca := c_isSheet F H.1 k
  have cf1 := m_fd1 H.1
  have cf2 := m_fd2 H.1
  have z : ¬ (1 : Int) = 0 := by decide
  unfold o_lay
  rw [e_X5_lay]
  by_cases c1 : isT S k
  · rw [if_pos c1] at ca
    rw [if_neg (not_not_intro c1)]
    obtain ⟨k', rfl⟩ := Int.eq_ofNat_of_zero_le c1.1
    rw [Int.toNat_natCast]
    have f7 := F.1.2.1
    have hk : k' < sS S := by unfold sS; omega
    have f24 := (F.2.2 k' hk).2.1
    have m0 : (0 : Int) ≤ (k' : Int) := Int.natCast_nonneg _
    have cl := c_lacks F H.1 hk i
    by_cases c2 : S 4 k' 2 0 = 0
    · rw [if_pos c2] at cl
      rw [if_neg (not_not_intro c2)]
      by_cases c3 : 0 ≤ i ∧ i < S 4 k' 1 0
      · rw [if_pos c3] at cl
        rw [if_neg (not_not_intro c3)]
        obtain ⟨i', rfl⟩ := Int.eq_ofNat_of_zero_le c3.1
        rw [Int.toNat_natCast]
        have k12 : k' < 12 := by unfold sS at hk; omega
        have i24 : i' < 24 := by omega
        have q5 := H.1.f 5 rfl
        have q7 := H.1.f 7 rfl
        have q2 := H.1.r2 hk
        have q4 := H.1.r4 hk (i := i') (by omega) i24
        have j0 : (0 : Int) ≤ ((24 * k' + i' : Nat) : Int) := Int.natCast_nonneg _
        have y : ¬ (0 : Int) < 0 := by decide
        refine ⟨wr h 11 4 (24 * k' + i') (aJ (cutZ (S 4 k' 0 0) v)), ?_, H.w (H.1.a4 k' i' k12 i24 _) (Or.inl (by decide)) rfl, L0.w⟩
        have e86 : X mX5_lay 0 [aR (some 0), aI k', aI i', aJ v, aU, aU, aU] [] h = X mX5_lay 86 [aR (some 0), aI k', aI i', aJ v, aU, aI 0, aI (S 4 k' 0 0)] [aJ (cutZ (S 4 k' 0 0) v), aI ((24 * k' + i' : Nat) : Int), aR (some 4)] h := by
          unfold cutZ
          by_cases d0 : S 4 k' 0 0 = 0
          · rw [if_pos d0]
            rw [d0] at q2 ⊢
            simp only [↓x_X5_lay_0, ↓x_X5_lay_1, ↓x_X5_lay_2, ↓x_X5_lay_5, ↓x_X5_lay_8, ↓x_X5_lay_9, ↓x_X5_lay_10, ↓x_X5_lay_11, ↓x_X5_lay_12, ↓x_X5_lay_13, ↓x_X5_lay_16, ↓x_X5_lay_18, ↓x_X5_lay_20, ↓x_X5_lay_23, ↓x_X5_lay_24, ↓x_X5_lay_26, ↓x_X5_lay_29, ↓x_X5_lay_30, ↓x_X5_lay_31, ↓x_X5_lay_34, ↓x_X5_lay_35, ↓x_X5_lay_36, ↓x_X5_lay_38, ↓x_X5_lay_39, ↓x_X5_lay_42, ↓x_X5_lay_44, ↓x_X5_lay_45, ↓x_X5_lay_46, ↓x_X5_lay_47, ↓x_X5_lay_48, ↓x_X5_lay_50, ↓x_X5_lay_53, ↓x_X5_lay_54, ↓x_X5_lay_55, ↓x_X5_lay_56, ↓x_X5_lay_57, ↓x_X5_lay_60, ↓x_X5_lay_62, ↓x_X5_lay_63, ↓x_X5_lay_66, ↓x_X5_lay_67, ↓x_X5_lay_68, ↓x_X5_lay_69, ↓x_X5_lay_70, ↓x_X5_lay_73, ↓x_X5_lay_75, ↓x_X5_lay_76, ↓x_X5_lay_79, ↓x_X5_lay_80, ↓x_X5_lay_81, ↓x_X5_lay_82, ↓x_X5_lay_85, ↓x_X5_lay_87, ↓x_X5_lay_88, ho, ↓cKI ca, z, ↓cKI cl, y, ↓gK_of q5, ↓gK_of q7, m0, Int.toNat_natCast, gK_of q2, w24a k12, w24b k12 (show i' < 100 by omega), not_true_eq_false, not_false_eq_true, Int.le_refl, ↓reduceIte]
          · rw [if_neg d0]
            by_cases d1 : S 4 k' 0 0 = 1
            · rw [if_pos d1]
              rw [d1] at q2 ⊢
              simp only [↓x_X5_lay_0, ↓x_X5_lay_1, ↓x_X5_lay_2, ↓x_X5_lay_5, ↓x_X5_lay_8, ↓x_X5_lay_9, ↓x_X5_lay_10, ↓x_X5_lay_11, ↓x_X5_lay_12, ↓x_X5_lay_13, ↓x_X5_lay_16, ↓x_X5_lay_18, ↓x_X5_lay_20, ↓x_X5_lay_23, ↓x_X5_lay_24, ↓x_X5_lay_26, ↓x_X5_lay_29, ↓x_X5_lay_30, ↓x_X5_lay_31, ↓x_X5_lay_34, ↓x_X5_lay_35, ↓x_X5_lay_36, ↓x_X5_lay_38, ↓x_X5_lay_39, ↓x_X5_lay_42, ↓x_X5_lay_44, ↓x_X5_lay_45, ↓x_X5_lay_46, ↓x_X5_lay_47, ↓x_X5_lay_48, ↓x_X5_lay_50, ↓x_X5_lay_53, ↓x_X5_lay_54, ↓x_X5_lay_55, ↓x_X5_lay_56, ↓x_X5_lay_57, ↓x_X5_lay_60, ↓x_X5_lay_62, ↓x_X5_lay_63, ↓x_X5_lay_66, ↓x_X5_lay_67, ↓x_X5_lay_68, ↓x_X5_lay_69, ↓x_X5_lay_70, ↓x_X5_lay_73, ↓x_X5_lay_75, ↓x_X5_lay_76, ↓x_X5_lay_79, ↓x_X5_lay_80, ↓x_X5_lay_81, ↓x_X5_lay_82, ↓x_X5_lay_85, ↓x_X5_lay_87, ↓x_X5_lay_88, ho, ↓cKI ca, z, ↓cKI cl, y, ↓gK_of q5, ↓gK_of q7, m0, Int.toNat_natCast, gK_of q2, w24a k12, w24b k12 (show i' < 100 by omega), not_true_eq_false, not_false_eq_true, Int.le_refl, ↓reduceIte]
            · rw [if_neg d1]
              by_cases d2 : S 4 k' 0 0 = 2
              · rw [if_pos d2]
                rw [d2] at q2 ⊢
                have y1 : ¬ (2 : Int) = 0 := by decide
                have y2 : ¬ (2 : Int) = 1 := by decide
                simp only [↓x_X5_lay_0, ↓x_X5_lay_1, ↓x_X5_lay_2, ↓x_X5_lay_5, ↓x_X5_lay_8, ↓x_X5_lay_9, ↓x_X5_lay_10, ↓x_X5_lay_11, ↓x_X5_lay_12, ↓x_X5_lay_13, ↓x_X5_lay_16, ↓x_X5_lay_18, ↓x_X5_lay_20, ↓x_X5_lay_23, ↓x_X5_lay_24, ↓x_X5_lay_26, ↓x_X5_lay_29, ↓x_X5_lay_30, ↓x_X5_lay_31, ↓x_X5_lay_34, ↓x_X5_lay_35, ↓x_X5_lay_36, ↓x_X5_lay_38, ↓x_X5_lay_39, ↓x_X5_lay_42, ↓x_X5_lay_44, ↓x_X5_lay_45, ↓x_X5_lay_46, ↓x_X5_lay_47, ↓x_X5_lay_48, ↓x_X5_lay_50, ↓x_X5_lay_53, ↓x_X5_lay_54, ↓x_X5_lay_55, ↓x_X5_lay_56, ↓x_X5_lay_57, ↓x_X5_lay_60, ↓x_X5_lay_62, ↓x_X5_lay_63, ↓x_X5_lay_66, ↓x_X5_lay_67, ↓x_X5_lay_68, ↓x_X5_lay_69, ↓x_X5_lay_70, ↓x_X5_lay_73, ↓x_X5_lay_75, ↓x_X5_lay_76, ↓x_X5_lay_79, ↓x_X5_lay_80, ↓x_X5_lay_81, ↓x_X5_lay_82, ↓x_X5_lay_85, ↓x_X5_lay_87, ↓x_X5_lay_88, ho, ↓cKI ca, z, y1, y2, ↓cKI cl, y, ↓gK_of q5, ↓gK_of q7, m0, Int.toNat_natCast, gK_of q2, w24a k12, w24b k12 (show i' < 100 by omega), not_true_eq_false, not_false_eq_true, Int.le_refl, ↓reduceIte]
              · rw [if_neg d2]
                simp only [↓x_X5_lay_0, ↓x_X5_lay_1, ↓x_X5_lay_2, ↓x_X5_lay_5, ↓x_X5_lay_8, ↓x_X5_lay_9, ↓x_X5_lay_10, ↓x_X5_lay_11, ↓x_X5_lay_12, ↓x_X5_lay_13, ↓x_X5_lay_16, ↓x_X5_lay_18, ↓x_X5_lay_20, ↓x_X5_lay_23, ↓x_X5_lay_24, ↓x_X5_lay_26, ↓x_X5_lay_29, ↓x_X5_lay_30, ↓x_X5_lay_31, ↓x_X5_lay_34, ↓x_X5_lay_35, ↓x_X5_lay_36, ↓x_X5_lay_38, ↓x_X5_lay_39, ↓x_X5_lay_42, ↓x_X5_lay_44, ↓x_X5_lay_45, ↓x_X5_lay_46, ↓x_X5_lay_47, ↓x_X5_lay_48, ↓x_X5_lay_50, ↓x_X5_lay_53, ↓x_X5_lay_54, ↓x_X5_lay_55, ↓x_X5_lay_56, ↓x_X5_lay_57, ↓x_X5_lay_60, ↓x_X5_lay_62, ↓x_X5_lay_63, ↓x_X5_lay_66, ↓x_X5_lay_67, ↓x_X5_lay_68, ↓x_X5_lay_69, ↓x_X5_lay_70, ↓x_X5_lay_73, ↓x_X5_lay_75, ↓x_X5_lay_76, ↓x_X5_lay_79, ↓x_X5_lay_80, ↓x_X5_lay_81, ↓x_X5_lay_82, ↓x_X5_lay_85, ↓x_X5_lay_87, ↓x_X5_lay_88, ho, ↓cKI ca, z, ↓cKI cl, y, ↓gK_of q5, ↓gK_of q7, m0, Int.toNat_natCast, gK_of q2, d0, d1, d2, w24a k12, w24b k12 (show i' < 100 by omega), not_true_eq_false, not_false_eq_true, Int.le_refl, ↓reduceIte]
        rw [e86]
        simp only [↓x_X5_lay_0, ↓x_X5_lay_1, ↓x_X5_lay_2, ↓x_X5_lay_5, ↓x_X5_lay_8, ↓x_X5_lay_9, ↓x_X5_lay_10, ↓x_X5_lay_11, ↓x_X5_lay_12, ↓x_X5_lay_13, ↓x_X5_lay_16, ↓x_X5_lay_18, ↓x_X5_lay_20, ↓x_X5_lay_23, ↓x_X5_lay_24, ↓x_X5_lay_26, ↓x_X5_lay_29, ↓x_X5_lay_30, ↓x_X5_lay_31, ↓x_X5_lay_34, ↓x_X5_lay_35, ↓x_X5_lay_36, ↓x_X5_lay_38, ↓x_X5_lay_39, ↓x_X5_lay_42, ↓x_X5_lay_44, ↓x_X5_lay_45, ↓x_X5_lay_46, ↓x_X5_lay_47, ↓x_X5_lay_48, ↓x_X5_lay_50, ↓x_X5_lay_53, ↓x_X5_lay_54, ↓x_X5_lay_55, ↓x_X5_lay_56, ↓x_X5_lay_57, ↓x_X5_lay_60, ↓x_X5_lay_62, ↓x_X5_lay_63, ↓x_X5_lay_66, ↓x_X5_lay_67, ↓x_X5_lay_68, ↓x_X5_lay_69, ↓x_X5_lay_70, ↓x_X5_lay_73, ↓x_X5_lay_75, ↓x_X5_lay_76, ↓x_X5_lay_79, ↓x_X5_lay_80, ↓x_X5_lay_81, ↓x_X5_lay_82, ↓x_X5_lay_85, ↓x_X5_lay_86, ↓x_X5_lay_87, ↓x_X5_lay_88, j0, Int.toNat_natCast, pK_of q4, ↓reduceIte]
      · rw [if_neg c3] at cl
        rw [if_pos c3]
        have y : (0 : Int) < 2 := by decide
        have y2 : ¬ (2 : Int) ≤ 0 := by decide
        refine ⟨_, ?_, H.mt (f := 2) (by decide)⟩
        simp only [↓x_X5_lay_0, ↓x_X5_lay_1, ↓x_X5_lay_2, ↓x_X5_lay_5, ↓x_X5_lay_8, ↓x_X5_lay_9, ↓x_X5_lay_10, ↓x_X5_lay_11, ↓x_X5_lay_12, ↓x_X5_lay_13, ↓x_X5_lay_16, ↓x_X5_lay_18, ↓x_X5_lay_20, ↓x_X5_lay_23, ↓x_X5_lay_24, ↓x_X5_lay_26, ↓x_X5_lay_29, ↓x_X5_lay_30, ↓x_X5_lay_31, ↓x_X5_lay_34, ↓x_X5_lay_35, ↓x_X5_lay_36, ↓x_X5_lay_38, ↓x_X5_lay_39, ↓x_X5_lay_42, ↓x_X5_lay_44, ↓x_X5_lay_45, ↓x_X5_lay_46, ↓x_X5_lay_47, ↓x_X5_lay_48, ↓x_X5_lay_50, ↓x_X5_lay_53, ↓x_X5_lay_54, ↓x_X5_lay_55, ↓x_X5_lay_56, ↓x_X5_lay_57, ↓x_X5_lay_60, ↓x_X5_lay_62, ↓x_X5_lay_63, ↓x_X5_lay_66, ↓x_X5_lay_67, ↓x_X5_lay_68, ↓x_X5_lay_69, ↓x_X5_lay_70, ↓x_X5_lay_73, ↓x_X5_lay_75, ↓x_X5_lay_76, ↓x_X5_lay_79, ↓x_X5_lay_80, ↓x_X5_lay_81, ↓x_X5_lay_82, ↓x_X5_lay_85, ↓x_X5_lay_86, ↓x_X5_lay_87, ↓x_X5_lay_88, ho, ↓cKI ca, z, ↓cKI cl, y, y2, ↓cKI cf2, not_false_eq_true, ↓reduceIte]
    · rw [if_neg c2] at cl
      rw [if_pos c2]
      have y : (0 : Int) < 1 := by decide
      have y2 : ¬ (1 : Int) ≤ 0 := by decide
      refine ⟨_, ?_, H.mt (f := 1) (by decide)⟩
      simp only [↓x_X5_lay_0, ↓x_X5_lay_1, ↓x_X5_lay_2, ↓x_X5_lay_5, ↓x_X5_lay_8, ↓x_X5_lay_9, ↓x_X5_lay_10, ↓x_X5_lay_11, ↓x_X5_lay_12, ↓x_X5_lay_13, ↓x_X5_lay_16, ↓x_X5_lay_18, ↓x_X5_lay_20, ↓x_X5_lay_23, ↓x_X5_lay_24, ↓x_X5_lay_26, ↓x_X5_lay_29, ↓x_X5_lay_30, ↓x_X5_lay_31, ↓x_X5_lay_34, ↓x_X5_lay_35, ↓x_X5_lay_36, ↓x_X5_lay_38, ↓x_X5_lay_39, ↓x_X5_lay_42, ↓x_X5_lay_44, ↓x_X5_lay_45, ↓x_X5_lay_46, ↓x_X5_lay_47, ↓x_X5_lay_48, ↓x_X5_lay_50, ↓x_X5_lay_53, ↓x_X5_lay_54, ↓x_X5_lay_55, ↓x_X5_lay_56, ↓x_X5_lay_57, ↓x_X5_lay_60, ↓x_X5_lay_62, ↓x_X5_lay_63, ↓x_X5_lay_66, ↓x_X5_lay_67, ↓x_X5_lay_68, ↓x_X5_lay_69, ↓x_X5_lay_70, ↓x_X5_lay_73, ↓x_X5_lay_75, ↓x_X5_lay_76, ↓x_X5_lay_79, ↓x_X5_lay_80, ↓x_X5_lay_81, ↓x_X5_lay_82, ↓x_X5_lay_85, ↓x_X5_lay_86, ↓x_X5_lay_87, ↓x_X5_lay_88, ho, ↓cKI ca, z, ↓cKI cl, y, y2, ↓cKI cf1, not_false_eq_true, ↓reduceIte]
  · rw [if_neg c1] at ca
    rw [if_pos c1]
    refine ⟨h, ?_, H, L0.rf⟩
    simp only [↓x_X5_lay_0, ↓x_X5_lay_1, ↓x_X5_lay_2, ↓x_X5_lay_5, ↓x_X5_lay_8, ↓x_X5_lay_9, ↓x_X5_lay_10, ↓x_X5_lay_11, ↓x_X5_lay_12, ↓x_X5_lay_13, ↓x_X5_lay_16, ↓x_X5_lay_18, ↓x_X5_lay_20, ↓x_X5_lay_23, ↓x_X5_lay_24, ↓x_X5_lay_26, ↓x_X5_lay_29, ↓x_X5_lay_30, ↓x_X5_lay_31, ↓x_X5_lay_34, ↓x_X5_lay_35, ↓x_X5_lay_36, ↓x_X5_lay_38, ↓x_X5_lay_39, ↓x_X5_lay_42, ↓x_X5_lay_44, ↓x_X5_lay_45, ↓x_X5_lay_46, ↓x_X5_lay_47, ↓x_X5_lay_48, ↓x_X5_lay_50, ↓x_X5_lay_53, ↓x_X5_lay_54, ↓x_X5_lay_55, ↓x_X5_lay_56, ↓x_X5_lay_57, ↓x_X5_lay_60, ↓x_X5_lay_62, ↓x_X5_lay_63, ↓x_X5_lay_66, ↓x_X5_lay_67, ↓x_X5_lay_68, ↓x_X5_lay_69, ↓x_X5_lay_70, ↓x_X5_lay_73, ↓x_X5_lay_75, ↓x_X5_lay_76, ↓x_X5_lay_79, ↓x_X5_lay_80, ↓x_X5_lay_81, ↓x_X5_lay_82, ↓x_X5_lay_85, ↓x_X5_lay_86, ↓x_X5_lay_87, ↓x_X5_lay_88, ho, ↓cKI ca, not_true_eq_false, ↓reduceIte]
theorem CR_get {S : SS} (F : WF S) (k i : Int) : CR mX5_get [aI k, aI i] aI S (o_get k i S) := by
  intro h H
  have ho : isO h 5 0 = true := isO_rd (H.1.f 4 rfl)
  have ca := c_isSheet F H.1 k
  have cf1 := m_fd1 H.1
  have cf2 := m_fd2 H.1
  have z : ¬ (1 : Int) = 0 := by decide
  unfold o_get
  rw [e_X5_get]
  by_cases c1 : isT S k
  · rw [if_pos c1] at ca
    rw [if_neg (not_not_intro c1)]
    obtain ⟨k', rfl⟩ := Int.eq_ofNat_of_zero_le c1.1
    rw [Int.toNat_natCast]
    have f7 := F.1.2.1
    have hk : k' < sS S := by unfold sS; omega
    have f24 := (F.2.2 k' hk).2.1
    have cl := c_lacks F H.1 hk i
    by_cases c2 : S 4 k' 2 0 = 0
    · rw [if_pos c2] at cl
      rw [if_neg (not_not_intro c2)]
      by_cases c3 : 0 ≤ i ∧ i < S 4 k' 1 0
      · rw [if_pos c3] at cl
        rw [if_neg (not_not_intro c3)]
        obtain ⟨i', rfl⟩ := Int.eq_ofNat_of_zero_le c3.1
        rw [Int.toNat_natCast]
        have k12 : k' < 12 := by unfold sS at hk; omega
        have i24 : i' < 24 := by omega
        have q7 := H.1.f 7 rfl
        have q8 := H.1.f 8 rfl
        have q4 := H.1.r4 hk (i := i') (by omega) i24
        have j0 : (0 : Int) ≤ ((24 * k' + i' : Nat) : Int) := Int.natCast_nonneg _
        have y : ¬ (0 : Int) < 0 := by decide
        refine ⟨wr h 5 0 8 (aJ (S 5 k' i' 0)), ?_, H.w (H.1.f8 _) (Or.inr (Or.inr (by decide))) rfl, L0.w⟩
        simp only [↓x_X5_get_0, ↓x_X5_get_1, ↓x_X5_get_2, ↓x_X5_get_5, ↓x_X5_get_8, ↓x_X5_get_9, ↓x_X5_get_10, ↓x_X5_get_11, ↓x_X5_get_12, ↓x_X5_get_13, ↓x_X5_get_16, ↓x_X5_get_17, ↓x_X5_get_18, ↓x_X5_get_21, ↓x_X5_get_22, ↓x_X5_get_23, ↓x_X5_get_26, ↓x_X5_get_27, ↓x_X5_get_28, ↓x_X5_get_29, ↓x_X5_get_32, ↓x_X5_get_34, ↓x_X5_get_35, ↓x_X5_get_36, ↓x_X5_get_37, ↓x_X5_get_38, ↓x_X5_get_39, ↓x_X5_get_42, ↓x_X5_get_43, ho, ↓cKI ca, z, ↓cKI cl, y, ↓gK_of q7, w24a k12, w24b k12 (show i' < 100 by omega), j0, Int.toNat_natCast, gK_of q4, pK_of q8, not_false_eq_true, Int.le_refl, ↓reduceIte]
      · rw [if_neg c3] at cl
        rw [if_pos c3]
        have y : (0 : Int) < 2 := by decide
        have y2 : ¬ (2 : Int) ≤ 0 := by decide
        refine ⟨_, ?_, H.mt (f := 2) (by decide)⟩
        simp only [↓x_X5_get_0, ↓x_X5_get_1, ↓x_X5_get_2, ↓x_X5_get_5, ↓x_X5_get_8, ↓x_X5_get_9, ↓x_X5_get_10, ↓x_X5_get_11, ↓x_X5_get_12, ↓x_X5_get_13, ↓x_X5_get_16, ↓x_X5_get_17, ↓x_X5_get_18, ↓x_X5_get_21, ↓x_X5_get_22, ↓x_X5_get_23, ↓x_X5_get_26, ↓x_X5_get_27, ↓x_X5_get_28, ↓x_X5_get_29, ↓x_X5_get_32, ↓x_X5_get_34, ↓x_X5_get_35, ↓x_X5_get_36, ↓x_X5_get_37, ↓x_X5_get_38, ↓x_X5_get_39, ↓x_X5_get_42, ↓x_X5_get_43, ho, ↓cKI ca, z, ↓cKI cl, y, y2, ↓cKI cf2, not_false_eq_true, ↓reduceIte]
    · rw [if_neg c2] at cl
      rw [if_pos c2]
      have y : (0 : Int) < 1 := by decide
      have y2 : ¬ (1 : Int) ≤ 0 := by decide
      refine ⟨_, ?_, H.mt (f := 1) (by decide)⟩
      simp only [↓x_X5_get_0, ↓x_X5_get_1, ↓x_X5_get_2, ↓x_X5_get_5, ↓x_X5_get_8, ↓x_X5_get_9, ↓x_X5_get_10, ↓x_X5_get_11, ↓x_X5_get_12, ↓x_X5_get_13, ↓x_X5_get_16, ↓x_X5_get_17, ↓x_X5_get_18, ↓x_X5_get_21, ↓x_X5_get_22, ↓x_X5_get_23, ↓x_X5_get_26, ↓x_X5_get_27, ↓x_X5_get_28, ↓x_X5_get_29, ↓x_X5_get_32, ↓x_X5_get_34, ↓x_X5_get_35, ↓x_X5_get_36, ↓x_X5_get_37, ↓x_X5_get_38, ↓x_X5_get_39, ↓x_X5_get_42, ↓x_X5_get_43, ho, ↓cKI ca, z, ↓cKI cl, y, y2, ↓cKI cf1, not_false_eq_true, ↓reduceIte]
  · rw [if_neg c1] at ca
    rw [if_pos c1]
    refine ⟨h, ?_, H, L0.rf⟩
    simp only [↓x_X5_get_0, ↓x_X5_get_1, ↓x_X5_get_2, ↓x_X5_get_5, ↓x_X5_get_8, ↓x_X5_get_9, ↓x_X5_get_10, ↓x_X5_get_11, ↓x_X5_get_12, ↓x_X5_get_13, ↓x_X5_get_16, ↓x_X5_get_17, ↓x_X5_get_18, ↓x_X5_get_21, ↓x_X5_get_22, ↓x_X5_get_23, ↓x_X5_get_26, ↓x_X5_get_27, ↓x_X5_get_28, ↓x_X5_get_29, ↓x_X5_get_32, ↓x_X5_get_34, ↓x_X5_get_35, ↓x_X5_get_36, ↓x_X5_get_37, ↓x_X5_get_38, ↓x_X5_get_39, ↓x_X5_get_42, ↓x_X5_get_43, ho, ↓cKI ca, not_true_eq_false, ↓reduceIte]
