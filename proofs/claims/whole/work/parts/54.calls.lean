/-! ===== is, told, pay, chance, ask, stand ===== -/
theorem has_e {S : SS} {h : AH} {mb : Nat → Nat} {m : Nat} (M : Mach h (mb m) (S 1 m 0 0) (nS S m) (pyS S m) (wS S m)) (f : 1 ≤ S 1 m 1 0) (s : Int) : E mX1_has [aR (some (mb m)), aI s] h = some (some (aI (if 0 ≤ s ∧ s < S 1 m 1 0 then 1 else 0)), h) := by
  have := c_has (s := s) M.2.2.1
  rw [show ((nS S m : Nat) : Int) = S 1 m 1 0 by unfold nS; omega] at this
  exact this
def o_is (m k : Int) (S : SS) : Int × SS := if ¬ isM S m ∨ k < 0 ∨ 3 < k then (-1, S) else (if k = 0 ∨ k = S 1 m.toNat 0 0 ∨ (k = 2 ∧ S 1 m.toNat 0 0 = 3) then 1 else 0, S)
theorem CK_is {S : SS} (F : WF S) (m k : Int) : CK mX4_is [aI m, aI k] aI S (o_is m k S) := by
  intro h C
  have C0 := C
  obtain ⟨G, K, mb, sb, own, P⟩ := C
  have ho : isO h 4 0 = true := isO_rd G.1.1
  have ca := c_machineAt F G P m
  unfold o_is
  rw [e_X4_is]
  by_cases c1 : isM S m
  · rw [if_pos c1] at ca
    have hm : m.toNat < mS S := by unfold mS; omega
    obtain ⟨p1, p2, ⟨M, -⟩, p4⟩ := P.1 m.toNat hm
    have hoM : isO h 1 (mb m.toNat) = true := isO_rd M.2.1
    have cu := c_isUnder (o := k) M.2.1
    by_cases c2 : k < 0
    · rw [if_pos (Or.inr (Or.inl c2))]
      refine ⟨h, ?_, C0, grow_rf⟩
      simp only [↓x_X4_is_0, ↓x_X4_is_1, ↓x_X4_is_2, ↓x_X4_is_5, ↓x_X4_is_6, ↓x_X4_is_7n, ↓x_X4_is_7s, ↓x_X4_is_10, ↓x_X4_is_11, ↓x_X4_is_14, ↓x_X4_is_15, ↓x_X4_is_16, ↓x_X4_is_19, ↓x_X4_is_20, ↓x_X4_is_21, ↓x_X4_is_22, ↓x_X4_is_23, ↓x_X4_is_26, ↓x_X4_is_29, ↓x_X4_is_30, ↓x_X4_is_33, ↓x_X4_is_34, ho, ↓cKR ca, c2, ↓reduceIte]
    · by_cases c3 : 3 < k
      · rw [if_pos (Or.inr (Or.inr c3))]
        have c3' : ¬ k ≤ 3 := by omega
        refine ⟨h, ?_, C0, grow_rf⟩
        simp only [↓x_X4_is_0, ↓x_X4_is_1, ↓x_X4_is_2, ↓x_X4_is_5, ↓x_X4_is_6, ↓x_X4_is_7n, ↓x_X4_is_7s, ↓x_X4_is_10, ↓x_X4_is_11, ↓x_X4_is_14, ↓x_X4_is_15, ↓x_X4_is_16, ↓x_X4_is_19, ↓x_X4_is_20, ↓x_X4_is_21, ↓x_X4_is_22, ↓x_X4_is_23, ↓x_X4_is_26, ↓x_X4_is_29, ↓x_X4_is_30, ↓x_X4_is_33, ↓x_X4_is_34, ho, ↓cKR ca, c2, c3, c3', ↓reduceIte]
      · rw [if_neg (by omega)]
        have c3' : k ≤ 3 := by omega
        refine ⟨h, ?_, C0, grow_rf⟩
        by_cases c4 : k = 0 ∨ k = S 1 m.toNat 0 0 ∨ (k = 2 ∧ S 1 m.toNat 0 0 = 3)
        · rw [if_pos c4] at cu
          rw [if_pos c4]
          have z : ¬ (1 : Int) = 0 := by decide
          simp only [↓x_X4_is_0, ↓x_X4_is_1, ↓x_X4_is_2, ↓x_X4_is_5, ↓x_X4_is_6, ↓x_X4_is_7n, ↓x_X4_is_7s, ↓x_X4_is_10, ↓x_X4_is_11, ↓x_X4_is_14, ↓x_X4_is_15, ↓x_X4_is_16, ↓x_X4_is_19, ↓x_X4_is_20, ↓x_X4_is_21, ↓x_X4_is_22, ↓x_X4_is_23, ↓x_X4_is_26, ↓x_X4_is_29, ↓x_X4_is_30, ↓x_X4_is_33, ↓x_X4_is_34, ho, hoM, ↓cKR ca, c2, c3, c3', ↓cKI cu, z, ↓reduceIte]
        · rw [if_neg c4] at cu
          rw [if_neg c4]
          simp only [↓x_X4_is_0, ↓x_X4_is_1, ↓x_X4_is_2, ↓x_X4_is_5, ↓x_X4_is_6, ↓x_X4_is_7n, ↓x_X4_is_7s, ↓x_X4_is_10, ↓x_X4_is_11, ↓x_X4_is_14, ↓x_X4_is_15, ↓x_X4_is_16, ↓x_X4_is_19, ↓x_X4_is_20, ↓x_X4_is_21, ↓x_X4_is_22, ↓x_X4_is_23, ↓x_X4_is_26, ↓x_X4_is_29, ↓x_X4_is_30, ↓x_X4_is_33, ↓x_X4_is_34, ho, hoM, ↓cKR ca, c2, c3, c3', ↓cKI cu, ↓reduceIte]
  · rw [if_neg c1] at ca
    rw [if_pos (Or.inl c1)]
    refine ⟨h, ?_, C0, grow_rf⟩
    simp only [↓x_X4_is_0, ↓x_X4_is_1, ↓x_X4_is_2, ↓x_X4_is_5, ↓x_X4_is_6, ↓x_X4_is_7n, ↓x_X4_is_7s, ↓x_X4_is_10, ↓x_X4_is_11, ↓x_X4_is_14, ↓x_X4_is_15, ↓x_X4_is_16, ↓x_X4_is_19, ↓x_X4_is_20, ↓x_X4_is_21, ↓x_X4_is_22, ↓x_X4_is_23, ↓x_X4_is_26, ↓x_X4_is_29, ↓x_X4_is_30, ↓x_X4_is_33, ↓x_X4_is_34, ho, ↓cKR ca]
def o_told (m k : Int) (S : SS) : Int × SS := if ¬ isM S m then (-1, S) else (if k = 0 then S 1 m.toNat 0 0 else if k = 1 then S 1 m.toNat 1 0 else if k = 2 then S 1 m.toNat 6 0 else -1, S)
theorem CK_told {S : SS} (F : WF S) (m k : Int) : CK mX4_told [aI m, aI k] aI S (o_told m k S) := by
  intro h C
  have C0 := C
  obtain ⟨G, K, mb, sb, own, P⟩ := C
  have ho : isO h 4 0 = true := isO_rd G.1.1
  have ca := c_machineAt F G P m
  unfold o_told
  rw [e_X4_told]
  by_cases c1 : isM S m
  · rw [if_pos c1] at ca
    rw [if_neg (not_not_intro c1)]
    have hm : m.toNat < mS S := by unfold mS; omega
    obtain ⟨p1, p2, p3, p4⟩ := P.1 m.toNat hm
    obtain ⟨M, ⟨wd, g5, g5'⟩, g6, g7, Fr⟩ := p3
    obtain ⟨⟨k1, k2⟩, ⟨n1, n2⟩, ⟨s1, s2⟩, hpy, hw⟩ := F.2.1 m.toNat hm
    have en : ((nS S m.toNat : Nat) : Int) = S 1 m.toNat 1 0 := by unfold nS; omega
    have hoM : isO h 1 (mb m.toNat) = true := isO_rd M.2.1
    refine ⟨h, ?_, C0, grow_rf⟩
    have g0 := M.2.1
    have g1 := M.2.2.1
    rw [en] at g1
    by_cases q0 : k = 0
    · subst q0
      simp only [↓x_X4_told_0, ↓x_X4_told_1, ↓x_X4_told_2, ↓x_X4_told_5, ↓x_X4_told_6, ↓x_X4_told_7n, ↓x_X4_told_7s, ↓x_X4_told_10, ↓x_X4_told_11, ↓x_X4_told_12, ↓x_X4_told_13, ↓x_X4_told_40, ↓x_X4_told_41, ↓x_X4_told_44, ↓x_X4_told_45, ↓x_X4_told_46, ↓x_X4_told_49, ↓x_X4_told_50, ↓x_X4_told_51, ↓x_X4_told_54, ↓x_X4_told_55, ↓x_X4_told_56, ho, ↓cKR ca, ↓gK_of g0, ↓reduceIte]
    · by_cases q1 : k = 1
      · subst q1
        simp only [↓x_X4_told_0, ↓x_X4_told_1, ↓x_X4_told_2, ↓x_X4_told_5, ↓x_X4_told_6, ↓x_X4_told_7n, ↓x_X4_told_7s, ↓x_X4_told_10, ↓x_X4_told_11, ↓x_X4_told_12, ↓x_X4_told_13, ↓x_X4_told_40, ↓x_X4_told_41, ↓x_X4_told_44, ↓x_X4_told_45, ↓x_X4_told_46, ↓x_X4_told_49, ↓x_X4_told_50, ↓x_X4_told_51, ↓x_X4_told_54, ↓x_X4_told_55, ↓x_X4_told_56, ho, ↓cKR ca, ↓gK_of g1, q0, ↓reduceIte]
      · by_cases q2 : k = 2
        · subst q2
          simp only [↓x_X4_told_0, ↓x_X4_told_1, ↓x_X4_told_2, ↓x_X4_told_5, ↓x_X4_told_6, ↓x_X4_told_7n, ↓x_X4_told_7s, ↓x_X4_told_10, ↓x_X4_told_11, ↓x_X4_told_12, ↓x_X4_told_13, ↓x_X4_told_40, ↓x_X4_told_41, ↓x_X4_told_44, ↓x_X4_told_45, ↓x_X4_told_46, ↓x_X4_told_49, ↓x_X4_told_50, ↓x_X4_told_51, ↓x_X4_told_54, ↓x_X4_told_55, ↓x_X4_told_56, ho, ↓cKR ca, ↓gK_of g6, q0, q1, ↓reduceIte]
        · simp only [↓x_X4_told_0, ↓x_X4_told_1, ↓x_X4_told_2, ↓x_X4_told_5, ↓x_X4_told_6, ↓x_X4_told_7n, ↓x_X4_told_7s, ↓x_X4_told_10, ↓x_X4_told_11, ↓x_X4_told_12, ↓x_X4_told_13, ↓x_X4_told_40, ↓x_X4_told_41, ↓x_X4_told_44, ↓x_X4_told_45, ↓x_X4_told_46, ↓x_X4_told_49, ↓x_X4_told_50, ↓x_X4_told_51, ↓x_X4_told_54, ↓x_X4_told_55, ↓x_X4_told_56, ho, ↓cKR ca, q0, q1, q2, ↓reduceIte]
  · rw [if_neg c1] at ca
    rw [if_pos c1]
    refine ⟨h, ?_, C0, grow_rf⟩
    simp only [↓x_X4_told_0, ↓x_X4_told_1, ↓x_X4_told_2, ↓x_X4_told_5, ↓x_X4_told_6, ↓x_X4_told_7n, ↓x_X4_told_7s, ↓x_X4_told_10, ↓x_X4_told_11, ↓x_X4_told_12, ↓x_X4_told_13, ↓x_X4_told_40, ↓x_X4_told_41, ↓x_X4_told_44, ↓x_X4_told_45, ↓x_X4_told_46, ↓x_X4_told_49, ↓x_X4_told_50, ↓x_X4_told_51, ↓x_X4_told_54, ↓x_X4_told_55, ↓x_X4_told_56, ho, ↓cKR ca]
def o_stand (m s : Int) (S : SS) : Int × SS := if ¬ isM S m then (-1, S) else if ¬ isQ S m s then (-3, fdS S 2) else (S 1 m.toNat 6 0, ups S 1 m.toNat 6 0 s)
theorem CK_stand {S : SS} (F : WF S) (m s : Int) : CK mX4_stand [aI m, aI s] aI S (o_stand m s S) := by
  intro h C
  have C0 := C
  obtain ⟨G, K, mb, sb, own, P⟩ := C
  have ho : isO h 4 0 = true := isO_rd G.1.1
  have ca := c_machineAt F G P m
  have cf2 := c_fd2 C0
  unfold o_stand
  rw [e_X4_stand]
  by_cases c1 : isM S m
  · rw [if_pos c1] at ca
    rw [if_neg (not_not_intro c1)]
    have hm : m.toNat < mS S := by unfold mS; omega
    obtain ⟨p1, p2, p3, p4⟩ := P.1 m.toNat hm
    obtain ⟨M, ⟨wd, g5, g5'⟩, g6, g7, Fr⟩ := p3
    obtain ⟨⟨k1, k2⟩, ⟨n1, n2⟩, ⟨s1, s2⟩, hpy, hw⟩ := F.2.1 m.toNat hm
    have en : ((nS S m.toNat : Nat) : Int) = S 1 m.toNat 1 0 := by unfold nS; omega
    have hoM : isO h 1 (mb m.toNat) = true := isO_rd M.2.1
    have ch := has_e M n1 s
    by_cases c2 : isQ S m s
    · rw [if_pos c2] at ch
      rw [if_neg (not_not_intro c2)]
      have z : ¬ (1 : Int) = 0 := by decide
      refine ⟨_, ?_, (wM_fld F G K P hm (Or.inl rfl) s).ci, wlen⟩
      simp only [↓x_X4_stand_0, ↓x_X4_stand_1, ↓x_X4_stand_2, ↓x_X4_stand_5, ↓x_X4_stand_6, ↓x_X4_stand_7n, ↓x_X4_stand_7s, ↓x_X4_stand_10, ↓x_X4_stand_11, ↓x_X4_stand_12, ↓x_X4_stand_13, ↓x_X4_stand_14, ↓x_X4_stand_17, ↓x_X4_stand_20, ↓x_X4_stand_21, ↓x_X4_stand_22, ↓x_X4_stand_25, ↓x_X4_stand_26, ↓x_X4_stand_27, ↓x_X4_stand_30, ↓x_X4_stand_32, ↓x_X4_stand_33, ↓x_X4_stand_34, ↓x_X4_stand_37, ↓x_X4_stand_39, ho, hoM, ↓cKR ca, ↓cKI ch, z, not_false_eq_true, ↓gK_of g6, ↓pK_of g6, ↓reduceIte]
    · rw [if_neg c2] at ch
      rw [if_pos c2]
      refine ⟨_, ?_, K_fd C0 2⟩
      simp only [↓x_X4_stand_0, ↓x_X4_stand_1, ↓x_X4_stand_2, ↓x_X4_stand_5, ↓x_X4_stand_6, ↓x_X4_stand_7n, ↓x_X4_stand_7s, ↓x_X4_stand_10, ↓x_X4_stand_11, ↓x_X4_stand_12, ↓x_X4_stand_13, ↓x_X4_stand_14, ↓x_X4_stand_17, ↓x_X4_stand_20, ↓x_X4_stand_21, ↓x_X4_stand_22, ↓x_X4_stand_25, ↓x_X4_stand_26, ↓x_X4_stand_27, ↓x_X4_stand_30, ↓x_X4_stand_32, ↓x_X4_stand_33, ↓x_X4_stand_34, ↓x_X4_stand_37, ↓x_X4_stand_39, ho, hoM, ↓cKR ca, ↓cKI ch, ↓cKI cf2, not_true_eq_false, ↓reduceIte]
  · rw [if_neg c1] at ca
    rw [if_pos c1]
    refine ⟨h, ?_, C0, grow_rf⟩
    simp only [↓x_X4_stand_0, ↓x_X4_stand_1, ↓x_X4_stand_2, ↓x_X4_stand_5, ↓x_X4_stand_6, ↓x_X4_stand_7n, ↓x_X4_stand_7s, ↓x_X4_stand_10, ↓x_X4_stand_11, ↓x_X4_stand_12, ↓x_X4_stand_13, ↓x_X4_stand_14, ↓x_X4_stand_17, ↓x_X4_stand_20, ↓x_X4_stand_21, ↓x_X4_stand_22, ↓x_X4_stand_25, ↓x_X4_stand_26, ↓x_X4_stand_27, ↓x_X4_stand_30, ↓x_X4_stand_32, ↓x_X4_stand_33, ↓x_X4_stand_34, ↓x_X4_stand_37, ↓x_X4_stand_39, ho, ↓cKR ca]
theorem c_isPay {h : AH} {v : Int} : E mX4_isPay [aJ v] h = some (some (aI (if -50 ≤ v ∧ v ≤ 50 then 1 else 0)), h) := by
  rw [e_X4_isPay]
  by_cases n1 : v < -50
  · rw [if_neg (by omega)]
    simp only [↓x_X4_isPay_0, ↓x_X4_isPay_1, ↓x_X4_isPay_4, ↓x_X4_isPay_5, ↓x_X4_isPay_8, ↓x_X4_isPay_9, ↓x_X4_isPay_12, ↓x_X4_isPay_13, ↓x_X4_isPay_16, ↓x_X4_isPay_17, ↓x_X4_isPay_20, ↓x_X4_isPay_21_0, ↓x_X4_isPay_21_1, ↓x_X4_isPay_21, fc_lt, n1, ↓reduceIte]
  · by_cases n2 : 50 < v
    · rw [if_neg (by omega)]
      simp only [↓x_X4_isPay_0, ↓x_X4_isPay_1, ↓x_X4_isPay_4, ↓x_X4_isPay_5, ↓x_X4_isPay_8, ↓x_X4_isPay_9, ↓x_X4_isPay_12, ↓x_X4_isPay_13, ↓x_X4_isPay_16, ↓x_X4_isPay_17, ↓x_X4_isPay_20, ↓x_X4_isPay_21_0, ↓x_X4_isPay_21_1, ↓x_X4_isPay_21, fc_lt, fc_gt, n1, n2, ↓reduceIte]
    · rw [if_pos (by omega)]
      simp only [↓x_X4_isPay_0, ↓x_X4_isPay_1, ↓x_X4_isPay_4, ↓x_X4_isPay_5, ↓x_X4_isPay_8, ↓x_X4_isPay_9, ↓x_X4_isPay_12, ↓x_X4_isPay_13, ↓x_X4_isPay_16, ↓x_X4_isPay_17, ↓x_X4_isPay_20, ↓x_X4_isPay_21_0, ↓x_X4_isPay_21_1, ↓x_X4_isPay_21, fc_lt, fc_gt, n1, n2, ↓reduceIte]
def o_pay (m s v : Int) (S : SS) : Int × SS := if ¬ isM S m ∨ ¬ (-50 ≤ v ∧ v ≤ 50) then (-1, S) else if ¬ isQ S m s then (-3, fdS S 2) else if S 1 m.toNat 0 0 = 3 ∧ ¬ s = S 1 m.toNat 1 0 - 2 then (-4, S) else (1000 + S 2 m.toNat s.toNat 0, ups S 2 m.toNat s.toNat 0 v)
theorem CK_pay {S : SS} (F : WF S) (m s v : Int) : CK mX4_pay [aI m, aI s, aI v] aI S (o_pay m s v S) := by
  intro h C
  have C0 := C
  obtain ⟨G, K, mb, sb, own, P⟩ := C
  have ho : isO h 4 0 = true := isO_rd G.1.1
  have ca := c_machineAt F G P m
  have cf2 := c_fd2 C0
  have cp := c_isPay (h := h) (v := v)
  have z : ¬ (1 : Int) = 0 := by decide
  unfold o_pay
  rw [e_X4_pay]
  by_cases c1 : isM S m
  · rw [if_pos c1] at ca
    by_cases c0 : -50 ≤ v ∧ v ≤ 50
    · rw [if_pos c0] at cp
      rw [if_neg (by omega)]
      have hm : m.toNat < mS S := by unfold mS; omega
      obtain ⟨p1, p2, p3, p4⟩ := P.1 m.toNat hm
      obtain ⟨M, ⟨wd, g5, g5'⟩, g6, g7, Fr⟩ := p3
      obtain ⟨⟨k1, k2⟩, ⟨n1, n2⟩, ⟨s1, s2⟩, hpy, hw⟩ := F.2.1 m.toNat hm
      have en : ((nS S m.toNat : Nat) : Int) = S 1 m.toNat 1 0 := by unfold nS; omega
      have hoM : isO h 1 (mb m.toNat) = true := isO_rd M.2.1
      have ch := has_e M n1 s
      by_cases c2 : isQ S m s
      · rw [if_pos c2] at ch
        rw [if_neg (not_not_intro c2)]
        have cm := c_mayPay (s := s) M.2.1 M.2.2.1 (by rw [en]; omega)
        rw [en] at cm
        by_cases c3 : S 1 m.toNat 0 0 = 3 ∧ ¬ s = S 1 m.toNat 1 0 - 2
        · rw [if_neg (by omega)] at cm
          rw [if_pos c3]
          refine ⟨h, ?_, C0, grow_rf⟩
          simp only [↓x_X4_pay_0, ↓x_X4_pay_1, ↓x_X4_pay_2, ↓x_X4_pay_5, ↓x_X4_pay_7, ↓x_X4_pay_9n, ↓x_X4_pay_9s, ↓x_X4_pay_12, ↓x_X4_pay_13, ↓x_X4_pay_14, ↓x_X4_pay_17, ↓x_X4_pay_20, ↓x_X4_pay_21, ↓x_X4_pay_22, ↓x_X4_pay_24, ↓x_X4_pay_25, ↓x_X4_pay_28, ↓x_X4_pay_31, ↓x_X4_pay_32, ↓x_X4_pay_33, ↓x_X4_pay_36, ↓x_X4_pay_37, ↓x_X4_pay_39, ↓x_X4_pay_40, ↓x_X4_pay_43, ↓x_X4_pay_46, ↓x_X4_pay_48, ↓x_X4_pay_49, ↓x_X4_pay_51, ↓x_X4_pay_52, ↓x_X4_pay_55, ↓x_X4_pay_57, ↓x_X4_pay_59, ↓x_X4_pay_60, ↓x_X4_pay_61, ↓x_X4_pay_64, ↓x_X4_pay_67, ↓x_X4_pay_69, ↓x_X4_pay_70, ho, hoM, ↓cKR ca, ↓cKI cp, ↓cKI ch, ↓cKI cm, z, not_false_eq_true, not_true_eq_false, ↓reduceIte]
        · rw [if_pos (by omega)] at cm
          rw [if_neg c3]
          obtain ⟨s', rfl⟩ := Int.eq_ofNat_of_zero_le c2.1
          have hs : s' < nS S m.toNat := by unfold nS; omega
          have ct := c_payAt M hs
          have cs := c_setPay (v := v) M g5 hs
          have hb : -50 ≤ S 2 m.toNat s' 0 ∧ S 2 m.toNat s' 0 ≤ 50 := hpy s' hs
          have e1 : w32 (1000 + S 2 m.toNat s' 0) = 1000 + S 2 m.toNat s' 0 := by rw [w32_in] <;> omega
          refine ⟨_, ?_, (wM_pay F G K P hm hs v).ci, (⟨by rw [wr_len, wr_len]; omega, by rw [wr_slt, wr_slt]; omega⟩ : grow h _)⟩
          rw [Int.toNat_natCast]
          simp only [↓x_X4_pay_0, ↓x_X4_pay_1, ↓x_X4_pay_2, ↓x_X4_pay_5, ↓x_X4_pay_7, ↓x_X4_pay_9n, ↓x_X4_pay_9s, ↓x_X4_pay_12, ↓x_X4_pay_13, ↓x_X4_pay_14, ↓x_X4_pay_17, ↓x_X4_pay_20, ↓x_X4_pay_21, ↓x_X4_pay_22, ↓x_X4_pay_24, ↓x_X4_pay_25, ↓x_X4_pay_28, ↓x_X4_pay_31, ↓x_X4_pay_32, ↓x_X4_pay_33, ↓x_X4_pay_36, ↓x_X4_pay_37, ↓x_X4_pay_39, ↓x_X4_pay_40, ↓x_X4_pay_43, ↓x_X4_pay_46, ↓x_X4_pay_48, ↓x_X4_pay_49, ↓x_X4_pay_51, ↓x_X4_pay_52, ↓x_X4_pay_55, ↓x_X4_pay_57, ↓x_X4_pay_59, ↓x_X4_pay_60, ↓x_X4_pay_61, ↓x_X4_pay_64, ↓x_X4_pay_67, ↓x_X4_pay_69, ↓x_X4_pay_70, ho, hoM, ↓cKR ca, ↓cKI cp, ↓cKI ch, ↓cKI cm, ↓cKI ct, ↓cKV cs, z, e1, not_false_eq_true, ↓reduceIte]
      · rw [if_neg c2] at ch
        rw [if_pos c2]
        refine ⟨_, ?_, K_fd C0 2⟩
        simp only [↓x_X4_pay_0, ↓x_X4_pay_1, ↓x_X4_pay_2, ↓x_X4_pay_5, ↓x_X4_pay_7, ↓x_X4_pay_9n, ↓x_X4_pay_9s, ↓x_X4_pay_12, ↓x_X4_pay_13, ↓x_X4_pay_14, ↓x_X4_pay_17, ↓x_X4_pay_20, ↓x_X4_pay_21, ↓x_X4_pay_22, ↓x_X4_pay_24, ↓x_X4_pay_25, ↓x_X4_pay_28, ↓x_X4_pay_31, ↓x_X4_pay_32, ↓x_X4_pay_33, ↓x_X4_pay_36, ↓x_X4_pay_37, ↓x_X4_pay_39, ↓x_X4_pay_40, ↓x_X4_pay_43, ↓x_X4_pay_46, ↓x_X4_pay_48, ↓x_X4_pay_49, ↓x_X4_pay_51, ↓x_X4_pay_52, ↓x_X4_pay_55, ↓x_X4_pay_57, ↓x_X4_pay_59, ↓x_X4_pay_60, ↓x_X4_pay_61, ↓x_X4_pay_64, ↓x_X4_pay_67, ↓x_X4_pay_69, ↓x_X4_pay_70, ho, hoM, ↓cKR ca, ↓cKI cp, ↓cKI ch, ↓cKI cf2, z, not_true_eq_false, not_false_eq_true, ↓reduceIte]
    · rw [if_neg c0] at cp
      rw [if_pos (Or.inr c0)]
      refine ⟨h, ?_, C0, grow_rf⟩
      simp only [↓x_X4_pay_0, ↓x_X4_pay_1, ↓x_X4_pay_2, ↓x_X4_pay_5, ↓x_X4_pay_7, ↓x_X4_pay_9n, ↓x_X4_pay_9s, ↓x_X4_pay_12, ↓x_X4_pay_13, ↓x_X4_pay_14, ↓x_X4_pay_17, ↓x_X4_pay_20, ↓x_X4_pay_21, ↓x_X4_pay_22, ↓x_X4_pay_24, ↓x_X4_pay_25, ↓x_X4_pay_28, ↓x_X4_pay_31, ↓x_X4_pay_32, ↓x_X4_pay_33, ↓x_X4_pay_36, ↓x_X4_pay_37, ↓x_X4_pay_39, ↓x_X4_pay_40, ↓x_X4_pay_43, ↓x_X4_pay_46, ↓x_X4_pay_48, ↓x_X4_pay_49, ↓x_X4_pay_51, ↓x_X4_pay_52, ↓x_X4_pay_55, ↓x_X4_pay_57, ↓x_X4_pay_59, ↓x_X4_pay_60, ↓x_X4_pay_61, ↓x_X4_pay_64, ↓x_X4_pay_67, ↓x_X4_pay_69, ↓x_X4_pay_70, ho, ↓cKR ca, ↓cKI cp, not_true_eq_false, ↓reduceIte]
  · rw [if_neg c1] at ca
    rw [if_pos (Or.inl c1)]
    refine ⟨h, ?_, C0, grow_rf⟩
    simp only [↓x_X4_pay_0, ↓x_X4_pay_1, ↓x_X4_pay_2, ↓x_X4_pay_5, ↓x_X4_pay_7, ↓x_X4_pay_9n, ↓x_X4_pay_9s, ↓x_X4_pay_12, ↓x_X4_pay_13, ↓x_X4_pay_14, ↓x_X4_pay_17, ↓x_X4_pay_20, ↓x_X4_pay_21, ↓x_X4_pay_22, ↓x_X4_pay_24, ↓x_X4_pay_25, ↓x_X4_pay_28, ↓x_X4_pay_31, ↓x_X4_pay_32, ↓x_X4_pay_33, ↓x_X4_pay_36, ↓x_X4_pay_37, ↓x_X4_pay_39, ↓x_X4_pay_40, ↓x_X4_pay_43, ↓x_X4_pay_46, ↓x_X4_pay_48, ↓x_X4_pay_49, ↓x_X4_pay_51, ↓x_X4_pay_52, ↓x_X4_pay_55, ↓x_X4_pay_57, ↓x_X4_pay_59, ↓x_X4_pay_60, ↓x_X4_pay_61, ↓x_X4_pay_64, ↓x_X4_pay_67, ↓x_X4_pay_69, ↓x_X4_pay_70, ho, ↓cKR ca]
