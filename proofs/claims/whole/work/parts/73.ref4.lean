/-! ===== the reference's calls on machines ===== -/
section RM
variable {S : SS} {h : AH}
theorem c_isQ (F : WF S) (H : RB0 S h) {m : Int} (c : isM S m) (s : Int) : E mX5_isState [aR (some 0), aI m, aI s] h = some (some (aI (if isQ S m s then 1 else 0)), h) := by
  have e : ((m.toNat : Nat) : Int) = m := by omega
  have q := c_isState F H (m := m.toNat) (by unfold mS; omega) s
  rw [e] at q
  exact q
theorem c_isA (F : WF S) (H : RB0 S h) {m : Int} (c : isM S m) : E mX5_isAgeing [aR (some 0), aI m] h = some (some (aI (if 2 ≤ S 1 m.toNat 0 0 then 1 else 0)), h) := by
  have e : ((m.toNat : Nat) : Int) = m := by omega
  have q := c_isAgeing F H (m := m.toNat) (by unfold mS; omega)
  rw [e] at q
  exact q
theorem c_mayP (F : WF S) (H : RB0 S h) {m : Int} (c : isM S m) (s : Int) : E mX5_mayPay [aR (some 0), aI m, aI s] h = some (some (aI (if S 1 m.toNat 0 0 = 3 ∧ ¬ s = S 1 m.toNat 1 0 - 2 then 0 else 1)), h) := by
  have hm : m.toNat < mS S := by unfold mS; omega
  obtain ⟨⟨n1, n5⟩, en, -, -⟩ := F.m hm
  have q11 := H.f 11 rfl
  have q12 := H.f 12 rfl
  have q6 := H.r6 hm
  have q7 := H.r7 hm
  have m0 := c.1
  have e1 : w32 (S 1 m.toNat 1 0 - 2) = S 1 m.toNat 1 0 - 2 := by rw [w32_in] <;> omega
  have n0 : (0 : Int) = 0 ∨ (0 : Int) = 1 := Or.inl rfl
  have n1 : (1 : Int) = 0 ∨ (1 : Int) = 1 := Or.inr rfl
  rw [e_X5_mayPay]
  by_cases c1 : S 1 m.toNat 0 0 = 3
  · by_cases c2 : s = S 1 m.toNat 1 0 - 2
    · rw [if_neg (fun z => z.2 c2)]
      simp only [↓x_X5_mayPay_0, ↓x_X5_mayPay_1, ↓x_X5_mayPay_4, ↓x_X5_mayPay_5, ↓x_X5_mayPay_6, ↓x_X5_mayPay_7, ↓x_X5_mayPay_10, ↓x_X5_mayPay_11, ↓x_X5_mayPay_12, ↓x_X5_mayPay_15, ↓x_X5_mayPay_16, ↓x_X5_mayPay_17, ↓x_X5_mayPay_18, ↓x_X5_mayPay_19, ↓x_X5_mayPay_22, ↓x_X5_mayPay_23, ↓x_X5_mayPay_26, ↓x_X5_mayPay_27_0, ↓x_X5_mayPay_27_1, ↓x_X5_mayPay_27, ↓gK_of q11, ↓gK_of q12, m0, ↓gK_of q6, ↓gK_of q7, c1, c2, e1, n1, not_true_eq_false, ↓reduceIte]
    · rw [if_pos ⟨c1, c2⟩]
      simp only [↓x_X5_mayPay_0, ↓x_X5_mayPay_1, ↓x_X5_mayPay_4, ↓x_X5_mayPay_5, ↓x_X5_mayPay_6, ↓x_X5_mayPay_7, ↓x_X5_mayPay_10, ↓x_X5_mayPay_11, ↓x_X5_mayPay_12, ↓x_X5_mayPay_15, ↓x_X5_mayPay_16, ↓x_X5_mayPay_17, ↓x_X5_mayPay_18, ↓x_X5_mayPay_19, ↓x_X5_mayPay_22, ↓x_X5_mayPay_23, ↓x_X5_mayPay_26, ↓x_X5_mayPay_27_0, ↓x_X5_mayPay_27_1, ↓x_X5_mayPay_27, ↓gK_of q11, ↓gK_of q12, m0, ↓gK_of q6, ↓gK_of q7, c1, c2, e1, n0, not_true_eq_false, not_false_eq_true, ↓reduceIte]
  · rw [if_neg (fun z => c1 z.1)]
    simp only [↓x_X5_mayPay_0, ↓x_X5_mayPay_1, ↓x_X5_mayPay_4, ↓x_X5_mayPay_5, ↓x_X5_mayPay_6, ↓x_X5_mayPay_7, ↓x_X5_mayPay_10, ↓x_X5_mayPay_11, ↓x_X5_mayPay_12, ↓x_X5_mayPay_15, ↓x_X5_mayPay_16, ↓x_X5_mayPay_17, ↓x_X5_mayPay_18, ↓x_X5_mayPay_19, ↓x_X5_mayPay_22, ↓x_X5_mayPay_23, ↓x_X5_mayPay_26, ↓x_X5_mayPay_27_0, ↓x_X5_mayPay_27_1, ↓x_X5_mayPay_27, ↓gK_of q11, m0, ↓gK_of q6, c1, n1, not_false_eq_true, ↓reduceIte]
theorem w5a {m : Int} (hm : 0 ≤ m ∧ m < 16) : w32 (5 * m) = 5 * m := by rw [w32_in] <;> omega
theorem w5b {m s : Int} (hm : 0 ≤ m ∧ m < 16) (hs : 0 ≤ s ∧ s < 5) : w32 (5 * m + s) = 5 * m + s := by rw [w32_in] <;> omega
theorem w25a {m : Int} (hm : 0 ≤ m ∧ m < 16) : w32 (25 * m) = 25 * m := by rw [w32_in] <;> omega
theorem w5s {s : Int} (hs : 0 ≤ s ∧ s < 5) : w32 (5 * s) = 5 * s := by rw [w32_in] <;> omega
theorem w25b {m s : Int} (hm : 0 ≤ m ∧ m < 16) (hs : 0 ≤ s ∧ s < 5) : w32 (25 * m + 5 * s) = 25 * m + 5 * s := by rw [w32_in] <;> omega
theorem w25c {m s t : Int} (hm : 0 ≤ m ∧ m < 16) (hs : 0 ≤ s ∧ s < 5) (ht : 0 ≤ t ∧ t ≤ 5) : w32 (25 * m + 5 * s + t) = 25 * m + 5 * s + t := by rw [w32_in] <;> omega
theorem n5 {m s : Int} (hm : 0 ≤ m ∧ m < 16) (hs : 0 ≤ s ∧ s < 5) : 0 ≤ 5 * m + s ∧ (5 * m + s).toNat = 5 * m.toNat + s.toNat := by omega
theorem n25 {m s t : Int} (hm : 0 ≤ m ∧ m < 16) (hs : 0 ≤ s ∧ s < 5) (ht : 0 ≤ t ∧ t < 5) : 0 ≤ 25 * m + 5 * s + t ∧ (25 * m + 5 * s + t).toNat = 25 * m.toNat + 5 * s.toNat + t.toNat := by omega
theorem RB0.pv (F : WF S) (H : RB0 S h) {m s : Int} (c : isM S m) (c2 : isQ S m s) : rd h 10 9 (5 * m + s).toNat = some (aI (S 2 m.toNat s.toNat 0)) ∧ 0 ≤ 5 * m + s ∧ (0 ≤ m ∧ m < 16) ∧ (0 ≤ s ∧ s < 5) := by
  have hm : m.toNat < mS S := by unfold mS; omega
  obtain ⟨⟨n1, n5'⟩, en, -, -⟩ := F.m hm
  have f6 := F.1.1
  have q := H.r9 hm (s := s.toNat) (by omega) (by omega)
  rw [(n5 (m := m) (s := s) ⟨by omega, by omega⟩ ⟨by omega, by omega⟩).2]
  exact ⟨q, by omega, ⟨by omega, by omega⟩, by omega, by omega⟩
theorem RB0.wv (F : WF S) (H : RB0 S h) {m s t : Int} (c : isM S m) (c2 : isQ S m s) (c3 : isQ S m t) : rd h 10 10 (25 * m + 5 * s + t).toNat = some (aI (S 3 m.toNat s.toNat t.toNat)) ∧ 0 ≤ 25 * m + 5 * s + t ∧ (0 ≤ t ∧ t < 5) := by
  have hm : m.toNat < mS S := by unfold mS; omega
  obtain ⟨⟨n1, n5'⟩, en, -, -⟩ := F.m hm
  have f6 := F.1.1
  have q := H.r10 hm (s := s.toNat) (t := t.toNat) (by omega) (by omega) (by omega)
  rw [if_pos (by omega)] at q
  rw [(n25 (m := m) (s := s) (t := t) ⟨by omega, by omega⟩ ⟨by omega, by omega⟩ ⟨by omega, by omega⟩).2]
  exact ⟨q, by omega, by omega, by omega⟩
end RM
theorem sum5 {f : Nat → Int} {n : Nat} (hn : n ≤ 5) : sumI (fun t => if t < n then f t else 0) 5 = sumI f n := by
  match n, hn with
  | 0, _ => simp [sumI]
  | 1, _ => simp [sumI]
  | 2, _ => simp [sumI]
  | 3, _ => simp [sumI]
  | 4, _ => simp [sumI]
  | 5, _ => simp [sumI]
section SUM5
variable {S : SS} {h : AH}
theorem lr_sum (F : WF S) (H : RB0 S h) {m s : Int} (c : isM S m) (c2 : isQ S m s) : ∀ (d t : Nat), t + d = 5 → X mX5_sum 5 [aR (some 0), aI m, aI s, aI (sumI (fun t => if t < nS S m.toNat then S 3 m.toNat s.toNat t else 0) t), aI t] [] h = some (some (aI (sumI (fun t => if t < nS S m.toNat then S 3 m.toNat s.toNat t else 0) 5)), h) := by
  have hm : m.toNat < mS S := by unfold mS; omega
  obtain ⟨⟨n1, n5'⟩, en, hpy, hw⟩ := F.m hm
  have f6 := F.1.1
  have hm16 : 0 ≤ m ∧ m < 16 := by omega
  have hs5 : 0 ≤ s ∧ s < 5 := by omega
  have q15 := H.f 15 rfl
  have hb : ∀ j, 0 ≤ (if j < nS S m.toNat then S 3 m.toNat s.toNat j else 0) ∧ (if j < nS S m.toNat then S 3 m.toNat s.toNat j else 0) ≤ 10 := fun j => by
    by_cases q : j < nS S m.toNat
    · rw [if_pos q]; exact (hw s.toNat (by omega)).1 j q
    · rw [if_neg q]; decide
  intro d
  induction d with
  | zero =>
    intro t hd
    have e : t = 5 := by omega
    subst e
    have n1 : (5 : Int) ≤ ((5 : Nat) : Int) := by decide
    rw [x_X5_sum_5]
    simp only [↓x_X5_sum_0, ↓x_X5_sum_1, ↓x_X5_sum_2, ↓x_X5_sum_3, ↓x_X5_sum_7, ↓x_X5_sum_8, ↓x_X5_sum_11, ↓x_X5_sum_12, ↓x_X5_sum_13, ↓x_X5_sum_16, ↓x_X5_sum_18, ↓x_X5_sum_19, ↓x_X5_sum_20, ↓x_X5_sum_21, ↓x_X5_sum_22, ↓x_X5_sum_23, ↓x_X5_sum_24, ↓x_X5_sum_26, ↓x_X5_sum_27, ↓x_X5_sum_28, ↓x_X5_sum_29, ↓x_X5_sum_30, ↓x_X5_sum_33, ↓x_X5_sum_36, ↓x_X5_sum_37, n1, ↓reduceIte]
  | succ d ih =>
    intro t hd
    have n3 : ¬ (5 : Int) ≤ (t : Int) := by omega
    have ht5 : t ≤ 1000 := by omega
    have q := H.r10 hm (s := s.toNat) (t := t) (by omega) (by omega) (by omega)
    obtain ⟨j0, je⟩ := n25 hm16 hs5 (t := (t : Int)) ⟨by omega, by omega⟩
    rw [Int.toNat_natCast] at je
    rw [← je] at q
    have b1 := sumI_b (f := fun t => if t < nS S m.toNat then S 3 m.toNat s.toNat t else 0) (n := t) (lo := 0) (hi := 10) (fun j _ => hb j)
    have b2 := hb t
    have hw25 := w25c (t := (t : Int)) hm16 hs5 ⟨by omega, by omega⟩
    rw [← ih (t + 1) (by omega), x_X5_sum_5, sumI]
    have e6 : w32 (sumI (fun t => if t < nS S m.toNat then S 3 m.toNat s.toNat t else 0) t + (if t < nS S m.toNat then S 3 m.toNat s.toNat t else 0)) = sumI (fun t => if t < nS S m.toNat then S 3 m.toNat s.toNat t else 0) t + (if t < nS S m.toNat then S 3 m.toNat s.toNat t else 0) := by
      clear hw25
      generalize sumI (fun t => if t < nS S m.toNat then S 3 m.toNat s.toNat t else 0) t = x at *
      generalize (if t < nS S m.toNat then S 3 m.toNat s.toNat t else 0) = y at *
      rw [w32_in] <;> omega
    simp only [↓x_X5_sum_0, ↓x_X5_sum_1, ↓x_X5_sum_2, ↓x_X5_sum_3, ↓x_X5_sum_7, ↓x_X5_sum_8, ↓x_X5_sum_11, ↓x_X5_sum_12, ↓x_X5_sum_13, ↓x_X5_sum_16, ↓x_X5_sum_18, ↓x_X5_sum_19, ↓x_X5_sum_20, ↓x_X5_sum_21, ↓x_X5_sum_22, ↓x_X5_sum_23, ↓x_X5_sum_24, ↓x_X5_sum_26, ↓x_X5_sum_27, ↓x_X5_sum_28, ↓x_X5_sum_29, ↓x_X5_sum_30, ↓x_X5_sum_33, ↓x_X5_sum_36, ↓x_X5_sum_37, ↓gK_of q15, n3, w25a hm16, w5s hs5, w25b hm16 hs5, hw25, j0, ↓gK_of q, e6, w32_s ht5, ↓reduceIte]
theorem c_sum (F : WF S) (H : RB0 S h) {m s : Int} (c : isM S m) (c2 : isQ S m s) : E mX5_sum [aR (some 0), aI m, aI s] h = some (some (aI (sumI (wS S m.toNat s.toNat) (nS S m.toNat))), h) := by
  have hm : m.toNat < mS S := by unfold mS; omega
  have l := lr_sum F H c c2 5 0 (by omega)
  rw [sum5 (F.m hm).1.2] at l
  rw [e_X5_sum]
  simp only [↓x_X5_sum_0, ↓x_X5_sum_1, ↓x_X5_sum_2, ↓x_X5_sum_3, ↓x_X5_sum_7, ↓x_X5_sum_8, ↓x_X5_sum_11, ↓x_X5_sum_12, ↓x_X5_sum_13, ↓x_X5_sum_16, ↓x_X5_sum_18, ↓x_X5_sum_19, ↓x_X5_sum_20, ↓x_X5_sum_21, ↓x_X5_sum_22, ↓x_X5_sum_23, ↓x_X5_sum_24, ↓x_X5_sum_26, ↓x_X5_sum_27, ↓x_X5_sum_28, ↓x_X5_sum_29, ↓x_X5_sum_30, ↓x_X5_sum_33, ↓x_X5_sum_36, ↓x_X5_sum_37]
  exact l
end SUM5
theorem CR_is {S : SS} (F : WF S) (m k : Int) : CR mX5_is [aI m, aI k] aI S (o_is m k S) := by
  intro h H
  have ho : isO h 5 0 = true := isO_rd (H.1.f 4 rfl)
  have ca := c_isMachine F H.1 m
  have ci := c_in (h := h) (v := k) (lo := 0) (hi := 3)
  have z : ¬ (1 : Int) = 0 := by decide
  unfold o_is
  rw [e_X5_is]
  by_cases c1 : isM S m
  · rw [if_pos c1] at ca
    by_cases c2 : 0 ≤ k ∧ k ≤ 3
    · rw [if_pos c2] at ci
      rw [if_neg (by omega)]
      have hm : m.toNat < mS S := by unfold mS; omega
      have q11 := H.1.f 11 rfl
      have q6 := H.1.r6 hm
      have m0 := c1.1
      refine ⟨h, ?_, H, L0.rf⟩
      by_cases d0 : k = 0
      · rw [if_pos (Or.inl d0)]
        simp only [↓x_X5_is_0, ↓x_X5_is_1, ↓x_X5_is_2, ↓x_X5_is_5, ↓x_X5_is_8, ↓x_X5_is_9, ↓x_X5_is_10, ↓x_X5_is_11, ↓x_X5_is_14, ↓x_X5_is_17, ↓x_X5_is_20, ↓x_X5_is_21, ↓x_X5_is_22, ↓x_X5_is_23, ↓x_X5_is_26, ↓x_X5_is_27, ↓x_X5_is_28, ↓x_X5_is_29, ↓x_X5_is_30, ↓x_X5_is_33, ↓x_X5_is_34, ↓x_X5_is_35, ↓x_X5_is_38, ↓x_X5_is_39, ↓x_X5_is_40, ↓x_X5_is_43, ↓x_X5_is_44, ↓x_X5_is_45, ↓x_X5_is_48, ↓x_X5_is_49, ↓x_X5_is_52, ↓x_X5_is_53, ho, ↓cKI ca, z, ↓cKI ci, ↓gK_of q11, m0, ↓gK_of q6, d0, not_false_eq_true, ↓reduceIte]
      · by_cases d1 : S 1 m.toNat 0 0 = k
        · rw [if_pos (Or.inr (Or.inl d1.symm))]
          simp only [↓x_X5_is_0, ↓x_X5_is_1, ↓x_X5_is_2, ↓x_X5_is_5, ↓x_X5_is_8, ↓x_X5_is_9, ↓x_X5_is_10, ↓x_X5_is_11, ↓x_X5_is_14, ↓x_X5_is_17, ↓x_X5_is_20, ↓x_X5_is_21, ↓x_X5_is_22, ↓x_X5_is_23, ↓x_X5_is_26, ↓x_X5_is_27, ↓x_X5_is_28, ↓x_X5_is_29, ↓x_X5_is_30, ↓x_X5_is_33, ↓x_X5_is_34, ↓x_X5_is_35, ↓x_X5_is_38, ↓x_X5_is_39, ↓x_X5_is_40, ↓x_X5_is_43, ↓x_X5_is_44, ↓x_X5_is_45, ↓x_X5_is_48, ↓x_X5_is_49, ↓x_X5_is_52, ↓x_X5_is_53, ho, ↓cKI ca, z, ↓cKI ci, ↓gK_of q11, m0, ↓gK_of q6, d0, d1, not_false_eq_true, ↓reduceIte]
        · by_cases d2 : k = 2
          · by_cases d3 : S 1 m.toNat 0 0 = 3
            · rw [if_pos (Or.inr (Or.inr ⟨d2, d3⟩))]
              simp only [↓x_X5_is_0, ↓x_X5_is_1, ↓x_X5_is_2, ↓x_X5_is_5, ↓x_X5_is_8, ↓x_X5_is_9, ↓x_X5_is_10, ↓x_X5_is_11, ↓x_X5_is_14, ↓x_X5_is_17, ↓x_X5_is_20, ↓x_X5_is_21, ↓x_X5_is_22, ↓x_X5_is_23, ↓x_X5_is_26, ↓x_X5_is_27, ↓x_X5_is_28, ↓x_X5_is_29, ↓x_X5_is_30, ↓x_X5_is_33, ↓x_X5_is_34, ↓x_X5_is_35, ↓x_X5_is_38, ↓x_X5_is_39, ↓x_X5_is_40, ↓x_X5_is_43, ↓x_X5_is_44, ↓x_X5_is_45, ↓x_X5_is_48, ↓x_X5_is_49, ↓x_X5_is_52, ↓x_X5_is_53, ho, ↓cKI ca, z, ↓cKI ci, ↓gK_of q11, m0, ↓gK_of q6, d0, d1, not_false_eq_true, ↓reduceIte]
              simp only [↓x_X5_is_0, ↓x_X5_is_1, ↓x_X5_is_2, ↓x_X5_is_5, ↓x_X5_is_8, ↓x_X5_is_9, ↓x_X5_is_10, ↓x_X5_is_11, ↓x_X5_is_14, ↓x_X5_is_17, ↓x_X5_is_20, ↓x_X5_is_21, ↓x_X5_is_22, ↓x_X5_is_23, ↓x_X5_is_26, ↓x_X5_is_27, ↓x_X5_is_28, ↓x_X5_is_29, ↓x_X5_is_30, ↓x_X5_is_33, ↓x_X5_is_34, ↓x_X5_is_35, ↓x_X5_is_38, ↓x_X5_is_39, ↓x_X5_is_40, ↓x_X5_is_43, ↓x_X5_is_44, ↓x_X5_is_45, ↓x_X5_is_48, ↓x_X5_is_49, ↓x_X5_is_52, ↓x_X5_is_53, d2, d3, not_true_eq_false, ↓reduceIte]
            · rw [if_neg (by omega)]
              simp only [↓x_X5_is_0, ↓x_X5_is_1, ↓x_X5_is_2, ↓x_X5_is_5, ↓x_X5_is_8, ↓x_X5_is_9, ↓x_X5_is_10, ↓x_X5_is_11, ↓x_X5_is_14, ↓x_X5_is_17, ↓x_X5_is_20, ↓x_X5_is_21, ↓x_X5_is_22, ↓x_X5_is_23, ↓x_X5_is_26, ↓x_X5_is_27, ↓x_X5_is_28, ↓x_X5_is_29, ↓x_X5_is_30, ↓x_X5_is_33, ↓x_X5_is_34, ↓x_X5_is_35, ↓x_X5_is_38, ↓x_X5_is_39, ↓x_X5_is_40, ↓x_X5_is_43, ↓x_X5_is_44, ↓x_X5_is_45, ↓x_X5_is_48, ↓x_X5_is_49, ↓x_X5_is_52, ↓x_X5_is_53, ho, ↓cKI ca, z, ↓cKI ci, ↓gK_of q11, m0, ↓gK_of q6, d0, d1, d3, not_false_eq_true, ↓reduceIte]
              simp only [↓x_X5_is_0, ↓x_X5_is_1, ↓x_X5_is_2, ↓x_X5_is_5, ↓x_X5_is_8, ↓x_X5_is_9, ↓x_X5_is_10, ↓x_X5_is_11, ↓x_X5_is_14, ↓x_X5_is_17, ↓x_X5_is_20, ↓x_X5_is_21, ↓x_X5_is_22, ↓x_X5_is_23, ↓x_X5_is_26, ↓x_X5_is_27, ↓x_X5_is_28, ↓x_X5_is_29, ↓x_X5_is_30, ↓x_X5_is_33, ↓x_X5_is_34, ↓x_X5_is_35, ↓x_X5_is_38, ↓x_X5_is_39, ↓x_X5_is_40, ↓x_X5_is_43, ↓x_X5_is_44, ↓x_X5_is_45, ↓x_X5_is_48, ↓x_X5_is_49, ↓x_X5_is_52, ↓x_X5_is_53, d2, d3, not_true_eq_false, not_false_eq_true, ↓reduceIte]
          · rw [if_neg (by omega)]
            simp only [↓x_X5_is_0, ↓x_X5_is_1, ↓x_X5_is_2, ↓x_X5_is_5, ↓x_X5_is_8, ↓x_X5_is_9, ↓x_X5_is_10, ↓x_X5_is_11, ↓x_X5_is_14, ↓x_X5_is_17, ↓x_X5_is_20, ↓x_X5_is_21, ↓x_X5_is_22, ↓x_X5_is_23, ↓x_X5_is_26, ↓x_X5_is_27, ↓x_X5_is_28, ↓x_X5_is_29, ↓x_X5_is_30, ↓x_X5_is_33, ↓x_X5_is_34, ↓x_X5_is_35, ↓x_X5_is_38, ↓x_X5_is_39, ↓x_X5_is_40, ↓x_X5_is_43, ↓x_X5_is_44, ↓x_X5_is_45, ↓x_X5_is_48, ↓x_X5_is_49, ↓x_X5_is_52, ↓x_X5_is_53, ho, ↓cKI ca, z, ↓cKI ci, ↓gK_of q11, m0, ↓gK_of q6, d0, d1, d2, not_false_eq_true, ↓reduceIte]
    · rw [if_neg c2] at ci
      rw [if_pos (by omega)]
      refine ⟨h, ?_, H, L0.rf⟩
      simp only [↓x_X5_is_0, ↓x_X5_is_1, ↓x_X5_is_2, ↓x_X5_is_5, ↓x_X5_is_8, ↓x_X5_is_9, ↓x_X5_is_10, ↓x_X5_is_11, ↓x_X5_is_14, ↓x_X5_is_17, ↓x_X5_is_20, ↓x_X5_is_21, ↓x_X5_is_22, ↓x_X5_is_23, ↓x_X5_is_26, ↓x_X5_is_27, ↓x_X5_is_28, ↓x_X5_is_29, ↓x_X5_is_30, ↓x_X5_is_33, ↓x_X5_is_34, ↓x_X5_is_35, ↓x_X5_is_38, ↓x_X5_is_39, ↓x_X5_is_40, ↓x_X5_is_43, ↓x_X5_is_44, ↓x_X5_is_45, ↓x_X5_is_48, ↓x_X5_is_49, ↓x_X5_is_52, ↓x_X5_is_53, ho, ↓cKI ca, z, ↓cKI ci, not_true_eq_false, ↓reduceIte]
  · rw [if_neg c1] at ca
    rw [if_pos (Or.inl c1)]
    refine ⟨h, ?_, H, L0.rf⟩
    simp only [↓x_X5_is_0, ↓x_X5_is_1, ↓x_X5_is_2, ↓x_X5_is_5, ↓x_X5_is_8, ↓x_X5_is_9, ↓x_X5_is_10, ↓x_X5_is_11, ↓x_X5_is_14, ↓x_X5_is_17, ↓x_X5_is_20, ↓x_X5_is_21, ↓x_X5_is_22, ↓x_X5_is_23, ↓x_X5_is_26, ↓x_X5_is_27, ↓x_X5_is_28, ↓x_X5_is_29, ↓x_X5_is_30, ↓x_X5_is_33, ↓x_X5_is_34, ↓x_X5_is_35, ↓x_X5_is_38, ↓x_X5_is_39, ↓x_X5_is_40, ↓x_X5_is_43, ↓x_X5_is_44, ↓x_X5_is_45, ↓x_X5_is_48, ↓x_X5_is_49, ↓x_X5_is_52, ↓x_X5_is_53, ho, ↓cKI ca, ↓reduceIte]
theorem CR_told {S : SS} (F : WF S) (m k : Int) : CR mX5_told [aI m, aI k] aI S (o_told m k S) := by
  intro h H
  have ho : isO h 5 0 = true := isO_rd (H.1.f 4 rfl)
  have ca := c_isMachine F H.1 m
  have ci := c_in (h := h) (v := k) (lo := 0) (hi := 2)
  have z : ¬ (1 : Int) = 0 := by decide
  unfold o_told
  rw [e_X5_told]
  by_cases c1 : isM S m
  · rw [if_pos c1] at ca
    rw [if_neg (not_not_intro c1)]
    have hm : m.toNat < mS S := by unfold mS; omega
    have q11 := H.1.f 11 rfl
    have q12 := H.1.f 12 rfl
    have q13 := H.1.f 13 rfl
    have q6 := H.1.r6 hm
    have q7 := H.1.r7 hm
    have q8 := H.1.r8 hm
    have m0 := c1.1
    refine ⟨h, ?_, H, L0.rf⟩
    by_cases d0 : k = 0
    · subst d0
      rw [if_pos (by decide)] at ci
      simp only [↓x_X5_told_0, ↓x_X5_told_1, ↓x_X5_told_2, ↓x_X5_told_5, ↓x_X5_told_8, ↓x_X5_told_9, ↓x_X5_told_10, ↓x_X5_told_11, ↓x_X5_told_14, ↓x_X5_told_17, ↓x_X5_told_20, ↓x_X5_told_21, ↓x_X5_told_24, ↓x_X5_told_25, ↓x_X5_told_28, ↓x_X5_told_29, ↓x_X5_told_32, ↓x_X5_told_33, ↓x_X5_told_34, ↓x_X5_told_37, ↓x_X5_told_38, ↓x_X5_told_39, ↓x_X5_told_42, ↓x_X5_told_43, ↓x_X5_told_46, ↓x_X5_told_47, ↓x_X5_told_48, ↓x_X5_told_51, ↓x_X5_told_52, ↓x_X5_told_55, ↓x_X5_told_56, ↓x_X5_told_57, ho, ↓cKI ca, z, ↓cKI ci, ↓gK_of q11, m0, ↓gK_of q6, not_true_eq_false, not_false_eq_true, ↓reduceIte]
    · rw [if_neg d0]
      by_cases d1 : k = 1
      · subst d1
        rw [if_pos (by decide)] at ci
        simp only [↓x_X5_told_0, ↓x_X5_told_1, ↓x_X5_told_2, ↓x_X5_told_5, ↓x_X5_told_8, ↓x_X5_told_9, ↓x_X5_told_10, ↓x_X5_told_11, ↓x_X5_told_14, ↓x_X5_told_17, ↓x_X5_told_20, ↓x_X5_told_21, ↓x_X5_told_24, ↓x_X5_told_25, ↓x_X5_told_28, ↓x_X5_told_29, ↓x_X5_told_32, ↓x_X5_told_33, ↓x_X5_told_34, ↓x_X5_told_37, ↓x_X5_told_38, ↓x_X5_told_39, ↓x_X5_told_42, ↓x_X5_told_43, ↓x_X5_told_46, ↓x_X5_told_47, ↓x_X5_told_48, ↓x_X5_told_51, ↓x_X5_told_52, ↓x_X5_told_55, ↓x_X5_told_56, ↓x_X5_told_57, ho, ↓cKI ca, z, ↓cKI ci, ↓gK_of q12, m0, ↓gK_of q7, not_true_eq_false, not_false_eq_true, ↓reduceIte]
      · rw [if_neg d1]
        by_cases d2 : k = 2
        · rw [if_pos (by omega)] at ci
          rw [if_pos d2]
          simp only [↓x_X5_told_0, ↓x_X5_told_1, ↓x_X5_told_2, ↓x_X5_told_5, ↓x_X5_told_8, ↓x_X5_told_9, ↓x_X5_told_10, ↓x_X5_told_11, ↓x_X5_told_14, ↓x_X5_told_17, ↓x_X5_told_20, ↓x_X5_told_21, ↓x_X5_told_24, ↓x_X5_told_25, ↓x_X5_told_28, ↓x_X5_told_29, ↓x_X5_told_32, ↓x_X5_told_33, ↓x_X5_told_34, ↓x_X5_told_37, ↓x_X5_told_38, ↓x_X5_told_39, ↓x_X5_told_42, ↓x_X5_told_43, ↓x_X5_told_46, ↓x_X5_told_47, ↓x_X5_told_48, ↓x_X5_told_51, ↓x_X5_told_52, ↓x_X5_told_55, ↓x_X5_told_56, ↓x_X5_told_57, ho, ↓cKI ca, z, ↓cKI ci, ↓gK_of q13, m0, ↓gK_of q8, d0, d1, not_true_eq_false, not_false_eq_true, ↓reduceIte]
        · rw [if_neg (by omega)] at ci
          rw [if_neg d2]
          simp only [↓x_X5_told_0, ↓x_X5_told_1, ↓x_X5_told_2, ↓x_X5_told_5, ↓x_X5_told_8, ↓x_X5_told_9, ↓x_X5_told_10, ↓x_X5_told_11, ↓x_X5_told_14, ↓x_X5_told_17, ↓x_X5_told_20, ↓x_X5_told_21, ↓x_X5_told_24, ↓x_X5_told_25, ↓x_X5_told_28, ↓x_X5_told_29, ↓x_X5_told_32, ↓x_X5_told_33, ↓x_X5_told_34, ↓x_X5_told_37, ↓x_X5_told_38, ↓x_X5_told_39, ↓x_X5_told_42, ↓x_X5_told_43, ↓x_X5_told_46, ↓x_X5_told_47, ↓x_X5_told_48, ↓x_X5_told_51, ↓x_X5_told_52, ↓x_X5_told_55, ↓x_X5_told_56, ↓x_X5_told_57, ho, ↓cKI ca, z, ↓cKI ci, not_true_eq_false, not_false_eq_true, ↓reduceIte]
  · rw [if_neg c1] at ca
    rw [if_pos c1]
    refine ⟨h, ?_, H, L0.rf⟩
    simp only [↓x_X5_told_0, ↓x_X5_told_1, ↓x_X5_told_2, ↓x_X5_told_5, ↓x_X5_told_8, ↓x_X5_told_9, ↓x_X5_told_10, ↓x_X5_told_11, ↓x_X5_told_14, ↓x_X5_told_17, ↓x_X5_told_20, ↓x_X5_told_21, ↓x_X5_told_24, ↓x_X5_told_25, ↓x_X5_told_28, ↓x_X5_told_29, ↓x_X5_told_32, ↓x_X5_told_33, ↓x_X5_told_34, ↓x_X5_told_37, ↓x_X5_told_38, ↓x_X5_told_39, ↓x_X5_told_42, ↓x_X5_told_43, ↓x_X5_told_46, ↓x_X5_told_47, ↓x_X5_told_48, ↓x_X5_told_51, ↓x_X5_told_52, ↓x_X5_told_55, ↓x_X5_told_56, ↓x_X5_told_57, ho, ↓cKI ca, ↓reduceIte]
theorem CR_stand {S : SS} (F : WF S) (m s : Int) : CR mX5_stand [aI m, aI s] aI S (o_stand m s S) := by
  intro h H
  have ho : isO h 5 0 = true := isO_rd (H.1.f 4 rfl)
  have ca := c_isMachine F H.1 m
  have cf2 := m_fd2 H.1
  have z : ¬ (1 : Int) = 0 := by decide
  unfold o_stand
  rw [e_X5_stand]
  by_cases c1 : isM S m
  · rw [if_pos c1] at ca
    rw [if_neg (not_not_intro c1)]
    have hm : m.toNat < mS S := by unfold mS; omega
    have f6 := F.1.1
    have q13 := H.1.f 13 rfl
    have q8 := H.1.r8 hm
    have m0 := c1.1
    have cs := c_isQ F H.1 c1 s
    by_cases c2 : isQ S m s
    · rw [if_pos c2] at cs
      rw [if_neg (not_not_intro c2)]
      refine ⟨wr h 10 8 m.toNat (aI s), ?_, H.w (H.1.a8 m.toNat (by unfold mS at hm; omega) s) (Or.inl (by decide)) rfl, L0.w⟩
      simp only [↓x_X5_stand_0, ↓x_X5_stand_1, ↓x_X5_stand_2, ↓x_X5_stand_5, ↓x_X5_stand_8, ↓x_X5_stand_9, ↓x_X5_stand_10, ↓x_X5_stand_11, ↓x_X5_stand_12, ↓x_X5_stand_13, ↓x_X5_stand_16, ↓x_X5_stand_19, ↓x_X5_stand_20, ↓x_X5_stand_21, ↓x_X5_stand_24, ↓x_X5_stand_25, ↓x_X5_stand_26, ↓x_X5_stand_29, ↓x_X5_stand_30, ↓x_X5_stand_31, ↓x_X5_stand_32, ↓x_X5_stand_33, ↓x_X5_stand_36, ↓x_X5_stand_37, ↓x_X5_stand_38, ↓x_X5_stand_39, ↓x_X5_stand_40, ho, ↓cKI ca, z, ↓cKI cs, ↓gK_of q13, m0, ↓gK_of q8, pK_of q8, not_false_eq_true, ↓reduceIte]
    · rw [if_neg c2] at cs
      rw [if_pos c2]
      refine ⟨_, ?_, H.mt (f := 2) (by decide)⟩
      simp only [↓x_X5_stand_0, ↓x_X5_stand_1, ↓x_X5_stand_2, ↓x_X5_stand_5, ↓x_X5_stand_8, ↓x_X5_stand_9, ↓x_X5_stand_10, ↓x_X5_stand_11, ↓x_X5_stand_12, ↓x_X5_stand_13, ↓x_X5_stand_16, ↓x_X5_stand_19, ↓x_X5_stand_20, ↓x_X5_stand_21, ↓x_X5_stand_24, ↓x_X5_stand_25, ↓x_X5_stand_26, ↓x_X5_stand_29, ↓x_X5_stand_30, ↓x_X5_stand_31, ↓x_X5_stand_32, ↓x_X5_stand_33, ↓x_X5_stand_36, ↓x_X5_stand_37, ↓x_X5_stand_38, ↓x_X5_stand_39, ↓x_X5_stand_40, ho, ↓cKI ca, z, ↓cKI cs, ↓cKI cf2, not_true_eq_false, not_false_eq_true, ↓reduceIte]
  · rw [if_neg c1] at ca
    rw [if_pos c1]
    refine ⟨h, ?_, H, L0.rf⟩
    simp only [↓x_X5_stand_0, ↓x_X5_stand_1, ↓x_X5_stand_2, ↓x_X5_stand_5, ↓x_X5_stand_8, ↓x_X5_stand_9, ↓x_X5_stand_10, ↓x_X5_stand_11, ↓x_X5_stand_12, ↓x_X5_stand_13, ↓x_X5_stand_16, ↓x_X5_stand_19, ↓x_X5_stand_20, ↓x_X5_stand_21, ↓x_X5_stand_24, ↓x_X5_stand_25, ↓x_X5_stand_26, ↓x_X5_stand_29, ↓x_X5_stand_30, ↓x_X5_stand_31, ↓x_X5_stand_32, ↓x_X5_stand_33, ↓x_X5_stand_36, ↓x_X5_stand_37, ↓x_X5_stand_38, ↓x_X5_stand_39, ↓x_X5_stand_40, ho, ↓cKI ca, not_true_eq_false, ↓reduceIte]
theorem CR_pay {S : SS} (F : WF S) (m s v : Int) : CR mX5_pay [aI m, aI s, aI v] aI S (o_pay m s v S) := by
  intro h H
  have ho : isO h 5 0 = true := isO_rd (H.1.f 4 rfl)
  have ca := c_isMachine F H.1 m
  have ci := c_in (h := h) (v := v) (lo := -50) (hi := 50)
  have cf2 := m_fd2 H.1
  have z : ¬ (1 : Int) = 0 := by decide
  unfold o_pay
  rw [e_X5_pay]
  by_cases c1 : isM S m
  · rw [if_pos c1] at ca
    by_cases c0 : -50 ≤ v ∧ v ≤ 50
    · rw [if_pos c0] at ci
      rw [if_neg (by omega)]
      have hm : m.toNat < mS S := by unfold mS; omega
      have cs := c_isQ F H.1 c1 s
      have cm := c_mayP F H.1 c1 s
      by_cases c2 : isQ S m s
      · rw [if_pos c2] at cs
        rw [if_neg (not_not_intro c2)]
        by_cases c3 : S 1 m.toNat 0 0 = 3 ∧ ¬ s = S 1 m.toNat 1 0 - 2
        · rw [if_pos c3] at cm
          rw [if_pos c3]
          refine ⟨h, ?_, H, L0.rf⟩
          simp only [↓x_X5_pay_0, ↓x_X5_pay_1, ↓x_X5_pay_2, ↓x_X5_pay_5, ↓x_X5_pay_8, ↓x_X5_pay_9, ↓x_X5_pay_10, ↓x_X5_pay_13, ↓x_X5_pay_16, ↓x_X5_pay_19, ↓x_X5_pay_22, ↓x_X5_pay_23, ↓x_X5_pay_24, ↓x_X5_pay_25, ↓x_X5_pay_26, ↓x_X5_pay_27, ↓x_X5_pay_30, ↓x_X5_pay_33, ↓x_X5_pay_34, ↓x_X5_pay_35, ↓x_X5_pay_38, ↓x_X5_pay_39, ↓x_X5_pay_40, ↓x_X5_pay_41, ↓x_X5_pay_42, ↓x_X5_pay_45, ↓x_X5_pay_48, ↓x_X5_pay_50, ↓x_X5_pay_51, ↓x_X5_pay_52, ↓x_X5_pay_55, ↓x_X5_pay_56, ↓x_X5_pay_57, ↓x_X5_pay_58, ↓x_X5_pay_59, ↓x_X5_pay_60, ↓x_X5_pay_61, ↓x_X5_pay_63, ↓x_X5_pay_64, ↓x_X5_pay_67, ↓x_X5_pay_68, ↓x_X5_pay_69, ↓x_X5_pay_70, ↓x_X5_pay_71, ↓x_X5_pay_72, ↓x_X5_pay_73, ↓x_X5_pay_74, ↓x_X5_pay_77, ↓x_X5_pay_79, ↓x_X5_pay_80, ho, ↓cKI ca, z, ↓cKI ci, ↓cKI cs, ↓cKI cm, not_true_eq_false, not_false_eq_true, ↓reduceIte]
        · rw [if_neg c3] at cm
          rw [if_neg c3]
          obtain ⟨qv, j0, hm16, hs5⟩ := H.1.pv F c1 c2
          obtain ⟨⟨n1, n5'⟩, en, hpy, hw⟩ := F.m hm
          have q14 := H.1.f 14 rfl
          have hb : -50 ≤ S 2 m.toNat s.toNat 0 ∧ S 2 m.toNat s.toNat 0 ≤ 50 := hpy s.toNat (by omega)
          have e1 : w32 (1000 + S 2 m.toNat s.toNat 0) = 1000 + S 2 m.toNat s.toNat 0 := by rw [w32_in] <;> omega
          have B := H.1.a9 m.toNat s.toNat (by omega) (by omega) v
          rw [← (n5 hm16 hs5).2] at B
          refine ⟨wr h 10 9 (5 * m + s).toNat (aI v), ?_, H.w B (Or.inl (by decide)) rfl, L0.w⟩
          simp only [↓x_X5_pay_0, ↓x_X5_pay_1, ↓x_X5_pay_2, ↓x_X5_pay_5, ↓x_X5_pay_8, ↓x_X5_pay_9, ↓x_X5_pay_10, ↓x_X5_pay_13, ↓x_X5_pay_16, ↓x_X5_pay_19, ↓x_X5_pay_22, ↓x_X5_pay_23, ↓x_X5_pay_24, ↓x_X5_pay_25, ↓x_X5_pay_26, ↓x_X5_pay_27, ↓x_X5_pay_30, ↓x_X5_pay_33, ↓x_X5_pay_34, ↓x_X5_pay_35, ↓x_X5_pay_38, ↓x_X5_pay_39, ↓x_X5_pay_40, ↓x_X5_pay_41, ↓x_X5_pay_42, ↓x_X5_pay_45, ↓x_X5_pay_48, ↓x_X5_pay_50, ↓x_X5_pay_51, ↓x_X5_pay_52, ↓x_X5_pay_55, ↓x_X5_pay_56, ↓x_X5_pay_57, ↓x_X5_pay_58, ↓x_X5_pay_59, ↓x_X5_pay_60, ↓x_X5_pay_61, ↓x_X5_pay_63, ↓x_X5_pay_64, ↓x_X5_pay_67, ↓x_X5_pay_68, ↓x_X5_pay_69, ↓x_X5_pay_70, ↓x_X5_pay_71, ↓x_X5_pay_72, ↓x_X5_pay_73, ↓x_X5_pay_74, ↓x_X5_pay_77, ↓x_X5_pay_79, ↓x_X5_pay_80, ho, ↓cKI ca, z, ↓cKI ci, ↓cKI cs, ↓cKI cm, ↓gK_of q14, w5a hm16, w5b hm16 hs5, j0, ↓gK_of qv, gK_of qv, pK_of qv, e1, not_true_eq_false, not_false_eq_true, ↓reduceIte]
      · rw [if_neg c2] at cs
        rw [if_pos c2]
        refine ⟨_, ?_, H.mt (f := 2) (by decide)⟩
        simp only [↓x_X5_pay_0, ↓x_X5_pay_1, ↓x_X5_pay_2, ↓x_X5_pay_5, ↓x_X5_pay_8, ↓x_X5_pay_9, ↓x_X5_pay_10, ↓x_X5_pay_13, ↓x_X5_pay_16, ↓x_X5_pay_19, ↓x_X5_pay_22, ↓x_X5_pay_23, ↓x_X5_pay_24, ↓x_X5_pay_25, ↓x_X5_pay_26, ↓x_X5_pay_27, ↓x_X5_pay_30, ↓x_X5_pay_33, ↓x_X5_pay_34, ↓x_X5_pay_35, ↓x_X5_pay_38, ↓x_X5_pay_39, ↓x_X5_pay_40, ↓x_X5_pay_41, ↓x_X5_pay_42, ↓x_X5_pay_45, ↓x_X5_pay_48, ↓x_X5_pay_50, ↓x_X5_pay_51, ↓x_X5_pay_52, ↓x_X5_pay_55, ↓x_X5_pay_56, ↓x_X5_pay_57, ↓x_X5_pay_58, ↓x_X5_pay_59, ↓x_X5_pay_60, ↓x_X5_pay_61, ↓x_X5_pay_63, ↓x_X5_pay_64, ↓x_X5_pay_67, ↓x_X5_pay_68, ↓x_X5_pay_69, ↓x_X5_pay_70, ↓x_X5_pay_71, ↓x_X5_pay_72, ↓x_X5_pay_73, ↓x_X5_pay_74, ↓x_X5_pay_77, ↓x_X5_pay_79, ↓x_X5_pay_80, ho, ↓cKI ca, z, ↓cKI ci, ↓cKI cs, ↓cKI cf2, not_true_eq_false, not_false_eq_true, ↓reduceIte]
    · rw [if_neg c0] at ci
      rw [if_pos (Or.inr c0)]
      refine ⟨h, ?_, H, L0.rf⟩
      simp only [↓x_X5_pay_0, ↓x_X5_pay_1, ↓x_X5_pay_2, ↓x_X5_pay_5, ↓x_X5_pay_8, ↓x_X5_pay_9, ↓x_X5_pay_10, ↓x_X5_pay_13, ↓x_X5_pay_16, ↓x_X5_pay_19, ↓x_X5_pay_22, ↓x_X5_pay_23, ↓x_X5_pay_24, ↓x_X5_pay_25, ↓x_X5_pay_26, ↓x_X5_pay_27, ↓x_X5_pay_30, ↓x_X5_pay_33, ↓x_X5_pay_34, ↓x_X5_pay_35, ↓x_X5_pay_38, ↓x_X5_pay_39, ↓x_X5_pay_40, ↓x_X5_pay_41, ↓x_X5_pay_42, ↓x_X5_pay_45, ↓x_X5_pay_48, ↓x_X5_pay_50, ↓x_X5_pay_51, ↓x_X5_pay_52, ↓x_X5_pay_55, ↓x_X5_pay_56, ↓x_X5_pay_57, ↓x_X5_pay_58, ↓x_X5_pay_59, ↓x_X5_pay_60, ↓x_X5_pay_61, ↓x_X5_pay_63, ↓x_X5_pay_64, ↓x_X5_pay_67, ↓x_X5_pay_68, ↓x_X5_pay_69, ↓x_X5_pay_70, ↓x_X5_pay_71, ↓x_X5_pay_72, ↓x_X5_pay_73, ↓x_X5_pay_74, ↓x_X5_pay_77, ↓x_X5_pay_79, ↓x_X5_pay_80, ho, ↓cKI ca, z, ↓cKI ci, not_true_eq_false, ↓reduceIte]
  · rw [if_neg c1] at ca
    rw [if_pos (Or.inl c1)]
    refine ⟨h, ?_, H, L0.rf⟩
    simp only [↓x_X5_pay_0, ↓x_X5_pay_1, ↓x_X5_pay_2, ↓x_X5_pay_5, ↓x_X5_pay_8, ↓x_X5_pay_9, ↓x_X5_pay_10, ↓x_X5_pay_13, ↓x_X5_pay_16, ↓x_X5_pay_19, ↓x_X5_pay_22, ↓x_X5_pay_23, ↓x_X5_pay_24, ↓x_X5_pay_25, ↓x_X5_pay_26, ↓x_X5_pay_27, ↓x_X5_pay_30, ↓x_X5_pay_33, ↓x_X5_pay_34, ↓x_X5_pay_35, ↓x_X5_pay_38, ↓x_X5_pay_39, ↓x_X5_pay_40, ↓x_X5_pay_41, ↓x_X5_pay_42, ↓x_X5_pay_45, ↓x_X5_pay_48, ↓x_X5_pay_50, ↓x_X5_pay_51, ↓x_X5_pay_52, ↓x_X5_pay_55, ↓x_X5_pay_56, ↓x_X5_pay_57, ↓x_X5_pay_58, ↓x_X5_pay_59, ↓x_X5_pay_60, ↓x_X5_pay_61, ↓x_X5_pay_63, ↓x_X5_pay_64, ↓x_X5_pay_67, ↓x_X5_pay_68, ↓x_X5_pay_69, ↓x_X5_pay_70, ↓x_X5_pay_71, ↓x_X5_pay_72, ↓x_X5_pay_73, ↓x_X5_pay_74, ↓x_X5_pay_77, ↓x_X5_pay_79, ↓x_X5_pay_80, ho, ↓cKI ca, ↓reduceIte]
theorem CR_ask {S : SS} (F : WF S) (m s k : Int) : CR mX5_ask [aI m, aI s, aI k] aI S (o_ask m s k S) := by
  intro h H
  have ho : isO h 5 0 = true := isO_rd (H.1.f 4 rfl)
  have ca := c_isMachine F H.1 m
  have cf2 := m_fd2 H.1
  have z : ¬ (1 : Int) = 0 := by decide
  unfold o_ask
  rw [e_X5_ask]
  by_cases c1 : isM S m
  · rw [if_pos c1] at ca
    rw [if_neg (not_not_intro c1)]
    have hm : m.toNat < mS S := by unfold mS; omega
    have cs := c_isQ F H.1 c1 s
    by_cases c2 : isQ S m s
    · rw [if_pos c2] at cs
      rw [if_neg (not_not_intro c2)]
      have q12 := H.1.f 12 rfl
      have q7 := H.1.r7 hm
      have m0 := c1.1
      have ci := c_in (h := h) (v := k) (lo := 0) (hi := S 1 m.toNat 1 0)
      by_cases c3 : k < 0 ∨ S 1 m.toNat 1 0 < k
      · rw [if_neg (by omega)] at ci
        rw [if_pos c3]
        refine ⟨h, ?_, H, L0.rf⟩
        simp only [↓x_X5_ask_0, ↓x_X5_ask_1, ↓x_X5_ask_2, ↓x_X5_ask_5, ↓x_X5_ask_8, ↓x_X5_ask_9, ↓x_X5_ask_10, ↓x_X5_ask_11, ↓x_X5_ask_12, ↓x_X5_ask_13, ↓x_X5_ask_16, ↓x_X5_ask_19, ↓x_X5_ask_20, ↓x_X5_ask_21, ↓x_X5_ask_24, ↓x_X5_ask_25, ↓x_X5_ask_26, ↓x_X5_ask_27, ↓x_X5_ask_28, ↓x_X5_ask_29, ↓x_X5_ask_32, ↓x_X5_ask_33, ↓x_X5_ask_34, ↓x_X5_ask_35, ↓x_X5_ask_38, ↓x_X5_ask_41, ↓x_X5_ask_42, ↓x_X5_ask_43, ↓x_X5_ask_44, ↓x_X5_ask_45, ↓x_X5_ask_48, ↓x_X5_ask_49, ↓x_X5_ask_52, ↓x_X5_ask_53, ↓x_X5_ask_54, ↓x_X5_ask_55, ↓x_X5_ask_56, ↓x_X5_ask_57, ↓x_X5_ask_58, ↓x_X5_ask_59, ↓x_X5_ask_62, ↓x_X5_ask_63, ↓x_X5_ask_66, ↓x_X5_ask_68, ↓x_X5_ask_69, ↓x_X5_ask_70, ↓x_X5_ask_71, ↓x_X5_ask_72, ↓x_X5_ask_73, ↓x_X5_ask_74, ↓x_X5_ask_75, ↓x_X5_ask_76, ↓x_X5_ask_77, ↓x_X5_ask_78, ↓x_X5_ask_79, ↓x_X5_ask_80, ↓x_X5_ask_83, ↓x_X5_ask_84, ho, ↓cKI ca, z, ↓cKI cs, ↓gK_of q12, m0, ↓gK_of q7, ↓cKI ci, not_true_eq_false, not_false_eq_true, ↓reduceIte]
      · rw [if_pos (by omega)] at ci
        rw [if_neg c3]
        have q8 := H.1.f 8 rfl
        refine ⟨wr h 5 0 8 (aJ (if k = 0 then S 2 m.toNat s.toNat 0 else S 3 m.toNat s.toNat (k - 1).toNat)), ?_, H.w (H.1.f8 _) (Or.inr (Or.inr (by decide))) rfl, L0.w⟩
        obtain ⟨qv, j0, hm16, hs5⟩ := H.1.pv F c1 c2
        by_cases c4 : k = 0
        · rw [if_pos c4]
          have q14 := H.1.f 14 rfl
          simp only [↓x_X5_ask_0, ↓x_X5_ask_1, ↓x_X5_ask_2, ↓x_X5_ask_5, ↓x_X5_ask_8, ↓x_X5_ask_9, ↓x_X5_ask_10, ↓x_X5_ask_11, ↓x_X5_ask_12, ↓x_X5_ask_13, ↓x_X5_ask_16, ↓x_X5_ask_19, ↓x_X5_ask_20, ↓x_X5_ask_21, ↓x_X5_ask_24, ↓x_X5_ask_25, ↓x_X5_ask_26, ↓x_X5_ask_27, ↓x_X5_ask_28, ↓x_X5_ask_29, ↓x_X5_ask_32, ↓x_X5_ask_33, ↓x_X5_ask_34, ↓x_X5_ask_35, ↓x_X5_ask_38, ↓x_X5_ask_41, ↓x_X5_ask_42, ↓x_X5_ask_44, ↓x_X5_ask_45, ↓x_X5_ask_48, ↓x_X5_ask_49, ↓x_X5_ask_52, ↓x_X5_ask_53, ↓x_X5_ask_54, ↓x_X5_ask_55, ↓x_X5_ask_56, ↓x_X5_ask_57, ↓x_X5_ask_58, ↓x_X5_ask_59, ↓x_X5_ask_62, ↓x_X5_ask_63, ↓x_X5_ask_66, ↓x_X5_ask_68, ↓x_X5_ask_69, ↓x_X5_ask_70, ↓x_X5_ask_71, ↓x_X5_ask_72, ↓x_X5_ask_73, ↓x_X5_ask_74, ↓x_X5_ask_75, ↓x_X5_ask_76, ↓x_X5_ask_77, ↓x_X5_ask_78, ↓x_X5_ask_79, ↓x_X5_ask_80, ↓x_X5_ask_83, ↓x_X5_ask_84, ho, ↓cKI ca, z, ↓cKI cs, ↓gK_of q12, m0, ↓gK_of q7, ↓cKI ci, not_false_eq_true, ↓reduceIte]
          simp only [↓x_X5_ask_0, ↓x_X5_ask_1, ↓x_X5_ask_2, ↓x_X5_ask_5, ↓x_X5_ask_8, ↓x_X5_ask_9, ↓x_X5_ask_10, ↓x_X5_ask_11, ↓x_X5_ask_12, ↓x_X5_ask_13, ↓x_X5_ask_16, ↓x_X5_ask_19, ↓x_X5_ask_20, ↓x_X5_ask_21, ↓x_X5_ask_24, ↓x_X5_ask_25, ↓x_X5_ask_26, ↓x_X5_ask_27, ↓x_X5_ask_28, ↓x_X5_ask_29, ↓x_X5_ask_32, ↓x_X5_ask_33, ↓x_X5_ask_34, ↓x_X5_ask_35, ↓x_X5_ask_38, ↓x_X5_ask_41, ↓x_X5_ask_42, ↓x_X5_ask_43, ↓x_X5_ask_44, ↓x_X5_ask_45, ↓x_X5_ask_48, ↓x_X5_ask_49, ↓x_X5_ask_52, ↓x_X5_ask_53, ↓x_X5_ask_54, ↓x_X5_ask_55, ↓x_X5_ask_56, ↓x_X5_ask_57, ↓x_X5_ask_58, ↓x_X5_ask_59, ↓x_X5_ask_62, ↓x_X5_ask_63, ↓x_X5_ask_66, ↓x_X5_ask_68, ↓x_X5_ask_69, ↓x_X5_ask_70, ↓x_X5_ask_71, ↓x_X5_ask_72, ↓x_X5_ask_73, ↓x_X5_ask_74, ↓x_X5_ask_75, ↓x_X5_ask_76, ↓x_X5_ask_77, ↓x_X5_ask_78, ↓x_X5_ask_79, ↓x_X5_ask_80, ↓x_X5_ask_83, ↓x_X5_ask_84, ↓gK_of q14, w5a hm16, w5b hm16 hs5, j0, ↓gK_of qv, gK_of qv, pK_of q8, c4, not_true_eq_false, ↓reduceIte]
        · rw [if_neg c4]
          have q15 := H.1.f 15 rfl
          obtain ⟨wv, i0, ht5⟩ := H.1.wv F c1 c2 (t := k - 1) ⟨by omega, by omega⟩
          have e0 := w25c (t := k) hm16 hs5 ⟨by omega, by omega⟩
          have e1 : w32 (25 * m + 5 * s + k - 1) = 25 * m + 5 * s + (k - 1) := by
            rw [show 25 * m + 5 * s + k - 1 = 25 * m + 5 * s + (k - 1) by omega]
            exact w25c hm16 hs5 ⟨ht5.1, by omega⟩
          simp only [↓x_X5_ask_0, ↓x_X5_ask_1, ↓x_X5_ask_2, ↓x_X5_ask_5, ↓x_X5_ask_8, ↓x_X5_ask_9, ↓x_X5_ask_10, ↓x_X5_ask_11, ↓x_X5_ask_12, ↓x_X5_ask_13, ↓x_X5_ask_16, ↓x_X5_ask_19, ↓x_X5_ask_20, ↓x_X5_ask_21, ↓x_X5_ask_24, ↓x_X5_ask_25, ↓x_X5_ask_26, ↓x_X5_ask_27, ↓x_X5_ask_28, ↓x_X5_ask_29, ↓x_X5_ask_32, ↓x_X5_ask_33, ↓x_X5_ask_34, ↓x_X5_ask_35, ↓x_X5_ask_38, ↓x_X5_ask_41, ↓x_X5_ask_42, ↓x_X5_ask_44, ↓x_X5_ask_45, ↓x_X5_ask_48, ↓x_X5_ask_49, ↓x_X5_ask_52, ↓x_X5_ask_53, ↓x_X5_ask_54, ↓x_X5_ask_55, ↓x_X5_ask_56, ↓x_X5_ask_57, ↓x_X5_ask_58, ↓x_X5_ask_59, ↓x_X5_ask_62, ↓x_X5_ask_63, ↓x_X5_ask_66, ↓x_X5_ask_68, ↓x_X5_ask_69, ↓x_X5_ask_70, ↓x_X5_ask_71, ↓x_X5_ask_72, ↓x_X5_ask_73, ↓x_X5_ask_74, ↓x_X5_ask_75, ↓x_X5_ask_76, ↓x_X5_ask_77, ↓x_X5_ask_78, ↓x_X5_ask_79, ↓x_X5_ask_80, ↓x_X5_ask_83, ↓x_X5_ask_84, ho, ↓cKI ca, z, ↓cKI cs, ↓gK_of q12, m0, ↓gK_of q7, ↓cKI ci, not_false_eq_true, ↓reduceIte]
          simp only [↓x_X5_ask_0, ↓x_X5_ask_1, ↓x_X5_ask_2, ↓x_X5_ask_5, ↓x_X5_ask_8, ↓x_X5_ask_9, ↓x_X5_ask_10, ↓x_X5_ask_11, ↓x_X5_ask_12, ↓x_X5_ask_13, ↓x_X5_ask_16, ↓x_X5_ask_19, ↓x_X5_ask_20, ↓x_X5_ask_21, ↓x_X5_ask_24, ↓x_X5_ask_25, ↓x_X5_ask_26, ↓x_X5_ask_27, ↓x_X5_ask_28, ↓x_X5_ask_29, ↓x_X5_ask_32, ↓x_X5_ask_33, ↓x_X5_ask_34, ↓x_X5_ask_35, ↓x_X5_ask_38, ↓x_X5_ask_41, ↓x_X5_ask_42, ↓x_X5_ask_43, ↓x_X5_ask_44, ↓x_X5_ask_45, ↓x_X5_ask_48, ↓x_X5_ask_49, ↓x_X5_ask_52, ↓x_X5_ask_53, ↓x_X5_ask_54, ↓x_X5_ask_55, ↓x_X5_ask_56, ↓x_X5_ask_57, ↓x_X5_ask_58, ↓x_X5_ask_59, ↓x_X5_ask_62, ↓x_X5_ask_63, ↓x_X5_ask_66, ↓x_X5_ask_68, ↓x_X5_ask_69, ↓x_X5_ask_70, ↓x_X5_ask_71, ↓x_X5_ask_72, ↓x_X5_ask_73, ↓x_X5_ask_74, ↓x_X5_ask_75, ↓x_X5_ask_76, ↓x_X5_ask_77, ↓x_X5_ask_78, ↓x_X5_ask_79, ↓x_X5_ask_80, ↓x_X5_ask_83, ↓x_X5_ask_84, ↓gK_of q15, w25a hm16, w5s hs5, w25b hm16 hs5, e0, e1, i0, ↓gK_of wv, gK_of wv, pK_of q8, c4, not_false_eq_true, ↓reduceIte]
    · rw [if_neg c2] at cs
      rw [if_pos c2]
      refine ⟨_, ?_, H.mt (f := 2) (by decide)⟩
      simp only [↓x_X5_ask_0, ↓x_X5_ask_1, ↓x_X5_ask_2, ↓x_X5_ask_5, ↓x_X5_ask_8, ↓x_X5_ask_9, ↓x_X5_ask_10, ↓x_X5_ask_11, ↓x_X5_ask_12, ↓x_X5_ask_13, ↓x_X5_ask_16, ↓x_X5_ask_19, ↓x_X5_ask_20, ↓x_X5_ask_21, ↓x_X5_ask_24, ↓x_X5_ask_25, ↓x_X5_ask_26, ↓x_X5_ask_27, ↓x_X5_ask_28, ↓x_X5_ask_29, ↓x_X5_ask_32, ↓x_X5_ask_33, ↓x_X5_ask_34, ↓x_X5_ask_35, ↓x_X5_ask_38, ↓x_X5_ask_41, ↓x_X5_ask_42, ↓x_X5_ask_43, ↓x_X5_ask_44, ↓x_X5_ask_45, ↓x_X5_ask_48, ↓x_X5_ask_49, ↓x_X5_ask_52, ↓x_X5_ask_53, ↓x_X5_ask_54, ↓x_X5_ask_55, ↓x_X5_ask_56, ↓x_X5_ask_57, ↓x_X5_ask_58, ↓x_X5_ask_59, ↓x_X5_ask_62, ↓x_X5_ask_63, ↓x_X5_ask_66, ↓x_X5_ask_68, ↓x_X5_ask_69, ↓x_X5_ask_70, ↓x_X5_ask_71, ↓x_X5_ask_72, ↓x_X5_ask_73, ↓x_X5_ask_74, ↓x_X5_ask_75, ↓x_X5_ask_76, ↓x_X5_ask_77, ↓x_X5_ask_78, ↓x_X5_ask_79, ↓x_X5_ask_80, ↓x_X5_ask_83, ↓x_X5_ask_84, ho, ↓cKI ca, z, ↓cKI cs, ↓cKI cf2, not_true_eq_false, not_false_eq_true, ↓reduceIte]
  · rw [if_neg c1] at ca
    rw [if_pos c1]
    refine ⟨h, ?_, H, L0.rf⟩
    simp only [↓x_X5_ask_0, ↓x_X5_ask_1, ↓x_X5_ask_2, ↓x_X5_ask_5, ↓x_X5_ask_8, ↓x_X5_ask_9, ↓x_X5_ask_10, ↓x_X5_ask_11, ↓x_X5_ask_12, ↓x_X5_ask_13, ↓x_X5_ask_16, ↓x_X5_ask_19, ↓x_X5_ask_20, ↓x_X5_ask_21, ↓x_X5_ask_24, ↓x_X5_ask_25, ↓x_X5_ask_26, ↓x_X5_ask_27, ↓x_X5_ask_28, ↓x_X5_ask_29, ↓x_X5_ask_32, ↓x_X5_ask_33, ↓x_X5_ask_34, ↓x_X5_ask_35, ↓x_X5_ask_38, ↓x_X5_ask_41, ↓x_X5_ask_42, ↓x_X5_ask_43, ↓x_X5_ask_44, ↓x_X5_ask_45, ↓x_X5_ask_48, ↓x_X5_ask_49, ↓x_X5_ask_52, ↓x_X5_ask_53, ↓x_X5_ask_54, ↓x_X5_ask_55, ↓x_X5_ask_56, ↓x_X5_ask_57, ↓x_X5_ask_58, ↓x_X5_ask_59, ↓x_X5_ask_62, ↓x_X5_ask_63, ↓x_X5_ask_66, ↓x_X5_ask_68, ↓x_X5_ask_69, ↓x_X5_ask_70, ↓x_X5_ask_71, ↓x_X5_ask_72, ↓x_X5_ask_73, ↓x_X5_ask_74, ↓x_X5_ask_75, ↓x_X5_ask_76, ↓x_X5_ask_77, ↓x_X5_ask_78, ↓x_X5_ask_79, ↓x_X5_ask_80, ↓x_X5_ask_83, ↓x_X5_ask_84, ho, ↓cKI ca, not_true_eq_false, ↓reduceIte]
