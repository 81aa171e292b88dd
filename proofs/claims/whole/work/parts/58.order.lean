/-! ===== order, goes, even, better, mean, row, least, compare ===== -/
theorem rc_gt {r s : Rat} : (0 < rc r s) = (s < r) := by
  unfold rc
  by_cases h : s < r
  · rw [if_pos h]; exact propext ⟨fun _ => h, fun _ => by decide⟩
  · rw [if_neg h]
    by_cases e : r = s
    · rw [if_pos e]; exact propext ⟨fun z => absurd z (by decide), fun z => absurd z h⟩
    · rw [if_neg e]; exact propext ⟨fun z => absurd z (by decide), fun z => absurd z h⟩
theorem rc_eq {r s : Rat} : (rc r s = 0) = (r = s) := by
  unfold rc
  by_cases h : s < r
  · rw [if_pos h]; exact propext ⟨fun z => absurd z (by decide), fun z => by subst z; exact absurd h Rat.lt_irrefl⟩
  · rw [if_neg h]
    by_cases e : r = s
    · rw [if_pos e]; exact propext ⟨fun _ => e, fun _ => rfl⟩
    · rw [if_neg e]; exact propext ⟨fun z => absurd z (by decide), fun z => absurd z e⟩
theorem rc_lt {r s : Rat} : (rc r s < 0) = (r < s) := by
  unfold rc
  by_cases h : s < r
  · rw [if_pos h]; exact propext ⟨fun z => absurd z (by decide), fun z => absurd z (Rat.not_lt.mpr (Rat.le_of_lt h))⟩
  · rw [if_neg h]
    by_cases e : r = s
    · rw [if_pos e]; exact propext ⟨fun z => absurd z (by decide), fun z => by subst e; exact absurd z h⟩
    · rw [if_neg e]; exact propext ⟨fun _ => Rat.not_le.mp (fun z => e (Rat.le_antisymm (Rat.not_lt.mp h) z)), fun _ => by decide⟩
theorem rc_le {r s : Rat} : (rc r s ≤ 0) = (r ≤ s) := by
  have h : (rc r s ≤ 0) = ¬ (0 < rc r s) := propext ⟨fun z => by omega, fun z => by omega⟩
  rw [h, rc_gt]
  exact propext Rat.not_lt
theorem rc_ge {r s : Rat} : (0 ≤ rc r s) = (s ≤ r) := by
  have h : (0 ≤ rc r s) = ¬ (rc r s < 0) := propext ⟨fun z => by omega, fun z => by omega⟩
  rw [h, rc_lt]
  exact propext Rat.not_lt
def L0 (h h' : AH) : Prop := h'.length = h.length ∧ slt h' = slt h
theorem L0.rf {h : AH} : L0 h h := ⟨rfl, rfl⟩
theorem L0.tr {h h1 h2 : AH} (a : L0 h h1) (b : L0 h1 h2) : L0 h h2 := ⟨b.1.trans a.1, b.2.trans a.2⟩
section WO2
variable {S : SS} {h : AH} {mb sb own : Nat → Nat} {m m2 : Nat}
theorem c_wo2 (F : WF S) (J : CJ S h mb sb own) (hm : m < mS S) {s : Nat} (hs : s < nS S m) (hm2 : m2 < mS S) {t : Nat} (ht : t < nS S m2) : ∃ h1 h2, E mX4_worthOf [aR (some 0), aR (some (mb m)), aI s] h = some (some (aR (some (mb m + 4 + s))), h1) ∧ E mX4_worthOf [aR (some 0), aR (some (mb m2)), aI t] h1 = some (some (aR (some (mb m2 + 4 + t))), h2) ∧ E mX0_against [aR (some (mb m + 4 + s)), aR (some (mb m2 + 4 + t))] h2 = some (some (aI (rc (wR S m s) (wR S m2 t))), h2) ∧ isO h1 4 0 = true ∧ isO h2 0 (mb m + 4 + s) = true ∧ CJ S h2 mb sb own ∧ L0 h h2 ∧ Wg h2 (mb m) ∧ Wg h2 (mb m2) := by
  obtain ⟨h1, a1, a2, a3, a4, a5, a6⟩ := c_worthOf F J hm hs
  obtain ⟨h2, b1, b2, b3, b4, b5, b6⟩ := c_worthOf F a2 hm2 ht
  have w := b4 m hm a3
  have f1 := b2.wg hm w hs
  have f2 := b2.wg hm2 b3 ht
  exact ⟨h1, h2, a1, b1, c_against f1.1 f2.1 f1.2 f2.2, isO_rd a2.1.1.1, isO_rd f1.1.1, b2, ⟨b5.trans a5, b6.trans a6⟩, w, b3⟩
end WO2
/-- t is ahead of s -/
noncomputable def ahd (S : SS) (m s t : Nat) : Bool := decide (wR S m s < wR S m t ∨ (wR S m t = wR S m s ∧ t < s))
noncomputable def ordF (S : SS) (m : Nat) (i : Int) : Nat → Nat → Int
  | 0, _ => -9
  | d + 1, s => if ((nP (ahd S m s) (nS S m) : Nat) : Int) = i then (s : Int) else ordF S m i d (s + 1)
noncomputable def o_order (m i : Int) (S : SS) : Int × SS := if ¬ isM S m then (-1, S) else (ordF S m.toNat i (nS S m.toNat) 0, S)
noncomputable def gsN (S : SS) (m s : Nat) : Nat → Nat
  | 0 => 0
  | t + 1 => if wR S m s ≤ wR S m t then gsN S m s t ||| 1 <<< t else gsN S m s t
theorem gsN_b (S : SS) (m s : Nat) : ∀ t, t ≤ 5 → gsN S m s t < 32
  | 0, _ => by rw [gsN]; decide
  | t + 1, h => by
    rw [gsN]
    split
    · exact bit_add _ (gsN_b S m s t (by omega)) t (by omega)
    · exact gsN_b S m s t (by omega)
noncomputable def o_goes (m s : Int) (S : SS) : Int × SS := if ¬ isM S m then (-1, S) else if ¬ isQ S m s then (-3, fdS S 2) else (((gsN S m.toNat s.toNat (nS S m.toNat) : Nat) : Int), S)
noncomputable def lsN (S : SS) (m : Nat) : Nat → Nat
  | 0 => 0
  | t + 1 => if wR S m t < wR S m (lsN S m t) then t else lsN S m t
theorem lsN_b (S : SS) (m : Nat) : ∀ t, 1 ≤ t → lsN S m t < t
  | 1, _ => by
    rw [lsN]
    split
    · decide
    · rw [lsN]; decide
  | t + 2, _ => by
    rw [lsN]
    have := lsN_b S m (t + 1) (by omega)
    split <;> omega
noncomputable def o_least (m : Int) (S : SS) : Int × SS := if ¬ isM S m then (-1, S) else (1, tlS S (wR S m.toNat (lsN S m.toNat (nS S m.toNat))))
section ORD
variable {S : SS} {mb sb own : Nat → Nat} {m : Nat}
theorem l_rank (F : WF S) (hm : m < mS S) {s : Nat} (hs : s < nS S m) : ∀ (d t : Nat) (h : AH) (v5 : AV), t + d = nS S m → CJ S h mb sb own →
    ∃ h', X mX4_rankOf 5 [aR (some 0), aR (some (mb m)), aI s, aI (nP (ahd S m s) t : Nat), aI t, v5] [] h = some (some (aI (nP (ahd S m s) (nS S m) : Nat)), h') ∧ CJ S h' mb sb own ∧ L0 h h' := by
  obtain ⟨⟨n1, n5⟩, en, hpy, hw⟩ := F.m hm
  intro d
  induction d with
  | zero =>
    intro t h v5 hd J
    have e : t = nS S m := by omega
    subst e
    refine ⟨h, ?_, J, L0.rf⟩
    have g1 := (J.2.2.1 m hm).2.2.1.1.2.2.1
    have n1 : ((nS S m : Nat) : Int) ≤ ((nS S m : Nat) : Int) := Int.le_refl _
    rw [x_X4_rankOf_5]
    simp only [↓x_X4_rankOf_0, ↓x_X4_rankOf_1, ↓x_X4_rankOf_2, ↓x_X4_rankOf_3, ↓x_X4_rankOf_7, ↓x_X4_rankOf_8, ↓x_X4_rankOf_11, ↓x_X4_rankOf_14, ↓x_X4_rankOf_15, ↓x_X4_rankOf_16, ↓x_X4_rankOf_18, ↓x_X4_rankOf_21, ↓x_X4_rankOf_22, ↓x_X4_rankOf_23, ↓x_X4_rankOf_24, ↓x_X4_rankOf_27, ↓x_X4_rankOf_30, ↓x_X4_rankOf_32, ↓x_X4_rankOf_34, ↓x_X4_rankOf_37, ↓x_X4_rankOf_39, ↓x_X4_rankOf_42, ↓x_X4_rankOf_44, ↓x_X4_rankOf_45, ↓x_X4_rankOf_48, ↓x_X4_rankOf_51, ↓x_X4_rankOf_54, ↓x_X4_rankOf_57, ↓x_X4_rankOf_58, ↓gK_of g1, n1, ↓reduceIte]
  | succ d ih =>
    intro t h v5 hd J
    have g1 := (J.2.2.1 m hm).2.2.1.1.2.2.1
    have ho : isO h 4 0 = true := isO_rd J.1.1.1
    have n3 : ¬ ((nS S m : Nat) : Int) ≤ (t : Int) := by omega
    have e5 : w32 ((t : Int) + 1) = ((t + 1 : Nat) : Int) := by rw [w32_in] <;> omega
    have nb := nP_le (ahd S m s) t
    have e6 : w32 (((nP (ahd S m s) t : Nat) : Int) + 1) = ((nP (ahd S m s) t + 1 : Nat) : Int) := by rw [w32_in] <;> omega
    obtain ⟨h1, h2, a1, a2, a3, o1, o2, J2, l2, w1, w2⟩ := c_wo2 F J hm (s := t) (by omega) hm hs
    generalize hr : rc (wR S m t) (wR S m s) = r at a3
    obtain ⟨h', b1, b2, b3⟩ := ih (t + 1) h2 (aI r) (by omega) J2
    refine ⟨h', ?_, b2, l2.tr b3⟩
    rw [← b1, x_X4_rankOf_5, nP]
    by_cases c1 : wR S m s < wR S m t
    · have c2 : 0 < r := by rw [← hr, rc_gt]; exact c1
      have c3 : ahd S m s t = true := decide_eq_true (Or.inl c1)
      rw [if_pos c3]
      simp only [↓x_X4_rankOf_0, ↓x_X4_rankOf_1, ↓x_X4_rankOf_2, ↓x_X4_rankOf_3, ↓x_X4_rankOf_7, ↓x_X4_rankOf_8, ↓x_X4_rankOf_11, ↓x_X4_rankOf_14, ↓x_X4_rankOf_15, ↓x_X4_rankOf_16, ↓x_X4_rankOf_18, ↓x_X4_rankOf_21, ↓x_X4_rankOf_22, ↓x_X4_rankOf_23, ↓x_X4_rankOf_24, ↓x_X4_rankOf_27, ↓x_X4_rankOf_30, ↓x_X4_rankOf_32, ↓x_X4_rankOf_34, ↓x_X4_rankOf_37, ↓x_X4_rankOf_39, ↓x_X4_rankOf_42, ↓x_X4_rankOf_44, ↓x_X4_rankOf_45, ↓x_X4_rankOf_48, ↓x_X4_rankOf_51, ↓x_X4_rankOf_54, ↓x_X4_rankOf_57, ↓x_X4_rankOf_58, ↓gK_of g1, n3, ho, o1, o2, ↓cKR a1, ↓cKR a2, ↓cKI a3, c2, e5, e6, ↓reduceIte]
    · have c2 : ¬ 0 < r := by rw [← hr, rc_gt]; exact c1
      by_cases c3 : wR S m t = wR S m s
      · have c4 : r = 0 := by rw [← hr, rc_eq]; exact c3
        by_cases c5 : t < s
        · have c6 : ahd S m s t = true := decide_eq_true (Or.inr ⟨c3, c5⟩)
          have c7 : ¬ (s : Int) ≤ (t : Int) := by omega
          rw [if_pos c6]
          simp only [↓x_X4_rankOf_0, ↓x_X4_rankOf_1, ↓x_X4_rankOf_2, ↓x_X4_rankOf_3, ↓x_X4_rankOf_7, ↓x_X4_rankOf_8, ↓x_X4_rankOf_11, ↓x_X4_rankOf_14, ↓x_X4_rankOf_15, ↓x_X4_rankOf_16, ↓x_X4_rankOf_18, ↓x_X4_rankOf_21, ↓x_X4_rankOf_22, ↓x_X4_rankOf_23, ↓x_X4_rankOf_24, ↓x_X4_rankOf_27, ↓x_X4_rankOf_30, ↓x_X4_rankOf_32, ↓x_X4_rankOf_34, ↓x_X4_rankOf_37, ↓x_X4_rankOf_39, ↓x_X4_rankOf_42, ↓x_X4_rankOf_44, ↓x_X4_rankOf_45, ↓x_X4_rankOf_48, ↓x_X4_rankOf_51, ↓x_X4_rankOf_54, ↓x_X4_rankOf_57, ↓x_X4_rankOf_58, ↓gK_of g1, n3, ho, o1, o2, ↓cKR a1, ↓cKR a2, ↓cKI a3, c2, c4, c7, e5, e6, not_true_eq_false, ↓reduceIte, Int.lt_irrefl]
        · have c6 : ¬ ahd S m s t = true := fun q => by
            rcases of_decide_eq_true q with q | q
            · exact c1 q
            · exact c5 q.2
          have c7 : (s : Int) ≤ (t : Int) := by omega
          rw [if_neg c6, Nat.add_zero]
          simp only [↓x_X4_rankOf_0, ↓x_X4_rankOf_1, ↓x_X4_rankOf_2, ↓x_X4_rankOf_3, ↓x_X4_rankOf_7, ↓x_X4_rankOf_8, ↓x_X4_rankOf_11, ↓x_X4_rankOf_14, ↓x_X4_rankOf_15, ↓x_X4_rankOf_16, ↓x_X4_rankOf_18, ↓x_X4_rankOf_21, ↓x_X4_rankOf_22, ↓x_X4_rankOf_23, ↓x_X4_rankOf_24, ↓x_X4_rankOf_27, ↓x_X4_rankOf_30, ↓x_X4_rankOf_32, ↓x_X4_rankOf_34, ↓x_X4_rankOf_37, ↓x_X4_rankOf_39, ↓x_X4_rankOf_42, ↓x_X4_rankOf_44, ↓x_X4_rankOf_45, ↓x_X4_rankOf_48, ↓x_X4_rankOf_51, ↓x_X4_rankOf_54, ↓x_X4_rankOf_57, ↓x_X4_rankOf_58, ↓gK_of g1, n3, ho, o1, o2, ↓cKR a1, ↓cKR a2, ↓cKI a3, c2, c4, c7, e5, not_true_eq_false, ↓reduceIte, Int.lt_irrefl]
      · have c4 : ¬ r = 0 := by rw [← hr, rc_eq]; exact c3
        have c6 : ¬ ahd S m s t = true := fun q => by
          rcases of_decide_eq_true q with q | q
          · exact c1 q
          · exact c3 q.1
        rw [if_neg c6, Nat.add_zero]
        simp only [↓x_X4_rankOf_0, ↓x_X4_rankOf_1, ↓x_X4_rankOf_2, ↓x_X4_rankOf_3, ↓x_X4_rankOf_7, ↓x_X4_rankOf_8, ↓x_X4_rankOf_11, ↓x_X4_rankOf_14, ↓x_X4_rankOf_15, ↓x_X4_rankOf_16, ↓x_X4_rankOf_18, ↓x_X4_rankOf_21, ↓x_X4_rankOf_22, ↓x_X4_rankOf_23, ↓x_X4_rankOf_24, ↓x_X4_rankOf_27, ↓x_X4_rankOf_30, ↓x_X4_rankOf_32, ↓x_X4_rankOf_34, ↓x_X4_rankOf_37, ↓x_X4_rankOf_39, ↓x_X4_rankOf_42, ↓x_X4_rankOf_44, ↓x_X4_rankOf_45, ↓x_X4_rankOf_48, ↓x_X4_rankOf_51, ↓x_X4_rankOf_54, ↓x_X4_rankOf_57, ↓x_X4_rankOf_58, ↓gK_of g1, n3, ho, o1, o2, ↓cKR a1, ↓cKR a2, ↓cKI a3, c2, c4, e5, not_false_eq_true, ↓reduceIte]
theorem c_rankOf (F : WF S) (hm : m < mS S) {s : Nat} (hs : s < nS S m) {h : AH} (J : CJ S h mb sb own) : ∃ h', E mX4_rankOf [aR (some 0), aR (some (mb m)), aI s] h = some (some (aI (nP (ahd S m s) (nS S m) : Nat)), h') ∧ CJ S h' mb sb own ∧ L0 h h' := by
  obtain ⟨h', a1, a2⟩ := l_rank F hm hs (nS S m) 0 h aU (by omega) J
  refine ⟨h', ?_, a2⟩
  rw [e_X4_rankOf]
  simp only [↓x_X4_rankOf_0, ↓x_X4_rankOf_1, ↓x_X4_rankOf_2, ↓x_X4_rankOf_3, ↓x_X4_rankOf_7, ↓x_X4_rankOf_8, ↓x_X4_rankOf_11, ↓x_X4_rankOf_14, ↓x_X4_rankOf_15, ↓x_X4_rankOf_16, ↓x_X4_rankOf_18, ↓x_X4_rankOf_21, ↓x_X4_rankOf_22, ↓x_X4_rankOf_23, ↓x_X4_rankOf_24, ↓x_X4_rankOf_27, ↓x_X4_rankOf_30, ↓x_X4_rankOf_32, ↓x_X4_rankOf_34, ↓x_X4_rankOf_37, ↓x_X4_rankOf_39, ↓x_X4_rankOf_42, ↓x_X4_rankOf_44, ↓x_X4_rankOf_45, ↓x_X4_rankOf_48, ↓x_X4_rankOf_51, ↓x_X4_rankOf_54, ↓x_X4_rankOf_57, ↓x_X4_rankOf_58]
  exact a1
theorem l_order (F : WF S) (hm : m < mS S) {vm i : Int} : ∀ (d s : Nat) (h : AH), s + d = nS S m → CJ S h mb sb own →
    ∃ h', X mX4_order 15 [aR (some 0), aI vm, aI i, aR (some (mb m)), aI s] [] h = some (some (aI (ordF S m i d s)), h') ∧ CJ S h' mb sb own ∧ L0 h h' := by
  obtain ⟨⟨n1, n5⟩, en, hpy, hw⟩ := F.m hm
  intro d
  induction d with
  | zero =>
    intro s h hd J
    have e : s = nS S m := by omega
    subst e
    refine ⟨h, ?_, J, L0.rf⟩
    have g1 := (J.2.2.1 m hm).2.2.1.1.2.2.1
    have n1 : ((nS S m : Nat) : Int) ≤ ((nS S m : Nat) : Int) := Int.le_refl _
    rw [x_X4_order_15]
    simp only [↓x_X4_order_0, ↓x_X4_order_1, ↓x_X4_order_2, ↓x_X4_order_5, ↓x_X4_order_6, ↓x_X4_order_7n, ↓x_X4_order_7s, ↓x_X4_order_10, ↓x_X4_order_11, ↓x_X4_order_12, ↓x_X4_order_13, ↓x_X4_order_17, ↓x_X4_order_18, ↓x_X4_order_21, ↓x_X4_order_24, ↓x_X4_order_25, ↓x_X4_order_26, ↓x_X4_order_28, ↓x_X4_order_31, ↓x_X4_order_32, ↓x_X4_order_35, ↓x_X4_order_37, ↓x_X4_order_38, ↓x_X4_order_41, ↓x_X4_order_44, ↓x_X4_order_46, ↓gK_of g1, n1, ↓reduceIte]
    rfl
  | succ d ih =>
    intro s h hd J
    have g1 := (J.2.2.1 m hm).2.2.1.1.2.2.1
    have ho : isO h 4 0 = true := isO_rd J.1.1.1
    have n3 : ¬ ((nS S m : Nat) : Int) ≤ (s : Int) := by omega
    have e5 : w32 ((s : Int) + 1) = ((s + 1 : Nat) : Int) := by rw [w32_in] <;> omega
    obtain ⟨h1, a1, a2, a3⟩ := c_rankOf F hm (s := s) (by omega) J
    rw [ordF]
    by_cases c : ((nP (ahd S m s) (nS S m) : Nat) : Int) = i
    · rw [if_pos c]
      refine ⟨h1, ?_, a2, a3⟩
      rw [x_X4_order_15]
      simp only [↓x_X4_order_0, ↓x_X4_order_1, ↓x_X4_order_2, ↓x_X4_order_5, ↓x_X4_order_6, ↓x_X4_order_7n, ↓x_X4_order_7s, ↓x_X4_order_10, ↓x_X4_order_11, ↓x_X4_order_12, ↓x_X4_order_13, ↓x_X4_order_17, ↓x_X4_order_18, ↓x_X4_order_21, ↓x_X4_order_24, ↓x_X4_order_25, ↓x_X4_order_26, ↓x_X4_order_28, ↓x_X4_order_31, ↓x_X4_order_32, ↓x_X4_order_35, ↓x_X4_order_37, ↓x_X4_order_38, ↓x_X4_order_41, ↓x_X4_order_44, ↓x_X4_order_46, ↓gK_of g1, n3, ho, ↓cKI a1, c, not_true_eq_false, ↓reduceIte]
    · rw [if_neg c]
      obtain ⟨h', b1, b2, b3⟩ := ih (s + 1) h1 (by omega) a2
      refine ⟨h', ?_, b2, a3.tr b3⟩
      rw [← b1, x_X4_order_15]
      simp only [↓x_X4_order_0, ↓x_X4_order_1, ↓x_X4_order_2, ↓x_X4_order_5, ↓x_X4_order_6, ↓x_X4_order_7n, ↓x_X4_order_7s, ↓x_X4_order_10, ↓x_X4_order_11, ↓x_X4_order_12, ↓x_X4_order_13, ↓x_X4_order_17, ↓x_X4_order_18, ↓x_X4_order_21, ↓x_X4_order_24, ↓x_X4_order_25, ↓x_X4_order_26, ↓x_X4_order_28, ↓x_X4_order_31, ↓x_X4_order_32, ↓x_X4_order_35, ↓x_X4_order_37, ↓x_X4_order_38, ↓x_X4_order_41, ↓x_X4_order_44, ↓x_X4_order_46, ↓gK_of g1, n3, ho, ↓cKI a1, c, e5, not_false_eq_true, ↓reduceIte]
theorem l_goes (F : WF S) (hm : m < mS S) {s : Nat} (hs : s < nS S m) {vm : Int} : ∀ (d t : Nat) (h : AH), t + d = nS S m → CJ S h mb sb own →
    ∃ h', X mX4_goes 32 [aR (some 0), aI vm, aI s, aR (some (mb m)), aI (gsN S m s t : Nat), aI t] [] h = some (some (aI (gsN S m s (nS S m) : Nat)), h') ∧ CJ S h' mb sb own ∧ L0 h h' := by
  obtain ⟨⟨n1, n5⟩, en, hpy, hw⟩ := F.m hm
  intro d
  induction d with
  | zero =>
    intro t h hd J
    have e : t = nS S m := by omega
    subst e
    refine ⟨h, ?_, J, L0.rf⟩
    have g1 := (J.2.2.1 m hm).2.2.1.1.2.2.1
    have n1 : ((nS S m : Nat) : Int) ≤ ((nS S m : Nat) : Int) := Int.le_refl _
    rw [x_X4_goes_32]
    simp only [↓x_X4_goes_0, ↓x_X4_goes_1, ↓x_X4_goes_2, ↓x_X4_goes_5, ↓x_X4_goes_6, ↓x_X4_goes_7n, ↓x_X4_goes_7s, ↓x_X4_goes_10, ↓x_X4_goes_11, ↓x_X4_goes_12, ↓x_X4_goes_13, ↓x_X4_goes_14, ↓x_X4_goes_17, ↓x_X4_goes_20, ↓x_X4_goes_21, ↓x_X4_goes_22, ↓x_X4_goes_25, ↓x_X4_goes_26, ↓x_X4_goes_27, ↓x_X4_goes_29, ↓x_X4_goes_30, ↓x_X4_goes_34, ↓x_X4_goes_35, ↓x_X4_goes_38, ↓x_X4_goes_41, ↓x_X4_goes_42, ↓x_X4_goes_43, ↓x_X4_goes_45, ↓x_X4_goes_48, ↓x_X4_goes_49, ↓x_X4_goes_50, ↓x_X4_goes_51, ↓x_X4_goes_54, ↓x_X4_goes_57, ↓x_X4_goes_60, ↓x_X4_goes_62, ↓x_X4_goes_63, ↓x_X4_goes_65, ↓x_X4_goes_66, ↓x_X4_goes_67, ↓x_X4_goes_69, ↓x_X4_goes_72, ↓x_X4_goes_75, ↓x_X4_goes_77, ↓gK_of g1, n1, ↓reduceIte]
  | succ d ih =>
    intro t h hd J
    have g1 := (J.2.2.1 m hm).2.2.1.1.2.2.1
    have ho : isO h 4 0 = true := isO_rd J.1.1.1
    have n3 : ¬ ((nS S m : Nat) : Int) ≤ (t : Int) := by omega
    have e5 : w32 ((t : Int) + 1) = ((t + 1 : Nat) : Int) := by rw [w32_in] <;> omega
    have eo := bit_or _ (gsN_b S m s t (by omega)) t (by omega)
    obtain ⟨h1, h2, a1, a2, a3, o1, o2, J2, l2, w1, w2⟩ := c_wo2 F J hm (s := t) (by omega) hm hs
    obtain ⟨h', b1, b2, b3⟩ := ih (t + 1) h2 (by omega) J2
    refine ⟨h', ?_, b2, l2.tr b3⟩
    rw [← b1, x_X4_goes_32, gsN]
    by_cases c1 : wR S m s ≤ wR S m t
    · rw [if_pos c1]
      have c2 : ¬ wR S m t < wR S m s := Rat.not_lt.mpr c1
      simp only [↓x_X4_goes_0, ↓x_X4_goes_1, ↓x_X4_goes_2, ↓x_X4_goes_5, ↓x_X4_goes_6, ↓x_X4_goes_7n, ↓x_X4_goes_7s, ↓x_X4_goes_10, ↓x_X4_goes_11, ↓x_X4_goes_12, ↓x_X4_goes_13, ↓x_X4_goes_14, ↓x_X4_goes_17, ↓x_X4_goes_20, ↓x_X4_goes_21, ↓x_X4_goes_22, ↓x_X4_goes_25, ↓x_X4_goes_26, ↓x_X4_goes_27, ↓x_X4_goes_29, ↓x_X4_goes_30, ↓x_X4_goes_34, ↓x_X4_goes_35, ↓x_X4_goes_38, ↓x_X4_goes_41, ↓x_X4_goes_42, ↓x_X4_goes_43, ↓x_X4_goes_45, ↓x_X4_goes_48, ↓x_X4_goes_49, ↓x_X4_goes_50, ↓x_X4_goes_51, ↓x_X4_goes_54, ↓x_X4_goes_57, ↓x_X4_goes_60, ↓x_X4_goes_62, ↓x_X4_goes_63, ↓x_X4_goes_65, ↓x_X4_goes_66, ↓x_X4_goes_67, ↓x_X4_goes_69, ↓x_X4_goes_72, ↓x_X4_goes_75, ↓x_X4_goes_77, ↓gK_of g1, n3, ho, o1, o2, ↓cKR a1, ↓cKR a2, ↓cKI a3, rc_lt, c2, e5, eo, ↓reduceIte]
    · rw [if_neg c1]
      have c2 : wR S m t < wR S m s := Rat.not_le.mp c1
      simp only [↓x_X4_goes_0, ↓x_X4_goes_1, ↓x_X4_goes_2, ↓x_X4_goes_5, ↓x_X4_goes_6, ↓x_X4_goes_7n, ↓x_X4_goes_7s, ↓x_X4_goes_10, ↓x_X4_goes_11, ↓x_X4_goes_12, ↓x_X4_goes_13, ↓x_X4_goes_14, ↓x_X4_goes_17, ↓x_X4_goes_20, ↓x_X4_goes_21, ↓x_X4_goes_22, ↓x_X4_goes_25, ↓x_X4_goes_26, ↓x_X4_goes_27, ↓x_X4_goes_29, ↓x_X4_goes_30, ↓x_X4_goes_34, ↓x_X4_goes_35, ↓x_X4_goes_38, ↓x_X4_goes_41, ↓x_X4_goes_42, ↓x_X4_goes_43, ↓x_X4_goes_45, ↓x_X4_goes_48, ↓x_X4_goes_49, ↓x_X4_goes_50, ↓x_X4_goes_51, ↓x_X4_goes_54, ↓x_X4_goes_57, ↓x_X4_goes_60, ↓x_X4_goes_62, ↓x_X4_goes_63, ↓x_X4_goes_65, ↓x_X4_goes_66, ↓x_X4_goes_67, ↓x_X4_goes_69, ↓x_X4_goes_72, ↓x_X4_goes_75, ↓x_X4_goes_77, ↓gK_of g1, n3, ho, o1, o2, ↓cKR a1, ↓cKR a2, ↓cKI a3, rc_lt, c2, e5, ↓reduceIte]
theorem l_least (F : WF S) (hm : m < mS S) {vm : Int} : ∀ (d t : Nat) (h : AH), t + d = nS S m → 1 ≤ t → CJ S h mb sb own →
    ∃ h', X mX4_least 17 [aR (some 0), aI vm, aR (some (mb m)), aI (lsN S m t : Nat), aI t] [] h = X mX4_least 54 [aR (some 0), aI vm, aR (some (mb m)), aI (lsN S m (nS S m) : Nat), aI (nS S m)] [] h' ∧ CJ S h' mb sb own ∧ L0 h h' := by
  obtain ⟨⟨n1, n5⟩, en, hpy, hw⟩ := F.m hm
  intro d
  induction d with
  | zero =>
    intro t h hd h1 J
    have e : t = nS S m := by omega
    subst e
    refine ⟨h, ?_, J, L0.rf⟩
    have g1 := (J.2.2.1 m hm).2.2.1.1.2.2.1
    have n1 : ((nS S m : Nat) : Int) ≤ ((nS S m : Nat) : Int) := Int.le_refl _
    rw [x_X4_least_17]
    simp only [↓x_X4_least_0, ↓x_X4_least_1, ↓x_X4_least_2, ↓x_X4_least_5, ↓x_X4_least_6, ↓x_X4_least_7n, ↓x_X4_least_7s, ↓x_X4_least_10, ↓x_X4_least_11, ↓x_X4_least_12, ↓x_X4_least_13, ↓x_X4_least_14, ↓x_X4_least_15, ↓x_X4_least_19, ↓x_X4_least_20, ↓x_X4_least_23, ↓x_X4_least_26, ↓x_X4_least_27, ↓x_X4_least_28, ↓x_X4_least_30, ↓x_X4_least_33, ↓x_X4_least_34, ↓x_X4_least_35, ↓x_X4_least_36, ↓x_X4_least_39, ↓x_X4_least_42, ↓x_X4_least_45, ↓x_X4_least_47, ↓x_X4_least_48, ↓x_X4_least_51, ↓x_X4_least_55, ↓x_X4_least_58, ↓x_X4_least_59, ↓x_X4_least_60, ↓x_X4_least_61, ↓x_X4_least_64, ↓x_X4_least_67, ↓x_X4_least_68, ↓gK_of g1, n1, ↓reduceIte]
  | succ d ih =>
    intro t h hd h1 J
    have g1 := (J.2.2.1 m hm).2.2.1.1.2.2.1
    have ho : isO h 4 0 = true := isO_rd J.1.1.1
    have n3 : ¬ ((nS S m : Nat) : Int) ≤ (t : Int) := by omega
    have e5 : w32 ((t : Int) + 1) = ((t + 1 : Nat) : Int) := by rw [w32_in] <;> omega
    have lb := lsN_b S m t h1
    obtain ⟨h1, h2, a1, a2, a3, o1, o2, J2, l2, w1, w2⟩ := c_wo2 F J hm (s := t) (by omega) hm (t := lsN S m t) (by omega)
    obtain ⟨h', b1, b2, b3⟩ := ih (t + 1) h2 (by omega) (by omega) J2
    refine ⟨h', ?_, b2, l2.tr b3⟩
    rw [← b1, x_X4_least_17, lsN]
    by_cases c1 : wR S m t < wR S m (lsN S m t)
    · rw [if_pos c1]
      have c2 : ¬ wR S m (lsN S m t) ≤ wR S m t := Rat.not_le.mpr c1
      simp only [↓x_X4_least_0, ↓x_X4_least_1, ↓x_X4_least_2, ↓x_X4_least_5, ↓x_X4_least_6, ↓x_X4_least_7n, ↓x_X4_least_7s, ↓x_X4_least_10, ↓x_X4_least_11, ↓x_X4_least_12, ↓x_X4_least_13, ↓x_X4_least_14, ↓x_X4_least_15, ↓x_X4_least_19, ↓x_X4_least_20, ↓x_X4_least_23, ↓x_X4_least_26, ↓x_X4_least_27, ↓x_X4_least_28, ↓x_X4_least_30, ↓x_X4_least_33, ↓x_X4_least_34, ↓x_X4_least_35, ↓x_X4_least_36, ↓x_X4_least_39, ↓x_X4_least_42, ↓x_X4_least_45, ↓x_X4_least_47, ↓x_X4_least_48, ↓x_X4_least_51, ↓x_X4_least_55, ↓x_X4_least_58, ↓x_X4_least_59, ↓x_X4_least_60, ↓x_X4_least_61, ↓x_X4_least_64, ↓x_X4_least_67, ↓x_X4_least_68, ↓gK_of g1, n3, ho, o1, o2, ↓cKR a1, ↓cKR a2, ↓cKI a3, rc_ge, c2, e5, ↓reduceIte]
    · rw [if_neg c1]
      have c2 : wR S m (lsN S m t) ≤ wR S m t := Rat.not_lt.mp c1
      simp only [↓x_X4_least_0, ↓x_X4_least_1, ↓x_X4_least_2, ↓x_X4_least_5, ↓x_X4_least_6, ↓x_X4_least_7n, ↓x_X4_least_7s, ↓x_X4_least_10, ↓x_X4_least_11, ↓x_X4_least_12, ↓x_X4_least_13, ↓x_X4_least_14, ↓x_X4_least_15, ↓x_X4_least_19, ↓x_X4_least_20, ↓x_X4_least_23, ↓x_X4_least_26, ↓x_X4_least_27, ↓x_X4_least_28, ↓x_X4_least_30, ↓x_X4_least_33, ↓x_X4_least_34, ↓x_X4_least_35, ↓x_X4_least_36, ↓x_X4_least_39, ↓x_X4_least_42, ↓x_X4_least_45, ↓x_X4_least_47, ↓x_X4_least_48, ↓x_X4_least_51, ↓x_X4_least_55, ↓x_X4_least_58, ↓x_X4_least_59, ↓x_X4_least_60, ↓x_X4_least_61, ↓x_X4_least_64, ↓x_X4_least_67, ↓x_X4_least_68, ↓gK_of g1, n3, ho, o1, o2, ↓cKR a1, ↓cKR a2, ↓cKI a3, rc_ge, c2, e5, ↓reduceIte]
end ORD
theorem L0.g {h h' : AH} (l : L0 h h') : grow h h' := grow_eq l
theorem CK_order {S : SS} (F : WF S) (m i : Int) : CK mX4_order [aI m, aI i] aI S (o_order m i S) := by
  intro h C
  have C0 := C
  obtain ⟨G, K, mb, sb, own, P⟩ := C
  have ho : isO h 4 0 = true := isO_rd G.1.1
  have ca := c_machineAt F G P m
  unfold o_order
  rw [e_X4_order]
  by_cases c1 : isM S m
  · rw [if_pos c1] at ca
    rw [if_neg (not_not_intro c1)]
    have hm : m.toNat < mS S := by unfold mS; omega
    obtain ⟨h', a1, a2, a3⟩ := l_order F hm (vm := m) (i := i) (nS S m.toNat) 0 h (by omega) ⟨G, K, P⟩
    refine ⟨h', ?_, a2.ci, a3.g⟩
    simp only [↓x_X4_order_0, ↓x_X4_order_1, ↓x_X4_order_2, ↓x_X4_order_5, ↓x_X4_order_6, ↓x_X4_order_7n, ↓x_X4_order_7s, ↓x_X4_order_10, ↓x_X4_order_11, ↓x_X4_order_12, ↓x_X4_order_13, ↓x_X4_order_17, ↓x_X4_order_18, ↓x_X4_order_21, ↓x_X4_order_24, ↓x_X4_order_25, ↓x_X4_order_26, ↓x_X4_order_28, ↓x_X4_order_31, ↓x_X4_order_32, ↓x_X4_order_35, ↓x_X4_order_37, ↓x_X4_order_38, ↓x_X4_order_41, ↓x_X4_order_44, ↓x_X4_order_46, ho, ↓cKR ca]
    exact a1
  · rw [if_neg c1] at ca
    rw [if_pos c1]
    refine ⟨h, ?_, C0, grow_rf⟩
    simp only [↓x_X4_order_0, ↓x_X4_order_1, ↓x_X4_order_2, ↓x_X4_order_5, ↓x_X4_order_6, ↓x_X4_order_7n, ↓x_X4_order_7s, ↓x_X4_order_10, ↓x_X4_order_11, ↓x_X4_order_12, ↓x_X4_order_13, ↓x_X4_order_17, ↓x_X4_order_18, ↓x_X4_order_21, ↓x_X4_order_24, ↓x_X4_order_25, ↓x_X4_order_26, ↓x_X4_order_28, ↓x_X4_order_31, ↓x_X4_order_32, ↓x_X4_order_35, ↓x_X4_order_37, ↓x_X4_order_38, ↓x_X4_order_41, ↓x_X4_order_44, ↓x_X4_order_46, ho, ↓cKR ca]
theorem CK_goes {S : SS} (F : WF S) (m s : Int) : CK mX4_goes [aI m, aI s] aI S (o_goes m s S) := by
  intro h C
  have C0 := C
  obtain ⟨G, K, mb, sb, own, P⟩ := C
  have ho : isO h 4 0 = true := isO_rd G.1.1
  have ca := c_machineAt F G P m
  have cf2 := c_fd2 C0
  have z : ¬ (1 : Int) = 0 := by decide
  unfold o_goes
  rw [e_X4_goes]
  by_cases c1 : isM S m
  · rw [if_pos c1] at ca
    rw [if_neg (not_not_intro c1)]
    have hm : m.toNat < mS S := by unfold mS; omega
    obtain ⟨p1, p2, ⟨M, -⟩, p4⟩ := P.1 m.toNat hm
    obtain ⟨⟨n1, n5⟩, en, hpy, hw⟩ := F.m hm
    have hoM : isO h 1 (mb m.toNat) = true := isO_rd M.2.1
    have ch := has_e M (by omega) s
    by_cases c2 : isQ S m s
    · rw [if_pos c2] at ch
      rw [if_neg (not_not_intro c2)]
      obtain ⟨s', rfl⟩ := Int.eq_ofNat_of_zero_le c2.1
      rw [Int.toNat_natCast]
      obtain ⟨h', a1, a2, a3⟩ := l_goes F hm (s := s') (by omega) (vm := m) (nS S m.toNat) 0 h (by omega) ⟨G, K, P⟩
      refine ⟨h', ?_, a2.ci, a3.g⟩
      simp only [↓x_X4_goes_0, ↓x_X4_goes_1, ↓x_X4_goes_2, ↓x_X4_goes_5, ↓x_X4_goes_6, ↓x_X4_goes_7n, ↓x_X4_goes_7s, ↓x_X4_goes_10, ↓x_X4_goes_11, ↓x_X4_goes_12, ↓x_X4_goes_13, ↓x_X4_goes_14, ↓x_X4_goes_17, ↓x_X4_goes_20, ↓x_X4_goes_21, ↓x_X4_goes_22, ↓x_X4_goes_25, ↓x_X4_goes_26, ↓x_X4_goes_27, ↓x_X4_goes_29, ↓x_X4_goes_30, ↓x_X4_goes_34, ↓x_X4_goes_35, ↓x_X4_goes_38, ↓x_X4_goes_41, ↓x_X4_goes_42, ↓x_X4_goes_43, ↓x_X4_goes_45, ↓x_X4_goes_48, ↓x_X4_goes_49, ↓x_X4_goes_50, ↓x_X4_goes_51, ↓x_X4_goes_54, ↓x_X4_goes_57, ↓x_X4_goes_60, ↓x_X4_goes_62, ↓x_X4_goes_63, ↓x_X4_goes_65, ↓x_X4_goes_66, ↓x_X4_goes_67, ↓x_X4_goes_69, ↓x_X4_goes_72, ↓x_X4_goes_75, ↓x_X4_goes_77, ho, hoM, ↓cKR ca, ↓cKI ch, z, not_false_eq_true, ↓reduceIte]
      exact a1
    · rw [if_neg c2] at ch
      rw [if_pos c2]
      refine ⟨_, ?_, K_fd C0 2⟩
      simp only [↓x_X4_goes_0, ↓x_X4_goes_1, ↓x_X4_goes_2, ↓x_X4_goes_5, ↓x_X4_goes_6, ↓x_X4_goes_7n, ↓x_X4_goes_7s, ↓x_X4_goes_10, ↓x_X4_goes_11, ↓x_X4_goes_12, ↓x_X4_goes_13, ↓x_X4_goes_14, ↓x_X4_goes_17, ↓x_X4_goes_20, ↓x_X4_goes_21, ↓x_X4_goes_22, ↓x_X4_goes_25, ↓x_X4_goes_26, ↓x_X4_goes_27, ↓x_X4_goes_29, ↓x_X4_goes_30, ↓x_X4_goes_34, ↓x_X4_goes_35, ↓x_X4_goes_38, ↓x_X4_goes_41, ↓x_X4_goes_42, ↓x_X4_goes_43, ↓x_X4_goes_45, ↓x_X4_goes_48, ↓x_X4_goes_49, ↓x_X4_goes_50, ↓x_X4_goes_51, ↓x_X4_goes_54, ↓x_X4_goes_57, ↓x_X4_goes_60, ↓x_X4_goes_62, ↓x_X4_goes_63, ↓x_X4_goes_65, ↓x_X4_goes_66, ↓x_X4_goes_67, ↓x_X4_goes_69, ↓x_X4_goes_72, ↓x_X4_goes_75, ↓x_X4_goes_77, ho, hoM, ↓cKR ca, ↓cKI ch, ↓cKI cf2, not_true_eq_false, ↓reduceIte]
  · rw [if_neg c1] at ca
    rw [if_pos c1]
    refine ⟨h, ?_, C0, grow_rf⟩
    simp only [↓x_X4_goes_0, ↓x_X4_goes_1, ↓x_X4_goes_2, ↓x_X4_goes_5, ↓x_X4_goes_6, ↓x_X4_goes_7n, ↓x_X4_goes_7s, ↓x_X4_goes_10, ↓x_X4_goes_11, ↓x_X4_goes_12, ↓x_X4_goes_13, ↓x_X4_goes_14, ↓x_X4_goes_17, ↓x_X4_goes_20, ↓x_X4_goes_21, ↓x_X4_goes_22, ↓x_X4_goes_25, ↓x_X4_goes_26, ↓x_X4_goes_27, ↓x_X4_goes_29, ↓x_X4_goes_30, ↓x_X4_goes_34, ↓x_X4_goes_35, ↓x_X4_goes_38, ↓x_X4_goes_41, ↓x_X4_goes_42, ↓x_X4_goes_43, ↓x_X4_goes_45, ↓x_X4_goes_48, ↓x_X4_goes_49, ↓x_X4_goes_50, ↓x_X4_goes_51, ↓x_X4_goes_54, ↓x_X4_goes_57, ↓x_X4_goes_60, ↓x_X4_goes_62, ↓x_X4_goes_63, ↓x_X4_goes_65, ↓x_X4_goes_66, ↓x_X4_goes_67, ↓x_X4_goes_69, ↓x_X4_goes_72, ↓x_X4_goes_75, ↓x_X4_goes_77, ho, ↓cKR ca]
theorem CK_least {S : SS} (F : WF S) (m : Int) : CK mX4_least [aI m] aI S (o_least m S) := by
  intro h C
  have C0 := C
  obtain ⟨G, K, mb, sb, own, P⟩ := C
  have ho : isO h 4 0 = true := isO_rd G.1.1
  have ca := c_machineAt F G P m
  unfold o_least
  rw [e_X4_least]
  by_cases c1 : isM S m
  · rw [if_pos c1] at ca
    rw [if_neg (not_not_intro c1)]
    have hm : m.toNat < mS S := by unfold mS; omega
    obtain ⟨⟨n1, n5⟩, en, hpy, hw⟩ := F.m hm
    obtain ⟨h1, a1, a2, a3⟩ := l_least F hm (vm := m) (nS S m.toNat - 1) 1 h (by omega) (by omega) ⟨G, K, P⟩
    have l1 : lsN S m.toNat 1 = 0 := by have := lsN_b S m.toNat 1 (by omega); omega
    rw [l1] at a1
    have lb := lsN_b S m.toNat _ n1
    obtain ⟨h', r1, J', r3, r4, r5, r6⟩ := c_worthOf F a2 hm lb
    have g3 := a2.1.1.2.2.2.1
    have ho1 : isO h1 4 0 = true := isO_rd a2.1.1.1
    obtain ⟨fr, -⟩ := J'.wg hm r3 lb
    have t8 := J'.1.2.2.2.2.2.2.1
    have ct := c_take (t8 0 (by decide)) (t8 1 (by decide)) fr
    have ho8 : isO h' 0 8 = true := isO_rd (t8 0 (by decide))
    refine ⟨_, ?_, J'.ci.wT _, grow_eq ⟨by rw [fset_len.1]; exact r5.trans a3.1, by rw [fset_len.2]; exact r6.trans a3.2⟩⟩
    simp only [↓x_X4_least_0, ↓x_X4_least_1, ↓x_X4_least_2, ↓x_X4_least_5, ↓x_X4_least_6, ↓x_X4_least_7n, ↓x_X4_least_7s, ↓x_X4_least_10, ↓x_X4_least_11, ↓x_X4_least_12, ↓x_X4_least_13, ↓x_X4_least_14, ↓x_X4_least_15, ↓x_X4_least_19, ↓x_X4_least_20, ↓x_X4_least_23, ↓x_X4_least_26, ↓x_X4_least_27, ↓x_X4_least_28, ↓x_X4_least_30, ↓x_X4_least_33, ↓x_X4_least_34, ↓x_X4_least_35, ↓x_X4_least_36, ↓x_X4_least_39, ↓x_X4_least_42, ↓x_X4_least_45, ↓x_X4_least_47, ↓x_X4_least_48, ↓x_X4_least_51, ↓x_X4_least_54, ↓x_X4_least_55, ↓x_X4_least_58, ↓x_X4_least_59, ↓x_X4_least_60, ↓x_X4_least_61, ↓x_X4_least_64, ↓x_X4_least_67, ↓x_X4_least_68, ho, ↓cKR ca]
    refine a1.trans ?_
    simp only [↓x_X4_least_0, ↓x_X4_least_1, ↓x_X4_least_2, ↓x_X4_least_5, ↓x_X4_least_6, ↓x_X4_least_7n, ↓x_X4_least_7s, ↓x_X4_least_10, ↓x_X4_least_11, ↓x_X4_least_12, ↓x_X4_least_13, ↓x_X4_least_14, ↓x_X4_least_15, ↓x_X4_least_19, ↓x_X4_least_20, ↓x_X4_least_23, ↓x_X4_least_26, ↓x_X4_least_27, ↓x_X4_least_28, ↓x_X4_least_30, ↓x_X4_least_33, ↓x_X4_least_34, ↓x_X4_least_35, ↓x_X4_least_36, ↓x_X4_least_39, ↓x_X4_least_42, ↓x_X4_least_45, ↓x_X4_least_47, ↓x_X4_least_48, ↓x_X4_least_51, ↓x_X4_least_54, ↓x_X4_least_55, ↓x_X4_least_58, ↓x_X4_least_59, ↓x_X4_least_60, ↓x_X4_least_61, ↓x_X4_least_64, ↓x_X4_least_67, ↓x_X4_least_68, ho1, ↓gK_of g3, ↓cKR r1, ho8, ↓cKV ct]
  · rw [if_neg c1] at ca
    rw [if_pos c1]
    refine ⟨h, ?_, C0, grow_rf⟩
    simp only [↓x_X4_least_0, ↓x_X4_least_1, ↓x_X4_least_2, ↓x_X4_least_5, ↓x_X4_least_6, ↓x_X4_least_7n, ↓x_X4_least_7s, ↓x_X4_least_10, ↓x_X4_least_11, ↓x_X4_least_12, ↓x_X4_least_13, ↓x_X4_least_14, ↓x_X4_least_15, ↓x_X4_least_19, ↓x_X4_least_20, ↓x_X4_least_23, ↓x_X4_least_26, ↓x_X4_least_27, ↓x_X4_least_28, ↓x_X4_least_30, ↓x_X4_least_33, ↓x_X4_least_34, ↓x_X4_least_35, ↓x_X4_least_36, ↓x_X4_least_39, ↓x_X4_least_42, ↓x_X4_least_45, ↓x_X4_least_47, ↓x_X4_least_48, ↓x_X4_least_51, ↓x_X4_least_54, ↓x_X4_least_55, ↓x_X4_least_58, ↓x_X4_least_59, ↓x_X4_least_60, ↓x_X4_least_61, ↓x_X4_least_64, ↓x_X4_least_67, ↓x_X4_least_68, ho, ↓cKR ca]
/-- greater 1, alike 0, less 2 -/
def asA (x : Int) : Int := if x = 0 then 0 else if 0 < x then 1 else 2
theorem c_asAnswer {h : AH} {x : Int} : E mX4_asAnswer [aI x] h = some (some (aI (asA x)), h) := by
  unfold asA
  rw [e_X4_asAnswer]
  by_cases c1 : x = 0
  · simp only [↓x_X4_asAnswer_0, ↓x_X4_asAnswer_1, ↓x_X4_asAnswer_4, ↓x_X4_asAnswer_5, ↓x_X4_asAnswer_6, ↓x_X4_asAnswer_7, ↓x_X4_asAnswer_10, ↓x_X4_asAnswer_11, ↓x_X4_asAnswer_14, ↓x_X4_asAnswer_15, c1, not_true_eq_false, ↓reduceIte]
  · by_cases c2 : 0 < x
    · have c3 : ¬ x ≤ 0 := by omega
      simp only [↓x_X4_asAnswer_0, ↓x_X4_asAnswer_1, ↓x_X4_asAnswer_4, ↓x_X4_asAnswer_5, ↓x_X4_asAnswer_6, ↓x_X4_asAnswer_7, ↓x_X4_asAnswer_10, ↓x_X4_asAnswer_11, ↓x_X4_asAnswer_14, ↓x_X4_asAnswer_15, c1, c2, c3, not_false_eq_true, ↓reduceIte]
    · have c3 : x ≤ 0 := by omega
      simp only [↓x_X4_asAnswer_0, ↓x_X4_asAnswer_1, ↓x_X4_asAnswer_4, ↓x_X4_asAnswer_5, ↓x_X4_asAnswer_6, ↓x_X4_asAnswer_7, ↓x_X4_asAnswer_10, ↓x_X4_asAnswer_11, ↓x_X4_asAnswer_14, ↓x_X4_asAnswer_15, c1, c2, c3, not_false_eq_true, ↓reduceIte]
noncomputable def o_compare (m s o t : Int) (S : SS) : Int × SS := if ¬ isM S m ∨ ¬ isM S o then (-1, S) else if ¬ isQ S m s ∨ ¬ isQ S o t then (-3, fdS S 2) else (asA (rc (wR S m.toNat s.toNat) (wR S o.toNat t.toNat)), S)
theorem CK_compare {S : SS} (F : WF S) (m s o t : Int) : CK mX4_compare [aI m, aI s, aI o, aI t] aI S (o_compare m s o t S) := by
  intro h C
  have C0 := C
  obtain ⟨G, K, mb, sb, own, P⟩ := C
  have ho : isO h 4 0 = true := isO_rd G.1.1
  have ca := c_machineAt F G P m
  have cb := c_machineAt F G P o
  have cf2 := c_fd2 C0
  have z : ¬ (1 : Int) = 0 := by decide
  unfold o_compare
  rw [e_X4_compare]
  by_cases c1 : isM S m
  · rw [if_pos c1] at ca
    by_cases c0 : isM S o
    · rw [if_pos c0] at cb
      rw [if_neg (by omega)]
      have hm : m.toNat < mS S := by unfold mS; omega
      have hm2 : o.toNat < mS S := by unfold mS; omega
      obtain ⟨p1, p2, ⟨M, -⟩, p4⟩ := P.1 m.toNat hm
      obtain ⟨q1, q2, ⟨N, -⟩, q4⟩ := P.1 o.toNat hm2
      obtain ⟨⟨n1, n5⟩, en, hpy, hw⟩ := F.m hm
      obtain ⟨⟨u1, u5⟩, eu, -, -⟩ := F.m hm2
      have hoM : isO h 1 (mb m.toNat) = true := isO_rd M.2.1
      have hoN : isO h 1 (mb o.toNat) = true := isO_rd N.2.1
      have ch := has_e M (by omega) s
      have cg := has_e N (by omega) t
      by_cases c2 : isQ S m s
      · rw [if_pos c2] at ch
        by_cases c3 : isQ S o t
        · rw [if_pos c3] at cg
          rw [if_neg (by omega)]
          obtain ⟨s', rfl⟩ := Int.eq_ofNat_of_zero_le c2.1
          obtain ⟨t', rfl⟩ := Int.eq_ofNat_of_zero_le c3.1
          rw [Int.toNat_natCast, Int.toNat_natCast]
          obtain ⟨h1, h2, a1, a2, a3, o1, o2, J2, l2, w1, w2⟩ := c_wo2 F ⟨G, K, P⟩ hm (s := s') (by omega) hm2 (t := t') (by omega)
          refine ⟨h2, ?_, J2.ci, l2.g⟩
          simp only [↓x_X4_compare_0, ↓x_X4_compare_1, ↓x_X4_compare_2, ↓x_X4_compare_5, ↓x_X4_compare_7, ↓x_X4_compare_8, ↓x_X4_compare_9, ↓x_X4_compare_12, ↓x_X4_compare_14, ↓x_X4_compare_16n, ↓x_X4_compare_16s, ↓x_X4_compare_19, ↓x_X4_compare_21n, ↓x_X4_compare_21s, ↓x_X4_compare_24, ↓x_X4_compare_25, ↓x_X4_compare_26, ↓x_X4_compare_28, ↓x_X4_compare_29, ↓x_X4_compare_32, ↓x_X4_compare_35, ↓x_X4_compare_37, ↓x_X4_compare_39, ↓x_X4_compare_42, ↓x_X4_compare_45, ↓x_X4_compare_46, ↓x_X4_compare_47, ↓x_X4_compare_50, ↓x_X4_compare_51, ↓x_X4_compare_52, ↓x_X4_compare_54, ↓x_X4_compare_55, ↓x_X4_compare_58, ↓x_X4_compare_59, ↓x_X4_compare_61, ↓x_X4_compare_63, ↓x_X4_compare_66, ↓x_X4_compare_69, ↓x_X4_compare_72, ho, hoM, hoN, o1, o2, ↓cKR ca, ↓cKR cb, ↓cKI ch, ↓cKI cg, z, ↓cKR a1, ↓cKR a2, ↓cKI a3, ↓cKI c_asAnswer, not_false_eq_true, ↓reduceIte]
        · rw [if_neg c3] at cg
          rw [if_pos (Or.inr c3)]
          refine ⟨_, ?_, K_fd C0 2⟩
          simp only [↓x_X4_compare_0, ↓x_X4_compare_1, ↓x_X4_compare_2, ↓x_X4_compare_5, ↓x_X4_compare_7, ↓x_X4_compare_8, ↓x_X4_compare_9, ↓x_X4_compare_12, ↓x_X4_compare_14, ↓x_X4_compare_16n, ↓x_X4_compare_16s, ↓x_X4_compare_19, ↓x_X4_compare_21n, ↓x_X4_compare_21s, ↓x_X4_compare_24, ↓x_X4_compare_25, ↓x_X4_compare_26, ↓x_X4_compare_28, ↓x_X4_compare_29, ↓x_X4_compare_32, ↓x_X4_compare_35, ↓x_X4_compare_37, ↓x_X4_compare_39, ↓x_X4_compare_42, ↓x_X4_compare_45, ↓x_X4_compare_46, ↓x_X4_compare_47, ↓x_X4_compare_50, ↓x_X4_compare_51, ↓x_X4_compare_52, ↓x_X4_compare_54, ↓x_X4_compare_55, ↓x_X4_compare_58, ↓x_X4_compare_59, ↓x_X4_compare_61, ↓x_X4_compare_63, ↓x_X4_compare_66, ↓x_X4_compare_69, ↓x_X4_compare_72, ho, hoM, hoN, ↓cKR ca, ↓cKR cb, ↓cKI ch, ↓cKI cg, z, ↓cKI cf2, not_true_eq_false, ↓reduceIte]
      · rw [if_neg c2] at ch
        rw [if_pos (Or.inl c2)]
        refine ⟨_, ?_, K_fd C0 2⟩
        simp only [↓x_X4_compare_0, ↓x_X4_compare_1, ↓x_X4_compare_2, ↓x_X4_compare_5, ↓x_X4_compare_7, ↓x_X4_compare_8, ↓x_X4_compare_9, ↓x_X4_compare_12, ↓x_X4_compare_14, ↓x_X4_compare_16n, ↓x_X4_compare_16s, ↓x_X4_compare_19, ↓x_X4_compare_21n, ↓x_X4_compare_21s, ↓x_X4_compare_24, ↓x_X4_compare_25, ↓x_X4_compare_26, ↓x_X4_compare_28, ↓x_X4_compare_29, ↓x_X4_compare_32, ↓x_X4_compare_35, ↓x_X4_compare_37, ↓x_X4_compare_39, ↓x_X4_compare_42, ↓x_X4_compare_45, ↓x_X4_compare_46, ↓x_X4_compare_47, ↓x_X4_compare_50, ↓x_X4_compare_51, ↓x_X4_compare_52, ↓x_X4_compare_54, ↓x_X4_compare_55, ↓x_X4_compare_58, ↓x_X4_compare_59, ↓x_X4_compare_61, ↓x_X4_compare_63, ↓x_X4_compare_66, ↓x_X4_compare_69, ↓x_X4_compare_72, ho, hoM, hoN, ↓cKR ca, ↓cKR cb, ↓cKI ch, ↓cKI cf2, ↓reduceIte]
    · rw [if_neg c0] at cb
      rw [if_pos (Or.inr c0)]
      refine ⟨h, ?_, C0, grow_rf⟩
      simp only [↓x_X4_compare_0, ↓x_X4_compare_1, ↓x_X4_compare_2, ↓x_X4_compare_5, ↓x_X4_compare_7, ↓x_X4_compare_8, ↓x_X4_compare_9, ↓x_X4_compare_12, ↓x_X4_compare_14, ↓x_X4_compare_16n, ↓x_X4_compare_16s, ↓x_X4_compare_19, ↓x_X4_compare_21n, ↓x_X4_compare_21s, ↓x_X4_compare_24, ↓x_X4_compare_25, ↓x_X4_compare_26, ↓x_X4_compare_28, ↓x_X4_compare_29, ↓x_X4_compare_32, ↓x_X4_compare_35, ↓x_X4_compare_37, ↓x_X4_compare_39, ↓x_X4_compare_42, ↓x_X4_compare_45, ↓x_X4_compare_46, ↓x_X4_compare_47, ↓x_X4_compare_50, ↓x_X4_compare_51, ↓x_X4_compare_52, ↓x_X4_compare_54, ↓x_X4_compare_55, ↓x_X4_compare_58, ↓x_X4_compare_59, ↓x_X4_compare_61, ↓x_X4_compare_63, ↓x_X4_compare_66, ↓x_X4_compare_69, ↓x_X4_compare_72, ho, ↓cKR ca, ↓cKR cb]
  · rw [if_neg c1] at ca
    rw [if_pos (Or.inl c1)]
    refine ⟨h, ?_, C0, grow_rf⟩
    by_cases c0 : isM S o
    · rw [if_pos c0] at cb
      simp only [↓x_X4_compare_0, ↓x_X4_compare_1, ↓x_X4_compare_2, ↓x_X4_compare_5, ↓x_X4_compare_7, ↓x_X4_compare_8, ↓x_X4_compare_9, ↓x_X4_compare_12, ↓x_X4_compare_14, ↓x_X4_compare_16n, ↓x_X4_compare_16s, ↓x_X4_compare_19, ↓x_X4_compare_21n, ↓x_X4_compare_21s, ↓x_X4_compare_24, ↓x_X4_compare_25, ↓x_X4_compare_26, ↓x_X4_compare_28, ↓x_X4_compare_29, ↓x_X4_compare_32, ↓x_X4_compare_35, ↓x_X4_compare_37, ↓x_X4_compare_39, ↓x_X4_compare_42, ↓x_X4_compare_45, ↓x_X4_compare_46, ↓x_X4_compare_47, ↓x_X4_compare_50, ↓x_X4_compare_51, ↓x_X4_compare_52, ↓x_X4_compare_54, ↓x_X4_compare_55, ↓x_X4_compare_58, ↓x_X4_compare_59, ↓x_X4_compare_61, ↓x_X4_compare_63, ↓x_X4_compare_66, ↓x_X4_compare_69, ↓x_X4_compare_72, ho, ↓cKR ca, ↓cKR cb]
    · rw [if_neg c0] at cb
      simp only [↓x_X4_compare_0, ↓x_X4_compare_1, ↓x_X4_compare_2, ↓x_X4_compare_5, ↓x_X4_compare_7, ↓x_X4_compare_8, ↓x_X4_compare_9, ↓x_X4_compare_12, ↓x_X4_compare_14, ↓x_X4_compare_16n, ↓x_X4_compare_16s, ↓x_X4_compare_19, ↓x_X4_compare_21n, ↓x_X4_compare_21s, ↓x_X4_compare_24, ↓x_X4_compare_25, ↓x_X4_compare_26, ↓x_X4_compare_28, ↓x_X4_compare_29, ↓x_X4_compare_32, ↓x_X4_compare_35, ↓x_X4_compare_37, ↓x_X4_compare_39, ↓x_X4_compare_42, ↓x_X4_compare_45, ↓x_X4_compare_46, ↓x_X4_compare_47, ↓x_X4_compare_50, ↓x_X4_compare_51, ↓x_X4_compare_52, ↓x_X4_compare_54, ↓x_X4_compare_55, ↓x_X4_compare_58, ↓x_X4_compare_59, ↓x_X4_compare_61, ↓x_X4_compare_63, ↓x_X4_compare_66, ↓x_X4_compare_69, ↓x_X4_compare_72, ho, ↓cKR ca, ↓cKR cb]
