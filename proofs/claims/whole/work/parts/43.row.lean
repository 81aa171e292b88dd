section LR
variable {a n : Nat} {kd : Int} {py : Nat → Int} {w : Nat → Nat → Int} {p q : Nat}
/-- the states from st on, L of them -/
def rowT (st L : Nat) : Nat → Bool := fun t => decide (st ≤ t) && decide (t < st + L)
/-- the first L at which the row is worth most -/
def IsRow (n : Nat) (al : Nat → Rat) (w : Nat → Nat → Rat) (py : Nat → Rat) (st N L : Nat) (la : Rat) : Prop := (1 ≤ L ∧ L ≤ N) ∧ IsV n al w py st (rowT st L) la ∧ ∀ L' r, 1 ≤ L' → L' ≤ N → IsV n al w py st (rowT st L') r → r ≤ la ∧ (L' < L → r < la)
theorem rowT_next {st L : Nat} {set : Nat} (h : ∀ t, Nat.testBit set t = rowT st L t) (t : Nat) : Nat.testBit (set ||| 1 <<< (st + L)) t = rowT st (L + 1) t := by
  rw [bit_or_at, h]
  unfold rowT
  exact Bool.eq_iff_iff.mpr (by simp; omega)
theorem l_row (ha : 11 ≤ a) (hpy : PB n py) (hw : WB n w) (hp : 1 ≤ p ∧ p < q ∧ q ≤ 8) {st : Nat} (hst : st < n) : ∀ (d N : Nat) (h : AH) (set L : Nat) (v8 : AV), st + N + d = n → set < 32 → (∀ t, Nat.testBit set t = rowT st N t) → RKF h → Mach h a kd n py w → ((N = 0 ∧ L = 0) ∨ ∃ la, FrAt h 7 la ∧ RB la ∧ IsRow n (rAl q n w) (rW p w) (rPy py) st N L la) →
    ∃ h' L' la, X mX2_longestRow 9 [aR (some 3), aR (some a), aI st, aI p, aI q, aI set, aI L, aI ((st + N : Nat) : Int), v8] [] h = some (some (aI ((L' : Nat) : Int)), h') ∧ SameR Rg1 h h' ∧ RKF h' ∧ IsRow n (rAl q n w) (rW p w) (rPy py) st (n - st) L' la := by
  intro d
  induction d with
  | zero =>
    intro N h set L v8 hd hset hT K M B
    have e : st + N = n := by omega
    rcases B with ⟨b1, b2⟩ | ⟨la, b1, b2, b3⟩
    · omega
    · refine ⟨h, L, la, ?_, SameR.rf, K, by rw [show n - st = N by omega]; exact b3⟩
      rw [e]
      have n1 : (n : Int) ≤ (n : Int) := Int.le_refl _
      rw [x_X2_longestRow_9]
      simp only [↓x_X2_longestRow_0, ↓x_X2_longestRow_1, ↓x_X2_longestRow_3, ↓x_X2_longestRow_4, ↓x_X2_longestRow_6, ↓x_X2_longestRow_7, ↓x_X2_longestRow_11, ↓x_X2_longestRow_12, ↓x_X2_longestRow_15, ↓x_X2_longestRow_18, ↓x_X2_longestRow_20, ↓x_X2_longestRow_21, ↓x_X2_longestRow_23, ↓x_X2_longestRow_24, ↓x_X2_longestRow_25, ↓x_X2_longestRow_27, ↓x_X2_longestRow_28, ↓x_X2_longestRow_29, ↓x_X2_longestRow_30, ↓x_X2_longestRow_32, ↓x_X2_longestRow_33, ↓x_X2_longestRow_35, ↓x_X2_longestRow_38, ↓x_X2_longestRow_40, ↓x_X2_longestRow_42, ↓x_X2_longestRow_45, ↓x_X2_longestRow_47, ↓x_X2_longestRow_48, ↓x_X2_longestRow_51, ↓x_X2_longestRow_54, ↓x_X2_longestRow_57, ↓x_X2_longestRow_58, ↓x_X2_longestRow_61, ↓x_X2_longestRow_63, ↓x_X2_longestRow_66, ↓x_X2_longestRow_68, ↓x_X2_longestRow_69, ↓x_X2_longestRow_70, ↓x_X2_longestRow_71, ↓x_X2_longestRow_72, ↓x_X2_longestRow_74, ↓x_X2_longestRow_77, ↓x_X2_longestRow_80, ↓x_X2_longestRow_82, ↓gK_of M.2.2.1, n1, ↓reduceIte]
  | succ d ih =>
    intro N h set L v8 hd hset hT K M B
    have hn5 := M.1.2
    have n1 : ¬ ((n : Int) ≤ ((st + N : Nat) : Int)) := by omega
    have e5 : w32 (((st + N : Nat) : Int) + 1) = ((st + (N + 1) : Nat) : Int) := by rw [w32_in] <;> omega
    have eo := bit_or set hset (st + N) (by omega)
    have hset' := bit_add set hset (st + N) (by omega)
    have hT' := rowT_next hT
    obtain ⟨h1, r, g1, g2, g3, g4, g5, g6⟩ := c_valueOf ha K M hpy hw hp hst hset'
    have g4' : IsV n (rAl q n w) (rW p w) (rPy py) st (rowT st (N + 1)) r := g4.congr fun u _ => hT' u
    have sg1 : SameR Rg1 h h1 := g2.up fun t x z => Or.inl z
    have M1 := M.v ha g2
    have ho : isO h 2 3 = true := isO_rd K.1.1
    have k7 : rd h1 2 3 3 = some (aR (some 7)) := g6.1.2.2.2.1
    have ho6 : isO h1 0 6 = true := isO_rd g3.1
    obtain ⟨x7, y7, hx7, hy7⟩ := g6.2.2.2.2
    have ho7 : isO h1 0 7 = true := isO_rd hx7
    have ct := c_take hx7 hy7 g3
    have hu : ∀ r', IsV n (rAl q n w) (rW p w) (rPy py) st (rowT st (N + 1)) r' → r' = r := fun r' h' => IsV.uniq (sysR hw ⟨hp.1, hp.2.1⟩) hst h' g4'
    have sf : SameR Rg1 h1 (fset h1 7 r) := fset_same (Or.inr ⟨rfl, rfl⟩) _ _
    have Kt := g6.take r
    have Mt : Mach (fset h1 7 r) a kd n py w := M1.up (fun t b z _ => by have := Rg1_b z; omega) sf
    have e6 : w32 (w32 (((st + N : Nat) : Int) - (st : Int)) + 1) = ((N + 1 : Nat) : Int) := by rw [w32_in (x := ((st + N : Nat) : Int) - (st : Int)), w32_in] <;> omega
    rcases B with ⟨b1, b2⟩ | ⟨la, b1, b2, b3⟩
    · subst b1; subst b2
      obtain ⟨h', L', la', f1, f2, f3⟩ := ih 1 _ (set ||| 1 <<< (st + 0)) 1 (aR (some 6)) (by omega) hset' hT' Kt Mt (Or.inr ⟨r, fset_at hx7 hy7 r, g5, ⟨by omega, by omega⟩, g4', fun L' r' h1 h2 h3 => by
        have e : L' = 0 + 1 := by omega
        subst e
        rw [hu r' h3]
        exact ⟨Rat.le_refl, fun z => by omega⟩⟩)
      refine ⟨h', L', la', ?_, (sg1.tr sf).tr f2, f3⟩
      refine Eq.trans ?_ f1
      rw [x_X2_longestRow_9]
      have n3 : ((0 : Nat) : Int) = 0 := rfl
      simp only [↓x_X2_longestRow_0, ↓x_X2_longestRow_1, ↓x_X2_longestRow_3, ↓x_X2_longestRow_4, ↓x_X2_longestRow_6, ↓x_X2_longestRow_7, ↓x_X2_longestRow_11, ↓x_X2_longestRow_12, ↓x_X2_longestRow_15, ↓x_X2_longestRow_18, ↓x_X2_longestRow_20, ↓x_X2_longestRow_21, ↓x_X2_longestRow_23, ↓x_X2_longestRow_24, ↓x_X2_longestRow_25, ↓x_X2_longestRow_27, ↓x_X2_longestRow_28, ↓x_X2_longestRow_29, ↓x_X2_longestRow_30, ↓x_X2_longestRow_32, ↓x_X2_longestRow_33, ↓x_X2_longestRow_38, ↓x_X2_longestRow_40, ↓x_X2_longestRow_42, ↓x_X2_longestRow_45, ↓x_X2_longestRow_47, ↓x_X2_longestRow_48, ↓x_X2_longestRow_51, ↓x_X2_longestRow_54, ↓x_X2_longestRow_57, ↓x_X2_longestRow_58, ↓x_X2_longestRow_61, ↓x_X2_longestRow_63, ↓x_X2_longestRow_66, ↓x_X2_longestRow_68, ↓x_X2_longestRow_69, ↓x_X2_longestRow_70, ↓x_X2_longestRow_71, ↓x_X2_longestRow_72, ↓x_X2_longestRow_74, ↓x_X2_longestRow_77, ↓x_X2_longestRow_80, ↓x_X2_longestRow_82, ↓gK_of M.2.2.1, n1, eo, ↓reduceIte]
      simp only [↓x_X2_longestRow_0, ↓x_X2_longestRow_1, ↓x_X2_longestRow_3, ↓x_X2_longestRow_4, ↓x_X2_longestRow_6, ↓x_X2_longestRow_7, ↓x_X2_longestRow_11, ↓x_X2_longestRow_12, ↓x_X2_longestRow_15, ↓x_X2_longestRow_18, ↓x_X2_longestRow_20, ↓x_X2_longestRow_21, ↓x_X2_longestRow_23, ↓x_X2_longestRow_24, ↓x_X2_longestRow_25, ↓x_X2_longestRow_27, ↓x_X2_longestRow_28, ↓x_X2_longestRow_29, ↓x_X2_longestRow_30, ↓x_X2_longestRow_32, ↓x_X2_longestRow_33, ↓x_X2_longestRow_35, ↓x_X2_longestRow_38, ↓x_X2_longestRow_40, ↓x_X2_longestRow_42, ↓x_X2_longestRow_45, ↓x_X2_longestRow_47, ↓x_X2_longestRow_48, ↓x_X2_longestRow_51, ↓x_X2_longestRow_54, ↓x_X2_longestRow_57, ↓x_X2_longestRow_58, ↓x_X2_longestRow_61, ↓x_X2_longestRow_63, ↓x_X2_longestRow_66, ↓x_X2_longestRow_68, ↓x_X2_longestRow_69, ↓x_X2_longestRow_70, ↓x_X2_longestRow_71, ↓x_X2_longestRow_72, ↓x_X2_longestRow_74, ↓x_X2_longestRow_77, ↓x_X2_longestRow_80, ↓x_X2_longestRow_82, ↓gK_of M.2.2.1, ho, ↓cKR g1, n3, ↓gK_of k7, ho7, ↓cKV ct, e5, e6, ↓reduceIte]
    · have b1' : FrAt h1 7 la := b1.same (fun z => by rcases z with z | z | z <;> obtain ⟨z1, z2⟩ := z <;> omega) g2
      have ca := c_against g3 b1' g5 b2
      have n3 : ¬ ((L : Int) = 0) := by have := b3.1.1; omega
      by_cases hlt : la < r
      · have erc : rc r la = 1 := if_pos hlt
        rw [erc] at ca
        have n4 : ¬ ((1 : Int) ≤ 0) := by decide
        obtain ⟨h', L', la', f1, f2, f3⟩ := ih (N + 1) _ (set ||| 1 <<< (st + N)) (N + 1) (aR (some 6)) (by omega) hset' hT' Kt Mt (Or.inr ⟨r, fset_at hx7 hy7 r, g5, ⟨by omega, by omega⟩, g4', fun L' r' h1 h2 h3 => by
          by_cases e : L' = N + 1
          · subst e
            rw [hu r' h3]
            exact ⟨Rat.le_refl, fun z => by omega⟩
          · have h4 := (b3.2.2 L' r' h1 (by omega) h3).1
            have h5 : r' < r := by grind
            exact ⟨Rat.le_of_lt h5, fun _ => h5⟩⟩)
        refine ⟨h', L', la', ?_, (sg1.tr sf).tr f2, f3⟩
        rw [← f1, x_X2_longestRow_9]
        simp only [↓x_X2_longestRow_0, ↓x_X2_longestRow_1, ↓x_X2_longestRow_3, ↓x_X2_longestRow_4, ↓x_X2_longestRow_6, ↓x_X2_longestRow_7, ↓x_X2_longestRow_11, ↓x_X2_longestRow_12, ↓x_X2_longestRow_15, ↓x_X2_longestRow_18, ↓x_X2_longestRow_20, ↓x_X2_longestRow_21, ↓x_X2_longestRow_23, ↓x_X2_longestRow_24, ↓x_X2_longestRow_25, ↓x_X2_longestRow_27, ↓x_X2_longestRow_28, ↓x_X2_longestRow_29, ↓x_X2_longestRow_30, ↓x_X2_longestRow_32, ↓x_X2_longestRow_33, ↓x_X2_longestRow_38, ↓x_X2_longestRow_40, ↓x_X2_longestRow_42, ↓x_X2_longestRow_45, ↓x_X2_longestRow_47, ↓x_X2_longestRow_48, ↓x_X2_longestRow_51, ↓x_X2_longestRow_54, ↓x_X2_longestRow_57, ↓x_X2_longestRow_58, ↓x_X2_longestRow_61, ↓x_X2_longestRow_63, ↓x_X2_longestRow_66, ↓x_X2_longestRow_68, ↓x_X2_longestRow_69, ↓x_X2_longestRow_70, ↓x_X2_longestRow_71, ↓x_X2_longestRow_72, ↓x_X2_longestRow_74, ↓x_X2_longestRow_77, ↓x_X2_longestRow_80, ↓x_X2_longestRow_82, ↓gK_of M.2.2.1, n1, eo, ↓reduceIte]
        simp only [↓x_X2_longestRow_0, ↓x_X2_longestRow_1, ↓x_X2_longestRow_3, ↓x_X2_longestRow_4, ↓x_X2_longestRow_6, ↓x_X2_longestRow_7, ↓x_X2_longestRow_11, ↓x_X2_longestRow_12, ↓x_X2_longestRow_15, ↓x_X2_longestRow_18, ↓x_X2_longestRow_20, ↓x_X2_longestRow_21, ↓x_X2_longestRow_23, ↓x_X2_longestRow_24, ↓x_X2_longestRow_25, ↓x_X2_longestRow_27, ↓x_X2_longestRow_28, ↓x_X2_longestRow_29, ↓x_X2_longestRow_30, ↓x_X2_longestRow_32, ↓x_X2_longestRow_33, ↓x_X2_longestRow_35, ↓x_X2_longestRow_38, ↓x_X2_longestRow_40, ↓x_X2_longestRow_42, ↓x_X2_longestRow_45, ↓x_X2_longestRow_47, ↓x_X2_longestRow_48, ↓x_X2_longestRow_51, ↓x_X2_longestRow_54, ↓x_X2_longestRow_57, ↓x_X2_longestRow_58, ↓x_X2_longestRow_61, ↓x_X2_longestRow_63, ↓x_X2_longestRow_66, ↓x_X2_longestRow_68, ↓x_X2_longestRow_69, ↓x_X2_longestRow_70, ↓x_X2_longestRow_71, ↓x_X2_longestRow_72, ↓x_X2_longestRow_74, ↓x_X2_longestRow_77, ↓x_X2_longestRow_80, ↓x_X2_longestRow_82, ↓gK_of M.2.2.1, ho, ↓cKR g1, n3, n4, ↓gK_of k7, ho6, ho7, ↓cKI ca, ↓cKV ct, e5, e6, ↓reduceIte]
      · have n4 : rc r la ≤ 0 := by unfold rc; rw [if_neg hlt]; split <;> decide
        obtain ⟨h', L', la', f1, f2, f3⟩ := ih (N + 1) h1 (set ||| 1 <<< (st + N)) L (aR (some 6)) (by omega) hset' hT' g6 M1 (Or.inr ⟨la, b1', b2, ⟨b3.1.1, by have := b3.1.2; omega⟩, b3.2.1, fun L' r' h1 h2 h3 => by
          by_cases e : L' = N + 1
          · subst e
            rw [hu r' h3]
            exact ⟨Rat.not_lt.mp hlt, fun z => by have := b3.1.2; omega⟩
          · exact b3.2.2 L' r' h1 (by omega) h3⟩)
        refine ⟨h', L', la', ?_, sg1.tr f2, f3⟩
        rw [← f1, x_X2_longestRow_9]
        simp only [↓x_X2_longestRow_0, ↓x_X2_longestRow_1, ↓x_X2_longestRow_3, ↓x_X2_longestRow_4, ↓x_X2_longestRow_6, ↓x_X2_longestRow_7, ↓x_X2_longestRow_11, ↓x_X2_longestRow_12, ↓x_X2_longestRow_15, ↓x_X2_longestRow_18, ↓x_X2_longestRow_20, ↓x_X2_longestRow_21, ↓x_X2_longestRow_23, ↓x_X2_longestRow_24, ↓x_X2_longestRow_25, ↓x_X2_longestRow_27, ↓x_X2_longestRow_28, ↓x_X2_longestRow_29, ↓x_X2_longestRow_30, ↓x_X2_longestRow_32, ↓x_X2_longestRow_33, ↓x_X2_longestRow_38, ↓x_X2_longestRow_40, ↓x_X2_longestRow_42, ↓x_X2_longestRow_45, ↓x_X2_longestRow_47, ↓x_X2_longestRow_48, ↓x_X2_longestRow_51, ↓x_X2_longestRow_54, ↓x_X2_longestRow_57, ↓x_X2_longestRow_58, ↓x_X2_longestRow_61, ↓x_X2_longestRow_63, ↓x_X2_longestRow_66, ↓x_X2_longestRow_68, ↓x_X2_longestRow_69, ↓x_X2_longestRow_70, ↓x_X2_longestRow_71, ↓x_X2_longestRow_72, ↓x_X2_longestRow_74, ↓x_X2_longestRow_77, ↓x_X2_longestRow_80, ↓x_X2_longestRow_82, ↓gK_of M.2.2.1, n1, eo, ↓reduceIte]
        simp only [↓x_X2_longestRow_0, ↓x_X2_longestRow_1, ↓x_X2_longestRow_3, ↓x_X2_longestRow_4, ↓x_X2_longestRow_6, ↓x_X2_longestRow_7, ↓x_X2_longestRow_11, ↓x_X2_longestRow_12, ↓x_X2_longestRow_15, ↓x_X2_longestRow_18, ↓x_X2_longestRow_20, ↓x_X2_longestRow_21, ↓x_X2_longestRow_23, ↓x_X2_longestRow_24, ↓x_X2_longestRow_25, ↓x_X2_longestRow_27, ↓x_X2_longestRow_28, ↓x_X2_longestRow_29, ↓x_X2_longestRow_30, ↓x_X2_longestRow_32, ↓x_X2_longestRow_33, ↓x_X2_longestRow_35, ↓x_X2_longestRow_38, ↓x_X2_longestRow_40, ↓x_X2_longestRow_42, ↓x_X2_longestRow_45, ↓x_X2_longestRow_47, ↓x_X2_longestRow_48, ↓x_X2_longestRow_51, ↓x_X2_longestRow_54, ↓x_X2_longestRow_57, ↓x_X2_longestRow_58, ↓x_X2_longestRow_61, ↓x_X2_longestRow_63, ↓x_X2_longestRow_66, ↓x_X2_longestRow_68, ↓x_X2_longestRow_69, ↓x_X2_longestRow_70, ↓x_X2_longestRow_71, ↓x_X2_longestRow_72, ↓x_X2_longestRow_74, ↓x_X2_longestRow_77, ↓x_X2_longestRow_80, ↓x_X2_longestRow_82, ↓gK_of M.2.2.1, ho, ↓cKR g1, n3, n4, ↓gK_of k7, ho6, ho7, ↓cKI ca, e5, e6, ↓reduceIte]
theorem c_row {h : AH} (ha : 11 ≤ a) (hpy : PB n py) (hw : WB n w) (hp : 1 ≤ p ∧ p < q ∧ q ≤ 8) {st : Nat} (hst : st < n) (K : RKF h) (M : Mach h a kd n py w) :
    ∃ h' L la, E mX2_longestRow [aR (some 3), aR (some a), aI st, aI p, aI q] h = some (some (aI ((L : Nat) : Int)), h') ∧ SameR Rg1 h h' ∧ RKF h' ∧ IsRow n (rAl q n w) (rW p w) (rPy py) st (n - st) L la := by
  obtain ⟨h', L', la, g1, g2⟩ := l_row ha hpy hw hp hst (n - st) 0 h 0 0 aU (by omega) (by decide) (fun t => by rw [Nat.zero_testBit]; unfold rowT; exact Bool.eq_iff_iff.mpr (by simp)) K M (Or.inl ⟨rfl, rfl⟩)
  refine ⟨h', L', la, ?_, g2⟩
  rw [e_X2_longestRow]
  simp only [↓x_X2_longestRow_0, ↓x_X2_longestRow_1, ↓x_X2_longestRow_3, ↓x_X2_longestRow_4, ↓x_X2_longestRow_6, ↓x_X2_longestRow_7, ↓x_X2_longestRow_11, ↓x_X2_longestRow_12, ↓x_X2_longestRow_15, ↓x_X2_longestRow_18, ↓x_X2_longestRow_20, ↓x_X2_longestRow_21, ↓x_X2_longestRow_23, ↓x_X2_longestRow_24, ↓x_X2_longestRow_25, ↓x_X2_longestRow_27, ↓x_X2_longestRow_28, ↓x_X2_longestRow_29, ↓x_X2_longestRow_30, ↓x_X2_longestRow_32, ↓x_X2_longestRow_33, ↓x_X2_longestRow_35, ↓x_X2_longestRow_38, ↓x_X2_longestRow_40, ↓x_X2_longestRow_42, ↓x_X2_longestRow_45, ↓x_X2_longestRow_47, ↓x_X2_longestRow_48, ↓x_X2_longestRow_51, ↓x_X2_longestRow_54, ↓x_X2_longestRow_57, ↓x_X2_longestRow_58, ↓x_X2_longestRow_61, ↓x_X2_longestRow_63, ↓x_X2_longestRow_66, ↓x_X2_longestRow_68, ↓x_X2_longestRow_69, ↓x_X2_longestRow_70, ↓x_X2_longestRow_71, ↓x_X2_longestRow_72, ↓x_X2_longestRow_74, ↓x_X2_longestRow_77, ↓x_X2_longestRow_80, ↓x_X2_longestRow_82]
  exact g1
end LR
