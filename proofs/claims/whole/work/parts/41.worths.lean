theorem nP_add {D D' : Nat → Bool} {s : Nat} (hD : D s = false) (h : ∀ t, D' t = (D t || t == s)) : ∀ n, nP D' n = nP D n + if s < n then 1 else 0
  | 0 => by simp [nP]
  | n + 1 => by
    rw [nP, nP, nP_add hD h n, h n]
    by_cases e : n = s
    · subst e
      rw [hD]
      simp
    · have e1 : (n == s) = false := by simpa using e
      rw [e1, Bool.or_false]
      by_cases q : s < n
      · rw [if_pos q, if_pos (show s < n + 1 by omega)]; split <;> omega
      · rw [if_neg q, if_neg (show ¬ s < n + 1 by omega)]
        rfl
theorem bit_add : ∀ set, set < 32 → ∀ s, s < 5 → (set ||| 1 <<< s) < 32 := by decide +kernel
theorem bit_or_at (set s t : Nat) : Nat.testBit (set ||| 1 <<< s) t = (Nat.testBit set t || t == s) := by
  rw [Nat.testBit_or, Nat.one_shiftLeft, Nat.testBit_two_pow]
  congr 1
  exact Bool.eq_iff_iff.mpr (by simp; exact eq_comm)
/-- what the loop over the states writes -/
def Rg1 (t a : Nat) : Prop := Rv t a ∨ (t = 0 ∧ a = 7)
theorem Rg1_b {t a : Nat} (z : Rg1 t a) : a ≤ 7 := by
  rcases z with (z | z | z) | z <;> obtain ⟨z1, z2⟩ := z <;> omega
theorem Rg1_t {t a : Nat} (z : Rg1 t a) : t = 0 ∨ t = 10 ∨ t = 11 := by
  rcases z with (z | z | z) | z <;> obtain ⟨z1, z2⟩ := z <;> omega
theorem Mach.up {Rg : Nat → Nat → Prop} {a n : Nat} {k : Int} {py : Nat → Int} {w : Nat → Nat → Int} (hR : ∀ t b, Rg t b → t ≠ 0 → b < a) {h h' : AH} (s : SameR Rg h h') (M : Mach h a k n py w) : Mach h' a k n py w :=
  M.same (fun z => by have := hR _ _ z (by decide); omega) (fun z => by have := hR _ _ z (by decide); omega) (fun z => by have := hR _ _ z (by decide); omega) (fun z => by have := hR _ _ z (by decide); omega) s
theorem RKF.take {h : AH} (K : RKF h) (r : Rat) : RKF (fset h 7 r) := by
  obtain ⟨K0, ⟨C0, HC⟩, ⟨u0, HU⟩, ⟨x6, y6, hx6, hy6⟩, ⟨x7, y7, hx7, hy7⟩⟩ := K
  have s6 : ∀ t x k, t ≠ 0 ∨ x ≠ 7 → rd (fset h 7 r) t x k = rd h t x k := fun t x k z => fset_ne _ z
  have sf : SameR Rg1 h (fset h 7 r) := fset_same (Or.inr ⟨rfl, rfl⟩) _ _
  refine ⟨K0.same (fun a z => by rcases Rg1_t z with z | z | z <;> omega) sf, ⟨C0, fun i j hi hj => by rw [s6 _ _ _ (Or.inl (by decide))]; exact HC i j hi hj⟩, ⟨u0, fun i hi => by rw [s6 _ _ _ (Or.inl (by decide))]; exact HU i hi⟩, ⟨x6, y6, ?_, ?_⟩, ⟨_, _, (fset_at hx7 hy7 _).1, (fset_at hx7 hy7 _).2⟩⟩
  · rw [s6 _ _ _ (Or.inr (by decide))]; exact hx6
  · rw [s6 _ _ _ (Or.inr (by decide))]; exact hy6
section RW
variable {a n : Nat} {kd : Int} {py : Nat → Int} {w : Nat → Nat → Int} {p q : Nat}
/-- the best of the states below j that are not done -/
def Bst (h : AH) (q p n : Nat) (w : Nat → Nat → Int) (py : Nat → Int) (D : Nat → Bool) (j : Nat) (bz : Int) : Prop := (bz = -1 ∧ ∀ t, t < j → D t = true) ∨ ∃ (s : Nat) (la : Rat), bz = (s : Int) ∧ s < j ∧ D s = false ∧ FrAt h 7 la ∧ RB la ∧ IsV n (rAl q n w) (rW p w) (rPy py) s D la ∧ ∀ t, t < j → D t = false → ∀ r, IsV n (rAl q n w) (rW p w) (rPy py) t D r → r ≤ la
theorem l_rw2 {set : Nat} (ha : 11 ≤ a) (hpy : PB n py) (hw : WB n w) (hp : 1 ≤ p ∧ p < q ∧ q ≤ 8) (hset : set < 32) {i : Int} : ∀ (d j : Nat) (h : AH) (bz : Int) (v8 : AV), j + d = n → RKF h → Mach h a kd n py w → Bst h q p n w py (Nat.testBit set) j bz →
    ∃ h' bz' v8', X mX2_reckonWorths 21 [aR (some 3), aR (some a), aI p, aI q, aI set, aI i, aI bz, aI j, v8] [] h = X mX2_reckonWorths 89 [aR (some 3), aR (some a), aI p, aI q, aI set, aI i, aI bz', aI n, v8'] [] h' ∧ SameR Rg1 h h' ∧ RKF h' ∧ Bst h' q p n w py (Nat.testBit set) n bz' := by
  intro d
  induction d with
  | zero =>
    intro j h bz v8 hd K M B
    have e : j = n := by omega
    subst e
    refine ⟨h, bz, v8, ?_, SameR.rf, K, B⟩
    have n1 : (j : Int) ≤ (j : Int) := Int.le_refl _
    rw [x_X2_reckonWorths_21]
    simp only [↓x_X2_reckonWorths_0, ↓x_X2_reckonWorths_1, ↓x_X2_reckonWorths_3, ↓x_X2_reckonWorths_4, ↓x_X2_reckonWorths_8, ↓x_X2_reckonWorths_9, ↓x_X2_reckonWorths_12, ↓x_X2_reckonWorths_15, ↓x_X2_reckonWorths_16, ↓x_X2_reckonWorths_18, ↓x_X2_reckonWorths_19, ↓x_X2_reckonWorths_23, ↓x_X2_reckonWorths_24, ↓x_X2_reckonWorths_27, ↓x_X2_reckonWorths_30, ↓x_X2_reckonWorths_32, ↓x_X2_reckonWorths_34, ↓x_X2_reckonWorths_35, ↓x_X2_reckonWorths_36, ↓x_X2_reckonWorths_37, ↓x_X2_reckonWorths_40, ↓x_X2_reckonWorths_41, ↓x_X2_reckonWorths_42, ↓x_X2_reckonWorths_44, ↓x_X2_reckonWorths_46, ↓x_X2_reckonWorths_47, ↓x_X2_reckonWorths_48, ↓x_X2_reckonWorths_51, ↓x_X2_reckonWorths_53, ↓x_X2_reckonWorths_55, ↓x_X2_reckonWorths_58, ↓x_X2_reckonWorths_60, ↓x_X2_reckonWorths_61, ↓x_X2_reckonWorths_64, ↓x_X2_reckonWorths_67, ↓x_X2_reckonWorths_70, ↓x_X2_reckonWorths_71, ↓x_X2_reckonWorths_74, ↓x_X2_reckonWorths_76, ↓x_X2_reckonWorths_79, ↓x_X2_reckonWorths_81, ↓x_X2_reckonWorths_83, ↓x_X2_reckonWorths_86, ↓x_X2_reckonWorths_91, ↓x_X2_reckonWorths_94, ↓x_X2_reckonWorths_95, ↓x_X2_reckonWorths_97, ↓x_X2_reckonWorths_100, ↓x_X2_reckonWorths_101, ↓x_X2_reckonWorths_104, ↓x_X2_reckonWorths_107, ↓x_X2_reckonWorths_109, ↓x_X2_reckonWorths_110, ↓x_X2_reckonWorths_112, ↓x_X2_reckonWorths_113, ↓x_X2_reckonWorths_114, ↓x_X2_reckonWorths_116, ↓x_X2_reckonWorths_119, ↓x_X2_reckonWorths_122, ↓x_X2_reckonWorths_123, ↓x_X2_reckonWorths_124_0, ↓x_X2_reckonWorths_124_1, ↓x_X2_reckonWorths_127, ↓gK_of M.2.2.1, n1, ↓reduceIte]
  | succ d ih =>
    intro j h bz v8 hd K M B
    have hn5 := M.1.2
    have n1 : ¬ ((n : Int) ≤ (j : Int)) := by omega
    have e5 : w32 ((j : Int) + 1) = ((j + 1 : Nat) : Int) := by rw [w32_in] <;> omega
    have hb := bit_at set hset j (by omega)
    by_cases hD : Nat.testBit set j = true
    · rw [if_pos hD] at hb
      have n2 : ¬ ((1 : Int) = 0) := by decide
      have B' : Bst h q p n w py (Nat.testBit set) (j + 1) bz := by
        rcases B with ⟨b1, b2⟩ | ⟨s, la, b1, b2, b3, b4, b5, b6, b7⟩
        · refine Or.inl ⟨b1, fun t ht => ?_⟩
          by_cases e : t = j
          · rw [e]; exact hD
          · exact b2 t (by omega)
        · refine Or.inr ⟨s, la, b1, by omega, b3, b4, b5, b6, fun t ht hDt => ?_⟩
          by_cases e : t = j
          · rw [e, hD] at hDt; cases hDt
          · exact b7 t (by omega) hDt
      obtain ⟨h', bz', v8', f1, f2⟩ := ih (j + 1) h bz v8 (by omega) K M B'
      refine ⟨h', bz', v8', ?_, f2⟩
      rw [← f1, x_X2_reckonWorths_21]
      simp only [↓x_X2_reckonWorths_0, ↓x_X2_reckonWorths_1, ↓x_X2_reckonWorths_3, ↓x_X2_reckonWorths_4, ↓x_X2_reckonWorths_8, ↓x_X2_reckonWorths_9, ↓x_X2_reckonWorths_12, ↓x_X2_reckonWorths_15, ↓x_X2_reckonWorths_16, ↓x_X2_reckonWorths_18, ↓x_X2_reckonWorths_19, ↓x_X2_reckonWorths_23, ↓x_X2_reckonWorths_24, ↓x_X2_reckonWorths_27, ↓x_X2_reckonWorths_30, ↓x_X2_reckonWorths_32, ↓x_X2_reckonWorths_34, ↓x_X2_reckonWorths_35, ↓x_X2_reckonWorths_36, ↓x_X2_reckonWorths_37, ↓x_X2_reckonWorths_40, ↓x_X2_reckonWorths_41, ↓x_X2_reckonWorths_42, ↓x_X2_reckonWorths_44, ↓x_X2_reckonWorths_46, ↓x_X2_reckonWorths_47, ↓x_X2_reckonWorths_48, ↓x_X2_reckonWorths_51, ↓x_X2_reckonWorths_53, ↓x_X2_reckonWorths_55, ↓x_X2_reckonWorths_58, ↓x_X2_reckonWorths_60, ↓x_X2_reckonWorths_61, ↓x_X2_reckonWorths_64, ↓x_X2_reckonWorths_67, ↓x_X2_reckonWorths_70, ↓x_X2_reckonWorths_71, ↓x_X2_reckonWorths_74, ↓x_X2_reckonWorths_76, ↓x_X2_reckonWorths_79, ↓x_X2_reckonWorths_81, ↓x_X2_reckonWorths_83, ↓x_X2_reckonWorths_86, ↓x_X2_reckonWorths_91, ↓x_X2_reckonWorths_94, ↓x_X2_reckonWorths_95, ↓x_X2_reckonWorths_97, ↓x_X2_reckonWorths_100, ↓x_X2_reckonWorths_101, ↓x_X2_reckonWorths_104, ↓x_X2_reckonWorths_107, ↓x_X2_reckonWorths_109, ↓x_X2_reckonWorths_110, ↓x_X2_reckonWorths_112, ↓x_X2_reckonWorths_113, ↓x_X2_reckonWorths_114, ↓x_X2_reckonWorths_116, ↓x_X2_reckonWorths_119, ↓x_X2_reckonWorths_122, ↓x_X2_reckonWorths_123, ↓x_X2_reckonWorths_124_0, ↓x_X2_reckonWorths_124_1, ↓x_X2_reckonWorths_127, ↓gK_of M.2.2.1, n1, hb, n2, e5, ↓reduceIte, not_false_eq_true, not_true_eq_false]
    · have hD' : Nat.testBit set j = false := by simpa using hD
      rw [if_neg hD] at hb
      obtain ⟨h1, r, g1, g2, g3, g4, g5, g6⟩ := c_valueOf ha K M hpy hw hp (show j < n by omega) hset
      have sg1 : SameR Rg1 h h1 := g2.up fun t x z => Or.inl z
      have K1 := g6
      have M1 := M.v ha g2
      have ho : isO h 2 3 = true := isO_rd K.1.1
      have k7 : rd h1 2 3 3 = some (aR (some 7)) := K1.1.2.2.2.1
      have ho6 : isO h1 0 6 = true := isO_rd g3.1
      obtain ⟨x7, y7, hx7, hy7⟩ := K1.2.2.2.2
      have ho7 : isO h1 0 7 = true := isO_rd hx7
      have ct := c_take hx7 hy7 g3
      have hu : ∀ r', IsV n (rAl q n w) (rW p w) (rPy py) j (Nat.testBit set) r' → r' = r := fun r' h' => IsV.uniq (sysR hw ⟨hp.1, hp.2.1⟩) (by omega) h' g4
      have sf : SameR Rg1 h1 (fset h1 7 r) := fset_same (Or.inr ⟨rfl, rfl⟩) _ _
      have Kt := K1.take r
      have Mt : Mach (fset h1 7 r) a kd n py w := M1.up (fun t b z _ => by have := Rg1_b z; omega) sf
      rcases B with ⟨b1, b2⟩ | ⟨s, la, b1, b2, b3, b4, b5, b6, b7⟩
      · subst b1
        have B' : Bst (fset h1 7 r) q p n w py (Nat.testBit set) (j + 1) (j : Int) := Or.inr ⟨j, r, rfl, by omega, hD', fset_at hx7 hy7 r, g5, g4, fun t ht hDt r' hr' => by
          by_cases e : t = j
          · subst e; rw [hu r' hr']; exact Rat.le_refl
          · have := b2 t (by omega); rw [this] at hDt; cases hDt⟩
        obtain ⟨h', bz', v8', f1, f2, f3, f4⟩ := ih (j + 1) _ (j : Int) (aR (some 6)) (by omega) Kt Mt B'
        refine ⟨h', bz', v8', ?_, (sg1.tr sf).tr f2, f3, f4⟩
        rw [← f1, x_X2_reckonWorths_21]
        have n3 : ((-1 : Int) < 0) := by decide
        simp only [↓x_X2_reckonWorths_0, ↓x_X2_reckonWorths_1, ↓x_X2_reckonWorths_3, ↓x_X2_reckonWorths_4, ↓x_X2_reckonWorths_8, ↓x_X2_reckonWorths_9, ↓x_X2_reckonWorths_12, ↓x_X2_reckonWorths_15, ↓x_X2_reckonWorths_16, ↓x_X2_reckonWorths_18, ↓x_X2_reckonWorths_19, ↓x_X2_reckonWorths_23, ↓x_X2_reckonWorths_24, ↓x_X2_reckonWorths_27, ↓x_X2_reckonWorths_30, ↓x_X2_reckonWorths_32, ↓x_X2_reckonWorths_34, ↓x_X2_reckonWorths_35, ↓x_X2_reckonWorths_36, ↓x_X2_reckonWorths_37, ↓x_X2_reckonWorths_40, ↓x_X2_reckonWorths_41, ↓x_X2_reckonWorths_42, ↓x_X2_reckonWorths_44, ↓x_X2_reckonWorths_46, ↓x_X2_reckonWorths_47, ↓x_X2_reckonWorths_48, ↓x_X2_reckonWorths_51, ↓x_X2_reckonWorths_53, ↓x_X2_reckonWorths_55, ↓x_X2_reckonWorths_58, ↓x_X2_reckonWorths_60, ↓x_X2_reckonWorths_61, ↓x_X2_reckonWorths_64, ↓x_X2_reckonWorths_67, ↓x_X2_reckonWorths_70, ↓x_X2_reckonWorths_71, ↓x_X2_reckonWorths_74, ↓x_X2_reckonWorths_76, ↓x_X2_reckonWorths_79, ↓x_X2_reckonWorths_81, ↓x_X2_reckonWorths_83, ↓x_X2_reckonWorths_86, ↓x_X2_reckonWorths_91, ↓x_X2_reckonWorths_94, ↓x_X2_reckonWorths_95, ↓x_X2_reckonWorths_97, ↓x_X2_reckonWorths_100, ↓x_X2_reckonWorths_101, ↓x_X2_reckonWorths_104, ↓x_X2_reckonWorths_107, ↓x_X2_reckonWorths_109, ↓x_X2_reckonWorths_110, ↓x_X2_reckonWorths_112, ↓x_X2_reckonWorths_113, ↓x_X2_reckonWorths_114, ↓x_X2_reckonWorths_116, ↓x_X2_reckonWorths_119, ↓x_X2_reckonWorths_122, ↓x_X2_reckonWorths_123, ↓x_X2_reckonWorths_124_0, ↓x_X2_reckonWorths_124_1, ↓x_X2_reckonWorths_127, ↓gK_of M.2.2.1, n1, hb, e5, ho, ↓cKR g1, n3, ↓gK_of k7, ho7, ↓cKV ct, ↓reduceIte, not_false_eq_true, not_true_eq_false]
      · subst b1
        have b4' : FrAt h1 7 la := b4.same (fun z => by rcases z with z | z | z <;> obtain ⟨z1, z2⟩ := z <;> omega) g2
        have ca := c_against g3 b4' g5 b5
        have n3 : ¬ ((s : Int) < 0) := by omega
        by_cases hlt : la < r
        · have erc : rc r la = 1 := if_pos hlt
          rw [erc] at ca
          have n4 : ¬ ((1 : Int) ≤ 0) := by decide
          have B' : Bst (fset h1 7 r) q p n w py (Nat.testBit set) (j + 1) (j : Int) := Or.inr ⟨j, r, rfl, by omega, hD', fset_at hx7 hy7 r, g5, g4, fun t ht hDt r' hr' => by
            by_cases e : t = j
            · subst e; rw [hu r' hr']; exact Rat.le_refl
            · have := b7 t (by omega) hDt r' hr'
              exact Rat.le_trans this (Rat.le_of_lt hlt)⟩
          obtain ⟨h', bz', v8', f1, f2, f3, f4⟩ := ih (j + 1) _ (j : Int) (aR (some 6)) (by omega) Kt Mt B'
          refine ⟨h', bz', v8', ?_, (sg1.tr sf).tr f2, f3, f4⟩
          rw [← f1, x_X2_reckonWorths_21]
          simp only [↓x_X2_reckonWorths_0, ↓x_X2_reckonWorths_1, ↓x_X2_reckonWorths_3, ↓x_X2_reckonWorths_4, ↓x_X2_reckonWorths_8, ↓x_X2_reckonWorths_9, ↓x_X2_reckonWorths_12, ↓x_X2_reckonWorths_15, ↓x_X2_reckonWorths_16, ↓x_X2_reckonWorths_18, ↓x_X2_reckonWorths_19, ↓x_X2_reckonWorths_23, ↓x_X2_reckonWorths_24, ↓x_X2_reckonWorths_27, ↓x_X2_reckonWorths_30, ↓x_X2_reckonWorths_32, ↓x_X2_reckonWorths_34, ↓x_X2_reckonWorths_35, ↓x_X2_reckonWorths_36, ↓x_X2_reckonWorths_37, ↓x_X2_reckonWorths_40, ↓x_X2_reckonWorths_41, ↓x_X2_reckonWorths_42, ↓x_X2_reckonWorths_44, ↓x_X2_reckonWorths_46, ↓x_X2_reckonWorths_47, ↓x_X2_reckonWorths_48, ↓x_X2_reckonWorths_51, ↓x_X2_reckonWorths_53, ↓x_X2_reckonWorths_55, ↓x_X2_reckonWorths_58, ↓x_X2_reckonWorths_60, ↓x_X2_reckonWorths_61, ↓x_X2_reckonWorths_64, ↓x_X2_reckonWorths_67, ↓x_X2_reckonWorths_70, ↓x_X2_reckonWorths_71, ↓x_X2_reckonWorths_74, ↓x_X2_reckonWorths_76, ↓x_X2_reckonWorths_79, ↓x_X2_reckonWorths_81, ↓x_X2_reckonWorths_83, ↓x_X2_reckonWorths_86, ↓x_X2_reckonWorths_91, ↓x_X2_reckonWorths_94, ↓x_X2_reckonWorths_95, ↓x_X2_reckonWorths_97, ↓x_X2_reckonWorths_100, ↓x_X2_reckonWorths_101, ↓x_X2_reckonWorths_104, ↓x_X2_reckonWorths_107, ↓x_X2_reckonWorths_109, ↓x_X2_reckonWorths_110, ↓x_X2_reckonWorths_112, ↓x_X2_reckonWorths_113, ↓x_X2_reckonWorths_114, ↓x_X2_reckonWorths_116, ↓x_X2_reckonWorths_119, ↓x_X2_reckonWorths_122, ↓x_X2_reckonWorths_123, ↓x_X2_reckonWorths_124_0, ↓x_X2_reckonWorths_124_1, ↓x_X2_reckonWorths_127, ↓gK_of M.2.2.1, n1, hb, e5, ho, ↓cKR g1, n3, n4, ↓gK_of k7, ho6, ho7, ↓cKI ca, ↓cKV ct, ↓reduceIte, not_false_eq_true, not_true_eq_false]
        · have n4 : rc r la ≤ 0 := by unfold rc; rw [if_neg hlt]; split <;> decide
          have B' : Bst h1 q p n w py (Nat.testBit set) (j + 1) (s : Int) := Or.inr ⟨s, la, rfl, by omega, b3, b4', b5, b6, fun t ht hDt r' hr' => by
            by_cases e : t = j
            · subst e; rw [hu r' hr']; exact Rat.not_lt.mp hlt
            · exact b7 t (by omega) hDt r' hr'⟩
          obtain ⟨h', bz', v8', f1, f2, f3, f4⟩ := ih (j + 1) h1 (s : Int) (aR (some 6)) (by omega) K1 M1 B'
          refine ⟨h', bz', v8', ?_, sg1.tr f2, f3, f4⟩
          rw [← f1, x_X2_reckonWorths_21]
          simp only [↓x_X2_reckonWorths_0, ↓x_X2_reckonWorths_1, ↓x_X2_reckonWorths_3, ↓x_X2_reckonWorths_4, ↓x_X2_reckonWorths_8, ↓x_X2_reckonWorths_9, ↓x_X2_reckonWorths_12, ↓x_X2_reckonWorths_15, ↓x_X2_reckonWorths_16, ↓x_X2_reckonWorths_18, ↓x_X2_reckonWorths_19, ↓x_X2_reckonWorths_23, ↓x_X2_reckonWorths_24, ↓x_X2_reckonWorths_27, ↓x_X2_reckonWorths_30, ↓x_X2_reckonWorths_32, ↓x_X2_reckonWorths_34, ↓x_X2_reckonWorths_35, ↓x_X2_reckonWorths_36, ↓x_X2_reckonWorths_37, ↓x_X2_reckonWorths_40, ↓x_X2_reckonWorths_41, ↓x_X2_reckonWorths_42, ↓x_X2_reckonWorths_44, ↓x_X2_reckonWorths_46, ↓x_X2_reckonWorths_47, ↓x_X2_reckonWorths_48, ↓x_X2_reckonWorths_51, ↓x_X2_reckonWorths_53, ↓x_X2_reckonWorths_55, ↓x_X2_reckonWorths_58, ↓x_X2_reckonWorths_60, ↓x_X2_reckonWorths_61, ↓x_X2_reckonWorths_64, ↓x_X2_reckonWorths_67, ↓x_X2_reckonWorths_70, ↓x_X2_reckonWorths_71, ↓x_X2_reckonWorths_74, ↓x_X2_reckonWorths_76, ↓x_X2_reckonWorths_79, ↓x_X2_reckonWorths_81, ↓x_X2_reckonWorths_83, ↓x_X2_reckonWorths_86, ↓x_X2_reckonWorths_91, ↓x_X2_reckonWorths_94, ↓x_X2_reckonWorths_95, ↓x_X2_reckonWorths_97, ↓x_X2_reckonWorths_100, ↓x_X2_reckonWorths_101, ↓x_X2_reckonWorths_104, ↓x_X2_reckonWorths_107, ↓x_X2_reckonWorths_109, ↓x_X2_reckonWorths_110, ↓x_X2_reckonWorths_112, ↓x_X2_reckonWorths_113, ↓x_X2_reckonWorths_114, ↓x_X2_reckonWorths_116, ↓x_X2_reckonWorths_119, ↓x_X2_reckonWorths_122, ↓x_X2_reckonWorths_123, ↓x_X2_reckonWorths_124_0, ↓x_X2_reckonWorths_124_1, ↓x_X2_reckonWorths_127, ↓gK_of M.2.2.1, n1, hb, e5, ho, ↓cKR g1, n3, n4, ↓gK_of k7, ho6, ho7, ↓cKI ca, ↓reduceIte, not_false_eq_true, not_true_eq_false]
end RW
