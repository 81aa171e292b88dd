def Rg2 (a n : Nat) (t x : Nat) : Prop := Rg1 t x ∨ (t = 0 ∧ a + 4 ≤ x ∧ x < a + 4 + n)
theorem Rg2_b {a n t x : Nat} (ha : 11 ≤ a) (z : Rg2 a n t x) (h : t ≠ 0) : x < a := by
  rcases z with z | z
  · have := Rg1_b z; omega
  · omega
theorem nP_full {P : Nat → Bool} {n : Nat} (h : n ≤ nP P n) {t : Nat} (ht : t < n) : P t = true := by
  cases e : P t with
  | true => rfl
  | false => have := nP_miss e n ht; omega
theorem RKF.same {Rg : Nat → Nat → Prop} (hR : ∀ t x, Rg t x → 8 ≤ x) {h h' : AH} (s : SameR Rg h h') (K : RKF h) : RKF h' := by
  obtain ⟨⟨k0, k1, k2, k3, k4, k5⟩, ⟨C0, HC⟩, ⟨u0, HU⟩, ⟨x6, y6, hx6, hy6⟩, ⟨x7, y7, hx7, hy7⟩⟩ := K
  have g : ∀ t x k, x < 8 → rd h' t x k = rd h t x k := fun t x k hx => s.1 _ _ _ fun z => by have := hR _ _ z; omega
  refine ⟨⟨by rw [g _ _ _ (by decide)]; exact k0, by rw [g _ _ _ (by decide)]; exact k1, by rw [g _ _ _ (by decide)]; exact k2, by rw [g _ _ _ (by decide)]; exact k3, by rw [s.2.2.1]; exact k4, by rw [s.2.2.1]; exact k5⟩, ⟨C0, fun i j hi hj => by rw [g _ _ _ (by decide)]; exact HC i j hi hj⟩, ⟨u0, fun i hi => by rw [g _ _ _ (by decide)]; exact HU i hi⟩, ⟨x6, y6, by rw [g _ _ _ (by decide)]; exact hx6, by rw [g _ _ _ (by decide)]; exact hy6⟩, ⟨x7, y7, by rw [g _ _ _ (by decide)]; exact hx7, by rw [g _ _ _ (by decide)]; exact hy7⟩⟩
section RW1
variable {a n : Nat} {kd : Int} {py : Nat → Int} {w : Nat → Nat → Int} {p q : Nat}
/-- the worths of the states of D stand -/
def Wsd (h : AH) (a q p n : Nat) (w : Nat → Nat → Int) (py : Nat → Int) (D : Nat → Bool) : Prop := ∀ s, s < n → D s = true → ∃ r, FrAt h (a + 4 + s) r ∧ RB r ∧ IsW n (rAl q n w) (rW p w) (rPy py) s r
def Wfr (h : AH) (a n : Nat) : Prop := ∀ s, s < n → ∃ x y, rd h 0 (a + 4 + s) 0 = some x ∧ rd h 0 (a + 4 + s) 1 = some y
theorem l_rw1 (ha : 11 ≤ a) (hpy : PB n py) (hw : WB n w) (hp : 1 ≤ p ∧ p < q ∧ q ≤ 8) : ∀ (d i : Nat) (h : AH) (set : Nat) (v6 v7 v8 : AV), i + d = n → set < 32 → RKF h → Mach h a kd n py w → Wfr h a n → Ready n (rAl q n w) (rW p w) (rPy py) (Nat.testBit set) → Wsd h a q p n w py (Nat.testBit set) → ((∀ t, t < n → Nat.testBit set t = true) ∨ i ≤ nP (Nat.testBit set) n) →
    ∃ h' set' v6' v7' v8', X mX2_reckonWorths 6 [aR (some 3), aR (some a), aI p, aI q, aI set, aI i, v6, v7, v8] [] h = X mX2_reckonWorths 122 [aR (some 3), aR (some a), aI p, aI q, aI set', aI n, v6', v7', v8'] [] h' ∧ SameR (Rg2 a n) h h' ∧ RKF h' ∧ Wsd h' a q p n w py (fun _ => true) := by
  intro d
  induction d with
  | zero =>
    intro i h set v6 v7 v8 hd hset K M F R W N
    have e : i = n := by omega
    subst e
    refine ⟨h, (set : Int), v6, v7, v8, ?_, SameR.rf, K, fun s hs _ => W s hs ?_⟩
    · have n1 : (i : Int) ≤ (i : Int) := Int.le_refl _
      rw [x_X2_reckonWorths_6]
      simp only [↓x_X2_reckonWorths_0, ↓x_X2_reckonWorths_1, ↓x_X2_reckonWorths_3, ↓x_X2_reckonWorths_4, ↓x_X2_reckonWorths_8, ↓x_X2_reckonWorths_9, ↓x_X2_reckonWorths_12, ↓x_X2_reckonWorths_15, ↓x_X2_reckonWorths_16, ↓x_X2_reckonWorths_18, ↓x_X2_reckonWorths_19, ↓x_X2_reckonWorths_23, ↓x_X2_reckonWorths_24, ↓x_X2_reckonWorths_27, ↓x_X2_reckonWorths_30, ↓x_X2_reckonWorths_32, ↓x_X2_reckonWorths_34, ↓x_X2_reckonWorths_35, ↓x_X2_reckonWorths_36, ↓x_X2_reckonWorths_37, ↓x_X2_reckonWorths_40, ↓x_X2_reckonWorths_41, ↓x_X2_reckonWorths_42, ↓x_X2_reckonWorths_44, ↓x_X2_reckonWorths_46, ↓x_X2_reckonWorths_47, ↓x_X2_reckonWorths_48, ↓x_X2_reckonWorths_51, ↓x_X2_reckonWorths_53, ↓x_X2_reckonWorths_55, ↓x_X2_reckonWorths_58, ↓x_X2_reckonWorths_60, ↓x_X2_reckonWorths_61, ↓x_X2_reckonWorths_64, ↓x_X2_reckonWorths_67, ↓x_X2_reckonWorths_70, ↓x_X2_reckonWorths_71, ↓x_X2_reckonWorths_74, ↓x_X2_reckonWorths_76, ↓x_X2_reckonWorths_79, ↓x_X2_reckonWorths_81, ↓x_X2_reckonWorths_83, ↓x_X2_reckonWorths_86, ↓x_X2_reckonWorths_89, ↓x_X2_reckonWorths_91, ↓x_X2_reckonWorths_94, ↓x_X2_reckonWorths_95, ↓x_X2_reckonWorths_97, ↓x_X2_reckonWorths_100, ↓x_X2_reckonWorths_101, ↓x_X2_reckonWorths_104, ↓x_X2_reckonWorths_107, ↓x_X2_reckonWorths_109, ↓x_X2_reckonWorths_110, ↓x_X2_reckonWorths_112, ↓x_X2_reckonWorths_113, ↓x_X2_reckonWorths_114, ↓x_X2_reckonWorths_116, ↓x_X2_reckonWorths_119, ↓x_X2_reckonWorths_123, ↓x_X2_reckonWorths_124_0, ↓x_X2_reckonWorths_124_1, ↓x_X2_reckonWorths_127, ↓gK_of M.2.2.1, n1, ↓reduceIte]
    · rcases N with z | z
      · exact z s hs
      · exact nP_full z hs
  | succ d ih =>
    intro i h set v6 v7 v8 hd hset K M F R W N
    have hn5 := M.1.2
    have n1 : ¬ ((n : Int) ≤ (i : Int)) := by omega
    have e5 : w32 ((i : Int) + 1) = ((i + 1 : Nat) : Int) := by rw [w32_in] <;> omega
    obtain ⟨h1, bz, v8a, f1, f2, f3, f4⟩ := l_rw2 ha hpy hw hp hset (i := (i : Int)) n 0 h (-1) v8 (by omega) K M (Or.inl ⟨rfl, fun t ht => by omega⟩)
    have sg : SameR (Rg2 a n) h h1 := f2.up fun t x z => Or.inl z
    have M1 : Mach h1 a kd n py w := M.up (fun t b z hne => Rg2_b ha z hne) sg
    have keep : ∀ s k, rd h1 0 (a + 4 + s) k = rd h 0 (a + 4 + s) k := fun s k => f2.1 _ _ _ fun z => by have := Rg1_b z; omega
    have F1 : Wfr h1 a n := fun s hs => by
      obtain ⟨x, y, hx, hy⟩ := F s hs
      exact ⟨x, y, by rw [keep]; exact hx, by rw [keep]; exact hy⟩
    have W1 : Wsd h1 a q p n w py (Nat.testBit set) := fun s hs hD => by
      obtain ⟨r, r1, r2, r3⟩ := W s hs hD
      exact ⟨r, ⟨by rw [keep]; exact r1.1, by rw [keep]; exact r1.2⟩, r2, r3⟩
    rcases f4 with ⟨b1, b2⟩ | ⟨s, la, b1, b2, b3, b4, b5, b6, b7⟩
    · subst b1
      obtain ⟨h', set', v6', v7', v8', g1, g2⟩ := ih (i + 1) h1 set (aI (-1)) (aI n) v8a (by omega) hset f3 M1 F1 R W1 (Or.inl b2)
      refine ⟨h', set', v6', v7', v8', ?_, sg.tr g2.1, g2.2⟩
      rw [← g1, x_X2_reckonWorths_6]
      have n3 : ((-1 : Int) < 0) := by decide
      simp only [↓x_X2_reckonWorths_0, ↓x_X2_reckonWorths_1, ↓x_X2_reckonWorths_3, ↓x_X2_reckonWorths_4, ↓x_X2_reckonWorths_8, ↓x_X2_reckonWorths_9, ↓x_X2_reckonWorths_12, ↓x_X2_reckonWorths_15, ↓x_X2_reckonWorths_16, ↓x_X2_reckonWorths_18, ↓x_X2_reckonWorths_19, ↓x_X2_reckonWorths_23, ↓x_X2_reckonWorths_24, ↓x_X2_reckonWorths_27, ↓x_X2_reckonWorths_30, ↓x_X2_reckonWorths_32, ↓x_X2_reckonWorths_34, ↓x_X2_reckonWorths_35, ↓x_X2_reckonWorths_36, ↓x_X2_reckonWorths_37, ↓x_X2_reckonWorths_40, ↓x_X2_reckonWorths_41, ↓x_X2_reckonWorths_42, ↓x_X2_reckonWorths_44, ↓x_X2_reckonWorths_46, ↓x_X2_reckonWorths_47, ↓x_X2_reckonWorths_48, ↓x_X2_reckonWorths_51, ↓x_X2_reckonWorths_53, ↓x_X2_reckonWorths_55, ↓x_X2_reckonWorths_58, ↓x_X2_reckonWorths_60, ↓x_X2_reckonWorths_61, ↓x_X2_reckonWorths_64, ↓x_X2_reckonWorths_67, ↓x_X2_reckonWorths_70, ↓x_X2_reckonWorths_71, ↓x_X2_reckonWorths_74, ↓x_X2_reckonWorths_76, ↓x_X2_reckonWorths_79, ↓x_X2_reckonWorths_81, ↓x_X2_reckonWorths_83, ↓x_X2_reckonWorths_86, ↓x_X2_reckonWorths_91, ↓x_X2_reckonWorths_94, ↓x_X2_reckonWorths_95, ↓x_X2_reckonWorths_97, ↓x_X2_reckonWorths_100, ↓x_X2_reckonWorths_101, ↓x_X2_reckonWorths_104, ↓x_X2_reckonWorths_107, ↓x_X2_reckonWorths_109, ↓x_X2_reckonWorths_110, ↓x_X2_reckonWorths_112, ↓x_X2_reckonWorths_113, ↓x_X2_reckonWorths_114, ↓x_X2_reckonWorths_116, ↓x_X2_reckonWorths_119, ↓x_X2_reckonWorths_122, ↓x_X2_reckonWorths_123, ↓x_X2_reckonWorths_124_0, ↓x_X2_reckonWorths_124_1, ↓x_X2_reckonWorths_127, ↓gK_of M.2.2.1, n1, ↓reduceIte]
      refine f1.trans ?_
      simp only [↓x_X2_reckonWorths_0, ↓x_X2_reckonWorths_1, ↓x_X2_reckonWorths_3, ↓x_X2_reckonWorths_4, ↓x_X2_reckonWorths_8, ↓x_X2_reckonWorths_9, ↓x_X2_reckonWorths_12, ↓x_X2_reckonWorths_15, ↓x_X2_reckonWorths_16, ↓x_X2_reckonWorths_18, ↓x_X2_reckonWorths_19, ↓x_X2_reckonWorths_23, ↓x_X2_reckonWorths_24, ↓x_X2_reckonWorths_27, ↓x_X2_reckonWorths_30, ↓x_X2_reckonWorths_32, ↓x_X2_reckonWorths_34, ↓x_X2_reckonWorths_35, ↓x_X2_reckonWorths_36, ↓x_X2_reckonWorths_37, ↓x_X2_reckonWorths_40, ↓x_X2_reckonWorths_41, ↓x_X2_reckonWorths_42, ↓x_X2_reckonWorths_44, ↓x_X2_reckonWorths_46, ↓x_X2_reckonWorths_47, ↓x_X2_reckonWorths_48, ↓x_X2_reckonWorths_51, ↓x_X2_reckonWorths_53, ↓x_X2_reckonWorths_55, ↓x_X2_reckonWorths_58, ↓x_X2_reckonWorths_60, ↓x_X2_reckonWorths_61, ↓x_X2_reckonWorths_64, ↓x_X2_reckonWorths_67, ↓x_X2_reckonWorths_70, ↓x_X2_reckonWorths_71, ↓x_X2_reckonWorths_74, ↓x_X2_reckonWorths_76, ↓x_X2_reckonWorths_79, ↓x_X2_reckonWorths_81, ↓x_X2_reckonWorths_83, ↓x_X2_reckonWorths_86, ↓x_X2_reckonWorths_89, ↓x_X2_reckonWorths_91, ↓x_X2_reckonWorths_94, ↓x_X2_reckonWorths_95, ↓x_X2_reckonWorths_97, ↓x_X2_reckonWorths_100, ↓x_X2_reckonWorths_101, ↓x_X2_reckonWorths_104, ↓x_X2_reckonWorths_107, ↓x_X2_reckonWorths_109, ↓x_X2_reckonWorths_110, ↓x_X2_reckonWorths_112, ↓x_X2_reckonWorths_113, ↓x_X2_reckonWorths_114, ↓x_X2_reckonWorths_116, ↓x_X2_reckonWorths_119, ↓x_X2_reckonWorths_122, ↓x_X2_reckonWorths_123, ↓x_X2_reckonWorths_124_0, ↓x_X2_reckonWorths_124_1, ↓x_X2_reckonWorths_127, n3, e5, ↓reduceIte]
    · subst b1
      obtain ⟨gw, gr⟩ := R.go (sysR hw ⟨hp.1, hp.2.1⟩) b2 b3 b6 b7
      obtain ⟨x, y, hx, hy⟩ := F1 s b2
      have ct := c_take hx hy b4
      have sf : SameR (Rg2 a n) h1 (fset h1 (a + 4 + s) la) := fset_same (Or.inr ⟨rfl, by omega, by omega⟩) _ _
      have hD : (fun t => Nat.testBit set t || t == s) = Nat.testBit (set ||| 1 <<< s) := by funext t; rw [bit_or_at]
      rw [hD] at gr
      have cw := c_worthAt M1 b2
      have sf2 : SameR (fun t x => t = 0 ∧ x = a + 4 + s) h1 (fset h1 (a + 4 + s) la) := fset_same ⟨rfl, rfl⟩ _ _
      have K2 : RKF (fset h1 (a + 4 + s) la) := f3.same (fun t x z => by omega) sf2
      have M2 : Mach (fset h1 (a + 4 + s) la) a kd n py w := M1.up (fun t b z hne => Rg2_b ha z hne) sf
      have at2 := fset_at hx hy la
      have ne2 : ∀ u k, u ≠ s → rd (fset h1 (a + 4 + s) la) 0 (a + 4 + u) k = rd h1 0 (a + 4 + u) k := fun u k hu => fset_ne _ (Or.inr (by omega))
      have F2 : Wfr (fset h1 (a + 4 + s) la) a n := fun u hu => by
        by_cases e : u = s
        · subst e; exact ⟨_, _, at2.1, at2.2⟩
        · obtain ⟨x, y, hx, hy⟩ := F1 u hu
          exact ⟨x, y, by rw [ne2 u _ e]; exact hx, by rw [ne2 u _ e]; exact hy⟩
      have W2 : Wsd (fset h1 (a + 4 + s) la) a q p n w py (Nat.testBit (set ||| 1 <<< s)) := fun u hu hDu => by
        by_cases e : u = s
        · subst e; exact ⟨la, at2, b5, gw⟩
        · rw [bit_or_at, show (u == s) = false by simpa using e, Bool.or_false] at hDu
          obtain ⟨r, r1, r2, r3⟩ := W1 u hu hDu
          exact ⟨r, ⟨by rw [ne2 u _ e]; exact r1.1, by rw [ne2 u _ e]; exact r1.2⟩, r2, r3⟩
      have N2 : ((∀ t, t < n → Nat.testBit (set ||| 1 <<< s) t = true) ∨ i + 1 ≤ nP (Nat.testBit (set ||| 1 <<< s)) n) := by
        rcases N with z | z
        · exact Or.inl fun t ht => by rw [bit_or_at, z t ht]; rfl
        · refine Or.inr ?_
          rw [nP_add b3 (fun t => bit_or_at set s t), if_pos b2]
          omega
      obtain ⟨h', set', v6', v7', v8', g1, g2⟩ := ih (i + 1) _ (set ||| 1 <<< s) (aI s) (aI n) v8a (by omega) (bit_add set hset s (by omega)) K2 M2 F2 gr W2 N2
      refine ⟨h', set', v6', v7', v8', ?_, (sg.tr sf).tr g2.1, g2.2⟩
      rw [← g1, x_X2_reckonWorths_6]
      have n3 : ¬ ((s : Int) < 0) := by omega
      have ho : isO h1 1 a = true := isO_rd M1.2.1
      have k7 : rd h1 2 3 3 = some (aR (some 7)) := f3.1.2.2.2.1
      have hof : isO h1 0 (a + 4 + s) = true := isO_rd hx
      have eo := bit_or set hset s (by omega)
      simp only [↓x_X2_reckonWorths_0, ↓x_X2_reckonWorths_1, ↓x_X2_reckonWorths_3, ↓x_X2_reckonWorths_4, ↓x_X2_reckonWorths_8, ↓x_X2_reckonWorths_9, ↓x_X2_reckonWorths_12, ↓x_X2_reckonWorths_15, ↓x_X2_reckonWorths_16, ↓x_X2_reckonWorths_18, ↓x_X2_reckonWorths_19, ↓x_X2_reckonWorths_23, ↓x_X2_reckonWorths_24, ↓x_X2_reckonWorths_27, ↓x_X2_reckonWorths_30, ↓x_X2_reckonWorths_32, ↓x_X2_reckonWorths_34, ↓x_X2_reckonWorths_35, ↓x_X2_reckonWorths_36, ↓x_X2_reckonWorths_37, ↓x_X2_reckonWorths_40, ↓x_X2_reckonWorths_41, ↓x_X2_reckonWorths_42, ↓x_X2_reckonWorths_44, ↓x_X2_reckonWorths_46, ↓x_X2_reckonWorths_47, ↓x_X2_reckonWorths_48, ↓x_X2_reckonWorths_51, ↓x_X2_reckonWorths_53, ↓x_X2_reckonWorths_55, ↓x_X2_reckonWorths_58, ↓x_X2_reckonWorths_60, ↓x_X2_reckonWorths_61, ↓x_X2_reckonWorths_64, ↓x_X2_reckonWorths_67, ↓x_X2_reckonWorths_70, ↓x_X2_reckonWorths_71, ↓x_X2_reckonWorths_74, ↓x_X2_reckonWorths_76, ↓x_X2_reckonWorths_79, ↓x_X2_reckonWorths_81, ↓x_X2_reckonWorths_83, ↓x_X2_reckonWorths_86, ↓x_X2_reckonWorths_91, ↓x_X2_reckonWorths_94, ↓x_X2_reckonWorths_95, ↓x_X2_reckonWorths_97, ↓x_X2_reckonWorths_100, ↓x_X2_reckonWorths_101, ↓x_X2_reckonWorths_104, ↓x_X2_reckonWorths_107, ↓x_X2_reckonWorths_109, ↓x_X2_reckonWorths_110, ↓x_X2_reckonWorths_112, ↓x_X2_reckonWorths_113, ↓x_X2_reckonWorths_114, ↓x_X2_reckonWorths_116, ↓x_X2_reckonWorths_119, ↓x_X2_reckonWorths_122, ↓x_X2_reckonWorths_123, ↓x_X2_reckonWorths_124_0, ↓x_X2_reckonWorths_124_1, ↓x_X2_reckonWorths_127, ↓gK_of M.2.2.1, n1, ↓reduceIte]
      refine f1.trans ?_
      simp only [↓x_X2_reckonWorths_0, ↓x_X2_reckonWorths_1, ↓x_X2_reckonWorths_3, ↓x_X2_reckonWorths_4, ↓x_X2_reckonWorths_8, ↓x_X2_reckonWorths_9, ↓x_X2_reckonWorths_12, ↓x_X2_reckonWorths_15, ↓x_X2_reckonWorths_16, ↓x_X2_reckonWorths_18, ↓x_X2_reckonWorths_19, ↓x_X2_reckonWorths_23, ↓x_X2_reckonWorths_24, ↓x_X2_reckonWorths_27, ↓x_X2_reckonWorths_30, ↓x_X2_reckonWorths_32, ↓x_X2_reckonWorths_34, ↓x_X2_reckonWorths_35, ↓x_X2_reckonWorths_36, ↓x_X2_reckonWorths_37, ↓x_X2_reckonWorths_40, ↓x_X2_reckonWorths_41, ↓x_X2_reckonWorths_42, ↓x_X2_reckonWorths_44, ↓x_X2_reckonWorths_46, ↓x_X2_reckonWorths_47, ↓x_X2_reckonWorths_48, ↓x_X2_reckonWorths_51, ↓x_X2_reckonWorths_53, ↓x_X2_reckonWorths_55, ↓x_X2_reckonWorths_58, ↓x_X2_reckonWorths_60, ↓x_X2_reckonWorths_61, ↓x_X2_reckonWorths_64, ↓x_X2_reckonWorths_67, ↓x_X2_reckonWorths_70, ↓x_X2_reckonWorths_71, ↓x_X2_reckonWorths_74, ↓x_X2_reckonWorths_76, ↓x_X2_reckonWorths_79, ↓x_X2_reckonWorths_81, ↓x_X2_reckonWorths_83, ↓x_X2_reckonWorths_86, ↓x_X2_reckonWorths_89, ↓x_X2_reckonWorths_91, ↓x_X2_reckonWorths_94, ↓x_X2_reckonWorths_95, ↓x_X2_reckonWorths_97, ↓x_X2_reckonWorths_100, ↓x_X2_reckonWorths_101, ↓x_X2_reckonWorths_104, ↓x_X2_reckonWorths_107, ↓x_X2_reckonWorths_109, ↓x_X2_reckonWorths_110, ↓x_X2_reckonWorths_112, ↓x_X2_reckonWorths_113, ↓x_X2_reckonWorths_114, ↓x_X2_reckonWorths_116, ↓x_X2_reckonWorths_119, ↓x_X2_reckonWorths_122, ↓x_X2_reckonWorths_123, ↓x_X2_reckonWorths_124_0, ↓x_X2_reckonWorths_124_1, ↓x_X2_reckonWorths_127, n3, e5, eo, ho, hof, ↓gK_of k7, ↓cKR cw, ↓cKV ct, ↓reduceIte]
theorem c_reckon {h : AH} {x5 : AV} (ha : 11 ≤ a) (hpy : PB n py) (hw : WB n w) (hp : 1 ≤ p ∧ p < q ∧ q ≤ 8) (K : RKF h) (M : Mach h a kd n py w) (F : Wfr h a n) (g5 : rd h 1 a 5 = some x5) :
    ∃ h1, E mX2_reckonWorths [aR (some 3), aR (some a), aI p, aI q] h = some (none, wr h1 1 a 5 (aI 1)) ∧ SameR (Rg2 a n) h h1 ∧ RKF h1 ∧ Wsd h1 a q p n w py (fun _ => true) := by
  have z0 : ∀ t, Nat.testBit 0 t = false := fun t => Nat.zero_testBit t
  obtain ⟨h', set', v6', v7', v8', g1, g2, g3, g4⟩ := l_rw1 ha hpy hw hp n 0 h 0 aU aU aU (by omega) (by decide) K M F (Or.inl z0) (fun s hs hD => by rw [z0] at hD; cases hD) (Or.inr (by omega))
  refine ⟨h', ?_, g2, g3, g4⟩
  have q5 : rd h' 1 a 5 = some x5 := by rw [g2.1 _ _ _ (fun z => by have := Rg2_b ha z (by decide); omega)]; exact g5
  rw [e_X2_reckonWorths]
  simp only [↓x_X2_reckonWorths_0, ↓x_X2_reckonWorths_1, ↓x_X2_reckonWorths_3, ↓x_X2_reckonWorths_4, ↓x_X2_reckonWorths_8, ↓x_X2_reckonWorths_9, ↓x_X2_reckonWorths_12, ↓x_X2_reckonWorths_15, ↓x_X2_reckonWorths_16, ↓x_X2_reckonWorths_18, ↓x_X2_reckonWorths_19, ↓x_X2_reckonWorths_21, ↓x_X2_reckonWorths_23, ↓x_X2_reckonWorths_24, ↓x_X2_reckonWorths_27, ↓x_X2_reckonWorths_30, ↓x_X2_reckonWorths_32, ↓x_X2_reckonWorths_34, ↓x_X2_reckonWorths_35, ↓x_X2_reckonWorths_36, ↓x_X2_reckonWorths_37, ↓x_X2_reckonWorths_40, ↓x_X2_reckonWorths_41, ↓x_X2_reckonWorths_42, ↓x_X2_reckonWorths_44, ↓x_X2_reckonWorths_46, ↓x_X2_reckonWorths_47, ↓x_X2_reckonWorths_48, ↓x_X2_reckonWorths_51, ↓x_X2_reckonWorths_53, ↓x_X2_reckonWorths_55, ↓x_X2_reckonWorths_58, ↓x_X2_reckonWorths_60, ↓x_X2_reckonWorths_61, ↓x_X2_reckonWorths_64, ↓x_X2_reckonWorths_67, ↓x_X2_reckonWorths_70, ↓x_X2_reckonWorths_71, ↓x_X2_reckonWorths_74, ↓x_X2_reckonWorths_76, ↓x_X2_reckonWorths_79, ↓x_X2_reckonWorths_81, ↓x_X2_reckonWorths_83, ↓x_X2_reckonWorths_86, ↓x_X2_reckonWorths_89, ↓x_X2_reckonWorths_91, ↓x_X2_reckonWorths_94, ↓x_X2_reckonWorths_95, ↓x_X2_reckonWorths_97, ↓x_X2_reckonWorths_100, ↓x_X2_reckonWorths_101, ↓x_X2_reckonWorths_104, ↓x_X2_reckonWorths_107, ↓x_X2_reckonWorths_109, ↓x_X2_reckonWorths_110, ↓x_X2_reckonWorths_112, ↓x_X2_reckonWorths_113, ↓x_X2_reckonWorths_114, ↓x_X2_reckonWorths_116, ↓x_X2_reckonWorths_119, ↓x_X2_reckonWorths_123, ↓x_X2_reckonWorths_124_0, ↓x_X2_reckonWorths_124_1, ↓x_X2_reckonWorths_127]
  refine g1.trans ?_
  simp only [↓x_X2_reckonWorths_0, ↓x_X2_reckonWorths_1, ↓x_X2_reckonWorths_3, ↓x_X2_reckonWorths_4, ↓x_X2_reckonWorths_8, ↓x_X2_reckonWorths_9, ↓x_X2_reckonWorths_12, ↓x_X2_reckonWorths_15, ↓x_X2_reckonWorths_16, ↓x_X2_reckonWorths_18, ↓x_X2_reckonWorths_19, ↓x_X2_reckonWorths_23, ↓x_X2_reckonWorths_24, ↓x_X2_reckonWorths_27, ↓x_X2_reckonWorths_30, ↓x_X2_reckonWorths_32, ↓x_X2_reckonWorths_34, ↓x_X2_reckonWorths_35, ↓x_X2_reckonWorths_36, ↓x_X2_reckonWorths_37, ↓x_X2_reckonWorths_40, ↓x_X2_reckonWorths_41, ↓x_X2_reckonWorths_42, ↓x_X2_reckonWorths_44, ↓x_X2_reckonWorths_46, ↓x_X2_reckonWorths_47, ↓x_X2_reckonWorths_48, ↓x_X2_reckonWorths_51, ↓x_X2_reckonWorths_53, ↓x_X2_reckonWorths_55, ↓x_X2_reckonWorths_58, ↓x_X2_reckonWorths_60, ↓x_X2_reckonWorths_61, ↓x_X2_reckonWorths_64, ↓x_X2_reckonWorths_67, ↓x_X2_reckonWorths_70, ↓x_X2_reckonWorths_71, ↓x_X2_reckonWorths_74, ↓x_X2_reckonWorths_76, ↓x_X2_reckonWorths_79, ↓x_X2_reckonWorths_81, ↓x_X2_reckonWorths_83, ↓x_X2_reckonWorths_86, ↓x_X2_reckonWorths_89, ↓x_X2_reckonWorths_91, ↓x_X2_reckonWorths_94, ↓x_X2_reckonWorths_95, ↓x_X2_reckonWorths_97, ↓x_X2_reckonWorths_100, ↓x_X2_reckonWorths_101, ↓x_X2_reckonWorths_104, ↓x_X2_reckonWorths_107, ↓x_X2_reckonWorths_109, ↓x_X2_reckonWorths_110, ↓x_X2_reckonWorths_112, ↓x_X2_reckonWorths_113, ↓x_X2_reckonWorths_114, ↓x_X2_reckonWorths_116, ↓x_X2_reckonWorths_119, ↓x_X2_reckonWorths_122, ↓x_X2_reckonWorths_123, ↓x_X2_reckonWorths_124_0, ↓x_X2_reckonWorths_124_1, ↓x_X2_reckonWorths_127, ↓pK_of q5]
end RW1
