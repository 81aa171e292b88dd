/-! ===== fill ===== -/
def flOk (S : SS) (m k i : Nat) : Nat → Bool
  | 0 => true
  | s + 1 => flOk S m k i s && decide ((-50 ≤ S 5 k (i + s) 0 ∧ S 5 k (i + s) 0 ≤ 50) ∧ ¬ (¬ S 5 k (i + s) 0 = 0 ∧ S 1 m 0 0 = 3 ∧ ¬ (s : Int) = S 1 m 1 0 - 2))
def flS (S : SS) (m k i : Nat) : Nat → SS
  | 0 => S
  | s + 1 => ups (flS S m k i s) 2 m s 0 (S 5 k (i + s) 0)
theorem flS_t {S : SS} {m k i t a b c : Nat} (h : t ≠ 2) : ∀ s, flS S m k i s t a b c = S t a b c
  | 0 => rfl
  | s + 1 => by rw [flS, ups_t h]; exact flS_t h s
theorem flOk_at {S : SS} {m k i : Nat} : ∀ {n s : Nat}, flOk S m k i n = true → s < n → (-50 ≤ S 5 k (i + s) 0 ∧ S 5 k (i + s) 0 ≤ 50) ∧ ¬ (¬ S 5 k (i + s) 0 = 0 ∧ S 1 m 0 0 = 3 ∧ ¬ (s : Int) = S 1 m 1 0 - 2)
  | 0, _, _, h => by omega
  | n + 1, s, q, h => by
    rw [flOk, Bool.and_eq_true] at q
    by_cases e : s = n
    · subst e; exact of_decide_eq_true q.2
    · exact flOk_at q.1 (by omega)
theorem WF.fl {S : SS} (F : WF S) {m k i n : Nat} (q : flOk S m k i n = true) : ∀ s, s ≤ n → WF (flS S m k i s)
  | 0, _ => F
  | s + 1, h => by
    rw [flS]
    exact (WF.fl F q s (by omega)).pay (flOk_at q (by omega)).1
theorem flOk_false {S : SS} {m k i : Nat} : ∀ {s : Nat} (d : Nat), flOk S m k i s = false → flOk S m k i (s + d) = false
  | _, 0, q => q
  | s, d + 1, q => by
    rw [show s + (d + 1) = s + d + 1 from rfl, flOk, flOk_false d q]
    rfl
def o_fill (m k i : Int) (S : SS) : Int × SS := if ¬ isM S m ∨ ¬ isT S k then (-1, S) else if ¬ S 4 k.toNat 2 0 = 0 then (-3, fdS S 1) else if ¬ (0 ≤ i ∧ i + S 1 m.toNat 1 0 ≤ S 4 k.toNat 1 0) then (-3, fdS S 2) else if flOk S m.toNat k.toNat i.toNat (nS S m.toNat) = false then (-4, S) else (S 1 m.toNat 1 0, flS S m.toNat k.toNat i.toNat (nS S m.toNat))
theorem b_is {i s N : Nat} {T : Int} (h : i + N ≤ T.toNat) (hs : s < N) (f : 0 ≤ T ∧ T ≤ 24) : w32 ((i : Int) + (s : Int)) = ((i + s : Nat) : Int) ∧ 0 ≤ ((i + s : Nat) : Int) ∧ ((i + s : Nat) : Int) < T := by
  refine ⟨?_, by omega, by omega⟩
  rw [w32_in] <;> omega
theorem w32_s {s : Nat} (h : s ≤ 1000) : w32 ((s : Int) + 1) = ((s + 1 : Nat) : Int) := by rw [w32_in] <;> omega
section FILL
variable {S : SS} {mb sb own : Nat → Nat} {m k i : Nat}
theorem l_fill1 {h : AH} {vm vk : Int} (F : WF S) (J : CJ S h mb sb own) (hm : m < mS S) (hk : k < sS S) (hi : i + nS S m ≤ (S 4 k 1 0).toNat) : ∀ (d s : Nat) (v7 v8 : AV), s + d = nS S m → flOk S m k i s = true →
    (flOk S m k i (nS S m) = false → X mX4_fill 63 [aR (some 0), aI vm, aI vk, aI i, aR (some (mb m)), aR (some (sb k)), aI s, v7, v8] [] h = some (some (aI (-4)), h)) ∧
    (flOk S m k i (nS S m) = true → ∃ v7' v8', X mX4_fill 63 [aR (some 0), aI vm, aI vk, aI i, aR (some (mb m)), aR (some (sb k)), aI s, v7, v8] [] h = X mX4_fill 118 [aR (some 0), aI vm, aI vk, aI i, aR (some (mb m)), aR (some (sb k)), aI (nS S m), v7', v8'] [] h) := by
  obtain ⟨G, K, P⟩ := J
  obtain ⟨p1, p2, ⟨M, -⟩, p4⟩ := P.1 m hm
  obtain ⟨q1, q2, q3, q4, q5⟩ := P.2.1 k hk
  obtain ⟨⟨k1, k2⟩, ⟨n1, n2⟩, -⟩ := F.2.1 m hm
  have f24 := (F.2.2 k hk).2.1
  have hos : isO h 3 (sb k) = true := isO_rd q3.1
  have hoM : isO h 1 (mb m) = true := isO_rd M.2.1
  have en : ((nS S m : Nat) : Int) = S 1 m 1 0 := by unfold nS; omega
  have z : ¬ (1 : Int) = 0 := by decide
  intro d
  induction d with
  | zero =>
    intro s v7 v8 hd hok
    have e : s = nS S m := by omega
    subst e
    refine ⟨fun q => absurd (hok.symm.trans q) (by decide), fun _ => ⟨v7, v8, ?_⟩⟩
    have n1 : ((nS S m : Nat) : Int) ≤ ((nS S m : Nat) : Int) := Int.le_refl _
    rw [x_X4_fill_63]
    simp only [↓x_X4_fill_0, ↓x_X4_fill_1, ↓x_X4_fill_2, ↓x_X4_fill_5, ↓x_X4_fill_7, ↓x_X4_fill_8, ↓x_X4_fill_9, ↓x_X4_fill_12, ↓x_X4_fill_14, ↓x_X4_fill_16n, ↓x_X4_fill_16s, ↓x_X4_fill_19, ↓x_X4_fill_21n, ↓x_X4_fill_21s, ↓x_X4_fill_24, ↓x_X4_fill_25, ↓x_X4_fill_26, ↓x_X4_fill_28, ↓x_X4_fill_31, ↓x_X4_fill_34, ↓x_X4_fill_35, ↓x_X4_fill_36, ↓x_X4_fill_39, ↓x_X4_fill_40, ↓x_X4_fill_42, ↓x_X4_fill_43, ↓x_X4_fill_45, ↓x_X4_fill_48, ↓x_X4_fill_51, ↓x_X4_fill_54, ↓x_X4_fill_55, ↓x_X4_fill_56, ↓x_X4_fill_59, ↓x_X4_fill_60, ↓x_X4_fill_61, ↓x_X4_fill_65, ↓x_X4_fill_67, ↓x_X4_fill_70, ↓x_X4_fill_73, ↓x_X4_fill_75, ↓x_X4_fill_76, ↓x_X4_fill_78, ↓x_X4_fill_79, ↓x_X4_fill_82, ↓x_X4_fill_84, ↓x_X4_fill_86, ↓x_X4_fill_89, ↓x_X4_fill_92, ↓x_X4_fill_94, ↓x_X4_fill_95, ↓x_X4_fill_96, ↓x_X4_fill_99, ↓x_X4_fill_101, ↓x_X4_fill_103, ↓x_X4_fill_106, ↓x_X4_fill_109, ↓x_X4_fill_111, ↓x_X4_fill_112, ↓x_X4_fill_115, ↓x_X4_fill_119, ↓x_X4_fill_121, ↓x_X4_fill_123, ↓x_X4_fill_125, ↓x_X4_fill_128, ↓x_X4_fill_131, ↓x_X4_fill_133, ↓x_X4_fill_135, ↓x_X4_fill_137, ↓x_X4_fill_138, ↓x_X4_fill_140, ↓x_X4_fill_141, ↓x_X4_fill_144, ↓x_X4_fill_145, ↓x_X4_fill_148, ↓x_X4_fill_151, ↓x_X4_fill_154, ↓x_X4_fill_156, ↓x_X4_fill_159, ↓gK_of M.2.2.1, n1, ↓reduceIte]
  | succ d ih =>
    intro s v7 v8 hd hok
    have n3 : ¬ ((nS S m : Nat) : Int) ≤ (s : Int) := by omega
    have hsn0 : s < nS S m := by omega
    have hs5 : s ≤ 1000 := by omega
    have he := (b_is hi hsn0 f24).2
    have cp := c_placeAt q3 (i := ((i + s : Nat) : Int)) he
    rw [Int.toNat_natCast] at cp
    have ci := c_isPay (h := h) (v := S 5 k (i + s) 0)
    have cm := c_mayPay (s := (s : Int)) M.2.1 M.2.2.1 (by rw [en]; omega)
    rw [en] at cm
    by_cases c1 : -50 ≤ S 5 k (i + s) 0 ∧ S 5 k (i + s) 0 ≤ 50
    · rw [if_pos c1] at ci
      by_cases c2 : S 5 k (i + s) 0 = 0
      · have hok' : flOk S m k i (s + 1) = true := by
          rw [flOk, hok, Bool.true_and]
          exact decide_eq_true ⟨c1, fun y => y.1 c2⟩
        obtain ⟨i1, i2⟩ := ih (s + 1) (aJ (S 5 k (i + s) 0)) aU (by omega) hok'
        have st : X mX4_fill 63 [aR (some 0), aI vm, aI vk, aI i, aR (some (mb m)), aR (some (sb k)), aI s, v7, v8] [] h = X mX4_fill 63 [aR (some 0), aI vm, aI vk, aI i, aR (some (mb m)), aR (some (sb k)), aI ((s + 1 : Nat) : Int), aJ (S 5 k (i + s) 0), aU] [] h := by
          rw [x_X4_fill_63]
          simp only [↓x_X4_fill_0, ↓x_X4_fill_1, ↓x_X4_fill_2, ↓x_X4_fill_5, ↓x_X4_fill_7, ↓x_X4_fill_8, ↓x_X4_fill_9, ↓x_X4_fill_12, ↓x_X4_fill_14, ↓x_X4_fill_16n, ↓x_X4_fill_16s, ↓x_X4_fill_19, ↓x_X4_fill_21n, ↓x_X4_fill_21s, ↓x_X4_fill_24, ↓x_X4_fill_25, ↓x_X4_fill_26, ↓x_X4_fill_28, ↓x_X4_fill_31, ↓x_X4_fill_34, ↓x_X4_fill_35, ↓x_X4_fill_36, ↓x_X4_fill_39, ↓x_X4_fill_40, ↓x_X4_fill_42, ↓x_X4_fill_43, ↓x_X4_fill_45, ↓x_X4_fill_48, ↓x_X4_fill_51, ↓x_X4_fill_54, ↓x_X4_fill_55, ↓x_X4_fill_56, ↓x_X4_fill_59, ↓x_X4_fill_60, ↓x_X4_fill_61, ↓x_X4_fill_65, ↓x_X4_fill_67, ↓x_X4_fill_70, ↓x_X4_fill_73, ↓x_X4_fill_75, ↓x_X4_fill_76, ↓x_X4_fill_78, ↓x_X4_fill_82, ↓x_X4_fill_84, ↓x_X4_fill_86, ↓x_X4_fill_89, ↓x_X4_fill_92, ↓x_X4_fill_94, ↓x_X4_fill_95, ↓x_X4_fill_96, ↓x_X4_fill_99, ↓x_X4_fill_101, ↓x_X4_fill_103, ↓x_X4_fill_106, ↓x_X4_fill_109, ↓x_X4_fill_111, ↓x_X4_fill_112, ↓x_X4_fill_115, ↓x_X4_fill_119, ↓x_X4_fill_121, ↓x_X4_fill_123, ↓x_X4_fill_125, ↓x_X4_fill_128, ↓x_X4_fill_131, ↓x_X4_fill_133, ↓x_X4_fill_135, ↓x_X4_fill_137, ↓x_X4_fill_138, ↓x_X4_fill_140, ↓x_X4_fill_141, ↓x_X4_fill_144, ↓x_X4_fill_145, ↓x_X4_fill_148, ↓x_X4_fill_151, ↓x_X4_fill_154, ↓x_X4_fill_156, ↓x_X4_fill_159, ↓gK_of M.2.2.1, n3, w32_s hs5, (b_is hi hsn0 f24).1, ↓reduceIte]
          simp only [↓x_X4_fill_0, ↓x_X4_fill_1, ↓x_X4_fill_2, ↓x_X4_fill_5, ↓x_X4_fill_7, ↓x_X4_fill_8, ↓x_X4_fill_9, ↓x_X4_fill_12, ↓x_X4_fill_14, ↓x_X4_fill_16n, ↓x_X4_fill_16s, ↓x_X4_fill_19, ↓x_X4_fill_21n, ↓x_X4_fill_21s, ↓x_X4_fill_24, ↓x_X4_fill_25, ↓x_X4_fill_26, ↓x_X4_fill_28, ↓x_X4_fill_31, ↓x_X4_fill_34, ↓x_X4_fill_35, ↓x_X4_fill_36, ↓x_X4_fill_39, ↓x_X4_fill_40, ↓x_X4_fill_42, ↓x_X4_fill_43, ↓x_X4_fill_45, ↓x_X4_fill_48, ↓x_X4_fill_51, ↓x_X4_fill_54, ↓x_X4_fill_55, ↓x_X4_fill_56, ↓x_X4_fill_59, ↓x_X4_fill_60, ↓x_X4_fill_61, ↓x_X4_fill_65, ↓x_X4_fill_67, ↓x_X4_fill_70, ↓x_X4_fill_73, ↓x_X4_fill_75, ↓x_X4_fill_76, ↓x_X4_fill_78, ↓x_X4_fill_79, ↓x_X4_fill_82, ↓x_X4_fill_84, ↓x_X4_fill_86, ↓x_X4_fill_89, ↓x_X4_fill_92, ↓x_X4_fill_94, ↓x_X4_fill_95, ↓x_X4_fill_96, ↓x_X4_fill_99, ↓x_X4_fill_101, ↓x_X4_fill_103, ↓x_X4_fill_106, ↓x_X4_fill_109, ↓x_X4_fill_111, ↓x_X4_fill_112, ↓x_X4_fill_115, ↓x_X4_fill_119, ↓x_X4_fill_121, ↓x_X4_fill_123, ↓x_X4_fill_125, ↓x_X4_fill_128, ↓x_X4_fill_131, ↓x_X4_fill_133, ↓x_X4_fill_135, ↓x_X4_fill_137, ↓x_X4_fill_138, ↓x_X4_fill_140, ↓x_X4_fill_141, ↓x_X4_fill_144, ↓x_X4_fill_145, ↓x_X4_fill_148, ↓x_X4_fill_151, ↓x_X4_fill_154, ↓x_X4_fill_156, ↓x_X4_fill_159, hos, ↓cKJ cp, ↓cKI ci, fc_eq, c2, z, w32_s hs5, ↓reduceIte]
        rw [st]
        exact ⟨i1, i2⟩
      · by_cases c3 : S 1 m 0 0 = 3 ∧ ¬ (s : Int) = S 1 m 1 0 - 2
        · rw [if_neg (by omega)] at cm
          have hbad : flOk S m k i (s + 1) = false := by
            rw [flOk, hok, Bool.true_and]
            exact decide_eq_false fun y => y.2 ⟨c2, c3⟩
          have hbad' := flOk_false d hbad
          rw [show s + 1 + d = nS S m by omega] at hbad'
          refine ⟨fun _ => ?_, fun q => absurd (hbad'.symm.trans q) (by decide)⟩
          rw [x_X4_fill_63]
          simp only [↓x_X4_fill_0, ↓x_X4_fill_1, ↓x_X4_fill_2, ↓x_X4_fill_5, ↓x_X4_fill_7, ↓x_X4_fill_8, ↓x_X4_fill_9, ↓x_X4_fill_12, ↓x_X4_fill_14, ↓x_X4_fill_16n, ↓x_X4_fill_16s, ↓x_X4_fill_19, ↓x_X4_fill_21n, ↓x_X4_fill_21s, ↓x_X4_fill_24, ↓x_X4_fill_25, ↓x_X4_fill_26, ↓x_X4_fill_28, ↓x_X4_fill_31, ↓x_X4_fill_34, ↓x_X4_fill_35, ↓x_X4_fill_36, ↓x_X4_fill_39, ↓x_X4_fill_40, ↓x_X4_fill_42, ↓x_X4_fill_43, ↓x_X4_fill_45, ↓x_X4_fill_48, ↓x_X4_fill_51, ↓x_X4_fill_54, ↓x_X4_fill_55, ↓x_X4_fill_56, ↓x_X4_fill_59, ↓x_X4_fill_60, ↓x_X4_fill_61, ↓x_X4_fill_65, ↓x_X4_fill_67, ↓x_X4_fill_70, ↓x_X4_fill_73, ↓x_X4_fill_75, ↓x_X4_fill_76, ↓x_X4_fill_78, ↓x_X4_fill_82, ↓x_X4_fill_84, ↓x_X4_fill_86, ↓x_X4_fill_89, ↓x_X4_fill_92, ↓x_X4_fill_94, ↓x_X4_fill_95, ↓x_X4_fill_96, ↓x_X4_fill_99, ↓x_X4_fill_101, ↓x_X4_fill_103, ↓x_X4_fill_106, ↓x_X4_fill_109, ↓x_X4_fill_111, ↓x_X4_fill_112, ↓x_X4_fill_115, ↓x_X4_fill_119, ↓x_X4_fill_121, ↓x_X4_fill_123, ↓x_X4_fill_125, ↓x_X4_fill_128, ↓x_X4_fill_131, ↓x_X4_fill_133, ↓x_X4_fill_135, ↓x_X4_fill_137, ↓x_X4_fill_138, ↓x_X4_fill_140, ↓x_X4_fill_141, ↓x_X4_fill_144, ↓x_X4_fill_145, ↓x_X4_fill_148, ↓x_X4_fill_151, ↓x_X4_fill_154, ↓x_X4_fill_156, ↓x_X4_fill_159, ↓gK_of M.2.2.1, n3, w32_s hs5, (b_is hi hsn0 f24).1, ↓reduceIte]
          simp only [↓x_X4_fill_0, ↓x_X4_fill_1, ↓x_X4_fill_2, ↓x_X4_fill_5, ↓x_X4_fill_7, ↓x_X4_fill_8, ↓x_X4_fill_9, ↓x_X4_fill_12, ↓x_X4_fill_14, ↓x_X4_fill_16n, ↓x_X4_fill_16s, ↓x_X4_fill_19, ↓x_X4_fill_21n, ↓x_X4_fill_21s, ↓x_X4_fill_24, ↓x_X4_fill_25, ↓x_X4_fill_26, ↓x_X4_fill_28, ↓x_X4_fill_31, ↓x_X4_fill_34, ↓x_X4_fill_35, ↓x_X4_fill_36, ↓x_X4_fill_39, ↓x_X4_fill_40, ↓x_X4_fill_42, ↓x_X4_fill_43, ↓x_X4_fill_45, ↓x_X4_fill_48, ↓x_X4_fill_51, ↓x_X4_fill_54, ↓x_X4_fill_55, ↓x_X4_fill_56, ↓x_X4_fill_59, ↓x_X4_fill_60, ↓x_X4_fill_61, ↓x_X4_fill_65, ↓x_X4_fill_67, ↓x_X4_fill_70, ↓x_X4_fill_73, ↓x_X4_fill_75, ↓x_X4_fill_76, ↓x_X4_fill_78, ↓x_X4_fill_79, ↓x_X4_fill_82, ↓x_X4_fill_84, ↓x_X4_fill_86, ↓x_X4_fill_89, ↓x_X4_fill_92, ↓x_X4_fill_94, ↓x_X4_fill_95, ↓x_X4_fill_96, ↓x_X4_fill_99, ↓x_X4_fill_101, ↓x_X4_fill_103, ↓x_X4_fill_106, ↓x_X4_fill_109, ↓x_X4_fill_111, ↓x_X4_fill_112, ↓x_X4_fill_115, ↓x_X4_fill_119, ↓x_X4_fill_121, ↓x_X4_fill_123, ↓x_X4_fill_125, ↓x_X4_fill_128, ↓x_X4_fill_131, ↓x_X4_fill_133, ↓x_X4_fill_135, ↓x_X4_fill_137, ↓x_X4_fill_138, ↓x_X4_fill_140, ↓x_X4_fill_141, ↓x_X4_fill_144, ↓x_X4_fill_145, ↓x_X4_fill_148, ↓x_X4_fill_151, ↓x_X4_fill_154, ↓x_X4_fill_156, ↓x_X4_fill_159, hos, hoM, ↓cKJ cp, ↓cKI ci, ↓cKI cm, fc_eq, c2, z, not_true_eq_false, ↓reduceIte]
        · rw [if_pos (by omega)] at cm
          have hok' : flOk S m k i (s + 1) = true := by
            rw [flOk, hok, Bool.true_and]
            exact decide_eq_true ⟨c1, fun y => c3 y.2⟩
          obtain ⟨i1, i2⟩ := ih (s + 1) (aJ (S 5 k (i + s) 0)) aU (by omega) hok'
          have st : X mX4_fill 63 [aR (some 0), aI vm, aI vk, aI i, aR (some (mb m)), aR (some (sb k)), aI s, v7, v8] [] h = X mX4_fill 63 [aR (some 0), aI vm, aI vk, aI i, aR (some (mb m)), aR (some (sb k)), aI ((s + 1 : Nat) : Int), aJ (S 5 k (i + s) 0), aU] [] h := by
            rw [x_X4_fill_63]
            simp only [↓x_X4_fill_0, ↓x_X4_fill_1, ↓x_X4_fill_2, ↓x_X4_fill_5, ↓x_X4_fill_7, ↓x_X4_fill_8, ↓x_X4_fill_9, ↓x_X4_fill_12, ↓x_X4_fill_14, ↓x_X4_fill_16n, ↓x_X4_fill_16s, ↓x_X4_fill_19, ↓x_X4_fill_21n, ↓x_X4_fill_21s, ↓x_X4_fill_24, ↓x_X4_fill_25, ↓x_X4_fill_26, ↓x_X4_fill_28, ↓x_X4_fill_31, ↓x_X4_fill_34, ↓x_X4_fill_35, ↓x_X4_fill_36, ↓x_X4_fill_39, ↓x_X4_fill_40, ↓x_X4_fill_42, ↓x_X4_fill_43, ↓x_X4_fill_45, ↓x_X4_fill_48, ↓x_X4_fill_51, ↓x_X4_fill_54, ↓x_X4_fill_55, ↓x_X4_fill_56, ↓x_X4_fill_59, ↓x_X4_fill_60, ↓x_X4_fill_61, ↓x_X4_fill_65, ↓x_X4_fill_67, ↓x_X4_fill_70, ↓x_X4_fill_73, ↓x_X4_fill_75, ↓x_X4_fill_76, ↓x_X4_fill_78, ↓x_X4_fill_82, ↓x_X4_fill_84, ↓x_X4_fill_86, ↓x_X4_fill_89, ↓x_X4_fill_92, ↓x_X4_fill_94, ↓x_X4_fill_95, ↓x_X4_fill_96, ↓x_X4_fill_99, ↓x_X4_fill_101, ↓x_X4_fill_103, ↓x_X4_fill_106, ↓x_X4_fill_109, ↓x_X4_fill_111, ↓x_X4_fill_112, ↓x_X4_fill_115, ↓x_X4_fill_119, ↓x_X4_fill_121, ↓x_X4_fill_123, ↓x_X4_fill_125, ↓x_X4_fill_128, ↓x_X4_fill_131, ↓x_X4_fill_133, ↓x_X4_fill_135, ↓x_X4_fill_137, ↓x_X4_fill_138, ↓x_X4_fill_140, ↓x_X4_fill_141, ↓x_X4_fill_144, ↓x_X4_fill_145, ↓x_X4_fill_148, ↓x_X4_fill_151, ↓x_X4_fill_154, ↓x_X4_fill_156, ↓x_X4_fill_159, ↓gK_of M.2.2.1, n3, w32_s hs5, (b_is hi hsn0 f24).1, ↓reduceIte]
            simp only [↓x_X4_fill_0, ↓x_X4_fill_1, ↓x_X4_fill_2, ↓x_X4_fill_5, ↓x_X4_fill_7, ↓x_X4_fill_8, ↓x_X4_fill_9, ↓x_X4_fill_12, ↓x_X4_fill_14, ↓x_X4_fill_16n, ↓x_X4_fill_16s, ↓x_X4_fill_19, ↓x_X4_fill_21n, ↓x_X4_fill_21s, ↓x_X4_fill_24, ↓x_X4_fill_25, ↓x_X4_fill_26, ↓x_X4_fill_28, ↓x_X4_fill_31, ↓x_X4_fill_34, ↓x_X4_fill_35, ↓x_X4_fill_36, ↓x_X4_fill_39, ↓x_X4_fill_40, ↓x_X4_fill_42, ↓x_X4_fill_43, ↓x_X4_fill_45, ↓x_X4_fill_48, ↓x_X4_fill_51, ↓x_X4_fill_54, ↓x_X4_fill_55, ↓x_X4_fill_56, ↓x_X4_fill_59, ↓x_X4_fill_60, ↓x_X4_fill_61, ↓x_X4_fill_65, ↓x_X4_fill_67, ↓x_X4_fill_70, ↓x_X4_fill_73, ↓x_X4_fill_75, ↓x_X4_fill_76, ↓x_X4_fill_78, ↓x_X4_fill_79, ↓x_X4_fill_82, ↓x_X4_fill_84, ↓x_X4_fill_86, ↓x_X4_fill_89, ↓x_X4_fill_92, ↓x_X4_fill_94, ↓x_X4_fill_95, ↓x_X4_fill_96, ↓x_X4_fill_99, ↓x_X4_fill_101, ↓x_X4_fill_103, ↓x_X4_fill_106, ↓x_X4_fill_109, ↓x_X4_fill_111, ↓x_X4_fill_112, ↓x_X4_fill_115, ↓x_X4_fill_119, ↓x_X4_fill_121, ↓x_X4_fill_123, ↓x_X4_fill_125, ↓x_X4_fill_128, ↓x_X4_fill_131, ↓x_X4_fill_133, ↓x_X4_fill_135, ↓x_X4_fill_137, ↓x_X4_fill_138, ↓x_X4_fill_140, ↓x_X4_fill_141, ↓x_X4_fill_144, ↓x_X4_fill_145, ↓x_X4_fill_148, ↓x_X4_fill_151, ↓x_X4_fill_154, ↓x_X4_fill_156, ↓x_X4_fill_159, hos, hoM, ↓cKJ cp, ↓cKI ci, ↓cKI cm, fc_eq, c2, z, w32_s hs5, not_false_eq_true, ↓reduceIte]
          rw [st]
          exact ⟨i1, i2⟩
    · rw [if_neg c1] at ci
      have hbad : flOk S m k i (s + 1) = false := by
        rw [flOk, hok, Bool.true_and]
        exact decide_eq_false fun y => c1 y.1
      have hbad' := flOk_false d hbad
      rw [show s + 1 + d = nS S m by omega] at hbad'
      refine ⟨fun _ => ?_, fun q => absurd (hbad'.symm.trans q) (by decide)⟩
      rw [x_X4_fill_63]
      simp only [↓x_X4_fill_0, ↓x_X4_fill_1, ↓x_X4_fill_2, ↓x_X4_fill_5, ↓x_X4_fill_7, ↓x_X4_fill_8, ↓x_X4_fill_9, ↓x_X4_fill_12, ↓x_X4_fill_14, ↓x_X4_fill_16n, ↓x_X4_fill_16s, ↓x_X4_fill_19, ↓x_X4_fill_21n, ↓x_X4_fill_21s, ↓x_X4_fill_24, ↓x_X4_fill_25, ↓x_X4_fill_26, ↓x_X4_fill_28, ↓x_X4_fill_31, ↓x_X4_fill_34, ↓x_X4_fill_35, ↓x_X4_fill_36, ↓x_X4_fill_39, ↓x_X4_fill_40, ↓x_X4_fill_42, ↓x_X4_fill_43, ↓x_X4_fill_45, ↓x_X4_fill_48, ↓x_X4_fill_51, ↓x_X4_fill_54, ↓x_X4_fill_55, ↓x_X4_fill_56, ↓x_X4_fill_59, ↓x_X4_fill_60, ↓x_X4_fill_61, ↓x_X4_fill_65, ↓x_X4_fill_67, ↓x_X4_fill_70, ↓x_X4_fill_73, ↓x_X4_fill_75, ↓x_X4_fill_76, ↓x_X4_fill_78, ↓x_X4_fill_82, ↓x_X4_fill_84, ↓x_X4_fill_86, ↓x_X4_fill_89, ↓x_X4_fill_92, ↓x_X4_fill_94, ↓x_X4_fill_95, ↓x_X4_fill_96, ↓x_X4_fill_99, ↓x_X4_fill_101, ↓x_X4_fill_103, ↓x_X4_fill_106, ↓x_X4_fill_109, ↓x_X4_fill_111, ↓x_X4_fill_112, ↓x_X4_fill_115, ↓x_X4_fill_119, ↓x_X4_fill_121, ↓x_X4_fill_123, ↓x_X4_fill_125, ↓x_X4_fill_128, ↓x_X4_fill_131, ↓x_X4_fill_133, ↓x_X4_fill_135, ↓x_X4_fill_137, ↓x_X4_fill_138, ↓x_X4_fill_140, ↓x_X4_fill_141, ↓x_X4_fill_144, ↓x_X4_fill_145, ↓x_X4_fill_148, ↓x_X4_fill_151, ↓x_X4_fill_154, ↓x_X4_fill_156, ↓x_X4_fill_159, ↓gK_of M.2.2.1, n3, w32_s hs5, (b_is hi hsn0 f24).1, ↓reduceIte]
      simp only [↓x_X4_fill_0, ↓x_X4_fill_1, ↓x_X4_fill_2, ↓x_X4_fill_5, ↓x_X4_fill_7, ↓x_X4_fill_8, ↓x_X4_fill_9, ↓x_X4_fill_12, ↓x_X4_fill_14, ↓x_X4_fill_16n, ↓x_X4_fill_16s, ↓x_X4_fill_19, ↓x_X4_fill_21n, ↓x_X4_fill_21s, ↓x_X4_fill_24, ↓x_X4_fill_25, ↓x_X4_fill_26, ↓x_X4_fill_28, ↓x_X4_fill_31, ↓x_X4_fill_34, ↓x_X4_fill_35, ↓x_X4_fill_36, ↓x_X4_fill_39, ↓x_X4_fill_40, ↓x_X4_fill_42, ↓x_X4_fill_43, ↓x_X4_fill_45, ↓x_X4_fill_48, ↓x_X4_fill_51, ↓x_X4_fill_54, ↓x_X4_fill_55, ↓x_X4_fill_56, ↓x_X4_fill_59, ↓x_X4_fill_60, ↓x_X4_fill_61, ↓x_X4_fill_65, ↓x_X4_fill_67, ↓x_X4_fill_70, ↓x_X4_fill_73, ↓x_X4_fill_75, ↓x_X4_fill_76, ↓x_X4_fill_78, ↓x_X4_fill_79, ↓x_X4_fill_82, ↓x_X4_fill_84, ↓x_X4_fill_86, ↓x_X4_fill_89, ↓x_X4_fill_92, ↓x_X4_fill_94, ↓x_X4_fill_95, ↓x_X4_fill_96, ↓x_X4_fill_99, ↓x_X4_fill_101, ↓x_X4_fill_103, ↓x_X4_fill_106, ↓x_X4_fill_109, ↓x_X4_fill_111, ↓x_X4_fill_112, ↓x_X4_fill_115, ↓x_X4_fill_119, ↓x_X4_fill_121, ↓x_X4_fill_123, ↓x_X4_fill_125, ↓x_X4_fill_128, ↓x_X4_fill_131, ↓x_X4_fill_133, ↓x_X4_fill_135, ↓x_X4_fill_137, ↓x_X4_fill_138, ↓x_X4_fill_140, ↓x_X4_fill_141, ↓x_X4_fill_144, ↓x_X4_fill_145, ↓x_X4_fill_148, ↓x_X4_fill_151, ↓x_X4_fill_154, ↓x_X4_fill_156, ↓x_X4_fill_159, hos, ↓cKJ cp, ↓cKI ci, ↓reduceIte]
theorem l_fill2 {vm vk : Int} (F : WF S) (hm : m < mS S) (hk : k < sS S) (hi : i + nS S m ≤ (S 4 k 1 0).toNat) (hok : flOk S m k i (nS S m) = true) : ∀ (d s : Nat) (h : AH) (v7 v8 : AV), s + d = nS S m → CJ (flS S m k i s) h mb sb own →
    ∃ h', X mX4_fill 121 [aR (some 0), aI vm, aI vk, aI i, aR (some (mb m)), aR (some (sb k)), aI s, v7, v8] [] h = some (some (aI (nS S m)), h') ∧ CJ (flS S m k i (nS S m)) h' mb sb own ∧ h'.length = h.length ∧ slt h' = slt h := by
  obtain ⟨⟨k1, k2⟩, ⟨n1, n2⟩, -⟩ := F.2.1 m hm
  have f24 := (F.2.2 k hk).2.1
  intro d
  induction d with
  | zero =>
    intro s h v7 v8 hd J
    have e : s = nS S m := by omega
    subst e
    have en : nS (flS S m k i (nS S m)) m = nS S m := by unfold nS; rw [flS_t (by decide)]
    obtain ⟨p1, p2, ⟨M, -⟩, p4⟩ := J.2.2.1 m (by unfold mS at hm ⊢; rw [flS_t (by decide)]; exact hm)
    have g1 := M.2.2.1
    rw [en] at g1
    refine ⟨h, ?_, J, rfl, rfl⟩
    have n1 : ((nS S m : Nat) : Int) ≤ ((nS S m : Nat) : Int) := Int.le_refl _
    rw [x_X4_fill_121]
    simp only [↓x_X4_fill_0, ↓x_X4_fill_1, ↓x_X4_fill_2, ↓x_X4_fill_5, ↓x_X4_fill_7, ↓x_X4_fill_8, ↓x_X4_fill_9, ↓x_X4_fill_12, ↓x_X4_fill_14, ↓x_X4_fill_16n, ↓x_X4_fill_16s, ↓x_X4_fill_19, ↓x_X4_fill_21n, ↓x_X4_fill_21s, ↓x_X4_fill_24, ↓x_X4_fill_25, ↓x_X4_fill_26, ↓x_X4_fill_28, ↓x_X4_fill_31, ↓x_X4_fill_34, ↓x_X4_fill_35, ↓x_X4_fill_36, ↓x_X4_fill_39, ↓x_X4_fill_40, ↓x_X4_fill_42, ↓x_X4_fill_43, ↓x_X4_fill_45, ↓x_X4_fill_48, ↓x_X4_fill_51, ↓x_X4_fill_54, ↓x_X4_fill_55, ↓x_X4_fill_56, ↓x_X4_fill_59, ↓x_X4_fill_60, ↓x_X4_fill_61, ↓x_X4_fill_65, ↓x_X4_fill_67, ↓x_X4_fill_70, ↓x_X4_fill_73, ↓x_X4_fill_75, ↓x_X4_fill_76, ↓x_X4_fill_78, ↓x_X4_fill_79, ↓x_X4_fill_82, ↓x_X4_fill_84, ↓x_X4_fill_86, ↓x_X4_fill_89, ↓x_X4_fill_92, ↓x_X4_fill_94, ↓x_X4_fill_95, ↓x_X4_fill_96, ↓x_X4_fill_99, ↓x_X4_fill_101, ↓x_X4_fill_103, ↓x_X4_fill_106, ↓x_X4_fill_109, ↓x_X4_fill_111, ↓x_X4_fill_112, ↓x_X4_fill_115, ↓x_X4_fill_118, ↓x_X4_fill_119, ↓x_X4_fill_123, ↓x_X4_fill_125, ↓x_X4_fill_128, ↓x_X4_fill_131, ↓x_X4_fill_133, ↓x_X4_fill_135, ↓x_X4_fill_137, ↓x_X4_fill_138, ↓x_X4_fill_140, ↓x_X4_fill_141, ↓x_X4_fill_144, ↓x_X4_fill_145, ↓x_X4_fill_148, ↓x_X4_fill_151, ↓x_X4_fill_154, ↓x_X4_fill_156, ↓x_X4_fill_159, ↓gK_of g1, n1, ↓reduceIte]
  | succ d ih =>
    intro s h v7 v8 hd J
    have Fs := F.fl hok s (by omega)
    have hms : m < mS (flS S m k i s) := by unfold mS at hm ⊢; rw [flS_t (by decide)]; exact hm
    have hks : k < sS (flS S m k i s) := by unfold sS at hk ⊢; rw [flS_t (by decide)]; exact hk
    have en : nS (flS S m k i s) m = nS S m := by unfold nS; rw [flS_t (by decide)]
    obtain ⟨G, K, P⟩ := J
    obtain ⟨p1, p2, ⟨M, ⟨wd, g5, -⟩, -⟩, p4⟩ := P.1 m hms
    obtain ⟨q1, q2, q3, q4, q5⟩ := P.2.1 k hks
    have hos : isO h 3 (sb k) = true := isO_rd q3.1
    have hoM : isO h 1 (mb m) = true := isO_rd M.2.1
    have g1 := M.2.2.1
    rw [en] at g1
    have n3 : ¬ ((nS S m : Nat) : Int) ≤ (s : Int) := by omega
    have hsn0 : s < nS S m := by omega
    have hs5 : s ≤ 1000 := by omega
    have he := (b_is hi hsn0 f24).2
    have cp := c_placeAt q3 (i := ((i + s : Nat) : Int)) (by rw [flS_t (by decide)]; exact he)
    rw [Int.toNat_natCast, flS_t (by decide)] at cp
    have hv := (flOk_at hok (s := s) (by omega)).1
    have e10 : w32 (S 5 k (i + s) 0) = S 5 k (i + s) 0 := by rw [w32_in] <;> omega
    have hsn : s < nS (flS S m k i s) m := by rw [en]; omega
    have cs := c_setPay (v := S 5 k (i + s) 0) M g5 hsn
    have J' := wM_pay Fs G K P hms hsn (S 5 k (i + s) 0)
    have e9 : flS S m k i (s + 1) = ups (flS S m k i s) 2 m s 0 (S 5 k (i + s) 0) := rfl
    rw [← e9] at J'
    obtain ⟨h', f1, f2, f3, f4⟩ := ih (s + 1) _ v7 v8 (by omega) J'
    rw [wr_len, wr_len] at f3
    rw [wr_slt, wr_slt] at f4
    refine ⟨h', ?_, f2, f3, f4⟩
    rw [← f1, x_X4_fill_121]
    simp only [↓x_X4_fill_0, ↓x_X4_fill_1, ↓x_X4_fill_2, ↓x_X4_fill_5, ↓x_X4_fill_7, ↓x_X4_fill_8, ↓x_X4_fill_9, ↓x_X4_fill_12, ↓x_X4_fill_14, ↓x_X4_fill_16n, ↓x_X4_fill_16s, ↓x_X4_fill_19, ↓x_X4_fill_21n, ↓x_X4_fill_21s, ↓x_X4_fill_24, ↓x_X4_fill_25, ↓x_X4_fill_26, ↓x_X4_fill_28, ↓x_X4_fill_31, ↓x_X4_fill_34, ↓x_X4_fill_35, ↓x_X4_fill_36, ↓x_X4_fill_39, ↓x_X4_fill_40, ↓x_X4_fill_42, ↓x_X4_fill_43, ↓x_X4_fill_45, ↓x_X4_fill_48, ↓x_X4_fill_51, ↓x_X4_fill_54, ↓x_X4_fill_55, ↓x_X4_fill_56, ↓x_X4_fill_59, ↓x_X4_fill_60, ↓x_X4_fill_61, ↓x_X4_fill_65, ↓x_X4_fill_67, ↓x_X4_fill_70, ↓x_X4_fill_73, ↓x_X4_fill_75, ↓x_X4_fill_76, ↓x_X4_fill_78, ↓x_X4_fill_79, ↓x_X4_fill_82, ↓x_X4_fill_84, ↓x_X4_fill_86, ↓x_X4_fill_89, ↓x_X4_fill_92, ↓x_X4_fill_94, ↓x_X4_fill_95, ↓x_X4_fill_96, ↓x_X4_fill_99, ↓x_X4_fill_101, ↓x_X4_fill_103, ↓x_X4_fill_106, ↓x_X4_fill_109, ↓x_X4_fill_111, ↓x_X4_fill_112, ↓x_X4_fill_115, ↓x_X4_fill_118, ↓x_X4_fill_119, ↓x_X4_fill_123, ↓x_X4_fill_125, ↓x_X4_fill_128, ↓x_X4_fill_131, ↓x_X4_fill_133, ↓x_X4_fill_135, ↓x_X4_fill_137, ↓x_X4_fill_138, ↓x_X4_fill_140, ↓x_X4_fill_144, ↓x_X4_fill_145, ↓x_X4_fill_148, ↓x_X4_fill_151, ↓x_X4_fill_154, ↓x_X4_fill_156, ↓x_X4_fill_159, ↓gK_of g1, n3, (b_is hi hsn0 f24).1, ↓reduceIte]
    simp only [↓x_X4_fill_0, ↓x_X4_fill_1, ↓x_X4_fill_2, ↓x_X4_fill_5, ↓x_X4_fill_7, ↓x_X4_fill_8, ↓x_X4_fill_9, ↓x_X4_fill_12, ↓x_X4_fill_14, ↓x_X4_fill_16n, ↓x_X4_fill_16s, ↓x_X4_fill_19, ↓x_X4_fill_21n, ↓x_X4_fill_21s, ↓x_X4_fill_24, ↓x_X4_fill_25, ↓x_X4_fill_26, ↓x_X4_fill_28, ↓x_X4_fill_31, ↓x_X4_fill_34, ↓x_X4_fill_35, ↓x_X4_fill_36, ↓x_X4_fill_39, ↓x_X4_fill_40, ↓x_X4_fill_42, ↓x_X4_fill_43, ↓x_X4_fill_45, ↓x_X4_fill_48, ↓x_X4_fill_51, ↓x_X4_fill_54, ↓x_X4_fill_55, ↓x_X4_fill_56, ↓x_X4_fill_59, ↓x_X4_fill_60, ↓x_X4_fill_61, ↓x_X4_fill_65, ↓x_X4_fill_67, ↓x_X4_fill_70, ↓x_X4_fill_73, ↓x_X4_fill_75, ↓x_X4_fill_76, ↓x_X4_fill_78, ↓x_X4_fill_79, ↓x_X4_fill_82, ↓x_X4_fill_84, ↓x_X4_fill_86, ↓x_X4_fill_89, ↓x_X4_fill_92, ↓x_X4_fill_94, ↓x_X4_fill_95, ↓x_X4_fill_96, ↓x_X4_fill_99, ↓x_X4_fill_101, ↓x_X4_fill_103, ↓x_X4_fill_106, ↓x_X4_fill_109, ↓x_X4_fill_111, ↓x_X4_fill_112, ↓x_X4_fill_115, ↓x_X4_fill_118, ↓x_X4_fill_119, ↓x_X4_fill_123, ↓x_X4_fill_125, ↓x_X4_fill_128, ↓x_X4_fill_131, ↓x_X4_fill_133, ↓x_X4_fill_135, ↓x_X4_fill_137, ↓x_X4_fill_138, ↓x_X4_fill_140, ↓x_X4_fill_141, ↓x_X4_fill_144, ↓x_X4_fill_148, ↓x_X4_fill_151, ↓x_X4_fill_154, ↓x_X4_fill_156, ↓x_X4_fill_159, hos, ↓cKJ cp, e10]
    simp only [↓x_X4_fill_0, ↓x_X4_fill_1, ↓x_X4_fill_2, ↓x_X4_fill_5, ↓x_X4_fill_7, ↓x_X4_fill_8, ↓x_X4_fill_9, ↓x_X4_fill_12, ↓x_X4_fill_14, ↓x_X4_fill_16n, ↓x_X4_fill_16s, ↓x_X4_fill_19, ↓x_X4_fill_21n, ↓x_X4_fill_21s, ↓x_X4_fill_24, ↓x_X4_fill_25, ↓x_X4_fill_26, ↓x_X4_fill_28, ↓x_X4_fill_31, ↓x_X4_fill_34, ↓x_X4_fill_35, ↓x_X4_fill_36, ↓x_X4_fill_39, ↓x_X4_fill_40, ↓x_X4_fill_42, ↓x_X4_fill_43, ↓x_X4_fill_45, ↓x_X4_fill_48, ↓x_X4_fill_51, ↓x_X4_fill_54, ↓x_X4_fill_55, ↓x_X4_fill_56, ↓x_X4_fill_59, ↓x_X4_fill_60, ↓x_X4_fill_61, ↓x_X4_fill_65, ↓x_X4_fill_67, ↓x_X4_fill_70, ↓x_X4_fill_73, ↓x_X4_fill_75, ↓x_X4_fill_76, ↓x_X4_fill_78, ↓x_X4_fill_79, ↓x_X4_fill_82, ↓x_X4_fill_84, ↓x_X4_fill_86, ↓x_X4_fill_89, ↓x_X4_fill_92, ↓x_X4_fill_94, ↓x_X4_fill_95, ↓x_X4_fill_96, ↓x_X4_fill_99, ↓x_X4_fill_101, ↓x_X4_fill_103, ↓x_X4_fill_106, ↓x_X4_fill_109, ↓x_X4_fill_111, ↓x_X4_fill_112, ↓x_X4_fill_115, ↓x_X4_fill_118, ↓x_X4_fill_119, ↓x_X4_fill_123, ↓x_X4_fill_125, ↓x_X4_fill_128, ↓x_X4_fill_131, ↓x_X4_fill_133, ↓x_X4_fill_135, ↓x_X4_fill_137, ↓x_X4_fill_138, ↓x_X4_fill_140, ↓x_X4_fill_141, ↓x_X4_fill_144, ↓x_X4_fill_145, ↓x_X4_fill_148, ↓x_X4_fill_151, ↓x_X4_fill_154, ↓x_X4_fill_156, ↓x_X4_fill_159, hoM, ↓cKV cs, w32_s hs5]
end FILL
theorem CK_fill {S : SS} (F : WF S) (m k i : Int) : CK mX4_fill [aI m, aI k, aI i] aI S (o_fill m k i S) := by
  intro h C
  have C0 := C
  obtain ⟨G, K, mb, sb, own, P⟩ := C
  have J : CJ S h mb sb own := ⟨G, K, P⟩
  have ho : isO h 4 0 = true := isO_rd G.1.1
  have ca := c_machineAt F G P m
  have cb := c_sheetAt F G P k
  have cf1 := c_fd1 C0
  have cf2 := c_fd2 C0
  have z : ¬ (1 : Int) = 0 := by decide
  unfold o_fill
  rw [e_X4_fill]
  by_cases c1 : isM S m
  · rw [if_pos c1] at ca
    by_cases c2 : isT S k
    · rw [if_pos c2] at cb
      rw [if_neg (by omega)]
      have hm : m.toNat < mS S := by unfold mS; omega
      have hk : k.toNat < sS S := by unfold sS; omega
      obtain ⟨p1, p2, ⟨M, -⟩, p4⟩ := P.1 m.toNat hm
      obtain ⟨q1, q2, q3, q4, q5⟩ := P.2.1 k.toNat hk
      obtain ⟨⟨k1, k2⟩, ⟨n1, n2⟩, -⟩ := F.2.1 m.toNat hm
      have f24 := (F.2.2 k.toNat hk).2.1
      have en : ((nS S m.toNat : Nat) : Int) = S 1 m.toNat 1 0 := by unfold nS; omega
      have hos : isO h 3 (sb k.toNat) = true := isO_rd q3.1
      have g1 := M.2.2.1
      have g3 := q3.2.2.1
      rw [en] at g1
      have ch := c_hasPlaces q3 f24 i (S 1 m.toNat 1 0)
      by_cases c3 : S 4 k.toNat 2 0 = 0
      · rw [if_neg (not_not_intro c3)]
        by_cases c4 : 0 ≤ i ∧ i + S 1 m.toNat 1 0 ≤ S 4 k.toNat 1 0
        · rw [if_pos (by omega)] at ch
          rw [if_neg (not_not_intro c4)]
          obtain ⟨i', rfl⟩ := Int.eq_ofNat_of_zero_le c4.1
          rw [Int.toNat_natCast]
          have hi : i' + nS S m.toNat ≤ (S 4 k.toNat 1 0).toNat := by omega
          obtain ⟨r1, r2⟩ := l_fill1 (vm := m) (vk := k) F J hm hk hi (nS S m.toNat) 0 aU aU (by omega) rfl
          by_cases c5 : flOk S m.toNat k.toNat i' (nS S m.toNat) = false
          · rw [if_pos c5]
            refine ⟨h, ?_, C0, grow_rf⟩
            simp only [↓x_X4_fill_0, ↓x_X4_fill_1, ↓x_X4_fill_2, ↓x_X4_fill_5, ↓x_X4_fill_7, ↓x_X4_fill_8, ↓x_X4_fill_9, ↓x_X4_fill_12, ↓x_X4_fill_14, ↓x_X4_fill_16n, ↓x_X4_fill_16s, ↓x_X4_fill_19, ↓x_X4_fill_21n, ↓x_X4_fill_21s, ↓x_X4_fill_24, ↓x_X4_fill_25, ↓x_X4_fill_26, ↓x_X4_fill_28, ↓x_X4_fill_31, ↓x_X4_fill_34, ↓x_X4_fill_35, ↓x_X4_fill_36, ↓x_X4_fill_39, ↓x_X4_fill_40, ↓x_X4_fill_42, ↓x_X4_fill_43, ↓x_X4_fill_45, ↓x_X4_fill_48, ↓x_X4_fill_51, ↓x_X4_fill_54, ↓x_X4_fill_55, ↓x_X4_fill_56, ↓x_X4_fill_59, ↓x_X4_fill_60, ↓x_X4_fill_61, ↓x_X4_fill_65, ↓x_X4_fill_67, ↓x_X4_fill_70, ↓x_X4_fill_73, ↓x_X4_fill_75, ↓x_X4_fill_76, ↓x_X4_fill_78, ↓x_X4_fill_79, ↓x_X4_fill_82, ↓x_X4_fill_84, ↓x_X4_fill_86, ↓x_X4_fill_89, ↓x_X4_fill_92, ↓x_X4_fill_94, ↓x_X4_fill_95, ↓x_X4_fill_96, ↓x_X4_fill_99, ↓x_X4_fill_101, ↓x_X4_fill_103, ↓x_X4_fill_106, ↓x_X4_fill_109, ↓x_X4_fill_111, ↓x_X4_fill_112, ↓x_X4_fill_115, ↓x_X4_fill_118, ↓x_X4_fill_119, ↓x_X4_fill_121, ↓x_X4_fill_123, ↓x_X4_fill_125, ↓x_X4_fill_128, ↓x_X4_fill_131, ↓x_X4_fill_133, ↓x_X4_fill_135, ↓x_X4_fill_137, ↓x_X4_fill_138, ↓x_X4_fill_140, ↓x_X4_fill_141, ↓x_X4_fill_144, ↓x_X4_fill_145, ↓x_X4_fill_148, ↓x_X4_fill_151, ↓x_X4_fill_154, ↓x_X4_fill_156, ↓x_X4_fill_159, ho, hos, ↓cKR ca, ↓cKR cb, ↓gK_of g3, ↓gK_of g1, ↓cKI ch, c3, z, not_false_eq_true, ↓reduceIte]
            exact r1 c5
          · rw [if_neg c5]
            have c5' : flOk S m.toNat k.toNat i' (nS S m.toNat) = true := by simpa using c5
            obtain ⟨v7, v8, r3⟩ := r2 c5'
            obtain ⟨h', f1, f2, f3, f4⟩ := l_fill2 (vm := m) (vk := k) F hm hk hi c5' (nS S m.toNat) 0 h v7 v8 (by omega) J
            refine ⟨h', ?_, f2.ci, grow_eq ⟨f3, f4⟩⟩
            simp only [↓x_X4_fill_0, ↓x_X4_fill_1, ↓x_X4_fill_2, ↓x_X4_fill_5, ↓x_X4_fill_7, ↓x_X4_fill_8, ↓x_X4_fill_9, ↓x_X4_fill_12, ↓x_X4_fill_14, ↓x_X4_fill_16n, ↓x_X4_fill_16s, ↓x_X4_fill_19, ↓x_X4_fill_21n, ↓x_X4_fill_21s, ↓x_X4_fill_24, ↓x_X4_fill_25, ↓x_X4_fill_26, ↓x_X4_fill_28, ↓x_X4_fill_31, ↓x_X4_fill_34, ↓x_X4_fill_35, ↓x_X4_fill_36, ↓x_X4_fill_39, ↓x_X4_fill_40, ↓x_X4_fill_42, ↓x_X4_fill_43, ↓x_X4_fill_45, ↓x_X4_fill_48, ↓x_X4_fill_51, ↓x_X4_fill_54, ↓x_X4_fill_55, ↓x_X4_fill_56, ↓x_X4_fill_59, ↓x_X4_fill_60, ↓x_X4_fill_61, ↓x_X4_fill_65, ↓x_X4_fill_67, ↓x_X4_fill_70, ↓x_X4_fill_73, ↓x_X4_fill_75, ↓x_X4_fill_76, ↓x_X4_fill_78, ↓x_X4_fill_79, ↓x_X4_fill_82, ↓x_X4_fill_84, ↓x_X4_fill_86, ↓x_X4_fill_89, ↓x_X4_fill_92, ↓x_X4_fill_94, ↓x_X4_fill_95, ↓x_X4_fill_96, ↓x_X4_fill_99, ↓x_X4_fill_101, ↓x_X4_fill_103, ↓x_X4_fill_106, ↓x_X4_fill_109, ↓x_X4_fill_111, ↓x_X4_fill_112, ↓x_X4_fill_115, ↓x_X4_fill_118, ↓x_X4_fill_119, ↓x_X4_fill_121, ↓x_X4_fill_123, ↓x_X4_fill_125, ↓x_X4_fill_128, ↓x_X4_fill_131, ↓x_X4_fill_133, ↓x_X4_fill_135, ↓x_X4_fill_137, ↓x_X4_fill_138, ↓x_X4_fill_140, ↓x_X4_fill_141, ↓x_X4_fill_144, ↓x_X4_fill_145, ↓x_X4_fill_148, ↓x_X4_fill_151, ↓x_X4_fill_154, ↓x_X4_fill_156, ↓x_X4_fill_159, ho, hos, ↓cKR ca, ↓cKR cb, ↓gK_of g3, ↓gK_of g1, ↓cKI ch, c3, z, not_false_eq_true, ↓reduceIte]
            refine r3.trans ?_
            simp only [↓x_X4_fill_0, ↓x_X4_fill_1, ↓x_X4_fill_2, ↓x_X4_fill_5, ↓x_X4_fill_7, ↓x_X4_fill_8, ↓x_X4_fill_9, ↓x_X4_fill_12, ↓x_X4_fill_14, ↓x_X4_fill_16n, ↓x_X4_fill_16s, ↓x_X4_fill_19, ↓x_X4_fill_21n, ↓x_X4_fill_21s, ↓x_X4_fill_24, ↓x_X4_fill_25, ↓x_X4_fill_26, ↓x_X4_fill_28, ↓x_X4_fill_31, ↓x_X4_fill_34, ↓x_X4_fill_35, ↓x_X4_fill_36, ↓x_X4_fill_39, ↓x_X4_fill_40, ↓x_X4_fill_42, ↓x_X4_fill_43, ↓x_X4_fill_45, ↓x_X4_fill_48, ↓x_X4_fill_51, ↓x_X4_fill_54, ↓x_X4_fill_55, ↓x_X4_fill_56, ↓x_X4_fill_59, ↓x_X4_fill_60, ↓x_X4_fill_61, ↓x_X4_fill_65, ↓x_X4_fill_67, ↓x_X4_fill_70, ↓x_X4_fill_73, ↓x_X4_fill_75, ↓x_X4_fill_76, ↓x_X4_fill_78, ↓x_X4_fill_79, ↓x_X4_fill_82, ↓x_X4_fill_84, ↓x_X4_fill_86, ↓x_X4_fill_89, ↓x_X4_fill_92, ↓x_X4_fill_94, ↓x_X4_fill_95, ↓x_X4_fill_96, ↓x_X4_fill_99, ↓x_X4_fill_101, ↓x_X4_fill_103, ↓x_X4_fill_106, ↓x_X4_fill_109, ↓x_X4_fill_111, ↓x_X4_fill_112, ↓x_X4_fill_115, ↓x_X4_fill_118, ↓x_X4_fill_119, ↓x_X4_fill_123, ↓x_X4_fill_125, ↓x_X4_fill_128, ↓x_X4_fill_131, ↓x_X4_fill_133, ↓x_X4_fill_135, ↓x_X4_fill_137, ↓x_X4_fill_138, ↓x_X4_fill_140, ↓x_X4_fill_141, ↓x_X4_fill_144, ↓x_X4_fill_145, ↓x_X4_fill_148, ↓x_X4_fill_151, ↓x_X4_fill_154, ↓x_X4_fill_156, ↓x_X4_fill_159]
            rw [← en]
            exact f1
        · rw [if_neg (by omega)] at ch
          rw [if_pos c4]
          refine ⟨_, ?_, K_fd C0 2⟩
          simp only [↓x_X4_fill_0, ↓x_X4_fill_1, ↓x_X4_fill_2, ↓x_X4_fill_5, ↓x_X4_fill_7, ↓x_X4_fill_8, ↓x_X4_fill_9, ↓x_X4_fill_12, ↓x_X4_fill_14, ↓x_X4_fill_16n, ↓x_X4_fill_16s, ↓x_X4_fill_19, ↓x_X4_fill_21n, ↓x_X4_fill_21s, ↓x_X4_fill_24, ↓x_X4_fill_25, ↓x_X4_fill_26, ↓x_X4_fill_28, ↓x_X4_fill_31, ↓x_X4_fill_34, ↓x_X4_fill_35, ↓x_X4_fill_36, ↓x_X4_fill_39, ↓x_X4_fill_40, ↓x_X4_fill_42, ↓x_X4_fill_43, ↓x_X4_fill_45, ↓x_X4_fill_48, ↓x_X4_fill_51, ↓x_X4_fill_54, ↓x_X4_fill_55, ↓x_X4_fill_56, ↓x_X4_fill_59, ↓x_X4_fill_60, ↓x_X4_fill_61, ↓x_X4_fill_65, ↓x_X4_fill_67, ↓x_X4_fill_70, ↓x_X4_fill_73, ↓x_X4_fill_75, ↓x_X4_fill_76, ↓x_X4_fill_78, ↓x_X4_fill_79, ↓x_X4_fill_82, ↓x_X4_fill_84, ↓x_X4_fill_86, ↓x_X4_fill_89, ↓x_X4_fill_92, ↓x_X4_fill_94, ↓x_X4_fill_95, ↓x_X4_fill_96, ↓x_X4_fill_99, ↓x_X4_fill_101, ↓x_X4_fill_103, ↓x_X4_fill_106, ↓x_X4_fill_109, ↓x_X4_fill_111, ↓x_X4_fill_112, ↓x_X4_fill_115, ↓x_X4_fill_118, ↓x_X4_fill_119, ↓x_X4_fill_121, ↓x_X4_fill_123, ↓x_X4_fill_125, ↓x_X4_fill_128, ↓x_X4_fill_131, ↓x_X4_fill_133, ↓x_X4_fill_135, ↓x_X4_fill_137, ↓x_X4_fill_138, ↓x_X4_fill_140, ↓x_X4_fill_141, ↓x_X4_fill_144, ↓x_X4_fill_145, ↓x_X4_fill_148, ↓x_X4_fill_151, ↓x_X4_fill_154, ↓x_X4_fill_156, ↓x_X4_fill_159, ho, hos, ↓cKR ca, ↓cKR cb, ↓gK_of g3, ↓gK_of g1, ↓cKI ch, ↓cKI cf2, c3, not_true_eq_false, ↓reduceIte]
      · rw [if_pos c3]
        refine ⟨_, ?_, K_fd C0 1⟩
        simp only [↓x_X4_fill_0, ↓x_X4_fill_1, ↓x_X4_fill_2, ↓x_X4_fill_5, ↓x_X4_fill_7, ↓x_X4_fill_8, ↓x_X4_fill_9, ↓x_X4_fill_12, ↓x_X4_fill_14, ↓x_X4_fill_16n, ↓x_X4_fill_16s, ↓x_X4_fill_19, ↓x_X4_fill_21n, ↓x_X4_fill_21s, ↓x_X4_fill_24, ↓x_X4_fill_25, ↓x_X4_fill_26, ↓x_X4_fill_28, ↓x_X4_fill_31, ↓x_X4_fill_34, ↓x_X4_fill_35, ↓x_X4_fill_36, ↓x_X4_fill_39, ↓x_X4_fill_40, ↓x_X4_fill_42, ↓x_X4_fill_43, ↓x_X4_fill_45, ↓x_X4_fill_48, ↓x_X4_fill_51, ↓x_X4_fill_54, ↓x_X4_fill_55, ↓x_X4_fill_56, ↓x_X4_fill_59, ↓x_X4_fill_60, ↓x_X4_fill_61, ↓x_X4_fill_65, ↓x_X4_fill_67, ↓x_X4_fill_70, ↓x_X4_fill_73, ↓x_X4_fill_75, ↓x_X4_fill_76, ↓x_X4_fill_78, ↓x_X4_fill_79, ↓x_X4_fill_82, ↓x_X4_fill_84, ↓x_X4_fill_86, ↓x_X4_fill_89, ↓x_X4_fill_92, ↓x_X4_fill_94, ↓x_X4_fill_95, ↓x_X4_fill_96, ↓x_X4_fill_99, ↓x_X4_fill_101, ↓x_X4_fill_103, ↓x_X4_fill_106, ↓x_X4_fill_109, ↓x_X4_fill_111, ↓x_X4_fill_112, ↓x_X4_fill_115, ↓x_X4_fill_118, ↓x_X4_fill_119, ↓x_X4_fill_121, ↓x_X4_fill_123, ↓x_X4_fill_125, ↓x_X4_fill_128, ↓x_X4_fill_131, ↓x_X4_fill_133, ↓x_X4_fill_135, ↓x_X4_fill_137, ↓x_X4_fill_138, ↓x_X4_fill_140, ↓x_X4_fill_141, ↓x_X4_fill_144, ↓x_X4_fill_145, ↓x_X4_fill_148, ↓x_X4_fill_151, ↓x_X4_fill_154, ↓x_X4_fill_156, ↓x_X4_fill_159, ho, ↓cKR ca, ↓cKR cb, ↓gK_of g3, ↓cKI cf1, c3, ↓reduceIte]
    · rw [if_neg c2] at cb
      rw [if_pos (Or.inr c2)]
      refine ⟨h, ?_, C0, grow_rf⟩
      simp only [↓x_X4_fill_0, ↓x_X4_fill_1, ↓x_X4_fill_2, ↓x_X4_fill_5, ↓x_X4_fill_7, ↓x_X4_fill_8, ↓x_X4_fill_9, ↓x_X4_fill_12, ↓x_X4_fill_14, ↓x_X4_fill_16n, ↓x_X4_fill_16s, ↓x_X4_fill_19, ↓x_X4_fill_21n, ↓x_X4_fill_21s, ↓x_X4_fill_24, ↓x_X4_fill_25, ↓x_X4_fill_26, ↓x_X4_fill_28, ↓x_X4_fill_31, ↓x_X4_fill_34, ↓x_X4_fill_35, ↓x_X4_fill_36, ↓x_X4_fill_39, ↓x_X4_fill_40, ↓x_X4_fill_42, ↓x_X4_fill_43, ↓x_X4_fill_45, ↓x_X4_fill_48, ↓x_X4_fill_51, ↓x_X4_fill_54, ↓x_X4_fill_55, ↓x_X4_fill_56, ↓x_X4_fill_59, ↓x_X4_fill_60, ↓x_X4_fill_61, ↓x_X4_fill_65, ↓x_X4_fill_67, ↓x_X4_fill_70, ↓x_X4_fill_73, ↓x_X4_fill_75, ↓x_X4_fill_76, ↓x_X4_fill_78, ↓x_X4_fill_79, ↓x_X4_fill_82, ↓x_X4_fill_84, ↓x_X4_fill_86, ↓x_X4_fill_89, ↓x_X4_fill_92, ↓x_X4_fill_94, ↓x_X4_fill_95, ↓x_X4_fill_96, ↓x_X4_fill_99, ↓x_X4_fill_101, ↓x_X4_fill_103, ↓x_X4_fill_106, ↓x_X4_fill_109, ↓x_X4_fill_111, ↓x_X4_fill_112, ↓x_X4_fill_115, ↓x_X4_fill_118, ↓x_X4_fill_119, ↓x_X4_fill_121, ↓x_X4_fill_123, ↓x_X4_fill_125, ↓x_X4_fill_128, ↓x_X4_fill_131, ↓x_X4_fill_133, ↓x_X4_fill_135, ↓x_X4_fill_137, ↓x_X4_fill_138, ↓x_X4_fill_140, ↓x_X4_fill_141, ↓x_X4_fill_144, ↓x_X4_fill_145, ↓x_X4_fill_148, ↓x_X4_fill_151, ↓x_X4_fill_154, ↓x_X4_fill_156, ↓x_X4_fill_159, ho, ↓cKR ca, ↓cKR cb]
  · rw [if_neg c1] at ca
    rw [if_pos (Or.inl c1)]
    refine ⟨h, ?_, C0, grow_rf⟩
    simp only [↓x_X4_fill_0, ↓x_X4_fill_1, ↓x_X4_fill_2, ↓x_X4_fill_5, ↓x_X4_fill_7, ↓x_X4_fill_8, ↓x_X4_fill_9, ↓x_X4_fill_12, ↓x_X4_fill_14, ↓x_X4_fill_16n, ↓x_X4_fill_16s, ↓x_X4_fill_19, ↓x_X4_fill_21n, ↓x_X4_fill_21s, ↓x_X4_fill_24, ↓x_X4_fill_25, ↓x_X4_fill_26, ↓x_X4_fill_28, ↓x_X4_fill_31, ↓x_X4_fill_34, ↓x_X4_fill_35, ↓x_X4_fill_36, ↓x_X4_fill_39, ↓x_X4_fill_40, ↓x_X4_fill_42, ↓x_X4_fill_43, ↓x_X4_fill_45, ↓x_X4_fill_48, ↓x_X4_fill_51, ↓x_X4_fill_54, ↓x_X4_fill_55, ↓x_X4_fill_56, ↓x_X4_fill_59, ↓x_X4_fill_60, ↓x_X4_fill_61, ↓x_X4_fill_65, ↓x_X4_fill_67, ↓x_X4_fill_70, ↓x_X4_fill_73, ↓x_X4_fill_75, ↓x_X4_fill_76, ↓x_X4_fill_78, ↓x_X4_fill_79, ↓x_X4_fill_82, ↓x_X4_fill_84, ↓x_X4_fill_86, ↓x_X4_fill_89, ↓x_X4_fill_92, ↓x_X4_fill_94, ↓x_X4_fill_95, ↓x_X4_fill_96, ↓x_X4_fill_99, ↓x_X4_fill_101, ↓x_X4_fill_103, ↓x_X4_fill_106, ↓x_X4_fill_109, ↓x_X4_fill_111, ↓x_X4_fill_112, ↓x_X4_fill_115, ↓x_X4_fill_118, ↓x_X4_fill_119, ↓x_X4_fill_121, ↓x_X4_fill_123, ↓x_X4_fill_125, ↓x_X4_fill_128, ↓x_X4_fill_131, ↓x_X4_fill_133, ↓x_X4_fill_135, ↓x_X4_fill_137, ↓x_X4_fill_138, ↓x_X4_fill_140, ↓x_X4_fill_141, ↓x_X4_fill_144, ↓x_X4_fill_145, ↓x_X4_fill_148, ↓x_X4_fill_151, ↓x_X4_fill_154, ↓x_X4_fill_156, ↓x_X4_fill_159, ho, ↓cKR ca, ↓cKR cb]
