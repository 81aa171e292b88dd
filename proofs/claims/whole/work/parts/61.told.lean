/-! ===== run, step, worked, paid, fail, asked, count, finding, findings, share ===== -/
noncomputable def rnK (S : SS) (k b : Nat) : SS := if k < 200 then ups (ups S 7 k 0 0 (b : Int)) 0 11 0 0 ((k + 1 : Nat) : Int) else S
noncomputable def rnS : Nat → Nat → SS → Int → Int × SS
  | 0, _, S, z => (z, S)
  | d + 1, k, S, z => rnS d (k + 1) (wkS (rnK S k (bsN S (mS S))) (bsN S (mS S))) (w32 (z + S 2 (bsN S (mS S)) (stS S (bsN S (mS S))) 0))
noncomputable def o_run (n : Int) (S : SS) : Int × SS := if n < 0 ∨ 500 < n then (-1000000, S) else if S 0 6 0 0 = 0 then (-1000004, S) else rnS n.toNat 0 (ups S 0 11 0 0 0) 0
theorem rnK_o {S : SS} {k b t a b' c : Nat} (h : t ≠ 7) (h2 : t ≠ 0) : rnK S k b t a b' c = S t a b' c := by
  unfold rnK
  split
  · rw [ups_t h2, ups_t h]
  · rfl
theorem rnK_0 {S : SS} {k b a b' c : Nat} (h : a ≠ 11) : rnK S k b 0 a b' c = S 0 a b' c := by
  unfold rnK
  split
  · rw [ups_a h, ups_t (by decide)]
  · rfl
theorem WF.rk {S : SS} (F : WF S) (k b : Nat) : WF (rnK S k b) := by
  unfold rnK
  split
  · exact (F.t5 (by decide) _).kept ⟨by omega, by omega⟩
  · exact F
theorem wkS_m (S : SS) (m : Nat) : mS (wkS S m) = mS S := by
  unfold mS wkS
  rw [ups_a (by decide), ups_t (by decide), ups_t (by decide), ups_a (by decide)]
theorem l_run {n : Int} (hn : 0 ≤ n ∧ n ≤ 500) : ∀ (d k : Nat) (S : SS) (z : Int) (h : AH) (v4 : AV), (k : Int) + d = n → WF S → 1 ≤ mS S → CI S h →
    ∃ h', X mX4_run 33 [aR (some 0), aI n, aI z, aI k, v4] [] h = some (some (aI (rnS d k S z).1), h') ∧ CI (rnS d k S z).2 h' ∧ L0 h h' := by
  intro d
  induction d with
  | zero =>
    intro k S z h v4 hd F hm C
    have n1 : n ≤ (k : Int) := by omega
    refine ⟨h, ?_, C, L0.rf⟩
    rw [x_X4_run_33]
    simp only [↓x_X4_run_0, ↓x_X4_run_1, ↓x_X4_run_4, ↓x_X4_run_5, ↓x_X4_run_8, ↓x_X4_run_11, ↓x_X4_run_13, ↓x_X4_run_14, ↓x_X4_run_15, ↓x_X4_run_18, ↓x_X4_run_21, ↓x_X4_run_23, ↓x_X4_run_24, ↓x_X4_run_25, ↓x_X4_run_26, ↓x_X4_run_29, ↓x_X4_run_30, ↓x_X4_run_31, ↓x_X4_run_32, ↓x_X4_run_34, ↓x_X4_run_35, ↓x_X4_run_38, ↓x_X4_run_39, ↓x_X4_run_42, ↓x_X4_run_44, ↓x_X4_run_45, ↓x_X4_run_46, ↓x_X4_run_49, ↓x_X4_run_50, ↓x_X4_run_53, ↓x_X4_run_54, ↓x_X4_run_57, ↓x_X4_run_58, ↓x_X4_run_60, ↓x_X4_run_61, ↓x_X4_run_62, ↓x_X4_run_63, ↓x_X4_run_64, ↓x_X4_run_65, ↓x_X4_run_68, ↓x_X4_run_69, ↓x_X4_run_70, ↓x_X4_run_71, ↓x_X4_run_73, ↓x_X4_run_76, ↓x_X4_run_79, ↓x_X4_run_80, ↓x_X4_run_81, ↓x_X4_run_84, ↓x_X4_run_87, ↓x_X4_run_88, n1, ↓reduceIte]
    rfl
  | succ d ih =>
    intro k S z h v4 hd F hm C
    obtain ⟨G, K, mb, sb, own, P⟩ := C
    have n3 : ¬ n ≤ (k : Int) := by omega
    have e5 : w32 ((k : Int) + 1) = ((k + 1 : Nat) : Int) := by rw [w32_in] <;> omega
    have ho : isO h 4 0 = true := isO_rd G.1.1
    have hb := bsN_b S (mS S) hm
    obtain ⟨h1, a1, a2, a3⟩ := c_bestMachine F (⟨G, K, P⟩ : CJ S h mb sb own)
    have eb : (o_best S).1 = (bsN S (mS S) : Nat) := if_neg (by omega)
    rw [eb] at a1
    have g5 := a2.1.1.2.2.2.2.2
    have l10 := a2.1.2.2.2.1.2.2.2
    have ho1 : isO h1 4 0 = true := isO_rd a2.1.1.1
    have em : ((mS S : Nat) : Int) = S 0 6 0 0 := by have := F.1.1; unfold mS; omega
    generalize hbb : bsN S (mS S) = b at *
    have Fk := F.rk k b
    have hmk : b < mS (rnK S k b) := by unfold mS; rw [rnK_0 (by decide)]; exact hb
    have e1 : stS (rnK S k b) b = stS S b := by unfold stS; rw [rnK_o (by decide) (by decide)]
    have e2 : rnK S k b 2 b (stS (rnK S k b) b) 0 = S 2 b (stS S b) 0 := by rw [e1, rnK_o (by decide) (by decide)]
    have ern : rnS (d + 1) k S z = rnS d (k + 1) (wkS (rnK S k b) b) (w32 (z + S 2 b (stS S b) 0)) := by rw [rnS, hbb]
    rw [ern]
    have fin : ∀ h2, CJ (rnK S k b) h2 mb sb own → L0 h1 h2 → ∃ h', X mX4_run 68 [aR (some 0), aI n, aI z, aI k, aI b] [] h2 = some (some (aI (rnS d (k + 1) (wkS (rnK S k b) b) (w32 (z + S 2 b (stS S b) 0))).1), h') ∧ CI (rnS d (k + 1) (wkS (rnK S k b) b) (w32 (z + S 2 b (stS S b) 0))).2 h' ∧ L0 h h' := by
      intro h2 J2 l2
      have ca := c_machineAt Fk J2.1 J2.2.2 (b : Int)
      rw [if_pos ⟨by omega, by unfold mS at hmk; omega⟩, Int.toNat_natCast] at ca
      obtain ⟨h3, b1, b2, b3⟩ := c_workOnce Fk J2 hmk
      rw [e2] at b1
      have ho2 : isO h2 4 0 = true := isO_rd J2.1.1.1
      obtain ⟨h', c1, c2, c3⟩ := ih (k + 1) (wkS (rnK S k b) b) (w32 (z + S 2 b (stS S b) 0)) h3 (aI b) (by omega) (Fk.wk hmk) (by rw [wkS_m]; omega) b2.ci
      refine ⟨h', ?_, c2, ((a3.tr l2).tr b3).tr c3⟩
      rw [← c1]
      simp only [↓x_X4_run_0, ↓x_X4_run_1, ↓x_X4_run_4, ↓x_X4_run_5, ↓x_X4_run_8, ↓x_X4_run_11, ↓x_X4_run_13, ↓x_X4_run_14, ↓x_X4_run_15, ↓x_X4_run_18, ↓x_X4_run_21, ↓x_X4_run_23, ↓x_X4_run_24, ↓x_X4_run_25, ↓x_X4_run_26, ↓x_X4_run_29, ↓x_X4_run_30, ↓x_X4_run_31, ↓x_X4_run_32, ↓x_X4_run_34, ↓x_X4_run_35, ↓x_X4_run_38, ↓x_X4_run_39, ↓x_X4_run_42, ↓x_X4_run_44, ↓x_X4_run_45, ↓x_X4_run_46, ↓x_X4_run_49, ↓x_X4_run_50, ↓x_X4_run_53, ↓x_X4_run_54, ↓x_X4_run_57, ↓x_X4_run_58, ↓x_X4_run_60, ↓x_X4_run_61, ↓x_X4_run_62, ↓x_X4_run_63, ↓x_X4_run_64, ↓x_X4_run_65, ↓x_X4_run_68, ↓x_X4_run_69, ↓x_X4_run_70, ↓x_X4_run_71, ↓x_X4_run_73, ↓x_X4_run_76, ↓x_X4_run_79, ↓x_X4_run_80, ↓x_X4_run_81, ↓x_X4_run_84, ↓x_X4_run_87, ↓x_X4_run_88, ho2, ↓cKR ca, ↓cKI b1, e5]
    by_cases c : k < 200
    · have ek : rnK S k b = ups (ups S 7 k 0 0 (b : Int)) 0 11 0 0 ((k + 1 : Nat) : Int) := if_pos c
      have J2 := (a2.wK (k := k) (b : Int)).wI (k := 11) (by decide) ((k + 1 : Nat) : Int)
      rw [← ek] at J2
      obtain ⟨h', f1, f2, f3⟩ := fin _ J2 ⟨by rw [wr_len, wr_len], by rw [wr_slt, wr_slt]⟩
      refine ⟨h', ?_, f2, f3⟩
      have n4 : ¬ ((200 : Nat) : Int) ≤ (k : Int) := by omega
      have n5 : (0 : Int) ≤ (k : Int) := by omega
      have qk := a2.1.2.2.2.2.2.1 k c
      have q11 : rd (wr h1 10 10 k (aI b)) 4 0 11 = some (aI (S 0 11 0 0)) := by rw [rd_wn (Or.inl (by decide))]; exact a2.1.2.1 11 (by decide) (by decide)
      rw [← f1, x_X4_run_33]
      simp only [↓x_X4_run_0, ↓x_X4_run_1, ↓x_X4_run_4, ↓x_X4_run_5, ↓x_X4_run_8, ↓x_X4_run_11, ↓x_X4_run_13, ↓x_X4_run_14, ↓x_X4_run_15, ↓x_X4_run_18, ↓x_X4_run_21, ↓x_X4_run_23, ↓x_X4_run_24, ↓x_X4_run_25, ↓x_X4_run_26, ↓x_X4_run_29, ↓x_X4_run_30, ↓x_X4_run_31, ↓x_X4_run_32, ↓x_X4_run_34, ↓x_X4_run_35, ↓x_X4_run_38, ↓x_X4_run_39, ↓x_X4_run_42, ↓x_X4_run_44, ↓x_X4_run_45, ↓x_X4_run_46, ↓x_X4_run_49, ↓x_X4_run_50, ↓x_X4_run_53, ↓x_X4_run_54, ↓x_X4_run_57, ↓x_X4_run_58, ↓x_X4_run_60, ↓x_X4_run_61, ↓x_X4_run_62, ↓x_X4_run_63, ↓x_X4_run_64, ↓x_X4_run_65, ↓x_X4_run_69, ↓x_X4_run_70, ↓x_X4_run_71, ↓x_X4_run_73, ↓x_X4_run_76, ↓x_X4_run_79, ↓x_X4_run_80, ↓x_X4_run_81, ↓x_X4_run_84, ↓x_X4_run_87, ↓x_X4_run_88, ho, ↓cKI a1, ↓gK_of g5, ↓gL_of l10, n3, n4, n5, Int.toNat_natCast, pK_of qk, e5, pK_of q11, ↓reduceIte]
    · have ek : rnK S k b = S := if_neg c
      have J2 := a2
      rw [← ek] at J2
      obtain ⟨h', f1, f2, f3⟩ := fin _ J2 L0.rf
      refine ⟨h', ?_, f2, f3⟩
      have n4 : ((200 : Nat) : Int) ≤ (k : Int) := by omega
      rw [← f1, x_X4_run_33]
      simp only [↓x_X4_run_0, ↓x_X4_run_1, ↓x_X4_run_4, ↓x_X4_run_5, ↓x_X4_run_8, ↓x_X4_run_11, ↓x_X4_run_13, ↓x_X4_run_14, ↓x_X4_run_15, ↓x_X4_run_18, ↓x_X4_run_21, ↓x_X4_run_23, ↓x_X4_run_24, ↓x_X4_run_25, ↓x_X4_run_26, ↓x_X4_run_29, ↓x_X4_run_30, ↓x_X4_run_31, ↓x_X4_run_32, ↓x_X4_run_34, ↓x_X4_run_35, ↓x_X4_run_38, ↓x_X4_run_39, ↓x_X4_run_42, ↓x_X4_run_44, ↓x_X4_run_45, ↓x_X4_run_46, ↓x_X4_run_49, ↓x_X4_run_50, ↓x_X4_run_53, ↓x_X4_run_54, ↓x_X4_run_57, ↓x_X4_run_58, ↓x_X4_run_60, ↓x_X4_run_61, ↓x_X4_run_62, ↓x_X4_run_63, ↓x_X4_run_64, ↓x_X4_run_65, ↓x_X4_run_69, ↓x_X4_run_70, ↓x_X4_run_71, ↓x_X4_run_73, ↓x_X4_run_76, ↓x_X4_run_79, ↓x_X4_run_80, ↓x_X4_run_81, ↓x_X4_run_84, ↓x_X4_run_87, ↓x_X4_run_88, ho, ↓cKI a1, ↓gK_of g5, ↓gL_of l10, n3, n4, ↓reduceIte]
theorem CK_run {S : SS} (F : WF S) (n : Int) : CK mX4_run [aI n] aI S (o_run n S) := by
  intro h C
  have q6 := C.1.2.1 6 (by decide) (by decide)
  have q11 := C.1.2.1 11 (by decide) (by decide)
  have f6 := F.1.1
  unfold o_run
  rw [e_X4_run]
  by_cases c : n < 0 ∨ 500 < n
  · rw [if_pos c]
    refine ⟨h, ?_, C, grow_rf⟩
    by_cases c1 : n < 0
    · simp only [↓x_X4_run_0, ↓x_X4_run_1, ↓x_X4_run_4, ↓x_X4_run_5, ↓x_X4_run_8, ↓x_X4_run_11, ↓x_X4_run_13, ↓x_X4_run_14, ↓x_X4_run_15, ↓x_X4_run_18, ↓x_X4_run_21, ↓x_X4_run_23, ↓x_X4_run_24, ↓x_X4_run_25, ↓x_X4_run_26, ↓x_X4_run_29, ↓x_X4_run_30, ↓x_X4_run_31, ↓x_X4_run_32, ↓x_X4_run_34, ↓x_X4_run_35, ↓x_X4_run_38, ↓x_X4_run_39, ↓x_X4_run_42, ↓x_X4_run_44, ↓x_X4_run_45, ↓x_X4_run_46, ↓x_X4_run_49, ↓x_X4_run_50, ↓x_X4_run_53, ↓x_X4_run_54, ↓x_X4_run_57, ↓x_X4_run_58, ↓x_X4_run_60, ↓x_X4_run_61, ↓x_X4_run_62, ↓x_X4_run_63, ↓x_X4_run_64, ↓x_X4_run_65, ↓x_X4_run_68, ↓x_X4_run_69, ↓x_X4_run_70, ↓x_X4_run_71, ↓x_X4_run_73, ↓x_X4_run_76, ↓x_X4_run_79, ↓x_X4_run_80, ↓x_X4_run_81, ↓x_X4_run_84, ↓x_X4_run_87, ↓x_X4_run_88, c1, ↓reduceIte]
    · have c2 : ¬ n ≤ 500 := by omega
      simp only [↓x_X4_run_0, ↓x_X4_run_1, ↓x_X4_run_4, ↓x_X4_run_5, ↓x_X4_run_8, ↓x_X4_run_11, ↓x_X4_run_13, ↓x_X4_run_14, ↓x_X4_run_15, ↓x_X4_run_18, ↓x_X4_run_21, ↓x_X4_run_23, ↓x_X4_run_24, ↓x_X4_run_25, ↓x_X4_run_26, ↓x_X4_run_29, ↓x_X4_run_30, ↓x_X4_run_31, ↓x_X4_run_32, ↓x_X4_run_34, ↓x_X4_run_35, ↓x_X4_run_38, ↓x_X4_run_39, ↓x_X4_run_42, ↓x_X4_run_44, ↓x_X4_run_45, ↓x_X4_run_46, ↓x_X4_run_49, ↓x_X4_run_50, ↓x_X4_run_53, ↓x_X4_run_54, ↓x_X4_run_57, ↓x_X4_run_58, ↓x_X4_run_60, ↓x_X4_run_61, ↓x_X4_run_62, ↓x_X4_run_63, ↓x_X4_run_64, ↓x_X4_run_65, ↓x_X4_run_68, ↓x_X4_run_69, ↓x_X4_run_70, ↓x_X4_run_71, ↓x_X4_run_73, ↓x_X4_run_76, ↓x_X4_run_79, ↓x_X4_run_80, ↓x_X4_run_81, ↓x_X4_run_84, ↓x_X4_run_87, ↓x_X4_run_88, c1, c2, ↓reduceIte]
  · rw [if_neg c]
    have c1 : ¬ n < 0 := by omega
    have c2 : n ≤ 500 := by omega
    by_cases c3 : S 0 6 0 0 = 0
    · rw [if_pos c3]
      refine ⟨h, ?_, C, grow_rf⟩
      simp only [↓x_X4_run_0, ↓x_X4_run_1, ↓x_X4_run_4, ↓x_X4_run_5, ↓x_X4_run_8, ↓x_X4_run_11, ↓x_X4_run_13, ↓x_X4_run_14, ↓x_X4_run_15, ↓x_X4_run_18, ↓x_X4_run_21, ↓x_X4_run_23, ↓x_X4_run_24, ↓x_X4_run_25, ↓x_X4_run_26, ↓x_X4_run_29, ↓x_X4_run_30, ↓x_X4_run_31, ↓x_X4_run_32, ↓x_X4_run_34, ↓x_X4_run_35, ↓x_X4_run_38, ↓x_X4_run_39, ↓x_X4_run_42, ↓x_X4_run_44, ↓x_X4_run_45, ↓x_X4_run_46, ↓x_X4_run_49, ↓x_X4_run_50, ↓x_X4_run_53, ↓x_X4_run_54, ↓x_X4_run_57, ↓x_X4_run_58, ↓x_X4_run_60, ↓x_X4_run_61, ↓x_X4_run_62, ↓x_X4_run_63, ↓x_X4_run_64, ↓x_X4_run_65, ↓x_X4_run_68, ↓x_X4_run_69, ↓x_X4_run_70, ↓x_X4_run_71, ↓x_X4_run_73, ↓x_X4_run_76, ↓x_X4_run_79, ↓x_X4_run_80, ↓x_X4_run_81, ↓x_X4_run_84, ↓x_X4_run_87, ↓x_X4_run_88, ↓gK_of q6, c1, c2, c3, not_true_eq_false, ↓reduceIte]
    · rw [if_neg c3]
      obtain ⟨h', a1, a2, a3⟩ := l_run (n := n) ⟨by omega, c2⟩ n.toNat 0 (ups S 0 11 0 0 0) 0 _ aU (by omega) (F.kept (by decide)) (by unfold mS; rw [ups_a (by decide)]; omega) (C.wI (k := 11) (by decide) 0)
      refine ⟨h', ?_, a2, grow_eq ⟨by rw [a3.1, wr_len], by rw [a3.2, wr_slt]⟩⟩
      simp only [↓x_X4_run_0, ↓x_X4_run_1, ↓x_X4_run_4, ↓x_X4_run_5, ↓x_X4_run_8, ↓x_X4_run_11, ↓x_X4_run_13, ↓x_X4_run_14, ↓x_X4_run_15, ↓x_X4_run_18, ↓x_X4_run_21, ↓x_X4_run_23, ↓x_X4_run_24, ↓x_X4_run_25, ↓x_X4_run_26, ↓x_X4_run_29, ↓x_X4_run_30, ↓x_X4_run_31, ↓x_X4_run_32, ↓x_X4_run_34, ↓x_X4_run_35, ↓x_X4_run_38, ↓x_X4_run_39, ↓x_X4_run_42, ↓x_X4_run_44, ↓x_X4_run_45, ↓x_X4_run_46, ↓x_X4_run_49, ↓x_X4_run_50, ↓x_X4_run_53, ↓x_X4_run_54, ↓x_X4_run_57, ↓x_X4_run_58, ↓x_X4_run_60, ↓x_X4_run_61, ↓x_X4_run_62, ↓x_X4_run_63, ↓x_X4_run_64, ↓x_X4_run_65, ↓x_X4_run_68, ↓x_X4_run_69, ↓x_X4_run_70, ↓x_X4_run_71, ↓x_X4_run_73, ↓x_X4_run_76, ↓x_X4_run_79, ↓x_X4_run_80, ↓x_X4_run_81, ↓x_X4_run_84, ↓x_X4_run_87, ↓x_X4_run_88, ↓gK_of q6, ↓pK_of q11, c1, c2, c3, not_false_eq_true, ↓reduceIte]
      exact a1
def o_step (i : Int) (S : SS) : Int × SS := (if i < 0 ∨ S 0 11 0 0 ≤ i then -9 else S 7 i.toNat 0 0, S)
theorem CK_step {S : SS} (F : WF S) (i : Int) : CK mX4_step [aI i] aI S (o_step i S) := by
  intro h C
  have q11 := C.1.2.1 11 (by decide) (by decide)
  have f11 := F.1.2.2.2.2
  have g5 := C.1.1.2.2.2.2.2
  have l10 := C.1.2.2.2.1.2.2.2
  unfold o_step
  refine ⟨h, ?_, C, grow_rf⟩
  rw [e_X4_step]
  by_cases c : i < 0
  · rw [if_pos (Or.inl c)]
    simp only [↓x_X4_step_0, ↓x_X4_step_1, ↓x_X4_step_4, ↓x_X4_step_5, ↓x_X4_step_6, ↓x_X4_step_9, ↓x_X4_step_12, ↓x_X4_step_13, ↓x_X4_step_14, ↓x_X4_step_17, ↓x_X4_step_18, ↓x_X4_step_21, ↓x_X4_step_23, ↓x_X4_step_24, ↓x_X4_step_25, ↓x_X4_step_28, ↓x_X4_step_29, ↓x_X4_step_30, c, ↓reduceIte]
  · by_cases c2 : S 0 11 0 0 ≤ i
    · rw [if_pos (Or.inr c2)]
      simp only [↓x_X4_step_0, ↓x_X4_step_1, ↓x_X4_step_4, ↓x_X4_step_5, ↓x_X4_step_6, ↓x_X4_step_9, ↓x_X4_step_12, ↓x_X4_step_13, ↓x_X4_step_14, ↓x_X4_step_17, ↓x_X4_step_18, ↓x_X4_step_21, ↓x_X4_step_23, ↓x_X4_step_24, ↓x_X4_step_25, ↓x_X4_step_28, ↓x_X4_step_29, ↓x_X4_step_30, ↓gK_of q11, c, c2, ↓reduceIte]
    · rw [if_neg (by omega)]
      obtain ⟨k, rfl⟩ := Int.eq_ofNat_of_zero_le (show 0 ≤ i by omega)
      have qk := C.1.2.2.2.2.2.1 k (by omega)
      have c3 : (k : Int) < ((200 : Nat) : Int) := by omega
      have c4 : (0 : Int) ≤ (k : Int) := by omega
      simp only [↓x_X4_step_0, ↓x_X4_step_1, ↓x_X4_step_4, ↓x_X4_step_5, ↓x_X4_step_6, ↓x_X4_step_9, ↓x_X4_step_12, ↓x_X4_step_13, ↓x_X4_step_14, ↓x_X4_step_17, ↓x_X4_step_18, ↓x_X4_step_21, ↓x_X4_step_23, ↓x_X4_step_24, ↓x_X4_step_25, ↓x_X4_step_28, ↓x_X4_step_29, ↓x_X4_step_30, ↓gK_of q11, ↓gK_of g5, ↓gL_of l10, c, c2, c3, c4, Int.toNat_natCast, gK_of qk, ↓reduceIte]
def o_worked (m : Int) (S : SS) : Int × SS := (if isM S m then S 1 m.toNat 7 0 else -1, S)
theorem CK_worked {S : SS} (F : WF S) (m : Int) : CK mX4_worked [aI m] aI S (o_worked m S) := by
  intro h C
  have C0 := C
  obtain ⟨G, K, mb, sb, own, P⟩ := C
  have ho : isO h 4 0 = true := isO_rd G.1.1
  have ca := c_machineAt F G P m
  unfold o_worked
  rw [e_X4_worked]
  refine ⟨h, ?_, C0, grow_rf⟩
  by_cases c1 : isM S m
  · rw [if_pos c1] at ca
    rw [if_pos c1]
    have hm : m.toNat < mS S := by unfold mS; omega
    obtain ⟨p1, p2, ⟨M, -, g6, g7, -⟩, p4⟩ := P.1 m.toNat hm
    simp only [↓x_X4_worked_0, ↓x_X4_worked_1, ↓x_X4_worked_2, ↓x_X4_worked_5, ↓x_X4_worked_6, ↓x_X4_worked_7n, ↓x_X4_worked_7s, ↓x_X4_worked_10, ↓x_X4_worked_11, ↓x_X4_worked_14, ↓x_X4_worked_15, ↓x_X4_worked_18, ho, ↓cKR ca, ↓gK_of g7]
  · rw [if_neg c1] at ca
    rw [if_neg c1]
    simp only [↓x_X4_worked_0, ↓x_X4_worked_1, ↓x_X4_worked_2, ↓x_X4_worked_5, ↓x_X4_worked_6, ↓x_X4_worked_7n, ↓x_X4_worked_7s, ↓x_X4_worked_10, ↓x_X4_worked_11, ↓x_X4_worked_14, ↓x_X4_worked_15, ↓x_X4_worked_18, ho, ↓cKR ca]
theorem CK_paid {S : SS} : CK mX4_paid [] aJ S (S 0 14 0 0, S) := by
  intro h C
  have q := C.1.2.2.1 14 (by decide) (by decide)
  refine ⟨h, ?_, C, grow_rf⟩
  rw [e_X4_paid]
  simp only [↓x_X4_paid_0, ↓x_X4_paid_1, ↓x_X4_paid_4, ↓gK_of q]
theorem CK_asked {S : SS} : CK mX4_asked [] aJ S (S 0 13 0 0, S) := by
  intro h C
  have q := C.1.2.2.1 13 (by decide) (by decide)
  refine ⟨h, ?_, C, grow_rf⟩
  rw [e_X4_asked]
  simp only [↓x_X4_asked_0, ↓x_X4_asked_1, ↓x_X4_asked_4, ↓gK_of q]
theorem CK_finding {S : SS} : CK mX4_finding [] aI S (S 0 12 0 0, S) := by
  intro h C
  have q := C.1.2.1 12 (by decide) (by decide)
  refine ⟨h, ?_, C, grow_rf⟩
  rw [e_X4_finding]
  simp only [↓x_X4_finding_0, ↓x_X4_finding_1, ↓x_X4_finding_4, ↓gK_of q]
def o_findings (f : Int) (S : SS) : Int × SS := (if f < 1 ∨ 6 < f then -1 else S 6 f.toNat 0 0, S)
theorem CK_findings {S : SS} (f : Int) : CK mX4_findings [aI f] aI S (o_findings f S) := by
  intro h C
  have g4 := C.1.1.2.2.2.2.1
  have l9 := C.1.2.2.2.1.2.2.1
  unfold o_findings
  refine ⟨h, ?_, C, grow_rf⟩
  rw [e_X4_findings]
  by_cases c : f < 1
  · rw [if_pos (Or.inl c)]
    simp only [↓x_X4_findings_0, ↓x_X4_findings_1, ↓x_X4_findings_2, ↓x_X4_findings_5, ↓x_X4_findings_6, ↓x_X4_findings_8, ↓x_X4_findings_11, ↓x_X4_findings_12, ↓x_X4_findings_13, ↓x_X4_findings_16, ↓x_X4_findings_17, ↓x_X4_findings_20, ↓x_X4_findings_21, ↓x_X4_findings_22, ↓x_X4_findings_23, ↓x_X4_findings_26, ↓x_X4_findings_27, ↓x_X4_findings_28, c, ↓reduceIte]
  · by_cases c2 : 6 < f
    · rw [if_pos (Or.inr c2)]
      simp only [↓x_X4_findings_0, ↓x_X4_findings_1, ↓x_X4_findings_2, ↓x_X4_findings_5, ↓x_X4_findings_6, ↓x_X4_findings_8, ↓x_X4_findings_11, ↓x_X4_findings_12, ↓x_X4_findings_13, ↓x_X4_findings_16, ↓x_X4_findings_17, ↓x_X4_findings_20, ↓x_X4_findings_21, ↓x_X4_findings_22, ↓x_X4_findings_23, ↓x_X4_findings_26, ↓x_X4_findings_27, ↓x_X4_findings_28, c, c2, ↓reduceIte]
    · rw [if_neg (by omega)]
      obtain ⟨k, rfl⟩ := Int.eq_ofNat_of_zero_le (show 0 ≤ f by omega)
      have qk := C.1.2.2.2.2.1 k (by omega)
      have c3 : (k : Int) < ((7 : Nat) : Int) := by omega
      have c4 : (0 : Int) ≤ (k : Int) := by omega
      simp only [↓x_X4_findings_0, ↓x_X4_findings_1, ↓x_X4_findings_2, ↓x_X4_findings_5, ↓x_X4_findings_6, ↓x_X4_findings_8, ↓x_X4_findings_11, ↓x_X4_findings_12, ↓x_X4_findings_13, ↓x_X4_findings_16, ↓x_X4_findings_17, ↓x_X4_findings_20, ↓x_X4_findings_21, ↓x_X4_findings_22, ↓x_X4_findings_23, ↓x_X4_findings_26, ↓x_X4_findings_27, ↓x_X4_findings_28, ↓gK_of g4, ↓gL_of l9, c, c2, c3, c4, Int.toNat_natCast, gK_of qk, ↓reduceIte]
def o_count (k : Int) (S : SS) : Int × SS := (if k = 0 then S 0 6 0 0 else if k = 1 then S 0 7 0 0 else if k = 2 then S 0 8 0 0 else if k = 3 then S 0 9 0 0 else if k = 4 then S 0 10 0 0 else -1, S)
theorem CK_count {S : SS} (k : Int) : CK mX4_count [aI k] aI S (o_count k S) := by
  intro h C
  have q6 := C.1.2.1 6 (by decide) (by decide)
  have q7 := C.1.2.1 7 (by decide) (by decide)
  have q8 := C.1.2.1 8 (by decide) (by decide)
  have q9 := C.1.2.1 9 (by decide) (by decide)
  have q10 := C.1.2.1 10 (by decide) (by decide)
  unfold o_count
  refine ⟨h, ?_, C, grow_rf⟩
  rw [e_X4_count, x_X4_count_0, x_X4_count_1]
  repeat' split
  all_goals simp only [↓x_X4_count_0, ↓x_X4_count_1, ↓x_X4_count_36, ↓x_X4_count_37, ↓x_X4_count_40, ↓x_X4_count_41, ↓x_X4_count_42, ↓x_X4_count_45, ↓x_X4_count_46, ↓x_X4_count_47, ↓x_X4_count_50, ↓x_X4_count_51, ↓x_X4_count_52, ↓x_X4_count_55, ↓x_X4_count_56, ↓x_X4_count_57, ↓x_X4_count_60, ↓x_X4_count_61, ↓x_X4_count_62, ↓gK_of q6, ↓gK_of q7, ↓gK_of q8, ↓gK_of q9, ↓gK_of q10]
def o_fail (m k : Int) (S : SS) : Int × SS := if ¬ isM S m then (-1, S) else if k = 0 then (-3, fdS S 6) else if k = 1 then (2, S) else if k = 2 then (-3, fdS S 2) else (-1, S)
theorem CK_fail {S : SS} (F : WF S) (m k : Int) : CK mX4_fail [aI m, aI k] aI S (o_fail m k S) := by
  intro h C
  have C0 := C
  obtain ⟨G, K, mb, sb, own, P⟩ := C
  have ho : isO h 4 0 = true := isO_rd G.1.1
  have ca := c_machineAt F G P m
  have cf2 := c_fd2 C0
  have cf6 := c_fd6 C0
  unfold o_fail
  rw [e_X4_fail]
  by_cases c1 : isM S m
  · rw [if_pos c1] at ca
    rw [if_neg (not_not_intro c1)]
    by_cases d0 : k = 0
    · rw [if_pos d0]
      refine ⟨_, ?_, K_fd C0 6⟩
      simp only [↓x_X4_fail_0, ↓x_X4_fail_1, ↓x_X4_fail_2, ↓x_X4_fail_5n, ↓x_X4_fail_5s, ↓x_X4_fail_8, ↓x_X4_fail_9, ↓x_X4_fail_10, ↓x_X4_fail_11, ↓x_X4_fail_36, ↓x_X4_fail_37, ↓x_X4_fail_39, ↓x_X4_fail_42, ↓x_X4_fail_43, ↓x_X4_fail_44, ↓x_X4_fail_45, ↓x_X4_fail_46, ↓x_X4_fail_47, ↓x_X4_fail_50, ↓x_X4_fail_51, ↓x_X4_fail_52, ho, ↓cKR ca, ↓cKI cf6, d0, ↓reduceIte]
    · rw [if_neg d0]
      by_cases d1 : k = 1
      · rw [if_pos d1]
        refine ⟨h, ?_, C0, grow_rf⟩
        subst d1
        simp only [↓x_X4_fail_0, ↓x_X4_fail_1, ↓x_X4_fail_2, ↓x_X4_fail_5n, ↓x_X4_fail_5s, ↓x_X4_fail_8, ↓x_X4_fail_9, ↓x_X4_fail_10, ↓x_X4_fail_11, ↓x_X4_fail_36, ↓x_X4_fail_37, ↓x_X4_fail_39, ↓x_X4_fail_42, ↓x_X4_fail_43, ↓x_X4_fail_44, ↓x_X4_fail_45, ↓x_X4_fail_46, ↓x_X4_fail_47, ↓x_X4_fail_50, ↓x_X4_fail_51, ↓x_X4_fail_52, ho, ↓cKR ca, d0, ↓reduceIte]
      · rw [if_neg d1]
        by_cases d2 : k = 2
        · rw [if_pos d2]
          refine ⟨_, ?_, K_fd C0 2⟩
          subst d2
          simp only [↓x_X4_fail_0, ↓x_X4_fail_1, ↓x_X4_fail_2, ↓x_X4_fail_5n, ↓x_X4_fail_5s, ↓x_X4_fail_8, ↓x_X4_fail_9, ↓x_X4_fail_10, ↓x_X4_fail_11, ↓x_X4_fail_36, ↓x_X4_fail_37, ↓x_X4_fail_39, ↓x_X4_fail_42, ↓x_X4_fail_43, ↓x_X4_fail_44, ↓x_X4_fail_45, ↓x_X4_fail_46, ↓x_X4_fail_47, ↓x_X4_fail_50, ↓x_X4_fail_51, ↓x_X4_fail_52, ho, ↓cKR ca, ↓cKI cf2, d0, d1, ↓reduceIte]
        · rw [if_neg d2]
          refine ⟨h, ?_, C0, grow_rf⟩
          simp only [↓x_X4_fail_0, ↓x_X4_fail_1, ↓x_X4_fail_2, ↓x_X4_fail_5n, ↓x_X4_fail_5s, ↓x_X4_fail_8, ↓x_X4_fail_9, ↓x_X4_fail_10, ↓x_X4_fail_11, ↓x_X4_fail_36, ↓x_X4_fail_37, ↓x_X4_fail_39, ↓x_X4_fail_42, ↓x_X4_fail_43, ↓x_X4_fail_44, ↓x_X4_fail_45, ↓x_X4_fail_46, ↓x_X4_fail_47, ↓x_X4_fail_50, ↓x_X4_fail_51, ↓x_X4_fail_52, ho, ↓cKR ca, d0, d1, d2, ↓reduceIte]
  · rw [if_neg c1] at ca
    rw [if_pos c1]
    refine ⟨h, ?_, C0, grow_rf⟩
    simp only [↓x_X4_fail_0, ↓x_X4_fail_1, ↓x_X4_fail_2, ↓x_X4_fail_5n, ↓x_X4_fail_5s, ↓x_X4_fail_8, ↓x_X4_fail_9, ↓x_X4_fail_10, ↓x_X4_fail_11, ↓x_X4_fail_36, ↓x_X4_fail_37, ↓x_X4_fail_39, ↓x_X4_fail_42, ↓x_X4_fail_43, ↓x_X4_fail_44, ↓x_X4_fail_45, ↓x_X4_fail_46, ↓x_X4_fail_47, ↓x_X4_fail_50, ↓x_X4_fail_51, ↓x_X4_fail_52, ho, ↓cKR ca]
