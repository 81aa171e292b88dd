/-! ===== the reference: seed, work, run, step, worked, paid, fail, asked, count, finding, findings ===== -/
theorem CR_seed {S : SS} (v : Int) : CR mX5_seed [aI v] aI S (o_seed v S) := by
  intro h H
  have q := H.1.f 26 rfl
  unfold o_seed
  rw [e_X5_seed]
  by_cases c : v < 0
  · rw [if_pos c]
    have c2 : ¬ 0 ≤ v := by omega
    refine ⟨h, ?_, H, L0.rf⟩
    simp only [↓x_X5_seed_0, ↓x_X5_seed_1, ↓x_X5_seed_4, ↓x_X5_seed_5, ↓x_X5_seed_6, ↓x_X5_seed_7, ↓x_X5_seed_10, ↓x_X5_seed_11, ↓x_X5_seed_12, ↓x_X5_seed_13, ↓x_X5_seed_16, ↓x_X5_seed_17, c2, ↓reduceIte]
  · rw [if_neg c]
    have c2 : 0 ≤ v := by omega
    refine ⟨wr h 5 0 26 (aI v), ?_, H.w (H.1.f26 v) (Or.inr (Or.inr (by decide))) rfl, L0.w⟩
    simp only [↓x_X5_seed_0, ↓x_X5_seed_1, ↓x_X5_seed_4, ↓x_X5_seed_5, ↓x_X5_seed_6, ↓x_X5_seed_7, ↓x_X5_seed_10, ↓x_X5_seed_11, ↓x_X5_seed_12, ↓x_X5_seed_13, ↓x_X5_seed_16, ↓x_X5_seed_17, c2, ↓gK_of q, ↓pK_of q, ↓reduceIte]
theorem CR_work {S : SS} (F : WF S) (m : Int) : CR mX5_work [aI m] aI S (o_work m S) := by
  intro h H
  have ho : isO h 5 0 = true := isO_rd (H.1.f 4 rfl)
  have ca := c_isMachine F H.1 m
  have z : ¬ (1 : Int) = 0 := by decide
  unfold o_work
  rw [e_X5_work]
  by_cases c1 : isM S m
  · rw [if_pos c1] at ca
    rw [if_neg (not_not_intro c1)]
    obtain ⟨hm, em⟩ := isM_n c1
    obtain ⟨h', a1, a2, a3, a4⟩ := c_works F hm H.1
    rw [em] at a1
    have q13 := a2.f 13 rfl
    have q8 := a2.r8 (k := m.toNat) (by rw [wkS_m]; exact hm)
    have e6 : wkS S m.toNat 1 m.toNat 6 0 = (wkG S m.toNat : Nat) := by
      unfold wkS
      rw [ups_t (by decide), ups_b (by decide), ups_s]
    rw [e6] at q8
    have m0 := c1.1
    obtain ⟨r, r1, r2⟩ := H.2
    refine ⟨h', ?_, ⟨a2, r, by rw [a4]; exact r1, r2⟩, a3⟩
    simp only [↓x_X5_work_0, ↓x_X5_work_1, ↓x_X5_work_2, ↓x_X5_work_5, ↓x_X5_work_8, ↓x_X5_work_9, ↓x_X5_work_10, ↓x_X5_work_11, ↓x_X5_work_12, ↓x_X5_work_15, ↓x_X5_work_16, ↓x_X5_work_17, ↓x_X5_work_20, ↓x_X5_work_21, ↓x_X5_work_22, ho, ↓cKI ca, z, ↓cKI a1, ↓gK_of q13, m0, ↓gK_of q8, not_false_eq_true, ↓reduceIte]
  · rw [if_neg c1] at ca
    rw [if_pos c1]
    refine ⟨h, ?_, H, L0.rf⟩
    simp only [↓x_X5_work_0, ↓x_X5_work_1, ↓x_X5_work_2, ↓x_X5_work_5, ↓x_X5_work_8, ↓x_X5_work_9, ↓x_X5_work_10, ↓x_X5_work_11, ↓x_X5_work_12, ↓x_X5_work_15, ↓x_X5_work_16, ↓x_X5_work_17, ↓x_X5_work_20, ↓x_X5_work_21, ↓x_X5_work_22, ho, ↓cKI ca, not_true_eq_false, ↓reduceIte]
theorem lr_run {n : Int} (hn : 0 ≤ n ∧ n ≤ 500) : ∀ (d k : Nat) (S : SS) (z : Int) (h : AH) (v4 : AV), (k : Int) + d = n → WF S → 1 ≤ mS S → RB0 S h → rd h 5 0 28 = some (aI n) → S 0 11 0 0 = (if k < 200 then (k : Int) else 200) →
    ∃ h', X mX5_run 34 [aR (some 0), aI n, aI z, aI k, v4] [] h = some (some (aI (rnS d k S z).1), h') ∧ RI (rnS d k S z).2 h' ∧ L0 h h' := by
  intro d
  induction d with
  | zero =>
    intro k S z h v4 hd F hm H q28 e11
    have n1 : n ≤ (k : Int) := by omega
    refine ⟨h, ?_, ⟨H, n, q28, hn.1, ?_⟩, L0.rf⟩
    · rw [x_X5_run_34]
      simp only [↓x_X5_run_0, ↓x_X5_run_1, ↓x_X5_run_2, ↓x_X5_run_3, ↓x_X5_run_6, ↓x_X5_run_9, ↓x_X5_run_12, ↓x_X5_run_14, ↓x_X5_run_15, ↓x_X5_run_16, ↓x_X5_run_19, ↓x_X5_run_22, ↓x_X5_run_24, ↓x_X5_run_25, ↓x_X5_run_26, ↓x_X5_run_27, ↓x_X5_run_28, ↓x_X5_run_29, ↓x_X5_run_32, ↓x_X5_run_33, ↓x_X5_run_35, ↓x_X5_run_36, ↓x_X5_run_39, ↓x_X5_run_40, ↓x_X5_run_43, ↓x_X5_run_45, ↓x_X5_run_46, ↓x_X5_run_47, ↓x_X5_run_49, ↓x_X5_run_52, ↓x_X5_run_53, ↓x_X5_run_54, ↓x_X5_run_55, ↓x_X5_run_58, ↓x_X5_run_61, ↓x_X5_run_62, ↓x_X5_run_65, ↓x_X5_run_66, ↓x_X5_run_68, ↓x_X5_run_69, ↓x_X5_run_72, ↓x_X5_run_75, ↓x_X5_run_76, n1, ↓reduceIte]
      rfl
    · show S 0 11 0 0 = _
      rw [e11]
      by_cases c : k < 200
      · rw [if_pos c, if_pos (by omega)]; omega
      · rw [if_neg c, if_neg (by omega)]
  | succ d ih =>
    intro k S z h v4 hd F hm H q28 e11
    have n3 : ¬ n ≤ (k : Int) := by omega
    have hk5 : k ≤ 1000 := by omega
    have k0 : (0 : Int) ≤ (k : Int) := Int.natCast_nonneg _
    have ho : isO h 5 0 = true := isO_rd (H.f 4 rfl)
    have hb := bsN_b S (mS S) hm
    obtain ⟨h1, a1, a2, a3⟩ := c_bestR F H
    have eb : (o_best S).1 = (bsN S (mS S) : Nat) := if_neg (by omega)
    rw [eb] at a1
    have ho1 : isO h1 5 0 = true := isO_rd (a2.f 4 rfl)
    obtain ⟨h2, b1, b2, b3, b4⟩ := c_works F hb a2
    have q28' : rd h2 5 0 28 = some (aI n) := by rw [b4, a3.1 _ _ _ (by decide) (by decide) (Or.inr (by decide))]; exact q28
    generalize hbb : bsN S (mS S) = b at *
    have ern : rnS (d + 1) k S z = rnS d (k + 1) (wkS (rnK S k b) b) (w32 (z + S 2 b (stS S b) 0)) := by rw [rnS, hbb]
    rw [ern]
    have Fk := F.rk k b
    have hmk : b < mS (rnK S k b) := by unfold mS; rw [rnK_0 (by decide)]; exact hb
    have q29 := b2.f 29 rfl
    by_cases c : k < 200
    · have ew := wk_rn (S := S) (b := b) c
      have r17 := b2.r17 c
      have e11' : wkS (rnK S k b) b 0 11 0 0 = if k + 1 < 200 then ((k + 1 : Nat) : Int) else 200 := by
        rw [ew, ups_s]
        by_cases c2 : k + 1 < 200
        · rw [if_pos c2]
        · rw [if_neg c2]; omega
      obtain ⟨h', f1, f2, f3⟩ := ih (k + 1) (wkS (rnK S k b) b) (w32 (z + S 2 b (stS S b) 0)) (wr h2 10 17 k (aI b)) (aI b) (by omega) (Fk.wk hmk) (by rw [wkS_m]; omega) (by rw [ew]; exact (b2.a17 k c (b : Int)).k11 _) (by rw [rd_wn (Or.inl (by decide))]; exact q28') e11'
      refine ⟨h', ?_, f2, ((a3.2.tr b3).tr L0.w).tr f3⟩
      have n4 : ¬ (200 : Int) ≤ (k : Int) := by omega
      rw [← f1, x_X5_run_34]
      simp only [↓x_X5_run_0, ↓x_X5_run_1, ↓x_X5_run_2, ↓x_X5_run_3, ↓x_X5_run_6, ↓x_X5_run_9, ↓x_X5_run_12, ↓x_X5_run_14, ↓x_X5_run_15, ↓x_X5_run_16, ↓x_X5_run_19, ↓x_X5_run_22, ↓x_X5_run_24, ↓x_X5_run_25, ↓x_X5_run_26, ↓x_X5_run_27, ↓x_X5_run_28, ↓x_X5_run_29, ↓x_X5_run_32, ↓x_X5_run_33, ↓x_X5_run_35, ↓x_X5_run_36, ↓x_X5_run_39, ↓x_X5_run_40, ↓x_X5_run_43, ↓x_X5_run_45, ↓x_X5_run_46, ↓x_X5_run_47, ↓x_X5_run_49, ↓x_X5_run_52, ↓x_X5_run_53, ↓x_X5_run_54, ↓x_X5_run_55, ↓x_X5_run_58, ↓x_X5_run_61, ↓x_X5_run_62, ↓x_X5_run_65, ↓x_X5_run_66, ↓x_X5_run_68, ↓x_X5_run_69, ↓x_X5_run_72, ↓x_X5_run_75, ↓x_X5_run_76, n3, ho, ↓cKI a1, ho1, ↓cKI b1, n4, ↓gK_of q29, k0, Int.toNat_natCast, pK_of r17, w32_s hk5, ↓reduceIte]
    · have ew : rnK S k b = S := if_neg c
      rw [ew] at hmk ⊢
      have e11' : wkS S b 0 11 0 0 = if k + 1 < 200 then ((k + 1 : Nat) : Int) else 200 := by
        rw [if_neg (by omega)]
        show S 0 11 0 0 = 200
        rw [e11, if_neg c]
      obtain ⟨h', f1, f2, f3⟩ := ih (k + 1) (wkS S b) (w32 (z + S 2 b (stS S b) 0)) h2 (aI b) (by omega) (F.wk hmk) (by rw [wkS_m]; omega) b2 q28' e11'
      refine ⟨h', ?_, f2, (a3.2.tr b3).tr f3⟩
      have n4 : (200 : Int) ≤ (k : Int) := by omega
      rw [← f1, x_X5_run_34]
      simp only [↓x_X5_run_0, ↓x_X5_run_1, ↓x_X5_run_2, ↓x_X5_run_3, ↓x_X5_run_6, ↓x_X5_run_9, ↓x_X5_run_12, ↓x_X5_run_14, ↓x_X5_run_15, ↓x_X5_run_16, ↓x_X5_run_19, ↓x_X5_run_22, ↓x_X5_run_24, ↓x_X5_run_25, ↓x_X5_run_26, ↓x_X5_run_27, ↓x_X5_run_28, ↓x_X5_run_29, ↓x_X5_run_32, ↓x_X5_run_33, ↓x_X5_run_35, ↓x_X5_run_36, ↓x_X5_run_39, ↓x_X5_run_40, ↓x_X5_run_43, ↓x_X5_run_45, ↓x_X5_run_46, ↓x_X5_run_47, ↓x_X5_run_49, ↓x_X5_run_52, ↓x_X5_run_53, ↓x_X5_run_54, ↓x_X5_run_55, ↓x_X5_run_58, ↓x_X5_run_61, ↓x_X5_run_62, ↓x_X5_run_65, ↓x_X5_run_66, ↓x_X5_run_68, ↓x_X5_run_69, ↓x_X5_run_72, ↓x_X5_run_75, ↓x_X5_run_76, n3, ho, ↓cKI a1, ho1, ↓cKI b1, n4, w32_s hk5, ↓reduceIte]
theorem CR_run {S : SS} (F : WF S) (n : Int) : CR mX5_run [aI n] aI S (o_run n S) := by
  intro h H
  have ci := c_in (h := h) (v := n) (lo := 0) (hi := 500)
  have q10 := H.1.f 10 rfl
  have z : ¬ (1 : Int) = 0 := by decide
  have f6 := F.1.1
  unfold o_run
  rw [e_X5_run]
  by_cases c : n < 0 ∨ 500 < n
  · rw [if_neg (by omega)] at ci
    rw [if_pos c]
    refine ⟨h, ?_, H, L0.rf⟩
    simp only [↓x_X5_run_0, ↓x_X5_run_1, ↓x_X5_run_2, ↓x_X5_run_3, ↓x_X5_run_6, ↓x_X5_run_9, ↓x_X5_run_12, ↓x_X5_run_14, ↓x_X5_run_15, ↓x_X5_run_16, ↓x_X5_run_19, ↓x_X5_run_22, ↓x_X5_run_24, ↓x_X5_run_25, ↓x_X5_run_26, ↓x_X5_run_27, ↓x_X5_run_28, ↓x_X5_run_29, ↓x_X5_run_32, ↓x_X5_run_33, ↓x_X5_run_35, ↓x_X5_run_36, ↓x_X5_run_39, ↓x_X5_run_40, ↓x_X5_run_43, ↓x_X5_run_45, ↓x_X5_run_46, ↓x_X5_run_47, ↓x_X5_run_49, ↓x_X5_run_52, ↓x_X5_run_53, ↓x_X5_run_54, ↓x_X5_run_55, ↓x_X5_run_58, ↓x_X5_run_61, ↓x_X5_run_62, ↓x_X5_run_65, ↓x_X5_run_66, ↓x_X5_run_68, ↓x_X5_run_69, ↓x_X5_run_72, ↓x_X5_run_75, ↓x_X5_run_76, ↓cKI ci, not_true_eq_false, ↓reduceIte]
  · rw [if_pos (by omega)] at ci
    rw [if_neg c]
    by_cases c3 : S 0 6 0 0 = 0
    · rw [if_pos c3]
      have c4 : ¬ ¬ S 0 6 0 0 = 0 := not_not_intro c3
      refine ⟨h, ?_, H, L0.rf⟩
      simp only [↓x_X5_run_0, ↓x_X5_run_1, ↓x_X5_run_2, ↓x_X5_run_3, ↓x_X5_run_6, ↓x_X5_run_9, ↓x_X5_run_12, ↓x_X5_run_14, ↓x_X5_run_15, ↓x_X5_run_16, ↓x_X5_run_19, ↓x_X5_run_22, ↓x_X5_run_24, ↓x_X5_run_25, ↓x_X5_run_26, ↓x_X5_run_27, ↓x_X5_run_28, ↓x_X5_run_29, ↓x_X5_run_32, ↓x_X5_run_33, ↓x_X5_run_35, ↓x_X5_run_36, ↓x_X5_run_39, ↓x_X5_run_40, ↓x_X5_run_43, ↓x_X5_run_45, ↓x_X5_run_46, ↓x_X5_run_47, ↓x_X5_run_49, ↓x_X5_run_52, ↓x_X5_run_53, ↓x_X5_run_54, ↓x_X5_run_55, ↓x_X5_run_58, ↓x_X5_run_61, ↓x_X5_run_62, ↓x_X5_run_65, ↓x_X5_run_66, ↓x_X5_run_68, ↓x_X5_run_69, ↓x_X5_run_72, ↓x_X5_run_75, ↓x_X5_run_76, ↓cKI ci, z, ↓gK_of q10, c4, not_false_eq_true, ↓reduceIte]
    · rw [if_neg c3]
      obtain ⟨r, hr⟩ := H.1.1 0 28 (by decide)
      have hr' : rd h 5 0 28 = some r := hr
      obtain ⟨h', a1, a2, a3⟩ := lr_run (n := n) ⟨by omega, by omega⟩ n.toNat 0 (ups S 0 11 0 0 0) 0 (wr h 5 0 28 (aI n)) aU (by omega) (F.kept (by decide)) (by unfold mS; rw [ups_a (by decide)]; omega) ((H.1.wn 0 28 (aI n) rfl).k11 0) (rd_wr hr') rfl
      refine ⟨h', ?_, a2, L0.w.tr a3⟩
      simp only [↓x_X5_run_0, ↓x_X5_run_1, ↓x_X5_run_2, ↓x_X5_run_3, ↓x_X5_run_6, ↓x_X5_run_9, ↓x_X5_run_12, ↓x_X5_run_14, ↓x_X5_run_15, ↓x_X5_run_16, ↓x_X5_run_19, ↓x_X5_run_22, ↓x_X5_run_24, ↓x_X5_run_25, ↓x_X5_run_26, ↓x_X5_run_27, ↓x_X5_run_28, ↓x_X5_run_29, ↓x_X5_run_32, ↓x_X5_run_33, ↓x_X5_run_35, ↓x_X5_run_36, ↓x_X5_run_39, ↓x_X5_run_40, ↓x_X5_run_43, ↓x_X5_run_45, ↓x_X5_run_46, ↓x_X5_run_47, ↓x_X5_run_49, ↓x_X5_run_52, ↓x_X5_run_53, ↓x_X5_run_54, ↓x_X5_run_55, ↓x_X5_run_58, ↓x_X5_run_61, ↓x_X5_run_62, ↓x_X5_run_65, ↓x_X5_run_66, ↓x_X5_run_68, ↓x_X5_run_69, ↓x_X5_run_72, ↓x_X5_run_75, ↓x_X5_run_76, ↓cKI ci, z, ↓gK_of q10, c3, ↓pK_of hr', not_false_eq_true, ↓reduceIte]
      exact a1
theorem CR_step {S : SS} (F : WF S) (i : Int) : CR mX5_step [aI i] aI S (o_step i S) := by
  intro h H
  obtain ⟨r, r1, r2, r3⟩ := H.2
  have f11 := F.1.2.2.2.2
  have q29 := H.1.f 29 rfl
  unfold o_step
  refine ⟨h, ?_, H, L0.rf⟩
  have ci := c_in (h := h) (v := i) (lo := 0) (hi := S 0 11 0 0 - 1)
  have z : ¬ (1 : Int) = 0 := by decide
  have e1 : w32 (S 0 11 0 0 - 1) = S 0 11 0 0 - 1 := by rw [w32_in] <;> omega
  have s26 : X mX5_step 0 [aR (some 0), aI i] [] h = X mX5_step 26 [aR (some 0), aI i] [aJ (S 0 11 0 0 - 1), aJ 0, aJ i] h := by
    by_cases c : r < 200
    · have c1 : ¬ (200 : Int) ≤ r := by omega
      rw [if_pos c] at r3
      rw [← r3] at r1 c1
      simp only [↓x_X5_step_0, ↓x_X5_step_1, ↓x_X5_step_2, ↓x_X5_step_3, ↓x_X5_step_4, ↓x_X5_step_7, ↓x_X5_step_10, ↓x_X5_step_13, ↓x_X5_step_14, ↓x_X5_step_17, ↓x_X5_step_20, ↓x_X5_step_23, ↓x_X5_step_24, ↓x_X5_step_25, ↓x_X5_step_29, ↓x_X5_step_32, ↓x_X5_step_33, ↓x_X5_step_36, ↓x_X5_step_37, ↓x_X5_step_38, ↓x_X5_step_41, ↓x_X5_step_43, ↓gK_of r1, gK_of r1, c1, e1, ↓reduceIte]
    · have c1 : (200 : Int) ≤ r := by omega
      rw [if_neg c] at r3
      have e1' := e1
      rw [r3] at e1' ⊢
      simp only [↓x_X5_step_0, ↓x_X5_step_1, ↓x_X5_step_2, ↓x_X5_step_3, ↓x_X5_step_4, ↓x_X5_step_7, ↓x_X5_step_10, ↓x_X5_step_13, ↓x_X5_step_14, ↓x_X5_step_17, ↓x_X5_step_20, ↓x_X5_step_23, ↓x_X5_step_24, ↓x_X5_step_25, ↓x_X5_step_29, ↓x_X5_step_32, ↓x_X5_step_33, ↓x_X5_step_36, ↓x_X5_step_37, ↓x_X5_step_38, ↓x_X5_step_41, ↓x_X5_step_43, ↓gK_of r1, c1, e1', ↓reduceIte]
  rw [e_X5_step, s26]
  clear e1 s26
  by_cases c : i < 0 ∨ S 0 11 0 0 ≤ i
  · rw [if_neg (by omega)] at ci
    rw [if_pos c]
    simp only [↓x_X5_step_0, ↓x_X5_step_1, ↓x_X5_step_2, ↓x_X5_step_3, ↓x_X5_step_4, ↓x_X5_step_7, ↓x_X5_step_10, ↓x_X5_step_13, ↓x_X5_step_14, ↓x_X5_step_17, ↓x_X5_step_20, ↓x_X5_step_23, ↓x_X5_step_24, ↓x_X5_step_25, ↓x_X5_step_26, ↓x_X5_step_29, ↓x_X5_step_32, ↓x_X5_step_33, ↓x_X5_step_36, ↓x_X5_step_37, ↓x_X5_step_38, ↓x_X5_step_41, ↓x_X5_step_43, ↓cKI ci, ↓reduceIte]
  · rw [if_pos (by omega)] at ci
    rw [if_neg c]
    have q := H.1.r17 (k := i.toNat) (by omega)
    have i0 : 0 ≤ i := by omega
    simp only [↓x_X5_step_0, ↓x_X5_step_1, ↓x_X5_step_2, ↓x_X5_step_3, ↓x_X5_step_4, ↓x_X5_step_7, ↓x_X5_step_10, ↓x_X5_step_13, ↓x_X5_step_14, ↓x_X5_step_17, ↓x_X5_step_20, ↓x_X5_step_23, ↓x_X5_step_24, ↓x_X5_step_25, ↓x_X5_step_26, ↓x_X5_step_29, ↓x_X5_step_32, ↓x_X5_step_33, ↓x_X5_step_36, ↓x_X5_step_37, ↓x_X5_step_38, ↓x_X5_step_41, ↓x_X5_step_43, ↓cKI ci, z, ↓gK_of q29, i0, ↓gK_of q, ↓reduceIte]
theorem CR_worked {S : SS} (F : WF S) (m : Int) : CR mX5_worked [aI m] aI S (o_worked m S) := by
  intro h H
  have ho : isO h 5 0 = true := isO_rd (H.1.f 4 rfl)
  have ca := c_isMachine F H.1 m
  have z : ¬ (1 : Int) = 0 := by decide
  unfold o_worked
  rw [e_X5_worked]
  refine ⟨h, ?_, H, L0.rf⟩
  by_cases c1 : isM S m
  · rw [if_pos c1] at ca
    rw [if_pos c1]
    have q16 := H.1.f 16 rfl
    have q11 := H.1.r11 (isM_n c1).1
    have m0 := c1.1
    simp only [↓x_X5_worked_0, ↓x_X5_worked_1, ↓x_X5_worked_2, ↓x_X5_worked_5, ↓x_X5_worked_8, ↓x_X5_worked_9, ↓x_X5_worked_12, ↓x_X5_worked_13, ↓x_X5_worked_14, ↓x_X5_worked_17, ↓x_X5_worked_18, ho, ↓cKI ca, z, ↓gK_of q16, m0, ↓gK_of q11, ↓reduceIte]
  · rw [if_neg c1] at ca
    rw [if_neg c1]
    simp only [↓x_X5_worked_0, ↓x_X5_worked_1, ↓x_X5_worked_2, ↓x_X5_worked_5, ↓x_X5_worked_8, ↓x_X5_worked_9, ↓x_X5_worked_12, ↓x_X5_worked_13, ↓x_X5_worked_14, ↓x_X5_worked_17, ↓x_X5_worked_18, ho, ↓cKI ca, ↓reduceIte]
theorem CR_paid {S : SS} : CR mX5_paid [] aJ S (S 0 14 0 0, S) := by
  intro h H
  refine ⟨h, ?_, H, L0.rf⟩
  rw [e_X5_paid]
  simp only [↓x_X5_paid_0, ↓x_X5_paid_1, ↓x_X5_paid_4, ↓gK_of (H.1.f 27 rfl)]
theorem CR_asked {S : SS} : CR mX5_asked [] aJ S (S 0 13 0 0, S) := by
  intro h H
  refine ⟨h, ?_, H, L0.rf⟩
  rw [e_X5_asked]
  simp only [↓x_X5_asked_0, ↓x_X5_asked_1, ↓x_X5_asked_4, ↓gK_of (H.1.f 8 rfl)]
theorem CR_finding {S : SS} : CR mX5_finding [] aI S (S 0 12 0 0, S) := by
  intro h H
  refine ⟨h, ?_, H, L0.rf⟩
  rw [e_X5_finding]
  simp only [↓x_X5_finding_0, ↓x_X5_finding_1, ↓x_X5_finding_4, ↓gK_of (H.1.f 0 rfl)]
theorem CR_findings {S : SS} (f : Int) : CR mX5_findings [aI f] aI S (o_findings f S) := by
  intro h H
  have ci := c_in (h := h) (v := f) (lo := 1) (hi := 6)
  have z : ¬ (1 : Int) = 0 := by decide
  unfold o_findings
  rw [e_X5_findings]
  refine ⟨h, ?_, H, L0.rf⟩
  by_cases c : f < 1 ∨ 6 < f
  · rw [if_neg (by omega)] at ci
    rw [if_pos c]
    simp only [↓x_X5_findings_0, ↓x_X5_findings_1, ↓x_X5_findings_2, ↓x_X5_findings_3, ↓x_X5_findings_6, ↓x_X5_findings_9, ↓x_X5_findings_12, ↓x_X5_findings_13, ↓x_X5_findings_16, ↓x_X5_findings_17, ↓x_X5_findings_18, ↓x_X5_findings_21, ↓x_X5_findings_22, ↓cKI ci, ↓reduceIte]
  · rw [if_pos (by omega)] at ci
    rw [if_neg c]
    have q1 := H.1.f 1 rfl
    have q := H.1.r1 (k := f.toNat) (by omega)
    have f0 : 0 ≤ f := by omega
    simp only [↓x_X5_findings_0, ↓x_X5_findings_1, ↓x_X5_findings_2, ↓x_X5_findings_3, ↓x_X5_findings_6, ↓x_X5_findings_9, ↓x_X5_findings_12, ↓x_X5_findings_13, ↓x_X5_findings_16, ↓x_X5_findings_17, ↓x_X5_findings_18, ↓x_X5_findings_21, ↓x_X5_findings_22, ↓cKI ci, z, ↓gK_of q1, f0, ↓gK_of q, ↓reduceIte]
theorem CR_count {S : SS} (k : Int) : CR mX5_count [aI k] aI S (o_count k S) := by
  intro h H
  have q6 := H.1.f 10 rfl
  have q7 := H.1.f 4 rfl
  have q8 := H.1.f 2 rfl
  have q9 := H.1.f 3 rfl
  have q10 := H.1.f 26 rfl
  unfold o_count
  refine ⟨h, ?_, H, L0.rf⟩
  rw [e_X5_count, x_X5_count_0, x_X5_count_1]
  repeat' split
  all_goals simp only [↓x_X5_count_0, ↓x_X5_count_1, ↓x_X5_count_36, ↓x_X5_count_37, ↓x_X5_count_40, ↓x_X5_count_41, ↓x_X5_count_42, ↓x_X5_count_45, ↓x_X5_count_46, ↓x_X5_count_47, ↓x_X5_count_50, ↓x_X5_count_51, ↓x_X5_count_52, ↓x_X5_count_55, ↓x_X5_count_56, ↓x_X5_count_57, ↓x_X5_count_60, ↓x_X5_count_61, ↓x_X5_count_62, ↓gK_of q6, ↓gK_of q7, ↓gK_of q8, ↓gK_of q9, ↓gK_of q10]
theorem CR_fail {S : SS} (F : WF S) (m k : Int) : CR mX5_fail [aI m, aI k] aI S (o_fail m k S) := by
  intro h H
  have ho : isO h 5 0 = true := isO_rd (H.1.f 4 rfl)
  have ca := c_isMachine F H.1 m
  have ci := c_in (h := h) (v := k) (lo := 0) (hi := 2)
  have cf2 := m_fd2 H.1
  have cf6 := m_fd6 H.1
  have z : ¬ (1 : Int) = 0 := by decide
  unfold o_fail
  rw [e_X5_fail]
  by_cases c1 : isM S m
  · rw [if_pos c1] at ca
    rw [if_neg (not_not_intro c1)]
    by_cases d0 : k = 0
    · rw [if_pos d0]
      subst d0
      rw [if_pos (by decide)] at ci
      have y : ¬ (0 : Int) = 1 := by decide
      refine ⟨_, ?_, H.mt (f := 6) (by decide)⟩
      simp only [↓x_X5_fail_0, ↓x_X5_fail_1, ↓x_X5_fail_2, ↓x_X5_fail_5, ↓x_X5_fail_8, ↓x_X5_fail_9, ↓x_X5_fail_10, ↓x_X5_fail_11, ↓x_X5_fail_14, ↓x_X5_fail_17, ↓x_X5_fail_20, ↓x_X5_fail_21, ↓x_X5_fail_24, ↓x_X5_fail_25, ↓x_X5_fail_26, ↓x_X5_fail_29, ↓x_X5_fail_30, ↓x_X5_fail_33, ↓x_X5_fail_34, ↓x_X5_fail_35, ↓x_X5_fail_38, ↓x_X5_fail_40, ↓x_X5_fail_43, ↓x_X5_fail_44, ↓x_X5_fail_47, ho, ↓cKI ca, z, ↓cKI ci, y, ↓cKI cf6, not_true_eq_false, not_false_eq_true, ↓reduceIte]
    · rw [if_neg d0]
      by_cases d1 : k = 1
      · rw [if_pos d1]
        subst d1
        rw [if_pos (by decide)] at ci
        refine ⟨h, ?_, H, L0.rf⟩
        simp only [↓x_X5_fail_0, ↓x_X5_fail_1, ↓x_X5_fail_2, ↓x_X5_fail_5, ↓x_X5_fail_8, ↓x_X5_fail_9, ↓x_X5_fail_10, ↓x_X5_fail_11, ↓x_X5_fail_14, ↓x_X5_fail_17, ↓x_X5_fail_20, ↓x_X5_fail_21, ↓x_X5_fail_24, ↓x_X5_fail_25, ↓x_X5_fail_26, ↓x_X5_fail_29, ↓x_X5_fail_30, ↓x_X5_fail_33, ↓x_X5_fail_34, ↓x_X5_fail_35, ↓x_X5_fail_38, ↓x_X5_fail_40, ↓x_X5_fail_43, ↓x_X5_fail_44, ↓x_X5_fail_47, ho, ↓cKI ca, z, ↓cKI ci, not_true_eq_false, not_false_eq_true, ↓reduceIte]
      · rw [if_neg d1]
        by_cases d2 : k = 2
        · rw [if_pos d2]
          subst d2
          rw [if_pos (by decide)] at ci
          refine ⟨_, ?_, H.mt (f := 2) (by decide)⟩
          simp only [↓x_X5_fail_0, ↓x_X5_fail_1, ↓x_X5_fail_2, ↓x_X5_fail_5, ↓x_X5_fail_8, ↓x_X5_fail_9, ↓x_X5_fail_10, ↓x_X5_fail_11, ↓x_X5_fail_14, ↓x_X5_fail_17, ↓x_X5_fail_20, ↓x_X5_fail_21, ↓x_X5_fail_24, ↓x_X5_fail_25, ↓x_X5_fail_26, ↓x_X5_fail_29, ↓x_X5_fail_30, ↓x_X5_fail_33, ↓x_X5_fail_34, ↓x_X5_fail_35, ↓x_X5_fail_38, ↓x_X5_fail_40, ↓x_X5_fail_43, ↓x_X5_fail_44, ↓x_X5_fail_47, ho, ↓cKI ca, z, ↓cKI ci, d0, d1, ↓cKI cf2, not_false_eq_true, ↓reduceIte]
        · rw [if_neg d2]
          rw [if_neg (by omega)] at ci
          refine ⟨h, ?_, H, L0.rf⟩
          simp only [↓x_X5_fail_0, ↓x_X5_fail_1, ↓x_X5_fail_2, ↓x_X5_fail_5, ↓x_X5_fail_8, ↓x_X5_fail_9, ↓x_X5_fail_10, ↓x_X5_fail_11, ↓x_X5_fail_14, ↓x_X5_fail_17, ↓x_X5_fail_20, ↓x_X5_fail_21, ↓x_X5_fail_24, ↓x_X5_fail_25, ↓x_X5_fail_26, ↓x_X5_fail_29, ↓x_X5_fail_30, ↓x_X5_fail_33, ↓x_X5_fail_34, ↓x_X5_fail_35, ↓x_X5_fail_38, ↓x_X5_fail_40, ↓x_X5_fail_43, ↓x_X5_fail_44, ↓x_X5_fail_47, ho, ↓cKI ca, z, ↓cKI ci, not_true_eq_false, ↓reduceIte]
  · rw [if_neg c1] at ca
    rw [if_pos c1]
    refine ⟨h, ?_, H, L0.rf⟩
    simp only [↓x_X5_fail_0, ↓x_X5_fail_1, ↓x_X5_fail_2, ↓x_X5_fail_5, ↓x_X5_fail_8, ↓x_X5_fail_9, ↓x_X5_fail_10, ↓x_X5_fail_11, ↓x_X5_fail_14, ↓x_X5_fail_17, ↓x_X5_fail_20, ↓x_X5_fail_21, ↓x_X5_fail_24, ↓x_X5_fail_25, ↓x_X5_fail_26, ↓x_X5_fail_29, ↓x_X5_fail_30, ↓x_X5_fail_33, ↓x_X5_fail_34, ↓x_X5_fail_35, ↓x_X5_fail_38, ↓x_X5_fail_40, ↓x_X5_fail_43, ↓x_X5_fail_44, ↓x_X5_fail_47, ho, ↓cKI ca, ↓reduceIte]
