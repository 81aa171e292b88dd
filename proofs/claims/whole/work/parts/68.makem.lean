def zmS (S : SS) (m : Nat) (kd : Int) (n : Nat) : SS := fun t a b c => if (t = 1 ∨ t = 2 ∨ t = 3) ∧ a = m then (if t = 3 then (if c = nxt kd n b then 1 else 0) else if t = 1 ∧ b = 0 ∧ c = 0 then kd else if t = 1 ∧ b = 1 ∧ c = 0 then (n : Int) else 0) else S t a b c
theorem zmS_t {S : SS} {m : Nat} {kd : Int} {n t a b c : Nat} (h : t ≠ 1 ∧ t ≠ 2 ∧ t ≠ 3) : zmS S m kd n t a b c = S t a b c := if_neg fun z => by omega
theorem zmS_a {S : SS} {m : Nat} {kd : Int} {n t a b c : Nat} (h : a ≠ m) : zmS S m kd n t a b c = S t a b c := if_neg fun z => h z.2
def nmS (S : SS) (kd : Int) (n : Nat) : SS := ups (zmS S (mS S) kd n) 0 6 0 0 (S 0 6 0 0 + 1)
def o_machine (kd n : Int) (S : SS) : Int × SS := if kd < 0 ∨ 3 < kd ∨ 5 < n then (-1, S) else if 0 ≤ n ∧ (n < (if kd = 3 then 2 else 1) ∨ (kd = 1 ∧ ¬ n = 1)) then (-1, S) else if S 0 6 0 0 = 16 then (-2, S) else if n < 0 then (-3, fdS S 5) else (S 0 6 0 0, nmS S kd n.toNat)
theorem nm_ag {S : SS} {kd : Int} {n : Nat} : AgG (ups S 0 6 0 0 (S 0 6 0 0 + 1)) (nmS S kd n) := by
  refine ⟨fun j => ?_, fun j => ?_, fun j => ?_, fun j => ?_⟩
  · unfold nmS ups
    rw [zmS_t (by decide)]
  · unfold nmS
    rw [ups_t (by decide), ups_t (by decide), zmS_t (by decide)]
  · unfold nmS
    rw [ups_t (by decide), ups_t (by decide), zmS_t (by decide)]
  · unfold nmS
    rw [ups_t (by decide), ups_t (by decide), zmS_t (by decide)]
theorem nm_am {S : SS} {kd : Int} {n m : Nat} (h : m ≠ mS S) : AgM S (nmS S kd n) m := by
  refine ⟨fun b => ?_, fun s => ?_, fun s t => ?_, ?_, ?_⟩
  · unfold nmS
    rw [ups_t (by decide), zmS_a h]
  · unfold nmS
    rw [ups_t (by decide), zmS_a h]
  · unfold nmS
    rw [ups_t (by decide), zmS_a h]
  · unfold nmS
    rw [ups_a (by decide), zmS_t (by decide)]
  · unfold nmS
    rw [ups_a (by decide), zmS_t (by decide)]
theorem nm_as {S : SS} {kd : Int} {n : Nat} (k : Nat) : AgS S (nmS S kd n) k := by
  refine ⟨fun b => ?_, fun s => ?_⟩
  · unfold nmS
    rw [ups_t (by decide), zmS_t (by decide)]
  · unfold nmS
    rw [ups_t (by decide), zmS_t (by decide)]
theorem nm_1 {S : SS} {kd : Int} {n : Nat} : nmS S kd n 1 (mS S) 0 0 = kd ∧ nmS S kd n 1 (mS S) 1 0 = n ∧ nmS S kd n 1 (mS S) 6 0 = 0 ∧ nmS S kd n 1 (mS S) 7 0 = 0 ∧ (∀ s, nmS S kd n 2 (mS S) s 0 = 0) ∧ ∀ s t, nmS S kd n 3 (mS S) s t = if t = nxt kd n s then 1 else 0 := by
  refine ⟨?_, ?_, ?_, ?_, fun s => ?_, fun s t => ?_⟩
  · unfold nmS
    rw [ups_t (by decide)]
    unfold zmS
    rw [if_pos ⟨by decide, rfl⟩, if_neg (by decide), if_pos (by decide)]
  · unfold nmS
    rw [ups_t (by decide)]
    unfold zmS
    rw [if_pos ⟨by decide, rfl⟩, if_neg (by decide), if_neg (by decide), if_pos (by decide)]
  · unfold nmS
    rw [ups_t (by decide)]
    unfold zmS
    rw [if_pos ⟨by decide, rfl⟩, if_neg (by decide), if_neg (by decide), if_neg (by decide)]
  · unfold nmS
    rw [ups_t (by decide)]
    unfold zmS
    rw [if_pos ⟨by decide, rfl⟩, if_neg (by decide), if_neg (by decide), if_neg (by decide)]
  · unfold nmS
    rw [ups_t (by decide)]
    unfold zmS
    rw [if_pos ⟨by decide, rfl⟩, if_neg (by decide), if_neg (by omega), if_neg (by omega)]
  · unfold nmS
    rw [ups_t (by decide)]
    unfold zmS
    rw [if_pos ⟨by decide, rfl⟩, if_pos rfl]
theorem sum_delta1 (u : Nat) : ∀ n, sumI (fun t => if t = u then (1 : Int) else 0) n = if u < n then 1 else 0 := fun n => sumI_delta 1 u n
theorem WF.nm {S : SS} (F : WF S) {kd : Int} {n : Nat} (h1 : 0 ≤ kd ∧ kd ≤ 3) (h2 : 1 ≤ n ∧ n ≤ 5) (h3 : ¬ S 0 6 0 0 = 16) : WF (nmS S kd n) := by
  obtain ⟨F0, F1, F2⟩ := F
  have e6 : nmS S kd n 0 6 0 0 = S 0 6 0 0 + 1 := by unfold nmS; rw [ups_s]
  have e8 : ∀ j, j ≠ 6 → nmS S kd n 0 j 0 0 = S 0 j 0 0 := fun j z => by unfold nmS; rw [ups_a z, zmS_t (by decide)]
  refine ⟨?_, fun m hm => ?_, fun k hk => ?_⟩
  · rw [e6, e8 7 (by decide), e8 8 (by decide), e8 9 (by decide), e8 10 (by decide), e8 11 (by decide)]
    exact ⟨by omega, F0.2⟩
  · unfold mS at hm
    rw [e6] at hm
    by_cases c : m = mS S
    · subst c
      obtain ⟨q0, q1, q6, q7, qp, qw⟩ := nm_1 (S := S) (kd := kd) (n := n)
      unfold nS
      rw [q0, q1, q6, Int.toNat_natCast]
      refine ⟨h1, by omega, by omega, fun j hj => ?_, fun s hs => ⟨fun t ht => ?_, ?_⟩⟩
      · show -50 ≤ nmS S kd n 2 (mS S) j 0 ∧ nmS S kd n 2 (mS S) j 0 ≤ 50
        rw [qp]
        decide
      · show 0 ≤ nmS S kd n 3 (mS S) s t ∧ nmS S kd n 3 (mS S) s t ≤ 10
        rw [qw]
        split <;> decide
      · have e : wS (nmS S kd n) (mS S) s = fun t => if t = nxt kd n s then (1 : Int) else 0 := funext fun t => qw s t
        rw [e, sum_delta1, if_pos (nxt_b hs)]
        decide
    · have g := nm_am (S := S) (kd := kd) (n := n) c
      have e2 : pyS (nmS S kd n) m = pyS S m := funext fun s => g.2.1 s
      have e3 : wS (nmS S kd n) m = wS S m := funext fun s => funext fun t => g.2.2.1 s t
      unfold nS
      rw [g.1, g.1, g.1, e2, e3]
      exact F1 m (by unfold mS at c ⊢; omega)
  · unfold sS at hk
    rw [e8 7 (by decide)] at hk
    have g := nm_as (S := S) (kd := kd) (n := n) k
    rw [g.1, g.1, g.1]
    exact F2 k hk
theorem c_fits {h : AH} {kd n : Int} (hn : 0 ≤ n ∧ n ≤ 5) : E mX4_fits [aI kd, aI n] h = some (some (aI (if n < (if kd = 3 then 2 else 1) ∨ (kd = 1 ∧ ¬ n = 1) then 0 else 1)), h) := by
  rw [e_X4_fits]
  have n5 : ¬ 5 < n := by omega
  by_cases c1 : kd = 1
  · subst c1
    have z : ¬ (1 : Int) = 3 := by decide
    by_cases c2 : n = 1
    · subst c2
      simp only [↓x_X4_fits_0, ↓x_X4_fits_1, ↓x_X4_fits_2, ↓x_X4_fits_5, ↓x_X4_fits_6, ↓x_X4_fits_7, ↓x_X4_fits_10, ↓x_X4_fits_11, ↓x_X4_fits_14, ↓x_X4_fits_15_0, ↓x_X4_fits_15_1, ↓x_X4_fits_15, ↓x_X4_fits_16, ↓x_X4_fits_17, ↓x_X4_fits_18, ↓x_X4_fits_19, ↓x_X4_fits_22, ↓x_X4_fits_23, ↓x_X4_fits_26, ↓x_X4_fits_27, ↓x_X4_fits_30, ↓x_X4_fits_31, ↓x_X4_fits_32, ↓x_X4_fits_35, ↓x_X4_fits_36, ↓x_X4_fits_39, ↓x_X4_fits_40_0, ↓x_X4_fits_40_1, ↓x_X4_fits_40, not_true_eq_false, ↓reduceIte]
      rfl
    · rw [if_pos (Or.inr ⟨rfl, c2⟩)]
      simp only [↓x_X4_fits_0, ↓x_X4_fits_1, ↓x_X4_fits_2, ↓x_X4_fits_5, ↓x_X4_fits_6, ↓x_X4_fits_7, ↓x_X4_fits_10, ↓x_X4_fits_11, ↓x_X4_fits_14, ↓x_X4_fits_15_0, ↓x_X4_fits_15_1, ↓x_X4_fits_15, ↓x_X4_fits_16, ↓x_X4_fits_17, ↓x_X4_fits_18, ↓x_X4_fits_19, ↓x_X4_fits_22, ↓x_X4_fits_23, ↓x_X4_fits_26, ↓x_X4_fits_27, ↓x_X4_fits_30, ↓x_X4_fits_31, ↓x_X4_fits_32, ↓x_X4_fits_35, ↓x_X4_fits_36, ↓x_X4_fits_39, ↓x_X4_fits_40_0, ↓x_X4_fits_40_1, ↓x_X4_fits_40, c2, not_true_eq_false, not_false_eq_true, ↓reduceIte]
  · by_cases c3 : kd = 3
    · subst c3
      rw [if_pos rfl]
      by_cases c4 : n < 2
      · rw [if_pos (Or.inl c4)]
        simp only [↓x_X4_fits_0, ↓x_X4_fits_1, ↓x_X4_fits_2, ↓x_X4_fits_5, ↓x_X4_fits_6, ↓x_X4_fits_7, ↓x_X4_fits_10, ↓x_X4_fits_11, ↓x_X4_fits_14, ↓x_X4_fits_15_0, ↓x_X4_fits_15_1, ↓x_X4_fits_15, ↓x_X4_fits_16, ↓x_X4_fits_17, ↓x_X4_fits_18, ↓x_X4_fits_19, ↓x_X4_fits_22, ↓x_X4_fits_23, ↓x_X4_fits_26, ↓x_X4_fits_27, ↓x_X4_fits_30, ↓x_X4_fits_31, ↓x_X4_fits_32, ↓x_X4_fits_35, ↓x_X4_fits_36, ↓x_X4_fits_39, ↓x_X4_fits_40_0, ↓x_X4_fits_40_1, ↓x_X4_fits_40, c1, c4, not_true_eq_false, not_false_eq_true, ↓reduceIte]
      · rw [if_neg (by omega)]
        simp only [↓x_X4_fits_0, ↓x_X4_fits_1, ↓x_X4_fits_2, ↓x_X4_fits_5, ↓x_X4_fits_6, ↓x_X4_fits_7, ↓x_X4_fits_10, ↓x_X4_fits_11, ↓x_X4_fits_14, ↓x_X4_fits_15_0, ↓x_X4_fits_15_1, ↓x_X4_fits_15, ↓x_X4_fits_16, ↓x_X4_fits_17, ↓x_X4_fits_18, ↓x_X4_fits_19, ↓x_X4_fits_22, ↓x_X4_fits_23, ↓x_X4_fits_26, ↓x_X4_fits_27, ↓x_X4_fits_30, ↓x_X4_fits_31, ↓x_X4_fits_32, ↓x_X4_fits_35, ↓x_X4_fits_36, ↓x_X4_fits_39, ↓x_X4_fits_40_0, ↓x_X4_fits_40_1, ↓x_X4_fits_40, c1, c4, n5, not_true_eq_false, not_false_eq_true, ↓reduceIte]
    · rw [if_neg c3]
      by_cases c4 : n < 1
      · rw [if_pos (Or.inl c4)]
        simp only [↓x_X4_fits_0, ↓x_X4_fits_1, ↓x_X4_fits_2, ↓x_X4_fits_5, ↓x_X4_fits_6, ↓x_X4_fits_7, ↓x_X4_fits_10, ↓x_X4_fits_11, ↓x_X4_fits_14, ↓x_X4_fits_15_0, ↓x_X4_fits_15_1, ↓x_X4_fits_15, ↓x_X4_fits_16, ↓x_X4_fits_17, ↓x_X4_fits_18, ↓x_X4_fits_19, ↓x_X4_fits_22, ↓x_X4_fits_23, ↓x_X4_fits_26, ↓x_X4_fits_27, ↓x_X4_fits_30, ↓x_X4_fits_31, ↓x_X4_fits_32, ↓x_X4_fits_35, ↓x_X4_fits_36, ↓x_X4_fits_39, ↓x_X4_fits_40_0, ↓x_X4_fits_40_1, ↓x_X4_fits_40, c1, c3, c4, not_false_eq_true, ↓reduceIte]
      · rw [if_neg (by omega)]
        simp only [↓x_X4_fits_0, ↓x_X4_fits_1, ↓x_X4_fits_2, ↓x_X4_fits_5, ↓x_X4_fits_6, ↓x_X4_fits_7, ↓x_X4_fits_10, ↓x_X4_fits_11, ↓x_X4_fits_14, ↓x_X4_fits_15_0, ↓x_X4_fits_15_1, ↓x_X4_fits_15, ↓x_X4_fits_16, ↓x_X4_fits_17, ↓x_X4_fits_18, ↓x_X4_fits_19, ↓x_X4_fits_22, ↓x_X4_fits_23, ↓x_X4_fits_26, ↓x_X4_fits_27, ↓x_X4_fits_30, ↓x_X4_fits_31, ↓x_X4_fits_32, ↓x_X4_fits_35, ↓x_X4_fits_36, ↓x_X4_fits_39, ↓x_X4_fits_40_0, ↓x_X4_fits_40_1, ↓x_X4_fits_40, c1, c3, c4, n5, not_false_eq_true, ↓reduceIte]
theorem CK_machine {S : SS} (F : WF S) (kd n : Int) : CK mX4_machine [aI kd, aI n] aI S (o_machine kd n S) := by
  intro h C
  have C0 := C
  have cf5 := c_fd5 C0
  obtain ⟨G, K, mb, sb, own, P⟩ := C
  have ho : isO h 4 0 = true := isO_rd G.1.1
  have q6 := G.2.1 6 (by decide) (by decide)
  have g0 := G.1.1
  have l1 := G.2.2.2.1.1
  have f6 := F.1.1
  have z1 : ¬ (1 : Int) = 0 := by decide
  unfold o_machine
  rw [e_X4_machine]
  by_cases c : kd < 0 ∨ 3 < kd ∨ 5 < n
  · rw [if_pos c]
    refine ⟨h, ?_, C0, grow_rf⟩
    by_cases c1 : kd < 0
    · simp only [↓x_X4_machine_0, ↓x_X4_machine_1, ↓x_X4_machine_4, ↓x_X4_machine_5, ↓x_X4_machine_6, ↓x_X4_machine_9, ↓x_X4_machine_10, ↓x_X4_machine_11, ↓x_X4_machine_14, ↓x_X4_machine_15, ↓x_X4_machine_16, ↓x_X4_machine_17, ↓x_X4_machine_20, ↓x_X4_machine_21, ↓x_X4_machine_22, ↓x_X4_machine_25, ↓x_X4_machine_28, ↓x_X4_machine_29, ↓x_X4_machine_30, ↓x_X4_machine_31, ↓x_X4_machine_34, ↓x_X4_machine_37, ↓x_X4_machine_38, ↓x_X4_machine_41, ↓x_X4_machine_42, ↓x_X4_machine_45, ↓x_X4_machine_46, ↓x_X4_machine_49, ↓x_X4_machine_51, ↓x_X4_machine_52, ↓x_X4_machine_53, ↓x_X4_machine_56, ↓x_X4_machine_57, ↓x_X4_machine_58, ↓x_X4_machine_61, ↓x_X4_machine_62, ↓x_X4_machine_63, ↓x_X4_machine_66, ↓x_X4_machine_67, ↓x_X4_machine_70, ↓x_X4_machine_73, ↓x_X4_machine_74, ↓x_X4_machine_75, ↓x_X4_machine_76, ↓x_X4_machine_79, ↓x_X4_machine_80, ↓x_X4_machine_81, ↓x_X4_machine_82, ↓x_X4_machine_85, ↓x_X4_machine_86, ↓x_X4_machine_87, ↓x_X4_machine_90, ↓x_X4_machine_91, ↓x_X4_machine_94, ↓x_X4_machine_95, ↓x_X4_machine_96, c1, ↓reduceIte]
    · by_cases c2 : 3 < kd
      · simp only [↓x_X4_machine_0, ↓x_X4_machine_1, ↓x_X4_machine_4, ↓x_X4_machine_5, ↓x_X4_machine_6, ↓x_X4_machine_9, ↓x_X4_machine_10, ↓x_X4_machine_11, ↓x_X4_machine_14, ↓x_X4_machine_15, ↓x_X4_machine_16, ↓x_X4_machine_17, ↓x_X4_machine_20, ↓x_X4_machine_21, ↓x_X4_machine_22, ↓x_X4_machine_25, ↓x_X4_machine_28, ↓x_X4_machine_29, ↓x_X4_machine_30, ↓x_X4_machine_31, ↓x_X4_machine_34, ↓x_X4_machine_37, ↓x_X4_machine_38, ↓x_X4_machine_41, ↓x_X4_machine_42, ↓x_X4_machine_45, ↓x_X4_machine_46, ↓x_X4_machine_49, ↓x_X4_machine_51, ↓x_X4_machine_52, ↓x_X4_machine_53, ↓x_X4_machine_56, ↓x_X4_machine_57, ↓x_X4_machine_58, ↓x_X4_machine_61, ↓x_X4_machine_62, ↓x_X4_machine_63, ↓x_X4_machine_66, ↓x_X4_machine_67, ↓x_X4_machine_70, ↓x_X4_machine_73, ↓x_X4_machine_74, ↓x_X4_machine_75, ↓x_X4_machine_76, ↓x_X4_machine_79, ↓x_X4_machine_80, ↓x_X4_machine_81, ↓x_X4_machine_82, ↓x_X4_machine_85, ↓x_X4_machine_86, ↓x_X4_machine_87, ↓x_X4_machine_90, ↓x_X4_machine_91, ↓x_X4_machine_94, ↓x_X4_machine_95, ↓x_X4_machine_96, c1, c2, ↓reduceIte]
      · have c3 : ¬ n ≤ 5 := by omega
        simp only [↓x_X4_machine_0, ↓x_X4_machine_1, ↓x_X4_machine_4, ↓x_X4_machine_5, ↓x_X4_machine_6, ↓x_X4_machine_9, ↓x_X4_machine_10, ↓x_X4_machine_11, ↓x_X4_machine_14, ↓x_X4_machine_15, ↓x_X4_machine_16, ↓x_X4_machine_17, ↓x_X4_machine_20, ↓x_X4_machine_21, ↓x_X4_machine_22, ↓x_X4_machine_25, ↓x_X4_machine_28, ↓x_X4_machine_29, ↓x_X4_machine_30, ↓x_X4_machine_31, ↓x_X4_machine_34, ↓x_X4_machine_37, ↓x_X4_machine_38, ↓x_X4_machine_41, ↓x_X4_machine_42, ↓x_X4_machine_45, ↓x_X4_machine_46, ↓x_X4_machine_49, ↓x_X4_machine_51, ↓x_X4_machine_52, ↓x_X4_machine_53, ↓x_X4_machine_56, ↓x_X4_machine_57, ↓x_X4_machine_58, ↓x_X4_machine_61, ↓x_X4_machine_62, ↓x_X4_machine_63, ↓x_X4_machine_66, ↓x_X4_machine_67, ↓x_X4_machine_70, ↓x_X4_machine_73, ↓x_X4_machine_74, ↓x_X4_machine_75, ↓x_X4_machine_76, ↓x_X4_machine_79, ↓x_X4_machine_80, ↓x_X4_machine_81, ↓x_X4_machine_82, ↓x_X4_machine_85, ↓x_X4_machine_86, ↓x_X4_machine_87, ↓x_X4_machine_90, ↓x_X4_machine_91, ↓x_X4_machine_94, ↓x_X4_machine_95, ↓x_X4_machine_96, c1, c2, c3, ↓reduceIte]
  · rw [if_neg c]
    have c1 : ¬ kd < 0 := by omega
    have c2 : ¬ 3 < kd := by omega
    have c3 : n ≤ 5 := by omega
    have c4 : ¬ S 0 6 0 0 < 0 := by omega
    by_cases d : 0 ≤ n ∧ (n < (if kd = 3 then 2 else 1) ∨ (kd = 1 ∧ ¬ n = 1))
    · rw [if_pos d]
      have cf := c_fits (h := h) (kd := kd) (n := n) ⟨d.1, c3⟩
      rw [if_pos d.2] at cf
      have d1 : ¬ n < 0 := by omega
      refine ⟨h, ?_, C0, grow_rf⟩
      simp only [↓x_X4_machine_0, ↓x_X4_machine_1, ↓x_X4_machine_4, ↓x_X4_machine_5, ↓x_X4_machine_6, ↓x_X4_machine_9, ↓x_X4_machine_10, ↓x_X4_machine_11, ↓x_X4_machine_14, ↓x_X4_machine_15, ↓x_X4_machine_16, ↓x_X4_machine_17, ↓x_X4_machine_20, ↓x_X4_machine_21, ↓x_X4_machine_22, ↓x_X4_machine_25, ↓x_X4_machine_28, ↓x_X4_machine_29, ↓x_X4_machine_30, ↓x_X4_machine_31, ↓x_X4_machine_34, ↓x_X4_machine_37, ↓x_X4_machine_38, ↓x_X4_machine_41, ↓x_X4_machine_42, ↓x_X4_machine_45, ↓x_X4_machine_46, ↓x_X4_machine_49, ↓x_X4_machine_51, ↓x_X4_machine_52, ↓x_X4_machine_53, ↓x_X4_machine_56, ↓x_X4_machine_57, ↓x_X4_machine_58, ↓x_X4_machine_61, ↓x_X4_machine_62, ↓x_X4_machine_63, ↓x_X4_machine_66, ↓x_X4_machine_67, ↓x_X4_machine_70, ↓x_X4_machine_73, ↓x_X4_machine_74, ↓x_X4_machine_75, ↓x_X4_machine_76, ↓x_X4_machine_79, ↓x_X4_machine_80, ↓x_X4_machine_81, ↓x_X4_machine_82, ↓x_X4_machine_85, ↓x_X4_machine_86, ↓x_X4_machine_87, ↓x_X4_machine_90, ↓x_X4_machine_91, ↓x_X4_machine_94, ↓x_X4_machine_95, ↓x_X4_machine_96, c1, c2, c3, d1, ↓cKI cf, not_true_eq_false, ↓reduceIte]
    · rw [if_neg d]
      have s30 : X mX4_machine 16 [aR (some 0), aI kd, aI n] [] h = X mX4_machine 30 [aR (some 0), aI kd, aI n] [] h := by
        by_cases d1 : n < 0
        · simp only [↓x_X4_machine_0, ↓x_X4_machine_1, ↓x_X4_machine_4, ↓x_X4_machine_5, ↓x_X4_machine_6, ↓x_X4_machine_9, ↓x_X4_machine_10, ↓x_X4_machine_11, ↓x_X4_machine_14, ↓x_X4_machine_15, ↓x_X4_machine_16, ↓x_X4_machine_17, ↓x_X4_machine_20, ↓x_X4_machine_21, ↓x_X4_machine_22, ↓x_X4_machine_25, ↓x_X4_machine_28, ↓x_X4_machine_29, ↓x_X4_machine_31, ↓x_X4_machine_34, ↓x_X4_machine_37, ↓x_X4_machine_38, ↓x_X4_machine_41, ↓x_X4_machine_42, ↓x_X4_machine_45, ↓x_X4_machine_46, ↓x_X4_machine_49, ↓x_X4_machine_51, ↓x_X4_machine_52, ↓x_X4_machine_53, ↓x_X4_machine_56, ↓x_X4_machine_57, ↓x_X4_machine_58, ↓x_X4_machine_61, ↓x_X4_machine_62, ↓x_X4_machine_63, ↓x_X4_machine_66, ↓x_X4_machine_67, ↓x_X4_machine_70, ↓x_X4_machine_73, ↓x_X4_machine_74, ↓x_X4_machine_75, ↓x_X4_machine_76, ↓x_X4_machine_79, ↓x_X4_machine_80, ↓x_X4_machine_81, ↓x_X4_machine_82, ↓x_X4_machine_85, ↓x_X4_machine_86, ↓x_X4_machine_87, ↓x_X4_machine_90, ↓x_X4_machine_91, ↓x_X4_machine_94, ↓x_X4_machine_95, ↓x_X4_machine_96, d1, ↓reduceIte]
        · have cf := c_fits (h := h) (kd := kd) (n := n) ⟨by omega, c3⟩
          rw [if_neg (fun q => d ⟨by omega, q⟩)] at cf
          simp only [↓x_X4_machine_0, ↓x_X4_machine_1, ↓x_X4_machine_4, ↓x_X4_machine_5, ↓x_X4_machine_6, ↓x_X4_machine_9, ↓x_X4_machine_10, ↓x_X4_machine_11, ↓x_X4_machine_14, ↓x_X4_machine_15, ↓x_X4_machine_16, ↓x_X4_machine_17, ↓x_X4_machine_20, ↓x_X4_machine_21, ↓x_X4_machine_22, ↓x_X4_machine_25, ↓x_X4_machine_28, ↓x_X4_machine_29, ↓x_X4_machine_31, ↓x_X4_machine_34, ↓x_X4_machine_37, ↓x_X4_machine_38, ↓x_X4_machine_41, ↓x_X4_machine_42, ↓x_X4_machine_45, ↓x_X4_machine_46, ↓x_X4_machine_49, ↓x_X4_machine_51, ↓x_X4_machine_52, ↓x_X4_machine_53, ↓x_X4_machine_56, ↓x_X4_machine_57, ↓x_X4_machine_58, ↓x_X4_machine_61, ↓x_X4_machine_62, ↓x_X4_machine_63, ↓x_X4_machine_66, ↓x_X4_machine_67, ↓x_X4_machine_70, ↓x_X4_machine_73, ↓x_X4_machine_74, ↓x_X4_machine_75, ↓x_X4_machine_76, ↓x_X4_machine_79, ↓x_X4_machine_80, ↓x_X4_machine_81, ↓x_X4_machine_82, ↓x_X4_machine_85, ↓x_X4_machine_86, ↓x_X4_machine_87, ↓x_X4_machine_90, ↓x_X4_machine_91, ↓x_X4_machine_94, ↓x_X4_machine_95, ↓x_X4_machine_96, d1, ↓cKI cf, z1, not_false_eq_true, ↓reduceIte]
      have s0 : X mX4_machine 0 [aR (some 0), aI kd, aI n] [] h = X mX4_machine 30 [aR (some 0), aI kd, aI n] [] h := by
        rw [← s30]
        simp only [↓x_X4_machine_0, ↓x_X4_machine_1, ↓x_X4_machine_4, ↓x_X4_machine_5, ↓x_X4_machine_6, ↓x_X4_machine_9, ↓x_X4_machine_10, ↓x_X4_machine_11, ↓x_X4_machine_14, ↓x_X4_machine_15, ↓x_X4_machine_17, ↓x_X4_machine_20, ↓x_X4_machine_21, ↓x_X4_machine_22, ↓x_X4_machine_25, ↓x_X4_machine_28, ↓x_X4_machine_29, ↓x_X4_machine_30, ↓x_X4_machine_31, ↓x_X4_machine_34, ↓x_X4_machine_37, ↓x_X4_machine_38, ↓x_X4_machine_41, ↓x_X4_machine_42, ↓x_X4_machine_45, ↓x_X4_machine_46, ↓x_X4_machine_49, ↓x_X4_machine_51, ↓x_X4_machine_52, ↓x_X4_machine_53, ↓x_X4_machine_56, ↓x_X4_machine_57, ↓x_X4_machine_58, ↓x_X4_machine_61, ↓x_X4_machine_62, ↓x_X4_machine_63, ↓x_X4_machine_66, ↓x_X4_machine_67, ↓x_X4_machine_70, ↓x_X4_machine_73, ↓x_X4_machine_74, ↓x_X4_machine_75, ↓x_X4_machine_76, ↓x_X4_machine_79, ↓x_X4_machine_80, ↓x_X4_machine_81, ↓x_X4_machine_82, ↓x_X4_machine_85, ↓x_X4_machine_86, ↓x_X4_machine_87, ↓x_X4_machine_90, ↓x_X4_machine_91, ↓x_X4_machine_94, ↓x_X4_machine_95, ↓x_X4_machine_96, c1, c2, c3, ↓reduceIte]
      rw [s0]
      by_cases c5 : S 0 6 0 0 = 16
      · rw [if_pos c5]
        refine ⟨h, ?_, C0, grow_rf⟩
        have c6 : ¬ (16 : Int) < 0 := by decide
        have c7 : ¬ (16 : Int) < ((16 : Nat) : Int) := by decide
        simp only [↓x_X4_machine_0, ↓x_X4_machine_1, ↓x_X4_machine_4, ↓x_X4_machine_5, ↓x_X4_machine_6, ↓x_X4_machine_9, ↓x_X4_machine_10, ↓x_X4_machine_11, ↓x_X4_machine_14, ↓x_X4_machine_15, ↓x_X4_machine_16, ↓x_X4_machine_17, ↓x_X4_machine_20, ↓x_X4_machine_21, ↓x_X4_machine_22, ↓x_X4_machine_25, ↓x_X4_machine_28, ↓x_X4_machine_29, ↓x_X4_machine_30, ↓x_X4_machine_31, ↓x_X4_machine_34, ↓x_X4_machine_37, ↓x_X4_machine_38, ↓x_X4_machine_41, ↓x_X4_machine_42, ↓x_X4_machine_45, ↓x_X4_machine_46, ↓x_X4_machine_49, ↓x_X4_machine_51, ↓x_X4_machine_52, ↓x_X4_machine_53, ↓x_X4_machine_56, ↓x_X4_machine_57, ↓x_X4_machine_58, ↓x_X4_machine_61, ↓x_X4_machine_62, ↓x_X4_machine_63, ↓x_X4_machine_66, ↓x_X4_machine_67, ↓x_X4_machine_70, ↓x_X4_machine_73, ↓x_X4_machine_74, ↓x_X4_machine_75, ↓x_X4_machine_76, ↓x_X4_machine_79, ↓x_X4_machine_80, ↓x_X4_machine_81, ↓x_X4_machine_82, ↓x_X4_machine_85, ↓x_X4_machine_86, ↓x_X4_machine_87, ↓x_X4_machine_90, ↓x_X4_machine_91, ↓x_X4_machine_94, ↓x_X4_machine_95, ↓x_X4_machine_96, ↓gK_of q6, ↓gK_of g0, ↓gL_of l1, c5, c6, c7, ↓reduceIte]
      · rw [if_neg c5]
        have c6 : S 0 6 0 0 < ((16 : Nat) : Int) := by omega
        by_cases c7 : n < 0
        · rw [if_pos c7]
          have c8 : ¬ 0 ≤ n := by omega
          refine ⟨_, ?_, K_fd C0 5⟩
          simp only [↓x_X4_machine_0, ↓x_X4_machine_1, ↓x_X4_machine_4, ↓x_X4_machine_5, ↓x_X4_machine_6, ↓x_X4_machine_9, ↓x_X4_machine_10, ↓x_X4_machine_11, ↓x_X4_machine_14, ↓x_X4_machine_15, ↓x_X4_machine_16, ↓x_X4_machine_17, ↓x_X4_machine_20, ↓x_X4_machine_21, ↓x_X4_machine_22, ↓x_X4_machine_25, ↓x_X4_machine_28, ↓x_X4_machine_29, ↓x_X4_machine_30, ↓x_X4_machine_31, ↓x_X4_machine_34, ↓x_X4_machine_37, ↓x_X4_machine_38, ↓x_X4_machine_41, ↓x_X4_machine_42, ↓x_X4_machine_45, ↓x_X4_machine_46, ↓x_X4_machine_49, ↓x_X4_machine_51, ↓x_X4_machine_52, ↓x_X4_machine_53, ↓x_X4_machine_56, ↓x_X4_machine_57, ↓x_X4_machine_58, ↓x_X4_machine_61, ↓x_X4_machine_62, ↓x_X4_machine_63, ↓x_X4_machine_66, ↓x_X4_machine_67, ↓x_X4_machine_70, ↓x_X4_machine_73, ↓x_X4_machine_74, ↓x_X4_machine_75, ↓x_X4_machine_76, ↓x_X4_machine_79, ↓x_X4_machine_80, ↓x_X4_machine_81, ↓x_X4_machine_82, ↓x_X4_machine_85, ↓x_X4_machine_86, ↓x_X4_machine_87, ↓x_X4_machine_90, ↓x_X4_machine_91, ↓x_X4_machine_94, ↓x_X4_machine_95, ↓x_X4_machine_96, ho, ↓gK_of q6, ↓gK_of g0, ↓gL_of l1, ↓cKI cf5, c4, c6, c8, ↓reduceIte]
        · rw [if_neg c7]
          obtain ⟨n', rfl⟩ := Int.eq_ofNat_of_zero_le (show 0 ≤ n by omega)
          rw [Int.toNat_natCast]
          have hn1 : 1 ≤ n' := by
            rcases Nat.eq_zero_or_pos n' with q | q
            · subst q
              exfalso
              refine d ⟨Int.le_refl _, Or.inl ?_⟩
              split <;> decide
            · exact q
          have c8 : (0 : Int) ≤ (n' : Int) := Int.natCast_nonneg _
          have c9 : 0 ≤ S 0 6 0 0 := f6.1
          have ek : ((mS S : Nat) : Int) = S 0 6 0 0 := by unfold mS; omega
          have ek2 : (S 0 6 0 0).toNat = mS S := rfl
          obtain ⟨h1, r1, r2⟩ := c_init1 (h0 := h) (kd := kd) (n := n') ⟨hn1, by omega⟩
          obtain ⟨⟨ex, hl, hsl⟩, ⟨g0', g1', g2', g3', g4'⟩, g5', ⟨l1', l2', l3'⟩, p1', w1', o1', o2', fr'⟩ := r2
          have J1 := CJ.ext (⟨G, K, P⟩ : CJ S h mb sb own) ex (1 + mS S)
          have h11 : 10 < h.length := ln_lt G.2.2.2.1.2.2.2
          have nn := nn_b (show n' ≤ 5 by omega)
          generalize hc : h.length = c at *
          obtain ⟨G1, K1, P1, P2, P3, P4⟩ := J1
          have s16 : mS S < 16 := by unfold mS; omega
          obtain ⟨v1, hv1⟩ := G1.2.2.2.2.2.2.2.1 (mS S) s16
          have t1 : tagR h1 1 = 12 := tag_rd hv1
          have o1 : isO h1 1 c = true := isO_rd g0'
          have sB : SameR (fun t x => t = 12 ∧ x = 1) h1 (wr h1 12 1 (mS S) (aR (some c))) := SameR.wr ⟨rfl, rfl⟩
          have q61 : rd (wr h1 12 1 (mS S) (aR (some c))) 4 0 6 = some (aI (S 0 6 0 0)) := by rw [rd_wn (Or.inl (by decide))]; exact G1.2.1 6 (by decide) (by decide)
          have sC : SameR (fun t x => t = 4 ∧ x = 0) (wr h1 12 1 (mS S) (aR (some c))) (wr (wr h1 12 1 (mS S) (aR (some c))) 4 0 6 (aI (S 0 6 0 0 + 1))) := SameR.wr ⟨rfl, rfl⟩
          have sBC : SameR (fun t x => (t = 12 ∧ x = 1) ∨ (t = 4 ∧ x = 0)) h1 (wr (wr h1 12 1 (mS S) (aR (some c))) 4 0 6 (aI (S 0 6 0 0 + 1))) := (sB.up fun t x z => Or.inl z).tr (sC.up fun t x z => Or.inr z)
          have GB : GI S (wr h1 12 1 (mS S) (aR (some c))) := by
            obtain ⟨⟨f0, f1, f2, f3, f4, f5⟩, fi, fj, ⟨l1, l2, l3, l4⟩, ft, ks, tl, am, as⟩ := G1
            refine ⟨⟨by rw [rd_wn (Or.inl (by decide))]; exact f0, by rw [rd_wn (Or.inl (by decide))]; exact f1, by rw [rd_wn (Or.inl (by decide))]; exact f2, by rw [rd_wn (Or.inl (by decide))]; exact f3, by rw [rd_wn (Or.inl (by decide))]; exact f4, by rw [rd_wn (Or.inl (by decide))]; exact f5⟩, fun k a b => by rw [rd_wn (Or.inl (by decide))]; exact fi k a b, fun k a b => by rw [rd_wn (Or.inl (by decide))]; exact fj k a b, ⟨by rw [ln_wr]; exact l1, by rw [ln_wr]; exact l2, by rw [ln_wr]; exact l3, by rw [ln_wr]; exact l4⟩, fun k a => by rw [rd_wn (Or.inl (by decide))]; exact ft k a, fun k a => by rw [rd_wn (Or.inl (by decide))]; exact ks k a, fun k a => by rw [rd_wn (Or.inl (by decide))]; exact tl k a, fun k a => ?_, fun k a => by rw [rd_wn (Or.inl (by decide))]; exact as k a⟩
            by_cases e : k = mS S
            · subst e; exact ⟨_, rd_wr hv1⟩
            · rw [rd_wn (Or.inr (Or.inr e))]; exact am k a
          have GC : GI (nmS S kd n') (wr (wr h1 12 1 (mS S) (aR (some c))) 4 0 6 (aI (S 0 6 0 0 + 1))) := (GB.wI (k := 6) (by decide) (S 0 6 0 0 + 1)).congr nm_ag
          have em : mS (nmS S kd n') = mS S + 1 := by unfold mS nmS; rw [ups_s]; omega
          have es : sS (nmS S kd n') = sS S := by unfold sS nmS; rw [ups_a (by decide), zmS_t (by decide)]
          have ow : ∀ x, (if x < c then own x else if x < h1.length then 1 + mS S else 0) = (fun x => if x < c then own x else if x < h1.length then 1 + mS S else 0) x := fun x => rfl
          generalize (fun x => if x < c then own x else if x < h1.length then 1 + mS S else 0) = own1 at *
          have h3 : ∀ t x, ((t = 12 ∧ x = 1) ∨ (t = 4 ∧ x = 0)) → own1 x = 0 := fun t x z => P3 x (by omega)
          refine ⟨wr (wr h1 12 1 (mS S) (aR (some c))) 4 0 6 (aI (S 0 6 0 0 + 1)), ?_, ⟨GC, K1.same2 (fun t x z => by omega) sBC, (fun j => if j = mS S then c else mb j), sb, own1, fun m hm => ?_, fun k hk => ?_, P3, fun x hx => P4 x (by rw [wr_len, wr_len] at hx; exact hx)⟩, ⟨by rw [wr_len, wr_len]; omega, by rw [wr_slt, wr_slt]; omega⟩⟩
          · have e1 : w32 (S 0 6 0 0 + 1) = S 0 6 0 0 + 1 := by rw [w32_in] <;> omega
            have e2 : w32 (S 0 6 0 0 + 1 - 1) = S 0 6 0 0 := by rw [w32_in] <;> omega
            have q62 : rd (wr (wr h1 12 1 (mS S) (aR (some c))) 4 0 6 (aI (S 0 6 0 0 + 1))) 4 0 6 = some (aI (S 0 6 0 0 + 1)) := rd_wr q61
            simp only [↓x_X4_machine_0, ↓x_X4_machine_1, ↓x_X4_machine_4, ↓x_X4_machine_5, ↓x_X4_machine_6, ↓x_X4_machine_9, ↓x_X4_machine_10, ↓x_X4_machine_11, ↓x_X4_machine_14, ↓x_X4_machine_15, ↓x_X4_machine_16, ↓x_X4_machine_17, ↓x_X4_machine_20, ↓x_X4_machine_21, ↓x_X4_machine_22, ↓x_X4_machine_25, ↓x_X4_machine_28, ↓x_X4_machine_29, ↓x_X4_machine_30, ↓x_X4_machine_31, ↓x_X4_machine_34, ↓x_X4_machine_37, ↓x_X4_machine_38, ↓x_X4_machine_41, ↓x_X4_machine_42, ↓x_X4_machine_45, ↓x_X4_machine_46, ↓x_X4_machine_49, ↓x_X4_machine_51, ↓x_X4_machine_52, ↓x_X4_machine_53, ↓x_X4_machine_56, ↓x_X4_machine_57, ↓x_X4_machine_58, ↓x_X4_machine_61, ↓x_X4_machine_62, ↓x_X4_machine_63, ↓x_X4_machine_66, ↓x_X4_machine_67, ↓x_X4_machine_70, ↓x_X4_machine_73, ↓x_X4_machine_74, ↓x_X4_machine_75, ↓x_X4_machine_76, ↓x_X4_machine_80, ↓x_X4_machine_81, ↓x_X4_machine_82, ↓x_X4_machine_85, ↓x_X4_machine_86, ↓x_X4_machine_87, ↓x_X4_machine_90, ↓x_X4_machine_91, ↓x_X4_machine_94, ↓x_X4_machine_95, ↓x_X4_machine_96, ho, ↓gK_of q6, ↓gK_of g0, ↓gL_of l1, c4, c6, c8, hc, ↓cKV r1, ↓reduceIte]
            rw [x_X4_machine_79 t1 o1, if_pos c9, ek2, pK_of hv1]
            simp only [↓x_X4_machine_0, ↓x_X4_machine_1, ↓x_X4_machine_4, ↓x_X4_machine_5, ↓x_X4_machine_6, ↓x_X4_machine_9, ↓x_X4_machine_10, ↓x_X4_machine_11, ↓x_X4_machine_14, ↓x_X4_machine_15, ↓x_X4_machine_16, ↓x_X4_machine_17, ↓x_X4_machine_20, ↓x_X4_machine_21, ↓x_X4_machine_22, ↓x_X4_machine_25, ↓x_X4_machine_28, ↓x_X4_machine_29, ↓x_X4_machine_30, ↓x_X4_machine_31, ↓x_X4_machine_34, ↓x_X4_machine_37, ↓x_X4_machine_38, ↓x_X4_machine_41, ↓x_X4_machine_42, ↓x_X4_machine_45, ↓x_X4_machine_46, ↓x_X4_machine_49, ↓x_X4_machine_51, ↓x_X4_machine_52, ↓x_X4_machine_53, ↓x_X4_machine_56, ↓x_X4_machine_57, ↓x_X4_machine_58, ↓x_X4_machine_61, ↓x_X4_machine_62, ↓x_X4_machine_63, ↓x_X4_machine_66, ↓x_X4_machine_67, ↓x_X4_machine_70, ↓x_X4_machine_73, ↓x_X4_machine_74, ↓x_X4_machine_75, ↓x_X4_machine_76, ↓x_X4_machine_80, ↓x_X4_machine_81, ↓x_X4_machine_82, ↓x_X4_machine_85, ↓x_X4_machine_86, ↓x_X4_machine_87, ↓x_X4_machine_90, ↓x_X4_machine_91, ↓x_X4_machine_94, ↓x_X4_machine_95, ↓x_X4_machine_96, ↓gK_of q61, e1, ↓pK_of q61, ↓gK_of q62, e2]
          · rw [em] at hm
            by_cases e : m = mS S
            · subst e
              show PM (nmS S kd n') _ (fun j => if j = mS S then c else mb j) own1 (mS S)
              obtain ⟨q0, q1, q6, q7, qp, qw⟩ := nm_1 (S := S) (kd := kd) (n := n')
              have en : nS (nmS S kd n') (mS S) = n' := by unfold nS; rw [q1, Int.toNat_natCast]
              have es1 : (fun j => if j = mS S then c else mb j) (mS S) = c := if_pos rfl
              unfold PM MP
              rw [es1, q0, q6, q7, en]
              refine ⟨by rw [rd_wn (Or.inl (by decide))]; exact rd_wr hv1, by omega, ⟨⟨⟨by omega, by omega⟩, by rw [sBC.1 _ _ _ (by omega)]; exact g0', by rw [sBC.1 _ _ _ (by omega)]; exact g1', by rw [sBC.1 _ _ _ (by omega)]; exact g2', by rw [sBC.1 _ _ _ (by omega)]; exact g3', by rw [sBC.1 _ _ _ (by omega)]; exact g4', by rw [sBC.2.2.1]; exact l1', by rw [sBC.2.2.1]; exact l2', by rw [sBC.2.2.1]; exact l3', fun j hj => ?_, fun s t hs ht => ?_, fun j hj => by rw [sBC.1 _ _ _ (by omega)]; exact o2' j hj⟩, ⟨0, by rw [sBC.1 _ _ _ (by omega)]; exact g5' 5 (by decide) (by decide), fun z => absurd rfl z⟩, by rw [sBC.1 _ _ _ (by omega)]; exact g5' 6 (by decide) (by decide), by rw [sBC.1 _ _ _ (by omega)]; exact g5' 7 (by decide) (by decide), fun u hu => ⟨_, _, by rw [sBC.1 _ _ _ (by omega)]; exact (fr' u hu).1, by rw [sBC.1 _ _ _ (by omega)]; exact (fr' u hu).2⟩⟩, fun i hi => ?_⟩
              · show _ = some (aI (nmS S kd n' 2 (mS S) j 0))
                rw [qp, sBC.1 _ _ _ (by omega)]; exact p1' j hj
              · show _ = some (aI (nmS S kd n' 3 (mS S) s t))
                rw [qw, sBC.1 _ _ _ (by omega), w1' s t hs ht]
                by_cases e2 : t = nxt kd n' s
                · rw [if_pos ⟨hs, e2⟩, if_pos e2]
                · rw [if_neg (fun z => e2 z.2), if_neg e2]
              · rw [← ow, if_neg (by omega), if_pos (by omega)]
            · obtain ⟨b1, b2, b3, b4⟩ := P1 m (by omega)
              have es1 : (fun j => if j = mS S then c else mb j) m = mb m := if_neg e
              have g := nm_am (S := S) (kd := kd) (n := n') e
              have en : nS (nmS S kd n') m = nS S m := by unfold nS; rw [g.1]
              unfold PM
              rw [es1, en]
              exact ⟨by rw [rd_wn (Or.inl (by decide)), rd_wn (Or.inr (Or.inr e))]; exact b1, b2, (b3.same (fun i hi t z => by have := h3 t _ z; have := b4 i hi; omega) sBC).congr g, b4⟩
          · rw [es] at hk
            exact (P2 k hk).go (nm_as k) sBC (fun t z => by omega) (fun t x z => by have := h3 t x z; omega)
