/-! ===== the reference: the play, what is told ===== -/
theorem rV_11 {S : SS} {v : Int} (a k : Nat) : rV (ups S 0 11 0 0 v) a k = rV S a k := by
  match a with
  | 0 =>
    match k with
      | 0 => rfl
      | 1 => rfl
      | 2 => rfl
      | 3 => rfl
      | 4 => rfl
      | 5 => rfl
      | 6 => rfl
      | 7 => rfl
      | 8 => rfl
      | 9 => rfl
      | 10 => rfl
      | 11 => rfl
      | 12 => rfl
      | 13 => rfl
      | 14 => rfl
      | 15 => rfl
      | 16 => rfl
      | 17 => rfl
      | 18 => rfl
      | 19 => rfl
      | 20 => rfl
      | 21 => rfl
      | 22 => rfl
      | 23 => rfl
      | 24 => rfl
      | 25 => rfl
      | 26 => rfl
      | 27 => rfl
      | 28 => rfl
      | 29 => rfl
      | _ + 30 => rfl
  | 1 => rfl
  | 2 => rfl
  | 3 => rfl
  | 4 => rfl
  | 5 => rfl
  | 6 => rfl
  | 7 => rfl
  | 8 => rfl
  | 9 => rfl
  | 10 => rfl
  | 11 => rfl
  | 12 => rfl
  | 13 => rfl
  | 14 => rfl
  | 15 => rfl
  | 16 => rfl
  | 17 => rfl
  | _ + 18 => rfl
theorem RB0.k11 {S : SS} {h : AH} (H : RB0 S h) (v : Int) : RB0 (ups S 0 11 0 0 v) h := ⟨H.1, fun a k w q => H.2 a k w (by rw [← rV_11 (v := v)]; exact q)⟩
theorem ups_comm {S : SS} {t a b c t' a' b' c' : Nat} {v v' : Int} (h : ¬ (t = t' ∧ a = a' ∧ b = b' ∧ c = c')) : ups (ups S t a b c v) t' a' b' c' v' = ups (ups S t' a' b' c' v') t a b c v := by
  funext x y z u
  unfold ups
  by_cases c1 : x = t' ∧ y = a' ∧ z = b' ∧ u = c'
  · rw [if_pos c1, if_neg (fun q => h ⟨q.1.symm.trans c1.1, q.2.1.symm.trans c1.2.1, q.2.2.1.symm.trans c1.2.2.1, q.2.2.2.symm.trans c1.2.2.2⟩), if_pos c1]
  · rw [if_neg c1, if_neg c1]
theorem wk_rn {S : SS} {k b : Nat} (h : k < 200) : wkS (rnK S k b) b = ups (ups (wkS S b) 7 k 0 0 (b : Int)) 0 11 0 0 ((k + 1 : Nat) : Int) := by
  have e : rnK S k b = ups (ups S 7 k 0 0 (b : Int)) 0 11 0 0 ((k + 1 : Nat) : Int) := if_pos h
  rw [e]
  have e2 : wkS (ups (ups S 7 k 0 0 (b : Int)) 0 11 0 0 ((k + 1 : Nat) : Int)) b = ups (ups (ups (ups (ups (ups S 7 k 0 0 (b : Int)) 0 11 0 0 ((k + 1 : Nat) : Int)) 0 10 0 0 (sdN (S 0 10 0 0))) 1 b 6 0 (wkG S b : Nat)) 1 b 7 0 (w32 (S 1 b 7 0 + 1))) 0 14 0 0 (w64 (S 0 14 0 0 + S 2 b (stS S b) 0)) := rfl
  rw [e2]
  unfold wkS
  rw [ups_comm (t := 0) (a := 11) (t' := 0) (a' := 10) (by omega), ups_comm (t := 7) (t' := 0) (a' := 10) (by omega)]
  rw [ups_comm (t := 0) (a := 11) (t' := 1) (b' := 6) (by omega), ups_comm (t := 7) (t' := 1) (b' := 6) (by omega)]
  rw [ups_comm (t := 0) (a := 11) (t' := 1) (b' := 7) (by omega), ups_comm (t := 7) (t' := 1) (b' := 7) (by omega)]
  rw [ups_comm (t := 0) (a := 11) (t' := 0) (a' := 14) (by omega), ups_comm (t := 7) (t' := 0) (a' := 14) (by omega)]
theorem wk_ord {S : SS} {m : Nat} {v1 v2 v3 v4 : Int} : ups (ups (ups (ups S 0 14 0 0 v1) 1 m 7 0 v2) 0 10 0 0 v3) 1 m 6 0 v4 = ups (ups (ups (ups S 0 10 0 0 v3) 1 m 6 0 v4) 1 m 7 0 v2) 0 14 0 0 v1 := by
  rw [ups_comm (t := 0) (a := 14) (t' := 1) (b' := 7) (by omega), ups_comm (t := 0) (a := 14) (t' := 0) (a' := 10) (by omega), ups_comm (t := 0) (a := 14) (t' := 1) (b' := 6) (by omega)]
  rw [ups_comm (t := 1) (b := 7) (t' := 0) (a' := 10) (by omega), ups_comm (t := 1) (b := 7) (t' := 1) (b' := 6) (by omega)]
section WK
variable {S : SS} {m : Nat}
theorem lr_wk (F : WF S) (hm : m < mS S) {h : AH} (q15 : rd h 5 0 15 = some (aR (some 10))) (qw : ∀ t, t < nS S m → rd h 10 10 (25 * m + 5 * stS S m + t) = some (aI (S 3 m (stS S m) t))) {d vp : Int} (hd : d < sumI (wS S m (stS S m)) (nS S m)) : ∀ (k t : Nat), t + k = nS S m → sumI (wS S m (stS S m)) t ≤ d →
    ∃ v6, X mX5_works 95 [aR (some 0), aI m, aI (stS S m : Nat), aI vp, aI d, aI t, aI (sumI (wS S m (stS S m)) (t + 1))] [] h = X mX5_works 129 [aR (some 0), aI m, aI (stS S m : Nat), aI vp, aI d, aI (glF (wS S m (stS S m)) d k t : Nat), v6] [] h := by
  obtain ⟨hn, en, hpy, hw⟩ := F.m hm
  obtain ⟨hs, es⟩ := F.st hm
  have f6 := F.1.1
  have m16 : m < 16 := by unfold mS at hm; omega
  have s5 : stS S m < 5 := by omega
  intro k
  induction k with
  | zero =>
    intro t e q
    rw [Nat.add_zero] at e
    subst e
    omega
  | succ k ih =>
    intro t e q
    rw [glF]
    by_cases c : d < sumI (wS S m (stS S m)) (t + 1)
    · rw [if_pos c]
      refine ⟨aI (sumI (wS S m (stS S m)) (t + 1)), ?_⟩
      rw [x_X5_works_95]
      simp only [↓x_X5_works_0, ↓x_X5_works_1, ↓x_X5_works_4, ↓x_X5_works_5, ↓x_X5_works_6, ↓x_X5_works_7, ↓x_X5_works_8, ↓x_X5_works_11, ↓x_X5_works_12, ↓x_X5_works_13, ↓x_X5_works_14, ↓x_X5_works_15, ↓x_X5_works_16, ↓x_X5_works_17, ↓x_X5_works_18, ↓x_X5_works_19, ↓x_X5_works_20, ↓x_X5_works_23, ↓x_X5_works_24, ↓x_X5_works_25, ↓x_X5_works_26, ↓x_X5_works_29, ↓x_X5_works_30, ↓x_X5_works_33, ↓x_X5_works_34, ↓x_X5_works_35, ↓x_X5_works_36, ↓x_X5_works_37, ↓x_X5_works_38, ↓x_X5_works_39, ↓x_X5_works_40, ↓x_X5_works_41, ↓x_X5_works_44, ↓x_X5_works_45, ↓x_X5_works_48, ↓x_X5_works_49, ↓x_X5_works_52, ↓x_X5_works_53, ↓x_X5_works_56, ↓x_X5_works_57, ↓x_X5_works_58, ↓x_X5_works_61, ↓x_X5_works_62, ↓x_X5_works_65, ↓x_X5_works_67, ↓x_X5_works_68, ↓x_X5_works_69, ↓x_X5_works_70, ↓x_X5_works_71, ↓x_X5_works_74, ↓x_X5_works_75, ↓x_X5_works_77, ↓x_X5_works_78, ↓x_X5_works_80, ↓x_X5_works_81, ↓x_X5_works_84, ↓x_X5_works_86, ↓x_X5_works_87, ↓x_X5_works_88, ↓x_X5_works_89, ↓x_X5_works_90, ↓x_X5_works_91, ↓x_X5_works_92, ↓x_X5_works_93, ↓x_X5_works_97, ↓x_X5_works_99, ↓x_X5_works_102, ↓x_X5_works_105, ↓x_X5_works_107, ↓x_X5_works_108, ↓x_X5_works_111, ↓x_X5_works_113, ↓x_X5_works_114, ↓x_X5_works_115, ↓x_X5_works_116, ↓x_X5_works_117, ↓x_X5_works_118, ↓x_X5_works_119, ↓x_X5_works_121, ↓x_X5_works_122, ↓x_X5_works_123, ↓x_X5_works_124, ↓x_X5_works_126, ↓x_X5_works_130, ↓x_X5_works_133, ↓x_X5_works_134, ↓x_X5_works_136, ↓x_X5_works_137, ↓x_X5_works_138, c, ↓reduceIte]
    · rw [if_neg c]
      have htn : t + 1 < nS S m := by
        rcases Nat.lt_or_ge (t + 1) (nS S m) with g | g
        · exact g
        · have : t + 1 = nS S m := by omega
          rw [this] at c
          exact absurd hd c
      obtain ⟨v6, i⟩ := ih (t + 1) (by omega) (by omega)
      refine ⟨v6, ?_⟩
      have t5 : t + 1 < 5 := by omega
      have ht5 : t ≤ 1000 := by omega
      have j0 : (0 : Int) ≤ ((25 * m + 5 * stS S m + (t + 1) : Nat) : Int) := Int.natCast_nonneg _
      have r := qw (t + 1) htn
      have b1 := sumI_b (f := wS S m (stS S m)) (n := t + 1) (lo := 0) (hi := 10) (fun j hj => (hw _ hs).1 j (by omega))
      have b2 : 0 ≤ S 3 m (stS S m) (t + 1) ∧ S 3 m (stS S m) (t + 1) ≤ 10 := (hw _ hs).1 (t + 1) htn
      have e6 : w32 (sumI (wS S m (stS S m)) (t + 1) + S 3 m (stS S m) (t + 1)) = sumI (wS S m (stS S m)) (t + 1 + 1) := by
        show _ = sumI (wS S m (stS S m)) (t + 1) + S 3 m (stS S m) (t + 1)
        rw [w32_in] <;> omega
      rw [← i, x_X5_works_95]
      simp only [↓x_X5_works_0, ↓x_X5_works_1, ↓x_X5_works_4, ↓x_X5_works_5, ↓x_X5_works_6, ↓x_X5_works_7, ↓x_X5_works_8, ↓x_X5_works_11, ↓x_X5_works_12, ↓x_X5_works_13, ↓x_X5_works_14, ↓x_X5_works_15, ↓x_X5_works_16, ↓x_X5_works_17, ↓x_X5_works_18, ↓x_X5_works_19, ↓x_X5_works_20, ↓x_X5_works_23, ↓x_X5_works_24, ↓x_X5_works_25, ↓x_X5_works_26, ↓x_X5_works_29, ↓x_X5_works_30, ↓x_X5_works_33, ↓x_X5_works_34, ↓x_X5_works_35, ↓x_X5_works_36, ↓x_X5_works_37, ↓x_X5_works_38, ↓x_X5_works_39, ↓x_X5_works_40, ↓x_X5_works_41, ↓x_X5_works_44, ↓x_X5_works_45, ↓x_X5_works_48, ↓x_X5_works_49, ↓x_X5_works_52, ↓x_X5_works_53, ↓x_X5_works_56, ↓x_X5_works_57, ↓x_X5_works_58, ↓x_X5_works_61, ↓x_X5_works_62, ↓x_X5_works_65, ↓x_X5_works_67, ↓x_X5_works_68, ↓x_X5_works_69, ↓x_X5_works_70, ↓x_X5_works_71, ↓x_X5_works_74, ↓x_X5_works_75, ↓x_X5_works_77, ↓x_X5_works_78, ↓x_X5_works_80, ↓x_X5_works_81, ↓x_X5_works_84, ↓x_X5_works_86, ↓x_X5_works_87, ↓x_X5_works_88, ↓x_X5_works_89, ↓x_X5_works_90, ↓x_X5_works_91, ↓x_X5_works_92, ↓x_X5_works_93, ↓x_X5_works_97, ↓x_X5_works_99, ↓x_X5_works_102, ↓x_X5_works_105, ↓x_X5_works_107, ↓x_X5_works_108, ↓x_X5_works_111, ↓x_X5_works_113, ↓x_X5_works_114, ↓x_X5_works_115, ↓x_X5_works_116, ↓x_X5_works_117, ↓x_X5_works_118, ↓x_X5_works_119, ↓x_X5_works_121, ↓x_X5_works_122, ↓x_X5_works_123, ↓x_X5_works_124, ↓x_X5_works_126, ↓x_X5_works_130, ↓x_X5_works_133, ↓x_X5_works_134, ↓x_X5_works_136, ↓x_X5_works_137, ↓x_X5_works_138, c, ↓gK_of q15, w32_s ht5, (w25m m16 s5 t5).1, (w25m m16 s5 t5).2.1, (w25m m16 s5 t5).2.2, (w5m (show stS S m < 16 by omega) (show 0 < 5 by decide)).1, j0, Int.toNat_natCast, gK_of r, e6, ↓reduceIte]
theorem c_works (F : WF S) (hm : m < mS S) {h : AH} (H : RB0 S h) : ∃ h', E mX5_works [aR (some 0), aI m] h = some (some (aI (S 2 m (stS S m) 0)), h') ∧ RB0 (wkS S m) h' ∧ L0 h h' ∧ rd h' 5 0 28 = rd h 5 0 28 := by
  obtain ⟨hn, en, hpy, hw⟩ := F.m hm
  obtain ⟨hs, es⟩ := F.st hm
  have f6 := F.1.1
  have f10 := F.1.2.2.2.1
  have m16 : m < 16 := by unfold mS at hm; omega
  have s5 : stS S m < 5 := by omega
  have m0 : (0 : Int) ≤ (m : Int) := Int.natCast_nonneg _
  have j2 : (0 : Int) ≤ ((5 * m + stS S m : Nat) : Int) := Int.natCast_nonneg _
  have q13 := H.f 13 rfl
  have q14 := H.f 14 rfl
  have q27 := H.f 27 rfl
  have q8 := H.r8 hm
  rw [← es] at q8
  have qp := H.r9 hm (s := stS S m) hs s5
  have hb := (hw _ hs).2
  have hsd := sdN_b (S 0 10 0 0)
  -- the four writes
  have B1 := H.f27 (w64 (S 0 14 0 0 + S 2 m (stS S m) 0))
  have B2 := B1.a11 m m16 (w32 (S 1 m 7 0 + 1))
  have B3 := B2.f26 (sdN (S 0 10 0 0))
  have B4 := B3.a8 m m16 (wkG S m : Nat)
  rw [wk_ord] at B4
  have F3 := ((F.g12 (k := 14) (by decide) (w64 (S 0 14 0 0 + S 2 m (stS S m) 0))).stp (m := m) (w32 (S 1 m 7 0 + 1))).seed hsd
  have q16 : rd (wr h 5 0 27 (aJ (w64 (S 0 14 0 0 + S 2 m (stS S m) 0)))) 5 0 16 = some (aR (some 11)) := by rw [rd_wn (Or.inr (Or.inr (by decide)))]; exact H.f 16 rfl
  have q11 : rd (wr h 5 0 27 (aJ (w64 (S 0 14 0 0 + S 2 m (stS S m) 0)))) 10 11 m = some (aI (S 1 m 7 0)) := by rw [rd_wn (Or.inl (by decide))]; exact H.r11 hm
  have q26 : rd (wr (wr h 5 0 27 (aJ (w64 (S 0 14 0 0 + S 2 m (stS S m) 0)))) 10 11 m (aI (w32 (S 1 m 7 0 + 1)))) 5 0 26 = some (aI (S 0 10 0 0)) := by rw [rd_wn (Or.inl (by decide)), rd_wn (Or.inr (Or.inr (by decide)))]; exact H.f 26 rfl
  have r28 : rd (wr (wr (wr (wr h 5 0 27 (aJ (w64 (S 0 14 0 0 + S 2 m (stS S m) 0)))) 10 11 m (aI (w32 (S 1 m 7 0 + 1)))) 5 0 26 (aI (sdN (S 0 10 0 0)))) 10 8 m (aI (wkG S m : Nat))) 5 0 28 = rd h 5 0 28 := by rw [rd_wn (Or.inl (by decide)), rd_wn (Or.inr (Or.inr (by decide))), rd_wn (Or.inl (by decide)), rd_wn (Or.inr (Or.inr (by decide)))]
  have rO : ∀ t x k, t ≠ 5 → x ≠ 11 → rd (wr (wr (wr h 5 0 27 (aJ (w64 (S 0 14 0 0 + S 2 m (stS S m) 0)))) 10 11 m (aI (w32 (S 1 m 7 0 + 1)))) 5 0 26 (aI (sdN (S 0 10 0 0)))) t x k = rd h t x k := fun t x k h1 h2 => by rw [rd_wn (Or.inl h1), rd_wn (Or.inr (Or.inl h2)), rd_wn (Or.inl h1)]
  have q26' : rd (wr (wr (wr h 5 0 27 (aJ (w64 (S 0 14 0 0 + S 2 m (stS S m) 0)))) 10 11 m (aI (w32 (S 1 m 7 0 + 1)))) 5 0 26 (aI (sdN (S 0 10 0 0)))) 5 0 26 = some (aI (sdN (S 0 10 0 0))) := rd_wr q26
  have q8' : rd (wr (wr (wr h 5 0 27 (aJ (w64 (S 0 14 0 0 + S 2 m (stS S m) 0)))) 10 11 m (aI (w32 (S 1 m 7 0 + 1)))) 5 0 26 (aI (sdN (S 0 10 0 0)))) 10 8 m = some (aI (stS S m : Nat)) := by rw [rO _ _ _ (by decide) (by decide)]; exact q8
  have q15' := B3.f 15 rfl
  have q13' := B3.f 13 rfl
  have ho3 : isO (wr (wr (wr h 5 0 27 (aJ (w64 (S 0 14 0 0 + S 2 m (stS S m) 0)))) 10 11 m (aI (w32 (S 1 m 7 0 + 1)))) 5 0 26 (aI (sdN (S 0 10 0 0)))) 5 0 = true := isO_rd q26'
  have qw : ∀ t, t < nS S m → rd (wr (wr (wr h 5 0 27 (aJ (w64 (S 0 14 0 0 + S 2 m (stS S m) 0)))) 10 11 m (aI (w32 (S 1 m 7 0 + 1)))) 5 0 26 (aI (sdN (S 0 10 0 0)))) 10 10 (25 * m + 5 * stS S m + t) = some (aI (S 3 m (stS S m) t)) := fun t ht => by
    have r := H.r10 hm (s := stS S m) (t := t) hs s5 (by omega)
    rw [if_pos ht] at r
    rw [rO _ _ _ (by decide) (by decide)]
    exact r
  have cs := c_sum F3 B3 (m := (m : Int)) (s := (stS S m : Nat)) ⟨by omega, by show (m : Int) < S 0 6 0 0; unfold mS at hm; omega⟩ ⟨by omega, by rw [Int.toNat_natCast, ups_t (by decide), ups_b (by decide), ups_t (by decide)]; omega⟩
  rw [Int.toNat_natCast, Int.toNat_natCast] at cs
  have en3 : nS (ups (ups (ups S 0 14 0 0 (w64 (S 0 14 0 0 + S 2 m (stS S m) 0))) 1 m 7 0 (w32 (S 1 m 7 0 + 1))) 0 10 0 0 (sdN (S 0 10 0 0))) m = nS S m := by unfold nS; rw [ups_t (by decide), ups_b (by decide), ups_t (by decide)]
  rw [en3] at cs
  have cs' : E mX5_sum [aR (some 0), aI m, aI (stS S m : Nat)] (wr (wr (wr h 5 0 27 (aJ (w64 (S 0 14 0 0 + S 2 m (stS S m) 0)))) 10 11 m (aI (w32 (S 1 m 7 0 + 1)))) 5 0 26 (aI (sdN (S 0 10 0 0)))) = some (some (aI (sumI (wS S m (stS S m)) (nS S m))), _) := cs
  clear cs
  have w0 := qw 0 (by omega)
  rw [Nat.add_zero] at w0
  have dq : 0 ≤ sdN (S 0 10 0 0) / 65536 := by omega
  have hdr : sdN (S 0 10 0 0) / 65536 % sumI (wS S m (stS S m)) (nS S m) < sumI (wS S m (stS S m)) (nS S m) := Int.emod_lt_of_pos _ (by omega)
  have hdr0 : 0 ≤ sdN (S 0 10 0 0) / 65536 % sumI (wS S m (stS S m)) (nS S m) := Int.emod_nonneg _ (by omega)
  obtain ⟨v6, lw⟩ := lr_wk F hm q15' qw (vp := S 2 m (stS S m) 0) hdr (nS S m) 0 (by omega) hdr0
  have j3 : (0 : Int) ≤ ((25 * m + 5 * stS S m : Nat) : Int) := Int.natCast_nonneg _
  have e7 : sumI (wS S m (stS S m)) (0 + 1) = S 3 m (stS S m) 0 := by rw [sumI, sumI, Int.zero_add]
  rw [e7] at lw
  refine ⟨_, ?_, B4, ((L0.w.tr L0.w).tr L0.w).tr L0.w, r28⟩
  have z1 : ¬ (2147483648 : Int) = 0 := by decide
  have z2 : ¬ (65536 : Int) = 0 := by decide
  have z3 : ¬ sumI (wS S m (stS S m)) (nS S m) = 0 := by omega
  have a1 : w64 (S 0 10 0 0 * 1103515245) = S 0 10 0 0 * 1103515245 := by rw [w64_in] <;> omega
  have a2 : w64 (S 0 10 0 0 * 1103515245 + 12345) = S 0 10 0 0 * 1103515245 + 12345 := by clear a1; rw [w64_in] <;> omega
  have a3 : (S 0 10 0 0 * 1103515245 + 12345).tmod 2147483648 = sdN (S 0 10 0 0) := Int.tmod_eq_emod_of_nonneg (by clear a1 a2; omega)
  have a4 : w32 (sdN (S 0 10 0 0)) = sdN (S 0 10 0 0) := by clear a1 a2 a3; rw [w32_in] <;> omega
  have a5 : (sdN (S 0 10 0 0)).tdiv 65536 = sdN (S 0 10 0 0) / 65536 := Int.tdiv_eq_ediv_of_nonneg hsd.1
  have a6 : w32 (sdN (S 0 10 0 0) / 65536) = sdN (S 0 10 0 0) / 65536 := by clear a1 a2 a3 a4 a5; rw [w32_in] <;> omega
  have a7 : (sdN (S 0 10 0 0) / 65536).tmod (sumI (wS S m (stS S m)) (nS S m)) = sdN (S 0 10 0 0) / 65536 % sumI (wS S m (stS S m)) (nS S m) := Int.tmod_eq_emod_of_nonneg dq
  have s61 : E mX5_works [aR (some 0), aI m] h = X mX5_works 61 [aR (some 0), aI m, aI (stS S m : Nat), aI (S 2 m (stS S m) 0), aU, aU, aU] [] (wr (wr (wr h 5 0 27 (aJ (w64 (S 0 14 0 0 + S 2 m (stS S m) 0)))) 10 11 m (aI (w32 (S 1 m 7 0 + 1)))) 5 0 26 (aI (sdN (S 0 10 0 0)))) := by
    rw [e_X5_works]
    simp only [↓x_X5_works_0, ↓x_X5_works_1, ↓x_X5_works_4, ↓x_X5_works_5, ↓x_X5_works_6, ↓x_X5_works_7, ↓x_X5_works_8, ↓x_X5_works_11, ↓x_X5_works_12, ↓x_X5_works_13, ↓x_X5_works_14, ↓x_X5_works_15, ↓x_X5_works_16, ↓x_X5_works_17, ↓x_X5_works_18, ↓x_X5_works_19, ↓x_X5_works_20, ↓x_X5_works_23, ↓x_X5_works_24, ↓x_X5_works_25, ↓x_X5_works_26, ↓x_X5_works_29, ↓x_X5_works_30, ↓x_X5_works_33, ↓x_X5_works_34, ↓x_X5_works_35, ↓x_X5_works_36, ↓x_X5_works_37, ↓x_X5_works_38, ↓x_X5_works_39, ↓x_X5_works_40, ↓x_X5_works_41, ↓x_X5_works_44, ↓x_X5_works_45, ↓x_X5_works_48, ↓x_X5_works_49, ↓x_X5_works_52, ↓x_X5_works_53, ↓x_X5_works_56, ↓x_X5_works_57, ↓x_X5_works_58, ↓x_X5_works_62, ↓x_X5_works_65, ↓x_X5_works_67, ↓x_X5_works_68, ↓x_X5_works_69, ↓x_X5_works_70, ↓x_X5_works_71, ↓x_X5_works_74, ↓x_X5_works_75, ↓x_X5_works_77, ↓x_X5_works_78, ↓x_X5_works_80, ↓x_X5_works_81, ↓x_X5_works_84, ↓x_X5_works_86, ↓x_X5_works_87, ↓x_X5_works_88, ↓x_X5_works_89, ↓x_X5_works_90, ↓x_X5_works_91, ↓x_X5_works_92, ↓x_X5_works_93, ↓x_X5_works_97, ↓x_X5_works_99, ↓x_X5_works_102, ↓x_X5_works_105, ↓x_X5_works_107, ↓x_X5_works_108, ↓x_X5_works_111, ↓x_X5_works_113, ↓x_X5_works_114, ↓x_X5_works_115, ↓x_X5_works_116, ↓x_X5_works_117, ↓x_X5_works_118, ↓x_X5_works_119, ↓x_X5_works_121, ↓x_X5_works_122, ↓x_X5_works_123, ↓x_X5_works_124, ↓x_X5_works_126, ↓x_X5_works_129, ↓x_X5_works_130, ↓x_X5_works_133, ↓x_X5_works_134, ↓x_X5_works_136, ↓x_X5_works_137, ↓x_X5_works_138, ↓gK_of q13, m0, Int.toNat_natCast, gK_of q8, ↓gK_of q14, (w5m m16 s5).1, (w5m m16 s5).2, j2, gK_of qp, ↓gK_of q27, ↓pK_of q27, ↓gK_of q16, gK_of q11, pK_of q11, ↓gK_of q26, gK_of q26, a1, a2, a3, a4, z1, pK_of q26, ↓reduceIte]
  rw [s61]
  clear a1 a2 a3 a4 s61
  simp only [↓x_X5_works_0, ↓x_X5_works_1, ↓x_X5_works_4, ↓x_X5_works_5, ↓x_X5_works_6, ↓x_X5_works_7, ↓x_X5_works_8, ↓x_X5_works_11, ↓x_X5_works_12, ↓x_X5_works_13, ↓x_X5_works_14, ↓x_X5_works_15, ↓x_X5_works_16, ↓x_X5_works_17, ↓x_X5_works_18, ↓x_X5_works_19, ↓x_X5_works_20, ↓x_X5_works_23, ↓x_X5_works_24, ↓x_X5_works_25, ↓x_X5_works_26, ↓x_X5_works_29, ↓x_X5_works_30, ↓x_X5_works_33, ↓x_X5_works_34, ↓x_X5_works_35, ↓x_X5_works_36, ↓x_X5_works_37, ↓x_X5_works_38, ↓x_X5_works_39, ↓x_X5_works_40, ↓x_X5_works_41, ↓x_X5_works_44, ↓x_X5_works_45, ↓x_X5_works_48, ↓x_X5_works_49, ↓x_X5_works_52, ↓x_X5_works_53, ↓x_X5_works_56, ↓x_X5_works_57, ↓x_X5_works_58, ↓x_X5_works_61, ↓x_X5_works_62, ↓x_X5_works_65, ↓x_X5_works_67, ↓x_X5_works_68, ↓x_X5_works_69, ↓x_X5_works_70, ↓x_X5_works_71, ↓x_X5_works_74, ↓x_X5_works_75, ↓x_X5_works_78, ↓x_X5_works_80, ↓x_X5_works_81, ↓x_X5_works_84, ↓x_X5_works_86, ↓x_X5_works_87, ↓x_X5_works_88, ↓x_X5_works_89, ↓x_X5_works_90, ↓x_X5_works_91, ↓x_X5_works_92, ↓x_X5_works_93, ↓x_X5_works_97, ↓x_X5_works_99, ↓x_X5_works_102, ↓x_X5_works_105, ↓x_X5_works_107, ↓x_X5_works_108, ↓x_X5_works_111, ↓x_X5_works_113, ↓x_X5_works_114, ↓x_X5_works_115, ↓x_X5_works_116, ↓x_X5_works_117, ↓x_X5_works_118, ↓x_X5_works_119, ↓x_X5_works_121, ↓x_X5_works_122, ↓x_X5_works_123, ↓x_X5_works_124, ↓x_X5_works_126, ↓x_X5_works_129, ↓x_X5_works_130, ↓x_X5_works_133, ↓x_X5_works_134, ↓x_X5_works_136, ↓x_X5_works_137, ↓x_X5_works_138, ↓gK_of q26', z2, a5, a6, ho3, ↓cKI cs', z3, a7, ↓reduceIte]
  clear a5 a6 a7
  simp only [↓x_X5_works_0, ↓x_X5_works_1, ↓x_X5_works_4, ↓x_X5_works_5, ↓x_X5_works_6, ↓x_X5_works_7, ↓x_X5_works_8, ↓x_X5_works_11, ↓x_X5_works_12, ↓x_X5_works_13, ↓x_X5_works_14, ↓x_X5_works_15, ↓x_X5_works_16, ↓x_X5_works_17, ↓x_X5_works_18, ↓x_X5_works_19, ↓x_X5_works_20, ↓x_X5_works_23, ↓x_X5_works_24, ↓x_X5_works_25, ↓x_X5_works_26, ↓x_X5_works_29, ↓x_X5_works_30, ↓x_X5_works_33, ↓x_X5_works_34, ↓x_X5_works_35, ↓x_X5_works_36, ↓x_X5_works_37, ↓x_X5_works_38, ↓x_X5_works_39, ↓x_X5_works_40, ↓x_X5_works_41, ↓x_X5_works_44, ↓x_X5_works_45, ↓x_X5_works_48, ↓x_X5_works_49, ↓x_X5_works_52, ↓x_X5_works_53, ↓x_X5_works_56, ↓x_X5_works_57, ↓x_X5_works_58, ↓x_X5_works_61, ↓x_X5_works_62, ↓x_X5_works_65, ↓x_X5_works_67, ↓x_X5_works_68, ↓x_X5_works_69, ↓x_X5_works_70, ↓x_X5_works_71, ↓x_X5_works_74, ↓x_X5_works_75, ↓x_X5_works_77, ↓x_X5_works_78, ↓x_X5_works_80, ↓x_X5_works_81, ↓x_X5_works_84, ↓x_X5_works_86, ↓x_X5_works_87, ↓x_X5_works_88, ↓x_X5_works_89, ↓x_X5_works_90, ↓x_X5_works_91, ↓x_X5_works_92, ↓x_X5_works_93, ↓x_X5_works_97, ↓x_X5_works_99, ↓x_X5_works_102, ↓x_X5_works_105, ↓x_X5_works_107, ↓x_X5_works_108, ↓x_X5_works_111, ↓x_X5_works_113, ↓x_X5_works_114, ↓x_X5_works_115, ↓x_X5_works_116, ↓x_X5_works_117, ↓x_X5_works_118, ↓x_X5_works_119, ↓x_X5_works_121, ↓x_X5_works_122, ↓x_X5_works_123, ↓x_X5_works_124, ↓x_X5_works_126, ↓x_X5_works_129, ↓x_X5_works_130, ↓x_X5_works_133, ↓x_X5_works_134, ↓x_X5_works_136, ↓x_X5_works_137, ↓x_X5_works_138, ↓gK_of q15', (w25m m16 s5 (show 0 < 5 by decide)).1, (w25m m16 s5 (show 0 < 5 by decide)).2.1, (w5m (show stS S m < 16 by omega) (show 0 < 5 by decide)).1, j3, Int.toNat_natCast, gK_of w0, ↓reduceIte]
  refine lw.trans ?_
  simp only [↓x_X5_works_0, ↓x_X5_works_1, ↓x_X5_works_4, ↓x_X5_works_5, ↓x_X5_works_6, ↓x_X5_works_7, ↓x_X5_works_8, ↓x_X5_works_11, ↓x_X5_works_12, ↓x_X5_works_13, ↓x_X5_works_14, ↓x_X5_works_15, ↓x_X5_works_16, ↓x_X5_works_17, ↓x_X5_works_18, ↓x_X5_works_19, ↓x_X5_works_20, ↓x_X5_works_23, ↓x_X5_works_24, ↓x_X5_works_25, ↓x_X5_works_26, ↓x_X5_works_29, ↓x_X5_works_30, ↓x_X5_works_33, ↓x_X5_works_34, ↓x_X5_works_35, ↓x_X5_works_36, ↓x_X5_works_37, ↓x_X5_works_38, ↓x_X5_works_39, ↓x_X5_works_40, ↓x_X5_works_41, ↓x_X5_works_44, ↓x_X5_works_45, ↓x_X5_works_48, ↓x_X5_works_49, ↓x_X5_works_52, ↓x_X5_works_53, ↓x_X5_works_56, ↓x_X5_works_57, ↓x_X5_works_58, ↓x_X5_works_61, ↓x_X5_works_62, ↓x_X5_works_65, ↓x_X5_works_67, ↓x_X5_works_68, ↓x_X5_works_69, ↓x_X5_works_70, ↓x_X5_works_71, ↓x_X5_works_74, ↓x_X5_works_75, ↓x_X5_works_77, ↓x_X5_works_78, ↓x_X5_works_80, ↓x_X5_works_81, ↓x_X5_works_84, ↓x_X5_works_86, ↓x_X5_works_87, ↓x_X5_works_88, ↓x_X5_works_89, ↓x_X5_works_90, ↓x_X5_works_91, ↓x_X5_works_92, ↓x_X5_works_93, ↓x_X5_works_97, ↓x_X5_works_99, ↓x_X5_works_102, ↓x_X5_works_105, ↓x_X5_works_107, ↓x_X5_works_108, ↓x_X5_works_111, ↓x_X5_works_113, ↓x_X5_works_114, ↓x_X5_works_115, ↓x_X5_works_116, ↓x_X5_works_117, ↓x_X5_works_118, ↓x_X5_works_119, ↓x_X5_works_121, ↓x_X5_works_122, ↓x_X5_works_123, ↓x_X5_works_124, ↓x_X5_works_126, ↓x_X5_works_129, ↓x_X5_works_130, ↓x_X5_works_133, ↓x_X5_works_134, ↓x_X5_works_136, ↓x_X5_works_137, ↓x_X5_works_138, ↓gK_of q13', m0, Int.toNat_natCast, pK_of q8', ↓reduceIte]
  rfl
end WK
