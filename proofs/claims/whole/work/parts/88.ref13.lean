/-! ===== the reference: sheet, machine ===== -/
section RSH
variable {S : SS}
theorem lr_sh {h0 : AH} (F : WF S) (hk : sS S < 12) {vk vn : Int} {a b : AV} : ∀ (d x : Nat) (h : AH), x + d = 24 → RB0 S h → (L0 h0 h ∧ rd h 5 0 28 = rd h0 5 0 28) → (rd h 10 2 (sS S) = some a ∧ rd h 10 3 (sS S) = some b) → (∀ u, u < x → rd h 11 4 (24 * sS S + u) = some (aJ 0)) →
    ∃ h', X mX5_sheet 64 [aR (some 0), aI vk, aI vn, aI x] [] h = X mX5_sheet 91 [aR (some 0), aI vk, aI vn, aI 24] [] h' ∧ RB0 S h' ∧ (L0 h0 h' ∧ rd h' 5 0 28 = rd h0 5 0 28) ∧ (rd h' 10 2 (sS S) = some a ∧ rd h' 10 3 (sS S) = some b) ∧ ∀ u, u < 24 → rd h' 11 4 (24 * sS S + u) = some (aJ 0) := by
  have f7 := F.1.2.1
  have em : ((sS S : Nat) : Int) = S 0 7 0 0 := by unfold sS; omega
  intro d
  induction d with
  | zero =>
    intro x h hd H lz ab B
    have e : x = 24 := by omega
    subst e
    have n1 : (24 : Int) ≤ ((24 : Nat) : Int) := by decide
    refine ⟨h, ?_, H, lz, ab, B⟩
    rw [x_X5_sheet_64]
    simp only [↓x_X5_sheet_0, ↓x_X5_sheet_1, ↓x_X5_sheet_2, ↓x_X5_sheet_3, ↓x_X5_sheet_6, ↓x_X5_sheet_9, ↓x_X5_sheet_12, ↓x_X5_sheet_13, ↓x_X5_sheet_15, ↓x_X5_sheet_18, ↓x_X5_sheet_19, ↓x_X5_sheet_20, ↓x_X5_sheet_21, ↓x_X5_sheet_24, ↓x_X5_sheet_26, ↓x_X5_sheet_29, ↓x_X5_sheet_31, ↓x_X5_sheet_32, ↓x_X5_sheet_33, ↓x_X5_sheet_36, ↓x_X5_sheet_37, ↓x_X5_sheet_38, ↓x_X5_sheet_41, ↓x_X5_sheet_42, ↓x_X5_sheet_43, ↓x_X5_sheet_46, ↓x_X5_sheet_47, ↓x_X5_sheet_50, ↓x_X5_sheet_51, ↓x_X5_sheet_52, ↓x_X5_sheet_53, ↓x_X5_sheet_56, ↓x_X5_sheet_57, ↓x_X5_sheet_60, ↓x_X5_sheet_61, ↓x_X5_sheet_62, ↓x_X5_sheet_63, ↓x_X5_sheet_65, ↓x_X5_sheet_67, ↓x_X5_sheet_70, ↓x_X5_sheet_71, ↓x_X5_sheet_74, ↓x_X5_sheet_76, ↓x_X5_sheet_77, ↓x_X5_sheet_80, ↓x_X5_sheet_81, ↓x_X5_sheet_82, ↓x_X5_sheet_83, ↓x_X5_sheet_84, ↓x_X5_sheet_85, ↓x_X5_sheet_88, ↓x_X5_sheet_92, ↓x_X5_sheet_93, ↓x_X5_sheet_96, ↓x_X5_sheet_97, ↓x_X5_sheet_98, ↓x_X5_sheet_101, ↓x_X5_sheet_102, ↓x_X5_sheet_105, ↓x_X5_sheet_106, ↓x_X5_sheet_107, n1, ↓reduceIte]
    rfl
  | succ d ih =>
    intro x h hd H lz ab B
    have n3 : ¬ (24 : Int) ≤ (x : Int) := by omega
    have x5 : x ≤ 1000 := by omega
    have x100 : x < 100 := by omega
    have q7 := H.f 7 rfl
    have q4 := H.f 4 rfl
    rw [← em] at q4
    have j0 : (0 : Int) ≤ ((24 * sS S + x : Nat) : Int) := Int.natCast_nonneg _
    obtain ⟨v, hv⟩ := H.1 4 (24 * sS S + x) (show 24 * sS S + x < 288 by omega)
    have hv' : rd h 11 4 (24 * sS S + x) = some v := hv
    have rn : rV S 4 (24 * sS S + x) = none := if_neg (fun z => by have := z.1; omega)
    obtain ⟨h', a1, a2⟩ := ih (x + 1) (wr h 11 4 (24 * sS S + x) (aJ 0)) (by omega) (H.wn 4 _ _ rn) ⟨lz.1.tr L0.w, by rw [rd_wn (Or.inl (by decide))]; exact lz.2⟩ ⟨by rw [rd_wn (Or.inl (by decide))]; exact ab.1, by rw [rd_wn (Or.inl (by decide))]; exact ab.2⟩ (fun u hu => by
      by_cases e : u = x
      · subst e; exact rd_wr hv'
      · rw [rd_wn (Or.inr (Or.inr (by omega)))]; exact B u (by omega))
    refine ⟨h', ?_, a2⟩
    rw [← a1, x_X5_sheet_64]
    simp only [↓x_X5_sheet_0, ↓x_X5_sheet_1, ↓x_X5_sheet_2, ↓x_X5_sheet_3, ↓x_X5_sheet_6, ↓x_X5_sheet_9, ↓x_X5_sheet_12, ↓x_X5_sheet_13, ↓x_X5_sheet_15, ↓x_X5_sheet_18, ↓x_X5_sheet_19, ↓x_X5_sheet_20, ↓x_X5_sheet_21, ↓x_X5_sheet_24, ↓x_X5_sheet_26, ↓x_X5_sheet_29, ↓x_X5_sheet_31, ↓x_X5_sheet_32, ↓x_X5_sheet_33, ↓x_X5_sheet_36, ↓x_X5_sheet_37, ↓x_X5_sheet_38, ↓x_X5_sheet_41, ↓x_X5_sheet_42, ↓x_X5_sheet_43, ↓x_X5_sheet_46, ↓x_X5_sheet_47, ↓x_X5_sheet_50, ↓x_X5_sheet_51, ↓x_X5_sheet_52, ↓x_X5_sheet_53, ↓x_X5_sheet_56, ↓x_X5_sheet_57, ↓x_X5_sheet_60, ↓x_X5_sheet_61, ↓x_X5_sheet_62, ↓x_X5_sheet_63, ↓x_X5_sheet_65, ↓x_X5_sheet_67, ↓x_X5_sheet_70, ↓x_X5_sheet_71, ↓x_X5_sheet_74, ↓x_X5_sheet_76, ↓x_X5_sheet_77, ↓x_X5_sheet_80, ↓x_X5_sheet_81, ↓x_X5_sheet_82, ↓x_X5_sheet_83, ↓x_X5_sheet_84, ↓x_X5_sheet_85, ↓x_X5_sheet_88, ↓x_X5_sheet_92, ↓x_X5_sheet_93, ↓x_X5_sheet_96, ↓x_X5_sheet_97, ↓x_X5_sheet_98, ↓x_X5_sheet_101, ↓x_X5_sheet_102, ↓x_X5_sheet_105, ↓x_X5_sheet_106, ↓x_X5_sheet_107, n3, ↓gK_of q7, ↓gK_of q4, w24a hk, w24b hk x100, j0, Int.toNat_natCast, pK_of hv', w32_s x5, ↓reduceIte]
theorem RB0.ns {h : AH} (H : RB0 S h) (F : WF S) {kd n : Int} (h12 : ¬ S 0 7 0 0 = 12) (r2 : rd h 10 2 (sS S) = some (aI kd)) (r3 : rd h 10 3 (sS S) = some (aI n)) (hn : n ≤ 24) (r4 : ∀ u, u < 24 → rd h 11 4 (24 * sS S + u) = some (aJ 0)) : RB0 (nsS S kd n) (wr h 5 0 4 (aI (S 0 7 0 0 + 1))) := by
  have f7 := F.1.2.1
  have es : sS (nsS S kd n) = sS S + 1 := by unfold sS nsS; rw [ups_s]; omega
  have q0 : nsS S kd n 4 (sS S) 0 0 = kd := by unfold nsS; rw [ups_t (by decide)]; unfold zsS; rw [if_pos ⟨Or.inl rfl, rfl⟩, if_pos ⟨rfl, rfl, rfl⟩]
  have q1 : nsS S kd n 4 (sS S) 1 0 = n := by unfold nsS; rw [ups_t (by decide)]; unfold zsS; rw [if_pos ⟨Or.inl rfl, rfl⟩, if_neg (by omega), if_pos ⟨rfl, rfl, rfl⟩]
  have q2 : nsS S kd n 4 (sS S) 2 0 = 0 := by unfold nsS; rw [ups_t (by decide)]; unfold zsS; rw [if_pos ⟨Or.inl rfl, rfl⟩, if_neg (by omega), if_neg (by omega)]
  have q5 : ∀ i, nsS S kd n 5 (sS S) i 0 = 0 := fun i => by unfold nsS; rw [ups_t (by decide)]; unfold zsS; rw [if_pos ⟨Or.inr rfl, rfl⟩, if_neg (by omega), if_neg (by omega)]
  refine H.put0 4 _ (by decide) (fun a e k v q => ?_) (fun k e => ?_) rfl
  · match a, q with
    | 0, _ => exact absurd rfl e
    | 2, q =>
      have q' : (if k < sS (nsS S kd n) then some (aI (nsS S kd n 4 k 0 0)) else none) = some v := q
      rw [es] at q'
      by_cases c : k < sS S + 1
      · rw [if_pos c] at q'
        rw [← q']
        by_cases c2 : k = sS S
        · subst c2; rw [q0]; exact r2
        · rw [(ns_as c2).1]; exact H.r2 (by omega)
      · rw [if_neg c] at q'; cases q'
    | 3, q =>
      have q' : (if k < sS (nsS S kd n) then some (aI (if nsS S kd n 4 k 2 0 = 0 then nsS S kd n 4 k 1 0 else -1)) else none) = some v := q
      rw [es] at q'
      by_cases c : k < sS S + 1
      · rw [if_pos c] at q'
        rw [← q']
        by_cases c2 : k = sS S
        · subst c2; rw [q2, if_pos rfl, q1]; exact r3
        · rw [(ns_as c2).1, (ns_as c2).1]; exact H.r3 (by omega)
      · rw [if_neg c] at q'; cases q'
    | 4, q =>
      have q' : (if k / 24 < sS (nsS S kd n) ∧ k % 24 < (nsS S kd n 4 (k / 24) 1 0).toNat then some (aJ (nsS S kd n 5 (k / 24) (k % 24) 0)) else none) = some v := q
      rw [es] at q'
      by_cases c : k / 24 < sS S + 1 ∧ k % 24 < (nsS S kd n 4 (k / 24) 1 0).toNat
      · rw [if_pos c] at q'
        rw [← q']
        have ek : 24 * (k / 24) + k % 24 = k := Nat.div_add_mod k 24
        by_cases c2 : k / 24 = sS S
        · rw [c2, q5]
          have := r4 (k % 24) (Nat.mod_lt _ (by decide))
          rw [← c2, ek] at this
          exact this
        · rw [(ns_as c2).2]
          rw [(ns_as c2).1] at c
          have := H.r4 (k := k / 24) (i := k % 24) (by omega) c.2 (Nat.mod_lt _ (by decide))
          rw [ek] at this
          exact this
      · rw [if_neg c] at q'; cases q'
    | 1, q => exact H.2 1 k v q
    | 5, q => exact H.2 5 k v q
    | 6, q => exact H.2 6 k v q
    | 7, q => exact H.2 7 k v q
    | 8, q => exact H.2 8 k v q
    | 9, q => exact H.2 9 k v q
    | 10, q => exact H.2 10 k v q
    | 11, q => exact H.2 11 k v q
    | 12, q => exact H.2 12 k v q
    | 13, q => exact H.2 13 k v q
    | 14, q => exact H.2 14 k v q
    | 15, q => exact H.2 15 k v q
    | 16, q => exact H.2 16 k v q
    | 17, q => exact H.2 17 k v q
    | a + 18, q => exact H.2 (a + 18) k v q
  · match k, e with
    | 0, e => rfl
    | 1, e => rfl
    | 2, e => rfl
    | 3, e => rfl
    | 4, e => exact absurd rfl e
    | 5, e => rfl
    | 6, e => rfl
    | 7, e => rfl
    | 8, e => rfl
    | 9, e => rfl
    | 10, e => rfl
    | 11, e => rfl
    | 12, e => rfl
    | 13, e => rfl
    | 14, e => rfl
    | 15, e => rfl
    | 16, e => rfl
    | 17, e => rfl
    | 18, e => rfl
    | 19, e => rfl
    | 20, e => rfl
    | 21, e => rfl
    | 22, e => rfl
    | 23, e => rfl
    | 24, e => rfl
    | 25, e => rfl
    | 26, e => rfl
    | 27, e => rfl
    | 28, e => rfl
    | 29, e => rfl
    | _ + 30, e => rfl
end RSH
theorem CR_sheet {S : SS} (F : WF S) (kd n : Int) : CR mX5_sheet [aI kd, aI n] aI S (o_sheet kd n S) := by
  intro h H
  have ho : isO h 5 0 = true := isO_rd (H.1.f 4 rfl)
  have ci := c_in (h := h) (v := kd) (lo := 0) (hi := 3)
  have cf5 := m_fd5 H.1
  have q4 := H.1.f 4 rfl
  have q5 := H.1.f 5 rfl
  have q6 := H.1.f 6 rfl
  have f7 := F.1.2.1
  have z : ¬ (1 : Int) = 0 := by decide
  unfold o_sheet
  rw [e_X5_sheet]
  by_cases c : kd < 0 ∨ 3 < kd ∨ 24 < n
  · rw [if_pos c]
    refine ⟨h, ?_, H, L0.rf⟩
    by_cases c1 : 0 ≤ kd ∧ kd ≤ 3
    · rw [if_pos c1] at ci
      have c3 : ¬ n ≤ 24 := by omega
      simp only [↓x_X5_sheet_0, ↓x_X5_sheet_1, ↓x_X5_sheet_2, ↓x_X5_sheet_3, ↓x_X5_sheet_6, ↓x_X5_sheet_9, ↓x_X5_sheet_12, ↓x_X5_sheet_13, ↓x_X5_sheet_15, ↓x_X5_sheet_18, ↓x_X5_sheet_19, ↓x_X5_sheet_20, ↓x_X5_sheet_21, ↓x_X5_sheet_24, ↓x_X5_sheet_26, ↓x_X5_sheet_29, ↓x_X5_sheet_31, ↓x_X5_sheet_32, ↓x_X5_sheet_33, ↓x_X5_sheet_36, ↓x_X5_sheet_37, ↓x_X5_sheet_38, ↓x_X5_sheet_41, ↓x_X5_sheet_42, ↓x_X5_sheet_43, ↓x_X5_sheet_46, ↓x_X5_sheet_47, ↓x_X5_sheet_50, ↓x_X5_sheet_51, ↓x_X5_sheet_52, ↓x_X5_sheet_53, ↓x_X5_sheet_56, ↓x_X5_sheet_57, ↓x_X5_sheet_60, ↓x_X5_sheet_61, ↓x_X5_sheet_62, ↓x_X5_sheet_63, ↓x_X5_sheet_65, ↓x_X5_sheet_67, ↓x_X5_sheet_70, ↓x_X5_sheet_71, ↓x_X5_sheet_74, ↓x_X5_sheet_76, ↓x_X5_sheet_77, ↓x_X5_sheet_80, ↓x_X5_sheet_81, ↓x_X5_sheet_82, ↓x_X5_sheet_83, ↓x_X5_sheet_84, ↓x_X5_sheet_85, ↓x_X5_sheet_88, ↓x_X5_sheet_91, ↓x_X5_sheet_92, ↓x_X5_sheet_93, ↓x_X5_sheet_96, ↓x_X5_sheet_97, ↓x_X5_sheet_98, ↓x_X5_sheet_101, ↓x_X5_sheet_102, ↓x_X5_sheet_105, ↓x_X5_sheet_106, ↓x_X5_sheet_107, ↓cKI ci, z, c3, ↓reduceIte]
    · rw [if_neg c1] at ci
      simp only [↓x_X5_sheet_0, ↓x_X5_sheet_1, ↓x_X5_sheet_2, ↓x_X5_sheet_3, ↓x_X5_sheet_6, ↓x_X5_sheet_9, ↓x_X5_sheet_12, ↓x_X5_sheet_13, ↓x_X5_sheet_15, ↓x_X5_sheet_18, ↓x_X5_sheet_19, ↓x_X5_sheet_20, ↓x_X5_sheet_21, ↓x_X5_sheet_24, ↓x_X5_sheet_26, ↓x_X5_sheet_29, ↓x_X5_sheet_31, ↓x_X5_sheet_32, ↓x_X5_sheet_33, ↓x_X5_sheet_36, ↓x_X5_sheet_37, ↓x_X5_sheet_38, ↓x_X5_sheet_41, ↓x_X5_sheet_42, ↓x_X5_sheet_43, ↓x_X5_sheet_46, ↓x_X5_sheet_47, ↓x_X5_sheet_50, ↓x_X5_sheet_51, ↓x_X5_sheet_52, ↓x_X5_sheet_53, ↓x_X5_sheet_56, ↓x_X5_sheet_57, ↓x_X5_sheet_60, ↓x_X5_sheet_61, ↓x_X5_sheet_62, ↓x_X5_sheet_63, ↓x_X5_sheet_65, ↓x_X5_sheet_67, ↓x_X5_sheet_70, ↓x_X5_sheet_71, ↓x_X5_sheet_74, ↓x_X5_sheet_76, ↓x_X5_sheet_77, ↓x_X5_sheet_80, ↓x_X5_sheet_81, ↓x_X5_sheet_82, ↓x_X5_sheet_83, ↓x_X5_sheet_84, ↓x_X5_sheet_85, ↓x_X5_sheet_88, ↓x_X5_sheet_91, ↓x_X5_sheet_92, ↓x_X5_sheet_93, ↓x_X5_sheet_96, ↓x_X5_sheet_97, ↓x_X5_sheet_98, ↓x_X5_sheet_101, ↓x_X5_sheet_102, ↓x_X5_sheet_105, ↓x_X5_sheet_106, ↓x_X5_sheet_107, ↓cKI ci, ↓reduceIte]
  · rw [if_neg c]
    rw [if_pos (by omega)] at ci
    have c3 : n ≤ 24 := by omega
    by_cases c5 : S 0 7 0 0 = 12
    · rw [if_pos c5]
      rw [c5] at q4
      refine ⟨h, ?_, H, L0.rf⟩
      simp only [↓x_X5_sheet_0, ↓x_X5_sheet_1, ↓x_X5_sheet_2, ↓x_X5_sheet_3, ↓x_X5_sheet_6, ↓x_X5_sheet_9, ↓x_X5_sheet_12, ↓x_X5_sheet_13, ↓x_X5_sheet_15, ↓x_X5_sheet_18, ↓x_X5_sheet_19, ↓x_X5_sheet_20, ↓x_X5_sheet_21, ↓x_X5_sheet_24, ↓x_X5_sheet_26, ↓x_X5_sheet_29, ↓x_X5_sheet_31, ↓x_X5_sheet_32, ↓x_X5_sheet_33, ↓x_X5_sheet_36, ↓x_X5_sheet_37, ↓x_X5_sheet_38, ↓x_X5_sheet_41, ↓x_X5_sheet_42, ↓x_X5_sheet_43, ↓x_X5_sheet_46, ↓x_X5_sheet_47, ↓x_X5_sheet_50, ↓x_X5_sheet_51, ↓x_X5_sheet_52, ↓x_X5_sheet_53, ↓x_X5_sheet_56, ↓x_X5_sheet_57, ↓x_X5_sheet_60, ↓x_X5_sheet_61, ↓x_X5_sheet_62, ↓x_X5_sheet_63, ↓x_X5_sheet_65, ↓x_X5_sheet_67, ↓x_X5_sheet_70, ↓x_X5_sheet_71, ↓x_X5_sheet_74, ↓x_X5_sheet_76, ↓x_X5_sheet_77, ↓x_X5_sheet_80, ↓x_X5_sheet_81, ↓x_X5_sheet_82, ↓x_X5_sheet_83, ↓x_X5_sheet_84, ↓x_X5_sheet_85, ↓x_X5_sheet_88, ↓x_X5_sheet_91, ↓x_X5_sheet_92, ↓x_X5_sheet_93, ↓x_X5_sheet_96, ↓x_X5_sheet_97, ↓x_X5_sheet_98, ↓x_X5_sheet_101, ↓x_X5_sheet_102, ↓x_X5_sheet_105, ↓x_X5_sheet_106, ↓x_X5_sheet_107, ↓cKI ci, z, c3, ↓gK_of q4, not_true_eq_false, ↓reduceIte]
    · rw [if_neg c5]
      by_cases c7 : n < 0
      · rw [if_pos c7]
        have c8 : ¬ 0 ≤ n := by omega
        refine ⟨_, ?_, H.mt (f := 5) (by decide)⟩
        simp only [↓x_X5_sheet_0, ↓x_X5_sheet_1, ↓x_X5_sheet_2, ↓x_X5_sheet_3, ↓x_X5_sheet_6, ↓x_X5_sheet_9, ↓x_X5_sheet_12, ↓x_X5_sheet_13, ↓x_X5_sheet_15, ↓x_X5_sheet_18, ↓x_X5_sheet_19, ↓x_X5_sheet_20, ↓x_X5_sheet_21, ↓x_X5_sheet_24, ↓x_X5_sheet_26, ↓x_X5_sheet_29, ↓x_X5_sheet_31, ↓x_X5_sheet_32, ↓x_X5_sheet_33, ↓x_X5_sheet_36, ↓x_X5_sheet_37, ↓x_X5_sheet_38, ↓x_X5_sheet_41, ↓x_X5_sheet_42, ↓x_X5_sheet_43, ↓x_X5_sheet_46, ↓x_X5_sheet_47, ↓x_X5_sheet_50, ↓x_X5_sheet_51, ↓x_X5_sheet_52, ↓x_X5_sheet_53, ↓x_X5_sheet_56, ↓x_X5_sheet_57, ↓x_X5_sheet_60, ↓x_X5_sheet_61, ↓x_X5_sheet_62, ↓x_X5_sheet_63, ↓x_X5_sheet_65, ↓x_X5_sheet_67, ↓x_X5_sheet_70, ↓x_X5_sheet_71, ↓x_X5_sheet_74, ↓x_X5_sheet_76, ↓x_X5_sheet_77, ↓x_X5_sheet_80, ↓x_X5_sheet_81, ↓x_X5_sheet_82, ↓x_X5_sheet_83, ↓x_X5_sheet_84, ↓x_X5_sheet_85, ↓x_X5_sheet_88, ↓x_X5_sheet_91, ↓x_X5_sheet_92, ↓x_X5_sheet_93, ↓x_X5_sheet_96, ↓x_X5_sheet_97, ↓x_X5_sheet_98, ↓x_X5_sheet_101, ↓x_X5_sheet_102, ↓x_X5_sheet_105, ↓x_X5_sheet_106, ↓x_X5_sheet_107, ↓cKI ci, z, c3, ↓gK_of q4, c5, c8, ho, ↓cKI cf5, not_false_eq_true, ↓reduceIte]
      · rw [if_neg c7]
        have c8 : 0 ≤ n := by omega
        have s12 : sS S < 12 := by unfold sS; omega
        have em : ((sS S : Nat) : Int) = S 0 7 0 0 := by unfold sS; omega
        have s0 : 0 ≤ S 0 7 0 0 := f7.1
        have et : (S 0 7 0 0).toNat = sS S := rfl
        obtain ⟨v2, hv2⟩ := H.1.1 2 (sS S) (show sS S < 12 from s12)
        obtain ⟨v3, hv3⟩ := H.1.1 3 (sS S) (show sS S < 12 from s12)
        have hv2' : rd h 10 2 (sS S) = some v2 := hv2
        have hv3' : rd (wr h 10 2 (sS S) (aI kd)) 10 3 (sS S) = some v3 := by rw [rd_wn (Or.inr (Or.inl (by decide)))]; exact hv3
        have n2 : rV S 2 (sS S) = none := if_neg (by omega)
        have n3 : rV S 3 (sS S) = none := if_neg (by omega)
        have H2 := (H.1.wn 2 (sS S) (aI kd) n2).wn 3 (sS S) (aI n) n3
        have q6' : rd (wr h 10 2 (sS S) (aI kd)) 5 0 6 = some (aR (some 3)) := by rw [rd_wn (Or.inl (by decide))]; exact q6
        have q4' : rd (wr h 10 2 (sS S) (aI kd)) 5 0 4 = some (aI (S 0 7 0 0)) := by rw [rd_wn (Or.inl (by decide))]; exact q4
        obtain ⟨h1, a1, a2, a3, a4, a5⟩ := lr_sh (h0 := h) F s12 (vk := kd) (vn := n) (a := aI kd) (b := aI n) 24 0 (wr (wr h 10 2 (sS S) (aI kd)) 10 3 (sS S) (aI n)) (by omega) H2 ⟨L0.w.tr L0.w, by rw [rd_wn (Or.inl (by decide)), rd_wn (Or.inl (by decide))]⟩ ⟨by rw [rd_wn (Or.inr (Or.inl (by decide)))]; exact rd_wr hv2', rd_wr hv3'⟩ (fun u hu => by omega)
        have B := a2.ns F c5 a4.1 a4.2 c3 a5
        have q41 := a2.f 4 rfl
        have q42 : rd (wr h1 5 0 4 (aI (S 0 7 0 0 + 1))) 5 0 4 = some (aI (S 0 7 0 0 + 1)) := rd_wr q41
        obtain ⟨r, g1, g2⟩ := H.2
        refine ⟨wr h1 5 0 4 (aI (S 0 7 0 0 + 1)), ?_, ⟨B, r, by rw [rd_wn (Or.inr (Or.inr (by decide))), a3.2]; exact g1, g2⟩, a3.1.tr L0.w⟩
        have s64 : X mX5_sheet 0 [aR (some 0), aI kd, aI n, aU] [] h = X mX5_sheet 64 [aR (some 0), aI kd, aI n, aI 0] [] (wr (wr h 10 2 (sS S) (aI kd)) 10 3 (sS S) (aI n)) := by
          simp only [↓x_X5_sheet_0, ↓x_X5_sheet_1, ↓x_X5_sheet_2, ↓x_X5_sheet_3, ↓x_X5_sheet_6, ↓x_X5_sheet_9, ↓x_X5_sheet_12, ↓x_X5_sheet_13, ↓x_X5_sheet_15, ↓x_X5_sheet_18, ↓x_X5_sheet_19, ↓x_X5_sheet_20, ↓x_X5_sheet_21, ↓x_X5_sheet_24, ↓x_X5_sheet_26, ↓x_X5_sheet_29, ↓x_X5_sheet_31, ↓x_X5_sheet_32, ↓x_X5_sheet_33, ↓x_X5_sheet_36, ↓x_X5_sheet_37, ↓x_X5_sheet_38, ↓x_X5_sheet_41, ↓x_X5_sheet_42, ↓x_X5_sheet_43, ↓x_X5_sheet_46, ↓x_X5_sheet_47, ↓x_X5_sheet_50, ↓x_X5_sheet_51, ↓x_X5_sheet_52, ↓x_X5_sheet_53, ↓x_X5_sheet_56, ↓x_X5_sheet_57, ↓x_X5_sheet_60, ↓x_X5_sheet_61, ↓x_X5_sheet_62, ↓x_X5_sheet_63, ↓x_X5_sheet_65, ↓x_X5_sheet_67, ↓x_X5_sheet_70, ↓x_X5_sheet_71, ↓x_X5_sheet_74, ↓x_X5_sheet_76, ↓x_X5_sheet_77, ↓x_X5_sheet_80, ↓x_X5_sheet_81, ↓x_X5_sheet_82, ↓x_X5_sheet_83, ↓x_X5_sheet_84, ↓x_X5_sheet_85, ↓x_X5_sheet_88, ↓x_X5_sheet_91, ↓x_X5_sheet_92, ↓x_X5_sheet_93, ↓x_X5_sheet_96, ↓x_X5_sheet_97, ↓x_X5_sheet_98, ↓x_X5_sheet_101, ↓x_X5_sheet_102, ↓x_X5_sheet_105, ↓x_X5_sheet_106, ↓x_X5_sheet_107, ↓cKI ci, z, c3, ↓gK_of q4, c5, c8, ↓gK_of q5, s0, et, pK_of hv2', gK_of q6', gK_of q4', pK_of hv3', not_false_eq_true, ↓reduceIte]
        rw [s64]
        refine a1.trans ?_
        have e1 : w32 (S 0 7 0 0 + 1) = S 0 7 0 0 + 1 := by rw [w32_in] <;> omega
        have e2 : w32 (S 0 7 0 0 + 1 - 1) = S 0 7 0 0 := by clear e1; rw [w32_in] <;> omega
        simp only [↓x_X5_sheet_0, ↓x_X5_sheet_1, ↓x_X5_sheet_2, ↓x_X5_sheet_3, ↓x_X5_sheet_6, ↓x_X5_sheet_9, ↓x_X5_sheet_12, ↓x_X5_sheet_13, ↓x_X5_sheet_15, ↓x_X5_sheet_18, ↓x_X5_sheet_19, ↓x_X5_sheet_20, ↓x_X5_sheet_21, ↓x_X5_sheet_24, ↓x_X5_sheet_26, ↓x_X5_sheet_29, ↓x_X5_sheet_31, ↓x_X5_sheet_32, ↓x_X5_sheet_33, ↓x_X5_sheet_36, ↓x_X5_sheet_37, ↓x_X5_sheet_38, ↓x_X5_sheet_41, ↓x_X5_sheet_42, ↓x_X5_sheet_43, ↓x_X5_sheet_46, ↓x_X5_sheet_47, ↓x_X5_sheet_50, ↓x_X5_sheet_51, ↓x_X5_sheet_52, ↓x_X5_sheet_53, ↓x_X5_sheet_56, ↓x_X5_sheet_57, ↓x_X5_sheet_60, ↓x_X5_sheet_61, ↓x_X5_sheet_62, ↓x_X5_sheet_63, ↓x_X5_sheet_65, ↓x_X5_sheet_67, ↓x_X5_sheet_70, ↓x_X5_sheet_71, ↓x_X5_sheet_74, ↓x_X5_sheet_76, ↓x_X5_sheet_77, ↓x_X5_sheet_80, ↓x_X5_sheet_81, ↓x_X5_sheet_82, ↓x_X5_sheet_83, ↓x_X5_sheet_84, ↓x_X5_sheet_85, ↓x_X5_sheet_88, ↓x_X5_sheet_91, ↓x_X5_sheet_92, ↓x_X5_sheet_93, ↓x_X5_sheet_96, ↓x_X5_sheet_97, ↓x_X5_sheet_98, ↓x_X5_sheet_101, ↓x_X5_sheet_102, ↓x_X5_sheet_105, ↓x_X5_sheet_106, ↓x_X5_sheet_107, ↓gK_of q41, e1, ↓pK_of q41, ↓gK_of q42, e2]
section RMA
variable {S : SS}
theorem rV_m9 {s : Nat} (h5 : s < 5) : rV S 9 (5 * mS S + s) = none := if_neg (fun z => by have := z.1; omega)
theorem rV_m10 {s t : Nat} (h5 : s < 5) (t5 : t < 5) : rV S 10 (25 * mS S + 5 * s + t) = none := if_neg (fun z => by have := z.1; omega)
/-- the rows of the machine that is made, up to a place -/
def IR (S : SS) (kd : Int) (n : Nat) (h0 h : AH) (s t : Nat) : Prop := RB0 S h ∧ (L0 h0 h ∧ rd h 5 0 28 = rd h0 5 0 28) ∧ (rd h 10 6 (mS S) = some (aI kd) ∧ rd h 10 7 (mS S) = some (aI n) ∧ rd h 10 8 (mS S) = some (aI 0) ∧ rd h 10 11 (mS S) = some (aI 0)) ∧ (∀ u, u < 5 → (u < s ∨ (u = s ∧ 0 < t)) → rd h 10 9 (5 * mS S + u) = some (aI 0)) ∧ ∀ u w, u < 5 → w < 5 → (u < s ∨ (u = s ∧ w + 1 < t)) → rd h 10 10 (25 * mS S + 5 * u + w) = some (aI (if w = nxt kd n u then 1 else 0))
theorem lr_m2 {h0 : AH} (F : WF S) (hm : mS S < 16) {kd : Int} {n : Nat} (hk : 0 ≤ kd ∧ kd ≤ 3) (hn : n ≤ 5) {s : Nat} (hs : s < 5) : ∀ (d t : Nat) (h : AH) (v6 : AV), t + d = 5 → IR S kd n h0 h s (t + 1) →
    ∃ h' v6', X mX5_machine 126 [aR (some 0), aI kd, aI n, aI (mS S : Nat), aI s, aI t, v6] [] h = X mX5_machine 191 [aR (some 0), aI kd, aI n, aI (mS S : Nat), aI s, aI 5, v6'] [] h' ∧ IR S kd n h0 h' (s + 1) 0 := by
  intro d
  induction d with
  | zero =>
    intro t h v6 hd I
    have e : t = 5 := by omega
    subst e
    have n1 : (5 : Int) ≤ ((5 : Nat) : Int) := by decide
    obtain ⟨i1, i2, i3, i4, i5⟩ := I
    refine ⟨h, v6, ?_, i1, i2, i3, fun u hu h1 => i4 u hu (by omega), fun u w hu hw h1 => i5 u w hu hw (by omega)⟩
    rw [x_X5_machine_126]
    simp only [↓x_X5_machine_0, ↓x_X5_machine_1, ↓x_X5_machine_2, ↓x_X5_machine_3, ↓x_X5_machine_6, ↓x_X5_machine_9, ↓x_X5_machine_12, ↓x_X5_machine_13, ↓x_X5_machine_14, ↓x_X5_machine_17, ↓x_X5_machine_18, ↓x_X5_machine_21, ↓x_X5_machine_22, ↓x_X5_machine_23, ↓x_X5_machine_24, ↓x_X5_machine_27, ↓x_X5_machine_28, ↓x_X5_machine_31, ↓x_X5_machine_32, ↓x_X5_machine_35, ↓x_X5_machine_36, ↓x_X5_machine_37, ↓x_X5_machine_40, ↓x_X5_machine_41, ↓x_X5_machine_42, ↓x_X5_machine_45, ↓x_X5_machine_46, ↓x_X5_machine_47, ↓x_X5_machine_48, ↓x_X5_machine_51, ↓x_X5_machine_53, ↓x_X5_machine_56, ↓x_X5_machine_58, ↓x_X5_machine_59, ↓x_X5_machine_60, ↓x_X5_machine_63, ↓x_X5_machine_64, ↓x_X5_machine_65, ↓x_X5_machine_68, ↓x_X5_machine_69, ↓x_X5_machine_70, ↓x_X5_machine_73, ↓x_X5_machine_74, ↓x_X5_machine_75, ↓x_X5_machine_78, ↓x_X5_machine_79, ↓x_X5_machine_80, ↓x_X5_machine_81, ↓x_X5_machine_82, ↓x_X5_machine_85, ↓x_X5_machine_86, ↓x_X5_machine_87, ↓x_X5_machine_88, ↓x_X5_machine_89, ↓x_X5_machine_92, ↓x_X5_machine_93, ↓x_X5_machine_94, ↓x_X5_machine_95, ↓x_X5_machine_96, ↓x_X5_machine_99, ↓x_X5_machine_100, ↓x_X5_machine_101, ↓x_X5_machine_102, ↓x_X5_machine_103, ↓x_X5_machine_107, ↓x_X5_machine_108, ↓x_X5_machine_111, ↓x_X5_machine_112, ↓x_X5_machine_115, ↓x_X5_machine_116, ↓x_X5_machine_117, ↓x_X5_machine_118, ↓x_X5_machine_120, ↓x_X5_machine_121, ↓x_X5_machine_122, ↓x_X5_machine_123, ↓x_X5_machine_124, ↓x_X5_machine_128, ↓x_X5_machine_129, ↓x_X5_machine_132, ↓x_X5_machine_133, ↓x_X5_machine_134, ↓x_X5_machine_137, ↓x_X5_machine_139, ↓x_X5_machine_140, ↓x_X5_machine_141, ↓x_X5_machine_142, ↓x_X5_machine_145, ↓x_X5_machine_147, ↓x_X5_machine_148, ↓x_X5_machine_149, ↓x_X5_machine_152, ↓x_X5_machine_154, ↓x_X5_machine_156, ↓x_X5_machine_157, ↓x_X5_machine_160, ↓x_X5_machine_162, ↓x_X5_machine_163, ↓x_X5_machine_164, ↓x_X5_machine_165, ↓x_X5_machine_167, ↓x_X5_machine_168, ↓x_X5_machine_169, ↓x_X5_machine_171, ↓x_X5_machine_172, ↓x_X5_machine_174, ↓x_X5_machine_176, ↓x_X5_machine_179, ↓x_X5_machine_180, ↓x_X5_machine_183, ↓x_X5_machine_184, ↓x_X5_machine_185, ↓x_X5_machine_188, ↓x_X5_machine_194, ↓x_X5_machine_197, ↓x_X5_machine_198, ↓x_X5_machine_199, ↓x_X5_machine_202, ↓x_X5_machine_203, ↓x_X5_machine_204, ↓x_X5_machine_207, ↓x_X5_machine_208, n1, ↓reduceIte]
    rfl
  | succ d ih =>
    intro t h v6 hd I
    obtain ⟨i1, i2, i3, i4, i5⟩ := I
    have n3 : ¬ (5 : Int) ≤ (t : Int) := by omega
    have t5 : t < 5 := by omega
    have ht5 : t ≤ 1000 := by omega
    have hs5 : s ≤ 1000 := by omega
    have s16 : s < 16 := by omega
    have q15 := i1.f 15 rfl
    have j0 : (0 : Int) ≤ ((25 * mS S + 5 * s + t : Nat) : Int) := Int.natCast_nonneg _
    obtain ⟨v, hv⟩ := i1.1 10 (25 * mS S + 5 * s + t) (show 25 * mS S + 5 * s + t < 400 by omega)
    have hv' : rd h 10 10 (25 * mS S + 5 * s + t) = some v := hv
    have I' : IR S kd n h0 (wr h 10 10 (25 * mS S + 5 * s + t) (aI (if t = nxt kd n s then 1 else 0))) s (t + 1 + 1) := by
      refine ⟨i1.wn 10 _ _ (rV_m10 hs t5), ⟨i2.1.tr L0.w, by rw [rd_wn (Or.inl (by decide))]; exact i2.2⟩, ⟨by rw [rd_wn (Or.inr (Or.inl (by decide)))]; exact i3.1, by rw [rd_wn (Or.inr (Or.inl (by decide)))]; exact i3.2.1, by rw [rd_wn (Or.inr (Or.inl (by decide)))]; exact i3.2.2.1, by rw [rd_wn (Or.inr (Or.inl (by decide)))]; exact i3.2.2.2⟩, fun u hu h1 => by rw [rd_wn (Or.inr (Or.inl (by decide)))]; exact i4 u hu (by omega), fun u w hu hw h1 => ?_⟩
      by_cases e : u = s ∧ w = t
      · obtain ⟨e1, e2⟩ := e
        subst e1 e2
        exact rd_wr hv'
      · rw [rd_wn (Or.inr (Or.inr (by omega)))]
        exact i5 u w hu hw (by omega)
    obtain ⟨h', v6', a1, a2⟩ := ih (t + 1) _ (aI (nxt kd n s : Nat)) (by omega) I'
    refine ⟨h', v6', ?_, a2⟩
    have s156 : X mX5_machine 126 [aR (some 0), aI kd, aI n, aI (mS S : Nat), aI s, aI t, v6] [] h = X mX5_machine 156 [aR (some 0), aI kd, aI n, aI (mS S : Nat), aI s, aI t, aI (nxt kd n s : Nat)] [] h := by
      rw [x_X5_machine_126]
      by_cases c : kd < 2
      · have e : nxt kd n s = s := if_neg (fun z => by omega)
        rw [e]
        simp only [↓x_X5_machine_0, ↓x_X5_machine_1, ↓x_X5_machine_2, ↓x_X5_machine_3, ↓x_X5_machine_6, ↓x_X5_machine_9, ↓x_X5_machine_12, ↓x_X5_machine_13, ↓x_X5_machine_14, ↓x_X5_machine_17, ↓x_X5_machine_18, ↓x_X5_machine_21, ↓x_X5_machine_22, ↓x_X5_machine_23, ↓x_X5_machine_24, ↓x_X5_machine_27, ↓x_X5_machine_28, ↓x_X5_machine_31, ↓x_X5_machine_32, ↓x_X5_machine_35, ↓x_X5_machine_36, ↓x_X5_machine_37, ↓x_X5_machine_40, ↓x_X5_machine_41, ↓x_X5_machine_42, ↓x_X5_machine_45, ↓x_X5_machine_46, ↓x_X5_machine_47, ↓x_X5_machine_48, ↓x_X5_machine_51, ↓x_X5_machine_53, ↓x_X5_machine_56, ↓x_X5_machine_58, ↓x_X5_machine_59, ↓x_X5_machine_60, ↓x_X5_machine_63, ↓x_X5_machine_64, ↓x_X5_machine_65, ↓x_X5_machine_68, ↓x_X5_machine_69, ↓x_X5_machine_70, ↓x_X5_machine_73, ↓x_X5_machine_74, ↓x_X5_machine_75, ↓x_X5_machine_78, ↓x_X5_machine_79, ↓x_X5_machine_80, ↓x_X5_machine_81, ↓x_X5_machine_82, ↓x_X5_machine_85, ↓x_X5_machine_86, ↓x_X5_machine_87, ↓x_X5_machine_88, ↓x_X5_machine_89, ↓x_X5_machine_92, ↓x_X5_machine_93, ↓x_X5_machine_94, ↓x_X5_machine_95, ↓x_X5_machine_96, ↓x_X5_machine_99, ↓x_X5_machine_100, ↓x_X5_machine_101, ↓x_X5_machine_102, ↓x_X5_machine_103, ↓x_X5_machine_107, ↓x_X5_machine_108, ↓x_X5_machine_111, ↓x_X5_machine_112, ↓x_X5_machine_115, ↓x_X5_machine_116, ↓x_X5_machine_117, ↓x_X5_machine_118, ↓x_X5_machine_120, ↓x_X5_machine_121, ↓x_X5_machine_122, ↓x_X5_machine_123, ↓x_X5_machine_124, ↓x_X5_machine_128, ↓x_X5_machine_129, ↓x_X5_machine_132, ↓x_X5_machine_133, ↓x_X5_machine_134, ↓x_X5_machine_137, ↓x_X5_machine_139, ↓x_X5_machine_140, ↓x_X5_machine_141, ↓x_X5_machine_142, ↓x_X5_machine_145, ↓x_X5_machine_147, ↓x_X5_machine_148, ↓x_X5_machine_149, ↓x_X5_machine_152, ↓x_X5_machine_154, ↓x_X5_machine_157, ↓x_X5_machine_160, ↓x_X5_machine_162, ↓x_X5_machine_163, ↓x_X5_machine_164, ↓x_X5_machine_165, ↓x_X5_machine_167, ↓x_X5_machine_168, ↓x_X5_machine_169, ↓x_X5_machine_171, ↓x_X5_machine_172, ↓x_X5_machine_174, ↓x_X5_machine_176, ↓x_X5_machine_179, ↓x_X5_machine_180, ↓x_X5_machine_183, ↓x_X5_machine_184, ↓x_X5_machine_185, ↓x_X5_machine_188, ↓x_X5_machine_194, ↓x_X5_machine_197, ↓x_X5_machine_198, ↓x_X5_machine_199, ↓x_X5_machine_202, ↓x_X5_machine_203, ↓x_X5_machine_204, ↓x_X5_machine_207, ↓x_X5_machine_208, n3, c, ↓reduceIte]
      · by_cases c2 : s + 1 < n
        · have e : nxt kd n s = s + 1 := if_pos ⟨by omega, c2⟩
          have c3 : ¬ (n : Int) ≤ ((s + 1 : Nat) : Int) := by omega
          rw [e]
          simp only [↓x_X5_machine_0, ↓x_X5_machine_1, ↓x_X5_machine_2, ↓x_X5_machine_3, ↓x_X5_machine_6, ↓x_X5_machine_9, ↓x_X5_machine_12, ↓x_X5_machine_13, ↓x_X5_machine_14, ↓x_X5_machine_17, ↓x_X5_machine_18, ↓x_X5_machine_21, ↓x_X5_machine_22, ↓x_X5_machine_23, ↓x_X5_machine_24, ↓x_X5_machine_27, ↓x_X5_machine_28, ↓x_X5_machine_31, ↓x_X5_machine_32, ↓x_X5_machine_35, ↓x_X5_machine_36, ↓x_X5_machine_37, ↓x_X5_machine_40, ↓x_X5_machine_41, ↓x_X5_machine_42, ↓x_X5_machine_45, ↓x_X5_machine_46, ↓x_X5_machine_47, ↓x_X5_machine_48, ↓x_X5_machine_51, ↓x_X5_machine_53, ↓x_X5_machine_56, ↓x_X5_machine_58, ↓x_X5_machine_59, ↓x_X5_machine_60, ↓x_X5_machine_63, ↓x_X5_machine_64, ↓x_X5_machine_65, ↓x_X5_machine_68, ↓x_X5_machine_69, ↓x_X5_machine_70, ↓x_X5_machine_73, ↓x_X5_machine_74, ↓x_X5_machine_75, ↓x_X5_machine_78, ↓x_X5_machine_79, ↓x_X5_machine_80, ↓x_X5_machine_81, ↓x_X5_machine_82, ↓x_X5_machine_85, ↓x_X5_machine_86, ↓x_X5_machine_87, ↓x_X5_machine_88, ↓x_X5_machine_89, ↓x_X5_machine_92, ↓x_X5_machine_93, ↓x_X5_machine_94, ↓x_X5_machine_95, ↓x_X5_machine_96, ↓x_X5_machine_99, ↓x_X5_machine_100, ↓x_X5_machine_101, ↓x_X5_machine_102, ↓x_X5_machine_103, ↓x_X5_machine_107, ↓x_X5_machine_108, ↓x_X5_machine_111, ↓x_X5_machine_112, ↓x_X5_machine_115, ↓x_X5_machine_116, ↓x_X5_machine_117, ↓x_X5_machine_118, ↓x_X5_machine_120, ↓x_X5_machine_121, ↓x_X5_machine_122, ↓x_X5_machine_123, ↓x_X5_machine_124, ↓x_X5_machine_128, ↓x_X5_machine_129, ↓x_X5_machine_132, ↓x_X5_machine_133, ↓x_X5_machine_134, ↓x_X5_machine_137, ↓x_X5_machine_139, ↓x_X5_machine_140, ↓x_X5_machine_141, ↓x_X5_machine_142, ↓x_X5_machine_145, ↓x_X5_machine_147, ↓x_X5_machine_148, ↓x_X5_machine_149, ↓x_X5_machine_152, ↓x_X5_machine_154, ↓x_X5_machine_157, ↓x_X5_machine_160, ↓x_X5_machine_162, ↓x_X5_machine_163, ↓x_X5_machine_164, ↓x_X5_machine_165, ↓x_X5_machine_167, ↓x_X5_machine_168, ↓x_X5_machine_169, ↓x_X5_machine_171, ↓x_X5_machine_172, ↓x_X5_machine_174, ↓x_X5_machine_176, ↓x_X5_machine_179, ↓x_X5_machine_180, ↓x_X5_machine_183, ↓x_X5_machine_184, ↓x_X5_machine_185, ↓x_X5_machine_188, ↓x_X5_machine_194, ↓x_X5_machine_197, ↓x_X5_machine_198, ↓x_X5_machine_199, ↓x_X5_machine_202, ↓x_X5_machine_203, ↓x_X5_machine_204, ↓x_X5_machine_207, ↓x_X5_machine_208, n3, c, w32_s hs5, c3, ↓reduceIte]
        · have e : nxt kd n s = s := if_neg (fun z => c2 z.2)
          have c3 : (n : Int) ≤ ((s + 1 : Nat) : Int) := by omega
          rw [e]
          simp only [↓x_X5_machine_0, ↓x_X5_machine_1, ↓x_X5_machine_2, ↓x_X5_machine_3, ↓x_X5_machine_6, ↓x_X5_machine_9, ↓x_X5_machine_12, ↓x_X5_machine_13, ↓x_X5_machine_14, ↓x_X5_machine_17, ↓x_X5_machine_18, ↓x_X5_machine_21, ↓x_X5_machine_22, ↓x_X5_machine_23, ↓x_X5_machine_24, ↓x_X5_machine_27, ↓x_X5_machine_28, ↓x_X5_machine_31, ↓x_X5_machine_32, ↓x_X5_machine_35, ↓x_X5_machine_36, ↓x_X5_machine_37, ↓x_X5_machine_40, ↓x_X5_machine_41, ↓x_X5_machine_42, ↓x_X5_machine_45, ↓x_X5_machine_46, ↓x_X5_machine_47, ↓x_X5_machine_48, ↓x_X5_machine_51, ↓x_X5_machine_53, ↓x_X5_machine_56, ↓x_X5_machine_58, ↓x_X5_machine_59, ↓x_X5_machine_60, ↓x_X5_machine_63, ↓x_X5_machine_64, ↓x_X5_machine_65, ↓x_X5_machine_68, ↓x_X5_machine_69, ↓x_X5_machine_70, ↓x_X5_machine_73, ↓x_X5_machine_74, ↓x_X5_machine_75, ↓x_X5_machine_78, ↓x_X5_machine_79, ↓x_X5_machine_80, ↓x_X5_machine_81, ↓x_X5_machine_82, ↓x_X5_machine_85, ↓x_X5_machine_86, ↓x_X5_machine_87, ↓x_X5_machine_88, ↓x_X5_machine_89, ↓x_X5_machine_92, ↓x_X5_machine_93, ↓x_X5_machine_94, ↓x_X5_machine_95, ↓x_X5_machine_96, ↓x_X5_machine_99, ↓x_X5_machine_100, ↓x_X5_machine_101, ↓x_X5_machine_102, ↓x_X5_machine_103, ↓x_X5_machine_107, ↓x_X5_machine_108, ↓x_X5_machine_111, ↓x_X5_machine_112, ↓x_X5_machine_115, ↓x_X5_machine_116, ↓x_X5_machine_117, ↓x_X5_machine_118, ↓x_X5_machine_120, ↓x_X5_machine_121, ↓x_X5_machine_122, ↓x_X5_machine_123, ↓x_X5_machine_124, ↓x_X5_machine_128, ↓x_X5_machine_129, ↓x_X5_machine_132, ↓x_X5_machine_133, ↓x_X5_machine_134, ↓x_X5_machine_137, ↓x_X5_machine_139, ↓x_X5_machine_140, ↓x_X5_machine_141, ↓x_X5_machine_142, ↓x_X5_machine_145, ↓x_X5_machine_147, ↓x_X5_machine_148, ↓x_X5_machine_149, ↓x_X5_machine_152, ↓x_X5_machine_154, ↓x_X5_machine_157, ↓x_X5_machine_160, ↓x_X5_machine_162, ↓x_X5_machine_163, ↓x_X5_machine_164, ↓x_X5_machine_165, ↓x_X5_machine_167, ↓x_X5_machine_168, ↓x_X5_machine_169, ↓x_X5_machine_171, ↓x_X5_machine_172, ↓x_X5_machine_174, ↓x_X5_machine_176, ↓x_X5_machine_179, ↓x_X5_machine_180, ↓x_X5_machine_183, ↓x_X5_machine_184, ↓x_X5_machine_185, ↓x_X5_machine_188, ↓x_X5_machine_194, ↓x_X5_machine_197, ↓x_X5_machine_198, ↓x_X5_machine_199, ↓x_X5_machine_202, ↓x_X5_machine_203, ↓x_X5_machine_204, ↓x_X5_machine_207, ↓x_X5_machine_208, n3, c, w32_s hs5, c3, ↓reduceIte]
    rw [s156, ← a1]
    by_cases e : t = nxt kd n s
    · have e1 : ¬ ¬ (t : Int) = ((nxt kd n s : Nat) : Int) := fun z => z (by omega)
      rw [if_pos e]
      simp only [↓x_X5_machine_0, ↓x_X5_machine_1, ↓x_X5_machine_2, ↓x_X5_machine_3, ↓x_X5_machine_6, ↓x_X5_machine_9, ↓x_X5_machine_12, ↓x_X5_machine_13, ↓x_X5_machine_14, ↓x_X5_machine_17, ↓x_X5_machine_18, ↓x_X5_machine_21, ↓x_X5_machine_22, ↓x_X5_machine_23, ↓x_X5_machine_24, ↓x_X5_machine_27, ↓x_X5_machine_28, ↓x_X5_machine_31, ↓x_X5_machine_32, ↓x_X5_machine_35, ↓x_X5_machine_36, ↓x_X5_machine_37, ↓x_X5_machine_40, ↓x_X5_machine_41, ↓x_X5_machine_42, ↓x_X5_machine_45, ↓x_X5_machine_46, ↓x_X5_machine_47, ↓x_X5_machine_48, ↓x_X5_machine_51, ↓x_X5_machine_53, ↓x_X5_machine_56, ↓x_X5_machine_58, ↓x_X5_machine_59, ↓x_X5_machine_60, ↓x_X5_machine_63, ↓x_X5_machine_64, ↓x_X5_machine_65, ↓x_X5_machine_68, ↓x_X5_machine_69, ↓x_X5_machine_70, ↓x_X5_machine_73, ↓x_X5_machine_74, ↓x_X5_machine_75, ↓x_X5_machine_78, ↓x_X5_machine_79, ↓x_X5_machine_80, ↓x_X5_machine_81, ↓x_X5_machine_82, ↓x_X5_machine_85, ↓x_X5_machine_86, ↓x_X5_machine_87, ↓x_X5_machine_88, ↓x_X5_machine_89, ↓x_X5_machine_92, ↓x_X5_machine_93, ↓x_X5_machine_94, ↓x_X5_machine_95, ↓x_X5_machine_96, ↓x_X5_machine_99, ↓x_X5_machine_100, ↓x_X5_machine_101, ↓x_X5_machine_102, ↓x_X5_machine_103, ↓x_X5_machine_107, ↓x_X5_machine_108, ↓x_X5_machine_111, ↓x_X5_machine_112, ↓x_X5_machine_115, ↓x_X5_machine_116, ↓x_X5_machine_117, ↓x_X5_machine_118, ↓x_X5_machine_120, ↓x_X5_machine_121, ↓x_X5_machine_122, ↓x_X5_machine_123, ↓x_X5_machine_124, ↓x_X5_machine_128, ↓x_X5_machine_129, ↓x_X5_machine_132, ↓x_X5_machine_133, ↓x_X5_machine_134, ↓x_X5_machine_137, ↓x_X5_machine_139, ↓x_X5_machine_140, ↓x_X5_machine_141, ↓x_X5_machine_142, ↓x_X5_machine_145, ↓x_X5_machine_147, ↓x_X5_machine_148, ↓x_X5_machine_149, ↓x_X5_machine_152, ↓x_X5_machine_154, ↓x_X5_machine_156, ↓x_X5_machine_157, ↓x_X5_machine_160, ↓x_X5_machine_162, ↓x_X5_machine_163, ↓x_X5_machine_164, ↓x_X5_machine_165, ↓x_X5_machine_167, ↓x_X5_machine_168, ↓x_X5_machine_169, ↓x_X5_machine_171, ↓x_X5_machine_172, ↓x_X5_machine_174, ↓x_X5_machine_176, ↓x_X5_machine_179, ↓x_X5_machine_180, ↓x_X5_machine_183, ↓x_X5_machine_184, ↓x_X5_machine_185, ↓x_X5_machine_188, ↓x_X5_machine_194, ↓x_X5_machine_197, ↓x_X5_machine_198, ↓x_X5_machine_199, ↓x_X5_machine_202, ↓x_X5_machine_203, ↓x_X5_machine_204, ↓x_X5_machine_207, ↓x_X5_machine_208, ↓gK_of q15, (w25m hm hs t5).1, (w25m hm hs t5).2.1, (w25m hm hs t5).2.2, (w5m s16 t5).1, e1, j0, Int.toNat_natCast, pK_of hv', w32_s ht5, ↓reduceIte]
    · have e1 : ¬ (t : Int) = ((nxt kd n s : Nat) : Int) := by omega
      rw [if_neg e]
      simp only [↓x_X5_machine_0, ↓x_X5_machine_1, ↓x_X5_machine_2, ↓x_X5_machine_3, ↓x_X5_machine_6, ↓x_X5_machine_9, ↓x_X5_machine_12, ↓x_X5_machine_13, ↓x_X5_machine_14, ↓x_X5_machine_17, ↓x_X5_machine_18, ↓x_X5_machine_21, ↓x_X5_machine_22, ↓x_X5_machine_23, ↓x_X5_machine_24, ↓x_X5_machine_27, ↓x_X5_machine_28, ↓x_X5_machine_31, ↓x_X5_machine_32, ↓x_X5_machine_35, ↓x_X5_machine_36, ↓x_X5_machine_37, ↓x_X5_machine_40, ↓x_X5_machine_41, ↓x_X5_machine_42, ↓x_X5_machine_45, ↓x_X5_machine_46, ↓x_X5_machine_47, ↓x_X5_machine_48, ↓x_X5_machine_51, ↓x_X5_machine_53, ↓x_X5_machine_56, ↓x_X5_machine_58, ↓x_X5_machine_59, ↓x_X5_machine_60, ↓x_X5_machine_63, ↓x_X5_machine_64, ↓x_X5_machine_65, ↓x_X5_machine_68, ↓x_X5_machine_69, ↓x_X5_machine_70, ↓x_X5_machine_73, ↓x_X5_machine_74, ↓x_X5_machine_75, ↓x_X5_machine_78, ↓x_X5_machine_79, ↓x_X5_machine_80, ↓x_X5_machine_81, ↓x_X5_machine_82, ↓x_X5_machine_85, ↓x_X5_machine_86, ↓x_X5_machine_87, ↓x_X5_machine_88, ↓x_X5_machine_89, ↓x_X5_machine_92, ↓x_X5_machine_93, ↓x_X5_machine_94, ↓x_X5_machine_95, ↓x_X5_machine_96, ↓x_X5_machine_99, ↓x_X5_machine_100, ↓x_X5_machine_101, ↓x_X5_machine_102, ↓x_X5_machine_103, ↓x_X5_machine_107, ↓x_X5_machine_108, ↓x_X5_machine_111, ↓x_X5_machine_112, ↓x_X5_machine_115, ↓x_X5_machine_116, ↓x_X5_machine_117, ↓x_X5_machine_118, ↓x_X5_machine_120, ↓x_X5_machine_121, ↓x_X5_machine_122, ↓x_X5_machine_123, ↓x_X5_machine_124, ↓x_X5_machine_128, ↓x_X5_machine_129, ↓x_X5_machine_132, ↓x_X5_machine_133, ↓x_X5_machine_134, ↓x_X5_machine_137, ↓x_X5_machine_139, ↓x_X5_machine_140, ↓x_X5_machine_141, ↓x_X5_machine_142, ↓x_X5_machine_145, ↓x_X5_machine_147, ↓x_X5_machine_148, ↓x_X5_machine_149, ↓x_X5_machine_152, ↓x_X5_machine_154, ↓x_X5_machine_156, ↓x_X5_machine_157, ↓x_X5_machine_160, ↓x_X5_machine_162, ↓x_X5_machine_163, ↓x_X5_machine_164, ↓x_X5_machine_165, ↓x_X5_machine_167, ↓x_X5_machine_168, ↓x_X5_machine_169, ↓x_X5_machine_171, ↓x_X5_machine_172, ↓x_X5_machine_174, ↓x_X5_machine_176, ↓x_X5_machine_179, ↓x_X5_machine_180, ↓x_X5_machine_183, ↓x_X5_machine_184, ↓x_X5_machine_185, ↓x_X5_machine_188, ↓x_X5_machine_194, ↓x_X5_machine_197, ↓x_X5_machine_198, ↓x_X5_machine_199, ↓x_X5_machine_202, ↓x_X5_machine_203, ↓x_X5_machine_204, ↓x_X5_machine_207, ↓x_X5_machine_208, ↓gK_of q15, (w25m hm hs t5).1, (w25m hm hs t5).2.1, (w25m hm hs t5).2.2, (w5m s16 t5).1, e1, j0, Int.toNat_natCast, pK_of hv', w32_s ht5, not_false_eq_true, ↓reduceIte]
theorem lr_m1 {h0 : AH} (F : WF S) (hm : mS S < 16) {kd : Int} {n : Nat} (hk : 0 ≤ kd ∧ kd ≤ 3) (hn : n ≤ 5) : ∀ (d s : Nat) (h : AH) (v5 v6 : AV), s + d = 5 → IR S kd n h0 h s 0 →
    ∃ h' v5' v6', X mX5_machine 105 [aR (some 0), aI kd, aI n, aI (mS S : Nat), aI s, v5, v6] [] h = X mX5_machine 197 [aR (some 0), aI kd, aI n, aI (mS S : Nat), aI 5, v5', v6'] [] h' ∧ IR S kd n h0 h' 5 0 := by
  intro d
  induction d with
  | zero =>
    intro s h v5 v6 hd I
    have e : s = 5 := by omega
    subst e
    have n1 : (5 : Int) ≤ ((5 : Nat) : Int) := by decide
    refine ⟨h, v5, v6, ?_, I⟩
    rw [x_X5_machine_105]
    simp only [↓x_X5_machine_0, ↓x_X5_machine_1, ↓x_X5_machine_2, ↓x_X5_machine_3, ↓x_X5_machine_6, ↓x_X5_machine_9, ↓x_X5_machine_12, ↓x_X5_machine_13, ↓x_X5_machine_14, ↓x_X5_machine_17, ↓x_X5_machine_18, ↓x_X5_machine_21, ↓x_X5_machine_22, ↓x_X5_machine_23, ↓x_X5_machine_24, ↓x_X5_machine_27, ↓x_X5_machine_28, ↓x_X5_machine_31, ↓x_X5_machine_32, ↓x_X5_machine_35, ↓x_X5_machine_36, ↓x_X5_machine_37, ↓x_X5_machine_40, ↓x_X5_machine_41, ↓x_X5_machine_42, ↓x_X5_machine_45, ↓x_X5_machine_46, ↓x_X5_machine_47, ↓x_X5_machine_48, ↓x_X5_machine_51, ↓x_X5_machine_53, ↓x_X5_machine_56, ↓x_X5_machine_58, ↓x_X5_machine_59, ↓x_X5_machine_60, ↓x_X5_machine_63, ↓x_X5_machine_64, ↓x_X5_machine_65, ↓x_X5_machine_68, ↓x_X5_machine_69, ↓x_X5_machine_70, ↓x_X5_machine_73, ↓x_X5_machine_74, ↓x_X5_machine_75, ↓x_X5_machine_78, ↓x_X5_machine_79, ↓x_X5_machine_80, ↓x_X5_machine_81, ↓x_X5_machine_82, ↓x_X5_machine_85, ↓x_X5_machine_86, ↓x_X5_machine_87, ↓x_X5_machine_88, ↓x_X5_machine_89, ↓x_X5_machine_92, ↓x_X5_machine_93, ↓x_X5_machine_94, ↓x_X5_machine_95, ↓x_X5_machine_96, ↓x_X5_machine_99, ↓x_X5_machine_100, ↓x_X5_machine_101, ↓x_X5_machine_102, ↓x_X5_machine_103, ↓x_X5_machine_107, ↓x_X5_machine_108, ↓x_X5_machine_111, ↓x_X5_machine_112, ↓x_X5_machine_115, ↓x_X5_machine_116, ↓x_X5_machine_117, ↓x_X5_machine_118, ↓x_X5_machine_120, ↓x_X5_machine_121, ↓x_X5_machine_122, ↓x_X5_machine_123, ↓x_X5_machine_124, ↓x_X5_machine_128, ↓x_X5_machine_129, ↓x_X5_machine_132, ↓x_X5_machine_133, ↓x_X5_machine_134, ↓x_X5_machine_137, ↓x_X5_machine_139, ↓x_X5_machine_140, ↓x_X5_machine_141, ↓x_X5_machine_142, ↓x_X5_machine_145, ↓x_X5_machine_147, ↓x_X5_machine_148, ↓x_X5_machine_149, ↓x_X5_machine_152, ↓x_X5_machine_154, ↓x_X5_machine_156, ↓x_X5_machine_157, ↓x_X5_machine_160, ↓x_X5_machine_162, ↓x_X5_machine_163, ↓x_X5_machine_164, ↓x_X5_machine_165, ↓x_X5_machine_167, ↓x_X5_machine_168, ↓x_X5_machine_169, ↓x_X5_machine_171, ↓x_X5_machine_172, ↓x_X5_machine_174, ↓x_X5_machine_176, ↓x_X5_machine_179, ↓x_X5_machine_180, ↓x_X5_machine_183, ↓x_X5_machine_184, ↓x_X5_machine_185, ↓x_X5_machine_188, ↓x_X5_machine_191, ↓x_X5_machine_194, ↓x_X5_machine_198, ↓x_X5_machine_199, ↓x_X5_machine_202, ↓x_X5_machine_203, ↓x_X5_machine_204, ↓x_X5_machine_207, ↓x_X5_machine_208, n1, ↓reduceIte]
    rfl
  | succ d ih =>
    intro s h v5 v6 hd I
    obtain ⟨i1, i2, i3, i4, i5⟩ := I
    have n3 : ¬ (5 : Int) ≤ (s : Int) := by omega
    have s5 : s < 5 := by omega
    have hs5 : s ≤ 1000 := by omega
    have q14 := i1.f 14 rfl
    have j2 : (0 : Int) ≤ ((5 * mS S + s : Nat) : Int) := Int.natCast_nonneg _
    obtain ⟨v, hv⟩ := i1.1 9 (5 * mS S + s) (show 5 * mS S + s < 80 by omega)
    have hv' : rd h 10 9 (5 * mS S + s) = some v := hv
    obtain ⟨h1, v6a, a1, a2⟩ := lr_m2 (h0 := h0) F hm hk hn s5 5 0 (wr h 10 9 (5 * mS S + s) (aI 0)) v6 (by omega) ⟨i1.wn 9 _ _ (rV_m9 s5), ⟨i2.1.tr L0.w, by rw [rd_wn (Or.inl (by decide))]; exact i2.2⟩, ⟨by rw [rd_wn (Or.inr (Or.inl (by decide)))]; exact i3.1, by rw [rd_wn (Or.inr (Or.inl (by decide)))]; exact i3.2.1, by rw [rd_wn (Or.inr (Or.inl (by decide)))]; exact i3.2.2.1, by rw [rd_wn (Or.inr (Or.inl (by decide)))]; exact i3.2.2.2⟩, fun u hu h1 => by
        by_cases e : u = s
        · subst e; exact rd_wr hv'
        · rw [rd_wn (Or.inr (Or.inr (by omega)))]; exact i4 u hu (by omega), fun u w hu hw h1 => by rw [rd_wn (Or.inr (Or.inl (by decide)))]; exact i5 u w hu hw (by omega)⟩
    obtain ⟨h', v5', v6', b1, b2⟩ := ih (s + 1) h1 (aI 5) v6a (by omega) a2
    refine ⟨h', v5', v6', ?_, b2⟩
    rw [← b1, x_X5_machine_105]
    simp only [↓x_X5_machine_0, ↓x_X5_machine_1, ↓x_X5_machine_2, ↓x_X5_machine_3, ↓x_X5_machine_6, ↓x_X5_machine_9, ↓x_X5_machine_12, ↓x_X5_machine_13, ↓x_X5_machine_14, ↓x_X5_machine_17, ↓x_X5_machine_18, ↓x_X5_machine_21, ↓x_X5_machine_22, ↓x_X5_machine_23, ↓x_X5_machine_24, ↓x_X5_machine_27, ↓x_X5_machine_28, ↓x_X5_machine_31, ↓x_X5_machine_32, ↓x_X5_machine_35, ↓x_X5_machine_36, ↓x_X5_machine_37, ↓x_X5_machine_40, ↓x_X5_machine_41, ↓x_X5_machine_42, ↓x_X5_machine_45, ↓x_X5_machine_46, ↓x_X5_machine_47, ↓x_X5_machine_48, ↓x_X5_machine_51, ↓x_X5_machine_53, ↓x_X5_machine_56, ↓x_X5_machine_58, ↓x_X5_machine_59, ↓x_X5_machine_60, ↓x_X5_machine_63, ↓x_X5_machine_64, ↓x_X5_machine_65, ↓x_X5_machine_68, ↓x_X5_machine_69, ↓x_X5_machine_70, ↓x_X5_machine_73, ↓x_X5_machine_74, ↓x_X5_machine_75, ↓x_X5_machine_78, ↓x_X5_machine_79, ↓x_X5_machine_80, ↓x_X5_machine_81, ↓x_X5_machine_82, ↓x_X5_machine_85, ↓x_X5_machine_86, ↓x_X5_machine_87, ↓x_X5_machine_88, ↓x_X5_machine_89, ↓x_X5_machine_92, ↓x_X5_machine_93, ↓x_X5_machine_94, ↓x_X5_machine_95, ↓x_X5_machine_96, ↓x_X5_machine_99, ↓x_X5_machine_100, ↓x_X5_machine_101, ↓x_X5_machine_102, ↓x_X5_machine_103, ↓x_X5_machine_107, ↓x_X5_machine_108, ↓x_X5_machine_111, ↓x_X5_machine_112, ↓x_X5_machine_115, ↓x_X5_machine_116, ↓x_X5_machine_117, ↓x_X5_machine_118, ↓x_X5_machine_120, ↓x_X5_machine_121, ↓x_X5_machine_122, ↓x_X5_machine_123, ↓x_X5_machine_124, ↓x_X5_machine_128, ↓x_X5_machine_129, ↓x_X5_machine_132, ↓x_X5_machine_133, ↓x_X5_machine_134, ↓x_X5_machine_137, ↓x_X5_machine_139, ↓x_X5_machine_140, ↓x_X5_machine_141, ↓x_X5_machine_142, ↓x_X5_machine_145, ↓x_X5_machine_147, ↓x_X5_machine_148, ↓x_X5_machine_149, ↓x_X5_machine_152, ↓x_X5_machine_154, ↓x_X5_machine_156, ↓x_X5_machine_157, ↓x_X5_machine_160, ↓x_X5_machine_162, ↓x_X5_machine_163, ↓x_X5_machine_164, ↓x_X5_machine_165, ↓x_X5_machine_167, ↓x_X5_machine_168, ↓x_X5_machine_169, ↓x_X5_machine_171, ↓x_X5_machine_172, ↓x_X5_machine_174, ↓x_X5_machine_176, ↓x_X5_machine_179, ↓x_X5_machine_180, ↓x_X5_machine_183, ↓x_X5_machine_184, ↓x_X5_machine_185, ↓x_X5_machine_188, ↓x_X5_machine_191, ↓x_X5_machine_194, ↓x_X5_machine_198, ↓x_X5_machine_199, ↓x_X5_machine_202, ↓x_X5_machine_203, ↓x_X5_machine_204, ↓x_X5_machine_207, ↓x_X5_machine_208, n3, ↓gK_of q14, (w5m hm s5).1, (w5m hm s5).2, j2, Int.toNat_natCast, pK_of hv', ↓reduceIte]
    refine a1.trans ?_
    simp only [↓x_X5_machine_0, ↓x_X5_machine_1, ↓x_X5_machine_2, ↓x_X5_machine_3, ↓x_X5_machine_6, ↓x_X5_machine_9, ↓x_X5_machine_12, ↓x_X5_machine_13, ↓x_X5_machine_14, ↓x_X5_machine_17, ↓x_X5_machine_18, ↓x_X5_machine_21, ↓x_X5_machine_22, ↓x_X5_machine_23, ↓x_X5_machine_24, ↓x_X5_machine_27, ↓x_X5_machine_28, ↓x_X5_machine_31, ↓x_X5_machine_32, ↓x_X5_machine_35, ↓x_X5_machine_36, ↓x_X5_machine_37, ↓x_X5_machine_40, ↓x_X5_machine_41, ↓x_X5_machine_42, ↓x_X5_machine_45, ↓x_X5_machine_46, ↓x_X5_machine_47, ↓x_X5_machine_48, ↓x_X5_machine_51, ↓x_X5_machine_53, ↓x_X5_machine_56, ↓x_X5_machine_58, ↓x_X5_machine_59, ↓x_X5_machine_60, ↓x_X5_machine_63, ↓x_X5_machine_64, ↓x_X5_machine_65, ↓x_X5_machine_68, ↓x_X5_machine_69, ↓x_X5_machine_70, ↓x_X5_machine_73, ↓x_X5_machine_74, ↓x_X5_machine_75, ↓x_X5_machine_78, ↓x_X5_machine_79, ↓x_X5_machine_80, ↓x_X5_machine_81, ↓x_X5_machine_82, ↓x_X5_machine_85, ↓x_X5_machine_86, ↓x_X5_machine_87, ↓x_X5_machine_88, ↓x_X5_machine_89, ↓x_X5_machine_92, ↓x_X5_machine_93, ↓x_X5_machine_94, ↓x_X5_machine_95, ↓x_X5_machine_96, ↓x_X5_machine_99, ↓x_X5_machine_100, ↓x_X5_machine_101, ↓x_X5_machine_102, ↓x_X5_machine_103, ↓x_X5_machine_107, ↓x_X5_machine_108, ↓x_X5_machine_111, ↓x_X5_machine_112, ↓x_X5_machine_115, ↓x_X5_machine_116, ↓x_X5_machine_117, ↓x_X5_machine_118, ↓x_X5_machine_120, ↓x_X5_machine_121, ↓x_X5_machine_122, ↓x_X5_machine_123, ↓x_X5_machine_124, ↓x_X5_machine_128, ↓x_X5_machine_129, ↓x_X5_machine_132, ↓x_X5_machine_133, ↓x_X5_machine_134, ↓x_X5_machine_137, ↓x_X5_machine_139, ↓x_X5_machine_140, ↓x_X5_machine_141, ↓x_X5_machine_142, ↓x_X5_machine_145, ↓x_X5_machine_147, ↓x_X5_machine_148, ↓x_X5_machine_149, ↓x_X5_machine_152, ↓x_X5_machine_154, ↓x_X5_machine_156, ↓x_X5_machine_157, ↓x_X5_machine_160, ↓x_X5_machine_162, ↓x_X5_machine_163, ↓x_X5_machine_164, ↓x_X5_machine_165, ↓x_X5_machine_167, ↓x_X5_machine_168, ↓x_X5_machine_169, ↓x_X5_machine_171, ↓x_X5_machine_172, ↓x_X5_machine_174, ↓x_X5_machine_176, ↓x_X5_machine_179, ↓x_X5_machine_180, ↓x_X5_machine_183, ↓x_X5_machine_184, ↓x_X5_machine_185, ↓x_X5_machine_188, ↓x_X5_machine_191, ↓x_X5_machine_194, ↓x_X5_machine_198, ↓x_X5_machine_199, ↓x_X5_machine_202, ↓x_X5_machine_203, ↓x_X5_machine_204, ↓x_X5_machine_207, ↓x_X5_machine_208, w32_s hs5]
theorem RB0.nm {h0 h : AH} (F : WF S) {kd : Int} {n : Nat} (hn : 1 ≤ n ∧ n ≤ 5) (h16 : ¬ S 0 6 0 0 = 16) (I : IR S kd n h0 h 5 0) : RB0 (nmS S kd n) (wr h 5 0 10 (aI (S 0 6 0 0 + 1))) := by
  obtain ⟨H, i2, ⟨r6, r7, r8, r11⟩, r9, r10⟩ := I
  have f6 := F.1.1
  have es : mS (nmS S kd n) = mS S + 1 := by unfold mS nmS; rw [ups_s]; omega
  obtain ⟨q0, q1, q6, q7, qp, qw⟩ := nm_1 (S := S) (kd := kd) (n := n)
  have en : nS (nmS S kd n) (mS S) = n := by unfold nS; rw [q1, Int.toNat_natCast]
  have ee : ∀ m, m ≠ mS S → nS (nmS S kd n) m = nS S m := fun m hm => by unfold nS; rw [(nm_am hm).1]
  refine H.put0 10 _ (by decide) (fun a e k v q => ?_) (fun k e => ?_) rfl
  · match a, q with
    | 0, _ => exact absurd rfl e
    | 6, q =>
      have q' : (if k < mS (nmS S kd n) then some (aI (nmS S kd n 1 k 0 0)) else none) = some v := q
      rw [es] at q'
      by_cases c : k < mS S + 1
      · rw [if_pos c] at q'
        rw [← q']
        by_cases c2 : k = mS S
        · subst c2; rw [q0]; exact r6
        · rw [(nm_am c2).1]; exact H.r6 (by omega)
      · rw [if_neg c] at q'; cases q'
    | 7, q =>
      have q' : (if k < mS (nmS S kd n) then some (aI (nmS S kd n 1 k 1 0)) else none) = some v := q
      rw [es] at q'
      by_cases c : k < mS S + 1
      · rw [if_pos c] at q'
        rw [← q']
        by_cases c2 : k = mS S
        · subst c2; rw [q1]; exact r7
        · rw [(nm_am c2).1]; exact H.r7 (by omega)
      · rw [if_neg c] at q'; cases q'
    | 8, q =>
      have q' : (if k < mS (nmS S kd n) then some (aI (nmS S kd n 1 k 6 0)) else none) = some v := q
      rw [es] at q'
      by_cases c : k < mS S + 1
      · rw [if_pos c] at q'
        rw [← q']
        by_cases c2 : k = mS S
        · subst c2; rw [q6]; exact r8
        · rw [(nm_am c2).1]; exact H.r8 (by omega)
      · rw [if_neg c] at q'; cases q'
    | 11, q =>
      have q' : (if k < mS (nmS S kd n) then some (aI (nmS S kd n 1 k 7 0)) else none) = some v := q
      rw [es] at q'
      by_cases c : k < mS S + 1
      · rw [if_pos c] at q'
        rw [← q']
        by_cases c2 : k = mS S
        · subst c2; rw [q7]; exact r11
        · rw [(nm_am c2).1]; exact H.r11 (by omega)
      · rw [if_neg c] at q'; cases q'
    | 9, q =>
      have q' : (if k / 5 < mS (nmS S kd n) ∧ k % 5 < nS (nmS S kd n) (k / 5) then some (aI (nmS S kd n 2 (k / 5) (k % 5) 0)) else none) = some v := q
      rw [es] at q'
      have ek : 5 * (k / 5) + k % 5 = k := Nat.div_add_mod k 5
      by_cases c : k / 5 < mS S + 1 ∧ k % 5 < nS (nmS S kd n) (k / 5)
      · rw [if_pos c] at q'
        rw [← q']
        by_cases c2 : k / 5 = mS S
        · rw [c2, qp]
          have := r9 (k % 5) (Nat.mod_lt _ (by decide)) (Or.inl (Nat.mod_lt _ (by decide)))
          rw [← c2, ek] at this
          exact this
        · rw [(nm_am c2).2.1]
          rw [ee _ c2] at c
          have := H.r9 (m := k / 5) (s := k % 5) (by omega) c.2 (Nat.mod_lt _ (by decide))
          rw [ek] at this
          exact this
      · rw [if_neg c] at q'; cases q'
    | 10, q =>
      have q' : (if k / 25 < mS (nmS S kd n) ∧ k % 25 / 5 < nS (nmS S kd n) (k / 25) then some (aI (if k % 5 < nS (nmS S kd n) (k / 25) then nmS S kd n 3 (k / 25) (k % 25 / 5) (k % 5) else 0)) else none) = some v := q
      rw [es] at q'
      have ek : 25 * (k / 25) + 5 * (k % 25 / 5) + k % 5 = k := by omega
      have l1 : k % 25 / 5 < 5 := by omega
      have l2 : k % 5 < 5 := Nat.mod_lt _ (by decide)
      by_cases c : k / 25 < mS S + 1 ∧ k % 25 / 5 < nS (nmS S kd n) (k / 25)
      · rw [if_pos c] at q'
        rw [← q']
        by_cases c2 : k / 25 = mS S
        · have := r10 (k % 25 / 5) (k % 5) l1 l2 (Or.inl l1)
          rw [← c2, ek] at this
          rw [show rT 10 = 10 from rfl, this, c2, en, qw]
          rw [c2, en] at c
          by_cases c3 : k % 5 < n
          · rw [if_pos c3]
          · rw [if_neg c3, if_neg (fun z => by have := nxt_b (kd := kd) c.2; omega)]
        · rw [(nm_am c2).2.2.1, ee _ c2]
          rw [ee _ c2] at c
          have := H.r10 (m := k / 25) (s := k % 25 / 5) (t := k % 5) (by omega) c.2 l1 l2
          rw [ek] at this
          exact this
      · rw [if_neg c] at q'; cases q'
    | 1, q => exact H.2 1 k v q
    | 2, q => exact H.2 2 k v q
    | 3, q => exact H.2 3 k v q
    | 4, q => exact H.2 4 k v q
    | 5, q => exact H.2 5 k v q
    | 12, q => exact H.2 12 k v q
    | 13, q => exact H.2 13 k v q
    | 14, q => exact H.2 14 k v q
    | 15, q => exact H.2 15 k v q
    | 16, q => exact H.2 16 k v q
    | 17, q => exact H.2 17 k v q
    | a + 18, q => exact H.2 (a + 18) k v q
  · match k, e with
    | 0, e => rfl
    | 1, e => rfl
    | 2, e => rfl
    | 3, e => rfl
    | 4, e => rfl
    | 5, e => rfl
    | 6, e => rfl
    | 7, e => rfl
    | 8, e => rfl
    | 9, e => rfl
    | 10, e => exact absurd rfl e
    | 11, e => rfl
    | 12, e => rfl
    | 13, e => rfl
    | 14, e => rfl
    | 15, e => rfl
    | 16, e => rfl
    | 17, e => rfl
    | 18, e => rfl
    | 19, e => rfl
    | 20, e => rfl
    | 21, e => rfl
    | 22, e => rfl
    | 23, e => rfl
    | 24, e => rfl
    | 25, e => rfl
    | 26, e => rfl
    | 27, e => rfl
    | 28, e => rfl
    | 29, e => rfl
    | _ + 30, e => rfl
end RMA
theorem CR_machine {S : SS} (F : WF S) (kd n : Int) : CR mX5_machine [aI kd, aI n] aI S (o_machine kd n S) := by
  intro h H
  have ho : isO h 5 0 = true := isO_rd (H.1.f 4 rfl)
  have ci := c_in (h := h) (v := kd) (lo := 0) (hi := 3)
  have cf5 := m_fd5 H.1
  have q10 := H.1.f 10 rfl
  have f6 := F.1.1
  have z : ¬ (1 : Int) = 0 := by decide
  unfold o_machine
  rw [e_X5_machine]
  by_cases c : kd < 0 ∨ 3 < kd ∨ 5 < n
  · rw [if_pos c]
    refine ⟨h, ?_, H, L0.rf⟩
    by_cases c1 : 0 ≤ kd ∧ kd ≤ 3
    · rw [if_pos c1] at ci
      have c3 : 5 < n := by omega
      simp only [↓x_X5_machine_0, ↓x_X5_machine_1, ↓x_X5_machine_2, ↓x_X5_machine_3, ↓x_X5_machine_6, ↓x_X5_machine_9, ↓x_X5_machine_12, ↓x_X5_machine_13, ↓x_X5_machine_14, ↓x_X5_machine_17, ↓x_X5_machine_18, ↓x_X5_machine_21, ↓x_X5_machine_22, ↓x_X5_machine_23, ↓x_X5_machine_24, ↓x_X5_machine_27, ↓x_X5_machine_28, ↓x_X5_machine_31, ↓x_X5_machine_32, ↓x_X5_machine_35, ↓x_X5_machine_36, ↓x_X5_machine_37, ↓x_X5_machine_40, ↓x_X5_machine_41, ↓x_X5_machine_42, ↓x_X5_machine_45, ↓x_X5_machine_46, ↓x_X5_machine_47, ↓x_X5_machine_48, ↓x_X5_machine_51, ↓x_X5_machine_53, ↓x_X5_machine_56, ↓x_X5_machine_58, ↓x_X5_machine_59, ↓x_X5_machine_60, ↓x_X5_machine_63, ↓x_X5_machine_64, ↓x_X5_machine_65, ↓x_X5_machine_68, ↓x_X5_machine_69, ↓x_X5_machine_70, ↓x_X5_machine_73, ↓x_X5_machine_74, ↓x_X5_machine_75, ↓x_X5_machine_78, ↓x_X5_machine_79, ↓x_X5_machine_80, ↓x_X5_machine_81, ↓x_X5_machine_82, ↓x_X5_machine_85, ↓x_X5_machine_86, ↓x_X5_machine_87, ↓x_X5_machine_88, ↓x_X5_machine_89, ↓x_X5_machine_92, ↓x_X5_machine_93, ↓x_X5_machine_94, ↓x_X5_machine_95, ↓x_X5_machine_96, ↓x_X5_machine_99, ↓x_X5_machine_100, ↓x_X5_machine_101, ↓x_X5_machine_102, ↓x_X5_machine_103, ↓x_X5_machine_107, ↓x_X5_machine_108, ↓x_X5_machine_111, ↓x_X5_machine_112, ↓x_X5_machine_115, ↓x_X5_machine_116, ↓x_X5_machine_117, ↓x_X5_machine_118, ↓x_X5_machine_120, ↓x_X5_machine_121, ↓x_X5_machine_122, ↓x_X5_machine_123, ↓x_X5_machine_124, ↓x_X5_machine_126, ↓x_X5_machine_128, ↓x_X5_machine_129, ↓x_X5_machine_132, ↓x_X5_machine_133, ↓x_X5_machine_134, ↓x_X5_machine_137, ↓x_X5_machine_139, ↓x_X5_machine_140, ↓x_X5_machine_141, ↓x_X5_machine_142, ↓x_X5_machine_145, ↓x_X5_machine_147, ↓x_X5_machine_148, ↓x_X5_machine_149, ↓x_X5_machine_152, ↓x_X5_machine_154, ↓x_X5_machine_156, ↓x_X5_machine_157, ↓x_X5_machine_160, ↓x_X5_machine_162, ↓x_X5_machine_163, ↓x_X5_machine_164, ↓x_X5_machine_165, ↓x_X5_machine_167, ↓x_X5_machine_168, ↓x_X5_machine_169, ↓x_X5_machine_171, ↓x_X5_machine_172, ↓x_X5_machine_174, ↓x_X5_machine_176, ↓x_X5_machine_179, ↓x_X5_machine_180, ↓x_X5_machine_183, ↓x_X5_machine_184, ↓x_X5_machine_185, ↓x_X5_machine_188, ↓x_X5_machine_191, ↓x_X5_machine_194, ↓x_X5_machine_197, ↓x_X5_machine_198, ↓x_X5_machine_199, ↓x_X5_machine_202, ↓x_X5_machine_203, ↓x_X5_machine_204, ↓x_X5_machine_207, ↓x_X5_machine_208, ↓cKI ci, z, c3, ↓reduceIte]
    · rw [if_neg c1] at ci
      simp only [↓x_X5_machine_0, ↓x_X5_machine_1, ↓x_X5_machine_2, ↓x_X5_machine_3, ↓x_X5_machine_6, ↓x_X5_machine_9, ↓x_X5_machine_12, ↓x_X5_machine_13, ↓x_X5_machine_14, ↓x_X5_machine_17, ↓x_X5_machine_18, ↓x_X5_machine_21, ↓x_X5_machine_22, ↓x_X5_machine_23, ↓x_X5_machine_24, ↓x_X5_machine_27, ↓x_X5_machine_28, ↓x_X5_machine_31, ↓x_X5_machine_32, ↓x_X5_machine_35, ↓x_X5_machine_36, ↓x_X5_machine_37, ↓x_X5_machine_40, ↓x_X5_machine_41, ↓x_X5_machine_42, ↓x_X5_machine_45, ↓x_X5_machine_46, ↓x_X5_machine_47, ↓x_X5_machine_48, ↓x_X5_machine_51, ↓x_X5_machine_53, ↓x_X5_machine_56, ↓x_X5_machine_58, ↓x_X5_machine_59, ↓x_X5_machine_60, ↓x_X5_machine_63, ↓x_X5_machine_64, ↓x_X5_machine_65, ↓x_X5_machine_68, ↓x_X5_machine_69, ↓x_X5_machine_70, ↓x_X5_machine_73, ↓x_X5_machine_74, ↓x_X5_machine_75, ↓x_X5_machine_78, ↓x_X5_machine_79, ↓x_X5_machine_80, ↓x_X5_machine_81, ↓x_X5_machine_82, ↓x_X5_machine_85, ↓x_X5_machine_86, ↓x_X5_machine_87, ↓x_X5_machine_88, ↓x_X5_machine_89, ↓x_X5_machine_92, ↓x_X5_machine_93, ↓x_X5_machine_94, ↓x_X5_machine_95, ↓x_X5_machine_96, ↓x_X5_machine_99, ↓x_X5_machine_100, ↓x_X5_machine_101, ↓x_X5_machine_102, ↓x_X5_machine_103, ↓x_X5_machine_107, ↓x_X5_machine_108, ↓x_X5_machine_111, ↓x_X5_machine_112, ↓x_X5_machine_115, ↓x_X5_machine_116, ↓x_X5_machine_117, ↓x_X5_machine_118, ↓x_X5_machine_120, ↓x_X5_machine_121, ↓x_X5_machine_122, ↓x_X5_machine_123, ↓x_X5_machine_124, ↓x_X5_machine_126, ↓x_X5_machine_128, ↓x_X5_machine_129, ↓x_X5_machine_132, ↓x_X5_machine_133, ↓x_X5_machine_134, ↓x_X5_machine_137, ↓x_X5_machine_139, ↓x_X5_machine_140, ↓x_X5_machine_141, ↓x_X5_machine_142, ↓x_X5_machine_145, ↓x_X5_machine_147, ↓x_X5_machine_148, ↓x_X5_machine_149, ↓x_X5_machine_152, ↓x_X5_machine_154, ↓x_X5_machine_156, ↓x_X5_machine_157, ↓x_X5_machine_160, ↓x_X5_machine_162, ↓x_X5_machine_163, ↓x_X5_machine_164, ↓x_X5_machine_165, ↓x_X5_machine_167, ↓x_X5_machine_168, ↓x_X5_machine_169, ↓x_X5_machine_171, ↓x_X5_machine_172, ↓x_X5_machine_174, ↓x_X5_machine_176, ↓x_X5_machine_179, ↓x_X5_machine_180, ↓x_X5_machine_183, ↓x_X5_machine_184, ↓x_X5_machine_185, ↓x_X5_machine_188, ↓x_X5_machine_191, ↓x_X5_machine_194, ↓x_X5_machine_197, ↓x_X5_machine_198, ↓x_X5_machine_199, ↓x_X5_machine_202, ↓x_X5_machine_203, ↓x_X5_machine_204, ↓x_X5_machine_207, ↓x_X5_machine_208, ↓cKI ci, ↓reduceIte]
  · rw [if_neg c]
    rw [if_pos (by omega)] at ci
    have c3 : ¬ 5 < n := by omega
    by_cases d : 0 ≤ n ∧ (n < (if kd = 3 then 2 else 1) ∨ (kd = 1 ∧ ¬ n = 1))
    · rw [if_pos d]
      have d0 : ¬ n < 0 := by omega
      refine ⟨h, ?_, H, L0.rf⟩
      by_cases e3 : kd = 3
      · subst e3
        rw [if_pos rfl] at d
        have d1 : n < 2 := by omega
        simp only [↓x_X5_machine_0, ↓x_X5_machine_1, ↓x_X5_machine_2, ↓x_X5_machine_3, ↓x_X5_machine_6, ↓x_X5_machine_9, ↓x_X5_machine_12, ↓x_X5_machine_13, ↓x_X5_machine_14, ↓x_X5_machine_17, ↓x_X5_machine_18, ↓x_X5_machine_21, ↓x_X5_machine_22, ↓x_X5_machine_23, ↓x_X5_machine_24, ↓x_X5_machine_27, ↓x_X5_machine_28, ↓x_X5_machine_31, ↓x_X5_machine_32, ↓x_X5_machine_35, ↓x_X5_machine_36, ↓x_X5_machine_37, ↓x_X5_machine_40, ↓x_X5_machine_41, ↓x_X5_machine_42, ↓x_X5_machine_45, ↓x_X5_machine_46, ↓x_X5_machine_47, ↓x_X5_machine_48, ↓x_X5_machine_51, ↓x_X5_machine_53, ↓x_X5_machine_56, ↓x_X5_machine_58, ↓x_X5_machine_59, ↓x_X5_machine_60, ↓x_X5_machine_63, ↓x_X5_machine_64, ↓x_X5_machine_65, ↓x_X5_machine_68, ↓x_X5_machine_69, ↓x_X5_machine_70, ↓x_X5_machine_73, ↓x_X5_machine_74, ↓x_X5_machine_75, ↓x_X5_machine_78, ↓x_X5_machine_79, ↓x_X5_machine_80, ↓x_X5_machine_81, ↓x_X5_machine_82, ↓x_X5_machine_85, ↓x_X5_machine_86, ↓x_X5_machine_87, ↓x_X5_machine_88, ↓x_X5_machine_89, ↓x_X5_machine_92, ↓x_X5_machine_93, ↓x_X5_machine_94, ↓x_X5_machine_95, ↓x_X5_machine_96, ↓x_X5_machine_99, ↓x_X5_machine_100, ↓x_X5_machine_101, ↓x_X5_machine_102, ↓x_X5_machine_103, ↓x_X5_machine_107, ↓x_X5_machine_108, ↓x_X5_machine_111, ↓x_X5_machine_112, ↓x_X5_machine_115, ↓x_X5_machine_116, ↓x_X5_machine_117, ↓x_X5_machine_118, ↓x_X5_machine_120, ↓x_X5_machine_121, ↓x_X5_machine_122, ↓x_X5_machine_123, ↓x_X5_machine_124, ↓x_X5_machine_126, ↓x_X5_machine_128, ↓x_X5_machine_129, ↓x_X5_machine_132, ↓x_X5_machine_133, ↓x_X5_machine_134, ↓x_X5_machine_137, ↓x_X5_machine_139, ↓x_X5_machine_140, ↓x_X5_machine_141, ↓x_X5_machine_142, ↓x_X5_machine_145, ↓x_X5_machine_147, ↓x_X5_machine_148, ↓x_X5_machine_149, ↓x_X5_machine_152, ↓x_X5_machine_154, ↓x_X5_machine_156, ↓x_X5_machine_157, ↓x_X5_machine_160, ↓x_X5_machine_162, ↓x_X5_machine_163, ↓x_X5_machine_164, ↓x_X5_machine_165, ↓x_X5_machine_167, ↓x_X5_machine_168, ↓x_X5_machine_169, ↓x_X5_machine_171, ↓x_X5_machine_172, ↓x_X5_machine_174, ↓x_X5_machine_176, ↓x_X5_machine_179, ↓x_X5_machine_180, ↓x_X5_machine_183, ↓x_X5_machine_184, ↓x_X5_machine_185, ↓x_X5_machine_188, ↓x_X5_machine_191, ↓x_X5_machine_194, ↓x_X5_machine_197, ↓x_X5_machine_198, ↓x_X5_machine_199, ↓x_X5_machine_202, ↓x_X5_machine_203, ↓x_X5_machine_204, ↓x_X5_machine_207, ↓x_X5_machine_208, ↓cKI ci, z, c3, d0, d1, not_true_eq_false, ↓reduceIte]
      · rw [if_neg e3] at d
        by_cases d1 : n < 1
        · simp only [↓x_X5_machine_0, ↓x_X5_machine_1, ↓x_X5_machine_2, ↓x_X5_machine_3, ↓x_X5_machine_6, ↓x_X5_machine_9, ↓x_X5_machine_12, ↓x_X5_machine_13, ↓x_X5_machine_14, ↓x_X5_machine_17, ↓x_X5_machine_18, ↓x_X5_machine_21, ↓x_X5_machine_22, ↓x_X5_machine_23, ↓x_X5_machine_24, ↓x_X5_machine_27, ↓x_X5_machine_28, ↓x_X5_machine_31, ↓x_X5_machine_32, ↓x_X5_machine_35, ↓x_X5_machine_36, ↓x_X5_machine_37, ↓x_X5_machine_40, ↓x_X5_machine_41, ↓x_X5_machine_42, ↓x_X5_machine_45, ↓x_X5_machine_46, ↓x_X5_machine_47, ↓x_X5_machine_48, ↓x_X5_machine_51, ↓x_X5_machine_53, ↓x_X5_machine_56, ↓x_X5_machine_58, ↓x_X5_machine_59, ↓x_X5_machine_60, ↓x_X5_machine_63, ↓x_X5_machine_64, ↓x_X5_machine_65, ↓x_X5_machine_68, ↓x_X5_machine_69, ↓x_X5_machine_70, ↓x_X5_machine_73, ↓x_X5_machine_74, ↓x_X5_machine_75, ↓x_X5_machine_78, ↓x_X5_machine_79, ↓x_X5_machine_80, ↓x_X5_machine_81, ↓x_X5_machine_82, ↓x_X5_machine_85, ↓x_X5_machine_86, ↓x_X5_machine_87, ↓x_X5_machine_88, ↓x_X5_machine_89, ↓x_X5_machine_92, ↓x_X5_machine_93, ↓x_X5_machine_94, ↓x_X5_machine_95, ↓x_X5_machine_96, ↓x_X5_machine_99, ↓x_X5_machine_100, ↓x_X5_machine_101, ↓x_X5_machine_102, ↓x_X5_machine_103, ↓x_X5_machine_107, ↓x_X5_machine_108, ↓x_X5_machine_111, ↓x_X5_machine_112, ↓x_X5_machine_115, ↓x_X5_machine_116, ↓x_X5_machine_117, ↓x_X5_machine_118, ↓x_X5_machine_120, ↓x_X5_machine_121, ↓x_X5_machine_122, ↓x_X5_machine_123, ↓x_X5_machine_124, ↓x_X5_machine_126, ↓x_X5_machine_128, ↓x_X5_machine_129, ↓x_X5_machine_132, ↓x_X5_machine_133, ↓x_X5_machine_134, ↓x_X5_machine_137, ↓x_X5_machine_139, ↓x_X5_machine_140, ↓x_X5_machine_141, ↓x_X5_machine_142, ↓x_X5_machine_145, ↓x_X5_machine_147, ↓x_X5_machine_148, ↓x_X5_machine_149, ↓x_X5_machine_152, ↓x_X5_machine_154, ↓x_X5_machine_156, ↓x_X5_machine_157, ↓x_X5_machine_160, ↓x_X5_machine_162, ↓x_X5_machine_163, ↓x_X5_machine_164, ↓x_X5_machine_165, ↓x_X5_machine_167, ↓x_X5_machine_168, ↓x_X5_machine_169, ↓x_X5_machine_171, ↓x_X5_machine_172, ↓x_X5_machine_174, ↓x_X5_machine_176, ↓x_X5_machine_179, ↓x_X5_machine_180, ↓x_X5_machine_183, ↓x_X5_machine_184, ↓x_X5_machine_185, ↓x_X5_machine_188, ↓x_X5_machine_191, ↓x_X5_machine_194, ↓x_X5_machine_197, ↓x_X5_machine_198, ↓x_X5_machine_199, ↓x_X5_machine_202, ↓x_X5_machine_203, ↓x_X5_machine_204, ↓x_X5_machine_207, ↓x_X5_machine_208, ↓cKI ci, z, c3, d0, e3, d1, not_false_eq_true, ↓reduceIte]
        · have d2 : kd = 1 := by omega
          have d3 : ¬ n = 1 := by omega
          subst d2
          have y : ¬ (1 : Int) = 3 := by decide
          simp only [↓x_X5_machine_0, ↓x_X5_machine_1, ↓x_X5_machine_2, ↓x_X5_machine_3, ↓x_X5_machine_6, ↓x_X5_machine_9, ↓x_X5_machine_12, ↓x_X5_machine_13, ↓x_X5_machine_14, ↓x_X5_machine_17, ↓x_X5_machine_18, ↓x_X5_machine_21, ↓x_X5_machine_22, ↓x_X5_machine_23, ↓x_X5_machine_24, ↓x_X5_machine_27, ↓x_X5_machine_28, ↓x_X5_machine_31, ↓x_X5_machine_32, ↓x_X5_machine_35, ↓x_X5_machine_36, ↓x_X5_machine_37, ↓x_X5_machine_40, ↓x_X5_machine_41, ↓x_X5_machine_42, ↓x_X5_machine_45, ↓x_X5_machine_46, ↓x_X5_machine_47, ↓x_X5_machine_48, ↓x_X5_machine_51, ↓x_X5_machine_53, ↓x_X5_machine_56, ↓x_X5_machine_58, ↓x_X5_machine_59, ↓x_X5_machine_60, ↓x_X5_machine_63, ↓x_X5_machine_64, ↓x_X5_machine_65, ↓x_X5_machine_68, ↓x_X5_machine_69, ↓x_X5_machine_70, ↓x_X5_machine_73, ↓x_X5_machine_74, ↓x_X5_machine_75, ↓x_X5_machine_78, ↓x_X5_machine_79, ↓x_X5_machine_80, ↓x_X5_machine_81, ↓x_X5_machine_82, ↓x_X5_machine_85, ↓x_X5_machine_86, ↓x_X5_machine_87, ↓x_X5_machine_88, ↓x_X5_machine_89, ↓x_X5_machine_92, ↓x_X5_machine_93, ↓x_X5_machine_94, ↓x_X5_machine_95, ↓x_X5_machine_96, ↓x_X5_machine_99, ↓x_X5_machine_100, ↓x_X5_machine_101, ↓x_X5_machine_102, ↓x_X5_machine_103, ↓x_X5_machine_107, ↓x_X5_machine_108, ↓x_X5_machine_111, ↓x_X5_machine_112, ↓x_X5_machine_115, ↓x_X5_machine_116, ↓x_X5_machine_117, ↓x_X5_machine_118, ↓x_X5_machine_120, ↓x_X5_machine_121, ↓x_X5_machine_122, ↓x_X5_machine_123, ↓x_X5_machine_124, ↓x_X5_machine_126, ↓x_X5_machine_128, ↓x_X5_machine_129, ↓x_X5_machine_132, ↓x_X5_machine_133, ↓x_X5_machine_134, ↓x_X5_machine_137, ↓x_X5_machine_139, ↓x_X5_machine_140, ↓x_X5_machine_141, ↓x_X5_machine_142, ↓x_X5_machine_145, ↓x_X5_machine_147, ↓x_X5_machine_148, ↓x_X5_machine_149, ↓x_X5_machine_152, ↓x_X5_machine_154, ↓x_X5_machine_156, ↓x_X5_machine_157, ↓x_X5_machine_160, ↓x_X5_machine_162, ↓x_X5_machine_163, ↓x_X5_machine_164, ↓x_X5_machine_165, ↓x_X5_machine_167, ↓x_X5_machine_168, ↓x_X5_machine_169, ↓x_X5_machine_171, ↓x_X5_machine_172, ↓x_X5_machine_174, ↓x_X5_machine_176, ↓x_X5_machine_179, ↓x_X5_machine_180, ↓x_X5_machine_183, ↓x_X5_machine_184, ↓x_X5_machine_185, ↓x_X5_machine_188, ↓x_X5_machine_191, ↓x_X5_machine_194, ↓x_X5_machine_197, ↓x_X5_machine_198, ↓x_X5_machine_199, ↓x_X5_machine_202, ↓x_X5_machine_203, ↓x_X5_machine_204, ↓x_X5_machine_207, ↓x_X5_machine_208, ↓cKI ci, z, c3, d0, y, d1, d3, not_true_eq_false, not_false_eq_true, ↓reduceIte]
    · rw [if_neg d]
      have s47 : X mX5_machine 0 [aR (some 0), aI kd, aI n, aU, aU, aU, aU] [] h = X mX5_machine 47 [aR (some 0), aI kd, aI n, aU, aU, aU, aU] [] h := by
        by_cases d0 : n < 0
        · simp only [↓x_X5_machine_0, ↓x_X5_machine_1, ↓x_X5_machine_2, ↓x_X5_machine_3, ↓x_X5_machine_6, ↓x_X5_machine_9, ↓x_X5_machine_12, ↓x_X5_machine_13, ↓x_X5_machine_14, ↓x_X5_machine_17, ↓x_X5_machine_18, ↓x_X5_machine_21, ↓x_X5_machine_22, ↓x_X5_machine_23, ↓x_X5_machine_24, ↓x_X5_machine_27, ↓x_X5_machine_28, ↓x_X5_machine_31, ↓x_X5_machine_32, ↓x_X5_machine_35, ↓x_X5_machine_36, ↓x_X5_machine_37, ↓x_X5_machine_40, ↓x_X5_machine_41, ↓x_X5_machine_42, ↓x_X5_machine_45, ↓x_X5_machine_46, ↓x_X5_machine_48, ↓x_X5_machine_51, ↓x_X5_machine_53, ↓x_X5_machine_56, ↓x_X5_machine_58, ↓x_X5_machine_59, ↓x_X5_machine_60, ↓x_X5_machine_63, ↓x_X5_machine_64, ↓x_X5_machine_65, ↓x_X5_machine_68, ↓x_X5_machine_69, ↓x_X5_machine_70, ↓x_X5_machine_73, ↓x_X5_machine_74, ↓x_X5_machine_75, ↓x_X5_machine_78, ↓x_X5_machine_79, ↓x_X5_machine_80, ↓x_X5_machine_81, ↓x_X5_machine_82, ↓x_X5_machine_85, ↓x_X5_machine_86, ↓x_X5_machine_87, ↓x_X5_machine_88, ↓x_X5_machine_89, ↓x_X5_machine_92, ↓x_X5_machine_93, ↓x_X5_machine_94, ↓x_X5_machine_95, ↓x_X5_machine_96, ↓x_X5_machine_99, ↓x_X5_machine_100, ↓x_X5_machine_101, ↓x_X5_machine_102, ↓x_X5_machine_103, ↓x_X5_machine_107, ↓x_X5_machine_108, ↓x_X5_machine_111, ↓x_X5_machine_112, ↓x_X5_machine_115, ↓x_X5_machine_116, ↓x_X5_machine_117, ↓x_X5_machine_118, ↓x_X5_machine_120, ↓x_X5_machine_121, ↓x_X5_machine_122, ↓x_X5_machine_123, ↓x_X5_machine_124, ↓x_X5_machine_126, ↓x_X5_machine_128, ↓x_X5_machine_129, ↓x_X5_machine_132, ↓x_X5_machine_133, ↓x_X5_machine_134, ↓x_X5_machine_137, ↓x_X5_machine_139, ↓x_X5_machine_140, ↓x_X5_machine_141, ↓x_X5_machine_142, ↓x_X5_machine_145, ↓x_X5_machine_147, ↓x_X5_machine_148, ↓x_X5_machine_149, ↓x_X5_machine_152, ↓x_X5_machine_154, ↓x_X5_machine_156, ↓x_X5_machine_157, ↓x_X5_machine_160, ↓x_X5_machine_162, ↓x_X5_machine_163, ↓x_X5_machine_164, ↓x_X5_machine_165, ↓x_X5_machine_167, ↓x_X5_machine_168, ↓x_X5_machine_169, ↓x_X5_machine_171, ↓x_X5_machine_172, ↓x_X5_machine_174, ↓x_X5_machine_176, ↓x_X5_machine_179, ↓x_X5_machine_180, ↓x_X5_machine_183, ↓x_X5_machine_184, ↓x_X5_machine_185, ↓x_X5_machine_188, ↓x_X5_machine_191, ↓x_X5_machine_194, ↓x_X5_machine_197, ↓x_X5_machine_198, ↓x_X5_machine_199, ↓x_X5_machine_202, ↓x_X5_machine_203, ↓x_X5_machine_204, ↓x_X5_machine_207, ↓x_X5_machine_208, ↓cKI ci, z, c3, d0, ↓reduceIte]
        · by_cases e3 : kd = 3
          · subst e3
            rw [if_pos rfl] at d
            have d1 : ¬ n < 2 := by omega
            have y : ¬ (3 : Int) = 1 := by decide
            simp only [↓x_X5_machine_0, ↓x_X5_machine_1, ↓x_X5_machine_2, ↓x_X5_machine_3, ↓x_X5_machine_6, ↓x_X5_machine_9, ↓x_X5_machine_12, ↓x_X5_machine_13, ↓x_X5_machine_14, ↓x_X5_machine_17, ↓x_X5_machine_18, ↓x_X5_machine_21, ↓x_X5_machine_22, ↓x_X5_machine_23, ↓x_X5_machine_24, ↓x_X5_machine_27, ↓x_X5_machine_28, ↓x_X5_machine_31, ↓x_X5_machine_32, ↓x_X5_machine_35, ↓x_X5_machine_36, ↓x_X5_machine_37, ↓x_X5_machine_40, ↓x_X5_machine_41, ↓x_X5_machine_42, ↓x_X5_machine_45, ↓x_X5_machine_46, ↓x_X5_machine_48, ↓x_X5_machine_51, ↓x_X5_machine_53, ↓x_X5_machine_56, ↓x_X5_machine_58, ↓x_X5_machine_59, ↓x_X5_machine_60, ↓x_X5_machine_63, ↓x_X5_machine_64, ↓x_X5_machine_65, ↓x_X5_machine_68, ↓x_X5_machine_69, ↓x_X5_machine_70, ↓x_X5_machine_73, ↓x_X5_machine_74, ↓x_X5_machine_75, ↓x_X5_machine_78, ↓x_X5_machine_79, ↓x_X5_machine_80, ↓x_X5_machine_81, ↓x_X5_machine_82, ↓x_X5_machine_85, ↓x_X5_machine_86, ↓x_X5_machine_87, ↓x_X5_machine_88, ↓x_X5_machine_89, ↓x_X5_machine_92, ↓x_X5_machine_93, ↓x_X5_machine_94, ↓x_X5_machine_95, ↓x_X5_machine_96, ↓x_X5_machine_99, ↓x_X5_machine_100, ↓x_X5_machine_101, ↓x_X5_machine_102, ↓x_X5_machine_103, ↓x_X5_machine_107, ↓x_X5_machine_108, ↓x_X5_machine_111, ↓x_X5_machine_112, ↓x_X5_machine_115, ↓x_X5_machine_116, ↓x_X5_machine_117, ↓x_X5_machine_118, ↓x_X5_machine_120, ↓x_X5_machine_121, ↓x_X5_machine_122, ↓x_X5_machine_123, ↓x_X5_machine_124, ↓x_X5_machine_126, ↓x_X5_machine_128, ↓x_X5_machine_129, ↓x_X5_machine_132, ↓x_X5_machine_133, ↓x_X5_machine_134, ↓x_X5_machine_137, ↓x_X5_machine_139, ↓x_X5_machine_140, ↓x_X5_machine_141, ↓x_X5_machine_142, ↓x_X5_machine_145, ↓x_X5_machine_147, ↓x_X5_machine_148, ↓x_X5_machine_149, ↓x_X5_machine_152, ↓x_X5_machine_154, ↓x_X5_machine_156, ↓x_X5_machine_157, ↓x_X5_machine_160, ↓x_X5_machine_162, ↓x_X5_machine_163, ↓x_X5_machine_164, ↓x_X5_machine_165, ↓x_X5_machine_167, ↓x_X5_machine_168, ↓x_X5_machine_169, ↓x_X5_machine_171, ↓x_X5_machine_172, ↓x_X5_machine_174, ↓x_X5_machine_176, ↓x_X5_machine_179, ↓x_X5_machine_180, ↓x_X5_machine_183, ↓x_X5_machine_184, ↓x_X5_machine_185, ↓x_X5_machine_188, ↓x_X5_machine_191, ↓x_X5_machine_194, ↓x_X5_machine_197, ↓x_X5_machine_198, ↓x_X5_machine_199, ↓x_X5_machine_202, ↓x_X5_machine_203, ↓x_X5_machine_204, ↓x_X5_machine_207, ↓x_X5_machine_208, ↓cKI ci, z, c3, d0, d1, y, not_true_eq_false, not_false_eq_true, ↓reduceIte]
          · rw [if_neg e3] at d
            have d1 : ¬ n < 1 := by omega
            by_cases e1 : kd = 1
            · have d3 : n = 1 := by omega
              subst e1
              subst d3
              have y : ¬ (1 : Int) = 3 := by decide
              have y5 : ¬ (5 : Int) < 1 := by decide
              have y0 : ¬ (1 : Int) < 0 := by decide
              have y1 : ¬ (1 : Int) < 1 := by decide
              simp only [↓x_X5_machine_0, ↓x_X5_machine_1, ↓x_X5_machine_2, ↓x_X5_machine_3, ↓x_X5_machine_6, ↓x_X5_machine_9, ↓x_X5_machine_12, ↓x_X5_machine_13, ↓x_X5_machine_14, ↓x_X5_machine_17, ↓x_X5_machine_18, ↓x_X5_machine_21, ↓x_X5_machine_22, ↓x_X5_machine_23, ↓x_X5_machine_24, ↓x_X5_machine_27, ↓x_X5_machine_28, ↓x_X5_machine_31, ↓x_X5_machine_32, ↓x_X5_machine_35, ↓x_X5_machine_36, ↓x_X5_machine_37, ↓x_X5_machine_40, ↓x_X5_machine_41, ↓x_X5_machine_42, ↓x_X5_machine_45, ↓x_X5_machine_46, ↓x_X5_machine_48, ↓x_X5_machine_51, ↓x_X5_machine_53, ↓x_X5_machine_56, ↓x_X5_machine_58, ↓x_X5_machine_59, ↓x_X5_machine_60, ↓x_X5_machine_63, ↓x_X5_machine_64, ↓x_X5_machine_65, ↓x_X5_machine_68, ↓x_X5_machine_69, ↓x_X5_machine_70, ↓x_X5_machine_73, ↓x_X5_machine_74, ↓x_X5_machine_75, ↓x_X5_machine_78, ↓x_X5_machine_79, ↓x_X5_machine_80, ↓x_X5_machine_81, ↓x_X5_machine_82, ↓x_X5_machine_85, ↓x_X5_machine_86, ↓x_X5_machine_87, ↓x_X5_machine_88, ↓x_X5_machine_89, ↓x_X5_machine_92, ↓x_X5_machine_93, ↓x_X5_machine_94, ↓x_X5_machine_95, ↓x_X5_machine_96, ↓x_X5_machine_99, ↓x_X5_machine_100, ↓x_X5_machine_101, ↓x_X5_machine_102, ↓x_X5_machine_103, ↓x_X5_machine_107, ↓x_X5_machine_108, ↓x_X5_machine_111, ↓x_X5_machine_112, ↓x_X5_machine_115, ↓x_X5_machine_116, ↓x_X5_machine_117, ↓x_X5_machine_118, ↓x_X5_machine_120, ↓x_X5_machine_121, ↓x_X5_machine_122, ↓x_X5_machine_123, ↓x_X5_machine_124, ↓x_X5_machine_126, ↓x_X5_machine_128, ↓x_X5_machine_129, ↓x_X5_machine_132, ↓x_X5_machine_133, ↓x_X5_machine_134, ↓x_X5_machine_137, ↓x_X5_machine_139, ↓x_X5_machine_140, ↓x_X5_machine_141, ↓x_X5_machine_142, ↓x_X5_machine_145, ↓x_X5_machine_147, ↓x_X5_machine_148, ↓x_X5_machine_149, ↓x_X5_machine_152, ↓x_X5_machine_154, ↓x_X5_machine_156, ↓x_X5_machine_157, ↓x_X5_machine_160, ↓x_X5_machine_162, ↓x_X5_machine_163, ↓x_X5_machine_164, ↓x_X5_machine_165, ↓x_X5_machine_167, ↓x_X5_machine_168, ↓x_X5_machine_169, ↓x_X5_machine_171, ↓x_X5_machine_172, ↓x_X5_machine_174, ↓x_X5_machine_176, ↓x_X5_machine_179, ↓x_X5_machine_180, ↓x_X5_machine_183, ↓x_X5_machine_184, ↓x_X5_machine_185, ↓x_X5_machine_188, ↓x_X5_machine_191, ↓x_X5_machine_194, ↓x_X5_machine_197, ↓x_X5_machine_198, ↓x_X5_machine_199, ↓x_X5_machine_202, ↓x_X5_machine_203, ↓x_X5_machine_204, ↓x_X5_machine_207, ↓x_X5_machine_208, ↓cKI ci, z, y5, y0, y, y1, not_true_eq_false, not_false_eq_true, ↓reduceIte]
            · simp only [↓x_X5_machine_0, ↓x_X5_machine_1, ↓x_X5_machine_2, ↓x_X5_machine_3, ↓x_X5_machine_6, ↓x_X5_machine_9, ↓x_X5_machine_12, ↓x_X5_machine_13, ↓x_X5_machine_14, ↓x_X5_machine_17, ↓x_X5_machine_18, ↓x_X5_machine_21, ↓x_X5_machine_22, ↓x_X5_machine_23, ↓x_X5_machine_24, ↓x_X5_machine_27, ↓x_X5_machine_28, ↓x_X5_machine_31, ↓x_X5_machine_32, ↓x_X5_machine_35, ↓x_X5_machine_36, ↓x_X5_machine_37, ↓x_X5_machine_40, ↓x_X5_machine_41, ↓x_X5_machine_42, ↓x_X5_machine_45, ↓x_X5_machine_46, ↓x_X5_machine_48, ↓x_X5_machine_51, ↓x_X5_machine_53, ↓x_X5_machine_56, ↓x_X5_machine_58, ↓x_X5_machine_59, ↓x_X5_machine_60, ↓x_X5_machine_63, ↓x_X5_machine_64, ↓x_X5_machine_65, ↓x_X5_machine_68, ↓x_X5_machine_69, ↓x_X5_machine_70, ↓x_X5_machine_73, ↓x_X5_machine_74, ↓x_X5_machine_75, ↓x_X5_machine_78, ↓x_X5_machine_79, ↓x_X5_machine_80, ↓x_X5_machine_81, ↓x_X5_machine_82, ↓x_X5_machine_85, ↓x_X5_machine_86, ↓x_X5_machine_87, ↓x_X5_machine_88, ↓x_X5_machine_89, ↓x_X5_machine_92, ↓x_X5_machine_93, ↓x_X5_machine_94, ↓x_X5_machine_95, ↓x_X5_machine_96, ↓x_X5_machine_99, ↓x_X5_machine_100, ↓x_X5_machine_101, ↓x_X5_machine_102, ↓x_X5_machine_103, ↓x_X5_machine_107, ↓x_X5_machine_108, ↓x_X5_machine_111, ↓x_X5_machine_112, ↓x_X5_machine_115, ↓x_X5_machine_116, ↓x_X5_machine_117, ↓x_X5_machine_118, ↓x_X5_machine_120, ↓x_X5_machine_121, ↓x_X5_machine_122, ↓x_X5_machine_123, ↓x_X5_machine_124, ↓x_X5_machine_126, ↓x_X5_machine_128, ↓x_X5_machine_129, ↓x_X5_machine_132, ↓x_X5_machine_133, ↓x_X5_machine_134, ↓x_X5_machine_137, ↓x_X5_machine_139, ↓x_X5_machine_140, ↓x_X5_machine_141, ↓x_X5_machine_142, ↓x_X5_machine_145, ↓x_X5_machine_147, ↓x_X5_machine_148, ↓x_X5_machine_149, ↓x_X5_machine_152, ↓x_X5_machine_154, ↓x_X5_machine_156, ↓x_X5_machine_157, ↓x_X5_machine_160, ↓x_X5_machine_162, ↓x_X5_machine_163, ↓x_X5_machine_164, ↓x_X5_machine_165, ↓x_X5_machine_167, ↓x_X5_machine_168, ↓x_X5_machine_169, ↓x_X5_machine_171, ↓x_X5_machine_172, ↓x_X5_machine_174, ↓x_X5_machine_176, ↓x_X5_machine_179, ↓x_X5_machine_180, ↓x_X5_machine_183, ↓x_X5_machine_184, ↓x_X5_machine_185, ↓x_X5_machine_188, ↓x_X5_machine_191, ↓x_X5_machine_194, ↓x_X5_machine_197, ↓x_X5_machine_198, ↓x_X5_machine_199, ↓x_X5_machine_202, ↓x_X5_machine_203, ↓x_X5_machine_204, ↓x_X5_machine_207, ↓x_X5_machine_208, ↓cKI ci, z, c3, d0, e3, d1, e1, not_false_eq_true, ↓reduceIte]
      rw [s47]
      by_cases c5 : S 0 6 0 0 = 16
      · rw [if_pos c5]
        rw [c5] at q10
        refine ⟨h, ?_, H, L0.rf⟩
        simp only [↓x_X5_machine_0, ↓x_X5_machine_1, ↓x_X5_machine_2, ↓x_X5_machine_3, ↓x_X5_machine_6, ↓x_X5_machine_9, ↓x_X5_machine_12, ↓x_X5_machine_13, ↓x_X5_machine_14, ↓x_X5_machine_17, ↓x_X5_machine_18, ↓x_X5_machine_21, ↓x_X5_machine_22, ↓x_X5_machine_23, ↓x_X5_machine_24, ↓x_X5_machine_27, ↓x_X5_machine_28, ↓x_X5_machine_31, ↓x_X5_machine_32, ↓x_X5_machine_35, ↓x_X5_machine_36, ↓x_X5_machine_37, ↓x_X5_machine_40, ↓x_X5_machine_41, ↓x_X5_machine_42, ↓x_X5_machine_45, ↓x_X5_machine_46, ↓x_X5_machine_47, ↓x_X5_machine_48, ↓x_X5_machine_51, ↓x_X5_machine_53, ↓x_X5_machine_56, ↓x_X5_machine_58, ↓x_X5_machine_59, ↓x_X5_machine_60, ↓x_X5_machine_63, ↓x_X5_machine_64, ↓x_X5_machine_65, ↓x_X5_machine_68, ↓x_X5_machine_69, ↓x_X5_machine_70, ↓x_X5_machine_73, ↓x_X5_machine_74, ↓x_X5_machine_75, ↓x_X5_machine_78, ↓x_X5_machine_79, ↓x_X5_machine_80, ↓x_X5_machine_81, ↓x_X5_machine_82, ↓x_X5_machine_85, ↓x_X5_machine_86, ↓x_X5_machine_87, ↓x_X5_machine_88, ↓x_X5_machine_89, ↓x_X5_machine_92, ↓x_X5_machine_93, ↓x_X5_machine_94, ↓x_X5_machine_95, ↓x_X5_machine_96, ↓x_X5_machine_99, ↓x_X5_machine_100, ↓x_X5_machine_101, ↓x_X5_machine_102, ↓x_X5_machine_103, ↓x_X5_machine_107, ↓x_X5_machine_108, ↓x_X5_machine_111, ↓x_X5_machine_112, ↓x_X5_machine_115, ↓x_X5_machine_116, ↓x_X5_machine_117, ↓x_X5_machine_118, ↓x_X5_machine_120, ↓x_X5_machine_121, ↓x_X5_machine_122, ↓x_X5_machine_123, ↓x_X5_machine_124, ↓x_X5_machine_126, ↓x_X5_machine_128, ↓x_X5_machine_129, ↓x_X5_machine_132, ↓x_X5_machine_133, ↓x_X5_machine_134, ↓x_X5_machine_137, ↓x_X5_machine_139, ↓x_X5_machine_140, ↓x_X5_machine_141, ↓x_X5_machine_142, ↓x_X5_machine_145, ↓x_X5_machine_147, ↓x_X5_machine_148, ↓x_X5_machine_149, ↓x_X5_machine_152, ↓x_X5_machine_154, ↓x_X5_machine_156, ↓x_X5_machine_157, ↓x_X5_machine_160, ↓x_X5_machine_162, ↓x_X5_machine_163, ↓x_X5_machine_164, ↓x_X5_machine_165, ↓x_X5_machine_167, ↓x_X5_machine_168, ↓x_X5_machine_169, ↓x_X5_machine_171, ↓x_X5_machine_172, ↓x_X5_machine_174, ↓x_X5_machine_176, ↓x_X5_machine_179, ↓x_X5_machine_180, ↓x_X5_machine_183, ↓x_X5_machine_184, ↓x_X5_machine_185, ↓x_X5_machine_188, ↓x_X5_machine_191, ↓x_X5_machine_194, ↓x_X5_machine_197, ↓x_X5_machine_198, ↓x_X5_machine_199, ↓x_X5_machine_202, ↓x_X5_machine_203, ↓x_X5_machine_204, ↓x_X5_machine_207, ↓x_X5_machine_208, ↓gK_of q10, not_true_eq_false, ↓reduceIte]
      · rw [if_neg c5]
        by_cases c7 : n < 0
        · rw [if_pos c7]
          have c8 : ¬ 0 ≤ n := by omega
          refine ⟨_, ?_, H.mt (f := 5) (by decide)⟩
          simp only [↓x_X5_machine_0, ↓x_X5_machine_1, ↓x_X5_machine_2, ↓x_X5_machine_3, ↓x_X5_machine_6, ↓x_X5_machine_9, ↓x_X5_machine_12, ↓x_X5_machine_13, ↓x_X5_machine_14, ↓x_X5_machine_17, ↓x_X5_machine_18, ↓x_X5_machine_21, ↓x_X5_machine_22, ↓x_X5_machine_23, ↓x_X5_machine_24, ↓x_X5_machine_27, ↓x_X5_machine_28, ↓x_X5_machine_31, ↓x_X5_machine_32, ↓x_X5_machine_35, ↓x_X5_machine_36, ↓x_X5_machine_37, ↓x_X5_machine_40, ↓x_X5_machine_41, ↓x_X5_machine_42, ↓x_X5_machine_45, ↓x_X5_machine_46, ↓x_X5_machine_47, ↓x_X5_machine_48, ↓x_X5_machine_51, ↓x_X5_machine_53, ↓x_X5_machine_56, ↓x_X5_machine_58, ↓x_X5_machine_59, ↓x_X5_machine_60, ↓x_X5_machine_63, ↓x_X5_machine_64, ↓x_X5_machine_65, ↓x_X5_machine_68, ↓x_X5_machine_69, ↓x_X5_machine_70, ↓x_X5_machine_73, ↓x_X5_machine_74, ↓x_X5_machine_75, ↓x_X5_machine_78, ↓x_X5_machine_79, ↓x_X5_machine_80, ↓x_X5_machine_81, ↓x_X5_machine_82, ↓x_X5_machine_85, ↓x_X5_machine_86, ↓x_X5_machine_87, ↓x_X5_machine_88, ↓x_X5_machine_89, ↓x_X5_machine_92, ↓x_X5_machine_93, ↓x_X5_machine_94, ↓x_X5_machine_95, ↓x_X5_machine_96, ↓x_X5_machine_99, ↓x_X5_machine_100, ↓x_X5_machine_101, ↓x_X5_machine_102, ↓x_X5_machine_103, ↓x_X5_machine_107, ↓x_X5_machine_108, ↓x_X5_machine_111, ↓x_X5_machine_112, ↓x_X5_machine_115, ↓x_X5_machine_116, ↓x_X5_machine_117, ↓x_X5_machine_118, ↓x_X5_machine_120, ↓x_X5_machine_121, ↓x_X5_machine_122, ↓x_X5_machine_123, ↓x_X5_machine_124, ↓x_X5_machine_126, ↓x_X5_machine_128, ↓x_X5_machine_129, ↓x_X5_machine_132, ↓x_X5_machine_133, ↓x_X5_machine_134, ↓x_X5_machine_137, ↓x_X5_machine_139, ↓x_X5_machine_140, ↓x_X5_machine_141, ↓x_X5_machine_142, ↓x_X5_machine_145, ↓x_X5_machine_147, ↓x_X5_machine_148, ↓x_X5_machine_149, ↓x_X5_machine_152, ↓x_X5_machine_154, ↓x_X5_machine_156, ↓x_X5_machine_157, ↓x_X5_machine_160, ↓x_X5_machine_162, ↓x_X5_machine_163, ↓x_X5_machine_164, ↓x_X5_machine_165, ↓x_X5_machine_167, ↓x_X5_machine_168, ↓x_X5_machine_169, ↓x_X5_machine_171, ↓x_X5_machine_172, ↓x_X5_machine_174, ↓x_X5_machine_176, ↓x_X5_machine_179, ↓x_X5_machine_180, ↓x_X5_machine_183, ↓x_X5_machine_184, ↓x_X5_machine_185, ↓x_X5_machine_188, ↓x_X5_machine_191, ↓x_X5_machine_194, ↓x_X5_machine_197, ↓x_X5_machine_198, ↓x_X5_machine_199, ↓x_X5_machine_202, ↓x_X5_machine_203, ↓x_X5_machine_204, ↓x_X5_machine_207, ↓x_X5_machine_208, ↓gK_of q10, c5, c8, ho, ↓cKI cf5, not_false_eq_true, ↓reduceIte]
        · rw [if_neg c7]
          obtain ⟨n', rfl⟩ := Int.eq_ofNat_of_zero_le (show 0 ≤ n by omega)
          rw [Int.toNat_natCast]
          have hn1 : 1 ≤ n' := by
            rcases Nat.eq_zero_or_pos n' with q | q
            · subst q
              exfalso
              refine d ⟨Int.le_refl _, Or.inl ?_⟩
              split <;> decide
            · exact q
          have c8 : (0 : Int) ≤ (n' : Int) := Int.natCast_nonneg _
          have s16 : mS S < 16 := by unfold mS; omega
          have em : S 0 6 0 0 = ((mS S : Nat) : Int) := by unfold mS; omega
          have m0 : (0 : Int) ≤ ((mS S : Nat) : Int) := Int.natCast_nonneg _
          have q11 := H.1.f 11 rfl
          have nn : ∀ a, (a = 6 ∨ a = 7 ∨ a = 8 ∨ a = 11) → rV S a (mS S) = none := fun a ha => by
            rcases ha with q | q | q | q <;> subst q <;> exact if_neg (by omega)
          have H1 := H.1.wn 6 (mS S) (aI kd) (nn 6 (by omega))
          have H2 := H1.wn 7 (mS S) (aI n') (nn 7 (by omega))
          have H3 := H2.wn 8 (mS S) (aI 0) (nn 8 (by omega))
          have H4 := H3.wn 11 (mS S) (aI 0) (nn 11 (by omega))
          have q12 : rd (wr h 10 6 (mS S) (aI kd)) 5 0 12 = some (aR (some 7)) := H1.f 12 rfl
          have q13 : rd (wr (wr h 10 6 (mS S) (aI kd)) 10 7 (mS S) (aI n')) 5 0 13 = some (aR (some 8)) := H2.f 13 rfl
          have q16 : rd (wr (wr (wr h 10 6 (mS S) (aI kd)) 10 7 (mS S) (aI n')) 10 8 (mS S) (aI 0)) 5 0 16 = some (aR (some 11)) := H3.f 16 rfl
          obtain ⟨v6, hv6⟩ := H.1.1 6 (mS S) (show mS S < 16 from s16)
          obtain ⟨v7, hv7⟩ := H1.1 7 (mS S) (show mS S < 16 from s16)
          obtain ⟨v8, hv8⟩ := H2.1 8 (mS S) (show mS S < 16 from s16)
          obtain ⟨v11, hv11⟩ := H3.1 11 (mS S) (show mS S < 16 from s16)
          have hv6' : rd h 10 6 (mS S) = some v6 := hv6
          have hv7' : rd (wr h 10 6 (mS S) (aI kd)) 10 7 (mS S) = some v7 := hv7
          have hv8' : rd (wr (wr h 10 6 (mS S) (aI kd)) 10 7 (mS S) (aI n')) 10 8 (mS S) = some v8 := hv8
          have hv11' : rd (wr (wr (wr h 10 6 (mS S) (aI kd)) 10 7 (mS S) (aI n')) 10 8 (mS S) (aI 0)) 10 11 (mS S) = some v11 := hv11
          have I0 : IR S kd n' h (wr (wr (wr (wr h 10 6 (mS S) (aI kd)) 10 7 (mS S) (aI n')) 10 8 (mS S) (aI 0)) 10 11 (mS S) (aI 0)) 0 0 := ⟨H4, ⟨((L0.w.tr L0.w).tr L0.w).tr L0.w, by rw [rd_wn (Or.inl (by decide)), rd_wn (Or.inl (by decide)), rd_wn (Or.inl (by decide)), rd_wn (Or.inl (by decide))]⟩, ⟨by rw [rd_wn (Or.inr (Or.inl (by decide))), rd_wn (Or.inr (Or.inl (by decide))), rd_wn (Or.inr (Or.inl (by decide)))]; exact rd_wr hv6', by rw [rd_wn (Or.inr (Or.inl (by decide))), rd_wn (Or.inr (Or.inl (by decide)))]; exact rd_wr hv7', by rw [rd_wn (Or.inr (Or.inl (by decide)))]; exact rd_wr hv8', rd_wr hv11'⟩, fun u hu h1 => by omega, fun u w hu hw h1 => by omega⟩
          obtain ⟨h', v5', v6', a1, a2⟩ := lr_m1 (h0 := h) F s16 (kd := kd) (n := n') ⟨by omega, by omega⟩ (by omega) 5 0 _ aU aU (by omega) I0
          have B := RB0.nm F ⟨hn1, by omega⟩ c5 a2
          obtain ⟨r, g1, g2⟩ := H.2
          have q101 := a2.1.f 10 rfl
          refine ⟨wr h' 5 0 10 (aI (S 0 6 0 0 + 1)), ?_, ⟨B, r, by rw [rd_wn (Or.inr (Or.inr (by decide))), a2.2.1.2]; exact g1, g2⟩, a2.2.1.1.tr L0.w⟩
          have e1 : w32 (S 0 6 0 0 + 1) = S 0 6 0 0 + 1 := by rw [w32_in] <;> omega
          have s105 : X mX5_machine 47 [aR (some 0), aI kd, aI n', aU, aU, aU, aU] [] h = X mX5_machine 105 [aR (some 0), aI kd, aI n', aI (mS S : Nat), aI 0, aU, aU] [] (wr (wr (wr (wr h 10 6 (mS S) (aI kd)) 10 7 (mS S) (aI n')) 10 8 (mS S) (aI 0)) 10 11 (mS S) (aI 0)) := by
            rw [em] at q10 c5
            simp only [↓x_X5_machine_0, ↓x_X5_machine_1, ↓x_X5_machine_2, ↓x_X5_machine_3, ↓x_X5_machine_6, ↓x_X5_machine_9, ↓x_X5_machine_12, ↓x_X5_machine_13, ↓x_X5_machine_14, ↓x_X5_machine_17, ↓x_X5_machine_18, ↓x_X5_machine_21, ↓x_X5_machine_22, ↓x_X5_machine_23, ↓x_X5_machine_24, ↓x_X5_machine_27, ↓x_X5_machine_28, ↓x_X5_machine_31, ↓x_X5_machine_32, ↓x_X5_machine_35, ↓x_X5_machine_36, ↓x_X5_machine_37, ↓x_X5_machine_40, ↓x_X5_machine_41, ↓x_X5_machine_42, ↓x_X5_machine_45, ↓x_X5_machine_46, ↓x_X5_machine_47, ↓x_X5_machine_48, ↓x_X5_machine_51, ↓x_X5_machine_53, ↓x_X5_machine_56, ↓x_X5_machine_58, ↓x_X5_machine_59, ↓x_X5_machine_60, ↓x_X5_machine_63, ↓x_X5_machine_64, ↓x_X5_machine_65, ↓x_X5_machine_68, ↓x_X5_machine_69, ↓x_X5_machine_70, ↓x_X5_machine_73, ↓x_X5_machine_74, ↓x_X5_machine_75, ↓x_X5_machine_78, ↓x_X5_machine_79, ↓x_X5_machine_80, ↓x_X5_machine_81, ↓x_X5_machine_82, ↓x_X5_machine_85, ↓x_X5_machine_86, ↓x_X5_machine_87, ↓x_X5_machine_88, ↓x_X5_machine_89, ↓x_X5_machine_92, ↓x_X5_machine_93, ↓x_X5_machine_94, ↓x_X5_machine_95, ↓x_X5_machine_96, ↓x_X5_machine_99, ↓x_X5_machine_100, ↓x_X5_machine_101, ↓x_X5_machine_102, ↓x_X5_machine_103, ↓x_X5_machine_107, ↓x_X5_machine_108, ↓x_X5_machine_111, ↓x_X5_machine_112, ↓x_X5_machine_115, ↓x_X5_machine_116, ↓x_X5_machine_117, ↓x_X5_machine_118, ↓x_X5_machine_120, ↓x_X5_machine_121, ↓x_X5_machine_122, ↓x_X5_machine_123, ↓x_X5_machine_124, ↓x_X5_machine_126, ↓x_X5_machine_128, ↓x_X5_machine_129, ↓x_X5_machine_132, ↓x_X5_machine_133, ↓x_X5_machine_134, ↓x_X5_machine_137, ↓x_X5_machine_139, ↓x_X5_machine_140, ↓x_X5_machine_141, ↓x_X5_machine_142, ↓x_X5_machine_145, ↓x_X5_machine_147, ↓x_X5_machine_148, ↓x_X5_machine_149, ↓x_X5_machine_152, ↓x_X5_machine_154, ↓x_X5_machine_156, ↓x_X5_machine_157, ↓x_X5_machine_160, ↓x_X5_machine_162, ↓x_X5_machine_163, ↓x_X5_machine_164, ↓x_X5_machine_165, ↓x_X5_machine_167, ↓x_X5_machine_168, ↓x_X5_machine_169, ↓x_X5_machine_171, ↓x_X5_machine_172, ↓x_X5_machine_174, ↓x_X5_machine_176, ↓x_X5_machine_179, ↓x_X5_machine_180, ↓x_X5_machine_183, ↓x_X5_machine_184, ↓x_X5_machine_185, ↓x_X5_machine_188, ↓x_X5_machine_191, ↓x_X5_machine_194, ↓x_X5_machine_197, ↓x_X5_machine_198, ↓x_X5_machine_199, ↓x_X5_machine_202, ↓x_X5_machine_203, ↓x_X5_machine_204, ↓x_X5_machine_207, ↓x_X5_machine_208, ↓gK_of q10, c5, c8, ↓gK_of q11, m0, Int.toNat_natCast, pK_of hv6', gK_of q12, pK_of hv7', gK_of q13, pK_of hv8', gK_of q16, pK_of hv11', not_false_eq_true, ↓reduceIte]
          rw [s105]
          refine a1.trans ?_
          simp only [↓x_X5_machine_0, ↓x_X5_machine_1, ↓x_X5_machine_2, ↓x_X5_machine_3, ↓x_X5_machine_6, ↓x_X5_machine_9, ↓x_X5_machine_12, ↓x_X5_machine_13, ↓x_X5_machine_14, ↓x_X5_machine_17, ↓x_X5_machine_18, ↓x_X5_machine_21, ↓x_X5_machine_22, ↓x_X5_machine_23, ↓x_X5_machine_24, ↓x_X5_machine_27, ↓x_X5_machine_28, ↓x_X5_machine_31, ↓x_X5_machine_32, ↓x_X5_machine_35, ↓x_X5_machine_36, ↓x_X5_machine_37, ↓x_X5_machine_40, ↓x_X5_machine_41, ↓x_X5_machine_42, ↓x_X5_machine_45, ↓x_X5_machine_46, ↓x_X5_machine_47, ↓x_X5_machine_48, ↓x_X5_machine_51, ↓x_X5_machine_53, ↓x_X5_machine_56, ↓x_X5_machine_58, ↓x_X5_machine_59, ↓x_X5_machine_60, ↓x_X5_machine_63, ↓x_X5_machine_64, ↓x_X5_machine_65, ↓x_X5_machine_68, ↓x_X5_machine_69, ↓x_X5_machine_70, ↓x_X5_machine_73, ↓x_X5_machine_74, ↓x_X5_machine_75, ↓x_X5_machine_78, ↓x_X5_machine_79, ↓x_X5_machine_80, ↓x_X5_machine_81, ↓x_X5_machine_82, ↓x_X5_machine_85, ↓x_X5_machine_86, ↓x_X5_machine_87, ↓x_X5_machine_88, ↓x_X5_machine_89, ↓x_X5_machine_92, ↓x_X5_machine_93, ↓x_X5_machine_94, ↓x_X5_machine_95, ↓x_X5_machine_96, ↓x_X5_machine_99, ↓x_X5_machine_100, ↓x_X5_machine_101, ↓x_X5_machine_102, ↓x_X5_machine_103, ↓x_X5_machine_107, ↓x_X5_machine_108, ↓x_X5_machine_111, ↓x_X5_machine_112, ↓x_X5_machine_115, ↓x_X5_machine_116, ↓x_X5_machine_117, ↓x_X5_machine_118, ↓x_X5_machine_120, ↓x_X5_machine_121, ↓x_X5_machine_122, ↓x_X5_machine_123, ↓x_X5_machine_124, ↓x_X5_machine_126, ↓x_X5_machine_128, ↓x_X5_machine_129, ↓x_X5_machine_132, ↓x_X5_machine_133, ↓x_X5_machine_134, ↓x_X5_machine_137, ↓x_X5_machine_139, ↓x_X5_machine_140, ↓x_X5_machine_141, ↓x_X5_machine_142, ↓x_X5_machine_145, ↓x_X5_machine_147, ↓x_X5_machine_148, ↓x_X5_machine_149, ↓x_X5_machine_152, ↓x_X5_machine_154, ↓x_X5_machine_156, ↓x_X5_machine_157, ↓x_X5_machine_160, ↓x_X5_machine_162, ↓x_X5_machine_163, ↓x_X5_machine_164, ↓x_X5_machine_165, ↓x_X5_machine_167, ↓x_X5_machine_168, ↓x_X5_machine_169, ↓x_X5_machine_171, ↓x_X5_machine_172, ↓x_X5_machine_174, ↓x_X5_machine_176, ↓x_X5_machine_179, ↓x_X5_machine_180, ↓x_X5_machine_183, ↓x_X5_machine_184, ↓x_X5_machine_185, ↓x_X5_machine_188, ↓x_X5_machine_191, ↓x_X5_machine_194, ↓x_X5_machine_197, ↓x_X5_machine_198, ↓x_X5_machine_199, ↓x_X5_machine_202, ↓x_X5_machine_203, ↓x_X5_machine_204, ↓x_X5_machine_207, ↓x_X5_machine_208, ↓gK_of q101, e1, ↓pK_of q101, ← em]
