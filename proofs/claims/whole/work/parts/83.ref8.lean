/-! ===== the reference: order, best ===== -/
section AH
variable {S : SS} {m : Nat}
theorem ah_iff {s t : Nat} : ahd S m s t = true ↔ (wR S m s < wR S m t ∨ (wR S m t = wR S m s ∧ t < s)) := by unfold ahd; exact decide_eq_true_iff
theorem ah_ir {s : Nat} : ahd S m s s = false := by
  cases h : ahd S m s s with
  | false => rfl
  | true =>
    rcases ah_iff.mp h with q | q
    · exact absurd q Rat.lt_irrefl
    · omega
theorem ah_tr {s t u : Nat} (h1 : ahd S m s t = true) (h2 : ahd S m t u = true) : ahd S m s u = true := by
  rw [ah_iff] at *
  rcases h1 with h1 | ⟨h1, h1'⟩ <;> rcases h2 with h2 | ⟨h2, h2'⟩
  · exact Or.inl (by grind)
  · exact Or.inl (by grind)
  · exact Or.inl (by grind)
  · exact Or.inr ⟨h2.trans h1, by omega⟩
theorem ah_tot {s t : Nat} (hne : s ≠ t) (h : ahd S m s t = false) : ahd S m t s = true := by
  have h' : ¬ (wR S m s < wR S m t ∨ (wR S m t = wR S m s ∧ t < s)) := fun z => by rw [ah_iff.mpr z] at h; cases h
  rw [ah_iff]
  by_cases c : wR S m t < wR S m s
  · exact Or.inl c
  · have e : wR S m s = wR S m t := Rat.le_antisymm (Rat.not_lt.mp c) (Rat.not_lt.mp fun z => h' (Or.inl z))
    refine Or.inr ⟨e, ?_⟩
    rcases Nat.lt_trichotomy s t with q | q | q
    · exact q
    · exact absurd q hne
    · exact absurd (Or.inr ⟨e.symm, q⟩) h'
theorem nP_mon2 {P Q : Nat → Bool} : ∀ {k : Nat}, (∀ u, u < k → P u = true → Q u = true) → nP P k ≤ nP Q k
  | 0, _ => Nat.le_refl 0
  | k + 1, h => by
    have ih := nP_mon2 (k := k) (fun u hu => h u (by omega))
    rw [nP, nP]
    by_cases c : P k = true
    · rw [if_pos c, if_pos (h k (by omega) c)]; omega
    · rw [if_neg c]; omega
theorem nP_strict {P Q : Nat → Bool} {x : Nat} : ∀ {k : Nat}, x < k → Q x = true → P x = false → (∀ u, u < k → P u = true → Q u = true) → nP P k < nP Q k
  | 0, h, _, _, _ => by omega
  | k + 1, h, hq, hp, hh => by
    rw [nP, nP]
    by_cases c : x = k
    · subst c
      have := nP_mon2 (k := x) (P := P) (Q := Q) (fun u hu => hh u (by omega))
      rw [if_pos hq, if_neg (by rw [hp]; decide)]
      omega
    · have ih := nP_strict (k := k) (by omega) hq hp (fun u hu => hh u (by omega))
      by_cases d : P k = true
      · rw [if_pos d, if_pos (hh k (by omega) d)]; omega
      · rw [if_neg d]; omega
theorem nP_all : ∀ n, nP (fun _ => true) n = n
  | 0 => rfl
  | n + 1 => by rw [nP, nP_all n]; rfl
theorem Rk_ge {s t : Nat} (h : ahd S m t s = true) : nP (ahd S m s) s ≤ nP (ahd S m t) s := nP_mon2 fun u _ hu => ah_tr h hu
theorem Rk_lt {s t : Nat} (ht : t < s) (h : ahd S m t s = false) : nP (ahd S m t) s < nP (ahd S m s) s := nP_strict ht (ah_tot (by omega) h) ah_ir (fun u _ hu => ah_tr (ah_tot (by omega) h) hu)
theorem Rk_sur : ∀ (k j : Nat), j < k → ∃ t, t < k ∧ nP (ahd S m t) k = j
  | 0, j, h => by omega
  | k + 1, j, h => by
    have hr : nP (ahd S m k) k ≤ k := nP_le _ _
    rcases Nat.lt_trichotomy j (nP (ahd S m k) k) with q | q | q
    · obtain ⟨t, t1, t2⟩ := Rk_sur k j (by omega)
      refine ⟨t, by omega, ?_⟩
      have h1 : ahd S m t k = false := by
        cases h : ahd S m t k with
        | false => rfl
        | true => have := Rk_ge h; omega
      rw [nP, if_neg (by rw [h1]; decide)]
      omega
    · refine ⟨k, by omega, ?_⟩
      rw [nP, if_neg (by rw [ah_ir]; decide)]
      omega
    · obtain ⟨t, t1, t2⟩ := Rk_sur k (j - 1) (by omega)
      refine ⟨t, by omega, ?_⟩
      have h1 : ahd S m t k = true := by
        cases h : ahd S m t k with
        | true => rfl
        | false => have := Rk_lt t1 h; omega
      rw [nP, if_pos h1]
      omega
/-- half way of putting s in -/
def II (S : SS) (m s kk : Nat) (h : AH) : Prop := (∀ t, t < s → nP (ahd S m t) s < kk → rd h 10 16 (nP (ahd S m t) s) = some (aI (t : Nat))) ∧ ∀ t, t < s → kk ≤ nP (ahd S m t) s → rd h 10 16 (nP (ahd S m t) s + 1) = some (aI (t : Nat))
theorem km_w {k : Nat} (h : k ≤ 1000) : w32 (((k + 1 : Nat) : Int) - 1) = (k : Int) ∧ w32 (((k + 1 : Nat) : Int) + -1) = (k : Int) := ⟨by rw [w32_in] <;> omega, by rw [w32_in] <;> omega⟩
theorem lr_ins {h0 : AH} {n : Nat} (hn : n ≤ 5) {s : Nat} (hs : s < n) {vm vi : Int} : ∀ (d kk : Nat) (h : AH), kk = nP (ahd S m s) s + d → kk ≤ s → RB0 S h → Sw h0 h → LW S m h n → II S m s kk h →
    ∃ h', X mX5_order 51 [aR (some 0), aI vm, aI vi, aI s, aI kk] [] h = X mX5_order 95 [aR (some 0), aI vm, aI vi, aI s, aI (nP (ahd S m s) s : Nat)] [] h' ∧ RB0 S h' ∧ Sw h0 h' ∧ LW S m h' n ∧ II S m s (nP (ahd S m s) s) h' := by
  intro d
  induction d with
  | zero =>
    intro kk h hd hk H sw W I
    have e : kk = nP (ahd S m s) s := by omega
    rw [← e]
    have q25 := H.f 25 rfl
    have ho : isO h 5 0 = true := isO_rd (H.f 4 rfl)
    refine ⟨h, ?_, H, sw, W, I⟩
    cases hkk : kk with
    | zero =>
      have n1 : ((0 : Nat) : Int) ≤ 0 := by decide
      rw [x_X5_order_51]
      simp only [↓x_X5_order_0, ↓x_X5_order_1, ↓x_X5_order_2, ↓x_X5_order_5, ↓x_X5_order_8, ↓x_X5_order_9, ↓x_X5_order_10, ↓x_X5_order_11, ↓x_X5_order_12, ↓x_X5_order_13, ↓x_X5_order_14, ↓x_X5_order_17, ↓x_X5_order_18, ↓x_X5_order_19, ↓x_X5_order_20, ↓x_X5_order_21, ↓x_X5_order_22, ↓x_X5_order_25, ↓x_X5_order_28, ↓x_X5_order_30, ↓x_X5_order_31, ↓x_X5_order_32, ↓x_X5_order_33, ↓x_X5_order_36, ↓x_X5_order_37, ↓x_X5_order_39, ↓x_X5_order_40, ↓x_X5_order_43, ↓x_X5_order_44, ↓x_X5_order_45, ↓x_X5_order_48, ↓x_X5_order_49, ↓x_X5_order_53, ↓x_X5_order_56, ↓x_X5_order_57, ↓x_X5_order_58, ↓x_X5_order_59, ↓x_X5_order_62, ↓x_X5_order_64, ↓x_X5_order_65, ↓x_X5_order_66, ↓x_X5_order_67, ↓x_X5_order_70, ↓x_X5_order_73, ↓x_X5_order_74, ↓x_X5_order_77, ↓x_X5_order_79, ↓x_X5_order_80, ↓x_X5_order_83, ↓x_X5_order_85, ↓x_X5_order_86, ↓x_X5_order_87, ↓x_X5_order_88, ↓x_X5_order_89, ↓x_X5_order_92, ↓x_X5_order_96, ↓x_X5_order_99, ↓x_X5_order_101, ↓x_X5_order_102, ↓x_X5_order_103, ↓x_X5_order_106, ↓x_X5_order_109, ↓x_X5_order_110, ↓x_X5_order_113, ↓x_X5_order_114, ↓x_X5_order_115, n1, ↓reduceIte]
    | succ k =>
      subst hkk
      obtain ⟨x, x1, x2⟩ := Rk_sur (S := S) (m := m) s k (by omega)
      have r := I.1 x x1 (by omega)
      rw [x2] at r
      have n1 : ¬ ((k + 1 : Nat) : Int) ≤ 0 := by omega
      have k0 : (0 : Int) ≤ (k : Int) := Int.natCast_nonneg _
      have cb := c_between H W (s := s) (t := x) hs (by omega)
      have na : ahd S m x s = false := by
        cases h : ahd S m x s with
        | false => rfl
        | true => have := Rk_ge h; omega
      have n2 : wR S m s ≤ wR S m x := Rat.not_lt.mp fun z => by rw [ah_iff.mpr (Or.inl z)] at na; cases na
      have hk5 : k ≤ 1000 := by omega
      rw [x_X5_order_51]
      simp only [↓x_X5_order_0, ↓x_X5_order_1, ↓x_X5_order_2, ↓x_X5_order_5, ↓x_X5_order_8, ↓x_X5_order_9, ↓x_X5_order_10, ↓x_X5_order_11, ↓x_X5_order_12, ↓x_X5_order_13, ↓x_X5_order_14, ↓x_X5_order_17, ↓x_X5_order_18, ↓x_X5_order_19, ↓x_X5_order_20, ↓x_X5_order_21, ↓x_X5_order_22, ↓x_X5_order_25, ↓x_X5_order_28, ↓x_X5_order_30, ↓x_X5_order_31, ↓x_X5_order_32, ↓x_X5_order_33, ↓x_X5_order_36, ↓x_X5_order_37, ↓x_X5_order_39, ↓x_X5_order_40, ↓x_X5_order_43, ↓x_X5_order_44, ↓x_X5_order_45, ↓x_X5_order_48, ↓x_X5_order_49, ↓x_X5_order_53, ↓x_X5_order_56, ↓x_X5_order_57, ↓x_X5_order_58, ↓x_X5_order_59, ↓x_X5_order_62, ↓x_X5_order_64, ↓x_X5_order_65, ↓x_X5_order_66, ↓x_X5_order_67, ↓x_X5_order_70, ↓x_X5_order_73, ↓x_X5_order_74, ↓x_X5_order_77, ↓x_X5_order_79, ↓x_X5_order_80, ↓x_X5_order_83, ↓x_X5_order_85, ↓x_X5_order_86, ↓x_X5_order_87, ↓x_X5_order_88, ↓x_X5_order_89, ↓x_X5_order_92, ↓x_X5_order_96, ↓x_X5_order_99, ↓x_X5_order_101, ↓x_X5_order_102, ↓x_X5_order_103, ↓x_X5_order_106, ↓x_X5_order_109, ↓x_X5_order_110, ↓x_X5_order_113, ↓x_X5_order_114, ↓x_X5_order_115, n1, ↓gK_of q25, (km_w hk5).1, k0, Int.toNat_natCast, gK_of r, ho, ↓reduceIte]
      simp only [↓x_X5_order_0, ↓x_X5_order_1, ↓x_X5_order_2, ↓x_X5_order_5, ↓x_X5_order_8, ↓x_X5_order_9, ↓x_X5_order_10, ↓x_X5_order_11, ↓x_X5_order_12, ↓x_X5_order_13, ↓x_X5_order_14, ↓x_X5_order_17, ↓x_X5_order_18, ↓x_X5_order_19, ↓x_X5_order_20, ↓x_X5_order_21, ↓x_X5_order_22, ↓x_X5_order_25, ↓x_X5_order_28, ↓x_X5_order_30, ↓x_X5_order_31, ↓x_X5_order_32, ↓x_X5_order_33, ↓x_X5_order_36, ↓x_X5_order_37, ↓x_X5_order_39, ↓x_X5_order_40, ↓x_X5_order_43, ↓x_X5_order_44, ↓x_X5_order_45, ↓x_X5_order_48, ↓x_X5_order_49, ↓x_X5_order_53, ↓x_X5_order_56, ↓x_X5_order_57, ↓x_X5_order_58, ↓x_X5_order_59, ↓x_X5_order_62, ↓x_X5_order_64, ↓x_X5_order_65, ↓x_X5_order_66, ↓x_X5_order_67, ↓x_X5_order_70, ↓x_X5_order_73, ↓x_X5_order_74, ↓x_X5_order_77, ↓x_X5_order_79, ↓x_X5_order_80, ↓x_X5_order_83, ↓x_X5_order_85, ↓x_X5_order_86, ↓x_X5_order_87, ↓x_X5_order_88, ↓x_X5_order_89, ↓x_X5_order_92, ↓x_X5_order_96, ↓x_X5_order_99, ↓x_X5_order_101, ↓x_X5_order_102, ↓x_X5_order_103, ↓x_X5_order_106, ↓x_X5_order_109, ↓x_X5_order_110, ↓x_X5_order_113, ↓x_X5_order_114, ↓x_X5_order_115, ho, ↓cKI cb, rc_le, n2, ↓reduceIte]
  | succ d ih =>
    intro kk h hd hk H sw W I
    have q25 := H.f 25 rfl
    have ho : isO h 5 0 = true := isO_rd (H.f 4 rfl)
    obtain ⟨k, rfl⟩ : ∃ k, kk = k + 1 := ⟨kk - 1, by omega⟩
    obtain ⟨x, x1, x2⟩ := Rk_sur (S := S) (m := m) s k (by omega)
    have r := I.1 x x1 (by omega)
    rw [x2] at r
    have n1 : ¬ ((k + 1 : Nat) : Int) ≤ 0 := by omega
    have k0 : (0 : Int) ≤ (k : Int) := Int.natCast_nonneg _
    have k1 : (0 : Int) ≤ ((k + 1 : Nat) : Int) := Int.natCast_nonneg _
    have cb := c_between H W (s := s) (t := x) hs (by omega)
    have na : ahd S m x s = true := by
      cases h : ahd S m x s with
      | true => rfl
      | false => have := Rk_lt x1 h; omega
    have n2 : ¬ wR S m s ≤ wR S m x := by
      rcases ah_iff.mp na with q | q
      · exact Rat.not_le.mpr q
      · omega
    have hk5 : k ≤ 1000 := by omega
    obtain ⟨v, hv⟩ := H.1 16 (k + 1) (show k + 1 < 5 by omega)
    have hv' : rd h 10 16 (k + 1) = some v := hv
    have inj : ∀ t, t < s → nP (ahd S m t) s = k → t = x := fun t ht e => by
      have r2 := I.1 t ht (by omega)
      rw [e, r] at r2
      have := (Option.some.inj r2)
      have : (x : Int) = (t : Int) := Sum.inl.inj this
      omega
    obtain ⟨h', a1, a2⟩ := ih k (wr h 10 16 (k + 1) (aI x)) (by omega) (by omega) (H.wn 16 (k + 1) _ rfl) (sw.tr (Sw.w (Or.inl (by decide)))) (fun t ht => by
      obtain ⟨w1, w2, w3⟩ := W t ht
      exact ⟨by rw [rd_wn (Or.inl (by decide))]; exact w1, by rw [rd_wn (Or.inl (by decide))]; exact w2, w3⟩) ⟨fun t ht h1 => by rw [rd_wn (Or.inr (Or.inr (by omega)))]; exact I.1 t ht (by omega), fun t ht h1 => by
        by_cases e : nP (ahd S m t) s = k
        · rw [e, inj t ht e]; exact rd_wr hv'
        · rw [rd_wn (Or.inr (Or.inr (by omega)))]; exact I.2 t ht (by omega)⟩
    refine ⟨h', ?_, a2⟩
    rw [← a1, x_X5_order_51]
    simp only [↓x_X5_order_0, ↓x_X5_order_1, ↓x_X5_order_2, ↓x_X5_order_5, ↓x_X5_order_8, ↓x_X5_order_9, ↓x_X5_order_10, ↓x_X5_order_11, ↓x_X5_order_12, ↓x_X5_order_13, ↓x_X5_order_14, ↓x_X5_order_17, ↓x_X5_order_18, ↓x_X5_order_19, ↓x_X5_order_20, ↓x_X5_order_21, ↓x_X5_order_22, ↓x_X5_order_25, ↓x_X5_order_28, ↓x_X5_order_30, ↓x_X5_order_31, ↓x_X5_order_32, ↓x_X5_order_33, ↓x_X5_order_36, ↓x_X5_order_37, ↓x_X5_order_39, ↓x_X5_order_40, ↓x_X5_order_43, ↓x_X5_order_44, ↓x_X5_order_45, ↓x_X5_order_48, ↓x_X5_order_49, ↓x_X5_order_53, ↓x_X5_order_56, ↓x_X5_order_57, ↓x_X5_order_58, ↓x_X5_order_59, ↓x_X5_order_62, ↓x_X5_order_64, ↓x_X5_order_65, ↓x_X5_order_66, ↓x_X5_order_70, ↓x_X5_order_73, ↓x_X5_order_74, ↓x_X5_order_77, ↓x_X5_order_79, ↓x_X5_order_80, ↓x_X5_order_83, ↓x_X5_order_85, ↓x_X5_order_86, ↓x_X5_order_87, ↓x_X5_order_88, ↓x_X5_order_89, ↓x_X5_order_92, ↓x_X5_order_96, ↓x_X5_order_99, ↓x_X5_order_101, ↓x_X5_order_102, ↓x_X5_order_103, ↓x_X5_order_106, ↓x_X5_order_109, ↓x_X5_order_110, ↓x_X5_order_113, ↓x_X5_order_114, ↓x_X5_order_115, n1, ↓gK_of q25, (km_w hk5).1, k0, Int.toNat_natCast, gK_of r, ho, ↓reduceIte]
    simp only [↓x_X5_order_0, ↓x_X5_order_1, ↓x_X5_order_2, ↓x_X5_order_5, ↓x_X5_order_8, ↓x_X5_order_9, ↓x_X5_order_10, ↓x_X5_order_11, ↓x_X5_order_12, ↓x_X5_order_13, ↓x_X5_order_14, ↓x_X5_order_17, ↓x_X5_order_18, ↓x_X5_order_19, ↓x_X5_order_20, ↓x_X5_order_21, ↓x_X5_order_22, ↓x_X5_order_25, ↓x_X5_order_28, ↓x_X5_order_30, ↓x_X5_order_31, ↓x_X5_order_32, ↓x_X5_order_33, ↓x_X5_order_36, ↓x_X5_order_37, ↓x_X5_order_39, ↓x_X5_order_40, ↓x_X5_order_43, ↓x_X5_order_44, ↓x_X5_order_45, ↓x_X5_order_48, ↓x_X5_order_49, ↓x_X5_order_53, ↓x_X5_order_56, ↓x_X5_order_57, ↓x_X5_order_58, ↓x_X5_order_59, ↓x_X5_order_62, ↓x_X5_order_64, ↓x_X5_order_65, ↓x_X5_order_66, ↓x_X5_order_67, ↓x_X5_order_70, ↓x_X5_order_73, ↓x_X5_order_74, ↓x_X5_order_77, ↓x_X5_order_79, ↓x_X5_order_80, ↓x_X5_order_83, ↓x_X5_order_85, ↓x_X5_order_86, ↓x_X5_order_87, ↓x_X5_order_88, ↓x_X5_order_89, ↓x_X5_order_92, ↓x_X5_order_96, ↓x_X5_order_99, ↓x_X5_order_101, ↓x_X5_order_102, ↓x_X5_order_103, ↓x_X5_order_106, ↓x_X5_order_109, ↓x_X5_order_110, ↓x_X5_order_113, ↓x_X5_order_114, ↓x_X5_order_115, ho, ↓cKI cb, rc_le, n2, ↓gK_of q25, (km_w hk5).1, (km_w hk5).2, k0, k1, Int.toNat_natCast, gK_of r, pK_of hv', ↓reduceIte]
theorem lr_ord {h0 : AH} (F : WF S) (hm : m < mS S) {vi : Int} : ∀ (d s : Nat) (h : AH) (v4 : AV), s + d = nS S m → RB0 S h → Sw h0 h → LW S m h (nS S m) → (∀ t, t < s → rd h 10 16 (nP (ahd S m t) s) = some (aI (t : Nat))) →
    ∃ h' v4', X mX5_order 38 [aR (some 0), aI m, aI vi, aI s, v4] [] h = X mX5_order 109 [aR (some 0), aI m, aI vi, aI (nS S m : Nat), v4'] [] h' ∧ RB0 S h' ∧ Sw h0 h' ∧ ∀ t, t < nS S m → rd h' 10 16 (nP (ahd S m t) (nS S m)) = some (aI (t : Nat)) := by
  obtain ⟨hn, en, hpy, hw⟩ := F.m hm
  have m0 : (0 : Int) ≤ (m : Int) := Int.natCast_nonneg _
  intro d
  induction d with
  | zero =>
    intro s h v4 hd H sw W R
    have e : s = nS S m := by omega
    subst e
    have q12 := H.f 12 rfl
    have q7 := H.r7 hm
    rw [← en] at q7
    have n1 : ((nS S m : Nat) : Int) ≤ ((nS S m : Nat) : Int) := Int.le_refl _
    refine ⟨h, v4, ?_, H, sw, R⟩
    rw [x_X5_order_38]
    simp only [↓x_X5_order_0, ↓x_X5_order_1, ↓x_X5_order_2, ↓x_X5_order_5, ↓x_X5_order_8, ↓x_X5_order_9, ↓x_X5_order_10, ↓x_X5_order_11, ↓x_X5_order_12, ↓x_X5_order_13, ↓x_X5_order_14, ↓x_X5_order_17, ↓x_X5_order_18, ↓x_X5_order_19, ↓x_X5_order_20, ↓x_X5_order_21, ↓x_X5_order_22, ↓x_X5_order_25, ↓x_X5_order_28, ↓x_X5_order_30, ↓x_X5_order_31, ↓x_X5_order_32, ↓x_X5_order_33, ↓x_X5_order_36, ↓x_X5_order_37, ↓x_X5_order_39, ↓x_X5_order_40, ↓x_X5_order_43, ↓x_X5_order_44, ↓x_X5_order_45, ↓x_X5_order_48, ↓x_X5_order_49, ↓x_X5_order_53, ↓x_X5_order_56, ↓x_X5_order_57, ↓x_X5_order_58, ↓x_X5_order_59, ↓x_X5_order_62, ↓x_X5_order_64, ↓x_X5_order_65, ↓x_X5_order_66, ↓x_X5_order_67, ↓x_X5_order_70, ↓x_X5_order_73, ↓x_X5_order_74, ↓x_X5_order_77, ↓x_X5_order_79, ↓x_X5_order_80, ↓x_X5_order_83, ↓x_X5_order_85, ↓x_X5_order_86, ↓x_X5_order_87, ↓x_X5_order_88, ↓x_X5_order_89, ↓x_X5_order_92, ↓x_X5_order_95, ↓x_X5_order_96, ↓x_X5_order_99, ↓x_X5_order_101, ↓x_X5_order_102, ↓x_X5_order_103, ↓x_X5_order_106, ↓x_X5_order_110, ↓x_X5_order_113, ↓x_X5_order_114, ↓x_X5_order_115, ↓gK_of q12, m0, Int.toNat_natCast, gK_of q7, n1, ↓reduceIte]
  | succ d ih =>
    intro s h v4 hd H sw W R
    have q12 := H.f 12 rfl
    have q7 := H.r7 hm
    rw [← en] at q7
    have n3 : ¬ ((nS S m : Nat) : Int) ≤ (s : Int) := by omega
    have hs5 : s ≤ 1000 := by omega
    have rl := nP_le (ahd S m s) s
    obtain ⟨h1, a1, a2, a3, a4, a5, a6⟩ := lr_ins (S := S) (m := m) (h0 := h0) hn.2 (s := s) (by omega) (vm := m) (vi := vi) (s - nP (ahd S m s) s) s h (by omega) (Nat.le_refl _) H sw W ⟨fun t ht _ => R t ht, fun t ht h1 => by
      exfalso
      have hx : nP (ahd S m t) s < s := by
        have e0 := nP_all s
        have := nP_strict (P := ahd S m t) (Q := fun _ => true) (x := t) ht rfl ah_ir (fun _ _ _ => rfl)
        omega
      omega⟩
    have q25 := a2.f 25 rfl
    obtain ⟨v, hv⟩ := a2.1 16 (nP (ahd S m s) s) (show nP (ahd S m s) s < 5 by omega)
    have hv' : rd h1 10 16 (nP (ahd S m s) s) = some v := hv
    have r0 : (0 : Int) ≤ ((nP (ahd S m s) s : Nat) : Int) := Int.natCast_nonneg _
    obtain ⟨h', v4', b1, b2⟩ := ih (s + 1) (wr h1 10 16 (nP (ahd S m s) s) (aI s)) (aI (nP (ahd S m s) s : Nat)) (by omega) (a2.wn 16 _ _ rfl) (a3.tr (Sw.w (Or.inl (by decide)))) (fun t ht => by
      obtain ⟨w1, w2, w3⟩ := a4 t ht
      exact ⟨by rw [rd_wn (Or.inl (by decide))]; exact w1, by rw [rd_wn (Or.inl (by decide))]; exact w2, w3⟩) (fun t ht => by
      by_cases e : t = s
      · subst e
        rw [nP, if_neg (by rw [ah_ir]; decide), Nat.add_zero]
        exact rd_wr hv'
      · rw [nP]
        cases hh : ahd S m t s with
        | true =>
          have := Rk_ge hh
          rw [if_pos rfl, rd_wn (Or.inr (Or.inr (by omega)))]
          exact a6 t (by omega) this
        | false =>
          have := Rk_lt (show t < s by omega) hh
          rw [if_neg (by decide), Nat.add_zero, rd_wn (Or.inr (Or.inr (by omega)))]
          exact a5 t (by omega) this)
    refine ⟨h', v4', ?_, b2⟩
    rw [← b1, x_X5_order_38]
    simp only [↓x_X5_order_0, ↓x_X5_order_1, ↓x_X5_order_2, ↓x_X5_order_5, ↓x_X5_order_8, ↓x_X5_order_9, ↓x_X5_order_10, ↓x_X5_order_11, ↓x_X5_order_12, ↓x_X5_order_13, ↓x_X5_order_14, ↓x_X5_order_17, ↓x_X5_order_18, ↓x_X5_order_19, ↓x_X5_order_20, ↓x_X5_order_21, ↓x_X5_order_22, ↓x_X5_order_25, ↓x_X5_order_28, ↓x_X5_order_30, ↓x_X5_order_31, ↓x_X5_order_32, ↓x_X5_order_33, ↓x_X5_order_36, ↓x_X5_order_37, ↓x_X5_order_39, ↓x_X5_order_40, ↓x_X5_order_43, ↓x_X5_order_44, ↓x_X5_order_45, ↓x_X5_order_48, ↓x_X5_order_49, ↓x_X5_order_53, ↓x_X5_order_56, ↓x_X5_order_57, ↓x_X5_order_58, ↓x_X5_order_59, ↓x_X5_order_62, ↓x_X5_order_64, ↓x_X5_order_65, ↓x_X5_order_66, ↓x_X5_order_67, ↓x_X5_order_70, ↓x_X5_order_73, ↓x_X5_order_74, ↓x_X5_order_77, ↓x_X5_order_79, ↓x_X5_order_80, ↓x_X5_order_83, ↓x_X5_order_85, ↓x_X5_order_86, ↓x_X5_order_87, ↓x_X5_order_88, ↓x_X5_order_89, ↓x_X5_order_92, ↓x_X5_order_95, ↓x_X5_order_96, ↓x_X5_order_99, ↓x_X5_order_101, ↓x_X5_order_102, ↓x_X5_order_103, ↓x_X5_order_106, ↓x_X5_order_110, ↓x_X5_order_113, ↓x_X5_order_114, ↓x_X5_order_115, ↓gK_of q12, m0, Int.toNat_natCast, gK_of q7, n3, ↓reduceIte]
    refine a1.trans ?_
    simp only [↓x_X5_order_0, ↓x_X5_order_1, ↓x_X5_order_2, ↓x_X5_order_5, ↓x_X5_order_8, ↓x_X5_order_9, ↓x_X5_order_10, ↓x_X5_order_11, ↓x_X5_order_12, ↓x_X5_order_13, ↓x_X5_order_14, ↓x_X5_order_17, ↓x_X5_order_18, ↓x_X5_order_19, ↓x_X5_order_20, ↓x_X5_order_21, ↓x_X5_order_22, ↓x_X5_order_25, ↓x_X5_order_28, ↓x_X5_order_30, ↓x_X5_order_31, ↓x_X5_order_32, ↓x_X5_order_33, ↓x_X5_order_36, ↓x_X5_order_37, ↓x_X5_order_39, ↓x_X5_order_40, ↓x_X5_order_43, ↓x_X5_order_44, ↓x_X5_order_45, ↓x_X5_order_48, ↓x_X5_order_49, ↓x_X5_order_53, ↓x_X5_order_56, ↓x_X5_order_57, ↓x_X5_order_58, ↓x_X5_order_59, ↓x_X5_order_62, ↓x_X5_order_64, ↓x_X5_order_65, ↓x_X5_order_66, ↓x_X5_order_67, ↓x_X5_order_70, ↓x_X5_order_73, ↓x_X5_order_74, ↓x_X5_order_77, ↓x_X5_order_79, ↓x_X5_order_80, ↓x_X5_order_83, ↓x_X5_order_85, ↓x_X5_order_86, ↓x_X5_order_87, ↓x_X5_order_88, ↓x_X5_order_89, ↓x_X5_order_92, ↓x_X5_order_95, ↓x_X5_order_96, ↓x_X5_order_99, ↓x_X5_order_101, ↓x_X5_order_102, ↓x_X5_order_103, ↓x_X5_order_106, ↓x_X5_order_110, ↓x_X5_order_113, ↓x_X5_order_114, ↓x_X5_order_115, ↓gK_of q25, r0, Int.toNat_natCast, pK_of hv', w32_s hs5, ↓reduceIte]
theorem ordF_at {i n : Nat} (hi : ∃ t, t < n ∧ nP (ahd S m t) (nS S m) = i ∧ ∀ u, u < n → nP (ahd S m u) (nS S m) = i → u = t) : ∀ (d s : Nat), s + d = n → (∀ u, u < s → nP (ahd S m u) (nS S m) ≠ i) → ∃ t, t < n ∧ nP (ahd S m t) (nS S m) = i ∧ ordF S m i d s = (t : Nat)
  | 0, s, hd, hu => by
    obtain ⟨t, t1, t2, t3⟩ := hi
    exact absurd t2 (hu t (by omega))
  | d + 1, s, hd, hu => by
    rw [ordF]
    by_cases c : ((nP (ahd S m s) (nS S m) : Nat) : Int) = (i : Int)
    · rw [if_pos c]
      exact ⟨s, by omega, by omega, rfl⟩
    · rw [if_neg c]
      exact ordF_at hi d (s + 1) (by omega) (fun u hu' => by
        by_cases e : u = s
        · subst e; omega
        · exact hu u (by omega))
theorem ordF_no {i : Int} : ∀ (d s : Nat), (∀ u, s ≤ u → u < s + d → ((nP (ahd S m u) (nS S m) : Nat) : Int) ≠ i) → ordF S m i d s = -9
  | 0, s, _ => rfl
  | d + 1, s, h => by
    rw [ordF, if_neg (h s (by omega) (by omega))]
    exact ordF_no d (s + 1) (fun u h1 h2 => h u (by omega) (by omega))
end AH
theorem CR_order {S : SS} (F : WF S) (m i : Int) : CR mX5_order [aI m, aI i] aI S (o_order m i S) := by
  intro h H
  have ho : isO h 5 0 = true := isO_rd (H.1.f 4 rfl)
  have ca := c_isMachine F H.1 m
  have z : ¬ (1 : Int) = 0 := by decide
  unfold o_order
  rw [e_X5_order]
  by_cases c1 : isM S m
  · rw [if_pos c1] at ca
    rw [if_neg (not_not_intro c1)]
    obtain ⟨hm, em⟩ := isM_n c1
    obtain ⟨hn, en, hpy, hw⟩ := F.m hm
    have q12 := H.1.f 12 rfl
    have q7 := H.1.r7 hm
    rw [← en] at q7
    have m0 := c1.1
    have ci := c_in (h := h) (v := i) (lo := 0) (hi := ((nS S m.toNat : Nat) : Int) - 1)
    have e1 : w32 (((nS S m.toNat : Nat) : Int) - 1) = ((nS S m.toNat : Nat) : Int) - 1 := by rw [w32_in] <;> omega
    have s22 : X mX5_order 0 [aR (some 0), aI m, aI i, aU, aU] [] h = X mX5_order 22 [aR (some 0), aI m, aI i, aU, aU] [aJ (((nS S m.toNat : Nat) : Int) - 1), aJ 0, aJ i] h := by
      simp only [↓x_X5_order_0, ↓x_X5_order_1, ↓x_X5_order_2, ↓x_X5_order_5, ↓x_X5_order_8, ↓x_X5_order_9, ↓x_X5_order_10, ↓x_X5_order_11, ↓x_X5_order_12, ↓x_X5_order_13, ↓x_X5_order_14, ↓x_X5_order_17, ↓x_X5_order_18, ↓x_X5_order_19, ↓x_X5_order_20, ↓x_X5_order_21, ↓x_X5_order_25, ↓x_X5_order_28, ↓x_X5_order_30, ↓x_X5_order_31, ↓x_X5_order_32, ↓x_X5_order_33, ↓x_X5_order_36, ↓x_X5_order_37, ↓x_X5_order_39, ↓x_X5_order_40, ↓x_X5_order_43, ↓x_X5_order_44, ↓x_X5_order_45, ↓x_X5_order_48, ↓x_X5_order_49, ↓x_X5_order_51, ↓x_X5_order_53, ↓x_X5_order_56, ↓x_X5_order_57, ↓x_X5_order_58, ↓x_X5_order_59, ↓x_X5_order_62, ↓x_X5_order_64, ↓x_X5_order_65, ↓x_X5_order_66, ↓x_X5_order_67, ↓x_X5_order_70, ↓x_X5_order_73, ↓x_X5_order_74, ↓x_X5_order_77, ↓x_X5_order_79, ↓x_X5_order_80, ↓x_X5_order_83, ↓x_X5_order_85, ↓x_X5_order_86, ↓x_X5_order_87, ↓x_X5_order_88, ↓x_X5_order_89, ↓x_X5_order_92, ↓x_X5_order_95, ↓x_X5_order_96, ↓x_X5_order_99, ↓x_X5_order_101, ↓x_X5_order_102, ↓x_X5_order_103, ↓x_X5_order_106, ↓x_X5_order_109, ↓x_X5_order_110, ↓x_X5_order_113, ↓x_X5_order_114, ↓x_X5_order_115, ho, ↓cKI ca, z, ↓gK_of q12, m0, ↓gK_of q7, e1, not_false_eq_true, ↓reduceIte]
    rw [s22]
    clear e1
    have hlt : ∀ u, u < nS S m.toNat → nP (ahd S m.toNat u) (nS S m.toNat) < nS S m.toNat := fun u hu => by
      have e0 := nP_all (nS S m.toNat)
      have := nP_strict (P := ahd S m.toNat u) (Q := fun _ => true) (x := u) hu rfl ah_ir (fun _ _ _ => rfl)
      omega
    by_cases c2 : 0 ≤ i ∧ i ≤ ((nS S m.toNat : Nat) : Int) - 1
    · rw [if_pos c2] at ci
      obtain ⟨i', rfl⟩ := Int.eq_ofNat_of_zero_le c2.1
      obtain ⟨h1, a1, a2, a3, a4⟩ := c_layW F hm H.1
      rw [em] at a1
      obtain ⟨h2, v4', b1, b2, b3, b4⟩ := lr_ord (h0 := h) F hm (vi := (i' : Int)) (nS S m.toNat) 0 h1 aU (by omega) a2 a3 a4 (fun t ht => by omega)
      rw [em] at b1
      have q25 := b2.f 25 rfl
      obtain ⟨t, t1, t2⟩ := Rk_sur (S := S) (m := m.toNat) (nS S m.toNat) i' (by omega)
      obtain ⟨t', p1, p2, p3⟩ := ordF_at (S := S) (m := m.toNat) (i := i') (n := nS S m.toNat) ⟨t, t1, t2, fun u hu e => by
        have r1 := b4 u hu
        have r2 := b4 t t1
        rw [e] at r1
        rw [t2, r1] at r2
        have := Option.some.inj r2
        have : (u : Int) = (t : Int) := Sum.inl.inj this
        omega⟩ (nS S m.toNat) 0 (by omega) (fun u hu => by omega)
      have r := b4 t' p1
      rw [p2] at r
      rw [p3]
      refine ⟨h2, ?_, H.sw b2 b3, b3.2⟩
      have i0 : (0 : Int) ≤ (i' : Int) := Int.natCast_nonneg _
      simp only [↓x_X5_order_0, ↓x_X5_order_1, ↓x_X5_order_2, ↓x_X5_order_5, ↓x_X5_order_8, ↓x_X5_order_9, ↓x_X5_order_10, ↓x_X5_order_11, ↓x_X5_order_12, ↓x_X5_order_13, ↓x_X5_order_14, ↓x_X5_order_17, ↓x_X5_order_18, ↓x_X5_order_19, ↓x_X5_order_20, ↓x_X5_order_21, ↓x_X5_order_22, ↓x_X5_order_25, ↓x_X5_order_28, ↓x_X5_order_30, ↓x_X5_order_31, ↓x_X5_order_32, ↓x_X5_order_33, ↓x_X5_order_36, ↓x_X5_order_37, ↓x_X5_order_39, ↓x_X5_order_40, ↓x_X5_order_43, ↓x_X5_order_44, ↓x_X5_order_45, ↓x_X5_order_48, ↓x_X5_order_49, ↓x_X5_order_51, ↓x_X5_order_53, ↓x_X5_order_56, ↓x_X5_order_57, ↓x_X5_order_58, ↓x_X5_order_59, ↓x_X5_order_62, ↓x_X5_order_64, ↓x_X5_order_65, ↓x_X5_order_66, ↓x_X5_order_67, ↓x_X5_order_70, ↓x_X5_order_73, ↓x_X5_order_74, ↓x_X5_order_77, ↓x_X5_order_79, ↓x_X5_order_80, ↓x_X5_order_83, ↓x_X5_order_85, ↓x_X5_order_86, ↓x_X5_order_87, ↓x_X5_order_88, ↓x_X5_order_89, ↓x_X5_order_92, ↓x_X5_order_95, ↓x_X5_order_96, ↓x_X5_order_99, ↓x_X5_order_101, ↓x_X5_order_102, ↓x_X5_order_103, ↓x_X5_order_106, ↓x_X5_order_109, ↓x_X5_order_110, ↓x_X5_order_113, ↓x_X5_order_114, ↓x_X5_order_115, ho, ↓cKI ci, z, ↓cKV a1, not_false_eq_true, ↓reduceIte]
      refine b1.trans ?_
      simp only [↓x_X5_order_0, ↓x_X5_order_1, ↓x_X5_order_2, ↓x_X5_order_5, ↓x_X5_order_8, ↓x_X5_order_9, ↓x_X5_order_10, ↓x_X5_order_11, ↓x_X5_order_12, ↓x_X5_order_13, ↓x_X5_order_14, ↓x_X5_order_17, ↓x_X5_order_18, ↓x_X5_order_19, ↓x_X5_order_20, ↓x_X5_order_21, ↓x_X5_order_22, ↓x_X5_order_25, ↓x_X5_order_28, ↓x_X5_order_30, ↓x_X5_order_31, ↓x_X5_order_32, ↓x_X5_order_33, ↓x_X5_order_36, ↓x_X5_order_37, ↓x_X5_order_39, ↓x_X5_order_40, ↓x_X5_order_43, ↓x_X5_order_44, ↓x_X5_order_45, ↓x_X5_order_48, ↓x_X5_order_49, ↓x_X5_order_51, ↓x_X5_order_53, ↓x_X5_order_56, ↓x_X5_order_57, ↓x_X5_order_58, ↓x_X5_order_59, ↓x_X5_order_62, ↓x_X5_order_64, ↓x_X5_order_65, ↓x_X5_order_66, ↓x_X5_order_67, ↓x_X5_order_70, ↓x_X5_order_73, ↓x_X5_order_74, ↓x_X5_order_77, ↓x_X5_order_79, ↓x_X5_order_80, ↓x_X5_order_83, ↓x_X5_order_85, ↓x_X5_order_86, ↓x_X5_order_87, ↓x_X5_order_88, ↓x_X5_order_89, ↓x_X5_order_92, ↓x_X5_order_95, ↓x_X5_order_96, ↓x_X5_order_99, ↓x_X5_order_101, ↓x_X5_order_102, ↓x_X5_order_103, ↓x_X5_order_106, ↓x_X5_order_109, ↓x_X5_order_110, ↓x_X5_order_113, ↓x_X5_order_114, ↓x_X5_order_115, ↓gK_of q25, i0, Int.toNat_natCast, gK_of r, ↓reduceIte]
    · rw [if_neg c2] at ci
      rw [ordF_no (nS S m.toNat) 0 (fun u h1 h2 => by have := hlt u (by omega); omega)]
      refine ⟨h, ?_, H, L0.rf⟩
      simp only [↓x_X5_order_0, ↓x_X5_order_1, ↓x_X5_order_2, ↓x_X5_order_5, ↓x_X5_order_8, ↓x_X5_order_9, ↓x_X5_order_10, ↓x_X5_order_11, ↓x_X5_order_12, ↓x_X5_order_13, ↓x_X5_order_14, ↓x_X5_order_17, ↓x_X5_order_18, ↓x_X5_order_19, ↓x_X5_order_20, ↓x_X5_order_21, ↓x_X5_order_22, ↓x_X5_order_25, ↓x_X5_order_28, ↓x_X5_order_30, ↓x_X5_order_31, ↓x_X5_order_32, ↓x_X5_order_33, ↓x_X5_order_36, ↓x_X5_order_37, ↓x_X5_order_39, ↓x_X5_order_40, ↓x_X5_order_43, ↓x_X5_order_44, ↓x_X5_order_45, ↓x_X5_order_48, ↓x_X5_order_49, ↓x_X5_order_51, ↓x_X5_order_53, ↓x_X5_order_56, ↓x_X5_order_57, ↓x_X5_order_58, ↓x_X5_order_59, ↓x_X5_order_62, ↓x_X5_order_64, ↓x_X5_order_65, ↓x_X5_order_66, ↓x_X5_order_67, ↓x_X5_order_70, ↓x_X5_order_73, ↓x_X5_order_74, ↓x_X5_order_77, ↓x_X5_order_79, ↓x_X5_order_80, ↓x_X5_order_83, ↓x_X5_order_85, ↓x_X5_order_86, ↓x_X5_order_87, ↓x_X5_order_88, ↓x_X5_order_89, ↓x_X5_order_92, ↓x_X5_order_95, ↓x_X5_order_96, ↓x_X5_order_99, ↓x_X5_order_101, ↓x_X5_order_102, ↓x_X5_order_103, ↓x_X5_order_106, ↓x_X5_order_109, ↓x_X5_order_110, ↓x_X5_order_113, ↓x_X5_order_114, ↓x_X5_order_115, ↓cKI ci, not_true_eq_false, ↓reduceIte]
  · rw [if_neg c1] at ca
    rw [if_pos c1]
    refine ⟨h, ?_, H, L0.rf⟩
    simp only [↓x_X5_order_0, ↓x_X5_order_1, ↓x_X5_order_2, ↓x_X5_order_5, ↓x_X5_order_8, ↓x_X5_order_9, ↓x_X5_order_10, ↓x_X5_order_11, ↓x_X5_order_12, ↓x_X5_order_13, ↓x_X5_order_14, ↓x_X5_order_17, ↓x_X5_order_18, ↓x_X5_order_19, ↓x_X5_order_20, ↓x_X5_order_21, ↓x_X5_order_22, ↓x_X5_order_25, ↓x_X5_order_28, ↓x_X5_order_30, ↓x_X5_order_31, ↓x_X5_order_32, ↓x_X5_order_33, ↓x_X5_order_36, ↓x_X5_order_37, ↓x_X5_order_39, ↓x_X5_order_40, ↓x_X5_order_43, ↓x_X5_order_44, ↓x_X5_order_45, ↓x_X5_order_48, ↓x_X5_order_49, ↓x_X5_order_51, ↓x_X5_order_53, ↓x_X5_order_56, ↓x_X5_order_57, ↓x_X5_order_58, ↓x_X5_order_59, ↓x_X5_order_62, ↓x_X5_order_64, ↓x_X5_order_65, ↓x_X5_order_66, ↓x_X5_order_67, ↓x_X5_order_70, ↓x_X5_order_73, ↓x_X5_order_74, ↓x_X5_order_77, ↓x_X5_order_79, ↓x_X5_order_80, ↓x_X5_order_83, ↓x_X5_order_85, ↓x_X5_order_86, ↓x_X5_order_87, ↓x_X5_order_88, ↓x_X5_order_89, ↓x_X5_order_92, ↓x_X5_order_95, ↓x_X5_order_96, ↓x_X5_order_99, ↓x_X5_order_101, ↓x_X5_order_102, ↓x_X5_order_103, ↓x_X5_order_106, ↓x_X5_order_109, ↓x_X5_order_110, ↓x_X5_order_113, ↓x_X5_order_114, ↓x_X5_order_115, ho, ↓cKI ca, not_true_eq_false, ↓reduceIte]
section RBEST
variable {S : SS}
theorem lr_best (F : WF S) : ∀ (d k : Nat) (h : AH), k + d = mS S → 1 ≤ k → RB0 S h → RBr (wst S (bsN S k)) →
    ∃ h', X mX5_best 11 [aR (some 0), aI (bsN S k : Nat), aJ (wst S (bsN S k)).num, aU, aJ ((wst S (bsN S k)).den : Int), aU, aI k] [] h = some (some (aI (bsN S (mS S) : Nat)), h') ∧ RB0 S h' ∧ Sc h h' := by
  have f6 := F.1.1
  have em : ((mS S : Nat) : Int) = S 0 6 0 0 := by unfold mS; omega
  intro d
  induction d with
  | zero =>
    intro k h hd h1 H B
    have e : k = mS S := by omega
    subst e
    have q10 := H.f 10 rfl
    rw [← em] at q10
    have n1 : ((mS S : Nat) : Int) ≤ ((mS S : Nat) : Int) := Int.le_refl _
    refine ⟨h, ?_, H, Sc.rf⟩
    rw [x_X5_best_11]
    simp only [↓x_X5_best_0, ↓x_X5_best_2, ↓x_X5_best_3, ↓x_X5_best_4, ↓x_X5_best_5, ↓x_X5_best_6, ↓x_X5_best_8, ↓x_X5_best_9, ↓x_X5_best_13, ↓x_X5_best_14, ↓x_X5_best_17, ↓x_X5_best_20, ↓x_X5_best_21, ↓x_X5_best_23, ↓x_X5_best_24, ↓x_X5_best_27, ↓x_X5_best_29, ↓x_X5_best_30, ↓x_X5_best_33, ↓x_X5_best_34, ↓x_X5_best_36, ↓x_X5_best_39, ↓x_X5_best_40, ↓x_X5_best_43, ↓x_X5_best_44, ↓x_X5_best_47, ↓x_X5_best_48, ↓x_X5_best_50, ↓x_X5_best_53, ↓x_X5_best_56, ↓x_X5_best_58, ↓x_X5_best_59, ↓x_X5_best_60, ↓x_X5_best_63, ↓x_X5_best_64, ↓x_X5_best_65, ↓x_X5_best_68, ↓x_X5_best_70, ↓x_X5_best_73, ↓x_X5_best_76, ↓x_X5_best_77, ↓gK_of q10, n1, ↓reduceIte]
  | succ d ih =>
    intro k h hd h1 H B
    have hk : k < mS S := by omega
    obtain ⟨hs, es⟩ := F.st hk
    have q10 := H.f 10 rfl
    rw [← em] at q10
    have q13 := H.f 13 rfl
    have q8 := H.r8 hk
    rw [← es] at q8
    have n3 : ¬ ((mS S : Nat) : Int) ≤ (k : Int) := by omega
    have hk5 : k ≤ 1000 := by omega
    have k0 : (0 : Int) ≤ (k : Int) := Int.natCast_nonneg _
    have ho : isO h 5 0 = true := isO_rd (H.f 4 rfl)
    have hb := bsN_b S k h1
    have n4 : ¬ ((bsN S k : Nat) : Int) = -9 := by omega
    obtain ⟨h1', a1, a2, a3, a4, a5⟩ := c_worthR F hk hs H
    have cc := c_cmpR (h := h1') a5 B
    by_cases c : wst S (bsN S k) < wst S k
    · have eb : bsN S (k + 1) = k := by rw [bsN, if_pos c]
      obtain ⟨h', b1, b2, b3⟩ := ih (k + 1) h1' (by omega) (by omega) a2 (by rw [eb]; exact a5)
      rw [eb] at b1
      have c2 : ¬ wR S k (stS S k) ≤ wst S (bsN S k) := Rat.not_le.mpr c
      refine ⟨h', ?_, b2, a3.tr b3⟩
      rw [← b1, x_X5_best_11]
      simp only [↓x_X5_best_0, ↓x_X5_best_2, ↓x_X5_best_3, ↓x_X5_best_4, ↓x_X5_best_5, ↓x_X5_best_6, ↓x_X5_best_8, ↓x_X5_best_9, ↓x_X5_best_13, ↓x_X5_best_14, ↓x_X5_best_17, ↓x_X5_best_20, ↓x_X5_best_21, ↓x_X5_best_23, ↓x_X5_best_24, ↓x_X5_best_27, ↓x_X5_best_29, ↓x_X5_best_30, ↓x_X5_best_33, ↓x_X5_best_34, ↓x_X5_best_36, ↓x_X5_best_39, ↓x_X5_best_40, ↓x_X5_best_43, ↓x_X5_best_44, ↓x_X5_best_47, ↓x_X5_best_48, ↓x_X5_best_50, ↓x_X5_best_53, ↓x_X5_best_56, ↓x_X5_best_58, ↓x_X5_best_59, ↓x_X5_best_60, ↓x_X5_best_63, ↓x_X5_best_64, ↓x_X5_best_65, ↓x_X5_best_68, ↓x_X5_best_70, ↓x_X5_best_73, ↓x_X5_best_76, ↓x_X5_best_77, ↓gK_of q10, ↓gK_of q13, n3, k0, Int.toNat_natCast, gK_of q8, ho, ↓cKV a1, n4, ↓gK_of a4.1, ↓gK_of a4.2, ↓cKI cc, rc_le, c2, w32_s hk5, ↓reduceIte]
      rfl
    · have eb : bsN S (k + 1) = bsN S k := by rw [bsN, if_neg c]
      obtain ⟨h', b1, b2, b3⟩ := ih (k + 1) h1' (by omega) (by omega) a2 (by rw [eb]; exact B)
      rw [eb] at b1
      have c2 : wR S k (stS S k) ≤ wst S (bsN S k) := Rat.not_lt.mp c
      refine ⟨h', ?_, b2, a3.tr b3⟩
      rw [← b1, x_X5_best_11]
      simp only [↓x_X5_best_0, ↓x_X5_best_2, ↓x_X5_best_3, ↓x_X5_best_4, ↓x_X5_best_5, ↓x_X5_best_6, ↓x_X5_best_8, ↓x_X5_best_9, ↓x_X5_best_13, ↓x_X5_best_14, ↓x_X5_best_17, ↓x_X5_best_20, ↓x_X5_best_21, ↓x_X5_best_23, ↓x_X5_best_24, ↓x_X5_best_27, ↓x_X5_best_29, ↓x_X5_best_30, ↓x_X5_best_33, ↓x_X5_best_34, ↓x_X5_best_36, ↓x_X5_best_39, ↓x_X5_best_40, ↓x_X5_best_43, ↓x_X5_best_44, ↓x_X5_best_47, ↓x_X5_best_48, ↓x_X5_best_50, ↓x_X5_best_53, ↓x_X5_best_56, ↓x_X5_best_58, ↓x_X5_best_59, ↓x_X5_best_60, ↓x_X5_best_63, ↓x_X5_best_64, ↓x_X5_best_65, ↓x_X5_best_68, ↓x_X5_best_70, ↓x_X5_best_73, ↓x_X5_best_76, ↓x_X5_best_77, ↓gK_of q10, ↓gK_of q13, n3, k0, Int.toNat_natCast, gK_of q8, ho, ↓cKV a1, n4, ↓gK_of a4.1, ↓gK_of a4.2, ↓cKI cc, rc_le, c2, w32_s hk5, ↓reduceIte]
theorem c_bestR (F : WF S) {h : AH} (H : RB0 S h) : ∃ h', E mX5_best [aR (some 0)] h = some (some (aI (o_best S).1), h') ∧ RB0 S h' ∧ Sc h h' := by
  have f6 := F.1.1
  have em : ((mS S : Nat) : Int) = S 0 6 0 0 := by unfold mS; omega
  have q10 := H.f 10 rfl
  rw [← em] at q10
  rw [e_X5_best]
  by_cases c : mS S = 0
  · have e : (o_best S).1 = -9 := if_pos c
    have n1 : ((mS S : Nat) : Int) ≤ 0 := by omega
    rw [e]
    refine ⟨h, ?_, H, Sc.rf⟩
    simp only [↓x_X5_best_0, ↓x_X5_best_2, ↓x_X5_best_3, ↓x_X5_best_4, ↓x_X5_best_5, ↓x_X5_best_6, ↓x_X5_best_8, ↓x_X5_best_9, ↓x_X5_best_11, ↓x_X5_best_13, ↓x_X5_best_14, ↓x_X5_best_17, ↓x_X5_best_20, ↓x_X5_best_21, ↓x_X5_best_23, ↓x_X5_best_24, ↓x_X5_best_27, ↓x_X5_best_29, ↓x_X5_best_30, ↓x_X5_best_33, ↓x_X5_best_34, ↓x_X5_best_36, ↓x_X5_best_39, ↓x_X5_best_40, ↓x_X5_best_43, ↓x_X5_best_44, ↓x_X5_best_47, ↓x_X5_best_48, ↓x_X5_best_50, ↓x_X5_best_53, ↓x_X5_best_56, ↓x_X5_best_58, ↓x_X5_best_59, ↓x_X5_best_60, ↓x_X5_best_63, ↓x_X5_best_64, ↓x_X5_best_65, ↓x_X5_best_68, ↓x_X5_best_70, ↓x_X5_best_73, ↓x_X5_best_76, ↓x_X5_best_77, ↓gK_of q10, n1, ↓reduceIte]
  · have e : (o_best S).1 = (bsN S (mS S) : Nat) := if_neg c
    rw [e]
    have hk : 0 < mS S := by omega
    obtain ⟨hs, es⟩ := F.st hk
    have q13 := H.f 13 rfl
    have q8 := H.r8 hk
    rw [← es] at q8
    have n3 : ¬ ((mS S : Nat) : Int) ≤ 0 := by omega
    have e5 : w32 ((0 : Int) + 1) = ((0 + 1 : Nat) : Int) := by decide
    have k0 : (0 : Int) ≤ 0 := Int.le_refl _
    have t0 : (0 : Int).toNat = 0 := rfl
    have ho : isO h 5 0 = true := isO_rd (H.f 4 rfl)
    obtain ⟨h1', a1, a2, a3, a4, a5⟩ := c_worthR F hk hs H
    have a1' : E mX5_worthOf [aR (some 0), aI 0, aI (stS S 0 : Nat)] h = some (none, h1') := a1
    have eb : bsN S (0 + 1) = 0 := by have := bsN_b S (0 + 1) (by omega); omega
    obtain ⟨h', b1, b2, b3⟩ := lr_best F (mS S - 1) (0 + 1) h1' (by omega) (by omega) a2 (by rw [eb]; exact a5)
    rw [eb] at b1
    refine ⟨h', ?_, b2, a3.tr b3⟩
    rw [← b1]
    simp only [↓x_X5_best_0, ↓x_X5_best_2, ↓x_X5_best_3, ↓x_X5_best_4, ↓x_X5_best_5, ↓x_X5_best_6, ↓x_X5_best_8, ↓x_X5_best_9, ↓x_X5_best_13, ↓x_X5_best_14, ↓x_X5_best_17, ↓x_X5_best_20, ↓x_X5_best_21, ↓x_X5_best_23, ↓x_X5_best_24, ↓x_X5_best_27, ↓x_X5_best_29, ↓x_X5_best_30, ↓x_X5_best_33, ↓x_X5_best_34, ↓x_X5_best_36, ↓x_X5_best_39, ↓x_X5_best_40, ↓x_X5_best_43, ↓x_X5_best_44, ↓x_X5_best_47, ↓x_X5_best_48, ↓x_X5_best_50, ↓x_X5_best_53, ↓x_X5_best_56, ↓x_X5_best_58, ↓x_X5_best_59, ↓x_X5_best_60, ↓x_X5_best_63, ↓x_X5_best_64, ↓x_X5_best_65, ↓x_X5_best_68, ↓x_X5_best_70, ↓x_X5_best_73, ↓x_X5_best_76, ↓x_X5_best_77]
    rw [x_X5_best_11]
    simp only [↓x_X5_best_0, ↓x_X5_best_2, ↓x_X5_best_3, ↓x_X5_best_4, ↓x_X5_best_5, ↓x_X5_best_6, ↓x_X5_best_8, ↓x_X5_best_9, ↓x_X5_best_13, ↓x_X5_best_14, ↓x_X5_best_17, ↓x_X5_best_20, ↓x_X5_best_21, ↓x_X5_best_23, ↓x_X5_best_24, ↓x_X5_best_27, ↓x_X5_best_29, ↓x_X5_best_30, ↓x_X5_best_33, ↓x_X5_best_34, ↓x_X5_best_36, ↓x_X5_best_39, ↓x_X5_best_40, ↓x_X5_best_43, ↓x_X5_best_44, ↓x_X5_best_47, ↓x_X5_best_48, ↓x_X5_best_50, ↓x_X5_best_53, ↓x_X5_best_56, ↓x_X5_best_58, ↓x_X5_best_59, ↓x_X5_best_60, ↓x_X5_best_63, ↓x_X5_best_64, ↓x_X5_best_65, ↓x_X5_best_68, ↓x_X5_best_70, ↓x_X5_best_73, ↓x_X5_best_76, ↓x_X5_best_77, ↓gK_of q10, ↓gK_of q13, n3, k0, t0, gK_of q8, ho, ↓cKV a1', ↓gK_of a4.1, ↓gK_of a4.2, e5, ↓reduceIte]
    rfl
end RBEST
theorem CR_best {S : SS} (F : WF S) : CR mX5_best [] aI S (o_best S) := by
  intro h H
  obtain ⟨h', a1, a2, a3⟩ := c_bestR F H.1
  exact ⟨h', a1, H.sc a2 a3, a3.2⟩
