theorem bst_row {C : Nat → Nat → Int} {k R r : Nat} {bf : Int} (hk : k < r) : bst C k bf R r (R + 1) = bst C k bf R (r + 1) (k + 1) := by
  funext i j
  unfold bst
  by_cases q : (k < i ∧ i < r ∧ k < j ∧ j ≤ R) ∨ (i = r ∧ k < j ∧ j < R + 1)
  · rw [if_pos q, if_pos (by omega)]
  · rw [if_neg q, if_neg (by omega)]
theorem bst_0 {C : Nat → Nat → Int} {k R : Nat} {bf : Int} : bst C k bf R (k + 1) (k + 1) = C := by
  funext i j
  unfold bst
  rw [if_neg (by omega)]
theorem l_el2 {C : Nat → Nat → Int} {k R : Nat} {bf : Int} (hR : R ≤ 5) (ok : OKs C k bf R) : ∀ (d r : Nat) (h : AH) (v8 v9 v10 v11 v12 : AV), r + d = R → k < r → RK h → CellsAt h (bst C k bf R r (k + 1)) →
    ∃ h' v8' v9' v10' v11' v12', X mX2_eliminate 29 [aR (some 3), aI R, aJ bf, aU, aI k, aJ (C k k), aU, aI r, v8, v9, v10, v11, v12] [] h = X mX2_eliminate 116 [aR (some 3), aI R, aJ bf, aU, aI k, aJ (C k k), aU, aI R, v8', v9', v10', v11', v12'] [] h' ∧ SameR Rc h h' ∧ CellsAt h' (bst C k bf R R (k + 1)) := by
  intro d
  induction d with
  | zero =>
    intro r h v8 v9 v10 v11 v12 hd hkr K H
    have e : r = R := by omega
    subst e
    refine ⟨h, v8, v9, v10, v11, v12, ?_, SameR.rf, H⟩
    rw [x_X2_eliminate_29]
    have n1 : (r : Int) ≤ (r : Int) := Int.le_refl _
    simp only [↓x_X2_eliminate_0, ↓x_X2_eliminate_1, ↓x_X2_eliminate_2, ↓x_X2_eliminate_3, ↓x_X2_eliminate_7, ↓x_X2_eliminate_8, ↓x_X2_eliminate_9, ↓x_X2_eliminate_10, ↓x_X2_eliminate_13, ↓x_X2_eliminate_14, ↓x_X2_eliminate_16, ↓x_X2_eliminate_18, ↓x_X2_eliminate_21, ↓x_X2_eliminate_23, ↓x_X2_eliminate_25, ↓x_X2_eliminate_26, ↓x_X2_eliminate_27, ↓x_X2_eliminate_31, ↓x_X2_eliminate_32, ↓x_X2_eliminate_35, ↓x_X2_eliminate_36, ↓x_X2_eliminate_38, ↓x_X2_eliminate_40, ↓x_X2_eliminate_43, ↓x_X2_eliminate_45, ↓x_X2_eliminate_47, ↓x_X2_eliminate_48, ↓x_X2_eliminate_49, ↓x_X2_eliminate_53, ↓x_X2_eliminate_54, ↓x_X2_eliminate_57, ↓x_X2_eliminate_59, ↓x_X2_eliminate_60, ↓x_X2_eliminate_62, ↓x_X2_eliminate_64, ↓x_X2_eliminate_67, ↓x_X2_eliminate_68, ↓x_X2_eliminate_70, ↓x_X2_eliminate_71, ↓x_X2_eliminate_73, ↓x_X2_eliminate_75, ↓x_X2_eliminate_78, ↓x_X2_eliminate_79, ↓x_X2_eliminate_80, ↓x_X2_eliminate_82, ↓x_X2_eliminate_83, ↓x_X2_eliminate_85, ↓x_X2_eliminate_87, ↓x_X2_eliminate_88, ↓x_X2_eliminate_89, ↓x_X2_eliminate_90, ↓x_X2_eliminate_93, ↓x_X2_eliminate_94, ↓x_X2_eliminate_97, ↓x_X2_eliminate_99, ↓x_X2_eliminate_100, ↓x_X2_eliminate_101, ↓x_X2_eliminate_104, ↓x_X2_eliminate_107, ↓x_X2_eliminate_113, ↓x_X2_eliminate_118, ↓x_X2_eliminate_119, ↓x_X2_eliminate_122, ↓x_X2_eliminate_125, n1, ↓reduceIte]
  | succ d ih =>
    intro r h v8 v9 v10 v11 v12 hd hkr K H
    have n1 : ¬ ((R : Int) ≤ (r : Int)) := by omega
    have e5 : w32 ((r : Int) + 1) = ((r + 1 : Nat) : Int) := by rw [w32_in] <;> omega
    have e6 : w32 ((k : Int) + 1) = ((k + 1 : Nat) : Int) := by rw [w32_in] <;> omega
    have ho : isO h 2 3 = true := isO_rd K.1
    have c1 := c_cellAt K H (r := r) (c := k) (by omega) (by omega)
    have b1 : bst C k bf R r (k + 1) r k = C r k := if_neg (by omega)
    rw [b1] at c1
    obtain ⟨h1, w11, w12, f1, f2, f3⟩ := l_el3 hR hkr (by omega) ok (R - k) (k + 1) h v11 v12 (by omega) (by omega) K H
    rw [bst_row hkr] at f3
    obtain ⟨h', a8, a9, a10, a11, a12, g1, g2, g3⟩ := ih (r + 1) h1 (aJ (C r k)) aU (aI ((R + 1 : Nat) : Int)) w11 w12 (by omega) (by omega) (K.same Rc_no2 f2) f3
    refine ⟨h', a8, a9, a10, a11, a12, ?_, f2.tr g2, g3⟩
    rw [← g1, x_X2_eliminate_29]
    simp only [↓x_X2_eliminate_0, ↓x_X2_eliminate_1, ↓x_X2_eliminate_2, ↓x_X2_eliminate_3, ↓x_X2_eliminate_7, ↓x_X2_eliminate_8, ↓x_X2_eliminate_9, ↓x_X2_eliminate_10, ↓x_X2_eliminate_13, ↓x_X2_eliminate_14, ↓x_X2_eliminate_16, ↓x_X2_eliminate_18, ↓x_X2_eliminate_21, ↓x_X2_eliminate_23, ↓x_X2_eliminate_25, ↓x_X2_eliminate_26, ↓x_X2_eliminate_27, ↓x_X2_eliminate_31, ↓x_X2_eliminate_32, ↓x_X2_eliminate_35, ↓x_X2_eliminate_36, ↓x_X2_eliminate_38, ↓x_X2_eliminate_40, ↓x_X2_eliminate_43, ↓x_X2_eliminate_45, ↓x_X2_eliminate_47, ↓x_X2_eliminate_48, ↓x_X2_eliminate_49, ↓x_X2_eliminate_53, ↓x_X2_eliminate_54, ↓x_X2_eliminate_57, ↓x_X2_eliminate_59, ↓x_X2_eliminate_60, ↓x_X2_eliminate_62, ↓x_X2_eliminate_64, ↓x_X2_eliminate_67, ↓x_X2_eliminate_68, ↓x_X2_eliminate_70, ↓x_X2_eliminate_71, ↓x_X2_eliminate_73, ↓x_X2_eliminate_75, ↓x_X2_eliminate_78, ↓x_X2_eliminate_79, ↓x_X2_eliminate_80, ↓x_X2_eliminate_82, ↓x_X2_eliminate_83, ↓x_X2_eliminate_85, ↓x_X2_eliminate_87, ↓x_X2_eliminate_88, ↓x_X2_eliminate_89, ↓x_X2_eliminate_90, ↓x_X2_eliminate_93, ↓x_X2_eliminate_94, ↓x_X2_eliminate_97, ↓x_X2_eliminate_99, ↓x_X2_eliminate_100, ↓x_X2_eliminate_101, ↓x_X2_eliminate_104, ↓x_X2_eliminate_107, ↓x_X2_eliminate_113, ↓x_X2_eliminate_118, ↓x_X2_eliminate_119, ↓x_X2_eliminate_122, ↓x_X2_eliminate_125, n1, ↓reduceIte, ho, ↓cKJ c1, e6]
    rw [f1]
    simp only [↓x_X2_eliminate_0, ↓x_X2_eliminate_1, ↓x_X2_eliminate_2, ↓x_X2_eliminate_3, ↓x_X2_eliminate_7, ↓x_X2_eliminate_8, ↓x_X2_eliminate_9, ↓x_X2_eliminate_10, ↓x_X2_eliminate_13, ↓x_X2_eliminate_14, ↓x_X2_eliminate_16, ↓x_X2_eliminate_18, ↓x_X2_eliminate_21, ↓x_X2_eliminate_23, ↓x_X2_eliminate_25, ↓x_X2_eliminate_26, ↓x_X2_eliminate_27, ↓x_X2_eliminate_31, ↓x_X2_eliminate_32, ↓x_X2_eliminate_35, ↓x_X2_eliminate_36, ↓x_X2_eliminate_38, ↓x_X2_eliminate_40, ↓x_X2_eliminate_43, ↓x_X2_eliminate_45, ↓x_X2_eliminate_47, ↓x_X2_eliminate_48, ↓x_X2_eliminate_49, ↓x_X2_eliminate_53, ↓x_X2_eliminate_54, ↓x_X2_eliminate_57, ↓x_X2_eliminate_59, ↓x_X2_eliminate_60, ↓x_X2_eliminate_62, ↓x_X2_eliminate_64, ↓x_X2_eliminate_67, ↓x_X2_eliminate_68, ↓x_X2_eliminate_70, ↓x_X2_eliminate_71, ↓x_X2_eliminate_73, ↓x_X2_eliminate_75, ↓x_X2_eliminate_78, ↓x_X2_eliminate_79, ↓x_X2_eliminate_80, ↓x_X2_eliminate_82, ↓x_X2_eliminate_83, ↓x_X2_eliminate_85, ↓x_X2_eliminate_87, ↓x_X2_eliminate_88, ↓x_X2_eliminate_89, ↓x_X2_eliminate_90, ↓x_X2_eliminate_93, ↓x_X2_eliminate_94, ↓x_X2_eliminate_97, ↓x_X2_eliminate_99, ↓x_X2_eliminate_100, ↓x_X2_eliminate_101, ↓x_X2_eliminate_104, ↓x_X2_eliminate_107, ↓x_X2_eliminate_110, ↓x_X2_eliminate_113, ↓x_X2_eliminate_118, ↓x_X2_eliminate_119, ↓x_X2_eliminate_122, ↓x_X2_eliminate_125, e5]
theorem l_el1 {R : Nat} {Cs : Nat → Nat → Nat → Int} {bf : Nat → Int} (hR : 1 ≤ R ∧ R ≤ 5) (hs : ∀ k, k < R - 1 → Cs (k + 1) = bst (Cs k) k (bf k) R R (k + 1) ∧ bf (k + 1) = Cs k k k) (ok : ∀ k, k < R - 1 → OKs (Cs k) k (bf k) R) : ∀ (d k : Nat) (h : AH) (v5 v6 v7 v8 v9 v10 v11 v12 : AV), k + d = R - 1 → RK h → CellsAt h (Cs k) →
    ∃ h', X mX2_eliminate 5 [aR (some 3), aI R, aJ (bf k), aU, aI k, v5, v6, v7, v8, v9, v10, v11, v12] [] h = some (none, h') ∧ SameR Rc h h' ∧ CellsAt h' (Cs (R - 1)) := by
  intro d
  induction d with
  | zero =>
    intro k h v5 v6 v7 v8 v9 v10 v11 v12 hd K H
    have e : k = R - 1 := by omega
    have e1 : w32 ((R : Int) - 1) = ((R - 1 : Nat) : Int) := by rw [w32_in] <;> omega
    refine ⟨h, ?_, SameR.rf, by rw [← e]; exact H⟩
    rw [x_X2_eliminate_5, e]
    have n1 : ((R - 1 : Nat) : Int) ≤ ((R - 1 : Nat) : Int) := Int.le_refl _
    simp only [↓x_X2_eliminate_0, ↓x_X2_eliminate_1, ↓x_X2_eliminate_2, ↓x_X2_eliminate_3, ↓x_X2_eliminate_7, ↓x_X2_eliminate_8, ↓x_X2_eliminate_9, ↓x_X2_eliminate_10, ↓x_X2_eliminate_13, ↓x_X2_eliminate_14, ↓x_X2_eliminate_16, ↓x_X2_eliminate_18, ↓x_X2_eliminate_21, ↓x_X2_eliminate_23, ↓x_X2_eliminate_25, ↓x_X2_eliminate_26, ↓x_X2_eliminate_27, ↓x_X2_eliminate_31, ↓x_X2_eliminate_32, ↓x_X2_eliminate_35, ↓x_X2_eliminate_36, ↓x_X2_eliminate_38, ↓x_X2_eliminate_40, ↓x_X2_eliminate_43, ↓x_X2_eliminate_45, ↓x_X2_eliminate_47, ↓x_X2_eliminate_48, ↓x_X2_eliminate_49, ↓x_X2_eliminate_53, ↓x_X2_eliminate_54, ↓x_X2_eliminate_57, ↓x_X2_eliminate_59, ↓x_X2_eliminate_60, ↓x_X2_eliminate_62, ↓x_X2_eliminate_64, ↓x_X2_eliminate_67, ↓x_X2_eliminate_68, ↓x_X2_eliminate_70, ↓x_X2_eliminate_71, ↓x_X2_eliminate_73, ↓x_X2_eliminate_75, ↓x_X2_eliminate_78, ↓x_X2_eliminate_79, ↓x_X2_eliminate_80, ↓x_X2_eliminate_82, ↓x_X2_eliminate_83, ↓x_X2_eliminate_85, ↓x_X2_eliminate_87, ↓x_X2_eliminate_88, ↓x_X2_eliminate_89, ↓x_X2_eliminate_90, ↓x_X2_eliminate_93, ↓x_X2_eliminate_94, ↓x_X2_eliminate_97, ↓x_X2_eliminate_99, ↓x_X2_eliminate_100, ↓x_X2_eliminate_101, ↓x_X2_eliminate_104, ↓x_X2_eliminate_107, ↓x_X2_eliminate_113, ↓x_X2_eliminate_118, ↓x_X2_eliminate_119, ↓x_X2_eliminate_122, ↓x_X2_eliminate_125, e1, n1, ↓reduceIte]
  | succ d ih =>
    intro k h v5 v6 v7 v8 v9 v10 v11 v12 hd K H
    have e1 : w32 ((R : Int) - 1) = ((R - 1 : Nat) : Int) := by rw [w32_in] <;> omega
    have n1 : ¬ (((R - 1 : Nat) : Int) ≤ (k : Int)) := by omega
    have e5 : w32 ((k : Int) + 1) = ((k + 1 : Nat) : Int) := by rw [w32_in] <;> omega
    have ho : isO h 2 3 = true := isO_rd K.1
    have c1 := c_cellAt K H (r := k) (c := k) (by omega) (by omega)
    have H0 : CellsAt h (bst (Cs k) k (bf k) R (k + 1) (k + 1)) := by rw [bst_0]; exact H
    obtain ⟨h1, a8, a9, a10, a11, a12, f1, f2, f3⟩ := l_el2 hR.2 (ok k (by omega)) (R - (k + 1)) (k + 1) h v8 v9 v10 v11 v12 (by omega) (by omega) K H0
    obtain ⟨hs1, hs2⟩ := hs k (by omega)
    rw [← hs1] at f3
    obtain ⟨h', g1, g2, g3⟩ := ih (k + 1) h1 (aJ (Cs k k k)) aU (aI R) a8 a9 a10 a11 a12 (by omega) (K.same Rc_no2 f2) f3
    refine ⟨h', ?_, f2.tr g2, g3⟩
    rw [← g1, x_X2_eliminate_5, hs2]
    simp only [↓x_X2_eliminate_0, ↓x_X2_eliminate_1, ↓x_X2_eliminate_2, ↓x_X2_eliminate_3, ↓x_X2_eliminate_7, ↓x_X2_eliminate_8, ↓x_X2_eliminate_9, ↓x_X2_eliminate_10, ↓x_X2_eliminate_13, ↓x_X2_eliminate_14, ↓x_X2_eliminate_16, ↓x_X2_eliminate_18, ↓x_X2_eliminate_21, ↓x_X2_eliminate_23, ↓x_X2_eliminate_25, ↓x_X2_eliminate_26, ↓x_X2_eliminate_27, ↓x_X2_eliminate_31, ↓x_X2_eliminate_32, ↓x_X2_eliminate_35, ↓x_X2_eliminate_36, ↓x_X2_eliminate_38, ↓x_X2_eliminate_40, ↓x_X2_eliminate_43, ↓x_X2_eliminate_45, ↓x_X2_eliminate_47, ↓x_X2_eliminate_48, ↓x_X2_eliminate_49, ↓x_X2_eliminate_53, ↓x_X2_eliminate_54, ↓x_X2_eliminate_57, ↓x_X2_eliminate_59, ↓x_X2_eliminate_60, ↓x_X2_eliminate_62, ↓x_X2_eliminate_64, ↓x_X2_eliminate_67, ↓x_X2_eliminate_68, ↓x_X2_eliminate_70, ↓x_X2_eliminate_71, ↓x_X2_eliminate_73, ↓x_X2_eliminate_75, ↓x_X2_eliminate_78, ↓x_X2_eliminate_79, ↓x_X2_eliminate_80, ↓x_X2_eliminate_82, ↓x_X2_eliminate_83, ↓x_X2_eliminate_85, ↓x_X2_eliminate_87, ↓x_X2_eliminate_88, ↓x_X2_eliminate_89, ↓x_X2_eliminate_90, ↓x_X2_eliminate_93, ↓x_X2_eliminate_94, ↓x_X2_eliminate_97, ↓x_X2_eliminate_99, ↓x_X2_eliminate_100, ↓x_X2_eliminate_101, ↓x_X2_eliminate_104, ↓x_X2_eliminate_107, ↓x_X2_eliminate_113, ↓x_X2_eliminate_118, ↓x_X2_eliminate_119, ↓x_X2_eliminate_122, ↓x_X2_eliminate_125, e1, n1, ↓reduceIte, ho, ↓cKJ c1, e5]
    rw [f1]
    simp only [↓x_X2_eliminate_0, ↓x_X2_eliminate_1, ↓x_X2_eliminate_2, ↓x_X2_eliminate_3, ↓x_X2_eliminate_7, ↓x_X2_eliminate_8, ↓x_X2_eliminate_9, ↓x_X2_eliminate_10, ↓x_X2_eliminate_13, ↓x_X2_eliminate_14, ↓x_X2_eliminate_16, ↓x_X2_eliminate_18, ↓x_X2_eliminate_21, ↓x_X2_eliminate_23, ↓x_X2_eliminate_25, ↓x_X2_eliminate_26, ↓x_X2_eliminate_27, ↓x_X2_eliminate_31, ↓x_X2_eliminate_32, ↓x_X2_eliminate_35, ↓x_X2_eliminate_36, ↓x_X2_eliminate_38, ↓x_X2_eliminate_40, ↓x_X2_eliminate_43, ↓x_X2_eliminate_45, ↓x_X2_eliminate_47, ↓x_X2_eliminate_48, ↓x_X2_eliminate_49, ↓x_X2_eliminate_53, ↓x_X2_eliminate_54, ↓x_X2_eliminate_57, ↓x_X2_eliminate_59, ↓x_X2_eliminate_60, ↓x_X2_eliminate_62, ↓x_X2_eliminate_64, ↓x_X2_eliminate_67, ↓x_X2_eliminate_68, ↓x_X2_eliminate_70, ↓x_X2_eliminate_71, ↓x_X2_eliminate_73, ↓x_X2_eliminate_75, ↓x_X2_eliminate_78, ↓x_X2_eliminate_79, ↓x_X2_eliminate_80, ↓x_X2_eliminate_82, ↓x_X2_eliminate_83, ↓x_X2_eliminate_85, ↓x_X2_eliminate_87, ↓x_X2_eliminate_88, ↓x_X2_eliminate_89, ↓x_X2_eliminate_90, ↓x_X2_eliminate_93, ↓x_X2_eliminate_94, ↓x_X2_eliminate_97, ↓x_X2_eliminate_99, ↓x_X2_eliminate_100, ↓x_X2_eliminate_101, ↓x_X2_eliminate_104, ↓x_X2_eliminate_107, ↓x_X2_eliminate_110, ↓x_X2_eliminate_113, ↓x_X2_eliminate_116, ↓x_X2_eliminate_118, ↓x_X2_eliminate_119, ↓x_X2_eliminate_122, ↓x_X2_eliminate_125, e5]
theorem c_elim {R : Nat} {Cs : Nat → Nat → Nat → Int} {bf : Nat → Int} {h : AH} (hR : 1 ≤ R ∧ R ≤ 5) (h0 : bf 0 = 1) (hs : ∀ k, k < R - 1 → Cs (k + 1) = bst (Cs k) k (bf k) R R (k + 1) ∧ bf (k + 1) = Cs k k k) (ok : ∀ k, k < R - 1 → OKs (Cs k) k (bf k) R) (K : RK h) (H : CellsAt h (Cs 0)) :
    ∃ h', E mX2_eliminate [aR (some 3), aI R] h = some (none, h') ∧ SameR Rc h h' ∧ CellsAt h' (Cs (R - 1)) := by
  obtain ⟨h', f1, f2, f3⟩ := l_el1 hR hs ok (R - 1) 0 h aU aU aU aU aU aU aU aU (by omega) K H
  refine ⟨h', ?_, f2, f3⟩
  rw [h0] at f1
  rw [← f1, e_X2_eliminate]
  simp only [↓x_X2_eliminate_0, ↓x_X2_eliminate_1, ↓x_X2_eliminate_2, ↓x_X2_eliminate_3, ↓x_X2_eliminate_7, ↓x_X2_eliminate_8, ↓x_X2_eliminate_9, ↓x_X2_eliminate_10, ↓x_X2_eliminate_13, ↓x_X2_eliminate_14, ↓x_X2_eliminate_16, ↓x_X2_eliminate_18, ↓x_X2_eliminate_21, ↓x_X2_eliminate_23, ↓x_X2_eliminate_25, ↓x_X2_eliminate_26, ↓x_X2_eliminate_27, ↓x_X2_eliminate_31, ↓x_X2_eliminate_32, ↓x_X2_eliminate_35, ↓x_X2_eliminate_36, ↓x_X2_eliminate_38, ↓x_X2_eliminate_40, ↓x_X2_eliminate_43, ↓x_X2_eliminate_45, ↓x_X2_eliminate_47, ↓x_X2_eliminate_48, ↓x_X2_eliminate_49, ↓x_X2_eliminate_53, ↓x_X2_eliminate_54, ↓x_X2_eliminate_57, ↓x_X2_eliminate_59, ↓x_X2_eliminate_60, ↓x_X2_eliminate_62, ↓x_X2_eliminate_64, ↓x_X2_eliminate_67, ↓x_X2_eliminate_68, ↓x_X2_eliminate_70, ↓x_X2_eliminate_71, ↓x_X2_eliminate_73, ↓x_X2_eliminate_75, ↓x_X2_eliminate_78, ↓x_X2_eliminate_79, ↓x_X2_eliminate_80, ↓x_X2_eliminate_82, ↓x_X2_eliminate_83, ↓x_X2_eliminate_85, ↓x_X2_eliminate_87, ↓x_X2_eliminate_88, ↓x_X2_eliminate_89, ↓x_X2_eliminate_90, ↓x_X2_eliminate_93, ↓x_X2_eliminate_94, ↓x_X2_eliminate_97, ↓x_X2_eliminate_99, ↓x_X2_eliminate_100, ↓x_X2_eliminate_101, ↓x_X2_eliminate_104, ↓x_X2_eliminate_107, ↓x_X2_eliminate_113, ↓x_X2_eliminate_118, ↓x_X2_eliminate_119, ↓x_X2_eliminate_122, ↓x_X2_eliminate_125]
  rfl
-- the states of a way, listed
def nP (P : Nat → Bool) : Nat → Nat
  | 0 => 0
  | s + 1 => nP P s + (if P s = true then 1 else 0)
theorem nP_le (P : Nat → Bool) : ∀ s, nP P s ≤ s
  | 0 => Nat.le_refl 0
  | s + 1 => by
    have := nP_le P s
    rw [nP]
    split <;> omega
theorem nP_mono (P : Nat → Bool) : ∀ (d s : Nat), nP P s ≤ nP P (s + d)
  | 0, s => Nat.le_refl _
  | d + 1, s => by
    have := nP_mono P d s
    rw [← Nat.add_assoc, nP]
    omega
theorem nP_lt {P : Nat → Bool} {t n : Nat} (ht : t < n) (hP : P t = true) : nP P t < nP P n := by
  have h1 := nP_mono P (n - (t + 1)) (t + 1)
  rw [show t + 1 + (n - (t + 1)) = n by omega, nP, if_pos hP] at h1
  omega
theorem nP_miss {P : Nat → Bool} {s : Nat} (hP : P s = false) : ∀ n, s < n → nP P n + 1 ≤ n
  | 0, h => by omega
  | n + 1, h => by
    rw [nP]
    by_cases e : s = n
    · subst e
      have := nP_le P s
      rw [if_neg (by rw [hP]; decide)]
      omega
    · have := nP_miss hP n (by omega)
      split <;> omega
theorem nP_same {P : Nat → Bool} {s n : Nat} (hs : s ≤ n) (h : nP P s = nP P n) : ∀ t, s ≤ t → t < n → P t = false := by
  intro t h1 h2
  cases hP : P t with
  | false => rfl
  | true =>
    have h3 := nP_lt h2 hP
    have h4 := nP_mono P (t - s) s
    rw [show s + (t - s) = t by omega] at h4
    omega
theorem bit_at : ∀ set, set < 32 → ∀ s, s < 5 → fAnd (fShr ((set : Nat) : Int) ((s : Nat) : Int)) 1 = if Nat.testBit set s = true then 1 else 0 := by decide +kernel
theorem bit_or : ∀ set, set < 32 → ∀ s, s < 5 → fOr ((set : Nat) : Int) (fShl 1 ((s : Nat) : Int)) = ((set ||| 1 <<< s : Nat) : Int) := by decide +kernel
theorem wo_bit {set st u : Nat} : wo (Nat.testBit set) st u = true ↔ Nat.testBit set u = true ∧ u ≠ st := by
  unfold wo
  simp
theorem l_list {a n start set : Nat} (hn : n ≤ 5) (hset : set < 32) (hst : start < n) : ∀ (d s : Nat) (h : AH) (u : Nat → Int), s + d = n → RK h → rd h 1 a 1 = some (aI n) → StAt h u → (∀ t, t < s → wo (Nat.testBit set) start t = true → u (nP (wo (Nat.testBit set) start) t) = t) →
    ∃ h' u', X mX2_listStates 6 [aR (some 3), aR (some a), aI start, aI set, aI (nP (wo (Nat.testBit set) start) s), aI s] [] h = some (some (aI ((nP (wo (Nat.testBit set) start) n + 1 : Nat) : Int)), h') ∧ SameR Rs h h' ∧ StAt h' u' ∧ (∀ t, t < n → wo (Nat.testBit set) start t = true → u' (nP (wo (Nat.testBit set) start) t) = t) ∧ u' (nP (wo (Nat.testBit set) start) n) = start := by
  have hmiss : nP (wo (Nat.testBit set) start) n + 1 ≤ n := nP_miss (s := start) (by
    cases hq : wo (Nat.testBit set) start start with
    | false => rfl
    | true => exact absurd rfl (wo_bit.mp hq).2) n hst
  -- the end
  have fin : ∀ (s : Nat) (h : AH) (u : Nat → Int), s ≤ n → nP (wo (Nat.testBit set) start) s = nP (wo (Nat.testBit set) start) n → RK h → StAt h u → (∀ t, t < s → wo (Nat.testBit set) start t = true → u (nP (wo (Nat.testBit set) start) t) = t) →
      ∃ h' u', X mX2_listStates 60 [aR (some 3), aR (some a), aI start, aI set, aI (nP (wo (Nat.testBit set) start) s), aI s] [] h = some (some (aI ((nP (wo (Nat.testBit set) start) n + 1 : Nat) : Int)), h') ∧ SameR Rs h h' ∧ StAt h' u' ∧ (∀ t, t < n → wo (Nat.testBit set) start t = true → u' (nP (wo (Nat.testBit set) start) t) = t) ∧ u' (nP (wo (Nat.testBit set) start) n) = start := by
    intro s h u hs he K H hu
    have hall := nP_same hs he
    rw [he]
    have e1 : w32 (((nP (wo (Nat.testBit set) start) n : Nat) : Int) + 1) = ((nP (wo (Nat.testBit set) start) n + 1 : Nat) : Int) := by rw [w32_in] <;> omega
    have n0 : 0 ≤ ((nP (wo (Nat.testBit set) start) n : Nat) : Int) := by omega
    have q : rd h 10 5 (((nP (wo (Nat.testBit set) start) n : Nat) : Int)).toNat = some (aI (u (nP (wo (Nat.testBit set) start) n))) := H _ (by omega)
    refine ⟨_, up1 u (nP (wo (Nat.testBit set) start) n) start, ?_, SameR.wr ⟨rfl, rfl⟩, H.set (by omega) _, ?_, ?_⟩
    · simp only [↓x_X2_listStates_0, ↓x_X2_listStates_1, ↓x_X2_listStates_3, ↓x_X2_listStates_4, ↓x_X2_listStates_8, ↓x_X2_listStates_9, ↓x_X2_listStates_12, ↓x_X2_listStates_15, ↓x_X2_listStates_17, ↓x_X2_listStates_18, ↓x_X2_listStates_21, ↓x_X2_listStates_22, ↓x_X2_listStates_23, ↓x_X2_listStates_24, ↓x_X2_listStates_27, ↓x_X2_listStates_29, ↓x_X2_listStates_30, ↓x_X2_listStates_33, ↓x_X2_listStates_34, ↓x_X2_listStates_36, ↓x_X2_listStates_37, ↓x_X2_listStates_38, ↓x_X2_listStates_39, ↓x_X2_listStates_42, ↓x_X2_listStates_43, ↓x_X2_listStates_46, ↓x_X2_listStates_48, ↓x_X2_listStates_50, ↓x_X2_listStates_51, ↓x_X2_listStates_54, ↓x_X2_listStates_57, ↓x_X2_listStates_60, ↓x_X2_listStates_61, ↓x_X2_listStates_64, ↓x_X2_listStates_66, ↓x_X2_listStates_67, ↓x_X2_listStates_68, ↓x_X2_listStates_70, ↓x_X2_listStates_71, ↓x_X2_listStates_72, ↓gK_of K.2.1, n0, ↓reduceIte, ↓pK_of q, e1]
      rfl
    · intro t ht hP
      have hlt := nP_lt ht hP
      unfold up1
      rw [if_neg (by omega)]
      rcases Nat.lt_or_ge t s with z | z
      · exact hu t z hP
      · rw [hall t z ht] at hP; cases hP
    · unfold up1; rw [if_pos rfl]
  intro d
  induction d with
  | zero =>
    intro s h u hd K g1 H hu
    have e : s = n := by omega
    subst e
    obtain ⟨h', u', r⟩ := fin s h u (Nat.le_refl s) rfl K H hu
    refine ⟨h', u', ?_, r.2⟩
    rw [← r.1, x_X2_listStates_6]
    have n1 : (s : Int) ≤ (s : Int) := Int.le_refl _
    simp only [↓x_X2_listStates_0, ↓x_X2_listStates_1, ↓x_X2_listStates_3, ↓x_X2_listStates_4, ↓x_X2_listStates_8, ↓x_X2_listStates_9, ↓x_X2_listStates_12, ↓x_X2_listStates_15, ↓x_X2_listStates_17, ↓x_X2_listStates_18, ↓x_X2_listStates_21, ↓x_X2_listStates_22, ↓x_X2_listStates_23, ↓x_X2_listStates_24, ↓x_X2_listStates_27, ↓x_X2_listStates_29, ↓x_X2_listStates_30, ↓x_X2_listStates_33, ↓x_X2_listStates_34, ↓x_X2_listStates_36, ↓x_X2_listStates_37, ↓x_X2_listStates_38, ↓x_X2_listStates_39, ↓x_X2_listStates_42, ↓x_X2_listStates_43, ↓x_X2_listStates_46, ↓x_X2_listStates_48, ↓x_X2_listStates_50, ↓x_X2_listStates_51, ↓x_X2_listStates_54, ↓x_X2_listStates_57, ↓x_X2_listStates_61, ↓x_X2_listStates_64, ↓x_X2_listStates_66, ↓x_X2_listStates_67, ↓x_X2_listStates_68, ↓x_X2_listStates_70, ↓x_X2_listStates_71, ↓x_X2_listStates_72, ↓gK_of g1, n1, ↓reduceIte]
  | succ d ih =>
    intro s h u hd K g1 H hu
    have n1 : ¬ ((n : Int) ≤ (s : Int)) := by omega
    have e1 : w32 (((5 : Nat) : Int) - 1) = 4 := by decide
    have e5 : w32 ((s : Int) + 1) = ((s + 1 : Nat) : Int) := by rw [w32_in] <;> omega
    have hmo := nP_mono (wo (Nat.testBit set) start) d (s + 1)
    rw [show s + 1 + d = n by omega] at hmo
    by_cases h4 : 4 ≤ nP (wo (Nat.testBit set) start) s
    · have n2 : (4 : Int) ≤ ((nP (wo (Nat.testBit set) start) s : Nat) : Int) := by omega
      have hmo2 := nP_mono (wo (Nat.testBit set) start) 1 s
      obtain ⟨h', u', r⟩ := fin s h u (by omega) (by omega) K H hu
      refine ⟨h', u', ?_, r.2⟩
      rw [← r.1, x_X2_listStates_6]
      simp only [↓x_X2_listStates_0, ↓x_X2_listStates_1, ↓x_X2_listStates_3, ↓x_X2_listStates_4, ↓x_X2_listStates_8, ↓x_X2_listStates_9, ↓x_X2_listStates_12, ↓x_X2_listStates_15, ↓x_X2_listStates_17, ↓x_X2_listStates_18, ↓x_X2_listStates_21, ↓x_X2_listStates_22, ↓x_X2_listStates_23, ↓x_X2_listStates_24, ↓x_X2_listStates_27, ↓x_X2_listStates_29, ↓x_X2_listStates_30, ↓x_X2_listStates_33, ↓x_X2_listStates_34, ↓x_X2_listStates_36, ↓x_X2_listStates_37, ↓x_X2_listStates_38, ↓x_X2_listStates_39, ↓x_X2_listStates_42, ↓x_X2_listStates_43, ↓x_X2_listStates_46, ↓x_X2_listStates_48, ↓x_X2_listStates_50, ↓x_X2_listStates_51, ↓x_X2_listStates_54, ↓x_X2_listStates_57, ↓x_X2_listStates_61, ↓x_X2_listStates_64, ↓x_X2_listStates_66, ↓x_X2_listStates_67, ↓x_X2_listStates_68, ↓x_X2_listStates_70, ↓x_X2_listStates_71, ↓x_X2_listStates_72, ↓gK_of g1, n1, ↓gK_of K.2.1, ↓gL_of K.2.2.2.2.2, e1, n2, ↓reduceIte]
    · have n2 : ¬ ((4 : Int) ≤ ((nP (wo (Nat.testBit set) start) s : Nat) : Int)) := by omega
      have n0 : 0 ≤ ((nP (wo (Nat.testBit set) start) s : Nat) : Int) := by omega
      have hb := bit_at set hset s (by omega)
      by_cases hP : wo (Nat.testBit set) start s = true
      · obtain ⟨hb1, hb2⟩ := wo_bit.mp hP
        rw [if_pos hb1] at hb
        have n3 : ¬ ((s : Int) = (start : Int)) := by omega
        have n4 : ¬ ((1 : Int) = 0) := by decide
        have e6 : w32 (((nP (wo (Nat.testBit set) start) s : Nat) : Int) + 1) = ((nP (wo (Nat.testBit set) start) (s + 1) : Nat) : Int) := by rw [nP, if_pos hP, w32_in] <;> omega
        have q : rd h 10 5 (((nP (wo (Nat.testBit set) start) s : Nat) : Int)).toNat = some (aI (u (nP (wo (Nat.testBit set) start) s))) := H _ (by omega)
        have sw : SameR Rs h (wr h 10 5 (nP (wo (Nat.testBit set) start) s) (aI s)) := SameR.wr ⟨rfl, rfl⟩
        obtain ⟨h', u', r1, r2⟩ := ih (s + 1) (wr h 10 5 (nP (wo (Nat.testBit set) start) s) (aI s)) (up1 u (nP (wo (Nat.testBit set) start) s) s) (by omega) (K.same Rs_no2 sw) (by rw [rd_wn (Or.inl (by decide))]; exact g1) (H.set (by omega) _) (fun t ht hPt => by
          unfold up1
          by_cases e : t = s
          · subst e; rw [if_pos rfl]
          · have := nP_lt (P := wo (Nat.testBit set) start) (t := t) (n := s) (by omega) hPt
            rw [if_neg (by omega)]
            exact hu t (by omega) hPt)
        refine ⟨h', u', ?_, sw.tr r2.1, r2.2⟩
        rw [← r1, x_X2_listStates_6]
        simp only [↓x_X2_listStates_0, ↓x_X2_listStates_1, ↓x_X2_listStates_3, ↓x_X2_listStates_4, ↓x_X2_listStates_8, ↓x_X2_listStates_9, ↓x_X2_listStates_12, ↓x_X2_listStates_15, ↓x_X2_listStates_17, ↓x_X2_listStates_18, ↓x_X2_listStates_21, ↓x_X2_listStates_22, ↓x_X2_listStates_23, ↓x_X2_listStates_24, ↓x_X2_listStates_27, ↓x_X2_listStates_29, ↓x_X2_listStates_30, ↓x_X2_listStates_33, ↓x_X2_listStates_34, ↓x_X2_listStates_36, ↓x_X2_listStates_37, ↓x_X2_listStates_38, ↓x_X2_listStates_39, ↓x_X2_listStates_42, ↓x_X2_listStates_43, ↓x_X2_listStates_46, ↓x_X2_listStates_48, ↓x_X2_listStates_50, ↓x_X2_listStates_51, ↓x_X2_listStates_54, ↓x_X2_listStates_57, ↓x_X2_listStates_61, ↓x_X2_listStates_64, ↓x_X2_listStates_66, ↓x_X2_listStates_67, ↓x_X2_listStates_68, ↓x_X2_listStates_70, ↓x_X2_listStates_71, ↓x_X2_listStates_72, ↓gK_of g1, n1, ↓gK_of K.2.1, ↓gL_of K.2.2.2.2.2, e1, n2, n0, n3, n4, hb, ↓reduceIte, ↓pK_of q, e5, e6, Int.toNat_natCast]
      · have hP' : wo (Nat.testBit set) start s = false := by simpa using hP
        have e6 : nP (wo (Nat.testBit set) start) (s + 1) = nP (wo (Nat.testBit set) start) s := by rw [nP, if_neg hP]; rfl
        obtain ⟨h', u', r1, r2⟩ := ih (s + 1) h u (by omega) K g1 H (fun t ht hPt => by
          by_cases e : t = s
          · subst e; rw [hP'] at hPt; cases hPt
          · exact hu t (by omega) hPt)
        rw [e6] at r1
        refine ⟨h', u', ?_, r2⟩
        rw [← r1, x_X2_listStates_6]
        by_cases n3 : s = start
        · have n3' : (s : Int) = (start : Int) := by omega
          simp only [↓x_X2_listStates_0, ↓x_X2_listStates_1, ↓x_X2_listStates_3, ↓x_X2_listStates_4, ↓x_X2_listStates_8, ↓x_X2_listStates_9, ↓x_X2_listStates_12, ↓x_X2_listStates_15, ↓x_X2_listStates_17, ↓x_X2_listStates_18, ↓x_X2_listStates_21, ↓x_X2_listStates_22, ↓x_X2_listStates_23, ↓x_X2_listStates_24, ↓x_X2_listStates_27, ↓x_X2_listStates_29, ↓x_X2_listStates_30, ↓x_X2_listStates_33, ↓x_X2_listStates_34, ↓x_X2_listStates_36, ↓x_X2_listStates_37, ↓x_X2_listStates_38, ↓x_X2_listStates_39, ↓x_X2_listStates_42, ↓x_X2_listStates_43, ↓x_X2_listStates_46, ↓x_X2_listStates_48, ↓x_X2_listStates_50, ↓x_X2_listStates_51, ↓x_X2_listStates_54, ↓x_X2_listStates_57, ↓x_X2_listStates_61, ↓x_X2_listStates_64, ↓x_X2_listStates_66, ↓x_X2_listStates_67, ↓x_X2_listStates_68, ↓x_X2_listStates_70, ↓x_X2_listStates_71, ↓x_X2_listStates_72, ↓gK_of g1, n1, ↓gK_of K.2.1, ↓gL_of K.2.2.2.2.2, e1, n2, ↓reduceIte, e5]
          rw [if_pos n3']
        · have n3' : ¬ ((s : Int) = (start : Int)) := by omega
          have hb1 : ¬ Nat.testBit set s = true := fun z => hP (wo_bit.mpr ⟨z, n3⟩)
          rw [if_neg hb1] at hb
          simp only [↓x_X2_listStates_0, ↓x_X2_listStates_1, ↓x_X2_listStates_3, ↓x_X2_listStates_4, ↓x_X2_listStates_8, ↓x_X2_listStates_9, ↓x_X2_listStates_12, ↓x_X2_listStates_15, ↓x_X2_listStates_17, ↓x_X2_listStates_18, ↓x_X2_listStates_21, ↓x_X2_listStates_22, ↓x_X2_listStates_23, ↓x_X2_listStates_24, ↓x_X2_listStates_27, ↓x_X2_listStates_29, ↓x_X2_listStates_30, ↓x_X2_listStates_33, ↓x_X2_listStates_34, ↓x_X2_listStates_36, ↓x_X2_listStates_37, ↓x_X2_listStates_38, ↓x_X2_listStates_39, ↓x_X2_listStates_42, ↓x_X2_listStates_43, ↓x_X2_listStates_46, ↓x_X2_listStates_48, ↓x_X2_listStates_50, ↓x_X2_listStates_51, ↓x_X2_listStates_54, ↓x_X2_listStates_57, ↓x_X2_listStates_61, ↓x_X2_listStates_64, ↓x_X2_listStates_66, ↓x_X2_listStates_67, ↓x_X2_listStates_68, ↓x_X2_listStates_70, ↓x_X2_listStates_71, ↓x_X2_listStates_72, ↓gK_of g1, n1, ↓gK_of K.2.1, ↓gL_of K.2.2.2.2.2, e1, n2, n3', hb, ↓reduceIte, e5]
theorem c_list {a n start set : Nat} {h : AH} {u : Nat → Int} (hn : n ≤ 5) (hset : set < 32) (hst : start < n) (K : RK h) (g1 : rd h 1 a 1 = some (aI n)) (H : StAt h u) :
    ∃ h' u', E mX2_listStates [aR (some 3), aR (some a), aI start, aI set] h = some (some (aI ((nP (wo (Nat.testBit set) start) n + 1 : Nat) : Int)), h') ∧ SameR Rs h h' ∧ StAt h' u' ∧ (∀ t, t < n → wo (Nat.testBit set) start t = true → u' (nP (wo (Nat.testBit set) start) t) = t) ∧ u' (nP (wo (Nat.testBit set) start) n) = start := by
  obtain ⟨h', u', r1, r2⟩ := l_list hn hset hst n 0 h u (by omega) K g1 H (fun t ht => by omega)
  refine ⟨h', u', ?_, r2⟩
  rw [← r1, e_X2_listStates]
  simp only [↓x_X2_listStates_0, ↓x_X2_listStates_1, ↓x_X2_listStates_3, ↓x_X2_listStates_4, ↓x_X2_listStates_8, ↓x_X2_listStates_9, ↓x_X2_listStates_12, ↓x_X2_listStates_15, ↓x_X2_listStates_17, ↓x_X2_listStates_18, ↓x_X2_listStates_21, ↓x_X2_listStates_22, ↓x_X2_listStates_23, ↓x_X2_listStates_24, ↓x_X2_listStates_27, ↓x_X2_listStates_29, ↓x_X2_listStates_30, ↓x_X2_listStates_33, ↓x_X2_listStates_34, ↓x_X2_listStates_36, ↓x_X2_listStates_37, ↓x_X2_listStates_38, ↓x_X2_listStates_39, ↓x_X2_listStates_42, ↓x_X2_listStates_43, ↓x_X2_listStates_46, ↓x_X2_listStates_48, ↓x_X2_listStates_50, ↓x_X2_listStates_51, ↓x_X2_listStates_54, ↓x_X2_listStates_57, ↓x_X2_listStates_61, ↓x_X2_listStates_64, ↓x_X2_listStates_66, ↓x_X2_listStates_67, ↓x_X2_listStates_68, ↓x_X2_listStates_70, ↓x_X2_listStates_71, ↓x_X2_listStates_72]
  rfl
