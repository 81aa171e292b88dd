section MACH2
variable {h : AH} {a n : Nat} {k : Int} {py : Nat → Int} {w : Nat → Nat → Int}
theorem l_sumOf (M : Mach h a k n py w) (hw : WB n w) {s : Nat} (hs : s < n) : ∀ (d j : Nat), j + d = n → X mX1_sumOf 32 [aR (some a), aI s, aI (sumI (w s) j), aI ((s * n : Nat) : Int), aI ((s * n + j : Nat) : Int)] [] h = some (some (aI (sumI (w s) n)), h) := by
  have M' := M
  obtain ⟨⟨_, hn5⟩, g0, g1, g2, g3, g4, l1, l2, l3, p1, w1, o1⟩ := M
  have hb := sn_b hs
  have hc := nn_b hn5
  have e3 : w32 (((s * n : Nat) : Int) + (n : Int)) = ((s * n + n : Nat) : Int) := by rw [w32_in] <;> omega
  intro d
  induction d with
  | zero =>
    intro j hj
    have : j = n := by omega
    subst this
    (repeat' (first | (simp only [↓reduceIte, not_true_eq_false, not_false_eq_true, eq_self, ↓x_X1_sumOf_0, ↓x_X1_sumOf_1, ↓x_X1_sumOf_2, ↓x_X1_sumOf_3, ↓x_X1_sumOf_6, ↓x_X1_sumOf_7, ↓x_X1_sumOf_8, ↓x_X1_sumOf_11, ↓x_X1_sumOf_14, ↓x_X1_sumOf_15, ↓x_X1_sumOf_16, ↓x_X1_sumOf_19, ↓x_X1_sumOf_20, ↓x_X1_sumOf_23, ↓x_X1_sumOf_24, ↓x_X1_sumOf_27, ↓x_X1_sumOf_28, ↓x_X1_sumOf_29, ↓x_X1_sumOf_30, ↓x_X1_sumOf_32, ↓x_X1_sumOf_34, ↓x_X1_sumOf_35, ↓x_X1_sumOf_36, ↓x_X1_sumOf_39, ↓x_X1_sumOf_40, ↓x_X1_sumOf_43, ↓x_X1_sumOf_45, ↓x_X1_sumOf_46, ↓x_X1_sumOf_49, ↓x_X1_sumOf_50, ↓x_X1_sumOf_53, ↓x_X1_sumOf_54, ↓x_X1_sumOf_55, ↓x_X1_sumOf_58, ↓x_X1_sumOf_60, ↓x_X1_sumOf_61, ↓x_X1_sumOf_62, ↓x_X1_sumOf_63, ↓x_X1_sumOf_66, ↓x_X1_sumOf_69, ↓x_X1_sumOf_70, ↓gK_of g1, ↓gK_of g3, ↓gL_of l2, e3]) | rw [if_pos (by omega)] | rw [if_neg (by omega)] | split))
  | succ d ih =>
    intro j hj
    have q : rd h 10 (a + 2) (((s * n + j : Nat) : Int)).toNat = some (aI (w s j)) := w1 s j hs (by omega)
    have e4 : w32 (sumI (w s) j + w s j) = sumI (w s) (j + 1) := by
      have b1 := sumI_b (n := j) (f := w s) (lo := 0) (hi := 10) (fun t ht => (hw s hs).1 t (by omega))
      have b2 := (hw s hs).1 j (by omega)
      rw [w32_in, sumI] <;> omega
    have e5 : w32 (((s * n + j : Nat) : Int) + 1) = ((s * n + (j + 1) : Nat) : Int) := by rw [w32_in] <;> omega
    have ih' := ih (j + 1) (by omega)
    rw [x_X1_sumOf_32]
    simp only [↓reduceIte, ↓x_X1_sumOf_0, ↓x_X1_sumOf_1, ↓x_X1_sumOf_2, ↓x_X1_sumOf_3, ↓x_X1_sumOf_6, ↓x_X1_sumOf_7, ↓x_X1_sumOf_8, ↓x_X1_sumOf_11, ↓x_X1_sumOf_14, ↓x_X1_sumOf_15, ↓x_X1_sumOf_16, ↓x_X1_sumOf_19, ↓x_X1_sumOf_20, ↓x_X1_sumOf_23, ↓x_X1_sumOf_24, ↓x_X1_sumOf_27, ↓x_X1_sumOf_28, ↓x_X1_sumOf_29, ↓x_X1_sumOf_30, ↓x_X1_sumOf_34, ↓x_X1_sumOf_35, ↓x_X1_sumOf_36, ↓x_X1_sumOf_39, ↓x_X1_sumOf_40, ↓x_X1_sumOf_43, ↓x_X1_sumOf_45, ↓x_X1_sumOf_46, ↓x_X1_sumOf_49, ↓x_X1_sumOf_50, ↓x_X1_sumOf_53, ↓x_X1_sumOf_54, ↓x_X1_sumOf_55, ↓x_X1_sumOf_58, ↓x_X1_sumOf_60, ↓x_X1_sumOf_61, ↓x_X1_sumOf_62, ↓x_X1_sumOf_63, ↓x_X1_sumOf_66, ↓x_X1_sumOf_69, ↓x_X1_sumOf_70, ↓gK_of g1, ↓gK_of g3, ↓gL_of l2, e3, ↓gK_of q, gK_of q, e4, e5, ih']
    rw [if_neg (by omega), if_neg (by omega), if_pos (by omega)]
theorem c_sumOf (M : Mach h a k n py w) (hw : WB n w) {s : Nat} (hs : s < n) : E mX1_sumOf [aR (some a), aI s] h = some (some (aI (sumI (w s) n)), h) := by
  have M' := M
  obtain ⟨⟨_, hn5⟩, g0, g1, g2, g3, g4, l1, l2, l3, p1, w1, o1⟩ := M
  have hb := sn_b hs
  have hc := nn_b hn5
  have e1 : w32 ((s : Int) * (n : Int)) = ((s * n : Nat) : Int) := by rw [w32_in] <;> rw [← Int.natCast_mul] <;> omega
  have q := l_sumOf M' hw hs n 0 (by omega)
  rw [e_X1_sumOf]
  (repeat' (first | (simp only [↓reduceIte, not_true_eq_false, not_false_eq_true, eq_self, ↓x_X1_sumOf_0, ↓x_X1_sumOf_1, ↓x_X1_sumOf_2, ↓x_X1_sumOf_3, ↓x_X1_sumOf_6, ↓x_X1_sumOf_7, ↓x_X1_sumOf_8, ↓x_X1_sumOf_11, ↓x_X1_sumOf_14, ↓x_X1_sumOf_15, ↓x_X1_sumOf_16, ↓x_X1_sumOf_19, ↓x_X1_sumOf_20, ↓x_X1_sumOf_23, ↓x_X1_sumOf_24, ↓x_X1_sumOf_27, ↓x_X1_sumOf_28, ↓x_X1_sumOf_29, ↓x_X1_sumOf_30, ↓x_X1_sumOf_34, ↓x_X1_sumOf_35, ↓x_X1_sumOf_36, ↓x_X1_sumOf_39, ↓x_X1_sumOf_40, ↓x_X1_sumOf_43, ↓x_X1_sumOf_45, ↓x_X1_sumOf_46, ↓x_X1_sumOf_49, ↓x_X1_sumOf_50, ↓x_X1_sumOf_53, ↓x_X1_sumOf_54, ↓x_X1_sumOf_55, ↓x_X1_sumOf_58, ↓x_X1_sumOf_60, ↓x_X1_sumOf_61, ↓x_X1_sumOf_62, ↓x_X1_sumOf_63, ↓x_X1_sumOf_66, ↓x_X1_sumOf_69, ↓x_X1_sumOf_70, ↓gK_of g1, e1]) | rw [if_pos (by omega)] | rw [if_neg (by omega)] | split))
  exact q
end MACH2
