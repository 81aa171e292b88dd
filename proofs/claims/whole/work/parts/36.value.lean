theorem Mach.same {Rg : Nat → Nat → Prop} {a n : Nat} {k : Int} {py : Nat → Int} {w : Nat → Nat → Int} (r1 : ¬ Rg 1 a) (r2 : ¬ Rg 10 (a + 1)) (r3 : ¬ Rg 10 (a + 2)) (r4 : ¬ Rg 14 (a + 3)) {h h' : AH} (s : SameR Rg h h') (M : Mach h a k n py w) : Mach h' a k n py w := by
  obtain ⟨b, g0, g1, g2, g3, g4, l1, l2, l3, p1, w1, o1⟩ := M
  refine ⟨b, by rw [s.1 _ _ _ r1]; exact g0, by rw [s.1 _ _ _ r1]; exact g1, by rw [s.1 _ _ _ r1]; exact g2, by rw [s.1 _ _ _ r1]; exact g3, by rw [s.1 _ _ _ r1]; exact g4, by rw [s.2.2.1]; exact l1, by rw [s.2.2.1]; exact l2, by rw [s.2.2.1]; exact l3, fun j hj => ?_, fun x t hx ht => ?_, fun j hj => ?_⟩
  · rw [s.1 _ _ _ r2]; exact p1 j hj
  · rw [s.1 _ _ _ r3]; exact w1 x t hx ht
  · rw [s.1 _ _ _ r4]; exact o1 j hj
theorem StAt.same {Rg : Nat → Nat → Prop} (r : ¬ Rg 10 5) {h h' : AH} (s : SameR Rg h h') {u : Nat → Int} (H : StAt h u) : StAt h' u := fun i hi => by rw [s.1 _ _ _ r]; exact H i hi
theorem CellsAt.same {Rg : Nat → Nat → Prop} (r : ¬ Rg 11 4) {h h' : AH} (s : SameR Rg h h') {C : Nat → Nat → Int} (H : CellsAt h C) : CellsAt h' C := fun i j hi hj => by rw [s.1 _ _ _ r]; exact H i j hi hj
theorem FrAt.same {Rg : Nat → Nat → Prop} {f : Nat} (r : ¬ Rg 0 f) {h h' : AH} (s : SameR Rg h h') {x : Rat} (H : FrAt h f x) : FrAt h' f x := ⟨by rw [s.1 _ _ _ r]; exact H.1, by rw [s.1 _ _ _ r]; exact H.2⟩
/-- the equations of a way: m unknowns us 0 .., the start us m -/
def wh (q : Int) (n : Nat) (w : Nat → Nat → Int) (s : Nat) : Int := q * sumI (w s) n
def eqA (p q : Int) (n : Nat) (py : Nat → Int) (w : Nat → Nat → Int) (us : Nat → Nat) (m : Nat) : Nat → Nat → Int := fun i j => if j < m then (if j = i then wh q n w (us i) else 0) - p * w (us i) (us j) else if j = m then wh q n w (us i) * py (us i) else wh q n w (us i)
def rowA (A C : Nat → Nat → Int) (L r c : Nat) : Nat → Nat → Int := fun i j => if (i < r ∧ j < L) ∨ (i = r ∧ j < c) then A i j else C i j
theorem rowA_set {A C : Nat → Nat → Int} {L r c : Nat} : up2 (rowA A C L r c) r c (A r c) = rowA A C L r (c + 1) := by
  funext i j
  unfold up2 rowA
  by_cases e : i = r ∧ j = c
  · obtain ⟨e1, e2⟩ := e
    subst e1; subst e2
    rw [if_pos ⟨rfl, rfl⟩, if_pos (Or.inr ⟨rfl, by omega⟩)]
  · rw [if_neg e]
    by_cases q : (i < r ∧ j < L) ∨ (i = r ∧ j < c)
    · rw [if_pos q, if_pos (by omega)]
    · rw [if_neg q, if_neg (by omega)]
def StU (h : AH) (us : Nat → Nat) (m : Nat) : Prop := ∀ i, i ≤ m → rd h 10 5 i = some (aI ((us i : Nat) : Int))
theorem StU.same {Rg : Nat → Nat → Prop} (r : ¬ Rg 10 5) {h h' : AH} (s : SameR Rg h h') {us : Nat → Nat} {m : Nat} (H : StU h us m) : StU h' us m := fun i hi => by rw [s.1 _ _ _ r]; exact H i hi
section LAY
variable {a n : Nat} {kd : Int} {py : Nat → Int} {w : Nat → Nat → Int} {p q : Nat} {us : Nat → Nat} {m : Nat}
theorem mul_bd {x y X Y : Int} (hx : 0 ≤ x ∧ x ≤ X) (hy : 0 ≤ y ∧ y ≤ Y) : 0 ≤ x * y ∧ x * y ≤ X * Y := by
  refine ⟨Int.mul_nonneg hx.1 hy.1, ?_⟩
  have h1 := Int.mul_le_mul_of_nonneg_right hx.2 hy.1
  have h2 := Int.mul_le_mul_of_nonneg_left hy.2 (show 0 ≤ X by omega)
  omega
theorem wh_b (hw : WB n w) (hq : q ≤ 8) {s : Nat} (hs : s < n) : 0 ≤ wh (q : Int) n w s ∧ wh (q : Int) n w s ≤ 80 := by
  have h := (hw s hs).2
  exact mul_bd (X := 8) (Y := 10) ⟨by omega, by omega⟩ ⟨by omega, by omega⟩
theorem pw_b (hw : WB n w) (hp : p ≤ 7) {s t : Nat} (hs : s < n) (ht : t < n) : 0 ≤ (p : Int) * w s t ∧ (p : Int) * w s t ≤ 70 := by
  have h := (hw s hs).1 t ht
  exact mul_bd (X := 7) (Y := 10) ⟨by omega, by omega⟩ ⟨by omega, by omega⟩
theorem l_lay {r : Nat} {C : Nat → Nat → Int} (ha : 11 ≤ a) (hm : m ≤ 4) (hr : r ≤ m) (hw : WB n w) (hp : p ≤ 7) (hq : q ≤ 8) (hus : ∀ i, i ≤ m → us i < n) : ∀ (d c : Nat) (h : AH) (v10 v11 : AV), c + d = m → RK h → Mach h a kd n py w → StU h us m → CellsAt h (rowA (eqA p q n py w us m) C (m + 2) r c) →
    ∃ h' v10' v11', X mX2_layRow 38 [aR (some 3), aR (some a), aI r, aI ((m + 1 : Nat) : Int), aI p, aI q, aI (us r), aJ (wh q n w (us r)), aU, aI c, v10, v11] [] h = X mX2_layRow 104 [aR (some 3), aR (some a), aI r, aI ((m + 1 : Nat) : Int), aI p, aI q, aI (us r), aJ (wh q n w (us r)), aU, aI m, v10', v11'] [] h' ∧ SameR Rc h h' ∧ CellsAt h' (rowA (eqA p q n py w us m) C (m + 2) r m) := by
  have e1 : w32 (((m + 1 : Nat) : Int) - 1) = (m : Int) := by rw [w32_in] <;> omega
  intro d
  induction d with
  | zero =>
    intro c h v10 v11 hd K M S H
    have e : c = m := by omega
    subst e
    refine ⟨h, v10, v11, ?_, SameR.rf, H⟩
    have n1 : (c : Int) ≤ (c : Int) := Int.le_refl _
    rw [x_X2_layRow_38]
    simp only [↓x_X2_layRow_0, ↓x_X2_layRow_1, ↓x_X2_layRow_4, ↓x_X2_layRow_5, ↓x_X2_layRow_6, ↓x_X2_layRow_9, ↓x_X2_layRow_10, ↓x_X2_layRow_13, ↓x_X2_layRow_14, ↓x_X2_layRow_15, ↓x_X2_layRow_18, ↓x_X2_layRow_19, ↓x_X2_layRow_20, ↓x_X2_layRow_22, ↓x_X2_layRow_24, ↓x_X2_layRow_25, ↓x_X2_layRow_26, ↓x_X2_layRow_28, ↓x_X2_layRow_31, ↓x_X2_layRow_32, ↓x_X2_layRow_33, ↓x_X2_layRow_35, ↓x_X2_layRow_36, ↓x_X2_layRow_40, ↓x_X2_layRow_41, ↓x_X2_layRow_42, ↓x_X2_layRow_43, ↓x_X2_layRow_46, ↓x_X2_layRow_48, ↓x_X2_layRow_49, ↓x_X2_layRow_52, ↓x_X2_layRow_53, ↓x_X2_layRow_56, ↓x_X2_layRow_58, ↓x_X2_layRow_59, ↓x_X2_layRow_62, ↓x_X2_layRow_64, ↓x_X2_layRow_67, ↓x_X2_layRow_68, ↓x_X2_layRow_70, ↓x_X2_layRow_71, ↓x_X2_layRow_72, ↓x_X2_layRow_74, ↓x_X2_layRow_76, ↓x_X2_layRow_78, ↓x_X2_layRow_79, ↓x_X2_layRow_80, ↓x_X2_layRow_82, ↓x_X2_layRow_83, ↓x_X2_layRow_86, ↓x_X2_layRow_88, ↓x_X2_layRow_89, ↓x_X2_layRow_92, ↓x_X2_layRow_93, ↓x_X2_layRow_94, ↓x_X2_layRow_95, ↓x_X2_layRow_98, ↓x_X2_layRow_101, ↓x_X2_layRow_105, ↓x_X2_layRow_106, ↓x_X2_layRow_107, ↓x_X2_layRow_108, ↓x_X2_layRow_109, ↓x_X2_layRow_111, ↓x_X2_layRow_112, ↓x_X2_layRow_114, ↓x_X2_layRow_117, ↓x_X2_layRow_118, ↓x_X2_layRow_119, ↓x_X2_layRow_122, ↓x_X2_layRow_123, ↓x_X2_layRow_124, ↓x_X2_layRow_125, ↓x_X2_layRow_127, ↓x_X2_layRow_130, e1, n1, ↓reduceIte]
  | succ d ih =>
    intro c h v10 v11 hd K M S H
    have n1 : ¬ ((m : Int) ≤ (c : Int)) := by omega
    have n2 : ¬ (((5 : Nat) : Int) ≤ (c : Int)) := by omega
    have n0 : 0 ≤ (c : Int) := by omega
    have e5 : w32 ((c : Int) + 1) = ((c + 1 : Nat) : Int) := by rw [w32_in] <;> omega
    have q1 : rd h 10 5 (c : Int).toNat = some (aI ((us c : Nat) : Int)) := S c (by omega)
    have ho : isO h 2 3 = true := isO_rd K.1
    have hom : isO h 1 a = true := isO_rd M.2.1
    have c1 := c_weightAt M (s := us r) (t := us c) (hus r hr) (hus c (by omega))
    have b1 := pw_b hw hp (s := us r) (t := us c) (hus r hr) (hus c (by omega))
    have b2 := wh_b hw hq (s := us r) (hus r hr)
    have m1 : w64 ((p : Int) * w (us r) (us c)) = (p : Int) * w (us r) (us c) := w64_in (by omega) (by omega)
    have m2 : w64 ((if c = r then wh q n w (us r) else 0) - (p : Int) * w (us r) (us c)) = (if c = r then wh q n w (us r) else 0) - (p : Int) * w (us r) (us c) := by
      split <;> (rw [w64_in] <;> omega)
    have hA : eqA p q n py w us m r c = (if c = r then wh q n w (us r) else 0) - (p : Int) * w (us r) (us c) := by unfold eqA; rw [if_pos (by omega)]
    have c3 := c_setCell K H (r := r) (c := c) (v := (if c = r then wh q n w (us r) else 0) - (p : Int) * w (us r) (us c)) (by omega) (by omega)
    have H' := H.set (r := r) (c := c) (by omega) (by omega) ((if c = r then wh q n w (us r) else 0) - (p : Int) * w (us r) (us c))
    rw [← hA, rowA_set, hA] at H'
    have sw : SameR Rc h (wr h 11 4 (r * 6 + c) (aJ ((if c = r then wh q n w (us r) else 0) - (p : Int) * w (us r) (us c)))) := SameR.wr ⟨rfl, rfl⟩
    have M' := M.same (Rg := Rc) (fun z => by cases z.1) (fun z => by cases z.1) (fun z => by cases z.1) (fun z => by cases z.1) sw
    obtain ⟨h', w10, w11, f1, f2, f3⟩ := ih (c + 1) _ (aJ (if c = r then wh q n w (us r) else 0)) aU (by omega) (K.same Rc_no2 sw) M' (S.same (fun z => by cases z.1) sw) H'
    refine ⟨h', w10, w11, ?_, sw.tr f2, f3⟩
    rw [← f1, x_X2_layRow_38]
    by_cases hcr : c = r
    · have n3 : ¬ ¬ ((c : Int) = (r : Int)) := by omega
      rw [if_pos hcr] at m2 c3 ⊢
      simp only [↓x_X2_layRow_0, ↓x_X2_layRow_1, ↓x_X2_layRow_4, ↓x_X2_layRow_5, ↓x_X2_layRow_6, ↓x_X2_layRow_9, ↓x_X2_layRow_10, ↓x_X2_layRow_13, ↓x_X2_layRow_14, ↓x_X2_layRow_15, ↓x_X2_layRow_18, ↓x_X2_layRow_19, ↓x_X2_layRow_20, ↓x_X2_layRow_22, ↓x_X2_layRow_24, ↓x_X2_layRow_25, ↓x_X2_layRow_26, ↓x_X2_layRow_28, ↓x_X2_layRow_31, ↓x_X2_layRow_32, ↓x_X2_layRow_33, ↓x_X2_layRow_35, ↓x_X2_layRow_36, ↓x_X2_layRow_40, ↓x_X2_layRow_41, ↓x_X2_layRow_42, ↓x_X2_layRow_43, ↓x_X2_layRow_46, ↓x_X2_layRow_48, ↓x_X2_layRow_49, ↓x_X2_layRow_52, ↓x_X2_layRow_53, ↓x_X2_layRow_56, ↓x_X2_layRow_58, ↓x_X2_layRow_59, ↓x_X2_layRow_62, ↓x_X2_layRow_64, ↓x_X2_layRow_67, ↓x_X2_layRow_68, ↓x_X2_layRow_70, ↓x_X2_layRow_71, ↓x_X2_layRow_72, ↓x_X2_layRow_74, ↓x_X2_layRow_76, ↓x_X2_layRow_78, ↓x_X2_layRow_79, ↓x_X2_layRow_80, ↓x_X2_layRow_82, ↓x_X2_layRow_83, ↓x_X2_layRow_86, ↓x_X2_layRow_88, ↓x_X2_layRow_89, ↓x_X2_layRow_92, ↓x_X2_layRow_93, ↓x_X2_layRow_94, ↓x_X2_layRow_95, ↓x_X2_layRow_98, ↓x_X2_layRow_101, ↓x_X2_layRow_105, ↓x_X2_layRow_106, ↓x_X2_layRow_107, ↓x_X2_layRow_108, ↓x_X2_layRow_109, ↓x_X2_layRow_111, ↓x_X2_layRow_112, ↓x_X2_layRow_114, ↓x_X2_layRow_117, ↓x_X2_layRow_118, ↓x_X2_layRow_119, ↓x_X2_layRow_122, ↓x_X2_layRow_123, ↓x_X2_layRow_124, ↓x_X2_layRow_125, ↓x_X2_layRow_127, ↓x_X2_layRow_130, e1, n1, n2, n0, ↓gK_of K.2.1, ↓gL_of K.2.2.2.2.2, ↓gK_of q1, ↓reduceIte, ho, hom, ↓cKI c1, ↓cKV c3, m1, m2, e5]
      rw [if_neg n3]
    · have n3 : ¬ ((c : Int) = (r : Int)) := by omega
      rw [if_neg hcr] at m2 c3 ⊢
      simp only [↓x_X2_layRow_0, ↓x_X2_layRow_1, ↓x_X2_layRow_4, ↓x_X2_layRow_5, ↓x_X2_layRow_6, ↓x_X2_layRow_9, ↓x_X2_layRow_10, ↓x_X2_layRow_13, ↓x_X2_layRow_14, ↓x_X2_layRow_15, ↓x_X2_layRow_18, ↓x_X2_layRow_19, ↓x_X2_layRow_20, ↓x_X2_layRow_22, ↓x_X2_layRow_24, ↓x_X2_layRow_25, ↓x_X2_layRow_26, ↓x_X2_layRow_28, ↓x_X2_layRow_31, ↓x_X2_layRow_32, ↓x_X2_layRow_33, ↓x_X2_layRow_35, ↓x_X2_layRow_36, ↓x_X2_layRow_40, ↓x_X2_layRow_41, ↓x_X2_layRow_42, ↓x_X2_layRow_43, ↓x_X2_layRow_46, ↓x_X2_layRow_48, ↓x_X2_layRow_49, ↓x_X2_layRow_52, ↓x_X2_layRow_53, ↓x_X2_layRow_56, ↓x_X2_layRow_58, ↓x_X2_layRow_59, ↓x_X2_layRow_62, ↓x_X2_layRow_64, ↓x_X2_layRow_67, ↓x_X2_layRow_68, ↓x_X2_layRow_70, ↓x_X2_layRow_71, ↓x_X2_layRow_72, ↓x_X2_layRow_74, ↓x_X2_layRow_76, ↓x_X2_layRow_78, ↓x_X2_layRow_79, ↓x_X2_layRow_80, ↓x_X2_layRow_82, ↓x_X2_layRow_83, ↓x_X2_layRow_86, ↓x_X2_layRow_88, ↓x_X2_layRow_89, ↓x_X2_layRow_92, ↓x_X2_layRow_93, ↓x_X2_layRow_94, ↓x_X2_layRow_95, ↓x_X2_layRow_98, ↓x_X2_layRow_101, ↓x_X2_layRow_105, ↓x_X2_layRow_106, ↓x_X2_layRow_107, ↓x_X2_layRow_108, ↓x_X2_layRow_109, ↓x_X2_layRow_111, ↓x_X2_layRow_112, ↓x_X2_layRow_114, ↓x_X2_layRow_117, ↓x_X2_layRow_118, ↓x_X2_layRow_119, ↓x_X2_layRow_122, ↓x_X2_layRow_123, ↓x_X2_layRow_124, ↓x_X2_layRow_125, ↓x_X2_layRow_127, ↓x_X2_layRow_130, e1, n1, n2, n0, n3, ↓gK_of K.2.1, ↓gL_of K.2.2.2.2.2, ↓gK_of q1, ↓reduceIte, not_false_eq_true, ho, hom, ↓cKI c1, ↓cKV c3, m1, m2, e5]
theorem c_layRow {r : Nat} {C : Nat → Nat → Int} {h : AH} (ha : 11 ≤ a) (hm : m ≤ 4) (hr : r ≤ m) (hpy : PB n py) (hw : WB n w) (hp : p ≤ 7) (hq : q ≤ 8) (hus : ∀ i, i ≤ m → us i < n) (K : RK h) (M : Mach h a kd n py w) (S5 : StU h us m) (H : CellsAt h (rowA (eqA p q n py w us m) C (m + 2) r 0)) :
    ∃ h', E mX2_layRow [aR (some 3), aR (some a), aI r, aI ((m + 1 : Nat) : Int), aI p, aI q] h = some (none, h') ∧ SameR Rc h h' ∧ CellsAt h' (rowA (eqA p q n py w us m) C (m + 2) r (m + 2)) := by
  have e1 : w32 (((m + 1 : Nat) : Int) - 1) = (m : Int) := by rw [w32_in] <;> omega
  have n1 : ¬ ((r : Int) < 0) := by omega
  have n2 : (r : Int) < ((5 : Nat) : Int) := by omega
  have n0 : 0 ≤ (r : Int) := by omega
  have q1 : rd h 10 5 (r : Int).toNat = some (aI ((us r : Nat) : Int)) := S5 r (by omega)
  have hom : isO h 1 a = true := isO_rd M.2.1
  have c1 := c_sumOf M hw (s := us r) (hus r hr)
  have b2 := wh_b hw hq (s := us r) (hus r hr)
  have m1 : w64 ((q : Int) * sumI (w (us r)) n) = wh q n w (us r) := by
    show w64 (wh q n w (us r)) = _
    exact w64_in (by omega) (by omega)
  obtain ⟨h1, v10, v11, f1, f2, f3⟩ := l_lay ha hm hr hw hp hq hus m 0 h aU aU (by omega) K M S5 H
  have K1 := K.same Rc_no2 f2
  have M1 := M.same (Rg := Rc) (fun z => by cases z.1) (fun z => by cases z.1) (fun z => by cases z.1) (fun z => by cases z.1) f2
  have ho1 : isO h1 2 3 = true := isO_rd K1.1
  have hom1 : isO h1 1 a = true := isO_rd M1.2.1
  have c2 := c_payAt M1 (s := us r) (hus r hr)
  have b3 := hpy (us r) (hus r hr)
  have b4 := mul_bd (X := 80) (Y := 100) b2 (show 0 ≤ py (us r) + 50 ∧ py (us r) + 50 ≤ 100 by omega)
  have b5 : wh (q : Int) n w (us r) * (py (us r) + 50) = wh (q : Int) n w (us r) * py (us r) + wh (q : Int) n w (us r) * 50 := Int.mul_add _ _ _
  have m2 : w64 (wh q n w (us r) * py (us r)) = wh q n w (us r) * py (us r) := w64_in (by omega) (by omega)
  have c3 := c_setCell K1 f3 (r := r) (c := m) (v := wh q n w (us r) * py (us r)) (by omega) (by omega)
  have hA : eqA p q n py w us m r m = wh q n w (us r) * py (us r) := by unfold eqA; rw [if_neg (by omega), if_pos rfl]
  have H2 := f3.set (r := r) (c := m) (by omega) (by omega) (wh q n w (us r) * py (us r))
  rw [← hA, rowA_set, hA] at H2
  have sw2 : SameR Rc h1 (wr h1 11 4 (r * 6 + m) (aJ (wh q n w (us r) * py (us r)))) := SameR.wr ⟨rfl, rfl⟩
  have K2 := K1.same Rc_no2 sw2
  have ho2 : isO (wr h1 11 4 (r * 6 + m) (aJ (wh q n w (us r) * py (us r)))) 2 3 = true := isO_rd K2.1
  have c4 := c_setCell K2 H2 (r := r) (c := m + 1) (v := wh q n w (us r)) (by omega) (by omega)
  have hA3 : eqA p q n py w us m r (m + 1) = wh q n w (us r) := by unfold eqA; rw [if_neg (by omega), if_neg (by omega)]
  have H3 := H2.set (r := r) (c := m + 1) (by omega) (by omega) (wh q n w (us r))
  rw [← hA3, rowA_set, hA3] at H3
  refine ⟨_, ?_, (f2.tr sw2).tr (SameR.wr ⟨rfl, rfl⟩), H3⟩
  rw [e_X2_layRow]
  simp only [↓x_X2_layRow_0, ↓x_X2_layRow_1, ↓x_X2_layRow_4, ↓x_X2_layRow_5, ↓x_X2_layRow_6, ↓x_X2_layRow_9, ↓x_X2_layRow_10, ↓x_X2_layRow_13, ↓x_X2_layRow_14, ↓x_X2_layRow_15, ↓x_X2_layRow_18, ↓x_X2_layRow_19, ↓x_X2_layRow_20, ↓x_X2_layRow_22, ↓x_X2_layRow_24, ↓x_X2_layRow_25, ↓x_X2_layRow_26, ↓x_X2_layRow_28, ↓x_X2_layRow_31, ↓x_X2_layRow_32, ↓x_X2_layRow_33, ↓x_X2_layRow_35, ↓x_X2_layRow_36, ↓x_X2_layRow_40, ↓x_X2_layRow_41, ↓x_X2_layRow_42, ↓x_X2_layRow_43, ↓x_X2_layRow_46, ↓x_X2_layRow_48, ↓x_X2_layRow_49, ↓x_X2_layRow_52, ↓x_X2_layRow_53, ↓x_X2_layRow_56, ↓x_X2_layRow_58, ↓x_X2_layRow_59, ↓x_X2_layRow_62, ↓x_X2_layRow_64, ↓x_X2_layRow_67, ↓x_X2_layRow_68, ↓x_X2_layRow_70, ↓x_X2_layRow_71, ↓x_X2_layRow_72, ↓x_X2_layRow_74, ↓x_X2_layRow_76, ↓x_X2_layRow_78, ↓x_X2_layRow_79, ↓x_X2_layRow_80, ↓x_X2_layRow_82, ↓x_X2_layRow_83, ↓x_X2_layRow_86, ↓x_X2_layRow_88, ↓x_X2_layRow_89, ↓x_X2_layRow_92, ↓x_X2_layRow_93, ↓x_X2_layRow_94, ↓x_X2_layRow_95, ↓x_X2_layRow_98, ↓x_X2_layRow_101, ↓x_X2_layRow_105, ↓x_X2_layRow_106, ↓x_X2_layRow_107, ↓x_X2_layRow_108, ↓x_X2_layRow_109, ↓x_X2_layRow_111, ↓x_X2_layRow_112, ↓x_X2_layRow_114, ↓x_X2_layRow_117, ↓x_X2_layRow_118, ↓x_X2_layRow_119, ↓x_X2_layRow_122, ↓x_X2_layRow_123, ↓x_X2_layRow_124, ↓x_X2_layRow_125, ↓x_X2_layRow_127, ↓x_X2_layRow_130, n1, n2, n0, ↓gK_of K.2.1, ↓gL_of K.2.2.2.2.2, ↓gK_of q1, ↓reduceIte, hom, ↓cKI c1, m1]
  refine f1.trans ?_
  simp only [↓x_X2_layRow_0, ↓x_X2_layRow_1, ↓x_X2_layRow_4, ↓x_X2_layRow_5, ↓x_X2_layRow_6, ↓x_X2_layRow_9, ↓x_X2_layRow_10, ↓x_X2_layRow_13, ↓x_X2_layRow_14, ↓x_X2_layRow_15, ↓x_X2_layRow_18, ↓x_X2_layRow_19, ↓x_X2_layRow_20, ↓x_X2_layRow_22, ↓x_X2_layRow_24, ↓x_X2_layRow_25, ↓x_X2_layRow_26, ↓x_X2_layRow_28, ↓x_X2_layRow_31, ↓x_X2_layRow_32, ↓x_X2_layRow_33, ↓x_X2_layRow_35, ↓x_X2_layRow_36, ↓x_X2_layRow_40, ↓x_X2_layRow_41, ↓x_X2_layRow_42, ↓x_X2_layRow_43, ↓x_X2_layRow_46, ↓x_X2_layRow_48, ↓x_X2_layRow_49, ↓x_X2_layRow_52, ↓x_X2_layRow_53, ↓x_X2_layRow_56, ↓x_X2_layRow_58, ↓x_X2_layRow_59, ↓x_X2_layRow_62, ↓x_X2_layRow_64, ↓x_X2_layRow_67, ↓x_X2_layRow_68, ↓x_X2_layRow_70, ↓x_X2_layRow_71, ↓x_X2_layRow_72, ↓x_X2_layRow_74, ↓x_X2_layRow_76, ↓x_X2_layRow_78, ↓x_X2_layRow_79, ↓x_X2_layRow_80, ↓x_X2_layRow_82, ↓x_X2_layRow_83, ↓x_X2_layRow_86, ↓x_X2_layRow_88, ↓x_X2_layRow_89, ↓x_X2_layRow_92, ↓x_X2_layRow_93, ↓x_X2_layRow_94, ↓x_X2_layRow_95, ↓x_X2_layRow_98, ↓x_X2_layRow_101, ↓x_X2_layRow_104, ↓x_X2_layRow_105, ↓x_X2_layRow_106, ↓x_X2_layRow_107, ↓x_X2_layRow_108, ↓x_X2_layRow_109, ↓x_X2_layRow_111, ↓x_X2_layRow_112, ↓x_X2_layRow_114, ↓x_X2_layRow_117, ↓x_X2_layRow_118, ↓x_X2_layRow_122, ↓x_X2_layRow_123, ↓x_X2_layRow_124, ↓x_X2_layRow_125, ↓x_X2_layRow_127, ↓x_X2_layRow_130, e1, hom1, ↓cKI c2, m2]
  simp only [↓x_X2_layRow_0, ↓x_X2_layRow_1, ↓x_X2_layRow_4, ↓x_X2_layRow_5, ↓x_X2_layRow_6, ↓x_X2_layRow_9, ↓x_X2_layRow_10, ↓x_X2_layRow_13, ↓x_X2_layRow_14, ↓x_X2_layRow_15, ↓x_X2_layRow_18, ↓x_X2_layRow_19, ↓x_X2_layRow_20, ↓x_X2_layRow_22, ↓x_X2_layRow_24, ↓x_X2_layRow_25, ↓x_X2_layRow_26, ↓x_X2_layRow_28, ↓x_X2_layRow_31, ↓x_X2_layRow_32, ↓x_X2_layRow_33, ↓x_X2_layRow_35, ↓x_X2_layRow_36, ↓x_X2_layRow_40, ↓x_X2_layRow_41, ↓x_X2_layRow_42, ↓x_X2_layRow_43, ↓x_X2_layRow_46, ↓x_X2_layRow_48, ↓x_X2_layRow_49, ↓x_X2_layRow_52, ↓x_X2_layRow_53, ↓x_X2_layRow_56, ↓x_X2_layRow_58, ↓x_X2_layRow_59, ↓x_X2_layRow_62, ↓x_X2_layRow_64, ↓x_X2_layRow_67, ↓x_X2_layRow_68, ↓x_X2_layRow_70, ↓x_X2_layRow_71, ↓x_X2_layRow_72, ↓x_X2_layRow_74, ↓x_X2_layRow_76, ↓x_X2_layRow_78, ↓x_X2_layRow_79, ↓x_X2_layRow_80, ↓x_X2_layRow_82, ↓x_X2_layRow_83, ↓x_X2_layRow_86, ↓x_X2_layRow_88, ↓x_X2_layRow_89, ↓x_X2_layRow_92, ↓x_X2_layRow_93, ↓x_X2_layRow_94, ↓x_X2_layRow_95, ↓x_X2_layRow_98, ↓x_X2_layRow_101, ↓x_X2_layRow_104, ↓x_X2_layRow_105, ↓x_X2_layRow_106, ↓x_X2_layRow_107, ↓x_X2_layRow_108, ↓x_X2_layRow_109, ↓x_X2_layRow_111, ↓x_X2_layRow_112, ↓x_X2_layRow_114, ↓x_X2_layRow_117, ↓x_X2_layRow_118, ↓x_X2_layRow_119, ↓x_X2_layRow_122, ↓x_X2_layRow_123, ↓x_X2_layRow_124, ↓x_X2_layRow_125, ↓x_X2_layRow_127, ↓x_X2_layRow_130, ho1, ↓cKV c3, ho2, ↓cKV c4]
/-- the levels of the elimination, and what each divides by -/
def bseq (C : Nat → Nat → Int) (R : Nat) : Nat → (Nat → Nat → Int) × Int
  | 0 => (C, 1)
  | k + 1 => (bst (bseq C R k).1 k (bseq C R k).2 R R (k + 1), (bseq C R k).1 k k)
theorem l_val {C : Nat → Nat → Int} {R : Nat} {st set : Nat} (ha : 11 ≤ a) (hm : m ≤ 4) (hpy : PB n py) (hw : WB n w) (hp : p ≤ 7) (hq : q ≤ 8) (hus : ∀ i, i ≤ m → us i < n) : ∀ (d r : Nat) (h : AH), r + d = m + 1 → RK h → Mach h a kd n py w → StU h us m → CellsAt h (rowA (eqA p q n py w us m) C (m + 2) r 0) →
    ∃ h', X mX2_valueOf 12 [aR (some 3), aR (some a), aI st, aI set, aI p, aI q, aI ((m + 1 : Nat) : Int), aI r] [] h = X mX2_valueOf 38 [aR (some 3), aR (some a), aI st, aI set, aI p, aI q, aI ((m + 1 : Nat) : Int), aI ((m + 1 : Nat) : Int)] [] h' ∧ SameR Rc h h' ∧ CellsAt h' (rowA (eqA p q n py w us m) C (m + 2) (m + 1) 0) := by
  intro d
  induction d with
  | zero =>
    intro r h hd K M S H
    have e : r = m + 1 := by omega
    subst e
    refine ⟨h, ?_, SameR.rf, H⟩
    have n1 : ((m + 1 : Nat) : Int) ≤ ((m + 1 : Nat) : Int) := Int.le_refl _
    rw [x_X2_valueOf_12]
    simp only [↓x_X2_valueOf_0, ↓x_X2_valueOf_1, ↓x_X2_valueOf_2, ↓x_X2_valueOf_3, ↓x_X2_valueOf_4, ↓x_X2_valueOf_7, ↓x_X2_valueOf_9, ↓x_X2_valueOf_10, ↓x_X2_valueOf_14, ↓x_X2_valueOf_16, ↓x_X2_valueOf_19, ↓x_X2_valueOf_20, ↓x_X2_valueOf_21, ↓x_X2_valueOf_23, ↓x_X2_valueOf_25, ↓x_X2_valueOf_27, ↓x_X2_valueOf_29, ↓x_X2_valueOf_32, ↓x_X2_valueOf_35, ↓x_X2_valueOf_39, ↓x_X2_valueOf_41, ↓x_X2_valueOf_44, ↓x_X2_valueOf_45, ↓x_X2_valueOf_48, ↓x_X2_valueOf_49, ↓x_X2_valueOf_51, ↓x_X2_valueOf_52, ↓x_X2_valueOf_53, ↓x_X2_valueOf_55, ↓x_X2_valueOf_56, ↓x_X2_valueOf_57, ↓x_X2_valueOf_60, ↓x_X2_valueOf_61, ↓x_X2_valueOf_63, ↓x_X2_valueOf_64, ↓x_X2_valueOf_65, ↓x_X2_valueOf_67, ↓x_X2_valueOf_70, ↓x_X2_valueOf_73, ↓x_X2_valueOf_74, ↓x_X2_valueOf_77, n1, ↓reduceIte]
  | succ d ih =>
    intro r h hd K M S H
    have n1 : ¬ (((m + 1 : Nat) : Int) ≤ (r : Int)) := by omega
    have e5 : w32 ((r : Int) + 1) = ((r + 1 : Nat) : Int) := by rw [w32_in] <;> omega
    have ho : isO h 2 3 = true := isO_rd K.1
    obtain ⟨h1, f1, f2, f3⟩ := c_layRow ha hm (r := r) (by omega) hpy hw hp hq hus K M S H
    have hrow : rowA (eqA p q n py w us m) C (m + 2) r (m + 2) = rowA (eqA p q n py w us m) C (m + 2) (r + 1) 0 := by
      funext i j
      unfold rowA
      by_cases z : (i < r ∧ j < m + 2) ∨ (i = r ∧ j < m + 2)
      · rw [if_pos z, if_pos (by omega)]
      · rw [if_neg z, if_neg (by omega)]
    rw [hrow] at f3
    have M1 := M.same (Rg := Rc) (fun z => by cases z.1) (fun z => by cases z.1) (fun z => by cases z.1) (fun z => by cases z.1) f2
    obtain ⟨h', g1, g2, g3⟩ := ih (r + 1) h1 (by omega) (K.same Rc_no2 f2) M1 (S.same (fun z => by cases z.1) f2) f3
    refine ⟨h', ?_, f2.tr g2, g3⟩
    rw [← g1, x_X2_valueOf_12]
    simp only [↓x_X2_valueOf_0, ↓x_X2_valueOf_1, ↓x_X2_valueOf_2, ↓x_X2_valueOf_3, ↓x_X2_valueOf_4, ↓x_X2_valueOf_7, ↓x_X2_valueOf_9, ↓x_X2_valueOf_10, ↓x_X2_valueOf_14, ↓x_X2_valueOf_16, ↓x_X2_valueOf_19, ↓x_X2_valueOf_20, ↓x_X2_valueOf_21, ↓x_X2_valueOf_23, ↓x_X2_valueOf_25, ↓x_X2_valueOf_27, ↓x_X2_valueOf_29, ↓x_X2_valueOf_32, ↓x_X2_valueOf_35, ↓x_X2_valueOf_39, ↓x_X2_valueOf_41, ↓x_X2_valueOf_44, ↓x_X2_valueOf_45, ↓x_X2_valueOf_48, ↓x_X2_valueOf_49, ↓x_X2_valueOf_51, ↓x_X2_valueOf_52, ↓x_X2_valueOf_53, ↓x_X2_valueOf_55, ↓x_X2_valueOf_56, ↓x_X2_valueOf_57, ↓x_X2_valueOf_60, ↓x_X2_valueOf_61, ↓x_X2_valueOf_63, ↓x_X2_valueOf_64, ↓x_X2_valueOf_65, ↓x_X2_valueOf_67, ↓x_X2_valueOf_70, ↓x_X2_valueOf_73, ↓x_X2_valueOf_74, ↓x_X2_valueOf_77, n1, ↓reduceIte, ho, ↓cKV f1, e5]
end LAY
