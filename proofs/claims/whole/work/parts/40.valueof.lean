theorem nP_surj {P : Nat → Bool} : ∀ (s i : Nat), i < nP P s → ∃ t, t < s ∧ P t = true ∧ nP P t = i
  | 0, i, h => by simp [nP] at h
  | s + 1, i, h => by
    rw [nP] at h
    by_cases hP : P s = true
    · rw [if_pos hP] at h
      by_cases e : i = nP P s
      · exact ⟨s, by omega, hP, e.symm⟩
      · obtain ⟨t, h1, h2⟩ := nP_surj (P := P) s i (by omega)
        exact ⟨t, by omega, h2⟩
    · rw [if_neg hP] at h
      obtain ⟨t, h1, h2⟩ := nP_surj (P := P) s i (by omega)
      exact ⟨t, by omega, h2⟩
def Rv (t a : Nat) : Prop := Rc t a ∨ Rs t a ∨ (t = 0 ∧ a = 6)
theorem Rv_no {t : Nat} (h1 : t ≠ 11) (h2 : t ≠ 10) (h3 : t ≠ 0) (a : Nat) : ¬ Rv t a := by
  rintro (h | h | h)
  · exact h1 h.1
  · exact h2 h.1
  · exact h3 h.1
theorem Mach.v {a n : Nat} {k : Int} {py : Nat → Int} {w : Nat → Nat → Int} (ha : 11 ≤ a) {h h' : AH} (s : SameR Rv h h') (M : Mach h a k n py w) : Mach h' a k n py w :=
  M.same (Rv_no (by decide) (by decide) (by decide) _) (fun z => by rcases z with z | z | z <;> obtain ⟨z1, z2⟩ := z <;> omega) (fun z => by rcases z with z | z | z <;> obtain ⟨z1, z2⟩ := z <;> omega) (Rv_no (by decide) (by decide) (by decide) _) s
theorem fset_same {Rg : Nat → Nat → Prop} {f : Nat} (q : Rg 0 f) (h : AH) (r : Rat) : SameR Rg h (fset h f r) := (SameR.wr q).tr (SameR.wr q)
/-- the Reckoner's cells, whatever they hold -/
def RKF (h : AH) : Prop := RK h ∧ (∃ C, CellsAt h C) ∧ (∃ u, StAt h u) ∧ (∃ x y, rd h 0 6 0 = some x ∧ rd h 0 6 1 = some y) ∧ (∃ x y, rd h 0 7 0 = some x ∧ rd h 0 7 1 = some y)
section VO
variable {a n : Nat} {kd : Int} {py : Nat → Int} {w : Nat → Nat → Int} {p q : Nat}
theorem c_valueOf {h : AH} {st set : Nat} (ha : 11 ≤ a) (K : RKF h) (M : Mach h a kd n py w) (hpy : PB n py) (hw : WB n w) (hp : 1 ≤ p ∧ p < q ∧ q ≤ 8) (hst : st < n) (hset : set < 32) :
    ∃ h' r, E mX2_valueOf [aR (some 3), aR (some a), aI st, aI set, aI p, aI q] h = some (some (aR (some 6)), h') ∧ SameR Rv h h' ∧ FrAt h' 6 r ∧ IsV n (rAl q n w) (rW p w) (rPy py) st (Nat.testBit set) r ∧ RB r ∧ RKF h' := by
  obtain ⟨K0, ⟨C0, HC⟩, ⟨u0, HU⟩, ⟨x6, y6, hx6, hy6⟩, ⟨x7, y7, hx7, hy7⟩⟩ := K
  have hn : n ≤ 5 := M.1.2
  obtain ⟨h1, u1, f1, f2, f3, f4, f5⟩ := c_list hn hset hst K0 M.2.2.1 HU
  generalize hm : nP (wo (Nat.testBit set) st) n = m at f1 f5
  have hus0 : ∀ i, i ≤ m → u1 i = (((u1 i).toNat : Nat) : Int) ∧ (u1 i).toNat < n := by
    intro i hi
    by_cases e : i = m
    · subst e; rw [f5]; exact ⟨by omega, by omega⟩
    · obtain ⟨t, t1, t2, t3⟩ := nP_surj (P := wo (Nat.testBit set) st) n i (by omega)
      have := f4 t t1 t2
      rw [t3] at this
      rw [this]
      exact ⟨by omega, by omega⟩
  obtain ⟨us, hus⟩ : ∃ us : Nat → Nat, us = fun i => (u1 i).toNat := ⟨_, rfl⟩
  have hu : ∀ t, t < n → wo (Nat.testBit set) st t = true → us (nP (wo (Nat.testBit set) st) t) = t := fun t h1 h2 => by
    rw [hus]
    show (u1 (nP (wo (Nat.testBit set) st) t)).toNat = t
    rw [f4 t h1 h2]; simp
  have hs : us m = st := by
    rw [hus]
    show (u1 m).toNat = st
    rw [f5]; simp
  have husn : ∀ i, i ≤ m → us i < n := fun i hi => by rw [hus]; exact (hus0 i hi).2
  have SU : StU h1 us m := fun i hi => by
    have hm4 := nP_miss (P := wo (Nat.testBit set) st) (s := st) (by unfold wo; simp) n hst
    rw [f3 i (by omega), hus]
    exact congrArg (fun z => some (aI z)) (hus0 i hi).1
  obtain ⟨hm4, L, v1, v2, v3, v4, isv⟩ := val_isv hn hpy hw hp hst hm hu hs
  have sv1 : SameR Rv h h1 := f2.up fun t x z => Or.inr (Or.inl z)
  have K1 := K0.same Rs_no2 f2
  have M1 := M.v ha sv1
  have HC1 : CellsAt h1 C0 := HC.same (fun z => by cases z.1) f2
  have hr0 : rowA (eqA p q n py w us m) C0 (m + 2) 0 0 = C0 := by
    funext i j
    unfold rowA
    rw [if_neg (by omega)]
  obtain ⟨h2, g1, g2, g3⟩ := l_val (p := p) (q := q) (w := w) (py := py) (st := st) (set := set) (C := C0) (R := m + 1) ha hm4 hpy hw (by omega) hp.2.2 husn (m + 1) 0 h1 (by omega) K1 M1 SU (by rw [hr0]; exact HC1)
  have K2 := K1.same Rc_no2 g2
  have hC := eqF_hC (n := n) (py := py) (w := w) (p := p) (q := q) (us := us) (C := C0) (m := m)
  obtain ⟨h3, k1, k2, k3⟩ := c_elim (R := m + 1) (Cs := fun k => (bseq (rowA (eqA p q n py w us m) C0 (m + 2) (m + 1) 0) (m + 1) k).1) (bf := fun k => (bseq (rowA (eqA p q n py w us m) C0 (m + 2) (m + 1) 0) (m + 1) k).2) (h := h2) ⟨by omega, by omega⟩ rfl (fun k _ => ⟨rfl, rfl⟩) (fun k hk => bseq_ok hm4 L hC k (by omega)) K2 g3
  have K3 := K2.same Rc_no2 k2
  obtain ⟨_, hb⟩ := bseq_at hm4 L hC m (Nat.le_refl m)
  have eA := hb m m (Nat.le_refl m) (by omega) (Nat.le_refl m) (by omega)
  have eB := hb m (m + 1) (Nat.le_refl m) (by omega) (by omega) (by omega)
  rw [show ph m m = m + 1 from if_neg (by omega)] at eA
  rw [show ph m (m + 1) = m + 2 from if_neg (by omega)] at eB
  simp only [Nat.add_sub_cancel] at k3
  have c1 := c_cellAt K3 k3 (r := m) (c := m) (by omega) (by omega)
  have c2 := c_cellAt K3 k3 (r := m) (c := m + 1) (by omega) (by omega)
  rw [eA] at c1
  rw [eB] at c2
  generalize hA : Mk (eqF p q n py w us m) m m (m + 1) = A at c1 v3 v4 isv
  generalize hB : Mk (eqF p q n py w us m) m m (m + 2) = B at c2 v1 v2 isv
  obtain ⟨b, rfl⟩ := Int.eq_ofNat_of_zero_le (show 0 ≤ B by omega)
  rw [Int.toNat_natCast] at isv
  have sc : SameR Rv h h3 := (sv1.tr (g2.up fun t x z => Or.inl z)).tr (k2.up fun t x z => Or.inl z)
  have s06 : ∀ k, rd h3 0 6 k = rd h 0 6 k := fun k => by
    rw [k2.1 _ _ _ (fun z => by cases z.1), g2.1 _ _ _ (fun z => by cases z.1), f2.1 _ _ _ (fun z => by cases z.1)]
  have hx6' : rd h3 0 6 0 = some x6 := by rw [s06]; exact hx6
  have hy6' : rd h3 0 6 1 = some y6 := by rw [s06]; exact hy6
  have c3 := c_become (f := 6) (a := A) (b := b) hx6' hy6' ⟨by omega, by omega⟩ ⟨by omega, by omega⟩
  have bd := mk_b (a := A) (b := b) (by omega)
  have sf : SameR Rv h3 (fset h3 6 (mkRat A b)) := fset_same (Or.inr (Or.inr ⟨rfl, rfl⟩)) _ _
  have s6 : ∀ t x k, t ≠ 0 ∨ x ≠ 6 → rd (fset h3 6 (mkRat A b)) t x k = rd h3 t x k := fun t x k z => fset_ne _ z
  refine ⟨fset h3 6 (mkRat A b), mkRat A b, ?_, sc.tr sf, fset_at hx6' hy6' _, isv, ⟨by omega, by omega, by omega⟩, ?_⟩
  · have ho0 : isO h 2 3 = true := isO_rd K0.1
    have ho2 : isO h2 2 3 = true := isO_rd K2.1
    have ho3 : isO h3 2 3 = true := isO_rd K3.1
    have hof : isO h3 0 6 = true := isO_rd hx6'
    have k62 : rd h3 2 3 2 = some (aR (some 6)) := K3.2.2.1
    have e1 : w32 (((m + 1 : Nat) : Int) - 1) = (m : Int) := by rw [w32_in] <;> omega
    have e62 : rd (fset h3 6 (mkRat A b)) 2 3 2 = some (aR (some 6)) := by rw [s6 _ _ _ (Or.inl (by decide))]; exact k62
    rw [e_X2_valueOf]
    simp only [↓x_X2_valueOf_0, ↓x_X2_valueOf_1, ↓x_X2_valueOf_2, ↓x_X2_valueOf_3, ↓x_X2_valueOf_4, ↓x_X2_valueOf_7, ↓x_X2_valueOf_9, ↓x_X2_valueOf_10, ↓x_X2_valueOf_14, ↓x_X2_valueOf_16, ↓x_X2_valueOf_19, ↓x_X2_valueOf_20, ↓x_X2_valueOf_21, ↓x_X2_valueOf_23, ↓x_X2_valueOf_25, ↓x_X2_valueOf_27, ↓x_X2_valueOf_29, ↓x_X2_valueOf_32, ↓x_X2_valueOf_35, ↓x_X2_valueOf_39, ↓x_X2_valueOf_41, ↓x_X2_valueOf_44, ↓x_X2_valueOf_45, ↓x_X2_valueOf_48, ↓x_X2_valueOf_49, ↓x_X2_valueOf_51, ↓x_X2_valueOf_52, ↓x_X2_valueOf_53, ↓x_X2_valueOf_55, ↓x_X2_valueOf_56, ↓x_X2_valueOf_57, ↓x_X2_valueOf_60, ↓x_X2_valueOf_61, ↓x_X2_valueOf_63, ↓x_X2_valueOf_64, ↓x_X2_valueOf_65, ↓x_X2_valueOf_67, ↓x_X2_valueOf_70, ↓x_X2_valueOf_73, ↓x_X2_valueOf_74, ↓x_X2_valueOf_77, ho0, ↓cKI f1]
    refine g1.trans ?_
    simp only [↓x_X2_valueOf_0, ↓x_X2_valueOf_1, ↓x_X2_valueOf_2, ↓x_X2_valueOf_3, ↓x_X2_valueOf_4, ↓x_X2_valueOf_7, ↓x_X2_valueOf_9, ↓x_X2_valueOf_10, ↓x_X2_valueOf_14, ↓x_X2_valueOf_16, ↓x_X2_valueOf_19, ↓x_X2_valueOf_20, ↓x_X2_valueOf_21, ↓x_X2_valueOf_23, ↓x_X2_valueOf_25, ↓x_X2_valueOf_27, ↓x_X2_valueOf_29, ↓x_X2_valueOf_32, ↓x_X2_valueOf_35, ↓x_X2_valueOf_38, ↓x_X2_valueOf_39, ↓x_X2_valueOf_41, ↓x_X2_valueOf_44, ↓x_X2_valueOf_45, ↓x_X2_valueOf_48, ↓x_X2_valueOf_49, ↓x_X2_valueOf_51, ↓x_X2_valueOf_52, ↓x_X2_valueOf_53, ↓x_X2_valueOf_55, ↓x_X2_valueOf_56, ↓x_X2_valueOf_60, ↓x_X2_valueOf_61, ↓x_X2_valueOf_63, ↓x_X2_valueOf_64, ↓x_X2_valueOf_65, ↓x_X2_valueOf_67, ↓x_X2_valueOf_70, ↓x_X2_valueOf_73, ↓x_X2_valueOf_74, ↓x_X2_valueOf_77, ho2, ↓cKV k1, ↓gK_of k62, e1]
    simp only [↓x_X2_valueOf_0, ↓x_X2_valueOf_1, ↓x_X2_valueOf_2, ↓x_X2_valueOf_3, ↓x_X2_valueOf_4, ↓x_X2_valueOf_7, ↓x_X2_valueOf_9, ↓x_X2_valueOf_10, ↓x_X2_valueOf_14, ↓x_X2_valueOf_16, ↓x_X2_valueOf_19, ↓x_X2_valueOf_20, ↓x_X2_valueOf_21, ↓x_X2_valueOf_23, ↓x_X2_valueOf_25, ↓x_X2_valueOf_27, ↓x_X2_valueOf_29, ↓x_X2_valueOf_32, ↓x_X2_valueOf_35, ↓x_X2_valueOf_38, ↓x_X2_valueOf_39, ↓x_X2_valueOf_41, ↓x_X2_valueOf_44, ↓x_X2_valueOf_45, ↓x_X2_valueOf_48, ↓x_X2_valueOf_49, ↓x_X2_valueOf_51, ↓x_X2_valueOf_52, ↓x_X2_valueOf_53, ↓x_X2_valueOf_55, ↓x_X2_valueOf_56, ↓x_X2_valueOf_57, ↓x_X2_valueOf_60, ↓x_X2_valueOf_61, ↓x_X2_valueOf_63, ↓x_X2_valueOf_64, ↓x_X2_valueOf_65, ↓x_X2_valueOf_70, ↓x_X2_valueOf_73, ↓x_X2_valueOf_74, ↓x_X2_valueOf_77, ho3, ↓cKJ c1, e1]
    simp only [↓x_X2_valueOf_0, ↓x_X2_valueOf_1, ↓x_X2_valueOf_2, ↓x_X2_valueOf_3, ↓x_X2_valueOf_4, ↓x_X2_valueOf_7, ↓x_X2_valueOf_9, ↓x_X2_valueOf_10, ↓x_X2_valueOf_14, ↓x_X2_valueOf_16, ↓x_X2_valueOf_19, ↓x_X2_valueOf_20, ↓x_X2_valueOf_21, ↓x_X2_valueOf_23, ↓x_X2_valueOf_25, ↓x_X2_valueOf_27, ↓x_X2_valueOf_29, ↓x_X2_valueOf_32, ↓x_X2_valueOf_35, ↓x_X2_valueOf_38, ↓x_X2_valueOf_39, ↓x_X2_valueOf_41, ↓x_X2_valueOf_44, ↓x_X2_valueOf_45, ↓x_X2_valueOf_48, ↓x_X2_valueOf_49, ↓x_X2_valueOf_51, ↓x_X2_valueOf_52, ↓x_X2_valueOf_53, ↓x_X2_valueOf_55, ↓x_X2_valueOf_56, ↓x_X2_valueOf_57, ↓x_X2_valueOf_60, ↓x_X2_valueOf_61, ↓x_X2_valueOf_63, ↓x_X2_valueOf_64, ↓x_X2_valueOf_65, ↓x_X2_valueOf_67, ↓x_X2_valueOf_70, ↓x_X2_valueOf_73, ↓x_X2_valueOf_74, ↓x_X2_valueOf_77, ho3, ↓cKJ c2, hof, ↓cKV c3, ↓gK_of e62]
  · refine ⟨K3.same (Rg := Rv) (fun a => Rv_no (by decide) (by decide) (by decide) a) sf, ⟨_, fun i j hi hj => by rw [s6 _ _ _ (Or.inl (by decide))]; exact k3 i j hi hj⟩, ⟨u1, fun i hi => ?_⟩, ⟨_, _, (fset_at hx6' hy6' _).1, (fset_at hx6' hy6' _).2⟩, ⟨x7, y7, ?_, ?_⟩⟩
    · rw [s6 _ _ _ (Or.inl (by decide)), k2.1 _ _ _ (fun z => by cases z.1), g2.1 _ _ _ (fun z => by cases z.1)]
      exact f3 i hi
    · rw [(sc.tr sf).1 _ _ _ (fun z => by rcases z with z | z | z <;> obtain ⟨z1, z2⟩ := z <;> omega)]; exact hx7
    · rw [(sc.tr sf).1 _ _ _ (fun z => by rcases z with z | z | z <;> obtain ⟨z1, z2⟩ := z <;> omega)]; exact hy7
end VO
