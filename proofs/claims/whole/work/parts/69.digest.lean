/-! ===== digest ===== -/
def mixZ (h v : Int) : Int := w64 (w64 (31 * h) + v)
theorem c_mix {h : AH} {x v : Int} : E mX4_mix [aJ x, aJ v] h = some (some (aJ (mixZ x v)), h) := by
  unfold mixZ
  rw [e_X4_mix]
  simp only [↓x_X4_mix_0, ↓x_X4_mix_3, ↓x_X4_mix_4, ↓x_X4_mix_5, ↓x_X4_mix_6, ↓x_X4_mix_7]
def fld (f : Nat → Int) : Nat → Int → Int
  | 0, x => x
  | n + 1, x => mixZ (fld f n x) (f n)
def dgM (S : SS) (m : Nat) : Nat → Int → Int
  | 0, x => x
  | s + 1, x => fld (wS S m s) (nS S m) (mixZ (dgM S m s x) (pyS S m s))
def dgMs (S : SS) : Nat → Int → Int
  | 0, x => x
  | k + 1, x => dgM S k (nS S k) (mixZ (mixZ (mixZ (dgMs S k x) (S 1 k 0 0)) (S 1 k 1 0)) (S 1 k 6 0))
def dgSs (S : SS) : Nat → Int → Int
  | 0, x => x
  | k + 1, x => if S 4 k 2 0 = 0 then fld (fun i => S 5 k i 0) (S 4 k 1 0).toNat (mixZ (dgSs S k x) (S 4 k 1 0)) else mixZ (dgSs S k x) (-1)
def o_digest (S : SS) : Int × SS := (dgSs S (sS S) (dgMs S (mS S) (mixZ (mixZ (mixZ 17 (S 0 8 0 0)) (S 0 9 0 0)) (S 0 10 0 0))), S)
section DG
variable {S : SS} {h : AH} {a : Nat} {m : Nat} {h0 : Int}
theorem l_mm2 (M : Mach h a (S 1 m 0 0) (nS S m) (pyS S m) (wS S m)) {s : Nat} (hs : s < nS S m) {x0 : Int} : ∀ (d t : Nat), t + d = nS S m → X mX4_mixMachine 59 [aJ h0, aU, aR (some a), aJ (fld (wS S m s) t x0), aU, aI s, aI t] [] h = X mX4_mixMachine 88 [aJ h0, aU, aR (some a), aJ (fld (wS S m s) (nS S m) x0), aU, aI s, aI (nS S m)] [] h := by
  have g1 := M.2.2.1
  have hn5 := M.1.2
  have hoM : isO h 1 a = true := isO_rd g1
  intro d
  induction d with
  | zero =>
    intro t hd
    have e : t = nS S m := by omega
    subst e
    have n1 : ((nS S m : Nat) : Int) ≤ ((nS S m : Nat) : Int) := Int.le_refl _
    rw [x_X4_mixMachine_59]
    simp only [↓x_X4_mixMachine_0, ↓x_X4_mixMachine_1n, ↓x_X4_mixMachine_1s, ↓x_X4_mixMachine_4, ↓x_X4_mixMachine_5, ↓x_X4_mixMachine_6, ↓x_X4_mixMachine_7, ↓x_X4_mixMachine_8, ↓x_X4_mixMachine_11, ↓x_X4_mixMachine_12, ↓x_X4_mixMachine_15, ↓x_X4_mixMachine_16, ↓x_X4_mixMachine_19, ↓x_X4_mixMachine_20, ↓x_X4_mixMachine_23, ↓x_X4_mixMachine_24, ↓x_X4_mixMachine_27, ↓x_X4_mixMachine_28, ↓x_X4_mixMachine_31, ↓x_X4_mixMachine_32, ↓x_X4_mixMachine_33, ↓x_X4_mixMachine_35, ↓x_X4_mixMachine_37, ↓x_X4_mixMachine_38, ↓x_X4_mixMachine_41, ↓x_X4_mixMachine_44, ↓x_X4_mixMachine_45, ↓x_X4_mixMachine_46, ↓x_X4_mixMachine_48, ↓x_X4_mixMachine_51, ↓x_X4_mixMachine_52, ↓x_X4_mixMachine_55, ↓x_X4_mixMachine_56, ↓x_X4_mixMachine_57, ↓x_X4_mixMachine_61, ↓x_X4_mixMachine_62, ↓x_X4_mixMachine_65, ↓x_X4_mixMachine_68, ↓x_X4_mixMachine_69, ↓x_X4_mixMachine_70, ↓x_X4_mixMachine_72, ↓x_X4_mixMachine_74, ↓x_X4_mixMachine_77, ↓x_X4_mixMachine_78, ↓x_X4_mixMachine_81, ↓x_X4_mixMachine_82, ↓x_X4_mixMachine_85, ↓x_X4_mixMachine_91, ↓x_X4_mixMachine_94, ↓x_X4_mixMachine_95, ↓gK_of g1, n1, ↓reduceIte]
  | succ d ih =>
    intro t hd
    have n3 : ¬ ((nS S m : Nat) : Int) ≤ (t : Int) := by omega
    have ht5 : t ≤ 1000 := by omega
    have cw := c_weightAt M hs (t := t) (by omega)
    rw [← ih (t + 1) (by omega), x_X4_mixMachine_59, fld]
    simp only [↓x_X4_mixMachine_0, ↓x_X4_mixMachine_1n, ↓x_X4_mixMachine_1s, ↓x_X4_mixMachine_4, ↓x_X4_mixMachine_5, ↓x_X4_mixMachine_6, ↓x_X4_mixMachine_7, ↓x_X4_mixMachine_8, ↓x_X4_mixMachine_11, ↓x_X4_mixMachine_12, ↓x_X4_mixMachine_15, ↓x_X4_mixMachine_16, ↓x_X4_mixMachine_19, ↓x_X4_mixMachine_20, ↓x_X4_mixMachine_23, ↓x_X4_mixMachine_24, ↓x_X4_mixMachine_27, ↓x_X4_mixMachine_28, ↓x_X4_mixMachine_31, ↓x_X4_mixMachine_32, ↓x_X4_mixMachine_33, ↓x_X4_mixMachine_35, ↓x_X4_mixMachine_37, ↓x_X4_mixMachine_38, ↓x_X4_mixMachine_41, ↓x_X4_mixMachine_44, ↓x_X4_mixMachine_45, ↓x_X4_mixMachine_46, ↓x_X4_mixMachine_48, ↓x_X4_mixMachine_51, ↓x_X4_mixMachine_52, ↓x_X4_mixMachine_55, ↓x_X4_mixMachine_56, ↓x_X4_mixMachine_57, ↓x_X4_mixMachine_61, ↓x_X4_mixMachine_62, ↓x_X4_mixMachine_65, ↓x_X4_mixMachine_68, ↓x_X4_mixMachine_69, ↓x_X4_mixMachine_70, ↓x_X4_mixMachine_72, ↓x_X4_mixMachine_74, ↓x_X4_mixMachine_77, ↓x_X4_mixMachine_78, ↓x_X4_mixMachine_81, ↓x_X4_mixMachine_82, ↓x_X4_mixMachine_85, ↓x_X4_mixMachine_91, ↓x_X4_mixMachine_94, ↓x_X4_mixMachine_95, ↓gK_of g1, n3, hoM, ↓cKI cw, ↓cKJ c_mix, w32_s ht5, ↓reduceIte]
theorem l_mm1 (M : Mach h a (S 1 m 0 0) (nS S m) (pyS S m) (wS S m)) {x0 : Int} : ∀ (d s : Nat) (v6 : AV), s + d = nS S m → X mX4_mixMachine 35 [aJ h0, aU, aR (some a), aJ (dgM S m s x0), aU, aI s, v6] [] h = some (some (aJ (dgM S m (nS S m) x0)), h) := by
  have g1 := M.2.2.1
  have hn5 := M.1.2
  have hoM : isO h 1 a = true := isO_rd g1
  intro d
  induction d with
  | zero =>
    intro s v6 hd
    have e : s = nS S m := by omega
    subst e
    have n1 : ((nS S m : Nat) : Int) ≤ ((nS S m : Nat) : Int) := Int.le_refl _
    rw [x_X4_mixMachine_35]
    simp only [↓x_X4_mixMachine_0, ↓x_X4_mixMachine_1n, ↓x_X4_mixMachine_1s, ↓x_X4_mixMachine_4, ↓x_X4_mixMachine_5, ↓x_X4_mixMachine_6, ↓x_X4_mixMachine_7, ↓x_X4_mixMachine_8, ↓x_X4_mixMachine_11, ↓x_X4_mixMachine_12, ↓x_X4_mixMachine_15, ↓x_X4_mixMachine_16, ↓x_X4_mixMachine_19, ↓x_X4_mixMachine_20, ↓x_X4_mixMachine_23, ↓x_X4_mixMachine_24, ↓x_X4_mixMachine_27, ↓x_X4_mixMachine_28, ↓x_X4_mixMachine_31, ↓x_X4_mixMachine_32, ↓x_X4_mixMachine_33, ↓x_X4_mixMachine_37, ↓x_X4_mixMachine_38, ↓x_X4_mixMachine_41, ↓x_X4_mixMachine_44, ↓x_X4_mixMachine_45, ↓x_X4_mixMachine_46, ↓x_X4_mixMachine_48, ↓x_X4_mixMachine_51, ↓x_X4_mixMachine_52, ↓x_X4_mixMachine_55, ↓x_X4_mixMachine_56, ↓x_X4_mixMachine_57, ↓x_X4_mixMachine_59, ↓x_X4_mixMachine_61, ↓x_X4_mixMachine_62, ↓x_X4_mixMachine_65, ↓x_X4_mixMachine_68, ↓x_X4_mixMachine_69, ↓x_X4_mixMachine_70, ↓x_X4_mixMachine_72, ↓x_X4_mixMachine_74, ↓x_X4_mixMachine_77, ↓x_X4_mixMachine_78, ↓x_X4_mixMachine_81, ↓x_X4_mixMachine_82, ↓x_X4_mixMachine_85, ↓x_X4_mixMachine_88, ↓x_X4_mixMachine_91, ↓x_X4_mixMachine_94, ↓x_X4_mixMachine_95, ↓gK_of g1, n1, ↓reduceIte]
  | succ d ih =>
    intro s v6 hd
    have hs : s < nS S m := by omega
    have n3 : ¬ ((nS S m : Nat) : Int) ≤ (s : Int) := by omega
    have hs5 : s ≤ 1000 := by omega
    have cp := c_payAt M hs
    have l2 := l_mm2 (h0 := h0) M hs (x0 := mixZ (dgM S m s x0) (pyS S m s)) (nS S m) 0 (by omega)
    rw [← ih (s + 1) (aI (nS S m : Nat)) (by omega), x_X4_mixMachine_35, dgM]
    simp only [↓x_X4_mixMachine_0, ↓x_X4_mixMachine_1n, ↓x_X4_mixMachine_1s, ↓x_X4_mixMachine_4, ↓x_X4_mixMachine_5, ↓x_X4_mixMachine_6, ↓x_X4_mixMachine_7, ↓x_X4_mixMachine_8, ↓x_X4_mixMachine_11, ↓x_X4_mixMachine_12, ↓x_X4_mixMachine_15, ↓x_X4_mixMachine_16, ↓x_X4_mixMachine_19, ↓x_X4_mixMachine_20, ↓x_X4_mixMachine_23, ↓x_X4_mixMachine_24, ↓x_X4_mixMachine_27, ↓x_X4_mixMachine_28, ↓x_X4_mixMachine_31, ↓x_X4_mixMachine_32, ↓x_X4_mixMachine_33, ↓x_X4_mixMachine_37, ↓x_X4_mixMachine_38, ↓x_X4_mixMachine_41, ↓x_X4_mixMachine_44, ↓x_X4_mixMachine_45, ↓x_X4_mixMachine_46, ↓x_X4_mixMachine_48, ↓x_X4_mixMachine_51, ↓x_X4_mixMachine_52, ↓x_X4_mixMachine_55, ↓x_X4_mixMachine_56, ↓x_X4_mixMachine_57, ↓x_X4_mixMachine_61, ↓x_X4_mixMachine_62, ↓x_X4_mixMachine_65, ↓x_X4_mixMachine_68, ↓x_X4_mixMachine_69, ↓x_X4_mixMachine_70, ↓x_X4_mixMachine_72, ↓x_X4_mixMachine_74, ↓x_X4_mixMachine_77, ↓x_X4_mixMachine_78, ↓x_X4_mixMachine_81, ↓x_X4_mixMachine_82, ↓x_X4_mixMachine_85, ↓x_X4_mixMachine_88, ↓x_X4_mixMachine_91, ↓x_X4_mixMachine_94, ↓x_X4_mixMachine_95, ↓gK_of g1, n3, hoM, ↓cKI cp, ↓cKJ c_mix, ↓reduceIte]
    refine l2.trans ?_
    simp only [↓x_X4_mixMachine_0, ↓x_X4_mixMachine_1n, ↓x_X4_mixMachine_1s, ↓x_X4_mixMachine_4, ↓x_X4_mixMachine_5, ↓x_X4_mixMachine_6, ↓x_X4_mixMachine_7, ↓x_X4_mixMachine_8, ↓x_X4_mixMachine_11, ↓x_X4_mixMachine_12, ↓x_X4_mixMachine_15, ↓x_X4_mixMachine_16, ↓x_X4_mixMachine_19, ↓x_X4_mixMachine_20, ↓x_X4_mixMachine_23, ↓x_X4_mixMachine_24, ↓x_X4_mixMachine_27, ↓x_X4_mixMachine_28, ↓x_X4_mixMachine_31, ↓x_X4_mixMachine_32, ↓x_X4_mixMachine_33, ↓x_X4_mixMachine_37, ↓x_X4_mixMachine_38, ↓x_X4_mixMachine_41, ↓x_X4_mixMachine_44, ↓x_X4_mixMachine_45, ↓x_X4_mixMachine_46, ↓x_X4_mixMachine_48, ↓x_X4_mixMachine_51, ↓x_X4_mixMachine_52, ↓x_X4_mixMachine_55, ↓x_X4_mixMachine_56, ↓x_X4_mixMachine_57, ↓x_X4_mixMachine_61, ↓x_X4_mixMachine_62, ↓x_X4_mixMachine_65, ↓x_X4_mixMachine_68, ↓x_X4_mixMachine_69, ↓x_X4_mixMachine_70, ↓x_X4_mixMachine_72, ↓x_X4_mixMachine_74, ↓x_X4_mixMachine_77, ↓x_X4_mixMachine_78, ↓x_X4_mixMachine_81, ↓x_X4_mixMachine_82, ↓x_X4_mixMachine_85, ↓x_X4_mixMachine_88, ↓x_X4_mixMachine_91, ↓x_X4_mixMachine_94, ↓x_X4_mixMachine_95, w32_s hs5]
theorem c_mixM (H : MP S m h a) (en : ((nS S m : Nat) : Int) = S 1 m 1 0) : E mX4_mixMachine [aJ h0, aR (some a)] h = some (some (aJ (dgM S m (nS S m) (mixZ (mixZ (mixZ h0 (S 1 m 0 0)) (S 1 m 1 0)) (S 1 m 6 0)))), h) := by
  obtain ⟨M, -, g6, -⟩ := H
  have g0 := M.2.1
  have g1 := M.2.2.1
  have l1 := l_mm1 (h0 := h0) M (x0 := mixZ (mixZ (mixZ h0 (S 1 m 0 0)) (S 1 m 1 0)) (S 1 m 6 0)) (nS S m) 0 aU (by omega)
  rw [en] at g1
  rw [e_X4_mixMachine]
  simp only [↓x_X4_mixMachine_0, ↓x_X4_mixMachine_1n, ↓x_X4_mixMachine_1s, ↓x_X4_mixMachine_4, ↓x_X4_mixMachine_5, ↓x_X4_mixMachine_6, ↓x_X4_mixMachine_7, ↓x_X4_mixMachine_8, ↓x_X4_mixMachine_11, ↓x_X4_mixMachine_12, ↓x_X4_mixMachine_15, ↓x_X4_mixMachine_16, ↓x_X4_mixMachine_19, ↓x_X4_mixMachine_20, ↓x_X4_mixMachine_23, ↓x_X4_mixMachine_24, ↓x_X4_mixMachine_27, ↓x_X4_mixMachine_28, ↓x_X4_mixMachine_31, ↓x_X4_mixMachine_32, ↓x_X4_mixMachine_33, ↓x_X4_mixMachine_37, ↓x_X4_mixMachine_38, ↓x_X4_mixMachine_41, ↓x_X4_mixMachine_44, ↓x_X4_mixMachine_45, ↓x_X4_mixMachine_46, ↓x_X4_mixMachine_48, ↓x_X4_mixMachine_51, ↓x_X4_mixMachine_52, ↓x_X4_mixMachine_55, ↓x_X4_mixMachine_56, ↓x_X4_mixMachine_57, ↓x_X4_mixMachine_59, ↓x_X4_mixMachine_61, ↓x_X4_mixMachine_62, ↓x_X4_mixMachine_65, ↓x_X4_mixMachine_68, ↓x_X4_mixMachine_69, ↓x_X4_mixMachine_70, ↓x_X4_mixMachine_72, ↓x_X4_mixMachine_74, ↓x_X4_mixMachine_77, ↓x_X4_mixMachine_78, ↓x_X4_mixMachine_81, ↓x_X4_mixMachine_82, ↓x_X4_mixMachine_85, ↓x_X4_mixMachine_88, ↓x_X4_mixMachine_91, ↓x_X4_mixMachine_94, ↓x_X4_mixMachine_95, ↓gK_of g0, ↓gK_of g1, ↓gK_of g6, ↓cKJ c_mix]
  exact l1
theorem l_ms {k : Nat} (H : SP S k h a) (hn : 0 ≤ S 4 k 1 0 ∧ S 4 k 1 0 ≤ 24) {x0 : Int} : ∀ (d i : Nat), i + d = (S 4 k 1 0).toNat → X mX4_mixSheet 33 [aJ h0, aU, aR (some a), aJ (fld (fun i => S 5 k i 0) i x0), aU, aI i] [] h = some (some (aJ (fld (fun i => S 5 k i 0) (S 4 k 1 0).toNat x0)), h) := by
  obtain ⟨g0, g1, g2, g3, g4⟩ := H
  have e0 : (((S 4 k 1 0).toNat : Nat) : Int) = S 4 k 1 0 := by omega
  intro d
  induction d with
  | zero =>
    intro i hd
    have e : i = (S 4 k 1 0).toNat := by omega
    subst e
    have n1 : (((S 4 k 1 0).toNat : Nat) : Int) ≤ (((S 4 k 1 0).toNat : Nat) : Int) := Int.le_refl _
    rw [x_X4_mixSheet_33]
    simp only [↓x_X4_mixSheet_0, ↓x_X4_mixSheet_1n, ↓x_X4_mixSheet_1s, ↓x_X4_mixSheet_4, ↓x_X4_mixSheet_5, ↓x_X4_mixSheet_8, ↓x_X4_mixSheet_11, ↓x_X4_mixSheet_12, ↓x_X4_mixSheet_15, ↓x_X4_mixSheet_18, ↓x_X4_mixSheet_19, ↓x_X4_mixSheet_20, ↓x_X4_mixSheet_21, ↓x_X4_mixSheet_24, ↓x_X4_mixSheet_25, ↓x_X4_mixSheet_26, ↓x_X4_mixSheet_29, ↓x_X4_mixSheet_30, ↓x_X4_mixSheet_31, ↓x_X4_mixSheet_35, ↓x_X4_mixSheet_36, ↓x_X4_mixSheet_39, ↓x_X4_mixSheet_40, ↓x_X4_mixSheet_43, ↓x_X4_mixSheet_44, ↓x_X4_mixSheet_45, ↓x_X4_mixSheet_48, ↓x_X4_mixSheet_50, ↓x_X4_mixSheet_51, ↓x_X4_mixSheet_54, ↓x_X4_mixSheet_55, ↓x_X4_mixSheet_58, ↓x_X4_mixSheet_61, ↓x_X4_mixSheet_62, ↓gK_of g1, ↓gL_of g3, n1, ↓reduceIte]
  | succ d ih =>
    intro i hd
    have n3 : ¬ (((S 4 k 1 0).toNat : Nat) : Int) ≤ (i : Int) := by omega
    have hs5 : i ≤ 1000 := by omega
    have n4 : (0 : Int) ≤ (i : Int) := Int.natCast_nonneg _
    have q := g4 i (by omega)
    rw [← ih (i + 1) (by omega), x_X4_mixSheet_33, fld]
    simp only [↓x_X4_mixSheet_0, ↓x_X4_mixSheet_1n, ↓x_X4_mixSheet_1s, ↓x_X4_mixSheet_4, ↓x_X4_mixSheet_5, ↓x_X4_mixSheet_8, ↓x_X4_mixSheet_11, ↓x_X4_mixSheet_12, ↓x_X4_mixSheet_15, ↓x_X4_mixSheet_18, ↓x_X4_mixSheet_19, ↓x_X4_mixSheet_20, ↓x_X4_mixSheet_21, ↓x_X4_mixSheet_24, ↓x_X4_mixSheet_25, ↓x_X4_mixSheet_26, ↓x_X4_mixSheet_29, ↓x_X4_mixSheet_30, ↓x_X4_mixSheet_31, ↓x_X4_mixSheet_35, ↓x_X4_mixSheet_36, ↓x_X4_mixSheet_39, ↓x_X4_mixSheet_40, ↓x_X4_mixSheet_43, ↓x_X4_mixSheet_44, ↓x_X4_mixSheet_45, ↓x_X4_mixSheet_48, ↓x_X4_mixSheet_50, ↓x_X4_mixSheet_54, ↓x_X4_mixSheet_55, ↓x_X4_mixSheet_58, ↓x_X4_mixSheet_61, ↓x_X4_mixSheet_62, ↓gK_of g1, ↓gL_of g3, n3, n4, Int.toNat_natCast, gK_of q, ↓reduceIte]
    simp only [↓x_X4_mixSheet_0, ↓x_X4_mixSheet_1n, ↓x_X4_mixSheet_1s, ↓x_X4_mixSheet_4, ↓x_X4_mixSheet_5, ↓x_X4_mixSheet_8, ↓x_X4_mixSheet_11, ↓x_X4_mixSheet_12, ↓x_X4_mixSheet_15, ↓x_X4_mixSheet_18, ↓x_X4_mixSheet_19, ↓x_X4_mixSheet_20, ↓x_X4_mixSheet_21, ↓x_X4_mixSheet_24, ↓x_X4_mixSheet_25, ↓x_X4_mixSheet_26, ↓x_X4_mixSheet_29, ↓x_X4_mixSheet_30, ↓x_X4_mixSheet_31, ↓x_X4_mixSheet_35, ↓x_X4_mixSheet_36, ↓x_X4_mixSheet_39, ↓x_X4_mixSheet_40, ↓x_X4_mixSheet_43, ↓x_X4_mixSheet_44, ↓x_X4_mixSheet_45, ↓x_X4_mixSheet_48, ↓x_X4_mixSheet_50, ↓x_X4_mixSheet_51, ↓x_X4_mixSheet_54, ↓x_X4_mixSheet_55, ↓x_X4_mixSheet_58, ↓x_X4_mixSheet_61, ↓x_X4_mixSheet_62, ↓cKJ c_mix, w32_s hs5]
theorem c_mixS {k : Nat} (H : SP S k h a) (hn : 0 ≤ S 4 k 1 0 ∧ S 4 k 1 0 ≤ 24) : E mX4_mixSheet [aJ h0, aR (some a)] h = some (some (aJ (if S 4 k 2 0 = 0 then fld (fun i => S 5 k i 0) (S 4 k 1 0).toNat (mixZ h0 (S 4 k 1 0)) else mixZ h0 (-1))), h) := by
  have e0 : (((S 4 k 1 0).toNat : Nat) : Int) = S 4 k 1 0 := by omega
  have l1 := l_ms (h0 := h0) H hn (x0 := mixZ h0 (S 4 k 1 0)) (S 4 k 1 0).toNat 0 (by omega)
  obtain ⟨g0, g1, g2, g3, g4⟩ := H
  rw [e_X4_mixSheet]
  by_cases c : S 4 k 2 0 = 0
  · rw [if_pos c]
    rw [c] at g2
    simp only [↓x_X4_mixSheet_0, ↓x_X4_mixSheet_1n, ↓x_X4_mixSheet_1s, ↓x_X4_mixSheet_4, ↓x_X4_mixSheet_5, ↓x_X4_mixSheet_8, ↓x_X4_mixSheet_11, ↓x_X4_mixSheet_12, ↓x_X4_mixSheet_15, ↓x_X4_mixSheet_18, ↓x_X4_mixSheet_19, ↓x_X4_mixSheet_20, ↓x_X4_mixSheet_21, ↓x_X4_mixSheet_24, ↓x_X4_mixSheet_25, ↓x_X4_mixSheet_26, ↓x_X4_mixSheet_29, ↓x_X4_mixSheet_30, ↓x_X4_mixSheet_31, ↓x_X4_mixSheet_35, ↓x_X4_mixSheet_36, ↓x_X4_mixSheet_39, ↓x_X4_mixSheet_40, ↓x_X4_mixSheet_43, ↓x_X4_mixSheet_44, ↓x_X4_mixSheet_45, ↓x_X4_mixSheet_48, ↓x_X4_mixSheet_50, ↓x_X4_mixSheet_51, ↓x_X4_mixSheet_54, ↓x_X4_mixSheet_55, ↓x_X4_mixSheet_58, ↓x_X4_mixSheet_61, ↓x_X4_mixSheet_62, ↓gK_of g1, ↓gK_of g2, ↓gL_of g3, e0, ↓cKJ c_mix, ↓reduceIte]
    exact l1
  · rw [if_neg c]
    simp only [↓x_X4_mixSheet_0, ↓x_X4_mixSheet_1n, ↓x_X4_mixSheet_1s, ↓x_X4_mixSheet_4, ↓x_X4_mixSheet_5, ↓x_X4_mixSheet_8, ↓x_X4_mixSheet_11, ↓x_X4_mixSheet_12, ↓x_X4_mixSheet_15, ↓x_X4_mixSheet_18, ↓x_X4_mixSheet_19, ↓x_X4_mixSheet_20, ↓x_X4_mixSheet_21, ↓x_X4_mixSheet_24, ↓x_X4_mixSheet_25, ↓x_X4_mixSheet_26, ↓x_X4_mixSheet_29, ↓x_X4_mixSheet_30, ↓x_X4_mixSheet_31, ↓x_X4_mixSheet_35, ↓x_X4_mixSheet_36, ↓x_X4_mixSheet_39, ↓x_X4_mixSheet_40, ↓x_X4_mixSheet_43, ↓x_X4_mixSheet_44, ↓x_X4_mixSheet_45, ↓x_X4_mixSheet_48, ↓x_X4_mixSheet_50, ↓x_X4_mixSheet_51, ↓x_X4_mixSheet_54, ↓x_X4_mixSheet_55, ↓x_X4_mixSheet_58, ↓x_X4_mixSheet_61, ↓x_X4_mixSheet_62, ↓gK_of g2, c, ↓cKJ c_mix, ↓reduceIte]
end DG
section DD
variable {S : SS} {h : AH} {mb sb own : Nat → Nat}
theorem l_d1 (F : WF S) (J : CJ S h mb sb own) {x0 : Int} : ∀ (d k : Nat), k + d = mS S → X mX4_digest 30 [aR (some 0), aJ (dgMs S k x0), aU, aI k] [] h = X mX4_digest 54 [aR (some 0), aJ (dgMs S (mS S) x0), aU, aI (mS S)] [] h := by
  have f6 := F.1.1
  have em : ((mS S : Nat) : Int) = S 0 6 0 0 := by unfold mS; omega
  have q6 := J.1.2.1 6 (by decide) (by decide)
  rw [← em] at q6
  have ho : isO h 4 0 = true := isO_rd J.1.1.1
  intro d
  induction d with
  | zero =>
    intro k hd
    have e : k = mS S := by omega
    subst e
    have n1 : ((mS S : Nat) : Int) ≤ ((mS S : Nat) : Int) := Int.le_refl _
    rw [x_X4_digest_30]
    simp only [↓x_X4_digest_0, ↓x_X4_digest_3, ↓x_X4_digest_4, ↓x_X4_digest_7, ↓x_X4_digest_8, ↓x_X4_digest_11, ↓x_X4_digest_12, ↓x_X4_digest_15, ↓x_X4_digest_16, ↓x_X4_digest_19, ↓x_X4_digest_20, ↓x_X4_digest_23, ↓x_X4_digest_24, ↓x_X4_digest_27, ↓x_X4_digest_28, ↓x_X4_digest_29, ↓x_X4_digest_31, ↓x_X4_digest_32, ↓x_X4_digest_35, ↓x_X4_digest_38, ↓x_X4_digest_39, ↓x_X4_digest_40, ↓x_X4_digest_41, ↓x_X4_digest_44, ↓x_X4_digest_47, ↓x_X4_digest_48, ↓x_X4_digest_51, ↓x_X4_digest_55, ↓x_X4_digest_56, ↓x_X4_digest_57, ↓x_X4_digest_58, ↓x_X4_digest_61, ↓x_X4_digest_64, ↓x_X4_digest_65, ↓x_X4_digest_66, ↓x_X4_digest_67, ↓x_X4_digest_70, ↓x_X4_digest_73, ↓x_X4_digest_74, ↓x_X4_digest_77, ↓x_X4_digest_80, ↓x_X4_digest_81, ↓gK_of q6, n1, ↓reduceIte]
  | succ d ih =>
    intro k hd
    have hk : k < mS S := by omega
    have n3 : ¬ ((mS S : Nat) : Int) ≤ (k : Int) := by omega
    have hs5 : k ≤ 1000 := by omega
    have ca := c_machineAt F J.1 J.2.2 (k : Int)
    rw [if_pos ⟨by omega, by omega⟩, Int.toNat_natCast] at ca
    have cm := c_mixM (h0 := dgMs S k x0) (J.2.2.1 k hk).2.2.1 (F.m hk).2.1
    rw [← ih (k + 1) (by omega), x_X4_digest_30, dgMs]
    simp only [↓x_X4_digest_0, ↓x_X4_digest_3, ↓x_X4_digest_4, ↓x_X4_digest_7, ↓x_X4_digest_8, ↓x_X4_digest_11, ↓x_X4_digest_12, ↓x_X4_digest_15, ↓x_X4_digest_16, ↓x_X4_digest_19, ↓x_X4_digest_20, ↓x_X4_digest_23, ↓x_X4_digest_24, ↓x_X4_digest_27, ↓x_X4_digest_28, ↓x_X4_digest_29, ↓x_X4_digest_31, ↓x_X4_digest_32, ↓x_X4_digest_35, ↓x_X4_digest_38, ↓x_X4_digest_39, ↓x_X4_digest_40, ↓x_X4_digest_41, ↓x_X4_digest_44, ↓x_X4_digest_47, ↓x_X4_digest_48, ↓x_X4_digest_51, ↓x_X4_digest_55, ↓x_X4_digest_56, ↓x_X4_digest_57, ↓x_X4_digest_58, ↓x_X4_digest_61, ↓x_X4_digest_64, ↓x_X4_digest_65, ↓x_X4_digest_66, ↓x_X4_digest_67, ↓x_X4_digest_70, ↓x_X4_digest_73, ↓x_X4_digest_74, ↓x_X4_digest_77, ↓x_X4_digest_80, ↓x_X4_digest_81, ↓gK_of q6, n3, ho, ↓cKR ca, ↓cKJ cm, w32_s hs5, ↓reduceIte]
theorem l_d2 (F : WF S) (J : CJ S h mb sb own) {x0 : Int} : ∀ (d k : Nat), k + d = sS S → X mX4_digest 56 [aR (some 0), aJ (dgSs S k x0), aU, aI k] [] h = some (some (aJ (dgSs S (sS S) x0)), h) := by
  have f7 := F.1.2.1
  have em : ((sS S : Nat) : Int) = S 0 7 0 0 := by unfold sS; omega
  have q7 := J.1.2.1 7 (by decide) (by decide)
  rw [← em] at q7
  have ho : isO h 4 0 = true := isO_rd J.1.1.1
  intro d
  induction d with
  | zero =>
    intro k hd
    have e : k = sS S := by omega
    subst e
    have n1 : ((sS S : Nat) : Int) ≤ ((sS S : Nat) : Int) := Int.le_refl _
    rw [x_X4_digest_56]
    simp only [↓x_X4_digest_0, ↓x_X4_digest_3, ↓x_X4_digest_4, ↓x_X4_digest_7, ↓x_X4_digest_8, ↓x_X4_digest_11, ↓x_X4_digest_12, ↓x_X4_digest_15, ↓x_X4_digest_16, ↓x_X4_digest_19, ↓x_X4_digest_20, ↓x_X4_digest_23, ↓x_X4_digest_24, ↓x_X4_digest_27, ↓x_X4_digest_28, ↓x_X4_digest_29, ↓x_X4_digest_31, ↓x_X4_digest_32, ↓x_X4_digest_35, ↓x_X4_digest_38, ↓x_X4_digest_39, ↓x_X4_digest_40, ↓x_X4_digest_41, ↓x_X4_digest_44, ↓x_X4_digest_47, ↓x_X4_digest_48, ↓x_X4_digest_51, ↓x_X4_digest_54, ↓x_X4_digest_55, ↓x_X4_digest_57, ↓x_X4_digest_58, ↓x_X4_digest_61, ↓x_X4_digest_64, ↓x_X4_digest_65, ↓x_X4_digest_66, ↓x_X4_digest_67, ↓x_X4_digest_70, ↓x_X4_digest_73, ↓x_X4_digest_74, ↓x_X4_digest_77, ↓x_X4_digest_80, ↓x_X4_digest_81, ↓gK_of q7, n1, ↓reduceIte]
  | succ d ih =>
    intro k hd
    have hk : k < sS S := by omega
    have n3 : ¬ ((sS S : Nat) : Int) ≤ (k : Int) := by omega
    have hs5 : k ≤ 1000 := by omega
    have ca := c_sheetAt F J.1 J.2.2 (k : Int)
    rw [if_pos ⟨by omega, by omega⟩, Int.toNat_natCast] at ca
    have cm := c_mixS (h0 := dgSs S k x0) (J.2.2.2.1 k hk).2.2.1 (F.2.2 k hk).2.1
    rw [← ih (k + 1) (by omega), x_X4_digest_56, dgSs]
    simp only [↓x_X4_digest_0, ↓x_X4_digest_3, ↓x_X4_digest_4, ↓x_X4_digest_7, ↓x_X4_digest_8, ↓x_X4_digest_11, ↓x_X4_digest_12, ↓x_X4_digest_15, ↓x_X4_digest_16, ↓x_X4_digest_19, ↓x_X4_digest_20, ↓x_X4_digest_23, ↓x_X4_digest_24, ↓x_X4_digest_27, ↓x_X4_digest_28, ↓x_X4_digest_29, ↓x_X4_digest_31, ↓x_X4_digest_32, ↓x_X4_digest_35, ↓x_X4_digest_38, ↓x_X4_digest_39, ↓x_X4_digest_40, ↓x_X4_digest_41, ↓x_X4_digest_44, ↓x_X4_digest_47, ↓x_X4_digest_48, ↓x_X4_digest_51, ↓x_X4_digest_54, ↓x_X4_digest_55, ↓x_X4_digest_57, ↓x_X4_digest_58, ↓x_X4_digest_61, ↓x_X4_digest_64, ↓x_X4_digest_65, ↓x_X4_digest_66, ↓x_X4_digest_67, ↓x_X4_digest_70, ↓x_X4_digest_73, ↓x_X4_digest_74, ↓x_X4_digest_77, ↓x_X4_digest_80, ↓x_X4_digest_81, ↓gK_of q7, n3, ho, ↓cKR ca, ↓cKJ cm, w32_s hs5, ↓reduceIte]
end DD
theorem CK_digest {S : SS} (F : WF S) : CK mX4_digest [] aJ S (o_digest S) := by
  intro h C
  have C0 := C
  obtain ⟨G, K, mb, sb, own, P⟩ := C
  have q8 := G.2.1 8 (by decide) (by decide)
  have q9 := G.2.1 9 (by decide) (by decide)
  have q10 := G.2.1 10 (by decide) (by decide)
  refine ⟨h, ?_, C0, grow_rf⟩
  rw [e_X4_digest]
  simp only [↓x_X4_digest_0, ↓x_X4_digest_3, ↓x_X4_digest_4, ↓x_X4_digest_7, ↓x_X4_digest_8, ↓x_X4_digest_11, ↓x_X4_digest_12, ↓x_X4_digest_15, ↓x_X4_digest_16, ↓x_X4_digest_19, ↓x_X4_digest_20, ↓x_X4_digest_23, ↓x_X4_digest_24, ↓x_X4_digest_27, ↓x_X4_digest_28, ↓x_X4_digest_29, ↓x_X4_digest_31, ↓x_X4_digest_32, ↓x_X4_digest_35, ↓x_X4_digest_38, ↓x_X4_digest_39, ↓x_X4_digest_40, ↓x_X4_digest_41, ↓x_X4_digest_44, ↓x_X4_digest_47, ↓x_X4_digest_48, ↓x_X4_digest_51, ↓x_X4_digest_54, ↓x_X4_digest_55, ↓x_X4_digest_56, ↓x_X4_digest_57, ↓x_X4_digest_58, ↓x_X4_digest_61, ↓x_X4_digest_64, ↓x_X4_digest_65, ↓x_X4_digest_66, ↓x_X4_digest_67, ↓x_X4_digest_70, ↓x_X4_digest_73, ↓x_X4_digest_74, ↓x_X4_digest_77, ↓x_X4_digest_80, ↓x_X4_digest_81, ↓gK_of q8, ↓gK_of q9, ↓gK_of q10, ↓cKJ c_mix]
  refine (l_d1 F ⟨G, K, P⟩ (x0 := mixZ (mixZ (mixZ 17 (S 0 8 0 0)) (S 0 9 0 0)) (S 0 10 0 0)) (mS S) 0 (by omega)).trans ?_
  simp only [↓x_X4_digest_0, ↓x_X4_digest_3, ↓x_X4_digest_4, ↓x_X4_digest_7, ↓x_X4_digest_8, ↓x_X4_digest_11, ↓x_X4_digest_12, ↓x_X4_digest_15, ↓x_X4_digest_16, ↓x_X4_digest_19, ↓x_X4_digest_20, ↓x_X4_digest_23, ↓x_X4_digest_24, ↓x_X4_digest_27, ↓x_X4_digest_28, ↓x_X4_digest_29, ↓x_X4_digest_31, ↓x_X4_digest_32, ↓x_X4_digest_35, ↓x_X4_digest_38, ↓x_X4_digest_39, ↓x_X4_digest_40, ↓x_X4_digest_41, ↓x_X4_digest_44, ↓x_X4_digest_47, ↓x_X4_digest_48, ↓x_X4_digest_51, ↓x_X4_digest_54, ↓x_X4_digest_55, ↓x_X4_digest_57, ↓x_X4_digest_58, ↓x_X4_digest_61, ↓x_X4_digest_64, ↓x_X4_digest_65, ↓x_X4_digest_66, ↓x_X4_digest_67, ↓x_X4_digest_70, ↓x_X4_digest_73, ↓x_X4_digest_74, ↓x_X4_digest_77, ↓x_X4_digest_80, ↓x_X4_digest_81]
  exact l_d2 F ⟨G, K, P⟩ (sS S) 0 (by omega)
