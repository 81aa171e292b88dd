/-- apart from a region, all is as it was -/
def SameR (Rg : Nat → Nat → Prop) (h h' : AH) : Prop := (∀ t a k, ¬ Rg t a → rd h' t a k = rd h t a k) ∧ (∀ t a, isO h' t a = isO h t a) ∧ (∀ a, ln h' a = ln h a) ∧ (∀ a, tagR h' a = tagR h a) ∧ h'.length = h.length ∧ slt h' = slt h
theorem SameR.rf {Rg : Nat → Nat → Prop} {h : AH} : SameR Rg h h := ⟨fun _ _ _ _ => rfl, fun _ _ => rfl, fun _ => rfl, fun _ => rfl, rfl, rfl⟩
theorem SameR.tr {Rg : Nat → Nat → Prop} {h h1 h2 : AH} (a : SameR Rg h h1) (b : SameR Rg h1 h2) : SameR Rg h h2 := ⟨fun t x k q => (b.1 t x k q).trans (a.1 t x k q), fun t x => (b.2.1 t x).trans (a.2.1 t x), fun x => (b.2.2.1 x).trans (a.2.2.1 x), fun x => (b.2.2.2.1 x).trans (a.2.2.2.1 x), b.2.2.2.2.1.trans a.2.2.2.2.1, b.2.2.2.2.2.trans a.2.2.2.2.2⟩
theorem SameR.wr {Rg : Nat → Nat → Prop} {h : AH} {t a k : Nat} {v : AV} (q : Rg t a) : SameR Rg h (wr h t a k v) := ⟨fun t' a' k' n => rd_wn (by
  by_cases e : t' = t
  · by_cases e2 : a' = a
    · subst e; subst e2; exact absurd q n
    · exact Or.inr (Or.inl e2)
  · exact Or.inl e), fun _ _ => isO_wr, fun _ => ln_wr, fun _ => tagR_wr, wr_len, wr_slt⟩
theorem SameR.up {Rg Rg' : Nat → Nat → Prop} (hR : ∀ t a, Rg t a → Rg' t a) {h h' : AH} (a : SameR Rg h h') : SameR Rg' h h' := ⟨fun t x k q => a.1 t x k (fun z => q (hR t x z)), a.2⟩
-- the Reckoner stands at 3, its cells at 4, its states at 5, its fractions at 6 and 7
def RK (h : AH) : Prop := rd h 2 3 0 = some (aR (some 4)) ∧ rd h 2 3 1 = some (aR (some 5)) ∧ rd h 2 3 2 = some (aR (some 6)) ∧ rd h 2 3 3 = some (aR (some 7)) ∧ ln h 4 = some 30 ∧ ln h 5 = some 5
def CellsAt (h : AH) (C : Nat → Nat → Int) : Prop := ∀ r c, r < 5 → c < 6 → rd h 11 4 (r * 6 + c) = some (aJ (C r c))
def StAt (h : AH) (u : Nat → Int) : Prop := ∀ i, i < 5 → rd h 10 5 i = some (aI (u i))
def Rc (t a : Nat) : Prop := t = 11 ∧ a = 4
def Rs (t a : Nat) : Prop := t = 10 ∧ a = 5
def up2 (C : Nat → Nat → Int) (r c : Nat) (v : Int) : Nat → Nat → Int := fun i j => if i = r ∧ j = c then v else C i j
def up1 (u : Nat → Int) (k : Nat) (v : Int) : Nat → Int := fun i => if i = k then v else u i
theorem RK.same {Rg : Nat → Nat → Prop} (hR : ∀ a, ¬ Rg 2 a) {h h' : AH} (s : SameR Rg h h') (k : RK h) : RK h' := by
  obtain ⟨k0, k1, k2, k3, k4, k5⟩ := k
  exact ⟨by rw [s.1 _ _ _ (hR 3)]; exact k0, by rw [s.1 _ _ _ (hR 3)]; exact k1, by rw [s.1 _ _ _ (hR 3)]; exact k2, by rw [s.1 _ _ _ (hR 3)]; exact k3, by rw [s.2.2.1]; exact k4, by rw [s.2.2.1]; exact k5⟩
theorem Rc_no2 (a : Nat) : ¬ Rc 2 a := fun h => by cases h.1
theorem Rs_no2 (a : Nat) : ¬ Rs 2 a := fun h => by cases h.1
theorem CellsAt.set {h : AH} {C : Nat → Nat → Int} (H : CellsAt h C) {r c : Nat} (hr : r < 5) (hc : c < 6) (v : Int) : CellsAt (wr h 11 4 (r * 6 + c) (aJ v)) (up2 C r c v) := by
  intro i j hi hj
  unfold up2
  by_cases e : i = r ∧ j = c
  · rw [if_pos e, e.1, e.2]
    exact rd_wr (H r c hr hc)
  · rw [if_neg e, rd_wn (Or.inr (Or.inr (by omega)))]
    exact H i j hi hj
theorem StAt.set {h : AH} {u : Nat → Int} (H : StAt h u) {k : Nat} (hk : k < 5) (v : Int) : StAt (wr h 10 5 k (aI v)) (up1 u k v) := by
  intro i hi
  unfold up1
  by_cases e : i = k
  · rw [if_pos e, e]; exact rd_wr (H k hk)
  · rw [if_neg e, rd_wn (Or.inr (Or.inr e))]; exact H i hi
theorem c_cellAt {h : AH} (K : RK h) {C : Nat → Nat → Int} (H : CellsAt h C) {r c : Nat} (hr : r < 5) (hc : c < 6) : E mX2_cellAt [aR (some 3), aI r, aI c] h = some (some (aJ (C r c)), h) := by
  obtain ⟨k0, k1, k2, k3, k4, k5⟩ := K
  have e1 : w32 (w32 ((r : Int) * 6) + (c : Int)) = ((r * 6 + c : Nat) : Int) := by rw [w32_in (x := (r : Int) * 6), w32_in] <;> omega
  have q : rd h 11 4 (((r * 6 + c : Nat) : Int)).toNat = some (aJ (C r c)) := H r c hr hc
  have n1 : ¬ (((r * 6 + c : Nat) : Int) < 0) := by omega
  have n2 : ¬ (((30 : Nat) : Int) ≤ ((r * 6 + c : Nat) : Int)) := by omega
  have n3 : 0 ≤ ((r * 6 + c : Nat) : Int) := by omega
  rw [e_X2_cellAt]
  simp only [↓x_X2_cellAt_0, ↓x_X2_cellAt_1, ↓x_X2_cellAt_3, ↓x_X2_cellAt_4, ↓x_X2_cellAt_5, ↓x_X2_cellAt_6, ↓x_X2_cellAt_7, ↓x_X2_cellAt_8, ↓x_X2_cellAt_11, ↓x_X2_cellAt_12, ↓x_X2_cellAt_13, ↓x_X2_cellAt_16, ↓x_X2_cellAt_17, ↓x_X2_cellAt_20, ↓x_X2_cellAt_21, ↓x_X2_cellAt_24, ↓x_X2_cellAt_25, ↓x_X2_cellAt_26, ↓x_X2_cellAt_29, ↓x_X2_cellAt_30, e1, ↓gK_of k0, ↓gL_of k4, n1, n2, n3, ↓reduceIte, ↓gK_of q]
theorem c_setCell {h : AH} (K : RK h) {C : Nat → Nat → Int} (H : CellsAt h C) {r c : Nat} {v : Int} (hr : r < 5) (hc : c < 6) : E mX2_setCell [aR (some 3), aI r, aI c, aJ v] h = some (none, wr h 11 4 (r * 6 + c) (aJ v)) := by
  obtain ⟨k0, k1, k2, k3, k4, k5⟩ := K
  have e1 : w32 (w32 ((r : Int) * 6) + (c : Int)) = ((r * 6 + c : Nat) : Int) := by rw [w32_in (x := (r : Int) * 6), w32_in] <;> omega
  have q : rd h 11 4 (((r * 6 + c : Nat) : Int)).toNat = some (aJ (C r c)) := H r c hr hc
  have n1 : ¬ (((r * 6 + c : Nat) : Int) < 0) := by omega
  have n2 : ¬ (((30 : Nat) : Int) ≤ ((r * 6 + c : Nat) : Int)) := by omega
  have n3 : 0 ≤ ((r * 6 + c : Nat) : Int) := by omega
  rw [e_X2_setCell]
  simp only [↓x_X2_setCell_0, ↓x_X2_setCell_1, ↓x_X2_setCell_3, ↓x_X2_setCell_4, ↓x_X2_setCell_5, ↓x_X2_setCell_6, ↓x_X2_setCell_8, ↓x_X2_setCell_10, ↓x_X2_setCell_13, ↓x_X2_setCell_15, ↓x_X2_setCell_16, ↓x_X2_setCell_19, ↓x_X2_setCell_20, ↓x_X2_setCell_23, ↓x_X2_setCell_24, ↓x_X2_setCell_27, ↓x_X2_setCell_29, ↓x_X2_setCell_30, ↓x_X2_setCell_31, e1, ↓gK_of k0, ↓gL_of k4, n1, n2, n3, ↓reduceIte, ↓pK_of q]
  rfl
-- one step of the elimination, half done
def bst (C : Nat → Nat → Int) (k : Nat) (bf : Int) (R r1 c1 : Nat) : Nat → Nat → Int := fun i j => if (k < i ∧ i < r1 ∧ k < j ∧ j ≤ R) ∨ (i = r1 ∧ k < j ∧ j < c1) then (C k k * C i j - C i k * C k j).tdiv bf else C i j
def OKs (C : Nat → Nat → Int) (k : Nat) (bf : Int) (R : Nat) : Prop := bf ≠ 0 ∧ ∀ i j, k < i → i < R → k < j → j ≤ R → (-4000000000000000000 ≤ C k k * C i j ∧ C k k * C i j ≤ 4000000000000000000) ∧ (-4000000000000000000 ≤ C i k * C k j ∧ C i k * C k j ≤ 4000000000000000000)
theorem tdiv_b {a b : Int} (hb : b ≠ 0) : -(a.natAbs : Int) ≤ a.tdiv b ∧ a.tdiv b ≤ a.natAbs := by
  have h : (a.tdiv b).natAbs ≤ a.natAbs := by rw [Int.natAbs_tdiv]; exact Nat.div_le_self _ _
  omega
theorem bst_set {C : Nat → Nat → Int} {k R r c : Nat} {bf : Int} (hk : k < c) : up2 (bst C k bf R r c) r c ((C k k * C r c - C r k * C k c).tdiv bf) = bst C k bf R r (c + 1) := by
  funext i j
  unfold up2 bst
  by_cases e : i = r ∧ j = c
  · obtain ⟨e1, e2⟩ := e
    subst e1; subst e2
    rw [if_pos ⟨rfl, rfl⟩, if_pos (Or.inr ⟨rfl, hk, by omega⟩)]
  · rw [if_neg e]
    by_cases q : (k < i ∧ i < r ∧ k < j ∧ j ≤ R) ∨ (i = r ∧ k < j ∧ j < c)
    · rw [if_pos q, if_pos (by omega)]
    · rw [if_neg q, if_neg (by omega)]
theorem l_el3 {C : Nat → Nat → Int} {k R r : Nat} {bf : Int} (hR : R ≤ 5) (hk : k < r) (hr : r < R) (ok : OKs C k bf R) : ∀ (d c : Nat) (h : AH) (v11 v12 : AV), c + d = R + 1 → k < c → RK h → CellsAt h (bst C k bf R r c) →
    ∃ h' v11' v12', X mX2_eliminate 51 [aR (some 3), aI R, aJ bf, aU, aI k, aJ (C k k), aU, aI r, aJ (C r k), aU, aI c, v11, v12] [] h = X mX2_eliminate 110 [aR (some 3), aI R, aJ bf, aU, aI k, aJ (C k k), aU, aI r, aJ (C r k), aU, aI ((R + 1 : Nat) : Int), v11', v12'] [] h' ∧ SameR Rc h h' ∧ CellsAt h' (bst C k bf R r (R + 1)) := by
  intro d
  induction d with
  | zero =>
    intro c h v11 v12 hd hkc K H
    have e : c = R + 1 := by omega
    subst e
    have n1 : ((R : Nat) : Int) < ((R + 1 : Nat) : Int) := by omega
    refine ⟨h, v11, v12, ?_, SameR.rf, H⟩
    rw [x_X2_eliminate_51]
    simp only [↓x_X2_eliminate_0, ↓x_X2_eliminate_1, ↓x_X2_eliminate_2, ↓x_X2_eliminate_3, ↓x_X2_eliminate_7, ↓x_X2_eliminate_8, ↓x_X2_eliminate_9, ↓x_X2_eliminate_10, ↓x_X2_eliminate_13, ↓x_X2_eliminate_14, ↓x_X2_eliminate_16, ↓x_X2_eliminate_18, ↓x_X2_eliminate_21, ↓x_X2_eliminate_23, ↓x_X2_eliminate_25, ↓x_X2_eliminate_26, ↓x_X2_eliminate_27, ↓x_X2_eliminate_31, ↓x_X2_eliminate_32, ↓x_X2_eliminate_35, ↓x_X2_eliminate_36, ↓x_X2_eliminate_38, ↓x_X2_eliminate_40, ↓x_X2_eliminate_43, ↓x_X2_eliminate_45, ↓x_X2_eliminate_47, ↓x_X2_eliminate_48, ↓x_X2_eliminate_49, ↓x_X2_eliminate_53, ↓x_X2_eliminate_54, ↓x_X2_eliminate_57, ↓x_X2_eliminate_59, ↓x_X2_eliminate_60, ↓x_X2_eliminate_62, ↓x_X2_eliminate_64, ↓x_X2_eliminate_67, ↓x_X2_eliminate_68, ↓x_X2_eliminate_70, ↓x_X2_eliminate_71, ↓x_X2_eliminate_73, ↓x_X2_eliminate_75, ↓x_X2_eliminate_78, ↓x_X2_eliminate_79, ↓x_X2_eliminate_80, ↓x_X2_eliminate_82, ↓x_X2_eliminate_83, ↓x_X2_eliminate_85, ↓x_X2_eliminate_87, ↓x_X2_eliminate_88, ↓x_X2_eliminate_89, ↓x_X2_eliminate_90, ↓x_X2_eliminate_93, ↓x_X2_eliminate_94, ↓x_X2_eliminate_97, ↓x_X2_eliminate_99, ↓x_X2_eliminate_100, ↓x_X2_eliminate_101, ↓x_X2_eliminate_104, ↓x_X2_eliminate_107, ↓x_X2_eliminate_113, ↓x_X2_eliminate_116, ↓x_X2_eliminate_118, ↓x_X2_eliminate_119, ↓x_X2_eliminate_122, ↓x_X2_eliminate_125, n1, ↓reduceIte]
  | succ d ih =>
    intro c h v11 v12 hd hkc K H
    have n1 : ¬ (((R : Nat) : Int) < (c : Int)) := by omega
    have e5 : w32 ((c : Int) + 1) = ((c + 1 : Nat) : Int) := by rw [w32_in] <;> omega
    have ho : isO h 2 3 = true := isO_rd K.1
    have c1 := c_cellAt K H (r := r) (c := c) (by omega) (by omega)
    have c2 := c_cellAt K H (r := k) (c := c) (by omega) (by omega)
    have b1 : bst C k bf R r c r c = C r c := if_neg (by omega)
    have b2 : bst C k bf R r c k c = C k c := if_neg (by omega)
    rw [b1] at c1
    rw [b2] at c2
    obtain ⟨hbf, hok⟩ := ok
    obtain ⟨o1, o2⟩ := hok r c hk hr hkc (by omega)
    have m1 : w64 (C k k * C r c) = C k k * C r c := w64_in (by omega) (by omega)
    have m2 : w64 (C r k * C k c) = C r k * C k c := w64_in (by omega) (by omega)
    have m3 : w64 (C k k * C r c - C r k * C k c) = C k k * C r c - C r k * C k c := w64_in (by omega) (by omega)
    have tb := tdiv_b (a := C k k * C r c - C r k * C k c) hbf
    have m4 : w64 ((C k k * C r c - C r k * C k c).tdiv bf) = (C k k * C r c - C r k * C k c).tdiv bf := w64_in (by omega) (by omega)
    have c3 := c_setCell K H (r := r) (c := c) (v := (C k k * C r c - C r k * C k c).tdiv bf) (by omega) (by omega)
    have H' := H.set (r := r) (c := c) (by omega) (by omega) ((C k k * C r c - C r k * C k c).tdiv bf)
    rw [bst_set hkc] at H'
    have sw : SameR Rc h (wr h 11 4 (r * 6 + c) (aJ ((C k k * C r c - C r k * C k c).tdiv bf))) := SameR.wr ⟨rfl, rfl⟩
    obtain ⟨h', v11', v12', f1, f2, f3⟩ := ih (c + 1) _ (aJ (C k k * C r c - C r k * C k c)) aU (by omega) (by omega) (K.same Rc_no2 sw) H'
    refine ⟨h', v11', v12', ?_, sw.tr f2, f3⟩
    rw [← f1, x_X2_eliminate_51]
    simp only [↓x_X2_eliminate_0, ↓x_X2_eliminate_1, ↓x_X2_eliminate_2, ↓x_X2_eliminate_3, ↓x_X2_eliminate_7, ↓x_X2_eliminate_8, ↓x_X2_eliminate_9, ↓x_X2_eliminate_10, ↓x_X2_eliminate_13, ↓x_X2_eliminate_14, ↓x_X2_eliminate_16, ↓x_X2_eliminate_18, ↓x_X2_eliminate_21, ↓x_X2_eliminate_23, ↓x_X2_eliminate_25, ↓x_X2_eliminate_26, ↓x_X2_eliminate_27, ↓x_X2_eliminate_31, ↓x_X2_eliminate_32, ↓x_X2_eliminate_35, ↓x_X2_eliminate_36, ↓x_X2_eliminate_38, ↓x_X2_eliminate_40, ↓x_X2_eliminate_43, ↓x_X2_eliminate_45, ↓x_X2_eliminate_47, ↓x_X2_eliminate_48, ↓x_X2_eliminate_49, ↓x_X2_eliminate_53, ↓x_X2_eliminate_54, ↓x_X2_eliminate_57, ↓x_X2_eliminate_59, ↓x_X2_eliminate_60, ↓x_X2_eliminate_62, ↓x_X2_eliminate_64, ↓x_X2_eliminate_67, ↓x_X2_eliminate_68, ↓x_X2_eliminate_70, ↓x_X2_eliminate_71, ↓x_X2_eliminate_73, ↓x_X2_eliminate_75, ↓x_X2_eliminate_78, ↓x_X2_eliminate_79, ↓x_X2_eliminate_80, ↓x_X2_eliminate_82, ↓x_X2_eliminate_83, ↓x_X2_eliminate_85, ↓x_X2_eliminate_87, ↓x_X2_eliminate_88, ↓x_X2_eliminate_89, ↓x_X2_eliminate_90, ↓x_X2_eliminate_93, ↓x_X2_eliminate_94, ↓x_X2_eliminate_97, ↓x_X2_eliminate_99, ↓x_X2_eliminate_100, ↓x_X2_eliminate_101, ↓x_X2_eliminate_104, ↓x_X2_eliminate_107, ↓x_X2_eliminate_113, ↓x_X2_eliminate_116, ↓x_X2_eliminate_118, ↓x_X2_eliminate_119, ↓x_X2_eliminate_122, ↓x_X2_eliminate_125, n1, ↓reduceIte, ho, ↓cKJ c1, ↓cKJ c2, ↓cKV c3, m1, m2, m3, m4, e5, fc_eq, hbf, not_true_eq_false, not_false_eq_true]
