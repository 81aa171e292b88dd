/-! ===== worths; the class's calls on them ===== -/
noncomputable def vR (S : SS) (m s set : Nat) : Rat := Classical.epsilon fun r => IsV (nS S m) (rAl (qS S) (nS S m) (wS S m)) (rW (pS S) (wS S m)) (rPy (pyS S m)) s (Nat.testBit set) r
noncomputable def wR (S : SS) (m s : Nat) : Rat := Classical.epsilon fun r => IsW (nS S m) (rAl (qS S) (nS S m) (wS S m)) (rW (pS S) (wS S m)) (rPy (pyS S m)) s r
noncomputable def rwL (S : SS) (m s : Nat) : Nat := Classical.epsilon fun L => ∃ la, IsRow (nS S m) (rAl (qS S) (nS S m) (wS S m)) (rW (pS S) (wS S m)) (rPy (pyS S m)) s (nS S m - s) L la
theorem WF.m {S : SS} (F : WF S) {m : Nat} (hm : m < mS S) : (1 ≤ nS S m ∧ nS S m ≤ 5) ∧ ((nS S m : Nat) : Int) = S 1 m 1 0 ∧ PB (nS S m) (pyS S m) ∧ WB (nS S m) (wS S m) := by
  obtain ⟨k0, n0, s0, hpy, hw⟩ := F.2.1 m hm
  exact ⟨⟨by unfold nS; omega, by unfold nS; omega⟩, by unfold nS; omega, hpy, hw⟩
theorem WF.pq {S : SS} (F : WF S) : (1 ≤ pS S ∧ pS S < qS S ∧ qS S ≤ 8) ∧ ((pS S : Nat) : Int) = S 0 8 0 0 ∧ ((qS S : Nat) : Int) = S 0 9 0 0 := by
  have f := F.1.2.2.1
  exact ⟨⟨by unfold pS; omega, by unfold pS qS; omega, by unfold qS; omega⟩, by unfold pS; omega, by unfold qS; omega⟩
theorem vR_eq {S : SS} (F : WF S) {m s set : Nat} (hm : m < mS S) (hs : s < nS S m) {r : Rat} (h : IsV (nS S m) (rAl (qS S) (nS S m) (wS S m)) (rW (pS S) (wS S m)) (rPy (pyS S m)) s (Nat.testBit set) r) : vR S m s set = r :=
  IsV.uniq (sysR (F.m hm).2.2.2 ⟨F.pq.1.1, F.pq.1.2.1⟩) hs (Classical.epsilon_spec (p := fun r => IsV (nS S m) (rAl (qS S) (nS S m) (wS S m)) (rW (pS S) (wS S m)) (rPy (pyS S m)) s (Nat.testBit set) r) ⟨r, h⟩) h
theorem wR_eq {S : SS} {m s : Nat} {r : Rat} (h : IsW (nS S m) (rAl (qS S) (nS S m) (wS S m)) (rW (pS S) (wS S m)) (rPy (pyS S m)) s r) : wR S m s = r :=
  IsW.uniq (Classical.epsilon_spec (p := fun r => IsW (nS S m) (rAl (qS S) (nS S m) (wS S m)) (rW (pS S) (wS S m)) (rPy (pyS S m)) s r) ⟨r, h⟩) h
theorem rwL_eq {S : SS} {m s L : Nat} {la : Rat} (h : IsRow (nS S m) (rAl (qS S) (nS S m) (wS S m)) (rW (pS S) (wS S m)) (rPy (pyS S m)) s (nS S m - s) L la) : rwL S m s = L := by
  have h' : ∃ la, IsRow (nS S m) (rAl (qS S) (nS S m) (wS S m)) (rW (pS S) (wS S m)) (rPy (pyS S m)) s (nS S m - s) (rwL S m s) la := Classical.epsilon_spec (p := fun L => ∃ la, IsRow (nS S m) (rAl (qS S) (nS S m) (wS S m)) (rW (pS S) (wS S m)) (rPy (pyS S m)) s (nS S m - s) L la) ⟨L, la, h⟩
  obtain ⟨la', ⟨b1, b2⟩, b3, b4⟩ := h'
  obtain ⟨⟨a1, a2⟩, a3, a4⟩ := h
  have x := a4 _ la' b1 b2 b3
  have y := b4 _ la a1 a2 a3
  rcases Nat.lt_trichotomy (rwL S m s) L with q | q | q
  · exact absurd (x.2 q) (Rat.not_lt.mpr y.1)
  · exact q
  · exact absurd (y.2 q) (Rat.not_lt.mpr x.1)
theorem AgM.rf {S : SS} {m : Nat} : AgM S S m := ⟨fun _ => rfl, fun _ => rfl, fun _ _ => rfl, rfl, rfl⟩
theorem AgS.rf {S : SS} {k : Nat} : AgS S S k := ⟨fun _ => rfl, fun _ => rfl⟩
def Wg (h : AH) (a : Nat) : Prop := ∃ wd : Int, rd h 1 a 5 = some (aI wd) ∧ wd ≠ 0
section CW
variable {S : SS} {h : AH} {mb sb own : Nat → Nat} {m : Nat}
theorem CJ.wg (J : CJ S h mb sb own) (hm : m < mS S) (w : Wg h (mb m)) {u : Nat} (hu : u < nS S m) : FrAt h (mb m + 4 + u) (wR S m u) ∧ RB (wR S m u) := by
  obtain ⟨p1, p2, ⟨M, ⟨wd, g5, g5'⟩, -⟩, -⟩ := J.2.2.1 m hm
  obtain ⟨wd', g, hne⟩ := w
  rw [g5] at g
  cases g
  obtain ⟨r, r0, r1, r2⟩ := g5' hne u hu rfl
  rw [wR_eq r2]
  exact ⟨r0, r1⟩
theorem CJ.reck {Rg : Nat → Nat → Prop} {h' : AH} (J : CJ S h mb sb own) (s : SameR Rg h h') (hR : ∀ t x, Rg t x → 3 ≤ x ∧ x < 8) (K' : RKF h') : CJ S h' mb sb own := by
  obtain ⟨G, K, P1, P2, P3, P4⟩ := J
  have h3 : ∀ t x, Rg t x → own x = 0 := fun t x z => P3 x (by have := hR t x z; omega)
  exact ⟨G.same (fun t x z => by have := hR t x z; omega) s, K', fun m' h1 => (P1 m' h1).go AgM.rf s (fun t z => by have := hR t _ z; omega) (fun t x z => by have := h3 t x z; omega), fun k h1 => (P2 k h1).go AgS.rf s (fun t z => by have := hR t _ z; omega) (fun t x z => by have := h3 t x z; omega), P3, fun x hx => P4 x (by rw [← s.2.2.2.2.1]; exact hx)⟩
def Wk (S : SS) (h h' : AH) (mb : Nat → Nat) (m : Nat) : Prop := Wg h' (mb m) ∧ (∀ m', m' < mS S → Wg h (mb m') → Wg h' (mb m')) ∧ h'.length = h.length ∧ slt h' = slt h
theorem c_worthOf (F : WF S) (J : CJ S h mb sb own) (hm : m < mS S) {s : Nat} (hs : s < nS S m) : ∃ h', E mX4_worthOf [aR (some 0), aR (some (mb m)), aI s] h = some (some (aR (some (mb m + 4 + s))), h') ∧ CJ S h' mb sb own ∧ Wk S h h' mb m := by
  have J0 := J
  obtain ⟨G, K, P⟩ := J
  obtain ⟨p1, p2, p3, p4⟩ := P.1 m hm
  obtain ⟨M, ⟨wd, g5, g5'⟩, g6, g7, Fr⟩ := p3
  obtain ⟨⟨n1, n5⟩, en, hpy, hw⟩ := F.m hm
  obtain ⟨hpq, ep, eq⟩ := F.pq
  have g8 : rd h 4 0 8 = some (aI ((pS S : Nat) : Int)) := by rw [ep]; exact G.2.1 8 (by decide) (by decide)
  have g9 : rd h 4 0 9 = some (aI ((qS S : Nat) : Int)) := by rw [eq]; exact G.2.1 9 (by decide) (by decide)
  have g2 := G.1.2.2.1
  have hoM : isO h 1 (mb m) = true := isO_rd g5
  by_cases c : wd = 0
  · subst c
    obtain ⟨h1, r1, r2, r3, r4⟩ := c_reckon p2 hpy hw hpq K M Fr g5
    have q5 : rd h1 1 (mb m) 5 = some (aI 0) := by rw [r2.1 _ _ _ (fun z => by have := Rg2_b p2 z (by decide); omega)]; exact g5
    have sw : SameR (fun t x => Rg2 (mb m) (nS S m) t x ∨ (t = 1 ∧ x = mb m)) h (wr h1 1 (mb m) 5 (aI 1)) := (r2.up fun t x z => Or.inl z).tr (SameR.wr (Or.inr ⟨rfl, rfl⟩))
    have hb : ∀ t x, (Rg2 (mb m) (nS S m) t x ∨ (t = 1 ∧ x = mb m)) → (3 ≤ x ∧ x < 8) ∨ (mb m ≤ x ∧ x < mb m + 4 + nS S m) := by
      intro t x z
      rcases z with ((z | z) | z) | z
      · rcases z with z | z | z <;> obtain ⟨z1, z2⟩ := z <;> omega
      · omega
      · omega
      · omega
    have hown : ∀ t x, (Rg2 (mb m) (nS S m) t x ∨ (t = 1 ∧ x = mb m)) → (3 ≤ x ∧ x < 8) ∨ own x = 1 + m := fun t x z => by
      rcases hb t x z with q | q
      · exact Or.inl q
      · have e := p4 (x - mb m) (by omega)
        rw [show mb m + (x - mb m) = x by omega] at e
        exact Or.inr e
    have K1 : RKF (wr h1 1 (mb m) 5 (aI 1)) := r3.same (Rg := fun t x => t = 1 ∧ x = mb m) (fun t x z => by omega) (SameR.wr ⟨rfl, rfl⟩)
    have W1 : Wsd (wr h1 1 (mb m) 5 (aI 1)) (mb m) (qS S) (pS S) (nS S m) (wS S m) (pyS S m) (fun _ => true) := fun u hu hD => by
      obtain ⟨r, ⟨f0, f1⟩, f2⟩ := r4 u hu hD
      exact ⟨r, ⟨by rw [rd_wn (Or.inl (by decide))]; exact f0, by rw [rd_wn (Or.inl (by decide))]; exact f1⟩, f2⟩
    have M1 : Mach (wr h1 1 (mb m) 5 (aI 1)) (mb m) (S 1 m 0 0) (nS S m) (pyS S m) (wS S m) := (M.up (fun t b z h0 => Rg2_b p2 z h0) r2).fld (by decide)
    have MP1 : MP S m (wr h1 1 (mb m) 5 (aI 1)) (mb m) := ⟨M1, ⟨1, rd_wr q5, fun _ => W1⟩, by rw [rd_wn (Or.inr (Or.inr (by decide))), r2.1 _ _ _ (fun z => by have := Rg2_b p2 z (by decide); omega)]; exact g6, by rw [rd_wn (Or.inr (Or.inr (by decide))), r2.1 _ _ _ (fun z => by have := Rg2_b p2 z (by decide); omega)]; exact g7, fun u hu => by obtain ⟨r, ⟨f0, f1⟩, -⟩ := W1 u hu rfl; exact ⟨_, _, f0, f1⟩⟩
    have f6 := F.1.1
    have J1 : CJ S (wr h1 1 (mb m) 5 (aI 1)) mb sb own := ⟨G.same (fun t x z => by have := hb t x z; omega) sw, K1, P.mach (m := m) (by unfold mS at hm; omega) sw hown (fun m' _ => AgM.rf) (fun k => AgS.rf) (fun _ => rfl) rfl MP1⟩
    refine ⟨_, ?_, J1, ⟨1, rd_wr q5, by decide⟩, fun m' hm' wg => ?_, by rw [wr_len]; exact r2.2.2.2.2.1, by rw [wr_slt]; exact r2.2.2.2.2.2⟩
    · have cw := c_worthAt M1 hs
      have hoM1 : isO (wr h1 1 (mb m) 5 (aI 1)) 1 (mb m) = true := isO_rd M1.2.1
      have hoK : isO h 2 3 = true := isO_rd K.1.1
      rw [e_X4_worthOf]
      simp only [↓x_X4_worthOf_0, ↓x_X4_worthOf_1, ↓x_X4_worthOf_4, ↓x_X4_worthOf_7, ↓x_X4_worthOf_8, ↓x_X4_worthOf_11, ↓x_X4_worthOf_12, ↓x_X4_worthOf_13, ↓x_X4_worthOf_16, ↓x_X4_worthOf_17, ↓x_X4_worthOf_20, ↓x_X4_worthOf_23, ↓x_X4_worthOf_24, ↓x_X4_worthOf_25, ↓x_X4_worthOf_28, ↓gK_of g5, ↓gK_of g2, ↓gK_of g8, ↓gK_of g9, hoK, ↓cKV r1, hoM1, ↓cKR cw, not_true_eq_false, ↓reduceIte]
    · obtain ⟨wd', w1, w2⟩ := wg
      by_cases e : m' = m
      · subst e; exact ⟨1, rd_wr q5, by decide⟩
      · have o1 := (P.1 m' hm').2.2.2 0 (by omega)
        rw [Nat.add_zero] at o1
        have b1 := (P.1 m' hm').2.1
        refine ⟨wd', ?_, w2⟩
        rw [sw.1 _ _ _ (fun z => by rcases hown _ _ z with q | q <;> omega)]
        exact w1
  · refine ⟨h, ?_, J0, ⟨wd, g5, c⟩, fun _ _ w => w, rfl, rfl⟩
    have cw := c_worthAt M hs
    rw [e_X4_worthOf]
    simp only [↓x_X4_worthOf_0, ↓x_X4_worthOf_1, ↓x_X4_worthOf_4, ↓x_X4_worthOf_7, ↓x_X4_worthOf_8, ↓x_X4_worthOf_11, ↓x_X4_worthOf_12, ↓x_X4_worthOf_13, ↓x_X4_worthOf_16, ↓x_X4_worthOf_17, ↓x_X4_worthOf_20, ↓x_X4_worthOf_23, ↓x_X4_worthOf_24, ↓x_X4_worthOf_25, ↓x_X4_worthOf_28, ↓gK_of g5, hoM, c, ↓cKR cw, not_false_eq_true, ↓reduceIte]
end CW
theorem fset_len {h : AH} {f : Nat} {r : Rat} : (fset h f r).length = h.length ∧ slt (fset h f r) = slt h := ⟨by unfold fset; rw [wr_len, wr_len], by unfold fset; rw [wr_slt, wr_slt]⟩
noncomputable def o_worth (m s : Int) (S : SS) : Int × SS := if ¬ isM S m then (-1, S) else if ¬ isQ S m s then (-3, fdS S 2) else (1, tlS S (wR S m.toNat s.toNat))
theorem CK_worth {S : SS} (F : WF S) (m s : Int) : CK mX4_worth [aI m, aI s] aI S (o_worth m s S) := by
  intro h C
  have C0 := C
  obtain ⟨G, K, mb, sb, own, P⟩ := C
  have ho : isO h 4 0 = true := isO_rd G.1.1
  have ca := c_machineAt F G P m
  have cf2 := c_fd2 C0
  have z : ¬ (1 : Int) = 0 := by decide
  unfold o_worth
  rw [e_X4_worth]
  by_cases c1 : isM S m
  · rw [if_pos c1] at ca
    rw [if_neg (not_not_intro c1)]
    have hm : m.toNat < mS S := by unfold mS; omega
    obtain ⟨p1, p2, ⟨M, -⟩, p4⟩ := P.1 m.toNat hm
    obtain ⟨⟨n1, n5⟩, en, hpy, hw⟩ := F.m hm
    have hoM : isO h 1 (mb m.toNat) = true := isO_rd M.2.1
    have ch := has_e M (by omega) s
    by_cases c2 : isQ S m s
    · rw [if_pos c2] at ch
      rw [if_neg (not_not_intro c2)]
      obtain ⟨s', rfl⟩ := Int.eq_ofNat_of_zero_le c2.1
      rw [Int.toNat_natCast]
      have hs : s' < nS S m.toNat := by omega
      obtain ⟨h', r1, J', r3, r4, r5, r6⟩ := c_worthOf F ⟨G, K, P⟩ hm hs
      have g3 := G.1.2.2.2.1
      obtain ⟨fr, -⟩ := J'.wg hm r3 hs
      have t8 := J'.1.2.2.2.2.2.2.1
      have ct := c_take (t8 0 (by decide)) (t8 1 (by decide)) fr
      have ho8 : isO h' 0 8 = true := isO_rd (t8 0 (by decide))
      refine ⟨_, ?_, J'.ci.wT _, grow_eq ⟨by rw [fset_len.1]; exact r5, by rw [fset_len.2]; exact r6⟩⟩
      simp only [↓x_X4_worth_0, ↓x_X4_worth_1, ↓x_X4_worth_2, ↓x_X4_worth_5, ↓x_X4_worth_6, ↓x_X4_worth_7n, ↓x_X4_worth_7s, ↓x_X4_worth_10, ↓x_X4_worth_11, ↓x_X4_worth_12, ↓x_X4_worth_13, ↓x_X4_worth_14, ↓x_X4_worth_17, ↓x_X4_worth_20, ↓x_X4_worth_21, ↓x_X4_worth_22, ↓x_X4_worth_25, ↓x_X4_worth_26, ↓x_X4_worth_27, ↓x_X4_worth_30, ↓x_X4_worth_31, ↓x_X4_worth_32, ↓x_X4_worth_33, ↓x_X4_worth_36, ↓x_X4_worth_39, ↓x_X4_worth_40, ho, hoM, ↓cKR ca, ↓cKI ch, z, ↓gK_of g3, ↓cKR r1, ho8, ↓cKV ct, not_false_eq_true, ↓reduceIte]
    · rw [if_neg c2] at ch
      rw [if_pos c2]
      refine ⟨_, ?_, K_fd C0 2⟩
      simp only [↓x_X4_worth_0, ↓x_X4_worth_1, ↓x_X4_worth_2, ↓x_X4_worth_5, ↓x_X4_worth_6, ↓x_X4_worth_7n, ↓x_X4_worth_7s, ↓x_X4_worth_10, ↓x_X4_worth_11, ↓x_X4_worth_12, ↓x_X4_worth_13, ↓x_X4_worth_14, ↓x_X4_worth_17, ↓x_X4_worth_20, ↓x_X4_worth_21, ↓x_X4_worth_22, ↓x_X4_worth_25, ↓x_X4_worth_26, ↓x_X4_worth_27, ↓x_X4_worth_30, ↓x_X4_worth_31, ↓x_X4_worth_32, ↓x_X4_worth_33, ↓x_X4_worth_36, ↓x_X4_worth_39, ↓x_X4_worth_40, ho, hoM, ↓cKR ca, ↓cKI ch, ↓cKI cf2, not_true_eq_false, ↓reduceIte]
  · rw [if_neg c1] at ca
    rw [if_pos c1]
    refine ⟨h, ?_, C0, grow_rf⟩
    simp only [↓x_X4_worth_0, ↓x_X4_worth_1, ↓x_X4_worth_2, ↓x_X4_worth_5, ↓x_X4_worth_6, ↓x_X4_worth_7n, ↓x_X4_worth_7s, ↓x_X4_worth_10, ↓x_X4_worth_11, ↓x_X4_worth_12, ↓x_X4_worth_13, ↓x_X4_worth_14, ↓x_X4_worth_17, ↓x_X4_worth_20, ↓x_X4_worth_21, ↓x_X4_worth_22, ↓x_X4_worth_25, ↓x_X4_worth_26, ↓x_X4_worth_27, ↓x_X4_worth_30, ↓x_X4_worth_31, ↓x_X4_worth_32, ↓x_X4_worth_33, ↓x_X4_worth_36, ↓x_X4_worth_39, ↓x_X4_worth_40, ho, ↓cKR ca]
theorem Rv_b {t x : Nat} (z : Rv t x) : 3 ≤ x ∧ x < 8 := by rcases z with z | z | z <;> obtain ⟨z1, z2⟩ := z <;> omega
theorem Rg1_b2 {t x : Nat} (z : Rg1 t x) : 3 ≤ x ∧ x < 8 := by
  rcases z with z | z
  · exact Rv_b z
  · omega
noncomputable def o_way (m s k : Int) (S : SS) : Int × SS := if ¬ isM S m ∨ k < 0 ∨ 31 < k then (-1, S) else if ¬ isQ S m s then (-3, fdS S 2) else (1, tlS S (vR S m.toNat s.toNat k.toNat))
theorem CK_way {S : SS} (F : WF S) (m s k : Int) : CK mX4_way [aI m, aI s, aI k] aI S (o_way m s k S) := by
  intro h C
  have C0 := C
  obtain ⟨G, K, mb, sb, own, P⟩ := C
  have ho : isO h 4 0 = true := isO_rd G.1.1
  have ca := c_machineAt F G P m
  have cf2 := c_fd2 C0
  have z : ¬ (1 : Int) = 0 := by decide
  unfold o_way
  rw [e_X4_way]
  by_cases c1 : isM S m
  · rw [if_pos c1] at ca
    have hm : m.toNat < mS S := by unfold mS; omega
    obtain ⟨p1, p2, ⟨M, -⟩, p4⟩ := P.1 m.toNat hm
    obtain ⟨⟨n1, n5⟩, en, hpy, hw⟩ := F.m hm
    have hoM : isO h 1 (mb m.toNat) = true := isO_rd M.2.1
    have ch := has_e M (by omega) s
    by_cases c0 : k < 0 ∨ 31 < k
    · rw [if_pos (Or.inr c0)]
      refine ⟨h, ?_, C0, grow_rf⟩
      by_cases c3 : k < 0
      · simp only [↓x_X4_way_0, ↓x_X4_way_1, ↓x_X4_way_2, ↓x_X4_way_5, ↓x_X4_way_7, ↓x_X4_way_9n, ↓x_X4_way_9s, ↓x_X4_way_12, ↓x_X4_way_13, ↓x_X4_way_16, ↓x_X4_way_17, ↓x_X4_way_19, ↓x_X4_way_22, ↓x_X4_way_23, ↓x_X4_way_24, ↓x_X4_way_26, ↓x_X4_way_27, ↓x_X4_way_30, ↓x_X4_way_33, ↓x_X4_way_34, ↓x_X4_way_35, ↓x_X4_way_38, ↓x_X4_way_39, ↓x_X4_way_40, ↓x_X4_way_43, ↓x_X4_way_44, ↓x_X4_way_47, ↓x_X4_way_49, ↓x_X4_way_50, ↓x_X4_way_51, ↓x_X4_way_52, ↓x_X4_way_55, ↓x_X4_way_56, ↓x_X4_way_59, ↓x_X4_way_62, ↓x_X4_way_65, ↓x_X4_way_66, ho, ↓cKR ca, c3, ↓reduceIte]
      · have c4 : ¬ k ≤ 31 := by omega
        simp only [↓x_X4_way_0, ↓x_X4_way_1, ↓x_X4_way_2, ↓x_X4_way_5, ↓x_X4_way_7, ↓x_X4_way_9n, ↓x_X4_way_9s, ↓x_X4_way_12, ↓x_X4_way_13, ↓x_X4_way_16, ↓x_X4_way_17, ↓x_X4_way_19, ↓x_X4_way_22, ↓x_X4_way_23, ↓x_X4_way_24, ↓x_X4_way_26, ↓x_X4_way_27, ↓x_X4_way_30, ↓x_X4_way_33, ↓x_X4_way_34, ↓x_X4_way_35, ↓x_X4_way_38, ↓x_X4_way_39, ↓x_X4_way_40, ↓x_X4_way_43, ↓x_X4_way_44, ↓x_X4_way_47, ↓x_X4_way_49, ↓x_X4_way_50, ↓x_X4_way_51, ↓x_X4_way_52, ↓x_X4_way_55, ↓x_X4_way_56, ↓x_X4_way_59, ↓x_X4_way_62, ↓x_X4_way_65, ↓x_X4_way_66, ho, ↓cKR ca, c3, c4, ↓reduceIte]
    · rw [if_neg (by omega)]
      have c3 : ¬ k < 0 := by omega
      have c4 : k ≤ 31 := by omega
      by_cases c2 : isQ S m s
      · rw [if_pos c2] at ch
        rw [if_neg (not_not_intro c2)]
        obtain ⟨s', rfl⟩ := Int.eq_ofNat_of_zero_le c2.1
        obtain ⟨k', rfl⟩ := Int.eq_ofNat_of_zero_le (show 0 ≤ k by omega)
        rw [Int.toNat_natCast, Int.toNat_natCast]
        have hs : s' < nS S m.toNat := by omega
        obtain ⟨hpq, ep, eq⟩ := F.pq
        have g8 : rd h 4 0 8 = some (aI ((pS S : Nat) : Int)) := by rw [ep]; exact G.2.1 8 (by decide) (by decide)
        have g9 : rd h 4 0 9 = some (aI ((qS S : Nat) : Int)) := by rw [eq]; exact G.2.1 9 (by decide) (by decide)
        have g2 := G.1.2.2.1
        have g3 := G.1.2.2.2.1
        have hoK : isO h 2 3 = true := isO_rd K.1.1
        obtain ⟨h', r, r1, r2, r3, r4, r5, r6⟩ := c_valueOf (st := s') (set := k') p2 K M hpy hw hpq hs (by omega)
        have J' : CJ S h' mb sb own := CJ.reck ⟨G, K, P⟩ r2 (fun t x z => Rv_b z) r6
        have t8 := J'.1.2.2.2.2.2.2.1
        have ct := c_take (t8 0 (by decide)) (t8 1 (by decide)) r3
        have ho8 : isO h' 0 8 = true := isO_rd (t8 0 (by decide))
        rw [vR_eq F hm hs r4]
        refine ⟨_, ?_, J'.ci.wT _, grow_eq ⟨by rw [fset_len.1]; exact r2.2.2.2.2.1, by rw [fset_len.2]; exact r2.2.2.2.2.2⟩⟩
        simp only [↓x_X4_way_0, ↓x_X4_way_1, ↓x_X4_way_2, ↓x_X4_way_5, ↓x_X4_way_7, ↓x_X4_way_9n, ↓x_X4_way_9s, ↓x_X4_way_12, ↓x_X4_way_13, ↓x_X4_way_16, ↓x_X4_way_17, ↓x_X4_way_19, ↓x_X4_way_22, ↓x_X4_way_23, ↓x_X4_way_24, ↓x_X4_way_26, ↓x_X4_way_27, ↓x_X4_way_30, ↓x_X4_way_33, ↓x_X4_way_34, ↓x_X4_way_35, ↓x_X4_way_38, ↓x_X4_way_39, ↓x_X4_way_40, ↓x_X4_way_43, ↓x_X4_way_44, ↓x_X4_way_47, ↓x_X4_way_49, ↓x_X4_way_50, ↓x_X4_way_51, ↓x_X4_way_52, ↓x_X4_way_55, ↓x_X4_way_56, ↓x_X4_way_59, ↓x_X4_way_62, ↓x_X4_way_65, ↓x_X4_way_66, ho, hoM, hoK, ↓cKR ca, ↓cKI ch, z, c3, c4, ↓gK_of g3, ↓gK_of g2, ↓gK_of g8, ↓gK_of g9, ↓cKR r1, ho8, ↓cKV ct, not_false_eq_true, ↓reduceIte]
      · rw [if_neg c2] at ch
        rw [if_pos c2]
        refine ⟨_, ?_, K_fd C0 2⟩
        simp only [↓x_X4_way_0, ↓x_X4_way_1, ↓x_X4_way_2, ↓x_X4_way_5, ↓x_X4_way_7, ↓x_X4_way_9n, ↓x_X4_way_9s, ↓x_X4_way_12, ↓x_X4_way_13, ↓x_X4_way_16, ↓x_X4_way_17, ↓x_X4_way_19, ↓x_X4_way_22, ↓x_X4_way_23, ↓x_X4_way_24, ↓x_X4_way_26, ↓x_X4_way_27, ↓x_X4_way_30, ↓x_X4_way_33, ↓x_X4_way_34, ↓x_X4_way_35, ↓x_X4_way_38, ↓x_X4_way_39, ↓x_X4_way_40, ↓x_X4_way_43, ↓x_X4_way_44, ↓x_X4_way_47, ↓x_X4_way_49, ↓x_X4_way_50, ↓x_X4_way_51, ↓x_X4_way_52, ↓x_X4_way_55, ↓x_X4_way_56, ↓x_X4_way_59, ↓x_X4_way_62, ↓x_X4_way_65, ↓x_X4_way_66, ho, hoM, ↓cKR ca, ↓cKI ch, ↓cKI cf2, c3, c4, not_true_eq_false, ↓reduceIte]
  · rw [if_neg c1] at ca
    rw [if_pos (Or.inl c1)]
    refine ⟨h, ?_, C0, grow_rf⟩
    simp only [↓x_X4_way_0, ↓x_X4_way_1, ↓x_X4_way_2, ↓x_X4_way_5, ↓x_X4_way_7, ↓x_X4_way_9n, ↓x_X4_way_9s, ↓x_X4_way_12, ↓x_X4_way_13, ↓x_X4_way_16, ↓x_X4_way_17, ↓x_X4_way_19, ↓x_X4_way_22, ↓x_X4_way_23, ↓x_X4_way_24, ↓x_X4_way_26, ↓x_X4_way_27, ↓x_X4_way_30, ↓x_X4_way_33, ↓x_X4_way_34, ↓x_X4_way_35, ↓x_X4_way_38, ↓x_X4_way_39, ↓x_X4_way_40, ↓x_X4_way_43, ↓x_X4_way_44, ↓x_X4_way_47, ↓x_X4_way_49, ↓x_X4_way_50, ↓x_X4_way_51, ↓x_X4_way_52, ↓x_X4_way_55, ↓x_X4_way_56, ↓x_X4_way_59, ↓x_X4_way_62, ↓x_X4_way_65, ↓x_X4_way_66, ho, ↓cKR ca]
theorem CK_upper {S : SS} : CK mX4_upper [] aJ S (S 8 0 0 0, S) := by
  intro h C
  have g3 := C.1.1.2.2.2.1
  have t8 := C.1.2.2.2.2.2.2.1 0 (by decide)
  refine ⟨h, ?_, C, grow_rf⟩
  rw [e_X4_upper]
  simp only [↓x_X4_upper_0, ↓x_X4_upper_1, ↓x_X4_upper_4, ↓x_X4_upper_7, ↓gK_of g3, ↓gK_of t8]
theorem CK_lower {S : SS} : CK mX4_lower [] aJ S (S 8 1 0 0, S) := by
  intro h C
  have g3 := C.1.1.2.2.2.1
  have t8 := C.1.2.2.2.2.2.2.1 1 (by decide)
  refine ⟨h, ?_, C, grow_rf⟩
  rw [e_X4_lower]
  simp only [↓x_X4_lower_0, ↓x_X4_lower_1, ↓x_X4_lower_4, ↓x_X4_lower_7, ↓gK_of g3, ↓gK_of t8]
