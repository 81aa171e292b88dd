/-! ===== what a run of calls has come to, in numbers; and the class's heap that holds it ===== -/
abbrev SS : Type := Nat → Nat → Nat → Nat → Int
def ups (S : SS) (t a b c : Nat) (v : Int) : SS := fun t' a' b' c' => if t' = t ∧ a' = a ∧ b' = b ∧ c' = c then v else S t' a' b' c'
theorem ups_t {S : SS} {t a b c t' a' b' c' : Nat} {v : Int} (h : t' ≠ t) : ups S t a b c v t' a' b' c' = S t' a' b' c' := if_neg fun z => h z.1
theorem ups_a {S : SS} {t a b c t' a' b' c' : Nat} {v : Int} (h : a' ≠ a) : ups S t a b c v t' a' b' c' = S t' a' b' c' := if_neg fun z => h z.2.1
theorem ups_b {S : SS} {t a b c t' a' b' c' : Nat} {v : Int} (h : b' ≠ b) : ups S t a b c v t' a' b' c' = S t' a' b' c' := if_neg fun z => h z.2.2.1
theorem ups_c {S : SS} {t a b c t' a' b' c' : Nat} {v : Int} (h : c' ≠ c) : ups S t a b c v t' a' b' c' = S t' a' b' c' := if_neg fun z => h z.2.2.2
theorem ups_s {S : SS} {t a b c : Nat} {v : Int} : ups S t a b c v t a b c = v := if_pos ⟨rfl, rfl, rfl, rfl⟩
-- how many states; how many machines, sheets
abbrev nS (S : SS) (m : Nat) : Nat := (S 1 m 1 0).toNat
abbrev mS (S : SS) : Nat := (S 0 6 0 0).toNat
abbrev sS (S : SS) : Nat := (S 0 7 0 0).toNat
abbrev pS (S : SS) : Nat := (S 0 8 0 0).toNat
abbrev qS (S : SS) : Nat := (S 0 9 0 0).toNat
abbrev pyS (S : SS) (m : Nat) : Nat → Int := fun s => S 2 m s 0
abbrev wS (S : SS) (m : Nat) : Nat → Nat → Int := fun s t => S 3 m s t
/-- what always holds of it -/
def WF (S : SS) : Prop := ((0 ≤ S 0 6 0 0 ∧ S 0 6 0 0 ≤ 16) ∧ (0 ≤ S 0 7 0 0 ∧ S 0 7 0 0 ≤ 12) ∧ (1 ≤ S 0 8 0 0 ∧ S 0 8 0 0 < S 0 9 0 0 ∧ S 0 9 0 0 ≤ 8) ∧ (0 ≤ S 0 10 0 0 ∧ S 0 10 0 0 ≤ 2147483647) ∧ (0 ≤ S 0 11 0 0 ∧ S 0 11 0 0 ≤ 200)) ∧
  (∀ m, m < mS S → (0 ≤ S 1 m 0 0 ∧ S 1 m 0 0 ≤ 3) ∧ (1 ≤ S 1 m 1 0 ∧ S 1 m 1 0 ≤ 5) ∧ (0 ≤ S 1 m 6 0 ∧ S 1 m 6 0 < S 1 m 1 0) ∧ PB (nS S m) (pyS S m) ∧ WB (nS S m) (wS S m)) ∧
  (∀ k, k < sS S → (0 ≤ S 4 k 0 0 ∧ S 4 k 0 0 ≤ 3) ∧ (0 ≤ S 4 k 1 0 ∧ S 4 k 1 0 ≤ 24) ∧ (S 4 k 2 0 = 0 ∨ S 4 k 2 0 = 1))
/-- the worths -/
def WO (S : SS) (W : Nat → Nat → Rat) : Prop := ∀ m, m < mS S → ∀ s, s < nS S m → IsW (nS S m) (rAl (qS S) (nS S m) (wS S m)) (rW (pS S) (wS S m)) (rPy (pyS S m)) s (W m s)
-- the class's heap
def GI (S : SS) (h : AH) : Prop := (rd h 4 0 0 = some (aR (some 1)) ∧ rd h 4 0 1 = some (aR (some 2)) ∧ rd h 4 0 2 = some (aR (some 3)) ∧ rd h 4 0 3 = some (aR (some 8)) ∧ rd h 4 0 4 = some (aR (some 9)) ∧ rd h 4 0 5 = some (aR (some 10))) ∧ (∀ k, 6 ≤ k → k < 13 → rd h 4 0 k = some (aI (S 0 k 0 0))) ∧ (∀ k, 13 ≤ k → k < 15 → rd h 4 0 k = some (aJ (S 0 k 0 0))) ∧ (ln h 1 = some 16 ∧ ln h 2 = some 12 ∧ ln h 9 = some 7 ∧ ln h 10 = some 200) ∧ (∀ k, k < 7 → rd h 10 9 k = some (aI (S 6 k 0 0))) ∧ (∀ k, k < 200 → rd h 10 10 k = some (aI (S 7 k 0 0))) ∧ (∀ k, k < 2 → rd h 0 8 k = some (aJ (S 8 k 0 0))) ∧ (∀ k, k < 16 → ∃ v, rd h 12 1 k = some v) ∧ (∀ k, k < 12 → ∃ v, rd h 13 2 k = some v)
def MP (S : SS) (m : Nat) (h : AH) (a : Nat) : Prop := Mach h a (S 1 m 0 0) (nS S m) (pyS S m) (wS S m) ∧ (∃ wd, rd h 1 a 5 = some (aI wd) ∧ (wd ≠ 0 → Wsd h a (qS S) (pS S) (nS S m) (wS S m) (pyS S m) (fun _ => true))) ∧ rd h 1 a 6 = some (aI (S 1 m 6 0)) ∧ rd h 1 a 7 = some (aI (S 1 m 7 0)) ∧ Wfr h a (nS S m)
def SP (S : SS) (k : Nat) (h : AH) (c : Nat) : Prop := rd h 3 c 0 = some (aI (S 4 k 0 0)) ∧ rd h 3 c 1 = some (aR (some (c + 1))) ∧ rd h 3 c 2 = some (aI (S 4 k 2 0)) ∧ ln h (c + 1) = some (S 4 k 1 0).toNat ∧ ∀ i, i < (S 4 k 1 0).toNat → rd h 11 (c + 1) i = some (aJ (S 5 k i 0))
def PM (S : SS) (h : AH) (mb : Nat → Nat) (own : Nat → Nat) (m : Nat) : Prop := rd h 12 1 m = some (aR (some (mb m))) ∧ 11 ≤ mb m ∧ MP S m h (mb m) ∧ ∀ i, i < 4 + nS S m → own (mb m + i) = 1 + m
def PS (S : SS) (h : AH) (sb : Nat → Nat) (own : Nat → Nat) (k : Nat) : Prop := rd h 13 2 k = some (aR (some (sb k))) ∧ 11 ≤ sb k ∧ SP S k h (sb k) ∧ own (sb k) = 17 + k ∧ own (sb k + 1) = 17 + k ∧ isO h 11 (sb k + 1) = true
def PI (S : SS) (h : AH) (mb sb own : Nat → Nat) : Prop := (∀ m, m < mS S → PM S h mb own m) ∧ (∀ k, k < sS S → PS S h sb own k) ∧ (∀ x, x < 11 → own x = 0) ∧ ∀ x, h.length ≤ x → own x = 0
def CI (S : SS) (h : AH) : Prop := GI S h ∧ RKF h ∧ ∃ mb sb own, PI S h mb sb own
-- a machine's cells, a sheet's cells: what else is written leaves them
theorem Wsd.same {Rg : Nat → Nat → Prop} {a n p q : Nat} {w : Nat → Nat → Int} {py : Nat → Int} {D : Nat → Bool} (hR : ∀ i, i < 4 + n → ∀ t, ¬ Rg t (a + i)) {h h' : AH} (s : SameR Rg h h') (H : Wsd h a q p n w py D) : Wsd h' a q p n w py D := fun u hu hD => by
  obtain ⟨r, ⟨r0, r1⟩, r2⟩ := H u hu hD
  have e := hR (4 + u) (by omega) 0
  rw [← Nat.add_assoc] at e
  exact ⟨r, ⟨by rw [s.1 _ _ _ e]; exact r0, by rw [s.1 _ _ _ e]; exact r1⟩, r2⟩
theorem Wfr.same {Rg : Nat → Nat → Prop} {a n : Nat} (hR : ∀ i, i < 4 + n → ∀ t, ¬ Rg t (a + i)) {h h' : AH} (s : SameR Rg h h') (H : Wfr h a n) : Wfr h' a n := fun u hu => by
  obtain ⟨x, y, r0, r1⟩ := H u hu
  have e := hR (4 + u) (by omega) 0
  rw [← Nat.add_assoc] at e
  exact ⟨x, y, by rw [s.1 _ _ _ e]; exact r0, by rw [s.1 _ _ _ e]; exact r1⟩
theorem MP.same {Rg : Nat → Nat → Prop} {S : SS} {m a : Nat} (hR : ∀ i, i < 4 + nS S m → ∀ t, ¬ Rg t (a + i)) {h h' : AH} (s : SameR Rg h h') (H : MP S m h a) : MP S m h' a := by
  obtain ⟨M, ⟨wd, g5, g5'⟩, g6, g7, F⟩ := H
  have e := hR 0 (by omega) 1
  rw [Nat.add_zero] at e
  refine ⟨M.same e (hR 1 (by omega) 10) (hR 2 (by omega) 10) (hR 3 (by omega) 14) s, ⟨wd, by rw [s.1 _ _ _ e]; exact g5, fun z => (g5' z).same hR s⟩, by rw [s.1 _ _ _ e]; exact g6, by rw [s.1 _ _ _ e]; exact g7, F.same hR s⟩
theorem SP.same {Rg : Nat → Nat → Prop} {S : SS} {k c : Nat} (h0 : ∀ t, ¬ Rg t c) (h1 : ∀ t, ¬ Rg t (c + 1)) {h h' : AH} (s : SameR Rg h h') (H : SP S k h c) : SP S k h' c := by
  obtain ⟨g0, g1, g2, g3, g4⟩ := H
  exact ⟨by rw [s.1 _ _ _ (h0 3)]; exact g0, by rw [s.1 _ _ _ (h0 3)]; exact g1, by rw [s.1 _ _ _ (h0 3)]; exact g2, by rw [s.2.2.1]; exact g3, fun i hi => by rw [s.1 _ _ _ (h1 11)]; exact g4 i hi⟩
-- two states that say the same of a machine, of a sheet
def AgM (S S' : SS) (m : Nat) : Prop := (∀ b, S' 1 m b 0 = S 1 m b 0) ∧ (∀ s, S' 2 m s 0 = S 2 m s 0) ∧ (∀ s t, S' 3 m s t = S 3 m s t) ∧ S' 0 8 0 0 = S 0 8 0 0 ∧ S' 0 9 0 0 = S 0 9 0 0
def AgS (S S' : SS) (k : Nat) : Prop := (∀ b, S' 4 k b 0 = S 4 k b 0) ∧ ∀ i, S' 5 k i 0 = S 5 k i 0
theorem MP.congr {S S' : SS} {m a : Nat} {h : AH} (g : AgM S S' m) (H : MP S m h a) : MP S' m h a := by
  obtain ⟨g1, g2, g3, g4, g5⟩ := g
  have e2 : pyS S' m = pyS S m := funext fun s => g2 s
  have e3 : wS S' m = wS S m := funext fun s => funext fun t => g3 s t
  unfold MP nS pS qS
  rw [g1, g1, g1, g1, e2, e3, g4, g5]
  exact H
theorem SP.congr {S S' : SS} {k c : Nat} {h : AH} (g : AgS S S' k) (H : SP S k h c) : SP S' k h c := by
  obtain ⟨g1, g2⟩ := g
  unfold SP
  rw [g1, g1, g1]
  exact ⟨H.1, H.2.1, H.2.2.1, H.2.2.2.1, fun i hi => by rw [g2]; exact H.2.2.2.2 i hi⟩
theorem PM.go {Rg : Nat → Nat → Prop} {S S' : SS} {h h' : AH} {mb own : Nat → Nat} {m : Nat} (H : PM S h mb own m) (g : AgM S S' m) (s : SameR Rg h h') (h0 : ∀ t, ¬ Rg t 1) (hR : ∀ t x, Rg t x → own x ≠ 1 + m) : PM S' h' mb own m := by
  obtain ⟨h1, h2, h3, h4⟩ := H
  have hn : nS S' m = nS S m := by unfold nS; rw [g.1]
  exact ⟨by rw [s.1 _ _ _ (h0 12)]; exact h1, h2, (h3.same (fun i hi t z => hR t _ z (h4 i hi)) s).congr g, fun i hi => h4 i (by rw [← hn]; exact hi)⟩
theorem PS.go {Rg : Nat → Nat → Prop} {S S' : SS} {h h' : AH} {sb own : Nat → Nat} {k : Nat} (H : PS S h sb own k) (g : AgS S S' k) (s : SameR Rg h h') (h0 : ∀ t, ¬ Rg t 2) (hR : ∀ t x, Rg t x → own x ≠ 17 + k) : PS S' h' sb own k := by
  obtain ⟨h1, h2, h3, h4, h5, h6⟩ := H
  exact ⟨by rw [s.1 _ _ _ (h0 13)]; exact h1, h2, (h3.same (fun t z => hR t _ z h4) (fun t z => hR t _ z h5) s).congr g, h4, h5, by rw [s.2.1]; exact h6⟩
theorem RKF.same2 {Rg : Nat → Nat → Prop} (hR : ∀ t x, Rg t x → x < 3 ∨ 8 ≤ x) {h h' : AH} (s : SameR Rg h h') (K : RKF h) : RKF h' := by
  obtain ⟨⟨k0, k1, k2, k3, k4, k5⟩, ⟨C0, HC⟩, ⟨u0, HU⟩, ⟨x6, y6, hx6, hy6⟩, ⟨x7, y7, hx7, hy7⟩⟩ := K
  have g : ∀ t x k, 3 ≤ x → x < 8 → rd h' t x k = rd h t x k := fun t x k hx hy => s.1 _ _ _ fun z => by have := hR _ _ z; omega
  refine ⟨⟨by rw [g _ _ _ (by decide) (by decide)]; exact k0, by rw [g _ _ _ (by decide) (by decide)]; exact k1, by rw [g _ _ _ (by decide) (by decide)]; exact k2, by rw [g _ _ _ (by decide) (by decide)]; exact k3, by rw [s.2.2.1]; exact k4, by rw [s.2.2.1]; exact k5⟩, ⟨C0, fun i j hi hj => by rw [g _ _ _ (by decide) (by decide)]; exact HC i j hi hj⟩, ⟨u0, fun i hi => by rw [g _ _ _ (by decide) (by decide)]; exact HU i hi⟩, ⟨x6, y6, by rw [g _ _ _ (by decide) (by decide)]; exact hx6, by rw [g _ _ _ (by decide) (by decide)]; exact hy6⟩, ⟨x7, y7, by rw [g _ _ _ (by decide) (by decide)]; exact hx7, by rw [g _ _ _ (by decide) (by decide)]; exact hy7⟩⟩
/-- nothing of the globals was written -/
theorem GI.same {Rg : Nat → Nat → Prop} {S : SS} {h h' : AH} (hR : ∀ t x, Rg t x → x ≠ 0 ∧ x ≠ 1 ∧ x ≠ 2 ∧ x ≠ 8 ∧ x ≠ 9 ∧ x ≠ 10) (s : SameR Rg h h') (G : GI S h) : GI S h' := by
  obtain ⟨⟨f0, f1, f2, f3, f4, f5⟩, fi, fj, ⟨l1, l2, l3, l4⟩, ft, ks, tl, am, as⟩ := G
  have g : ∀ t x k, x = 0 ∨ x = 1 ∨ x = 2 ∨ x = 8 ∨ x = 9 ∨ x = 10 → rd h' t x k = rd h t x k := fun t x k hx => s.1 _ _ _ fun z => by have := hR _ _ z; omega
  refine ⟨⟨by rw [g _ _ _ (by decide)]; exact f0, by rw [g _ _ _ (by decide)]; exact f1, by rw [g _ _ _ (by decide)]; exact f2, by rw [g _ _ _ (by decide)]; exact f3, by rw [g _ _ _ (by decide)]; exact f4, by rw [g _ _ _ (by decide)]; exact f5⟩, fun k h1 h2 => by rw [g _ _ _ (by decide)]; exact fi k h1 h2, fun k h1 h2 => by rw [g _ _ _ (by decide)]; exact fj k h1 h2, ⟨by rw [s.2.2.1]; exact l1, by rw [s.2.2.1]; exact l2, by rw [s.2.2.1]; exact l3, by rw [s.2.2.1]; exact l4⟩, fun k hk => by rw [g _ _ _ (by decide)]; exact ft k hk, fun k hk => by rw [g _ _ _ (by decide)]; exact ks k hk, fun k hk => by rw [g _ _ _ (by decide)]; exact tl k hk, fun k hk => by rw [g _ _ _ (by decide)]; exact am k hk, fun k hk => by rw [g _ _ _ (by decide)]; exact as k hk⟩
def AgG (S S' : SS) : Prop := (∀ k, S' 0 k 0 0 = S 0 k 0 0) ∧ (∀ k, S' 6 k 0 0 = S 6 k 0 0) ∧ (∀ k, S' 7 k 0 0 = S 7 k 0 0) ∧ ∀ k, S' 8 k 0 0 = S 8 k 0 0
theorem GI.congr {S S' : SS} {h : AH} (g : AgG S S') (G : GI S h) : GI S' h := by
  obtain ⟨f0, fi, fj, l1, ft, ks, tl, am⟩ := G
  obtain ⟨g1, g2, g3, g4⟩ := g
  exact ⟨f0, fun k a b => by rw [g1]; exact fi k a b, fun k a b => by rw [g1]; exact fj k a b, l1, fun k a => by rw [g2]; exact ft k a, fun k a => by rw [g3]; exact ks k a, fun k a => by rw [g4]; exact tl k a, am⟩
