/-! ===== the play: seed, best, work, run, step ===== -/
theorem andJ {a : Int} (ha : 0 ≤ a ∧ a ≤ 9223372036854775807) : fAndJ a 2147483647 = a % 2147483648 := by
  obtain ⟨n, rfl⟩ := Int.eq_ofNat_of_zero_le ha.1
  unfold fAndJ
  have e2 : (Int64.ofInt (n : Int)).toBitVec.toNat = n := by
    rw [Int64.toBitVec_ofInt, BitVec.ofInt_natCast, BitVec.toNat_ofNat]
    exact Nat.mod_eq_of_lt (by omega)
  have e3 : (Int64.ofInt 2147483647).toBitVec.toNat = 2147483647 := by decide +kernel
  have e4 : (Int64.ofInt (n : Int) &&& Int64.ofInt 2147483647).toBitVec.toNat = n % 2147483648 := by
    rw [Int64.toBitVec_and, BitVec.toNat_and, e2, e3]
    exact Nat.and_two_pow_sub_one_eq_mod n 31
  rw [← Int64.toInt_toBitVec, BitVec.toInt_eq_toNat_of_lt (by rw [e4]; omega), e4]
  omega
/-- the next seed -/
def sdN (z : Int) : Int := (z * 1103515245 + 12345) % 2147483648
theorem sdN_b (z : Int) : 0 ≤ sdN z ∧ sdN z ≤ 2147483647 := by unfold sdN; omega
/-- where a draw leads -/
def glF (f : Nat → Int) (d : Int) : Nat → Nat → Nat
  | 0, t => t
  | k + 1, t => if d < sumI f (t + 1) then t else glF f d k (t + 1)
theorem glF_b {f : Nat → Int} {d : Int} {n : Nat} (h : d < sumI f n) : ∀ k t, t + k = n → sumI f t ≤ d → glF f d k t < n
  | 0, t, e, q => by rw [Nat.add_zero] at e; subst e; omega
  | k + 1, t, e, q => by
    rw [glF]
    split
    · omega
    · exact glF_b h k (t + 1) (by omega) (by omega)
theorem c_draw {h : AH} {z sum : Int} (g : rd h 4 0 10 = some (aI z)) (hz : 0 ≤ z ∧ z ≤ 2147483647) (hs : 0 < sum ∧ sum ≤ 10) : E mX4_draw [aR (some 0), aI sum] h = some (some (aI (sdN z / 65536 % sum)), wr h 4 0 10 (aI (sdN z))) := by
  have hb := sdN_b z
  have e1 : w64 (z * 1103515245) = z * 1103515245 := by rw [w64_in] <;> omega
  have e2 : w64 (z * 1103515245 + 12345) = z * 1103515245 + 12345 := by rw [w64_in] <;> omega
  have e3 : fAndJ (z * 1103515245 + 12345) 2147483647 = sdN z := andJ (by omega)
  have e4 : w32 (sdN z) = sdN z := by rw [w32_in] <;> omega
  have g' : rd (wr h 4 0 10 (aI (sdN z))) 4 0 10 = some (aI (sdN z)) := rd_wr g
  have n1 : ¬ sum ≤ 0 := by omega
  have n2 : ¬ (65536 : Int) = 0 := by decide
  have n3 : ¬ sum = 0 := by omega
  have e5 : (sdN z).tdiv 65536 = sdN z / 65536 := Int.tdiv_eq_ediv_of_nonneg hb.1
  have hd : 0 ≤ sdN z / 65536 ∧ sdN z / 65536 ≤ 2147483647 := by omega
  have e6 : w32 (sdN z / 65536) = sdN z / 65536 := by rw [w32_in] <;> omega
  have e7 : (sdN z / 65536).tmod sum = sdN z / 65536 % sum := Int.tmod_eq_emod_of_nonneg hd.1
  rw [e_X4_draw]
  simp only [↓x_X4_draw_0, ↓x_X4_draw_1, ↓x_X4_draw_2, ↓x_X4_draw_5, ↓x_X4_draw_6, ↓x_X4_draw_9, ↓x_X4_draw_10, ↓x_X4_draw_13, ↓x_X4_draw_14, ↓x_X4_draw_17, ↓x_X4_draw_18, ↓x_X4_draw_19, ↓x_X4_draw_22, ↓x_X4_draw_23, ↓x_X4_draw_26, ↓x_X4_draw_27, ↓x_X4_draw_30, ↓x_X4_draw_32, ↓x_X4_draw_33, ↓x_X4_draw_34, ↓x_X4_draw_35, ↓x_X4_draw_38, ↓x_X4_draw_39, ↓gK_of g, ↓pK_of g, ↓gK_of g', e1, e2, e3, e4, e5, e6, e7, n1, n2, n3, ↓reduceIte]
section GOAL
variable {h : AH} {a n : Nat} {kd : Int} {py : Nat → Int} {w : Nat → Nat → Int}
theorem l_goal (M : Mach h a kd n py w) (hw : WB n w) {s : Nat} (hs : s < n) (g6 : rd h 1 a 6 = some (aI (s : Int))) {d : Int} (hd : d < sumI (w s) n) : ∀ (k t : Nat), t + k = n → sumI (w s) t ≤ d → X mX1_goal 4 [aR (some a), aI d, aI (sumI (w s) t), aI t] [] h = some (some (aI (glF (w s) d k t : Nat)), h) := by
  have hn5 := M.1.2
  have g1 := M.2.2.1
  have hoM : isO h 1 a = true := isO_rd g1
  intro k
  induction k with
  | zero =>
    intro t e q
    rw [Nat.add_zero] at e
    subst e
    omega
  | succ k ih =>
    intro t e q
    have n3 : ¬ ((n : Nat) : Int) ≤ (t : Int) := by omega
    have e5 : w32 ((t : Int) + 1) = ((t + 1 : Nat) : Int) := by rw [w32_in] <;> omega
    have cw := c_weightAt M hs (t := t) (by omega)
    have b1 := sumI_b (f := w s) (n := t) (lo := 0) (hi := 10) (fun j hj => (hw s hs).1 j (by omega))
    have b2 := (hw s hs).1 t (by omega)
    have e6 : w32 (sumI (w s) t + w s t) = sumI (w s) (t + 1) := by rw [sumI, w32_in] <;> omega
    rw [x_X1_goal_4, glF]
    by_cases c : d < sumI (w s) (t + 1)
    · rw [if_pos c]
      have c2 : ¬ sumI (w s) (t + 1) ≤ d := by omega
      simp only [↓x_X1_goal_0, ↓x_X1_goal_1, ↓x_X1_goal_2, ↓x_X1_goal_3, ↓x_X1_goal_5, ↓x_X1_goal_6, ↓x_X1_goal_9, ↓x_X1_goal_12, ↓x_X1_goal_13, ↓x_X1_goal_14, ↓x_X1_goal_15, ↓x_X1_goal_18, ↓x_X1_goal_19, ↓x_X1_goal_22, ↓x_X1_goal_23, ↓x_X1_goal_24, ↓x_X1_goal_25, ↓x_X1_goal_26, ↓x_X1_goal_29, ↓x_X1_goal_30, ↓x_X1_goal_31, ↓x_X1_goal_34, ↓x_X1_goal_37, ↓x_X1_goal_38, ↓x_X1_goal_41, ↓gK_of g1, ↓gK_of g6, n3, hoM, ↓cKI cw, e6, c2, ↓reduceIte]
    · rw [if_neg c]
      have c2 : sumI (w s) (t + 1) ≤ d := by omega
      simp only [↓x_X1_goal_0, ↓x_X1_goal_1, ↓x_X1_goal_2, ↓x_X1_goal_3, ↓x_X1_goal_5, ↓x_X1_goal_6, ↓x_X1_goal_9, ↓x_X1_goal_12, ↓x_X1_goal_13, ↓x_X1_goal_14, ↓x_X1_goal_15, ↓x_X1_goal_18, ↓x_X1_goal_19, ↓x_X1_goal_22, ↓x_X1_goal_23, ↓x_X1_goal_24, ↓x_X1_goal_25, ↓x_X1_goal_26, ↓x_X1_goal_29, ↓x_X1_goal_30, ↓x_X1_goal_31, ↓x_X1_goal_34, ↓x_X1_goal_37, ↓x_X1_goal_38, ↓x_X1_goal_41, ↓gK_of g1, ↓gK_of g6, n3, hoM, ↓cKI cw, e6, c2, e5, ↓reduceIte]
      exact ih (t + 1) (by omega) c2
theorem c_goal (M : Mach h a kd n py w) (hw : WB n w) {s : Nat} (hs : s < n) (g6 : rd h 1 a 6 = some (aI (s : Int))) {d : Int} (hd : 0 ≤ d ∧ d < sumI (w s) n) : E mX1_goal [aR (some a), aI d] h = some (some (aI (glF (w s) d n 0 : Nat)), h) := by
  rw [e_X1_goal]
  simp only [↓x_X1_goal_0, ↓x_X1_goal_1, ↓x_X1_goal_2, ↓x_X1_goal_3, ↓x_X1_goal_5, ↓x_X1_goal_6, ↓x_X1_goal_9, ↓x_X1_goal_12, ↓x_X1_goal_13, ↓x_X1_goal_14, ↓x_X1_goal_15, ↓x_X1_goal_18, ↓x_X1_goal_19, ↓x_X1_goal_22, ↓x_X1_goal_23, ↓x_X1_goal_24, ↓x_X1_goal_25, ↓x_X1_goal_26, ↓x_X1_goal_29, ↓x_X1_goal_30, ↓x_X1_goal_31, ↓x_X1_goal_34, ↓x_X1_goal_37, ↓x_X1_goal_38, ↓x_X1_goal_41]
  exact l_goal M hw hs g6 hd.2 n 0 (by omega) hd.1
end GOAL
theorem WF.cg {S S' : SS} (F : WF S) (h0 : ∀ k, 6 ≤ k → k ≤ 11 → S' 0 k 0 0 = S 0 k 0 0) (h1 : ∀ m b, b ≤ 6 → S' 1 m b 0 = S 1 m b 0) (h2 : ∀ m s, S' 2 m s 0 = S 2 m s 0) (h3 : ∀ m s t, S' 3 m s t = S 3 m s t) (h4 : ∀ k b, S' 4 k b 0 = S 4 k b 0) : WF S' := by
  obtain ⟨F0, F1, F2⟩ := F
  refine ⟨?_, fun m hm => ?_, fun k hk => ?_⟩
  · rw [h0 6 (by decide) (by decide), h0 7 (by decide) (by decide), h0 8 (by decide) (by decide), h0 9 (by decide) (by decide), h0 10 (by decide) (by decide), h0 11 (by decide) (by decide)]; exact F0
  · unfold mS at hm
    rw [h0 6 (by decide) (by decide)] at hm
    have e2 : pyS S' m = pyS S m := funext fun s => h2 m s
    have e3 : wS S' m = wS S m := funext fun s => funext fun t => h3 m s t
    unfold nS
    rw [h1 m 0 (by decide), h1 m 1 (by decide), h1 m 6 (by decide), e2, e3]
    exact F1 m hm
  · unfold sS at hk
    rw [h0 7 (by decide) (by decide)] at hk
    rw [h4, h4, h4]
    exact F2 k hk
theorem WF.seed {S : SS} (F : WF S) {v : Int} (hv : 0 ≤ v ∧ v ≤ 2147483647) : WF (ups S 0 10 0 0 v) := by
  obtain ⟨F0, F1, F2⟩ := F
  refine ⟨?_, fun m hm => ?_, fun k hk => ?_⟩
  · rw [ups_a (by decide), ups_a (by decide), ups_a (by decide), ups_a (by decide), ups_s, ups_a (by decide)]; exact ⟨F0.1, F0.2.1, F0.2.2.1, hv, F0.2.2.2.2⟩
  · exact F1 m hm
  · exact F2 k hk
theorem WF.kept {S : SS} (F : WF S) {v : Int} (hv : 0 ≤ v ∧ v ≤ 200) : WF (ups S 0 11 0 0 v) := by
  obtain ⟨F0, F1, F2⟩ := F
  refine ⟨?_, fun m hm => ?_, fun k hk => ?_⟩
  · rw [ups_a (by decide), ups_a (by decide), ups_a (by decide), ups_a (by decide), ups_a (by decide), ups_s]; exact ⟨F0.1, F0.2.1, F0.2.2.1, F0.2.2.2.1, hv⟩
  · exact F1 m hm
  · exact F2 k hk
theorem WF.g12 {S : SS} (F : WF S) {k : Nat} (hk : 12 ≤ k) (v : Int) : WF (ups S 0 k 0 0 v) := F.cg (fun j h1 h2 => ups_a (by omega)) (fun _ _ _ => ups_t (by decide)) (fun _ _ => ups_t (by decide)) (fun _ _ _ => ups_t (by decide)) (fun _ _ => ups_t (by decide))
theorem WF.t5 {S : SS} (F : WF S) {t a b c : Nat} (ht : 5 ≤ t) (v : Int) : WF (ups S t a b c v) := F.cg (fun j h1 h2 => ups_t (by omega)) (fun _ _ _ => ups_t (by omega)) (fun _ _ => ups_t (by omega)) (fun _ _ _ => ups_t (by omega)) (fun _ _ => ups_t (by omega))
theorem WF.stp {S : SS} (F : WF S) {m : Nat} (v : Int) : WF (ups S 1 m 7 0 v) := F.cg (fun j h1 h2 => ups_t (by decide)) (fun _ b hb => ups_b (by omega)) (fun _ _ => ups_t (by decide)) (fun _ _ _ => ups_t (by decide)) (fun _ _ => ups_t (by decide))
theorem WF.std {S : SS} (F : WF S) {m : Nat} {v : Int} (hv : 0 ≤ v ∧ v < S 1 m 1 0) : WF (ups S 1 m 6 0 v) := by
  obtain ⟨F0, F1, F2⟩ := F
  refine ⟨F0, fun m' hm' => ?_, F2⟩
  obtain ⟨k0, n0, s0, hpy, hw⟩ := F1 m' hm'
  have e1 : ups S 1 m 6 0 v 1 m' 1 0 = S 1 m' 1 0 := ups_b (by decide)
  have e0 : ups S 1 m 6 0 v 1 m' 0 0 = S 1 m' 0 0 := ups_b (by decide)
  have e2 : pyS (ups S 1 m 6 0 v) m' = pyS S m' := rfl
  have e3 : wS (ups S 1 m 6 0 v) m' = wS S m' := rfl
  unfold nS
  rw [e0, e1, e2, e3]
  refine ⟨k0, n0, ?_, hpy, hw⟩
  by_cases e : m' = m
  · subst e; rw [ups_s]; exact hv
  · rw [ups_a e]; exact s0
theorem WF.fd {S : SS} (F : WF S) (f : Nat) : WF (fdS S f) := (F.g12 (Nat.le_refl _) _).t5 (by decide) _
theorem WF.tl {S : SS} (F : WF S) (r : Rat) : WF (tlS S r) := (F.t5 (by decide) _).t5 (by decide) _
theorem CJ.glob {Rg : Nat → Nat → Prop} {S S' : SS} {h h' : AH} {mb sb own : Nat → Nat} (C : CJ S h mb sb own) (s : SameR Rg h h') (hR : ∀ t x, Rg t x → x = 0 ∨ x = 8 ∨ x = 9 ∨ x = 10) (gm : ∀ m, AgM S S' m) (gs : ∀ k, AgS S S' k) (hm : S' 0 6 0 0 = S 0 6 0 0) (hs : S' 0 7 0 0 = S 0 7 0 0) (G' : GI S' h') : CJ S' h' mb sb own := by
  obtain ⟨G, K, P1, P2, P3, P4⟩ := C
  have h3 : ∀ t x, Rg t x → own x = 0 := fun t x z => P3 x (by have := hR t x z; omega)
  refine ⟨G', K.same2 (fun t x z => by have := hR t x z; omega) s, fun m h1 => (P1 m (by unfold mS at h1 ⊢; rw [← hm]; exact h1)).go (gm m) s (fun t z => by have := hR t _ z; omega) (fun t x z => by have := h3 t x z; omega), fun k h1 => (P2 k (by unfold sS at h1 ⊢; rw [← hs]; exact h1)).go (gs k) s (fun t z => by have := hR t _ z; omega) (fun t x z => by have := h3 t x z; omega), P3, fun x hx => P4 x (by rw [← s.2.2.2.2.1]; exact hx)⟩
theorem CJ.wI {S : SS} {h : AH} {mb sb own : Nat → Nat} (C : CJ S h mb sb own) {k : Nat} (hk : 10 ≤ k ∧ k < 13) (v : Int) : CJ (ups S 0 k 0 0 v) (wr h 4 0 k (aI v)) mb sb own :=
  C.glob (SameR.wr (Rg := fun t x => t = 4 ∧ x = 0) ⟨rfl, rfl⟩) (fun t x z => Or.inl z.2) (fun m => ⟨fun b => ups_t (by decide), fun s => ups_t (by decide), fun s t => ups_t (by decide), ups_a (by omega), ups_a (by omega)⟩) (fun k => ⟨fun b => ups_t (by decide), fun i => ups_t (by decide)⟩) (ups_a (by omega)) (ups_a (by omega)) (C.1.wI ⟨by omega, by omega⟩ v)
theorem CJ.wJ {S : SS} {h : AH} {mb sb own : Nat → Nat} (C : CJ S h mb sb own) {k : Nat} (hk : 13 ≤ k ∧ k < 15) (v : Int) : CJ (ups S 0 k 0 0 v) (wr h 4 0 k (aJ v)) mb sb own :=
  C.glob (SameR.wr (Rg := fun t x => t = 4 ∧ x = 0) ⟨rfl, rfl⟩) (fun t x z => Or.inl z.2) (fun m => ⟨fun b => ups_t (by decide), fun s => ups_t (by decide), fun s t => ups_t (by decide), ups_a (by omega), ups_a (by omega)⟩) (fun k => ⟨fun b => ups_t (by decide), fun i => ups_t (by decide)⟩) (ups_a (by omega)) (ups_a (by omega)) (C.1.wJ hk v)
theorem CJ.wK {S : SS} {h : AH} {mb sb own : Nat → Nat} (C : CJ S h mb sb own) {k : Nat} (v : Int) : CJ (ups S 7 k 0 0 v) (wr h 10 10 k (aI v)) mb sb own :=
  C.glob (SameR.wr (Rg := fun t x => t = 10 ∧ x = 10) ⟨rfl, rfl⟩) (fun t x z => Or.inr (Or.inr (Or.inr z.2))) (fun m => ⟨fun b => ups_t (by decide), fun s => ups_t (by decide), fun s t => ups_t (by decide), ups_t (by decide), ups_t (by decide)⟩) (fun k => ⟨fun b => ups_t (by decide), fun i => ups_t (by decide)⟩) (ups_t (by decide)) (ups_t (by decide)) (C.1.wK v)
/-- a machine worked once -/
abbrev stS (S : SS) (m : Nat) : Nat := (S 1 m 6 0).toNat
def wkG (S : SS) (m : Nat) : Nat := glF (wS S m (stS S m)) (sdN (S 0 10 0 0) / 65536 % sumI (wS S m (stS S m)) (nS S m)) (nS S m) 0
def wkS (S : SS) (m : Nat) : SS := ups (ups (ups (ups S 0 10 0 0 (sdN (S 0 10 0 0))) 1 m 6 0 (wkG S m : Nat)) 1 m 7 0 (w32 (S 1 m 7 0 + 1))) 0 14 0 0 (w64 (S 0 14 0 0 + S 2 m (stS S m) 0))
theorem WF.st {S : SS} (F : WF S) {m : Nat} (hm : m < mS S) : stS S m < nS S m ∧ ((stS S m : Nat) : Int) = S 1 m 6 0 := by
  obtain ⟨k0, n0, s0, hpy, hw⟩ := F.2.1 m hm
  exact ⟨by unfold stS nS; omega, by unfold stS; omega⟩
theorem wkG_b {S : SS} (F : WF S) {m : Nat} (hm : m < mS S) : wkG S m < nS S m := by
  obtain ⟨⟨n1, n5⟩, en, hpy, hw⟩ := F.m hm
  have hs := (F.st hm).1
  have hb := (hw _ hs).2
  exact glF_b (Int.emod_lt_of_pos _ (by omega)) (nS S m) 0 (by omega) (Int.emod_nonneg _ (by omega))
theorem WF.wk {S : SS} (F : WF S) {m : Nat} (hm : m < mS S) : WF (wkS S m) := by
  obtain ⟨⟨n1, n5⟩, en, hpy, hw⟩ := F.m hm
  have hb := wkG_b F hm
  refine (((F.seed (sdN_b _)).std (m := m) ⟨by omega, ?_⟩).stp _).g12 (by decide) _
  rw [ups_t (by decide)]
  omega
theorem c_workOnce {S : SS} (F : WF S) {h : AH} {mb sb own : Nat → Nat} {m : Nat} (J : CJ S h mb sb own) (hm : m < mS S) : ∃ h', E mX4_workOnce [aR (some 0), aR (some (mb m))] h = some (some (aI (S 2 m (stS S m) 0)), h') ∧ CJ (wkS S m) h' mb sb own ∧ L0 h h' := by
  obtain ⟨⟨n1, n5⟩, en, hpy, hw⟩ := F.m hm
  obtain ⟨hs, es⟩ := F.st hm
  have J0 := J
  obtain ⟨G, K, P⟩ := J
  obtain ⟨p1, p2, ⟨M, ⟨wd, g5, g5'⟩, g6, g7, Fr⟩, p4⟩ := P.1 m hm
  have hb := (hw _ hs).2
  have ho : isO h 4 0 = true := isO_rd G.1.1
  have hoM : isO h 1 (mb m) = true := isO_rd M.2.1
  rw [← es] at g6
  have cp := c_payAt M hs
  have e0 : pyS S m (stS S m) = S 2 m (stS S m) 0 := rfl
  rw [e0] at cp
  have cs := c_sumOf M hw hs
  have q10 := G.2.1 10 (by decide) (by decide)
  have f10 := F.1.2.2.2.1
  have cd := c_draw (sum := sumI (wS S m (stS S m)) (nS S m)) q10 f10 ⟨by omega, by omega⟩
  have sw : SameR (fun t x => t = 4 ∧ x = 0) h (wr h 4 0 10 (aI (sdN (S 0 10 0 0)))) := SameR.wr ⟨rfl, rfl⟩
  have J1 := J0.wI (k := 10) (by decide) (sdN (S 0 10 0 0))
  have F1 := F.seed (sdN_b (S 0 10 0 0))
  have M1 := M.same (fun z => by omega) (fun z => by omega) (fun z => by omega) (fun z => by omega) sw
  have g61 : rd (wr h 4 0 10 (aI (sdN (S 0 10 0 0)))) 1 (mb m) 6 = some (aI (stS S m : Nat)) := by rw [rd_wn (Or.inl (by decide))]; exact g6
  have g71 : rd (wr h 4 0 10 (aI (sdN (S 0 10 0 0)))) 1 (mb m) 7 = some (aI (S 1 m 7 0)) := by rw [rd_wn (Or.inl (by decide))]; exact g7
  have cg := c_goal M1 hw hs g61 ⟨Int.emod_nonneg _ (by omega), Int.emod_lt_of_pos _ (by omega)⟩ (d := sdN (S 0 10 0 0) / 65536 % sumI (wS S m (stS S m)) (nS S m))
  have hoM1 : isO (wr h 4 0 10 (aI (sdN (S 0 10 0 0)))) 1 (mb m) = true := isO_rd g61
  have J2 := wM_fld F1 J1.1 J1.2.1 J1.2.2 (m := m) hm (j := 6) (Or.inl rfl) (wkG S m : Nat)
  have F2 : WF (ups (ups S 0 10 0 0 (sdN (S 0 10 0 0))) 1 m 6 0 (wkG S m : Nat)) := F1.std ⟨by omega, by rw [ups_t (by decide)]; have := wkG_b F hm; omega⟩
  have J3 := wM_fld F2 J2.1 J2.2.1 J2.2.2 (m := m) hm (j := 7) (Or.inr rfl) (w32 (S 1 m 7 0 + 1))
  have J4 := J3.wJ (k := 14) (by decide) (w64 (S 0 14 0 0 + S 2 m (stS S m) 0))
  refine ⟨_, ?_, J4, by rw [wr_len, wr_len, wr_len, wr_len], by rw [wr_slt, wr_slt, wr_slt, wr_slt]⟩
  have g72 : rd (wr (wr h 4 0 10 (aI (sdN (S 0 10 0 0)))) 1 (mb m) 6 (aI (wkG S m : Nat))) 1 (mb m) 7 = some (aI (S 1 m 7 0)) := by rw [rd_wn (Or.inr (Or.inr (by decide)))]; exact g71
  have q14 : rd (wr (wr (wr h 4 0 10 (aI (sdN (S 0 10 0 0)))) 1 (mb m) 6 (aI (wkG S m : Nat))) 1 (mb m) 7 (aI (w32 (S 1 m 7 0 + 1)))) 4 0 14 = some (aJ (S 0 14 0 0)) := by
    rw [rd_wn (Or.inl (by decide)), rd_wn (Or.inl (by decide)), rd_wn (Or.inr (Or.inr (by decide)))]
    exact G.2.2.1 14 (by decide) (by decide)
  rw [e_X4_workOnce]
  simp only [↓x_X4_workOnce_0, ↓x_X4_workOnce_1n, ↓x_X4_workOnce_1s, ↓x_X4_workOnce_4, ↓x_X4_workOnce_5, ↓x_X4_workOnce_6, ↓x_X4_workOnce_7, ↓x_X4_workOnce_8, ↓x_X4_workOnce_11, ↓x_X4_workOnce_14, ↓x_X4_workOnce_15, ↓x_X4_workOnce_16, ↓x_X4_workOnce_17, ↓x_X4_workOnce_18, ↓x_X4_workOnce_19, ↓x_X4_workOnce_20, ↓x_X4_workOnce_23, ↓x_X4_workOnce_26, ↓x_X4_workOnce_29, ↓x_X4_workOnce_35, ↓x_X4_workOnce_36, ↓x_X4_workOnce_37, ↓x_X4_workOnce_40, ↓x_X4_workOnce_41, ↓x_X4_workOnce_42, ↓x_X4_workOnce_45, ↓x_X4_workOnce_46, ↓x_X4_workOnce_47, ↓x_X4_workOnce_50, ↓x_X4_workOnce_51, ↓x_X4_workOnce_52, ↓x_X4_workOnce_53, ↓x_X4_workOnce_56, ↓x_X4_workOnce_57, ↓gK_of g6, ho, hoM, ↓cKI cp, ↓cKI cs, ↓cKI cd, hoM1, ↓cKI cg]
  show X mX4_workOnce 32 _ [aI (wkG S m : Nat), _] _ = _
  simp only [↓x_X4_workOnce_0, ↓x_X4_workOnce_1n, ↓x_X4_workOnce_1s, ↓x_X4_workOnce_4, ↓x_X4_workOnce_5, ↓x_X4_workOnce_6, ↓x_X4_workOnce_7, ↓x_X4_workOnce_8, ↓x_X4_workOnce_11, ↓x_X4_workOnce_14, ↓x_X4_workOnce_15, ↓x_X4_workOnce_16, ↓x_X4_workOnce_17, ↓x_X4_workOnce_18, ↓x_X4_workOnce_19, ↓x_X4_workOnce_20, ↓x_X4_workOnce_23, ↓x_X4_workOnce_26, ↓x_X4_workOnce_29, ↓x_X4_workOnce_32, ↓x_X4_workOnce_35, ↓x_X4_workOnce_36, ↓x_X4_workOnce_37, ↓x_X4_workOnce_40, ↓x_X4_workOnce_41, ↓x_X4_workOnce_42, ↓x_X4_workOnce_45, ↓x_X4_workOnce_46, ↓x_X4_workOnce_47, ↓x_X4_workOnce_50, ↓x_X4_workOnce_51, ↓x_X4_workOnce_52, ↓x_X4_workOnce_53, ↓x_X4_workOnce_56, ↓x_X4_workOnce_57, ↓pK_of g61, ↓gK_of g72, ↓pK_of g72, ↓gK_of q14, ↓pK_of q14]
def o_seed (v : Int) (S : SS) : Int × SS := if v < 0 then (-1, S) else (S 0 10 0 0, ups S 0 10 0 0 v)
theorem CK_seed {S : SS} (v : Int) : CK mX4_seed [aI v] aI S (o_seed v S) := by
  intro h C
  have q := C.1.2.1 10 (by decide) (by decide)
  unfold o_seed
  rw [e_X4_seed]
  by_cases c : v < 0
  · rw [if_pos c]
    have c2 : ¬ 0 ≤ v := by omega
    refine ⟨h, ?_, C, grow_rf⟩
    simp only [↓x_X4_seed_0, ↓x_X4_seed_1, ↓x_X4_seed_4, ↓x_X4_seed_5, ↓x_X4_seed_6, ↓x_X4_seed_7, ↓x_X4_seed_10, ↓x_X4_seed_11, ↓x_X4_seed_12, ↓x_X4_seed_13, ↓x_X4_seed_16, ↓x_X4_seed_17, c2, ↓reduceIte]
  · rw [if_neg c]
    have c2 : 0 ≤ v := by omega
    refine ⟨_, ?_, C.wI (k := 10) (by decide) v, wlen⟩
    simp only [↓x_X4_seed_0, ↓x_X4_seed_1, ↓x_X4_seed_4, ↓x_X4_seed_5, ↓x_X4_seed_6, ↓x_X4_seed_7, ↓x_X4_seed_10, ↓x_X4_seed_11, ↓x_X4_seed_12, ↓x_X4_seed_13, ↓x_X4_seed_16, ↓x_X4_seed_17, c2, ↓gK_of q, ↓pK_of q, ↓reduceIte]
def o_work (m : Int) (S : SS) : Int × SS := if ¬ isM S m then (-1, S) else ((wkG S m.toNat : Nat), wkS S m.toNat)
theorem CK_work {S : SS} (F : WF S) (m : Int) : CK mX4_work [aI m] aI S (o_work m S) := by
  intro h C
  have C0 := C
  obtain ⟨G, K, mb, sb, own, P⟩ := C
  have ho : isO h 4 0 = true := isO_rd G.1.1
  have ca := c_machineAt F G P m
  unfold o_work
  rw [e_X4_work]
  by_cases c1 : isM S m
  · rw [if_pos c1] at ca
    rw [if_neg (not_not_intro c1)]
    have hm : m.toNat < mS S := by unfold mS; omega
    obtain ⟨h', a1, a2, a3⟩ := c_workOnce F ⟨G, K, P⟩ hm
    obtain ⟨p1, p2, ⟨M, ⟨wd, g5, g5'⟩, g6, g7, Fr⟩, p4⟩ := a2.2.2.1 m.toNat hm
    have e6 : wkS S m.toNat 1 m.toNat 6 0 = (wkG S m.toNat : Nat) := by
      unfold wkS
      rw [ups_t (by decide), ups_b (by decide), ups_s]
    rw [e6] at g6
    refine ⟨h', ?_, a2.ci, a3.g⟩
    simp only [↓x_X4_work_0, ↓x_X4_work_1, ↓x_X4_work_2, ↓x_X4_work_5, ↓x_X4_work_6, ↓x_X4_work_7n, ↓x_X4_work_7s, ↓x_X4_work_10, ↓x_X4_work_11, ↓x_X4_work_12, ↓x_X4_work_13, ↓x_X4_work_14, ↓x_X4_work_17, ↓x_X4_work_18, ↓x_X4_work_19, ↓x_X4_work_22, ho, ↓cKR ca, ↓cKI a1, ↓gK_of g6]
  · rw [if_neg c1] at ca
    rw [if_pos c1]
    refine ⟨h, ?_, C0, grow_rf⟩
    simp only [↓x_X4_work_0, ↓x_X4_work_1, ↓x_X4_work_2, ↓x_X4_work_5, ↓x_X4_work_6, ↓x_X4_work_7n, ↓x_X4_work_7s, ↓x_X4_work_10, ↓x_X4_work_11, ↓x_X4_work_12, ↓x_X4_work_13, ↓x_X4_work_14, ↓x_X4_work_17, ↓x_X4_work_18, ↓x_X4_work_19, ↓x_X4_work_22, ho, ↓cKR ca]
/-- the worthiest of the first machines -/
noncomputable def wst (S : SS) (m : Nat) : Rat := wR S m (stS S m)
noncomputable def bsN (S : SS) : Nat → Nat
  | 0 => 0
  | k + 1 => if wst S (bsN S k) < wst S k then k else bsN S k
theorem bsN_b (S : SS) : ∀ k, 1 ≤ k → bsN S k < k
  | 1, _ => by
    rw [bsN]
    split
    · decide
    · rw [bsN]; decide
  | k + 2, _ => by
    rw [bsN]
    have := bsN_b S (k + 1) (by omega)
    split <;> omega
noncomputable def o_best (S : SS) : Int × SS := (if mS S = 0 then -9 else (bsN S (mS S) : Nat), S)
section BEST
variable {S : SS} {mb sb own : Nat → Nat}
theorem l_best (F : WF S) : ∀ (d k : Nat) (h : AH) (v4 v5 : AV), k + d = mS S → 1 ≤ k → CJ S h mb sb own → Wg h (mb (bsN S k)) →
    ∃ h', X mX4_bestMachine 7 [aR (some 0), aI (bsN S k : Nat), aR (some (mb (bsN S k) + 4 + stS S (bsN S k))), aI k, v4, v5] [] h = some (some (aI (bsN S (mS S) : Nat)), h') ∧ CJ S h' mb sb own ∧ L0 h h' := by
  have f6 := F.1.1
  have em : ((mS S : Nat) : Int) = S 0 6 0 0 := by unfold mS; omega
  intro d
  induction d with
  | zero =>
    intro k h v4 v5 hd h1 J W
    have e : k = mS S := by omega
    subst e
    refine ⟨h, ?_, J, L0.rf⟩
    have q6 := J.1.2.1 6 (by decide) (by decide)
    rw [← em] at q6
    have n1 : ((mS S : Nat) : Int) ≤ ((mS S : Nat) : Int) := Int.le_refl _
    rw [x_X4_bestMachine_7]
    simp only [↓x_X4_bestMachine_0, ↓x_X4_bestMachine_2, ↓x_X4_bestMachine_3, ↓x_X4_bestMachine_4, ↓x_X4_bestMachine_5, ↓x_X4_bestMachine_6, ↓x_X4_bestMachine_8, ↓x_X4_bestMachine_9, ↓x_X4_bestMachine_12, ↓x_X4_bestMachine_15, ↓x_X4_bestMachine_16, ↓x_X4_bestMachine_17, ↓x_X4_bestMachine_20, ↓x_X4_bestMachine_22, ↓x_X4_bestMachine_24n, ↓x_X4_bestMachine_24s, ↓x_X4_bestMachine_27, ↓x_X4_bestMachine_28, ↓x_X4_bestMachine_30, ↓x_X4_bestMachine_32, ↓x_X4_bestMachine_35, ↓x_X4_bestMachine_38, ↓x_X4_bestMachine_40, ↓x_X4_bestMachine_41n, ↓x_X4_bestMachine_41s, ↓x_X4_bestMachine_44, ↓x_X4_bestMachine_46, ↓x_X4_bestMachine_47, ↓x_X4_bestMachine_50, ↓x_X4_bestMachine_53, ↓x_X4_bestMachine_55, ↓x_X4_bestMachine_56, ↓x_X4_bestMachine_57, ↓x_X4_bestMachine_58, ↓x_X4_bestMachine_61, ↓x_X4_bestMachine_64, ↓x_X4_bestMachine_65, ↓gK_of q6, n1, ↓reduceIte]
  | succ d ih =>
    intro k h v4 v5 hd h1 J W
    have hk : k < mS S := by omega
    have hb := bsN_b S k h1
    obtain ⟨hs, es⟩ := F.st hk
    have q6 := J.1.2.1 6 (by decide) (by decide)
    rw [← em] at q6
    have n3 : ¬ ((mS S : Nat) : Int) ≤ (k : Int) := by omega
    have e5 : w32 ((k : Int) + 1) = ((k + 1 : Nat) : Int) := by rw [w32_in] <;> omega
    have ho : isO h 4 0 = true := isO_rd J.1.1.1
    have ca := c_machineAt F J.1 J.2.2 (k : Int)
    rw [if_pos ⟨by omega, by omega⟩, Int.toNat_natCast] at ca
    obtain ⟨p1, p2, ⟨M, ⟨wd, g5, g5'⟩, g6, g7, Fr⟩, p4⟩ := J.2.2.1 k hk
    rw [← es] at g6
    obtain ⟨h1, a1, a2, a3, a4, a5, a6⟩ := c_worthOf F J hk hs
    have w := a4 _ (by omega) W
    have f1 := a2.wg hk a3 hs
    have f2 := a2.wg (show bsN S k < mS S by omega) w (F.st (show bsN S k < mS S by omega)).1
    have cag := c_against f1.1 f2.1 f1.2 f2.2
    have o1 : isO h1 0 (mb k + 4 + stS S k) = true := isO_rd f1.1.1
    by_cases c : wst S (bsN S k) < wst S k
    · have eb : bsN S (k + 1) = k := by rw [bsN, if_pos c]
      obtain ⟨h', b1, b2, b3⟩ := ih (k + 1) h1 (aR (some (mb k))) (aR (some (mb k + 4 + stS S k))) (by omega) (by omega) a2 (by rw [eb]; exact a3)
      rw [eb] at b1
      have c2 : ¬ wR S k (stS S k) ≤ wR S (bsN S k) (stS S (bsN S k)) := Rat.not_le.mpr c
      refine ⟨h', ?_, b2, L0.tr ⟨a5, a6⟩ b3⟩
      rw [← b1, x_X4_bestMachine_7]
      simp only [↓x_X4_bestMachine_0, ↓x_X4_bestMachine_2, ↓x_X4_bestMachine_3, ↓x_X4_bestMachine_4, ↓x_X4_bestMachine_5, ↓x_X4_bestMachine_6, ↓x_X4_bestMachine_8, ↓x_X4_bestMachine_9, ↓x_X4_bestMachine_12, ↓x_X4_bestMachine_15, ↓x_X4_bestMachine_16, ↓x_X4_bestMachine_17, ↓x_X4_bestMachine_20, ↓x_X4_bestMachine_22, ↓x_X4_bestMachine_24n, ↓x_X4_bestMachine_24s, ↓x_X4_bestMachine_27, ↓x_X4_bestMachine_28, ↓x_X4_bestMachine_30, ↓x_X4_bestMachine_32, ↓x_X4_bestMachine_35, ↓x_X4_bestMachine_38, ↓x_X4_bestMachine_40, ↓x_X4_bestMachine_41n, ↓x_X4_bestMachine_41s, ↓x_X4_bestMachine_44, ↓x_X4_bestMachine_46, ↓x_X4_bestMachine_47, ↓x_X4_bestMachine_50, ↓x_X4_bestMachine_53, ↓x_X4_bestMachine_55, ↓x_X4_bestMachine_56, ↓x_X4_bestMachine_57, ↓x_X4_bestMachine_58, ↓x_X4_bestMachine_61, ↓x_X4_bestMachine_64, ↓x_X4_bestMachine_65, ↓gK_of q6, n3, ho, ↓cKR ca, ↓gK_of g6, ↓cKR a1, o1, ↓cKI cag, rc_le, c2, e5, ↓reduceIte]
    · have eb : bsN S (k + 1) = bsN S k := by rw [bsN, if_neg c]
      obtain ⟨h', b1, b2, b3⟩ := ih (k + 1) h1 (aR (some (mb k))) (aR (some (mb k + 4 + stS S k))) (by omega) (by omega) a2 (by rw [eb]; exact w)
      rw [eb] at b1
      have c2 : wR S k (stS S k) ≤ wR S (bsN S k) (stS S (bsN S k)) := Rat.not_lt.mp c
      refine ⟨h', ?_, b2, L0.tr ⟨a5, a6⟩ b3⟩
      rw [← b1, x_X4_bestMachine_7]
      simp only [↓x_X4_bestMachine_0, ↓x_X4_bestMachine_2, ↓x_X4_bestMachine_3, ↓x_X4_bestMachine_4, ↓x_X4_bestMachine_5, ↓x_X4_bestMachine_6, ↓x_X4_bestMachine_8, ↓x_X4_bestMachine_9, ↓x_X4_bestMachine_12, ↓x_X4_bestMachine_15, ↓x_X4_bestMachine_16, ↓x_X4_bestMachine_17, ↓x_X4_bestMachine_20, ↓x_X4_bestMachine_22, ↓x_X4_bestMachine_24n, ↓x_X4_bestMachine_24s, ↓x_X4_bestMachine_27, ↓x_X4_bestMachine_28, ↓x_X4_bestMachine_30, ↓x_X4_bestMachine_32, ↓x_X4_bestMachine_35, ↓x_X4_bestMachine_38, ↓x_X4_bestMachine_40, ↓x_X4_bestMachine_41n, ↓x_X4_bestMachine_41s, ↓x_X4_bestMachine_44, ↓x_X4_bestMachine_46, ↓x_X4_bestMachine_47, ↓x_X4_bestMachine_50, ↓x_X4_bestMachine_53, ↓x_X4_bestMachine_55, ↓x_X4_bestMachine_56, ↓x_X4_bestMachine_57, ↓x_X4_bestMachine_58, ↓x_X4_bestMachine_61, ↓x_X4_bestMachine_64, ↓x_X4_bestMachine_65, ↓gK_of q6, n3, ho, ↓cKR ca, ↓gK_of g6, ↓cKR a1, o1, ↓cKI cag, rc_le, c2, e5, ↓reduceIte]
theorem c_bestMachine (F : WF S) {h : AH} (J : CJ S h mb sb own) : ∃ h', E mX4_bestMachine [aR (some 0)] h = some (some (aI (o_best S).1), h') ∧ CJ S h' mb sb own ∧ L0 h h' := by
  have f6 := F.1.1
  have em : ((mS S : Nat) : Int) = S 0 6 0 0 := by unfold mS; omega
  have q6 := J.1.2.1 6 (by decide) (by decide)
  rw [← em] at q6
  rw [e_X4_bestMachine]
  by_cases c : mS S = 0
  · have e : (o_best S).1 = -9 := if_pos c
    have n1 : ((mS S : Nat) : Int) ≤ 0 := by omega
    rw [e]
    refine ⟨h, ?_, J, L0.rf⟩
    simp only [↓x_X4_bestMachine_0, ↓x_X4_bestMachine_2, ↓x_X4_bestMachine_3, ↓x_X4_bestMachine_4, ↓x_X4_bestMachine_5, ↓x_X4_bestMachine_6, ↓x_X4_bestMachine_7, ↓x_X4_bestMachine_8, ↓x_X4_bestMachine_9, ↓x_X4_bestMachine_12, ↓x_X4_bestMachine_15, ↓x_X4_bestMachine_16, ↓x_X4_bestMachine_17, ↓x_X4_bestMachine_20, ↓x_X4_bestMachine_22, ↓x_X4_bestMachine_24n, ↓x_X4_bestMachine_24s, ↓x_X4_bestMachine_27, ↓x_X4_bestMachine_28, ↓x_X4_bestMachine_30, ↓x_X4_bestMachine_32, ↓x_X4_bestMachine_35, ↓x_X4_bestMachine_38, ↓x_X4_bestMachine_40, ↓x_X4_bestMachine_41n, ↓x_X4_bestMachine_41s, ↓x_X4_bestMachine_44, ↓x_X4_bestMachine_46, ↓x_X4_bestMachine_47, ↓x_X4_bestMachine_50, ↓x_X4_bestMachine_53, ↓x_X4_bestMachine_55, ↓x_X4_bestMachine_56, ↓x_X4_bestMachine_57, ↓x_X4_bestMachine_58, ↓x_X4_bestMachine_61, ↓x_X4_bestMachine_64, ↓x_X4_bestMachine_65, ↓gK_of q6, n1, ↓reduceIte]
  · have e : (o_best S).1 = (bsN S (mS S) : Nat) := if_neg c
    rw [e]
    have hk : 0 < mS S := by omega
    obtain ⟨hs, es⟩ := F.st hk
    have n3 : ¬ ((mS S : Nat) : Int) ≤ 0 := by omega
    have e5 : w32 ((0 : Int) + 1) = ((0 + 1 : Nat) : Int) := by decide
    have ho : isO h 4 0 = true := isO_rd J.1.1.1
    have ca := c_machineAt F J.1 J.2.2 0
    rw [if_pos ⟨by omega, by omega⟩, show (0 : Int).toNat = 0 from rfl] at ca
    obtain ⟨p1, p2, ⟨M, ⟨wd, g5, g5'⟩, g6, g7, Fr⟩, p4⟩ := J.2.2.1 0 hk
    rw [← es] at g6
    obtain ⟨h1, a1, a2, a3, a4, a5, a6⟩ := c_worthOf F J hk hs
    have eb : bsN S (0 + 1) = 0 := by have := bsN_b S (0 + 1) (by omega); omega
    obtain ⟨h', b1, b2, b3⟩ := l_best (mb := mb) (sb := sb) (own := own) F (mS S - 1) (0 + 1) h1 (aR (some (mb 0))) (aR (some (mb 0 + 4 + stS S 0))) (by omega) (by omega) a2 (by rw [eb]; exact a3)
    rw [eb] at b1
    refine ⟨h', ?_, b2, L0.tr ⟨a5, a6⟩ b3⟩
    rw [← b1]
    simp only [↓x_X4_bestMachine_0, ↓x_X4_bestMachine_2, ↓x_X4_bestMachine_3, ↓x_X4_bestMachine_4, ↓x_X4_bestMachine_5, ↓x_X4_bestMachine_6, ↓x_X4_bestMachine_8, ↓x_X4_bestMachine_9, ↓x_X4_bestMachine_12, ↓x_X4_bestMachine_15, ↓x_X4_bestMachine_16, ↓x_X4_bestMachine_17, ↓x_X4_bestMachine_20, ↓x_X4_bestMachine_22, ↓x_X4_bestMachine_24n, ↓x_X4_bestMachine_24s, ↓x_X4_bestMachine_27, ↓x_X4_bestMachine_28, ↓x_X4_bestMachine_30, ↓x_X4_bestMachine_32, ↓x_X4_bestMachine_35, ↓x_X4_bestMachine_38, ↓x_X4_bestMachine_40, ↓x_X4_bestMachine_41n, ↓x_X4_bestMachine_41s, ↓x_X4_bestMachine_44, ↓x_X4_bestMachine_46, ↓x_X4_bestMachine_47, ↓x_X4_bestMachine_50, ↓x_X4_bestMachine_53, ↓x_X4_bestMachine_55, ↓x_X4_bestMachine_56, ↓x_X4_bestMachine_57, ↓x_X4_bestMachine_58, ↓x_X4_bestMachine_61, ↓x_X4_bestMachine_64, ↓x_X4_bestMachine_65]
    rw [x_X4_bestMachine_7]
    simp only [↓x_X4_bestMachine_0, ↓x_X4_bestMachine_2, ↓x_X4_bestMachine_3, ↓x_X4_bestMachine_4, ↓x_X4_bestMachine_5, ↓x_X4_bestMachine_6, ↓x_X4_bestMachine_8, ↓x_X4_bestMachine_9, ↓x_X4_bestMachine_12, ↓x_X4_bestMachine_15, ↓x_X4_bestMachine_16, ↓x_X4_bestMachine_17, ↓x_X4_bestMachine_20, ↓x_X4_bestMachine_22, ↓x_X4_bestMachine_24n, ↓x_X4_bestMachine_24s, ↓x_X4_bestMachine_27, ↓x_X4_bestMachine_28, ↓x_X4_bestMachine_30, ↓x_X4_bestMachine_32, ↓x_X4_bestMachine_35, ↓x_X4_bestMachine_38, ↓x_X4_bestMachine_40, ↓x_X4_bestMachine_41n, ↓x_X4_bestMachine_41s, ↓x_X4_bestMachine_44, ↓x_X4_bestMachine_46, ↓x_X4_bestMachine_47, ↓x_X4_bestMachine_50, ↓x_X4_bestMachine_53, ↓x_X4_bestMachine_55, ↓x_X4_bestMachine_56, ↓x_X4_bestMachine_57, ↓x_X4_bestMachine_58, ↓x_X4_bestMachine_61, ↓x_X4_bestMachine_64, ↓x_X4_bestMachine_65, ↓gK_of q6, n3, ho, ↓cKR ca, ↓gK_of g6, ↓cKR a1, e5, ↓reduceIte]
    rfl
end BEST
theorem CK_best {S : SS} (F : WF S) : CK mX4_best [] aI S (o_best S) := by
  intro h C
  obtain ⟨G, K, mb, sb, own, P⟩ := C
  have ho : isO h 4 0 = true := isO_rd G.1.1
  obtain ⟨h', a1, a2, a3⟩ := c_bestMachine F (⟨G, K, P⟩ : CJ S h mb sb own)
  refine ⟨h', ?_, a2.ci, a3.g⟩
  rw [e_X4_best]
  simp only [↓x_X4_best_0, ↓x_X4_best_1, ↓x_X4_best_4, ho, ↓cKI a1]
