theorem GI.wI {S : SS} {h : AH} (G : GI S h) {k : Nat} (hk : 6 ≤ k ∧ k < 13) (v : Int) : GI (ups S 0 k 0 0 v) (wr h 4 0 k (aI v)) := by
  obtain ⟨⟨f0, f1, f2, f3, f4, f5⟩, fi, fj, ⟨l1, l2, l3, l4⟩, ft, ks, tl, am, as⟩ := G
  refine ⟨⟨by rw [rd_wn (Or.inr (Or.inr (by omega)))]; exact f0, by rw [rd_wn (Or.inr (Or.inr (by omega)))]; exact f1, by rw [rd_wn (Or.inr (Or.inr (by omega)))]; exact f2, by rw [rd_wn (Or.inr (Or.inr (by omega)))]; exact f3, by rw [rd_wn (Or.inr (Or.inr (by omega)))]; exact f4, by rw [rd_wn (Or.inr (Or.inr (by omega)))]; exact f5⟩, fun j h1 h2 => ?_, fun j h1 h2 => ?_, ⟨by rw [ln_wr]; exact l1, by rw [ln_wr]; exact l2, by rw [ln_wr]; exact l3, by rw [ln_wr]; exact l4⟩, fun j hj => ?_, fun j hj => ?_, fun j hj => ?_, fun j hj => ?_, fun j hj => ?_⟩
  · by_cases e : j = k
    · subst e; rw [ups_s]; exact rd_wr (fi j h1 h2)
    · rw [ups_a e, rd_wn (Or.inr (Or.inr e))]; exact fi j h1 h2
  · rw [ups_a (by omega), rd_wn (Or.inr (Or.inr (by omega)))]; exact fj j h1 h2
  · rw [ups_t (by decide), rd_wn (Or.inl (by decide))]; exact ft j hj
  · rw [ups_t (by decide), rd_wn (Or.inl (by decide))]; exact ks j hj
  · rw [ups_t (by decide), rd_wn (Or.inl (by decide))]; exact tl j hj
  · rw [rd_wn (Or.inl (by decide))]; exact am j hj
  · rw [rd_wn (Or.inl (by decide))]; exact as j hj
theorem GI.wJ {S : SS} {h : AH} (G : GI S h) {k : Nat} (hk : 13 ≤ k ∧ k < 15) (v : Int) : GI (ups S 0 k 0 0 v) (wr h 4 0 k (aJ v)) := by
  obtain ⟨⟨f0, f1, f2, f3, f4, f5⟩, fi, fj, ⟨l1, l2, l3, l4⟩, ft, ks, tl, am, as⟩ := G
  refine ⟨⟨by rw [rd_wn (Or.inr (Or.inr (by omega)))]; exact f0, by rw [rd_wn (Or.inr (Or.inr (by omega)))]; exact f1, by rw [rd_wn (Or.inr (Or.inr (by omega)))]; exact f2, by rw [rd_wn (Or.inr (Or.inr (by omega)))]; exact f3, by rw [rd_wn (Or.inr (Or.inr (by omega)))]; exact f4, by rw [rd_wn (Or.inr (Or.inr (by omega)))]; exact f5⟩, fun j h1 h2 => ?_, fun j h1 h2 => ?_, ⟨by rw [ln_wr]; exact l1, by rw [ln_wr]; exact l2, by rw [ln_wr]; exact l3, by rw [ln_wr]; exact l4⟩, fun j hj => ?_, fun j hj => ?_, fun j hj => ?_, fun j hj => ?_, fun j hj => ?_⟩
  · rw [ups_a (by omega), rd_wn (Or.inr (Or.inr (by omega)))]; exact fi j h1 h2
  · by_cases e : j = k
    · subst e; rw [ups_s]; exact rd_wr (fj j h1 h2)
    · rw [ups_a e, rd_wn (Or.inr (Or.inr e))]; exact fj j h1 h2
  · rw [ups_t (by decide), rd_wn (Or.inl (by decide))]; exact ft j hj
  · rw [ups_t (by decide), rd_wn (Or.inl (by decide))]; exact ks j hj
  · rw [ups_t (by decide), rd_wn (Or.inl (by decide))]; exact tl j hj
  · rw [rd_wn (Or.inl (by decide))]; exact am j hj
  · rw [rd_wn (Or.inl (by decide))]; exact as j hj
theorem GI.wF {S : SS} {h : AH} (G : GI S h) {k : Nat} (v : Int) : GI (ups S 6 k 0 0 v) (wr h 10 9 k (aI v)) := by
  obtain ⟨⟨f0, f1, f2, f3, f4, f5⟩, fi, fj, ⟨l1, l2, l3, l4⟩, ft, ks, tl, am, as⟩ := G
  refine ⟨⟨by rw [rd_wn (Or.inl (by decide))]; exact f0, by rw [rd_wn (Or.inl (by decide))]; exact f1, by rw [rd_wn (Or.inl (by decide))]; exact f2, by rw [rd_wn (Or.inl (by decide))]; exact f3, by rw [rd_wn (Or.inl (by decide))]; exact f4, by rw [rd_wn (Or.inl (by decide))]; exact f5⟩, fun j h1 h2 => ?_, fun j h1 h2 => ?_, ⟨by rw [ln_wr]; exact l1, by rw [ln_wr]; exact l2, by rw [ln_wr]; exact l3, by rw [ln_wr]; exact l4⟩, fun j hj => ?_, fun j hj => ?_, fun j hj => ?_, fun j hj => ?_, fun j hj => ?_⟩
  · rw [ups_t (by decide), rd_wn (Or.inl (by decide))]; exact fi j h1 h2
  · rw [ups_t (by decide), rd_wn (Or.inl (by decide))]; exact fj j h1 h2
  · by_cases e : j = k
    · subst e; rw [ups_s]; exact rd_wr (ft j hj)
    · rw [ups_a e, rd_wn (Or.inr (Or.inr e))]; exact ft j hj
  · rw [ups_t (by decide), rd_wn (Or.inr (Or.inl (by decide)))]; exact ks j hj
  · rw [ups_t (by decide), rd_wn (Or.inl (by decide))]; exact tl j hj
  · rw [rd_wn (Or.inl (by decide))]; exact am j hj
  · rw [rd_wn (Or.inl (by decide))]; exact as j hj
theorem GI.wK {S : SS} {h : AH} (G : GI S h) {k : Nat} (v : Int) : GI (ups S 7 k 0 0 v) (wr h 10 10 k (aI v)) := by
  obtain ⟨⟨f0, f1, f2, f3, f4, f5⟩, fi, fj, ⟨l1, l2, l3, l4⟩, ft, ks, tl, am, as⟩ := G
  refine ⟨⟨by rw [rd_wn (Or.inl (by decide))]; exact f0, by rw [rd_wn (Or.inl (by decide))]; exact f1, by rw [rd_wn (Or.inl (by decide))]; exact f2, by rw [rd_wn (Or.inl (by decide))]; exact f3, by rw [rd_wn (Or.inl (by decide))]; exact f4, by rw [rd_wn (Or.inl (by decide))]; exact f5⟩, fun j h1 h2 => ?_, fun j h1 h2 => ?_, ⟨by rw [ln_wr]; exact l1, by rw [ln_wr]; exact l2, by rw [ln_wr]; exact l3, by rw [ln_wr]; exact l4⟩, fun j hj => ?_, fun j hj => ?_, fun j hj => ?_, fun j hj => ?_, fun j hj => ?_⟩
  · rw [ups_t (by decide), rd_wn (Or.inl (by decide))]; exact fi j h1 h2
  · rw [ups_t (by decide), rd_wn (Or.inl (by decide))]; exact fj j h1 h2
  · rw [ups_t (by decide), rd_wn (Or.inr (Or.inl (by decide)))]; exact ft j hj
  · by_cases e : j = k
    · subst e; rw [ups_s]; exact rd_wr (ks j hj)
    · rw [ups_a e, rd_wn (Or.inr (Or.inr e))]; exact ks j hj
  · rw [ups_t (by decide), rd_wn (Or.inl (by decide))]; exact tl j hj
  · rw [rd_wn (Or.inl (by decide))]; exact am j hj
  · rw [rd_wn (Or.inl (by decide))]; exact as j hj
/-- a fraction told -/
def tlS (S : SS) (r : Rat) : SS := ups (ups S 8 0 0 0 r.num) 8 1 0 0 (r.den : Int)
theorem GI.wT {S : SS} {h : AH} (G : GI S h) (r : Rat) : GI (tlS S r) (fset h 8 r) := by
  obtain ⟨⟨f0, f1, f2, f3, f4, f5⟩, fi, fj, ⟨l1, l2, l3, l4⟩, ft, ks, tl, am, as⟩ := G
  have n : ∀ t x k, t ≠ 0 → rd (fset h 8 r) t x k = rd h t x k := fun t x k z => fset_ne _ (Or.inl z)
  have u : ∀ t k, t ≠ 8 → tlS S r t k 0 0 = S t k 0 0 := fun t k z => by unfold tlS; rw [ups_t z, ups_t z]
  have q := fset_at (tl 0 (by decide)) (tl 1 (by decide)) r
  refine ⟨⟨by rw [n _ _ _ (by decide)]; exact f0, by rw [n _ _ _ (by decide)]; exact f1, by rw [n _ _ _ (by decide)]; exact f2, by rw [n _ _ _ (by decide)]; exact f3, by rw [n _ _ _ (by decide)]; exact f4, by rw [n _ _ _ (by decide)]; exact f5⟩, fun j h1 h2 => ?_, fun j h1 h2 => ?_, ⟨by rw [fset_ln]; exact l1, by rw [fset_ln]; exact l2, by rw [fset_ln]; exact l3, by rw [fset_ln]; exact l4⟩, fun j hj => ?_, fun j hj => ?_, fun j hj => ?_, fun j hj => ?_, fun j hj => ?_⟩
  · rw [u _ _ (by decide), n _ _ _ (by decide)]; exact fi j h1 h2
  · rw [u _ _ (by decide), n _ _ _ (by decide)]; exact fj j h1 h2
  · rw [u _ _ (by decide), n _ _ _ (by decide)]; exact ft j hj
  · rw [u _ _ (by decide), n _ _ _ (by decide)]; exact ks j hj
  · match j, hj with
    | 0, _ => exact q.1
    | 1, _ => exact q.2
  · rw [n _ _ _ (by decide)]; exact am j hj
  · rw [n _ _ _ (by decide)]; exact as j hj
theorem CI.glob {Rg : Nat → Nat → Prop} {S S' : SS} {h h' : AH} (C : CI S h) (s : SameR Rg h h') (hR : ∀ t x, Rg t x → x = 0 ∨ x = 8 ∨ x = 9 ∨ x = 10) (gm : ∀ m, AgM S S' m) (gs : ∀ k, AgS S S' k) (hm : S' 0 6 0 0 = S 0 6 0 0) (hs : S' 0 7 0 0 = S 0 7 0 0) (G' : GI S' h') : CI S' h' := by
  obtain ⟨G, K, mb, sb, own, P1, P2, P3, P4⟩ := C
  have h3 : ∀ t x, Rg t x → own x = 0 := fun t x z => P3 x (by have := hR t x z; omega)
  refine ⟨G', K.same2 (fun t x z => by have := hR t x z; omega) s, mb, sb, own, fun m h1 => (P1 m (by unfold mS at h1 ⊢; rw [← hm]; exact h1)).go (gm m) s (fun t z => by have := hR t _ z; omega) (fun t x z => by have := h3 t x z; omega), fun k h1 => (P2 k (by unfold sS at h1 ⊢; rw [← hs]; exact h1)).go (gs k) s (fun t z => by have := hR t _ z; omega) (fun t x z => by have := h3 t x z; omega), P3, fun x hx => P4 x (by rw [← s.2.2.2.2.1]; exact hx)⟩
theorem CI.wI {S : SS} {h : AH} (C : CI S h) {k : Nat} (hk : 10 ≤ k ∧ k < 13) (v : Int) : CI (ups S 0 k 0 0 v) (wr h 4 0 k (aI v)) :=
  C.glob (SameR.wr (Rg := fun t x => t = 4 ∧ x = 0) ⟨rfl, rfl⟩) (fun t x z => Or.inl z.2) (fun m => ⟨fun b => ups_t (by decide), fun s => ups_t (by decide), fun s t => ups_t (by decide), ups_a (by omega), ups_a (by omega)⟩) (fun k => ⟨fun b => ups_t (by decide), fun i => ups_t (by decide)⟩) (ups_a (by omega)) (ups_a (by omega)) (C.1.wI ⟨by omega, by omega⟩ v)
theorem CI.wJ {S : SS} {h : AH} (C : CI S h) {k : Nat} (hk : 13 ≤ k ∧ k < 15) (v : Int) : CI (ups S 0 k 0 0 v) (wr h 4 0 k (aJ v)) :=
  C.glob (SameR.wr (Rg := fun t x => t = 4 ∧ x = 0) ⟨rfl, rfl⟩) (fun t x z => Or.inl z.2) (fun m => ⟨fun b => ups_t (by decide), fun s => ups_t (by decide), fun s t => ups_t (by decide), ups_a (by omega), ups_a (by omega)⟩) (fun k => ⟨fun b => ups_t (by decide), fun i => ups_t (by decide)⟩) (ups_a (by omega)) (ups_a (by omega)) (C.1.wJ hk v)
theorem CI.wF {S : SS} {h : AH} (C : CI S h) {k : Nat} (v : Int) : CI (ups S 6 k 0 0 v) (wr h 10 9 k (aI v)) :=
  C.glob (SameR.wr (Rg := fun t x => t = 10 ∧ x = 9) ⟨rfl, rfl⟩) (fun t x z => Or.inr (Or.inr (Or.inl z.2))) (fun m => ⟨fun b => ups_t (by decide), fun s => ups_t (by decide), fun s t => ups_t (by decide), ups_t (by decide), ups_t (by decide)⟩) (fun k => ⟨fun b => ups_t (by decide), fun i => ups_t (by decide)⟩) (ups_t (by decide)) (ups_t (by decide)) (C.1.wF v)
theorem CI.wK {S : SS} {h : AH} (C : CI S h) {k : Nat} (v : Int) : CI (ups S 7 k 0 0 v) (wr h 10 10 k (aI v)) :=
  C.glob (SameR.wr (Rg := fun t x => t = 10 ∧ x = 10) ⟨rfl, rfl⟩) (fun t x z => Or.inr (Or.inr (Or.inr z.2))) (fun m => ⟨fun b => ups_t (by decide), fun s => ups_t (by decide), fun s t => ups_t (by decide), ups_t (by decide), ups_t (by decide)⟩) (fun k => ⟨fun b => ups_t (by decide), fun i => ups_t (by decide)⟩) (ups_t (by decide)) (ups_t (by decide)) (C.1.wK v)
theorem tlS_t {S : SS} {r : Rat} {t a b c : Nat} (z : t ≠ 8) : tlS S r t a b c = S t a b c := by unfold tlS; rw [ups_t z, ups_t z]
theorem CI.wT {S : SS} {h : AH} (C : CI S h) (r : Rat) : CI (tlS S r) (fset h 8 r) :=
  C.glob (fset_same (Rg := fun t x => t = 0 ∧ x = 8) ⟨rfl, rfl⟩ h r) (fun t x z => Or.inr (Or.inl z.2)) (fun m => ⟨fun b => tlS_t (by decide), fun s => tlS_t (by decide), fun s t => tlS_t (by decide), tlS_t (by decide), tlS_t (by decide)⟩) (fun k => ⟨fun b => tlS_t (by decide), fun i => tlS_t (by decide)⟩) (tlS_t (by decide)) (tlS_t (by decide)) (C.1.wT r)
/-- the cells of one machine, and the Reckoner's -/
theorem PI.mach {Rg : Nat → Nat → Prop} {S S' : SS} {h h' : AH} {mb sb own : Nat → Nat} {m : Nat} (P : PI S h mb sb own) (h16 : m < 16) (s : SameR Rg h h') (hR : ∀ t x, Rg t x → (3 ≤ x ∧ x < 8) ∨ own x = 1 + m) (gm : ∀ m', m' ≠ m → AgM S S' m') (gs : ∀ k, AgS S S' k) (g0 : ∀ k, S' 0 k 0 0 = S 0 k 0 0) (hn : nS S' m = nS S m) (M' : MP S' m h' (mb m)) : PI S' h' mb sb own := by
  obtain ⟨P1, P2, P3, P4⟩ := P
  have e1 := P3 1 (by decide)
  have e2 := P3 2 (by decide)
  have h3 : ∀ t x, Rg t x → own x = 0 ∨ own x = 1 + m := fun t x z => by
    rcases hR t x z with q | q
    · exact Or.inl (P3 x (by omega))
    · exact Or.inr q
  have hm1 : ∀ t, ¬ Rg t 1 := fun t z => by have := hR t 1 z; omega
  have hm2 : ∀ t, ¬ Rg t 2 := fun t z => by have := hR t 2 z; omega
  refine ⟨fun m' h1 => ?_, fun k h1 => ?_, P3, fun x hx => P4 x (by rw [← s.2.2.2.2.1]; exact hx)⟩
  · have h1' : m' < mS S := by unfold mS at h1 ⊢; rw [← g0]; exact h1
    by_cases e : m' = m
    · subst e
      obtain ⟨a1, a2, a3, a4⟩ := P1 m' h1'
      exact ⟨by rw [s.1 _ _ _ (hm1 12)]; exact a1, a2, M', fun i hi => a4 i (by rw [← hn]; exact hi)⟩
    · exact (P1 m' h1').go (gm m' e) s hm1 (fun t x z => by have := h3 t x z; omega)
  · have h1' : k < sS S := by unfold sS at h1 ⊢; rw [← g0]; exact h1
    refine (P2 k h1').go (gs k) s hm2 (fun t x z => ?_)
    have := h3 t x z
    omega
/-- the cells of one sheet -/
theorem PI.sheet {Rg : Nat → Nat → Prop} {S S' : SS} {h h' : AH} {mb sb own : Nat → Nat} {k : Nat} (P : PI S h mb sb own) (hx : mS S ≤ 16) (s : SameR Rg h h') (hR : ∀ t x, Rg t x → own x = 17 + k) (gm : ∀ m, AgM S S' m) (gs : ∀ k', k' ≠ k → AgS S S' k') (g0 : ∀ j, S' 0 j 0 0 = S 0 j 0 0) (M' : SP S' k h' (sb k)) : PI S' h' mb sb own := by
  obtain ⟨P1, P2, P3, P4⟩ := P
  have e1 := P3 1 (by decide)
  have e2 := P3 2 (by decide)
  have hm1 : ∀ t, ¬ Rg t 1 := fun t z => by have := hR t 1 z; omega
  have hm2 : ∀ t, ¬ Rg t 2 := fun t z => by have := hR t 2 z; omega
  refine ⟨fun m' h1 => ?_, fun k' h1 => ?_, P3, fun x hx => P4 x (by rw [← s.2.2.2.2.1]; exact hx)⟩
  · have h1' : m' < mS S := by unfold mS at h1 ⊢; rw [← g0]; exact h1
    exact (P1 m' h1').go (gm m') s hm1 (fun t x z => by have := hR t x z; omega)
  · have h1' : k' < sS S := by unfold sS at h1 ⊢; rw [← g0]; exact h1
    by_cases e : k' = k
    · subst e
      obtain ⟨a1, a2, a3, a4, a5, a6⟩ := P2 k' h1'
      exact ⟨by rw [s.1 _ _ _ (hm2 13)]; exact a1, a2, M', a4, a5, by rw [s.2.1]; exact a6⟩
    · exact (P2 k' h1').go (gs k' e) s hm2 (fun t x z => by have := hR t x z; omega)
-- the first calls
theorem c_machineAt {S : SS} {h : AH} {mb sb own : Nat → Nat} (F : WF S) (G : GI S h) (P : PI S h mb sb own) (m : Int) : E mX4_machineAt [aR (some 0), aI m] h = some (some (aR (if 0 ≤ m ∧ m < S 0 6 0 0 then some (mb m.toNat) else none)), h) := by
  have g6 := G.2.1 6 (by decide) (by decide)
  have g0 := G.1.1
  have l1 := G.2.2.2.1.1
  have f6 := F.1.1
  have t1 : tagR h 1 = 12 := by obtain ⟨v, hv⟩ := G.2.2.2.2.2.2.2.1 0 (by decide); exact tag_rd hv
  rw [e_X4_machineAt]
  by_cases c : 0 ≤ m ∧ m < S 0 6 0 0
  · have n1 : ¬ m < 0 := by omega
    have n2 : ¬ S 0 6 0 0 ≤ m := by omega
    have n3 : m < ((16 : Nat) : Int) := by omega
    have q := (P.1 m.toNat (by unfold mS; omega)).1
    have c1 := c.1
    rw [if_pos c]
    simp only [↓x_X4_machineAt_0, ↓x_X4_machineAt_1, ↓x_X4_machineAt_4, ↓x_X4_machineAt_5, ↓x_X4_machineAt_6, ↓x_X4_machineAt_9, ↓x_X4_machineAt_12, ↓x_X4_machineAt_13, ↓x_X4_machineAt_14, ↓x_X4_machineAt_17, ↓x_X4_machineAt_18, ↓x_X4_machineAt_21, ↓x_X4_machineAt_22, ↓x_X4_machineAt_23, ↓x_X4_machineAt_24, ↓x_X4_machineAt_27, ↓x_X4_machineAt_28, ↓x_X4_machineAt_29, ↓gK_of g6, ↓gK_of g0, ↓gL_of l1, ↓gK_of q, t1, n1, n2, n3, c1, ↓reduceIte]
  · rw [if_neg c]
    by_cases n1 : m < 0
    · simp only [↓x_X4_machineAt_0, ↓x_X4_machineAt_1, ↓x_X4_machineAt_4, ↓x_X4_machineAt_5, ↓x_X4_machineAt_6, ↓x_X4_machineAt_9, ↓x_X4_machineAt_12, ↓x_X4_machineAt_13, ↓x_X4_machineAt_14, ↓x_X4_machineAt_17, ↓x_X4_machineAt_18, ↓x_X4_machineAt_21, ↓x_X4_machineAt_22, ↓x_X4_machineAt_23, ↓x_X4_machineAt_24, ↓x_X4_machineAt_27, ↓x_X4_machineAt_28, ↓x_X4_machineAt_29, n1, ↓reduceIte]
    · have n2 : S 0 6 0 0 ≤ m := by omega
      simp only [↓x_X4_machineAt_0, ↓x_X4_machineAt_1, ↓x_X4_machineAt_4, ↓x_X4_machineAt_5, ↓x_X4_machineAt_6, ↓x_X4_machineAt_9, ↓x_X4_machineAt_12, ↓x_X4_machineAt_13, ↓x_X4_machineAt_14, ↓x_X4_machineAt_17, ↓x_X4_machineAt_18, ↓x_X4_machineAt_21, ↓x_X4_machineAt_22, ↓x_X4_machineAt_23, ↓x_X4_machineAt_24, ↓x_X4_machineAt_27, ↓x_X4_machineAt_28, ↓x_X4_machineAt_29, ↓gK_of g6, n1, n2, ↓reduceIte]
theorem c_sheetAt {S : SS} {h : AH} {mb sb own : Nat → Nat} (F : WF S) (G : GI S h) (P : PI S h mb sb own) (m : Int) : E mX4_sheetAt [aR (some 0), aI m] h = some (some (aR (if 0 ≤ m ∧ m < S 0 7 0 0 then some (sb m.toNat) else none)), h) := by
  have g6 := G.2.1 7 (by decide) (by decide)
  have g0 := G.1.2.1
  have l1 := G.2.2.2.1.2.1
  have f6 := F.1.2.1
  have t1 : tagR h 2 = 13 := by obtain ⟨v, hv⟩ := G.2.2.2.2.2.2.2.2 0 (by decide); exact tag_rd hv
  rw [e_X4_sheetAt]
  by_cases c : 0 ≤ m ∧ m < S 0 7 0 0
  · have n1 : ¬ m < 0 := by omega
    have n2 : ¬ S 0 7 0 0 ≤ m := by omega
    have n3 : m < ((12 : Nat) : Int) := by omega
    have q := (P.2.1 m.toNat (by unfold sS; omega)).1
    have c1 := c.1
    rw [if_pos c]
    simp only [↓x_X4_sheetAt_0, ↓x_X4_sheetAt_1, ↓x_X4_sheetAt_4, ↓x_X4_sheetAt_5, ↓x_X4_sheetAt_6, ↓x_X4_sheetAt_9, ↓x_X4_sheetAt_12, ↓x_X4_sheetAt_13, ↓x_X4_sheetAt_14, ↓x_X4_sheetAt_17, ↓x_X4_sheetAt_18, ↓x_X4_sheetAt_21, ↓x_X4_sheetAt_22, ↓x_X4_sheetAt_23, ↓x_X4_sheetAt_24, ↓x_X4_sheetAt_27, ↓x_X4_sheetAt_28, ↓x_X4_sheetAt_29, ↓gK_of g6, ↓gK_of g0, ↓gL_of l1, ↓gK_of q, t1, n1, n2, n3, c1, ↓reduceIte]
  · rw [if_neg c]
    by_cases n1 : m < 0
    · simp only [↓x_X4_sheetAt_0, ↓x_X4_sheetAt_1, ↓x_X4_sheetAt_4, ↓x_X4_sheetAt_5, ↓x_X4_sheetAt_6, ↓x_X4_sheetAt_9, ↓x_X4_sheetAt_12, ↓x_X4_sheetAt_13, ↓x_X4_sheetAt_14, ↓x_X4_sheetAt_17, ↓x_X4_sheetAt_18, ↓x_X4_sheetAt_21, ↓x_X4_sheetAt_22, ↓x_X4_sheetAt_23, ↓x_X4_sheetAt_24, ↓x_X4_sheetAt_27, ↓x_X4_sheetAt_28, ↓x_X4_sheetAt_29, n1, ↓reduceIte]
    · have n2 : S 0 7 0 0 ≤ m := by omega
      simp only [↓x_X4_sheetAt_0, ↓x_X4_sheetAt_1, ↓x_X4_sheetAt_4, ↓x_X4_sheetAt_5, ↓x_X4_sheetAt_6, ↓x_X4_sheetAt_9, ↓x_X4_sheetAt_12, ↓x_X4_sheetAt_13, ↓x_X4_sheetAt_14, ↓x_X4_sheetAt_17, ↓x_X4_sheetAt_18, ↓x_X4_sheetAt_21, ↓x_X4_sheetAt_22, ↓x_X4_sheetAt_23, ↓x_X4_sheetAt_24, ↓x_X4_sheetAt_27, ↓x_X4_sheetAt_28, ↓x_X4_sheetAt_29, ↓gK_of g6, n1, n2, ↓reduceIte]
/-- a finding kept -/
def fdS (S : SS) (f : Nat) : SS := ups (ups S 0 12 0 0 (f : Int)) 6 f 0 0 (w32 (S 6 f 0 0 + 1))
def fdH (S : SS) (h : AH) (f : Nat) : AH := wr (wr h 4 0 12 (aI (f : Int))) 10 9 f (aI (w32 (S 6 f 0 0 + 1)))
theorem c_found {S : SS} {h : AH} (C : CI S h) {f : Nat} (hf : f < 7) : E mX4_found [aR (some 0), aI (f : Int)] h = some (some (aI (-3)), fdH S h f) := by
  obtain ⟨G, -⟩ := C
  have g4 := G.1.2.2.2.2.1
  have l1 := G.2.2.2.1.2.2.1
  have q12 := G.2.1 12 (by decide) (by decide)
  have qf := G.2.2.2.2.1 f hf
  have n1 : ¬ ((f : Int) < 0) := by omega
  have n2 : ¬ (((7 : Nat) : Int) ≤ (f : Int)) := by omega
  have n3 : 0 ≤ (f : Int) := by omega
  have qf1 : rd (wr h 4 0 12 (aI (f : Int))) 10 9 (f : Int).toNat = some (aI (S 6 f 0 0)) := by rw [rd_wn (Or.inl (by decide))]; exact qf
  have g4' : rd (wr h 4 0 12 (aI (f : Int))) 4 0 4 = some (aR (some 9)) := by rw [rd_wn (Or.inr (Or.inr (by decide)))]; exact g4
  rw [Int.toNat_natCast] at qf1
  rw [e_X4_found]
  simp only [↓x_X4_found_0, ↓x_X4_found_1, ↓x_X4_found_4, ↓x_X4_found_5, ↓x_X4_found_6, ↓x_X4_found_9, ↓x_X4_found_10, ↓x_X4_found_13, ↓x_X4_found_14, ↓x_X4_found_15, ↓x_X4_found_18, ↓x_X4_found_19, ↓x_X4_found_22, ↓x_X4_found_23, ↓x_X4_found_24, ↓x_X4_found_25, ↓x_X4_found_26, ↓x_X4_found_27, ↓x_X4_found_28, ↓x_X4_found_30, ↓gK_of g4, ↓gL_of l1, ↓pK_of q12, n1, n2, n3, ↓gK_of g4', Int.toNat_natCast, gK_of qf1, pK_of qf1, ↓reduceIte]
  rfl
theorem CI.fd {S : SS} {h : AH} (C : CI S h) (f : Nat) : CI (fdS S f) (fdH S h f) := by
  unfold fdS fdH
  have := (C.wI (k := 12) (by decide) (f : Int)).wF (k := f) (w32 (S 6 f 0 0 + 1))
  exact this
theorem fdH_len {S : SS} {h : AH} {f : Nat} : (fdH S h f).length = h.length ∧ slt (fdH S h f) = slt h := ⟨by unfold fdH; rw [wr_len, wr_len], by unfold fdH; rw [wr_slt, wr_slt]⟩
