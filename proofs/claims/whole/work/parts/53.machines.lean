/-! ===== the class's calls on machines ===== -/
def CJ (S : SS) (h : AH) (mb sb own : Nat → Nat) : Prop := GI S h ∧ RKF h ∧ PI S h mb sb own
theorem CJ.ci {S : SS} {h : AH} {mb sb own : Nat → Nat} (j : CJ S h mb sb own) : CI S h := ⟨j.1, j.2.1, mb, sb, own, j.2.2⟩
theorem CJ.mach {Rg : Nat → Nat → Prop} {S S' : SS} {h h' : AH} {mb sb own : Nat → Nat} {m : Nat} (F : WF S) (G : GI S h) (K : RKF h) (P : PI S h mb sb own) (hm : m < mS S) (s : SameR Rg h h') (hR : ∀ t x, Rg t x → mb m ≤ x ∧ x < mb m + 4 + nS S m) (gg : AgG S S') (gm : ∀ m', m' ≠ m → AgM S S' m') (gs : ∀ k, AgS S S' k) (hn : nS S' m = nS S m) (M' : MP S' m h' (mb m)) : CJ S' h' mb sb own := by
  obtain ⟨p1, p2, p3, p4⟩ := P.1 m hm
  have hown : ∀ t x, Rg t x → own x = 1 + m := fun t x z => by
    have h1 := hR t x z
    have h2 := p4 (x - mb m) (by omega)
    rw [show mb m + (x - mb m) = x by omega] at h2
    exact h2
  have f6 := F.1.1
  exact ⟨(G.same (fun t x z => by have := hR t x z; omega) s).congr gg, K.same2 (fun t x z => by have := hR t x z; omega) s, P.mach (m := m) (by unfold mS at hm; omega) s (fun t x z => Or.inr (hown t x z)) gm gs gg.1 hn M'⟩
theorem Mach.py' {h h' : AH} {a n : Nat} {k : Int} {py : Nat → Int} {w : Nat → Nat → Int} (M : Mach h a k n py w) {s : Nat} {v : Int} (hs : s < n) (py' : Nat → Int) (e1 : py' s = v) (e2 : ∀ j, j ≠ s → py' j = py j) (hh : h' = wr (wr h 10 (a + 1) s (aI v)) 1 a 5 (aI 0)) : Mach h' a k n py' w := by
  obtain ⟨b, g0, g1, g2, g3, g4, l1, l2, l3, p1, w1, o1⟩ := M
  subst hh
  refine ⟨b, by rw [rd_wn (Or.inr (Or.inr (by decide))), rd_wn (Or.inl (by decide))]; exact g0, by rw [rd_wn (Or.inr (Or.inr (by decide))), rd_wn (Or.inl (by decide))]; exact g1, by rw [rd_wn (Or.inr (Or.inr (by decide))), rd_wn (Or.inl (by decide))]; exact g2, by rw [rd_wn (Or.inr (Or.inr (by decide))), rd_wn (Or.inl (by decide))]; exact g3, by rw [rd_wn (Or.inr (Or.inr (by decide))), rd_wn (Or.inl (by decide))]; exact g4, by rw [ln_wr, ln_wr]; exact l1, by rw [ln_wr, ln_wr]; exact l2, by rw [ln_wr, ln_wr]; exact l3, fun j hj => ?_, fun x t hx ht => ?_, fun j hj => ?_⟩
  · rw [rd_wn (Or.inl (by decide))]
    by_cases e : j = s
    · subst e; rw [e1]; exact rd_wr (p1 j hj)
    · rw [rd_wn (Or.inr (Or.inr e)), e2 j e]; exact p1 j hj
  · rw [rd_wn (Or.inl (by decide)), rd_wn (Or.inr (Or.inl (by omega)))]; exact w1 x t hx ht
  · rw [rd_wn (Or.inl (by decide)), rd_wn (Or.inl (by decide))]; exact o1 j hj
theorem Mach.w' {h h' : AH} {a n : Nat} {k : Int} {py : Nat → Int} {w : Nat → Nat → Int} (M : Mach h a k n py w) {s t : Nat} {v : Int} (hs : s < n) (ht : t < n) (w' : Nat → Nat → Int) (e1 : w' s t = v) (e2 : ∀ i j, ¬ (i = s ∧ j = t) → w' i j = w i j) (hh : h' = wr (wr h 10 (a + 2) (s * n + t) (aI v)) 1 a 5 (aI 0)) : Mach h' a k n py w' := by
  obtain ⟨b, g0, g1, g2, g3, g4, l1, l2, l3, p1, w1, o1⟩ := M
  subst hh
  refine ⟨b, by rw [rd_wn (Or.inr (Or.inr (by decide))), rd_wn (Or.inl (by decide))]; exact g0, by rw [rd_wn (Or.inr (Or.inr (by decide))), rd_wn (Or.inl (by decide))]; exact g1, by rw [rd_wn (Or.inr (Or.inr (by decide))), rd_wn (Or.inl (by decide))]; exact g2, by rw [rd_wn (Or.inr (Or.inr (by decide))), rd_wn (Or.inl (by decide))]; exact g3, by rw [rd_wn (Or.inr (Or.inr (by decide))), rd_wn (Or.inl (by decide))]; exact g4, by rw [ln_wr, ln_wr]; exact l1, by rw [ln_wr, ln_wr]; exact l2, by rw [ln_wr, ln_wr]; exact l3, fun j hj => ?_, fun x u hx hu => ?_, fun j hj => ?_⟩
  · rw [rd_wn (Or.inl (by decide)), rd_wn (Or.inr (Or.inl (by omega)))]; exact p1 j hj
  · rw [rd_wn (Or.inl (by decide))]
    by_cases e : x = s ∧ u = t
    · obtain ⟨z1, z2⟩ := e
      subst z1; subst z2; rw [e1]; exact rd_wr (w1 x u hx hu)
    · have hne : x * n + u ≠ s * n + t := by
        intro z
        have d1 : (x * n + u) / n = x := by rw [Nat.mul_comm, Nat.mul_add_div (by omega), Nat.div_eq_of_lt hu]; rfl
        have d2 : (s * n + t) / n = s := by rw [Nat.mul_comm, Nat.mul_add_div (by omega), Nat.div_eq_of_lt ht]; rfl
        rw [z, d2] at d1
        subst d1
        omega
      rw [rd_wn (Or.inr (Or.inr hne)), e2 x u e]; exact w1 x u hx hu
  · rw [rd_wn (Or.inl (by decide)), rd_wn (Or.inl (by decide))]; exact o1 j hj
/-- one of a Machine's own words from the sixth on -/
theorem Mach.fld {h : AH} {a n j : Nat} {k : Int} {py : Nat → Int} {w : Nat → Nat → Int} {v : AV} (hj : 5 ≤ j) (M : Mach h a k n py w) : Mach (wr h 1 a j v) a k n py w := by
  obtain ⟨b, g0, g1, g2, g3, g4, l1, l2, l3, p1, w1, o1⟩ := M
  exact ⟨b, by rw [rd_wn (Or.inr (Or.inr (by omega)))]; exact g0, by rw [rd_wn (Or.inr (Or.inr (by omega)))]; exact g1, by rw [rd_wn (Or.inr (Or.inr (by omega)))]; exact g2, by rw [rd_wn (Or.inr (Or.inr (by omega)))]; exact g3, by rw [rd_wn (Or.inr (Or.inr (by omega)))]; exact g4, by rw [ln_wr]; exact l1, by rw [ln_wr]; exact l2, by rw [ln_wr]; exact l3, fun j hj => by rw [rd_wn (Or.inl (by decide))]; exact p1 j hj, fun x t hx ht => by rw [rd_wn (Or.inl (by decide))]; exact w1 x t hx ht, fun j hj => by rw [rd_wn (Or.inl (by decide))]; exact o1 j hj⟩
section WM
variable {S : SS} {h : AH} {mb sb own : Nat → Nat} {m : Nat}
theorem wM_pay (F : WF S) (G : GI S h) (K : RKF h) (P : PI S h mb sb own) (hm : m < mS S) {s : Nat} (hs : s < nS S m) (v : Int) : CJ (ups S 2 m s 0 v) (wr (wr h 10 (mb m + 1) s (aI v)) 1 (mb m) 5 (aI 0)) mb sb own := by
  obtain ⟨p1, p2, ⟨M, ⟨wd, g5, g5'⟩, g6, g7, Fr⟩, p4⟩ := P.1 m hm
  have sw : SameR (fun t x => (t = 10 ∧ x = mb m + 1) ∨ (t = 1 ∧ x = mb m)) h (wr (wr h 10 (mb m + 1) s (aI v)) 1 (mb m) 5 (aI 0)) := (SameR.wr (Or.inl ⟨rfl, rfl⟩)).tr (SameR.wr (Or.inr ⟨rfl, rfl⟩))
  refine CJ.mach F G K P hm sw (fun t x z => by omega) (AgG_u (by decide)) (fun m' h' => AgM_u (by decide) (Or.inl h')) (fun k => AgS_u (Or.inr (by decide))) (by unfold nS; rw [ups_t (by decide)]) ?_
  have q5 : rd (wr h 10 (mb m + 1) s (aI v)) 1 (mb m) 5 = some (aI wd) := by rw [rd_wn (Or.inl (by decide))]; exact g5
  refine ⟨?_, ⟨0, rd_wr q5, fun z => absurd rfl z⟩, by rw [ups_t (by decide), rd_wn (Or.inr (Or.inr (by decide))), rd_wn (Or.inl (by decide))]; exact g6, by rw [ups_t (by decide), rd_wn (Or.inr (Or.inr (by decide))), rd_wn (Or.inl (by decide))]; exact g7, fun u hu => ?_⟩
  · rw [ups_t (by decide)]
    have e3 : wS (ups S 2 m s 0 v) m = wS S m := funext fun i => funext fun j => ups_t (by decide)
    rw [e3, show nS (ups S 2 m s 0 v) m = nS S m by unfold nS; rw [ups_t (by decide)]]
    exact M.py' hs (pyS (ups S 2 m s 0 v) m) ups_s (fun j hj => ups_b hj) rfl
  · rw [show nS (ups S 2 m s 0 v) m = nS S m by unfold nS; rw [ups_t (by decide)]] at hu
    obtain ⟨x, y, hx, hy⟩ := Fr u hu
    exact ⟨x, y, by rw [rd_wn (Or.inl (by decide)), rd_wn (Or.inl (by decide))]; exact hx, by rw [rd_wn (Or.inl (by decide)), rd_wn (Or.inl (by decide))]; exact hy⟩
theorem wM_weight (F : WF S) (G : GI S h) (K : RKF h) (P : PI S h mb sb own) (hm : m < mS S) {s t : Nat} (hs : s < nS S m) (ht : t < nS S m) (v : Int) : CJ (ups S 3 m s t v) (wr (wr h 10 (mb m + 2) (s * nS S m + t) (aI v)) 1 (mb m) 5 (aI 0)) mb sb own := by
  obtain ⟨p1, p2, ⟨M, ⟨wd, g5, g5'⟩, g6, g7, Fr⟩, p4⟩ := P.1 m hm
  have sw : SameR (fun t x => (t = 10 ∧ x = mb m + 2) ∨ (t = 1 ∧ x = mb m)) h (wr (wr h 10 (mb m + 2) (s * nS S m + t) (aI v)) 1 (mb m) 5 (aI 0)) := (SameR.wr (Or.inl ⟨rfl, rfl⟩)).tr (SameR.wr (Or.inr ⟨rfl, rfl⟩))
  refine CJ.mach F G K P hm sw (fun t x z => by omega) (AgG_u (by decide)) (fun m' h' => AgM_u (by decide) (Or.inl h')) (fun k => AgS_u (Or.inr (by decide))) (by unfold nS; rw [ups_t (by decide)]) ?_
  have q5 : rd (wr h 10 (mb m + 2) (s * nS S m + t) (aI v)) 1 (mb m) 5 = some (aI wd) := by rw [rd_wn (Or.inl (by decide))]; exact g5
  refine ⟨?_, ⟨0, rd_wr q5, fun z => absurd rfl z⟩, by rw [ups_t (by decide), rd_wn (Or.inr (Or.inr (by decide))), rd_wn (Or.inl (by decide))]; exact g6, by rw [ups_t (by decide), rd_wn (Or.inr (Or.inr (by decide))), rd_wn (Or.inl (by decide))]; exact g7, fun u hu => ?_⟩
  · rw [ups_t (by decide)]
    have e3 : pyS (ups S 3 m s t v) m = pyS S m := funext fun i => ups_t (by decide)
    rw [e3, show nS (ups S 3 m s t v) m = nS S m by unfold nS; rw [ups_t (by decide)]]
    exact M.w' hs ht (wS (ups S 3 m s t v) m) ups_s (fun i j hj => by
      by_cases e : i = s
      · exact ups_c (fun z => hj ⟨e, z⟩)
      · exact ups_b e) rfl
  · rw [show nS (ups S 3 m s t v) m = nS S m by unfold nS; rw [ups_t (by decide)]] at hu
    obtain ⟨x, y, hx, hy⟩ := Fr u hu
    exact ⟨x, y, by rw [rd_wn (Or.inl (by decide)), rd_wn (Or.inl (by decide))]; exact hx, by rw [rd_wn (Or.inl (by decide)), rd_wn (Or.inl (by decide))]; exact hy⟩
/-- where it stands (6), its steps (7) -/
theorem wM_fld (F : WF S) (G : GI S h) (K : RKF h) (P : PI S h mb sb own) (hm : m < mS S) {j : Nat} (hj : j = 6 ∨ j = 7) (v : Int) : CJ (ups S 1 m j 0 v) (wr h 1 (mb m) j (aI v)) mb sb own := by
  obtain ⟨p1, p2, ⟨M, ⟨wd, g5, g5'⟩, g6, g7, Fr⟩, p4⟩ := P.1 m hm
  have sw : SameR (fun t x => t = 1 ∧ x = mb m) h (wr h 1 (mb m) j (aI v)) := SameR.wr ⟨rfl, rfl⟩
  have hn : nS (ups S 1 m j 0 v) m = nS S m := by unfold nS; rw [ups_b (by omega)]
  have e0 : ups S 1 m j 0 v 1 m 0 0 = S 1 m 0 0 := ups_b (by omega)
  have e2 : pyS (ups S 1 m j 0 v) m = pyS S m := funext fun i => ups_t (by decide)
  have e3 : wS (ups S 1 m j 0 v) m = wS S m := funext fun i => funext fun t => ups_t (by decide)
  have e8 : qS (ups S 1 m j 0 v) = qS S := by unfold qS; rw [ups_t (by decide)]
  have e9 : pS (ups S 1 m j 0 v) = pS S := by unfold pS; rw [ups_t (by decide)]
  refine CJ.mach F G K P hm sw (fun t x z => by omega) (AgG_u (by decide)) (fun m' h' => AgM_u (by decide) (Or.inl h')) (fun k => AgS_u (Or.inr (by decide))) hn ?_
  unfold MP
  rw [hn, e0, e2, e3, e8, e9]
  refine ⟨M.fld (by omega), ⟨wd, by rw [rd_wn (Or.inr (Or.inr (by omega)))]; exact g5, fun z u hu hD => ?_⟩, ?_, ?_, fun u hu => ?_⟩
  · obtain ⟨r, ⟨r0, r1⟩, r2⟩ := g5' z u hu hD
    exact ⟨r, ⟨by rw [rd_wn (Or.inl (by decide))]; exact r0, by rw [rd_wn (Or.inl (by decide))]; exact r1⟩, r2⟩
  · by_cases e : 6 = j
    · subst e; rw [ups_s]; exact rd_wr g6
    · rw [ups_b e, rd_wn (Or.inr (Or.inr e))]; exact g6
  · by_cases e : 7 = j
    · subst e; rw [ups_s]; exact rd_wr g7
    · rw [ups_b e, rd_wn (Or.inr (Or.inr e))]; exact g7
  · obtain ⟨x, y, hx, hy⟩ := Fr u hu
    exact ⟨x, y, by rw [rd_wn (Or.inl (by decide))]; exact hx, by rw [rd_wn (Or.inl (by decide))]; exact hy⟩
end WM
