/-! ===== what always holds, holds after every call ===== -/
theorem WF.tear {S : SS} (F : WF S) (k : Nat) : WF (ups S 4 k 2 0 1) := by
  obtain ⟨F0, F1, F2⟩ := F
  refine ⟨F0, F1, fun j hj => ?_⟩
  have e0 : ups S 4 k 2 0 1 4 j 0 0 = S 4 j 0 0 := ups_b (by decide)
  have e1 : ups S 4 k 2 0 1 4 j 1 0 = S 4 j 1 0 := ups_b (by decide)
  obtain ⟨g0, g1, g2⟩ := F2 j hj
  rw [e0, e1]
  refine ⟨g0, g1, ?_⟩
  by_cases e : j = k
  · subst e; rw [ups_s]; exact Or.inr rfl
  · rw [ups_a e]; exact g2
theorem WF.chc {S : SS} (F : WF S) {m s t : Nat} {w : Int} (hw : 0 ≤ w ∧ w ≤ 10) (ht : t < nS S m) (h1 : 1 ≤ sumI (wS S m s) (nS S m) - S 3 m s t + w) (h2 : sumI (wS S m s) (nS S m) - S 3 m s t + w ≤ 10) : WF (ups S 3 m s t w) := by
  obtain ⟨F0, F1, F2⟩ := F
  refine ⟨F0, fun m' hm' => ?_, F2⟩
  obtain ⟨k0, n0, s0, hpy, hW⟩ := F1 m' hm'
  refine ⟨k0, n0, s0, hpy, fun u hu => ?_⟩
  have en : nS (ups S 3 m s t w) m' = nS S m' := rfl
  rw [en] at hu ⊢
  obtain ⟨a1, a2, a3⟩ := hW u hu
  by_cases em : m' = m
  · subst em
    by_cases es : u = s
    · subst es
      refine ⟨fun v hv => ?_, ?_⟩
      · by_cases ev : v = t
        · subst ev; rw [show wS (ups S 3 m' u v w) m' u v = w from ups_s]; exact hw
        · rw [show wS (ups S 3 m' u t w) m' u v = S 3 m' u v from ups_c ev]; exact a1 v hv
      · have q := sumI_upd (f := wS S m' u) (g := wS (ups S 3 m' u t w) m' u) (k := t) (n := nS S m') ht (fun j _ hj => ups_c hj)
        rw [q, show wS (ups S 3 m' u t w) m' u t = w from ups_s]
        have e : wS S m' u t = S 3 m' u t := rfl
        rw [e]
        omega
    · have e : wS (ups S 3 m' s t w) m' u = wS S m' u := funext fun v => ups_b es
      rw [e]
      exact ⟨a1, a2, a3⟩
  · have e : wS (ups S 3 m s t w) m' u = wS S m' u := funext fun v => ups_a em
    rw [e]
    exact ⟨a1, a2, a3⟩
theorem wfq {c : Prop} [Decidable c] {x : Int × SS} {y : Int × SS} (h1 : c → WF x.2) (h2 : ¬ c → WF y.2) : WF (if c then x else y).2 := by
  split
  · exact h1 ‹_›
  · exact h2 ‹_›
theorem wf_share {S : SS} (F : WF S) (p q : Int) : WF (o_share p q S).2 := by
  unfold o_share
  split
  · exact F
  · exact F.sh (by omega)
theorem wf_sheet {S : SS} (F : WF S) (kd n : Int) : WF (o_sheet kd n S).2 := by
  unfold o_sheet
  split
  · exact F
  split
  · exact F
  split
  · exact F.fd _
  · exact F.ns (by omega) (by omega) ‹_›
theorem wf_tear {S : SS} (F : WF S) (k : Int) : WF (o_tear k S).2 := by
  unfold o_tear
  split
  · exact F
  split
  · exact F.fd _
  · exact F.tear _
theorem wf_lay {S : SS} (F : WF S) (k i v : Int) : WF (o_lay k i v S).2 := by
  unfold o_lay
  split
  · exact F
  split
  · exact F.fd _
  split
  · exact F.fd _
  · exact F.t5 (by decide) _
theorem wf_get {S : SS} (F : WF S) (k i : Int) : WF (o_get k i S).2 := by
  unfold o_get
  split
  · exact F
  split
  · exact F.fd _
  split
  · exact F.fd _
  · exact F.g12 (by decide) _
theorem wf_copy {S : SS} (F : WF S) (k i l j n : Int) : WF (o_copy k i l j n S).2 := by
  unfold o_copy
  split
  · exact F
  split
  · exact F.fd _
  split
  · exact F.fd _
  split
  · exact F.fd _
  · exact F.cp
theorem wf_machine {S : SS} (F : WF S) (kd n : Int) : WF (o_machine kd n S).2 := by
  unfold o_machine
  refine wfq (fun _ => F) fun c1 => wfq (fun _ => F) fun c2 => wfq (fun _ => F) fun c3 => wfq (fun _ => F.fd _) fun c4 => F.nm (by omega) ⟨?_, by omega⟩ c3
  by_cases e : kd = 3
  · rw [if_pos e] at c2; omega
  · rw [if_neg e] at c2; omega
theorem wf_is {S : SS} (F : WF S) (m k : Int) : WF (o_is m k S).2 := by
  unfold o_is
  split <;> exact F
theorem wf_told {S : SS} (F : WF S) (m k : Int) : WF (o_told m k S).2 := by
  unfold o_told
  split <;> exact F
theorem wf_pay {S : SS} (F : WF S) (m s v : Int) : WF (o_pay m s v S).2 := by
  unfold o_pay
  split
  · exact F
  split
  · exact F.fd _
  split
  · exact F
  · exact F.pay (by omega)
theorem wf_chance {S : SS} (F : WF S) (m s t w : Int) : WF (o_chance m s t w S).2 := by
  unfold o_chance
  split
  · exact F
  rename_i c1
  split
  · exact F.fd _
  split
  · exact F.fd _
  rename_i c3
  split
  · exact F
  rename_i c4
  refine F.chc (by omega) ?_ (by omega) (by omega)
  show t.toNat < (S 1 m.toNat 1 0).toNat
  omega
theorem wf_fill {S : SS} (F : WF S) (m k i : Int) : WF (o_fill m k i S).2 := by
  unfold o_fill
  split
  · exact F
  split
  · exact F.fd _
  split
  · exact F.fd _
  split
  · exact F
  · rename_i c
    exact F.fl (Bool.not_eq_false _ ▸ c) _ (Nat.le_refl _)
theorem wf_ask {S : SS} (F : WF S) (m s k : Int) : WF (o_ask m s k S).2 := by
  unfold o_ask
  split
  · exact F
  split
  · exact F.fd _
  split
  · exact F
  · exact F.g12 (by decide) _
theorem wf_stand {S : SS} (F : WF S) (m s : Int) : WF (o_stand m s S).2 := by
  unfold o_stand
  split
  · exact F
  split
  · exact F.fd _
  · exact F.std (by omega)
theorem wf_worth {S : SS} (F : WF S) (m s : Int) : WF (o_worth m s S).2 := by
  unfold o_worth
  split
  · exact F
  split
  · exact F.fd _
  · exact F.tl _
theorem wf_way {S : SS} (F : WF S) (m s k : Int) : WF (o_way m s k S).2 := by
  unfold o_way
  split
  · exact F
  split
  · exact F.fd _
  · exact F.tl _
theorem wf_order {S : SS} (F : WF S) (m i : Int) : WF (o_order m i S).2 := by
  unfold o_order
  split <;> exact F
theorem wf_goes {S : SS} (F : WF S) (m s : Int) : WF (o_goes m s S).2 := by
  unfold o_goes
  split
  · exact F
  split
  · exact F.fd _
  · exact F
theorem wf_even {S : SS} (F : WF S) (m s a b : Int) : WF (o_even m s a b S).2 := by
  unfold o_even
  split
  · exact F
  split
  · exact F.fd _
  split
  · exact F.fd _
  · exact F
theorem wf_better {S : SS} (F : WF S) (m s : Int) : WF (o_better m s S).2 := by
  unfold o_better
  split
  · exact F
  split
  · exact F.fd _
  · exact F.tl _
theorem wf_mean {S : SS} (F : WF S) (m s : Int) : WF (o_mean m s S).2 := by
  unfold o_mean
  split
  · exact F
  split
  · exact F.fd _
  · exact F.tl _
theorem wf_row {S : SS} (F : WF S) (m s : Int) : WF (o_row m s S).2 := by
  unfold o_row
  split
  · exact F
  split
  · exact F.fd _
  split
  · exact F.fd _
  · exact F
theorem wf_least {S : SS} (F : WF S) (m : Int) : WF (o_least m S).2 := by
  unfold o_least
  split
  · exact F
  · exact F.tl _
theorem wf_compare {S : SS} (F : WF S) (m s o t : Int) : WF (o_compare m s o t S).2 := by
  unfold o_compare
  split
  · exact F
  split
  · exact F.fd _
  · exact F
theorem wf_seed {S : SS} (F : WF S) (v : Int) (hv : v ≤ 2147483647) : WF (o_seed v S).2 := by
  unfold o_seed
  split
  · exact F
  · exact F.seed (by omega)
theorem wf_best {S : SS} (F : WF S) : WF (o_best S).2 := F
theorem wf_work {S : SS} (F : WF S) (m : Int) : WF (o_work m S).2 := by
  unfold o_work
  split
  · exact F
  · refine F.wk ?_
    show m.toNat < (S 0 6 0 0).toNat
    omega
theorem wf_step {S : SS} (F : WF S) (i : Int) : WF (o_step i S).2 := F
theorem wf_worked {S : SS} (F : WF S) (m : Int) : WF (o_worked m S).2 := F
theorem wf_findings {S : SS} (F : WF S) (f : Int) : WF (o_findings f S).2 := F
theorem wf_count {S : SS} (F : WF S) (k : Int) : WF (o_count k S).2 := F
theorem wf_digest {S : SS} (F : WF S) : WF (o_digest S).2 := F
theorem wf_fail {S : SS} (F : WF S) (m k : Int) : WF (o_fail m k S).2 := by
  unfold o_fail
  split
  · exact F
  split
  · exact F.fd _
  split
  · exact F
  split
  · exact F.fd _
  · exact F
theorem wf_rn : ∀ (d k : Nat) (S : SS) (z : Int), WF S → 1 ≤ mS S → WF (rnS d k S z).2
  | 0, _, S, _, F, _ => F
  | d + 1, k, S, z, F, hm => by
    rw [rnS]
    have hb := bsN_b S (mS S) hm
    have e : mS (rnK S k (bsN S (mS S))) = mS S := by unfold mS; rw [rnK_0 (by decide)]
    exact wf_rn d (k + 1) _ _ ((F.rk _ _).wk (by rw [e]; exact hb)) (by rw [wkS_m, e]; exact hm)
theorem wf_run {S : SS} (F : WF S) (n : Int) : WF (o_run n S).2 := by
  unfold o_run
  split
  · exact F
  split
  · exact F
  · rename_i c
    refine wf_rn _ _ _ _ (F.kept ⟨by decide, by decide⟩) ?_
    have e : ups S 0 11 0 0 0 0 6 0 0 = S 0 6 0 0 := ups_a (by decide)
    show 1 ≤ (ups S 0 11 0 0 0 0 6 0 0).toNat
    rw [e]
    have := F.1.1
    omega
