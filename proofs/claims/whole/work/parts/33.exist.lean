section EXI
variable {n : Nat} {al : Nat → Rat} {w : Nat → Nat → Rat} {py : Nat → Rat}
theorem tot_add (n : Nat) (w : Nat → Nat → Rat) {T T1 : Nat → Bool} {k : Nat} (hk : k < n) (hT : T k = false) (h1 : ∀ u, T1 u = (T u || u == k)) (f : Nat → Rat) (s : Nat) : tot n w T1 f s = tot n w T f s + w s k * f k := by
  unfold tot
  induction n with
  | zero => omega
  | succ n ih =>
    rw [sumR, sumR]
    by_cases e : k = n
    · subst e
      have h2 : sumR (fun u => if T1 u = true then w s u * f u else 0) k = sumR (fun u => if T u = true then w s u * f u else 0) k := sumR_congr fun u hu => by
        have : (u == k) = false := by simp; omega
        rw [h1, this, Bool.or_false]
      rw [h2, if_pos (by rw [h1]; simp), if_neg (by rw [hT]; decide)]
      grind
    · rw [ih (by omega)]
      have : (n == k) = false := by simp; omega
      have e2 : T1 n = T n := by rw [h1, this, Bool.or_false]
      rw [e2]
      grind
theorem tot_sub {T : Nat → Bool} {f : Nat → Rat} (S : Sys n al w) {s : Nat} (hs : s < n) (h0 : ∀ u, u < n → T u = true → f u ≤ 1) {k : Nat} (hk : k < n) (hT : T k = false) : tot n w T f s + w s k ≤ sumR (w s) n := by
  have h1 := tot_add n w hk hT (T1 := fun u => T u || u == k) (fun _ => rfl) (fun u => if T u = true then f u else 1) s
  have h2 : tot n w T (fun u => if T u = true then f u else 1) s = tot n w T f s := tot_congr fun u _ q => by rw [if_pos q]
  have h3 : tot n w (fun u => T u || u == k) (fun u => if T u = true then f u else 1) s ≤ sumR (w s) n := by
    refine sumR_le fun u hu => ?_
    have a1 := (S s hs).1 u hu
    dsimp only
    by_cases q : T u = true
    · rw [if_pos (by rw [q]; rfl), if_pos q]
      have a2 := h0 u hu q
      have a3 : 0 ≤ w s u * (1 - f u) := Rat.mul_nonneg a1 (by grind)
      grind
    · rw [if_neg q]
      by_cases q2 : (T u || u == k) = true
      · rw [if_pos q2]; grind
      · rw [if_neg q2]; exact a1
  have h4 : ¬ T k = true := by rw [hT]; decide
  simp only [if_neg h4] at h1
  grind
theorem exi_k (S : Sys n al w) (T : Nat → Bool) : ∀ (k : Nat), k ≤ n → ∀ c : Nat → Rat, ∃ h, Sol n al w (fun u => T u && decide (u < k)) c h := by
  intro k
  induction k with
  | zero => intro _ c; exact ⟨fun _ => 0, fun t _ hT => by simp at hT⟩
  | succ k ih =>
    intro hk c
    by_cases hTk : T k = true
    · obtain ⟨h0, s0⟩ := ih (by omega) c
      obtain ⟨g, sg⟩ := ih (by omega) (fun t => w t k / al t)
      have hk' : k < n := hk
      have hT0k : (T k && decide (k < k)) = false := by simp
      have hg1 : ∀ t, t < n → (T t && decide (t < k)) = true → g t ≤ 1 := by
        have := minp S (T := fun u => T u && decide (u < k)) (h := fun u => 1 * (fun _ => (1 : Rat)) u + (-1) * g u) (fun t ht hT => by
          rw [tot_lin]
          have a1 := sg t ht hT
          have a2 := tot_sub S ht (T := fun u => T u && decide (u < k)) (f := fun _ => 1) (fun _ _ _ => Rat.le_refl) hk' hT0k
          have a3 := (S t ht).2
          have a4 := S.al_pos ht
          have a5 : al t * (w t k / al t) = w t k := by rw [Rat.div_def, ← Rat.mul_assoc, Rat.mul_comm (al t), Rat.mul_assoc, Rat.mul_inv_cancel _ (by grind), Rat.mul_one]
          simp only at a1 ⊢
          grind)
        intro t ht hT
        have a := this t ht hT
        try simp only at a
        grind
      have hden : 0 < al k - w k k - tot n w (fun u => T u && decide (u < k)) g k := by
        have a2 := tot_sub S hk' (T := fun u => T u && decide (u < k)) (f := g) hg1 hk' hT0k
        have a3 := (S k hk').2
        grind
      generalize hx : (al k * c k + tot n w (fun u => T u && decide (u < k)) h0 k) / (al k - w k k - tot n w (fun u => T u && decide (u < k)) g k) = x
      have hx' : x * (al k - w k k - tot n w (fun u => T u && decide (u < k)) g k) = al k * c k + tot n w (fun u => T u && decide (u < k)) h0 k := by
        rw [← hx, Rat.div_def, Rat.mul_assoc, Rat.inv_mul_cancel _ (by grind), Rat.mul_one]
      have hT1 : ∀ u, (T u && decide (u < k + 1)) = ((T u && decide (u < k)) || u == k) := by
        intro u
        by_cases e : u = k
        · subst e; rw [hTk]; simp
        · have e1 : (u == k) = false := by simpa using e
          have e2 : decide (u < k + 1) = decide (u < k) := decide_eq_decide.mpr (by omega)
          rw [e1, e2, Bool.or_false]
      have htot : ∀ s, tot n w (fun u => T u && decide (u < k + 1)) (fun u => if u = k then x else 1 * h0 u + x * g u) s = tot n w (fun u => T u && decide (u < k)) h0 s + x * tot n w (fun u => T u && decide (u < k)) g s + w s k * x := by
        intro s
        rw [tot_add n w hk' hT0k hT1]
        have e1 : tot n w (fun u => T u && decide (u < k)) (fun u => if u = k then x else 1 * h0 u + x * g u) s = tot n w (fun u => T u && decide (u < k)) (fun u => 1 * h0 u + x * g u) s := tot_congr fun u _ q => by
          have : u ≠ k := by
            intro e; subst e; simp at q
          rw [if_neg this]
        rw [e1, tot_lin]
        simp
      refine ⟨fun u => if u = k then x else 1 * h0 u + x * g u, fun t ht hT => ?_⟩
      rw [htot]
      by_cases e : t = k
      · subst e
        simp only [if_pos]
        grind
      · have hT' : (T t && decide (t < k)) = true := by
          have := hT1 t
          rw [show (t == k) = false by simpa using e, Bool.or_false] at this
          rw [← this]; exact hT
        have a1 := s0 t ht hT'
        have a2 := sg t ht hT'
        have a4 := S.al_pos ht
        have a5 : al t * (w t k / al t) = w t k := by rw [Rat.div_def, ← Rat.mul_assoc, Rat.mul_comm (al t), Rat.mul_assoc, Rat.mul_inv_cancel _ (by grind), Rat.mul_one]
        simp only [if_neg e] at a1 a2 ⊢
        grind
    · obtain ⟨h, s⟩ := ih (by omega) c
      have e : (fun u => T u && decide (u < k + 1)) = fun u => T u && decide (u < k) := by
        funext u
        by_cases e : u = k
        · subst e
          have : T u = false := by simpa using hTk
          rw [this]; rfl
        · have e2 : decide (u < k + 1) = decide (u < k) := decide_eq_decide.mpr (by omega)
          rw [e2]
      rw [e]
      exact ⟨h, s⟩
theorem exi (S : Sys n al w) (T : Nat → Bool) (c : Nat → Rat) : ∃ h, Sol n al w T c h := by
  obtain ⟨h, hh⟩ := exi_k S T n (Nat.le_refl n) c
  refine ⟨h, fun t ht hT => ?_⟩
  have a := hh t ht (by show (T t && decide (t < n)) = true; rw [hT]; simpa using ht)
  rw [a]
  have : tot n w (fun u => T u && decide (u < n)) h t = tot n w T h t := sumR_congr fun u hu => by
    have : decide (u < n) = true := by simpa using hu
    simp only [this, Bool.and_true]
  rw [this]
theorem exV (S : Sys n al w) (py : Nat → Rat) {s : Nat} (hs : s < n) (T : Nat → Bool) : ∃ r, IsV n al w py s T r := by
  obtain ⟨h1, s1⟩ := exi S (wo T s) py
  obtain ⟨h2, s2⟩ := exi S (wo T s) (fun _ => 1)
  have hN := N1_pos S hs s2
  refine ⟨(al s * py s + tot n w (wo T s) h1 s) / (al s + tot n w (wo T s) h2 s), h1, h2, s1, s2, ?_⟩
  rw [Rat.div_def, Rat.mul_assoc, Rat.inv_mul_cancel _ (by grind), Rat.mul_one]
theorem tot_T {T T' : Nat → Bool} (h : ∀ u, u < n → T u = T' u) (f : Nat → Rat) (s : Nat) : tot n w T f s = tot n w T' f s := sumR_congr fun u hu => by rw [h u hu]
theorem IsV.congr {T T' : Nat → Bool} {s : Nat} {r : Rat} (h : ∀ u, u < n → T u = T' u) (q : IsV n al w py s T r) : IsV n al w py s T' r := by
  obtain ⟨h1, h2, s1, s2, e⟩ := q
  have hw : ∀ u, u < n → wo T s u = wo T' s u := fun u hu => by unfold wo; rw [h u hu]
  refine ⟨h1, h2, fun t ht hT => ?_, fun t ht hT => ?_, ?_⟩
  · rw [← tot_T hw]; exact s1 t ht (by rw [hw t ht]; exact hT)
  · rw [← tot_T hw]; exact s2 t ht (by rw [hw t ht]; exact hT)
  · rw [← tot_T hw, ← tot_T hw]; exact e
/-- the worth -/
def IsW (n : Nat) (al : Nat → Rat) (w : Nat → Nat → Rat) (py : Nat → Rat) (s : Nat) (r : Rat) : Prop := (∃ T, IsV n al w py s T r) ∧ ∀ T r', IsV n al w py s T r' → r' ≤ r
theorem IsW.uniq {s : Nat} {r r' : Rat} (h : IsW n al w py s r) (h' : IsW n al w py s r') : r = r' := by
  obtain ⟨⟨T, a⟩, b⟩ := h
  obtain ⟨⟨T', a'⟩, b'⟩ := h'
  exact Rat.le_antisymm (b' T r a) (b T' r' a')
/-- where a state may be chosen next: none is done, or the last one was chosen so -/
def Ready (n : Nat) (al : Nat → Rat) (w : Nat → Nat → Rat) (py : Nat → Rat) (D : Nat → Bool) : Prop := (∀ t, D t = false) ∨ ∃ D0 s la, Stage n al w py D0 la ∧ s < n ∧ D0 s = false ∧ (∀ t, D t = (D0 t || t == s)) ∧ IsV n al w py s D0 la
theorem Ready.go (S : Sys n al w) {D : Nat → Bool} (R : Ready n al w py D) {s : Nat} {la : Rat} (hs : s < n) (hDs : D s = false) (hv : IsV n al w py s D la) (hm : ∀ t, t < n → D t = false → ∀ r, IsV n al w py t D r → r ≤ la) : IsW n al w py s la ∧ Ready n al w py (fun t => D t || t == s) := by
  have st : Stage n al w py D la := by
    rcases R with h0 | ⟨D0, s0, la0, st, a1, a2, a3, a4⟩
    · refine ⟨fun _ => 0, fun t ht hT => ?_, fun t ht hT => ?_, fun t ht hT => ?_⟩
      · rw [h0] at hT; cases hT
      · rw [h0] at hT; cases hT
      · obtain ⟨r, hr⟩ := exV S py ht D
        have h1 := hm t ht hT r hr
        obtain ⟨N, hN, y, y1, y2⟩ := hr.nv S ht la
        have e1 : ∀ f, tot n w D f t = tot n w (wo D t) f t := fun f => by rw [wo_no hT]
        have e2 : tot n w D (fun _ => 0) t = tot n w (wo D t) y t := by
          rw [e1]
          exact tot_congr fun u hu hTu => by
            have : wo D t u = false := by unfold wo; rw [h0]; rfl
            rw [this] at hTu; cases hTu
        rw [e2, ← y2]
        have := Rat.mul_nonneg (show 0 ≤ la - r by grind) (show 0 ≤ N by grind)
        grind
    · exact (Stage.next S a1 a2 a3 st a4 ⟨s, hs, hDs, hv, hm⟩ (fun t ht => exV S py ht D) (exi S D _)).2
  exact ⟨⟨⟨D, hv⟩, fun T r' h => st.best S hs hDs h⟩, Or.inr ⟨D, s, la, st, hs, hDs, fun _ => rfl, hv⟩⟩
end EXI
