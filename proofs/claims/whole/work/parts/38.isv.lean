theorem sum_lstI {P : Nat → Bool} {us : Nat → Nat} (f : Nat → Int) : ∀ (s : Nat), (∀ t, t < s → P t = true → us (nP P t) = t) → sumI (fun t => if P t = true then f t else 0) s = sumI (fun i => f (us i)) (nP P s)
  | 0, _ => rfl
  | s + 1, h => by
    have ih := sum_lstI f s (fun t ht => h t (by omega))
    rw [sumI, nP, ih]
    by_cases hP : P s = true
    · rw [if_pos hP, if_pos hP, sumI, h s (by omega) hP]
    · rw [if_neg hP, if_neg hP, Int.add_zero, Nat.add_zero]
theorem sum_lstR {P : Nat → Bool} {us : Nat → Nat} (f : Nat → Rat) : ∀ (s : Nat), (∀ t, t < s → P t = true → us (nP P t) = t) → sumR (fun t => if P t = true then f t else 0) s = sumR (fun i => f (us i)) (nP P s)
  | 0, _ => rfl
  | s + 1, h => by
    have ih := sum_lstR f s (fun t ht => h t (by omega))
    rw [sumR, nP, ih]
    by_cases hP : P s = true
    · rw [if_pos hP, if_pos hP, sumR, h s (by omega) hP]
    · rw [if_neg hP, if_neg hP, Rat.add_zero, Nat.add_zero]
theorem lst_at {P : Nat → Bool} {us : Nat → Nat} : ∀ (s : Nat), (∀ t, t < s → P t = true → us (nP P t) = t) → ∀ i, i < nP P s → us i < s ∧ P (us i) = true
  | 0, _, i, hi => by simp [nP] at hi
  | s + 1, h, i, hi => by
    rw [nP] at hi
    by_cases hP : P s = true
    · rw [if_pos hP] at hi
      by_cases e : i = nP P s
      · subst e
        rw [h s (by omega) hP]
        exact ⟨by omega, hP⟩
      · have := lst_at s (fun t ht => h t (by omega)) i (by omega)
        exact ⟨by omega, this.2⟩
    · rw [if_neg hP] at hi
      have := lst_at s (fun t ht => h t (by omega)) i (by omega)
      exact ⟨by omega, this.2⟩
theorem sumI_delta (W : Int) (i : Nat) : ∀ m, sumI (fun j => if j = i then W else 0) m = if i < m then W else 0
  | 0 => by simp [sumI]
  | m + 1 => by
    rw [sumI, sumI_delta W i m]
    by_cases e : m = i
    · subst e; simp
    · rw [if_neg e]
      by_cases q : i < m
      · rw [if_pos q, if_pos (by omega), Int.add_zero]
      · rw [if_neg q, if_neg (by omega), Int.add_zero]
theorem sumI_le {f g : Nat → Int} : ∀ {n : Nat}, (∀ j, j < n → f j ≤ g j) → sumI f n ≤ sumI g n
  | 0, _ => by simp [sumI]
  | n + 1, h => by
    have h1 := sumI_le (f := f) (g := g) (n := n) (fun j hj => h j (by omega))
    have h2 := h n (by omega)
    rw [sumI, sumI]
    omega
def eqF (p q : Int) (n : Nat) (py : Nat → Int) (w : Nat → Nat → Int) (us : Nat → Nat) (m : Nat) : Nat → Nat → Int := fun i j => if j < m then (if j = i then wh q n w (us i) else 0) - p * w (us i) (us j) else if j = m then (if i = m then wh q n w (us m) else 0) else if j = m + 1 then wh q n w (us i) * py (us i) else wh q n w (us i)
section ISV
variable {n : Nat} {py : Nat → Int} {w : Nat → Nat → Int} {p q : Nat} {us : Nat → Nat} {P : Nat → Bool} {st : Nat}
theorem eqF_hC {C : Nat → Nat → Int} {m : Nat} : ∀ i j, i < m + 1 → j ≤ m + 1 → rowA (eqA p q n py w us m) C (m + 2) (m + 1) 0 i j = eqF p q n py w us m i (ph m j) := by
  intro i j h1 h2
  unfold rowA eqA eqF ph
  rw [if_pos (Or.inl ⟨h1, by omega⟩)]
  by_cases e : j < m
  · rw [if_pos e, if_pos e, if_pos e]
  · have a1 : ¬ j + 1 < m := by omega
    have a2 : ¬ j + 1 = m := by omega
    simp only [if_neg e, if_neg a1, if_neg a2]
    by_cases e2 : j = m
    · have a3 : j + 1 = m + 1 := by omega
      simp only [if_pos e2, if_pos a3]
    · have a3 : ¬ j + 1 = m + 1 := by omega
      simp only [if_neg e2, if_neg a3]
/-- what of a state's chances leads to the way's states is at most all -/
theorem sub_b (hw : WB n w) {s : Nat} (hs : s < n) (hu : ∀ t, t < n → P t = true → us (nP P t) = t) : sumI (fun j => w s (us j)) (nP P n) ≤ sumI (w s) n := by
  rw [← sum_lstI (w s) n hu]
  refine sumI_le fun t ht => ?_
  have := (hw s hs).1 t ht
  split <;> omega
theorem eqF_lvl (hn : n ≤ 5) (hpy : PB n py) (hw : WB n w) (hp : 1 ≤ p ∧ p < q ∧ q ≤ 8) (hst : st < n) (hP : P st = false) (hu : ∀ t, t < n → P t = true → us (nP P t) = t) (hs : us (nP P n) = st) : Lvl 0 (nP P n + 1) (M1 (eqF p q n py w us (nP P n))) 1 := by
  have hat := lst_at n hu
  generalize hm : nP P n = m at hs hat ⊢
  have hus : ∀ i, i ≤ m → us i < n := fun i hi => by
    by_cases e : i = m
    · subst e; rw [hs]; exact hst
    · exact (hat i (by omega)).1
  have hsub : ∀ i, i ≤ m → sumI (fun j => w (us i) (us j)) m ≤ sumI (w (us i)) n := fun i hi => by rw [← hm]; exact sub_b hw (hus i hi) hu
  have hrow : ∀ i, i < m + 1 → sumI (fun j => eqF p q n py w us m i j) (m + 1) = wh q n w (us i) - p * sumI (fun j => w (us i) (us j)) m := by
    intro i hi
    rw [sumI]
    have e1 : sumI (fun j => eqF p q n py w us m i j) m = sumI (fun j => 1 * (if j = i then wh q n w (us i) else 0) - p * w (us i) (us j)) m := sumI_congr fun j hj => by
      unfold eqF
      rw [if_pos hj, Int.one_mul]
    rw [e1, sumI_lin (fun j => if j = i then wh q n w (us i) else 0) (fun j => w (us i) (us j)), sumI_delta, Int.one_mul]
    have e2 : eqF p q n py w us m i m = if i = m then wh q n w (us m) else 0 := by
      unfold eqF
      rw [if_neg (by omega), if_pos rfl]
    rw [e2]
    by_cases e : i = m
    · subst e; rw [if_pos rfl, if_neg (by omega)]; omega
    · rw [if_neg e, if_pos (by omega)]; omega
  have hpos : ∀ i, i ≤ m → sumI (w (us i)) n ≤ wh q n w (us i) - p * sumI (fun j => w (us i) (us j)) m := by
    intro i hi
    have a1 := hsub i hi
    have a2 := (hw (us i) (hus i hi)).2
    have a3 := Int.mul_le_mul_of_nonneg_left a1 (show 0 ≤ (p : Int) by omega)
    have a4 := Int.mul_le_mul_of_nonneg_right (show (p : Int) + 1 ≤ (q : Int) by omega) (show 0 ≤ sumI (w (us i)) n by omega)
    rw [Int.add_mul, Int.one_mul] at a4
    unfold wh
    omega
  have hwh : ∀ i, i ≤ m → 0 < wh q n w (us i) ∧ wh q n w (us i) ≤ 80 ∧ wh q n w (us i) ≤ 8 * sumI (w (us i)) n := by
    intro i hi
    have a2 := (hw (us i) (hus i hi)).2
    have a3 := wh_b (q := q) hw hp.2.2 (hus i hi)
    have a4 := Int.mul_pos (show 0 < (q : Int) by omega) (show 0 < sumI (w (us i)) n by omega)
    have a5 := Int.mul_le_mul_of_nonneg_right (show (q : Int) ≤ 8 by omega) (show 0 ≤ sumI (w (us i)) n by omega)
    unfold wh at *
    omega
  refine ⟨⟨fun i j _ h2 _ h4 hij => ?_, fun i _ h2 => ?_⟩, ⟨by decide, by decide⟩, fun i _ h2 => ⟨?_, ?_, ?_, ?_, ?_⟩⟩
  · show eqF p q n py w us m i j ≤ 0
    unfold eqF
    by_cases e : j < m
    · rw [if_pos e, if_neg (by omega)]
      have := (pw_b (p := p) hw (by omega) (hus i (by omega)) (hus j (by omega))).1
      omega
    · rw [if_neg e, if_pos (by omega), if_neg (by omega)]; exact Int.le_refl 0
  · simp only [Nat.zero_add, Nat.sub_zero]
    show 0 < sumI (fun j => eqF p q n py w us m i j) (m + 1)
    rw [hrow i h2]
    have := hpos i (by omega)
    have := (hw (us i) (hus i (by omega))).2
    omega
  · show eqF p q n py w us m i i ≤ 80 * 1
    have a := hwh i (by omega)
    unfold eqF
    by_cases e : i < m
    · rw [if_pos e, if_pos rfl]
      have := (pw_b (p := p) hw (by omega) (hus i (by omega)) (hus i (by omega))).1
      omega
    · have e2 : i = m := by omega
      rw [if_neg e, if_pos e2, if_pos e2]
      subst e2; omega
  · show 0 < eqF p q n py w us m i (m + 1 + 1)
    unfold eqF
    rw [if_neg (by omega), if_neg (by omega), if_neg (by omega)]
    exact (hwh i (by omega)).1
  · simp only [Nat.zero_add, Nat.sub_zero]
    show eqF p q n py w us m i (m + 1 + 1) ≤ 8 * sumI (fun j => eqF p q n py w us m i j) (m + 1)
    rw [hrow i h2]
    unfold eqF
    rw [if_neg (by omega), if_neg (by omega), if_neg (by omega)]
    have := hpos i (by omega)
    have := (hwh i (by omega)).2.2
    omega
  · show -(50 * eqF p q n py w us m i (m + 1 + 1)) ≤ eqF p q n py w us m i (m + 1)
    unfold eqF
    rw [if_neg (by omega), if_neg (by omega), if_neg (by omega), if_neg (by omega), if_neg (by omega), if_pos rfl]
    have a1 := (hwh i (by omega)).1
    have a2 := hpy (us i) (hus i (by omega))
    have a3 := Int.mul_le_mul_of_nonneg_left a2.1 (show 0 ≤ wh q n w (us i) by omega)
    omega
  · show eqF p q n py w us m i (m + 1) ≤ 50 * eqF p q n py w us m i (m + 1 + 1)
    unfold eqF
    rw [if_neg (by omega), if_neg (by omega), if_pos rfl, if_neg (by omega), if_neg (by omega), if_neg (by omega)]
    have a1 := (hwh i (by omega)).1
    have a2 := hpy (us i) (hus i (by omega))
    have a3 := Int.mul_le_mul_of_nonneg_left a2.2 (show 0 ≤ wh q n w (us i) by omega)
    omega
end ISV
