abbrev rAl (q n : Nat) (w : Nat → Nat → Int) : Nat → Rat := fun s => ((wh q n w s : Int) : Rat)
abbrev rW (p : Nat) (w : Nat → Nat → Int) : Nat → Nat → Rat := fun s t => (((p : Int) * w s t : Int) : Rat)
abbrev rPy (py : Nat → Int) : Nat → Rat := fun t => ((py t : Int) : Rat)
theorem sumR_cast (f : Nat → Int) : ∀ n, sumR (fun t => ((f t : Int) : Rat)) n = ((sumI f n : Int) : Rat)
  | 0 => rfl
  | n + 1 => by rw [sumR, sumI, sumR_cast f n, Rat.intCast_add]
theorem sumI_mul (f : Nat → Int) (x : Int) : ∀ n, sumI (fun j => x * f j) n = x * sumI f n
  | 0 => by simp [sumI]
  | n + 1 => by rw [sumI, sumI, sumI_mul f x n, Int.mul_add]
theorem sysR {n p q : Nat} {w : Nat → Nat → Int} (hw : WB n w) (hp : 1 ≤ p ∧ p < q) : Sys n (rAl q n w) (rW p w) := by
  intro s hs
  have h := hw s hs
  refine ⟨fun t ht => Rat.intCast_nonneg.mpr (Int.mul_nonneg (by omega) (h.1 t ht).1), ?_⟩
  rw [sumR_cast (fun t => (p : Int) * w s t), sumI_mul]
  refine Rat.intCast_lt_intCast.mpr ?_
  unfold wh
  exact Int.mul_lt_mul_of_pos_right (by omega) (by omega)
theorem cast1 (F : Nat → Nat → Int) (r c : Nat) : ((M1 F r c : Int) : Rat) = M1q (fun i j => ((F i j : Int) : Rat)) r c := rfl
theorem cast2 (F : Nat → Nat → Int) (r c : Nat) : ((M2 F r c : Int) : Rat) = M2q (fun i j => ((F i j : Int) : Rat)) r c := by unfold M2 M2q; simp only [Rat.intCast_add, Rat.intCast_sub, Rat.intCast_mul, Rat.intCast_neg]
theorem cast3 (F : Nat → Nat → Int) (r c : Nat) : ((M3 F r c : Int) : Rat) = M3q (fun i j => ((F i j : Int) : Rat)) r c := by unfold M3 M3q; simp only [Rat.intCast_add, Rat.intCast_sub, Rat.intCast_mul, Rat.intCast_neg]
theorem cast4 (F : Nat → Nat → Int) (r c : Nat) : ((M4 F r c : Int) : Rat) = M4q (fun i j => ((F i j : Int) : Rat)) r c := by unfold M4 M4q; simp only [Rat.intCast_add, Rat.intCast_sub, Rat.intCast_mul, Rat.intCast_neg]
theorem cast5 (F : Nat → Nat → Int) (r c : Nat) : ((M5 F r c : Int) : Rat) = M5q (fun i j => ((F i j : Int) : Rat)) r c := by unfold M5 M5q; simp only [Rat.intCast_add, Rat.intCast_sub, Rat.intCast_mul, Rat.intCast_neg]
/-- the last column a combination of the others, but for N in the last row -/
theorem Mk_schur {F : Nat → Nat → Int} {m col : Nat} (hm : m ≤ 4) {x : Nat → Rat} {N : Rat} (h1 : ∀ i, i < m → ((F i col : Int) : Rat) = sumR (fun j => ((F i j : Int) : Rat) * x j) m) (h2 : ((F m col : Int) : Rat) = N + sumR (fun j => ((F m j : Int) : Rat) * x j) m) : ((Mk F m m col : Int) : Rat) = ((Mp F m : Int) : Rat) * N := by
  match m, hm with
  | 0, _ =>
    show ((F 0 col : Int) : Rat) = ((1 : Int) : Rat) * N
    rw [h2, sumR, Rat.intCast_one]
    grind
  | 1, _ =>
    have e0 := h1 0 (by omega)
    simp only [sumR, Rat.zero_add] at e0 h2
    show ((M2 F 1 col : Int) : Rat) = ((M1 F 0 0 : Int) : Rat) * N
    rw [cast2, cast1]
    exact schur2 _ 1 col N (x 0) e0 h2
  | 2, _ =>
    have e0 := h1 0 (by omega)
    have e1 := h1 1 (by omega)
    simp only [sumR, Rat.zero_add] at e0 e1 h2
    show ((M3 F 2 col : Int) : Rat) = ((M2 F 1 1 : Int) : Rat) * N
    rw [cast3, cast2]
    exact schur3 _ 2 col N (x 0) (x 1) e0 e1 h2
  | 3, _ =>
    have e0 := h1 0 (by omega)
    have e1 := h1 1 (by omega)
    have e2 := h1 2 (by omega)
    simp only [sumR, Rat.zero_add] at e0 e1 e2 h2
    show ((M4 F 3 col : Int) : Rat) = ((M3 F 2 2 : Int) : Rat) * N
    rw [cast4, cast3]
    exact schur4 _ 3 col N (x 0) (x 1) (x 2) e0 e1 e2 h2
  | 4, _ =>
    have e0 := h1 0 (by omega)
    have e1 := h1 1 (by omega)
    have e2 := h1 2 (by omega)
    have e3 := h1 3 (by omega)
    simp only [sumR, Rat.zero_add] at e0 e1 e2 e3 h2
    show ((M5 F 4 col : Int) : Rat) = ((M4 F 3 3 : Int) : Rat) * N
    rw [cast5, cast4]
    exact schur5 _ 4 col N (x 0) (x 1) (x 2) (x 3) e0 e1 e2 e3 h2
theorem sumR_delta (W : Rat) (x : Nat → Rat) (i : Nat) : ∀ m, sumR (fun j => (if j = i then W else 0) * x j) m = if i < m then W * x i else 0
  | 0 => by simp [sumR]
  | m + 1 => by
    rw [sumR, sumR_delta W x i m]
    by_cases e : m = i
    · subst e
      simp
      exact Rat.zero_add _
    · rw [if_neg e]
      by_cases q : i < m
      · rw [if_pos q, if_pos (by omega)]; grind
      · rw [if_neg q, if_neg (by omega)]; grind
section ISV2
variable {n : Nat} {py : Nat → Int} {w : Nat → Nat → Int} {p q : Nat} {us : Nat → Nat} {T : Nat → Bool} {st : Nat}
theorem eqF_row {P : Nat → Bool} {m : Nat} (hm : nP P n = m) (hu : ∀ t, t < n → P t = true → us (nP P t) = t) (hs : us m = st) (hPs : P st = false) (hst : st < n) {h : Nat → Rat} {c : Nat → Rat} (sol : Sol n (rAl q n w) (rW p w) P c h) {col : Nat} (hcol : ∀ i, i ≤ m → ((eqF p q n py w us m i col : Int) : Rat) = rAl q n w (us i) * c (us i)) :
    (∀ i, i < m → ((eqF p q n py w us m i col : Int) : Rat) = sumR (fun j => ((eqF p q n py w us m i j : Int) : Rat) * h (us j)) m) ∧ ((eqF p q n py w us m m col : Int) : Rat) = (rAl q n w st * c st + tot n (rW p w) P h st) + sumR (fun j => ((eqF p q n py w us m m j : Int) : Rat) * h (us j)) m := by
  have htot : ∀ s, tot n (rW p w) P h s = sumR (fun j => rW p w s (us j) * h (us j)) m := by
    intro s
    unfold tot
    rw [sum_lstR (fun u => rW p w s u * h u) n hu, hm]
  have hrow : ∀ i, i ≤ m → sumR (fun j => ((eqF p q n py w us m i j : Int) : Rat) * h (us j)) m = (if i < m then rAl q n w (us i) * h (us i) else 0) - tot n (rW p w) P h (us i) := by
    intro i hi
    have e1 : sumR (fun j => ((eqF p q n py w us m i j : Int) : Rat) * h (us j)) m = sumR (fun j => 1 * ((if j = i then rAl q n w (us i) else 0) * (fun j => h (us j)) j) + (-1) * (rW p w (us i) (us j) * h (us j))) m := sumR_congr fun j hj => by
      have e2 : eqF p q n py w us m i j = (if j = i then wh q n w (us i) else 0) - p * w (us i) (us j) := by unfold eqF; rw [if_pos hj]
      rw [e2, Rat.intCast_sub]
      by_cases e : j = i
      · rw [if_pos e, if_pos e]; grind
      · rw [if_neg e, if_neg e, Rat.intCast_zero]; grind
    rw [e1, sumR_lin (fun j => (if j = i then rAl q n w (us i) else 0) * (fun j => h (us j)) j) (fun j => rW p w (us i) (us j) * h (us j)), sumR_delta, htot]
    grind
  refine ⟨fun i hi => ?_, ?_⟩
  · rw [hrow i (by omega), if_pos hi, hcol i (by omega)]
    have hat := lst_at n hu i (by omega)
    have := sol (us i) hat.1 hat.2
    grind
  · rw [hrow m (Nat.le_refl m), if_neg (by omega), hcol m (Nat.le_refl m), hs]
    grind
theorem val_isv (hn : n ≤ 5) (hpy : PB n py) (hw : WB n w) (hp : 1 ≤ p ∧ p < q ∧ q ≤ 8) (hst : st < n) {m : Nat} (hm : nP (wo T st) n = m) (hu : ∀ t, t < n → wo T st t = true → us (nP (wo T st) t) = t) (hs : us m = st) :
    m ≤ 4 ∧ Lvl 0 (m + 1) (M1 (eqF p q n py w us m)) 1 ∧ 0 < Mk (eqF p q n py w us m) m m (m + 2) ∧ Mk (eqF p q n py w us m) m m (m + 2) ≤ 26214400000 ∧ -1310720000000 ≤ Mk (eqF p q n py w us m) m m (m + 1) ∧ Mk (eqF p q n py w us m) m m (m + 1) ≤ 1310720000000 ∧ IsV n (rAl q n w) (rW p w) (rPy py) st T (mkRat (Mk (eqF p q n py w us m) m m (m + 1)) (Mk (eqF p q n py w us m) m m (m + 2)).toNat) := by
  have hPs : wo T st st = false := by unfold wo; simp
  have hm4 : m ≤ 4 := by
    have := nP_miss hPs n hst
    omega
  have L := eqF_lvl hn hpy hw hp hst hPs hu (by rw [hm]; exact hs)
  rw [hm] at L
  have Lm := L.at (by omega) m (by omega)
  obtain ⟨b1, b2, b3, b4, b5⟩ := Lm.bd (i := m) (Nat.le_refl m) (by omega)
  have hpos := (Lm.2.2 m (Nat.le_refl m) (by omega)).2.1
  have hX : (80 : Int) ^ (m + 1) ≤ 3276800000 := by
    match m, hm4 with
    | 0, _ => decide
    | 1, _ => decide
    | 2, _ => decide
    | 3, _ => decide
    | 4, _ => decide
  have hd := Lm.2.1.1
  rw [show m + 1 + 1 = m + 2 from rfl] at b3 hpos
  refine ⟨hm4, L, hpos, by omega, by omega, by omega, ?_⟩
  have S := sysR hw ⟨hp.1, hp.2.1⟩ (n := n)
  obtain ⟨h1, s1⟩ := exi S (wo T st) (rPy py)
  obtain ⟨h2, s2⟩ := exi S (wo T st) (fun _ => 1)
  obtain ⟨r1, r1'⟩ := eqF_row hm hu hs hPs hst s1 (col := m + 1) (fun i hi => by
    unfold eqF
    rw [if_neg (by omega), if_neg (by omega), if_pos rfl, Rat.intCast_mul])
  obtain ⟨r2, r2'⟩ := eqF_row (py := py) hm hu hs hPs hst s2 (col := m + 2) (fun i hi => by
    unfold eqF
    rw [if_neg (by omega), if_neg (by omega), if_neg (by omega), Rat.mul_one])
  have e1 := Mk_schur hm4 r1 r1'
  have e2 := Mk_schur hm4 r2 r2'
  rw [Rat.mul_one] at e2
  refine ⟨h1, h2, s1, s2, ?_⟩
  generalize hA : Mk (eqF p q n py w us m) m m (m + 1) = A at e1 ⊢
  generalize hB : Mk (eqF p q n py w us m) m m (m + 2) = B at e2 hpos ⊢
  obtain ⟨b, rfl⟩ := Int.eq_ofNat_of_zero_le (show 0 ≤ B by omega)
  rw [Int.toNat_natCast, Rat.mkRat_eq_div]
  have hb : ((b : Nat) : Rat) ≠ 0 := by
    intro z
    have : (((b : Nat) : Int) : Rat) = 0 := z
    have := Rat.intCast_eq_zero_iff.mp this
    omega
  have hD : ((Mp (eqF p q n py w us m) m : Int) : Rat) ≠ 0 := by
    intro z
    have := Rat.intCast_eq_zero_iff.mp z
    omega
  have e2' : ((b : Nat) : Rat) = ((Mp (eqF p q n py w us m) m : Int) : Rat) * (rAl q n w st + tot n (rW p w) (wo T st) h2 st) := e2
  generalize ((Mp (eqF p q n py w us m) m : Int) : Rat) = D at e1 e2' hD
  generalize rAl q n w st + tot n (rW p w) (wo T st) h2 st = N1 at e2' ⊢
  generalize rAl q n w st * rPy py st + tot n (rW p w) (wo T st) h1 st = N2 at e1 ⊢
  have k : (A : Rat) / (b : Rat) * (b : Rat) = (A : Rat) := by rw [Rat.div_def, Rat.mul_assoc, Rat.inv_mul_cancel _ hb, Rat.mul_one]
  generalize (A : Rat) / (b : Rat) = r at k ⊢
  rw [e1] at k
  rw [e2'] at k
  have k2 : D * (r * N1 - N2) = 0 := by grind
  rcases Rat.mul_eq_zero.mp k2 with z | z
  · exact absurd z hD
  · grind
end ISV2
