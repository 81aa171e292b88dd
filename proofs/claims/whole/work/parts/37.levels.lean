/-- a level: the matrix, its row sums, a column of steps and one of pays, what it was divided by -/
def Lvl (k n : Nat) (m : Nat → Nat → Int) (d : Int) : Prop := MMk k n m ∧ (0 < d ∧ d ≤ 80 ^ k) ∧ ∀ i, k ≤ i → i < n → m i i ≤ 80 * d ∧ 0 < m i (n + 1) ∧ m i (n + 1) ≤ 8 * sumI (fun j => m i (k + j)) (n - k) ∧ -(50 * m i (n + 1)) ≤ m i n ∧ m i n ≤ 50 * m i (n + 1)
theorem cancel_le {d x y : Int} (hd : 0 < d) (h : d * x ≤ d * y) : x ≤ y := by
  rcases Int.lt_or_le y x with q | q
  · have := Int.mul_lt_mul_of_pos_left q hd
    omega
  · exact q
theorem cancel_lt {d x y : Int} (hd : 0 < d) (h : d * x < d * y) : x < y := by
  rcases Int.lt_or_le x y with q | q
  · exact q
  · have := Int.mul_le_mul_of_nonneg_left q (show 0 ≤ d by omega)
    omega
theorem Lvl.step {k n : Nat} {m m' : Nat → Nat → Int} {d : Int} (L : Lvl k n m d) (hk : k < n) (he : ∀ i j, m k k * m i j - m i k * m k j = d * m' i j) : Lvl (k + 1) n m' (m k k) := by
  obtain ⟨hM, ⟨hd, hd2⟩, hL⟩ := L
  have hp := hM.diag (Nat.le_refl k) hk
  obtain ⟨l1, l2, l3, l4, l5⟩ := hL k (Nat.le_refl k) hk
  have hM' : MMk (k + 1) n m' := (hM.step hk).divide hd he
  refine ⟨hM', ⟨hp, ?_⟩, fun i h1 h2 => ?_⟩
  · rw [Int.pow_succ]; omega
  · obtain ⟨e1, e2, e3, e4, e5⟩ := hL i (by omega) h2
    obtain ⟨o1, o2⟩ := hM.off (i := i) (j := k) (by omega) h2 (Nat.le_refl k) hk (by omega)
    obtain ⟨o3, o4⟩ := hM.off (i := k) (j := i) (Nat.le_refl k) hk (by omega) h2 (by omega)
    have hneg : 0 ≤ -(m i k) := by omega
    have hp0 : 0 ≤ m k k := by omega
    refine ⟨?_, ?_, ?_, ?_, ?_⟩
    · apply cancel_le hd
      rw [← he]
      have a1 := Int.mul_le_mul_of_nonneg_left e1 hp0
      have a2 := Int.mul_nonneg hneg (show 0 ≤ -(m k i) by omega)
      rw [Int.neg_mul_neg] at a2
      have a3 : d * (80 * m k k) = m k k * (80 * d) := by grind
      omega
    · apply cancel_lt hd
      rw [← he, Int.mul_zero]
      have a1 := Int.mul_pos hp e2
      have a2 := Int.mul_nonneg hneg (show 0 ≤ m k (n + 1) by omega)
      rw [Int.neg_mul] at a2
      omega
    · apply cancel_le hd
      rw [← he]
      obtain ⟨dd, hd'⟩ : ∃ dd, n - k = dd + 1 := ⟨n - k - 1, by omega⟩
      rw [hd', sumI_shift] at e3 l3
      simp only [Nat.add_zero] at e3 l3
      rw [show n - (k + 1) = dd by omega]
      have s1 : sumI (fun j => m i (k + (j + 1))) dd = sumI (fun j => m i (k + 1 + j)) dd := sumI_congr fun j _ => by rw [show k + (j + 1) = k + 1 + j by omega]
      have s2 : sumI (fun j => m k (k + (j + 1))) dd = sumI (fun j => m k (k + 1 + j)) dd := sumI_congr fun j _ => by rw [show k + (j + 1) = k + 1 + j by omega]
      rw [s1] at e3
      rw [s2] at l3
      have s3 : d * sumI (fun j => m' i (k + 1 + j)) dd = m k k * sumI (fun j => m i (k + 1 + j)) dd - m i k * sumI (fun j => m k (k + 1 + j)) dd := by
        rw [← sumI_lin (fun j => m i (k + 1 + j)) (fun j => m k (k + 1 + j))]
        have := sumI_lin (fun j => m' i (k + 1 + j)) (fun _ => 0) d 0 dd
        simp only [Int.zero_mul, Int.sub_zero] at this
        rw [← this]
        exact sumI_congr fun j _ => (he i (k + 1 + j)).symm
      have s4 : d * (8 * sumI (fun j => m' i (k + 1 + j)) dd) = 8 * (d * sumI (fun j => m' i (k + 1 + j)) dd) := by grind
      rw [s4, s3]
      generalize sumI (fun j => m i (k + 1 + j)) dd = si at e3 ⊢
      generalize sumI (fun j => m k (k + 1 + j)) dd = sk at l3 ⊢
      have a1 := Int.mul_le_mul_of_nonneg_left e3 hp0
      have a2 := Int.mul_le_mul_of_nonneg_left l3 hneg
      have a3 : 8 * (m k k * si - m i k * sk) = m k k * (8 * (m i k + si)) + -(m i k) * (8 * (m k k + sk)) := by grind
      rw [a3]
      rw [Int.neg_mul] at a2
      omega
    · apply cancel_le hd
      have b1 : d * -(50 * m' i (n + 1)) = -(50 * (d * m' i (n + 1))) := by grind
      rw [b1, ← he, ← he]
      have a1 := Int.mul_le_mul_of_nonneg_left e4 hp0
      have a2 := Int.mul_le_mul_of_nonneg_left l4 hneg
      have a3 : -(50 * (m k k * m i (n + 1) - m i k * m k (n + 1))) = m k k * -(50 * m i (n + 1)) + -(m i k) * -(50 * m k (n + 1)) := by grind
      rw [a3]
      have a4 : -(m i k) * m k n = -(m i k * m k n) := Int.neg_mul _ _
      omega
    · apply cancel_le hd
      have b1 : d * (50 * m' i (n + 1)) = 50 * (d * m' i (n + 1)) := by grind
      rw [b1, ← he, ← he]
      have a1 := Int.mul_le_mul_of_nonneg_left e5 hp0
      have a2 := Int.mul_le_mul_of_nonneg_left l5 hneg
      have a3 : 50 * (m k k * m i (n + 1) - m i k * m k (n + 1)) = m k k * (50 * m i (n + 1)) + -(m i k) * (50 * m k (n + 1)) := by grind
      rw [a3]
      have a4 : -(m i k) * m k n = -(m i k * m k n) := Int.neg_mul _ _
      omega
/-- what an entry of a level is at most -/
theorem Lvl.bd {k n : Nat} {m : Nat → Nat → Int} {d : Int} (L : Lvl k n m d) {i : Nat} (h1 : k ≤ i) (h2 : i < n) : m i i ≤ 80 ^ (k + 1) ∧ (∀ j, k ≤ j → j < n → -(80 ^ (k + 1)) ≤ m i j ∧ m i j ≤ 80 ^ (k + 1)) ∧ m i (n + 1) ≤ 8 * 80 ^ (k + 1) ∧ -(400 * 80 ^ (k + 1)) ≤ m i n ∧ m i n ≤ 400 * 80 ^ (k + 1) := by
  obtain ⟨hM, ⟨hd, hd2⟩, hL⟩ := L
  obtain ⟨e1, e2, e3, e4, e5⟩ := hL i h1 h2
  have hp : m i i ≤ 80 ^ (k + 1) := by rw [Int.pow_succ]; omega
  have hrs := sumI_one (f := fun j => m i (k + j)) (n := n - k) (k := i - k) (by omega) (fun j hj hji => hM.1 i (k + j) h1 h2 (by omega) (by omega) (by omega))
  simp only [show k + (i - k) = i by omega] at hrs
  have hdg := hM.diag h1 h2
  generalize (80 : Int) ^ (k + 1) = X at hp ⊢
  generalize sumI (fun j => m i (k + j)) (n - k) = rs at e3 hrs
  refine ⟨hp, fun j h3 h4 => ?_, by omega, by omega, by omega⟩
  by_cases e : i = j
  · subst e; omega
  · have := hM.off h1 h2 h3 h4 e
    omega
theorem Lvl.all {n : Nat} {F : Nat → Nat → Int} (L : Lvl 0 n (M1 F) 1) : (1 < n → Lvl 1 n (M2 F) (M1 F 0 0)) ∧ (2 < n → Lvl 2 n (M3 F) (M2 F 1 1)) ∧ (3 < n → Lvl 3 n (M4 F) (M3 F 2 2)) ∧ (4 < n → Lvl 4 n (M5 F) (M4 F 3 3)) := by
  have h1 : 1 < n → Lvl 1 n (M2 F) (M1 F 0 0) := fun hn => L.step (by omega) (fun i j => bar2 F i j)
  have h2 : 2 < n → Lvl 2 n (M3 F) (M2 F 1 1) := fun hn => (h1 (by omega)).step (by omega) (fun i j => bar3 F i j)
  have h3 : 3 < n → Lvl 3 n (M4 F) (M3 F 2 2) := fun hn => (h2 (by omega)).step (by omega) (fun i j => bar4 F i j)
  have h4 : 4 < n → Lvl 4 n (M5 F) (M4 F 3 3) := fun hn => (h3 (by omega)).step (by omega) (fun i j => bar5 F (by have := L.1.diag (Nat.le_refl 0) (show 0 < n by omega); unfold M1 at this; omega) i j)
  exact ⟨h1, h2, h3, h4⟩
/-- the levels as one function -/
def Mk (F : Nat → Nat → Int) : Nat → Nat → Nat → Int
  | 0 => M1 F
  | 1 => M2 F
  | 2 => M3 F
  | 3 => M4 F
  | _ => M5 F
def Mp (F : Nat → Nat → Int) : Nat → Int
  | 0 => 1
  | k + 1 => Mk F k k k
theorem Lvl.at {n : Nat} {F : Nat → Nat → Int} (hn : n ≤ 5) (L : Lvl 0 n (M1 F) 1) : ∀ k, k < n → Lvl k n (Mk F k) (Mp F k) := by
  obtain ⟨h1, h2, h3, h4⟩ := L.all
  intro k hk
  match k, hk with
  | 0, _ => exact L
  | 1, hk => exact h1 hk
  | 2, hk => exact h2 hk
  | 3, hk => exact h3 hk
  | 4, hk => exact h4 hk
  | k + 5, hk => omega
theorem Mk_bar {n : Nat} {F : Nat → Nat → Int} (hn : n ≤ 5) (L : Lvl 0 n (M1 F) 1) : ∀ k, k + 1 < n → ∀ i j, Mk F k k k * Mk F k i j - Mk F k i k * Mk F k k j = Mp F k * Mk F (k + 1) i j := by
  intro k hk i j
  match k, hk with
  | 0, _ => exact bar2 F i j
  | 1, _ => exact bar3 F i j
  | 2, _ => exact bar4 F i j
  | 3, _ => exact bar5 F (by have := L.1.diag (Nat.le_refl 0) (show 0 < n by omega); unfold M1 at this; omega) i j
  | k + 4, hk => omega
/-- the class's cells are the levels; column m is the pays', m + 1 the steps' -/
def ph (m j : Nat) : Nat := if j < m then j else j + 1
theorem bseq_at {C F : Nat → Nat → Int} {m : Nat} (hm : m ≤ 4) (L : Lvl 0 (m + 1) (M1 F) 1) (hC : ∀ i j, i < m + 1 → j ≤ m + 1 → C i j = F i (ph m j)) : ∀ k, k ≤ m → (bseq C (m + 1) k).2 = Mp F k ∧ ∀ i j, k ≤ i → i < m + 1 → k ≤ j → j ≤ m + 1 → (bseq C (m + 1) k).1 i j = Mk F k i (ph m j) := by
  intro k
  induction k with
  | zero => intro _; exact ⟨rfl, fun i j _ h2 _ h4 => hC i j h2 h4⟩
  | succ k ih =>
    intro hk
    obtain ⟨e1, e2⟩ := ih (by omega)
    have hph : ph m k = k := if_pos (by omega)
    refine ⟨?_, fun i j h1 h2 h3 h4 => ?_⟩
    · show (bseq C (m + 1) k).1 k k = Mk F k k k
      rw [e2 k k (Nat.le_refl k) (by omega) (Nat.le_refl k) (by omega), hph]
    · show bst (bseq C (m + 1) k).1 k (bseq C (m + 1) k).2 (m + 1) (m + 1) (k + 1) i j = _
      unfold bst
      rw [if_pos (Or.inl ⟨by omega, h2, by omega, h4⟩), e1, e2 k k (Nat.le_refl k) (by omega) (Nat.le_refl k) (by omega), e2 i j (by omega) h2 (by omega) h4, e2 i k (by omega) h2 (Nat.le_refl k) (by omega), e2 k j (Nat.le_refl k) (by omega) (by omega) h4, hph, Mk_bar (n := m + 1) (by omega) L k (by omega)]
      have := (L.at (by omega) k (by omega)).2.1.1
      exact Int.mul_tdiv_cancel_left _ (by omega)
theorem bseq_ok {C F : Nat → Nat → Int} {m : Nat} (hm : m ≤ 4) (L : Lvl 0 (m + 1) (M1 F) 1) (hC : ∀ i j, i < m + 1 → j ≤ m + 1 → C i j = F i (ph m j)) : ∀ k, k < m → OKs (bseq C (m + 1) k).1 k (bseq C (m + 1) k).2 (m + 1) := by
  intro k hk
  obtain ⟨e1, e2⟩ := bseq_at hm L hC k (by omega)
  have Lk := L.at (by omega) k (by omega)
  have hph : ph m k = k := if_pos (by omega)
  have hX : (80 : Int) ^ (k + 1) ≤ 40960000 := by
    match k, hk with
    | 0, _ => decide
    | 1, _ => decide
    | 2, _ => decide
    | 3, _ => decide
    | k + 4, hk => omega
  have key : ∀ i, k ≤ i → i < m + 1 → (-40960000 ≤ Mk F k i k ∧ Mk F k i k ≤ 40960000) ∧ ∀ j, k ≤ j → j ≤ m + 1 → (-16384000000 ≤ Mk F k i (ph m j) ∧ Mk F k i (ph m j) ≤ 16384000000) := by
    intro i h1 h2
    obtain ⟨b1, b2, b3, b4, b5⟩ := Lk.bd h1 h2
    have hst := (Lk.2.2 i h1 h2).2.1
    generalize (80 : Int) ^ (k + 1) = X at b1 b2 b3 b4 b5 hX
    refine ⟨?_, fun j h3 h4 => ?_⟩
    · have := b2 k (Nat.le_refl k) (by omega)
      omega
    · unfold ph
      by_cases q : j < m
      · rw [if_pos q]
        have := b2 j h3 (by omega)
        omega
      · rw [if_neg q]
        rcases (show j = m ∨ j = m + 1 by omega) with e | e
        · subst e; omega
        · subst e; omega
  have mulb : ∀ {x y : Int}, -40960000 ≤ x → x ≤ 40960000 → -16384000000 ≤ y → y ≤ 16384000000 → -4000000000000000000 ≤ x * y ∧ x * y ≤ 4000000000000000000 := by
    intro x y a1 a2 a3 a4
    have h := Int.natAbs_mul x y
    have h2 : x.natAbs * y.natAbs ≤ 40960000 * 16384000000 := Nat.mul_le_mul (by omega) (by omega)
    omega
  refine ⟨?_, fun i j h1 h2 h3 h4 => ?_⟩
  · rw [e1]
    have := Lk.2.1.1
    omega
  · obtain ⟨k1, k2⟩ := key k (Nat.le_refl k) (by omega)
    obtain ⟨k3, k4⟩ := key i (by omega) h2
    rw [e2 k k (Nat.le_refl k) (by omega) (Nat.le_refl k) (by omega), e2 i j (by omega) h2 (by omega) h4, e2 i k (by omega) h2 (Nat.le_refl k) (by omega), e2 k j (Nat.le_refl k) (by omega) (by omega) h4, hph]
    exact ⟨mulb k1.1 k1.2 (k4 j (by omega) h4).1 (k4 j (by omega) h4).2, mulb k3.1 k3.2 (k2 j (by omega) h4).1 (k2 j (by omega) h4).2⟩
