theorem sumI_lin (f g : Nat → Int) (x y : Int) : ∀ n, sumI (fun j => x * f j - y * g j) n = x * sumI f n - y * sumI g n
  | 0 => by simp [sumI]
  | n + 1 => by
    rw [sumI, sumI, sumI, sumI_lin f g x y n]
    grind
theorem sumI_np {f : Nat → Int} : ∀ {n : Nat}, (∀ j, j < n → f j ≤ 0) → sumI f n ≤ 0
  | 0, _ => by simp [sumI]
  | n + 1, h => by
    rw [sumI]
    have h1 := sumI_np (f := f) (n := n) (fun j hj => h j (by omega))
    have h2 := h n (by omega)
    omega
theorem sumI_one {f : Nat → Int} : ∀ {n k : Nat}, k < n → (∀ j, j < n → j ≠ k → f j ≤ 0) → sumI f n ≤ f k
  | 0, k, hk, _ => by omega
  | n + 1, k, hk, h => by
    rw [sumI]
    by_cases e : k = n
    · subst e
      have h1 := sumI_np (f := f) (n := k) (fun j hj => h j (by omega) (by omega))
      omega
    · have h1 := sumI_one (f := f) (n := n) (k := k) (by omega) (fun j hj => h j (by omega))
      have h2 := h n (by omega) (fun z => e z.symm)
      omega
theorem sumI_two {f : Nat → Int} : ∀ {n k i : Nat}, k < n → i < n → k ≠ i → (∀ j, j < n → j ≠ k → f j ≤ 0) → sumI f n ≤ f k + f i
  | 0, k, i, hk, _, _, _ => by omega
  | n + 1, k, i, hk, hi, hne, h => by
    rw [sumI]
    by_cases e : k = n
    · subst e
      have h1 : sumI f k ≤ f i := sumI_one (f := f) (n := k) (k := i) (by omega) (fun j hj hji => h j (by omega) (by omega))
      omega
    · by_cases e2 : i = n
      · subst e2
        have h1 := sumI_one (f := f) (n := i) (k := k) (by omega) (fun j hj hjk => h j (by omega) hjk)
        omega
      · have h1 := sumI_two (f := f) (n := n) (k := k) (i := i) (by omega) (by omega) hne (fun j hj => h j (by omega))
        have h2 := h n (by omega) (fun z => e z.symm)
        omega
theorem sumI_shift (f : Nat → Int) : ∀ n, sumI f (n + 1) = f 0 + sumI (fun j => f (j + 1)) n
  | 0 => by simp [sumI]
  | n + 1 => by
    rw [sumI, sumI_shift f n, sumI]
    omega
theorem sumI_congr {f g : Nat → Int} : ∀ {n : Nat}, (∀ j, j < n → f j = g j) → sumI f n = sumI g n
  | 0, _ => rfl
  | n + 1, h => by
    rw [sumI, sumI, sumI_congr (n := n) (fun j hj => h j (by omega)), h n (by omega)]
/-- from k on: off the diagonal nothing above 0, each row's sum above 0 -/
def MMk (k n : Nat) (m : Nat → Nat → Int) : Prop := (∀ i j, k ≤ i → i < n → k ≤ j → j < n → i ≠ j → m i j ≤ 0) ∧ ∀ i, k ≤ i → i < n → 0 < sumI (fun j => m i (k + j)) (n - k)
theorem MMk.diag {k n : Nat} {m : Nat → Nat → Int} (h : MMk k n m) {i : Nat} (h1 : k ≤ i) (h2 : i < n) : 0 < m i i := by
  have h3 := h.2 i h1 h2
  have h4 := sumI_one (f := fun j => m i (k + j)) (n := n - k) (k := i - k) (by omega) (fun j hj hji => h.1 i (k + j) h1 h2 (by omega) (by omega) (by omega))
  simp only [show k + (i - k) = i by omega] at h4
  omega
theorem MMk.off {k n : Nat} {m : Nat → Nat → Int} (h : MMk k n m) {i j : Nat} (h1 : k ≤ i) (h2 : i < n) (h3 : k ≤ j) (h4 : j < n) (hij : i ≠ j) : -(m i i) < m i j ∧ m i j ≤ 0 := by
  have h5 := h.2 i h1 h2
  have h6 := sumI_two (f := fun j => m i (k + j)) (n := n - k) (k := i - k) (i := j - k) (by omega) (by omega) (by omega) (fun j hj hji => h.1 i (k + j) h1 h2 (by omega) (by omega) (by omega))
  simp only [show k + (i - k) = i by omega, show k + (j - k) = j by omega] at h6
  have h7 := h.1 i j h1 h2 h3 h4 hij
  omega
theorem MMk.step {k n : Nat} {m : Nat → Nat → Int} (h : MMk k n m) (hk : k < n) : MMk (k + 1) n (fun i j => m k k * m i j - m i k * m k j) := by
  have hd := h.diag (Nat.le_refl k) hk
  refine ⟨fun i j h1 h2 h3 h4 hij => ?_, fun i h1 h2 => ?_⟩
  · have a1 := h.1 i j (by omega) h2 (by omega) h4 hij
    have a2 := h.1 i k (by omega) h2 (by omega) hk (by omega)
    have a3 := h.1 k j (by omega) hk (by omega) h4 (by omega)
    have b1 := Int.mul_nonneg (show 0 ≤ m k k by omega) (show 0 ≤ -(m i j) by omega)
    have b2 := Int.mul_nonneg (show 0 ≤ -(m i k) by omega) (show 0 ≤ -(m k j) by omega)
    rw [Int.mul_neg] at b1
    rw [Int.neg_mul_neg] at b2
    show m k k * m i j - m i k * m k j ≤ 0
    omega
  · have a1 := h.2 i (by omega) h2
    have a2 := h.2 k (Nat.le_refl k) hk
    have a3 := h.1 i k (by omega) h2 (by omega) hk (by omega)
    obtain ⟨d, hd'⟩ : ∃ d, n - k = d + 1 := ⟨n - k - 1, by omega⟩
    rw [hd', sumI_shift] at a1 a2
    simp only [Nat.add_zero] at a1 a2
    rw [show n - (k + 1) = d by omega, sumI_lin (fun j => m i (k + 1 + j)) (fun j => m k (k + 1 + j))]
    have e1 : sumI (fun j => m i (k + (j + 1))) d = sumI (fun j => m i (k + 1 + j)) d := sumI_congr fun j _ => by rw [show k + (j + 1) = k + 1 + j by omega]
    have e2 : sumI (fun j => m k (k + (j + 1))) d = sumI (fun j => m k (k + 1 + j)) d := sumI_congr fun j _ => by rw [show k + (j + 1) = k + 1 + j by omega]
    rw [e1] at a1
    rw [e2] at a2
    generalize sumI (fun j => m i (k + 1 + j)) d = si at a1 ⊢
    generalize sumI (fun j => m k (k + 1 + j)) d = sk at a2 ⊢
    have b1 := Int.mul_pos hd a1
    have b2 := Int.mul_nonneg (show 0 ≤ -(m i k) by omega) (show 0 ≤ m k k + sk by omega)
    have e3 : m k k * si - m i k * sk = m k k * (m i k + si) + -(m i k) * (m k k + sk) := by grind
    rw [e3]
    exact Int.add_pos_of_pos_of_nonneg b1 b2
theorem MMk.divide {k n : Nat} {m m' : Nat → Nat → Int} {d : Int} (hd : 0 < d) (h : MMk k n m) (he : ∀ i j, m i j = d * m' i j) : MMk k n m' := by
  refine ⟨fun i j h1 h2 h3 h4 hij => ?_, fun i h1 h2 => ?_⟩
  · have a1 := h.1 i j h1 h2 h3 h4 hij
    rw [he] at a1
    rcases Int.lt_or_le 0 (m' i j) with q | q
    · have := Int.mul_pos hd q
      omega
    · exact q
  · have a1 := h.2 i h1 h2
    have e : sumI (fun j => m i (k + j)) (n - k) = d * sumI (fun j => m' i (k + j)) (n - k) := by
      have := sumI_lin (fun j => m' i (k + j)) (fun _ => 0) d 0 (n - k)
      simp only [Int.zero_mul, Int.sub_zero] at this
      rw [← this]
      exact sumI_congr fun j _ => he i (k + j)
    rw [e] at a1
    rcases Int.lt_or_le 0 (sumI (fun j => m' i (k + j)) (n - k)) with q | q
    · exact q
    · have := Int.mul_nonneg (show 0 ≤ d by omega) (show 0 ≤ -(sumI (fun j => m' i (k + j)) (n - k)) by omega)
      rw [Int.mul_neg] at this
      omega
theorem MMk.top1 {n : Nat} {m : Nat → Nat → Int} (h : MMk 0 (n + 1) m) : MMk 0 n m := by
  refine ⟨fun i j h1 h2 h3 h4 => h.1 i j h1 (by omega) h3 (by omega), fun i h1 h2 => ?_⟩
  have a := h.2 i h1 (by omega)
  have b := h.1 i n h1 (by omega) (by omega) (by omega) (by omega)
  simp only [Nat.zero_add, Nat.sub_zero] at a ⊢
  rw [sumI] at a
  omega
theorem MMk.top {n : Nat} {m : Nat → Nat → Int} : ∀ {d : Nat}, MMk 0 (n + d) m → MMk 0 n m
  | 0, h => h
  | d + 1, h => MMk.top (d := d) (MMk.top1 h)
/-- the levels of Bareiss' elimination of such a matrix -/
theorem MM_levels {n : Nat} {a : Nat → Nat → Int} (h : MMk 0 n a) :
    (0 < n → 0 < M1 a 0 0) ∧ (1 < n → MMk 1 n (M2 a) ∧ 0 < M2 a 1 1) ∧ (2 < n → MMk 2 n (M3 a) ∧ 0 < M3 a 2 2) ∧ (3 < n → MMk 3 n (M4 a) ∧ 0 < M4 a 3 3) ∧ (4 < n → MMk 4 n (M5 a) ∧ 0 < M5 a 4 4) := by
  have h1 : 0 < n → 0 < M1 a 0 0 := fun hn => h.diag (Nat.le_refl 0) hn
  have h2 : 1 < n → MMk 1 n (M2 a) := fun hn => (h.step (by omega)).divide (d := 1) (by decide) (fun i j => bar2 a i j)
  have d2 : 1 < n → 0 < M2 a 1 1 := fun hn => (h2 hn).diag (Nat.le_refl 1) hn
  have h3 : 2 < n → MMk 2 n (M3 a) := fun hn => ((h2 (by omega)).step (by omega)).divide (h1 (by omega)) (fun i j => bar3 a i j)
  have d3 : 2 < n → 0 < M3 a 2 2 := fun hn => (h3 hn).diag (Nat.le_refl 2) hn
  have h4 : 3 < n → MMk 3 n (M4 a) := fun hn => ((h3 (by omega)).step (by omega)).divide (d2 (by omega)) (fun i j => bar4 a i j)
  have d4 : 3 < n → 0 < M4 a 3 3 := fun hn => (h4 hn).diag (Nat.le_refl 3) hn
  have h5 : 4 < n → MMk 4 n (M5 a) := fun hn => ((h4 (by omega)).step (by omega)).divide (d3 (by omega)) (fun i j => bar5 a (by have := h1 (by omega); unfold M1 at this; omega) i j)
  exact ⟨h1, fun hn => ⟨h2 hn, d2 hn⟩, fun hn => ⟨h3 hn, d3 hn⟩, fun hn => ⟨h4 hn, d4 hn⟩, fun hn => ⟨h5 hn, (h5 hn).diag (Nat.le_refl 4) hn⟩⟩
