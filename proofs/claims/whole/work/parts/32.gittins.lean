/-! ===== worths greatest first ===== -/
def sumR (f : Nat → Rat) : Nat → Rat
  | 0 => 0
  | n + 1 => sumR f n + f n
theorem sumR_congr {f g : Nat → Rat} : ∀ {n : Nat}, (∀ j, j < n → f j = g j) → sumR f n = sumR g n
  | 0, _ => rfl
  | n + 1, h => by rw [sumR, sumR, sumR_congr (n := n) (fun j hj => h j (by omega)), h n (by omega)]
theorem sumR_le {f g : Nat → Rat} : ∀ {n : Nat}, (∀ j, j < n → f j ≤ g j) → sumR f n ≤ sumR g n
  | 0, _ => by simp [sumR]
  | n + 1, h => by
    have h1 := sumR_le (f := f) (g := g) (n := n) (fun j hj => h j (by omega))
    have h2 := h n (by omega)
    rw [sumR, sumR]
    grind
theorem sumR_lin (f g : Nat → Rat) (x y : Rat) : ∀ n, sumR (fun j => x * f j + y * g j) n = x * sumR f n + y * sumR g n
  | 0 => by simp [sumR]; grind
  | n + 1 => by
    rw [sumR, sumR, sumR, sumR_lin f g x y n]
    grind
def tot (n : Nat) (w : Nat → Nat → Rat) (T : Nat → Bool) (h : Nat → Rat) (s : Nat) : Rat := sumR (fun u => if T u = true then w s u * h u else 0) n
theorem tot_lin (n : Nat) (w : Nat → Nat → Rat) (T : Nat → Bool) (f g : Nat → Rat) (x y : Rat) (s : Nat) : tot n w T (fun u => x * f u + y * g u) s = x * tot n w T f s + y * tot n w T g s := by
  unfold tot
  rw [← sumR_lin]
  refine sumR_congr fun j _ => ?_
  by_cases h : T j = true
  · rw [if_pos h, if_pos h, if_pos h]; grind
  · rw [if_neg h, if_neg h, if_neg h]; grind
/-- a system: what is lost at a step is more than nothing -/
def Sys (n : Nat) (al : Nat → Rat) (w : Nat → Nat → Rat) : Prop := ∀ s, s < n → (∀ t, t < n → 0 ≤ w s t) ∧ sumR (w s) n < al s
def Sol (n : Nat) (al : Nat → Rat) (w : Nat → Nat → Rat) (T : Nat → Bool) (c h : Nat → Rat) : Prop := ∀ t, t < n → T t = true → al t * h t = al t * c t + tot n w T h t
theorem Sys.al_pos {n : Nat} {al : Nat → Rat} {w : Nat → Nat → Rat} (S : Sys n al w) {s : Nat} (hs : s < n) : 0 < al s := by
  obtain ⟨h1, h2⟩ := S s hs
  have h3 : sumR (fun _ => 0) n ≤ sumR (w s) n := sumR_le h1
  have h4 : ∀ k, sumR (fun _ => 0) k = 0 := fun k => by
    induction k with
    | zero => rfl
    | succ k ih => rw [sumR, ih]; grind
  rw [h4] at h3
  grind
theorem has_min (T : Nat → Bool) (h : Nat → Rat) : ∀ (n : Nat) (t0 : Nat), t0 < n → T t0 = true → ∃ t, t < n ∧ T t = true ∧ ∀ u, u < n → T u = true → h t ≤ h u := by
  intro n
  induction n with
  | zero => intro t0 h0; omega
  | succ n ih =>
    intro t0 h0 hT
    by_cases hex : ∃ t1, t1 < n ∧ T t1 = true
    · obtain ⟨t1, h1, h2⟩ := hex
      obtain ⟨t, h3, h4, h5⟩ := ih t1 h1 h2
      by_cases hn : T n = true ∧ h n < h t
      · refine ⟨n, by omega, hn.1, fun u hu hTu => ?_⟩
        by_cases e : u = n
        · subst e; exact Rat.le_refl
        · have := h5 u (by omega) hTu
          grind
      · refine ⟨t, by omega, h4, fun u hu hTu => ?_⟩
        by_cases e : u = n
        · subst e
          have : ¬ h u < h t := fun z => hn ⟨hTu, z⟩
          exact Rat.not_lt.mp this
        · exact h5 u (by omega) hTu
    · have e : t0 = n := by
        by_cases e : t0 = n
        · exact e
        · exact absurd ⟨t0, by omega, hT⟩ hex
      subst e
      refine ⟨t0, by omega, hT, fun u hu hTu => ?_⟩
      by_cases e : u = t0
      · subst e; exact Rat.le_refl
      · exact absurd ⟨u, by omega, hTu⟩ hex
theorem minp {n : Nat} {al : Nat → Rat} {w : Nat → Nat → Rat} (S : Sys n al w) {T : Nat → Bool} {h : Nat → Rat} (H : ∀ t, t < n → T t = true → tot n w T h t ≤ al t * h t) : ∀ t, t < n → T t = true → 0 ≤ h t := by
  intro t0 ht0 hT0
  obtain ⟨t, h1, h2, h3⟩ := has_min T h n t0 ht0 hT0
  have h4 := h3 t0 ht0 hT0
  by_cases hn : h t < 0
  · exfalso
    obtain ⟨w1, w2⟩ := S t h1
    have e1 : h t * sumR (w t) n ≤ tot n w T h t := by
      have e2 : sumR (fun u => h t * w t u + 0 * w t u) n ≤ tot n w T h t := by
        refine sumR_le fun u hu => ?_
        have a1 := w1 u hu
        by_cases hT : T u = true
        · rw [if_pos hT]
          have a2 := h3 u hu hT
          have a3 : 0 ≤ w t u * (h u - h t) := Rat.mul_nonneg a1 (by grind)
          grind
        · rw [if_neg hT]
          have a3 : 0 ≤ w t u * (-h t) := Rat.mul_nonneg a1 (by grind)
          grind
      rw [sumR_lin] at e2
      grind
    have e3 := H t h1 h2
    have e4 : 0 < (-h t) * (al t - sumR (w t) n) := Rat.mul_pos (by grind) (by grind)
    grind
  · grind
theorem tot_mono {n : Nat} {al : Nat → Rat} {w : Nat → Nat → Rat} (S : Sys n al w) {T : Nat → Bool} {f g : Nat → Rat} {s : Nat} (hs : s < n) (h : ∀ u, u < n → T u = true → f u ≤ g u) : tot n w T f s ≤ tot n w T g s := by
  refine sumR_le fun u hu => ?_
  by_cases hT : T u = true
  · rw [if_pos hT, if_pos hT]
    have a1 := (S s hs).1 u hu
    have a2 := h u hu hT
    have a3 : 0 ≤ w s u * (g u - f u) := Rat.mul_nonneg a1 (by grind)
    grind
  · rw [if_neg hT, if_neg hT]; exact Rat.le_refl
theorem Sol.lin {n : Nat} {al : Nat → Rat} {w : Nat → Nat → Rat} {T : Nat → Bool} {c d f g : Nat → Rat} (hf : Sol n al w T c f) (hg : Sol n al w T d g) (x y : Rat) : Sol n al w T (fun u => x * c u + y * d u) (fun u => x * f u + y * g u) := by
  intro t ht hT
  have a1 := hf t ht hT
  have a2 := hg t ht hT
  rw [tot_lin]
  grind
theorem Sol.uniq {n : Nat} {al : Nat → Rat} {w : Nat → Nat → Rat} (S : Sys n al w) {T : Nat → Bool} {c f g : Nat → Rat} (hf : Sol n al w T c f) (hg : Sol n al w T c g) : ∀ t, t < n → T t = true → f t = g t := by
  intro t ht hT
  have key : ∀ {f g : Nat → Rat}, Sol n al w T c f → Sol n al w T c g → 0 ≤ f t - g t := by
    intro f g hf hg
    have h1 := minp S (T := T) (h := fun u => 1 * f u + (-1) * g u) (fun u hu hTu => by
      have a := (hf.lin hg 1 (-1)) u hu hTu
      simp only at a
      grind) t ht hT
    grind
  have h1 := key hf hg
  have h2 := key hg hf
  grind
theorem tot_congr {n : Nat} {w : Nat → Nat → Rat} {T : Nat → Bool} {f g : Nat → Rat} {s : Nat} (h : ∀ u, u < n → T u = true → f u = g u) : tot n w T f s = tot n w T g s := by
  refine sumR_congr fun u hu => ?_
  by_cases hT : T u = true
  · rw [if_pos hT, if_pos hT, h u hu hT]
  · rw [if_neg hT, if_neg hT]
/-- without the start -/
def wo (T : Nat → Bool) (s : Nat) : Nat → Bool := fun u => T u && !(u == s)
/-- what is got from s by the way T, each step costing la -/
def NV (n : Nat) (al : Nat → Rat) (w : Nat → Nat → Rat) (py : Nat → Rat) (la : Rat) (s : Nat) (T : Nat → Bool) (v : Rat) : Prop := ∃ y, Sol n al w (wo T s) (fun u => py u - la) y ∧ v = al s * (py s - la) + tot n w (wo T s) y s
/-- the value of the way T from s -/
def IsV (n : Nat) (al : Nat → Rat) (w : Nat → Nat → Rat) (py : Nat → Rat) (s : Nat) (T : Nat → Bool) (r : Rat) : Prop := ∃ h1 h2, Sol n al w (wo T s) py h1 ∧ Sol n al w (wo T s) (fun _ => 1) h2 ∧ r * (al s + tot n w (wo T s) h2 s) = al s * py s + tot n w (wo T s) h1 s
section GIT
variable {n : Nat} {al : Nat → Rat} {w : Nat → Nat → Rat} {py : Nat → Rat}
theorem one_pos (S : Sys n al w) {T : Nat → Bool} {e : Nat → Rat} (he : Sol n al w T (fun _ => 1) e) : ∀ t, t < n → T t = true → 0 ≤ e t := minp S fun t ht hT => by
  have a1 := he t ht hT
  have a2 := S.al_pos ht
  grind
theorem N1_pos (S : Sys n al w) {T : Nat → Bool} {s : Nat} (hs : s < n) {e : Nat → Rat} (he : Sol n al w T (fun _ => 1) e) : 0 < al s + tot n w T e s := by
  have h1 := one_pos S he
  have h2 : tot n w T (fun _ => 0) s ≤ tot n w T e s := tot_mono S hs fun u hu hT => h1 u hu hT
  have h3 : tot n w T (fun _ => 0) s = 0 := by
    have := tot_lin n w T (fun _ => 0) (fun _ => 0) 0 0 s
    have e1 : tot n w T (fun u => 0 * (fun _ => (0 : Rat)) u + 0 * (fun _ => (0 : Rat)) u) s = tot n w T (fun _ => 0) s := tot_congr fun u _ _ => by grind
    grind
  have h4 := S.al_pos hs
  grind
theorem IsV.nv (S : Sys n al w) {s : Nat} (hs : s < n) {T : Nat → Bool} {r : Rat} (h : IsV n al w py s T r) (la : Rat) : ∃ N, 0 < N ∧ NV n al w py la s T ((r - la) * N) := by
  obtain ⟨h1, h2, s1, s2, e⟩ := h
  refine ⟨al s + tot n w (wo T s) h2 s, N1_pos S hs s2, fun u => 1 * h1 u + (-la) * h2 u, ?_, ?_⟩
  · have := s1.lin s2 1 (-la)
    intro t ht hT
    have a := this t ht hT
    simp only at a
    grind
  · rw [tot_lin]
    grind
theorem NV.uniq (S : Sys n al w) {s : Nat} {T : Nat → Bool} {la v v' : Rat} (h : NV n al w py la s T v) (h' : NV n al w py la s T v') : v = v' := by
  obtain ⟨y, h1, h2⟩ := h
  obtain ⟨y', h3, h4⟩ := h'
  rw [h2, h4, tot_congr (Sol.uniq S h1 h3)]
theorem IsV.uniq (S : Sys n al w) {s : Nat} (hs : s < n) {T : Nat → Bool} {r r' : Rat} (h : IsV n al w py s T r) (h' : IsV n al w py s T r') : r = r' := by
  obtain ⟨N, h1, h2⟩ := h.nv S hs r'
  obtain ⟨N', h3, h4⟩ := h'.nv S hs r'
  have e := NV.uniq S h2 h4
  have e2 : (r - r') * N = 0 := by grind
  rcases Rat.mul_eq_zero.mp e2 with q | q
  · grind
  · grind
/-- what is known when the states of D are done, at la: the solution on D, and what it says of the others -/
def Stage (n : Nat) (al : Nat → Rat) (w : Nat → Nat → Rat) (py : Nat → Rat) (D : Nat → Bool) (la : Rat) : Prop := ∃ h, Sol n al w D (fun u => py u - la) h ∧ (∀ t, t < n → D t = true → 0 ≤ h t) ∧ ∀ t, t < n → D t = false → al t * (py t - la) + tot n w D h t ≤ 0
theorem wo_no {D : Nat → Bool} {s : Nat} (h : D s = false) : wo D s = D := by
  funext u
  unfold wo
  by_cases e : u = s
  · subst e; rw [h]; rfl
  · have : (u == s) = false := by simpa using e
    rw [this]; simp
theorem Stage.best (S : Sys n al w) {D : Nat → Bool} {la : Rat} (st : Stage n al w py D la) {s : Nat} (hs : s < n) (hDs : D s = false) {T : Nat → Bool} {r : Rat} (h : IsV n al w py s T r) : r ≤ la := by
  obtain ⟨hh, s1, s2, s3⟩ := st
  obtain ⟨N, hN, y, y1, y2⟩ := h.nv S hs la
  -- the majorant
  have hf0 : ∀ t, 0 ≤ (if D t = true ∧ t < n then hh t else 0) := by
    intro t
    by_cases q : D t = true ∧ t < n
    · rw [if_pos q]; exact s2 t q.2 q.1
    · rw [if_neg q]; exact Rat.le_refl
  have hall : ∀ t, t < n → tot n w (wo T s) (fun t => if D t = true ∧ t < n then hh t else 0) t ≤ tot n w D hh t := by
    intro t ht
    refine sumR_le fun u hu => ?_
    have a1 := (S t ht).1 u hu
    dsimp only
    by_cases q : D u = true
    · have q2 : D u = true ∧ u < n := ⟨q, hu⟩
      rw [if_pos q2, if_pos q]
      by_cases q3 : wo T s u = true
      · rw [if_pos q3]; exact Rat.le_refl
      · rw [if_neg q3]; exact Rat.mul_nonneg a1 (s2 u hu q)
    · have q2 : ¬ (D u = true ∧ u < n) := fun z => q z.1
      rw [if_neg q2, if_neg q]
      by_cases q3 : wo T s u = true
      · rw [if_pos q3]; grind
      · rw [if_neg q3]; exact Rat.le_refl
  have hz := minp S (T := wo T s) (h := fun u => 1 * (if D u = true ∧ u < n then hh u else 0) + (-1) * y u) (fun t ht hTt => by
    rw [tot_lin]
    have a1 := hall t ht
    have a2 := y1 t ht hTt
    simp only at a2 ⊢
    by_cases q : D t = true
    · have q2 : D t = true ∧ t < n := ⟨q, ht⟩
      rw [if_pos q2]
      have a3 := s1 t ht q
      simp only at a3
      grind
    · have q2 : ¬ (D t = true ∧ t < n) := fun z => q z.1
      rw [if_neg q2]
      have a3 := s3 t ht (by simpa using q)
      grind)
  have h5 : tot n w (wo T s) y s ≤ tot n w (wo T s) (fun t => if D t = true ∧ t < n then hh t else 0) s := tot_mono S hs fun u hu hTu => by
    have := hz u hu hTu
    try simp only at this
    grind
  have h6 := hall s hs
  have h7 := s3 s hs hDs
  have h8 : (r - la) * N ≤ 0 := by grind
  by_cases q : la < r
  · have := Rat.mul_pos (show 0 < r - la by grind) hN
    grind
  · exact Rat.not_lt.mp q
/-- the next state, and a smaller number -/
theorem Stage.next (S : Sys n al w) {D D' : Nat → Bool} {la la' : Rat} {s : Nat} (hs : s < n) (hDs : D s = false) (hD' : ∀ t, D' t = (D t || t == s)) (st : Stage n al w py D la) (hv : IsV n al w py s D la) (hm : ∃ s', s' < n ∧ D' s' = false ∧ IsV n al w py s' D' la' ∧ ∀ t, t < n → D' t = false → ∀ r, IsV n al w py t D' r → r ≤ la') (ex : ∀ t, t < n → ∃ r, IsV n al w py t D' r) (ex1 : ∃ e, Sol n al w D' (fun _ => 1) e) : la' ≤ la ∧ Stage n al w py D' la' := by
  obtain ⟨hh, s1, s2, s3⟩ := st
  obtain ⟨N, hN, nv⟩ := hv.nv S hs la
  have hDD : ∀ t, D t = true → D' t = true := fun t ht => by rw [hD', ht]; rfl
  have hss : D' s = true := by rw [hD']; simp
  have hzero : al s * (py s - la) + tot n w D hh s = 0 := by
    obtain ⟨y, y1, y2⟩ := nv
    rw [wo_no hDs] at y1 y2
    rw [tot_congr (Sol.uniq S s1 y1)]
    grind
  -- the solution on D', with 0 at s
  have htot : ∀ t, tot n w D' (fun u => if D u = true then hh u else 0) t = tot n w D hh t := by
    intro t
    refine sumR_congr fun u hu => ?_
    dsimp only
    by_cases q : D u = true
    · rw [if_pos q, if_pos q, if_pos (hDD u q)]
    · rw [if_neg q, if_neg q]
      by_cases q2 : D' u = true
      · rw [if_pos q2]; grind
      · rw [if_neg q2]
  have s1' : Sol n al w D' (fun u => py u - la) (fun u => if D u = true then hh u else 0) := by
    intro t ht hT
    rw [htot]
    by_cases q : D t = true
    · simp only [if_pos q]
      exact s1 t ht q
    · have e : t = s := by
        rw [hD'] at hT
        simp only [Bool.or_eq_true, beq_iff_eq] at hT
        exact hT.elim (fun z => absurd z q) id
      subst e
      simp only [if_neg q]
      grind
  have s3' : ∀ t, t < n → D' t = false → al t * (py t - la) + tot n w D' (fun u => if D u = true then hh u else 0) t ≤ 0 := by
    intro t ht hT
    rw [htot]
    refine s3 t ht ?_
    cases hq : D t with
    | false => rfl
    | true => rw [hDD t hq] at hT; cases hT
  have s2' : ∀ t, t < n → D' t = true → 0 ≤ (if D t = true then hh t else 0) := by
    intro t ht _
    by_cases q : D t = true
    · rw [if_pos q]; exact s2 t ht q
    · rw [if_neg q]; exact Rat.le_refl
  have stage' : Stage n al w py D' la := ⟨_, s1', s2', s3'⟩
  obtain ⟨s', h1, h2, h3, h4⟩ := hm
  have hle : la' ≤ la := stage'.best S h1 h2 h3
  obtain ⟨e, he⟩ := ex1
  have he0 := one_pos S he
  refine ⟨hle, fun u => 1 * (if D u = true then hh u else 0) + (la - la') * e u, ?_, ?_, ?_⟩
  · have := s1'.lin he 1 (la - la')
    intro t ht hT
    have a := this t ht hT
    simp only at a ⊢
    grind
  · intro t ht hT
    have a1 := s2' t ht hT
    have a2 := Rat.mul_nonneg (show 0 ≤ la - la' by grind) (he0 t ht hT)
    simp only
    grind
  · intro t ht hT
    obtain ⟨r, hr⟩ := ex t ht
    have hr2 := h4 t ht hT r hr
    obtain ⟨N2, hN2, y, y1, y2⟩ := hr.nv S ht la'
    rw [wo_no hT] at y1 y2
    have hsol : Sol n al w D' (fun u => py u - la') (fun u => 1 * (if D u = true then hh u else 0) + (la - la') * e u) := by
      have := s1'.lin he 1 (la - la')
      intro t ht hT
      have a := this t ht hT
      simp only at a ⊢
      grind
    rw [tot_congr (Sol.uniq S hsol y1), ← y2]
    have := Rat.mul_nonneg (show 0 ≤ la' - r by grind) (show 0 ≤ N2 by grind)
    grind
end GIT
