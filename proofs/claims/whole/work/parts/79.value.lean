/-! ===== the reference's value ===== -/
/-- the table with the start's column cleared -/
def lyB (S : SS) (m set col : Nat) : Nat → Nat → Int := fun u t => if ¬ t = col then (if u = t then wh (qS S : Nat) (nS S m) (wS S m) u else 0) - (if Nat.testBit set t = true then ((pS S : Nat) : Int) * wS S m u t else 0) else if u = col then wh (qS S : Nat) (nS S m) (wS S m) u else 0
section VAL
variable {S : SS} {m set col : Nat}
theorem lyB_MM (F : WF S) (hm : m < mS S) (hc : col < nS S m) : MMk 0 (nS S m) (lyB S m set col) := by
  obtain ⟨⟨n1, n5'⟩, en, hpy, hw⟩ := F.m hm
  obtain ⟨hpq, ep, eq⟩ := F.pq
  generalize hN : nS S m = n at *
  have pw0 : ∀ u t, u < n → t < n → 0 ≤ ((pS S : Nat) : Int) * wS S m u t := fun u t hu ht => (pw_b (p := pS S) hw (by omega) hu ht).1
  refine ⟨fun i j h1 h2 h3 h4 h5 => ?_, fun i h1 h2 => ?_⟩
  · unfold lyB
    rw [hN]
    by_cases c : j = col
    · rw [if_neg (not_not_intro c), if_neg (by omega)]
      decide
    · rw [if_pos c, if_neg h5]
      have := pw0 i j h2 h4
      split <;> omega
  · simp only [Nat.zero_add, Nat.sub_zero]
    have hb := hw i h2
    have e1 : sumI (fun j => (if j = i then wh (qS S : Nat) n (wS S m) i else 0) - ((pS S : Nat) : Int) * wS S m i j) n ≤ sumI (fun j => lyB S m set col i j) n := by
      refine sumI_le fun j hj => ?_
      unfold lyB
      rw [hN]
      have h6 := pw0 i j h2 hj
      have h7 := (wh_b (q := qS S) hw hpq.2.2 h2).1
      by_cases c : j = col
      · rw [if_neg (not_not_intro c)]
        by_cases d : i = col
        · rw [if_pos d]
          split <;> omega
        · rw [if_neg d, if_neg (by omega)]
          omega
      · rw [if_pos c]
        by_cases d : i = j
        · rw [if_pos d, if_pos d.symm]
          split <;> omega
        · rw [if_neg d, if_neg (Ne.symm d)]
          split <;> omega
    have e2 : sumI (fun j => (if j = i then wh (qS S : Nat) n (wS S m) i else 0) - ((pS S : Nat) : Int) * wS S m i j) n = wh (qS S : Nat) n (wS S m) i - ((pS S : Nat) : Int) * sumI (wS S m i) n := by
      have := sumI_lin (fun j => if j = i then wh (qS S : Nat) n (wS S m) i else 0) (wS S m i) 1 ((pS S : Nat) : Int) n
      simp only [Int.one_mul] at this
      rw [this, sumI_delta, if_pos h2]
    have e3 : wh (qS S : Nat) n (wS S m) i - ((pS S : Nat) : Int) * sumI (wS S m i) n = (((qS S : Nat) : Int) - ((pS S : Nat) : Int)) * sumI (wS S m i) n := by unfold wh; rw [Int.sub_mul]
    have e4 : 0 < (((qS S : Nat) : Int) - ((pS S : Nat) : Int)) * sumI (wS S m i) n := Int.mul_pos (by omega) (by omega)
    show 0 < sumI (fun j => lyB S m set col i j) n
    omega
theorem sumR_dl (f : Nat → Rat) (i : Nat) : ∀ k, sumR (fun t => if i = t then f t else 0) k = if i < k then f i else 0
  | 0 => by simp [sumR]
  | k + 1 => by
    rw [sumR, sumR_dl f i k]
    by_cases e : i = k
    · subst e
      rw [if_neg (by omega), if_pos rfl, if_pos (by omega), Rat.zero_add]
    · rw [if_neg e, Rat.add_zero]
      by_cases q : i < k
      · rw [if_pos q, if_pos (by omega)]
      · rw [if_neg q, if_neg (by omega)]
/-- the equations of a way, solved for one right hand side -/
theorem lyB_row (F : WF S) (hm : m < mS S) (hc : col < nS S m) {c h : Nat → Rat} (hs : Sol (nS S m) (rAl (qS S) (nS S m) (wS S m)) (rW (pS S) (wS S m)) (wo (Nat.testBit set) col) c h) (y : Nat → Rat) (hy : y = fun t => (rAl (qS S) (nS S m) (wS S m) t * c t + tot (nS S m) (rW (pS S) (wS S m)) (wo (Nat.testBit set) col) h t) / rAl (qS S) (nS S m) (wS S m) t) : ∀ u, u < nS S m → rAl (qS S) (nS S m) (wS S m) u * c u = sumR (fun t => ((lyB S m set col u t : Int) : Rat) * y t) (nS S m) := by
  intro u hu
  obtain ⟨⟨n1, n5'⟩, en, hpy, hw⟩ := F.m hm
  obtain ⟨hpq, ep, eq⟩ := F.pq
  have sy := sysR hw ⟨hpq.1, hpq.2.1⟩ (n := nS S m)
  generalize hA : rAl (qS S) (nS S m) (wS S m) = A at *
  have ay : ∀ t, t < nS S m → A t * y t = A t * c t + tot (nS S m) (rW (pS S) (wS S m)) (wo (Nat.testBit set) col) h t := fun t ht => by
    have h0 : A t ≠ 0 := fun z => by have := sy.al_pos ht; rw [z] at this; exact absurd this Rat.lt_irrefl
    rw [hy]
    show A t * ((A t * c t + tot (nS S m) (rW (pS S) (wS S m)) (wo (Nat.testBit set) col) h t) / A t) = _
    rw [Rat.div_def, Rat.mul_comm, Rat.mul_assoc, Rat.inv_mul_cancel _ h0, Rat.mul_one]
  have yh : ∀ t, t < nS S m → wo (Nat.testBit set) col t = true → y t = h t := fun t ht hT => by
    have h0 : A t ≠ 0 := fun z => by have := sy.al_pos ht; rw [z] at this; exact absurd this Rat.lt_irrefl
    have e1 := ay t ht
    rw [← hs t ht hT] at e1
    have e2 : A t * (y t - h t) = 0 := by grind
    rcases Rat.mul_eq_zero.mp e2 with q | q
    · exact absurd q h0
    · grind
  have eA : ∀ t, A t = ((wh (qS S : Nat) (nS S m) (wS S m) t : Int) : Rat) := fun t => by rw [← hA]
  have cell : ∀ t, t < nS S m → ((lyB S m set col u t : Int) : Rat) * y t = 1 * (if u = t then A t * y t else 0) + (-1) * (if wo (Nat.testBit set) col t = true then rW (pS S) (wS S m) u t * h t else 0) := by
    intro t ht
    unfold lyB
    by_cases d : t = col
    · have w0 : ¬ wo (Nat.testBit set) col t = true := by rw [wo_bit]; exact fun z => z.2 d
      rw [if_neg (not_not_intro d), if_neg w0]
      by_cases e : u = col
      · rw [if_pos e, if_pos (e.trans d.symm), eA, e.trans d.symm]
        grind
      · rw [if_neg e, if_neg (fun z => e (z.trans d))]
        have : ((0 : Int) : Rat) = 0 := rfl
        rw [this]
        grind
    · rw [if_pos d]
      by_cases b : Nat.testBit set t = true
      · have w1 : wo (Nat.testBit set) col t = true := by rw [wo_bit]; exact ⟨b, d⟩
        rw [if_pos b, if_pos w1, Rat.intCast_sub, yh t ht w1]
        have e5 : ((((pS S : Nat) : Int) * wS S m u t : Int) : Rat) = rW (pS S) (wS S m) u t := rfl
        rw [e5]
        by_cases e : u = t
        · rw [if_pos e, if_pos e, eA, e]
          grind
        · rw [if_neg e, if_neg e]
          have : ((0 : Int) : Rat) = 0 := rfl
          rw [this]
          grind
      · have w0 : ¬ wo (Nat.testBit set) col t = true := by rw [wo_bit]; exact fun z => b z.1
        rw [if_neg b, if_neg w0, Int.sub_zero]
        by_cases e : u = t
        · rw [if_pos e, if_pos e, eA, e]
          grind
        · rw [if_neg e, if_neg e]
          have : ((0 : Int) : Rat) = 0 := rfl
          rw [this]
          grind
  rw [sumR_congr cell, sumR_lin, sumR_dl (fun t => A t * y t) u, if_pos hu, ay u hu]
  show _ = 1 * (A u * c u + tot (nS S m) (rW (pS S) (wS S m)) (wo (Nat.testBit set) col) h u) + -1 * tot (nS S m) (rW (pS S) (wS S m)) (wo (Nat.testBit set) col) h u
  grind
theorem lyT_b (F : WF S) (hm : m < mS S) (pd : Bool) : ∀ r c, r < nS S m → c < nS S m → (c ≠ col → -80 ≤ lyT S m set col pd r c ∧ lyT S m set col pd r c ≤ 80) ∧ -4000 ≤ lyT S m set col pd r c ∧ lyT S m set col pd r c ≤ 4000 := by
  intro r c hr hc
  obtain ⟨⟨n1, n5'⟩, en, hpy, hw⟩ := F.m hm
  obtain ⟨hpq, ep, eq⟩ := F.pq
  have b1 := whpy_b F hm hr
  have b2 := pw_b (p := pS S) hw (by omega) hr hc
  unfold lyT
  by_cases d : c = col
  · refine ⟨fun z => absurd d z, ?_⟩
    rw [if_neg (not_not_intro d)]
    split <;> omega
  · rw [if_pos d]
    have : -80 ≤ (if r = c then wh (qS S : Nat) (nS S m) (wS S m) r else 0) - (if Nat.testBit set c = true then ((pS S : Nat) : Int) * wS S m r c else 0) ∧ (if r = c then wh (qS S : Nat) (nS S m) (wS S m) r else 0) - (if Nat.testBit set c = true then ((pS S : Nat) : Int) * wS S m r c else 0) ≤ 80 := by
      split <;> split <;> omega
    exact ⟨fun _ => this, by omega, by omega⟩
theorem det_b (F : WF S) (hm : m < mS S) (pd : Bool) : -512000000000000 ≤ Dv (nS S m) (lyT S m set col pd) (2 ^ nS S m - 1) ∧ Dv (nS S m) (lyT S m set col pd) (2 ^ nS S m - 1) ≤ 512000000000000 := by
  obtain ⟨⟨n1, n5'⟩, en, hpy, hw⟩ := F.m hm
  have pb := p2_b (nS S m) (by omega)
  have h := (Dg_b (n := nS S m) n5' (lyT_b (set := set) (col := col) F hm pd) (nP (Nat.testBit (2 ^ nS S m - 1)) (nS S m)) (2 ^ nS S m - 1) (nP_le _ _) (by omega)).2
  have np := nP_le (Nat.testBit (2 ^ nS S m - 1)) (nS S m)
  have hp : ∀ j, j ≤ 5 → (400 : Int) ^ j * 50 ≤ 512000000000000 := by decide
  have := hp (nP (Nat.testBit (2 ^ nS S m - 1)) (nS S m)) (by omega)
  unfold Dv
  omega
theorem val_eq (F : WF S) (hm : m < mS S) (hc : col < nS S m) : 0 < Dv (nS S m) (lyT S m set col false) (2 ^ nS S m - 1) ∧ IsV (nS S m) (rAl (qS S) (nS S m) (wS S m)) (rW (pS S) (wS S m)) (rPy (pyS S m)) col (Nat.testBit set) (mkRat (Dv (nS S m) (lyT S m set col true) (2 ^ nS S m - 1)) (Dv (nS S m) (lyT S m set col false) (2 ^ nS S m - 1)).toNat) := by
  obtain ⟨hn, en, hpy, hw⟩ := F.m hm
  obtain ⟨hpq, ep, eq⟩ := F.pq
  have sy := sysR hw ⟨hpq.1, hpq.2.1⟩ (n := nS S m)
  obtain ⟨h1, s1⟩ := exi sy (wo (Nat.testBit set) col) (rPy (pyS S m))
  obtain ⟨h2, s2⟩ := exi sy (wo (Nat.testBit set) col) (fun _ => 1)
  have r1 := lyB_row F hm hc s1 _ rfl
  have r2 := lyB_row F hm hc s2 _ rfl
  have kp := MiN_pos hn (lyB_MM (set := set) F hm hc)
  rw [Dv_MiN _ hn, Dv_MiN _ hn]
  have c1 := cramN hn hc (fun i j => ((lyT S m set col true i j : Int) : Rat)) (fun i j => ((lyB S m set col i j : Int) : Rat)) _ (fun u hu => by
    rw [← r1 u hu]
    unfold lyT
    rw [if_neg (not_not_intro rfl), if_pos rfl, Rat.intCast_mul]) (fun u t hu ht hne => by
    unfold lyB lyT
    rw [if_pos hne, if_pos hne])
  have c2 := cramN hn hc (fun i j => ((lyT S m set col false i j : Int) : Rat)) (fun i j => ((lyB S m set col i j : Int) : Rat)) _ (fun u hu => by
    rw [← r2 u hu]
    unfold lyT
    rw [if_neg (not_not_intro rfl), if_neg (by decide), Rat.mul_one]) (fun u t hu ht hne => by
    unfold lyB lyT
    rw [if_pos hne, if_pos hne])
  rw [← MiN_cast _ hn, ← MiN_cast _ hn] at c1 c2
  generalize hA : MiN (nS S m) (lyT S m set col true) = A at *
  generalize hB : MiN (nS S m) (lyT S m set col false) = B at *
  generalize hK : MiN (nS S m) (lyB S m set col) = K at *
  have hal := sy.al_pos hc
  have hN1 := N1_pos sy hc s2
  rw [Rat.mul_one] at c2
  generalize ha : rAl (qS S) (nS S m) (wS S m) col = a at *
  generalize hN : a + tot (nS S m) (rW (pS S) (wS S m)) (wo (Nat.testBit set) col) h2 col = N1 at *
  generalize hM : a * rPy (pyS S m) col + tot (nS S m) (rW (pS S) (wS S m)) (wo (Nat.testBit set) col) h1 col = N2 at *
  have hKp : (0 : Rat) < ((K : Int) : Rat) := Rat.intCast_pos.mpr kp
  have ha0 : a ≠ 0 := fun z => by rw [z] at hal; exact absurd hal Rat.lt_irrefl
  have d1 : ((A : Int) : Rat) * a = N2 * ((K : Int) : Rat) := by
    rw [c1, Rat.div_def]
    have := Rat.inv_mul_cancel _ ha0
    grind
  have d2 : ((B : Int) : Rat) * a = N1 * ((K : Int) : Rat) := by
    rw [c2, Rat.div_def]
    have := Rat.inv_mul_cancel _ ha0
    grind
  have hBp : 0 < B := by
    have h3 : 0 < ((B : Int) : Rat) * a := by rw [d2]; exact Rat.mul_pos hN1 hKp
    have h4 : (0 : Rat) < ((B : Int) : Rat) := by
      by_cases q : (0 : Rat) < ((B : Int) : Rat)
      · exact q
      · have := Rat.mul_le_mul_of_nonneg_right (Rat.not_lt.mp q) (Rat.le_of_lt hal)
        rw [Rat.zero_mul] at this
        exact absurd h3 (Rat.not_lt.mpr this)
    exact Rat.intCast_pos.mp h4
  refine ⟨hBp, h1, h2, s1, s2, ?_⟩
  rw [ha, hN, hM]
  obtain ⟨b, rfl⟩ := Int.eq_ofNat_of_zero_le (show 0 ≤ B by omega)
  rw [Int.toNat_natCast, Rat.mkRat_eq_div]
  have hb : ((b : Nat) : Rat) ≠ 0 := by
    intro z
    have : (((b : Nat) : Int) : Rat) = 0 := z
    have := Rat.intCast_eq_zero_iff.mp this
    omega
  have d2' : ((b : Nat) : Rat) * a = N1 * ((K : Int) : Rat) := d2
  have k : (A : Rat) / (b : Rat) * (b : Rat) = (A : Rat) := by rw [Rat.div_def, Rat.mul_assoc, Rat.inv_mul_cancel _ hb, Rat.mul_one]
  generalize (A : Rat) / (b : Rat) = r at k ⊢
  have hK0 : ((K : Int) : Rat) ≠ 0 := fun z => by rw [z] at hKp; exact absurd hKp Rat.lt_irrefl
  generalize ((K : Int) : Rat) = k0 at *
  have k2 : k0 * (r * N1 - N2) = 0 := by grind
  rcases Rat.mul_eq_zero.mp k2 with z | z
  · exact absurd z hK0
  · grind
end VAL
