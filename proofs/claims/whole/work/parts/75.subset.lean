/-! ===== determinants by sets of columns ===== -/
def sgA (n σ c : Nat) : Int := if nP (fun d => Nat.testBit σ d && decide (c < d)) n % 2 = 1 then -1 else 1
def Dg (n : Nat) (T : Nat → Nat → Int) : Nat → Nat → Int
  | 0, _ => 1
  | j + 1, S => sumI (fun c => if Nat.testBit S c = true then sgA n (S - 2 ^ c) c * (Dg n T j (S - 2 ^ c) * T j c) else 0) n
def Dv (n : Nat) (T : Nat → Nat → Int) (S : Nat) : Int := Dg n T (nP (Nat.testBit S) n) S
def tm (n : Nat) (T : Nat → Nat → Int) (σ c : Nat) : Int := sgA n σ c * (Dv n T σ * T (nP (Nat.testBit σ) n) c)
def Qv (n : Nat) (T : Nat → Nat → Int) (σ c0 S : Nat) : Int := if S = 0 then 1 else sumI (fun c => if Nat.testBit S c = true ∧ (S - 2 ^ c < σ ∨ (S - 2 ^ c = σ ∧ c < c0)) then tm n T (S - 2 ^ c) c else 0) n
theorem sb_le : ∀ S, S < 32 → ∀ c, c < 5 → Nat.testBit S c = true → 2 ^ c ≤ S := by decide +kernel
theorem sbt_at : ∀ S, S < 32 → ∀ c, c < 5 → Nat.testBit S c = true → ∀ u, u < 5 → Nat.testBit S u = (Nat.testBit (S - 2 ^ c) u || u == c) := by decide +kernel
theorem sb_no : ∀ S, S < 32 → ∀ c, c < 5 → Nat.testBit S c = true → Nat.testBit (S - 2 ^ c) c = false := by decide +kernel
theorem sb_or : ∀ S, S < 32 → ∀ c, c < 5 → Nat.testBit S c = false → (S ||| 1 <<< c) = S + 2 ^ c ∧ Nat.testBit (S + 2 ^ c) c = true ∧ S + 2 ^ c < 32 := by decide +kernel
theorem nP_ge {P Q : Nat → Bool} : ∀ {n : Nat}, (∀ u, u < n → P u = Q u) → nP P n = nP Q n
  | 0, _ => rfl
  | n + 1, h => by rw [nP, nP, nP_ge (fun u hu => h u (by omega)), h n (by omega)]
theorem sb_nP {n S c : Nat} (hn : n ≤ 5) (hS : S < 32) (hc : c < n) (h : Nat.testBit S c = true) : nP (Nat.testBit S) n = nP (Nat.testBit (S - 2 ^ c)) n + 1 := by
  have h1 := sbt_at S hS c (by omega) h
  have e : nP (Nat.testBit S) n = nP (fun u => Nat.testBit (S - 2 ^ c) u || u == c) n := nP_ge fun u hu => h1 u (by omega)
  rw [e, nP_add (D := Nat.testBit (S - 2 ^ c)) (s := c) (sb_no S hS c (by omega) h) (fun _ => rfl), if_pos hc]
theorem sumI_upd {f g : Nat → Int} {k : Nat} : ∀ {n : Nat}, k < n → (∀ j, j < n → j ≠ k → g j = f j) → sumI g n = sumI f n + (g k - f k)
  | 0, h, _ => by omega
  | n + 1, h, e => by
    rw [sumI, sumI]
    by_cases c : k = n
    · subst c
      rw [sumI_congr (n := k) (fun j hj => e j (by omega) (by omega))]
      omega
    · rw [sumI_upd (f := f) (g := g) (n := n) (by omega) (fun j hj hk => e j (by omega) hk), e n (by omega) (Ne.symm c)]
      omega
section QV
variable {n : Nat} {T : Nat → Nat → Int}
theorem Qv_0 (S : Nat) : Qv n T 0 0 S = if S = 0 then 1 else 0 := by
  unfold Qv
  by_cases c : S = 0
  · rw [if_pos c, if_pos c]
  · rw [if_neg c, if_neg c]
    have e : sumI (fun c => if Nat.testBit S c = true ∧ (S - 2 ^ c < 0 ∨ (S - 2 ^ c = 0 ∧ c < 0)) then tm n T (S - 2 ^ c) c else 0) n = sumI (fun c => 0 * (0 : Int)) n := sumI_congr fun j hj => by rw [if_neg (by omega)]; rfl
    rw [e, sumI_mul (fun _ => (0 : Int)) 0 n, Int.zero_mul]
theorem Qv_full (hn : n ≤ 5) {σ : Nat} (hσ : σ < 2 ^ n) (h32 : σ < 32) : Qv n T σ 0 σ = Dv n T σ := by
  unfold Qv Dv
  by_cases c : σ = 0
  · subst c
    have e : nP (Nat.testBit 0) n = 0 := by
      have : nP (Nat.testBit 0) n = nP (fun _ => false) n := nP_ge fun u _ => Nat.zero_testBit u
      rw [this]
      clear this hn hσ h32
      induction n with
      | zero => rfl
      | succ n ih => rw [nP, ih]; rfl
    rw [if_pos rfl, e]
    rfl
  · rw [if_neg c]
    have hb : ∃ u, u < n ∧ Nat.testBit σ u = true := by
      rcases Nat.exists_testBit_of_ne_zero c with ⟨u, hu⟩
      refine ⟨u, ?_, hu⟩
      rcases Nat.lt_or_ge u n with q | q
      · exact q
      · have := Nat.testBit_lt_two_pow (Nat.lt_of_lt_of_le hσ (Nat.pow_le_pow_right (by decide) q))
        rw [this] at hu
        cases hu
    obtain ⟨u, hu, hbu⟩ := hb
    rw [sb_nP hn h32 hu hbu, Dg]
    refine sumI_congr fun j hj => ?_
    by_cases d : Nat.testBit σ j = true
    · have h1 := sb_le σ h32 j (by omega) d
      have h2 : 0 < 2 ^ j := Nat.pow_pos (by decide)
      rw [if_pos ⟨d, Or.inl (by omega)⟩, if_pos d]
      unfold tm Dv
      have e1 := sb_nP hn h32 hj d
      have e2 := sb_nP hn h32 hu hbu
      have e3 : nP (Nat.testBit (σ - 2 ^ j)) n = nP (Nat.testBit (σ - 2 ^ u)) n := by omega
      rw [e3]
    · rw [if_neg (fun z => d z.1), if_neg d]
theorem Qv_in (hn : n ≤ 5) {σ c0 S : Nat} (hS : S < 32) (hc : c0 < n) (hb : Nat.testBit σ c0 = true) : Qv n T σ (c0 + 1) S = Qv n T σ c0 S := by
  unfold Qv
  by_cases c : S = 0
  · rw [if_pos c, if_pos c]
  · rw [if_neg c, if_neg c]
    refine sumI_congr fun j hj => ?_
    by_cases d : Nat.testBit S j = true ∧ (S - 2 ^ j < σ ∨ (S - 2 ^ j = σ ∧ j < c0))
    · rw [if_pos d, if_pos ⟨d.1, by omega⟩]
    · rw [if_neg d, if_neg]
      rintro ⟨d1, d2⟩
      refine d ⟨d1, ?_⟩
      rcases d2 with d2 | ⟨d2, d3⟩
      · exact Or.inl d2
      · by_cases e : j = c0
        · subst e
          have := sb_no S hS j (by omega) d1
          rw [d2, hb] at this
          cases this
        · exact Or.inr ⟨d2, by omega⟩
theorem Qv_ne {σ c0 S : Nat} (hS : S < 32) (hc : c0 < n) (hn : n ≤ 5) (hne : S ≠ σ + 2 ^ c0) : Qv n T σ (c0 + 1) S = Qv n T σ c0 S := by
  unfold Qv
  by_cases c : S = 0
  · rw [if_pos c, if_pos c]
  · rw [if_neg c, if_neg c]
    refine sumI_congr fun j hj => ?_
    by_cases d : Nat.testBit S j = true ∧ (S - 2 ^ j < σ ∨ (S - 2 ^ j = σ ∧ j < c0))
    · rw [if_pos d, if_pos ⟨d.1, by omega⟩]
    · rw [if_neg d, if_neg]
      rintro ⟨d1, d2⟩
      refine d ⟨d1, ?_⟩
      rcases d2 with d2 | ⟨d2, d3⟩
      · exact Or.inl d2
      · by_cases e : j = c0
        · subst e
          have := sb_le S hS j (by omega) d1
          omega
        · exact Or.inr ⟨d2, by omega⟩
theorem Qv_at (hn : n ≤ 5) {σ c0 : Nat} (hσ : σ < 32) (hc : c0 < n) (hb : Nat.testBit σ c0 = false) : Qv n T σ (c0 + 1) (σ + 2 ^ c0) = Qv n T σ c0 (σ + 2 ^ c0) + tm n T σ c0 := by
  obtain ⟨h1, h2, h3⟩ := sb_or σ hσ c0 (by omega) hb
  have h4 : 0 < 2 ^ c0 := Nat.pow_pos (by decide)
  unfold Qv
  rw [if_neg (by omega), if_neg (by omega)]
  rw [sumI_upd (f := fun c => if Nat.testBit (σ + 2 ^ c0) c = true ∧ (σ + 2 ^ c0 - 2 ^ c < σ ∨ (σ + 2 ^ c0 - 2 ^ c = σ ∧ c < c0)) then tm n T (σ + 2 ^ c0 - 2 ^ c) c else 0) (k := c0) hc (fun j hj hk => ?_)]
  · have e : σ + 2 ^ c0 - 2 ^ c0 = σ := by omega
    rw [e]
    rw [if_pos ⟨h2, Or.inr ⟨rfl, by omega⟩⟩, if_neg (fun z => by omega)]
    omega
  · by_cases d : Nat.testBit (σ + 2 ^ c0) j = true ∧ (σ + 2 ^ c0 - 2 ^ j < σ ∨ (σ + 2 ^ c0 - 2 ^ j = σ ∧ j < c0))
    · rw [if_pos d, if_pos ⟨d.1, by omega⟩]
    · rw [if_neg d, if_neg (fun z => d ⟨z.1, by omega⟩)]
theorem Qv_end {σ S : Nat} : Qv n T σ n S = Qv n T (σ + 1) 0 S := by
  unfold Qv
  by_cases c : S = 0
  · rw [if_pos c, if_pos c]
  · rw [if_neg c, if_neg c]
    refine sumI_congr fun j hj => ?_
    by_cases d : Nat.testBit S j = true ∧ (S - 2 ^ j < σ ∨ (S - 2 ^ j = σ ∧ j < n))
    · rw [if_pos d, if_pos ⟨d.1, by omega⟩]
    · rw [if_neg d, if_neg (fun z => d ⟨z.1, by omega⟩)]
theorem Qv_skip (hn : n ≤ 5) {σ S : Nat} (hS : S < 32) (hf : ∀ u, u < n → Nat.testBit σ u = true) : ∀ c0, c0 ≤ n → Qv n T σ c0 S = Qv n T σ 0 S
  | 0, _ => rfl
  | c0 + 1, h => by rw [Qv_in hn hS (by omega) (hf c0 (by omega)), Qv_skip hn hS hf c0 (by omega)]
/-- not too large -/
theorem Dg_b (hn : n ≤ 5) {s : Nat} (hT : ∀ r c, r < n → c < n → (c ≠ s → -80 ≤ T r c ∧ T r c ≤ 80) ∧ -4000 ≤ T r c ∧ T r c ≤ 4000) : ∀ (j S : Nat), j ≤ n → S < 32 → (Nat.testBit S s = false → -(400 ^ j) ≤ Dg n T j S ∧ Dg n T j S ≤ 400 ^ j) ∧ -(400 ^ j * 50) ≤ Dg n T j S ∧ Dg n T j S ≤ 400 ^ j * 50
  | 0, S, _, _ => ⟨fun _ => by rw [Dg]; decide, by rw [Dg]; decide⟩
  | j + 1, S, hj, hS => by
    have ih := fun S' (hS' : S' < 32) => Dg_b hn hT j S' (by omega) hS'
    rw [Dg]
    have hp : 0 ≤ (400 : Int) ^ j := Int.pow_nonneg (by decide)
    have sgn : ∀ σ c (x X : Int), -X ≤ x → x ≤ X → -X ≤ sgA n σ c * x ∧ sgA n σ c * x ≤ X := fun σ c x X h1 h2 => by
      unfold sgA
      split <;> omega
    have ml : ∀ x y X Y : Int, 0 ≤ X → 0 ≤ Y → -X ≤ x → x ≤ X → -Y ≤ y → y ≤ Y → -(X * Y) ≤ x * y ∧ x * y ≤ X * Y := fun x y X Y hX hY h1 h2 h3 h4 => by
      have a1 : x.natAbs ≤ X.natAbs := by omega
      have a2 : y.natAbs ≤ Y.natAbs := by omega
      have a3 := Nat.mul_le_mul a1 a2
      rw [← Int.natAbs_mul, ← Int.natAbs_mul] at a3
      have a4 := Int.mul_nonneg hX hY
      omega
    have hsub : ∀ c, S - 2 ^ c < 32 := fun c => Nat.lt_of_le_of_lt (Nat.sub_le _ _) hS
    constructor
    · intro hs
      have hb : ∀ c, c < n → -(400 ^ j * 80) ≤ (if Nat.testBit S c = true then sgA n (S - 2 ^ c) c * (Dg n T j (S - 2 ^ c) * T j c) else 0) ∧ (if Nat.testBit S c = true then sgA n (S - 2 ^ c) c * (Dg n T j (S - 2 ^ c) * T j c) else 0) ≤ 400 ^ j * 80 := by
        intro c hc
        by_cases d : Nat.testBit S c = true
        · rw [if_pos d]
          have hcs : c ≠ s := fun e => by subst e; rw [hs] at d; cases d
          have hS2 : Nat.testBit (S - 2 ^ c) s = false := by
            rcases Nat.lt_or_ge s 5 with q | q
            · have := sbt_at S hS c (by omega) d s q
              rw [hs] at this
              cases h : Nat.testBit (S - 2 ^ c) s with
              | false => rfl
              | true => rw [h] at this; simp at this
            · exact Nat.testBit_lt_two_pow (Nat.lt_of_lt_of_le (show S - 2 ^ c < 2 ^ 5 from hsub c) (Nat.pow_le_pow_right (by decide) q))
          have i1 := (ih (S - 2 ^ c) (hsub c)).1 hS2
          have i2 := (hT j c (by omega) hc).1 hcs
          have i3 := ml _ _ _ _ hp (by decide) i1.1 i1.2 i2.1 i2.2
          exact sgn _ _ _ _ i3.1 i3.2
        · rw [if_neg d]
          omega
      have := sumI_b (n := n) hb
      rw [Int.pow_succ]
      have hn1 : (400 ^ j * 80) * (n : Int) ≤ (400 ^ j * 80) * 5 := Int.mul_le_mul_of_nonneg_left (by omega) (by omega)
      have hn2 : -(400 ^ j * 80) * (n : Int) = -((400 ^ j * 80) * (n : Int)) := by rw [Int.neg_mul]
      omega
    · have hb : ∀ c, c < n → -(400 ^ j * 4000) ≤ (if Nat.testBit S c = true then sgA n (S - 2 ^ c) c * (Dg n T j (S - 2 ^ c) * T j c) else 0) ∧ (if Nat.testBit S c = true then sgA n (S - 2 ^ c) c * (Dg n T j (S - 2 ^ c) * T j c) else 0) ≤ 400 ^ j * 4000 := by
        intro c hc
        by_cases d : Nat.testBit S c = true
        · rw [if_pos d]
          by_cases hcs : c = s
          · subst hcs
            have i1 := (ih (S - 2 ^ c) (hsub c)).1 (sb_no S hS c (by omega) d)
            have i2 := (hT j c (by omega) hc).2
            have i3 := ml _ _ _ _ hp (by decide) i1.1 i1.2 i2.1 i2.2
            exact sgn _ _ _ _ i3.1 i3.2
          · have i1 := (ih (S - 2 ^ c) (hsub c)).2
            have i2 := (hT j c (by omega) hc).1 hcs
            have i3 := ml _ _ _ _ (show 0 ≤ (400 : Int) ^ j * 50 by omega) (by decide) i1.1 i1.2 i2.1 i2.2
            have e : (400 : Int) ^ j * 50 * 80 = 400 ^ j * 4000 := by omega
            rw [e] at i3
            exact sgn _ _ _ _ i3.1 i3.2
        · rw [if_neg d]
          omega
      have := sumI_b (n := n) hb
      rw [Int.pow_succ]
      have hn1 : (400 ^ j * 4000) * (n : Int) ≤ (400 ^ j * 4000) * 5 := Int.mul_le_mul_of_nonneg_left (by omega) (by omega)
      have hn2 : -(400 ^ j * 4000) * (n : Int) = -((400 ^ j * 4000) * (n : Int)) := by rw [Int.neg_mul]
      omega
end QV
-- sums that wrap around
theorem w64_k (x k : Int) : w64 (x + 18446744073709551616 * k) = w64 x := by unfold w64; omega
theorem w64_c (x : Int) : ∃ k : Int, w64 x = x + 18446744073709551616 * k := ⟨-((x + 9223372036854775808) / 18446744073709551616), by unfold w64; omega⟩
theorem w64_mul (x y : Int) : w64 (w64 x * y) = w64 (x * y) := by
  obtain ⟨k, hk⟩ := w64_c x
  rw [hk, show (x + 18446744073709551616 * k) * y = x * y + 18446744073709551616 * (k * y) by grind, w64_k]
theorem w64_add (x y : Int) : w64 (w64 x + w64 y) = w64 (x + y) := by
  obtain ⟨k, hk⟩ := w64_c x
  obtain ⟨l, hl⟩ := w64_c y
  rw [hk, hl, show x + 18446744073709551616 * k + (y + 18446744073709551616 * l) = x + y + 18446744073709551616 * (k + l) by grind, w64_k]
theorem w64_neg (x : Int) : w64 (-(w64 x)) = w64 (-x) := by
  obtain ⟨k, hk⟩ := w64_c x
  rw [hk, show -(x + 18446744073709551616 * k) = -x + 18446744073709551616 * (-k) by grind, w64_k]
