/-! ===== at the start ===== -/
def eA (a b : AV) : Bool := match a, b with
  | Sum.inl x, Sum.inl y => decide (x = y)
  | Sum.inr (Sum.inl x), Sum.inr (Sum.inl y) => decide (x = y)
  | Sum.inr (Sum.inr (Sum.inl x)), Sum.inr (Sum.inr (Sum.inl y)) => decide (x = y)
  | Sum.inr (Sum.inr (Sum.inr _)), Sum.inr (Sum.inr (Sum.inr _)) => true
  | _, _ => false
theorem eA_ok {a b : AV} (h : eA a b = true) : a = b := by
  match a, b, h with
  | Sum.inl x, Sum.inl y, h => exact congrArg _ (of_decide_eq_true h)
  | Sum.inr (Sum.inl x), Sum.inr (Sum.inl y), h => exact congrArg (fun z => Sum.inr (Sum.inl z)) (of_decide_eq_true h)
  | Sum.inr (Sum.inr (Sum.inl x)), Sum.inr (Sum.inr (Sum.inl y)), h => exact congrArg (fun z => Sum.inr (Sum.inr (Sum.inl z))) (of_decide_eq_true h)
  | Sum.inr (Sum.inr (Sum.inr _)), Sum.inr (Sum.inr (Sum.inr _)), _ => rfl
def eO (a b : Option AV) : Bool := match a, b with
  | some x, some y => eA x y
  | none, none => true
  | _, _ => false
theorem eO_ok {a b : Option AV} (h : eO a b = true) : a = b := by
  match a, b, h with
  | some x, some y, h => exact congrArg some (eA_ok h)
  | none, none, _ => rfl
def eL : List AV → List AV → Bool
  | [], [] => true
  | a :: s, b :: t => eA a b && eL s t
  | _, _ => false
theorem eL_ok : ∀ {s t : List AV}, eL s t = true → s = t
  | [], [], _ => rfl
  | a :: s, b :: t, h => by
    rw [eL, Bool.and_eq_true] at h
    rw [eA_ok h.1, eL_ok h.2]
  | [], _ :: _, h => by cases h
  | _ :: _, [], h => by cases h
def eH : AH → AH → Bool
  | [], [] => true
  | a :: s, b :: t => decide (a.1 = b.1) && (eL a.2 b.2 && eH s t)
  | _, _ => false
theorem eH_ok : ∀ {s t : AH}, eH s t = true → s = t
  | [], [], _ => rfl
  | (a1, a2) :: s, (b1, b2) :: t, h => by
    rw [eH, Bool.and_eq_true, Bool.and_eq_true] at h
    have h1 : a1 = b1 := of_decide_eq_true h.1
    have h2 : a2 = b2 := eL_ok h.2.1
    rw [h1, h2, eH_ok h.2.2]
  | [], _ :: _, h => by cases h
  | _ :: _, [], h => by cases h
def eX (x : Option RV) (h : AH) : Bool := match x with
  | some (none, h1) => eH h1 h
  | _ => false
theorem eX_ok {x : Option RV} {h : AH} (q : eX x h = true) : x = some (none, h) := by
  match x, q with
  | some (none, h1), q => rw [eH_ok (show eH h1 h = true from q)]
def S0 : SS := fun t a _ _ => match t, a with
  | 0, 8 => 1
  | 0, 9 => 2
  | 0, 10 => 1
  | 8, 1 => 1
  | _, _ => 0
theorem wf_S0 : WF S0 := ⟨by decide, fun m h => absurd h (Nat.not_lt_zero m), fun m h => absurd h (Nat.not_lt_zero m)⟩
def H4 : AH := [(4, [aR (some 1), aR (some 2), aR (some 3), aR (some 8), aR (some 9), aR (some 10), aI 0, aI 0, aI 1, aI 2, aI 1, aI 0, aI 0, aJ 0, aJ 0]), (12, List.replicate 16 (aR none)), (13, List.replicate 12 (aR none)), (2, [aR (some 4), aR (some 5), aR (some 6), aR (some 7)]), (11, List.replicate 30 (aJ 0)), (10, List.replicate 5 (aI 0)), (0, [aJ 0, aJ 1]), (0, [aJ 0, aJ 1]), (0, [aJ 0, aJ 1]), (10, List.replicate 7 (aI 0)), (10, List.replicate 200 (aI 0))]
def H5 : AH := [(5, [aI 0, aR (some 1), aI 1, aI 2, aI 0, aR (some 2), aR (some 3), aR (some 4), aJ 0, aR (some 5), aI 0, aR (some 6), aR (some 7), aR (some 8), aR (some 9), aR (some 10), aR (some 11), aJ 0, aJ 0, aJ 0, aJ 1, aR (some 12), aR (some 13), aR (some 14), aR (some 15), aR (some 16), aI 1, aJ 0, aI 0, aR (some 17)]), (10, List.replicate 7 (aI 0)), (10, List.replicate 12 (aI 0)), (10, List.replicate 12 (aI 0)), (11, List.replicate 288 (aJ 0)), (11, List.replicate 24 (aJ 0)), (10, List.replicate 16 (aI 0)), (10, List.replicate 16 (aI 0)), (10, List.replicate 16 (aI 0)), (10, List.replicate 80 (aI 0)), (10, List.replicate 400 (aI 0)), (10, List.replicate 16 (aI 0)), (11, List.replicate 25 (aJ 0)), (11, List.replicate 32 (aJ 0)), (11, List.replicate 5 (aJ 0)), (11, List.replicate 5 (aJ 0)), (10, List.replicate 5 (aI 0)), (10, List.replicate 200 (aI 0))]
theorem e_init4 : E mX4_init [aR (some 0)] [(4, dfl 4)] = some (none, H4) := X_iff.mpr ⟨200, eX_ok (by decide +kernel)⟩
theorem e_init5 : E mX5_init [aR (some 0)] [(5, dfl 5)] = some (none, H5) := X_iff.mpr ⟨200, eX_ok (by decide +kernel)⟩
theorem all_some {f : Nat → Option AV} {n : Nat} (h : ∀ k, k < n → (f k).isSome = true) : ∀ k, k < n → ∃ v, f k = some v := fun k hk => Option.isSome_iff_exists.mp (h k hk)
theorem all_eq {f g : Nat → Option AV} {n : Nat} (h : ∀ k, k < n → eO (f k) (g k) = true) : ∀ k, k < n → f k = g k := fun k hk => eO_ok (h k hk)
theorem all_eq2 {f g : Nat → Option AV} {n a : Nat} (h : ∀ k, k < n → a ≤ k → eO (f k) (g k) = true) : ∀ k, a ≤ k → k < n → f k = g k := fun k h1 hk => eO_ok (h k hk h1)
theorem gi_S0 : GI S0 H4 := by
  refine ⟨⟨eO_ok (by decide +kernel), eO_ok (by decide +kernel), eO_ok (by decide +kernel), eO_ok (by decide +kernel), eO_ok (by decide +kernel), eO_ok (by decide +kernel)⟩, all_eq2 (by decide +kernel), all_eq2 (by decide +kernel), by decide +kernel, all_eq (by decide +kernel), all_eq (by decide +kernel), all_eq (by decide +kernel), all_some (by decide +kernel), all_some (by decide +kernel)⟩
theorem rkf_H4 : RKF H4 := by
  refine ⟨⟨eO_ok (by decide +kernel), eO_ok (by decide +kernel), eO_ok (by decide +kernel), eO_ok (by decide +kernel), by decide +kernel, by decide +kernel⟩, ⟨fun _ _ => 0, ?_⟩, ⟨fun _ => 0, all_eq (by decide +kernel)⟩, ⟨aJ 0, aJ 1, eO_ok (by decide +kernel), eO_ok (by decide +kernel)⟩, ⟨aJ 0, aJ 1, eO_ok (by decide +kernel), eO_ok (by decide +kernel)⟩⟩
  have q : ∀ r, r < 5 → ∀ c, c < 6 → eO (rd H4 11 4 (r * 6 + c)) (some (aJ 0)) = true := by decide +kernel
  exact fun r c h1 h2 => eO_ok (q r h1 c h2)
theorem ci_S0 : CI S0 H4 := ⟨gi_S0, rkf_H4, fun _ => 0, fun _ => 0, fun _ => 0, fun m h => absurd h (Nat.not_lt_zero m), fun m h => absurd h (Nat.not_lt_zero m), fun _ _ => rfl, fun _ _ => rfl⟩
theorem rL_18 {a k : Nat} (h : k < rL a) : a < 18 := by
  by_cases c : a < 18
  · exact c
  · obtain ⟨b, rfl⟩ : ∃ b, a = b + 18 := ⟨a - 18, by omega⟩
    exact absurd h (Nat.not_lt_zero k)
theorem rV_L0 : ∀ a k v, rV S0 a k = some v → k < rL a := by
  intro a k v h
  unfold rV at h
  split at h
  · by_cases c : k < 30
    · exact c
    · obtain ⟨b, rfl⟩ : ∃ b, k = b + 30 := ⟨k - 30, by omega⟩
      cases h
  all_goals first | (split at h; (rename_i c; first | exact c | exact absurd c (Nat.not_lt_zero _) | exact absurd c.1 (Nat.not_lt_zero _)); cases h) | cases h
theorem ri_S0 : RI S0 H5 := by
  refine ⟨⟨?_, ?_⟩, 0, eO_ok (by decide +kernel), by decide, by decide⟩
  · have q : ∀ a, a < 18 → ∀ k, k < rL a → (rd H5 (rT a) a k).isSome = true := by decide +kernel
    intro a k hk
    exact Option.isSome_iff_exists.mp (q a (rL_18 hk) k hk)
  · have q : ∀ a, a < 18 → ∀ k, k < rL a → (match rV S0 a k with | none => true | some v => eO (rd H5 (rT a) a k) (some v)) = true := by decide +kernel
    intro a k v hv
    have hk := rV_L0 a k v hv
    have z := q a (rL_18 hk) k hk
    rw [hv] at z
    exact eO_ok z
