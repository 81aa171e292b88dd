/-! ===== the reference: its heap, in numbers ===== -/
def rF (S : SS) (k : Nat) : Option AV := match k with
  | 0 => some (aI (S 0 12 0 0))
  | 1 => some (aR (some 1))
  | 2 => some (aI (S 0 8 0 0))
  | 3 => some (aI (S 0 9 0 0))
  | 4 => some (aI (S 0 7 0 0))
  | 5 => some (aR (some 2))
  | 6 => some (aR (some 3))
  | 7 => some (aR (some 4))
  | 8 => some (aJ (S 0 13 0 0))
  | 9 => some (aR (some 5))
  | 10 => some (aI (S 0 6 0 0))
  | 11 => some (aR (some 6))
  | 12 => some (aR (some 7))
  | 13 => some (aR (some 8))
  | 14 => some (aR (some 9))
  | 15 => some (aR (some 10))
  | 16 => some (aR (some 11))
  | 19 => some (aJ (S 8 0 0 0))
  | 20 => some (aJ (S 8 1 0 0))
  | 21 => some (aR (some 12))
  | 22 => some (aR (some 13))
  | 23 => some (aR (some 14))
  | 24 => some (aR (some 15))
  | 25 => some (aR (some 16))
  | 26 => some (aI (S 0 10 0 0))
  | 27 => some (aJ (S 0 14 0 0))
  | 29 => some (aR (some 17))
  | _ => none
def rT (a : Nat) : Nat := match a with
  | 0 => 5
  | 4 => 11
  | 5 => 11
  | 12 => 11
  | 13 => 11
  | 14 => 11
  | 15 => 11
  | _ => 10
def rL (a : Nat) : Nat := match a with
  | 0 => 30
  | 1 => 7
  | 2 => 12
  | 3 => 12
  | 4 => 288
  | 5 => 24
  | 6 => 16
  | 7 => 16
  | 8 => 16
  | 9 => 80
  | 10 => 400
  | 11 => 16
  | 12 => 25
  | 13 => 32
  | 14 => 5
  | 15 => 5
  | 16 => 5
  | 17 => 200
  | _ => 0
/-- what the reference holds at a place, where it matters -/
def rV (S : SS) (a k : Nat) : Option AV := match a with
  | 0 => rF S k
  | 1 => if k < 7 then some (aI (S 6 k 0 0)) else none
  | 2 => if k < sS S then some (aI (S 4 k 0 0)) else none
  | 3 => if k < sS S then some (aI (if S 4 k 2 0 = 0 then S 4 k 1 0 else -1)) else none
  | 4 => if k / 24 < sS S ∧ k % 24 < (S 4 (k / 24) 1 0).toNat then some (aJ (S 5 (k / 24) (k % 24) 0)) else none
  | 6 => if k < mS S then some (aI (S 1 k 0 0)) else none
  | 7 => if k < mS S then some (aI (S 1 k 1 0)) else none
  | 8 => if k < mS S then some (aI (S 1 k 6 0)) else none
  | 9 => if k / 5 < mS S ∧ k % 5 < nS S (k / 5) then some (aI (S 2 (k / 5) (k % 5) 0)) else none
  | 10 => if k / 25 < mS S ∧ k % 25 / 5 < nS S (k / 25) then some (aI (if k % 5 < nS S (k / 25) then S 3 (k / 25) (k % 25 / 5) (k % 5) else 0)) else none
  | 11 => if k < mS S then some (aI (S 1 k 7 0)) else none
  | 17 => if k < 200 then some (aI (S 7 k 0 0)) else none
  | _ => none
def EX (h : AH) : Prop := ∀ a k, k < rL a → ∃ v, rd h (rT a) a k = some v
def RVs (S : SS) (h : AH) : Prop := ∀ a k v, rV S a k = some v → rd h (rT a) a k = some v
def RN (S : SS) (h : AH) : Prop := ∃ r : Int, rd h 5 0 28 = some (aI r) ∧ 0 ≤ r ∧ S 0 11 0 0 = if r < 200 then r else 200
def RB0 (S : SS) (h : AH) : Prop := EX h ∧ RVs S h
def RI (S : SS) (h : AH) : Prop := RB0 S h ∧ RN S h
theorem EX.put {h : AH} (H : EX h) (t a k : Nat) (v : AV) : EX (wr h t a k v) := fun a' k' hk => by
  obtain ⟨w, hw⟩ := H a' k' hk
  by_cases c : rT a' = t ∧ a' = a ∧ k' = k
  · obtain ⟨c1, c2, c3⟩ := c
    subst c1 c2 c3
    exact ⟨v, rd_wr hw⟩
  · exact ⟨w, by rw [rd_wn (by omega)]; exact hw⟩
/-- one write -/
theorem RB0.put {S S' : SS} {h : AH} (H : RB0 S h) (a0 k0 : Nat) (v0 : AV) (hl : k0 < rL a0) (h1 : ∀ a, a ≠ a0 → ∀ k, rV S' a k = rV S a k) (h2 : ∀ k, k ≠ k0 → ∀ v, rV S' a0 k = some v → rV S a0 k = some v) (h3 : ∀ v, rV S' a0 k0 = some v → v = v0) : RB0 S' (wr h (rT a0) a0 k0 v0) := by
  refine ⟨H.1.put _ _ _ _, fun a k v q => ?_⟩
  by_cases e : a = a0
  · subst e
    by_cases e2 : k = k0
    · subst e2
      obtain ⟨w, hw⟩ := H.1 a k hl
      rw [h3 v q]
      exact rd_wr hw
    · rw [rd_wn (Or.inr (Or.inr e2))]
      exact H.2 a k v (h2 k e2 v q)
  · rw [rd_wn (Or.inr (Or.inl e))]
    exact H.2 a k v (by rw [← h1 a e k]; exact q)
/-- a write to a place that does not matter -/
theorem RB0.wn {S : SS} {h : AH} (H : RB0 S h) (a0 k0 : Nat) (v0 : AV) (h0 : rV S a0 k0 = none) : RB0 S (wr h (rT a0) a0 k0 v0) := by
  refine ⟨H.1.put _ _ _ _, fun a k v q => ?_⟩
  by_cases e : a = a0 ∧ k = k0
  · obtain ⟨e1, e2⟩ := e
    subst e1 e2
    rw [h0] at q
    cases q
  · rw [rd_wn (by omega)]
    exact H.2 a k v q
theorem RN.wn {S S' : SS} {h : AH} (H : RN S h) {t a k : Nat} {v : AV} (h1 : t ≠ 5 ∨ a ≠ 0 ∨ k ≠ 28) (h2 : S' 0 11 0 0 = S 0 11 0 0) : RN S' (wr h t a k v) := by
  obtain ⟨r, r1, r2, r3⟩ := H
  exact ⟨r, by rw [rd_wn (by omega)]; exact r1, r2, by rw [h2]; exact r3⟩
theorem RB0.f0 {S : SS} {h : AH} (H : RB0 S h) (v : Int) : RB0 (ups S 0 12 0 0 v) (wr h 5 0 0 (aI v)) := by
  refine H.put 0 0 (aI v) (by decide) (fun a e k => ?_) (fun k e w q => ?_) (fun w q => ?_)
  · match a with
    | 0 => exact absurd rfl e
    | 1 => rfl
    | 2 => rfl
    | 3 => rfl
    | 4 => rfl
    | 5 => rfl
    | 6 => rfl
    | 7 => rfl
    | 8 => rfl
    | 9 => rfl
    | 10 => rfl
    | 11 => rfl
    | 12 => rfl
    | 13 => rfl
    | 14 => rfl
    | 15 => rfl
    | 16 => rfl
    | 17 => rfl
    | _ + 18 => rfl
  · have e2 : rV (ups S 0 12 0 0 v) 0 k = rV S 0 k := by
      match k with
      | 0 => exact absurd rfl e
      | 1 => rfl
      | 2 => rfl
      | 3 => rfl
      | 4 => rfl
      | 5 => rfl
      | 6 => rfl
      | 7 => rfl
      | 8 => rfl
      | 9 => rfl
      | 10 => rfl
      | 11 => rfl
      | 12 => rfl
      | 13 => rfl
      | 14 => rfl
      | 15 => rfl
      | 16 => rfl
      | 17 => rfl
      | 18 => rfl
      | 19 => rfl
      | 20 => rfl
      | 21 => rfl
      | 22 => rfl
      | 23 => rfl
      | 24 => rfl
      | 25 => rfl
      | 26 => rfl
      | 27 => rfl
      | 28 => rfl
      | 29 => rfl
      | _ + 30 => rfl
    rw [← e2]
    exact q
  · exact (Option.some.inj q).symm
theorem RB0.f2 {S : SS} {h : AH} (H : RB0 S h) (v : Int) : RB0 (ups S 0 8 0 0 v) (wr h 5 0 2 (aI v)) := by
  refine H.put 0 2 (aI v) (by decide) (fun a e k => ?_) (fun k e w q => ?_) (fun w q => ?_)
  · match a with
    | 0 => exact absurd rfl e
    | 1 => rfl
    | 2 => rfl
    | 3 => rfl
    | 4 => rfl
    | 5 => rfl
    | 6 => rfl
    | 7 => rfl
    | 8 => rfl
    | 9 => rfl
    | 10 => rfl
    | 11 => rfl
    | 12 => rfl
    | 13 => rfl
    | 14 => rfl
    | 15 => rfl
    | 16 => rfl
    | 17 => rfl
    | _ + 18 => rfl
  · have e2 : rV (ups S 0 8 0 0 v) 0 k = rV S 0 k := by
      match k with
      | 0 => rfl
      | 1 => rfl
      | 2 => exact absurd rfl e
      | 3 => rfl
      | 4 => rfl
      | 5 => rfl
      | 6 => rfl
      | 7 => rfl
      | 8 => rfl
      | 9 => rfl
      | 10 => rfl
      | 11 => rfl
      | 12 => rfl
      | 13 => rfl
      | 14 => rfl
      | 15 => rfl
      | 16 => rfl
      | 17 => rfl
      | 18 => rfl
      | 19 => rfl
      | 20 => rfl
      | 21 => rfl
      | 22 => rfl
      | 23 => rfl
      | 24 => rfl
      | 25 => rfl
      | 26 => rfl
      | 27 => rfl
      | 28 => rfl
      | 29 => rfl
      | _ + 30 => rfl
    rw [← e2]
    exact q
  · exact (Option.some.inj q).symm
theorem RB0.f3 {S : SS} {h : AH} (H : RB0 S h) (v : Int) : RB0 (ups S 0 9 0 0 v) (wr h 5 0 3 (aI v)) := by
  refine H.put 0 3 (aI v) (by decide) (fun a e k => ?_) (fun k e w q => ?_) (fun w q => ?_)
  · match a with
    | 0 => exact absurd rfl e
    | 1 => rfl
    | 2 => rfl
    | 3 => rfl
    | 4 => rfl
    | 5 => rfl
    | 6 => rfl
    | 7 => rfl
    | 8 => rfl
    | 9 => rfl
    | 10 => rfl
    | 11 => rfl
    | 12 => rfl
    | 13 => rfl
    | 14 => rfl
    | 15 => rfl
    | 16 => rfl
    | 17 => rfl
    | _ + 18 => rfl
  · have e2 : rV (ups S 0 9 0 0 v) 0 k = rV S 0 k := by
      match k with
      | 0 => rfl
      | 1 => rfl
      | 2 => rfl
      | 3 => exact absurd rfl e
      | 4 => rfl
      | 5 => rfl
      | 6 => rfl
      | 7 => rfl
      | 8 => rfl
      | 9 => rfl
      | 10 => rfl
      | 11 => rfl
      | 12 => rfl
      | 13 => rfl
      | 14 => rfl
      | 15 => rfl
      | 16 => rfl
      | 17 => rfl
      | 18 => rfl
      | 19 => rfl
      | 20 => rfl
      | 21 => rfl
      | 22 => rfl
      | 23 => rfl
      | 24 => rfl
      | 25 => rfl
      | 26 => rfl
      | 27 => rfl
      | 28 => rfl
      | 29 => rfl
      | _ + 30 => rfl
    rw [← e2]
    exact q
  · exact (Option.some.inj q).symm
theorem RB0.f8 {S : SS} {h : AH} (H : RB0 S h) (v : Int) : RB0 (ups S 0 13 0 0 v) (wr h 5 0 8 (aJ v)) := by
  refine H.put 0 8 (aJ v) (by decide) (fun a e k => ?_) (fun k e w q => ?_) (fun w q => ?_)
  · match a with
    | 0 => exact absurd rfl e
    | 1 => rfl
    | 2 => rfl
    | 3 => rfl
    | 4 => rfl
    | 5 => rfl
    | 6 => rfl
    | 7 => rfl
    | 8 => rfl
    | 9 => rfl
    | 10 => rfl
    | 11 => rfl
    | 12 => rfl
    | 13 => rfl
    | 14 => rfl
    | 15 => rfl
    | 16 => rfl
    | 17 => rfl
    | _ + 18 => rfl
  · have e2 : rV (ups S 0 13 0 0 v) 0 k = rV S 0 k := by
      match k with
      | 0 => rfl
      | 1 => rfl
      | 2 => rfl
      | 3 => rfl
      | 4 => rfl
      | 5 => rfl
      | 6 => rfl
      | 7 => rfl
      | 8 => exact absurd rfl e
      | 9 => rfl
      | 10 => rfl
      | 11 => rfl
      | 12 => rfl
      | 13 => rfl
      | 14 => rfl
      | 15 => rfl
      | 16 => rfl
      | 17 => rfl
      | 18 => rfl
      | 19 => rfl
      | 20 => rfl
      | 21 => rfl
      | 22 => rfl
      | 23 => rfl
      | 24 => rfl
      | 25 => rfl
      | 26 => rfl
      | 27 => rfl
      | 28 => rfl
      | 29 => rfl
      | _ + 30 => rfl
    rw [← e2]
    exact q
  · exact (Option.some.inj q).symm
theorem RB0.f26 {S : SS} {h : AH} (H : RB0 S h) (v : Int) : RB0 (ups S 0 10 0 0 v) (wr h 5 0 26 (aI v)) := by
  refine H.put 0 26 (aI v) (by decide) (fun a e k => ?_) (fun k e w q => ?_) (fun w q => ?_)
  · match a with
    | 0 => exact absurd rfl e
    | 1 => rfl
    | 2 => rfl
    | 3 => rfl
    | 4 => rfl
    | 5 => rfl
    | 6 => rfl
    | 7 => rfl
    | 8 => rfl
    | 9 => rfl
    | 10 => rfl
    | 11 => rfl
    | 12 => rfl
    | 13 => rfl
    | 14 => rfl
    | 15 => rfl
    | 16 => rfl
    | 17 => rfl
    | _ + 18 => rfl
  · have e2 : rV (ups S 0 10 0 0 v) 0 k = rV S 0 k := by
      match k with
      | 0 => rfl
      | 1 => rfl
      | 2 => rfl
      | 3 => rfl
      | 4 => rfl
      | 5 => rfl
      | 6 => rfl
      | 7 => rfl
      | 8 => rfl
      | 9 => rfl
      | 10 => rfl
      | 11 => rfl
      | 12 => rfl
      | 13 => rfl
      | 14 => rfl
      | 15 => rfl
      | 16 => rfl
      | 17 => rfl
      | 18 => rfl
      | 19 => rfl
      | 20 => rfl
      | 21 => rfl
      | 22 => rfl
      | 23 => rfl
      | 24 => rfl
      | 25 => rfl
      | 26 => exact absurd rfl e
      | 27 => rfl
      | 28 => rfl
      | 29 => rfl
      | _ + 30 => rfl
    rw [← e2]
    exact q
  · exact (Option.some.inj q).symm
theorem RB0.f27 {S : SS} {h : AH} (H : RB0 S h) (v : Int) : RB0 (ups S 0 14 0 0 v) (wr h 5 0 27 (aJ v)) := by
  refine H.put 0 27 (aJ v) (by decide) (fun a e k => ?_) (fun k e w q => ?_) (fun w q => ?_)
  · match a with
    | 0 => exact absurd rfl e
    | 1 => rfl
    | 2 => rfl
    | 3 => rfl
    | 4 => rfl
    | 5 => rfl
    | 6 => rfl
    | 7 => rfl
    | 8 => rfl
    | 9 => rfl
    | 10 => rfl
    | 11 => rfl
    | 12 => rfl
    | 13 => rfl
    | 14 => rfl
    | 15 => rfl
    | 16 => rfl
    | 17 => rfl
    | _ + 18 => rfl
  · have e2 : rV (ups S 0 14 0 0 v) 0 k = rV S 0 k := by
      match k with
      | 0 => rfl
      | 1 => rfl
      | 2 => rfl
      | 3 => rfl
      | 4 => rfl
      | 5 => rfl
      | 6 => rfl
      | 7 => rfl
      | 8 => rfl
      | 9 => rfl
      | 10 => rfl
      | 11 => rfl
      | 12 => rfl
      | 13 => rfl
      | 14 => rfl
      | 15 => rfl
      | 16 => rfl
      | 17 => rfl
      | 18 => rfl
      | 19 => rfl
      | 20 => rfl
      | 21 => rfl
      | 22 => rfl
      | 23 => rfl
      | 24 => rfl
      | 25 => rfl
      | 26 => rfl
      | 27 => exact absurd rfl e
      | 28 => rfl
      | 29 => rfl
      | _ + 30 => rfl
    rw [← e2]
    exact q
  · exact (Option.some.inj q).symm
theorem RB0.f19 {S : SS} {h : AH} (H : RB0 S h) (v : Int) : RB0 (ups S 8 0 0 0 v) (wr h 5 0 19 (aJ v)) := by
  refine H.put 0 19 (aJ v) (by decide) (fun a e k => ?_) (fun k e w q => ?_) (fun w q => ?_)
  · match a with
    | 0 => exact absurd rfl e
    | 1 => rfl
    | 2 => rfl
    | 3 => rfl
    | 4 => rfl
    | 5 => rfl
    | 6 => rfl
    | 7 => rfl
    | 8 => rfl
    | 9 => rfl
    | 10 => rfl
    | 11 => rfl
    | 12 => rfl
    | 13 => rfl
    | 14 => rfl
    | 15 => rfl
    | 16 => rfl
    | 17 => rfl
    | _ + 18 => rfl
  · have e2 : rV (ups S 8 0 0 0 v) 0 k = rV S 0 k := by
      match k with
      | 0 => rfl
      | 1 => rfl
      | 2 => rfl
      | 3 => rfl
      | 4 => rfl
      | 5 => rfl
      | 6 => rfl
      | 7 => rfl
      | 8 => rfl
      | 9 => rfl
      | 10 => rfl
      | 11 => rfl
      | 12 => rfl
      | 13 => rfl
      | 14 => rfl
      | 15 => rfl
      | 16 => rfl
      | 17 => rfl
      | 18 => rfl
      | 19 => exact absurd rfl e
      | 20 => rfl
      | 21 => rfl
      | 22 => rfl
      | 23 => rfl
      | 24 => rfl
      | 25 => rfl
      | 26 => rfl
      | 27 => rfl
      | 28 => rfl
      | 29 => rfl
      | _ + 30 => rfl
    rw [← e2]
    exact q
  · exact (Option.some.inj q).symm
theorem RB0.f20 {S : SS} {h : AH} (H : RB0 S h) (v : Int) : RB0 (ups S 8 1 0 0 v) (wr h 5 0 20 (aJ v)) := by
  refine H.put 0 20 (aJ v) (by decide) (fun a e k => ?_) (fun k e w q => ?_) (fun w q => ?_)
  · match a with
    | 0 => exact absurd rfl e
    | 1 => rfl
    | 2 => rfl
    | 3 => rfl
    | 4 => rfl
    | 5 => rfl
    | 6 => rfl
    | 7 => rfl
    | 8 => rfl
    | 9 => rfl
    | 10 => rfl
    | 11 => rfl
    | 12 => rfl
    | 13 => rfl
    | 14 => rfl
    | 15 => rfl
    | 16 => rfl
    | 17 => rfl
    | _ + 18 => rfl
  · have e2 : rV (ups S 8 1 0 0 v) 0 k = rV S 0 k := by
      match k with
      | 0 => rfl
      | 1 => rfl
      | 2 => rfl
      | 3 => rfl
      | 4 => rfl
      | 5 => rfl
      | 6 => rfl
      | 7 => rfl
      | 8 => rfl
      | 9 => rfl
      | 10 => rfl
      | 11 => rfl
      | 12 => rfl
      | 13 => rfl
      | 14 => rfl
      | 15 => rfl
      | 16 => rfl
      | 17 => rfl
      | 18 => rfl
      | 19 => rfl
      | 20 => exact absurd rfl e
      | 21 => rfl
      | 22 => rfl
      | 23 => rfl
      | 24 => rfl
      | 25 => rfl
      | 26 => rfl
      | 27 => rfl
      | 28 => rfl
      | 29 => rfl
      | _ + 30 => rfl
    rw [← e2]
    exact q
  · exact (Option.some.inj q).symm
theorem RB0.a1 {S : SS} {h : AH} (H : RB0 S h) (k0 : Nat) (hk : k0 < 7) (v : Int) : RB0 (ups S 6 k0 0 0 v) (wr h 10 1 k0 (aI v)) := by
  refine H.put 1 k0 (aI v) hk (fun a e k => ?_) (fun k e w q => ?_) (fun w q => ?_)
  · match a with
    | 0 => rfl
    | 1 => exact absurd rfl e
    | 2 => rfl
    | 3 => rfl
    | 4 => rfl
    | 5 => rfl
    | 6 => rfl
    | 7 => rfl
    | 8 => rfl
    | 9 => rfl
    | 10 => rfl
    | 11 => rfl
    | 12 => rfl
    | 13 => rfl
    | 14 => rfl
    | 15 => rfl
    | 16 => rfl
    | 17 => rfl
    | _ + 18 => rfl
  · have e2 : rV (ups S 6 k0 0 0 v) 1 k = rV S 1 k := by
      show (if k < 7 then some (aI (ups S 6 k0 0 0 v 6 k 0 0)) else none) = _
      rw [ups_a e]
      rfl
    rw [← e2]
    exact q
  · have e3 : rV (ups S 6 k0 0 0 v) 1 k0 = if k0 < 7 then some (aI v) else none := by
      show (if k0 < 7 then some (aI (ups S 6 k0 0 0 v 6 k0 0 0)) else none) = _
      rw [ups_s]
    rw [e3] at q
    by_cases c : k0 < 7
    · rw [if_pos c] at q
      exact (Option.some.inj q).symm
    · rw [if_neg c] at q
      cases q
theorem RB0.a8 {S : SS} {h : AH} (H : RB0 S h) (k0 : Nat) (hk : k0 < 16) (v : Int) : RB0 (ups S 1 k0 6 0 v) (wr h 10 8 k0 (aI v)) := by
  have en : ∀ x, nS (ups S 1 k0 6 0 v) x = nS S x := fun x => by unfold nS; rw [ups_b (by decide)]
  refine H.put 8 k0 (aI v) hk (fun a e k => ?_) (fun k e w q => ?_) (fun w q => ?_)
  · match a with
    | 0 => rfl
    | 1 => rfl
    | 2 => rfl
    | 3 => rfl
    | 4 => rfl
    | 5 => rfl
    | 6 => exact (by show (if k < mS S then some (aI (ups S 1 k0 6 0 v 1 k 0 0)) else none) = _; rw [ups_b (by decide)]; rfl)
    | 7 => exact (by show (if k < mS S then some (aI (ups S 1 k0 6 0 v 1 k 1 0)) else none) = _; rw [ups_b (by decide)]; rfl)
    | 8 => exact absurd rfl e
    | 9 => exact (by show (if k / 5 < mS S ∧ k % 5 < nS (ups S 1 k0 6 0 v) (k / 5) then some (aI (S 2 (k / 5) (k % 5) 0)) else none) = _; rw [en]; rfl)
    | 10 => exact (by show (if k / 25 < mS S ∧ k % 25 / 5 < nS (ups S 1 k0 6 0 v) (k / 25) then some (aI (if k % 5 < nS (ups S 1 k0 6 0 v) (k / 25) then S 3 (k / 25) (k % 25 / 5) (k % 5) else 0)) else none) = _; rw [en]; rfl)
    | 11 => exact (by show (if k < mS S then some (aI (ups S 1 k0 6 0 v 1 k 7 0)) else none) = _; rw [ups_b (by decide)]; rfl)
    | 12 => rfl
    | 13 => rfl
    | 14 => rfl
    | 15 => rfl
    | 16 => rfl
    | 17 => rfl
    | _ + 18 => rfl
  · have e2 : rV (ups S 1 k0 6 0 v) 8 k = rV S 8 k := by
      show (if k < mS S then some (aI (ups S 1 k0 6 0 v 1 k 6 0)) else none) = _
      rw [ups_a e]
      rfl
    rw [← e2]
    exact q
  · have e3 : rV (ups S 1 k0 6 0 v) 8 k0 = if k0 < mS S then some (aI v) else none := by
      show (if k0 < mS S then some (aI (ups S 1 k0 6 0 v 1 k0 6 0)) else none) = _
      rw [ups_s]
    rw [e3] at q
    by_cases c : k0 < mS S
    · rw [if_pos c] at q
      exact (Option.some.inj q).symm
    · rw [if_neg c] at q
      cases q
theorem RB0.a11 {S : SS} {h : AH} (H : RB0 S h) (k0 : Nat) (hk : k0 < 16) (v : Int) : RB0 (ups S 1 k0 7 0 v) (wr h 10 11 k0 (aI v)) := by
  have en : ∀ x, nS (ups S 1 k0 7 0 v) x = nS S x := fun x => by unfold nS; rw [ups_b (by decide)]
  refine H.put 11 k0 (aI v) hk (fun a e k => ?_) (fun k e w q => ?_) (fun w q => ?_)
  · match a with
    | 0 => rfl
    | 1 => rfl
    | 2 => rfl
    | 3 => rfl
    | 4 => rfl
    | 5 => rfl
    | 6 => exact (by show (if k < mS S then some (aI (ups S 1 k0 7 0 v 1 k 0 0)) else none) = _; rw [ups_b (by decide)]; rfl)
    | 7 => exact (by show (if k < mS S then some (aI (ups S 1 k0 7 0 v 1 k 1 0)) else none) = _; rw [ups_b (by decide)]; rfl)
    | 8 => exact (by show (if k < mS S then some (aI (ups S 1 k0 7 0 v 1 k 6 0)) else none) = _; rw [ups_b (by decide)]; rfl)
    | 9 => exact (by show (if k / 5 < mS S ∧ k % 5 < nS (ups S 1 k0 7 0 v) (k / 5) then some (aI (S 2 (k / 5) (k % 5) 0)) else none) = _; rw [en]; rfl)
    | 10 => exact (by show (if k / 25 < mS S ∧ k % 25 / 5 < nS (ups S 1 k0 7 0 v) (k / 25) then some (aI (if k % 5 < nS (ups S 1 k0 7 0 v) (k / 25) then S 3 (k / 25) (k % 25 / 5) (k % 5) else 0)) else none) = _; rw [en]; rfl)
    | 11 => exact absurd rfl e
    | 12 => rfl
    | 13 => rfl
    | 14 => rfl
    | 15 => rfl
    | 16 => rfl
    | 17 => rfl
    | _ + 18 => rfl
  · have e2 : rV (ups S 1 k0 7 0 v) 11 k = rV S 11 k := by
      show (if k < mS S then some (aI (ups S 1 k0 7 0 v 1 k 7 0)) else none) = _
      rw [ups_a e]
      rfl
    rw [← e2]
    exact q
  · have e3 : rV (ups S 1 k0 7 0 v) 11 k0 = if k0 < mS S then some (aI v) else none := by
      show (if k0 < mS S then some (aI (ups S 1 k0 7 0 v 1 k0 7 0)) else none) = _
      rw [ups_s]
    rw [e3] at q
    by_cases c : k0 < mS S
    · rw [if_pos c] at q
      exact (Option.some.inj q).symm
    · rw [if_neg c] at q
      cases q
theorem RB0.a17 {S : SS} {h : AH} (H : RB0 S h) (k0 : Nat) (hk : k0 < 200) (v : Int) : RB0 (ups S 7 k0 0 0 v) (wr h 10 17 k0 (aI v)) := by
  refine H.put 17 k0 (aI v) hk (fun a e k => ?_) (fun k e w q => ?_) (fun w q => ?_)
  · match a with
    | 0 => rfl
    | 1 => rfl
    | 2 => rfl
    | 3 => rfl
    | 4 => rfl
    | 5 => rfl
    | 6 => rfl
    | 7 => rfl
    | 8 => rfl
    | 9 => rfl
    | 10 => rfl
    | 11 => rfl
    | 12 => rfl
    | 13 => rfl
    | 14 => rfl
    | 15 => rfl
    | 16 => rfl
    | 17 => exact absurd rfl e
    | _ + 18 => rfl
  · have e2 : rV (ups S 7 k0 0 0 v) 17 k = rV S 17 k := by
      show (if k < 200 then some (aI (ups S 7 k0 0 0 v 7 k 0 0)) else none) = _
      rw [ups_a e]
      rfl
    rw [← e2]
    exact q
  · have e3 : rV (ups S 7 k0 0 0 v) 17 k0 = if k0 < 200 then some (aI v) else none := by
      show (if k0 < 200 then some (aI (ups S 7 k0 0 0 v 7 k0 0 0)) else none) = _
      rw [ups_s]
    rw [e3] at q
    by_cases c : k0 < 200
    · rw [if_pos c] at q
      exact (Option.some.inj q).symm
    · rw [if_neg c] at q
      cases q
