/-! ===== the reference: more writes; its first calls ===== -/
theorem RB0.a3 {S : SS} {h : AH} (H : RB0 S h) (k0 : Nat) (hk : k0 < 12) : RB0 (ups S 4 k0 2 0 1) (wr h 10 3 k0 (aI (-1))) := by
  refine H.put 3 k0 (aI (-1)) hk (fun a e k => ?_) (fun k e w q => ?_) (fun w q => ?_)
  · match a with
    | 0 => rfl
    | 1 => rfl
    | 2 => exact (by show (if k < sS S then some (aI (ups S 4 k0 2 0 1 4 k 0 0)) else none) = _; rw [ups_b (by decide)]; rfl)
    | 3 => exact absurd rfl e
    | 4 => exact (by show (if k / 24 < sS S ∧ k % 24 < (ups S 4 k0 2 0 1 4 (k / 24) 1 0).toNat then some (aJ (S 5 (k / 24) (k % 24) 0)) else none) = _; rw [ups_b (by decide)]; rfl)
    | 5 => rfl
    | 6 => rfl
    | 7 => rfl
    | 8 => rfl
    | 9 => rfl
    | 10 => rfl
    | 11 => rfl
    | 12 => rfl
    | 13 => rfl
    | 14 => rfl
    | 15 => rfl
    | 16 => rfl
    | 17 => rfl
    | _ + 18 => rfl
  · have e2 : rV (ups S 4 k0 2 0 1) 3 k = rV S 3 k := by
      show (if k < sS S then some (aI (if ups S 4 k0 2 0 1 4 k 2 0 = 0 then ups S 4 k0 2 0 1 4 k 1 0 else -1)) else none) = _
      rw [ups_a e, ups_a e]
      rfl
    rw [← e2]
    exact q
  · have e3 : rV (ups S 4 k0 2 0 1) 3 k0 = if k0 < sS S then some (aI (-1)) else none := by
      show (if k0 < sS S then some (aI (if ups S 4 k0 2 0 1 4 k0 2 0 = 0 then ups S 4 k0 2 0 1 4 k0 1 0 else -1)) else none) = _
      rw [ups_s, if_neg (show ¬ (1 : Int) = 0 by decide)]
    rw [e3] at q
    by_cases c : k0 < sS S
    · rw [if_pos c] at q
      exact (Option.some.inj q).symm
    · rw [if_neg c] at q
      cases q
theorem RB0.a4 {S : SS} {h : AH} (H : RB0 S h) (k0 i0 : Nat) (hk : k0 < 12) (hi : i0 < 24) (v : Int) : RB0 (ups S 5 k0 i0 0 v) (wr h 11 4 (24 * k0 + i0) (aJ v)) := by
  refine H.put 4 (24 * k0 + i0) (aJ v) (show 24 * k0 + i0 < 288 by omega) (fun a e k => ?_) (fun k e w q => ?_) (fun w q => ?_)
  · match a with
    | 0 => rfl
    | 1 => rfl
    | 2 => rfl
    | 3 => rfl
    | 4 => exact absurd rfl e
    | 5 => rfl
    | 6 => rfl
    | 7 => rfl
    | 8 => rfl
    | 9 => rfl
    | 10 => rfl
    | 11 => rfl
    | 12 => rfl
    | 13 => rfl
    | 14 => rfl
    | 15 => rfl
    | 16 => rfl
    | 17 => rfl
    | _ + 18 => rfl
  · have e2 : rV (ups S 5 k0 i0 0 v) 4 k = rV S 4 k := by
      show (if k / 24 < sS S ∧ k % 24 < (S 4 (k / 24) 1 0).toNat then some (aJ (ups S 5 k0 i0 0 v 5 (k / 24) (k % 24) 0)) else none) = _
      by_cases c : k / 24 = k0
      · rw [ups_b (by omega)]
        rfl
      · rw [ups_a c]
        rfl
    rw [← e2]
    exact q
  · have e3 : rV (ups S 5 k0 i0 0 v) 4 (24 * k0 + i0) = if k0 < sS S ∧ i0 < (S 4 (k0) 1 0).toNat then some (aJ v) else none := by
      show (if (24 * k0 + i0) / 24 < sS S ∧ (24 * k0 + i0) % 24 < (S 4 ((24 * k0 + i0) / 24) 1 0).toNat then some (aJ (ups S 5 k0 i0 0 v 5 ((24 * k0 + i0) / 24) ((24 * k0 + i0) % 24) 0)) else none) = _
      rw [show (24 * k0 + i0) / 24 = k0 by omega, show (24 * k0 + i0) % 24 = i0 by omega, ups_s]
    rw [e3] at q
    split at q
    · exact (Option.some.inj q).symm
    · exact absurd q (by simp)
theorem RB0.a9 {S : SS} {h : AH} (H : RB0 S h) (k0 i0 : Nat) (hk : k0 < 16) (hi : i0 < 5) (v : Int) : RB0 (ups S 2 k0 i0 0 v) (wr h 10 9 (5 * k0 + i0) (aI v)) := by
  refine H.put 9 (5 * k0 + i0) (aI v) (show 5 * k0 + i0 < 80 by omega) (fun a e k => ?_) (fun k e w q => ?_) (fun w q => ?_)
  · match a with
    | 0 => rfl
    | 1 => rfl
    | 2 => rfl
    | 3 => rfl
    | 4 => rfl
    | 5 => rfl
    | 6 => rfl
    | 7 => rfl
    | 8 => rfl
    | 9 => exact absurd rfl e
    | 10 => rfl
    | 11 => rfl
    | 12 => rfl
    | 13 => rfl
    | 14 => rfl
    | 15 => rfl
    | 16 => rfl
    | 17 => rfl
    | _ + 18 => rfl
  · have e2 : rV (ups S 2 k0 i0 0 v) 9 k = rV S 9 k := by
      show (if k / 5 < mS S ∧ k % 5 < nS S (k / 5) then some (aI (ups S 2 k0 i0 0 v 2 (k / 5) (k % 5) 0)) else none) = _
      by_cases c : k / 5 = k0
      · rw [ups_b (by omega)]
        rfl
      · rw [ups_a c]
        rfl
    rw [← e2]
    exact q
  · have e3 : rV (ups S 2 k0 i0 0 v) 9 (5 * k0 + i0) = if k0 < mS S ∧ i0 < nS S (k0) then some (aI v) else none := by
      show (if (5 * k0 + i0) / 5 < mS S ∧ (5 * k0 + i0) % 5 < nS S ((5 * k0 + i0) / 5) then some (aI (ups S 2 k0 i0 0 v 2 ((5 * k0 + i0) / 5) ((5 * k0 + i0) % 5) 0)) else none) = _
      rw [show (5 * k0 + i0) / 5 = k0 by omega, show (5 * k0 + i0) % 5 = i0 by omega, ups_s]
    rw [e3] at q
    split at q
    · exact (Option.some.inj q).symm
    · exact absurd q (by simp)
theorem RB0.a10 {S : SS} {h : AH} (H : RB0 S h) (k0 s0 t0 : Nat) (hk : k0 < 16) (hs : s0 < 5) (ht : t0 < 5) (hn : t0 < nS S k0) (v : Int) : RB0 (ups S 3 k0 s0 t0 v) (wr h 10 10 (25 * k0 + 5 * s0 + t0) (aI v)) := by
  refine H.put 10 (25 * k0 + 5 * s0 + t0) (aI v) (show 25 * k0 + 5 * s0 + t0 < 400 by omega) (fun a e k => ?_) (fun k e w q => ?_) (fun w q => ?_)
  · match a with
    | 0 => rfl
    | 1 => rfl
    | 2 => rfl
    | 3 => rfl
    | 4 => rfl
    | 5 => rfl
    | 6 => rfl
    | 7 => rfl
    | 8 => rfl
    | 9 => rfl
    | 10 => exact absurd rfl e
    | 11 => rfl
    | 12 => rfl
    | 13 => rfl
    | 14 => rfl
    | 15 => rfl
    | 16 => rfl
    | 17 => rfl
    | _ + 18 => rfl
  · have e2 : rV (ups S 3 k0 s0 t0 v) 10 k = rV S 10 k := by
      show (if k / 25 < mS S ∧ k % 25 / 5 < nS S (k / 25) then some (aI (if k % 5 < nS S (k / 25) then ups S 3 k0 s0 t0 v 3 (k / 25) (k % 25 / 5) (k % 5) else 0)) else none) = _
      by_cases c : k / 25 = k0
      · by_cases c2 : k % 25 / 5 = s0
        · rw [ups_c (by omega)]
          rfl
        · rw [ups_b c2]
          rfl
      · rw [ups_a c]
        rfl
    rw [← e2]
    exact q
  · have e3 : rV (ups S 3 k0 s0 t0 v) 10 (25 * k0 + 5 * s0 + t0) = if k0 < mS S ∧ s0 < nS S k0 then some (aI v) else none := by
      show (if (25 * k0 + 5 * s0 + t0) / 25 < mS S ∧ (25 * k0 + 5 * s0 + t0) % 25 / 5 < nS S ((25 * k0 + 5 * s0 + t0) / 25) then some (aI (if (25 * k0 + 5 * s0 + t0) % 5 < nS S ((25 * k0 + 5 * s0 + t0) / 25) then ups S 3 k0 s0 t0 v 3 ((25 * k0 + 5 * s0 + t0) / 25) ((25 * k0 + 5 * s0 + t0) % 25 / 5) ((25 * k0 + 5 * s0 + t0) % 5) else 0)) else none) = _
      rw [show (25 * k0 + 5 * s0 + t0) / 25 = k0 by omega, show (25 * k0 + 5 * s0 + t0) % 25 / 5 = s0 by omega, show (25 * k0 + 5 * s0 + t0) % 5 = t0 by omega, ups_s, if_pos hn]
    rw [e3] at q
    split at q
    · exact (Option.some.inj q).symm
    · exact absurd q (by simp)
-- reading
def CR (M : MI) (as : List AV) (ty : Int → AV) (S : SS) (o : Int × SS) : Prop := ∀ h, RI S h → ∃ h', E M (aR (some 0) :: as) h = some (some (ty o.1), h') ∧ RI o.2 h' ∧ L0 h h'
section RD
variable {S : SS} {h : AH}
theorem RB0.r1 (H : RB0 S h) {k : Nat} (hk : k < 7) : rd h 10 1 k = some (aI (S 6 k 0 0)) := H.2 1 k _ (if_pos hk)
theorem RB0.r2 (H : RB0 S h) {k : Nat} (hk : k < sS S) : rd h 10 2 k = some (aI (S 4 k 0 0)) := H.2 2 k _ (if_pos hk)
theorem RB0.r3 (H : RB0 S h) {k : Nat} (hk : k < sS S) : rd h 10 3 k = some (aI (if S 4 k 2 0 = 0 then S 4 k 1 0 else -1)) := H.2 3 k _ (if_pos hk)
theorem RB0.r4 (H : RB0 S h) {k i : Nat} (hk : k < sS S) (hi : i < (S 4 k 1 0).toNat) (h24 : i < 24) : rd h 11 4 (24 * k + i) = some (aJ (S 5 k i 0)) := by
  refine H.2 4 (24 * k + i) _ ?_
  show (if (24 * k + i) / 24 < sS S ∧ (24 * k + i) % 24 < (S 4 ((24 * k + i) / 24) 1 0).toNat then some (aJ (S 5 ((24 * k + i) / 24) ((24 * k + i) % 24) 0)) else none) = _
  rw [show (24 * k + i) / 24 = k by omega, show (24 * k + i) % 24 = i by omega, if_pos ⟨hk, hi⟩]
theorem RB0.r6 (H : RB0 S h) {k : Nat} (hk : k < mS S) : rd h 10 6 k = some (aI (S 1 k 0 0)) := H.2 6 k _ (if_pos hk)
theorem RB0.r7 (H : RB0 S h) {k : Nat} (hk : k < mS S) : rd h 10 7 k = some (aI (S 1 k 1 0)) := H.2 7 k _ (if_pos hk)
theorem RB0.r8 (H : RB0 S h) {k : Nat} (hk : k < mS S) : rd h 10 8 k = some (aI (S 1 k 6 0)) := H.2 8 k _ (if_pos hk)
theorem RB0.r11 (H : RB0 S h) {k : Nat} (hk : k < mS S) : rd h 10 11 k = some (aI (S 1 k 7 0)) := H.2 11 k _ (if_pos hk)
theorem RB0.r17 (H : RB0 S h) {k : Nat} (hk : k < 200) : rd h 10 17 k = some (aI (S 7 k 0 0)) := H.2 17 k _ (if_pos hk)
theorem RB0.r9 (H : RB0 S h) {m s : Nat} (hm : m < mS S) (hs : s < nS S m) (h5 : s < 5) : rd h 10 9 (5 * m + s) = some (aI (S 2 m s 0)) := by
  refine H.2 9 (5 * m + s) _ ?_
  show (if (5 * m + s) / 5 < mS S ∧ (5 * m + s) % 5 < nS S ((5 * m + s) / 5) then some (aI (S 2 ((5 * m + s) / 5) ((5 * m + s) % 5) 0)) else none) = _
  rw [show (5 * m + s) / 5 = m by omega, show (5 * m + s) % 5 = s by omega, if_pos ⟨hm, hs⟩]
theorem RB0.r10 (H : RB0 S h) {m s t : Nat} (hm : m < mS S) (hs : s < nS S m) (h5 : s < 5) (ht : t < 5) : rd h 10 10 (25 * m + 5 * s + t) = some (aI (if t < nS S m then S 3 m s t else 0)) := by
  refine H.2 10 (25 * m + 5 * s + t) _ ?_
  show (if (25 * m + 5 * s + t) / 25 < mS S ∧ (25 * m + 5 * s + t) % 25 / 5 < nS S ((25 * m + 5 * s + t) / 25) then some (aI (if (25 * m + 5 * s + t) % 5 < nS S ((25 * m + 5 * s + t) / 25) then S 3 ((25 * m + 5 * s + t) / 25) ((25 * m + 5 * s + t) % 25 / 5) ((25 * m + 5 * s + t) % 5) else 0)) else none) = _
  rw [show (25 * m + 5 * s + t) / 25 = m by omega, show (25 * m + 5 * s + t) % 25 / 5 = s by omega, show (25 * m + 5 * s + t) % 5 = t by omega, if_pos ⟨hm, hs⟩]
theorem RB0.f (H : RB0 S h) (k : Nat) {v : AV} (q : rF S k = some v) : rd h 5 0 k = some v := H.2 0 k v q
end RD
theorem c_in {h : AH} {v lo hi : Int} : E mX5_in [aJ v, aJ lo, aJ hi] h = some (some (aI (if lo ≤ v ∧ v ≤ hi then 1 else 0)), h) := by
  rw [e_X5_in]
  by_cases c1 : v < lo
  · rw [if_neg (by omega)]
    simp only [↓x_X5_in_0, ↓x_X5_in_1, ↓x_X5_in_2, ↓x_X5_in_3, ↓x_X5_in_6, ↓x_X5_in_7, ↓x_X5_in_9, ↓x_X5_in_10, ↓x_X5_in_13, ↓x_X5_in_14, ↓x_X5_in_17, ↓x_X5_in_18_0, ↓x_X5_in_18_1, ↓x_X5_in_18, fc_lt, c1, ↓reduceIte]
  · by_cases c2 : hi < v
    · rw [if_neg (by omega)]
      simp only [↓x_X5_in_0, ↓x_X5_in_1, ↓x_X5_in_2, ↓x_X5_in_3, ↓x_X5_in_6, ↓x_X5_in_7, ↓x_X5_in_9, ↓x_X5_in_10, ↓x_X5_in_13, ↓x_X5_in_14, ↓x_X5_in_17, ↓x_X5_in_18_0, ↓x_X5_in_18_1, ↓x_X5_in_18, fc_lt, fc_gt, c1, c2, ↓reduceIte]
    · rw [if_pos (by omega)]
      simp only [↓x_X5_in_0, ↓x_X5_in_1, ↓x_X5_in_2, ↓x_X5_in_3, ↓x_X5_in_6, ↓x_X5_in_7, ↓x_X5_in_9, ↓x_X5_in_10, ↓x_X5_in_13, ↓x_X5_in_14, ↓x_X5_in_17, ↓x_X5_in_18_0, ↓x_X5_in_18_1, ↓x_X5_in_18, fc_lt, fc_gt, c1, c2, ↓reduceIte]
/-- a finding kept -/
def rmH (S : SS) (h : AH) (f : Nat) : AH := wr (wr h 5 0 0 (aI (f : Int))) 10 1 f (aI (w32 (S 6 f 0 0 + 1)))
theorem c_meets {S : SS} {h : AH} (H : RB0 S h) {f : Nat} (hf : f < 7) : E mX5_meets [aR (some 0), aI (f : Int)] h = some (some (aI (-3)), rmH S h f) := by
  have q0 := H.f 0 rfl
  have q1 : rd (wr h 5 0 0 (aI (f : Int))) 5 0 1 = some (aR (some 1)) := by rw [rd_wn (Or.inr (Or.inr (by decide)))]; exact H.f 1 rfl
  have qf : rd (wr h 5 0 0 (aI (f : Int))) 10 1 f = some (aI (S 6 f 0 0)) := by rw [rd_wn (Or.inl (by decide))]; exact H.r1 hf
  have n1 : 0 ≤ (f : Int) := Int.natCast_nonneg _
  rw [e_X5_meets]
  simp only [↓x_X5_meets_0, ↓x_X5_meets_1, ↓x_X5_meets_2, ↓x_X5_meets_5, ↓x_X5_meets_6, ↓x_X5_meets_9, ↓x_X5_meets_10, ↓x_X5_meets_11, ↓x_X5_meets_12, ↓x_X5_meets_13, ↓x_X5_meets_14, ↓x_X5_meets_15, ↓x_X5_meets_17, ↓pK_of q0, ↓gK_of q1, n1, Int.toNat_natCast, gK_of qf, pK_of qf, ↓reduceIte]
  rfl
theorem RI.mt {S : SS} {h : AH} (H : RI S h) {f : Nat} (hf : f < 7) : RI (fdS S f) (rmH S h f) ∧ L0 h (rmH S h f) := by
  refine ⟨⟨(H.1.f0 (f : Int)).a1 f hf (w32 (S 6 f 0 0 + 1)), ?_⟩, by unfold rmH; rw [wr_len, wr_len], by unfold rmH; rw [wr_slt, wr_slt]⟩
  exact (H.2.wn (S' := ups S 0 12 0 0 (f : Int)) (Or.inr (Or.inr (by decide))) (ups_a (by decide))).wn (Or.inl (by decide)) (ups_t (by decide))
theorem m_fd1 {S : SS} {h : AH} (H : RB0 S h) : E mX5_meets [aR (some 0), aI 1] h = some (some (aI (-3)), rmH S h 1) := c_meets H (f := 1) (by decide)
theorem m_fd2 {S : SS} {h : AH} (H : RB0 S h) : E mX5_meets [aR (some 0), aI 2] h = some (some (aI (-3)), rmH S h 2) := c_meets H (f := 2) (by decide)
theorem m_fd3 {S : SS} {h : AH} (H : RB0 S h) : E mX5_meets [aR (some 0), aI 3] h = some (some (aI (-3)), rmH S h 3) := c_meets H (f := 3) (by decide)
theorem m_fd4 {S : SS} {h : AH} (H : RB0 S h) : E mX5_meets [aR (some 0), aI 4] h = some (some (aI (-3)), rmH S h 4) := c_meets H (f := 4) (by decide)
theorem m_fd5 {S : SS} {h : AH} (H : RB0 S h) : E mX5_meets [aR (some 0), aI 5] h = some (some (aI (-3)), rmH S h 5) := c_meets H (f := 5) (by decide)
theorem m_fd6 {S : SS} {h : AH} (H : RB0 S h) : E mX5_meets [aR (some 0), aI 6] h = some (some (aI (-3)), rmH S h 6) := c_meets H (f := 6) (by decide)
theorem c_isSheet {S : SS} {h : AH} (F : WF S) (H : RB0 S h) (k : Int) : E mX5_isSheet [aR (some 0), aI k] h = some (some (aI (if isT S k then 1 else 0)), h) := by
  have q4 := H.f 4 rfl
  have f7 := F.1.2.1
  have e1 : w32 (S 0 7 0 0 - 1) = S 0 7 0 0 - 1 := by rw [w32_in] <;> omega
  have ci := c_in (h := h) (v := k) (lo := 0) (hi := S 0 7 0 0 - 1)
  have n0 : (0 : Int) = 0 ∨ (0 : Int) = 1 := Or.inl rfl
  have n1 : (1 : Int) = 0 ∨ (1 : Int) = 1 := Or.inr rfl
  rw [e_X5_isSheet]
  by_cases c : isT S k
  · rw [if_pos (by omega)] at ci
    rw [if_pos c]
    simp only [↓x_X5_isSheet_0, ↓x_X5_isSheet_1, ↓x_X5_isSheet_2, ↓x_X5_isSheet_3, ↓x_X5_isSheet_4, ↓x_X5_isSheet_7, ↓x_X5_isSheet_8, ↓x_X5_isSheet_9, ↓x_X5_isSheet_13_0, ↓x_X5_isSheet_13_1, ↓x_X5_isSheet_13, ↓gK_of q4, e1]
    simp only [↓x_X5_isSheet_0, ↓x_X5_isSheet_1, ↓x_X5_isSheet_2, ↓x_X5_isSheet_3, ↓x_X5_isSheet_4, ↓x_X5_isSheet_7, ↓x_X5_isSheet_8, ↓x_X5_isSheet_9, ↓x_X5_isSheet_10, ↓x_X5_isSheet_13_0, ↓x_X5_isSheet_13_1, ↓x_X5_isSheet_13, ↓cKI ci, n1, ↓reduceIte]
  · rw [if_neg (by omega)] at ci
    rw [if_neg c]
    simp only [↓x_X5_isSheet_0, ↓x_X5_isSheet_1, ↓x_X5_isSheet_2, ↓x_X5_isSheet_3, ↓x_X5_isSheet_4, ↓x_X5_isSheet_7, ↓x_X5_isSheet_8, ↓x_X5_isSheet_9, ↓x_X5_isSheet_13_0, ↓x_X5_isSheet_13_1, ↓x_X5_isSheet_13, ↓gK_of q4, e1]
    simp only [↓x_X5_isSheet_0, ↓x_X5_isSheet_1, ↓x_X5_isSheet_2, ↓x_X5_isSheet_3, ↓x_X5_isSheet_4, ↓x_X5_isSheet_7, ↓x_X5_isSheet_8, ↓x_X5_isSheet_9, ↓x_X5_isSheet_10, ↓x_X5_isSheet_13_0, ↓x_X5_isSheet_13_1, ↓x_X5_isSheet_13, ↓cKI ci, n0, ↓reduceIte]
theorem c_isMachine {S : SS} {h : AH} (F : WF S) (H : RB0 S h) (k : Int) : E mX5_isMachine [aR (some 0), aI k] h = some (some (aI (if isM S k then 1 else 0)), h) := by
  have q4 := H.f 10 rfl
  have f7 := F.1.1
  have e1 : w32 (S 0 6 0 0 - 1) = S 0 6 0 0 - 1 := by rw [w32_in] <;> omega
  have ci := c_in (h := h) (v := k) (lo := 0) (hi := S 0 6 0 0 - 1)
  have n0 : (0 : Int) = 0 ∨ (0 : Int) = 1 := Or.inl rfl
  have n1 : (1 : Int) = 0 ∨ (1 : Int) = 1 := Or.inr rfl
  rw [e_X5_isMachine]
  by_cases c : isM S k
  · rw [if_pos (by omega)] at ci
    rw [if_pos c]
    simp only [↓x_X5_isMachine_0, ↓x_X5_isMachine_1, ↓x_X5_isMachine_2, ↓x_X5_isMachine_3, ↓x_X5_isMachine_4, ↓x_X5_isMachine_7, ↓x_X5_isMachine_8, ↓x_X5_isMachine_9, ↓x_X5_isMachine_13_0, ↓x_X5_isMachine_13_1, ↓x_X5_isMachine_13, ↓gK_of q4, e1]
    simp only [↓x_X5_isMachine_0, ↓x_X5_isMachine_1, ↓x_X5_isMachine_2, ↓x_X5_isMachine_3, ↓x_X5_isMachine_4, ↓x_X5_isMachine_7, ↓x_X5_isMachine_8, ↓x_X5_isMachine_9, ↓x_X5_isMachine_10, ↓x_X5_isMachine_13_0, ↓x_X5_isMachine_13_1, ↓x_X5_isMachine_13, ↓cKI ci, n1, ↓reduceIte]
  · rw [if_neg (by omega)] at ci
    rw [if_neg c]
    simp only [↓x_X5_isMachine_0, ↓x_X5_isMachine_1, ↓x_X5_isMachine_2, ↓x_X5_isMachine_3, ↓x_X5_isMachine_4, ↓x_X5_isMachine_7, ↓x_X5_isMachine_8, ↓x_X5_isMachine_9, ↓x_X5_isMachine_13_0, ↓x_X5_isMachine_13_1, ↓x_X5_isMachine_13, ↓gK_of q4, e1]
    simp only [↓x_X5_isMachine_0, ↓x_X5_isMachine_1, ↓x_X5_isMachine_2, ↓x_X5_isMachine_3, ↓x_X5_isMachine_4, ↓x_X5_isMachine_7, ↓x_X5_isMachine_8, ↓x_X5_isMachine_9, ↓x_X5_isMachine_10, ↓x_X5_isMachine_13_0, ↓x_X5_isMachine_13_1, ↓x_X5_isMachine_13, ↓cKI ci, n0, ↓reduceIte]
theorem c_isState {S : SS} {h : AH} (F : WF S) (H : RB0 S h) {m : Nat} (hm : m < mS S) (s : Int) : E mX5_isState [aR (some 0), aI m, aI s] h = some (some (aI (if 0 ≤ s ∧ s < S 1 m 1 0 then 1 else 0)), h) := by
  have q12 := H.f 12 rfl
  have q7 := H.r7 hm
  obtain ⟨⟨n1, n5⟩, en, -, -⟩ := F.m hm
  have e1 : w32 (S 1 m 1 0 - 1) = S 1 m 1 0 - 1 := by rw [w32_in] <;> omega
  have ci := c_in (h := h) (v := s) (lo := 0) (hi := S 1 m 1 0 - 1)
  have m0 : (0 : Int) ≤ (m : Int) := Int.natCast_nonneg _
  have n0 : (0 : Int) = 0 ∨ (0 : Int) = 1 := Or.inl rfl
  have n1 : (1 : Int) = 0 ∨ (1 : Int) = 1 := Or.inr rfl
  rw [e_X5_isState]
  by_cases c : 0 ≤ s ∧ s < S 1 m 1 0
  · rw [if_pos (by omega)] at ci
    rw [if_pos c]
    simp only [↓x_X5_isState_0, ↓x_X5_isState_1, ↓x_X5_isState_2, ↓x_X5_isState_3, ↓x_X5_isState_4, ↓x_X5_isState_7, ↓x_X5_isState_8, ↓x_X5_isState_9, ↓x_X5_isState_10, ↓x_X5_isState_11, ↓x_X5_isState_15_0, ↓x_X5_isState_15_1, ↓x_X5_isState_15, ↓gK_of q12, m0, Int.toNat_natCast, gK_of q7, e1, ↓reduceIte]
    simp only [↓x_X5_isState_0, ↓x_X5_isState_1, ↓x_X5_isState_2, ↓x_X5_isState_3, ↓x_X5_isState_4, ↓x_X5_isState_7, ↓x_X5_isState_8, ↓x_X5_isState_9, ↓x_X5_isState_10, ↓x_X5_isState_11, ↓x_X5_isState_12, ↓x_X5_isState_15_0, ↓x_X5_isState_15_1, ↓x_X5_isState_15, ↓cKI ci, n1, ↓reduceIte]
  · rw [if_neg (by omega)] at ci
    rw [if_neg c]
    simp only [↓x_X5_isState_0, ↓x_X5_isState_1, ↓x_X5_isState_2, ↓x_X5_isState_3, ↓x_X5_isState_4, ↓x_X5_isState_7, ↓x_X5_isState_8, ↓x_X5_isState_9, ↓x_X5_isState_10, ↓x_X5_isState_11, ↓x_X5_isState_15_0, ↓x_X5_isState_15_1, ↓x_X5_isState_15, ↓gK_of q12, m0, Int.toNat_natCast, gK_of q7, e1, ↓reduceIte]
    simp only [↓x_X5_isState_0, ↓x_X5_isState_1, ↓x_X5_isState_2, ↓x_X5_isState_3, ↓x_X5_isState_4, ↓x_X5_isState_7, ↓x_X5_isState_8, ↓x_X5_isState_9, ↓x_X5_isState_10, ↓x_X5_isState_11, ↓x_X5_isState_12, ↓x_X5_isState_15_0, ↓x_X5_isState_15_1, ↓x_X5_isState_15, ↓cKI ci, n0, ↓reduceIte]
theorem c_isAgeing {S : SS} {h : AH} (F : WF S) (H : RB0 S h) {m : Nat} (hm : m < mS S) : E mX5_isAgeing [aR (some 0), aI m] h = some (some (aI (if 2 ≤ S 1 m 0 0 then 1 else 0)), h) := by
  have q12 := H.f 11 rfl
  have q6 := H.r6 hm
  have m0 : (0 : Int) ≤ (m : Int) := Int.natCast_nonneg _
  have n0 : (0 : Int) = 0 ∨ (0 : Int) = 1 := Or.inl rfl
  have n1 : (1 : Int) = 0 ∨ (1 : Int) = 1 := Or.inr rfl
  rw [e_X5_isAgeing]
  by_cases c : 2 ≤ S 1 m 0 0
  · have c' : ¬ S 1 m 0 0 < 2 := by omega
    rw [if_pos c]
    simp only [↓x_X5_isAgeing_0, ↓x_X5_isAgeing_1, ↓x_X5_isAgeing_4, ↓x_X5_isAgeing_5, ↓x_X5_isAgeing_6, ↓x_X5_isAgeing_7, ↓x_X5_isAgeing_10, ↓x_X5_isAgeing_11, ↓x_X5_isAgeing_14, ↓x_X5_isAgeing_15_0, ↓x_X5_isAgeing_15_1, ↓x_X5_isAgeing_15, ↓gK_of q12, m0, Int.toNat_natCast, gK_of q6, c', n1, ↓reduceIte]
  · have c' : S 1 m 0 0 < 2 := by omega
    rw [if_neg c]
    simp only [↓x_X5_isAgeing_0, ↓x_X5_isAgeing_1, ↓x_X5_isAgeing_4, ↓x_X5_isAgeing_5, ↓x_X5_isAgeing_6, ↓x_X5_isAgeing_7, ↓x_X5_isAgeing_10, ↓x_X5_isAgeing_11, ↓x_X5_isAgeing_14, ↓x_X5_isAgeing_15_0, ↓x_X5_isAgeing_15_1, ↓x_X5_isAgeing_15, ↓gK_of q12, m0, Int.toNat_natCast, gK_of q6, c', n0, ↓reduceIte]
