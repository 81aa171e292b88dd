/-! ===== share; copy ===== -/
theorem c_machineAt0 {S : SS} {h : AH} {mb : Nat → Nat} (F : WF S) {S' : SS} (G : GI S' h) (e6 : S' 0 6 0 0 = S 0 6 0 0) (P : ∀ m, m < mS S → rd h 12 1 m = some (aR (some (mb m)))) (m : Nat) (hm : m < mS S) : E mX4_machineAt [aR (some 0), aI m] h = some (some (aR (some (mb m))), h) := by
  have g6 := G.2.1 6 (by decide) (by decide)
  rw [e6] at g6
  have g0 := G.1.1
  have l1 := G.2.2.2.1.1
  have f6 := F.1.1
  have hm' : (m : Int) < S 0 6 0 0 := by unfold mS at hm; omega
  have t1 : tagR h 1 = 12 := by obtain ⟨v, hv⟩ := G.2.2.2.2.2.2.2.1 0 (by decide); exact tag_rd hv
  have n1 : ¬ (m : Int) < 0 := by omega
  have n2 : ¬ S 0 6 0 0 ≤ (m : Int) := by omega
  have n3 : (m : Int) < ((16 : Nat) : Int) := by omega
  have n4 : (0 : Int) ≤ (m : Int) := by omega
  have q : rd h 12 1 (m : Int).toNat = some (aR (some (mb m))) := P m hm
  rw [e_X4_machineAt]
  simp only [↓x_X4_machineAt_0, ↓x_X4_machineAt_1, ↓x_X4_machineAt_4, ↓x_X4_machineAt_5, ↓x_X4_machineAt_6, ↓x_X4_machineAt_9, ↓x_X4_machineAt_12, ↓x_X4_machineAt_13, ↓x_X4_machineAt_14, ↓x_X4_machineAt_17, ↓x_X4_machineAt_18, ↓x_X4_machineAt_21, ↓x_X4_machineAt_22, ↓x_X4_machineAt_23, ↓x_X4_machineAt_24, ↓x_X4_machineAt_27, ↓x_X4_machineAt_28, ↓x_X4_machineAt_29, ↓gK_of g6, ↓gK_of g0, ↓gL_of l1, ↓gK_of q, t1, n1, n2, n3, n4, ↓reduceIte]
def shS (S : SS) (p q : Int) : SS := ups (ups S 0 8 0 0 p) 0 9 0 0 q
theorem shS_t {S : SS} {p q : Int} {t a b c : Nat} (h : t ≠ 0) : shS S p q t a b c = S t a b c := by unfold shS; rw [ups_t h, ups_t h]
theorem shS_a {S : SS} {p q : Int} {a b c : Nat} (h : a ≠ 8 ∧ a ≠ 9) : shS S p q 0 a b c = S 0 a b c := by unfold shS; rw [ups_a h.2, ups_a h.1]
theorem WF.sh {S : SS} (F : WF S) {p q : Int} (h : 1 ≤ p ∧ p < q ∧ q ≤ 8) : WF (shS S p q) := by
  obtain ⟨F0, F1, F2⟩ := F
  have e8 : shS S p q 0 8 0 0 = p := by unfold shS; rw [ups_a (by decide), ups_s]
  have e9 : shS S p q 0 9 0 0 = q := by unfold shS; rw [ups_s]
  refine ⟨?_, fun m hm => F1 m hm, fun k hk => F2 k hk⟩
  rw [e8, e9, shS_a (by decide), shS_a (by decide), shS_a (by decide), shS_a (by decide)]
  exact ⟨F0.1, F0.2.1, h, F0.2.2.2⟩
def o_share (p q : Int) (S : SS) : Int × SS := if p < 1 ∨ q ≤ p ∨ 8 < q then (-1, S) else (1, shS S p q)
/-- half of the machines know that the share is another -/
def ShI (S : SS) (p q : Int) (h : AH) (mb sb own : Nat → Nat) (i : Nat) : Prop := GI (shS S p q) h ∧ RKF h ∧ (∀ m, m < mS S → m < i → PM (shS S p q) h mb own m) ∧ (∀ m, m < mS S → i ≤ m → PM S h mb own m) ∧ (∀ k, k < sS S → PS (shS S p q) h sb own k) ∧ (∀ x, x < 11 → own x = 0) ∧ ∀ x, h.length ≤ x → own x = 0
theorem shS_ag {S : SS} {p q : Int} {k : Nat} : AgS S (shS S p q) k := ⟨fun _ => shS_t (by decide), fun _ => shS_t (by decide)⟩
theorem l_share {S : SS} {p q : Int} {mb sb own : Nat → Nat} (F : WF S) : ∀ (d i : Nat) (h : AH) (v4 : AV), i + d = mS S → ShI S p q h mb sb own i →
    ∃ h', X mX4_share 30 [aR (some 0), aI p, aI q, aI i, v4] [] h = some (some (aI 1), h') ∧ ShI S p q h' mb sb own (mS S) ∧ L0 h h' := by
  have f6 := F.1.1
  have em : ((mS S : Nat) : Int) = S 0 6 0 0 := by unfold mS; omega
  intro d
  induction d with
  | zero =>
    intro i h v4 hd H
    have e : i = mS S := by omega
    subst e
    refine ⟨h, ?_, H, L0.rf⟩
    have q6 := H.1.2.1 6 (by decide) (by decide)
    rw [shS_a (by decide), ← em] at q6
    have n1 : ((mS S : Nat) : Int) ≤ ((mS S : Nat) : Int) := Int.le_refl _
    rw [x_X4_share_30]
    simp only [↓x_X4_share_0, ↓x_X4_share_1, ↓x_X4_share_2, ↓x_X4_share_5, ↓x_X4_share_6, ↓x_X4_share_7, ↓x_X4_share_10, ↓x_X4_share_11, ↓x_X4_share_13, ↓x_X4_share_16, ↓x_X4_share_17, ↓x_X4_share_18, ↓x_X4_share_19, ↓x_X4_share_20, ↓x_X4_share_23, ↓x_X4_share_24, ↓x_X4_share_25, ↓x_X4_share_28, ↓x_X4_share_29, ↓x_X4_share_31, ↓x_X4_share_32, ↓x_X4_share_35, ↓x_X4_share_38, ↓x_X4_share_39, ↓x_X4_share_40, ↓x_X4_share_43, ↓x_X4_share_45, ↓x_X4_share_47n, ↓x_X4_share_47s, ↓x_X4_share_50, ↓x_X4_share_52, ↓x_X4_share_53_0, ↓x_X4_share_53_1, ↓x_X4_share_56, ↓x_X4_share_59, ↓x_X4_share_62, ↓x_X4_share_63, ↓gK_of q6, n1, ↓reduceIte]
  | succ d ih =>
    intro i h v4 hd H
    obtain ⟨G, K, H1, H2, H3, H4, H5⟩ := H
    have hi : i < mS S := by omega
    have q6 := G.2.1 6 (by decide) (by decide)
    rw [shS_a (by decide), ← em] at q6
    have n3 : ¬ ((mS S : Nat) : Int) ≤ (i : Int) := by omega
    have e5 : w32 ((i : Int) + 1) = ((i + 1 : Nat) : Int) := by rw [w32_in] <;> omega
    have ho : isO h 4 0 = true := isO_rd G.1.1
    have ca := c_machineAt0 (mb := mb) F G (shS_a (by decide)) (fun m hm => by
      by_cases c : m < i
      · exact (H1 m hm c).1
      · exact (H2 m hm (by omega)).1) i hi
    obtain ⟨p1, p2, ⟨M, ⟨wd, g5, g5'⟩, g6, g7, Fr⟩, p4⟩ := H2 i hi (Nat.le_refl _)
    have o0 := p4 0 (by omega)
    rw [Nat.add_zero] at o0
    have sw : SameR (fun t x => t = 1 ∧ x = mb i) h (wr h 1 (mb i) 5 (aI 0)) := SameR.wr ⟨rfl, rfl⟩
    have hown : ∀ t x, (t = 1 ∧ x = mb i) → own x = 1 + i := fun t x z => by rw [z.2]; exact o0
    have i16 : i < 16 := by omega
    have H' : ShI S p q (wr h 1 (mb i) 5 (aI 0)) mb sb own (i + 1) := by
      refine ⟨G.same (fun t x z => by omega) sw, K.same2 (fun t x z => by omega) sw, fun m hm hmi => ?_, fun m hm hmi => (H2 m hm (by omega)).go AgM.rf sw (fun t z => by omega) (fun t x z => by have := hown t x z; omega), fun k hk => (H3 k hk).go AgS.rf sw (fun t z => by omega) (fun t x z => by have := hown t x z; omega), H4, fun x hx => H5 x (by rw [wr_len] at hx; exact hx)⟩
      by_cases c : m = i
      · subst c
        refine ⟨by rw [rd_wn (Or.inl (by decide))]; exact p1, p2, ⟨M.fld (Nat.le_refl _), ⟨0, rd_wr g5, fun z => absurd rfl z⟩, by rw [rd_wn (Or.inr (Or.inr (by decide)))]; exact g6, by rw [rd_wn (Or.inr (Or.inr (by decide)))]; exact g7, fun u hu => ?_⟩, p4⟩
        obtain ⟨x, y, hx, hy⟩ := Fr u hu
        exact ⟨x, y, by rw [rd_wn (Or.inl (by decide))]; exact hx, by rw [rd_wn (Or.inl (by decide))]; exact hy⟩
      · exact (H1 m hm (by omega)).go AgM.rf sw (fun t z => by omega) (fun t x z => by have := hown t x z; omega)
    obtain ⟨h', b1, b2, b3⟩ := ih (i + 1) _ (aR (some (mb i))) (by omega) H'
    refine ⟨h', ?_, b2, L0.tr ⟨wr_len, wr_slt⟩ b3⟩
    rw [← b1, x_X4_share_30]
    simp only [↓x_X4_share_0, ↓x_X4_share_1, ↓x_X4_share_2, ↓x_X4_share_5, ↓x_X4_share_6, ↓x_X4_share_7, ↓x_X4_share_10, ↓x_X4_share_11, ↓x_X4_share_13, ↓x_X4_share_16, ↓x_X4_share_17, ↓x_X4_share_18, ↓x_X4_share_19, ↓x_X4_share_20, ↓x_X4_share_23, ↓x_X4_share_24, ↓x_X4_share_25, ↓x_X4_share_28, ↓x_X4_share_29, ↓x_X4_share_31, ↓x_X4_share_32, ↓x_X4_share_35, ↓x_X4_share_38, ↓x_X4_share_39, ↓x_X4_share_40, ↓x_X4_share_43, ↓x_X4_share_45, ↓x_X4_share_47n, ↓x_X4_share_47s, ↓x_X4_share_50, ↓x_X4_share_52, ↓x_X4_share_53_0, ↓x_X4_share_53_1, ↓x_X4_share_56, ↓x_X4_share_59, ↓x_X4_share_62, ↓x_X4_share_63, ↓gK_of q6, n3, ho, ↓cKR ca, ↓pK_of g5, e5, ↓reduceIte]
theorem CK_share {S : SS} (F : WF S) (p q : Int) : CK mX4_share [aI p, aI q] aI S (o_share p q S) := by
  intro h C
  have C0 := C
  obtain ⟨G, K, mb, sb, own, P1, P2, P3, P4⟩ := C
  unfold o_share
  rw [e_X4_share]
  by_cases c : p < 1 ∨ q ≤ p ∨ 8 < q
  · rw [if_pos c]
    refine ⟨h, ?_, C0, grow_rf⟩
    by_cases c1 : p < 1
    · simp only [↓x_X4_share_0, ↓x_X4_share_1, ↓x_X4_share_2, ↓x_X4_share_5, ↓x_X4_share_6, ↓x_X4_share_7, ↓x_X4_share_10, ↓x_X4_share_11, ↓x_X4_share_13, ↓x_X4_share_16, ↓x_X4_share_17, ↓x_X4_share_18, ↓x_X4_share_19, ↓x_X4_share_20, ↓x_X4_share_23, ↓x_X4_share_24, ↓x_X4_share_25, ↓x_X4_share_28, ↓x_X4_share_29, ↓x_X4_share_31, ↓x_X4_share_32, ↓x_X4_share_35, ↓x_X4_share_38, ↓x_X4_share_39, ↓x_X4_share_40, ↓x_X4_share_43, ↓x_X4_share_45, ↓x_X4_share_47n, ↓x_X4_share_47s, ↓x_X4_share_50, ↓x_X4_share_52, ↓x_X4_share_53_0, ↓x_X4_share_53_1, ↓x_X4_share_56, ↓x_X4_share_59, ↓x_X4_share_62, ↓x_X4_share_63, c1, ↓reduceIte]
    · by_cases c2 : q ≤ p
      · simp only [↓x_X4_share_0, ↓x_X4_share_1, ↓x_X4_share_2, ↓x_X4_share_5, ↓x_X4_share_6, ↓x_X4_share_7, ↓x_X4_share_10, ↓x_X4_share_11, ↓x_X4_share_13, ↓x_X4_share_16, ↓x_X4_share_17, ↓x_X4_share_18, ↓x_X4_share_19, ↓x_X4_share_20, ↓x_X4_share_23, ↓x_X4_share_24, ↓x_X4_share_25, ↓x_X4_share_28, ↓x_X4_share_29, ↓x_X4_share_31, ↓x_X4_share_32, ↓x_X4_share_35, ↓x_X4_share_38, ↓x_X4_share_39, ↓x_X4_share_40, ↓x_X4_share_43, ↓x_X4_share_45, ↓x_X4_share_47n, ↓x_X4_share_47s, ↓x_X4_share_50, ↓x_X4_share_52, ↓x_X4_share_53_0, ↓x_X4_share_53_1, ↓x_X4_share_56, ↓x_X4_share_59, ↓x_X4_share_62, ↓x_X4_share_63, c1, c2, ↓reduceIte]
      · have c3 : ¬ q ≤ 8 := by omega
        simp only [↓x_X4_share_0, ↓x_X4_share_1, ↓x_X4_share_2, ↓x_X4_share_5, ↓x_X4_share_6, ↓x_X4_share_7, ↓x_X4_share_10, ↓x_X4_share_11, ↓x_X4_share_13, ↓x_X4_share_16, ↓x_X4_share_17, ↓x_X4_share_18, ↓x_X4_share_19, ↓x_X4_share_20, ↓x_X4_share_23, ↓x_X4_share_24, ↓x_X4_share_25, ↓x_X4_share_28, ↓x_X4_share_29, ↓x_X4_share_31, ↓x_X4_share_32, ↓x_X4_share_35, ↓x_X4_share_38, ↓x_X4_share_39, ↓x_X4_share_40, ↓x_X4_share_43, ↓x_X4_share_45, ↓x_X4_share_47n, ↓x_X4_share_47s, ↓x_X4_share_50, ↓x_X4_share_52, ↓x_X4_share_53_0, ↓x_X4_share_53_1, ↓x_X4_share_56, ↓x_X4_share_59, ↓x_X4_share_62, ↓x_X4_share_63, c1, c2, c3, ↓reduceIte]
  · rw [if_neg c]
    have c1 : ¬ p < 1 := by omega
    have c2 : ¬ q ≤ p := by omega
    have c3 : q ≤ 8 := by omega
    have q8 := G.2.1 8 (by decide) (by decide)
    have q9 : rd (wr h 4 0 8 (aI p)) 4 0 9 = some (aI (S 0 9 0 0)) := by rw [rd_wn (Or.inr (Or.inr (by decide)))]; exact G.2.1 9 (by decide) (by decide)
    have sw : SameR (fun t x => t = 4 ∧ x = 0) h (wr (wr h 4 0 8 (aI p)) 4 0 9 (aI q)) := (SameR.wr ⟨rfl, rfl⟩).tr (SameR.wr ⟨rfl, rfl⟩)
    have h3 : ∀ t x, (t = 4 ∧ x = 0) → own x = 0 := fun t x z => P3 x (by omega)
    have H : ShI S p q (wr (wr h 4 0 8 (aI p)) 4 0 9 (aI q)) mb sb own 0 := ⟨(G.wI (k := 8) (by decide) p).wI (k := 9) (by decide) q, K.same2 (fun t x z => by omega) sw, fun m _ z => by omega, fun m hm _ => (P1 m hm).go AgM.rf sw (fun t z => by omega) (fun t x z => by have := h3 t x z; omega), fun k hk => (P2 k hk).go shS_ag sw (fun t z => by omega) (fun t x z => by have := h3 t x z; omega), P3, fun x hx => P4 x (by rw [wr_len, wr_len] at hx; exact hx)⟩
    obtain ⟨h', a1, ⟨b1, b2, b3, b4, b5, b6, b7⟩, a3⟩ := l_share F (mS S) 0 _ aU (by omega) H
    refine ⟨h', ?_, ⟨b1, b2, mb, sb, own, fun m hm => b3 m hm hm, fun k hk => b5 k hk, b6, b7⟩, grow_eq ⟨by rw [a3.1, wr_len, wr_len], by rw [a3.2, wr_slt, wr_slt]⟩⟩
    simp only [↓x_X4_share_0, ↓x_X4_share_1, ↓x_X4_share_2, ↓x_X4_share_5, ↓x_X4_share_6, ↓x_X4_share_7, ↓x_X4_share_10, ↓x_X4_share_11, ↓x_X4_share_13, ↓x_X4_share_16, ↓x_X4_share_17, ↓x_X4_share_18, ↓x_X4_share_19, ↓x_X4_share_20, ↓x_X4_share_23, ↓x_X4_share_24, ↓x_X4_share_25, ↓x_X4_share_28, ↓x_X4_share_29, ↓x_X4_share_31, ↓x_X4_share_32, ↓x_X4_share_35, ↓x_X4_share_38, ↓x_X4_share_39, ↓x_X4_share_40, ↓x_X4_share_43, ↓x_X4_share_45, ↓x_X4_share_47n, ↓x_X4_share_47s, ↓x_X4_share_50, ↓x_X4_share_52, ↓x_X4_share_53_0, ↓x_X4_share_53_1, ↓x_X4_share_56, ↓x_X4_share_59, ↓x_X4_share_62, ↓x_X4_share_63, c1, c2, c3, ↓pK_of q8, ↓pK_of q9, ↓reduceIte]
    exact a1
/-! ===== copy ===== -/
def cpS (S : SS) (k i l j n : Nat) : SS := fun t a b c => if t = 5 ∧ a = l ∧ c = 0 ∧ j ≤ b ∧ b < j + n then S 5 k (i + (b - j)) 0 else S t a b c
theorem cpS_t {S : SS} {k i l j n t a b c : Nat} (h : t ≠ 5) : cpS S k i l j n t a b c = S t a b c := if_neg fun z => h z.1
theorem cpS_a {S : SS} {k i l j n t a b c : Nat} (h : a ≠ l) : cpS S k i l j n t a b c = S t a b c := if_neg fun z => h z.2.1
theorem WF.cp {S : SS} (F : WF S) {k i l j n : Nat} : WF (cpS S k i l j n) := F.cg (fun _ _ _ => cpS_t (by decide)) (fun _ _ _ => cpS_t (by decide)) (fun _ _ => cpS_t (by decide)) (fun _ _ _ => cpS_t (by decide)) (fun _ _ => cpS_t (by decide))
def o_copy (k i l j n : Int) (S : SS) : Int × SS := if ¬ isT S k ∨ ¬ isT S l then (-1, S) else if ¬ S 4 k.toNat 2 0 = 0 ∨ ¬ S 4 l.toNat 2 0 = 0 then (-3, fdS S 1) else if ¬ S 4 k.toNat 0 0 = S 4 l.toNat 0 0 then (-3, fdS S 3) else if ¬ (0 ≤ i ∧ 0 ≤ n ∧ i + n ≤ S 4 k.toNat 1 0) ∨ ¬ (0 ≤ j ∧ 0 ≤ n ∧ j + n ≤ S 4 l.toNat 1 0) then (-3, fdS S 2) else (1, cpS S k.toNat i.toNat l.toNat j.toNat n.toNat)
theorem cell_of {h : AH} {t a n : Nat} {f : Nat → AV} (l : ln h a = some n) (r : ∀ i, i < n → rd h t a i = some (f i)) (h0 : 0 < n) : ∃ vs, h[a]? = some (t, vs) ∧ vs.length = n ∧ ∀ i, i < n → vs[i]? = some (f i) := by
  have r0 := r 0 h0
  unfold ln at l
  unfold rd at r0
  cases e : h[a]? with
  | none => rw [e] at l; cases l
  | some c =>
    rw [e] at l r0
    obtain ⟨tc, vs⟩ := c
    simp only at l r0
    have et : tc = t := by
      cases q : Nat.beq tc t with
      | true => exact Nat.eq_of_beq_eq_true q
      | false => rw [q] at r0; cases r0
    subst et
    refine ⟨vs, rfl, ?_, fun i hi => ?_⟩
    · cases q : Nat.ble 10 tc with
      | true => rw [q] at l; exact Option.some.inj l
      | false => rw [q] at l; cases l
    · have ri := r i hi
      unfold rd at ri
      rw [e] at ri
      simp only [Nat.beq_refl, cond_true] at ri
      exact ri
theorem rd_set {h : AH} {a : Nat} {t : Nat} {vs : List AV} (hl : a < h.length) {t' a' k : Nat} : rd (h.set a (t, vs)) t' a' k = if a' = a then (bif Nat.beq t t' then vs[k]? else none) else rd h t' a' k := by
  unfold rd
  by_cases e : a' = a
  · subst e
    rw [if_pos rfl, List.getElem?_set_self hl]
  · rw [if_neg e, List.getElem?_set_ne (Ne.symm e)]
theorem set_same {h : AH} {a t : Nat} {vs ws : List AV} (e : h[a]? = some (t, vs)) (hl : ws.length = vs.length) {Rg : Nat → Nat → Prop} (hR : ∀ t, Rg t a) : SameR Rg h (h.set a (t, ws)) := by
  have ha : a < h.length := (List.getElem?_eq_some_iff.mp e).1
  have hg : ∀ a', a' ≠ a → (h.set a (t, ws))[a']? = h[a']? := fun a' z => List.getElem?_set_ne (Ne.symm z)
  have hs : (h.set a (t, ws))[a]? = some (t, ws) := List.getElem?_set_self ha
  refine ⟨fun t' a' k z => ?_, fun t' a' => ?_, fun a' => ?_, fun a' => ?_, List.length_set, ?_⟩
  · rw [rd_set ha, if_neg (fun q => by subst q; exact z (hR t'))]
  · unfold isO
    by_cases q : a' = a
    · subst q; rw [hs, e]
    · rw [hg a' q]
  · unfold ln
    by_cases q : a' = a
    · subst q; rw [hs, e]; simp only [hl]
    · rw [hg a' q]
  · unfold tagR
    by_cases q : a' = a
    · subst q; rw [hs, e]
    · rw [hg a' q]
  · unfold slt
    rw [List.map_set]
    have e2 : (h.map fun c => c.2.length)[a]? = some vs.length := by rw [List.getElem?_map, e]; rfl
    rw [hl]
    congr 1
    apply List.ext_getElem?
    intro i
    by_cases q : i = a
    · subst q; rw [List.getElem?_set_self (by rw [List.length_map]; exact ha), e2]
    · rw [List.getElem?_set_ne (Ne.symm q)]
theorem cpL_at2 {vs ws : List AV} {sp dp n b : Nat} (hb : b < ws.length) : (cpL vs ws sp dp n)[b]? = some (if dp ≤ b ∧ b < dp + n then vs.getD (sp + (b - dp)) aU else ws.getD b aU) := by
  unfold cpL
  rw [List.getElem?_map, List.getElem?_range hb]
  rfl
theorem cpL_len {vs ws : List AV} {sp dp n : Nat} : (cpL vs ws sp dp n).length = ws.length := by unfold cpL; rw [List.length_map, List.length_range]
theorem cell_o {h : AH} {a n : Nat} (l : ln h a = some n) (o : isO h 11 a = true) : ∃ vs, h[a]? = some (11, vs) ∧ vs.length = n := by
  unfold ln at l
  unfold isO at o
  cases e : h[a]? with
  | none => rw [e] at l; cases l
  | some c =>
    rw [e] at l o
    obtain ⟨tc, vs⟩ := c
    simp only at l o
    have et : tc = 11 := Nat.eq_of_beq_eq_true o
    subst et
    exact ⟨vs, rfl, Option.some.inj l⟩
theorem getD_of {vs : List AV} {i : Nat} {v : AV} (h : vs[i]? = some v) : vs.getD i aU = v := by rw [List.getD_eq_getElem?_getD, h]; rfl
theorem CK_copy {S : SS} (F : WF S) (k i l j n : Int) : CK mX4_copy [aI k, aI i, aI l, aI j, aI n] aI S (o_copy k i l j n S) := by
  intro h C
  have C0 := C
  obtain ⟨G, K, mb, sb, own, P⟩ := C
  have ho : isO h 4 0 = true := isO_rd G.1.1
  have ca := c_sheetAt F G P k
  have cb := c_sheetAt F G P l
  have cf1 := c_fd1 C0
  have cf2 := c_fd2 C0
  have cf3 := c_fd3 C0
  have z : ¬ (1 : Int) = 0 := by decide
  unfold o_copy
  rw [e_X4_copy]
  by_cases c1 : isT S k
  · rw [if_pos c1] at ca
    by_cases c0 : isT S l
    · rw [if_pos c0] at cb
      rw [if_neg (by omega)]
      have hk : k.toNat < sS S := by unfold sS; omega
      have hl : l.toNat < sS S := by unfold sS; omega
      obtain ⟨p1, p2, p3, p4, p5, p6⟩ := P.2.1 k.toNat hk
      obtain ⟨q1, q2, q3, q4, q5, q6⟩ := P.2.1 l.toNat hl
      have fk := (F.2.2 k.toNat hk).2.1
      have fl := (F.2.2 l.toNat hl).2.1
      have hos : isO h 3 (sb k.toNat) = true := isO_rd p3.1
      have hol : isO h 3 (sb l.toNat) = true := isO_rd q3.1
      have ch := c_hasPlaces p3 fk i n
      have cg := c_hasPlaces q3 fl j n
      have p30 := p3
      have q30 := q3
      obtain ⟨g0, g1, g2, g3, g4⟩ := p3
      obtain ⟨f0, f1, f2, f3, f4⟩ := q3
      by_cases c2 : S 4 k.toNat 2 0 = 0
      · by_cases c3 : S 4 l.toNat 2 0 = 0
        · rw [if_neg (by omega)]
          rw [c2] at g2
          rw [c3] at f2
          by_cases c4 : S 4 k.toNat 0 0 = S 4 l.toNat 0 0
          · rw [if_neg (not_not_intro c4)]
            rw [c4] at g0
            by_cases c5 : 0 ≤ i ∧ 0 ≤ n ∧ i + n ≤ S 4 k.toNat 1 0
            · rw [if_pos c5] at ch
              by_cases c6 : 0 ≤ j ∧ 0 ≤ n ∧ j + n ≤ S 4 l.toNat 1 0
              · rw [if_pos c6] at cg
                rw [if_neg (by omega)]
                obtain ⟨vs, v1, v2⟩ := cell_o g3 p6
                obtain ⟨ws, w1, w2⟩ := cell_o f3 q6
                obtain ⟨i', rfl⟩ := Int.eq_ofNat_of_zero_le c5.1
                obtain ⟨j', rfl⟩ := Int.eq_ofNat_of_zero_le c6.1
                obtain ⟨n', rfl⟩ := Int.eq_ofNat_of_zero_le c5.2.1
                rw [Int.toNat_natCast, Int.toNat_natCast, Int.toNat_natCast]
                have hb1 : i' + n' ≤ vs.length := by rw [v2]; omega
                have hb2 : j' + n' ≤ ws.length := by rw [w2]; omega
                have x := x_X4_copy_111 (n := (n' : Int)) (dp := (j' : Int)) (sp := (i' : Int)) (al := [aR (some 0), aI k, aI i', aI l, aI j', aI n', aR (some (sb k.toNat)), aR (some (sb l.toNat))]) v1 w1 ⟨by omega, by omega, by omega, by omega, by omega⟩
                rw [Int.toNat_natCast, Int.toNat_natCast, Int.toNat_natCast] at x
                have sw : SameR (fun t x => x = sb l.toNat + 1) h (h.set (sb l.toNat + 1) (11, cpL vs ws i' j' n')) := set_same w1 cpL_len (fun _ => rfl)
                have hl' : sb l.toNat + 1 < h.length := (List.getElem?_eq_some_iff.mp w1).1
                have hv : ∀ b, b < vs.length → vs[b]? = some (aJ (S 5 k.toNat b 0)) := fun b hb => by
                  have r := g4 b (by omega)
                  unfold rd at r
                  rw [v1] at r
                  exact r
                have hw : ∀ b, b < ws.length → ws[b]? = some (aJ (S 5 l.toNat b 0)) := fun b hb => by
                  have r := f4 b (by omega)
                  unfold rd at r
                  rw [w1] at r
                  exact r
                have f16 := F.1.1
                have ag : AgG S (cpS S k.toNat i' l.toNat j' n') := ⟨fun _ => cpS_t (by decide), fun _ => cpS_t (by decide), fun _ => cpS_t (by decide), fun _ => cpS_t (by decide)⟩
                have am : ∀ m, AgM S (cpS S k.toNat i' l.toNat j' n') m := fun m => ⟨fun _ => cpS_t (by decide), fun _ => cpS_t (by decide), fun _ _ => cpS_t (by decide), cpS_t (by decide), cpS_t (by decide)⟩
                have as : ∀ k', k' ≠ l.toNat → AgS S (cpS S k.toNat i' l.toNat j' n') k' := fun k' hk' => ⟨fun _ => cpS_t (by decide), fun _ => cpS_a hk'⟩
                refine ⟨h.set (sb l.toNat + 1) (11, cpL vs ws i' j' n'), ?_, ⟨(G.same (fun t x z => by omega) sw).congr ag, K.same2 (fun t x z => by omega) sw, mb, sb, own, P.sheet (k := l.toNat) (by unfold mS; omega) sw (fun t x z => by rw [z]; exact q5) am as ag.1 ?_⟩, grow_eq ⟨sw.2.2.2.2.1, sw.2.2.2.2.2⟩⟩
                · simp only [↓x_X4_copy_0, ↓x_X4_copy_1, ↓x_X4_copy_2, ↓x_X4_copy_5, ↓x_X4_copy_7, ↓x_X4_copy_8, ↓x_X4_copy_9, ↓x_X4_copy_12, ↓x_X4_copy_14, ↓x_X4_copy_16n, ↓x_X4_copy_16s, ↓x_X4_copy_19, ↓x_X4_copy_21n, ↓x_X4_copy_21s, ↓x_X4_copy_24, ↓x_X4_copy_25, ↓x_X4_copy_26, ↓x_X4_copy_28, ↓x_X4_copy_31, ↓x_X4_copy_34, ↓x_X4_copy_36, ↓x_X4_copy_39, ↓x_X4_copy_42, ↓x_X4_copy_43, ↓x_X4_copy_44, ↓x_X4_copy_47, ↓x_X4_copy_48, ↓x_X4_copy_50, ↓x_X4_copy_53, ↓x_X4_copy_55, ↓x_X4_copy_58, ↓x_X4_copy_61, ↓x_X4_copy_62, ↓x_X4_copy_63, ↓x_X4_copy_66, ↓x_X4_copy_67, ↓x_X4_copy_69, ↓x_X4_copy_70, ↓x_X4_copy_72, ↓x_X4_copy_75, ↓x_X4_copy_78, ↓x_X4_copy_80, ↓x_X4_copy_82, ↓x_X4_copy_84, ↓x_X4_copy_87, ↓x_X4_copy_90, ↓x_X4_copy_91, ↓x_X4_copy_92, ↓x_X4_copy_95, ↓x_X4_copy_96, ↓x_X4_copy_98, ↓x_X4_copy_101, ↓x_X4_copy_102, ↓x_X4_copy_104, ↓x_X4_copy_107, ↓x_X4_copy_109, ↓x_X4_copy_114, ↓x_X4_copy_115, ho, hos, hol, ↓cKR ca, ↓cKR cb, ↓gK_of g0, ↓gK_of g1, ↓gK_of g2, ↓gK_of f0, ↓gK_of f1, ↓gK_of f2, ↓cKI ch, ↓cKI cg, z, not_true_eq_false, not_false_eq_true, ↓reduceIte]
                  refine x.trans ?_
                  simp only [↓x_X4_copy_0, ↓x_X4_copy_1, ↓x_X4_copy_2, ↓x_X4_copy_5, ↓x_X4_copy_7, ↓x_X4_copy_8, ↓x_X4_copy_9, ↓x_X4_copy_12, ↓x_X4_copy_14, ↓x_X4_copy_16n, ↓x_X4_copy_16s, ↓x_X4_copy_19, ↓x_X4_copy_21n, ↓x_X4_copy_21s, ↓x_X4_copy_24, ↓x_X4_copy_25, ↓x_X4_copy_26, ↓x_X4_copy_28, ↓x_X4_copy_31, ↓x_X4_copy_34, ↓x_X4_copy_36, ↓x_X4_copy_39, ↓x_X4_copy_42, ↓x_X4_copy_43, ↓x_X4_copy_44, ↓x_X4_copy_47, ↓x_X4_copy_48, ↓x_X4_copy_50, ↓x_X4_copy_53, ↓x_X4_copy_55, ↓x_X4_copy_58, ↓x_X4_copy_61, ↓x_X4_copy_62, ↓x_X4_copy_63, ↓x_X4_copy_66, ↓x_X4_copy_67, ↓x_X4_copy_69, ↓x_X4_copy_70, ↓x_X4_copy_72, ↓x_X4_copy_75, ↓x_X4_copy_78, ↓x_X4_copy_80, ↓x_X4_copy_82, ↓x_X4_copy_84, ↓x_X4_copy_87, ↓x_X4_copy_90, ↓x_X4_copy_91, ↓x_X4_copy_92, ↓x_X4_copy_95, ↓x_X4_copy_96, ↓x_X4_copy_98, ↓x_X4_copy_101, ↓x_X4_copy_102, ↓x_X4_copy_104, ↓x_X4_copy_107, ↓x_X4_copy_109, ↓x_X4_copy_114, ↓x_X4_copy_115]
                · show SP (cpS S k.toNat i' l.toNat j' n') l.toNat _ _
                  refine ⟨by rw [cpS_t (by decide), sw.1 _ _ _ (by omega)]; exact f0, by rw [sw.1 _ _ _ (by omega)]; exact f1, by rw [cpS_t (by decide), sw.1 _ _ _ (by omega), c3]; exact f2, by rw [cpS_t (by decide), sw.2.2.1]; exact f3, fun b hb => ?_⟩
                  rw [cpS_t (by decide)] at hb
                  rw [rd_set hl', if_pos rfl]
                  show (cpL vs ws i' j' n')[b]? = _
                  rw [cpL_at2 (by omega)]
                  by_cases d : j' ≤ b ∧ b < j' + n'
                  · rw [if_pos d, getD_of (hv (i' + (b - j')) (by omega))]
                    have e : cpS S k.toNat i' l.toNat j' n' 5 l.toNat b 0 = S 5 k.toNat (i' + (b - j')) 0 := if_pos ⟨rfl, rfl, rfl, d⟩
                    rw [e]
                  · rw [if_neg d, getD_of (hw b (by omega))]
                    have e : cpS S k.toNat i' l.toNat j' n' 5 l.toNat b 0 = S 5 l.toNat b 0 := if_neg fun z => d z.2.2.2
                    rw [e]
              · rw [if_neg c6] at cg
                rw [if_pos (Or.inr c6)]
                refine ⟨_, ?_, K_fd C0 2⟩
                simp only [↓x_X4_copy_0, ↓x_X4_copy_1, ↓x_X4_copy_2, ↓x_X4_copy_5, ↓x_X4_copy_7, ↓x_X4_copy_8, ↓x_X4_copy_9, ↓x_X4_copy_12, ↓x_X4_copy_14, ↓x_X4_copy_16n, ↓x_X4_copy_16s, ↓x_X4_copy_19, ↓x_X4_copy_21n, ↓x_X4_copy_21s, ↓x_X4_copy_24, ↓x_X4_copy_25, ↓x_X4_copy_26, ↓x_X4_copy_28, ↓x_X4_copy_31, ↓x_X4_copy_34, ↓x_X4_copy_36, ↓x_X4_copy_39, ↓x_X4_copy_42, ↓x_X4_copy_43, ↓x_X4_copy_44, ↓x_X4_copy_47, ↓x_X4_copy_48, ↓x_X4_copy_50, ↓x_X4_copy_53, ↓x_X4_copy_55, ↓x_X4_copy_58, ↓x_X4_copy_61, ↓x_X4_copy_62, ↓x_X4_copy_63, ↓x_X4_copy_66, ↓x_X4_copy_67, ↓x_X4_copy_69, ↓x_X4_copy_70, ↓x_X4_copy_72, ↓x_X4_copy_75, ↓x_X4_copy_78, ↓x_X4_copy_80, ↓x_X4_copy_82, ↓x_X4_copy_84, ↓x_X4_copy_87, ↓x_X4_copy_90, ↓x_X4_copy_91, ↓x_X4_copy_92, ↓x_X4_copy_95, ↓x_X4_copy_96, ↓x_X4_copy_98, ↓x_X4_copy_101, ↓x_X4_copy_102, ↓x_X4_copy_104, ↓x_X4_copy_107, ↓x_X4_copy_109, ↓x_X4_copy_114, ↓x_X4_copy_115, ho, hos, hol, ↓cKR ca, ↓cKR cb, ↓gK_of g0, ↓gK_of g2, ↓gK_of f0, ↓gK_of f2, ↓cKI ch, ↓cKI cg, ↓cKI cf2, z, not_true_eq_false, ↓reduceIte]
            · rw [if_neg c5] at ch
              rw [if_pos (Or.inl c5)]
              refine ⟨_, ?_, K_fd C0 2⟩
              simp only [↓x_X4_copy_0, ↓x_X4_copy_1, ↓x_X4_copy_2, ↓x_X4_copy_5, ↓x_X4_copy_7, ↓x_X4_copy_8, ↓x_X4_copy_9, ↓x_X4_copy_12, ↓x_X4_copy_14, ↓x_X4_copy_16n, ↓x_X4_copy_16s, ↓x_X4_copy_19, ↓x_X4_copy_21n, ↓x_X4_copy_21s, ↓x_X4_copy_24, ↓x_X4_copy_25, ↓x_X4_copy_26, ↓x_X4_copy_28, ↓x_X4_copy_31, ↓x_X4_copy_34, ↓x_X4_copy_36, ↓x_X4_copy_39, ↓x_X4_copy_42, ↓x_X4_copy_43, ↓x_X4_copy_44, ↓x_X4_copy_47, ↓x_X4_copy_48, ↓x_X4_copy_50, ↓x_X4_copy_53, ↓x_X4_copy_55, ↓x_X4_copy_58, ↓x_X4_copy_61, ↓x_X4_copy_62, ↓x_X4_copy_63, ↓x_X4_copy_66, ↓x_X4_copy_67, ↓x_X4_copy_69, ↓x_X4_copy_70, ↓x_X4_copy_72, ↓x_X4_copy_75, ↓x_X4_copy_78, ↓x_X4_copy_80, ↓x_X4_copy_82, ↓x_X4_copy_84, ↓x_X4_copy_87, ↓x_X4_copy_90, ↓x_X4_copy_91, ↓x_X4_copy_92, ↓x_X4_copy_95, ↓x_X4_copy_96, ↓x_X4_copy_98, ↓x_X4_copy_101, ↓x_X4_copy_102, ↓x_X4_copy_104, ↓x_X4_copy_107, ↓x_X4_copy_109, ↓x_X4_copy_114, ↓x_X4_copy_115, ho, hos, hol, ↓cKR ca, ↓cKR cb, ↓gK_of g0, ↓gK_of g2, ↓gK_of f0, ↓gK_of f2, ↓cKI ch, ↓cKI cf2, not_true_eq_false, ↓reduceIte]
          · rw [if_pos c4]
            refine ⟨_, ?_, K_fd C0 3⟩
            simp only [↓x_X4_copy_0, ↓x_X4_copy_1, ↓x_X4_copy_2, ↓x_X4_copy_5, ↓x_X4_copy_7, ↓x_X4_copy_8, ↓x_X4_copy_9, ↓x_X4_copy_12, ↓x_X4_copy_14, ↓x_X4_copy_16n, ↓x_X4_copy_16s, ↓x_X4_copy_19, ↓x_X4_copy_21n, ↓x_X4_copy_21s, ↓x_X4_copy_24, ↓x_X4_copy_25, ↓x_X4_copy_26, ↓x_X4_copy_28, ↓x_X4_copy_31, ↓x_X4_copy_34, ↓x_X4_copy_36, ↓x_X4_copy_39, ↓x_X4_copy_42, ↓x_X4_copy_43, ↓x_X4_copy_44, ↓x_X4_copy_47, ↓x_X4_copy_48, ↓x_X4_copy_50, ↓x_X4_copy_53, ↓x_X4_copy_55, ↓x_X4_copy_58, ↓x_X4_copy_61, ↓x_X4_copy_62, ↓x_X4_copy_63, ↓x_X4_copy_66, ↓x_X4_copy_67, ↓x_X4_copy_69, ↓x_X4_copy_70, ↓x_X4_copy_72, ↓x_X4_copy_75, ↓x_X4_copy_78, ↓x_X4_copy_80, ↓x_X4_copy_82, ↓x_X4_copy_84, ↓x_X4_copy_87, ↓x_X4_copy_90, ↓x_X4_copy_91, ↓x_X4_copy_92, ↓x_X4_copy_95, ↓x_X4_copy_96, ↓x_X4_copy_98, ↓x_X4_copy_101, ↓x_X4_copy_102, ↓x_X4_copy_104, ↓x_X4_copy_107, ↓x_X4_copy_109, ↓x_X4_copy_114, ↓x_X4_copy_115, ho, ↓cKR ca, ↓cKR cb, ↓gK_of g0, ↓gK_of g2, ↓gK_of f0, ↓gK_of f2, ↓cKI cf3, c4, not_true_eq_false, ↓reduceIte]
        · rw [if_pos (Or.inr c3)]
          rw [c2] at g2
          refine ⟨_, ?_, K_fd C0 1⟩
          simp only [↓x_X4_copy_0, ↓x_X4_copy_1, ↓x_X4_copy_2, ↓x_X4_copy_5, ↓x_X4_copy_7, ↓x_X4_copy_8, ↓x_X4_copy_9, ↓x_X4_copy_12, ↓x_X4_copy_14, ↓x_X4_copy_16n, ↓x_X4_copy_16s, ↓x_X4_copy_19, ↓x_X4_copy_21n, ↓x_X4_copy_21s, ↓x_X4_copy_24, ↓x_X4_copy_25, ↓x_X4_copy_26, ↓x_X4_copy_28, ↓x_X4_copy_31, ↓x_X4_copy_34, ↓x_X4_copy_36, ↓x_X4_copy_39, ↓x_X4_copy_42, ↓x_X4_copy_43, ↓x_X4_copy_44, ↓x_X4_copy_47, ↓x_X4_copy_48, ↓x_X4_copy_50, ↓x_X4_copy_53, ↓x_X4_copy_55, ↓x_X4_copy_58, ↓x_X4_copy_61, ↓x_X4_copy_62, ↓x_X4_copy_63, ↓x_X4_copy_66, ↓x_X4_copy_67, ↓x_X4_copy_69, ↓x_X4_copy_70, ↓x_X4_copy_72, ↓x_X4_copy_75, ↓x_X4_copy_78, ↓x_X4_copy_80, ↓x_X4_copy_82, ↓x_X4_copy_84, ↓x_X4_copy_87, ↓x_X4_copy_90, ↓x_X4_copy_91, ↓x_X4_copy_92, ↓x_X4_copy_95, ↓x_X4_copy_96, ↓x_X4_copy_98, ↓x_X4_copy_101, ↓x_X4_copy_102, ↓x_X4_copy_104, ↓x_X4_copy_107, ↓x_X4_copy_109, ↓x_X4_copy_114, ↓x_X4_copy_115, ho, ↓cKR ca, ↓cKR cb, ↓gK_of g2, ↓gK_of f2, c3, ↓cKI cf1, not_true_eq_false, ↓reduceIte]
      · rw [if_pos (Or.inl c2)]
        refine ⟨_, ?_, K_fd C0 1⟩
        simp only [↓x_X4_copy_0, ↓x_X4_copy_1, ↓x_X4_copy_2, ↓x_X4_copy_5, ↓x_X4_copy_7, ↓x_X4_copy_8, ↓x_X4_copy_9, ↓x_X4_copy_12, ↓x_X4_copy_14, ↓x_X4_copy_16n, ↓x_X4_copy_16s, ↓x_X4_copy_19, ↓x_X4_copy_21n, ↓x_X4_copy_21s, ↓x_X4_copy_24, ↓x_X4_copy_25, ↓x_X4_copy_26, ↓x_X4_copy_28, ↓x_X4_copy_31, ↓x_X4_copy_34, ↓x_X4_copy_36, ↓x_X4_copy_39, ↓x_X4_copy_42, ↓x_X4_copy_43, ↓x_X4_copy_44, ↓x_X4_copy_47, ↓x_X4_copy_48, ↓x_X4_copy_50, ↓x_X4_copy_53, ↓x_X4_copy_55, ↓x_X4_copy_58, ↓x_X4_copy_61, ↓x_X4_copy_62, ↓x_X4_copy_63, ↓x_X4_copy_66, ↓x_X4_copy_67, ↓x_X4_copy_69, ↓x_X4_copy_70, ↓x_X4_copy_72, ↓x_X4_copy_75, ↓x_X4_copy_78, ↓x_X4_copy_80, ↓x_X4_copy_82, ↓x_X4_copy_84, ↓x_X4_copy_87, ↓x_X4_copy_90, ↓x_X4_copy_91, ↓x_X4_copy_92, ↓x_X4_copy_95, ↓x_X4_copy_96, ↓x_X4_copy_98, ↓x_X4_copy_101, ↓x_X4_copy_102, ↓x_X4_copy_104, ↓x_X4_copy_107, ↓x_X4_copy_109, ↓x_X4_copy_114, ↓x_X4_copy_115, ho, ↓cKR ca, ↓cKR cb, ↓gK_of g2, c2, ↓cKI cf1, not_false_eq_true, ↓reduceIte]
    · rw [if_neg c0] at cb
      rw [if_pos (Or.inr c0)]
      refine ⟨h, ?_, C0, grow_rf⟩
      simp only [↓x_X4_copy_0, ↓x_X4_copy_1, ↓x_X4_copy_2, ↓x_X4_copy_5, ↓x_X4_copy_7, ↓x_X4_copy_8, ↓x_X4_copy_9, ↓x_X4_copy_12, ↓x_X4_copy_14, ↓x_X4_copy_16n, ↓x_X4_copy_16s, ↓x_X4_copy_19, ↓x_X4_copy_21n, ↓x_X4_copy_21s, ↓x_X4_copy_24, ↓x_X4_copy_25, ↓x_X4_copy_26, ↓x_X4_copy_28, ↓x_X4_copy_31, ↓x_X4_copy_34, ↓x_X4_copy_36, ↓x_X4_copy_39, ↓x_X4_copy_42, ↓x_X4_copy_43, ↓x_X4_copy_44, ↓x_X4_copy_47, ↓x_X4_copy_48, ↓x_X4_copy_50, ↓x_X4_copy_53, ↓x_X4_copy_55, ↓x_X4_copy_58, ↓x_X4_copy_61, ↓x_X4_copy_62, ↓x_X4_copy_63, ↓x_X4_copy_66, ↓x_X4_copy_67, ↓x_X4_copy_69, ↓x_X4_copy_70, ↓x_X4_copy_72, ↓x_X4_copy_75, ↓x_X4_copy_78, ↓x_X4_copy_80, ↓x_X4_copy_82, ↓x_X4_copy_84, ↓x_X4_copy_87, ↓x_X4_copy_90, ↓x_X4_copy_91, ↓x_X4_copy_92, ↓x_X4_copy_95, ↓x_X4_copy_96, ↓x_X4_copy_98, ↓x_X4_copy_101, ↓x_X4_copy_102, ↓x_X4_copy_104, ↓x_X4_copy_107, ↓x_X4_copy_109, ↓x_X4_copy_114, ↓x_X4_copy_115, ho, ↓cKR ca, ↓cKR cb]
  · rw [if_neg c1] at ca
    rw [if_pos (Or.inl c1)]
    refine ⟨h, ?_, C0, grow_rf⟩
    simp only [↓x_X4_copy_0, ↓x_X4_copy_1, ↓x_X4_copy_2, ↓x_X4_copy_5, ↓x_X4_copy_7, ↓x_X4_copy_8, ↓x_X4_copy_9, ↓x_X4_copy_12, ↓x_X4_copy_14, ↓x_X4_copy_16n, ↓x_X4_copy_16s, ↓x_X4_copy_19, ↓x_X4_copy_21n, ↓x_X4_copy_21s, ↓x_X4_copy_24, ↓x_X4_copy_25, ↓x_X4_copy_26, ↓x_X4_copy_28, ↓x_X4_copy_31, ↓x_X4_copy_34, ↓x_X4_copy_36, ↓x_X4_copy_39, ↓x_X4_copy_42, ↓x_X4_copy_43, ↓x_X4_copy_44, ↓x_X4_copy_47, ↓x_X4_copy_48, ↓x_X4_copy_50, ↓x_X4_copy_53, ↓x_X4_copy_55, ↓x_X4_copy_58, ↓x_X4_copy_61, ↓x_X4_copy_62, ↓x_X4_copy_63, ↓x_X4_copy_66, ↓x_X4_copy_67, ↓x_X4_copy_69, ↓x_X4_copy_70, ↓x_X4_copy_72, ↓x_X4_copy_75, ↓x_X4_copy_78, ↓x_X4_copy_80, ↓x_X4_copy_82, ↓x_X4_copy_84, ↓x_X4_copy_87, ↓x_X4_copy_90, ↓x_X4_copy_91, ↓x_X4_copy_92, ↓x_X4_copy_95, ↓x_X4_copy_96, ↓x_X4_copy_98, ↓x_X4_copy_101, ↓x_X4_copy_102, ↓x_X4_copy_104, ↓x_X4_copy_107, ↓x_X4_copy_109, ↓x_X4_copy_114, ↓x_X4_copy_115, ho, ↓cKR ca, ↓cKR cb]
