/-! ===== sheet, machine ===== -/
def zsS (S : SS) (k : Nat) (kd n : Int) : SS := fun t a b c => if (t = 4 ∨ t = 5) ∧ a = k then (if t = 4 ∧ b = 0 ∧ c = 0 then kd else if t = 4 ∧ b = 1 ∧ c = 0 then n else 0) else S t a b c
theorem zsS_t {S : SS} {k : Nat} {kd n : Int} {t a b c : Nat} (h : t ≠ 4 ∧ t ≠ 5) : zsS S k kd n t a b c = S t a b c := if_neg fun z => by omega
theorem zsS_a {S : SS} {k : Nat} {kd n : Int} {t a b c : Nat} (h : a ≠ k) : zsS S k kd n t a b c = S t a b c := if_neg fun z => h z.2
def nsS (S : SS) (kd n : Int) : SS := ups (zsS S (sS S) kd n) 0 7 0 0 (S 0 7 0 0 + 1)
def o_sheet (kd n : Int) (S : SS) : Int × SS := if kd < 0 ∨ 3 < kd ∨ 24 < n then (-1, S) else if S 0 7 0 0 = 12 then (-2, S) else if n < 0 then (-3, fdS S 5) else (S 0 7 0 0, nsS S kd n)
theorem ns_ag {S : SS} {kd n : Int} : AgG (ups S 0 7 0 0 (S 0 7 0 0 + 1)) (nsS S kd n) := by
  refine ⟨fun j => ?_, fun j => ?_, fun j => ?_, fun j => ?_⟩
  · unfold nsS ups
    rw [zsS_t (by decide)]
  · unfold nsS
    rw [ups_t (by decide), ups_t (by decide), zsS_t (by decide)]
  · unfold nsS
    rw [ups_t (by decide), ups_t (by decide), zsS_t (by decide)]
  · unfold nsS
    rw [ups_t (by decide), ups_t (by decide), zsS_t (by decide)]
theorem ns_am {S : SS} {kd n : Int} (m : Nat) : AgM S (nsS S kd n) m := by
  refine ⟨fun b => ?_, fun s => ?_, fun s t => ?_, ?_, ?_⟩
  · unfold nsS
    rw [ups_t (by decide), zsS_t (by decide)]
  · unfold nsS
    rw [ups_t (by decide), zsS_t (by decide)]
  · unfold nsS
    rw [ups_t (by decide), zsS_t (by decide)]
  · unfold nsS
    rw [ups_a (by decide), zsS_t (by decide)]
  · unfold nsS
    rw [ups_a (by decide), zsS_t (by decide)]
theorem ns_as {S : SS} {kd n : Int} {k : Nat} (h : k ≠ sS S) : AgS S (nsS S kd n) k := by
  refine ⟨fun b => ?_, fun s => ?_⟩
  · unfold nsS
    rw [ups_t (by decide), zsS_a h]
  · unfold nsS
    rw [ups_t (by decide), zsS_a h]
theorem WF.ns {S : SS} (F : WF S) {kd n : Int} (h1 : 0 ≤ kd ∧ kd ≤ 3) (h2 : 0 ≤ n ∧ n ≤ 24) (h3 : ¬ S 0 7 0 0 = 12) : WF (nsS S kd n) := by
  obtain ⟨F0, F1, F2⟩ := F
  have e6 : nsS S kd n 0 6 0 0 = S 0 6 0 0 := by unfold nsS; rw [ups_a (by decide), zsS_t (by decide)]
  have e7 : nsS S kd n 0 7 0 0 = S 0 7 0 0 + 1 := by unfold nsS; rw [ups_s]
  have e8 : ∀ j, j ≠ 7 → nsS S kd n 0 j 0 0 = S 0 j 0 0 := fun j z => by unfold nsS; rw [ups_a z, zsS_t (by decide)]
  refine ⟨?_, fun m hm => ?_, fun k hk => ?_⟩
  · rw [e6, e7, e8 8 (by decide), e8 9 (by decide), e8 10 (by decide), e8 11 (by decide)]
    exact ⟨F0.1, by omega, F0.2.2⟩
  · unfold mS at hm
    rw [e6] at hm
    have g := ns_am (S := S) (kd := kd) (n := n) m
    have e2 : pyS (nsS S kd n) m = pyS S m := funext fun s => g.2.1 s
    have e3 : wS (nsS S kd n) m = wS S m := funext fun s => funext fun t => g.2.2.1 s t
    unfold nS
    rw [g.1, g.1, g.1, e2, e3]
    exact F1 m hm
  · unfold sS at hk
    rw [e7] at hk
    by_cases c : k = sS S
    · subst c
      have q0 : nsS S kd n 4 (sS S) 0 0 = kd := by unfold nsS; rw [ups_t (by decide)]; unfold zsS; rw [if_pos ⟨Or.inl rfl, rfl⟩, if_pos ⟨rfl, rfl, rfl⟩]
      have q1 : nsS S kd n 4 (sS S) 1 0 = n := by unfold nsS; rw [ups_t (by decide)]; unfold zsS; rw [if_pos ⟨Or.inl rfl, rfl⟩, if_neg (by omega), if_pos ⟨rfl, rfl, rfl⟩]
      have q2 : nsS S kd n 4 (sS S) 2 0 = 0 := by unfold nsS; rw [ups_t (by decide)]; unfold zsS; rw [if_pos ⟨Or.inl rfl, rfl⟩, if_neg (by omega), if_neg (by omega)]
      rw [q0, q1, q2]
      exact ⟨h1, h2, Or.inl rfl⟩
    · have g := ns_as (S := S) (kd := kd) (n := n) c
      rw [g.1, g.1, g.1]
      exact F2 k (by unfold sS at c ⊢; omega)
theorem CK_sheet {S : SS} (F : WF S) (kd n : Int) : CK mX4_sheet [aI kd, aI n] aI S (o_sheet kd n S) := by
  intro h C
  have C0 := C
  have cf5 := c_fd5 C0
  obtain ⟨G, K, mb, sb, own, P⟩ := C
  have ho : isO h 4 0 = true := isO_rd G.1.1
  have q7 := G.2.1 7 (by decide) (by decide)
  have g1 := G.1.2.1
  have l2 := G.2.2.2.1.2.1
  have f7 := F.1.2.1
  unfold o_sheet
  rw [e_X4_sheet]
  by_cases c : kd < 0 ∨ 3 < kd ∨ 24 < n
  · rw [if_pos c]
    refine ⟨h, ?_, C0, grow_rf⟩
    by_cases c1 : kd < 0
    · simp only [↓x_X4_sheet_0, ↓x_X4_sheet_1, ↓x_X4_sheet_4, ↓x_X4_sheet_5, ↓x_X4_sheet_6, ↓x_X4_sheet_9, ↓x_X4_sheet_10, ↓x_X4_sheet_12, ↓x_X4_sheet_15, ↓x_X4_sheet_16, ↓x_X4_sheet_17, ↓x_X4_sheet_18, ↓x_X4_sheet_21, ↓x_X4_sheet_24, ↓x_X4_sheet_25, ↓x_X4_sheet_28, ↓x_X4_sheet_29, ↓x_X4_sheet_32, ↓x_X4_sheet_33, ↓x_X4_sheet_36, ↓x_X4_sheet_38, ↓x_X4_sheet_39, ↓x_X4_sheet_40, ↓x_X4_sheet_43, ↓x_X4_sheet_44, ↓x_X4_sheet_45, ↓x_X4_sheet_48, ↓x_X4_sheet_49, ↓x_X4_sheet_50, ↓x_X4_sheet_53, ↓x_X4_sheet_54, ↓x_X4_sheet_57, ↓x_X4_sheet_60, ↓x_X4_sheet_61, ↓x_X4_sheet_62, ↓x_X4_sheet_63, ↓x_X4_sheet_66, ↓x_X4_sheet_67, ↓x_X4_sheet_68, ↓x_X4_sheet_69, ↓x_X4_sheet_72, ↓x_X4_sheet_73, ↓x_X4_sheet_74, ↓x_X4_sheet_77, ↓x_X4_sheet_78, ↓x_X4_sheet_81, ↓x_X4_sheet_82, ↓x_X4_sheet_83, c1, ↓reduceIte]
    · by_cases c2 : 3 < kd
      · simp only [↓x_X4_sheet_0, ↓x_X4_sheet_1, ↓x_X4_sheet_4, ↓x_X4_sheet_5, ↓x_X4_sheet_6, ↓x_X4_sheet_9, ↓x_X4_sheet_10, ↓x_X4_sheet_12, ↓x_X4_sheet_15, ↓x_X4_sheet_16, ↓x_X4_sheet_17, ↓x_X4_sheet_18, ↓x_X4_sheet_21, ↓x_X4_sheet_24, ↓x_X4_sheet_25, ↓x_X4_sheet_28, ↓x_X4_sheet_29, ↓x_X4_sheet_32, ↓x_X4_sheet_33, ↓x_X4_sheet_36, ↓x_X4_sheet_38, ↓x_X4_sheet_39, ↓x_X4_sheet_40, ↓x_X4_sheet_43, ↓x_X4_sheet_44, ↓x_X4_sheet_45, ↓x_X4_sheet_48, ↓x_X4_sheet_49, ↓x_X4_sheet_50, ↓x_X4_sheet_53, ↓x_X4_sheet_54, ↓x_X4_sheet_57, ↓x_X4_sheet_60, ↓x_X4_sheet_61, ↓x_X4_sheet_62, ↓x_X4_sheet_63, ↓x_X4_sheet_66, ↓x_X4_sheet_67, ↓x_X4_sheet_68, ↓x_X4_sheet_69, ↓x_X4_sheet_72, ↓x_X4_sheet_73, ↓x_X4_sheet_74, ↓x_X4_sheet_77, ↓x_X4_sheet_78, ↓x_X4_sheet_81, ↓x_X4_sheet_82, ↓x_X4_sheet_83, c1, c2, ↓reduceIte]
      · have c3 : ¬ n ≤ 24 := by omega
        simp only [↓x_X4_sheet_0, ↓x_X4_sheet_1, ↓x_X4_sheet_4, ↓x_X4_sheet_5, ↓x_X4_sheet_6, ↓x_X4_sheet_9, ↓x_X4_sheet_10, ↓x_X4_sheet_12, ↓x_X4_sheet_15, ↓x_X4_sheet_16, ↓x_X4_sheet_17, ↓x_X4_sheet_18, ↓x_X4_sheet_21, ↓x_X4_sheet_24, ↓x_X4_sheet_25, ↓x_X4_sheet_28, ↓x_X4_sheet_29, ↓x_X4_sheet_32, ↓x_X4_sheet_33, ↓x_X4_sheet_36, ↓x_X4_sheet_38, ↓x_X4_sheet_39, ↓x_X4_sheet_40, ↓x_X4_sheet_43, ↓x_X4_sheet_44, ↓x_X4_sheet_45, ↓x_X4_sheet_48, ↓x_X4_sheet_49, ↓x_X4_sheet_50, ↓x_X4_sheet_53, ↓x_X4_sheet_54, ↓x_X4_sheet_57, ↓x_X4_sheet_60, ↓x_X4_sheet_61, ↓x_X4_sheet_62, ↓x_X4_sheet_63, ↓x_X4_sheet_66, ↓x_X4_sheet_67, ↓x_X4_sheet_68, ↓x_X4_sheet_69, ↓x_X4_sheet_72, ↓x_X4_sheet_73, ↓x_X4_sheet_74, ↓x_X4_sheet_77, ↓x_X4_sheet_78, ↓x_X4_sheet_81, ↓x_X4_sheet_82, ↓x_X4_sheet_83, c1, c2, c3, ↓reduceIte]
  · rw [if_neg c]
    have c1 : ¬ kd < 0 := by omega
    have c2 : ¬ 3 < kd := by omega
    have c3 : n ≤ 24 := by omega
    have c4 : ¬ S 0 7 0 0 < 0 := by omega
    by_cases c5 : S 0 7 0 0 = 12
    · rw [if_pos c5]
      refine ⟨h, ?_, C0, grow_rf⟩
      have c6 : ¬ (12 : Int) < 0 := by decide
      have c7 : ¬ (12 : Int) < ((12 : Nat) : Int) := by decide
      simp only [↓x_X4_sheet_0, ↓x_X4_sheet_1, ↓x_X4_sheet_4, ↓x_X4_sheet_5, ↓x_X4_sheet_6, ↓x_X4_sheet_9, ↓x_X4_sheet_10, ↓x_X4_sheet_12, ↓x_X4_sheet_15, ↓x_X4_sheet_16, ↓x_X4_sheet_17, ↓x_X4_sheet_18, ↓x_X4_sheet_21, ↓x_X4_sheet_24, ↓x_X4_sheet_25, ↓x_X4_sheet_28, ↓x_X4_sheet_29, ↓x_X4_sheet_32, ↓x_X4_sheet_33, ↓x_X4_sheet_36, ↓x_X4_sheet_38, ↓x_X4_sheet_39, ↓x_X4_sheet_40, ↓x_X4_sheet_43, ↓x_X4_sheet_44, ↓x_X4_sheet_45, ↓x_X4_sheet_48, ↓x_X4_sheet_49, ↓x_X4_sheet_50, ↓x_X4_sheet_53, ↓x_X4_sheet_54, ↓x_X4_sheet_57, ↓x_X4_sheet_60, ↓x_X4_sheet_61, ↓x_X4_sheet_62, ↓x_X4_sheet_63, ↓x_X4_sheet_66, ↓x_X4_sheet_67, ↓x_X4_sheet_68, ↓x_X4_sheet_69, ↓x_X4_sheet_72, ↓x_X4_sheet_73, ↓x_X4_sheet_74, ↓x_X4_sheet_77, ↓x_X4_sheet_78, ↓x_X4_sheet_81, ↓x_X4_sheet_82, ↓x_X4_sheet_83, ↓gK_of q7, ↓gK_of g1, ↓gL_of l2, c1, c2, c3, c5, c6, c7, ↓reduceIte]
    · rw [if_neg c5]
      have c6 : S 0 7 0 0 < ((12 : Nat) : Int) := by omega
      by_cases c7 : n < 0
      · rw [if_pos c7]
        have c8 : ¬ 0 ≤ n := by omega
        refine ⟨_, ?_, K_fd C0 5⟩
        simp only [↓x_X4_sheet_0, ↓x_X4_sheet_1, ↓x_X4_sheet_4, ↓x_X4_sheet_5, ↓x_X4_sheet_6, ↓x_X4_sheet_9, ↓x_X4_sheet_10, ↓x_X4_sheet_12, ↓x_X4_sheet_15, ↓x_X4_sheet_16, ↓x_X4_sheet_17, ↓x_X4_sheet_18, ↓x_X4_sheet_21, ↓x_X4_sheet_24, ↓x_X4_sheet_25, ↓x_X4_sheet_28, ↓x_X4_sheet_29, ↓x_X4_sheet_32, ↓x_X4_sheet_33, ↓x_X4_sheet_36, ↓x_X4_sheet_38, ↓x_X4_sheet_39, ↓x_X4_sheet_40, ↓x_X4_sheet_43, ↓x_X4_sheet_44, ↓x_X4_sheet_45, ↓x_X4_sheet_48, ↓x_X4_sheet_49, ↓x_X4_sheet_50, ↓x_X4_sheet_53, ↓x_X4_sheet_54, ↓x_X4_sheet_57, ↓x_X4_sheet_60, ↓x_X4_sheet_61, ↓x_X4_sheet_62, ↓x_X4_sheet_63, ↓x_X4_sheet_66, ↓x_X4_sheet_67, ↓x_X4_sheet_68, ↓x_X4_sheet_69, ↓x_X4_sheet_72, ↓x_X4_sheet_73, ↓x_X4_sheet_74, ↓x_X4_sheet_77, ↓x_X4_sheet_78, ↓x_X4_sheet_81, ↓x_X4_sheet_82, ↓x_X4_sheet_83, ho, ↓gK_of q7, ↓gK_of g1, ↓gL_of l2, ↓cKI cf5, c1, c2, c3, c4, c6, c8, ↓reduceIte]
      · rw [if_neg c7]
        obtain ⟨n', rfl⟩ := Int.eq_ofNat_of_zero_le (show 0 ≤ n by omega)
        have c8 : (0 : Int) ≤ (n' : Int) := Int.natCast_nonneg _
        have c9 : 0 ≤ S 0 7 0 0 := f7.1
        have ek : ((sS S : Nat) : Int) = S 0 7 0 0 := by unfold sS; omega
        have ek2 : (S 0 7 0 0).toNat = sS S := rfl
        obtain ⟨h1, r1, r2, r3, r4, r5, r6, r7, r8, r9, r10⟩ := c_init3 (h0 := h) (k := kd) (n := n') (by omega)
        have J1 := CJ.ext (⟨G, K, P⟩ : CJ S h mb sb own) r2 (17 + sS S)
        have h11 : 10 < h.length := ln_lt G.2.2.2.1.2.2.2
        generalize hc : h.length = c at *
        obtain ⟨G1, K1, P1, P2, P3, P4⟩ := J1
        have s12 : sS S < 12 := by unfold sS; omega
        obtain ⟨v2, hv2⟩ := G1.2.2.2.2.2.2.2.2 (sS S) s12
        have t2 : tagR h1 2 = 13 := tag_rd hv2
        have o3 : isO h1 3 c = true := isO_rd r5
        have sB : SameR (fun t x => t = 13 ∧ x = 2) h1 (wr h1 13 2 (sS S) (aR (some c))) := SameR.wr ⟨rfl, rfl⟩
        have q71 : rd (wr h1 13 2 (sS S) (aR (some c))) 4 0 7 = some (aI (S 0 7 0 0)) := by rw [rd_wn (Or.inl (by decide))]; exact G1.2.1 7 (by decide) (by decide)
        have sC : SameR (fun t x => t = 4 ∧ x = 0) (wr h1 13 2 (sS S) (aR (some c))) (wr (wr h1 13 2 (sS S) (aR (some c))) 4 0 7 (aI (S 0 7 0 0 + 1))) := SameR.wr ⟨rfl, rfl⟩
        have sBC : SameR (fun t x => (t = 13 ∧ x = 2) ∨ (t = 4 ∧ x = 0)) h1 (wr (wr h1 13 2 (sS S) (aR (some c))) 4 0 7 (aI (S 0 7 0 0 + 1))) := (sB.up fun t x z => Or.inl z).tr (sC.up fun t x z => Or.inr z)
        have GB : GI S (wr h1 13 2 (sS S) (aR (some c))) := by
          obtain ⟨⟨f0, f1, f2, f3, f4, f5⟩, fi, fj, ⟨l1, l2, l3, l4⟩, ft, ks, tl, am, as⟩ := G1
          refine ⟨⟨by rw [rd_wn (Or.inl (by decide))]; exact f0, by rw [rd_wn (Or.inl (by decide))]; exact f1, by rw [rd_wn (Or.inl (by decide))]; exact f2, by rw [rd_wn (Or.inl (by decide))]; exact f3, by rw [rd_wn (Or.inl (by decide))]; exact f4, by rw [rd_wn (Or.inl (by decide))]; exact f5⟩, fun k a b => by rw [rd_wn (Or.inl (by decide))]; exact fi k a b, fun k a b => by rw [rd_wn (Or.inl (by decide))]; exact fj k a b, ⟨by rw [ln_wr]; exact l1, by rw [ln_wr]; exact l2, by rw [ln_wr]; exact l3, by rw [ln_wr]; exact l4⟩, fun k a => by rw [rd_wn (Or.inl (by decide))]; exact ft k a, fun k a => by rw [rd_wn (Or.inl (by decide))]; exact ks k a, fun k a => by rw [rd_wn (Or.inl (by decide))]; exact tl k a, fun k a => by rw [rd_wn (Or.inl (by decide))]; exact am k a, fun k a => ?_⟩
          by_cases e : k = sS S
          · subst e; exact ⟨_, rd_wr hv2⟩
          · rw [rd_wn (Or.inr (Or.inr e))]; exact as k a
        have GC : GI (nsS S kd n') (wr (wr h1 13 2 (sS S) (aR (some c))) 4 0 7 (aI (S 0 7 0 0 + 1))) := (GB.wI (k := 7) (by decide) (S 0 7 0 0 + 1)).congr ns_ag
        have em : mS (nsS S kd n') = mS S := by unfold mS nsS; rw [ups_a (by decide), zsS_t (by decide)]
        have es : sS (nsS S kd n') = sS S + 1 := by unfold sS nsS; rw [ups_s]; omega
        have ow : ∀ x, (if x < c then own x else if x < h1.length then 17 + sS S else 0) = (fun x => if x < c then own x else if x < h1.length then 17 + sS S else 0) x := fun x => rfl
        generalize (fun x => if x < c then own x else if x < h1.length then 17 + sS S else 0) = own1 at *
        have h3 : ∀ t x, ((t = 13 ∧ x = 2) ∨ (t = 4 ∧ x = 0)) → own1 x = 0 := fun t x z => P3 x (by omega)
        refine ⟨wr (wr h1 13 2 (sS S) (aR (some c))) 4 0 7 (aI (S 0 7 0 0 + 1)), ?_, ⟨GC, K1.same2 (fun t x z => by omega) sBC, mb, (fun j => if j = sS S then c else sb j), own1, fun m hm => ?_, fun k hk => ?_, P3, fun x hx => P4 x (by rw [wr_len, wr_len] at hx; exact hx)⟩, ⟨by rw [wr_len, wr_len]; omega, by rw [wr_slt, wr_slt]; omega⟩⟩
        · have e1 : w32 (S 0 7 0 0 + 1) = S 0 7 0 0 + 1 := by rw [w32_in] <;> omega
          have e2 : w32 (S 0 7 0 0 + 1 - 1) = S 0 7 0 0 := by rw [w32_in] <;> omega
          have q72 : rd (wr (wr h1 13 2 (sS S) (aR (some c))) 4 0 7 (aI (S 0 7 0 0 + 1))) 4 0 7 = some (aI (S 0 7 0 0 + 1)) := rd_wr q71
          simp only [↓x_X4_sheet_0, ↓x_X4_sheet_1, ↓x_X4_sheet_4, ↓x_X4_sheet_5, ↓x_X4_sheet_6, ↓x_X4_sheet_9, ↓x_X4_sheet_10, ↓x_X4_sheet_12, ↓x_X4_sheet_15, ↓x_X4_sheet_16, ↓x_X4_sheet_17, ↓x_X4_sheet_18, ↓x_X4_sheet_21, ↓x_X4_sheet_24, ↓x_X4_sheet_25, ↓x_X4_sheet_28, ↓x_X4_sheet_29, ↓x_X4_sheet_32, ↓x_X4_sheet_33, ↓x_X4_sheet_36, ↓x_X4_sheet_38, ↓x_X4_sheet_39, ↓x_X4_sheet_40, ↓x_X4_sheet_43, ↓x_X4_sheet_44, ↓x_X4_sheet_45, ↓x_X4_sheet_48, ↓x_X4_sheet_49, ↓x_X4_sheet_50, ↓x_X4_sheet_53, ↓x_X4_sheet_54, ↓x_X4_sheet_57, ↓x_X4_sheet_60, ↓x_X4_sheet_61, ↓x_X4_sheet_62, ↓x_X4_sheet_63, ↓x_X4_sheet_67, ↓x_X4_sheet_68, ↓x_X4_sheet_69, ↓x_X4_sheet_72, ↓x_X4_sheet_73, ↓x_X4_sheet_74, ↓x_X4_sheet_77, ↓x_X4_sheet_78, ↓x_X4_sheet_81, ↓x_X4_sheet_82, ↓x_X4_sheet_83, ho, ↓gK_of q7, ↓gK_of g1, ↓gL_of l2, c1, c2, c3, c4, c6, c8, hc, ↓cKV r1, ↓reduceIte]
          rw [x_X4_sheet_66 t2 o3, if_pos c9, ek2, pK_of hv2]
          simp only [↓x_X4_sheet_0, ↓x_X4_sheet_1, ↓x_X4_sheet_4, ↓x_X4_sheet_5, ↓x_X4_sheet_6, ↓x_X4_sheet_9, ↓x_X4_sheet_10, ↓x_X4_sheet_12, ↓x_X4_sheet_15, ↓x_X4_sheet_16, ↓x_X4_sheet_17, ↓x_X4_sheet_18, ↓x_X4_sheet_21, ↓x_X4_sheet_24, ↓x_X4_sheet_25, ↓x_X4_sheet_28, ↓x_X4_sheet_29, ↓x_X4_sheet_32, ↓x_X4_sheet_33, ↓x_X4_sheet_36, ↓x_X4_sheet_38, ↓x_X4_sheet_39, ↓x_X4_sheet_40, ↓x_X4_sheet_43, ↓x_X4_sheet_44, ↓x_X4_sheet_45, ↓x_X4_sheet_48, ↓x_X4_sheet_49, ↓x_X4_sheet_50, ↓x_X4_sheet_53, ↓x_X4_sheet_54, ↓x_X4_sheet_57, ↓x_X4_sheet_60, ↓x_X4_sheet_61, ↓x_X4_sheet_62, ↓x_X4_sheet_63, ↓x_X4_sheet_67, ↓x_X4_sheet_68, ↓x_X4_sheet_69, ↓x_X4_sheet_72, ↓x_X4_sheet_73, ↓x_X4_sheet_74, ↓x_X4_sheet_77, ↓x_X4_sheet_78, ↓x_X4_sheet_81, ↓x_X4_sheet_82, ↓x_X4_sheet_83, ↓gK_of q71, e1, ↓pK_of q71, ↓gK_of q72, e2]
        · rw [em] at hm
          exact (P1 m hm).go (ns_am m) sBC (fun t z => by omega) (fun t x z => by have := h3 t x z; omega)
        · rw [es] at hk
          have hcl : c + 1 < h1.length := by omega
          by_cases e : k = sS S
          · subst e
            show PS (nsS S kd n') _ (fun j => if j = sS S then c else sb j) own1 (sS S)
            have q0 : nsS S kd n' 4 (sS S) 0 0 = kd := by unfold nsS; rw [ups_t (by decide)]; unfold zsS; rw [if_pos ⟨Or.inl rfl, rfl⟩, if_pos ⟨rfl, rfl, rfl⟩]
            have q1 : nsS S kd n' 4 (sS S) 1 0 = n' := by unfold nsS; rw [ups_t (by decide)]; unfold zsS; rw [if_pos ⟨Or.inl rfl, rfl⟩, if_neg (by omega), if_pos ⟨rfl, rfl, rfl⟩]
            have q2 : nsS S kd n' 4 (sS S) 2 0 = 0 := by unfold nsS; rw [ups_t (by decide)]; unfold zsS; rw [if_pos ⟨Or.inl rfl, rfl⟩, if_neg (by omega), if_neg (by omega)]
            have q5 : ∀ i, nsS S kd n' 5 (sS S) i 0 = 0 := fun i => by unfold nsS; rw [ups_t (by decide)]; unfold zsS; rw [if_pos ⟨Or.inr rfl, rfl⟩, if_neg (by omega), if_neg (by omega)]
            have es1 : (fun j => if j = sS S then c else sb j) (sS S) = c := if_pos rfl
            unfold PS SP
            rw [es1, q0, q1, q2, Int.toNat_natCast]
            refine ⟨by rw [rd_wn (Or.inl (by decide))]; exact rd_wr hv2, by omega, ⟨by rw [sBC.1 _ _ _ (by omega)]; exact r5, by rw [sBC.1 _ _ _ (by omega)]; exact r6, by rw [sBC.1 _ _ _ (by omega)]; exact r7, by rw [sBC.2.2.1]; exact r8, fun i hi => by rw [q5, sBC.1 _ _ _ (by omega)]; exact r9 i hi⟩, ?_, ?_, by rw [sBC.2.1]; exact r10⟩
            · rw [← ow, if_neg (by omega), if_pos (by omega)]
            · rw [← ow, if_neg (by omega), if_pos (by omega)]
          · obtain ⟨b1, b2, b3, b4, b5, b6⟩ := P2 k (by omega)
            have es1 : (fun j => if j = sS S then c else sb j) k = sb k := if_neg e
            unfold PS
            rw [es1]
            exact ⟨by rw [rd_wn (Or.inl (by decide)), rd_wn (Or.inr (Or.inr e))]; exact b1, b2, (b3.same (fun t z => by have := h3 t _ z; omega) (fun t z => by have := h3 t _ z; omega) sBC).congr (ns_as e), b4, b5, by rw [sBC.2.1]; exact b6⟩
