/-! ===== the class's calls on sheets ===== -/
def cutZ (k v : Int) : Int := if k = 0 then w8 (w32 v) else if k = 1 then w16 (w32 v) else if k = 2 then w32 v else v
def grow (h h' : AH) : Prop := h'.length ≤ h.length + 16 ∧ slt h' ≤ slt h + 100
theorem grow_eq {h h' : AH} (e : h'.length = h.length ∧ slt h' = slt h) : grow h h' := ⟨by omega, by omega⟩
theorem grow_rf {h : AH} : grow h h := ⟨by omega, by omega⟩
def CK (M : MI) (as : List AV) (ty : Int → AV) (S : SS) (o : Int × SS) : Prop := ∀ h, CI S h → ∃ h', E M (aR (some 0) :: as) h = some (some (ty o.1), h') ∧ CI o.2 h' ∧ grow h h'
abbrev isM (S : SS) (m : Int) : Prop := 0 ≤ m ∧ m < S 0 6 0 0
abbrev isT (S : SS) (m : Int) : Prop := 0 ≤ m ∧ m < S 0 7 0 0
abbrev isQ (S : SS) (m s : Int) : Prop := 0 ≤ s ∧ s < S 1 m.toNat 1 0
theorem c_hasPlaces {S : SS} {k c : Nat} {h : AH} (H : SP S k h c) (h24 : 0 ≤ S 4 k 1 0 ∧ S 4 k 1 0 ≤ 24) (i n : Int) : E mX3_hasPlaces [aR (some c), aI i, aI n] h = some (some (aI (if 0 ≤ i ∧ 0 ≤ n ∧ i + n ≤ S 4 k 1 0 then 1 else 0)), h) := by
  obtain ⟨g0, g1, g2, g3, g4⟩ := H
  have e0 : (((S 4 k 1 0).toNat : Nat) : Int) = S 4 k 1 0 := by omega
  rw [e_X3_hasPlaces]
  by_cases n1 : i < 0
  · rw [if_neg (by omega)]
    simp only [↓x_X3_hasPlaces_0, ↓x_X3_hasPlaces_1, ↓x_X3_hasPlaces_4, ↓x_X3_hasPlaces_5, ↓x_X3_hasPlaces_8, ↓x_X3_hasPlaces_9, ↓x_X3_hasPlaces_10, ↓x_X3_hasPlaces_13, ↓x_X3_hasPlaces_14, ↓x_X3_hasPlaces_17, ↓x_X3_hasPlaces_18, ↓x_X3_hasPlaces_19, ↓x_X3_hasPlaces_22, ↓x_X3_hasPlaces_23, ↓x_X3_hasPlaces_24, ↓x_X3_hasPlaces_25, ↓x_X3_hasPlaces_28, ↓x_X3_hasPlaces_29, ↓x_X3_hasPlaces_32, ↓x_X3_hasPlaces_33_0, ↓x_X3_hasPlaces_33_1, ↓x_X3_hasPlaces_33, n1, ↓reduceIte]
  · by_cases n2 : n < 0
    · rw [if_neg (by omega)]
      simp only [↓x_X3_hasPlaces_0, ↓x_X3_hasPlaces_1, ↓x_X3_hasPlaces_4, ↓x_X3_hasPlaces_5, ↓x_X3_hasPlaces_8, ↓x_X3_hasPlaces_9, ↓x_X3_hasPlaces_10, ↓x_X3_hasPlaces_13, ↓x_X3_hasPlaces_14, ↓x_X3_hasPlaces_17, ↓x_X3_hasPlaces_18, ↓x_X3_hasPlaces_19, ↓x_X3_hasPlaces_22, ↓x_X3_hasPlaces_23, ↓x_X3_hasPlaces_24, ↓x_X3_hasPlaces_25, ↓x_X3_hasPlaces_28, ↓x_X3_hasPlaces_29, ↓x_X3_hasPlaces_32, ↓x_X3_hasPlaces_33_0, ↓x_X3_hasPlaces_33_1, ↓x_X3_hasPlaces_33, n1, n2, ↓reduceIte]
    · by_cases n3 : S 4 k 1 0 < n
      · rw [if_neg (by omega)]
        simp only [↓x_X3_hasPlaces_0, ↓x_X3_hasPlaces_1, ↓x_X3_hasPlaces_4, ↓x_X3_hasPlaces_5, ↓x_X3_hasPlaces_8, ↓x_X3_hasPlaces_9, ↓x_X3_hasPlaces_10, ↓x_X3_hasPlaces_13, ↓x_X3_hasPlaces_14, ↓x_X3_hasPlaces_17, ↓x_X3_hasPlaces_18, ↓x_X3_hasPlaces_19, ↓x_X3_hasPlaces_22, ↓x_X3_hasPlaces_23, ↓x_X3_hasPlaces_24, ↓x_X3_hasPlaces_25, ↓x_X3_hasPlaces_28, ↓x_X3_hasPlaces_29, ↓x_X3_hasPlaces_32, ↓x_X3_hasPlaces_33_0, ↓x_X3_hasPlaces_33_1, ↓x_X3_hasPlaces_33, n1, n2, ↓gK_of g1, ↓gL_of g3, e0, n3, ↓reduceIte]
      · have e1 : w32 (S 4 k 1 0 - n) = S 4 k 1 0 - n := by rw [w32_in] <;> omega
        by_cases n4 : S 4 k 1 0 - n < i
        · rw [if_neg (by omega)]
          simp only [↓x_X3_hasPlaces_0, ↓x_X3_hasPlaces_1, ↓x_X3_hasPlaces_4, ↓x_X3_hasPlaces_5, ↓x_X3_hasPlaces_8, ↓x_X3_hasPlaces_9, ↓x_X3_hasPlaces_10, ↓x_X3_hasPlaces_13, ↓x_X3_hasPlaces_14, ↓x_X3_hasPlaces_17, ↓x_X3_hasPlaces_18, ↓x_X3_hasPlaces_19, ↓x_X3_hasPlaces_22, ↓x_X3_hasPlaces_23, ↓x_X3_hasPlaces_24, ↓x_X3_hasPlaces_25, ↓x_X3_hasPlaces_28, ↓x_X3_hasPlaces_29, ↓x_X3_hasPlaces_32, ↓x_X3_hasPlaces_33_0, ↓x_X3_hasPlaces_33_1, ↓x_X3_hasPlaces_33, n1, n2, ↓gK_of g1, ↓gL_of g3, e0, n3, e1, n4, ↓reduceIte]
        · rw [if_pos (by omega)]
          simp only [↓x_X3_hasPlaces_0, ↓x_X3_hasPlaces_1, ↓x_X3_hasPlaces_4, ↓x_X3_hasPlaces_5, ↓x_X3_hasPlaces_8, ↓x_X3_hasPlaces_9, ↓x_X3_hasPlaces_10, ↓x_X3_hasPlaces_13, ↓x_X3_hasPlaces_14, ↓x_X3_hasPlaces_17, ↓x_X3_hasPlaces_18, ↓x_X3_hasPlaces_19, ↓x_X3_hasPlaces_22, ↓x_X3_hasPlaces_23, ↓x_X3_hasPlaces_24, ↓x_X3_hasPlaces_25, ↓x_X3_hasPlaces_28, ↓x_X3_hasPlaces_29, ↓x_X3_hasPlaces_32, ↓x_X3_hasPlaces_33_0, ↓x_X3_hasPlaces_33_1, ↓x_X3_hasPlaces_33, n1, n2, ↓gK_of g1, ↓gL_of g3, e0, n3, e1, n4, ↓reduceIte]
theorem c_placeAt {S : SS} {k c : Nat} {h : AH} (H : SP S k h c) {i : Int} (hi : 0 ≤ i ∧ i < S 4 k 1 0) : E mX3_placeAt [aR (some c), aI i] h = some (some (aJ (S 5 k i.toNat 0)), h) := by
  obtain ⟨g0, g1, g2, g3, g4⟩ := H
  have e0 : (((S 4 k 1 0).toNat : Nat) : Int) = S 4 k 1 0 := by omega
  have q := g4 i.toNat (by omega)
  have n1 : ¬ i < 0 := by omega
  have n2 : ¬ S 4 k 1 0 ≤ i := by omega
  have n3 := hi.1
  rw [e_X3_placeAt]
  simp only [↓x_X3_placeAt_0, ↓x_X3_placeAt_1, ↓x_X3_placeAt_4, ↓x_X3_placeAt_5, ↓x_X3_placeAt_6, ↓x_X3_placeAt_9, ↓x_X3_placeAt_10, ↓x_X3_placeAt_13, ↓x_X3_placeAt_14, ↓x_X3_placeAt_17, ↓x_X3_placeAt_18, ↓x_X3_placeAt_19, ↓x_X3_placeAt_22, ↓x_X3_placeAt_23, n1, n2, n3, ↓gK_of g1, ↓gL_of g3, e0, ↓gK_of q, ↓reduceIte]
theorem c_cut {h : AH} {c : Nat} {k v : Int} (g0 : rd h 3 c 0 = some (aI k)) : E mX3_cut [aR (some c), aJ v] h = some (some (aJ (cutZ k v)), h) := by
  unfold cutZ
  rw [e_X3_cut]
  by_cases n0 : k = 0
  · simp only [↓x_X3_cut_0, ↓x_X3_cut_1, ↓x_X3_cut_4, ↓x_X3_cut_32, ↓x_X3_cut_33, ↓x_X3_cut_34, ↓x_X3_cut_35, ↓x_X3_cut_36, ↓x_X3_cut_37, ↓x_X3_cut_38, ↓x_X3_cut_39, ↓x_X3_cut_40, ↓x_X3_cut_41, ↓x_X3_cut_42, ↓x_X3_cut_43, ↓x_X3_cut_44, ↓x_X3_cut_45, ↓x_X3_cut_46, ↓x_X3_cut_47, ↓gK_of g0, n0, ↓reduceIte]
  · by_cases n1 : k = 1
    · have n0' : ¬ (1 : Int) = 0 := by decide
      simp only [↓x_X3_cut_0, ↓x_X3_cut_1, ↓x_X3_cut_4, ↓x_X3_cut_32, ↓x_X3_cut_33, ↓x_X3_cut_34, ↓x_X3_cut_35, ↓x_X3_cut_36, ↓x_X3_cut_37, ↓x_X3_cut_38, ↓x_X3_cut_39, ↓x_X3_cut_40, ↓x_X3_cut_41, ↓x_X3_cut_42, ↓x_X3_cut_43, ↓x_X3_cut_44, ↓x_X3_cut_45, ↓x_X3_cut_46, ↓x_X3_cut_47, ↓gK_of g0, n1, n0', ↓reduceIte]
    · by_cases n2 : k = 2
      · have n0' : ¬ (2 : Int) = 0 := by decide
        have n1' : ¬ (2 : Int) = 1 := by decide
        simp only [↓x_X3_cut_0, ↓x_X3_cut_1, ↓x_X3_cut_4, ↓x_X3_cut_32, ↓x_X3_cut_33, ↓x_X3_cut_34, ↓x_X3_cut_35, ↓x_X3_cut_36, ↓x_X3_cut_37, ↓x_X3_cut_38, ↓x_X3_cut_39, ↓x_X3_cut_40, ↓x_X3_cut_41, ↓x_X3_cut_42, ↓x_X3_cut_43, ↓x_X3_cut_44, ↓x_X3_cut_45, ↓x_X3_cut_46, ↓x_X3_cut_47, ↓gK_of g0, n2, n0', n1', ↓reduceIte]
      · simp only [↓x_X3_cut_0, ↓x_X3_cut_1, ↓x_X3_cut_4, ↓x_X3_cut_32, ↓x_X3_cut_33, ↓x_X3_cut_34, ↓x_X3_cut_35, ↓x_X3_cut_36, ↓x_X3_cut_37, ↓x_X3_cut_38, ↓x_X3_cut_39, ↓x_X3_cut_40, ↓x_X3_cut_41, ↓x_X3_cut_42, ↓x_X3_cut_43, ↓x_X3_cut_44, ↓x_X3_cut_45, ↓x_X3_cut_46, ↓x_X3_cut_47, ↓gK_of g0, n0, n1, n2, ↓reduceIte]
theorem c_put {S : SS} {k c : Nat} {h : AH} (H : SP S k h c) {i v : Int} (hi : 0 ≤ i ∧ i < S 4 k 1 0) : E mX3_put [aR (some c), aI i, aJ v] h = some (none, wr h 11 (c + 1) i.toNat (aJ (cutZ (S 4 k 0 0) v))) := by
  obtain ⟨g0, g1, g2, g3, g4⟩ := H
  have e0 : (((S 4 k 1 0).toNat : Nat) : Int) = S 4 k 1 0 := by omega
  have q := g4 i.toNat (by omega)
  have n1 : ¬ i < 0 := by omega
  have n2 : ¬ S 4 k 1 0 ≤ i := by omega
  have n3 := hi.1
  have ho : isO h 3 c = true := isO_rd g0
  have cc := c_cut (v := v) g0
  rw [e_X3_put]
  simp only [↓x_X3_put_0, ↓x_X3_put_1, ↓x_X3_put_4, ↓x_X3_put_5, ↓x_X3_put_6, ↓x_X3_put_9, ↓x_X3_put_10, ↓x_X3_put_13, ↓x_X3_put_14, ↓x_X3_put_17, ↓x_X3_put_18, ↓x_X3_put_19, ↓x_X3_put_20, ↓x_X3_put_23, ↓x_X3_put_24, n1, n2, n3, ↓gK_of g1, ↓gL_of g3, e0, ho, ↓cKJ cc, ↓pK_of q, ↓reduceIte]
theorem AgG_u {S : SS} {t a b c : Nat} {v : Int} (h : 0 ≠ t ∧ 6 ≠ t ∧ 7 ≠ t ∧ 8 ≠ t) : AgG S (ups S t a b c v) := ⟨fun _ => ups_t h.1, fun _ => ups_t h.2.1, fun _ => ups_t h.2.2.1, fun _ => ups_t h.2.2.2⟩
theorem AgM_u {S : SS} {t a b c m : Nat} {v : Int} (h : 0 ≠ t) (h2 : m ≠ a ∨ (1 ≠ t ∧ 2 ≠ t ∧ 3 ≠ t)) : AgM S (ups S t a b c v) m := by
  rcases h2 with h2 | h2
  · exact ⟨fun _ => ups_a h2, fun _ => ups_a h2, fun _ _ => ups_a h2, ups_t h, ups_t h⟩
  · exact ⟨fun _ => ups_t h2.1, fun _ => ups_t h2.2.1, fun _ _ => ups_t h2.2.2, ups_t h, ups_t h⟩
theorem AgS_u {S : SS} {t a b c k : Nat} {v : Int} (h2 : k ≠ a ∨ (4 ≠ t ∧ 5 ≠ t)) : AgS S (ups S t a b c v) k := by
  rcases h2 with h2 | h2
  · exact ⟨fun _ => ups_a h2, fun _ => ups_a h2⟩
  · exact ⟨fun _ => ups_t h2.1, fun _ => ups_t h2.2⟩
theorem wS_miss {S : SS} {h : AH} {mb sb own : Nat → Nat} (F : WF S) (G : GI S h) (K : RKF h) (P : PI S h mb sb own) {k : Nat} (hk : k < sS S) (v : Int) : CI (ups S 4 k 2 0 v) (wr h 3 (sb k) 2 (aI v)) := by
  obtain ⟨p1, p2, ⟨g0, g1, g2, g3, g4⟩, p4, p5, p6⟩ := P.2.1 k hk
  have sw : SameR (fun t x => x = sb k) h (wr h 3 (sb k) 2 (aI v)) := SameR.wr rfl
  refine ⟨(G.same (fun t x z => by omega) sw).congr (AgG_u (by decide)), K.same2 (fun t x z => by omega) sw, mb, sb, own, P.sheet (k := k) (by have := F.1.1; unfold mS; omega) sw (fun t x z => by rw [z]; exact p4) (fun m => AgM_u (by decide) (Or.inr (by decide))) (fun k' hk' => AgS_u (Or.inl hk')) (fun j => ups_t (by decide)) ?_⟩
  exact ⟨by rw [ups_b (by decide), rd_wn (Or.inr (Or.inr (by decide)))]; exact g0, by rw [rd_wn (Or.inr (Or.inr (by decide)))]; exact g1, by rw [ups_s]; exact rd_wr g2, by rw [ups_b (by decide), ln_wr]; exact g3, fun i hi => by rw [ups_b (by decide)] at hi; rw [ups_t (by decide), rd_wn (Or.inl (by decide))]; exact g4 i hi⟩
theorem wS_place {S : SS} {h : AH} {mb sb own : Nat → Nat} (F : WF S) (G : GI S h) (K : RKF h) (P : PI S h mb sb own) {k : Nat} (hk : k < sS S) (i : Nat) (v : Int) : CI (ups S 5 k i 0 v) (wr h 11 (sb k + 1) i (aJ v)) := by
  obtain ⟨p1, p2, ⟨g0, g1, g2, g3, g4⟩, p4, p5, p6⟩ := P.2.1 k hk
  have sw : SameR (fun t x => x = sb k + 1) h (wr h 11 (sb k + 1) i (aJ v)) := SameR.wr rfl
  refine ⟨(G.same (fun t x z => by omega) sw).congr (AgG_u (by decide)), K.same2 (fun t x z => by omega) sw, mb, sb, own, P.sheet (k := k) (by have := F.1.1; unfold mS; omega) sw (fun t x z => by rw [z]; exact p5) (fun m => AgM_u (by decide) (Or.inr (by decide))) (fun k' hk' => AgS_u (Or.inl hk')) (fun j => ups_t (by decide)) ?_⟩
  refine ⟨by rw [ups_t (by decide), rd_wn (Or.inl (by decide))]; exact g0, by rw [rd_wn (Or.inl (by decide))]; exact g1, by rw [ups_t (by decide), rd_wn (Or.inl (by decide))]; exact g2, by rw [ups_t (by decide), ln_wr]; exact g3, fun j hj => ?_⟩
  rw [ups_t (by decide)] at hj
  by_cases e : j = i
  · subst e; rw [ups_s]; exact rd_wr (g4 j hj)
  · rw [ups_b e, rd_wn (Or.inr (Or.inr e))]; exact g4 j hj
theorem wlen {h : AH} {t a k : Nat} {v : AV} : grow h (wr h t a k v) := grow_eq ⟨wr_len, wr_slt⟩
-- a finding told: the way out that many calls have
theorem K_fd {S : SS} {h : AH} (C : CI S h) (f : Nat) : CI ((-3 : Int), fdS S f).2 (fdH S h f) ∧ grow h (fdH S h f) := ⟨C.fd f, grow_eq fdH_len⟩
theorem c_fd1 {S : SS} {h : AH} (C : CI S h) : E mX4_found [aR (some 0), aI 1] h = some (some (aI (-3)), fdH S h 1) := c_found C (f := 1) (by decide)
theorem c_fd2 {S : SS} {h : AH} (C : CI S h) : E mX4_found [aR (some 0), aI 2] h = some (some (aI (-3)), fdH S h 2) := c_found C (f := 2) (by decide)
theorem c_fd3 {S : SS} {h : AH} (C : CI S h) : E mX4_found [aR (some 0), aI 3] h = some (some (aI (-3)), fdH S h 3) := c_found C (f := 3) (by decide)
theorem c_fd4 {S : SS} {h : AH} (C : CI S h) : E mX4_found [aR (some 0), aI 4] h = some (some (aI (-3)), fdH S h 4) := c_found C (f := 4) (by decide)
theorem c_fd5 {S : SS} {h : AH} (C : CI S h) : E mX4_found [aR (some 0), aI 5] h = some (some (aI (-3)), fdH S h 5) := c_found C (f := 5) (by decide)
theorem c_fd6 {S : SS} {h : AH} (C : CI S h) : E mX4_found [aR (some 0), aI 6] h = some (some (aI (-3)), fdH S h 6) := c_found C (f := 6) (by decide)
-- tear
def o_tear (k : Int) (S : SS) : Int × SS := if ¬ isT S k then (-1, S) else if ¬ S 4 k.toNat 2 0 = 0 then (-3, fdS S 1) else (1, ups S 4 k.toNat 2 0 1)
theorem CK_tear {S : SS} (F : WF S) (k : Int) : CK mX4_tear [aI k] aI S (o_tear k S) := by
  intro h C
  have C0 := C
  obtain ⟨G, K, mb, sb, own, P⟩ := C
  have ho : isO h 4 0 = true := isO_rd G.1.1
  have ca := c_sheetAt F G P k
  have cf := c_fd1 C0
  unfold o_tear
  rw [e_X4_tear]
  by_cases c1 : isT S k
  · rw [if_pos c1] at ca
    rw [if_neg (not_not_intro c1)]
    have hk : k.toNat < sS S := by unfold sS; omega
    obtain ⟨p1, p2, p3, p4, p5⟩ := P.2.1 k.toNat hk
    by_cases c2 : S 4 k.toNat 2 0 = 0
    · rw [if_neg (not_not_intro c2)]
      refine ⟨_, ?_, wS_miss F G K P hk 1, wlen⟩
      simp only [↓x_X4_tear_0, ↓x_X4_tear_1, ↓x_X4_tear_2, ↓x_X4_tear_5, ↓x_X4_tear_6, ↓x_X4_tear_7n, ↓x_X4_tear_7s, ↓x_X4_tear_10, ↓x_X4_tear_11, ↓x_X4_tear_12, ↓x_X4_tear_13, ↓x_X4_tear_16, ↓x_X4_tear_19, ↓x_X4_tear_20, ↓x_X4_tear_21, ↓x_X4_tear_24, ↓x_X4_tear_25, ↓x_X4_tear_26, ↓x_X4_tear_27_0, ↓x_X4_tear_27_1, ↓x_X4_tear_30, ↓x_X4_tear_31, ho, ↓cKR ca, ↓gK_of p3.2.2.1, c2, ↓pK_of p3.2.2.1, ↓reduceIte]
    · rw [if_pos c2]
      refine ⟨_, ?_, K_fd C0 1⟩
      simp only [↓x_X4_tear_0, ↓x_X4_tear_1, ↓x_X4_tear_2, ↓x_X4_tear_5, ↓x_X4_tear_6, ↓x_X4_tear_7n, ↓x_X4_tear_7s, ↓x_X4_tear_10, ↓x_X4_tear_11, ↓x_X4_tear_12, ↓x_X4_tear_13, ↓x_X4_tear_16, ↓x_X4_tear_19, ↓x_X4_tear_20, ↓x_X4_tear_21, ↓x_X4_tear_24, ↓x_X4_tear_25, ↓x_X4_tear_26, ↓x_X4_tear_27_0, ↓x_X4_tear_27_1, ↓x_X4_tear_30, ↓x_X4_tear_31, ho, ↓cKR ca, ↓gK_of p3.2.2.1, c2, ↓cKI cf, ↓reduceIte]
  · rw [if_neg c1] at ca
    rw [if_pos c1]
    refine ⟨h, ?_, C0, grow_rf⟩
    simp only [↓x_X4_tear_0, ↓x_X4_tear_1, ↓x_X4_tear_2, ↓x_X4_tear_5, ↓x_X4_tear_6, ↓x_X4_tear_7n, ↓x_X4_tear_7s, ↓x_X4_tear_10, ↓x_X4_tear_11, ↓x_X4_tear_12, ↓x_X4_tear_13, ↓x_X4_tear_16, ↓x_X4_tear_19, ↓x_X4_tear_20, ↓x_X4_tear_21, ↓x_X4_tear_24, ↓x_X4_tear_25, ↓x_X4_tear_26, ↓x_X4_tear_27_0, ↓x_X4_tear_27_1, ↓x_X4_tear_30, ↓x_X4_tear_31, ho, ↓cKR ca]
-- lay
def o_lay (k i v : Int) (S : SS) : Int × SS := if ¬ isT S k then (-1, S) else if ¬ S 4 k.toNat 2 0 = 0 then (-3, fdS S 1) else if ¬ (0 ≤ i ∧ i < S 4 k.toNat 1 0) then (-3, fdS S 2) else (1, ups S 5 k.toNat i.toNat 0 (cutZ (S 4 k.toNat 0 0) v))
theorem CK_lay {S : SS} (F : WF S) (k i v : Int) : CK mX4_lay [aI k, aI i, aJ v] aI S (o_lay k i v S) := by
  intro h C
  have C0 := C
  obtain ⟨G, K, mb, sb, own, P⟩ := C
  have ho : isO h 4 0 = true := isO_rd G.1.1
  have ca := c_sheetAt F G P k
  have cf1 := c_fd1 C0
  have cf2 := c_fd2 C0
  unfold o_lay
  rw [e_X4_lay]
  by_cases c1 : isT S k
  · rw [if_pos c1] at ca
    rw [if_neg (not_not_intro c1)]
    have hk : k.toNat < sS S := by unfold sS; omega
    obtain ⟨p1, p2, p3, p4, p5⟩ := P.2.1 k.toNat hk
    have f24 := (F.2.2 k.toNat hk).2.1
    have ch := c_hasPlaces p3 f24 i 1
    have hos : isO h 3 (sb k.toNat) = true := isO_rd p3.1
    by_cases c2 : S 4 k.toNat 2 0 = 0
    · rw [if_neg (not_not_intro c2)]
      by_cases c3 : 0 ≤ i ∧ i < S 4 k.toNat 1 0
      · rw [if_pos (by omega)] at ch
        rw [if_neg (not_not_intro c3)]
        have cp := c_put (v := v) p3 c3
        have n1 : ¬ (1 : Int) = 0 := by decide
        refine ⟨_, ?_, wS_place F G K P hk i.toNat _, wlen⟩
        simp only [↓x_X4_lay_0, ↓x_X4_lay_1, ↓x_X4_lay_2, ↓x_X4_lay_5, ↓x_X4_lay_7, ↓x_X4_lay_9n, ↓x_X4_lay_9s, ↓x_X4_lay_12, ↓x_X4_lay_13, ↓x_X4_lay_14, ↓x_X4_lay_16, ↓x_X4_lay_19, ↓x_X4_lay_22, ↓x_X4_lay_23, ↓x_X4_lay_24, ↓x_X4_lay_27, ↓x_X4_lay_28, ↓x_X4_lay_30, ↓x_X4_lay_31, ↓x_X4_lay_32, ↓x_X4_lay_35, ↓x_X4_lay_38, ↓x_X4_lay_39, ↓x_X4_lay_40, ↓x_X4_lay_43, ↓x_X4_lay_44, ↓x_X4_lay_46, ↓x_X4_lay_47, ↓x_X4_lay_48, ↓x_X4_lay_51, ↓x_X4_lay_52, ho, hos, ↓cKR ca, ↓gK_of p3.2.2.1, c2, n1, ↓cKI ch, ↓cKV cp, not_false_eq_true, ↓reduceIte]
      · rw [if_neg (by omega)] at ch
        rw [if_pos c3]
        refine ⟨_, ?_, K_fd C0 2⟩
        simp only [↓x_X4_lay_0, ↓x_X4_lay_1, ↓x_X4_lay_2, ↓x_X4_lay_5, ↓x_X4_lay_7, ↓x_X4_lay_9n, ↓x_X4_lay_9s, ↓x_X4_lay_12, ↓x_X4_lay_13, ↓x_X4_lay_14, ↓x_X4_lay_16, ↓x_X4_lay_19, ↓x_X4_lay_22, ↓x_X4_lay_23, ↓x_X4_lay_24, ↓x_X4_lay_27, ↓x_X4_lay_28, ↓x_X4_lay_30, ↓x_X4_lay_31, ↓x_X4_lay_32, ↓x_X4_lay_35, ↓x_X4_lay_38, ↓x_X4_lay_39, ↓x_X4_lay_40, ↓x_X4_lay_43, ↓x_X4_lay_44, ↓x_X4_lay_46, ↓x_X4_lay_47, ↓x_X4_lay_48, ↓x_X4_lay_51, ↓x_X4_lay_52, ho, hos, ↓cKR ca, ↓gK_of p3.2.2.1, c2, ↓cKI ch, ↓cKI cf2, not_true_eq_false, ↓reduceIte]
    · rw [if_pos c2]
      refine ⟨_, ?_, K_fd C0 1⟩
      simp only [↓x_X4_lay_0, ↓x_X4_lay_1, ↓x_X4_lay_2, ↓x_X4_lay_5, ↓x_X4_lay_7, ↓x_X4_lay_9n, ↓x_X4_lay_9s, ↓x_X4_lay_12, ↓x_X4_lay_13, ↓x_X4_lay_14, ↓x_X4_lay_16, ↓x_X4_lay_19, ↓x_X4_lay_22, ↓x_X4_lay_23, ↓x_X4_lay_24, ↓x_X4_lay_27, ↓x_X4_lay_28, ↓x_X4_lay_30, ↓x_X4_lay_31, ↓x_X4_lay_32, ↓x_X4_lay_35, ↓x_X4_lay_38, ↓x_X4_lay_39, ↓x_X4_lay_40, ↓x_X4_lay_43, ↓x_X4_lay_44, ↓x_X4_lay_46, ↓x_X4_lay_47, ↓x_X4_lay_48, ↓x_X4_lay_51, ↓x_X4_lay_52, ho, ↓cKR ca, ↓gK_of p3.2.2.1, c2, ↓cKI cf1, ↓reduceIte]
  · rw [if_neg c1] at ca
    rw [if_pos c1]
    refine ⟨h, ?_, C0, grow_rf⟩
    simp only [↓x_X4_lay_0, ↓x_X4_lay_1, ↓x_X4_lay_2, ↓x_X4_lay_5, ↓x_X4_lay_7, ↓x_X4_lay_9n, ↓x_X4_lay_9s, ↓x_X4_lay_12, ↓x_X4_lay_13, ↓x_X4_lay_14, ↓x_X4_lay_16, ↓x_X4_lay_19, ↓x_X4_lay_22, ↓x_X4_lay_23, ↓x_X4_lay_24, ↓x_X4_lay_27, ↓x_X4_lay_28, ↓x_X4_lay_30, ↓x_X4_lay_31, ↓x_X4_lay_32, ↓x_X4_lay_35, ↓x_X4_lay_38, ↓x_X4_lay_39, ↓x_X4_lay_40, ↓x_X4_lay_43, ↓x_X4_lay_44, ↓x_X4_lay_46, ↓x_X4_lay_47, ↓x_X4_lay_48, ↓x_X4_lay_51, ↓x_X4_lay_52, ho, ↓cKR ca]
-- get
def o_get (k i : Int) (S : SS) : Int × SS := if ¬ isT S k then (-1, S) else if ¬ S 4 k.toNat 2 0 = 0 then (-3, fdS S 1) else if ¬ (0 ≤ i ∧ i < S 4 k.toNat 1 0) then (-3, fdS S 2) else (1, ups S 0 13 0 0 (S 5 k.toNat i.toNat 0))
theorem CK_get {S : SS} (F : WF S) (k i : Int) : CK mX4_get [aI k, aI i] aI S (o_get k i S) := by
  intro h C
  have C0 := C
  obtain ⟨G, K, mb, sb, own, P⟩ := C
  have ho : isO h 4 0 = true := isO_rd G.1.1
  have ca := c_sheetAt F G P k
  have cf1 := c_fd1 C0
  have cf2 := c_fd2 C0
  unfold o_get
  rw [e_X4_get]
  by_cases c1 : isT S k
  · rw [if_pos c1] at ca
    rw [if_neg (not_not_intro c1)]
    have hk : k.toNat < sS S := by unfold sS; omega
    obtain ⟨p1, p2, p3, p4, p5⟩ := P.2.1 k.toNat hk
    have f24 := (F.2.2 k.toNat hk).2.1
    have ch := c_hasPlaces p3 f24 i 1
    have hos : isO h 3 (sb k.toNat) = true := isO_rd p3.1
    by_cases c2 : S 4 k.toNat 2 0 = 0
    · rw [if_neg (not_not_intro c2)]
      by_cases c3 : 0 ≤ i ∧ i < S 4 k.toNat 1 0
      · rw [if_pos (by omega)] at ch
        rw [if_neg (not_not_intro c3)]
        have cp := c_placeAt p3 c3
        have n1 : ¬ (1 : Int) = 0 := by decide
        have q13 := G.2.2.1 13 (by decide) (by decide)
        refine ⟨_, ?_, C0.wJ (k := 13) (by decide) (S 5 k.toNat i.toNat 0), wlen⟩
        simp only [↓x_X4_get_0, ↓x_X4_get_1, ↓x_X4_get_2, ↓x_X4_get_5, ↓x_X4_get_6, ↓x_X4_get_7n, ↓x_X4_get_7s, ↓x_X4_get_10, ↓x_X4_get_11, ↓x_X4_get_12, ↓x_X4_get_13, ↓x_X4_get_16, ↓x_X4_get_19, ↓x_X4_get_20, ↓x_X4_get_21, ↓x_X4_get_24, ↓x_X4_get_25, ↓x_X4_get_26, ↓x_X4_get_27, ↓x_X4_get_28, ↓x_X4_get_31, ↓x_X4_get_34, ↓x_X4_get_35, ↓x_X4_get_36, ↓x_X4_get_39, ↓x_X4_get_40, ↓x_X4_get_41, ↓x_X4_get_42, ↓x_X4_get_43, ↓x_X4_get_46, ↓x_X4_get_49, ↓x_X4_get_50, ho, hos, ↓cKR ca, ↓gK_of p3.2.2.1, c2, n1, ↓cKI ch, ↓cKJ cp, ↓pK_of q13, not_false_eq_true, ↓reduceIte]
      · rw [if_neg (by omega)] at ch
        rw [if_pos c3]
        refine ⟨_, ?_, K_fd C0 2⟩
        simp only [↓x_X4_get_0, ↓x_X4_get_1, ↓x_X4_get_2, ↓x_X4_get_5, ↓x_X4_get_6, ↓x_X4_get_7n, ↓x_X4_get_7s, ↓x_X4_get_10, ↓x_X4_get_11, ↓x_X4_get_12, ↓x_X4_get_13, ↓x_X4_get_16, ↓x_X4_get_19, ↓x_X4_get_20, ↓x_X4_get_21, ↓x_X4_get_24, ↓x_X4_get_25, ↓x_X4_get_26, ↓x_X4_get_27, ↓x_X4_get_28, ↓x_X4_get_31, ↓x_X4_get_34, ↓x_X4_get_35, ↓x_X4_get_36, ↓x_X4_get_39, ↓x_X4_get_40, ↓x_X4_get_41, ↓x_X4_get_42, ↓x_X4_get_43, ↓x_X4_get_46, ↓x_X4_get_49, ↓x_X4_get_50, ho, hos, ↓cKR ca, ↓gK_of p3.2.2.1, c2, ↓cKI ch, ↓cKI cf2, not_true_eq_false, ↓reduceIte]
    · rw [if_pos c2]
      refine ⟨_, ?_, K_fd C0 1⟩
      simp only [↓x_X4_get_0, ↓x_X4_get_1, ↓x_X4_get_2, ↓x_X4_get_5, ↓x_X4_get_6, ↓x_X4_get_7n, ↓x_X4_get_7s, ↓x_X4_get_10, ↓x_X4_get_11, ↓x_X4_get_12, ↓x_X4_get_13, ↓x_X4_get_16, ↓x_X4_get_19, ↓x_X4_get_20, ↓x_X4_get_21, ↓x_X4_get_24, ↓x_X4_get_25, ↓x_X4_get_26, ↓x_X4_get_27, ↓x_X4_get_28, ↓x_X4_get_31, ↓x_X4_get_34, ↓x_X4_get_35, ↓x_X4_get_36, ↓x_X4_get_39, ↓x_X4_get_40, ↓x_X4_get_41, ↓x_X4_get_42, ↓x_X4_get_43, ↓x_X4_get_46, ↓x_X4_get_49, ↓x_X4_get_50, ho, ↓cKR ca, ↓gK_of p3.2.2.1, c2, ↓cKI cf1, ↓reduceIte]
  · rw [if_neg c1] at ca
    rw [if_pos c1]
    refine ⟨h, ?_, C0, grow_rf⟩
    simp only [↓x_X4_get_0, ↓x_X4_get_1, ↓x_X4_get_2, ↓x_X4_get_5, ↓x_X4_get_6, ↓x_X4_get_7n, ↓x_X4_get_7s, ↓x_X4_get_10, ↓x_X4_get_11, ↓x_X4_get_12, ↓x_X4_get_13, ↓x_X4_get_16, ↓x_X4_get_19, ↓x_X4_get_20, ↓x_X4_get_21, ↓x_X4_get_24, ↓x_X4_get_25, ↓x_X4_get_26, ↓x_X4_get_27, ↓x_X4_get_28, ↓x_X4_get_31, ↓x_X4_get_34, ↓x_X4_get_35, ↓x_X4_get_36, ↓x_X4_get_39, ↓x_X4_get_40, ↓x_X4_get_41, ↓x_X4_get_42, ↓x_X4_get_43, ↓x_X4_get_46, ↓x_X4_get_49, ↓x_X4_get_50, ho, ↓cKR ca]
