/-! ===== a new Machine ===== -/
def nxt (kd : Int) (n x : Nat) : Nat := if (kd = 2 ∨ kd = 3) ∧ x + 1 < n then x + 1 else x
theorem nxt_b {kd : Int} {n x : Nat} (h : x < n) : nxt kd n x < n := by unfold nxt; split <;> omega
theorem idx_ne {n x t s u : Nat} (ht : t < n) (hu : u < n) (h : ¬ (x = s ∧ t = u)) : x * n + t ≠ s * n + u := by
  intro e
  rcases Nat.lt_trichotomy x s with q | q | q
  · have := Nat.mul_le_mul_right n q
    rw [Nat.succ_mul] at this
    omega
  · subst q
    exact h ⟨rfl, by omega⟩
  · have := Nat.mul_le_mul_right n q
    rw [Nat.succ_mul] at this
    omega
theorem c_init0 {h : AH} {f : Nat} {x y : AV} (q0 : rd h 0 f 0 = some x) (q1 : rd h 0 f 1 = some y) : E mX0_init [aR (some f)] h = some (none, wr (wr h 0 f 0 (aJ 0)) 0 f 1 (aJ 1)) := by
  have q1' : rd (wr h 0 f 0 (aJ 0)) 0 f 1 = some y := by rw [rd_wn (Or.inr (Or.inr (by decide)))]; exact q1
  rw [e_X0_init]
  simp only [↓x_X0_init_0, ↓x_X0_init_1, ↓x_X0_init_4, ↓x_X0_init_5, ↓x_X0_init_6, ↓x_X0_init_9, ↓x_X0_init_10, ↓x_X0_init_11, ↓x_X0_init_14, ↓pK_of q0, ↓pK_of q1']
/-- the Machine that is laid, up to a state -/
def IM (h0 h : AH) (kd : Int) (n s : Nat) : Prop := (Ext h0 h ∧ h.length = h0.length + 4 + s ∧ slt h = slt h0 + 8 + 2 * n + n * n + 2 * s) ∧ (rd h 1 h0.length 0 = some (aI kd) ∧ rd h 1 h0.length 1 = some (aI n) ∧ rd h 1 h0.length 2 = some (aR (some (h0.length + 1))) ∧ rd h 1 h0.length 3 = some (aR (some (h0.length + 2))) ∧ rd h 1 h0.length 4 = some (aR (some (h0.length + 3)))) ∧ (∀ j, 5 ≤ j → j < 8 → rd h 1 h0.length j = some (aI 0)) ∧ (ln h (h0.length + 1) = some n ∧ ln h (h0.length + 2) = some (n * n) ∧ ln h (h0.length + 3) = some n) ∧ (∀ j, j < n → rd h 10 (h0.length + 1) j = some (aI 0)) ∧ (∀ x t, x < n → t < n → rd h 10 (h0.length + 2) (x * n + t) = some (aI (if x < s ∧ t = nxt kd n x then 1 else 0))) ∧ (∀ j, j < n → ∃ v, rd h 14 (h0.length + 3) j = some v) ∧ (∀ j, j < s → rd h 14 (h0.length + 3) j = some (aR (some (h0.length + 4 + j)))) ∧ ∀ j, j < s → rd h 0 (h0.length + 4 + j) 0 = some (aJ 0) ∧ rd h 0 (h0.length + 4 + j) 1 = some (aJ 1)
theorem IM.step {h0 h : AH} {kd : Int} {n s : Nat} (H : IM h0 h kd n s) (hs : s < n) (hn : n ≤ 5) : ∃ h1 h3, h1 = wr h 10 (h0.length + 2) (s * n + nxt kd n s) (aI 1) ∧ h1.length = h0.length + 4 + s ∧ h3 = wr (wr (h1 ++ [(0, [aJ 0, aJ 0])]) 0 (h0.length + 4 + s) 0 (aJ 0)) 0 (h0.length + 4 + s) 1 (aJ 1) ∧ E mX0_init [aR (some (h0.length + 4 + s))] (h1 ++ [(0, [aJ 0, aJ 0])]) = some (none, h3) ∧ isO h3 0 (h0.length + 4 + s) = true ∧ tagR h3 (h0.length + 3) = 14 ∧ (∃ v, rd h3 14 (h0.length + 3) s = some v) ∧ rd h1 1 h0.length 4 = some (aR (some (h0.length + 3))) ∧ IM h0 (wr h3 14 (h0.length + 3) s (aR (some (h0.length + 4 + s)))) kd n (s + 1) := by
  obtain ⟨⟨ex, hl, hsl⟩, ⟨g0, g1, g2, g3, g4⟩, g5, ⟨l1, l2, l3⟩, p1, w1, o1, o2, fr⟩ := H
  generalize hc : h0.length = a at *
  have hq := nxt_b (kd := kd) hs
  refine ⟨_, _, rfl, by rw [wr_len]; exact hl, rfl, ?_⟩
  generalize hh1 : wr h 10 (a + 2) (s * n + nxt kd n s) (aI 1) = h1
  have hl1 : h1.length = a + 4 + s := by rw [← hh1, wr_len]; exact hl
  have hs1 : slt h1 = slt h := by rw [← hh1, wr_slt]
  have n0 : rd (h1 ++ [(0, [aJ 0, aJ 0])]) 0 (a + 4 + s) 0 = some (aJ 0) := by rw [← hl1]; exact rd_nw
  have n1 : rd (h1 ++ [(0, [aJ 0, aJ 0])]) 0 (a + 4 + s) 1 = some (aJ 0) := by rw [← hl1]; exact rd_nw
  have ci := c_init0 n0 n1
  have n1' : rd (wr (h1 ++ [(0, [aJ 0, aJ 0])]) 0 (a + 4 + s) 0 (aJ 0)) 0 (a + 4 + s) 1 = some (aJ 0) := by rw [rd_wn (Or.inr (Or.inr (by decide)))]; exact n1
  generalize hh3 : wr (wr (h1 ++ [(0, [aJ 0, aJ 0])]) 0 (a + 4 + s) 0 (aJ 0)) 0 (a + 4 + s) 1 (aJ 1) = h3 at ci
  have m0 : rd h3 0 (a + 4 + s) 0 = some (aJ 0) := by rw [← hh3, rd_wn (Or.inr (Or.inr (by decide)))]; exact rd_wr n0
  have m1 : rd h3 0 (a + 4 + s) 1 = some (aJ 1) := by rw [← hh3]; exact rd_wr n1'
  have r3 : ∀ t x k, x < a + 4 + s → rd h3 t x k = rd h1 t x k := fun t x k hx => by rw [← hh3, rd_wn (Or.inr (Or.inl (by omega))), rd_wn (Or.inr (Or.inl (by omega))), rd_app (by omega)]
  have k3 : ∀ x, x < a + 4 + s → ln h3 x = ln h1 x := fun x hx => by rw [← hh3, ln_wr, ln_wr, ln_app (by omega)]
  have ln3 : h3.length = a + 5 + s := by rw [← hh3, wr_len, wr_len, len_app]; omega
  have sl3 : slt h3 = slt h1 + 2 := by rw [← hh3, wr_slt, wr_slt, slt_app]; rfl
  have ex3 : Ext h0 h3 := by
    rw [← hh3]
    refine Ext.wr (Ext.wr (Ext.app ?_ _) (by omega)) (by omega)
    rw [← hh1]
    exact ex.wr (by omega)
  have r1 : ∀ t x k, (t ≠ 10 ∨ x ≠ a + 2 ∨ k ≠ s * n + nxt kd n s) → rd h1 t x k = rd h t x k := fun t x k z => by rw [← hh1]; exact rd_wn z
  have k1 : ∀ x, ln h1 x = ln h x := fun x => by rw [← hh1]; exact ln_wr
  obtain ⟨vs, hvs⟩ := o1 s hs
  have ov : rd h3 14 (a + 3) s = some vs := by rw [r3 _ _ _ (by omega), r1 _ _ _ (Or.inl (by decide))]; exact hvs
  refine ⟨ci, isO_rd m0, tag_rd ov, ⟨vs, ov⟩, by rw [r1 _ _ _ (Or.inl (by decide))]; exact g4, ?_⟩
  have r4 : ∀ t x k, x < a + 4 + s → (t ≠ 14 ∨ x ≠ a + 3 ∨ k ≠ s) → rd (wr h3 14 (a + 3) s (aR (some (a + 4 + s)))) t x k = rd h1 t x k := fun t x k hx z => by rw [rd_wn z, r3 _ _ _ hx]
  have rA : ∀ k v, rd h 1 a k = some v → rd (wr h3 14 (a + 3) s (aR (some (a + 4 + s)))) 1 a k = some v := fun k v z => by rw [r4 _ _ _ (by omega) (Or.inl (by decide)), r1 _ _ _ (Or.inl (by decide))]; exact z
  have lA : ∀ x m, x < a + 4 + s → ln h x = some m → ln (wr h3 14 (a + 3) s (aR (some (a + 4 + s)))) x = some m := fun x m hx z => by rw [ln_wr, k3 _ hx, k1]; exact z
  unfold IM
  rw [hc]
  refine ⟨⟨ex3.wr (by omega), by rw [wr_len]; omega, by rw [wr_slt, sl3, hs1, hsl]; omega⟩, ⟨rA _ _ g0, rA _ _ g1, rA _ _ g2, rA _ _ g3, rA _ _ g4⟩, fun j h1 h2 => rA _ _ (g5 j h1 h2), ⟨lA _ _ (by omega) l1, lA _ _ (by omega) l2, lA _ _ (by omega) l3⟩, fun j hj => ?_, fun x t hx ht => ?_, fun j hj => ?_, fun j hj => ?_, fun j hj => ?_⟩
  · rw [r4 _ _ _ (by omega) (Or.inl (by decide)), r1 _ _ _ (Or.inr (Or.inl (by omega)))]; exact p1 j hj
  · rw [r4 _ _ _ (by omega) (Or.inl (by decide))]
    by_cases e : x = s ∧ t = nxt kd n s
    · obtain ⟨e1, e2⟩ := e
      subst e1
      subst e2
      rw [if_pos ⟨by omega, rfl⟩, ← hh1]
      exact rd_wr (w1 _ _ hx ht)
    · rw [r1 _ _ _ (Or.inr (Or.inr (idx_ne ht hq e))), w1 x t hx ht]
      by_cases e2 : x < s ∧ t = nxt kd n x
      · rw [if_pos e2, if_pos ⟨by omega, e2.2⟩]
      · rw [if_neg e2, if_neg (fun z => by
          rcases Nat.lt_or_ge x s with q | q
          · exact e2 ⟨q, z.2⟩
          · have : x = s := by omega
            subst this
            exact e ⟨rfl, z.2⟩)]
  · by_cases e : j = s
    · subst e; exact ⟨_, rd_wr ov⟩
    · obtain ⟨v, hv⟩ := o1 j hj
      exact ⟨v, by rw [r4 _ _ _ (by omega) (Or.inr (Or.inr e)), r1 _ _ _ (Or.inl (by decide))]; exact hv⟩
  · by_cases e : j = s
    · subst e; exact rd_wr ov
    · rw [r4 _ _ _ (by omega) (Or.inr (Or.inr e)), r1 _ _ _ (Or.inl (by decide))]; exact o2 j (by omega)
  · by_cases e : j = s
    · subst e
      exact ⟨by rw [rd_wn (Or.inl (by decide))]; exact m0, by rw [rd_wn (Or.inl (by decide))]; exact m1⟩
    · obtain ⟨f0, f1⟩ := fr j (by omega)
      exact ⟨by rw [r4 _ _ _ (by omega) (Or.inl (by decide)), r1 _ _ _ (Or.inl (by decide))]; exact f0, by rw [r4 _ _ _ (by omega) (Or.inl (by decide)), r1 _ _ _ (Or.inl (by decide))]; exact f1⟩
theorem sn_w {s n : Nat} (hs : s < n) (hn : n ≤ 5) : w32 ((s : Int) * (n : Int)) = ((s * n : Nat) : Int) := by
  have hb := sn_b hs
  have hc := nn_b hn
  rw [w32_in] <;> rw [← Int.natCast_mul] <;> omega
theorem snu_w {s n u : Nat} (hs : s < n) (hu : u < n) (hn : n ≤ 5) : w32 (((s * n : Nat) : Int) + (u : Int)) = ((s * n + u : Nat) : Int) := by
  have hb := sn_b hs
  have hc := nn_b hn
  rw [w32_in] <;> omega
theorem n1_w {n : Nat} (hn : n ≤ 5) : w32 ((n : Int) - 1) = (n : Int) - 1 := by rw [w32_in] <;> omega
theorem l_init1 {h0 : AH} {kd : Int} {n : Nat} (hn : 1 ≤ n ∧ n ≤ 5) {ag : Int} (hag : ag = if kd = 2 ∨ kd = 3 then 1 else 0) : ∀ (d s : Nat) (h : AH) (v5 : AV), s + d = n → IM h0 h kd n s →
    ∃ h', X mX1_init 92 [aR (some h0.length), aI kd, aI n, aI ag, aI s, v5] [] h = some (none, h') ∧ IM h0 h' kd n n := by
  intro d
  induction d with
  | zero =>
    intro s h v5 hd H
    have e : s = n := by omega
    subst e
    refine ⟨h, ?_, H⟩
    have g1 := H.2.1.2.1
    have n1 : ((s : Nat) : Int) ≤ (s : Int) := Int.le_refl _
    rw [x_X1_init_92]
    simp only [↓x_X1_init_0, ↓x_X1_init_1, ↓x_X1_init_4, ↓x_X1_init_5, ↓x_X1_init_6_0, ↓x_X1_init_6_1, ↓x_X1_init_9, ↓x_X1_init_10, ↓x_X1_init_11, ↓x_X1_init_14, ↓x_X1_init_15, ↓x_X1_init_16, ↓x_X1_init_19, ↓x_X1_init_20, ↓x_X1_init_21, ↓x_X1_init_24, ↓x_X1_init_25, ↓x_X1_init_26, ↓x_X1_init_27, ↓x_X1_init_28, ↓x_X1_init_31, ↓x_X1_init_34, ↓x_X1_init_37, ↓x_X1_init_38, ↓x_X1_init_39, ↓x_X1_init_42, ↓x_X1_init_44, ↓x_X1_init_47, ↓x_X1_init_48, ↓x_X1_init_49, ↓x_X1_init_52, ↓x_X1_init_53, ↓x_X1_init_56, ↓x_X1_init_57, ↓x_X1_init_59, ↓x_X1_init_62, ↓x_X1_init_63, ↓x_X1_init_64, ↓x_X1_init_67, ↓x_X1_init_70, ↓x_X1_init_73, ↓x_X1_init_74, ↓x_X1_init_75, ↓x_X1_init_78, ↓x_X1_init_79, ↓x_X1_init_80, ↓x_X1_init_83, ↓x_X1_init_84, ↓x_X1_init_87, ↓x_X1_init_88, ↓x_X1_init_89, ↓x_X1_init_90, ↓x_X1_init_94, ↓x_X1_init_95, ↓x_X1_init_98, ↓x_X1_init_101, ↓x_X1_init_102, ↓x_X1_init_105, ↓x_X1_init_107, ↓x_X1_init_108, ↓x_X1_init_111, ↓x_X1_init_112, ↓x_X1_init_113, ↓x_X1_init_116, ↓x_X1_init_118, ↓x_X1_init_119, ↓x_X1_init_120, ↓x_X1_init_123, ↓x_X1_init_125, ↓x_X1_init_127, ↓x_X1_init_128, ↓x_X1_init_131, ↓x_X1_init_133, ↓x_X1_init_134, ↓x_X1_init_137, ↓x_X1_init_138, ↓x_X1_init_140, ↓x_X1_init_141, ↓x_X1_init_142, ↓x_X1_init_143, ↓x_X1_init_144, ↓x_X1_init_147, ↓x_X1_init_149, ↓x_X1_init_152, ↓x_X1_init_153, ↓x_X1_init_156, ↓x_X1_init_157, ↓x_X1_init_160, ↓x_X1_init_163, ↓gK_of g1, n1, ↓reduceIte]
  | succ d ih =>
    intro s h v5 hd H
    have hs : s < n := by omega
    have g1 := H.2.1.2.1
    have g3 := H.2.1.2.2.2.1
    have n3 : ¬ ((n : Nat) : Int) ≤ (s : Int) := by omega
    obtain ⟨h1, h3, a1, a2, a3, a4, a5, a6, ⟨v, a7⟩, a8, a9⟩ := H.step hs hn.2
    have hq := nxt_b (kd := kd) hs
    have hb := sn_b hs
    have hc := nn_b hn.2
    have w0 := H.2.2.2.2.2.1 s _ hs hq
    obtain ⟨h', b1, b2⟩ := ih (s + 1) _ (aI (nxt kd n s : Nat)) (by omega) a9
    refine ⟨h', ?_, b2⟩
    have hs5 : s ≤ 1000 := by omega
    have x92 : X mX1_init 92 [aR (some h0.length), aI kd, aI n, aI ag, aI s, v5] [] h = X mX1_init 125 [aR (some h0.length), aI kd, aI n, aI ag, aI s, v5] [aI (nxt kd n s : Nat)] h := by
      rw [x_X1_init_92]
      by_cases c : kd = 2 ∨ kd = 3
      · rw [if_pos c] at hag
        subst hag
        have z : ¬ (1 : Int) = 0 := by decide
        by_cases c2 : s + 1 < n
        · have e : nxt kd n s = s + 1 := if_pos ⟨c, c2⟩
          have n4 : ¬ (n : Int) - 1 ≤ (s : Int) := by omega
          rw [e]
          simp only [↓x_X1_init_0, ↓x_X1_init_1, ↓x_X1_init_4, ↓x_X1_init_5, ↓x_X1_init_6_0, ↓x_X1_init_6_1, ↓x_X1_init_9, ↓x_X1_init_10, ↓x_X1_init_11, ↓x_X1_init_14, ↓x_X1_init_15, ↓x_X1_init_16, ↓x_X1_init_19, ↓x_X1_init_20, ↓x_X1_init_21, ↓x_X1_init_24, ↓x_X1_init_25, ↓x_X1_init_26, ↓x_X1_init_27, ↓x_X1_init_28, ↓x_X1_init_31, ↓x_X1_init_34, ↓x_X1_init_37, ↓x_X1_init_38, ↓x_X1_init_39, ↓x_X1_init_42, ↓x_X1_init_44, ↓x_X1_init_47, ↓x_X1_init_48, ↓x_X1_init_49, ↓x_X1_init_52, ↓x_X1_init_53, ↓x_X1_init_56, ↓x_X1_init_57, ↓x_X1_init_59, ↓x_X1_init_62, ↓x_X1_init_63, ↓x_X1_init_64, ↓x_X1_init_67, ↓x_X1_init_70, ↓x_X1_init_73, ↓x_X1_init_74, ↓x_X1_init_75, ↓x_X1_init_78, ↓x_X1_init_79, ↓x_X1_init_80, ↓x_X1_init_83, ↓x_X1_init_84, ↓x_X1_init_87, ↓x_X1_init_88, ↓x_X1_init_89, ↓x_X1_init_90, ↓x_X1_init_94, ↓x_X1_init_95, ↓x_X1_init_98, ↓x_X1_init_101, ↓x_X1_init_102, ↓x_X1_init_105, ↓x_X1_init_107, ↓x_X1_init_108, ↓x_X1_init_111, ↓x_X1_init_112, ↓x_X1_init_113, ↓x_X1_init_116, ↓x_X1_init_118, ↓x_X1_init_119, ↓x_X1_init_120, ↓x_X1_init_123, ↓x_X1_init_127, ↓x_X1_init_128, ↓x_X1_init_131, ↓x_X1_init_133, ↓x_X1_init_134, ↓x_X1_init_137, ↓x_X1_init_138, ↓x_X1_init_140, ↓x_X1_init_141, ↓x_X1_init_142, ↓x_X1_init_143, ↓x_X1_init_144, ↓x_X1_init_147, ↓x_X1_init_149, ↓x_X1_init_152, ↓x_X1_init_153, ↓x_X1_init_156, ↓x_X1_init_157, ↓x_X1_init_160, ↓x_X1_init_163, ↓gK_of g1, n3, z, n1_w hn.2, n4, w32_s hs5, ↓reduceIte]
        · have e : nxt kd n s = s := if_neg fun z => c2 z.2
          have n4 : (n : Int) - 1 ≤ (s : Int) := by omega
          rw [e]
          simp only [↓x_X1_init_0, ↓x_X1_init_1, ↓x_X1_init_4, ↓x_X1_init_5, ↓x_X1_init_6_0, ↓x_X1_init_6_1, ↓x_X1_init_9, ↓x_X1_init_10, ↓x_X1_init_11, ↓x_X1_init_14, ↓x_X1_init_15, ↓x_X1_init_16, ↓x_X1_init_19, ↓x_X1_init_20, ↓x_X1_init_21, ↓x_X1_init_24, ↓x_X1_init_25, ↓x_X1_init_26, ↓x_X1_init_27, ↓x_X1_init_28, ↓x_X1_init_31, ↓x_X1_init_34, ↓x_X1_init_37, ↓x_X1_init_38, ↓x_X1_init_39, ↓x_X1_init_42, ↓x_X1_init_44, ↓x_X1_init_47, ↓x_X1_init_48, ↓x_X1_init_49, ↓x_X1_init_52, ↓x_X1_init_53, ↓x_X1_init_56, ↓x_X1_init_57, ↓x_X1_init_59, ↓x_X1_init_62, ↓x_X1_init_63, ↓x_X1_init_64, ↓x_X1_init_67, ↓x_X1_init_70, ↓x_X1_init_73, ↓x_X1_init_74, ↓x_X1_init_75, ↓x_X1_init_78, ↓x_X1_init_79, ↓x_X1_init_80, ↓x_X1_init_83, ↓x_X1_init_84, ↓x_X1_init_87, ↓x_X1_init_88, ↓x_X1_init_89, ↓x_X1_init_90, ↓x_X1_init_94, ↓x_X1_init_95, ↓x_X1_init_98, ↓x_X1_init_101, ↓x_X1_init_102, ↓x_X1_init_105, ↓x_X1_init_107, ↓x_X1_init_108, ↓x_X1_init_111, ↓x_X1_init_112, ↓x_X1_init_113, ↓x_X1_init_116, ↓x_X1_init_118, ↓x_X1_init_119, ↓x_X1_init_120, ↓x_X1_init_123, ↓x_X1_init_127, ↓x_X1_init_128, ↓x_X1_init_131, ↓x_X1_init_133, ↓x_X1_init_134, ↓x_X1_init_137, ↓x_X1_init_138, ↓x_X1_init_140, ↓x_X1_init_141, ↓x_X1_init_142, ↓x_X1_init_143, ↓x_X1_init_144, ↓x_X1_init_147, ↓x_X1_init_149, ↓x_X1_init_152, ↓x_X1_init_153, ↓x_X1_init_156, ↓x_X1_init_157, ↓x_X1_init_160, ↓x_X1_init_163, ↓gK_of g1, n3, z, n1_w hn.2, n4, ↓reduceIte]
      · rw [if_neg c] at hag
        subst hag
        have e : nxt kd n s = s := if_neg fun z => c z.1
        rw [e]
        simp only [↓x_X1_init_0, ↓x_X1_init_1, ↓x_X1_init_4, ↓x_X1_init_5, ↓x_X1_init_6_0, ↓x_X1_init_6_1, ↓x_X1_init_9, ↓x_X1_init_10, ↓x_X1_init_11, ↓x_X1_init_14, ↓x_X1_init_15, ↓x_X1_init_16, ↓x_X1_init_19, ↓x_X1_init_20, ↓x_X1_init_21, ↓x_X1_init_24, ↓x_X1_init_25, ↓x_X1_init_26, ↓x_X1_init_27, ↓x_X1_init_28, ↓x_X1_init_31, ↓x_X1_init_34, ↓x_X1_init_37, ↓x_X1_init_38, ↓x_X1_init_39, ↓x_X1_init_42, ↓x_X1_init_44, ↓x_X1_init_47, ↓x_X1_init_48, ↓x_X1_init_49, ↓x_X1_init_52, ↓x_X1_init_53, ↓x_X1_init_56, ↓x_X1_init_57, ↓x_X1_init_59, ↓x_X1_init_62, ↓x_X1_init_63, ↓x_X1_init_64, ↓x_X1_init_67, ↓x_X1_init_70, ↓x_X1_init_73, ↓x_X1_init_74, ↓x_X1_init_75, ↓x_X1_init_78, ↓x_X1_init_79, ↓x_X1_init_80, ↓x_X1_init_83, ↓x_X1_init_84, ↓x_X1_init_87, ↓x_X1_init_88, ↓x_X1_init_89, ↓x_X1_init_90, ↓x_X1_init_94, ↓x_X1_init_95, ↓x_X1_init_98, ↓x_X1_init_101, ↓x_X1_init_102, ↓x_X1_init_105, ↓x_X1_init_107, ↓x_X1_init_108, ↓x_X1_init_111, ↓x_X1_init_112, ↓x_X1_init_113, ↓x_X1_init_116, ↓x_X1_init_118, ↓x_X1_init_119, ↓x_X1_init_120, ↓x_X1_init_123, ↓x_X1_init_127, ↓x_X1_init_128, ↓x_X1_init_131, ↓x_X1_init_133, ↓x_X1_init_134, ↓x_X1_init_137, ↓x_X1_init_138, ↓x_X1_init_140, ↓x_X1_init_141, ↓x_X1_init_142, ↓x_X1_init_143, ↓x_X1_init_144, ↓x_X1_init_147, ↓x_X1_init_149, ↓x_X1_init_152, ↓x_X1_init_153, ↓x_X1_init_156, ↓x_X1_init_157, ↓x_X1_init_160, ↓x_X1_init_163, ↓gK_of g1, n3, ↓reduceIte]
    rw [x92, ← b1]
    have f3 : 0 ≤ ((s * n + nxt kd n s : Nat) : Int) := Int.natCast_nonneg _
    have f4 : (0 : Int) ≤ (s : Int) := Int.natCast_nonneg _
    have st1 : X mX1_init 125 [aR (some h0.length), aI kd, aI n, aI ag, aI s, v5] [aI (nxt kd n s : Nat)] h = X mX1_init 143 [aR (some h0.length), aI kd, aI n, aI ag, aI s, aI (nxt kd n s : Nat)] [] h1 := by
      rw [a1]
      simp only [↓x_X1_init_0, ↓x_X1_init_1, ↓x_X1_init_4, ↓x_X1_init_5, ↓x_X1_init_6_0, ↓x_X1_init_6_1, ↓x_X1_init_9, ↓x_X1_init_10, ↓x_X1_init_11, ↓x_X1_init_14, ↓x_X1_init_15, ↓x_X1_init_16, ↓x_X1_init_19, ↓x_X1_init_20, ↓x_X1_init_21, ↓x_X1_init_24, ↓x_X1_init_25, ↓x_X1_init_26, ↓x_X1_init_27, ↓x_X1_init_28, ↓x_X1_init_31, ↓x_X1_init_34, ↓x_X1_init_37, ↓x_X1_init_38, ↓x_X1_init_39, ↓x_X1_init_42, ↓x_X1_init_44, ↓x_X1_init_47, ↓x_X1_init_48, ↓x_X1_init_49, ↓x_X1_init_52, ↓x_X1_init_53, ↓x_X1_init_56, ↓x_X1_init_57, ↓x_X1_init_59, ↓x_X1_init_62, ↓x_X1_init_63, ↓x_X1_init_64, ↓x_X1_init_67, ↓x_X1_init_70, ↓x_X1_init_73, ↓x_X1_init_74, ↓x_X1_init_75, ↓x_X1_init_78, ↓x_X1_init_79, ↓x_X1_init_80, ↓x_X1_init_83, ↓x_X1_init_84, ↓x_X1_init_87, ↓x_X1_init_88, ↓x_X1_init_89, ↓x_X1_init_90, ↓x_X1_init_94, ↓x_X1_init_95, ↓x_X1_init_98, ↓x_X1_init_101, ↓x_X1_init_102, ↓x_X1_init_105, ↓x_X1_init_107, ↓x_X1_init_108, ↓x_X1_init_111, ↓x_X1_init_112, ↓x_X1_init_113, ↓x_X1_init_116, ↓x_X1_init_118, ↓x_X1_init_119, ↓x_X1_init_120, ↓x_X1_init_123, ↓x_X1_init_125, ↓x_X1_init_127, ↓x_X1_init_128, ↓x_X1_init_131, ↓x_X1_init_133, ↓x_X1_init_134, ↓x_X1_init_137, ↓x_X1_init_138, ↓x_X1_init_140, ↓x_X1_init_141, ↓x_X1_init_144, ↓x_X1_init_147, ↓x_X1_init_149, ↓x_X1_init_152, ↓x_X1_init_153, ↓x_X1_init_156, ↓x_X1_init_157, ↓x_X1_init_160, ↓x_X1_init_163, ↓gK_of g3, ↓gK_of g1, sn_w hs hn.2, snu_w hs hq hn.2]
      rw [x_X1_init_142, if_pos f3, Int.toNat_natCast, pK_of w0]
    rw [st1]
    simp only [↓x_X1_init_0, ↓x_X1_init_1, ↓x_X1_init_4, ↓x_X1_init_5, ↓x_X1_init_6_0, ↓x_X1_init_6_1, ↓x_X1_init_9, ↓x_X1_init_10, ↓x_X1_init_11, ↓x_X1_init_14, ↓x_X1_init_15, ↓x_X1_init_16, ↓x_X1_init_19, ↓x_X1_init_20, ↓x_X1_init_21, ↓x_X1_init_24, ↓x_X1_init_25, ↓x_X1_init_26, ↓x_X1_init_27, ↓x_X1_init_28, ↓x_X1_init_31, ↓x_X1_init_34, ↓x_X1_init_37, ↓x_X1_init_38, ↓x_X1_init_39, ↓x_X1_init_42, ↓x_X1_init_44, ↓x_X1_init_47, ↓x_X1_init_48, ↓x_X1_init_49, ↓x_X1_init_52, ↓x_X1_init_53, ↓x_X1_init_56, ↓x_X1_init_57, ↓x_X1_init_59, ↓x_X1_init_62, ↓x_X1_init_63, ↓x_X1_init_64, ↓x_X1_init_67, ↓x_X1_init_70, ↓x_X1_init_73, ↓x_X1_init_74, ↓x_X1_init_75, ↓x_X1_init_78, ↓x_X1_init_79, ↓x_X1_init_80, ↓x_X1_init_83, ↓x_X1_init_84, ↓x_X1_init_87, ↓x_X1_init_88, ↓x_X1_init_89, ↓x_X1_init_90, ↓x_X1_init_94, ↓x_X1_init_95, ↓x_X1_init_98, ↓x_X1_init_101, ↓x_X1_init_102, ↓x_X1_init_105, ↓x_X1_init_107, ↓x_X1_init_108, ↓x_X1_init_111, ↓x_X1_init_112, ↓x_X1_init_113, ↓x_X1_init_116, ↓x_X1_init_118, ↓x_X1_init_119, ↓x_X1_init_120, ↓x_X1_init_123, ↓x_X1_init_125, ↓x_X1_init_127, ↓x_X1_init_128, ↓x_X1_init_131, ↓x_X1_init_133, ↓x_X1_init_134, ↓x_X1_init_137, ↓x_X1_init_138, ↓x_X1_init_140, ↓x_X1_init_141, ↓x_X1_init_142, ↓x_X1_init_143, ↓x_X1_init_144, ↓x_X1_init_147, ↓x_X1_init_149, ↓x_X1_init_152, ↓x_X1_init_156, ↓x_X1_init_157, ↓x_X1_init_160, ↓x_X1_init_163, ↓gK_of a8, a2]
    simp only [↓x_X1_init_0, ↓x_X1_init_1, ↓x_X1_init_4, ↓x_X1_init_5, ↓x_X1_init_6_0, ↓x_X1_init_6_1, ↓x_X1_init_9, ↓x_X1_init_10, ↓x_X1_init_11, ↓x_X1_init_14, ↓x_X1_init_15, ↓x_X1_init_16, ↓x_X1_init_19, ↓x_X1_init_20, ↓x_X1_init_21, ↓x_X1_init_24, ↓x_X1_init_25, ↓x_X1_init_26, ↓x_X1_init_27, ↓x_X1_init_28, ↓x_X1_init_31, ↓x_X1_init_34, ↓x_X1_init_37, ↓x_X1_init_38, ↓x_X1_init_39, ↓x_X1_init_42, ↓x_X1_init_44, ↓x_X1_init_47, ↓x_X1_init_48, ↓x_X1_init_49, ↓x_X1_init_52, ↓x_X1_init_53, ↓x_X1_init_56, ↓x_X1_init_57, ↓x_X1_init_59, ↓x_X1_init_62, ↓x_X1_init_63, ↓x_X1_init_64, ↓x_X1_init_67, ↓x_X1_init_70, ↓x_X1_init_73, ↓x_X1_init_74, ↓x_X1_init_75, ↓x_X1_init_78, ↓x_X1_init_79, ↓x_X1_init_80, ↓x_X1_init_83, ↓x_X1_init_84, ↓x_X1_init_87, ↓x_X1_init_88, ↓x_X1_init_89, ↓x_X1_init_90, ↓x_X1_init_94, ↓x_X1_init_95, ↓x_X1_init_98, ↓x_X1_init_101, ↓x_X1_init_102, ↓x_X1_init_105, ↓x_X1_init_107, ↓x_X1_init_108, ↓x_X1_init_111, ↓x_X1_init_112, ↓x_X1_init_113, ↓x_X1_init_116, ↓x_X1_init_118, ↓x_X1_init_119, ↓x_X1_init_120, ↓x_X1_init_123, ↓x_X1_init_125, ↓x_X1_init_127, ↓x_X1_init_128, ↓x_X1_init_131, ↓x_X1_init_133, ↓x_X1_init_134, ↓x_X1_init_137, ↓x_X1_init_138, ↓x_X1_init_140, ↓x_X1_init_141, ↓x_X1_init_142, ↓x_X1_init_143, ↓x_X1_init_144, ↓x_X1_init_147, ↓x_X1_init_149, ↓x_X1_init_152, ↓x_X1_init_153, ↓x_X1_init_157, ↓x_X1_init_160, ↓x_X1_init_163, ↓cKV a4]
    rw [x_X1_init_156 a6 a5, if_pos f4, Int.toNat_natCast, pK_of a7]
    simp only [↓x_X1_init_0, ↓x_X1_init_1, ↓x_X1_init_4, ↓x_X1_init_5, ↓x_X1_init_6_0, ↓x_X1_init_6_1, ↓x_X1_init_9, ↓x_X1_init_10, ↓x_X1_init_11, ↓x_X1_init_14, ↓x_X1_init_15, ↓x_X1_init_16, ↓x_X1_init_19, ↓x_X1_init_20, ↓x_X1_init_21, ↓x_X1_init_24, ↓x_X1_init_25, ↓x_X1_init_26, ↓x_X1_init_27, ↓x_X1_init_28, ↓x_X1_init_31, ↓x_X1_init_34, ↓x_X1_init_37, ↓x_X1_init_38, ↓x_X1_init_39, ↓x_X1_init_42, ↓x_X1_init_44, ↓x_X1_init_47, ↓x_X1_init_48, ↓x_X1_init_49, ↓x_X1_init_52, ↓x_X1_init_53, ↓x_X1_init_56, ↓x_X1_init_57, ↓x_X1_init_59, ↓x_X1_init_62, ↓x_X1_init_63, ↓x_X1_init_64, ↓x_X1_init_67, ↓x_X1_init_70, ↓x_X1_init_73, ↓x_X1_init_74, ↓x_X1_init_75, ↓x_X1_init_78, ↓x_X1_init_79, ↓x_X1_init_80, ↓x_X1_init_83, ↓x_X1_init_84, ↓x_X1_init_87, ↓x_X1_init_88, ↓x_X1_init_89, ↓x_X1_init_90, ↓x_X1_init_94, ↓x_X1_init_95, ↓x_X1_init_98, ↓x_X1_init_101, ↓x_X1_init_102, ↓x_X1_init_105, ↓x_X1_init_107, ↓x_X1_init_108, ↓x_X1_init_111, ↓x_X1_init_112, ↓x_X1_init_113, ↓x_X1_init_116, ↓x_X1_init_118, ↓x_X1_init_119, ↓x_X1_init_120, ↓x_X1_init_123, ↓x_X1_init_125, ↓x_X1_init_127, ↓x_X1_init_128, ↓x_X1_init_131, ↓x_X1_init_133, ↓x_X1_init_134, ↓x_X1_init_137, ↓x_X1_init_138, ↓x_X1_init_140, ↓x_X1_init_141, ↓x_X1_init_142, ↓x_X1_init_143, ↓x_X1_init_144, ↓x_X1_init_147, ↓x_X1_init_149, ↓x_X1_init_152, ↓x_X1_init_153, ↓x_X1_init_156, ↓x_X1_init_157, ↓x_X1_init_160, ↓x_X1_init_163, w32_s hs5]
