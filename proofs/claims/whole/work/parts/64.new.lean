/-! ===== what is made: sheets, machines ===== -/
def Ext (h h' : AH) : Prop := (∀ t x k v, rd h t x k = some v → rd h' t x k = some v) ∧ (∀ x n, ln h x = some n → ln h' x = some n) ∧ (∀ t x, isO h t x = true → isO h' t x = true) ∧ h.length ≤ h'.length
theorem Ext.rf {h : AH} : Ext h h := ⟨fun _ _ _ _ z => z, fun _ _ z => z, fun _ _ z => z, Nat.le_refl _⟩
theorem rd_lt {h : AH} {t x k : Nat} {v : AV} (q : rd h t x k = some v) : x < h.length := by
  unfold rd at q
  cases e : h[x]? with
  | none => rw [e] at q; cases q
  | some c => exact (List.getElem?_eq_some_iff.mp e).1
theorem ln_lt {h : AH} {x n : Nat} (q : ln h x = some n) : x < h.length := by
  unfold ln at q
  cases e : h[x]? with
  | none => rw [e] at q; cases q
  | some c => exact (List.getElem?_eq_some_iff.mp e).1
theorem isO_lt {h : AH} {t x : Nat} (q : isO h t x = true) : x < h.length := by
  unfold isO at q
  cases e : h[x]? with
  | none => rw [e] at q; cases q
  | some c => exact (List.getElem?_eq_some_iff.mp e).1
theorem rd_app {h : AH} {c : AC} {t x k : Nat} (q : x < h.length) : rd (h ++ [c]) t x k = rd h t x k := by unfold rd; rw [List.getElem?_append_left q]
theorem ln_app {h : AH} {c : AC} {x : Nat} (q : x < h.length) : ln (h ++ [c]) x = ln h x := by unfold ln; rw [List.getElem?_append_left q]
theorem isO_app {h : AH} {c : AC} {t x : Nat} (q : x < h.length) : isO (h ++ [c]) t x = isO h t x := by unfold isO; rw [List.getElem?_append_left q]
theorem at_nw {h : AH} {c : AC} : (h ++ [c])[h.length]? = some c := by rw [List.getElem?_append_right (Nat.le_refl _), Nat.sub_self]; rfl
theorem rd_nw {h : AH} {t k : Nat} {fs : List AV} : rd (h ++ [(t, fs)]) t h.length k = fs[k]? := by unfold rd; rw [at_nw]; simp only [Nat.beq_refl, cond_true]
theorem ln_nw {h : AH} {t : Nat} {fs : List AV} (q : Nat.ble 10 t = true) : ln (h ++ [(t, fs)]) h.length = some fs.length := by unfold ln; rw [at_nw]; simp only [q, cond_true]
theorem isO_nw {h : AH} {t : Nat} {fs : List AV} : isO (h ++ [(t, fs)]) t h.length = true := by unfold isO; rw [at_nw]; simp only [Nat.beq_refl]
theorem len_app {h : AH} {c : AC} : (h ++ [c]).length = h.length + 1 := by rw [List.length_append]; rfl
theorem Ext.app {h h' : AH} (e : Ext h h') (c : AC) : Ext h (h' ++ [c]) :=
  ⟨fun t x k v z => by rw [rd_app (Nat.lt_of_lt_of_le (rd_lt z) e.2.2.2)]; exact e.1 _ _ _ _ z, fun x n z => by rw [ln_app (Nat.lt_of_lt_of_le (ln_lt z) e.2.2.2)]; exact e.2.1 _ _ z, fun t x z => by rw [isO_app (Nat.lt_of_lt_of_le (isO_lt z) e.2.2.2)]; exact e.2.2.1 _ _ z, by rw [len_app]; exact Nat.le_succ_of_le e.2.2.2⟩
theorem Ext.wr {h h' : AH} (e : Ext h h') {t a k : Nat} {v : AV} (ha : h.length ≤ a) : Ext h (wr h' t a k v) :=
  ⟨fun t' x k' w z => by rw [rd_wn (Or.inr (Or.inl (by have := rd_lt z; omega)))]; exact e.1 _ _ _ _ z, fun x n z => by rw [ln_wr]; exact e.2.1 _ _ z, fun t x z => by rw [isO_wr]; exact e.2.2.1 _ _ z, by rw [wr_len]; exact e.2.2.2⟩
-- what holds goes on to hold
theorem Mach.ext {h h' : AH} {a n : Nat} {k : Int} {py : Nat → Int} {w : Nat → Nat → Int} (e : Ext h h') (M : Mach h a k n py w) : Mach h' a k n py w := by
  obtain ⟨b, g0, g1, g2, g3, g4, l1, l2, l3, p1, w1, o1⟩ := M
  exact ⟨b, e.1 _ _ _ _ g0, e.1 _ _ _ _ g1, e.1 _ _ _ _ g2, e.1 _ _ _ _ g3, e.1 _ _ _ _ g4, e.2.1 _ _ l1, e.2.1 _ _ l2, e.2.1 _ _ l3, fun j hj => e.1 _ _ _ _ (p1 j hj), fun s t hs ht => e.1 _ _ _ _ (w1 s t hs ht), fun j hj => e.1 _ _ _ _ (o1 j hj)⟩
theorem MP.ext {S : SS} {m a : Nat} {h h' : AH} (e : Ext h h') (H : MP S m h a) : MP S m h' a := by
  obtain ⟨M, ⟨wd, g5, g5'⟩, g6, g7, F⟩ := H
  refine ⟨M.ext e, ⟨wd, e.1 _ _ _ _ g5, fun z u hu hD => ?_⟩, e.1 _ _ _ _ g6, e.1 _ _ _ _ g7, fun u hu => ?_⟩
  · obtain ⟨r, ⟨r0, r1⟩, r2⟩ := g5' z u hu hD
    exact ⟨r, ⟨e.1 _ _ _ _ r0, e.1 _ _ _ _ r1⟩, r2⟩
  · obtain ⟨x, y, r0, r1⟩ := F u hu
    exact ⟨x, y, e.1 _ _ _ _ r0, e.1 _ _ _ _ r1⟩
theorem SP.ext {S : SS} {k c : Nat} {h h' : AH} (e : Ext h h') (H : SP S k h c) : SP S k h' c :=
  ⟨e.1 _ _ _ _ H.1, e.1 _ _ _ _ H.2.1, e.1 _ _ _ _ H.2.2.1, e.2.1 _ _ H.2.2.2.1, fun i hi => e.1 _ _ _ _ (H.2.2.2.2 i hi)⟩
theorem RKF.ext {h h' : AH} (e : Ext h h') (K : RKF h) : RKF h' := by
  obtain ⟨⟨k0, k1, k2, k3, k4, k5⟩, ⟨C0, HC⟩, ⟨u0, HU⟩, ⟨x6, y6, hx6, hy6⟩, ⟨x7, y7, hx7, hy7⟩⟩ := K
  exact ⟨⟨e.1 _ _ _ _ k0, e.1 _ _ _ _ k1, e.1 _ _ _ _ k2, e.1 _ _ _ _ k3, e.2.1 _ _ k4, e.2.1 _ _ k5⟩, ⟨C0, fun i j hi hj => e.1 _ _ _ _ (HC i j hi hj)⟩, ⟨u0, fun i hi => e.1 _ _ _ _ (HU i hi)⟩, ⟨x6, y6, e.1 _ _ _ _ hx6, e.1 _ _ _ _ hy6⟩, ⟨x7, y7, e.1 _ _ _ _ hx7, e.1 _ _ _ _ hy7⟩⟩
theorem GI.ext {S : SS} {h h' : AH} (e : Ext h h') (G : GI S h) : GI S h' := by
  obtain ⟨⟨f0, f1, f2, f3, f4, f5⟩, fi, fj, ⟨l1, l2, l3, l4⟩, ft, ks, tl, am, as⟩ := G
  refine ⟨⟨e.1 _ _ _ _ f0, e.1 _ _ _ _ f1, e.1 _ _ _ _ f2, e.1 _ _ _ _ f3, e.1 _ _ _ _ f4, e.1 _ _ _ _ f5⟩, fun k h1 h2 => e.1 _ _ _ _ (fi k h1 h2), fun k h1 h2 => e.1 _ _ _ _ (fj k h1 h2), ⟨e.2.1 _ _ l1, e.2.1 _ _ l2, e.2.1 _ _ l3, e.2.1 _ _ l4⟩, fun k hk => e.1 _ _ _ _ (ft k hk), fun k hk => e.1 _ _ _ _ (ks k hk), fun k hk => e.1 _ _ _ _ (tl k hk), fun k hk => ?_, fun k hk => ?_⟩
  · obtain ⟨v, hv⟩ := am k hk
    exact ⟨v, e.1 _ _ _ _ hv⟩
  · obtain ⟨v, hv⟩ := as k hk
    exact ⟨v, e.1 _ _ _ _ hv⟩
theorem CJ.ext {S : SS} {h h' : AH} {mb sb own : Nat → Nat} (J : CJ S h mb sb own) (e : Ext h h') (c : Nat) : CJ S h' mb sb (fun x => if x < h.length then own x else if x < h'.length then c else 0) := by
  obtain ⟨G, K, P1, P2, P3, P4⟩ := J
  have hlt : ∀ x, own x ≠ 0 → x < h.length := fun x z => by
    rcases Nat.lt_or_ge x h.length with q | q
    · exact q
    · exact absurd (P4 x q) z
  have h11 : 10 < h.length := ln_lt G.2.2.2.1.2.2.2
  refine ⟨G.ext e, K.ext e, fun m hm => ?_, fun k hk => ?_, fun x hx => ?_, fun x hx => ?_⟩
  · obtain ⟨p1, p2, p3, p4⟩ := P1 m hm
    refine ⟨e.1 _ _ _ _ p1, p2, p3.ext e, fun i hi => ?_⟩
    have q := p4 i hi
    show (if mb m + i < h.length then own (mb m + i) else _) = 1 + m
    rw [if_pos (hlt _ (by omega))]
    exact q
  · obtain ⟨p1, p2, p3, p4, p5, p6⟩ := P2 k hk
    refine ⟨e.1 _ _ _ _ p1, p2, p3.ext e, ?_, ?_, e.2.2.1 _ _ p6⟩
    · show (if sb k < h.length then own (sb k) else _) = 17 + k
      rw [if_pos (hlt _ (by omega))]
      exact p4
    · show (if sb k + 1 < h.length then own (sb k + 1) else _) = 17 + k
      rw [if_pos (hlt _ (by omega))]
      exact p5
  · show (if x < h.length then own x else _) = 0
    rw [if_pos (by omega)]
    exact P3 x hx
  · show (if x < h.length then own x else if x < h'.length then c else 0) = 0
    have := e.2.2.2
    rw [if_neg (by omega), if_neg (by omega)]
theorem c_max {h : AH} {a b : Int} : E mJ9_max_7cf53 [aI a, aI b] h = some (some (aI (if a < b then b else a)), h) := by
  rw [e_J9_max_7cf53]
  by_cases c : a < b
  · simp only [↓x_J9_max_7cf53_0, ↓x_J9_max_7cf53_1, ↓x_J9_max_7cf53_2, ↓x_J9_max_7cf53_5, ↓x_J9_max_7cf53_6, ↓x_J9_max_7cf53_9, ↓x_J9_max_7cf53_10, c, ↓reduceIte]
  · simp only [↓x_J9_max_7cf53_0, ↓x_J9_max_7cf53_1, ↓x_J9_max_7cf53_2, ↓x_J9_max_7cf53_5, ↓x_J9_max_7cf53_6, ↓x_J9_max_7cf53_9, ↓x_J9_max_7cf53_10, c, ↓reduceIte]
theorem c_min {h : AH} {a b : Int} : E mJ9_min_7cf53 [aI a, aI b] h = some (some (aI (if b < a then b else a)), h) := by
  rw [e_J9_min_7cf53]
  by_cases c : b < a
  · simp only [↓x_J9_min_7cf53_0, ↓x_J9_min_7cf53_1, ↓x_J9_min_7cf53_2, ↓x_J9_min_7cf53_5, ↓x_J9_min_7cf53_6, ↓x_J9_min_7cf53_9, ↓x_J9_min_7cf53_10, c, ↓reduceIte]
  · simp only [↓x_J9_min_7cf53_0, ↓x_J9_min_7cf53_1, ↓x_J9_min_7cf53_2, ↓x_J9_min_7cf53_5, ↓x_J9_min_7cf53_6, ↓x_J9_min_7cf53_9, ↓x_J9_min_7cf53_10, c, ↓reduceIte]
theorem c_max' {h : AH} {a b : Int} (q : a ≤ b) : E mJ9_max_7cf53 [aI a, aI b] h = some (some (aI b), h) := by
  rw [c_max]
  by_cases c : a < b
  · rw [if_pos c]
  · rw [if_neg c, show a = b by omega]
theorem c_min' {h : AH} {a b : Int} (q : b ≤ a) : E mJ9_min_7cf53 [aI a, aI b] h = some (some (aI b), h) := by
  rw [c_min]
  by_cases c : b < a
  · rw [if_pos c]
  · rw [if_neg c, show a = b by omega]
/-- a new Sheet -/
theorem c_init3 {h0 : AH} {k : Int} {n : Nat} (hn : n ≤ 24) : ∃ h', E mX3_init [aR (some h0.length), aI k, aI n] (h0 ++ [(3, [aI 0, aR none, aI 0])]) = some (none, h') ∧ Ext h0 h' ∧ h'.length = h0.length + 2 ∧ slt h' = slt h0 + 3 + n ∧ rd h' 3 h0.length 0 = some (aI k) ∧ rd h' 3 h0.length 1 = some (aR (some (h0.length + 1))) ∧ rd h' 3 h0.length 2 = some (aI 0) ∧ ln h' (h0.length + 1) = some n ∧ (∀ i, i < n → rd h' 11 (h0.length + 1) i = some (aJ 0)) ∧ isO h' 11 (h0.length + 1) = true := by
  have hl : (h0 ++ [(3, [aI 0, aR none, aI 0])]).length = h0.length + 1 := len_app
  have hs : slt (h0 ++ [(3, [aI 0, aR none, aI 0])]) = slt h0 + 3 := by rw [slt_app]; rfl
  have q0 : rd (h0 ++ [(3, [aI 0, aR none, aI 0])]) 3 h0.length 0 = some (aI 0) := rd_nw
  have q1 : rd (h0 ++ [(3, [aI 0, aR none, aI 0])]) 3 h0.length 1 = some (aR none) := rd_nw
  have q2 : rd (h0 ++ [(3, [aI 0, aR none, aI 0])]) 3 h0.length 2 = some (aI 0) := rd_nw
  have ex : Ext h0 (h0 ++ [(3, [aI 0, aR none, aI 0])]) := Ext.rf.app _
  generalize h0 ++ [(3, [aI 0, aR none, aI 0])] = g at *
  generalize hc : h0.length = c at *
  have e1 : (wr (wr g 3 c 2 (aI 0)) 3 c 0 (aI k)).length = c + 1 := by rw [wr_len, wr_len, hl]
  have q0' : rd (wr g 3 c 2 (aI 0)) 3 c 0 = some (aI 0) := by rw [rd_wn (Or.inr (Or.inr (by decide)))]; exact q0
  have q1' : rd (wr (wr g 3 c 2 (aI 0)) 3 c 0 (aI k)) 3 c 1 = some (aR none) := by rw [rd_wn (Or.inr (Or.inr (by decide))), rd_wn (Or.inr (Or.inr (by decide)))]; exact q1
  have r0 : rd (wr (wr g 3 c 2 (aI 0)) 3 c 0 (aI k)) 3 c 0 = some (aI k) := rd_wr q0'
  have r2 : rd (wr (wr g 3 c 2 (aI 0)) 3 c 0 (aI k)) 3 c 2 = some (aI 0) := by rw [rd_wn (Or.inr (Or.inr (by decide)))]; exact rd_wr q2
  have e2 : Ext h0 (wr (wr g 3 c 2 (aI 0)) 3 c 0 (aI k)) := (ex.wr (by omega)).wr (by omega)
  have e3 : slt (wr (wr g 3 c 2 (aI 0)) 3 c 0 (aI k)) = slt h0 + 3 := by rw [wr_slt, wr_slt, hs]
  have cmin := c_min' (h := wr (wr g 3 c 2 (aI 0)) 3 c 0 (aI k)) (a := 24) (b := (n : Int)) (by omega)
  have cmax := c_max' (h := wr (wr g 3 c 2 (aI 0)) 3 c 0 (aI k)) (a := 0) (b := (n : Int)) (by omega)
  have hn' : 0 ≤ (n : Int) ∧ (n : Int) ≤ 1000 := by omega
  have step : E mX3_init [aR (some c), aI k, aI n] g = X mX3_init 14 [aR (some c), aI k, aI n] [] (wr (wr g 3 c 2 (aI 0)) 3 c 0 (aI k)) := by
    rw [e_X3_init]
    simp only [↓x_X3_init_0, ↓x_X3_init_1, ↓x_X3_init_4, ↓x_X3_init_5, ↓x_X3_init_6_0, ↓x_X3_init_6_1, ↓x_X3_init_9, ↓x_X3_init_10, ↓x_X3_init_11, ↓x_X3_init_15, ↓x_X3_init_16, ↓x_X3_init_18, ↓x_X3_init_19, ↓x_X3_init_22, ↓x_X3_init_25, ↓x_X3_init_27, ↓x_X3_init_30, ↓pK_of q2, ↓pK_of q0']
  rw [step]
  generalize wr (wr g 3 c 2 (aI 0)) 3 c 0 (aI k) = g2 at *
  have q3 : rd (g2 ++ [(11, List.replicate n (aJ 0))]) 3 c 1 = some (aR none) := by rw [rd_app (by omega)]; exact q1'
  refine ⟨wr (g2 ++ [(11, List.replicate n (aJ 0))]) 3 c 1 (aR (some (c + 1))), ?_, (e2.app _).wr (by omega), by rw [wr_len, len_app]; omega, by rw [wr_slt, slt_app, List.length_replicate]; omega, by rw [rd_wn (Or.inr (Or.inr (by decide))), rd_app (by omega)]; exact r0, rd_wr q3, by rw [rd_wn (Or.inr (Or.inr (by decide))), rd_app (by omega)]; exact r2, ?_, fun i hi => ?_, ?_⟩
  · simp only [↓x_X3_init_0, ↓x_X3_init_1, ↓x_X3_init_4, ↓x_X3_init_5, ↓x_X3_init_6_0, ↓x_X3_init_6_1, ↓x_X3_init_9, ↓x_X3_init_10, ↓x_X3_init_11, ↓x_X3_init_14, ↓x_X3_init_15, ↓x_X3_init_16, ↓x_X3_init_18, ↓x_X3_init_19, ↓x_X3_init_22, ↓x_X3_init_25, ↓x_X3_init_27, ↓x_X3_init_30, ↓cKI cmin, ↓cKI cmax, hn', e1, Int.toNat_natCast, and_self, ↓reduceIte]
    rw [pK_of q3]
  · rw [ln_wr, ← e1, ln_nw rfl, List.length_replicate]
  · rw [rd_wn (Or.inl (by decide)), ← e1, rd_nw, List.getElem?_replicate, if_pos hi]
  · rw [isO_wr, ← e1]
    exact isO_nw
