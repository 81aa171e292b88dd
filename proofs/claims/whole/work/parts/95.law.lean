/-! ===== the law's start and loop ===== -/
section LIN
variable {p : Program} {l : Launch} {e : Env} {s : State} {m : MethodId} {below : List Frame} {meth : Method} {c : Code} {Q : State → Prop} {D : va_G} {b L : Nat} {xs : Nat → Int32}
theorem L_ini (C0 : lw_At p s m meth c b L xs) {M : MI} {idx : Nat} (ok : okI M idx) {h h2 : AH} (q : E M [aR (some 0)] h = some (none, h2)) (hg1 : h2.length ≤ h.length + 20) (hg2 : slt h2 ≤ slt h + 1500) (hlen : 1 ≤ mL M) (hn : 1 = mN M) {ws wo : va_W} {ho : AH} {a ao : Nat} {H : Heap} {locs : List Loc} {cells slots pc : Nat} {ls : Array Slot} {rest : List Value} (W1 : QW D s H ws h a) (W2 : QW D s H wo ho ao ∨ wo = []) (dj : DJ (nu ws) (nu wo)) (hS : va_S (fun q : Nat => s.heap.size ≤ q) s.heap H locs) (hls : ls.size = 4) (hrest : (rest.map fun v => v.category).sum ≤ 8) (hd : decode code pc = .ok (.invokespecial idx, 3)) (hc1 : cells + 20 ≤ room_1.cells) (hc2 : slots + 1500 ≤ room_1.slots)
    (kk : ∀ (ws' : va_W) (H1 : Heap) (locs1 : List Loc), QW D s H1 ws' h2 a → (QW D s H1 wo ho ao ∨ wo = []) → DJ (nu ws') (nu wo) → va_S (fun q : Nat => s.heap.size ≤ q) s.heap H1 locs1 → W p l e room_1 s m #[Value.ref b] below meth c H1 locs1 (cells + 20) (slots + 1500) Q (F0 m (pc + 3) ls rest)) : W p l e room_1 s m #[Value.ref b] below meth c H locs cells slots Q (F0 m pc ls (.ref a :: rest)) := by
  obtain ⟨hx, hb, hr0, hml, hown, hts, hX, hbl, hlocks, hgv⟩ := id C0
  obtain ⟨hoM, o1, o2, ⟨o3, o3'⟩, o4, o5, o6, o7⟩ := ok
  obtain ⟨m1, m2, m3, m4, m5⟩ := id hoM
  have hwA : ∀ w ∈ wAll, w ∈ lw_tbl := fun w hw => (List.mem_filter.mp hw).1
  have hkn : KN s := KN.ofL hts
  obtain ⟨tys, hh, hP, hK, hD, ha⟩ := id W1
  have hsA : sr (nu ws) [aR (some 0)] [.ref a] := ⟨⟨a, rfl, ha⟩, trivial⟩
  have hMet := snd_E l D q hoM rfl hlen tys ws _ H.size 20 1500 hh hsA hg1 hg2
  have hcode : Cond.code (mY M) (mC M) (mL M) none ∈ wAll := by rw [← o3']; exact m1
  have hwU : ∀ w ∈ wsM M, ∀ (a' : Array Value) (U : State), s.WarmedH U.vm → w.before a' U = true := by
    intro w hw a' U hW
    have hw : w ∈ wAll := by
      rcases List.mem_cons.mp hw with rfl | hw
      · exact m1
      · exact hw
    exact word_at hW (wAll_good hw) (hts w (hwA w hw))
  have hPX : ∀ U : State, U.heap = H → s.WarmedH U.vm → PX D tys ws H.size U := fun U hU hW => ⟨by rw [hU], by rw [hU]; exact hP, va_K.moved hW.alike hK, hD.weaken (fun _ _ _ _ => trivial), KN.warm hW hkn⟩
  have hrun : va_Run p l e room_1 s m #[Value.ref b] below meth c H locs cells slots 20 1500 (F0 m pc ls (.ref a :: rest)) rest (QX D ws H.size none h2 (Value.ref a :: []).toArray) (va_A ws H.size) := by
    refine va_runI (As := []) (b := a) (own := RL) ⟨hx, hb, hml, hown, hts⟩ hMet (n := 0) ⟨⟨rfl, rfl, o5, o6, hwU, List.mem_cons_of_mem _ hcode, hts _ (hwA _ hcode), hts _ (hwA _ m2), m5, fun sig hsig => ?_, hts _ o1⟩, o3, hts _ o2⟩ ⟨PX.blind, fun U hU hW => ⟨rfl, hPX U hU hW⟩⟩ rfl rfl hls rfl (lv_room hrest) hd ⟨hc1, hc2⟩
    rw [hsig] at o4
    have this : sig.parameters.length + 1 = mN M := Option.some.inj o4
    omega
  refine am_call2 hrun hS (aw_of hD hS (fun _ h => h)) fun rv tys' ws' H1 locs1 g1 g2 g3 g4 g5 g6 g7 g8 => ?_
  cases g1
  have kq : (QW D s H1 wo ho ao ∨ wo = []) ∧ DJ (nu ws') (nu wo) := by
    rcases W2 with w | w
    · obtain ⟨k1, k2⟩ := w.keep dj g7 g6
      exact ⟨Or.inl k1, k2⟩
    · subst w
      exact ⟨Or.inr rfl, fun i j x y _ hy => by cases hy⟩
  exact kk ws' H1 locs1 ⟨tys', g2, g4, g5, g6.weaken fun q e h1 h2 => aw_of hD hS (fun _ h => h) _ (by first | exact h2 | exact h1), g3.at ha⟩ kq.1 kq.2 g8
theorem L_split {A : Nat → Prop} {ws : va_W} {x : Nat × va_E} {H : Heap} (hP : va_P D vwA (ws ++ [x]) H) (hD : va_D A (ws ++ [x])) : (va_P D vwA ws H ∧ va_D A ws) ∧ (va_P D vwA [x] H ∧ va_D A [x]) ∧ DJ (nu [x]) (nu ws) := by
  have up : ∀ {k : Nat} {q : Nat × va_E}, ws[k]? = some q → (ws ++ [x])[k]? = some q ∧ k < ws.length := fun {k q} h => by
    have hk : k < ws.length := (List.getElem?_eq_some_iff.mp h).1
    exact ⟨by rw [List.getElem?_append_left hk]; exact h, hk⟩
  have hx : (ws ++ [x])[ws.length]? = some x := by rw [List.getElem?_append_right (Nat.le_refl _), Nat.sub_self]; rfl
  have one : ∀ {k : Nat} {q : Nat × va_E}, [x][k]? = some q → q = x ∧ k = 0 := fun {k q} h => by
    match k, h with
    | 0, h => exact ⟨(Option.some.inj h).symm, rfl⟩
    | k + 1, h => cases h
  refine ⟨⟨fun k q h => hP k q (up h).1, fun i j p q h1 h2 e => hD.1 i j p q (up h1).1 (up h2).1 e, fun k q h => hD.2 k q (up h).1⟩, ⟨fun k q h => ?_, fun i j p q h1 h2 e => by rw [(one h1).2, (one h2).2], fun k q h => ?_⟩, fun i j y z h1 h2 e => ?_⟩
  · obtain ⟨rfl, _⟩ := one h
    exact hP _ _ hx
  · obtain ⟨rfl, _⟩ := one h
    exact hD.2 _ _ hx
  · obtain ⟨e1, h1⟩ := nu_ex h1
    obtain ⟨e2, h2⟩ := nu_ex h2
    obtain ⟨q1, _⟩ := one h1
    subst q1
    have := hD.1 _ _ _ _ hx (up h2).1 e
    have := (up h2).2
    omega
end LIN
theorem inst_ok : ∀ k, k < 6 → Cond.instantiable (clsN k) (clsF k) ∈ lw_tbl := fun k h => match k, h with
  | 0, _ => List.mem_of_getElem? (i := 60) (by decide +kernel)
  | 1, _ => List.mem_of_getElem? (i := 223) (by decide +kernel)
  | 2, _ => List.mem_of_getElem? (i := 54) (by decide +kernel)
  | 3, _ => List.mem_of_getElem? (i := 153) (by decide +kernel)
  | 4, _ => List.mem_of_getElem? (i := 42) (by decide +kernel)
  | 5, _ => List.mem_of_getElem? (i := 548) (by decide +kernel)
  | k + 6, h => absurd h (by omega)
theorem wA_tbl {w : Cond} (hw : w ∈ wAll) : w ∈ lw_tbl := (List.mem_filter.mp hw).1
theorem D_ex {args : Array Value} {s : State} (hts : ∀ w ∈ lw_tbl, w.before args s = true) : ∃ D : va_G, va_K D vwA [] s := by
  have ex : ∀ k, ∃ (cC : ClassId) (iS : Nat → Nat), k < 6 → u_Kn s (clsN k) (clsT k) (clsF k) cC iS := fun k => by
    by_cases h : k < 6
    · obtain ⟨cC, iS, z⟩ := u_known (C := clsN k) (T := clsT k) (N := clsF k) (n := clsF k) hts (fun w hw => wA_tbl (clsW_ok k h w hw)) (hts _ (inst_ok k h))
      exact ⟨cC, iS, fun _ => z⟩
    · obtain ⟨cC, iS, z⟩ := u_known (C := clsN 0) (T := clsT 0) (N := clsF 0) (n := clsF 0) hts (fun w hw => wA_tbl (clsW_ok 0 (by decide) w hw)) (hts _ (inst_ok 0 (by decide)))
      exact ⟨cC, iS, fun h' => absurd h' h⟩
  refine ⟨(fun k => (ex k).choose, fun k => (ex k).choose_spec.choose), fun k q hq => ?_, fun k q h => by simp at h⟩
  have hk : k < 6 := (List.getElem?_eq_some_iff.mp hq).1
  have hq' := vwA_at k hk
  rw [hq'] at hq
  cases hq
  exact (ex k).choose_spec.choose_spec hk
section LLP
variable {p : Program} {l : Launch} {e : Env} {s : State} {m : MethodId} {below : List Frame} {meth : Method} {c : Code} {D : va_G} {b L : Nat} {xs : Nat → Int32} {a1 a2 : Nat}
theorem L_tab {Q : State → Prop} {H : Heap} {locs : List Loc} {cells slots i : Nat} {ls : Array Slot} {S : SS} (C0 : lw_At p s m meth c b L xs) (hL : L ≤ 3072) (hi : i + 6 ≤ L) (hl : lv_has ls 4 [(0, .ref b), (1, .ref a1), (2, .ref a2), (3, .int (nI i))]) (hS : va_S (fun q : Nat => s.heap.size ≤ q) s.heap H locs) (I : LI D s H S a1 a2) (hc1 : cells + 32 ≤ room_1.cells) (hc2 : slots + 200 ≤ room_1.slots)
    (kk : ∀ (S1 : SS) (H1 : Heap) (locs1 : List Loc), LI D s H1 S1 a1 a2 → va_S (fun q : Nat => s.heap.size ≤ q) s.heap H1 locs1 → W p l e room_1 s m #[Value.ref b] below meth c H1 locs1 (cells + 32) (slots + 200) Q (F0 m 1436 ls [])) : ∀ (k : Nat), k < 39 → ∀ x : Int32, x.toInt = (k : Int) → W p l e room_1 s m #[Value.ref b] below meth c H locs cells slots Q (F0 m 33 ls [.int x]) := by
  obtain ⟨hx, hb, hr0, hml, hown, hts, hX, hbl, hlocks, hgv⟩ := id C0
  intro k hk x ek
  match k, hk, ek with
  | 0, _, ek => exact lv_tableIn (off := 171) (tgt := 204) hx hb dL_law_33 (by omega) (by omega) (by rw [ek]; rfl) (by decide) (LC_share C0 hL hi hl hS I hc1 hc2 kk)
  | 1, _, ek => exact lv_tableIn (off := 204) (tgt := 237) hx hb dL_law_33 (by omega) (by omega) (by rw [ek]; rfl) (by decide) (LC_sheet C0 hL hi hl hS I hc1 hc2 kk)
  | 2, _, ek => exact lv_tableIn (off := 237) (tgt := 270) hx hb dL_law_33 (by omega) (by omega) (by rw [ek]; rfl) (by decide) (LC_tear C0 hL hi hl hS I hc1 hc2 kk)
  | 3, _, ek => exact lv_tableIn (off := 260) (tgt := 293) hx hb dL_law_33 (by omega) (by omega) (by rw [ek]; rfl) (by decide) (LC_lay C0 hL hi hl hS I hc1 hc2 kk)
  | 4, _, ek => exact lv_tableIn (off := 333) (tgt := 366) hx hb dL_law_33 (by omega) (by omega) (by rw [ek]; rfl) (by decide) (LC_get C0 hL hi hl hS I hc1 hc2 kk)
  | 5, _, ek => exact lv_tableIn (off := 366) (tgt := 399) hx hb dL_law_33 (by omega) (by omega) (by rw [ek]; rfl) (by decide) (LC_copy C0 hL hi hl hS I hc1 hc2 kk)
  | 6, _, ek => exact lv_tableIn (off := 429) (tgt := 462) hx hb dL_law_33 (by omega) (by omega) (by rw [ek]; rfl) (by decide) (LC_machine C0 hL hi hl hS I hc1 hc2 kk)
  | 7, _, ek => exact lv_tableIn (off := 462) (tgt := 495) hx hb dL_law_33 (by omega) (by omega) (by rw [ek]; rfl) (by decide) (LC_is C0 hL hi hl hS I hc1 hc2 kk)
  | 8, _, ek => exact lv_tableIn (off := 495) (tgt := 528) hx hb dL_law_33 (by omega) (by omega) (by rw [ek]; rfl) (by decide) (LC_told C0 hL hi hl hS I hc1 hc2 kk)
  | 9, _, ek => exact lv_tableIn (off := 528) (tgt := 561) hx hb dL_law_33 (by omega) (by omega) (by rw [ek]; rfl) (by decide) (LC_pay C0 hL hi hl hS I hc1 hc2 kk)
  | 10, _, ek => exact lv_tableIn (off := 571) (tgt := 604) hx hb dL_law_33 (by omega) (by omega) (by rw [ek]; rfl) (by decide) (LC_chance C0 hL hi hl hS I hc1 hc2 kk)
  | 11, _, ek => exact lv_tableIn (off := 624) (tgt := 657) hx hb dL_law_33 (by omega) (by omega) (by rw [ek]; rfl) (by decide) (LC_fill C0 hL hi hl hS I hc1 hc2 kk)
  | 12, _, ek => exact lv_tableIn (off := 667) (tgt := 700) hx hb dL_law_33 (by omega) (by omega) (by rw [ek]; rfl) (by decide) (LC_ask C0 hL hi hl hS I hc1 hc2 kk)
  | 13, _, ek => exact lv_tableIn (off := 710) (tgt := 743) hx hb dL_law_33 (by omega) (by omega) (by rw [ek]; rfl) (by decide) (LC_stand C0 hL hi hl hS I hc1 hc2 kk)
  | 14, _, ek => exact lv_tableIn (off := 743) (tgt := 776) hx hb dL_law_33 (by omega) (by omega) (by rw [ek]; rfl) (by decide) (LC_worth C0 hL hi hl hS I hc1 hc2 kk)
  | 15, _, ek => exact lv_tableIn (off := 776) (tgt := 809) hx hb dL_law_33 (by omega) (by omega) (by rw [ek]; rfl) (by decide) (LC_way C0 hL hi hl hS I hc1 hc2 kk)
  | 16, _, ek => exact lv_tableIn (off := 819) (tgt := 852) hx hb dL_law_33 (by omega) (by omega) (by rw [ek]; rfl) (by decide) (LC_upper C0 hL hi hl hS I hc1 hc2 kk)
  | 17, _, ek => exact lv_tableIn (off := 833) (tgt := 866) hx hb dL_law_33 (by omega) (by omega) (by rw [ek]; rfl) (by decide) (LC_lower C0 hL hi hl hS I hc1 hc2 kk)
  | 18, _, ek => exact lv_tableIn (off := 847) (tgt := 880) hx hb dL_law_33 (by omega) (by omega) (by rw [ek]; rfl) (by decide) (LC_order C0 hL hi hl hS I hc1 hc2 kk)
  | 19, _, ek => exact lv_tableIn (off := 880) (tgt := 913) hx hb dL_law_33 (by omega) (by omega) (by rw [ek]; rfl) (by decide) (LC_goes C0 hL hi hl hS I hc1 hc2 kk)
  | 20, _, ek => exact lv_tableIn (off := 913) (tgt := 946) hx hb dL_law_33 (by omega) (by omega) (by rw [ek]; rfl) (by decide) (LC_even C0 hL hi hl hS I hc1 hc2 kk)
  | 21, _, ek => exact lv_tableIn (off := 966) (tgt := 999) hx hb dL_law_33 (by omega) (by omega) (by rw [ek]; rfl) (by decide) (LC_better C0 hL hi hl hS I hc1 hc2 kk)
  | 22, _, ek => exact lv_tableIn (off := 999) (tgt := 1032) hx hb dL_law_33 (by omega) (by omega) (by rw [ek]; rfl) (by decide) (LC_mean C0 hL hi hl hS I hc1 hc2 kk)
  | 23, _, ek => exact lv_tableIn (off := 1032) (tgt := 1065) hx hb dL_law_33 (by omega) (by omega) (by rw [ek]; rfl) (by decide) (LC_row C0 hL hi hl hS I hc1 hc2 kk)
  | 24, _, ek => exact lv_tableIn (off := 1065) (tgt := 1098) hx hb dL_law_33 (by omega) (by omega) (by rw [ek]; rfl) (by decide) (LC_least C0 hL hi hl hS I hc1 hc2 kk)
  | 25, _, ek => exact lv_tableIn (off := 1088) (tgt := 1121) hx hb dL_law_33 (by omega) (by omega) (by rw [ek]; rfl) (by decide) (LC_compare C0 hL hi hl hS I hc1 hc2 kk)
  | 26, _, ek => exact lv_tableIn (off := 1141) (tgt := 1174) hx hb dL_law_33 (by omega) (by omega) (by rw [ek]; rfl) (by decide) (LC_seed C0 hL hi hl hS I hc1 hc2 kk)
  | 27, _, ek => exact lv_tableIn (off := 1164) (tgt := 1197) hx hb dL_law_33 (by omega) (by omega) (by rw [ek]; rfl) (by decide) (LC_best C0 hL hi hl hS I hc1 hc2 kk)
  | 28, _, ek => exact lv_tableIn (off := 1177) (tgt := 1210) hx hb dL_law_33 (by omega) (by omega) (by rw [ek]; rfl) (by decide) (LC_work C0 hL hi hl hS I hc1 hc2 kk)
  | 29, _, ek => exact lv_tableIn (off := 1200) (tgt := 1233) hx hb dL_law_33 (by omega) (by omega) (by rw [ek]; rfl) (by decide) (LC_run C0 hL hi hl hS I hc1 hc2 kk)
  | 30, _, ek => exact lv_tableIn (off := 1223) (tgt := 1256) hx hb dL_law_33 (by omega) (by omega) (by rw [ek]; rfl) (by decide) (LC_step C0 hL hi hl hS I hc1 hc2 kk)
  | 31, _, ek => exact lv_tableIn (off := 1246) (tgt := 1279) hx hb dL_law_33 (by omega) (by omega) (by rw [ek]; rfl) (by decide) (LC_worked C0 hL hi hl hS I hc1 hc2 kk)
  | 32, _, ek => exact lv_tableIn (off := 1269) (tgt := 1302) hx hb dL_law_33 (by omega) (by omega) (by rw [ek]; rfl) (by decide) (LC_paid C0 hL hi hl hS I hc1 hc2 kk)
  | 33, _, ek => exact lv_tableIn (off := 1283) (tgt := 1316) hx hb dL_law_33 (by omega) (by omega) (by rw [ek]; rfl) (by decide) (LC_fail C0 hL hi hl hS I hc1 hc2 kk)
  | 34, _, ek => exact lv_tableIn (off := 1316) (tgt := 1349) hx hb dL_law_33 (by omega) (by omega) (by rw [ek]; rfl) (by decide) (LC_asked C0 hL hi hl hS I hc1 hc2 kk)
  | 35, _, ek => exact lv_tableIn (off := 1330) (tgt := 1363) hx hb dL_law_33 (by omega) (by omega) (by rw [ek]; rfl) (by decide) (LC_count C0 hL hi hl hS I hc1 hc2 kk)
  | 36, _, ek => exact lv_tableIn (off := 1353) (tgt := 1386) hx hb dL_law_33 (by omega) (by omega) (by rw [ek]; rfl) (by decide) (LC_finding C0 hL hi hl hS I hc1 hc2 kk)
  | 37, _, ek => exact lv_tableIn (off := 1366) (tgt := 1399) hx hb dL_law_33 (by omega) (by omega) (by rw [ek]; rfl) (by decide) (LC_findings C0 hL hi hl hS I hc1 hc2 kk)
  | 38, _, ek => exact lv_tableIn (off := 1389) (tgt := 1422) hx hb dL_law_33 (by omega) (by omega) (by rw [ek]; rfl) (by decide) (LC_digest C0 hL hi hl hS I hc1 hc2 kk)
  | k + 39, hk, _ => exact absurd hk (by omega)
theorem L_loop (C0 : lw_At p s m meth c b L xs) (hL : L ≤ 3072) : ∀ (d t : Nat) (S : SS) (H : Heap) (locs : List Loc) (ls : Array Slot), L < 6 * (t + d) → 6 * t ≤ L → lv_has ls 4 [(0, .ref b), (1, .ref a1), (2, .ref a2), (3, .int (nI (6 * t)))] → va_S (fun q : Nat => s.heap.size ≤ q) s.heap H locs → LI D s H S a1 a2 → W p l e room_1 s m #[Value.ref b] below meth c H locs (50 + 32 * t) (4000 + 200 * t) (lw_Z below #[Value.ref b] s) (F0 m 18 ls []) := by
  obtain ⟨hx, hb, hr, hml, hown, hts, hX, hbl, hlocks, hgv⟩ := id C0
  have hbA : ¬ (fun q : Nat => s.heap.size ≤ q) b := Nat.not_le.mpr hbl
  intro d
  induction d with
  | zero => intro t S H locs ls h1 h2; omega
  | succ d ih =>
    intro t S H locs ls h1 h2 hl hS I
    refine lv_iload_n hx hb dL_law_18 rfl (lv_at hl 3 rfl) ?_
    refine lv_aload_n hx hb dL_law_19 rfl (lv_at hl 0 rfl) ?_
    refine va_slen hx hb hX hbl hbA hS dL_law_20 ?_
    refine lv_bipush (v := 6) hx hb dL_law_21 (by decide) ?_
    refine lv_isub hx hb dL_law_23 ?_
    have eL : (Int32.ofNat L - 6).toInt = (L : Int) - 6 := by
      rw [← e_sub, show (Int32.ofNat L).toInt = (L : Int) from nI_toInt (by omega), show (6 : Int32).toInt = 6 from by decide]
      exact w32_in (by omega) (by omega)
    have et : (nI (6 * t)).toInt = ((6 * t : Nat) : Int) := nI_toInt (by omega)
    refine lv_icmp_gt (tgt := 1442) hx hb dL_law_24 (by decide) (fun _ => ?_) (fun hc => ?_)
    · refine lv_iconst (v := 1) hx hb dL_law_1442 (by decide) ?_
      refine va_forget (fun q hq => hS.2.2 q hq) ?_
      refine W.widen (k := room_1.cells) (n := room_1.slots) (Nat.le_trans (m := 20000) (by omega) lw_cells) (Nat.le_trans (m := 110000) (by omega) lw_slots) ?_
      exact lw_ret hx hb hr hlocks dL_law_1443
    · rw [Int32.lt_iff_toInt_lt, eL, et] at hc
      have hi : 6 * t + 6 ≤ L := by omega
      refine lv_aload_n hx hb dL_law_27 rfl (lv_at hl 0 rfl) ?_
      refine lv_iload_n hx hb dL_law_28 rfl (lv_at hl 3 rfl) ?_
      refine va_sld hx hb hX hbl hbA hS (vp_in_nI (by omega) (by omega)) dL_law_29 ?_
      refine lv_bipush (v := 63) hx hb dL_law_30 (by decide) ?_
      refine lv_iand hx hb dL_law_32 ?_
      refine lv_topi (fun x ex => ?_)
      have kk : ∀ (S1 : SS) (H1 : Heap) (locs1 : List Loc), LI D s H1 S1 a1 a2 → va_S (fun q : Nat => s.heap.size ≤ q) s.heap H1 locs1 → W p l e room_1 s m #[Value.ref b] below meth c H1 locs1 (50 + 32 * t + 32) (4000 + 200 * t + 200) (lw_Z below #[Value.ref b] s) (F0 m 1436 ls []) := by
        intro S1 H1 locs1 I1 hS1
        refine lv_iinc (v := nI (6 * (t + 1))) (lv' := [(3, .int (nI (6 * (t + 1)))), (0, .ref b), (1, .ref a1), (2, .ref a2)]) hx hb dL_law_1436 hl (k := 3) rfl ?_ (by decide) rfl (fun ls hl => ?_)
        · rw [show Int32.ofInt 6 = nI 6 from by decide, nI_add]
          rfl
        · refine lv_goto (tgt := 18) hx hb dL_law_1439 (by decide) ?_
          have z := ih (t + 1) S1 H1 locs1 ls (by omega) (by omega) (lv_sub hl [1, 2, 3, 0] rfl) hS1 I1
          rw [show 50 + 32 * (t + 1) = 50 + 32 * t + 32 by omega, show 4000 + 200 * (t + 1) = 4000 + 200 * t + 200 by omega] at z
          exact z
      by_cases ho : x.toInt < 0 ∨ 38 < x.toInt
      · refine lv_tableOut (tgt := 1436) hx hb dL_law_33 ho (by decide) ?_
        exact W.widen (k := 50 + 32 * t + 32) (n := 4000 + 200 * t + 200) (by omega) (by omega) (kk S H locs I hS)
      · exact L_tab C0 hL hi hl hS I (Nat.le_trans (m := 20000) (by omega) lw_cells) (Nat.le_trans (m := 110000) (by omega) lw_slots) kk x.toInt.toNat (by omega) x (by omega)
end LLP
set_option maxHeartbeats 4000000 in
set_option maxRecDepth 100000 in

theorem whole_start {p : Program} {e : Env} {s : State} {m : MethodId} {below : List Frame} {meth : Method} {c : Code} (l : Launch) (hflags : l.flags = flags0) {b L : Nat} {xs : Nat → Int32} (hL : L ≤ 3072) (C0 : lw_At p s m meth c b L xs) : W p l e room_1 s m #[Value.ref b] below meth c s.heap [] 0 0 (lw_Z below #[Value.ref b] s) (entryFrame m ([Value.ref b] : List Value).toArray 4) := by
  obtain ⟨hx, hb, hrt, hml, hown, hts, hX, hbl, hlocks, hgv⟩ := id C0
  obtain ⟨D, hK⟩ := D_ex hts
  have hA : ∀ q : Nat, s.heap.size ≤ q → (fun q : Nat => s.heap.size ≤ q) q := fun _ h => h
  have hS : va_S (fun q : Nat => s.heap.size ≤ q) s.heap s.heap [] := va_S.rf
  have hP : va_P D vwA [] s.heap := fun k q h => by simp at h
  have hD : va_D (fun q : Nat => s.heap.size ≤ q) [] := ⟨fun i j p q h => by simp at h, fun k q h => by simp at h⟩
  have hl := lv_entry ([.ref b]) (n := 4) (Nat.le_of_ble_eq_true rfl)
  rw [lg_entry_eq]
  generalize (lg_sl ([.ref b]) ++ List.replicate (4 - (lg_sl ([.ref b])).length) Slot.unset).toArray = ls at hl ⊢
  have hl : lv_has ls 4 [(0, .ref b)] := hl
  have hr0 : hr [] ([] : va_W) [] := ⟨rfl, fun k c q h => by simp at h⟩
  refine va_new (C := clsN 4) (T := clsT 4) (N := clsF 4) (ci := 4) hx hb hts (fun w hw => wA_tbl (clsW_ok 4 (by decide) w hw)) (clsY 4) (clsY_ok 4 (by decide)) hown (hts _ (List.mem_of_getElem? (i := 41) (by decide +kernel))) (hts _ (inst_ok 4 (by decide))) (hts _ (wA_tbl ok_mX4_init.2.1)) hK hP hD hS hA (vwA_at 4 (by decide)) (fs := (List.range (clsF 4)).map fun k => defaultValue (clsY 4 k)) (fun j hj => by simp [vp_V, hj]) (by decide) (by decide) dL_law_0 (fun q1 H1 hP1 hD1 hS1 => ?_)
  obtain ⟨g1, g2, g3⟩ := hr_new (tys' := []) (q := q1) (e := .inr (4, (List.range (clsF 4)).map fun k => defaultValue (clsY 4 k))) (c := (4, dfl 4)) hr0 (fun t x h => ⟨t, h⟩) ⟨rfl, by decide, by simp [dfl], sr_dfl _ 4 _⟩
  refine lv_dup hx hb dL_law_3 rfl ?_
  refine L_ini (rest := [.ref q1]) (wo := []) (ho := []) (ao := 0) C0 lwI4 e_init4 (by decide +kernel) (by decide +kernel) (by decide) rfl ⟨[], g1, hP1, hK, hD1, g3⟩ (Or.inr rfl) (fun i j x y _ hy => by cases hy) hS1 hl.1 (by show 1 + 0 ≤ 8; decide) dL_law_4 (Nat.le_trans (m := 20000) (by decide) lw_cells) (Nat.le_trans (m := 110000) (by decide) lw_slots) fun ws1 H2 locs2 W1 _ _ hS2 => ?_
  refine lv_astore_n (lv' := [(1, .ref q1), (0, .ref b)]) hx hb dL_law_7 rfl hl (by decide) rfl (fun ls hl => ?_)
  obtain ⟨ty1, w1, w2, w3, w4, w5⟩ := id W1
  refine va_new (C := clsN 5) (T := clsT 5) (N := clsF 5) (ci := 5) hx hb hts (fun w hw => wA_tbl (clsW_ok 5 (by decide) w hw)) (clsY 5) (clsY_ok 5 (by decide)) hown (hts _ (List.mem_of_getElem? (i := 547) (by decide +kernel))) (hts _ (inst_ok 5 (by decide))) (hts _ (wA_tbl ok_mX5_init.2.1)) w3 w2 w4 hS2 hA (vwA_at 5 (by decide)) (fs := (List.range (clsF 5)).map fun k => defaultValue (clsY 5 k)) (fun j hj => by simp [vp_V, hj]) (by decide) (by decide) dL_law_8 (fun q2 H3 hP3 hD3 hS3 => ?_)
  obtain ⟨⟨p1, p2⟩, ⟨p3, p4⟩, p5⟩ := L_split hP3 hD3
  obtain ⟨k1, k2, k3⟩ := hr_new (tys' := []) (q := q2) (e := .inr (5, (List.range (clsF 5)).map fun k => defaultValue (clsY 5 k))) (c := (5, dfl 5)) hr0 (fun t x h => ⟨t, h⟩) ⟨rfl, by decide, by simp [dfl], sr_dfl _ 5 _⟩
  refine lv_dup hx hb dL_law_11 rfl ?_
  refine L_ini (rest := [.ref q2]) (wo := ws1) (ho := H4) (ao := q1) C0 lwI5 e_init5 (by decide +kernel) (by decide +kernel) (by decide) rfl ⟨[], k1, p3, hK, p4, k3⟩ (Or.inl ⟨ty1, w1, p1, w3, p2, w5⟩) p5 hS3 hl.1 (by show 1 + 0 ≤ 8; decide) dL_law_12 (Nat.le_trans (m := 20000) (by decide) lw_cells) (Nat.le_trans (m := 110000) (by decide) lw_slots) fun ws2 H4' locs4 W2 W1' dj hS4 => ?_
  refine lv_astore_n (lv' := [(2, .ref q2), (1, .ref q1), (0, .ref b)]) hx hb dL_law_15 rfl hl (by decide) rfl (fun ls hl => ?_)
  refine lv_iconst (v := 0) hx hb dL_law_16 (by decide) ?_
  refine lv_istore_n (lv' := [(3, .int 0), (2, .ref q2), (1, .ref q1), (0, .ref b)]) hx hb dL_law_17 rfl hl (by decide) rfl (fun ls hl => ?_)
  refine W.widen (k := 50) (n := 4000) (by decide) (by decide) ?_
  have W1'' : QW D s H4' ws1 H4 q1 := by
    rcases W1' with w | w
    · exact w
    · rw [w] at w5; cases w5
  exact L_loop C0 hL (L + 1) 0 S0 H4' locs4 ls (by omega) (by omega) (lv_sub hl [0 + 3, 2, 1, 0] rfl) hS4 ⟨wf_S0, ws1, ws2, H4, H5, W1'', W2, dj.sy, ci_S0, ri_S0⟩
