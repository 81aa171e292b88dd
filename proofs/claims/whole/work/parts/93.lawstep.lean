/-! ===== a step of the law's loop ===== -/
abbrev d5 (pc j : Nat) : Prop := decode code pc = .ok (.aload_n 0, 1) ∧ decode code (pc + 1) = .ok (.iload_n 3, 1) ∧ decode code (pc + 2) = .ok (.iconst (j : Int), 1) ∧ decode code (pc + 3) = .ok (.iadd, 1) ∧ decode code (pc + 4) = .ok (.iaload, 1)
theorem ic_n : ∀ j, j < 6 → Int32.ofInt ((j : Nat) : Int) = nI j := by decide +kernel
def aS (xs : Nat → Int32) (i : Nat) : Nat → List Value
  | 0 => []
  | n + 1 => .int (xs (i + (n + 1))) :: aS xs i n
def aW (xs : Nat → Int32) (i : Nat) : Nat → List AV
  | 0 => []
  | n + 1 => aI (xs (i + (n + 1))).toInt :: aW xs i n
theorem aW_sr (xs : Nat → Int32) (i : Nat) (N : List Nat) : ∀ n, sr N (aW xs i n) (aS xs i n)
  | 0 => trivial
  | n + 1 => ⟨⟨_, rfl, rfl⟩, aW_sr xs i N n⟩
theorem aS_len (xs : Nat → Int32) (i : Nat) : ∀ n, (aS xs i n).length = n
  | 0 => rfl
  | n + 1 => congrArg (· + 1) (aS_len xs i n)
theorem aW_nU (xs : Nat → Int32) (i : Nat) : ∀ n, ∀ v ∈ aW xs i n, ∃ z, v = aI z
  | 0, v, h => by cases h
  | n + 1, v, h => by
    rcases List.mem_cons.mp h with rfl | h
    · exact ⟨_, rfl⟩
    · exact aW_nU xs i n v h
theorem esl_I : ∀ {as : List AV}, (∀ v ∈ as, ∃ z, v = aI z) → (esl as).length = as.length ∧ as.all nU = true
  | [], _ => ⟨rfl, rfl⟩
  | v :: t, h => by
    obtain ⟨z, rfl⟩ := h v List.mem_cons_self
    obtain ⟨e1, e2⟩ := esl_I (as := t) fun w hw => h w (List.mem_cons_of_mem _ hw)
    refine ⟨congrArg (· + 1) e1, ?_⟩
    rw [List.all_cons, e2]
    rfl
theorem aW_r (xs : Nat → Int32) (i n : Nat) : (esl (aW xs i n).reverse).length = n ∧ (aW xs i n).reverse.all nU = true := by
  obtain ⟨e1, e2⟩ := esl_I (as := (aW xs i n).reverse) fun v hv => aW_nU xs i n v (List.mem_reverse.mp hv)
  refine ⟨?_, e2⟩
  rw [e1, List.length_reverse, (aW_sr xs i [] n).len, aS_len]
/-- both worlds, at the state S -/
def LI (D : va_G) (s : State) (H : Heap) (S : SS) (a1 a2 : Nat) : Prop := WF S ∧ ∃ (ws1 ws2 : va_W) (h1 h2 : AH), QW D s H ws1 h1 a1 ∧ QW D s H ws2 h2 a2 ∧ DJ (nu ws1) (nu ws2) ∧ CI S h1 ∧ RI S h2
theorem CI.o {S : SS} {h : AH} (C : CI S h) : isO h 4 0 = true := isO_rd C.1.1.1
theorem RI.o {S : SS} {h : AH} (C : RI S h) : isO h 5 0 = true := isO_rd (C.1.2 0 1 _ rfl)
section LST
variable {p : Program} {l : Launch} {e : Env} {s : State} {m : MethodId} {below : List Frame} {meth : Method} {c : Code} {Q : State → Prop} {D : va_G} {b L : Nat} {xs : Nat → Int32} {H : Heap} {locs : List Loc} {cells slots pc i a1 a2 : Nat} {ls : Array Slot} {rest : List Value}
theorem L_arg (C0 : lw_At p s m meth c b L xs) (hL : L ≤ 3072) (hi : i + 6 ≤ L) {j : Nat} (hj : j < 6) (d : d5 pc j) (hl : lv_has ls 4 [(0, .ref b), (1, .ref a1), (2, .ref a2), (3, .int (nI i))]) (hS : va_S (fun q : Nat => s.heap.size ≤ q) s.heap H locs) (kk : W p l e room_1 s m #[Value.ref b] below meth c H locs cells slots Q (F0 m (pc + 5) ls (.int (xs (i + j)) :: rest))) : W p l e room_1 s m #[Value.ref b] below meth c H locs cells slots Q (F0 m pc ls rest) := by
  obtain ⟨hx, hb, hr0, hml, hown, hts, hX, hbl, hlocks, hgv⟩ := id C0
  have hbA : ¬ (fun q : Nat => s.heap.size ≤ q) b := Nat.not_le.mpr hbl
  obtain ⟨d0, d1, d2, d3, d4⟩ := d
  refine lv_aload_n hx hb d0 rfl (lv_at hl 0 rfl) ?_
  refine lv_iload_n hx hb d1 rfl (lv_at hl 3 rfl) ?_
  refine lv_iconst (v := nI j) hx hb d2 (ic_n j hj) ?_
  refine lv_iadd hx hb d3 ?_
  rw [nI_add]
  refine va_sld hx hb hX hbl hbA hS (vp_in_nI (by omega) (by omega)) d4 ?_
  rw [nI_clamp (by omega)]
  exact kk
theorem L_args (C0 : lw_At p s m meth c b L xs) (hL : L ≤ 3072) (hi : i + 6 ≤ L) (hl : lv_has ls 4 [(0, .ref b), (1, .ref a1), (2, .ref a2), (3, .int (nI i))]) (hS : va_S (fun q : Nat => s.heap.size ≤ q) s.heap H locs) : ∀ n, n ≤ 5 → (∀ k, k < n → d5 (pc + 5 * k) (k + 1)) → W p l e room_1 s m #[Value.ref b] below meth c H locs cells slots Q (F0 m (pc + 5 * n) ls (aS xs i n ++ rest)) → W p l e room_1 s m #[Value.ref b] below meth c H locs cells slots Q (F0 m pc ls rest)
  | 0, _, _, kk => kk
  | n + 1, hn, d, kk => by
    refine L_args C0 hL hi hl hS n (by omega) (fun k hk => d k (by omega)) ?_
    refine L_arg C0 hL hi (j := n + 1) (by omega) (d n (by omega)) hl hS ?_
    rw [show pc + 5 * (n + 1) = pc + 5 * n + 5 by omega] at kk
    exact kk
theorem L_case (C0 : lw_At p s m meth c b L xs) (hL : L ≤ 3072) (hi : i + 6 ≤ L) (hl : lv_has ls 4 [(0, .ref b), (1, .ref a1), (2, .ref a2), (3, .int (nI i))]) (hS : va_S (fun q : Nat => s.heap.size ≤ q) s.heap H locs) {n idx4 idx5 : Nat} {M4 M5 : MI} (k4 : okL M4 idx4) (k5 : okL M5 idx5) (kd : n ≤ 5 ∧ mK M4 = 4 ∧ mK M5 = 5 ∧ n + 1 = mN M4 ∧ n + 1 = mN M5 ∧ n + 1 ≤ mL M4 ∧ n + 1 ≤ mL M5)
    (d : decode code pc = .ok (.aload_n 1, 1) ∧ (∀ k, k < n → d5 (pc + 1 + 5 * k) (k + 1)) ∧ decode code (pc + 1 + 5 * n) = .ok (.invokevirtual idx4, 3) ∧ decode code (pc + 4 + 5 * n) = .ok (.aload_n 2, 1) ∧ (∀ k, k < n → d5 (pc + 5 + 5 * n + 5 * k) (k + 1)) ∧ decode code (pc + 5 + 10 * n) = .ok (.invokevirtual idx5, 3)) {S : SS} (I : LI D s H S a1 a2) {o : Int × SS} {ty : Int → AV} (F' : WF o.2) (c4 : CK M4 (aW xs i n).reverse ty S o) (c5 : CR M5 (aW xs i n).reverse ty S o) (hc1 : cells + 32 ≤ room_1.cells) (hc2 : slots + 200 ≤ room_1.slots)
    (kk : ∀ (V1 V2 : Value) (N1 N2 : List Nat) (H1 : Heap) (locs1 : List Loc), vr N1 (ty o.1) V1 → vr N2 (ty o.1) V2 → LI D s H1 o.2 a1 a2 → va_S (fun q : Nat => s.heap.size ≤ q) s.heap H1 locs1 → W p l e room_1 s m #[Value.ref b] below meth c H1 locs1 (cells + 32) (slots + 200) Q (F0 m (pc + 8 + 10 * n) ls [V2, V1])) : W p l e room_1 s m #[Value.ref b] below meth c H locs cells slots Q (F0 m pc ls []) := by
  obtain ⟨hx, hb, hr0, hml, hown, hts, hX, hbl, hlocks, hgv⟩ := id C0
  obtain ⟨n5, x4, x5, n4, nn5, l4, l5⟩ := kd
  obtain ⟨d1, d2, d3, d4, d6, d7⟩ := d
  obtain ⟨F, ws1, ws2, h1, h2, W1, W2, dj, Ci, Ri⟩ := I
  obtain ⟨r1, r2⟩ := aW_r xs i n
  obtain ⟨h1', e1, C1, g1⟩ := c4 h1 Ci
  obtain ⟨h2', e2, C2, g2⟩ := c5 h2 Ri
  have hsz : ls.size = 4 := hl.1
  have hlen : ∀ k, n + 1 ≤ k → (esl (aR (some 0) :: (aW xs i n).reverse)).length ≤ k := fun k hk => by
    show (esl (aW xs i n).reverse).length + 1 ≤ k
    omega
  have hAl : (aS xs i n).reverse.length + 1 = n + 1 := by rw [List.length_reverse, aS_len]
  refine lv_aload_n hx hb d1 rfl (lv_at hl 1 rfl) ?_
  refine L_args C0 hL hi hl hS n n5 d2 ?_
  have q1 : (aS xs i n ++ [Value.ref a1]) = (aS xs i n).reverse.reverse ++ .ref a1 :: [] := by rw [List.reverse_reverse]
  rw [q1]
  refine L_cal C0 k4 e1 g1 (by rw [x4]; exact Ci.o) (fun N => (aW_sr xs i N n).rev) r2 (hlen _ l4) (by rw [hAl]; exact n4) W1 W2 dj hS hsz (by decide) d3 (by omega) (by omega) fun V1 ws1' H1 locs1 v1 W1' W2' dj' hS' => ?_
  rw [show pc + 1 + 5 * n + 3 = pc + 4 + 5 * n by omega]
  refine lv_aload_n hx hb d4 rfl (lv_at hl 2 rfl) ?_
  rw [show pc + 4 + 5 * n + 1 = pc + 5 + 5 * n by omega]
  refine L_args C0 hL hi hl hS' n n5 d6 ?_
  have q2 : (aS xs i n ++ [Value.ref a2, V1]) = (aS xs i n).reverse.reverse ++ .ref a2 :: [V1] := by rw [List.reverse_reverse]
  rw [q2, show pc + 5 + 5 * n + 5 * n = pc + 5 + 10 * n by omega]
  refine L_cal C0 k5 e2 (grow_eq g2) (by rw [x5]; exact Ri.o) (fun N => (aW_sr xs i N n).rev) r2 (hlen _ l5) (by rw [hAl]; exact nn5) W2' W1' dj'.sy hS' hsz (by have := cat_le V1; show V1.category + 0 ≤ 8; omega) d7 (by omega) (by omega) fun V2 ws2' H2 locs2 v2 W2'' W1'' dj'' hS'' => ?_
  rw [show pc + 5 + 10 * n + 3 = pc + 8 + 10 * n by omega]
  exact kk V1 V2 _ _ H2 locs2 v1 v2 ⟨F', ws1', ws2', h1', h2', W1'', W2'', dj''.sy, C1, C2⟩ hS''
theorem L_endI (C0 : lw_At p s m meth c b L xs) {N1 N2 : List Nat} {z : Int} {V1 V2 : Value} (v1 : vr N1 (aI z) V1) (v2 : vr N2 (aI z) V2) {off : Int} (hd : decode code pc = .ok (.if_icmp .eq off, 3)) (ht : (pc : Int) + off = 1436) (kk : W p l e room_1 s m #[Value.ref b] below meth c H locs cells slots Q (F0 m 1436 ls [])) : W p l e room_1 s m #[Value.ref b] below meth c H locs cells slots Q (F0 m pc ls [V2, V1]) := by
  obtain ⟨hx, hb, hr0, hml, hown, hts, hX, hbl, hlocks, hgv⟩ := id C0
  obtain ⟨x, rfl, ex⟩ := v1
  obtain ⟨y, rfl, ey⟩ := v2
  refine lv_icmp_eq (tgt := 1436) hx hb hd ht (fun _ => kk) (fun h => absurd ?_ h)
  exact Int32.toInt_inj.mp (by omega)
theorem L_endJ (C0 : lw_At p s m meth c b L xs) {N1 N2 : List Nat} {z : Int} {V1 V2 : Value} (v1 : vr N1 (aJ z) V1) (v2 : vr N2 (aJ z) V2) {off : Int} (hd0 : decode code pc = .ok (.lcmp, 1)) (hd : decode code (pc + 1) = .ok (.ifCond .eq off, 3)) (ht : ((pc + 1 : Nat) : Int) + off = 1436) (kk : W p l e room_1 s m #[Value.ref b] below meth c H locs cells slots Q (F0 m 1436 ls [])) : W p l e room_1 s m #[Value.ref b] below meth c H locs cells slots Q (F0 m pc ls [V2, V1]) := by
  obtain ⟨hx, hb, hr0, hml, hown, hts, hX, hbl, hlocks, hgv⟩ := id C0
  obtain ⟨x, rfl, ex⟩ := v1
  obtain ⟨y, rfl, ey⟩ := v2
  have exy : x = y := Int64.toInt_inj.mp (by omega)
  subst exy
  refine W.lcmp hx hb hd0 ?_
  refine lv_if_eq (tgt := 1436) hx hb hd ht (fun _ => kk) (fun h => absurd ?_ h)
  apply Int32.toInt_inj.mp
  rw [← e_cmp]
  unfold fCmp
  rw [if_neg (by omega), if_pos rfl]
  rfl
end LST
