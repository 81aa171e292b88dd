
theorem rd_of {h : AH} {t a k : Nat} {v : AV} (q : rd h t a k = some v) : ∃ c, h[a]? = some c ∧ c.1 = t ∧ c.2[k]? = some v := by
  unfold rd at q
  cases hc : h[a]? with
  | none => rw [hc] at q; cases q
  | some c =>
    rw [hc] at q
    simp only at q
    cases hb : Nat.beq c.1 t with
    | true => rw [hb] at q; exact ⟨c, rfl, Nat.eq_of_beq_eq_true hb, q⟩
    | false => rw [hb] at q; cases q
theorem isO_of {h : AH} {t a : Nat} (q : isO h t a = true) : ∃ c, h[a]? = some c ∧ c.1 = t := by
  unfold isO at q
  cases hc : h[a]? with
  | none => rw [hc] at q; cases q
  | some c => rw [hc] at q; exact ⟨c, rfl, Nat.eq_of_beq_eq_true q⟩
theorem wr_of {h : AH} {t a k : Nat} {v : AV} {c : AC} (hc : h[a]? = some c) (ht : c.1 = t) : wr h t a k v = h.set a (t, c.2.set k v) := by
  unfold wr
  rw [hc]
  simp only [ht, Nat.beq_refl, cond_true]
theorem nu_at {ws : va_W} {a b : Nat} {e : va_E} (h : ws[a]? = some (b, e)) : (nu ws)[a]? = some b := by
  unfold nu
  rw [List.getElem?_map, h]
  rfl
theorem nu_back {ws : va_W} {a b : Nat} (h : (nu ws)[a]? = some b) : ∃ e, ws[a]? = some (b, e) := by
  unfold nu at h
  rw [List.getElem?_map] at h
  cases hq : ws[a]? with
  | none => rw [hq] at h; cases h
  | some q =>
    rw [hq] at h
    obtain ⟨b', e⟩ := q
    cases h
    exact ⟨e, rfl⟩
theorem nu_set {ws : va_W} {a b : Nat} {e e' : va_E} (h : ws[a]? = some (b, e)) : nu (ws.set a (b, e')) = nu ws := by
  apply List.ext_getElem?
  intro i
  unfold nu
  rw [List.getElem?_map, List.getElem?_map]
  by_cases hi : i = a
  · subst hi
    rw [List.getElem?_set_self (List.getElem?_eq_some_iff.mp h).1, h]
    rfl
  · rw [List.getElem?_set_ne (Ne.symm hi)]
theorem hr_set {tys : List (ClassId × FieldType)} {ws : va_W} {h : AH} {a b : Nat} {e e' : va_E} {c' : AC} (hh : hr tys ws h) (hw : ws[a]? = some (b, e)) (hc : cr tys (nu ws) c' e') : hr tys (ws.set a (b, e')) (h.set a c') := by
  refine ⟨by rw [List.length_set, List.length_set]; exact hh.1, fun k c q h1 h2 => ?_⟩
  rw [nu_set hw]
  by_cases hk : k = a
  · subst hk
    have hl := (List.getElem?_eq_some_iff.mp hw).1
    rw [List.getElem?_set_self hl] at h2
    rw [List.getElem?_set_self (by rw [← hh.1]; exact hl)] at h1
    cases h1; cases h2
    exact hc
  · rw [List.getElem?_set_ne (Ne.symm hk)] at h1 h2
    exact hh.2 k c q h1 h2
theorem slt_cons (c : AC) (h : AH) : slt (c :: h) = c.2.length + slt h := by simp [slt]
theorem slt_set : ∀ {h : AH} {a : Nat} {c c' : AC}, h[a]? = some c → c'.2.length = c.2.length → slt (h.set a c') = slt h
  | [], _, _, _, q, _ => by simp at q
  | x :: t, 0, c, c', q, z => by
    rw [List.getElem?_cons_zero] at q
    cases q
    rw [List.set_cons_zero, slt_cons, slt_cons, z]
  | x :: t, a + 1, c, c', q, z => by
    rw [List.getElem?_cons_succ] at q
    rw [List.set_cons_succ, slt_cons, slt_cons, slt_set q z]
theorem slt_app (h : AH) (c : AC) : slt (h ++ [c]) = slt h + c.2.length := by simp [slt]
theorem cr_O {tys : List (ClassId × FieldType)} {N : List Nat} {c : AC} {e : va_E} (h : cr tys N c e) (hc : c.1 < 6) : ∃ fs, e = .inr (c.1, fs) ∧ c.2.length = clsF c.1 ∧ sr N c.2 fs := by
  match e, h with
  | .inr (o, fs), h =>
    obtain ⟨h1, h2, h3, h4⟩ := h
    refine ⟨fs, by rw [h1], by rw [h1]; exact h3, h4⟩
  | .inl (cA, n, .inl f), h => obtain ⟨_, _, h3, _⟩ := h; exact absurd hc (by rw [h3]; decide)
  | .inl (cA, n, .inr (.inl f)), h => obtain ⟨_, _, h3, _⟩ := h; exact absurd hc (by rw [h3]; decide)
  | .inl (cA, n, .inr (.inr (.inr (.inr f)))), h => obtain ⟨_, _, h3, _⟩ := h; exact absurd hc (by omega)
  | .inl (cA, n, .inr (.inr (.inl f))), h => exact h.2.2.elim
  | .inl (cA, n, .inr (.inr (.inr (.inl f)))), h => exact h.2.2.elim
theorem cr_I {tys : List (ClassId × FieldType)} {N : List Nat} {c : AC} {e : va_E} (h : cr tys N c e) (hc : c.1 = 10) : ∃ (cA : ClassId) (f : Nat → Int32) (t : Nat), e = .inl (cA, c.2.length, .inl f) ∧ c.2.length < 2147483648 ∧ tys[t]? = some (cA, .int) ∧ ∀ j, j < c.2.length → c.2[j]? = some (aI (f j).toInt) := by
  match e, h with
  | .inr (o, fs), h => obtain ⟨h1, h2, _⟩ := h; exact absurd h2 (by simp only at h1; omega)
  | .inl (cA, n, .inl f), h =>
    obtain ⟨h1, h2, _, ⟨t, h3⟩, h4⟩ := h
    simp only at h1 h2 h3 h4
    subst h1
    exact ⟨cA, f, t, rfl, h2, h3, h4⟩
  | .inl (cA, n, .inr (.inl f)), h => obtain ⟨_, _, h3, _⟩ := h; exact absurd h3 (by omega)
  | .inl (cA, n, .inr (.inr (.inr (.inr f)))), h => obtain ⟨_, _, h3, _⟩ := h; exact absurd h3 (by omega)
  | .inl (cA, n, .inr (.inr (.inl f))), h => exact h.2.2.elim
  | .inl (cA, n, .inr (.inr (.inr (.inl f)))), h => exact h.2.2.elim
theorem cr_J {tys : List (ClassId × FieldType)} {N : List Nat} {c : AC} {e : va_E} (h : cr tys N c e) (hc : c.1 = 11) : ∃ (cA : ClassId) (f : Nat → Int64) (t : Nat), e = .inl (cA, c.2.length, .inr (.inl f)) ∧ c.2.length < 2147483648 ∧ tys[t]? = some (cA, .long) ∧ ∀ j, j < c.2.length → c.2[j]? = some (aJ (f j).toInt) := by
  match e, h with
  | .inr (o, fs), h => obtain ⟨h1, h2, _⟩ := h; exact absurd h2 (by simp only at h1; omega)
  | .inl (cA, n, .inr (.inl f)), h =>
    obtain ⟨h1, h2, _, ⟨t, h3⟩, h4⟩ := h
    simp only at h1 h2 h3 h4
    subst h1
    exact ⟨cA, f, t, rfl, h2, h3, h4⟩
  | .inl (cA, n, .inl f), h => obtain ⟨_, _, h3, _⟩ := h; exact absurd h3 (by omega)
  | .inl (cA, n, .inr (.inr (.inr (.inr f)))), h => obtain ⟨_, _, h3, _⟩ := h; exact absurd h3 (by omega)
  | .inl (cA, n, .inr (.inr (.inl f))), h => exact h.2.2.elim
  | .inl (cA, n, .inr (.inr (.inr (.inl f)))), h => exact h.2.2.elim
theorem cr_R {tys : List (ClassId × FieldType)} {N : List Nat} {c : AC} {e : va_E} (h : cr tys N c e) (hc : 12 ≤ c.1) : ∃ (cA : ClassId) (f : Nat → Option Nat) (t : Nat), e = .inl (cA, c.2.length, .inr (.inr (.inr (.inr f)))) ∧ c.2.length < 2147483648 ∧ c.1 ≤ 14 ∧ tys[t]? = some (cA, .object (arrN c.1)) ∧ ∀ j, j < c.2.length → ∃ r, c.2[j]? = some (aR r) ∧ vr N (aR r) (va_rf (f j)) := by
  match e, h with
  | .inr (o, fs), h => obtain ⟨h1, h2, _⟩ := h; exact absurd h2 (by simp only at h1; omega)
  | .inl (cA, n, .inr (.inr (.inr (.inr f)))), h =>
    obtain ⟨h1, h2, _, h2', ⟨t, h3⟩, h4⟩ := h
    simp only at h1 h2 h3 h4
    subst h1
    exact ⟨cA, f, t, rfl, h2, h2', h3, h4⟩
  | .inl (cA, n, .inl f), h => obtain ⟨_, _, h3, _⟩ := h; exact absurd h3 (by omega)
  | .inl (cA, n, .inr (.inl f)), h => obtain ⟨_, _, h3, _⟩ := h; exact absurd h3 (by omega)
  | .inl (cA, n, .inr (.inr (.inl f))), h => exact h.2.2.elim
  | .inl (cA, n, .inr (.inr (.inr (.inl f)))), h => exact h.2.2.elim
theorem hr_at {tys : List (ClassId × FieldType)} {ws : va_W} {h : AH} {a b : Nat} {c : AC} (hh : hr tys ws h) (hc : h[a]? = some c) (hb : (nu ws)[a]? = some b) : ∃ e, ws[a]? = some (b, e) ∧ cr tys (nu ws) c e := by
  obtain ⟨e, he⟩ := nu_back hb
  exact ⟨e, he, hh.2 a c (b, e) hc he⟩
theorem hr_new {tys : List (ClassId × FieldType)} {tys' : List (ClassId × FieldType)} {ws : va_W} {h : AH} {q : Nat} {e : va_E} {c : AC} (hh : hr tys ws h) (ht : ∀ (t : Nat) q, tys[t]? = some q → ∃ u : Nat, tys'[u]? = some q) (hc : cr tys' (nu (ws ++ [(q, e)])) c e) : hr tys' (ws ++ [(q, e)]) (h ++ [c]) ∧ px (nu ws) (nu (ws ++ [(q, e)])) ∧ (nu (ws ++ [(q, e)]))[h.length]? = some q := by
  have hp : px (nu ws) (nu (ws ++ [(q, e)])) := ⟨[q], by simp [nu]⟩
  refine ⟨⟨by simp [hh.1], fun k c1 q1 h1 h2 => ?_⟩, hp, ?_⟩
  · by_cases hk : k < h.length
    · rw [List.getElem?_append_left hk] at h1
      rw [List.getElem?_append_left (by rw [hh.1]; exact hk)] at h2
      exact (hh.2 k c1 q1 h1 h2).up hp ht
    · rw [List.getElem?_append_right (by omega)] at h1
      rw [List.getElem?_append_right (by rw [hh.1]; omega)] at h2
      rw [hh.1] at h2
      have hz : k - h.length < 1 := (List.getElem?_eq_some_iff.mp h1).1
      rw [show k - h.length = 0 by omega] at h1 h2
      cases h1; cases h2
      exact hc
  · rw [← hh.1]
    exact nu_at (e := e) (by simp)
theorem ty_app {tys : List (ClassId × FieldType)} {x : ClassId × FieldType} (t : Nat) (q : ClassId × FieldType) (h : tys[t]? = some q) : ∃ u : Nat, (tys ++ [x])[u]? = some q := ⟨t, by rw [List.getElem?_append_left (List.getElem?_eq_some_iff.mp h).1]; exact h⟩
theorem ty_new {tys : List (ClassId × FieldType)} {x : ClassId × FieldType} : ∃ u : Nat, (tys ++ [x])[u]? = some x := ⟨tys.length, by simp⟩
theorem cl_nat (x : Int32) : x.toNatClampNeg = x.toInt.toNat := rfl
theorem put_ty {N : List Nat} {C k kd : Nat} {v : AV} {V : Value} (hty : (kd = 0 ∧ clsY C k = .int) ∨ (kd = 1 ∧ clsY C k = .boolean) ∨ (kd = 2 ∧ clsY C k = .long) ∨ (kd = 3 ∧ ((∃ n, clsY C k = .object n) ∨ ∃ t, clsY C k = .array t))) (ho : okV kd v = true) (hv : vr N v V) : narrow (clsY C k) V = V ∧ fits (clsY C k) V = true := by
  match v, hv, ho with
  | Sum.inl z, ⟨x, h1, h2⟩, ho =>
    subst h1
    rcases hty with ⟨h, e⟩ | ⟨h, e⟩ | ⟨h, e⟩ | ⟨h, e⟩
    · rw [e]; exact ⟨rfl, rfl⟩
    · subst h
      have hz : z = 0 ∨ z = 1 := by simpa [okV] using ho
      rw [e]
      rcases hz with q | q
      · have : x = 0 := Int32.toInt_inj.mp (by rw [← h2, q]; rfl)
        subst this; exact ⟨rfl, rfl⟩
      · have : x = 1 := Int32.toInt_inj.mp (by rw [← h2, q]; rfl)
        subst this; exact ⟨rfl, rfl⟩
    · subst h; simp [okV] at ho
    · subst h; simp [okV] at ho
  | Sum.inr (Sum.inl z), ⟨x, h1, h2⟩, ho =>
    subst h1
    rcases hty with ⟨h, e⟩ | ⟨h, e⟩ | ⟨h, e⟩ | ⟨h, e⟩
    · subst h; simp [okV] at ho
    · subst h; simp [okV] at ho
    · rw [e]; exact ⟨rfl, rfl⟩
    · subst h; simp [okV] at ho
  | Sum.inr (Sum.inr (Sum.inl r)), hv, ho =>
    have hV : V = .null ∨ ∃ a, V = .ref a := by
      cases r with
      | none => exact Or.inl hv
      | some k => obtain ⟨a, h, _⟩ := hv; exact Or.inr ⟨a, h⟩
    rcases hty with ⟨h, e⟩ | ⟨h, e⟩ | ⟨h, e⟩ | ⟨h, e⟩
    · subst h; simp [okV] at ho
    · subst h; simp [okV] at ho
    · subst h; simp [okV] at ho
    · rcases e with ⟨n, e⟩ | ⟨n, e⟩ <;> rw [e] <;> rcases hV with rfl | ⟨a, rfl⟩ <;> exact ⟨rfl, rfl⟩
  | Sum.inr (Sum.inr (Sum.inr _)), _, ho => simp [okV] at ho


section SND2
variable {p : Program} {l : Launch} {e : Env} {R : Room} {s : State} {m : MethodId} {args : Array Value} {below : List Frame} {meth : Method} {c : Code} {Q : State → Prop} {D : va_G} {A : Nat → Prop} {H0 : Heap} {N0 : List Nat} {n0 m0 : Nat} {M : MI}

set_option maxRecDepth 4000 in
theorem s_Nul (C : CX p R s m args meth c A H0 M) {pc : Nat} {al st : List AV} {h : AH} {x : SR} {off : Int} (hd : decode (mC M) pc = .ok (.ifnull off, 3)) (hst : hNull false off pc al st h = some x) (hk : ∀ pc' al' st' h', x = Sum.inl (pc', al', st', h') → WX p l e R s m args below meth c Q D A H0 N0 n0 m0 M pc' al' st' h') : WX p l e R s m args below meth c Q D A H0 N0 n0 m0 M pc al st h := by
  obtain ⟨hx, hb, hml, hrt, hown, hts, hlo, hnm, hkn, hRf, hRl, hA⟩ := C
  match st, hst with
  | Sum.inr (Sum.inr (Sum.inl none)) :: st', hst =>
    have hst : (match tg pc off with
      | some t => gS t al st' h
      | none => none) = some x := hst
    cases htg : tg pc off with
    | none => rw [htg] at hst; cases hst
    | some t =>
      rw [htg] at hst
      have k := s_go hst hk
      intro tys ws H locs cells slots ls rst hK hh hpx hP hD hS hl hs hc1 hc2
      match rst, hs with
      | Y :: T, ⟨hy, hT⟩ =>
        cases hy
        exact lv_ifnullN hx hb hd (tg_of htg) (k tys ws H locs cells slots ls _ hK hh hpx hP hD hS hl hT hc1 hc2)
      | [], h => exact h.elim
  | Sum.inr (Sum.inr (Sum.inl (some r))) :: st', hst =>
    have hst : gS (pc + 3) al st' h = some x := hst
    have k := s_go hst hk
    intro tys ws H locs cells slots ls rst hK hh hpx hP hD hS hl hs hc1 hc2
    match rst, hs with
    | Y :: T, ⟨⟨y, hy, _⟩, hT⟩ =>
      subst hy
      exact lv_ifnull hx hb hd (k tys ws H locs cells slots ls _ hK hh hpx hP hD hS hl hT hc1 hc2)
    | [], h => exact h.elim

set_option maxRecDepth 4000 in
theorem s_NNul (C : CX p R s m args meth c A H0 M) {pc : Nat} {al st : List AV} {h : AH} {x : SR} {off : Int} (hd : decode (mC M) pc = .ok (.ifnonnull off, 3)) (hst : hNull true off pc al st h = some x) (hk : ∀ pc' al' st' h', x = Sum.inl (pc', al', st', h') → WX p l e R s m args below meth c Q D A H0 N0 n0 m0 M pc' al' st' h') : WX p l e R s m args below meth c Q D A H0 N0 n0 m0 M pc al st h := by
  obtain ⟨hx, hb, hml, hrt, hown, hts, hlo, hnm, hkn, hRf, hRl, hA⟩ := C
  match st, hst with
  | Sum.inr (Sum.inr (Sum.inl (some r))) :: st', hst =>
    have hst : (match tg pc off with
      | some t => gS t al st' h
      | none => none) = some x := hst
    cases htg : tg pc off with
    | none => rw [htg] at hst; cases hst
    | some t =>
      rw [htg] at hst
      have k := s_go hst hk
      intro tys ws H locs cells slots ls rst hK hh hpx hP hD hS hl hs hc1 hc2
      match rst, hs with
      | Y :: T, ⟨⟨y, hy, _⟩, hT⟩ =>
        subst hy
        exact lv_ifnonnull hx hb hd (tg_of htg) (k tys ws H locs cells slots ls _ hK hh hpx hP hD hS hl hT hc1 hc2)
      | [], h => exact h.elim
  | Sum.inr (Sum.inr (Sum.inl none)) :: st', hst =>
    have hst : gS (pc + 3) al st' h = some x := hst
    have k := s_go hst hk
    intro tys ws H locs cells slots ls rst hK hh hpx hP hD hS hl hs hc1 hc2
    match rst, hs with
    | Y :: T, ⟨hy, hT⟩ =>
      cases hy
      exact lv_ifnonnullN hx hb hd (k tys ws H locs cells slots ls _ hK hh hpx hP hD hS hl hT hc1 hc2)
    | [], h => exact h.elim

set_option maxRecDepth 4000 in
theorem s_Tab (C : CX p R s m args meth c A H0 M) {pc : Nat} {al st : List AV} {h : AH} {x : SR} {d lo hi : Int} {offs : Array Int} {n : Nat} (hd : decode (mC M) pc = .ok (.tableswitch d lo hi offs, n)) (hst : hTab d lo hi offs pc al st h = some x) (hk : ∀ pc' al' st' h', x = Sum.inl (pc', al', st', h') → WX p l e R s m args below meth c Q D A H0 N0 n0 m0 M pc' al' st' h') : WX p l e R s m args below meth c Q D A H0 N0 n0 m0 M pc al st h := by
  obtain ⟨hx, hb, hml, hrt, hown, hts, hlo, hnm, hkn, hRf, hRl, hA⟩ := C
  match st, hst with
  | Sum.inl a :: st', hst =>
    intro tys ws H locs cells slots ls rst hK hh hpx hP hD hS hl hs hc1 hc2
    match rst, hs with
    | Y :: T, ⟨⟨y, hy, ey⟩, hT⟩ =>
      subst hy
      unfold hTab at hst
      simp only at hst
      split at hst
      · rename_i hor
        cases htg : tg pc d with
        | none => rw [htg] at hst; cases hst
        | some t =>
          rw [htg] at hst
          exact lv_tableOut hx hb hd (by rw [← ey]; exact hor) (tg_of htg) (s_go hst hk tys ws H locs cells slots ls _ hK hh hpx hP hD hS hl hT hc1 hc2)
      · rename_i hor
        cases ho : offs[(a - lo).toNat]? with
        | none => rw [ho] at hst; cases hst
        | some o =>
          rw [ho] at hst
          simp only at hst
          cases htg : tg pc o with
          | none => rw [htg] at hst; cases hst
          | some t =>
            rw [htg] at hst
            exact lv_tableIn hx hb hd (by rw [← ey]; omega) (by rw [← ey]; omega) (by rw [← ey]; exact ho) (tg_of htg) (s_go hst hk tys ws H locs cells slots ls _ hK hh hpx hP hD hS hl hT hc1 hc2)
    | [], h => exact h.elim

set_option maxRecDepth 4000 in
theorem s_Lcm (C : CX p R s m args meth c A H0 M) {pc : Nat} {al st : List AV} {h : AH} {x : SR} (hd : decode (mC M) pc = .ok (.lcmp, 1)) (hst : (match st with
    | Sum.inr (Sum.inl b) :: Sum.inr (Sum.inl a) :: st' => gS (pc + 1) al (aI (fCmp a b) :: st') h
    | _ => none) = some x) (hk : ∀ pc' al' st' h', x = Sum.inl (pc', al', st', h') → WX p l e R s m args below meth c Q D A H0 N0 n0 m0 M pc' al' st' h') : WX p l e R s m args below meth c Q D A H0 N0 n0 m0 M pc al st h := by
  obtain ⟨hx, hb, hml, hrt, hown, hts, hlo, hnm, hkn, hRf, hRl, hA⟩ := C
  match st, hst with
  | Sum.inr (Sum.inl b) :: Sum.inr (Sum.inl a) :: st', hst =>
    have k := s_go hst hk
    intro tys ws H locs cells slots ls rst hK hh hpx hP hD hS hl hs hc1 hc2
    match rst, hs with
    | Y :: Z :: T, ⟨⟨y, hy, ey⟩, ⟨z, hz, ez⟩, hT⟩ =>
      subst hy; subst hz
      exact W.lcmp hx hb hd (k tys ws H locs cells slots ls _ hK hh hpx hP hD hS hl ⟨⟨_, rfl, by rw [ey, ez]; exact e_cmp _ _⟩, hT⟩ hc1 hc2)
    | [_], h => exact h.2.elim
    | [], h => exact h.elim

set_option maxRecDepth 4000 in
theorem s_Dup (C : CX p R s m args meth c A H0 M) {pc : Nat} {al st : List AV} {h : AH} {x : SR} (hd : decode (mC M) pc = .ok (.dup, 1)) (hst : hDup pc al st h = some x) (hk : ∀ pc' al' st' h', x = Sum.inl (pc', al', st', h') → WX p l e R s m args below meth c Q D A H0 N0 n0 m0 M pc' al' st' h') : WX p l e R s m args below meth c Q D A H0 N0 n0 m0 M pc al st h := by
  obtain ⟨hx, hb, hml, hrt, hown, hts, hlo, hnm, hkn, hRf, hRl, hA⟩ := C
  match st, hst with
  | Sum.inl a :: st', hst =>
    have k := s_go hst hk
    intro tys ws H locs cells slots ls rst hK hh hpx hP hD hS hl hs hc1 hc2
    match rst, hs with
    | Y :: T, ⟨⟨y, hy, ey⟩, hT⟩ =>
      subst hy
      exact lv_dup hx hb hd rfl (k tys ws H locs cells slots ls _ hK hh hpx hP hD hS hl ⟨⟨y, rfl, ey⟩, ⟨y, rfl, ey⟩, hT⟩ hc1 hc2)
    | [], h => exact h.elim
  | Sum.inr (Sum.inr (Sum.inl r)) :: st', hst =>
    have k := s_go hst hk
    intro tys ws H locs cells slots ls rst hK hh hpx hP hD hS hl hs hc1 hc2
    match rst, hs with
    | Y :: T, ⟨hy, hT⟩ =>
      exact lv_dup hx hb hd ((vr_cat hy rfl).2.mpr (fun ⟨_, q⟩ => by cases q)) (k tys ws H locs cells slots ls _ hK hh hpx hP hD hS hl ⟨hy, hy, hT⟩ hc1 hc2)
    | [], h => exact h.elim

set_option maxRecDepth 4000 in
theorem s_Dup2 (C : CX p R s m args meth c A H0 M) {pc : Nat} {al st : List AV} {h : AH} {x : SR} (hd : decode (mC M) pc = .ok (.dup2, 1)) (hst : hDup2 pc al st h = some x) (hk : ∀ pc' al' st' h', x = Sum.inl (pc', al', st', h') → WX p l e R s m args below meth c Q D A H0 N0 n0 m0 M pc' al' st' h') : WX p l e R s m args below meth c Q D A H0 N0 n0 m0 M pc al st h := by
  obtain ⟨hx, hb, hml, hrt, hown, hts, hlo, hnm, hkn, hRf, hRl, hA⟩ := C
  match st, hst with
  | Sum.inr (Sum.inl a) :: st', hst =>
    have k := s_go hst hk
    intro tys ws H locs cells slots ls rst hK hh hpx hP hD hS hl hs hc1 hc2
    match rst, hs with
    | Y :: T, ⟨⟨y, hy, ey⟩, hT⟩ =>
      subst hy
      exact lv_dup2_2 hx hb hd rfl (k tys ws H locs cells slots ls _ hK hh hpx hP hD hS hl ⟨⟨y, rfl, ey⟩, ⟨y, rfl, ey⟩, hT⟩ hc1 hc2)
    | [], h => exact h.elim
  | Sum.inl a :: Sum.inr (Sum.inr (Sum.inl r)) :: st', hst =>
    have k := s_go hst hk
    intro tys ws H locs cells slots ls rst hK hh hpx hP hD hS hl hs hc1 hc2
    match rst, hs with
    | Y :: Z :: T, ⟨⟨y, hy, ey⟩, hz, hT⟩ =>
      subst hy
      exact lv_dup2_11 hx hb hd rfl ((vr_cat hz rfl).2.mpr (fun ⟨_, q⟩ => by cases q)) (k tys ws H locs cells slots ls _ hK hh hpx hP hD hS hl ⟨⟨y, rfl, ey⟩, hz, ⟨y, rfl, ey⟩, hz, hT⟩ hc1 hc2)
    | [_], h => exact h.2.elim
    | [], h => exact h.elim

set_option maxRecDepth 4000 in
theorem s_Pop (C : CX p R s m args meth c A H0 M) {pc : Nat} {al st : List AV} {h : AH} {x : SR} (hd : decode (mC M) pc = .ok (.pop, 1)) (hst : hPop pc al st h = some x) (hk : ∀ pc' al' st' h', x = Sum.inl (pc', al', st', h') → WX p l e R s m args below meth c Q D A H0 N0 n0 m0 M pc' al' st' h') : WX p l e R s m args below meth c Q D A H0 N0 n0 m0 M pc al st h := by
  obtain ⟨hx, hb, hml, hrt, hown, hts, hlo, hnm, hkn, hRf, hRl, hA⟩ := C
  match st, hst with
  | Sum.inl a :: st', hst =>
    have k := s_go hst hk
    intro tys ws H locs cells slots ls rst hK hh hpx hP hD hS hl hs hc1 hc2
    match rst, hs with
    | Y :: T, ⟨⟨y, hy, ey⟩, hT⟩ =>
      subst hy
      exact lv_pop hx hb hd rfl (k tys ws H locs cells slots ls _ hK hh hpx hP hD hS hl hT hc1 hc2)
    | [], h => exact h.elim
  | Sum.inr (Sum.inr (Sum.inl r)) :: st', hst =>
    have k := s_go hst hk
    intro tys ws H locs cells slots ls rst hK hh hpx hP hD hS hl hs hc1 hc2
    match rst, hs with
    | Y :: T, ⟨hy, hT⟩ =>
      exact lv_pop hx hb hd ((vr_cat hy rfl).2.mpr (fun ⟨_, q⟩ => by cases q)) (k tys ws H locs cells slots ls _ hK hh hpx hP hD hS hl hT hc1 hc2)
    | [], h => exact h.elim

set_option maxRecDepth 4000 in
theorem s_Get (C : CX p R s m args meth c A H0 M) {pc : Nat} {al st : List AV} {h : AH} {x : SR} {idx : Nat} (hd : decode (mC M) pc = .ok (.getfield idx, 3)) (hst : hGet M idx pc al st h = some x) (hk : ∀ pc' al' st' h', x = Sum.inl (pc', al', st', h') → WX p l e R s m args below meth c Q D A H0 N0 n0 m0 M pc' al' st' h') : WX p l e R s m args below meth c Q D A H0 N0 n0 m0 M pc al st h := by
  obtain ⟨hx, hb, hml, hrt, hown, hts, hlo, hnm, hkn, hRf, hRl, hA⟩ := C
  unfold hGet at hst
  cases hf : fT (mK M) idx with
  | none => rw [hf] at hst; cases hst
  | some q =>
    rw [hf] at hst
    obtain ⟨C, k, kd, fin⟩ := q
    obtain ⟨hC, hkF, hdecl, hfin, hty, hw⟩ := fLst_ok _ (lk_mem hf)
    simp only at hC hkF hdecl hfin hty hw
    match st, hst with
    | Sum.inr (Sum.inr (Sum.inl (some a))) :: st', hst =>
      simp only at hst
      cases hr0 : rd h C a k with
      | none => rw [hr0] at hst; cases hst
      | some v =>
        rw [hr0] at hst
        have kk := s_go hst hk
        obtain ⟨cc, h1, h2, h3⟩ := rd_of hr0
        intro tys ws H locs cells slots ls rst hK hh hpx hP hD hS hl hs hc1 hc2
        match rst, hs with
        | Y :: T, ⟨⟨b, hy, hb1⟩, hT⟩ =>
          subst hy
          obtain ⟨ee, he, hcr⟩ := hr_at hh h1 hb1
          obtain ⟨fs, rfl, h4, h5⟩ := cr_O hcr (by omega)
          rw [h2] at he
          obtain ⟨Vv, h6, h7⟩ := h5.at h3
          have go := kk tys ws H locs cells slots ls (Vv :: T) hK hh hpx hP hD hS hl ⟨h7, hT⟩ hc1 hc2
          rcases hw with hw | ⟨_, host, hw⟩
          · exact va_get (C := clsN C) (T := clsT C) (N := clsF C) (ci := C) hx hb hts (clsW_ok C hC) hown hK hP a he (vwA_at C hC) k hkF (hts _ hw) (fun _ z => z) h6 hd go
          · exact va_getN (C := clsN C) (T := clsT C) (N := clsF C) (ci := C) (host := host) hx hb hts (clsW_ok C hC) hown hK hP a he (vwA_at C hC) k hkF (by
              have hz := hkn.1 _ hw
              exact va_Nw.use rfl hz) (fun _ z => z) h6 hd go
        | [], h => exact h.elim

set_option maxRecDepth 4000 in
theorem s_Put (C : CX p R s m args meth c A H0 M) {pc : Nat} {al st : List AV} {h : AH} {x : SR} {idx : Nat} (hd : decode (mC M) pc = .ok (.putfield idx, 3)) (hst : hPut M idx pc al st h = some x) (hk : ∀ pc' al' st' h', x = Sum.inl (pc', al', st', h') → WX p l e R s m args below meth c Q D A H0 N0 n0 m0 M pc' al' st' h') : WX p l e R s m args below meth c Q D A H0 N0 n0 m0 M pc al st h := by
  obtain ⟨hx, hb, hml, hrt, hown, hts, hlo, hnm, hkn, hRf, hRl, hA⟩ := C
  unfold hPut at hst
  cases hf : fT (mK M) idx with
  | none => rw [hf] at hst; cases hst
  | some q =>
    rw [hf] at hst
    obtain ⟨C, k, kd, fin⟩ := q
    obtain ⟨hC, hkF, hdecl, hfin, hty, hw⟩ := fLst_ok _ (lk_mem hf)
    simp only at hC hkF hdecl hfin hty hw
    match st, hst with
    | v :: Sum.inr (Sum.inr (Sum.inl (some a))) :: st', hst =>
      simp only at hst
      cases hr0 : rd h C a k with
      | none => rw [hr0] at hst; cases hst
      | some v0 =>
        rw [hr0] at hst
        simp only at hst
        obtain ⟨hcond, hst⟩ := bif_of hst
        rw [Bool.and_eq_true] at hcond
        obtain ⟨hok, hfn⟩ := hcond
        have kk := s_go hst hk
        obtain ⟨cc, h1, h2, h3⟩ := rd_of hr0
        intro tys ws H locs cells slots ls rst hK hh hpx hP hD hS hl hs hc1 hc2
        match rst, hs with
        | Vv :: Y :: T, ⟨hv, ⟨b, hy, hb1⟩, hT⟩ =>
          subst hy
          obtain ⟨ee, he, hcr⟩ := hr_at hh h1 hb1
          obtain ⟨fs, rfl, h4, h5⟩ := cr_O hcr (by omega)
          rw [h2] at he h4
          have hlen := h5.len
          obtain ⟨hn1, hf1⟩ := put_ty hty hok hv
          have hw1 : wr h C a k v = h.set a (C, cc.2.set k v) := wr_of h1 h2
          rw [hw1] at kk
          have go : ∀ (H1 : Heap) (locs1 : List Loc), va_P D vwA (ws.set a (b, .inr (C, fs.set k Vv))) H1 → va_D A (ws.set a (b, .inr (C, fs.set k Vv))) → va_S A H0 H1 locs1 → W p l e R s m args below meth c H1 locs1 cells slots Q (F0 m (pc + 3) ls T) := by
            intro H1 locs1 hP1 hD1 hS1
            have hnu := nu_set (e' := .inr (C, fs.set k Vv)) he
            refine kk tys _ H1 locs1 cells slots ls T hK (hr_set hh he ?_) (by rw [hnu]; exact hpx) hP1 hD1 hS1 (by rw [hnu]; exact hl) (by rw [hnu]; exact hT) (by rw [List.length_set]; exact hc1) (by rw [slt_set h1 (by simp)]; exact hc2)
            exact ⟨rfl, hC, by simp only [List.length_set]; exact h4, h5.set k hv⟩
          have hdp := clsY_ok C hC k hkF
          rcases hw with hw | ⟨hne, host, hw⟩
          · cases hfb : fin with
            | false =>
              rw [hfb] at hfin
              exact va_put (C := clsN C) (T := clsT C) (N := clsF C) (ci := C) hx hb hts (clsW_ok C hC) (clsY C) (clsY_ok C hC) (clsT_nm C hC) hown hK hP hD hS a he (vwA_at C hC) k hkF (hts _ hw) (fun _ z => z) hfin hdp hn1 hf1 (by omega) hd go
            | true =>
              rw [hfb] at hfin hfn
              simp only [Bool.not_true, Bool.false_or, Bool.and_eq_true, decide_eq_true_eq] at hfn
              have hKC := Nat.eq_of_beq_eq_true hfn.2
              exact va_putF (C := clsN C) (T := clsT C) (N := clsF C) (ci := C) hx hb hts (clsW_ok C hC) (clsY C) (clsY_ok C hC) (clsT_nm C hC) hown hK hP hD hS a he (vwA_at C hC) k hkF (hts _ hw) (fun _ z => z) hfin (hnm.trans hfn.1) (by rw [hdecl, hKC]) hdp hn1 hf1 (by omega) hd go
          · cases hfb : fin with
            | false =>
              rw [hfb] at hfin
              exact va_putN (C := clsN C) (T := clsT C) (N := clsF C) (ci := C) (host := host) hx hb hts (clsW_ok C hC) (clsY C) (clsY_ok C hC) (clsT_nm C hC) hown hK hP hD hS a he (vwA_at C hC) k hkF (va_Nw.use rfl (hkn.1 _ hw)) (fun _ z => z) hfin hdp hn1 hf1 (by omega) hd go
            | true =>
              rw [hfb] at hfn
              simp only [Bool.not_true, Bool.false_or, Bool.and_eq_true, decide_eq_true_eq] at hfn
              exact absurd (Nat.eq_of_beq_eq_true hfn.2) hne
        | [_], h => exact h.2.elim
        | [], h => exact h.elim

set_option maxRecDepth 4000 in
theorem s_AldI (C : CX p R s m args meth c A H0 M) {pc : Nat} {al st : List AV} {h : AH} {x : SR} (hd : decode (mC M) pc = .ok (.iaload, 1)) (hst : hAld 10 pc al st h = some x) (hk : ∀ pc' al' st' h', x = Sum.inl (pc', al', st', h') → WX p l e R s m args below meth c Q D A H0 N0 n0 m0 M pc' al' st' h') : WX p l e R s m args below meth c Q D A H0 N0 n0 m0 M pc al st h := by
  obtain ⟨hx, hb, hml, hrt, hown, hts, hlo, hnm, hkn, hRf, hRl, hA⟩ := C
  match st, hst with
  | Sum.inl i :: Sum.inr (Sum.inr (Sum.inl (some a))) :: st', hst =>
    unfold hAld at hst
    simp only at hst
    obtain ⟨hi0, hst⟩ := ite_of hst
    cases hr0 : rd h 10 a i.toNat with
    | none => rw [hr0] at hst; cases hst
    | some v =>
      rw [hr0] at hst
      have kk := s_go hst hk
      obtain ⟨cc, h1, h2, h3⟩ := rd_of hr0
      intro tys ws H locs cells slots ls rst hK hh hpx hP hD hS hl hs hc1 hc2
      match rst, hs with
      | X0 :: Y :: T, ⟨⟨x0, hx0, ex0⟩, ⟨b, hy, hb1⟩, hT⟩ =>
        subst hy; subst hx0; subst ex0
        obtain ⟨ee, he, hcr⟩ := hr_at hh h1 hb1
        obtain ⟨cA, f, t, rfl, hl31, ht, hf⟩ := cr_I hcr h2
        have hlt := (List.getElem?_eq_some_iff.mp h3).1
        have hj := hf _ hlt
        rw [h3] at hj
        cases hj
        exact va_iald hx hb hK hP a t he ht (vp_in_iff.mpr ⟨hi0, by omega⟩) hd (kk tys ws H locs cells slots ls _ hK hh hpx hP hD hS hl ⟨⟨_, rfl, rfl⟩, hT⟩ hc1 hc2)
      | [_], h => exact h.2.elim
      | [], h => exact h.elim

set_option maxRecDepth 4000 in
theorem s_AldJ (C : CX p R s m args meth c A H0 M) {pc : Nat} {al st : List AV} {h : AH} {x : SR} (hd : decode (mC M) pc = .ok (.laload, 1)) (hst : hAld 11 pc al st h = some x) (hk : ∀ pc' al' st' h', x = Sum.inl (pc', al', st', h') → WX p l e R s m args below meth c Q D A H0 N0 n0 m0 M pc' al' st' h') : WX p l e R s m args below meth c Q D A H0 N0 n0 m0 M pc al st h := by
  obtain ⟨hx, hb, hml, hrt, hown, hts, hlo, hnm, hkn, hRf, hRl, hA⟩ := C
  match st, hst with
  | Sum.inl i :: Sum.inr (Sum.inr (Sum.inl (some a))) :: st', hst =>
    unfold hAld at hst
    simp only at hst
    obtain ⟨hi0, hst⟩ := ite_of hst
    cases hr0 : rd h 11 a i.toNat with
    | none => rw [hr0] at hst; cases hst
    | some v =>
      rw [hr0] at hst
      have kk := s_go hst hk
      obtain ⟨cc, h1, h2, h3⟩ := rd_of hr0
      intro tys ws H locs cells slots ls rst hK hh hpx hP hD hS hl hs hc1 hc2
      match rst, hs with
      | X0 :: Y :: T, ⟨⟨x0, hx0, ex0⟩, ⟨b, hy, hb1⟩, hT⟩ =>
        subst hy; subst hx0; subst ex0
        obtain ⟨ee, he, hcr⟩ := hr_at hh h1 hb1
        obtain ⟨cA, f, t, rfl, hl31, ht, hf⟩ := cr_J hcr h2
        have hlt := (List.getElem?_eq_some_iff.mp h3).1
        have hj := hf _ hlt
        rw [h3] at hj
        cases hj
        exact va_lald hx hb hK hP a t he ht (vp_in_iff.mpr ⟨hi0, by omega⟩) hd (kk tys ws H locs cells slots ls _ hK hh hpx hP hD hS hl ⟨⟨_, rfl, rfl⟩, hT⟩ hc1 hc2)
      | [_], h => exact h.2.elim
      | [], h => exact h.elim

set_option maxRecDepth 4000 in
theorem s_AldR (C : CX p R s m args meth c A H0 M) {pc : Nat} {al st : List AV} {h : AH} {x : SR} (hd : decode (mC M) pc = .ok (.aaload, 1)) (hst : hAldR pc al st h = some x) (hk : ∀ pc' al' st' h', x = Sum.inl (pc', al', st', h') → WX p l e R s m args below meth c Q D A H0 N0 n0 m0 M pc' al' st' h') : WX p l e R s m args below meth c Q D A H0 N0 n0 m0 M pc al st h := by
  obtain ⟨hx, hb, hml, hrt, hown, hts, hlo, hnm, hkn, hRf, hRl, hA⟩ := C
  match st, hst with
  | Sum.inl i :: Sum.inr (Sum.inr (Sum.inl (some a))) :: st', hst =>
    unfold hAldR at hst
    simp only at hst
    obtain ⟨⟨hi0, ht12⟩, hst⟩ := ite_of hst
    cases hr0 : rd h (tagR h a) a i.toNat with
    | none => rw [hr0] at hst; cases hst
    | some v =>
      rw [hr0] at hst
      have kk := s_go hst hk
      obtain ⟨cc, h1, h2, h3⟩ := rd_of hr0
      intro tys ws H locs cells slots ls rst hK hh hpx hP hD hS hl hs hc1 hc2
      match rst, hs with
      | X0 :: Y :: T, ⟨⟨x0, hx0, ex0⟩, ⟨b, hy, hb1⟩, hT⟩ =>
        subst hy; subst hx0; subst ex0
        obtain ⟨ee, he, hcr⟩ := hr_at hh h1 hb1
        obtain ⟨cA, f, t, rfl, hl31, h14, ht, hf⟩ := cr_R hcr (by rw [h2]; exact ht12)
        have hlt := (List.getElem?_eq_some_iff.mp h3).1
        obtain ⟨r, hj, hv⟩ := hf _ hlt
        rw [h3] at hj
        cases hj
        exact va_aldq hx hb hK hP a t he ht (vp_in_iff.mpr ⟨hi0, by omega⟩) hd (kk tys ws H locs cells slots ls _ hK hh hpx hP hD hS hl ⟨hv, hT⟩ hc1 hc2)
      | [_], h => exact h.2.elim
      | [], h => exact h.elim

set_option maxRecDepth 4000 in
theorem s_AstI (C : CX p R s m args meth c A H0 M) {pc : Nat} {al st : List AV} {h : AH} {x : SR} (hd : decode (mC M) pc = .ok (.iastore, 1)) (hst : hAstI pc al st h = some x) (hk : ∀ pc' al' st' h', x = Sum.inl (pc', al', st', h') → WX p l e R s m args below meth c Q D A H0 N0 n0 m0 M pc' al' st' h') : WX p l e R s m args below meth c Q D A H0 N0 n0 m0 M pc al st h := by
  obtain ⟨hx, hb, hml, hrt, hown, hts, hlo, hnm, hkn, hRf, hRl, hA⟩ := C
  match st, hst with
  | Sum.inl x1 :: Sum.inl i :: Sum.inr (Sum.inr (Sum.inl (some a))) :: st', hst =>
    unfold hAstI at hst
    simp only at hst
    obtain ⟨hi0, hst⟩ := ite_of hst
    cases hr0 : rd h 10 a i.toNat with
    | none => rw [hr0] at hst; cases hst
    | some v =>
      rw [hr0] at hst
      have kk := s_go hst hk
      obtain ⟨cc, h1, h2, h3⟩ := rd_of hr0
      intro tys ws H locs cells slots ls rst hK hh hpx hP hD hS hl hs hc1 hc2
      match rst, hs with
      | X1 :: X0 :: Y :: T, ⟨⟨y1, hy1, ey1⟩, ⟨x0, hx0, ex0⟩, ⟨b, hy, hb1⟩, hT⟩ =>
        subst hy; subst hx0; subst ex0; subst hy1; subst ey1
        obtain ⟨ee, he, hcr⟩ := hr_at hh h1 hb1
        obtain ⟨cA, f, t, rfl, hl31, ht, hf⟩ := cr_I hcr h2
        have hlt := (List.getElem?_eq_some_iff.mp h3).1
        rw [wr_of h1 h2] at kk
        refine va_iast hx hb hK hP hD hS a t he ht (vp_in_iff.mpr ⟨hi0, by omega⟩) hd (fun H1 locs1 hP1 hD1 hS1 => ?_)
        have hnu := nu_set (e' := .inl (cA, cc.2.length, .inl (upd f x0.toNatClampNeg y1))) he
        refine kk tys _ H1 locs1 cells slots ls T hK (hr_set (e' := .inl (cA, cc.2.length, .inl (upd f x0.toNatClampNeg y1))) hh he ⟨?_, hl31, rfl, ⟨t, ht⟩, fun j hj => ?_⟩) (by rw [hnu]; exact hpx) hP1 hD1 hS1 (by rw [hnu]; exact hl) (by rw [hnu]; exact hT) (by rw [List.length_set]; exact hc1) (by rw [slt_set h1 (by simp)]; exact hc2)
        · simp only [List.length_set]
        · show (cc.2.set x0.toInt.toNat (aI y1.toInt))[j]? = some (aI (upd f x0.toInt.toNat y1 j).toInt)
          have hj : j < cc.2.length := hj
          unfold upd
          by_cases hq : j = x0.toInt.toNat
          · rw [if_pos hq, hq, List.getElem?_set_self hlt]
          · rw [if_neg hq, List.getElem?_set_ne (Ne.symm hq)]
            exact hf j hj
      | [_, _], h => exact h.2.2.elim
      | [_], h => exact h.2.elim
      | [], h => exact h.elim

set_option maxRecDepth 4000 in
theorem s_AstJ (C : CX p R s m args meth c A H0 M) {pc : Nat} {al st : List AV} {h : AH} {x : SR} (hd : decode (mC M) pc = .ok (.lastore, 1)) (hst : hAstJ pc al st h = some x) (hk : ∀ pc' al' st' h', x = Sum.inl (pc', al', st', h') → WX p l e R s m args below meth c Q D A H0 N0 n0 m0 M pc' al' st' h') : WX p l e R s m args below meth c Q D A H0 N0 n0 m0 M pc al st h := by
  obtain ⟨hx, hb, hml, hrt, hown, hts, hlo, hnm, hkn, hRf, hRl, hA⟩ := C
  match st, hst with
  | Sum.inr (Sum.inl x1) :: Sum.inl i :: Sum.inr (Sum.inr (Sum.inl (some a))) :: st', hst =>
    unfold hAstJ at hst
    simp only at hst
    obtain ⟨hi0, hst⟩ := ite_of hst
    cases hr0 : rd h 11 a i.toNat with
    | none => rw [hr0] at hst; cases hst
    | some v =>
      rw [hr0] at hst
      have kk := s_go hst hk
      obtain ⟨cc, h1, h2, h3⟩ := rd_of hr0
      intro tys ws H locs cells slots ls rst hK hh hpx hP hD hS hl hs hc1 hc2
      match rst, hs with
      | X1 :: X0 :: Y :: T, ⟨⟨y1, hy1, ey1⟩, ⟨x0, hx0, ex0⟩, ⟨b, hy, hb1⟩, hT⟩ =>
        subst hy; subst hx0; subst ex0; subst hy1; subst ey1
        obtain ⟨ee, he, hcr⟩ := hr_at hh h1 hb1
        obtain ⟨cA, f, t, rfl, hl31, ht, hf⟩ := cr_J hcr h2
        have hlt := (List.getElem?_eq_some_iff.mp h3).1
        rw [wr_of h1 h2] at kk
        refine va_last hx hb hK hP hD hS a t he ht (vp_in_iff.mpr ⟨hi0, by omega⟩) hd (fun H1 locs1 hP1 hD1 hS1 => ?_)
        have hnu := nu_set (e' := .inl (cA, cc.2.length, .inr <| .inl (vp_updL f x0.toNatClampNeg y1))) he
        refine kk tys _ H1 locs1 cells slots ls T hK (hr_set (e' := .inl (cA, cc.2.length, .inr <| .inl (vp_updL f x0.toNatClampNeg y1))) hh he ⟨?_, hl31, rfl, ⟨t, ht⟩, fun j hj => ?_⟩) (by rw [hnu]; exact hpx) hP1 hD1 hS1 (by rw [hnu]; exact hl) (by rw [hnu]; exact hT) (by rw [List.length_set]; exact hc1) (by rw [slt_set h1 (by simp)]; exact hc2)
        · simp only [List.length_set]
        · show (cc.2.set x0.toInt.toNat (aJ y1.toInt))[j]? = some (aJ (vp_updL f x0.toInt.toNat y1 j).toInt)
          have hj : j < cc.2.length := hj
          unfold vp_updL
          by_cases hq : j = x0.toInt.toNat
          · rw [if_pos hq, hq, List.getElem?_set_self hlt]
          · rw [if_neg hq, List.getElem?_set_ne (Ne.symm hq)]
            exact hf j hj
      | [_, _], h => exact h.2.2.elim
      | [_], h => exact h.2.elim
      | [], h => exact h.elim

set_option maxRecDepth 4000 in
theorem s_AstR (C : CX p R s m args meth c A H0 M) {pc : Nat} {al st : List AV} {h : AH} {x : SR} (hd : decode (mC M) pc = .ok (.aastore, 1)) (hst : hAstR pc al st h = some x) (hk : ∀ pc' al' st' h', x = Sum.inl (pc', al', st', h') → WX p l e R s m args below meth c Q D A H0 N0 n0 m0 M pc' al' st' h') : WX p l e R s m args below meth c Q D A H0 N0 n0 m0 M pc al st h := by
  obtain ⟨hx, hb, hml, hrt, hown, hts, hlo, hnm, hkn, hRf, hRl, hA⟩ := C
  match st, hst with
  | Sum.inr (Sum.inr (Sum.inl (some x1))) :: Sum.inl i :: Sum.inr (Sum.inr (Sum.inl (some a))) :: st', hst =>
    unfold hAstR at hst
    simp only at hst
    obtain ⟨⟨hi0, ht12, ht14, hiso⟩, hst⟩ := ite_of hst
    obtain ⟨cx, hx1, hx2⟩ := isO_of hiso
    cases hr0 : rd h (tagR h a) a i.toNat with
    | none => rw [hr0] at hst; cases hst
    | some v =>
      rw [hr0] at hst
      have kk := s_go hst hk
      obtain ⟨cc, h1, h2, h3⟩ := rd_of hr0
      intro tys ws H locs cells slots ls rst hK hh hpx hP hD hS hl hs hc1 hc2
      match rst, hs with
      | X1 :: X0 :: Y :: T, ⟨⟨b1, hy1, ey1⟩, ⟨x0, hx0, ex0⟩, ⟨b, hy, hb1⟩, hT⟩ =>
        subst hy; subst hx0; subst ex0; subst hy1
        obtain ⟨ee, he, hcr⟩ := hr_at hh h1 hb1
        obtain ⟨cA, f, t, rfl, hl31, h14, ht, hf⟩ := cr_R hcr (by rw [h2]; exact ht12)
        obtain ⟨ex, hex, hcx⟩ := hr_at hh hx1 ey1
        have hel : elT (tagR h a) < 6 ∧ arrN cc.1 = clsN (elT (tagR h a)) := by
          rw [h2]
          generalize tagR h a = tt at ht12 ht14
          match tt, ht12, ht14 with
          | 12, _, _ => exact ⟨by decide, rfl⟩
          | 13, _, _ => exact ⟨by decide, rfl⟩
          | 14, _, _ => exact ⟨by decide, rfl⟩
        obtain ⟨fsx, rfl, _, _⟩ := cr_O hcx (by rw [hx2]; exact hel.1)
        rw [hx2] at hex
        have hlt := (List.getElem?_eq_some_iff.mp h3).1
        rw [wr_of h1 h2] at kk
        rw [hel.2] at ht
        refine va_astq (r := (clsN (elT (tagR h a)), clsT (elT (tagR h a)), clsF (elT (tagR h a)))) hx hb hK hP hD hS a t x1 (elT (tagR h a)) he ht hex (vwA_at _ hel.1) (vp_in_iff.mpr ⟨hi0, by omega⟩) hd (fun H1 locs1 hP1 hD1 hS1 => ?_)
        have hnu := nu_set (e' := .inl (cA, cc.2.length, .inr (.inr (.inr (.inr (va_up f x0.toNatClampNeg (some b1))))))) he
        refine kk tys _ H1 locs1 cells slots ls T hK (hr_set (e' := .inl (cA, cc.2.length, .inr (.inr (.inr (.inr (va_up f x0.toNatClampNeg (some b1))))))) hh he ⟨?_, hl31, ht12, ht14, ⟨t, ?_⟩, fun j hj => ?_⟩) (by rw [hnu]; exact hpx) hP1 hD1 hS1 (by rw [hnu]; exact hl) (by rw [hnu]; exact hT) (by rw [List.length_set]; exact hc1) (by rw [slt_set h1 (by simp)]; exact hc2)
        · simp only [List.length_set]
        · rw [ht]; simp only; rw [← hel.2, h2]
        · show ∃ r, (cc.2.set x0.toInt.toNat (aR (some x1)))[j]? = some (aR r) ∧ vr (nu ws) (aR r) (va_rf (va_up f x0.toInt.toNat (some b1) j))
          have hj : j < cc.2.length := hj
          unfold va_up
          by_cases hq : j = x0.toInt.toNat
          · rw [if_pos hq, hq, List.getElem?_set_self hlt]
            exact ⟨some x1, rfl, b1, rfl, ey1⟩
          · rw [if_neg hq, List.getElem?_set_ne (Ne.symm hq)]
            exact hf j hj
      | [_, _], h => exact h.2.2.elim
      | [_], h => exact h.2.elim
      | [], h => exact h.elim

set_option maxRecDepth 4000 in
theorem s_Len (C : CX p R s m args meth c A H0 M) {pc : Nat} {al st : List AV} {h : AH} {x : SR} (hd : decode (mC M) pc = .ok (.arraylength, 1)) (hst : hLen pc al st h = some x) (hk : ∀ pc' al' st' h', x = Sum.inl (pc', al', st', h') → WX p l e R s m args below meth c Q D A H0 N0 n0 m0 M pc' al' st' h') : WX p l e R s m args below meth c Q D A H0 N0 n0 m0 M pc al st h := by
  obtain ⟨hx, hb, hml, hrt, hown, hts, hlo, hnm, hkn, hRf, hRl, hA⟩ := C
  match st, hst with
  | Sum.inr (Sum.inr (Sum.inl (some a))) :: st', hst =>
    unfold hLen at hst
    simp only at hst
    cases hr0 : ln h a with
    | none => rw [hr0] at hst; cases hst
    | some n =>
      rw [hr0] at hst
      have kk := s_go hst hk
      obtain ⟨cc, h1, h2, h3⟩ : ∃ cc, h[a]? = some cc ∧ 10 ≤ cc.1 ∧ n = cc.2.length := by
        unfold ln at hr0
        cases hc : h[a]? with
        | none => rw [hc] at hr0; cases hr0
        | some cc =>
          rw [hc] at hr0
          simp only at hr0
          cases hbb : Nat.ble 10 cc.1 with
          | true => rw [hbb] at hr0; cases hr0; exact ⟨cc, rfl, Nat.le_of_ble_eq_true hbb, rfl⟩
          | false => rw [hbb] at hr0; cases hr0
      intro tys ws H locs cells slots ls rst hK hh hpx hP hD hS hl hs hc1 hc2
      match rst, hs with
      | Y :: T, ⟨⟨b, hy, hb1⟩, hT⟩ =>
        subst hy
        obtain ⟨ee, he, hcr⟩ := hr_at hh h1 hb1
        have fin : ∀ (cA : ClassId) (f : vp_A) (t : Nat) (ty : FieldType), ee = .inl (cA, f) → f.1 = cc.2.length → cc.2.length < 2147483648 → tys[t]? = some (cA, ty) → W p l e R s m args below meth c H locs cells slots Q (F0 m pc ls (.ref b :: T)) := by
          intro cA f t ty e1 e2 e3 e4
          subst e1
          refine va_alen hx hb hK hP a t he e4 rfl hd (kk tys ws H locs cells slots ls _ hK hh hpx hP hD hS hl ⟨⟨_, rfl, ?_⟩, hT⟩ hc1 hc2)
          rw [e2, h3]
          exact (nI_toInt e3).symm
        rcases (show cc.1 = 10 ∨ cc.1 = 11 ∨ 12 ≤ cc.1 by omega) with q | q | q
        · obtain ⟨cA, f, t, e1, hl31, ht, hf⟩ := cr_I hcr q
          exact fin cA _ t _ e1 rfl hl31 ht
        · obtain ⟨cA, f, t, e1, hl31, ht, hf⟩ := cr_J hcr q
          exact fin cA _ t _ e1 rfl hl31 ht
        · obtain ⟨cA, f, t, e1, hl31, h14, ht, hf⟩ := cr_R hcr q
          exact fin cA _ t _ e1 rfl hl31 ht
      | [], h => exact h.elim


theorem sr_dfl (N : List Nat) (C : Nat) : ∀ (ks : List Nat), sr N (ks.map fun k => dfv (clsY C k)) (ks.map fun k => defaultValue (clsY C k))
  | [] => trivial
  | k :: ks => by
    refine ⟨?_, sr_dfl N C ks⟩
    show vr N (dfv (clsY C k)) (defaultValue (clsY C k))
    generalize hz : clsY C k = ty
    have hok : ∀ c k, clsY c k = .int ∨ clsY c k = .long ∨ clsY c k = .boolean ∨ (∃ n, clsY c k = .object n) ∨ ∃ n, clsY c k = .array n := by
      intro c k
      unfold clsY
      split <;> (first | unfold tyX0 | unfold tyX1 | unfold tyX2 | unfold tyX3 | unfold tyX4 | unfold tyX5) <;> split <;> first | exact Or.inl rfl | exact Or.inr (Or.inl rfl) | exact Or.inr (Or.inr (Or.inl rfl)) | exact Or.inr (Or.inr (Or.inr (Or.inl ⟨_, rfl⟩))) | exact Or.inr (Or.inr (Or.inr (Or.inr ⟨_, rfl⟩)))
    have := hok C k
    rw [hz] at this
    rcases this with h | h | h | ⟨n, h⟩ | ⟨n, h⟩ <;> subst h
    · exact ⟨0, rfl, rfl⟩
    · exact ⟨0, rfl, rfl⟩
    · exact ⟨0, rfl, rfl⟩
    · exact rfl
    · exact rfl

set_option maxRecDepth 4000 in
theorem s_New (C : CX p R s m args meth c A H0 M) {pc : Nat} {al st : List AV} {h : AH} {x : SR} {idx : Nat} (hd : decode (mC M) pc = .ok (.new idx, 3)) (hst : hNew M idx pc al st h = some x) (hbd : ∀ pc' al' st' h', x = Sum.inl (pc', al', st', h') → h'.length ≤ n0 + R.cells ∧ slt h' ≤ m0 + R.slots) (hk : ∀ pc' al' st' h', x = Sum.inl (pc', al', st', h') → WX p l e R s m args below meth c Q D A H0 N0 n0 m0 M pc' al' st' h') : WX p l e R s m args below meth c Q D A H0 N0 n0 m0 M pc al st h := by
  obtain ⟨hx, hb, hml, hrt, hown, hts, hlo, hnm, hkn, hRf, hRl, hA⟩ := C
  unfold hNew at hst
  cases hn : lk nLst (mK M) idx with
  | none => rw [hn] at hst; cases hst
  | some C =>
    rw [hn] at hst
    obtain ⟨hC, hw1, hw2, hw3⟩ := nLst_ok _ (lk_mem hn)
    simp only at hC hw1 hw2 hw3 hst
    have kk := s_go hst hk
    obtain ⟨hb1, hb2⟩ := hbd _ _ _ _ (Option.some.inj hst).symm
    have hlen : (dfl C).length = clsF C := by simp [dfl]
    rw [List.length_append, List.length_singleton] at hb1
    rw [slt_app] at hb2
    simp only [hlen] at hb2
    intro tys ws H locs cells slots ls rst hK hh hpx hP hD hS hl hs hc1 hc2
    refine va_new (C := clsN C) (T := clsT C) (N := clsF C) (ci := C) hx hb hts (clsW_ok C hC) (clsY C) (clsY_ok C hC) hown (hts _ hw1) (hts _ hw2) (hts _ hw3) hK hP hD hS hA (vwA_at C hC) (fs := (List.range (clsF C)).map fun k => defaultValue (clsY C k)) (fun j hj => by simp [vp_V, hj]) (by omega) (by omega) hd (fun q H1 hP1 hD1 hS1 => ?_)
    obtain ⟨g1, g2, g3⟩ := hr_new (tys' := tys) (q := q) (e := .inr (C, (List.range (clsF C)).map fun k => defaultValue (clsY C k))) (c := (C, dfl C)) hh (fun t x h => ⟨t, h⟩) ⟨rfl, hC, hlen, sr_dfl _ C _⟩
    exact kk tys _ H1 locs (cells + 1) (slots + clsF C) ls _ hK g1 (hpx.tr g2) hP1 hD1 hS1 (hl.up g2) ⟨⟨q, rfl, g3⟩, hs.up g2⟩ (by rw [List.length_append, List.length_singleton]; omega) (by rw [slt_app]; simp only [hlen]; omega)

set_option maxRecDepth 4000 in
theorem s_NwI (C : CX p R s m args meth c A H0 M) {pc : Nat} {al st : List AV} {h : AH} {x : SR} (hd : decode (mC M) pc = .ok (.newarray .int, 2)) (hst : hNwa 10 (aI 0) pc al st h = some x) (hbd : ∀ pc' al' st' h', x = Sum.inl (pc', al', st', h') → h'.length ≤ n0 + R.cells ∧ slt h' ≤ m0 + R.slots) (hk : ∀ pc' al' st' h', x = Sum.inl (pc', al', st', h') → WX p l e R s m args below meth c Q D A H0 N0 n0 m0 M pc' al' st' h') : WX p l e R s m args below meth c Q D A H0 N0 n0 m0 M pc al st h := by
  obtain ⟨hx, hb, hml, hrt, hown, hts, hlo, hnm, hkn, hRf, hRl, hA⟩ := C
  match st, hst with
  | Sum.inl n :: st', hst =>
    unfold hNwa at hst
    simp only at hst
    obtain ⟨⟨hn0, hn1⟩, hst⟩ := ite_of hst
    have kk := s_go hst hk
    obtain ⟨hb1, hb2⟩ := hbd _ _ _ _ (Option.some.inj hst).symm
    rw [List.length_append, List.length_singleton] at hb1
    rw [slt_app] at hb2
    simp only [List.length_replicate] at hb2
    intro tys ws H locs cells slots ls rst hK hh hpx hP hD hS hl hs hc1 hc2
    match rst, hs with
    | Y :: T, ⟨⟨y, hy, ey⟩, hT⟩ =>
      subst hy; subst ey
      refine va_newa (atype := .int) (ty := .int) (N' := y.toInt.toNat) (a0 := (y.toInt.toNat, .inl (fun _ => (0 : Int32)))) hx hb (hts _ arI_w) rfl hK hP hD hS hA (fun cA => rfl) (by rw [Int32.lt_iff_toInt_lt]; show ¬ y.toInt < 0; omega) (cl_nat y) (by show y.toInt.toNat * _ ≤ 536870912; simp only [componentBytes]; omega) (by omega) (by omega) hd (fun q cA H1 hK1 hP1 hD1 hS1 => ?_)
      obtain ⟨g1, g2, g3⟩ := hr_new (tys' := tys ++ [(cA, .int)]) (q := q) (e := .inl (cA, y.toInt.toNat, .inl (fun _ => (0 : Int32)))) (c := (10, List.replicate y.toInt.toNat (aI 0))) hh ty_app ⟨by simp, by show y.toInt.toNat < 2147483648; omega, rfl, ty_new, fun j hj => by
        have hj : j < y.toInt.toNat := hj
        simp only [List.getElem?_replicate, if_pos hj]
        rfl⟩
      exact kk _ _ H1 locs (cells + 1) (slots + y.toInt.toNat) ls _ hK1 g1 (hpx.tr g2) hP1 hD1 hS1 (hl.up g2) ⟨⟨q, rfl, g3⟩, hT.up g2⟩ (by rw [List.length_append, List.length_singleton]; omega) (by rw [slt_app]; simp only [List.length_replicate]; omega)
    | [], h => exact h.elim

set_option maxRecDepth 4000 in
theorem s_NwJ (C : CX p R s m args meth c A H0 M) {pc : Nat} {al st : List AV} {h : AH} {x : SR} (hd : decode (mC M) pc = .ok (.newarray .long, 2)) (hst : hNwa 11 (aJ 0) pc al st h = some x) (hbd : ∀ pc' al' st' h', x = Sum.inl (pc', al', st', h') → h'.length ≤ n0 + R.cells ∧ slt h' ≤ m0 + R.slots) (hk : ∀ pc' al' st' h', x = Sum.inl (pc', al', st', h') → WX p l e R s m args below meth c Q D A H0 N0 n0 m0 M pc' al' st' h') : WX p l e R s m args below meth c Q D A H0 N0 n0 m0 M pc al st h := by
  obtain ⟨hx, hb, hml, hrt, hown, hts, hlo, hnm, hkn, hRf, hRl, hA⟩ := C
  match st, hst with
  | Sum.inl n :: st', hst =>
    unfold hNwa at hst
    simp only at hst
    obtain ⟨⟨hn0, hn1⟩, hst⟩ := ite_of hst
    have kk := s_go hst hk
    obtain ⟨hb1, hb2⟩ := hbd _ _ _ _ (Option.some.inj hst).symm
    rw [List.length_append, List.length_singleton] at hb1
    rw [slt_app] at hb2
    simp only [List.length_replicate] at hb2
    intro tys ws H locs cells slots ls rst hK hh hpx hP hD hS hl hs hc1 hc2
    match rst, hs with
    | Y :: T, ⟨⟨y, hy, ey⟩, hT⟩ =>
      subst hy; subst ey
      refine va_newa (atype := .long) (ty := .long) (N' := y.toInt.toNat) (a0 := (y.toInt.toNat, .inr (.inl (fun _ => (0 : Int64))))) hx hb (hts _ arJ_w) rfl hK hP hD hS hA (fun cA => rfl) (by rw [Int32.lt_iff_toInt_lt]; show ¬ y.toInt < 0; omega) (cl_nat y) (by show y.toInt.toNat * _ ≤ 536870912; simp only [componentBytes]; omega) (by omega) (by omega) hd (fun q cA H1 hK1 hP1 hD1 hS1 => ?_)
      obtain ⟨g1, g2, g3⟩ := hr_new (tys' := tys ++ [(cA, .long)]) (q := q) (e := .inl (cA, y.toInt.toNat, .inr (.inl (fun _ => (0 : Int64))))) (c := (11, List.replicate y.toInt.toNat (aJ 0))) hh ty_app ⟨by simp, by show y.toInt.toNat < 2147483648; omega, rfl, ty_new, fun j hj => by
        have hj : j < y.toInt.toNat := hj
        simp only [List.getElem?_replicate, if_pos hj]
        rfl⟩
      exact kk _ _ H1 locs (cells + 1) (slots + y.toInt.toNat) ls _ hK1 g1 (hpx.tr g2) hP1 hD1 hS1 (hl.up g2) ⟨⟨q, rfl, g3⟩, hT.up g2⟩ (by rw [List.length_append, List.length_singleton]; omega) (by rw [slt_app]; simp only [List.length_replicate]; omega)
    | [], h => exact h.elim

set_option maxRecDepth 4000 in
theorem s_NwR (C : CX p R s m args meth c A H0 M) {pc : Nat} {al st : List AV} {h : AH} {x : SR} {idx : Nat} (hd : decode (mC M) pc = .ok (.anewarray idx, 3)) (hst : hNwr M idx pc al st h = some x) (hbd : ∀ pc' al' st' h', x = Sum.inl (pc', al', st', h') → h'.length ≤ n0 + R.cells ∧ slt h' ≤ m0 + R.slots) (hk : ∀ pc' al' st' h', x = Sum.inl (pc', al', st', h') → WX p l e R s m args below meth c Q D A H0 N0 n0 m0 M pc' al' st' h') : WX p l e R s m args below meth c Q D A H0 N0 n0 m0 M pc al st h := by
  obtain ⟨hx, hb, hml, hrt, hown, hts, hlo, hnm, hkn, hRf, hRl, hA⟩ := C
  unfold hNwr at hst
  cases hn : lk aLst (mK M) idx with
  | none => rw [hn] at hst; cases hst
  | some t =>
    rw [hn] at hst
    obtain ⟨ht1, ht2, hw1⟩ := aLst_ok _ (lk_mem hn)
    simp only at ht1 ht2 hw1 hst
    match st, hst with
    | Sum.inl n :: st', hst =>
      simp only at hst
      obtain ⟨⟨hn0, hn1⟩, hst⟩ := ite_of hst
      have kk := s_go hst hk
      obtain ⟨hb1, hb2⟩ := hbd _ _ _ _ (Option.some.inj hst).symm
      rw [List.length_append, List.length_singleton] at hb1
      rw [slt_app] at hb2
      simp only [List.length_replicate] at hb2
      have hover : va_AO (arrN t) s := by
        match t, ht1, ht2 with
        | 12, _, _ => exact hkn.2.2.1
        | 13, _, _ => exact hkn.2.2.2.1
        | 14, _, _ => exact hkn.2.2.2.2
      intro tys ws H locs cells slots ls rst hK hh hpx hP hD hS hl hs hc1 hc2
      match rst, hs with
      | Y :: T, ⟨⟨y, hy, ey⟩, hT⟩ =>
        subst hy; subst ey
        refine va_newq (C := arrN t) (N' := y.toInt.toNat) hx hb hown (hts _ hw1) hover hK hP hD hS hA (by rw [Int32.lt_iff_toInt_lt]; show ¬ y.toInt < 0; omega) (cl_nat y) (by omega) (by omega) (by omega) hd (fun q cA H1 hK1 hP1 hD1 hS1 => ?_)
        obtain ⟨g1, g2, g3⟩ := hr_new (tys' := tys ++ [(cA, .object (arrN t))]) (q := q) (e := .inl (cA, y.toInt.toNat, .inr (.inr (.inr (.inr (fun _ => none)))))) (c := (t, List.replicate y.toInt.toNat (aR none))) hh ty_app ⟨by simp, by show y.toInt.toNat < 2147483648; omega, ht1, ht2, ty_new, fun j hj => by
          have hj : j < y.toInt.toNat := hj
          exact ⟨none, by simp only [List.getElem?_replicate, if_pos hj], rfl⟩⟩
        exact kk _ _ H1 locs (cells + 1) (slots + y.toInt.toNat) ls _ hK1 g1 (hpx.tr g2) hP1 hD1 hS1 (hl.up g2) ⟨⟨q, rfl, g3⟩, hT.up g2⟩ (by rw [List.length_append, List.length_singleton]; omega) (by rw [slt_app]; simp only [List.length_replicate]; omega)
      | [], h => exact h.elim

end SND2
