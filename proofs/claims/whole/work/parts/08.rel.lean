
/-! ===== what the number machine answers, the machine answers ===== -/
def nu (ws : va_W) : List Nat := ws.map Prod.fst
def vr (N : List Nat) (v : AV) (V : Value) : Prop := match v with
  | Sum.inl z => ∃ x : Int32, V = .int x ∧ z = x.toInt
  | Sum.inr (Sum.inl z) => ∃ x : Int64, V = .long x ∧ z = x.toInt
  | Sum.inr (Sum.inr (Sum.inl none)) => V = .null
  | Sum.inr (Sum.inr (Sum.inl (some k))) => ∃ a : Nat, V = .ref a ∧ N[k]? = some a
  | Sum.inr (Sum.inr (Sum.inr _)) => True
def sr (N : List Nat) : List AV → List Value → Prop
  | [], [] => True
  | v :: t, V :: T => vr N v V ∧ sr N t T
  | _, _ => False
def ovr (N : List Nat) (v : Option AV) (V : Option Value) : Prop := match v with
  | none => V = none
  | some w => ∃ U, V = some U ∧ vr N w U
def cr (tys : List (ClassId × FieldType)) (N : List Nat) (c : AC) (e : va_E) : Prop := match e with
  | .inr o => c.1 = o.1 ∧ o.1 < 6 ∧ c.2.length = clsF o.1 ∧ sr N c.2 o.2
  | .inl a => a.2.1 = c.2.length ∧ a.2.1 < 2147483648 ∧ (match a.2.2 with
    | .inl f => c.1 = 10 ∧ (∃ t : Nat, tys[t]? = some (a.1, .int)) ∧ ∀ j, j < a.2.1 → c.2[j]? = some (aI (f j).toInt)
    | .inr (.inl f) => c.1 = 11 ∧ (∃ t : Nat, tys[t]? = some (a.1, .long)) ∧ ∀ j, j < a.2.1 → c.2[j]? = some (aJ (f j).toInt)
    | .inr (.inr (.inr (.inr f))) => 12 ≤ c.1 ∧ c.1 ≤ 14 ∧ (∃ t : Nat, tys[t]? = some (a.1, .object (arrN c.1))) ∧ ∀ j, j < a.2.1 → ∃ r, c.2[j]? = some (aR r) ∧ vr N (aR r) (va_rf (f j))
    | _ => False)
def hr (tys : List (ClassId × FieldType)) (ws : va_W) (h : AH) : Prop := ws.length = h.length ∧ ∀ (k : Nat) (c : AC) (q : Nat × va_E), h[k]? = some c → ws[k]? = some q → cr tys (nu ws) c q.2
def slt (h : AH) : Nat := (h.map fun c => c.2.length).sum
def lr (N : List Nat) (nL : Nat) (al : List AV) (ls : Array Slot) : Prop := al.length = nL ∧ ∃ l, lv_has ls nL l ∧ ∀ (i : Nat) (v : AV), al[i]? = some v → v = aU ∨ ∃ V, (i, V) ∈ l ∧ vr N v V
def KN (U : State) : Prop := (∀ w ∈ nwF, va_Nw w U) ∧ (∀ w ∈ nwM, va_Nw w U) ∧ va_AO RX1 U ∧ va_AO RX3 U ∧ va_AO RX0 U
-- prefixes
def px (N N1 : List Nat) : Prop := ∃ t, N1 = N ++ t
theorem px.rf {N : List Nat} : px N N := ⟨[], by simp⟩
theorem px.tr {N N1 N2 : List Nat} (h : px N N1) (h1 : px N1 N2) : px N N2 := by
  obtain ⟨t, rfl⟩ := h
  obtain ⟨u, rfl⟩ := h1
  exact ⟨t ++ u, by simp⟩
theorem px.at {N N1 : List Nat} (h : px N N1) {k a : Nat} (q : N[k]? = some a) : N1[k]? = some a := by
  obtain ⟨t, rfl⟩ := h
  have := (List.getElem?_eq_some_iff.mp q).1
  rw [List.getElem?_append_left this]
  exact q
theorem vr.up {N N1 : List Nat} (hp : px N N1) {v : AV} {V : Value} (h : vr N v V) : vr N1 v V := by
  match v, h with
  | Sum.inl z, h => exact h
  | Sum.inr (Sum.inl z), h => exact h
  | Sum.inr (Sum.inr (Sum.inl none)), h => exact h
  | Sum.inr (Sum.inr (Sum.inl (some k))), h =>
    obtain ⟨a, h1, h2⟩ := h
    exact ⟨a, h1, hp.at h2⟩
  | Sum.inr (Sum.inr (Sum.inr _)), _ => exact trivial
theorem sr.up {N N1 : List Nat} (hp : px N N1) : ∀ {st : List AV} {T : List Value}, sr N st T → sr N1 st T
  | [], [], h => h
  | _ :: _, _ :: _, h => ⟨h.1.up hp, sr.up hp h.2⟩
  | [], _ :: _, h => h.elim
  | _ :: _, [], h => h.elim
theorem lr.up {N N1 : List Nat} (hp : px N N1) {nL : Nat} {al : List AV} {ls : Array Slot} (h : lr N nL al ls) : lr N1 nL al ls := by
  obtain ⟨h1, l, h2, h3⟩ := h
  refine ⟨h1, l, h2, fun i v q => ?_⟩
  rcases h3 i v q with h | ⟨V, h4, h5⟩
  · exact Or.inl h
  · exact Or.inr ⟨V, h4, h5.up hp⟩
theorem cr.up {tys tys1 : List (ClassId × FieldType)} {N N1 : List Nat} (hp : px N N1) (ht : ∀ (t : Nat) q, tys[t]? = some q → ∃ u : Nat, tys1[u]? = some q) {c : AC} {e : va_E} (h : cr tys N c e) : cr tys1 N1 c e := by
  match e, h with
  | .inr o, h => exact ⟨h.1, h.2.1, h.2.2.1, h.2.2.2.up hp⟩
  | .inl (cA, n, .inl f), h =>
    obtain ⟨h1, h2, h3, ⟨t, h4⟩, h5⟩ := h
    exact ⟨h1, h2, h3, ht t _ h4, h5⟩
  | .inl (cA, n, .inr (.inl f)), h =>
    obtain ⟨h1, h2, h3, ⟨t, h4⟩, h5⟩ := h
    exact ⟨h1, h2, h3, ht t _ h4, h5⟩
  | .inl (cA, n, .inr (.inr (.inr (.inr f)))), h =>
    obtain ⟨h1, h2, h3, h3', ⟨t, h4⟩, h5⟩ := h
    refine ⟨h1, h2, h3, h3', ht t _ h4, fun j hj => ?_⟩
    obtain ⟨r, h6, h7⟩ := h5 j hj
    exact ⟨r, h6, h7.up hp⟩
theorem sr.len {N : List Nat} : ∀ {st : List AV} {T : List Value}, sr N st T → st.length = T.length
  | [], [], _ => rfl
  | _ :: _, _ :: _, h => congrArg (· + 1) (sr.len h.2)
  | [], _ :: _, h => h.elim
  | _ :: _, [], h => h.elim
theorem sr.app {N : List Nat} : ∀ {a b : List AV} {A B : List Value}, sr N a A → sr N b B → sr N (a ++ b) (A ++ B)
  | [], _, [], _, _, h => h
  | _ :: _, _, _ :: _, _, h, h1 => ⟨h.1, sr.app h.2 h1⟩
  | [], _, _ :: _, _, h, _ => h.elim
  | _ :: _, _, [], _, h, _ => h.elim
theorem sr.take {N : List Nat} : ∀ {a : List AV} {A : List Value} (n : Nat), sr N a A → sr N (a.take n) (A.take n)
  | [], [], n, _ => by simp [sr]
  | _ :: _, _ :: _, 0, _ => by simp [sr]
  | _ :: _, _ :: _, n + 1, h => ⟨h.1, sr.take n h.2⟩
  | [], _ :: _, _, h => h.elim
  | _ :: _, [], _, h => h.elim
theorem sr.drop {N : List Nat} : ∀ {a : List AV} {A : List Value} (n : Nat), sr N a A → sr N (a.drop n) (A.drop n)
  | [], [], n, _ => by simp [sr]
  | _ :: _, _ :: _, 0, h => h
  | _ :: _, _ :: _, n + 1, h => by simpa using sr.drop n h.2
  | [], _ :: _, _, h => h.elim
  | _ :: _, [], _, h => h.elim
theorem sr.rev {N : List Nat} : ∀ {a : List AV} {A : List Value}, sr N a A → sr N a.reverse A.reverse
  | [], [], _ => by simp [sr]
  | _ :: _, _ :: _, h => by
    rw [List.reverse_cons, List.reverse_cons]
    exact sr.app (sr.rev h.2) ⟨h.1, trivial⟩
  | [], _ :: _, h => h.elim
  | _ :: _, [], h => h.elim
theorem sr.at {N : List Nat} : ∀ {a : List AV} {A : List Value} {k : Nat} {v : AV}, sr N a A → a[k]? = some v → ∃ V, A[k]? = some V ∧ vr N v V
  | _ :: _, V :: _, 0, _, h, q => by
    rw [List.getElem?_cons_zero] at q
    cases q
    exact ⟨V, rfl, h.1⟩
  | _ :: _, _ :: _, k + 1, _, h, q => by
    rw [List.getElem?_cons_succ] at q
    obtain ⟨V, h1, h2⟩ := sr.at h.2 q
    exact ⟨V, by rw [List.getElem?_cons_succ]; exact h1, h2⟩
  | [], _, k, _, _, q => by simp at q
  | _ :: _, [], _, _, h, _ => h.elim
theorem sr.set {N : List Nat} : ∀ {a : List AV} {A : List Value} (k : Nat) {v : AV} {V : Value}, sr N a A → vr N v V → sr N (a.set k v) (A.set k V)
  | [], [], k, _, _, _, _ => by simp [sr]
  | _ :: _, _ :: _, 0, _, _, h, q => ⟨q, h.2⟩
  | _ :: _, _ :: _, k + 1, _, _, h, q => ⟨h.1, sr.set k h.2 q⟩
  | [], _ :: _, _, _, _, h, _ => h.elim
  | _ :: _, [], _, _, _, h, _ => h.elim
theorem vr_cat {N : List Nat} {v : AV} {V : Value} (h : vr N v V) (hu : nU v = true) : (V.category = 2 ↔ ∃ z, v = aJ z) ∧ (V.category = 1 ↔ ¬ ∃ z, v = aJ z) := by
  match v, h with
  | Sum.inl z, ⟨x, h1, _⟩ => subst h1; simp [Value.category]
  | Sum.inr (Sum.inl z), ⟨x, h1, _⟩ => subst h1; simp [Value.category]
  | Sum.inr (Sum.inr (Sum.inl none)), h => cases h; simp [Value.category]
  | Sum.inr (Sum.inr (Sum.inl (some k))), ⟨a, h1, _⟩ => subst h1; simp [Value.category]
  | Sum.inr (Sum.inr (Sum.inr _)), _ => simp [nU] at hu
theorem cat_le (V : Value) : V.category ≤ 2 := by cases V <;> simp [Value.category]
theorem sr.wds {N : List Nat} : ∀ {a : List AV} {A : List Value}, sr N a A → (A.map fun v => v.category).sum ≤ wds a
  | [], [], _ => by simp
  | v :: t, V :: T, h => by
    have ih := sr.wds h.2
    rw [List.map_cons, List.sum_cons]
    match v, h.1 with
    | Sum.inl z, ⟨x, h1, _⟩ => subst h1; exact Nat.add_le_add (Nat.le_refl 1) ih
    | Sum.inr (Sum.inl z), ⟨x, h1, _⟩ => subst h1; exact Nat.add_le_add (Nat.le_refl 2) ih
    | Sum.inr (Sum.inr (Sum.inl none)), h => cases h; exact Nat.add_le_add (Nat.le_refl 1) ih
    | Sum.inr (Sum.inr (Sum.inl (some k))), ⟨a, h1, _⟩ => subst h1; exact Nat.add_le_add (Nat.le_refl 1) ih
    | Sum.inr (Sum.inr (Sum.inr _)), _ =>
      exact Nat.add_le_add (cat_le V) ih
  | [], _ :: _, h => h.elim
  | _ :: _, [], h => h.elim
theorem sto1_at : ∀ (al : List AV) (k : Nat) (v : AV) (i : Nat), (sto1 al k v)[i]? = if i = k then al[i]?.map (fun _ => v) else if i + 1 = k then al[i]?.map clr else al[i]?
  | [], k, v, i => by simp [sto1]
  | a :: t, 0, v, i => by
    rw [sto1]
    cases i with
    | zero => simp
    | succ i => simp
  | a :: t, 1, v, i => by
    rw [sto1]
    cases i with
    | zero => simp
    | succ i =>
      simp only [List.getElem?_cons_succ]
      by_cases h : i = 0
      · subst h
        cases t <;> simp
      · rw [List.getElem?_set_ne (Ne.symm h)]
        simp [h]
  | a :: t, k + 2, v, i => by
    rw [sto1]
    cases i with
    | zero => simp
    | succ i =>
      rw [List.getElem?_cons_succ, sto1_at t (k + 1) v i, List.getElem?_cons_succ]
      by_cases h1 : i = k + 1
      · rw [if_pos h1, if_pos (by omega)]
      · rw [if_neg h1, if_neg (show ¬ i + 1 = k + 2 by omega)]
        by_cases h2 : i + 1 = k + 1
        · rw [if_pos h2, if_pos (by omega)]
        · rw [if_neg h2, if_neg (by omega)]
theorem sto1_len : ∀ (al : List AV) (k : Nat) (v : AV), (sto1 al k v).length = al.length
  | [], _, _ => rfl
  | _ :: _, 0, _ => rfl
  | a :: t, 1, v => by rw [sto1]; simp
  | a :: t, k + 2, v => by rw [sto1]; simp [sto1_len t]
theorem clr_nU {v : AV} (h : clr v ≠ aU) : clr v = v ∧ ¬ ∃ z, v = aJ z := by
  match v, h with
  | Sum.inl z, _ => exact ⟨rfl, fun ⟨_, q⟩ => by cases q⟩
  | Sum.inr (Sum.inl z), h => exact absurd rfl h
  | Sum.inr (Sum.inr (Sum.inl r)), _ => exact ⟨rfl, fun ⟨_, q⟩ => by cases q⟩
  | Sum.inr (Sum.inr (Sum.inr _)), h => exact absurd rfl h
theorem nU_of {v : AV} (h : v ≠ aU) : nU v = true := by
  match v, h with
  | Sum.inl z, _ => rfl
  | Sum.inr (Sum.inl z), _ => rfl
  | Sum.inr (Sum.inr (Sum.inl r)), _ => rfl
  | Sum.inr (Sum.inr (Sum.inr _)), h => exact absurd rfl h
theorem lr.s1 {N : List Nat} {nL k : Nat} {al : List AV} {l : List (Nat × Value)} {v : AV} {V : Value} (h0 : al.length = nL) (h : ∀ (i : Nat) (v : AV), al[i]? = some v → v = aU ∨ ∃ V, (i, V) ∈ l ∧ vr N v V) (hk : k < al.length) (hv : vr N v V) {ls' : Array Slot} (h' : lv_has ls' nL ((k, V) :: l.filter (fun q => !(q.1 == k) && !(q.1 + 1 == k && q.2.category == 2)))) : lr N nL (sto1 al k v) ls' := by
  refine ⟨(sto1_len al k v).trans h0, _, h', fun i w hw => ?_⟩
  rw [sto1_at] at hw
  by_cases h1 : i = k
  · subst h1
    rw [if_pos rfl, List.getElem?_eq_getElem hk] at hw
    cases hw
    exact Or.inr ⟨V, List.mem_cons_self, hv⟩
  · rw [if_neg h1] at hw
    by_cases hu : w = aU
    · exact Or.inl hu
    · refine Or.inr ?_
      have key : al[i]? = some w ∧ (i + 1 = k → ¬ ∃ z, w = aJ z) := by
        by_cases h2 : i + 1 = k
        · rw [if_pos h2] at hw
          cases hx : al[i]? with
          | none => rw [hx] at hw; cases hw
          | some x =>
            rw [hx] at hw
            have hw : clr x = w := Option.some.inj hw
            have := clr_nU (v := x) (by rw [hw]; exact hu)
            rw [this.1] at hw
            subst hw
            exact ⟨rfl, fun _ => this.2⟩
        · rw [if_neg h2] at hw
          exact ⟨hw, fun q => absurd q h2⟩
      rcases h i w key.1 with q | ⟨U, hU, hV⟩
      · exact absurd q hu
      · refine ⟨U, List.mem_cons_of_mem _ (List.mem_filter.mpr ⟨hU, ?_⟩), hV⟩
        have hc := vr_cat hV (nU_of hu)
        simp only [Bool.and_eq_true, Bool.not_eq_true', beq_eq_false_iff_ne, ne_eq, Bool.and_eq_false_iff]
        refine ⟨h1, ?_⟩
        by_cases h2 : i + 1 = k
        · exact Or.inr fun q => key.2 h2 (hc.1.mp q)
        · exact Or.inl h2
theorem lr.s2 {N : List Nat} {nL k : Nat} {al : List AV} {l : List (Nat × Value)} {v : AV} {V : Value} (h0 : al.length = nL) (h : ∀ (i : Nat) (v : AV), al[i]? = some v → v = aU ∨ ∃ V, (i, V) ∈ l ∧ vr N v V) (hk : k + 1 < al.length) (hv : vr N v V) {ls' : Array Slot} (h' : lv_has ls' nL ((k, V) :: l.filter (fun q => !(q.1 == k) && (!(q.1 == k + 1) && !(q.1 + 1 == k && q.2.category == 2))))) : lr N nL (sto2 al k v) ls' := by
  refine ⟨by rw [sto2, List.length_set]; exact (sto1_len al k v).trans h0, _, h', fun i w hw => ?_⟩
  by_cases h3 : i = k + 1
  · subst h3
    rw [sto2, List.getElem?_set_self (by rw [sto1_len]; exact hk)] at hw
    cases hw
    exact Or.inl rfl
  · rw [sto2, List.getElem?_set_ne (Ne.symm h3), sto1_at] at hw
    by_cases h1 : i = k
    · subst h1
      rw [if_pos rfl, List.getElem?_eq_getElem (by omega)] at hw
      cases hw
      exact Or.inr ⟨V, List.mem_cons_self, hv⟩
    · rw [if_neg h1] at hw
      by_cases hu : w = aU
      · exact Or.inl hu
      · refine Or.inr ?_
        have key : al[i]? = some w ∧ (i + 1 = k → ¬ ∃ z, w = aJ z) := by
          by_cases h2 : i + 1 = k
          · rw [if_pos h2] at hw
            cases hx : al[i]? with
            | none => rw [hx] at hw; cases hw
            | some x =>
              rw [hx] at hw
              have hw : clr x = w := Option.some.inj hw
              have := clr_nU (v := x) (by rw [hw]; exact hu)
              rw [this.1] at hw
              subst hw
              exact ⟨rfl, fun _ => this.2⟩
          · rw [if_neg h2] at hw
            exact ⟨hw, fun q => absurd q h2⟩
        rcases h i w key.1 with q | ⟨U, hU, hV⟩
        · exact absurd q hu
        · refine ⟨U, List.mem_cons_of_mem _ (List.mem_filter.mpr ⟨hU, ?_⟩), hV⟩
          have hc := vr_cat hV (nU_of hu)
          simp only [Bool.and_eq_true, Bool.not_eq_true', beq_eq_false_iff_ne, ne_eq, Bool.and_eq_false_iff]
          refine ⟨h1, h3, ?_⟩
          by_cases h2 : i + 1 = k
          · exact Or.inr fun q => key.2 h2 (hc.1.mp q)
          · exact Or.inl h2
theorem lr.ld {N : List Nat} {nL k : Nat} {al : List AV} {ls : Array Slot} {v : AV} (h : lr N nL al ls) (hv : al[k]? = some v) (hu : v ≠ aU) : ∃ V, ls[k]? = some (.val V) ∧ vr N v V := by
  obtain ⟨h0, l, h1, h2⟩ := h
  rcases h2 k v hv with q | ⟨V, q1, q2⟩
  · exact absurd q hu
  · exact ⟨V, h1.2.2 (k, V) q1, q2⟩
theorem esl_len {N : List Nat} : ∀ {as : List AV} {A : List Value}, sr N as A → as.all nU = true → (esl as).length = (lg_sl A).length
  | [], [], _, _ => rfl
  | v :: t, V :: T, h, hu => by
    simp only [List.all_cons, Bool.and_eq_true] at hu
    have ih := esl_len h.2 hu.2
    have e : lg_sl (V :: T) = (if V.category = 2 then [Slot.val V, .second] else [.val V]) ++ lg_sl T := rfl
    rw [e, List.length_append]
    match v, h.1 with
    | Sum.inl z, ⟨x, h1, _⟩ => subst h1; simp only [esl, List.length_cons, ih, Value.category]; simp; omega
    | Sum.inr (Sum.inl z), ⟨x, h1, _⟩ => subst h1; simp only [esl, List.length_cons, ih, Value.category]; simp; omega
    | Sum.inr (Sum.inr (Sum.inl none)), h => cases h; simp only [esl, List.length_cons, ih, Value.category]; simp; omega
    | Sum.inr (Sum.inr (Sum.inl (some k))), ⟨a, h1, _⟩ => subst h1; simp only [esl, List.length_cons, ih, Value.category]; simp; omega
    | Sum.inr (Sum.inr (Sum.inr _)), _ => simp [nU] at hu
  | [], _ :: _, h, _ => h.elim
  | _ :: _, [], h, _ => h.elim
theorem esl_at {N : List Nat} : ∀ {as : List AV} {A : List Value} (i0 : Nat), sr N as A → as.all nU = true → ∀ (i : Nat) (v : AV), (esl as)[i]? = some v → v = aU ∨ ∃ V, (i0 + i, V) ∈ lv_args i0 A ∧ vr N v V
  | [], [], _, _, _, i, v, q => by simp [esl] at q
  | w :: t, W :: T, i0, h, hu, i, v, q => by
    simp only [List.all_cons, Bool.and_eq_true] at hu
    have one : ∀ (x : AV), (¬ W.category = 2) → vr N x W → (x :: esl t)[i]? = some v → v = aU ∨ ∃ V, (i0 + i, V) ∈ lv_args i0 (W :: T) ∧ vr N v V := by
      intro x hc hx q
      rw [lv_args, if_neg hc]
      cases i with
      | zero =>
        rw [List.getElem?_cons_zero] at q
        cases q
        exact Or.inr ⟨W, List.mem_cons_self, hx⟩
      | succ i =>
        rw [List.getElem?_cons_succ] at q
        rcases esl_at (i0 + 1) h.2 hu.2 i v q with z | ⟨V, z1, z2⟩
        · exact Or.inl z
        · exact Or.inr ⟨V, List.mem_cons_of_mem _ (by rw [show i0 + (i + 1) = i0 + 1 + i by omega]; exact z1), z2⟩
    match w, h.1, q with
    | Sum.inl z, h1, q =>
      refine one _ ?_ h1 q
      obtain ⟨x, h2, _⟩ := h1
      subst h2; simp [Value.category]
    | Sum.inr (Sum.inl z), h1, q =>
      have h9 := h1
      obtain ⟨x, h2, _⟩ := h1
      have hc : W.category = 2 := by subst h2; rfl
      rw [lv_args, if_pos hc]
      rw [esl] at q
      match i, q with
      | 0, q =>
        rw [List.getElem?_cons_zero] at q
        cases q
        exact Or.inr ⟨W, List.mem_cons_self, h9⟩
      | 1, q =>
        rw [List.getElem?_cons_succ, List.getElem?_cons_zero] at q
        cases q
        exact Or.inl rfl
      | i + 2, q =>
        rw [List.getElem?_cons_succ, List.getElem?_cons_succ] at q
        rcases esl_at (i0 + 2) h.2 hu.2 i v q with z | ⟨V, z1, z2⟩
        · exact Or.inl z
        · exact Or.inr ⟨V, List.mem_cons_of_mem _ (by rw [show i0 + (i + 2) = i0 + 2 + i by omega]; exact z1), z2⟩
    | Sum.inr (Sum.inr (Sum.inl none)), h1, q =>
      refine one _ ?_ h1 q
      cases h1; simp [Value.category]
    | Sum.inr (Sum.inr (Sum.inl (some k))), h1, q =>
      refine one _ ?_ h1 q
      obtain ⟨x, h2, _⟩ := h1
      subst h2; simp [Value.category]
    | Sum.inr (Sum.inr (Sum.inr _)), _, _ => simp [nU] at hu
  | [], _ :: _, _, h, _, _, _, _ => h.elim
  | _ :: _, [], _, h, _, _, _, _ => h.elim
theorem lr.entry {N : List Nat} {M : MI} {as : List AV} {A : List Value} (h : sr N as A) (hu : as.all nU = true) (hl : (esl as).length ≤ mL M) : (lg_sl A).length ≤ mL M ∧ lr N (mL M) (ent M as) ((lg_sl A ++ List.replicate (mL M - (lg_sl A).length) Slot.unset).toArray) := by
  have e := esl_len h hu
  have hA : (lg_sl A).length ≤ mL M := by rw [← e]; exact hl
  refine ⟨hA, ?_, _, lv_entry A hA, fun i v q => ?_⟩
  · rw [ent, List.length_append, List.length_replicate]; omega
  · rw [ent] at q
    by_cases hi : i < (esl as).length
    · rw [List.getElem?_append_left hi] at q
      rcases esl_at 0 h hu i v q with z | ⟨V, z1, z2⟩
      · exact Or.inl z
      · exact Or.inr ⟨V, by rw [Nat.zero_add] at z1; exact z1, z2⟩
    · rw [List.getElem?_append_right (by omega), List.getElem?_replicate] at q
      split at q
      · cases q; exact Or.inl rfl
      · cases q
theorem KN.call {U : State} {g : JFrame} {mk : MethodId} {a : Array Value} (h : KN U) : KN (U.calling g mk a) := by
  obtain ⟨h1, h2, h3, h4, h5⟩ := h
  refine ⟨fun w hw => ?_, fun w hw => ?_, va_AO.moved (Vm.Alike.refl U.vm) h3, va_AO.moved (Vm.Alike.refl U.vm) h4, va_AO.moved (Vm.Alike.refl U.vm) h5⟩
  · have := h1 w hw
    simp only [nwF, List.mem_cons, List.not_mem_nil, or_false] at hw
    rcases hw with rfl | rfl | rfl | rfl | rfl | rfl | rfl | rfl | rfl | rfl | rfl | rfl <;> exact va_Nw.same rfl rfl this
  · have := h2 w hw
    simp only [nwM, List.mem_cons, List.not_mem_nil, or_false] at hw
    rcases hw with rfl | rfl | rfl | rfl <;> exact va_Nw.same rfl rfl this
theorem KN.warm {s U : State} (hW : s.WarmedH U.vm) (h : KN s) : KN U := by
  obtain ⟨h1, h2, h3, h4, h5⟩ := h
  refine ⟨fun w hw => ?_, fun w hw => ?_, va_AO.moved hW.alike h3, va_AO.moved hW.alike h4, va_AO.moved hW.alike h5⟩
  · have := h1 w hw
    simp only [nwF, List.mem_cons, List.not_mem_nil, or_false] at hw
    rcases hw with rfl | rfl | rfl | rfl | rfl | rfl | rfl | rfl | rfl | rfl | rfl | rfl <;> exact va_Nw.warmF hW this
  · have := h2 w hw
    simp only [nwM, List.mem_cons, List.not_mem_nil, or_false] at hw
    rcases hw with rfl | rfl | rfl | rfl <;> exact va_Nw.warmM hW this
