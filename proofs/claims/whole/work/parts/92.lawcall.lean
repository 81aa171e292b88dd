def R_law : String := "TinkerTrialsLaw"
def lw_P (b : Addr) (xs : List Int32) (args : Array Value) (s : State) : Prop := args = #[.ref b] ∧ s.IntsAt b xs ∧ xs.length ≤ 3072 ∧ (Jvm.Cond.and given_1 narrow_1).before args s = true
def lw_Q (_ : Array Value) (s : State) (o : Outcome) (t : State) : Prop := o = .returned (some (.int 1)) ∧ Framed s o t [] room_1.cells room_1.slots
def lw_Z (below : List Frame) (a : Array Value) (s : State) : State → Prop := fun t => ∃ o, t.status = .running ∧ Ended t below o ∧ lw_Q a s o t
/-- the law's own end, with 1 on the stack, nothing written that was there before, its room as the claim has it -/
theorem lw_ret {p : Program} {l : Launch} {e : Env} {s : State} {m : MethodId} {below : List Frame} {meth : Method} {c : Code} {b : Nat} (hx : p.tables.exec = Jvm.exec) (hb : c.code = code) (hr : meth.sig.returnType = ret) (hlocks : meth.locks = false) {pc : Nat} {H : Heap} {ls : Array Slot} (hdg : decode code pc = .ok (.ireturn, 1)) : W p l e room_1 s m #[Value.ref b] below meth c H [] room_1.cells room_1.slots (lw_Z below #[Value.ref b] s) (F0 m pc ls [.int 1]) := by
  intro T hT X
  obtain ⟨fs, hret, hrun, hended, hW, hframe⟩ := X.leave (v := some (.int 1)) (hlocks := hlocks) (fun h => by rw [hr] at h; cases h)
  have hmeth' : T.vm.method? m = some meth := X.method'
  refine ⟨T.setFrames fs, ?_, .returned (some (.int 1)), hrun, hended, rfl, ⟨_, rfl⟩, hW, hframe⟩
  jvm_step X.here [X.here.top, hx, hb, hdg, hmeth', hr, ret, narrow_b1]
  (try refine ⟨rfl, ?_⟩); (try refine ⟨rfl, ?_⟩)
  first | (intro acts; rw [hret _ acts rfl rfl rfl]) | rw [hret _ _ rfl rfl rfl]
  exact Steps.refl _
/-- what holds at the law's entry: the machine, the code, the tables' words (any of lw_tbl by 'hts w (by decide +kernel)'), the script of L ints xs at the cell b, what the Statement gives of the start (any of its parts by flat_of_before) -/
def lw_At (p : Program) (s : State) (m : MethodId) (meth : Method) (c : Code) (b L : Nat) (xs : Nat → Int32) : Prop :=
  p.tables.exec = Jvm.exec ∧ c.code = code ∧ meth.sig.returnType = ret ∧ c.maxLocals = 4 ∧ s.vm.findClass R_law = some m.cls ∧ (∀ w ∈ lw_tbl, w.before #[Value.ref b] s = true) ∧ va_X b L xs s s.heap ∧ b < s.heap.size ∧ meth.locks = false ∧ (Jvm.Cond.and given_1 narrow_1).before #[Value.ref b] s = true
/-- the room of the claim, by its own name: a run makes at most 50 + 32 * 512 cells of 4000 + 200 * 512 slots -/
theorem lw_cells : 20000 ≤ room_1.cells := Nat.le_of_ble_eq_true rfl
theorem lw_slots : 110000 ≤ room_1.slots := Nat.le_of_ble_eq_true rfl

/-! ===== a call of the law's ===== -/
section LCAL
variable {p : Program} {l : Launch} {e : Env} {R : Room} {s : State} {m : MethodId} {args : Array Value} {below : List Frame} {meth : Method} {c : Code} {Q : State → Prop} {D : va_G} {A : Nat → Prop} {H0 : Heap}
theorem am_call2 {H : Heap} {locs : List Loc} {cells slots mc ms pc : Nat} {ls : Array Slot} {st0 rest : List Value} {ws : va_W} {v : Option AV} {h2 : AH} {a : Array Value} (hrun : va_Run p l e R s m args below meth c H locs cells slots mc ms (F0 m pc ls st0) rest (QX D ws H.size v h2 a) (va_A ws H.size)) (hS : va_S A H0 H locs) (hAw : ∀ q, va_A ws H.size q → A q)
    (kk : ∀ (rv : Option Value) (tys' : List (ClassId × FieldType)) (ws' : va_W) (H1 : Heap) (locs1 : List Loc), ovr (nu ws') v rv → hr tys' ws' h2 → px (nu ws) (nu ws') → va_P D vwA ws' H1 → va_K D vwA tys' s → va_D (va_A ws H.size) ws' → (∀ q : Nat, q < H.size → ¬ va_A ws H.size q → H1[q]? = H[q]?) → va_S A H0 H1 locs1 → W p l e R s m args below meth c H1 locs1 (cells + mc) (slots + ms) Q (F0 m (pc + 3) ls (rv.toList ++ rest))) : W p l e R s m args below meth c H locs cells slots Q (F0 m pc ls st0) := by
  intro T hT X0
  obtain ⟨w, st₀, t, T', L, h0, X', hL, e1, e2, ⟨⟨rv, tys', ws', hv, g1, g2, g3, g4, g5, g6⟩, hz, hk⟩, st⟩ := hrun T hT X0
  cases hv
  rw [h0] at hz hk
  have hvm : s.vm.Alike t.vm := by rw [← e2]; exact X'.warmed.alike
  obtain ⟨t2, a1, b1⟩ := kk w tys' ws' T'.heap (locs ++ L) g1 g2 g3 (by rw [e1]; exact g4) (va_K.moved hvm.symm g5) g6 (fun q h1 h2 => by rw [e1]; exact hk q h1 h2)
    ⟨Nat.le_trans hS.1 (by rw [e1]; exact hz), fun q h1 h2 => by rw [e1, hk q (Nat.lt_of_lt_of_le h1 hS.1) (fun z => h2 (hAw q z))]; exact hS.2.1 q h1 h2, fun q hq => by
      rcases List.mem_append.mp hq with h | h
      · exact hS.2.2 q h
      · exact hAw _ (hL q h)⟩ T' rfl X'
  exact ⟨t2, st t2 a1, b1⟩
end LCAL
/-- a world: its cells, where they lie -/
def QW (D : va_G) (s : State) (H : Heap) (ws : va_W) (h : AH) (a : Nat) : Prop := ∃ tys, hr tys ws h ∧ va_P D vwA ws H ∧ va_K D vwA tys s ∧ va_D (fun q : Nat => s.heap.size ≤ q) ws ∧ (nu ws)[0]? = some a
def DJ (N1 N2 : List Nat) : Prop := ∀ (i j : Nat) (x y : Nat), N1[i]? = some x → N2[j]? = some y → ¬ x = y
theorem DJ.sy {N1 N2 : List Nat} (h : DJ N1 N2) : DJ N2 N1 := fun i j x y a b z => h j i y x b a z.symm
theorem va_lt {D : va_G} {ws : va_W} {H : Heap} (hP : va_P D vwA ws H) {k : Nat} {q : Nat × va_E} (h : ws[k]? = some q) : q.1 < H.size := by
  have z := hP k q h
  obtain ⟨a, e⟩ := q
  match e, z with
  | .inl x, z => exact (Array.getElem?_eq_some_iff.mp (show H[a]? = some _ from z)).1
  | .inr o, ⟨r, _, k1, g1, _⟩ => exact (Array.getElem?_eq_some_iff.mp g1).1
theorem nu_ex {ws : va_W} {k : Nat} {x : Nat} (h : (nu ws)[k]? = some x) : ∃ e, ws[k]? = some (x, e) := by
  unfold nu at h
  rw [List.getElem?_map] at h
  cases q : ws[k]? with
  | none => rw [q] at h; cases h
  | some y =>
    rw [q] at h
    cases h
    exact ⟨y.2, rfl⟩
theorem nu_la {ws : va_W} {k : Nat} {q : Nat × va_E} (h : ws[k]? = some q) : (nu ws)[k]? = some q.1 := by
  unfold nu
  rw [List.getElem?_map, h]
  rfl
/-- the other world stays, and apart -/
theorem QW.keep {D : va_G} {s : State} {H H1 : Heap} {ws wo ws' : va_W} {ho : AH} {ao : Nat} (W2 : QW D s H wo ho ao) (dj : DJ (nu ws) (nu wo)) (hk : ∀ q : Nat, q < H.size → ¬ va_A ws H.size q → H1[q]? = H[q]?) (hD : va_D (va_A ws H.size) ws') : QW D s H1 wo ho ao ∧ DJ (nu ws') (nu wo) := by
  obtain ⟨tys, g1, g2, g3, g4, g5⟩ := W2
  have key : ∀ (k : Nat) (q : Nat × va_E), wo[k]? = some q → q.1 < H.size ∧ ¬ va_A ws H.size q.1 := by
    intro k q hq
    have hl := va_lt g2 hq
    refine ⟨hl, fun z => ?_⟩
    rcases z with ⟨i, e, z⟩ | z
    · exact dj i k _ _ (nu_la z) (nu_la hq) rfl
    · omega
  refine ⟨⟨tys, g1, g2.kept fun k q hq => hk q.1 (key k q hq).1 (key k q hq).2, g3, g4, g5⟩, fun i j x y hx hy z => ?_⟩
  obtain ⟨e1, h1⟩ := nu_ex hx
  obtain ⟨e2, h2⟩ := nu_ex hy
  subst z
  exact (key j (x, e2) h2).2 (show va_A ws H.size x from hD.2 i (x, e1) h1)
theorem KN.ofL {args : Array Value} {s : State} (hts : ∀ w ∈ lw_tbl, w.before args s = true) : KN s := by
  have mf : ∀ {is : List Nat} {ws : List Cond}, ws = is.filterMap (fun i => lw_tbl[i]?) → ∀ w ∈ ws, w ∈ lw_tbl := fun {is ws} q w hw => by
    rw [q, List.mem_filterMap] at hw
    obtain ⟨i, _, h⟩ := hw
    exact List.mem_of_getElem? h
  have a3 := mf arO_in
  refine ⟨fun w hw => ?_, fun w hw => ?_, va_AO.of (hts _ (a3 _ List.mem_cons_self)), va_AO.of (hts _ (a3 _ (List.mem_cons_of_mem _ List.mem_cons_self))), va_AO.of (hts _ (a3 _ (List.mem_cons_of_mem _ (List.mem_cons_of_mem _ List.mem_cons_self))))⟩
  · have h := hts w (mf nwF_in w hw)
    simp only [nwF, List.mem_cons, List.not_mem_nil, or_false] at hw
    rcases hw with rfl | rfl | rfl | rfl | rfl | rfl | rfl | rfl | rfl | rfl | rfl | rfl <;> exact va_Nw.of rfl h
  · have h := hts w (mf nwM_in w hw)
    simp only [nwM, List.mem_cons, List.not_mem_nil, or_false] at hw
    rcases hw with rfl | rfl | rfl | rfl <;> exact va_Nw.of rfl h
section LCAL2
variable {p : Program} {l : Launch} {e : Env} {s : State} {m : MethodId} {below : List Frame} {meth : Method} {c : Code} {Q : State → Prop} {D : va_G} {b L : Nat} {xs : Nat → Int32}
theorem L_cal (C0 : lw_At p s m meth c b L xs) {M : MI} {idx : Nat} (ok : okL M idx) {as : List AV} {As : List Value} {v : AV} {h h2 : AH} (q : E M (aR (some 0) :: as) h = some (some v, h2)) (hg : grow h h2) (hO : isO h (mK M) 0 = true) (hsr : ∀ N, sr N as As) (hu : as.all nU = true) (hlen : (esl (aR (some 0) :: as)).length ≤ mL M) (hn : As.length + 1 = mN M) {ws wo : va_W} {ho : AH} {a ao : Nat} {H : Heap} {locs : List Loc} {cells slots pc : Nat} {ls : Array Slot} {rest : List Value} (W1 : QW D s H ws h a) (W2 : QW D s H wo ho ao) (dj : DJ (nu ws) (nu wo)) (hS : va_S (fun q : Nat => s.heap.size ≤ q) s.heap H locs) (hls : ls.size = 4) (hrest : (rest.map fun v => v.category).sum ≤ 8) (hd : decode code pc = .ok (.invokevirtual idx, 3)) (hc1 : cells + 16 ≤ room_1.cells) (hc2 : slots + 100 ≤ room_1.slots)
    (kk : ∀ (V : Value) (ws' : va_W) (H1 : Heap) (locs1 : List Loc), vr (nu ws') v V → QW D s H1 ws' h2 a → QW D s H1 wo ho ao → DJ (nu ws') (nu wo) → va_S (fun q : Nat => s.heap.size ≤ q) s.heap H1 locs1 → W p l e room_1 s m #[Value.ref b] below meth c H1 locs1 (cells + 16) (slots + 100) Q (F0 m (pc + 3) ls (V :: rest))) : W p l e room_1 s m #[Value.ref b] below meth c H locs cells slots Q (F0 m pc ls (As.reverse ++ .ref a :: rest)) := by
  obtain ⟨hx, hb, hr0, hml, hown, hts, hX, hbl, hlocks, hgv⟩ := id C0
  obtain ⟨hoM, o1, o2, o3, o4, o5, o6, o7⟩ := ok
  obtain ⟨m1, m2, m3, m4, m5⟩ := id hoM
  have hwA : ∀ w ∈ wAll, w ∈ lw_tbl := fun w hw => (List.mem_filter.mp hw).1
  have hkn : KN s := KN.ofL hts
  obtain ⟨tys, hh, hP, hK, hD, ha⟩ := id W1
  have hsA : sr (nu ws) (aR (some 0) :: as) (.ref a :: As) := ⟨⟨a, rfl, ha⟩, hsr _⟩
  have hMet := snd_E l D q hoM hu hlen tys ws _ H.size 16 100 hh hsA hg.1 hg.2
  have hwU : ∀ w ∈ wsM M, ∀ (a' : Array Value) (U : State), s.WarmedH U.vm → w.before a' U = true := by
    intro w hw a' U hW
    have hw : w ∈ wAll := by
      rcases List.mem_cons.mp hw with rfl | hw
      · exact m1
      · exact hw
    exact word_at hW (wAll_good hw) (hts w (hwA w hw))
  have hPX : ∀ U : State, U.heap = H → s.WarmedH U.vm → PX D tys ws H.size U := fun U hU hW => ⟨by rw [hU], by rw [hU]; exact hP, va_K.moved hW.alike hK, hD.weaken (fun _ _ _ _ => trivial), KN.warm hW hkn⟩
  obtain ⟨co, q1, q2⟩ := isO_of hO
  obtain ⟨eo, q3, q4⟩ := hr_at hh q1 ha
  obtain ⟨fs, rfl, _, _⟩ := cr_O q4 (by rw [q2]; exact o7)
  rw [q2] at q3
  have hrun : va_Run p l e room_1 s m #[Value.ref b] below meth c H locs cells slots 16 100 (F0 m pc ls (As.reverse ++ .ref a :: rest)) rest (QX D ws H.size (some v) h2 (Value.ref a :: As).toArray) (va_A ws H.size) := by
    refine va_runV (As := As) (C := (mY M).cls) (own := RL) ⟨hx, hb, hml, hown, hts⟩ hMet (n := As.length) ⟨⟨rfl, rfl, o5, o6, hwU, List.mem_cons_self, hts _ (hwA _ m1), hts _ (hwA _ m2), m5, fun sig hsig => ?_, hts _ o1⟩, hts _ o2, hts _ o3⟩ ⟨PX.blind, ?_, fun U hU hW => ⟨rfl, hPX U hU hW⟩⟩ rfl rfl hls rfl (lv_room hrest) hd ⟨hc1, hc2⟩
    · rw [hsig] at o4
      have this : sig.parameters.length + 1 = mN M := Option.some.inj o4
      omega
    · have hcls : clsN (mK M) = (mY M).cls := m4.symm
      rw [← hcls]
      exact va_recv hK hP (vwA_at _ o7) q3
  refine am_call2 hrun hS (aw_of hD hS (fun _ h => h)) fun rv tys' ws' H1 locs1 g1 g2 g3 g4 g5 g6 g7 g8 => ?_
  obtain ⟨V, rfl, g9⟩ := g1
  obtain ⟨k1, k2⟩ := W2.keep dj g7 g6
  exact kk V ws' H1 locs1 g9 ⟨tys', g2, g4, g5, g6.weaken fun q e h1 h2 => aw_of hD hS (fun _ h => h) _ (by first | exact h2 | exact h1), g3.at ha⟩ k1 k2 g8
end LCAL2
