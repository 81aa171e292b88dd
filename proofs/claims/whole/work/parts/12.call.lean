
/-- what a method owes at its end: its answer, and the cells as the number machine has them -/
def QX (D : va_G) (ws : va_W) (sz : Nat) (v : Option AV) (h2 : AH) : Array Value → State → Outcome → State → Prop := fun _ st oc t => (∃ (rv : Option Value) (tys' : List (ClassId × FieldType)) (ws' : va_W), oc = .returned rv ∧ ovr (nu ws') v rv ∧ hr tys' ws' h2 ∧ px (nu ws) (nu ws') ∧ va_P D vwA ws' t.heap ∧ va_K D vwA tys' t ∧ va_D (va_A ws sz) ws') ∧ va_F (va_A ws sz) st t
def PX (D : va_G) (tys : List (ClassId × FieldType)) (ws : va_W) (sz : Nat) (U : State) : Prop := U.heap.size = sz ∧ va_P D vwA ws U.heap ∧ va_K D vwA tys U ∧ va_D (fun _ => True) ws ∧ KN U
abbrev wsM (M : MI) : List Cond := Cond.code (mY M) (mC M) (mL M) (mT M) :: wAll
def MetX (l : Launch) (D : va_G) (M : MI) (as : List AV) (h : AH) (v : Option AV) (h2 : AH) : Prop :=
  ∀ (tys : List (ClassId × FieldType)) (ws : va_W) (As : List Value) (sz mc ms : Nat), hr tys ws h → sr (nu ws) as As → h2.length ≤ h.length + mc → slt h2 ≤ slt h + ms →
    Met l (mY M) (wsM M) ({ frames := mR M, cells := mc, slots := ms, locals := mW M } : Room) (va_Pc As (PX D tys ws sz)) (QX D ws sz v h2) mc ms (va_A ws sz)
theorem PX.blind {D : va_G} {tys : List (ClassId × FieldType)} {ws : va_W} {sz : Nat} {As : List Value} : FrameBlind (va_Pc As (PX D tys ws sz)) := fun a U g mk q => ⟨q.1, q.2.1, q.2.2.1, va_K.moved (u := U) (U := U.calling g mk a) (Vm.Alike.refl U.vm) q.2.2.2.1, q.2.2.2.2.1, q.2.2.2.2.2.call⟩
section SND3
variable {p : Program} {l : Launch} {e : Env} {R : Room} {s : State} {m : MethodId} {args : Array Value} {below : List Frame} {meth : Method} {c : Code} {Q : State → Prop} {D : va_G} {A : Nat → Prop} {H0 : Heap} {N0 : List Nat} {n0 m0 : Nat} {M : MI}
theorem am_call {H : Heap} {locs : List Loc} {cells slots mc ms pc : Nat} {ls : Array Slot} {st0 rest : List Value} {ws : va_W} {v : Option AV} {h2 : AH} {a : Array Value} (hrun : va_Run p l e R s m args below meth c H locs cells slots mc ms (F0 m pc ls st0) rest (QX D ws H.size v h2 a) (va_A ws H.size)) (hS : va_S A H0 H locs) (hAw : ∀ q, va_A ws H.size q → A q)
    (kk : ∀ (rv : Option Value) (tys' : List (ClassId × FieldType)) (ws' : va_W) (H1 : Heap) (locs1 : List Loc), ovr (nu ws') v rv → hr tys' ws' h2 → px (nu ws) (nu ws') → va_P D vwA ws' H1 → va_K D vwA tys' s → va_D A ws' → va_S A H0 H1 locs1 → W p l e R s m args below meth c H1 locs1 (cells + mc) (slots + ms) Q (F0 m (pc + 3) ls (rv.toList ++ rest))) : W p l e R s m args below meth c H locs cells slots Q (F0 m pc ls st0) := by
  intro T hT X0
  obtain ⟨w, st₀, t, T', L, h0, X', hL, e1, e2, ⟨⟨rv, tys', ws', hv, g1, g2, g3, g4, g5, g6⟩, hz, hk⟩, st⟩ := hrun T hT X0
  cases hv
  rw [h0] at hz hk
  have hvm : s.vm.Alike t.vm := by rw [← e2]; exact X'.warmed.alike
  obtain ⟨t2, a1, b1⟩ := kk w tys' ws' T'.heap (locs ++ L) g1 g2 g3 (by rw [e1]; exact g4) (va_K.moved hvm.symm g5) (g6.weaken fun _ _ _ h => hAw _ h)
    ⟨Nat.le_trans hS.1 (by rw [e1]; exact hz), fun q h1 h2 => by rw [e1, hk q (Nat.lt_of_lt_of_le h1 hS.1) (fun z => h2 (hAw q z))]; exact hS.2.1 q h1 h2, fun q hq => by
      rcases List.mem_append.mp hq with h | h
      · exact hS.2.2 q h
      · exact hAw _ (hL q h)⟩ T' rfl X'
  exact ⟨t2, st t2 a1, b1⟩
theorem aw_of {ws : va_W} {H : Heap} {locs : List Loc} (hD : va_D A ws) (hS : va_S A H0 H locs) (hA : ∀ q, H0.size ≤ q → A q) : ∀ q, va_A ws H.size q → A q := by
  intro q h
  rcases h with ⟨k, e, h⟩ | h
  · exact hD.2 k (q, e) h
  · exact hA q (Nat.le_trans hS.1 h)
set_option maxRecDepth 4000 in
theorem s_Cal (C : CX p R s m args meth c A H0 M) {ik idx pc : Nat} {al st : List AV} {h : AH} {x : SR} (hd : decode (mC M) pc = .ok ((match ik with
  | 0 => Instr.invokevirtual idx
  | 1 => Instr.invokestatic idx
  | _ => Instr.invokespecial idx), 3)) (hst : hCal ik M idx pc al st h = some x) (hk : ∀ M1 as h1 pc' al' st', x = Sum.inr (Sum.inl (M1, as, h1, pc', al', st')) → okM M1 → as.all nU = true → (esl as).length ≤ mL M1 → ∃ v h2, MetX l D M1 as h1 v h2 ∧ h1.length ≤ h2.length ∧ slt h1 ≤ slt h2 ∧ h2.length ≤ n0 + R.cells ∧ slt h2 ≤ m0 + R.slots ∧ WX p l e R s m args below meth c Q D A H0 N0 n0 m0 M pc' al' (v.toList ++ st') h2) : WX p l e R s m args below meth c Q D A H0 N0 n0 m0 M pc al st h := by
  obtain ⟨hx, hb, hml, hrt, hown, hts, hlo, hnm, hkn, hRf, hRl, hA⟩ := C
  unfold hCal at hst
  cases hc : cT (mK M) idx with
  | none => rw [hc] at hst; cases hst
  | some q =>
    obtain ⟨k, M1⟩ := q
    rw [hc] at hst
    simp only at hst
    obtain ⟨hcond, hst⟩ := bif_of hst
    simp only [Bool.and_eq_true] at hcond
    obtain ⟨c1, c2, c3, c4, c5, c6, c7, c8⟩ := hcond
    have c2 := Nat.le_of_ble_eq_true c2
    have c3 := Nat.le_of_ble_eq_true c3
    have c4 := Nat.le_of_ble_eq_true c4
    have c5 := Nat.le_of_ble_eq_true c5
    have c6 := Nat.le_of_ble_eq_true c6
    obtain ⟨hoC, hoM⟩ := cLst_ok _ (lk_mem hc)
    simp only at hoC hoM
    obtain ⟨v, h2, hM, i1, i2, i3, i4, kk⟩ := hk M1 _ h _ _ _ (Option.some.inj hst).symm hoM c7 c6
    obtain ⟨m1, m2, m3, m4, m5⟩ := hoM
    intro tys ws H locs cells slots ls rst hK hh hpx hP hD hS hl hs hc1 hc2
    have hsA : sr (nu ws) (st.take (mN M1)).reverse (rst.take (mN M1)).reverse := (hs.take _).rev
    have hsR : sr (nu ws) (st.drop (mN M1)) (rst.drop (mN M1)) := hs.drop _
    have hrl : (rst.take (mN M1)).reverse.length = mN M1 := by rw [List.length_reverse, List.length_take, ← hs.len]; omega
    have hrst : rst = (rst.take (mN M1)).reverse.reverse ++ rst.drop (mN M1) := by rw [List.reverse_reverse]; exact (List.take_append_drop _ _).symm
    generalize hAs : (rst.take (mN M1)).reverse = As at hsA hrl hrst
    have hMet := hM tys ws As H.size (h2.length - h.length) (slt h2 - slt h) hh hsA (by omega) (by omega)
    have hcb : ∀ (w : Cond), w ∈ wAll → w.before args s = true := hts
    have hwU : ∀ w ∈ wsM M1, ∀ (a' : Array Value) (U : State), s.WarmedH U.vm → w.before a' U = true := by
      intro w hw a' U hW
      have hw : w ∈ wAll := by
        rcases List.mem_cons.mp hw with rfl | hw
        · exact m1
        · exact hw
      exact word_at hW (wAll_good hw) (hts w hw)
    have hroom : (rst.drop (mN M1)).map (fun v => v.category) |>.sum |> (· ≤ 8) := Nat.le_trans hsR.wds c5
    have hf2 : cells + (h2.length - h.length) ≤ R.cells ∧ slots + (slt h2 - slt h) ≤ R.slots := ⟨by omega, by omega⟩
    have hsize : ls.size = mL M := by obtain ⟨_, lv, h1, _⟩ := hl; exact h1.1
    have hframes : mR M1 + 1 ≤ R.frames := Nat.le_trans c2 hRf
    have hloc : 8 + (mL M1 + 11) + mW M1 ≤ R.locals := by omega
    have hPX : ∀ U : State, U.heap = H → s.WarmedH U.vm → PX D tys ws H.size U := fun U hU hW => ⟨by rw [hU], by rw [hU]; exact hP, va_K.moved hW.alike hK, hD.weaken (fun _ _ _ _ => trivial), KN.warm hW hkn⟩
    have go : ∀ a : Array Value, va_Run p l e R s m args below meth c H locs cells slots (h2.length - h.length) (slt h2 - slt h) (F0 m pc ls rst) (rst.drop (mN M1)) (QX D ws H.size v h2 a) (va_A ws H.size) → W p l e R s m args below meth c H locs cells slots Q (F0 m pc ls rst) := by
      intro a hrun
      refine am_call hrun hS (aw_of hD hS hA) fun rv tys' ws' H1 locs1 g1 g2 g3 g4 g5 g6 g7 => ?_
      refine kk tys' ws' H1 locs1 _ _ ls _ g5 g2 (hpx.tr g3) g4 g6 g7 (hl.up g3) ?_ (by omega) (by omega)
      refine sr.app ?_ (hsR.up g3)
      match v, g1 with
      | none, g1 => cases g1; exact trivial
      | some w, ⟨U, g1, g8⟩ => cases g1; exact ⟨g8, trivial⟩
    -- the kinds of call
    match k, hoC, c8, c1 with
    | 0, ⟨o1, o2, o3, o4⟩, c8, c1 =>
      have hik : ik = 0 := by
        match ik, c1 with
        | 0, _ => rfl
        | 1, c1 => cases c1
        | n + 2, c1 => cases c1
      subst hik
      match hsv : (st.take (mN M1)).reverse, hsA, c8 with
      | Sum.inr (Sum.inr (Sum.inl (some ra))) :: as', hsA, c8 =>
        match As, hsA, hMet, hrst, hrl with
        | Y :: As', ⟨⟨b, hy, hb1⟩, hA'⟩, hMet, hrst, hrl =>
          subst hy
          obtain ⟨c9, c8⟩ := (Bool.and_eq_true _ _).mp c8
          have hlt6 : mK M1 < 6 := Nat.le_of_ble_eq_true c9
          obtain ⟨co, q1, q2⟩ := isO_of c8
          obtain ⟨eo, q3, q4⟩ := hr_at hh q1 hb1
          obtain ⟨fs, rfl, _, _⟩ := cr_O q4 (by rw [q2]; exact hlt6)
          rw [q2] at q3
          refine go _ (va_runV (As := As') (C := (mY M1).cls) ⟨hx, hb, hml, hown, hts⟩ hMet (n := As'.length) ⟨⟨rfl, rfl, hframes, hloc, hwU, List.mem_cons_self, hts _ m1, hts _ m2, m5, fun sig hsig => ?_, hts _ o1⟩, hts _ o2, hts _ o3⟩ ⟨PX.blind, ?_, fun U hU hW => ⟨rfl, hPX U hU hW⟩⟩ rfl rfl hsize ?_ (lv_room hroom) hd hf2)
          · rw [hsig] at o4
            have this : sig.parameters.length + 1 = mN M1 := Option.some.inj o4
            rw [List.length_cons] at hrl
            omega
          · have hcls : clsN (mK M1) = (mY M1).cls := m4.symm
            rw [← hcls]
            exact va_recv hK hP (vwA_at _ hlt6) q3
          · show rst = As'.reverse ++ .ref b :: rst.drop (mN M1)
            rw [List.reverse_cons, List.append_assoc] at hrst
            exact hrst
        | [], hsA, _, _, _ => exact hsA.elim
    | 1, ⟨o1, o2, o3⟩, c8, c1 =>
      have hik : ik = 1 := by
        match ik, c1 with
        | 0, c1 => cases c1
        | 1, _ => rfl
        | n + 2, c1 => cases c1
      subst hik
      refine go _ (va_runS (As := As) ⟨hx, hb, hml, hown, hts⟩ hMet (n := As.length) ⟨⟨rfl, rfl, hframes, hloc, hwU, List.mem_cons_self, hts _ m1, hts _ m2, m5, fun sig hsig => ?_, hts _ o1⟩, hts _ o2⟩ ⟨PX.blind, fun U hU hW => ⟨rfl, hPX U hU hW⟩⟩ rfl rfl hsize hrst (lv_room hroom) hd hf2)
      rw [hsig] at o3
      have this : sig.parameters.length = mN M1 := Option.some.inj o3
      omega
    | 2, ⟨o1, o2, o3, o3', o4⟩, c8, c1 =>
      have hik : ∃ n, ik = n + 2 := by
        match ik, c1 with
        | 0, c1 => cases c1
        | 1, c1 => cases c1
        | n + 2, _ => exact ⟨n, rfl⟩
      obtain ⟨ik', rfl⟩ := hik
      match hsv : (st.take (mN M1)).reverse, hsA, c8 with
      | Sum.inr (Sum.inr (Sum.inl (some ra))) :: as', hsA, c8 =>
        match As, hsA, hMet, hrst, hrl with
        | Y :: As', ⟨⟨b, hy, hb1⟩, hA'⟩, hMet, hrst, hrl =>
          subst hy
          have hcode : Cond.code (mY M1) (mC M1) (mL M1) none ∈ wAll := by rw [← o3']; exact m1
          refine go _ (va_runI (As := As') (b := b) ⟨hx, hb, hml, hown, hts⟩ hMet (n := As'.length) ⟨⟨rfl, rfl, hframes, hloc, hwU, List.mem_cons_of_mem _ hcode, hts _ hcode, hts _ m2, m5, fun sig hsig => ?_, hts _ o1⟩, o3, hts _ o2⟩ ⟨PX.blind, fun U hU hW => ⟨rfl, hPX U hU hW⟩⟩ rfl rfl hsize ?_ (lv_room hroom) hd hf2)
          · rw [hsig] at o4
            have this : sig.parameters.length + 1 = mN M1 := Option.some.inj o4
            rw [List.length_cons] at hrl
            omega
          · show rst = As'.reverse ++ .ref b :: rst.drop (mN M1)
            rw [List.reverse_cons, List.append_assoc] at hrst
            exact hrst
        | [], hsA, _, _, _ => exact hsA.elim
    | k + 3, ⟨⟨host, o1⟩, o2, o3, o3', o4⟩, c8, c1 =>
      have hik : ∃ n, ik = n + 2 := by
        match ik, c1 with
        | 0, c1 => cases c1
        | 1, c1 => cases c1
        | n + 2, _ => exact ⟨n, rfl⟩
      obtain ⟨ik', rfl⟩ := hik
      match hsv : (st.take (mN M1)).reverse, hsA, c8 with
      | Sum.inr (Sum.inr (Sum.inl (some ra))) :: as', hsA, c8 =>
        match As, hsA, hMet, hrst, hrl with
        | Y :: As', ⟨⟨b, hy, hb1⟩, hA'⟩, hMet, hrst, hrl =>
          subst hy
          have hcode : Cond.code (mY M1) (mC M1) (mL M1) none ∈ wAll := by rw [← o3']; exact m1
          refine go _ (va_runIN (As := As') (b := b) (host := host) ⟨hx, hb, hml, hown, hts⟩ hMet (n := As'.length) ⟨⟨⟨rfl, rfl, hframes, hloc, hwU, List.mem_cons_of_mem _ hcode⟩, hts _ hcode, hts _ m2, m5, fun sig hsig => ?_, va_Nw.use rfl (hkn.2.1 _ o1)⟩, o3, hts _ o2⟩ ⟨PX.blind, fun U hU hW => ⟨rfl, hPX U hU hW⟩⟩ rfl rfl hsize ?_ (lv_room hroom) hd hf2)
          · rw [hsig] at o4
            have this : sig.parameters.length + 1 = mN M1 := Option.some.inj o4
            rw [List.length_cons] at hrl
            omega
          · show rst = As'.reverse ++ .ref b :: rst.drop (mN M1)
            rw [List.reverse_cons, List.append_assoc] at hrst
            exact hrst
        | [], hsA, _, _, _ => exact hsA.elim
end SND3
