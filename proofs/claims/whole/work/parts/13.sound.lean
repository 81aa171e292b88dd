
section SND4
variable {p : Program} {l : Launch} {e : Env} {R : Room} {s : State} {m : MethodId} {args : Array Value} {below : List Frame} {meth : Method} {c : Code} {Q : State → Prop} {D : va_G} {A : Nat → Prop} {H0 : Heap} {N0 : List Nat} {n0 m0 : Nat} {M : MI}
theorem s_Obj (C : CX p R s m args meth c A H0 M) {idx pc : Nat} {al st : List AV} {h : AH} {x : SR} (hd : decode (mC M) pc = .ok (.invokespecial idx, 3)) (hi : lk oLst (mK M) idx = some ()) (hst : hObj M pc al st h = some x) (hk : ∀ pc' al' st' h', x = Sum.inl (pc', al', st', h') → WX p l e R s m args below meth c Q D A H0 N0 n0 m0 M pc' al' st' h') : WX p l e R s m args below meth c Q D A H0 N0 n0 m0 M pc al st h := by
  obtain ⟨hx, hb, hml, hrt, hown, hts, hlo, hnm, hkn, hRf, hRl, hA⟩ := C
  have hw := oLst_ok _ (lk_mem hi)
  simp only at hw
  match st, hst with
  | Sum.inr (Sum.inr (Sum.inl (some a))) :: st', hst =>
    unfold hObj at hst
    simp only at hst
    obtain ⟨hcond, hst⟩ := bif_of hst
    simp only [Bool.and_eq_true] at hcond
    obtain ⟨c1, c2, c3⟩ := hcond
    have c1 := Nat.le_of_ble_eq_true c1
    have c2 := Nat.le_of_ble_eq_true c2
    have c3 := Nat.le_of_ble_eq_true c3
    have kk := s_go hst hk
    intro tys ws H locs cells slots ls rst hK hh hpx hP hD hS hl hs hc1 hc2
    match rst, hs with
    | Y :: T, ⟨⟨b, hy, hb1⟩, hT⟩ =>
      subst hy
      have hsz : ls.size = mL M := by obtain ⟨_, lv, h1, _⟩ := hl; exact h1.1
      have hwd := hT.wds
      refine W.objInit (g := F0 m pc ls (.ref b :: T)) hx hb hown (hts _ hw) (hts _ objI_w) (hts _ objC_w) rfl (by show ls.size = _; rw [hml]; exact hsz) rfl hd (by omega) (by show 2 * 0 + _ + 12 ≤ _; omega) ?_
      exact kk tys ws H locs cells slots ls T hK hh hpx hP hD hS hl hT hc1 hc2
    | [], h => exact h.elim
theorem getD_some {α : Type} {l : List α} {k : Nat} {x d : α} (h : l[k]? = some x) : l.getD k d = x := by simp [List.getD, h]
theorem cpL_at {vs ws : List AV} {sp dp n j : Nat} (hj : j < ws.length) : (cpL vs ws sp dp n)[j]? = some (if dp ≤ j ∧ j < dp + n then vs.getD (sp + (j - dp)) aU else ws.getD j aU) := by
  unfold cpL
  rw [List.getElem?_map, List.getElem?_range hj]
  rfl
set_option maxRecDepth 4000 in
theorem s_Cpy (C : CX p R s m args meth c A H0 M) {pc : Nat} {al st : List AV} {h : AH} {x : SR} (hd : decode (mC M) pc = .ok (.invokestatic acpI, 3)) (h4 : mK M = 4) (hr1 : 1 ≤ mR M) (hw1 : 30 ≤ mW M) (hst : hCpy pc al st h = some x) (hk : ∀ pc' al' st' h', x = Sum.inl (pc', al', st', h') → WX p l e R s m args below meth c Q D A H0 N0 n0 m0 M pc' al' st' h') : WX p l e R s m args below meth c Q D A H0 N0 n0 m0 M pc al st h := by
  obtain ⟨hx, hb, hml, hrt, hown, hts, hlo, hnm, hkn, hRf, hRl, hA⟩ := C
  obtain ⟨w1, w2, w3, w4⟩ := acp_w
  match st, hst with
  | Sum.inl n :: Sum.inl dp :: Sum.inr (Sum.inr (Sum.inl (some d))) :: Sum.inl sp :: Sum.inr (Sum.inr (Sum.inl (some sa))) :: st', hst =>
    unfold hCpy at hst
    simp only at hst
    cases hcs : h[sa]? with
    | none => rw [hcs] at hst; cases hst
    | some cs =>
      cases hcd : h[d]? with
      | none => rw [hcs, hcd] at hst; cases hst
      | some cd =>
        rw [hcs, hcd] at hst
        simp only at hst
        obtain ⟨⟨k1, k2, k3, k4, k5, k6, k7, k8⟩, hst⟩ := ite_of hst
        have kk := s_go hst hk
        intro tys ws H locs cells slots ls rst hK hh hpx hP hD hS hl hs hc1 hc2
        match rst, hs with
        | V1 :: V2 :: V3 :: V4 :: V5 :: T, ⟨⟨y1, e1, f1⟩, ⟨y2, e2, f2⟩, ⟨b3, e3, f3⟩, ⟨y4, e4, f4⟩, ⟨b5, e5, f5⟩, hT⟩ =>
          subst e1; subst e2; subst e3; subst e4; subst e5; subst f1; subst f2; subst f4
          have hsz : ls.size = mL M := by obtain ⟨_, lv, h1, _⟩ := hl; exact h1.1
          have hwd := hT.wds
          obtain ⟨es, hes, hcrs⟩ := hr_at hh hcs f5
          obtain ⟨ed, hed, hcrd⟩ := hr_at hh hcd f3
          obtain ⟨cA, f, t, rfl, g1, g2, g3⟩ := cr_J hcrs k1
          obtain ⟨cB, g, u, rfl, g4, g5, g6⟩ := cr_J hcrd k2
          rw [h4] at hown
          have hnf : nativeFrameWords "java/lang/System" "arraycopy" 5 = 7 := by decide +kernel
          refine va_copyl hx hb (hml.trans hsz.symm) hown (hts _ w1) (hts _ w2) (hts _ w3) (hts _ w4) hK hP hD hS sa d t u hes hed g2 g5 rfl (by rw [Int32.lt_iff_toInt_lt]; show ¬ y4.toInt < 0; omega) (by rw [Int32.lt_iff_toInt_lt]; show ¬ y2.toInt < 0; omega) (by rw [Int32.lt_iff_toInt_lt]; show ¬ y1.toInt < 0; omega) (by rw [cl_nat, cl_nat]; omega) (by rw [cl_nat, cl_nat]; omega) (fun _ _ => rfl) (by omega) (by rw [hnf]; omega) hd (fun H1 locs1 hP1 hD1 hS1 => ?_)
          have hnu := nu_set (e' := .inl (cB, cd.2.length, .inr (.inl (va_cpy f g y4.toNatClampNeg y2.toNatClampNeg y1.toNatClampNeg)))) hed
          refine kk tys _ H1 locs1 cells slots ls T hK (hr_set (e' := .inl (cB, cd.2.length, .inr (.inl (va_cpy f g y4.toNatClampNeg y2.toNatClampNeg y1.toNatClampNeg)))) hh hed ⟨?_, g4, rfl, ⟨u, g5⟩, fun j hj => ?_⟩) (by rw [hnu]; exact hpx) hP1 hD1 hS1 (by rw [hnu]; exact hl) (by rw [hnu]; exact hT) (by rw [List.length_set]; exact hc1) (by rw [slt_set hcd (by simp [cpL])]; exact hc2)
          · simp [cpL]
          · have hj : j < cd.2.length := hj
            show (cpL cs.2 cd.2 y4.toInt.toNat y2.toInt.toNat y1.toInt.toNat)[j]? = some (aJ (va_cpy f g y4.toInt.toNat y2.toInt.toNat y1.toInt.toNat j).toInt)
            rw [cpL_at hj]
            unfold va_cpy
            by_cases hq : y2.toInt.toNat ≤ j ∧ j < y2.toInt.toNat + y1.toInt.toNat
            · rw [if_pos hq, if_pos hq, getD_some (g3 _ (by omega))]
            · rw [if_neg hq, if_neg hq, getD_some (g6 _ hj)]
        | [_, _, _, _], h => exact h.2.2.2.2.elim
        | [_, _, _], h => exact h.2.2.2.elim
        | [_, _], h => exact h.2.2.elim
        | [_], h => exact h.2.elim
        | [], h => exact h.elim
/-- what an end owes -/
def RX (s : State) (args : Array Value) (below : List Frame) (Q : State → Prop) (D : va_G) (A : Nat → Prop) (H0 : Heap) (N0 : List Nat) (n0 m0 : Nat) (v : Option AV) (h' : AH) : Prop := ∃ (ws0 : va_W) (mc ms : Nat), N0 = nu ws0 ∧ A = va_A ws0 s.heap.size ∧ H0 = s.heap ∧ Q = MQ below (QX D ws0 s.heap.size v h') args s mc ms (va_A ws0 s.heap.size) ∧ h'.length ≤ n0 + mc ∧ slt h' ≤ m0 + ms
theorem s_Ret (C : CX p R s m args meth c A H0 M) {i : Instr} {pc : Nat} {al st : List AV} {h : AH} {x : SR} (hd : decode (mC M) pc = .ok (i, 1)) (hst : (i = .ireturn ∧ hRetI M st h = some x) ∨ (i = .lreturn ∧ hRetJ M st h = some x) ∨ (i = .areturn ∧ hRetR M st h = some x) ∨ (i = .return_ ∧ hRetV M st h = some x)) (hk : ∀ v h', x = Sum.inr (Sum.inr (v, h')) → RX s args below Q D A H0 N0 n0 m0 v h') : WX p l e R s m args below meth c Q D A H0 N0 n0 m0 M pc al st h := by
  obtain ⟨hx, hb, hml, hrt, hown, hts, hlo, hnm, hkn, hRf, hRl, hA⟩ := C
  have fin : ∀ {v : Option AV}, RX s args below Q D A H0 N0 n0 m0 v h → (∀ (mc ms : Nat) (ws0 : va_W) (H : Heap) (locs : List Loc) (ls : Array Slot) (rst : List Value), sr (nu ws0) [] [] → (∀ ws, sr (nu ws) st rst → (∀ rv, ovr (nu ws) v rv → (∀ t : State, t.heap = H → s.WarmedH t.vm → QX D ws0 s.heap.size v h args s (.returned rv) t)) → (∀ q ∈ locs, va_A ws0 s.heap.size q.base) → W p l e R s m args below meth c H locs mc ms (MQ below (QX D ws0 s.heap.size v h) args s mc ms (va_A ws0 s.heap.size)) (F0 m pc ls rst))) → WX p l e R s m args below meth c Q D A H0 N0 n0 m0 M pc al st h := by
    intro v ⟨ws0, mc, ms, z1, z2, z3, z4, z5, z6⟩ row
    subst z1; subst z2; subst z3; subst z4
    intro tys ws H locs cells slots ls rst hK hh hpx hP hD hS hl hs hc1 hc2
    refine W.widen (k := mc) (n := ms) (by omega) (by omega) ?_
    refine row mc ms ws0 H locs ls rst trivial ws hs (fun rv hv t ht hW => ⟨⟨rv, tys, ws, rfl, hv, hh, hpx, by rw [ht]; exact hP, va_K.moved hW.alike hK, hD⟩, hS.F ht⟩) hS.2.2
  rcases hst with ⟨rfl, hst⟩ | ⟨rfl, hst⟩ | ⟨rfl, hst⟩ | ⟨rfl, hst⟩
  · match st, hst with
    | [Sum.inl z], hst =>
      unfold hRetI at hst
      simp only at hst
      cases hT : mT M with
      | none => rw [hT] at hst; cases hst
      | some ty =>
        rw [hT] at hst hrt
        cases ty with
        | int =>
          have hst := Option.some.inj hst
          refine fin (hk _ _ hst.symm) fun mc ms ws0 H locs ls rst _ ws hs hq hf => ?_
          match rst, hs with
          | [Y], ⟨⟨y, hy, ey⟩, _⟩ =>
            subst hy
            exact W.iret hx hb hrt (hq _ ⟨_, rfl, y, rfl, ey⟩) hf hd
          | [], h => exact h.elim
          | _ :: _ :: _, h => exact h.2.elim
        | boolean =>
          obtain ⟨h01, hst⟩ := ite_of hst
          have hst := Option.some.inj hst
          refine fin (hk _ _ hst.symm) fun mc ms ws0 H locs ls rst _ ws hs hq hf => ?_
          match rst, hs with
          | [Y], ⟨⟨y, hy, ey⟩, _⟩ =>
            subst hy
            refine W.zret hx hb hrt ?_ (hq _ ⟨_, rfl, y, rfl, ey⟩) hf hd
            rcases h01 with h0 | h0
            · have : y = 0 := Int32.toInt_inj.mp (by rw [← ey, h0]; rfl)
              subst this; rfl
            · have : y = 1 := Int32.toInt_inj.mp (by rw [← ey, h0]; rfl)
              subst this; rfl
          | [], h => exact h.elim
          | _ :: _ :: _, h => exact h.2.elim
        | _ => cases hst
  · match st, hst with
    | [Sum.inr (Sum.inl z)], hst =>
      unfold hRetJ at hst
      simp only at hst
      cases hT : mT M with
      | none => rw [hT] at hst; cases hst
      | some ty =>
        rw [hT] at hst hrt
        cases ty with
        | long =>
          have hst := Option.some.inj hst
          refine fin (hk _ _ hst.symm) fun mc ms ws0 H locs ls rst _ ws hs hq hf => ?_
          match rst, hs with
          | [Y], ⟨⟨y, hy, ey⟩, _⟩ =>
            subst hy
            exact W.lret hx hb hrt (hq _ ⟨_, rfl, y, rfl, ey⟩) hf hd
          | [], h => exact h.elim
          | _ :: _ :: _, h => exact h.2.elim
        | _ => cases hst
  · match st, hst with
    | [Sum.inr (Sum.inr (Sum.inl r))], hst =>
      unfold hRetR at hst
      simp only at hst
      cases hT : mT M with
      | none => rw [hT] at hst; cases hst
      | some ty =>
        rw [hT] at hst hrt
        cases ty with
        | object nm =>
          have hst := Option.some.inj hst
          refine fin (hk _ _ hst.symm) fun mc ms ws0 H locs ls rst _ ws hs hq hf => ?_
          match rst, hs with
          | [Y], ⟨hy, _⟩ =>
            have hV : Y = .null ∨ ∃ a, Y = .ref a := by
              cases r with
              | none => exact Or.inl hy
              | some k => obtain ⟨a, h, _⟩ := hy; exact Or.inr ⟨a, h⟩
            exact W.aret hx hb hrt (Or.inl ⟨nm, rfl⟩) hV (hq _ ⟨Y, rfl, hy⟩) hf hd
          | [], h => exact h.elim
          | _ :: _ :: _, h => exact h.2.elim
        | _ => cases hst
  · match st, hst with
    | [], hst =>
      unfold hRetV at hst
      simp only at hst
      cases hT : mT M with
      | some ty => rw [hT] at hst; cases hst
      | none =>
        rw [hT] at hst hrt
        have hst := Option.some.inj hst
        refine fin (hk _ _ hst.symm) fun mc ms ws0 H locs ls rst _ ws hs hq hf => ?_
        match rst, hs with
        | [], _ => exact W.vret hx hb hrt (hq _ rfl) hf hd
        | _ :: _, h => exact h.elim

set_option maxHeartbeats 4000000 in
theorem snd_stI (C : CX p R s m args meth c A H0 M) {i : Instr} {n pc : Nat} {al st : List AV} {h : AH} {x : SR} (hd : decode (mC M) pc = .ok (i, n)) (hst : stI M i n pc al st h = some x) (hbd : ∀ pc' al' st' h', x = Sum.inl (pc', al', st', h') → h'.length ≤ n0 + R.cells ∧ slt h' ≤ m0 + R.slots) (hk : ∀ pc' al' st' h', x = Sum.inl (pc', al', st', h') → WX p l e R s m args below meth c Q D A H0 N0 n0 m0 M pc' al' st' h') (hkc : ∀ M1 as h1 pc' al' st', x = Sum.inr (Sum.inl (M1, as, h1, pc', al', st')) → okM M1 → as.all nU = true → (esl as).length ≤ mL M1 → ∃ v h2, MetX l D M1 as h1 v h2 ∧ h1.length ≤ h2.length ∧ slt h1 ≤ slt h2 ∧ h2.length ≤ n0 + R.cells ∧ slt h2 ≤ m0 + R.slots ∧ WX p l e R s m args below meth c Q D A H0 N0 n0 m0 M pc' al' (v.toList ++ st') h2) (hkr : ∀ v h', x = Sum.inr (Sum.inr (v, h')) → RX s args below Q D A H0 N0 n0 m0 v h') : WX p l e R s m args below meth c Q D A H0 N0 n0 m0 M pc al st h := by
  cases i with
  | iconst z =>
    obtain ⟨rfl, hst⟩ := q1_of hst; obtain ⟨hz, hst⟩ := ite_of hst; exact s_push C (v := aI z) (V := .int (Int32.ofInt z)) (n := 1) (fun _ => ⟨_, rfl, (i32_of (by omega) (by omega)).symm⟩) (fun k => lv_iconst C.1 C.2.1 hd rfl k) hst hk
  | lconst j =>
    obtain ⟨rfl, hst⟩ := q1_of hst; exact s_push C (v := aJ ((j : Nat) : Int)) (V := .long (Int64.ofNat (j : Nat))) (n := 1) (fun _ => ⟨_, rfl, by match j with
    | 0 => rfl
    | 1 => rfl⟩) (fun k => lv_lconst C.1 C.2.1 hd rfl k) hst hk
  | bipush z =>
    obtain ⟨rfl, hst⟩ := q1_of hst; obtain ⟨hz, hst⟩ := ite_of hst; exact s_push C (v := aI z) (V := .int (Int8.ofInt z).toInt32) (n := 2) (fun _ => ⟨_, rfl, by rw [Int8.toInt_toInt32, Int8.toInt_ofInt, w8_t]; unfold w8; omega⟩) (fun k => lv_bipush C.1 C.2.1 hd rfl k) hst hk
  | sipush z =>
    obtain ⟨rfl, hst⟩ := q1_of hst; obtain ⟨hz, hst⟩ := ite_of hst; exact s_push C (v := aI z) (V := .int (Int16.ofInt z).toInt32) (n := 3) (fun _ => ⟨_, rfl, by rw [Int16.toInt_toInt32, Int16.toInt_ofInt, w16_t]; unfold w16; omega⟩) (fun k => lv_sipush C.1 C.2.1 hd rfl k) hst hk
  | ldc j =>
    replace hst : q1 n 2 (match lk kILst (mK M) j with
      | some z => gS (pc + 2) al (aI z :: st) h
      | none => none) = some x := hst
    obtain ⟨rfl, hst⟩ := q1_of hst; cases hz : lk kILst (mK M) j with
    | none => rw [hz] at hst; cases hst
    | some z =>
      rw [hz] at hst
      obtain ⟨w1, w2⟩ := kILst_ok _ (lk_mem hz)
      exact s_push C (v := aI z) (V := .int (Int32.ofInt z)) (n := 2) (fun _ => ⟨_, rfl, w2.symm⟩) (fun k => lv_ldc C.1 C.2.1 C.2.2.2.2.1 (C.2.2.2.2.2.1 _ w1) hd k) hst hk
  | ldc2_w j =>
    replace hst : q1 n 3 (match lk kJLst (mK M) j with
      | some z => gS (pc + 3) al (aJ z :: st) h
      | none => none) = some x := hst
    obtain ⟨rfl, hst⟩ := q1_of hst; cases hz : lk kJLst (mK M) j with
    | none => rw [hz] at hst; cases hst
    | some z =>
      rw [hz] at hst
      obtain ⟨w1, w2⟩ := kJLst_ok _ (lk_mem hz)
      exact s_push C (v := aJ z) (V := .long (Int64.ofInt z)) (n := 3) (fun _ => ⟨_, rfl, w2.symm⟩) (fun k => lv_ldc2 C.1 C.2.1 C.2.2.2.2.1 (C.2.2.2.2.2.1 _ w1) hd k) hst hk
  | aconst_null =>
    obtain ⟨rfl, hst⟩ := q1_of hst; exact s_push C (v := aR none) (V := .null) (n := 1) (fun _ => rfl) (fun k => lv_null C.1 C.2.1 hd k) hst hk
  | iload_n j =>
    obtain ⟨rfl, hst⟩ := q1_of hst; exact s_LI C (fun h1 k => lv_iload_n C.1 C.2.1 hd rfl h1 k) hst hk
  | iload j =>
    obtain ⟨rfl, hst⟩ := q1_of hst; exact s_LI C (fun h1 k => lv_iload C.1 C.2.1 hd h1 k) hst hk
  | lload_n j =>
    obtain ⟨rfl, hst⟩ := q1_of hst; exact s_LJ C (fun h1 k => lv_lload_n C.1 C.2.1 hd rfl h1 k) hst hk
  | lload j =>
    obtain ⟨rfl, hst⟩ := q1_of hst; exact s_LJ C (fun h1 k => lv_lload C.1 C.2.1 hd h1 k) hst hk
  | aload_n j =>
    obtain ⟨rfl, hst⟩ := q1_of hst; exact s_LR C (fun h1 k => lv_aload_n C.1 C.2.1 hd rfl h1 k) (fun h1 k => lv_aload_nN C.1 C.2.1 hd rfl h1 k) hst hk
  | aload j =>
    obtain ⟨rfl, hst⟩ := q1_of hst; exact s_LR C (fun h1 k => lv_aload C.1 C.2.1 hd h1 k) (fun h1 k => lv_aloadN C.1 C.2.1 hd h1 k) hst hk
  | istore_n j =>
    obtain ⟨rfl, hst⟩ := q1_of hst; exact s_SI C (fun h1 h2 h3 k => lv_istore_n C.1 C.2.1 hd rfl h1 h2 h3 k) hst hk
  | istore j =>
    obtain ⟨rfl, hst⟩ := q1_of hst; exact s_SI C (fun h1 h2 h3 k => lv_istore C.1 C.2.1 hd h1 h2 h3 k) hst hk
  | lstore_n j =>
    obtain ⟨rfl, hst⟩ := q1_of hst; exact s_SJ C (fun h1 h2 h3 k => lv_lstore_n C.1 C.2.1 hd rfl h1 h2 h3 k) hst hk
  | lstore j =>
    obtain ⟨rfl, hst⟩ := q1_of hst; exact s_SJ C (fun h1 h2 h3 k => lv_lstore C.1 C.2.1 hd h1 h2 h3 k) hst hk
  | astore_n j =>
    obtain ⟨rfl, hst⟩ := q1_of hst; exact s_SR C (fun h1 h2 h3 k => lv_astore_n C.1 C.2.1 hd rfl h1 h2 h3 k) (fun h1 h2 h3 k => lv_astore_nN C.1 C.2.1 hd rfl h1 h2 h3 k) hst hk
  | astore j =>
    obtain ⟨rfl, hst⟩ := q1_of hst; exact s_SR C (fun h1 h2 h3 k => lv_astore C.1 C.2.1 hd h1 h2 h3 k) (fun h1 h2 h3 k => lv_astoreN C.1 C.2.1 hd h1 h2 h3 k) hst hk
  | iinc j d =>
    obtain ⟨rfl, hst⟩ := q1_of hst; exact s_Inc C hd hst hk
  | iadd =>
    obtain ⟨rfl, hst⟩ := q1_of hst; exact s_B32 C (F := fun x y => x + y) e_add (fun k => lv_iadd C.1 C.2.1 hd k) hst hk
  | isub =>
    obtain ⟨rfl, hst⟩ := q1_of hst; exact s_B32 C (F := fun x y => x - y) e_sub (fun k => lv_isub C.1 C.2.1 hd k) hst hk
  | imul =>
    obtain ⟨rfl, hst⟩ := q1_of hst; exact s_B32 C (F := fun x y => x * y) e_mul (fun k => lv_imul C.1 C.2.1 hd k) hst hk
  | iand =>
    obtain ⟨rfl, hst⟩ := q1_of hst; exact s_B32 C (F := fun x y => x &&& y) (fun x y => by unfold fAnd; rw [i32_self, i32_self]) (fun k => lv_iand C.1 C.2.1 hd k) hst hk
  | ior =>
    obtain ⟨rfl, hst⟩ := q1_of hst; exact s_B32 C (F := fun x y => x ||| y) (fun x y => by unfold fOr; rw [i32_self, i32_self]) (fun k => lv_ior C.1 C.2.1 hd k) hst hk
  | ishl =>
    obtain ⟨rfl, hst⟩ := q1_of hst; exact s_B32 C (F := fun x y => x <<< (y &&& 31)) (fun x y => by unfold fShl; rw [i32_self, i32_self]) (fun k => lv_ishl C.1 C.2.1 hd k) hst hk
  | ishr =>
    obtain ⟨rfl, hst⟩ := q1_of hst; exact s_B32 C (F := fun x y => x >>> (y &&& 31)) (fun x y => by unfold fShr; rw [i32_self, i32_self]) (fun k => lv_ishr C.1 C.2.1 hd k) hst hk
  | idiv =>
    obtain ⟨rfl, hst⟩ := q1_of hst; exact s_D32 C (F := fun x y => x / y) e_div (fun h0 k => lv_idiv C.1 C.2.1 hd h0 k) hst hk
  | irem =>
    obtain ⟨rfl, hst⟩ := q1_of hst; exact s_D32 C (F := fun x y => x - x / y * y) e_rem (fun h0 k => lv_irem C.1 C.2.1 hd h0 k) hst hk
  | ineg =>
    obtain ⟨rfl, hst⟩ := q1_of hst; exact s_U32 C (f := fun a => aI (w32 (-a))) (F := fun x => .int (-x)) (fun _ y => ⟨_, rfl, e_neg y⟩) (fun k => lv_ineg C.1 C.2.1 hd k) hst hk
  | ladd =>
    obtain ⟨rfl, hst⟩ := q1_of hst; exact s_B64 C (F := fun x y => x + y) e_addJ (fun k => lv_ladd C.1 C.2.1 hd k) hst hk
  | lsub =>
    obtain ⟨rfl, hst⟩ := q1_of hst; exact s_B64 C (F := fun x y => x - y) e_subJ (fun k => lv_lsub C.1 C.2.1 hd k) hst hk
  | lmul =>
    obtain ⟨rfl, hst⟩ := q1_of hst; exact s_B64 C (F := fun x y => x * y) e_mulJ (fun k => lv_lmul C.1 C.2.1 hd k) hst hk
  | land =>
    obtain ⟨rfl, hst⟩ := q1_of hst; exact s_B64 C (F := fun x y => x &&& y) (fun x y => by unfold fAndJ; rw [i64_self, i64_self]) (fun k => lv_land C.1 C.2.1 hd k) hst hk
  | lxor =>
    obtain ⟨rfl, hst⟩ := q1_of hst; exact s_B64 C (F := fun x y => x ^^^ y) (fun x y => by unfold fXorJ; rw [i64_self, i64_self]) (fun k => lv_lxor C.1 C.2.1 hd k) hst hk
  | ldiv =>
    obtain ⟨rfl, hst⟩ := q1_of hst; exact s_D64 C (F := fun x y => x / y) e_divJ (fun h0 k => lv_ldiv C.1 C.2.1 hd h0 k) hst hk
  | lrem =>
    obtain ⟨rfl, hst⟩ := q1_of hst; exact s_D64 C (F := fun x y => x - x / y * y) e_remJ (fun h0 k => lv_lrem C.1 C.2.1 hd h0 k) hst hk
  | lneg =>
    obtain ⟨rfl, hst⟩ := q1_of hst; exact s_U64 C (f := fun a => aJ (w64 (-a))) (F := fun x => .long (-x)) (fun _ y => ⟨_, rfl, e_negJ y⟩) (fun k => lv_lneg C.1 C.2.1 hd k) hst hk
  | lcmp =>
    obtain ⟨rfl, hst⟩ := q1_of hst; exact s_Lcm C hd hst hk
  | i2l =>
    obtain ⟨rfl, hst⟩ := q1_of hst; exact s_U32 C (f := fun a => aJ a) (F := fun x => .long x.toInt64) (fun _ y => ⟨_, rfl, e_i2l y⟩) (fun k => lv_i2l C.1 C.2.1 hd rfl k) hst hk
  | l2i =>
    obtain ⟨rfl, hst⟩ := q1_of hst; exact s_U64 C (f := fun a => aI (w32 a)) (F := fun x => .int x.toInt32) (fun _ y => ⟨_, rfl, e_l2i y⟩) (fun k => lv_l2i C.1 C.2.1 hd rfl k) hst hk
  | i2b =>
    obtain ⟨rfl, hst⟩ := q1_of hst; exact s_U32 C (f := fun a => aI (w8 a)) (F := fun x => .int x.toInt8.toInt32) (fun _ y => ⟨_, rfl, e_i2b y⟩) (fun k => lv_i2b C.1 C.2.1 hd rfl k) hst hk
  | i2s =>
    obtain ⟨rfl, hst⟩ := q1_of hst; exact s_U32 C (f := fun a => aI (w16 a)) (F := fun x => .int x.toInt16.toInt32) (fun _ y => ⟨_, rfl, e_i2s y⟩) (fun k => lv_i2s C.1 C.2.1 hd rfl k) hst hk
  | dup =>
    obtain ⟨rfl, hst⟩ := q1_of hst; exact s_Dup C hd hst hk
  | dup2 =>
    obtain ⟨rfl, hst⟩ := q1_of hst; exact s_Dup2 C hd hst hk
  | pop =>
    obtain ⟨rfl, hst⟩ := q1_of hst; exact s_Pop C hd hst hk
  | goto off =>
    replace hst : q1 n 3 (match tg pc off with
      | some t => gS t al st h
      | none => none) = some x := hst
    obtain ⟨rfl, hst⟩ := q1_of hst; cases htg : tg pc off with
    | none => rw [htg] at hst; cases hst
    | some t =>
      rw [htg] at hst
      have kk := s_go hst hk
      intro tys ws H locs cells slots ls rst hK hh hpx hP hD hS hl hs hc1 hc2
      exact lv_goto C.1 C.2.1 hd (tg_of htg) (kk tys ws H locs cells slots ls rst hK hh hpx hP hD hS hl hs hc1 hc2)
  | ifCond cc off =>
    obtain ⟨rfl, hst⟩ := q1_of hst; exact s_If C hd hst hk
  | if_icmp cc off =>
    obtain ⟨rfl, hst⟩ := q1_of hst; exact s_Cmp C hd hst hk
  | ifnull off =>
    obtain ⟨rfl, hst⟩ := q1_of hst; exact s_Nul C hd hst hk
  | ifnonnull off =>
    obtain ⟨rfl, hst⟩ := q1_of hst; exact s_NNul C hd hst hk
  | tableswitch d lo hi offs =>
    replace hst : hTab d lo hi offs pc al st h = some x := hst; exact s_Tab C hd hst hk
  | getfield j =>
    obtain ⟨rfl, hst⟩ := q1_of hst; exact s_Get C hd hst hk
  | putfield j =>
    obtain ⟨rfl, hst⟩ := q1_of hst; exact s_Put C hd hst hk
  | iaload =>
    obtain ⟨rfl, hst⟩ := q1_of hst; exact s_AldI C hd hst hk
  | laload =>
    obtain ⟨rfl, hst⟩ := q1_of hst; exact s_AldJ C hd hst hk
  | aaload =>
    obtain ⟨rfl, hst⟩ := q1_of hst; exact s_AldR C hd hst hk
  | iastore =>
    obtain ⟨rfl, hst⟩ := q1_of hst; exact s_AstI C hd hst hk
  | lastore =>
    obtain ⟨rfl, hst⟩ := q1_of hst; exact s_AstJ C hd hst hk
  | aastore =>
    obtain ⟨rfl, hst⟩ := q1_of hst; exact s_AstR C hd hst hk
  | arraylength =>
    obtain ⟨rfl, hst⟩ := q1_of hst; exact s_Len C hd hst hk
  | new j =>
    obtain ⟨rfl, hst⟩ := q1_of hst; exact s_New C hd hst hbd hk
  | newarray t =>
    cases t with
    | int => obtain ⟨rfl, hst⟩ := q1_of hst; exact s_NwI C hd hst hbd hk
    | long => obtain ⟨rfl, hst⟩ := q1_of hst; exact s_NwJ C hd hst hbd hk
    | _ => exact absurd (show (none : Option SR) = some x from hst) (fun q => by cases q)
  | anewarray j =>
    obtain ⟨rfl, hst⟩ := q1_of hst; exact s_NwR C hd hst hbd hk
  | invokevirtual j =>
    obtain ⟨rfl, hst⟩ := q1_of hst; exact s_Cal C (ik := 0) hd hst hkc
  | invokestatic j =>
    replace hst : q1 n 3 (hSta M j pc al st h) = some x := hst
    obtain ⟨rfl, hst⟩ := q1_of hst; unfold hSta at hst
    cases hq : (Nat.beq (mK M) 4 && Nat.beq j acpI) with
    | true =>
      rw [hq] at hst
      obtain ⟨hcond, hst2⟩ := bif_of (show (bif Nat.ble 1 (mR M) && Nat.ble 30 (mW M) then hCpy pc al st h else none) = some x from hst)
      simp only [Bool.and_eq_true] at hcond hq
      have e1 := Nat.eq_of_beq_eq_true hq.1
      have e2 := Nat.eq_of_beq_eq_true hq.2
      subst e2
      exact s_Cpy C hd e1 (Nat.le_of_ble_eq_true hcond.1) (Nat.le_of_ble_eq_true hcond.2) hst2 hk
    | false =>
      rw [hq] at hst
      exact s_Cal C (ik := 1) hd hst hkc
  | invokespecial j =>
    replace hst : q1 n 3 (hSpe M j pc al st h) = some x := hst
    obtain ⟨rfl, hst⟩ := q1_of hst; unfold hSpe at hst
    cases hq : lk oLst (mK M) j with
    | some u => rw [hq] at hst; exact s_Obj C hd hq hst hk
    | none => rw [hq] at hst; exact s_Cal C (ik := 2) hd hst hkc
  | ireturn =>
    obtain ⟨rfl, hst⟩ := q1_of hst; exact s_Ret C hd (Or.inl ⟨rfl, hst⟩) hkr
  | lreturn =>
    obtain ⟨rfl, hst⟩ := q1_of hst; exact s_Ret C hd (Or.inr (Or.inl ⟨rfl, hst⟩)) hkr
  | areturn =>
    obtain ⟨rfl, hst⟩ := q1_of hst; exact s_Ret C hd (Or.inr (Or.inr (Or.inl ⟨rfl, hst⟩))) hkr
  | return_ =>
    obtain ⟨rfl, hst⟩ := q1_of hst; exact s_Ret C hd (Or.inr (Or.inr (Or.inr ⟨rfl, hst⟩))) hkr
  | _ => exact absurd (show (none : Option SR) = some x from hst) (fun q => by cases q)

/-- along an execution -/
theorem snd_run {v0 : Option AV} {h0 : AH} (C : CX p R s m args meth c A H0 M) (hR : h0.length ≤ n0 + R.cells ∧ slt h0 ≤ m0 + R.slots) (hend : RX s args below Q D A H0 N0 n0 m0 v0 h0) :
    ∀ (n : Nat), (∀ k, k < n → ∀ (M1 : MI) (as : List AV) (h : AH) (v : Option AV) (h2 : AH), exec k (M1, 0, ent M1 as, [], h) = some (v, h2) → okM M1 → as.all nU = true → (esl as).length ≤ mL M1 → MetX l D M1 as h v h2) →
    ∀ (k : Nat), k ≤ n → ∀ (pc : Nat) (al st : List AV) (h : AH), exec k (M, pc, al, st, h) = some (v0, h0) → WX p l e R s m args below meth c Q D A H0 N0 n0 m0 M pc al st h := by
  intro n IH k
  induction k with
  | zero => intro _ pc al st h q; cases q
  | succ k ih =>
    intro hkn pc al st h q
    rw [exec] at q
    simp only at q
    cases hs : stp M pc al st h with
    | none => rw [hs] at q; cases q
    | some x =>
      rw [hs] at q
      have hs' := hs
      unfold stp at hs
      split at hs
      · rename_i iq hdq
        obtain ⟨i, len⟩ := iq
        obtain ⟨s1, s2, s3⟩ := SH_stp hs'
        refine snd_stI C hdq hs ?_ ?_ ?_ ?_
        · intro pc' al' st' h' e
          subst e
          have z := exec_mono _ _ _ q
          simp only at z
          omega
        · intro pc' al' st' h' e
          subst e
          exact ih (by omega) pc' al' st' h' q
        · intro M1 as h1 pc' al' st' e o1 o2 o3
          subst e
          simp only at q
          cases e1 : exec k (M1, 0, ent M1 as, [], h1) with
          | none => rw [e1] at q; cases q
          | some r1 =>
            rw [e1] at q
            obtain ⟨v, h2⟩ := r1
            have z := exec_mono _ _ _ q
            have z1 := exec_mono _ _ _ e1
            simp only at z z1
            exact ⟨v, h2, IH k (by omega) M1 as h1 v h2 e1 o1 o2 o3, z1.1, z1.2, by omega, by omega, ih (by omega) pc' al' _ h2 q⟩
        · intro v h' e
          subst e
          cases q
          exact hend
      · cases hs
end SND4
theorem snd_all (l : Launch) (D : va_G) : ∀ (n : Nat) (M : MI) (as : List AV) (h : AH) (v : Option AV) (h2 : AH), exec n (M, 0, ent M as, [], h) = some (v, h2) → okM M → as.all nU = true → (esl as).length ≤ mL M → MetX l D M as h v h2 := by
  intro n
  induction n using Nat.strongRecOn with
  | ind n IH =>
    intro M as h v h2 hex hok hu hl
    intro tys ws As sz mc ms hh hsr h1 h3
    refine va_MetF (cc := mC M) (maxL := mL M) (ret := mT M) hok.2.2.1 rfl ?_
    intro p e s m args below meth c s₁ B hml hv
    obtain ⟨rfl, hsz, hP, hK, hD0, hKN⟩ := hv
    have hts : ∀ w ∈ wAll, w.before As.toArray s = true := fun w hw => atoms_spec (ws := wsM M) B.pre w (List.mem_cons_of_mem _ hw)
    have hown : s.vm.findClass (clsN (mK M)) = some m.cls := by rw [← hok.2.2.2.1]; exact findClass_of_methodNamed B.named
    subst hsz
    have hD := hD0.self (sz := s.heap.size)
    have hA : ∀ q : Nat, s.heap.size ≤ q → va_A ws s.heap.size q := fun q h => Or.inr h
    obtain ⟨e1, e2⟩ := lr.entry hsr hu hl
    rw [lg_entry_eq]
    have C : CX p (headSpec (wsM M) { frames := mR M, cells := mc, slots := ms, locals := mW M }).room s m As.toArray meth c (va_A ws s.heap.size) s.heap M := ⟨B.exec, B.bytes, hml, B.returns, hown, hts, B.notSynchronized, (name_of_methodNamed B.named B.method).1, hKN, Nat.le_refl _, Nat.le_refl _, hA⟩
    have hrun := snd_run (l := l) (e := e) (below := below) (Q := MQ below (QX D ws s.heap.size v h2) As.toArray s mc ms (va_A ws s.heap.size)) (D := D) (N0 := nu ws) (n0 := h.length) (m0 := slt h) (v0 := v) (h0 := h2) C ⟨h1, h3⟩ ⟨ws, mc, ms, rfl, rfl, rfl, rfl, h1, h3⟩ n (fun k hk M1 as h v h2 => IH k hk M1 as h v h2) n (Nat.le_refl _) 0 (ent M as) [] h hex
    exact hrun tys ws s.heap [] 0 0 _ [] hK hh px.rf hP hD va_S.rf e2 trivial (by omega) (by omega)
/-- what the number machine answers, the machine answers -/
theorem snd_E (l : Launch) (D : va_G) {M : MI} {as : List AV} {h : AH} {v : Option AV} {h2 : AH} (q : E M as h = some (v, h2)) (hok : okM M) (hu : as.all nU = true) (hl : (esl as).length ≤ mL M) : MetX l D M as h v h2 := by
  obtain ⟨n, hn⟩ := X_iff.mp q
  exact snd_all l D n M as h v h2 hn hok hu hl
