
/-! ===== handler by handler ===== -/
theorem w32_t (x : Int) : x.bmod (2 ^ 32) = w32 x := by
  rw [Int.bmod_def, w32]; simp only [show ((2 ^ 32 : Nat) : Int) = 4294967296 from rfl]; split <;> omega
theorem w64_t (x : Int) : x.bmod (2 ^ 64) = w64 x := by
  rw [Int.bmod_def, w64]; simp only [show ((2 ^ 64 : Nat) : Int) = 18446744073709551616 from rfl]; split <;> omega
theorem w8_t (x : Int) : x.bmod (2 ^ 8) = w8 x := by
  rw [Int.bmod_def, w8]; simp only [show ((2 ^ 8 : Nat) : Int) = 256 from rfl]; split <;> omega
theorem w16_t (x : Int) : x.bmod (2 ^ 16) = w16 x := by
  rw [Int.bmod_def, w16]; simp only [show ((2 ^ 16 : Nat) : Int) = 65536 from rfl]; split <;> omega
theorem w32_in {x : Int} (h1 : -2147483648 ≤ x) (h2 : x ≤ 2147483647) : w32 x = x := by unfold w32; omega
theorem w64_in {x : Int} (h1 : -9223372036854775808 ≤ x) (h2 : x ≤ 9223372036854775807) : w64 x = x := by unfold w64; omega
theorem i32_of {z : Int} (h1 : -2147483648 ≤ z) (h2 : z ≤ 2147483647) : (Int32.ofInt z).toInt = z := by
  rw [Int32.toInt_ofInt, w32_t, w32_in h1 h2]
theorem i64_of {z : Int} (h1 : -9223372036854775808 ≤ z) (h2 : z ≤ 9223372036854775807) : (Int64.ofInt z).toInt = z := by
  rw [Int64.toInt_ofInt, w64_t, w64_in h1 h2]
theorem i32_b (x : Int32) : -2147483648 ≤ x.toInt ∧ x.toInt ≤ 2147483647 := by
  have a := x.le_toInt
  have b := x.toInt_lt
  omega
theorem i64_b (x : Int64) : -9223372036854775808 ≤ x.toInt ∧ x.toInt ≤ 9223372036854775807 := by
  have a := x.le_toInt
  have b := x.toInt_lt
  omega
theorem i32_self (x : Int32) : Int32.ofInt x.toInt = x := by simp
theorem i64_self (x : Int64) : Int64.ofInt x.toInt = x := by simp
theorem e_add (x y : Int32) : w32 (x.toInt + y.toInt) = (x + y).toInt := by rw [Int32.toInt_add, w32_t]
theorem e_sub (x y : Int32) : w32 (x.toInt - y.toInt) = (x - y).toInt := by rw [Int32.toInt_sub, w32_t]
theorem e_mul (x y : Int32) : w32 (x.toInt * y.toInt) = (x * y).toInt := by rw [Int32.toInt_mul, w32_t]
theorem e_neg (x : Int32) : w32 (-x.toInt) = (-x).toInt := by rw [Int32.toInt_neg, w32_t]
theorem e_div (x y : Int32) : w32 (x.toInt.tdiv y.toInt) = (x / y).toInt := by rw [Int32.toInt_div, w32_t]
theorem e_addJ (x y : Int64) : w64 (x.toInt + y.toInt) = (x + y).toInt := by rw [Int64.toInt_add, w64_t]
theorem e_subJ (x y : Int64) : w64 (x.toInt - y.toInt) = (x - y).toInt := by rw [Int64.toInt_sub, w64_t]
theorem e_mulJ (x y : Int64) : w64 (x.toInt * y.toInt) = (x * y).toInt := by rw [Int64.toInt_mul, w64_t]
theorem e_negJ (x : Int64) : w64 (-x.toInt) = (-x).toInt := by rw [Int64.toInt_neg, w64_t]
theorem e_divJ (x y : Int64) : w64 (x.toInt.tdiv y.toInt) = (x / y).toInt := by rw [Int64.toInt_div, w64_t]
theorem tmod_lt' (a b : Int) : a.tmod b = a - a.tdiv b * b := by
  have := Int.tmod_add_tdiv_mul a b
  omega
theorem tmod_abs (a b : Int) : (0 ≤ a → 0 ≤ a.tmod b ∧ a.tmod b ≤ a) ∧ (a ≤ 0 → a ≤ a.tmod b ∧ a.tmod b ≤ 0) := by
  have pos : ∀ a : Int, 0 ≤ a → 0 ≤ a.tmod b ∧ a.tmod b ≤ a := by
    intro a h
    obtain ⟨n, rfl⟩ := Int.eq_ofNat_of_zero_le h
    rcases Int.natAbs_eq b with e | e
    · rw [e, show (n : Int).tmod (b.natAbs : Int) = ((n % b.natAbs : Nat) : Int) from rfl]
      have := Nat.mod_le n b.natAbs
      omega
    · rw [e, Int.tmod_neg, show (n : Int).tmod (b.natAbs : Int) = ((n % b.natAbs : Nat) : Int) from rfl]
      have := Nat.mod_le n b.natAbs
      omega
  refine ⟨pos a, fun h => ?_⟩
  have := pos (-a) (by omega)
  rw [Int.neg_tmod] at this
  omega
theorem e_rem (x y : Int32) : x.toInt.tmod y.toInt = (x - x / y * y).toInt := by
  have hb := i32_b x
  have h := tmod_abs x.toInt y.toInt
  have e : (x - x / y * y).toInt = w32 (x.toInt.tmod y.toInt) := by
    rw [Int32.toInt_sub, Int32.toInt_mul, Int32.toInt_div, Int.sub_bmod_bmod, ← w32_t, tmod_lt']
    rw [Int.bmod_def (x := x.toInt - _), Int.bmod_def (x := x.toInt - _)]
    have k : (x.toInt - (x.toInt.tdiv y.toInt).bmod (2 ^ 32) * y.toInt) % ((2 ^ 32 : Nat) : Int) = (x.toInt - x.toInt.tdiv y.toInt * y.toInt) % ((2 ^ 32 : Nat) : Int) := by
      rw [Int.sub_emod, Int.sub_emod x.toInt (x.toInt.tdiv y.toInt * y.toInt)]
      congr 2
      rw [Int.mul_emod, Int.mul_emod (x.toInt.tdiv y.toInt), Int.bmod_emod]
    rw [k]
  rw [e]
  refine (w32_in ?_ ?_).symm
  · rcases Int.le_total 0 x.toInt with z | z
    · have := h.1 z; omega
    · have := h.2 z; omega
  · rcases Int.le_total 0 x.toInt with z | z
    · have := h.1 z; omega
    · have := h.2 z; omega
theorem e_remJ (x y : Int64) : x.toInt.tmod y.toInt = (x - x / y * y).toInt := by
  have hb := i64_b x
  have h := tmod_abs x.toInt y.toInt
  have e : (x - x / y * y).toInt = w64 (x.toInt.tmod y.toInt) := by
    rw [Int64.toInt_sub, Int64.toInt_mul, Int64.toInt_div, Int.sub_bmod_bmod, ← w64_t, tmod_lt']
    rw [Int.bmod_def (x := x.toInt - _), Int.bmod_def (x := x.toInt - _)]
    have k : (x.toInt - (x.toInt.tdiv y.toInt).bmod (2 ^ 64) * y.toInt) % ((2 ^ 64 : Nat) : Int) = (x.toInt - x.toInt.tdiv y.toInt * y.toInt) % ((2 ^ 64 : Nat) : Int) := by
      rw [Int.sub_emod, Int.sub_emod x.toInt (x.toInt.tdiv y.toInt * y.toInt)]
      congr 2
      rw [Int.mul_emod, Int.mul_emod (x.toInt.tdiv y.toInt), Int.bmod_emod]
    rw [k]
  rw [e]
  refine (w64_in ?_ ?_).symm
  · rcases Int.le_total 0 x.toInt with z | z
    · have := h.1 z; omega
    · have := h.2 z; omega
  · rcases Int.le_total 0 x.toInt with z | z
    · have := h.1 z; omega
    · have := h.2 z; omega
theorem e_i2l (x : Int32) : x.toInt = x.toInt64.toInt := by simp
theorem e_l2i (x : Int64) : w32 x.toInt = x.toInt32.toInt := by rw [Int64.toInt_toInt32, w32_t]
theorem e_i2b (x : Int32) : w8 x.toInt = x.toInt8.toInt32.toInt := by rw [lg_i2b_toInt, w8_t]
theorem e_i2s (x : Int32) : w16 x.toInt = x.toInt16.toInt32.toInt := by rw [Int16.toInt_toInt32, Int32.toInt_toInt16, w16_t]
theorem e_cmp (x y : Int64) : fCmp x.toInt y.toInt = (lg_cmp x y).toInt := by
  unfold fCmp lg_cmp
  simp only [gt_iff_lt, Int64.lt_iff_toInt_lt, ← Int64.toInt_inj]
  split
  · rfl
  · split <;> rfl
theorem e_cnd (c : Jvm.ClassFile.Cond) (x y : Int32) : (c = .eq → (cnd c x.toInt y.toInt = true ↔ x = y)) ∧ (c = .ne → (cnd c x.toInt y.toInt = true ↔ ¬ x = y)) ∧ (c = .lt → (cnd c x.toInt y.toInt = true ↔ x < y)) ∧ (c = .ge → (cnd c x.toInt y.toInt = true ↔ y ≤ x)) ∧ (c = .gt → (cnd c x.toInt y.toInt = true ↔ y < x)) ∧ (c = .le → (cnd c x.toInt y.toInt = true ↔ x ≤ y)) := by
  refine ⟨?_, ?_, ?_, ?_, ?_, ?_⟩ <;> (intro h; subst h; simp only [cnd, decide_eq_true_eq, Int32.lt_iff_toInt_lt, Int32.le_iff_toInt_le, ← Int32.toInt_inj])
theorem q1_of {n k : Nat} {y : Option SR} {x : SR} (h : q1 n k y = some x) : n = k ∧ y = some x := by
  unfold q1 at h
  cases hb : Nat.beq n k with
  | true => rw [hb] at h; exact ⟨Nat.eq_of_beq_eq_true hb, h⟩
  | false => rw [hb] at h; cases h
theorem tg_of {pc t : Nat} {off : Int} (h : tg pc off = some t) : (pc : Int) + off = (t : Int) := by
  unfold tg at h
  split at h
  · cases h; omega
  · cases h
theorem if_t0 {cc : Jvm.ClassFile.Cond} {off a : Int} {pc : Nat} {al st : List AV} {h : AH} {x : SR} (q : hIf cc off pc al (Sum.inl a :: st) h = some x) : ∃ t0 : Nat, (pc : Int) + off = (t0 : Int) ∧ (bif cnd cc a 0 then gS t0 al st h else gS (pc + 3) al st h) = some x := by
  unfold hIf at q
  cases htg : tg pc off with
  | none => rw [htg] at q; cases q
  | some t => rw [htg] at q; exact ⟨t, tg_of htg, q⟩
theorem cmp_t0 {cc : Jvm.ClassFile.Cond} {off a b : Int} {pc : Nat} {al st : List AV} {h : AH} {x : SR} (q : hCmp cc off pc al (Sum.inl b :: Sum.inl a :: st) h = some x) : ∃ t0 : Nat, (pc : Int) + off = (t0 : Int) ∧ (bif cnd cc a b then gS t0 al st h else gS (pc + 3) al st h) = some x := by
  unfold hCmp at q
  cases htg : tg pc off with
  | none => rw [htg] at q; cases q
  | some t => rw [htg] at q; exact ⟨t, tg_of htg, q⟩
theorem bif_of {b : Bool} {y : Option SR} {x : SR} (h : (bif b then y else none) = some x) : b = true ∧ y = some x := by
  cases b with
  | true => exact ⟨rfl, h⟩
  | false => cases h
theorem ite_of {c : Prop} [Decidable c] {y : Option SR} {x : SR} (h : (if c then y else none) = some x) : c ∧ y = some x := by
  split at h
  · exact ⟨‹_›, h⟩
  · cases h


section SND
variable {p : Program} {l : Launch} {e : Env} {R : Room} {s : State} {m : MethodId} {args : Array Value} {below : List Frame} {meth : Method} {c : Code} {Q : State → Prop} {D : va_G} {A : Nat → Prop} {H0 : Heap} {N0 : List Nat} {n0 m0 : Nat} {M : MI}
/-- the machine, at a point that stands for this one of the number machine, comes to a state with Q -/
def WX (p : Program) (l : Launch) (e : Env) (R : Room) (s : State) (m : MethodId) (args : Array Value) (below : List Frame) (meth : Method) (c : Code) (Q : State → Prop) (D : va_G) (A : Nat → Prop) (H0 : Heap) (N0 : List Nat) (n0 m0 : Nat) (M : MI) (pc : Nat) (al st : List AV) (h : AH) : Prop :=
  ∀ (tys : List (ClassId × FieldType)) (ws : va_W) (H : Heap) (locs : List Loc) (cells slots : Nat) (ls : Array Slot) (rst : List Value),
    va_K D vwA tys s → hr tys ws h → px N0 (nu ws) → va_P D vwA ws H → va_D A ws → va_S A H0 H locs → lr (nu ws) (mL M) al ls → sr (nu ws) st rst → cells + n0 ≤ h.length → slots + m0 ≤ slt h →
    W p l e R s m args below meth c H locs cells slots Q (F0 m pc ls rst)
/-- what holds all along a method -/
def CX (p : Program) (R : Room) (s : State) (m : MethodId) (args : Array Value) (meth : Method) (c : Code) (A : Nat → Prop) (H0 : Heap) (M : MI) : Prop :=
  p.tables.exec = Jvm.exec ∧ c.code = mC M ∧ c.maxLocals = mL M ∧ meth.sig.returnType = mT M ∧ s.vm.findClass (clsN (mK M)) = some m.cls ∧ (∀ w ∈ wAll, w.before args s = true) ∧ meth.locks = false ∧ meth.name = (mY M).name ∧ KN s ∧ mR M ≤ R.frames ∧ mW M ≤ R.locals ∧ (∀ q, H0.size ≤ q → A q)
theorem s_go {pc1 : Nat} {al1 st1 : List AV} {h1 : AH} {x : SR} (hq : gS pc1 al1 st1 h1 = some x) (hk : ∀ pc' al' st' h', x = Sum.inl (pc', al', st', h') → WX p l e R s m args below meth c Q D A H0 N0 n0 m0 M pc' al' st' h') : WX p l e R s m args below meth c Q D A H0 N0 n0 m0 M pc1 al1 st1 h1 := hk pc1 al1 st1 h1 (Option.some.inj hq).symm

theorem s_B32 (C : CX p R s m args meth c A H0 M) {pc : Nat} {al st : List AV} {h : AH} {x : SR} {f : Int → Int → Int} {F : Int32 → Int32 → Int32} (hf : ∀ x y : Int32, f x.toInt y.toInt = (F x y).toInt) (row : ∀ {H : Heap} {locs : List Loc} {cells slots : Nat} {ls : Array Slot} {rest : List Value} {x y : Int32},  W p l e R s m args below meth c H locs cells slots Q (F0 m (pc + 1) ls (.int (F x y) :: rest)) → W p l e R s m args below meth c H locs cells slots Q (F0 m pc ls (.int y :: .int x :: rest))) (hst : hB32 f pc al st h = some x) (hk : ∀ pc' al' st' h', x = Sum.inl (pc', al', st', h') → WX p l e R s m args below meth c Q D A H0 N0 n0 m0 M pc' al' st' h') : WX p l e R s m args below meth c Q D A H0 N0 n0 m0 M pc al st h := by
  obtain ⟨hx, hb, hml, hrt, hown, hts, hlo, hnm, hkn, hRf, hRl, hA⟩ := C
  match st, hst with
  | Sum.inl b :: Sum.inl a :: st', hst =>
    have k := s_go hst hk
    intro tys ws H locs cells slots ls rst hK hh hpx hP hD hS hl hs hc1 hc2
    match rst, hs with
    | Y :: Z :: T, ⟨⟨y, hy, ey⟩, ⟨z, hz, ez⟩, hT⟩ =>
      subst hy; subst hz
      exact row  (k tys ws H locs cells slots ls _ hK hh hpx hP hD hS hl ⟨⟨_, rfl, by rw [ey, ez]; exact hf _ _⟩, hT⟩ hc1 hc2)
    | [_], h => exact h.2.elim
    | [], h => exact h.elim

theorem s_B64 (C : CX p R s m args meth c A H0 M) {pc : Nat} {al st : List AV} {h : AH} {x : SR} {f : Int → Int → Int} {F : Int64 → Int64 → Int64} (hf : ∀ x y : Int64, f x.toInt y.toInt = (F x y).toInt) (row : ∀ {H : Heap} {locs : List Loc} {cells slots : Nat} {ls : Array Slot} {rest : List Value} {x y : Int64},  W p l e R s m args below meth c H locs cells slots Q (F0 m (pc + 1) ls (.long (F x y) :: rest)) → W p l e R s m args below meth c H locs cells slots Q (F0 m pc ls (.long y :: .long x :: rest))) (hst : hB64 f pc al st h = some x) (hk : ∀ pc' al' st' h', x = Sum.inl (pc', al', st', h') → WX p l e R s m args below meth c Q D A H0 N0 n0 m0 M pc' al' st' h') : WX p l e R s m args below meth c Q D A H0 N0 n0 m0 M pc al st h := by
  obtain ⟨hx, hb, hml, hrt, hown, hts, hlo, hnm, hkn, hRf, hRl, hA⟩ := C
  match st, hst with
  | Sum.inr (Sum.inl b) :: Sum.inr (Sum.inl a) :: st', hst =>
    have k := s_go hst hk
    intro tys ws H locs cells slots ls rst hK hh hpx hP hD hS hl hs hc1 hc2
    match rst, hs with
    | Y :: Z :: T, ⟨⟨y, hy, ey⟩, ⟨z, hz, ez⟩, hT⟩ =>
      subst hy; subst hz
      exact row  (k tys ws H locs cells slots ls _ hK hh hpx hP hD hS hl ⟨⟨_, rfl, by rw [ey, ez]; exact hf _ _⟩, hT⟩ hc1 hc2)
    | [_], h => exact h.2.elim
    | [], h => exact h.elim

theorem s_D32 (C : CX p R s m args meth c A H0 M) {pc : Nat} {al st : List AV} {h : AH} {x : SR} {f : Int → Int → Int} {F : Int32 → Int32 → Int32} (hf : ∀ x y : Int32, f x.toInt y.toInt = (F x y).toInt) (row : ∀ {H : Heap} {locs : List Loc} {cells slots : Nat} {ls : Array Slot} {rest : List Value} {x y : Int32}, ¬ y = 0 → W p l e R s m args below meth c H locs cells slots Q (F0 m (pc + 1) ls (.int (F x y) :: rest)) → W p l e R s m args below meth c H locs cells slots Q (F0 m pc ls (.int y :: .int x :: rest))) (hst : hD32 f pc al st h = some x) (hk : ∀ pc' al' st' h', x = Sum.inl (pc', al', st', h') → WX p l e R s m args below meth c Q D A H0 N0 n0 m0 M pc' al' st' h') : WX p l e R s m args below meth c Q D A H0 N0 n0 m0 M pc al st h := by
  obtain ⟨hx, hb, hml, hrt, hown, hts, hlo, hnm, hkn, hRf, hRl, hA⟩ := C
  match st, hst with
  | Sum.inl b :: Sum.inl a :: st', hst =>
    obtain ⟨hb0, hst⟩ : ¬ b = 0 ∧ gS (pc + 1) al (aI (f a b) :: st') h = some x := by
      unfold hD32 at hst
      simp only at hst
      split at hst
      · cases hst
      · exact ⟨‹_›, hst⟩
    have k := s_go hst hk
    intro tys ws H locs cells slots ls rst hK hh hpx hP hD hS hl hs hc1 hc2
    match rst, hs with
    | Y :: Z :: T, ⟨⟨y, hy, ey⟩, ⟨z, hz, ez⟩, hT⟩ =>
      subst hy; subst hz
      exact row (fun z0 => hb0 (by rw [ey, z0]; rfl)) (k tys ws H locs cells slots ls _ hK hh hpx hP hD hS hl ⟨⟨_, rfl, by rw [ey, ez]; exact hf _ _⟩, hT⟩ hc1 hc2)
    | [_], h => exact h.2.elim
    | [], h => exact h.elim

theorem s_D64 (C : CX p R s m args meth c A H0 M) {pc : Nat} {al st : List AV} {h : AH} {x : SR} {f : Int → Int → Int} {F : Int64 → Int64 → Int64} (hf : ∀ x y : Int64, f x.toInt y.toInt = (F x y).toInt) (row : ∀ {H : Heap} {locs : List Loc} {cells slots : Nat} {ls : Array Slot} {rest : List Value} {x y : Int64}, ¬ y = 0 → W p l e R s m args below meth c H locs cells slots Q (F0 m (pc + 1) ls (.long (F x y) :: rest)) → W p l e R s m args below meth c H locs cells slots Q (F0 m pc ls (.long y :: .long x :: rest))) (hst : hD64 f pc al st h = some x) (hk : ∀ pc' al' st' h', x = Sum.inl (pc', al', st', h') → WX p l e R s m args below meth c Q D A H0 N0 n0 m0 M pc' al' st' h') : WX p l e R s m args below meth c Q D A H0 N0 n0 m0 M pc al st h := by
  obtain ⟨hx, hb, hml, hrt, hown, hts, hlo, hnm, hkn, hRf, hRl, hA⟩ := C
  match st, hst with
  | Sum.inr (Sum.inl b) :: Sum.inr (Sum.inl a) :: st', hst =>
    obtain ⟨hb0, hst⟩ : ¬ b = 0 ∧ gS (pc + 1) al (aJ (f a b) :: st') h = some x := by
      unfold hD64 at hst
      simp only at hst
      split at hst
      · cases hst
      · exact ⟨‹_›, hst⟩
    have k := s_go hst hk
    intro tys ws H locs cells slots ls rst hK hh hpx hP hD hS hl hs hc1 hc2
    match rst, hs with
    | Y :: Z :: T, ⟨⟨y, hy, ey⟩, ⟨z, hz, ez⟩, hT⟩ =>
      subst hy; subst hz
      exact row (fun z0 => hb0 (by rw [ey, z0]; rfl)) (k tys ws H locs cells slots ls _ hK hh hpx hP hD hS hl ⟨⟨_, rfl, by rw [ey, ez]; exact hf _ _⟩, hT⟩ hc1 hc2)
    | [_], h => exact h.2.elim
    | [], h => exact h.elim

theorem s_U32 (C : CX p R s m args meth c A H0 M) {pc : Nat} {al st : List AV} {h : AH} {x : SR} {f : Int → AV} {F : Int32 → Value} (hf : ∀ (N : List Nat) (y : Int32), vr N (f y.toInt) (F y)) (row : ∀ {H : Heap} {locs : List Loc} {cells slots : Nat} {ls : Array Slot} {rest : List Value} {y : Int32}, W p l e R s m args below meth c H locs cells slots Q (F0 m (pc + 1) ls (F y :: rest)) → W p l e R s m args below meth c H locs cells slots Q (F0 m pc ls (.int y :: rest))) (hst : hU32 f pc al st h = some x) (hk : ∀ pc' al' st' h', x = Sum.inl (pc', al', st', h') → WX p l e R s m args below meth c Q D A H0 N0 n0 m0 M pc' al' st' h') : WX p l e R s m args below meth c Q D A H0 N0 n0 m0 M pc al st h := by
  obtain ⟨hx, hb, hml, hrt, hown, hts, hlo, hnm, hkn, hRf, hRl, hA⟩ := C
  match st, hst with
  | Sum.inl a :: st', hst =>
    have k := s_go hst hk
    intro tys ws H locs cells slots ls rst hK hh hpx hP hD hS hl hs hc1 hc2
    match rst, hs with
    | Y :: T, ⟨⟨y, hy, ey⟩, hT⟩ =>
      subst hy
      exact row (k tys ws H locs cells slots ls _ hK hh hpx hP hD hS hl ⟨by rw [ey]; exact hf _ _, hT⟩ hc1 hc2)
    | [], h => exact h.elim

theorem s_U64 (C : CX p R s m args meth c A H0 M) {pc : Nat} {al st : List AV} {h : AH} {x : SR} {f : Int → AV} {F : Int64 → Value} (hf : ∀ (N : List Nat) (y : Int64), vr N (f y.toInt) (F y)) (row : ∀ {H : Heap} {locs : List Loc} {cells slots : Nat} {ls : Array Slot} {rest : List Value} {y : Int64}, W p l e R s m args below meth c H locs cells slots Q (F0 m (pc + 1) ls (F y :: rest)) → W p l e R s m args below meth c H locs cells slots Q (F0 m pc ls (.long y :: rest))) (hst : hU64 f pc al st h = some x) (hk : ∀ pc' al' st' h', x = Sum.inl (pc', al', st', h') → WX p l e R s m args below meth c Q D A H0 N0 n0 m0 M pc' al' st' h') : WX p l e R s m args below meth c Q D A H0 N0 n0 m0 M pc al st h := by
  obtain ⟨hx, hb, hml, hrt, hown, hts, hlo, hnm, hkn, hRf, hRl, hA⟩ := C
  match st, hst with
  | Sum.inr (Sum.inl a) :: st', hst =>
    have k := s_go hst hk
    intro tys ws H locs cells slots ls rst hK hh hpx hP hD hS hl hs hc1 hc2
    match rst, hs with
    | Y :: T, ⟨⟨y, hy, ey⟩, hT⟩ =>
      subst hy
      exact row (k tys ws H locs cells slots ls _ hK hh hpx hP hD hS hl ⟨by rw [ey]; exact hf _ _, hT⟩ hc1 hc2)
    | [], h => exact h.elim

theorem s_push (C : CX p R s m args meth c A H0 M) {pc : Nat} {al st : List AV} {h : AH} {x : SR} {v : AV} {V : Value} {n : Nat} (hv : ∀ N : List Nat, vr N v V) (row : ∀ {H : Heap} {locs : List Loc} {cells slots : Nat} {ls : Array Slot} {rest : List Value}, W p l e R s m args below meth c H locs cells slots Q (F0 m (pc + n) ls (V :: rest)) → W p l e R s m args below meth c H locs cells slots Q (F0 m pc ls rest)) (hst : gS (pc + n) al (v :: st) h = some x) (hk : ∀ pc' al' st' h', x = Sum.inl (pc', al', st', h') → WX p l e R s m args below meth c Q D A H0 N0 n0 m0 M pc' al' st' h') : WX p l e R s m args below meth c Q D A H0 N0 n0 m0 M pc al st h := by
  obtain ⟨hx, hb, hml, hrt, hown, hts, hlo, hnm, hkn, hRf, hRl, hA⟩ := C
  have k := s_go hst hk
  intro tys ws H locs cells slots ls rst hK hh hpx hP hD hS hl hs hc1 hc2
  exact row (k tys ws H locs cells slots ls _ hK hh hpx hP hD hS hl ⟨hv _, hs⟩ hc1 hc2)

theorem s_LI (C : CX p R s m args meth c A H0 M) {pc : Nat} {al st : List AV} {h : AH} {x : SR} {k n : Nat} (row : ∀ {H : Heap} {locs : List Loc} {cells slots : Nat} {ls : Array Slot} {rest : List Value} {x : Int32}, ls[k]? = some (.val (.int x)) → W p l e R s m args below meth c H locs cells slots Q (F0 m (pc + n) ls (.int x :: rest)) → W p l e R s m args below meth c H locs cells slots Q (F0 m pc ls rest)) (hst : hLI k n pc al st h = some x) (hk : ∀ pc' al' st' h', x = Sum.inl (pc', al', st', h') → WX p l e R s m args below meth c Q D A H0 N0 n0 m0 M pc' al' st' h') : WX p l e R s m args below meth c Q D A H0 N0 n0 m0 M pc al st h := by
  obtain ⟨hx, hb, hml, hrt, hown, hts, hlo, hnm, hkn, hRf, hRl, hA⟩ := C
  unfold hLI at hst
  cases hv : al[k]? with
  | none => rw [hv] at hst; cases hst
  | some v =>
    rw [hv] at hst
    match v, hv, hst with
    | Sum.inl z, hv, hst =>
      have kk := s_go hst hk
      intro tys ws H locs cells slots ls rst hK hh hpx hP hD hS hl hs hc1 hc2
      obtain ⟨V, h1, ⟨y, hy, ey⟩⟩ := hl.ld hv (fun q => by cases q)
      subst hy
      exact row h1 (kk tys ws H locs cells slots ls _ hK hh hpx hP hD hS hl ⟨⟨y, rfl, ey⟩, hs⟩ hc1 hc2)

theorem s_LJ (C : CX p R s m args meth c A H0 M) {pc : Nat} {al st : List AV} {h : AH} {x : SR} {k n : Nat} (row : ∀ {H : Heap} {locs : List Loc} {cells slots : Nat} {ls : Array Slot} {rest : List Value} {x : Int64}, ls[k]? = some (.val (.long x)) → W p l e R s m args below meth c H locs cells slots Q (F0 m (pc + n) ls (.long x :: rest)) → W p l e R s m args below meth c H locs cells slots Q (F0 m pc ls rest)) (hst : hLJ k n pc al st h = some x) (hk : ∀ pc' al' st' h', x = Sum.inl (pc', al', st', h') → WX p l e R s m args below meth c Q D A H0 N0 n0 m0 M pc' al' st' h') : WX p l e R s m args below meth c Q D A H0 N0 n0 m0 M pc al st h := by
  obtain ⟨hx, hb, hml, hrt, hown, hts, hlo, hnm, hkn, hRf, hRl, hA⟩ := C
  unfold hLJ at hst
  cases hv : al[k]? with
  | none => rw [hv] at hst; cases hst
  | some v =>
    rw [hv] at hst
    match v, hv, hst with
    | Sum.inr (Sum.inl z), hv, hst =>
      have kk := s_go hst hk
      intro tys ws H locs cells slots ls rst hK hh hpx hP hD hS hl hs hc1 hc2
      obtain ⟨V, h1, ⟨y, hy, ey⟩⟩ := hl.ld hv (fun q => by cases q)
      subst hy
      exact row h1 (kk tys ws H locs cells slots ls _ hK hh hpx hP hD hS hl ⟨⟨y, rfl, ey⟩, hs⟩ hc1 hc2)

theorem s_LR (C : CX p R s m args meth c A H0 M) {pc : Nat} {al st : List AV} {h : AH} {x : SR} {k n : Nat} (row : ∀ {H : Heap} {locs : List Loc} {cells slots : Nat} {ls : Array Slot} {rest : List Value} {x : Nat}, ls[k]? = some (.val (.ref x)) → W p l e R s m args below meth c H locs cells slots Q (F0 m (pc + n) ls (.ref x :: rest)) → W p l e R s m args below meth c H locs cells slots Q (F0 m pc ls rest)) (rowN : ∀ {H : Heap} {locs : List Loc} {cells slots : Nat} {ls : Array Slot} {rest : List Value}, ls[k]? = some (.val .null) → W p l e R s m args below meth c H locs cells slots Q (F0 m (pc + n) ls (.null :: rest)) → W p l e R s m args below meth c H locs cells slots Q (F0 m pc ls rest)) (hst : hLR k n pc al st h = some x) (hk : ∀ pc' al' st' h', x = Sum.inl (pc', al', st', h') → WX p l e R s m args below meth c Q D A H0 N0 n0 m0 M pc' al' st' h') : WX p l e R s m args below meth c Q D A H0 N0 n0 m0 M pc al st h := by
  obtain ⟨hx, hb, hml, hrt, hown, hts, hlo, hnm, hkn, hRf, hRl, hA⟩ := C
  unfold hLR at hst
  cases hv : al[k]? with
  | none => rw [hv] at hst; cases hst
  | some v =>
    rw [hv] at hst
    match v, hv, hst with
    | Sum.inr (Sum.inr (Sum.inl none)), hv, hst =>
      have kk := s_go hst hk
      intro tys ws H locs cells slots ls rst hK hh hpx hP hD hS hl hs hc1 hc2
      obtain ⟨V, h1, hy⟩ := hl.ld hv (fun q => by cases q)
      cases hy
      exact rowN h1 (kk tys ws H locs cells slots ls _ hK hh hpx hP hD hS hl ⟨rfl, hs⟩ hc1 hc2)
    | Sum.inr (Sum.inr (Sum.inl (some r))), hv, hst =>
      have kk := s_go hst hk
      intro tys ws H locs cells slots ls rst hK hh hpx hP hD hS hl hs hc1 hc2
      obtain ⟨V, h1, ⟨y, hy, ey⟩⟩ := hl.ld hv (fun q => by cases q)
      subst hy
      exact row h1 (kk tys ws H locs cells slots ls _ hK hh hpx hP hD hS hl ⟨⟨y, rfl, ey⟩, hs⟩ hc1 hc2)

theorem s_SI (C : CX p R s m args meth c A H0 M) {pc : Nat} {al st : List AV} {h : AH} {x : SR} {k n : Nat} (row : ∀ {H : Heap} {locs : List Loc} {cells slots : Nat} {ls : Array Slot} {rest : List Value} {x : Int32} {lv lv' : List (Nat × Value)}, lv_has ls (mL M) lv → k < mL M → (k, Value.int x) :: lv.filter (fun q => !(q.1 == k) && !(q.1 + 1 == k && q.2.category == 2)) = lv' → (∀ ls' : Array Slot, lv_has ls' (mL M) lv' → W p l e R s m args below meth c H locs cells slots Q (F0 m (pc + n) ls' rest)) → W p l e R s m args below meth c H locs cells slots Q (F0 m pc ls (.int x :: rest))) (hst : hSI k n pc al st h = some x) (hk : ∀ pc' al' st' h', x = Sum.inl (pc', al', st', h') → WX p l e R s m args below meth c Q D A H0 N0 n0 m0 M pc' al' st' h') : WX p l e R s m args below meth c Q D A H0 N0 n0 m0 M pc al st h := by
  obtain ⟨hx, hb, hml, hrt, hown, hts, hlo, hnm, hkn, hRf, hRl, hA⟩ := C
  match st, hst with
  | Sum.inl z :: st', hst =>
    unfold hSI at hst
    obtain ⟨hk0, hst⟩ := bif_of hst
    have hk0 := Nat.lt_of_lt_of_le (Nat.le_of_ble_eq_true hk0) (Nat.le_refl _)
    have kk := s_go hst hk
    intro tys ws H locs cells slots ls rst hK hh hpx hP hD hS hl hs hc1 hc2
    match rst, hs with
    | Y :: T, ⟨⟨y, hy, ey⟩, hT⟩ =>
      subst hy
      obtain ⟨h0, lv, h1, h2⟩ := hl
      exact row h1 (by rw [← h0]; exact hk0) rfl fun ls' h3 => kk tys ws H locs cells slots ls' _ hK hh hpx hP hD hS (lr.s1 (v := aI z) (V := Value.int y) h0 h2 hk0 ⟨y, rfl, ey⟩ h3) hT hc1 hc2
    | [], h => exact h.elim

theorem s_SJ (C : CX p R s m args meth c A H0 M) {pc : Nat} {al st : List AV} {h : AH} {x : SR} {k n : Nat} (row : ∀ {H : Heap} {locs : List Loc} {cells slots : Nat} {ls : Array Slot} {rest : List Value} {x : Int64} {lv lv' : List (Nat × Value)}, lv_has ls (mL M) lv → k + 1 < mL M → (k, Value.long x) :: lv.filter (fun q => !(q.1 == k) && (!(q.1 == k + 1) && !(q.1 + 1 == k && q.2.category == 2))) = lv' → (∀ ls' : Array Slot, lv_has ls' (mL M) lv' → W p l e R s m args below meth c H locs cells slots Q (F0 m (pc + n) ls' rest)) → W p l e R s m args below meth c H locs cells slots Q (F0 m pc ls (.long x :: rest))) (hst : hSJ k n pc al st h = some x) (hk : ∀ pc' al' st' h', x = Sum.inl (pc', al', st', h') → WX p l e R s m args below meth c Q D A H0 N0 n0 m0 M pc' al' st' h') : WX p l e R s m args below meth c Q D A H0 N0 n0 m0 M pc al st h := by
  obtain ⟨hx, hb, hml, hrt, hown, hts, hlo, hnm, hkn, hRf, hRl, hA⟩ := C
  match st, hst with
  | Sum.inr (Sum.inl z) :: st', hst =>
    unfold hSJ at hst
    obtain ⟨hk0, hst⟩ := bif_of hst
    have hk0 := Nat.lt_of_lt_of_le (Nat.le_of_ble_eq_true hk0) (Nat.le_refl _)
    have kk := s_go hst hk
    intro tys ws H locs cells slots ls rst hK hh hpx hP hD hS hl hs hc1 hc2
    match rst, hs with
    | Y :: T, ⟨⟨y, hy, ey⟩, hT⟩ =>
      subst hy
      obtain ⟨h0, lv, h1, h2⟩ := hl
      exact row h1 (by rw [← h0]; exact hk0) rfl fun ls' h3 => kk tys ws H locs cells slots ls' _ hK hh hpx hP hD hS (lr.s2 (v := aJ z) (V := Value.long y) h0 h2 hk0 ⟨y, rfl, ey⟩ h3) hT hc1 hc2
    | [], h => exact h.elim

theorem s_SR (C : CX p R s m args meth c A H0 M) {pc : Nat} {al st : List AV} {h : AH} {x : SR} {k n : Nat} (row : ∀ {H : Heap} {locs : List Loc} {cells slots : Nat} {ls : Array Slot} {rest : List Value} {x : Nat} {lv lv' : List (Nat × Value)}, lv_has ls (mL M) lv → k < mL M → (k, Value.ref x) :: lv.filter (fun q => !(q.1 == k) && !(q.1 + 1 == k && q.2.category == 2)) = lv' → (∀ ls' : Array Slot, lv_has ls' (mL M) lv' → W p l e R s m args below meth c H locs cells slots Q (F0 m (pc + n) ls' rest)) → W p l e R s m args below meth c H locs cells slots Q (F0 m pc ls (.ref x :: rest))) (rowN : ∀ {H : Heap} {locs : List Loc} {cells slots : Nat} {ls : Array Slot} {rest : List Value} {lv lv' : List (Nat × Value)}, lv_has ls (mL M) lv → k < mL M → (k, Value.null) :: lv.filter (fun q => !(q.1 == k) && !(q.1 + 1 == k && q.2.category == 2)) = lv' → (∀ ls' : Array Slot, lv_has ls' (mL M) lv' → W p l e R s m args below meth c H locs cells slots Q (F0 m (pc + n) ls' rest)) → W p l e R s m args below meth c H locs cells slots Q (F0 m pc ls (.null :: rest))) (hst : hSR k n pc al st h = some x) (hk : ∀ pc' al' st' h', x = Sum.inl (pc', al', st', h') → WX p l e R s m args below meth c Q D A H0 N0 n0 m0 M pc' al' st' h') : WX p l e R s m args below meth c Q D A H0 N0 n0 m0 M pc al st h := by
  obtain ⟨hx, hb, hml, hrt, hown, hts, hlo, hnm, hkn, hRf, hRl, hA⟩ := C
  match st, hst with
  | Sum.inr (Sum.inr (Sum.inl r)) :: st', hst =>
    unfold hSR at hst
    obtain ⟨hk0, hst⟩ := bif_of hst
    have hk0 := Nat.lt_of_lt_of_le (Nat.le_of_ble_eq_true hk0) (Nat.le_refl _)
    have kk := s_go hst hk
    intro tys ws H locs cells slots ls rst hK hh hpx hP hD hS hl hs hc1 hc2
    match r, rst, hs, kk with
    | some r, Y :: T, ⟨⟨y, hy, ey⟩, hT⟩, kk =>
      subst hy
      obtain ⟨h0, lv, h1, h2⟩ := hl
      exact row h1 (by rw [← h0]; exact hk0) rfl fun ls' h3 => kk tys ws H locs cells slots ls' _ hK hh hpx hP hD hS (lr.s1 (v := aR (some r)) (V := .ref y) h0 h2 hk0 ⟨y, rfl, ey⟩ h3) hT hc1 hc2
    | none, Y :: T, ⟨hy, hT⟩, kk =>
      cases hy
      obtain ⟨h0, lv, h1, h2⟩ := hl
      exact rowN h1 (by rw [← h0]; exact hk0) rfl fun ls' h3 => kk tys ws H locs cells slots ls' _ hK hh hpx hP hD hS (lr.s1 (v := aR none) (V := .null) h0 h2 hk0 rfl h3) hT hc1 hc2
    | _, [], h, _ => exact h.elim

theorem s_Inc (C : CX p R s m args meth c A H0 M) {pc : Nat} {al st : List AV} {h : AH} {x : SR} {k : Nat} {d : Int} (hd : decode (mC M) pc = .ok (.iinc k d, 3)) (hst : hInc k d pc al st h = some x) (hk : ∀ pc' al' st' h', x = Sum.inl (pc', al', st', h') → WX p l e R s m args below meth c Q D A H0 N0 n0 m0 M pc' al' st' h') : WX p l e R s m args below meth c Q D A H0 N0 n0 m0 M pc al st h := by
  obtain ⟨hx, hb, hml, hrt, hown, hts, hlo, hnm, hkn, hRf, hRl, hA⟩ := C
  unfold hInc at hst
  cases hv : al[k]? with
  | none => rw [hv] at hst; cases hst
  | some v =>
    rw [hv] at hst
    match v, hv, hst with
    | Sum.inl z, hv, hst =>
      have kk := s_go hst hk
      intro tys ws H locs cells slots ls rst hK hh hpx hP hD hS hl hs hc1 hc2
      have hlt := (List.getElem?_eq_some_iff.mp hv).1
      obtain ⟨h0, lv, h1, h2⟩ := hl
      rcases h2 k _ hv with q | ⟨V, h3, ⟨y, hy, ey⟩⟩
      · cases q
      · subst hy
        obtain ⟨j, hj⟩ := List.getElem?_of_mem h3
        refine lv_iinc (v := y + Int32.ofInt d) hx hb hd h1 hj rfl (by rw [← h0]; exact hlt) rfl fun ls' h4 => kk tys ws H locs cells slots ls' _ hK hh hpx hP hD hS (lr.s1 (v := aI (w32 (z + d))) (V := .int (y + Int32.ofInt d)) h0 h2 hlt ⟨_, rfl, ?_⟩ h4) hs hc1 hc2
        rw [Int32.toInt_add, Int32.toInt_ofInt, Int.add_bmod_bmod, w32_t, ey]

theorem s_If (C : CX p R s m args meth c A H0 M) {pc : Nat} {al st : List AV} {h : AH} {x : SR} {cc : Jvm.ClassFile.Cond} {off : Int} (hd : decode (mC M) pc = .ok (.ifCond cc off, 3))  (hst : hIf cc off pc al st h = some x) (hk : ∀ pc' al' st' h', x = Sum.inl (pc', al', st', h') → WX p l e R s m args below meth c Q D A H0 N0 n0 m0 M pc' al' st' h') : WX p l e R s m args below meth c Q D A H0 N0 n0 m0 M pc al st h := by
  obtain ⟨hx, hb, hml, hrt, hown, hts, hlo, hnm, hkn, hRf, hRl, hA⟩ := C
  match st, hst with
  | Sum.inl a :: st', hst =>
    obtain ⟨t0, ht0, hst⟩ := if_t0 hst
    intro tys ws H locs cells slots ls rst hK hh hpx hP hD hS hl hs hc1 hc2
    match rst, hs with
    | Y :: T, ⟨⟨y, hy, ey⟩, hT⟩ =>
      subst hy
      have hce := e_cnd cc y 0
      rw [← ey, show (0 : Int32).toInt = 0 from rfl] at hce
      have kt : cnd cc a 0 = true → W p l e R s m args below meth c H locs cells slots Q (F0 m t0 ls T) := by
        intro hcn
        simp only [hcn, cond_true] at hst
        exact s_go hst hk tys ws H locs cells slots ls _ hK hh hpx hP hD hS hl hT hc1 hc2
      have kf : cnd cc a 0 = false → W p l e R s m args below meth c H locs cells slots Q (F0 m (pc + 3) ls T) := by
        intro hcn
        simp only [hcn, cond_false] at hst
        exact s_go hst hk tys ws H locs cells slots ls _ hK hh hpx hP hD hS hl hT hc1 hc2
      obtain ⟨c1, c2, c3, c4, c5, c6⟩ := hce
      have nb : ∀ {P : Prop}, (cnd cc a 0 = true ↔ P) → ¬ P → cnd cc a 0 = false := fun i n => by
        cases hq : cnd cc a 0 with
        | true => exact absurd (i.mp hq) n
        | false => rfl
      cases cc with
      | eq => exact lv_if_eq hx hb hd ht0 (fun q => kt ((c1 rfl).mpr q)) (fun q => kf (nb (c1 rfl) q))
      | ne => exact lv_if_ne hx hb hd ht0 (fun q => kt ((c2 rfl).mpr q)) (fun q => kf (nb (c2 rfl) (fun z => z q)))
      | lt => exact lv_if_lt hx hb hd ht0 (fun q => kt ((c3 rfl).mpr q)) (fun q => kf (nb (c3 rfl) q))
      | ge => exact lv_if_ge hx hb hd ht0 (fun q => kt ((c4 rfl).mpr q)) (fun q => kf (nb (c4 rfl) q))
      | gt => exact lv_if_gt hx hb hd ht0 (fun q => kt ((c5 rfl).mpr q)) (fun q => kf (nb (c5 rfl) q))
      | le => exact lv_if_le hx hb hd ht0 (fun q => kt ((c6 rfl).mpr q)) (fun q => kf (nb (c6 rfl) q))
    | [], h => exact h.elim

theorem s_Cmp (C : CX p R s m args meth c A H0 M) {pc : Nat} {al st : List AV} {h : AH} {x : SR} {cc : Jvm.ClassFile.Cond} {off : Int} (hd : decode (mC M) pc = .ok (.if_icmp cc off, 3))  (hst : hCmp cc off pc al st h = some x) (hk : ∀ pc' al' st' h', x = Sum.inl (pc', al', st', h') → WX p l e R s m args below meth c Q D A H0 N0 n0 m0 M pc' al' st' h') : WX p l e R s m args below meth c Q D A H0 N0 n0 m0 M pc al st h := by
  obtain ⟨hx, hb, hml, hrt, hown, hts, hlo, hnm, hkn, hRf, hRl, hA⟩ := C
  match st, hst with
  | Sum.inl b :: Sum.inl a :: st', hst =>
    obtain ⟨t0, ht0, hst⟩ := cmp_t0 hst
    intro tys ws H locs cells slots ls rst hK hh hpx hP hD hS hl hs hc1 hc2
    match rst, hs with
    | Y :: Z :: T, ⟨⟨y, hy, ey⟩, ⟨z, hz, ez⟩, hT⟩ =>
      subst hy; subst hz
      have hce := e_cnd cc z y
      rw [← ey, ← ez] at hce
      have kt : cnd cc a b = true → W p l e R s m args below meth c H locs cells slots Q (F0 m t0 ls T) := by
        intro hcn
        simp only [hcn, cond_true] at hst
        exact s_go hst hk tys ws H locs cells slots ls _ hK hh hpx hP hD hS hl hT hc1 hc2
      have kf : cnd cc a b = false → W p l e R s m args below meth c H locs cells slots Q (F0 m (pc + 3) ls T) := by
        intro hcn
        simp only [hcn, cond_false] at hst
        exact s_go hst hk tys ws H locs cells slots ls _ hK hh hpx hP hD hS hl hT hc1 hc2
      obtain ⟨c1, c2, c3, c4, c5, c6⟩ := hce
      have nb : ∀ {P : Prop}, (cnd cc a b = true ↔ P) → ¬ P → cnd cc a b = false := fun i n => by
        cases hq : cnd cc a b with
        | true => exact absurd (i.mp hq) n
        | false => rfl
      cases cc with
      | eq => exact lv_icmp_eq hx hb hd ht0 (fun q => kt ((c1 rfl).mpr q)) (fun q => kf (nb (c1 rfl) q))
      | ne => exact lv_icmp_ne hx hb hd ht0 (fun q => kt ((c2 rfl).mpr q)) (fun q => kf (nb (c2 rfl) (fun z => z q)))
      | lt => exact lv_icmp_lt hx hb hd ht0 (fun q => kt ((c3 rfl).mpr q)) (fun q => kf (nb (c3 rfl) q))
      | ge => exact lv_icmp_ge hx hb hd ht0 (fun q => kt ((c4 rfl).mpr q)) (fun q => kf (nb (c4 rfl) q))
      | gt => exact lv_icmp_gt hx hb hd ht0 (fun q => kt ((c5 rfl).mpr q)) (fun q => kf (nb (c5 rfl) q))
      | le => exact lv_icmp_le hx hb hd ht0 (fun q => kt ((c6 rfl).mpr q)) (fun q => kf (nb (c6 rfl) q))
    | [_], h => exact h.2.elim
    | [], h => exact h.elim

end SND
