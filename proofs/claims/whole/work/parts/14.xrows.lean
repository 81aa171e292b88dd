/-! ===== one instruction of the number machine, as an equation ===== -/
theorem stp_of {M : MI} {pc n : Nat} {i : Instr} {al st : List AV} {h : AH} (d : decode (mC M) pc = .ok (i, n)) : stp M pc al st h = stI M i n pc al st h := by
  unfold stp
  rw [d]
theorem X_of {M : MI} {pc n pc1 : Nat} {i : Instr} {al st al1 st1 : List AV} {h h1 : AH} (d : decode (mC M) pc = .ok (i, n)) (q : stI M i n pc al st h = gS pc1 al1 st1 h1) : X M pc al st h = X M pc1 al1 st1 h1 := X_go ((stp_of d).trans q)
theorem X_ofR {M : MI} {pc n : Nat} {i : Instr} {al st : List AV} {h h1 : AH} {r : Option AV} (d : decode (mC M) pc = .ok (i, n)) (q : stI M i n pc al st h = rS r h1) : X M pc al st h = some (r, h1) := X_ret ((stp_of d).trans q)
theorem X_none {M : MI} {pc : Nat} {al st : List AV} {h : AH} (q : stp M pc al st h = none) : X M pc al st h = none := by
  cases e : X M pc al st h with
  | none => rfl
  | some r =>
    obtain ⟨n, hn⟩ := X_iff.mp e
    cases n with
    | zero => cases hn
    | succ n =>
      rw [exec] at hn
      simp only [q] at hn
      cases hn
def gK (o : Option AV) (K : AV → Option RV) : Option RV := match o with
  | some v => K v
  | none => none
def pK (o : Option AV) (y : Option RV) : Option RV := match o with
  | some _ => y
  | none => none
def gL (o : Option Nat) (K : Int → Option RV) : Option RV := match o with
  | some n => K n
  | none => none
def cI (r : Option RV) (K : Int → AH → Option RV) : Option RV := match r with
  | some (some (Sum.inl z), h) => K z h
  | _ => none
def cJ (r : Option RV) (K : Int → AH → Option RV) : Option RV := match r with
  | some (some (Sum.inr (Sum.inl z)), h) => K z h
  | _ => none
def cR (r : Option RV) (K : Option Nat → AH → Option RV) : Option RV := match r with
  | some (some (Sum.inr (Sum.inr (Sum.inl z))), h) => K z h
  | _ => none
def cV (r : Option RV) (K : AH → Option RV) : Option RV := match r with
  | some (none, h) => K h
  | _ => none
theorem gK_of {o : Option AV} {v : AV} (q : o = some v) {K : AV → Option RV} : gK o K = K v := by rw [q]; rfl
theorem pK_of {o : Option AV} {v : AV} (q : o = some v) {y : Option RV} : pK o y = y := by rw [q]; rfl
theorem gL_of {o : Option Nat} {n : Nat} (q : o = some n) {K : Int → Option RV} : gL o K = K n := by rw [q]; rfl
theorem cI_of {r : Option RV} {z : Int} {h : AH} (q : r = some (some (aI z), h)) {K : Int → AH → Option RV} : cI r K = K z h := by rw [q]; rfl
theorem cJ_of {r : Option RV} {z : Int} {h : AH} (q : r = some (some (aJ z), h)) {K : Int → AH → Option RV} : cJ r K = K z h := by rw [q]; rfl
theorem cR_of {r : Option RV} {z : Option Nat} {h : AH} (q : r = some (some (aR z), h)) {K : Option Nat → AH → Option RV} : cR r K = K z h := by rw [q]; rfl
theorem cV_of {r : Option RV} {h : AH} (q : r = some (none, h)) {K : AH → Option RV} : cV r K = K h := by rw [q]; rfl
theorem x_if {M : MI} {pc t : Nat} {cc : Jvm.ClassFile.Cond} {off a : Int} {al st : List AV} {h : AH} (d : decode (mC M) pc = .ok (.ifCond cc off, 3)) (ht : tg pc off = some t) : X M pc al (aI a :: st) h = if cnd cc a 0 = true then X M t al st h else X M (pc + 3) al st h := by
  have e : stI M (.ifCond cc off) 3 pc al (aI a :: st) h = bif cnd cc a 0 then gS t al st h else gS (pc + 3) al st h := by
    show hIf cc off pc al (aI a :: st) h = _
    unfold hIf
    rw [ht]
  cases hc : cnd cc a 0 with
  | true => rw [hc] at e; rw [if_pos rfl]; exact X_of d e
  | false => rw [hc] at e; rw [if_neg (by decide)]; exact X_of d e
theorem x_icmp {M : MI} {pc t : Nat} {cc : Jvm.ClassFile.Cond} {off a b : Int} {al st : List AV} {h : AH} (d : decode (mC M) pc = .ok (.if_icmp cc off, 3)) (ht : tg pc off = some t) : X M pc al (aI b :: aI a :: st) h = if cnd cc a b = true then X M t al st h else X M (pc + 3) al st h := by
  have e : stI M (.if_icmp cc off) 3 pc al (aI b :: aI a :: st) h = bif cnd cc a b then gS t al st h else gS (pc + 3) al st h := by
    show hCmp cc off pc al (aI b :: aI a :: st) h = _
    unfold hCmp
    rw [ht]
  cases hc : cnd cc a b with
  | true => rw [hc] at e; rw [if_pos rfl]; exact X_of d e
  | false => rw [hc] at e; rw [if_neg (by decide)]; exact X_of d e
theorem ite_dec {α : Type} {c : Prop} [Decidable c] {x y : α} : (if decide c = true then x else y) = if c then x else y := by
  by_cases h : c
  · rw [if_pos h, if_pos (decide_eq_true h)]
  · rw [if_neg h, if_neg (by simpa using h)]
theorem x_eq0 {M : MI} {pc t : Nat} {off a : Int} {al st : List AV} {h : AH} (d : decode (mC M) pc = .ok (.ifCond .eq off, 3)) (ht : tg pc off = some t) : X M pc al (aI a :: st) h = if a = 0 then X M t al st h else X M (pc + 3) al st h := (x_if d ht).trans ite_dec
theorem x_ne0 {M : MI} {pc t : Nat} {off a : Int} {al st : List AV} {h : AH} (d : decode (mC M) pc = .ok (.ifCond .ne off, 3)) (ht : tg pc off = some t) : X M pc al (aI a :: st) h = if ¬ a = 0 then X M t al st h else X M (pc + 3) al st h := (x_if d ht).trans ite_dec
theorem x_lt0 {M : MI} {pc t : Nat} {off a : Int} {al st : List AV} {h : AH} (d : decode (mC M) pc = .ok (.ifCond .lt off, 3)) (ht : tg pc off = some t) : X M pc al (aI a :: st) h = if a < 0 then X M t al st h else X M (pc + 3) al st h := (x_if d ht).trans ite_dec
theorem x_ge0 {M : MI} {pc t : Nat} {off a : Int} {al st : List AV} {h : AH} (d : decode (mC M) pc = .ok (.ifCond .ge off, 3)) (ht : tg pc off = some t) : X M pc al (aI a :: st) h = if 0 ≤ a then X M t al st h else X M (pc + 3) al st h := (x_if d ht).trans ite_dec
theorem x_gt0 {M : MI} {pc t : Nat} {off a : Int} {al st : List AV} {h : AH} (d : decode (mC M) pc = .ok (.ifCond .gt off, 3)) (ht : tg pc off = some t) : X M pc al (aI a :: st) h = if 0 < a then X M t al st h else X M (pc + 3) al st h := (x_if d ht).trans ite_dec
theorem x_le0 {M : MI} {pc t : Nat} {off a : Int} {al st : List AV} {h : AH} (d : decode (mC M) pc = .ok (.ifCond .le off, 3)) (ht : tg pc off = some t) : X M pc al (aI a :: st) h = if a ≤ 0 then X M t al st h else X M (pc + 3) al st h := (x_if d ht).trans ite_dec
theorem x_eqC {M : MI} {pc t : Nat} {off a b : Int} {al st : List AV} {h : AH} (d : decode (mC M) pc = .ok (.if_icmp .eq off, 3)) (ht : tg pc off = some t) : X M pc al (aI b :: aI a :: st) h = if a = b then X M t al st h else X M (pc + 3) al st h := (x_icmp d ht).trans ite_dec
theorem x_neC {M : MI} {pc t : Nat} {off a b : Int} {al st : List AV} {h : AH} (d : decode (mC M) pc = .ok (.if_icmp .ne off, 3)) (ht : tg pc off = some t) : X M pc al (aI b :: aI a :: st) h = if ¬ a = b then X M t al st h else X M (pc + 3) al st h := (x_icmp d ht).trans ite_dec
theorem x_ltC {M : MI} {pc t : Nat} {off a b : Int} {al st : List AV} {h : AH} (d : decode (mC M) pc = .ok (.if_icmp .lt off, 3)) (ht : tg pc off = some t) : X M pc al (aI b :: aI a :: st) h = if a < b then X M t al st h else X M (pc + 3) al st h := (x_icmp d ht).trans ite_dec
theorem x_geC {M : MI} {pc t : Nat} {off a b : Int} {al st : List AV} {h : AH} (d : decode (mC M) pc = .ok (.if_icmp .ge off, 3)) (ht : tg pc off = some t) : X M pc al (aI b :: aI a :: st) h = if b ≤ a then X M t al st h else X M (pc + 3) al st h := (x_icmp d ht).trans ite_dec
theorem x_gtC {M : MI} {pc t : Nat} {off a b : Int} {al st : List AV} {h : AH} (d : decode (mC M) pc = .ok (.if_icmp .gt off, 3)) (ht : tg pc off = some t) : X M pc al (aI b :: aI a :: st) h = if b < a then X M t al st h else X M (pc + 3) al st h := (x_icmp d ht).trans ite_dec
theorem x_leC {M : MI} {pc t : Nat} {off a b : Int} {al st : List AV} {h : AH} (d : decode (mC M) pc = .ok (.if_icmp .le off, 3)) (ht : tg pc off = some t) : X M pc al (aI b :: aI a :: st) h = if a ≤ b then X M t al st h else X M (pc + 3) al st h := (x_icmp d ht).trans ite_dec
theorem x_get {M : MI} {pc idx C k kd a : Nat} {fin : Bool} {al st : List AV} {h : AH} (d : decode (mC M) pc = .ok (.getfield idx, 3)) (f : fT (mK M) idx = some (C, k, kd, fin)) : X M pc al (aR (some a) :: st) h = gK (rd h C a k) fun v => X M (pc + 3) al (v :: st) h := by
  have e : stI M (.getfield idx) 3 pc al (aR (some a) :: st) h = (match rd h C a k with
    | some v => gS (pc + 3) al (v :: st) h
    | none => none) := by
    show hGet M idx pc al (aR (some a) :: st) h = _
    unfold hGet
    rw [f]
    rfl
  cases hc : rd h C a k with
  | none => rw [hc] at e; exact X_none ((stp_of d).trans e)
  | some v => rw [hc] at e; exact X_of d e
theorem x_put {M : MI} {pc idx C k kd a : Nat} {fin : Bool} {al st : List AV} {h : AH} {v : AV} (d : decode (mC M) pc = .ok (.putfield idx, 3)) (f : fT (mK M) idx = some (C, k, kd, fin)) (hv : okV kd v = true) (hf : (!fin || (decide ((mY M).name = "<init>") && Nat.beq (mK M) C)) = true) : X M pc al (v :: aR (some a) :: st) h = pK (rd h C a k) (X M (pc + 3) al st (wr h C a k v)) := by
  have e : stI M (.putfield idx) 3 pc al (v :: aR (some a) :: st) h = (match rd h C a k with
    | some _ => gS (pc + 3) al st (wr h C a k v)
    | none => none) := by
    show hPut M idx pc al (v :: aR (some a) :: st) h = _
    unfold hPut
    rw [f]
    simp only [hv, hf, Bool.and_self, cond_true]
    rfl
  cases hc : rd h C a k with
  | none => rw [hc] at e; exact X_none ((stp_of d).trans e)
  | some v => rw [hc] at e; exact X_of d e
theorem x_ald {M : MI} {pc t a : Nat} {ii : Instr} {i : Int} {al st : List AV} {h : AH} (d : decode (mC M) pc = .ok (ii, 1)) (q : stI M ii 1 pc al (aI i :: aR (some a) :: st) h = hAld t pc al (aI i :: aR (some a) :: st) h) : X M pc al (aI i :: aR (some a) :: st) h = if 0 ≤ i then gK (rd h t a i.toNat) (fun v => X M (pc + 1) al (v :: st) h) else none := by
  by_cases hi : 0 ≤ i
  · rw [if_pos hi]
    have e : stI M ii 1 pc al (aI i :: aR (some a) :: st) h = (match rd h t a i.toNat with
      | some v => gS (pc + 1) al (v :: st) h
      | none => none) := by
      rw [q]
      unfold hAld
      simp only [if_pos hi]
      rfl
    cases hc : rd h t a i.toNat with
    | none => rw [hc] at e; exact X_none ((stp_of d).trans e)
    | some v => rw [hc] at e; exact X_of d e
  · rw [if_neg hi]
    refine X_none ((stp_of d).trans (q.trans ?_))
    unfold hAld
    simp only [if_neg hi]
theorem x_aldI {M : MI} {pc a : Nat} {i : Int} {al st : List AV} {h : AH} (d : decode (mC M) pc = .ok (.iaload, 1)) : X M pc al (aI i :: aR (some a) :: st) h = if 0 ≤ i then gK (rd h 10 a i.toNat) (fun v => X M (pc + 1) al (v :: st) h) else none := x_ald d rfl
theorem x_aldJ {M : MI} {pc a : Nat} {i : Int} {al st : List AV} {h : AH} (d : decode (mC M) pc = .ok (.laload, 1)) : X M pc al (aI i :: aR (some a) :: st) h = if 0 ≤ i then gK (rd h 11 a i.toNat) (fun v => X M (pc + 1) al (v :: st) h) else none := x_ald d rfl
theorem x_aldR {M : MI} {pc a t : Nat} {i : Int} {al st : List AV} {h : AH} (d : decode (mC M) pc = .ok (.aaload, 1)) (ht : tagR h a = t) (h12 : 12 ≤ t) : X M pc al (aI i :: aR (some a) :: st) h = if 0 ≤ i then gK (rd h t a i.toNat) (fun v => X M (pc + 1) al (v :: st) h) else none := by
  subst ht
  by_cases hi : 0 ≤ i
  · rw [if_pos hi]
    have e : stI M .aaload 1 pc al (aI i :: aR (some a) :: st) h = (match rd h (tagR h a) a i.toNat with
      | some v => gS (pc + 1) al (v :: st) h
      | none => none) := by
      show hAldR pc al (aI i :: aR (some a) :: st) h = _
      unfold hAldR
      simp only [if_pos (⟨hi, h12⟩ : 0 ≤ i ∧ 12 ≤ tagR h a)]
      rfl
    cases hc : rd h (tagR h a) a i.toNat with
    | none => rw [hc] at e; exact X_none ((stp_of d).trans e)
    | some v => rw [hc] at e; exact X_of d e
  · rw [if_neg hi]
    refine X_none ((stp_of d).trans ?_)
    show hAldR pc al (aI i :: aR (some a) :: st) h = none
    unfold hAldR
    simp only [if_neg (fun q => hi q.1 : ¬ (0 ≤ i ∧ 12 ≤ tagR h a))]
theorem x_astI {M : MI} {pc a : Nat} {i x : Int} {al st : List AV} {h : AH} (d : decode (mC M) pc = .ok (.iastore, 1)) : X M pc al (aI x :: aI i :: aR (some a) :: st) h = if 0 ≤ i then pK (rd h 10 a i.toNat) (X M (pc + 1) al st (wr h 10 a i.toNat (aI x))) else none := by
  by_cases hi : 0 ≤ i
  · rw [if_pos hi]
    have e : stI M .iastore 1 pc al (aI x :: aI i :: aR (some a) :: st) h = (match rd h 10 a i.toNat with
      | some _ => gS (pc + 1) al st (wr h 10 a i.toNat (aI x))
      | none => none) := by
      show hAstI pc al (aI x :: aI i :: aR (some a) :: st) h = _
      unfold hAstI
      simp only [if_pos hi]
      rfl
    cases hc : rd h 10 a i.toNat with
    | none => rw [hc] at e; exact X_none ((stp_of d).trans e)
    | some v => rw [hc] at e; exact X_of d e
  · rw [if_neg hi]
    refine X_none ((stp_of d).trans ?_)
    show hAstI pc al (aI x :: aI i :: aR (some a) :: st) h = none
    unfold hAstI
    simp only [if_neg hi]
theorem x_astJ {M : MI} {pc a : Nat} {i x : Int} {al st : List AV} {h : AH} (d : decode (mC M) pc = .ok (.lastore, 1)) : X M pc al (aJ x :: aI i :: aR (some a) :: st) h = if 0 ≤ i then pK (rd h 11 a i.toNat) (X M (pc + 1) al st (wr h 11 a i.toNat (aJ x))) else none := by
  by_cases hi : 0 ≤ i
  · rw [if_pos hi]
    have e : stI M .lastore 1 pc al (aJ x :: aI i :: aR (some a) :: st) h = (match rd h 11 a i.toNat with
      | some _ => gS (pc + 1) al st (wr h 11 a i.toNat (aJ x))
      | none => none) := by
      show hAstJ pc al (aJ x :: aI i :: aR (some a) :: st) h = _
      unfold hAstJ
      simp only [if_pos hi]
      rfl
    cases hc : rd h 11 a i.toNat with
    | none => rw [hc] at e; exact X_none ((stp_of d).trans e)
    | some v => rw [hc] at e; exact X_of d e
  · rw [if_neg hi]
    refine X_none ((stp_of d).trans ?_)
    show hAstJ pc al (aJ x :: aI i :: aR (some a) :: st) h = none
    unfold hAstJ
    simp only [if_neg hi]
theorem x_astR {M : MI} {pc a b t : Nat} {i : Int} {al st : List AV} {h : AH} (d : decode (mC M) pc = .ok (.aastore, 1)) (ht : tagR h a = t) (h12 : 12 ≤ t ∧ t ≤ 14) (ho : isO h (elT t) b = true) : X M pc al (aR (some b) :: aI i :: aR (some a) :: st) h = if 0 ≤ i then pK (rd h t a i.toNat) (X M (pc + 1) al st (wr h t a i.toNat (aR (some b)))) else none := by
  subst ht
  by_cases hi : 0 ≤ i
  · rw [if_pos hi]
    have e : stI M .aastore 1 pc al (aR (some b) :: aI i :: aR (some a) :: st) h = (match rd h (tagR h a) a i.toNat with
      | some _ => gS (pc + 1) al st (wr h (tagR h a) a i.toNat (aR (some b)))
      | none => none) := by
      show hAstR pc al (aR (some b) :: aI i :: aR (some a) :: st) h = _
      unfold hAstR
      simp only [if_pos (⟨hi, h12.1, h12.2, ho⟩ : 0 ≤ i ∧ 12 ≤ tagR h a ∧ tagR h a ≤ 14 ∧ isO h (elT (tagR h a)) b = true)]
      rfl
    cases hc : rd h (tagR h a) a i.toNat with
    | none => rw [hc] at e; exact X_none ((stp_of d).trans e)
    | some v => rw [hc] at e; exact X_of d e
  · rw [if_neg hi]
    refine X_none ((stp_of d).trans ?_)
    show hAstR pc al (aR (some b) :: aI i :: aR (some a) :: st) h = none
    unfold hAstR
    simp only [if_neg (fun q => hi q.1 : ¬ (0 ≤ i ∧ 12 ≤ tagR h a ∧ tagR h a ≤ 14 ∧ isO h (elT (tagR h a)) b = true))]
theorem x_len {M : MI} {pc a : Nat} {al st : List AV} {h : AH} (d : decode (mC M) pc = .ok (.arraylength, 1)) : X M pc al (aR (some a) :: st) h = gL (ln h a) fun n => X M (pc + 1) al (aI n :: st) h := by
  have e : stI M .arraylength 1 pc al (aR (some a) :: st) h = (match ln h a with
    | some n => gS (pc + 1) al (aI n :: st) h
    | none => none) := rfl
  cases hc : ln h a with
  | none => rw [hc] at e; exact X_none ((stp_of d).trans e)
  | some v => rw [hc] at e; exact X_of d e
theorem x_div {M : MI} {pc : Nat} {a b : Int} {al st : List AV} {h : AH} (d : decode (mC M) pc = .ok (.idiv, 1)) : X M pc al (aI b :: aI a :: st) h = if b = 0 then none else X M (pc + 1) al (aI (w32 (a.tdiv b)) :: st) h := by
  have e : stI M .idiv 1 pc al (aI b :: aI a :: st) h = if b = 0 then none else gS (pc + 1) al (aI (w32 (a.tdiv b)) :: st) h := rfl
  by_cases hb : b = 0
  · rw [if_pos hb] at e ⊢; exact X_none ((stp_of d).trans e)
  · rw [if_neg hb] at e ⊢; exact X_of d e
theorem x_rem {M : MI} {pc : Nat} {a b : Int} {al st : List AV} {h : AH} (d : decode (mC M) pc = .ok (.irem, 1)) : X M pc al (aI b :: aI a :: st) h = if b = 0 then none else X M (pc + 1) al (aI (a.tmod b) :: st) h := by
  have e : stI M .irem 1 pc al (aI b :: aI a :: st) h = if b = 0 then none else gS (pc + 1) al (aI (a.tmod b) :: st) h := rfl
  by_cases hb : b = 0
  · rw [if_pos hb] at e ⊢; exact X_none ((stp_of d).trans e)
  · rw [if_neg hb] at e ⊢; exact X_of d e
theorem x_divJ {M : MI} {pc : Nat} {a b : Int} {al st : List AV} {h : AH} (d : decode (mC M) pc = .ok (.ldiv, 1)) : X M pc al (aJ b :: aJ a :: st) h = if b = 0 then none else X M (pc + 1) al (aJ (w64 (a.tdiv b)) :: st) h := by
  have e : stI M .ldiv 1 pc al (aJ b :: aJ a :: st) h = if b = 0 then none else gS (pc + 1) al (aJ (w64 (a.tdiv b)) :: st) h := rfl
  by_cases hb : b = 0
  · rw [if_pos hb] at e ⊢; exact X_none ((stp_of d).trans e)
  · rw [if_neg hb] at e ⊢; exact X_of d e
theorem x_remJ {M : MI} {pc : Nat} {a b : Int} {al st : List AV} {h : AH} (d : decode (mC M) pc = .ok (.lrem, 1)) : X M pc al (aJ b :: aJ a :: st) h = if b = 0 then none else X M (pc + 1) al (aJ (a.tmod b) :: st) h := by
  have e : stI M .lrem 1 pc al (aJ b :: aJ a :: st) h = if b = 0 then none else gS (pc + 1) al (aJ (a.tmod b) :: st) h := rfl
  by_cases hb : b = 0
  · rw [if_pos hb] at e ⊢; exact X_none ((stp_of d).trans e)
  · rw [if_neg hb] at e ⊢; exact X_of d e
theorem x_nwa {M : MI} {pc t : Nat} {at_ : ArrayType} {n : Int} {dv : AV} {al st : List AV} {h : AH} (d : decode (mC M) pc = .ok (.newarray at_, 2)) (q : stI M (.newarray at_) 2 pc al (aI n :: st) h = hNwa t dv pc al (aI n :: st) h) : X M pc al (aI n :: st) h = if 0 ≤ n ∧ n ≤ 1000 then X M (pc + 2) al (aR (some h.length) :: st) (h ++ [(t, List.replicate n.toNat dv)]) else none := by
  by_cases hn : 0 ≤ n ∧ n ≤ 1000
  · rw [if_pos hn]
    exact X_of d (q.trans (by unfold hNwa; simp only [if_pos hn]))
  · rw [if_neg hn]
    exact X_none ((stp_of d).trans (q.trans (by unfold hNwa; simp only [if_neg hn])))
theorem x_nwr {M : MI} {pc t idx : Nat} {n : Int} {al st : List AV} {h : AH} (d : decode (mC M) pc = .ok (.anewarray idx, 3)) (f : lk aLst (mK M) idx = some t) : X M pc al (aI n :: st) h = if 0 ≤ n ∧ n ≤ 1000 then X M (pc + 3) al (aR (some h.length) :: st) (h ++ [(t, List.replicate n.toNat (aR none))]) else none := by
  have e : stI M (.anewarray idx) 3 pc al (aI n :: st) h = if 0 ≤ n ∧ n ≤ 1000 then gS (pc + 3) al (aR (some h.length) :: st) (h ++ [(t, List.replicate n.toNat (aR none))]) else none := by
    show hNwr M idx pc al (aI n :: st) h = _
    unfold hNwr
    rw [f]
  by_cases hn : 0 ≤ n ∧ n ≤ 1000
  · rw [if_pos hn] at e ⊢; exact X_of d e
  · rw [if_neg hn] at e ⊢; exact X_none ((stp_of d).trans e)
theorem x_new {M : MI} {pc C idx : Nat} {al st : List AV} {h : AH} (d : decode (mC M) pc = .ok (.new idx, 3)) (f : lk nLst (mK M) idx = some C) {fs : List AV} (hf : dfl C = fs) : X M pc al st h = X M (pc + 3) al (aR (some h.length) :: st) (h ++ [(C, fs)]) := by
  subst hf
  refine X_of d ?_
  show hNew M idx pc al st h = _
  unfold hNew
  rw [f]
/-- a call, whatever it answers -/
theorem x_cal {M M1 : MI} {pc idx k ik : Nat} {ii : Instr} {al as rest : List AV} {h : AH} (d : decode (mC M) pc = .ok (ii, 3)) (hi : ∀ st, stI M ii 3 pc al st h = hCal ik M idx pc al st h) (f : cT (mK M) idx = some (k, M1)) (hn : as.length = mN M1) (hs : (kOk k ik && (Nat.blt (mR M1) (mR M) && (Nat.ble (19 + mL M1 + mW M1) (mW M) && (Nat.ble (wds rest) 8 && (Nat.ble (esl as).length (mL M1) && as.all nU))))) = true) (hr : rcv k M1 as h = true) : X M pc al (as.reverse ++ rest) h = cK (E M1 as h) fun v h2 => X M (pc + 3) al (v.toList ++ rest) h2 := by
  refine X_call ((stp_of d).trans ((hi _).trans ?_))
  unfold hCal
  rw [f]
  simp only
  have e1 : (as.reverse ++ rest).take (mN M1) = as.reverse := by rw [List.take_append_of_le_length (by rw [List.length_reverse, hn]; exact Nat.le_refl _), List.take_of_length_le (by rw [List.length_reverse, hn]; exact Nat.le_refl _)]
  have e2 : (as.reverse ++ rest).drop (mN M1) = rest := by rw [← hn, ← List.length_reverse (as := as), List.drop_left]
  have e3 : Nat.ble (mN M1) (as.reverse ++ rest).length = true := by
    rw [Nat.ble_eq, List.length_append, List.length_reverse, hn]
    omega
  rw [e1, e2, e3, List.reverse_reverse, hr]
  simp only [Bool.and_eq_true] at hs
  obtain ⟨s1, s2, s3, s4, s5, s6⟩ := hs
  rw [s1, s2, s3, s4, s5, s6]
  rfl
theorem ck_I {r : Option RV} {K : Option AV → AH → Option RV} {K1 : Int → AH → Option RV} (h1 : ∀ z h, K (some (aI z)) h = K1 z h) (h2 : ∀ v h, (∀ z, v ≠ some (aI z)) → K v h = none) : cK r K = cI r K1 := by
  match r with
  | none => rfl
  | some (some (Sum.inl z), h) => exact h1 z h
  | some (none, h) => exact h2 none h (fun z q => by cases q)
  | some (some (Sum.inr x), h) => exact h2 _ h (fun z q => by cases q)
/-- a point at which the stack has what the instruction can't take -/
theorem isO_wr {h : AH} {t a k t' a' : Nat} {v : AV} : isO (wr h t a k v) t' a' = isO h t' a' := by
  unfold wr
  cases hc : h[a]? with
  | none => rfl
  | some c =>
    simp only
    cases hb : Nat.beq c.1 t with
    | false => rfl
    | true =>
      show isO (h.set a (t, c.2.set k v)) t' a' = _
      have ht := Nat.eq_of_beq_eq_true hb
      unfold isO
      by_cases ha : a' = a
      · subst ha
        rw [List.getElem?_set_self (List.getElem?_eq_some_iff.mp hc).1, hc]
        simp only [ht]
      · rw [List.getElem?_set_ne (Ne.symm ha)]
theorem ln_wr {h : AH} {t a k a' : Nat} {v : AV} : ln (wr h t a k v) a' = ln h a' := by
  unfold wr
  cases hc : h[a]? with
  | none => rfl
  | some c =>
    simp only
    cases hb : Nat.beq c.1 t with
    | false => rfl
    | true =>
      show ln (h.set a (t, c.2.set k v)) a' = _
      have ht := Nat.eq_of_beq_eq_true hb
      unfold ln
      by_cases ha : a' = a
      · subst ha
        rw [List.getElem?_set_self (List.getElem?_eq_some_iff.mp hc).1, hc]
        simp only [ht, List.length_set]
      · rw [List.getElem?_set_ne (Ne.symm ha)]
theorem tagR_wr {h : AH} {t a k a' : Nat} {v : AV} : tagR (wr h t a k v) a' = tagR h a' := by
  unfold wr
  cases hc : h[a]? with
  | none => rfl
  | some c =>
    simp only
    cases hb : Nat.beq c.1 t with
    | false => rfl
    | true =>
      show tagR (h.set a (t, c.2.set k v)) a' = _
      have ht := Nat.eq_of_beq_eq_true hb
      unfold tagR
      by_cases ha : a' = a
      · subst ha
        rw [List.getElem?_set_self (List.getElem?_eq_some_iff.mp hc).1, hc]
        simp only [ht]
      · rw [List.getElem?_set_ne (Ne.symm ha)]
theorem rd_wr {h : AH} {t a k : Nat} {v w : AV} (q : rd h t a k = some w) : rd (wr h t a k v) t a k = some v := by
  obtain ⟨c, h1, h2, h3⟩ := rd_of q
  rw [wr_of h1 h2]
  unfold rd
  rw [List.getElem?_set_self (List.getElem?_eq_some_iff.mp h1).1]
  simp only [Nat.beq_refl, cond_true]
  rw [List.getElem?_set_self (List.getElem?_eq_some_iff.mp h3).1]
theorem rd_wn {h : AH} {t a k t' a' k' : Nat} {v : AV} (q : t' ≠ t ∨ a' ≠ a ∨ k' ≠ k) : rd (wr h t a k v) t' a' k' = rd h t' a' k' := by
  unfold wr
  cases hc : h[a]? with
  | none => rfl
  | some c =>
    simp only
    cases hb : Nat.beq c.1 t with
    | false => rfl
    | true =>
      show rd (h.set a (t, c.2.set k v)) t' a' k' = _
      have ht := Nat.eq_of_beq_eq_true hb
      unfold rd
      by_cases ha : a' = a
      · subst ha
        rw [List.getElem?_set_self (List.getElem?_eq_some_iff.mp hc).1, hc]
        simp only [ht]
        cases hb2 : Nat.beq t t' with
        | false => rfl
        | true =>
          have ht2 := Nat.eq_of_beq_eq_true hb2
          simp only [cond_true]
          rw [List.getElem?_set_ne]
          rcases q with q | q | q
          · exact absurd ht2.symm q
          · exact absurd rfl q
          · exact Ne.symm q
      · rw [List.getElem?_set_ne (Ne.symm ha)]
theorem isO_rd {h : AH} {t a k : Nat} {v : AV} (q : rd h t a k = some v) : isO h t a = true := by
  obtain ⟨c, h1, h2, h3⟩ := rd_of q
  unfold isO
  rw [h1]
  simp only [h2, Nat.beq_refl]
theorem tag_rd {h : AH} {t a k : Nat} {v : AV} (q : rd h t a k = some v) : tagR h a = t := by
  obtain ⟨c, h1, h2, h3⟩ := rd_of q
  unfold tagR
  rw [h1]
  exact h2
theorem wr_len {h : AH} {t a k : Nat} {v : AV} : (wr h t a k v).length = h.length := (wr_mono h t a k v).1
theorem wr_slt {h : AH} {t a k : Nat} {v : AV} : slt (wr h t a k v) = slt h := (wr_mono h t a k v).2
