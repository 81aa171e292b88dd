
/-- a step never takes cells away -/
def SH (h : AH) (x : SR) : Prop := (∀ pc' al' st' h', x = Sum.inl (pc', al', st', h') → h.length ≤ h'.length ∧ slt h ≤ slt h') ∧ (∀ q, x = Sum.inr (Sum.inl q) → q.2.2.1 = h) ∧ ∀ r, x = Sum.inr (Sum.inr r) → r.2 = h
theorem SH_same {pc : Nat} {al st : List AV} {h : AH} {x : SR} (q : gS pc al st h = some x) : SH h x := by
  refine ⟨fun pc' al' st' h' e => ?_, fun y e => ?_, fun y e => ?_⟩ <;> rw [← Option.some.inj q] at e <;> cases e
  exact ⟨Nat.le_refl _, Nat.le_refl _⟩
theorem SH_to {pc : Nat} {al st : List AV} {h h1 : AH} {x : SR} (q : gS pc al st h1 = some x) (z : h.length ≤ h1.length ∧ slt h ≤ slt h1) : SH h x := by
  refine ⟨fun pc' al' st' h' e => ?_, fun y e => ?_, fun y e => ?_⟩ <;> rw [← Option.some.inj q] at e <;> cases e
  exact z
theorem wr_mono (h : AH) (t a k : Nat) (v : AV) : (wr h t a k v).length = h.length ∧ slt (wr h t a k v) = slt h := by
  unfold wr
  cases hc : h[a]? with
  | none => exact ⟨rfl, rfl⟩
  | some c =>
    simp only
    cases hb : Nat.beq c.1 t with
    | false => exact ⟨rfl, rfl⟩
    | true => exact ⟨by simp, slt_set hc (by simp)⟩
theorem SH_wr {pc : Nat} {al st : List AV} {h : AH} {t a k : Nat} {v : AV} {x : SR} (q : gS pc al st (wr h t a k v) = some x) : SH h x := SH_to q (by rw [(wr_mono h t a k v).1, (wr_mono h t a k v).2]; exact ⟨Nat.le_refl _, Nat.le_refl _⟩)
theorem SH_app {pc : Nat} {al st : List AV} {h : AH} {c : AC} {x : SR} (q : gS pc al st (h ++ [c]) = some x) : SH h x := SH_to q ⟨by simp, by rw [slt_app]; omega⟩
theorem SH_cal {M1 : MI} {as al st : List AV} {h : AH} {pc : Nat} {x : SR} (q : (some (Sum.inr (Sum.inl (M1, as, h, pc, al, st))) : Option SR) = some x) : SH h x := by
  refine ⟨fun pc' al' st' h' e => ?_, fun y e => ?_, fun y e => ?_⟩ <;> rw [← Option.some.inj q] at e <;> cases e
  rfl
theorem SH_ret {v : Option AV} {h : AH} {x : SR} (q : (some (Sum.inr (Sum.inr (v, h))) : Option SR) = some x) : SH h x := by
  refine ⟨fun pc' al' st' h' e => ?_, fun y e => ?_, fun y e => ?_⟩ <;> rw [← Option.some.inj q] at e <;> cases e
  rfl
theorem SH_cpy {pc : Nat} {al st : List AV} {h : AH} {x : SR} (q : hCpy pc al st h = some x) : SH h x := by
  unfold hCpy at q
  split at q
  · split at q
    · rename_i c e hc he
      split at q
      · exact SH_to q ⟨by simp, by rw [slt_set he (by simp [cpL])]; exact Nat.le_refl _⟩
      · cases q
    · cases q
  · cases q

theorem SH_stI {M : MI} {i : Instr} {n pc : Nat} {al st : List AV} {h : AH} {x : SR} (hst : stI M i n pc al st h = some x) : SH h x := by
  cases i with
  | iconst z => have hst := (q1_of hst).2; (try simp only [Bool.cond_eq_ite] at hst); repeat' (first | exact SH_same hst | exact SH_wr hst | exact SH_app hst | exact SH_cal hst | exact SH_ret hst | exact (Option.some_ne_none _ hst.symm).elim | split at hst)
  | lconst k => have hst := (q1_of hst).2; (try simp only [Bool.cond_eq_ite] at hst); repeat' (first | exact SH_same hst | exact SH_wr hst | exact SH_app hst | exact SH_cal hst | exact SH_ret hst | exact (Option.some_ne_none _ hst.symm).elim | split at hst)
  | bipush z => have hst := (q1_of hst).2; (try simp only [Bool.cond_eq_ite] at hst); repeat' (first | exact SH_same hst | exact SH_wr hst | exact SH_app hst | exact SH_cal hst | exact SH_ret hst | exact (Option.some_ne_none _ hst.symm).elim | split at hst)
  | sipush z => have hst := (q1_of hst).2; (try simp only [Bool.cond_eq_ite] at hst); repeat' (first | exact SH_same hst | exact SH_wr hst | exact SH_app hst | exact SH_cal hst | exact SH_ret hst | exact (Option.some_ne_none _ hst.symm).elim | split at hst)
  | ldc k => have hst := (q1_of hst).2; (try simp only [Bool.cond_eq_ite] at hst); repeat' (first | exact SH_same hst | exact SH_wr hst | exact SH_app hst | exact SH_cal hst | exact SH_ret hst | exact (Option.some_ne_none _ hst.symm).elim | split at hst)
  | ldc2_w k => have hst := (q1_of hst).2; (try simp only [Bool.cond_eq_ite] at hst); repeat' (first | exact SH_same hst | exact SH_wr hst | exact SH_app hst | exact SH_cal hst | exact SH_ret hst | exact (Option.some_ne_none _ hst.symm).elim | split at hst)
  | aconst_null => have hst := (q1_of hst).2; (try simp only [Bool.cond_eq_ite] at hst); repeat' (first | exact SH_same hst | exact SH_wr hst | exact SH_app hst | exact SH_cal hst | exact SH_ret hst | exact (Option.some_ne_none _ hst.symm).elim | split at hst)
  | iload_n k => have hst := (q1_of hst).2; unfold hLI at hst; (try simp only [Bool.cond_eq_ite] at hst); repeat' (first | exact SH_same hst | exact SH_wr hst | exact SH_app hst | exact SH_cal hst | exact SH_ret hst | exact (Option.some_ne_none _ hst.symm).elim | split at hst)
  | iload k => have hst := (q1_of hst).2; unfold hLI at hst; (try simp only [Bool.cond_eq_ite] at hst); repeat' (first | exact SH_same hst | exact SH_wr hst | exact SH_app hst | exact SH_cal hst | exact SH_ret hst | exact (Option.some_ne_none _ hst.symm).elim | split at hst)
  | lload_n k => have hst := (q1_of hst).2; unfold hLJ at hst; (try simp only [Bool.cond_eq_ite] at hst); repeat' (first | exact SH_same hst | exact SH_wr hst | exact SH_app hst | exact SH_cal hst | exact SH_ret hst | exact (Option.some_ne_none _ hst.symm).elim | split at hst)
  | lload k => have hst := (q1_of hst).2; unfold hLJ at hst; (try simp only [Bool.cond_eq_ite] at hst); repeat' (first | exact SH_same hst | exact SH_wr hst | exact SH_app hst | exact SH_cal hst | exact SH_ret hst | exact (Option.some_ne_none _ hst.symm).elim | split at hst)
  | aload_n k => have hst := (q1_of hst).2; unfold hLR at hst; (try simp only [Bool.cond_eq_ite] at hst); repeat' (first | exact SH_same hst | exact SH_wr hst | exact SH_app hst | exact SH_cal hst | exact SH_ret hst | exact (Option.some_ne_none _ hst.symm).elim | split at hst)
  | aload k => have hst := (q1_of hst).2; unfold hLR at hst; (try simp only [Bool.cond_eq_ite] at hst); repeat' (first | exact SH_same hst | exact SH_wr hst | exact SH_app hst | exact SH_cal hst | exact SH_ret hst | exact (Option.some_ne_none _ hst.symm).elim | split at hst)
  | istore_n k => have hst := (q1_of hst).2; unfold hSI at hst; (try simp only [Bool.cond_eq_ite] at hst); repeat' (first | exact SH_same hst | exact SH_wr hst | exact SH_app hst | exact SH_cal hst | exact SH_ret hst | exact (Option.some_ne_none _ hst.symm).elim | split at hst)
  | istore k => have hst := (q1_of hst).2; unfold hSI at hst; (try simp only [Bool.cond_eq_ite] at hst); repeat' (first | exact SH_same hst | exact SH_wr hst | exact SH_app hst | exact SH_cal hst | exact SH_ret hst | exact (Option.some_ne_none _ hst.symm).elim | split at hst)
  | lstore_n k => have hst := (q1_of hst).2; unfold hSJ at hst; (try simp only [Bool.cond_eq_ite] at hst); repeat' (first | exact SH_same hst | exact SH_wr hst | exact SH_app hst | exact SH_cal hst | exact SH_ret hst | exact (Option.some_ne_none _ hst.symm).elim | split at hst)
  | lstore k => have hst := (q1_of hst).2; unfold hSJ at hst; (try simp only [Bool.cond_eq_ite] at hst); repeat' (first | exact SH_same hst | exact SH_wr hst | exact SH_app hst | exact SH_cal hst | exact SH_ret hst | exact (Option.some_ne_none _ hst.symm).elim | split at hst)
  | astore_n k => have hst := (q1_of hst).2; unfold hSR at hst; (try simp only [Bool.cond_eq_ite] at hst); repeat' (first | exact SH_same hst | exact SH_wr hst | exact SH_app hst | exact SH_cal hst | exact SH_ret hst | exact (Option.some_ne_none _ hst.symm).elim | split at hst)
  | astore k => have hst := (q1_of hst).2; unfold hSR at hst; (try simp only [Bool.cond_eq_ite] at hst); repeat' (first | exact SH_same hst | exact SH_wr hst | exact SH_app hst | exact SH_cal hst | exact SH_ret hst | exact (Option.some_ne_none _ hst.symm).elim | split at hst)
  | iinc k d => have hst := (q1_of hst).2; unfold hInc at hst; (try simp only [Bool.cond_eq_ite] at hst); repeat' (first | exact SH_same hst | exact SH_wr hst | exact SH_app hst | exact SH_cal hst | exact SH_ret hst | exact (Option.some_ne_none _ hst.symm).elim | split at hst)
  | iadd => have hst := (q1_of hst).2; unfold hB32 at hst; (try simp only [Bool.cond_eq_ite] at hst); repeat' (first | exact SH_same hst | exact SH_wr hst | exact SH_app hst | exact SH_cal hst | exact SH_ret hst | exact (Option.some_ne_none _ hst.symm).elim | split at hst)
  | isub => have hst := (q1_of hst).2; unfold hB32 at hst; (try simp only [Bool.cond_eq_ite] at hst); repeat' (first | exact SH_same hst | exact SH_wr hst | exact SH_app hst | exact SH_cal hst | exact SH_ret hst | exact (Option.some_ne_none _ hst.symm).elim | split at hst)
  | imul => have hst := (q1_of hst).2; unfold hB32 at hst; (try simp only [Bool.cond_eq_ite] at hst); repeat' (first | exact SH_same hst | exact SH_wr hst | exact SH_app hst | exact SH_cal hst | exact SH_ret hst | exact (Option.some_ne_none _ hst.symm).elim | split at hst)
  | idiv => have hst := (q1_of hst).2; unfold hD32 at hst; (try simp only [Bool.cond_eq_ite] at hst); repeat' (first | exact SH_same hst | exact SH_wr hst | exact SH_app hst | exact SH_cal hst | exact SH_ret hst | exact (Option.some_ne_none _ hst.symm).elim | split at hst)
  | irem => have hst := (q1_of hst).2; unfold hD32 at hst; (try simp only [Bool.cond_eq_ite] at hst); repeat' (first | exact SH_same hst | exact SH_wr hst | exact SH_app hst | exact SH_cal hst | exact SH_ret hst | exact (Option.some_ne_none _ hst.symm).elim | split at hst)
  | ineg => have hst := (q1_of hst).2; unfold hU32 at hst; (try simp only [Bool.cond_eq_ite] at hst); repeat' (first | exact SH_same hst | exact SH_wr hst | exact SH_app hst | exact SH_cal hst | exact SH_ret hst | exact (Option.some_ne_none _ hst.symm).elim | split at hst)
  | iand => have hst := (q1_of hst).2; unfold hB32 at hst; (try simp only [Bool.cond_eq_ite] at hst); repeat' (first | exact SH_same hst | exact SH_wr hst | exact SH_app hst | exact SH_cal hst | exact SH_ret hst | exact (Option.some_ne_none _ hst.symm).elim | split at hst)
  | ior => have hst := (q1_of hst).2; unfold hB32 at hst; (try simp only [Bool.cond_eq_ite] at hst); repeat' (first | exact SH_same hst | exact SH_wr hst | exact SH_app hst | exact SH_cal hst | exact SH_ret hst | exact (Option.some_ne_none _ hst.symm).elim | split at hst)
  | ishl => have hst := (q1_of hst).2; unfold hB32 at hst; (try simp only [Bool.cond_eq_ite] at hst); repeat' (first | exact SH_same hst | exact SH_wr hst | exact SH_app hst | exact SH_cal hst | exact SH_ret hst | exact (Option.some_ne_none _ hst.symm).elim | split at hst)
  | ishr => have hst := (q1_of hst).2; unfold hB32 at hst; (try simp only [Bool.cond_eq_ite] at hst); repeat' (first | exact SH_same hst | exact SH_wr hst | exact SH_app hst | exact SH_cal hst | exact SH_ret hst | exact (Option.some_ne_none _ hst.symm).elim | split at hst)
  | ladd => have hst := (q1_of hst).2; unfold hB64 at hst; (try simp only [Bool.cond_eq_ite] at hst); repeat' (first | exact SH_same hst | exact SH_wr hst | exact SH_app hst | exact SH_cal hst | exact SH_ret hst | exact (Option.some_ne_none _ hst.symm).elim | split at hst)
  | lsub => have hst := (q1_of hst).2; unfold hB64 at hst; (try simp only [Bool.cond_eq_ite] at hst); repeat' (first | exact SH_same hst | exact SH_wr hst | exact SH_app hst | exact SH_cal hst | exact SH_ret hst | exact (Option.some_ne_none _ hst.symm).elim | split at hst)
  | lmul => have hst := (q1_of hst).2; unfold hB64 at hst; (try simp only [Bool.cond_eq_ite] at hst); repeat' (first | exact SH_same hst | exact SH_wr hst | exact SH_app hst | exact SH_cal hst | exact SH_ret hst | exact (Option.some_ne_none _ hst.symm).elim | split at hst)
  | ldiv => have hst := (q1_of hst).2; unfold hD64 at hst; (try simp only [Bool.cond_eq_ite] at hst); repeat' (first | exact SH_same hst | exact SH_wr hst | exact SH_app hst | exact SH_cal hst | exact SH_ret hst | exact (Option.some_ne_none _ hst.symm).elim | split at hst)
  | lrem => have hst := (q1_of hst).2; unfold hD64 at hst; (try simp only [Bool.cond_eq_ite] at hst); repeat' (first | exact SH_same hst | exact SH_wr hst | exact SH_app hst | exact SH_cal hst | exact SH_ret hst | exact (Option.some_ne_none _ hst.symm).elim | split at hst)
  | lneg => have hst := (q1_of hst).2; unfold hU64 at hst; (try simp only [Bool.cond_eq_ite] at hst); repeat' (first | exact SH_same hst | exact SH_wr hst | exact SH_app hst | exact SH_cal hst | exact SH_ret hst | exact (Option.some_ne_none _ hst.symm).elim | split at hst)
  | land => have hst := (q1_of hst).2; unfold hB64 at hst; (try simp only [Bool.cond_eq_ite] at hst); repeat' (first | exact SH_same hst | exact SH_wr hst | exact SH_app hst | exact SH_cal hst | exact SH_ret hst | exact (Option.some_ne_none _ hst.symm).elim | split at hst)
  | lxor => have hst := (q1_of hst).2; unfold hB64 at hst; (try simp only [Bool.cond_eq_ite] at hst); repeat' (first | exact SH_same hst | exact SH_wr hst | exact SH_app hst | exact SH_cal hst | exact SH_ret hst | exact (Option.some_ne_none _ hst.symm).elim | split at hst)
  | lcmp => have hst := (q1_of hst).2; (try simp only [Bool.cond_eq_ite] at hst); repeat' (first | exact SH_same hst | exact SH_wr hst | exact SH_app hst | exact SH_cal hst | exact SH_ret hst | exact (Option.some_ne_none _ hst.symm).elim | split at hst)
  | i2l => have hst := (q1_of hst).2; unfold hU32 at hst; (try simp only [Bool.cond_eq_ite] at hst); repeat' (first | exact SH_same hst | exact SH_wr hst | exact SH_app hst | exact SH_cal hst | exact SH_ret hst | exact (Option.some_ne_none _ hst.symm).elim | split at hst)
  | l2i => have hst := (q1_of hst).2; unfold hU64 at hst; (try simp only [Bool.cond_eq_ite] at hst); repeat' (first | exact SH_same hst | exact SH_wr hst | exact SH_app hst | exact SH_cal hst | exact SH_ret hst | exact (Option.some_ne_none _ hst.symm).elim | split at hst)
  | i2b => have hst := (q1_of hst).2; unfold hU32 at hst; (try simp only [Bool.cond_eq_ite] at hst); repeat' (first | exact SH_same hst | exact SH_wr hst | exact SH_app hst | exact SH_cal hst | exact SH_ret hst | exact (Option.some_ne_none _ hst.symm).elim | split at hst)
  | i2s => have hst := (q1_of hst).2; unfold hU32 at hst; (try simp only [Bool.cond_eq_ite] at hst); repeat' (first | exact SH_same hst | exact SH_wr hst | exact SH_app hst | exact SH_cal hst | exact SH_ret hst | exact (Option.some_ne_none _ hst.symm).elim | split at hst)
  | dup => have hst := (q1_of hst).2; unfold hDup at hst; (try simp only [Bool.cond_eq_ite] at hst); repeat' (first | exact SH_same hst | exact SH_wr hst | exact SH_app hst | exact SH_cal hst | exact SH_ret hst | exact (Option.some_ne_none _ hst.symm).elim | split at hst)
  | dup2 => have hst := (q1_of hst).2; unfold hDup2 at hst; (try simp only [Bool.cond_eq_ite] at hst); repeat' (first | exact SH_same hst | exact SH_wr hst | exact SH_app hst | exact SH_cal hst | exact SH_ret hst | exact (Option.some_ne_none _ hst.symm).elim | split at hst)
  | pop => have hst := (q1_of hst).2; unfold hPop at hst; (try simp only [Bool.cond_eq_ite] at hst); repeat' (first | exact SH_same hst | exact SH_wr hst | exact SH_app hst | exact SH_cal hst | exact SH_ret hst | exact (Option.some_ne_none _ hst.symm).elim | split at hst)
  | goto off => have hst := (q1_of hst).2; (try simp only [Bool.cond_eq_ite] at hst); repeat' (first | exact SH_same hst | exact SH_wr hst | exact SH_app hst | exact SH_cal hst | exact SH_ret hst | exact (Option.some_ne_none _ hst.symm).elim | split at hst)
  | ifCond cc off => have hst := (q1_of hst).2; unfold hIf at hst; (try simp only [Bool.cond_eq_ite] at hst); repeat' (first | exact SH_same hst | exact SH_wr hst | exact SH_app hst | exact SH_cal hst | exact SH_ret hst | exact (Option.some_ne_none _ hst.symm).elim | split at hst)
  | if_icmp cc off => have hst := (q1_of hst).2; unfold hCmp at hst; (try simp only [Bool.cond_eq_ite] at hst); repeat' (first | exact SH_same hst | exact SH_wr hst | exact SH_app hst | exact SH_cal hst | exact SH_ret hst | exact (Option.some_ne_none _ hst.symm).elim | split at hst)
  | ifnull off => have hst := (q1_of hst).2; unfold hNull at hst; (try simp only [Bool.cond_eq_ite] at hst); repeat' (first | exact SH_same hst | exact SH_wr hst | exact SH_app hst | exact SH_cal hst | exact SH_ret hst | exact (Option.some_ne_none _ hst.symm).elim | split at hst)
  | ifnonnull off => have hst := (q1_of hst).2; unfold hNull at hst; (try simp only [Bool.cond_eq_ite] at hst); repeat' (first | exact SH_same hst | exact SH_wr hst | exact SH_app hst | exact SH_cal hst | exact SH_ret hst | exact (Option.some_ne_none _ hst.symm).elim | split at hst)
  | tableswitch d lo hi offs => replace hst : hTab d lo hi offs pc al st h = some x := hst; unfold hTab at hst; (try simp only [Bool.cond_eq_ite] at hst); repeat' (first | exact SH_same hst | exact SH_wr hst | exact SH_app hst | exact SH_cal hst | exact SH_ret hst | exact (Option.some_ne_none _ hst.symm).elim | split at hst)
  | getfield k => have hst := (q1_of hst).2; unfold hGet at hst; (try simp only [Bool.cond_eq_ite] at hst); repeat' (first | exact SH_same hst | exact SH_wr hst | exact SH_app hst | exact SH_cal hst | exact SH_ret hst | exact (Option.some_ne_none _ hst.symm).elim | split at hst)
  | putfield k => have hst := (q1_of hst).2; unfold hPut at hst; (try simp only [Bool.cond_eq_ite] at hst); repeat' (first | exact SH_same hst | exact SH_wr hst | exact SH_app hst | exact SH_cal hst | exact SH_ret hst | exact (Option.some_ne_none _ hst.symm).elim | split at hst)
  | iaload => have hst := (q1_of hst).2; unfold hAld at hst; (try simp only [Bool.cond_eq_ite] at hst); repeat' (first | exact SH_same hst | exact SH_wr hst | exact SH_app hst | exact SH_cal hst | exact SH_ret hst | exact (Option.some_ne_none _ hst.symm).elim | split at hst)
  | laload => have hst := (q1_of hst).2; unfold hAld at hst; (try simp only [Bool.cond_eq_ite] at hst); repeat' (first | exact SH_same hst | exact SH_wr hst | exact SH_app hst | exact SH_cal hst | exact SH_ret hst | exact (Option.some_ne_none _ hst.symm).elim | split at hst)
  | aaload => have hst := (q1_of hst).2; unfold hAldR at hst; (try simp only [Bool.cond_eq_ite] at hst); repeat' (first | exact SH_same hst | exact SH_wr hst | exact SH_app hst | exact SH_cal hst | exact SH_ret hst | exact (Option.some_ne_none _ hst.symm).elim | split at hst)
  | iastore => have hst := (q1_of hst).2; unfold hAstI at hst; (try simp only [Bool.cond_eq_ite] at hst); repeat' (first | exact SH_same hst | exact SH_wr hst | exact SH_app hst | exact SH_cal hst | exact SH_ret hst | exact (Option.some_ne_none _ hst.symm).elim | split at hst)
  | lastore => have hst := (q1_of hst).2; unfold hAstJ at hst; (try simp only [Bool.cond_eq_ite] at hst); repeat' (first | exact SH_same hst | exact SH_wr hst | exact SH_app hst | exact SH_cal hst | exact SH_ret hst | exact (Option.some_ne_none _ hst.symm).elim | split at hst)
  | aastore => have hst := (q1_of hst).2; unfold hAstR at hst; (try simp only [Bool.cond_eq_ite] at hst); repeat' (first | exact SH_same hst | exact SH_wr hst | exact SH_app hst | exact SH_cal hst | exact SH_ret hst | exact (Option.some_ne_none _ hst.symm).elim | split at hst)
  | arraylength => have hst := (q1_of hst).2; unfold hLen at hst; (try simp only [Bool.cond_eq_ite] at hst); repeat' (first | exact SH_same hst | exact SH_wr hst | exact SH_app hst | exact SH_cal hst | exact SH_ret hst | exact (Option.some_ne_none _ hst.symm).elim | split at hst)
  | new k => have hst := (q1_of hst).2; unfold hNew at hst; (try simp only [Bool.cond_eq_ite] at hst); repeat' (first | exact SH_same hst | exact SH_wr hst | exact SH_app hst | exact SH_cal hst | exact SH_ret hst | exact (Option.some_ne_none _ hst.symm).elim | split at hst)
  | newarray t => cases t with
    | int => have hst := (q1_of hst).2; unfold hNwa at hst; (try simp only [Bool.cond_eq_ite] at hst); repeat' (first | exact SH_same hst | exact SH_wr hst | exact SH_app hst | exact SH_cal hst | exact SH_ret hst | exact (Option.some_ne_none _ hst.symm).elim | split at hst)
    | long => have hst := (q1_of hst).2; unfold hNwa at hst; (try simp only [Bool.cond_eq_ite] at hst); repeat' (first | exact SH_same hst | exact SH_wr hst | exact SH_app hst | exact SH_cal hst | exact SH_ret hst | exact (Option.some_ne_none _ hst.symm).elim | split at hst)
    | _ => exact absurd (show (none : Option SR) = some x from hst) (fun q => by cases q)
  | anewarray k => have hst := (q1_of hst).2; unfold hNwr at hst; (try simp only [Bool.cond_eq_ite] at hst); repeat' (first | exact SH_same hst | exact SH_wr hst | exact SH_app hst | exact SH_cal hst | exact SH_ret hst | exact (Option.some_ne_none _ hst.symm).elim | split at hst)
  | invokevirtual k => have hst := (q1_of hst).2; unfold hCal at hst; (try simp only [Bool.cond_eq_ite] at hst); repeat' (first | exact SH_same hst | exact SH_wr hst | exact SH_app hst | exact SH_cal hst | exact SH_ret hst | exact (Option.some_ne_none _ hst.symm).elim | split at hst)
  | invokestatic k => have hst := (q1_of hst).2; unfold hSta at hst; cases hq : (Nat.beq (mK M) 4 && Nat.beq k acpI) with
    | true => rw [hq] at hst; exact SH_cpy (bif_of hst).2
    | false => rw [hq] at hst; replace hst : hCal 1 M k pc al st h = some x := hst; unfold hCal at hst; (try simp only [Bool.cond_eq_ite] at hst); repeat' (first | exact SH_same hst | exact SH_wr hst | exact SH_app hst | exact SH_cal hst | exact SH_ret hst | exact (Option.some_ne_none _ hst.symm).elim | split at hst)
  | invokespecial k => have hst := (q1_of hst).2; unfold hSpe at hst; cases hq : lk oLst (mK M) k with
    | some _ => rw [hq] at hst; replace hst : hObj M pc al st h = some x := hst; unfold hObj at hst; (try simp only [Bool.cond_eq_ite] at hst); repeat' (first | exact SH_same hst | exact SH_wr hst | exact SH_app hst | exact SH_cal hst | exact SH_ret hst | exact (Option.some_ne_none _ hst.symm).elim | split at hst)
    | none => rw [hq] at hst; replace hst : hCal 2 M k pc al st h = some x := hst; unfold hCal at hst; (try simp only [Bool.cond_eq_ite] at hst); repeat' (first | exact SH_same hst | exact SH_wr hst | exact SH_app hst | exact SH_cal hst | exact SH_ret hst | exact (Option.some_ne_none _ hst.symm).elim | split at hst)
  | ireturn => have hst := (q1_of hst).2; unfold hRetI rS at hst; (try simp only [Bool.cond_eq_ite] at hst); repeat' (first | exact SH_same hst | exact SH_wr hst | exact SH_app hst | exact SH_cal hst | exact SH_ret hst | exact (Option.some_ne_none _ hst.symm).elim | split at hst)
  | lreturn => have hst := (q1_of hst).2; unfold hRetJ rS at hst; (try simp only [Bool.cond_eq_ite] at hst); repeat' (first | exact SH_same hst | exact SH_wr hst | exact SH_app hst | exact SH_cal hst | exact SH_ret hst | exact (Option.some_ne_none _ hst.symm).elim | split at hst)
  | areturn => have hst := (q1_of hst).2; unfold hRetR rS at hst; (try simp only [Bool.cond_eq_ite] at hst); repeat' (first | exact SH_same hst | exact SH_wr hst | exact SH_app hst | exact SH_cal hst | exact SH_ret hst | exact (Option.some_ne_none _ hst.symm).elim | split at hst)
  | return_ => have hst := (q1_of hst).2; unfold hRetV rS at hst; (try simp only [Bool.cond_eq_ite] at hst); repeat' (first | exact SH_same hst | exact SH_wr hst | exact SH_app hst | exact SH_cal hst | exact SH_ret hst | exact (Option.some_ne_none _ hst.symm).elim | split at hst)
  | _ => exact absurd (show (none : Option SR) = some x from hst) (fun q => by cases q)

theorem SH_stp {M : MI} {pc : Nat} {al st : List AV} {h : AH} {x : SR} (hst : stp M pc al st h = some x) : SH h x := by
  unfold stp at hst
  split at hst
  · exact SH_stI hst
  · cases hst
theorem exec_mono : ∀ (n : Nat) (c : Cf) (r : RV), exec n c = some r → c.2.2.2.2.length ≤ r.2.length ∧ slt c.2.2.2.2 ≤ slt r.2 := by
  intro n
  induction n with
  | zero => intro c r h; cases h
  | succ n ih =>
    intro c r h
    rw [exec] at h
    cases hs : stp c.1 c.2.1 c.2.2.1 c.2.2.2.1 c.2.2.2.2 with
    | none => rw [hs] at h; cases h
    | some x =>
      rw [hs] at h
      obtain ⟨s1, s2, s3⟩ := SH_stp hs
      match x, h with
      | Sum.inl q, h =>
        have z := s1 q.1 q.2.1 q.2.2.1 q.2.2.2 rfl
        have y := ih _ _ h
        exact ⟨Nat.le_trans z.1 y.1, Nat.le_trans z.2 y.2⟩
      | Sum.inr (Sum.inl q), h =>
        have z := s2 q rfl
        simp only at h
        cases h1 : exec n (q.1, 0, ent q.1 q.2.1, [], q.2.2.1) with
        | none => rw [h1] at h; cases h
        | some r1 =>
          rw [h1] at h
          have y := ih _ _ h
          have y1 := ih _ _ h1
          simp only [z] at y1 y
          exact ⟨Nat.le_trans y1.1 y.1, Nat.le_trans y1.2 y.2⟩
      | Sum.inr (Sum.inr r1), h =>
        have z := s3 r1 rfl
        cases h
        rw [z]
        exact ⟨Nat.le_refl _, Nat.le_refl _⟩
