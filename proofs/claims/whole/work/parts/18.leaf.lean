theorem cKI {M M1 : MI} {as al rest : List AV} {h h2 : AH} {z : Int} {pc : Nat} (q : E M1 as h = some (some (aI z), h2)) : (cK (E M1 as h) fun v h2 => X M pc al (v.toList ++ rest) h2) = X M pc al (aI z :: rest) h2 := by rw [q]; rfl
theorem cKJ {M M1 : MI} {as al rest : List AV} {h h2 : AH} {z : Int} {pc : Nat} (q : E M1 as h = some (some (aJ z), h2)) : (cK (E M1 as h) fun v h2 => X M pc al (v.toList ++ rest) h2) = X M pc al (aJ z :: rest) h2 := by rw [q]; rfl
theorem cKR {M M1 : MI} {as al rest : List AV} {h h2 : AH} {z : Option Nat} {pc : Nat} (q : E M1 as h = some (some (aR z), h2)) : (cK (E M1 as h) fun v h2 => X M pc al (v.toList ++ rest) h2) = X M pc al (aR z :: rest) h2 := by rw [q]; rfl
theorem cKV {M M1 : MI} {as al rest : List AV} {h h2 : AH} {pc : Nat} (q : E M1 as h = some (none, h2)) : (cK (E M1 as h) fun v h2 => X M pc al (v.toList ++ rest) h2) = X M pc al rest h2 := by rw [q]; rfl
theorem fc_eq {a b : Int} : (fCmp a b = 0) = (a = b) := by unfold fCmp; split <;> (try split) <;> simp <;> omega
theorem fc_le {a b : Int} : (fCmp a b ≤ 0) = (a ≤ b) := by unfold fCmp; split <;> (try split) <;> simp <;> omega
theorem fc_ge {a b : Int} : (0 ≤ fCmp a b) = (b ≤ a) := by unfold fCmp; split <;> (try split) <;> simp <;> omega
theorem fc_lt {a b : Int} : (fCmp a b < 0) = (a < b) := by unfold fCmp; split <;> (try split) <;> simp <;> omega
theorem fc_gt {a b : Int} : (0 < fCmp a b) = (b < a) := by unfold fCmp; split <;> (try split) <;> simp <;> omega
def sumI (f : Nat → Int) : Nat → Int
  | 0 => 0
  | n + 1 => sumI f n + f n
theorem sumI_b {f : Nat → Int} {n : Nat} {lo hi : Int} (h : ∀ j, j < n → lo ≤ f j ∧ f j ≤ hi) : lo * n ≤ sumI f n ∧ sumI f n ≤ hi * n := by
  induction n with
  | zero => simp [sumI]
  | succ n ih =>
    have h1 := ih (fun j hj => h j (by omega))
    have h2 := h n (by omega)
    rw [sumI, Int.natCast_succ, Int.mul_add, Int.mul_add, Int.mul_one, Int.mul_one]
    omega
-- a Machine's cells
def Mach (h : AH) (a : Nat) (k : Int) (n : Nat) (py : Nat → Int) (w : Nat → Nat → Int) : Prop :=
  (1 ≤ n ∧ n ≤ 5) ∧ rd h 1 a 0 = some (aI k) ∧ rd h 1 a 1 = some (aI n) ∧ rd h 1 a 2 = some (aR (some (a + 1))) ∧ rd h 1 a 3 = some (aR (some (a + 2))) ∧ rd h 1 a 4 = some (aR (some (a + 3))) ∧ ln h (a + 1) = some n ∧ ln h (a + 2) = some (n * n) ∧ ln h (a + 3) = some n ∧ (∀ j, j < n → rd h 10 (a + 1) j = some (aI (py j))) ∧ (∀ s t, s < n → t < n → rd h 10 (a + 2) (s * n + t) = some (aI (w s t))) ∧ (∀ j, j < n → rd h 14 (a + 3) j = some (aR (some (a + 4 + j))))
def PB (n : Nat) (py : Nat → Int) : Prop := ∀ j, j < n → -50 ≤ py j ∧ py j ≤ 50
def WB (n : Nat) (w : Nat → Nat → Int) : Prop := ∀ s, s < n → (∀ t, t < n → 0 ≤ w s t ∧ w s t ≤ 10) ∧ 1 ≤ sumI (w s) n ∧ sumI (w s) n ≤ 10
theorem sn_b {s n : Nat} (hs : s < n) : s * n + n ≤ n * n := by
  have h := Nat.mul_le_mul_right n hs
  rw [Nat.succ_mul] at h
  exact h
theorem nn_b {n : Nat} (h : n ≤ 5) : n * n ≤ 25 := Nat.mul_le_mul h h
theorem c_has {h : AH} {a : Nat} {n s : Int} (h1 : rd h 1 a 1 = some (aI n)) : E mX1_has [aR (some a), aI s] h = some (some (aI (if 0 ≤ s ∧ s < n then 1 else 0)), h) := by
  rw [e_X1_has]
  (repeat' (first | (simp only [↓reduceIte, not_true_eq_false, not_false_eq_true, eq_self, ↓x_X1_has_0, ↓x_X1_has_1, ↓x_X1_has_4, ↓x_X1_has_5, ↓x_X1_has_6, ↓x_X1_has_9, ↓x_X1_has_12, ↓x_X1_has_13, ↓x_X1_has_16, ↓x_X1_has_17_0, ↓x_X1_has_17_1, ↓x_X1_has_17, ↓gK_of h1]) | rw [if_pos (by omega)] | rw [if_neg (by omega)] | split))
theorem c_isUnder {h : AH} {a : Nat} {k o : Int} (h1 : rd h 1 a 0 = some (aI k)) : E mX1_isUnder [aR (some a), aI o] h = some (some (aI (if o = 0 ∨ o = k ∨ (o = 2 ∧ k = 3) then 1 else 0)), h) := by
  rw [e_X1_isUnder]
  (repeat' (first | (simp only [↓reduceIte, not_true_eq_false, not_false_eq_true, eq_self, ↓x_X1_isUnder_0, ↓x_X1_isUnder_1, ↓x_X1_isUnder_4, ↓x_X1_isUnder_5, ↓x_X1_isUnder_6, ↓x_X1_isUnder_9, ↓x_X1_isUnder_12, ↓x_X1_isUnder_13, ↓x_X1_isUnder_14, ↓x_X1_isUnder_17, ↓x_X1_isUnder_18, ↓x_X1_isUnder_21, ↓x_X1_isUnder_22, ↓x_X1_isUnder_25, ↓x_X1_isUnder_26, ↓x_X1_isUnder_29, ↓x_X1_isUnder_30_0, ↓x_X1_isUnder_30_1, ↓x_X1_isUnder_30, ↓gK_of h1]) | rw [if_pos (by omega)] | rw [if_neg (by omega)] | split))
theorem c_mayPay {h : AH} {a : Nat} {k n s : Int} (h1 : rd h 1 a 0 = some (aI k)) (h2 : rd h 1 a 1 = some (aI n)) (hn : 0 ≤ n ∧ n ≤ 5) : E mX1_mayPay [aR (some a), aI s] h = some (some (aI (if ¬ k = 3 ∨ s = n - 2 then 1 else 0)), h) := by
  have e : w32 (n - 2) = n - 2 := w32_in (by omega) (by omega)
  rw [e_X1_mayPay]
  (repeat' (first | (simp only [↓reduceIte, not_true_eq_false, not_false_eq_true, eq_self, ↓x_X1_mayPay_0, ↓x_X1_mayPay_1, ↓x_X1_mayPay_4, ↓x_X1_mayPay_5, ↓x_X1_mayPay_8, ↓x_X1_mayPay_9, ↓x_X1_mayPay_10, ↓x_X1_mayPay_13, ↓x_X1_mayPay_14, ↓x_X1_mayPay_15, ↓x_X1_mayPay_18, ↓x_X1_mayPay_19, ↓x_X1_mayPay_22, ↓x_X1_mayPay_23_0, ↓x_X1_mayPay_23_1, ↓x_X1_mayPay_23, ↓gK_of h1, ↓gK_of h2, e]) | rw [if_pos (by omega)] | rw [if_neg (by omega)] | split))
section MACH
variable {h : AH} {a n : Nat} {k : Int} {py : Nat → Int} {w : Nat → Nat → Int}
theorem c_payAt (M : Mach h a k n py w) {s : Nat} (hs : s < n) : E mX1_payAt [aR (some a), aI s] h = some (some (aI (py s)), h) := by
  obtain ⟨⟨_, _⟩, g0, g1, g2, g3, g4, l1, l2, l3, p1, w1, o1⟩ := M
  have q : rd h 10 (a + 1) (s : Int).toNat = some (aI (py s)) := p1 s hs
  rw [e_X1_payAt]
  (repeat' (first | (simp only [↓reduceIte, not_true_eq_false, not_false_eq_true, eq_self, ↓x_X1_payAt_0, ↓x_X1_payAt_1, ↓x_X1_payAt_4, ↓x_X1_payAt_5, ↓x_X1_payAt_6, ↓x_X1_payAt_9, ↓x_X1_payAt_10, ↓x_X1_payAt_13, ↓x_X1_payAt_14, ↓x_X1_payAt_17, ↓x_X1_payAt_18, ↓x_X1_payAt_19, ↓x_X1_payAt_22, ↓x_X1_payAt_23, ↓gK_of g2, ↓gL_of l1, ↓gK_of q]) | rw [if_pos (by omega)] | rw [if_neg (by omega)] | split))
theorem c_weightAt (M : Mach h a k n py w) {s t : Nat} (hs : s < n) (ht : t < n) : E mX1_weightAt [aR (some a), aI s, aI t] h = some (some (aI (w s t)), h) := by
  obtain ⟨⟨_, hn5⟩, g0, g1, g2, g3, g4, l1, l2, l3, p1, w1, o1⟩ := M
  have hb := sn_b hs
  have hc := nn_b hn5
  have e1 : w32 ((s : Int) * (n : Int)) = ((s * n : Nat) : Int) := by rw [w32_in] <;> rw [← Int.natCast_mul] <;> omega
  have e2 : w32 (((s * n : Nat) : Int) + (t : Int)) = ((s * n + t : Nat) : Int) := by rw [w32_in] <;> omega
  have q : rd h 10 (a + 2) (((s * n + t : Nat) : Int)).toNat = some (aI (w s t)) := w1 s t hs ht
  rw [e_X1_weightAt]
  (repeat' (first | (simp only [↓reduceIte, not_true_eq_false, not_false_eq_true, eq_self, ↓x_X1_weightAt_0, ↓x_X1_weightAt_1, ↓x_X1_weightAt_4, ↓x_X1_weightAt_5, ↓x_X1_weightAt_6, ↓x_X1_weightAt_9, ↓x_X1_weightAt_12, ↓x_X1_weightAt_13, ↓x_X1_weightAt_16, ↓x_X1_weightAt_17, ↓x_X1_weightAt_18, ↓x_X1_weightAt_21, ↓x_X1_weightAt_24, ↓x_X1_weightAt_25, ↓x_X1_weightAt_26, ↓x_X1_weightAt_27, ↓x_X1_weightAt_30, ↓x_X1_weightAt_31, ↓x_X1_weightAt_32, ↓x_X1_weightAt_35, ↓x_X1_weightAt_36, ↓x_X1_weightAt_37, ↓x_X1_weightAt_38, ↓x_X1_weightAt_39, ↓gK_of g1, ↓gK_of g3, ↓gL_of l1, ↓gK_of q, gK_of q, e1, e2]) | rw [if_pos (by omega)] | rw [if_neg (by omega)] | split))
theorem c_worthAt (M : Mach h a k n py w) {s : Nat} (hs : s < n) : E mX1_worthAt [aR (some a), aI s] h = some (some (aR (some (a + 4 + s))), h) := by
  obtain ⟨⟨_, _⟩, g0, g1, g2, g3, g4, l1, l2, l3, p1, w1, o1⟩ := M
  have q : rd h 14 (a + 3) (s : Int).toNat = some (aR (some (a + 4 + s))) := o1 s hs
  have ht : tagR h (a + 3) = 14 := tag_rd q
  rw [e_X1_worthAt]
  (repeat' (first | (simp only [↓reduceIte, not_true_eq_false, not_false_eq_true, eq_self, ↓x_X1_worthAt_0, ↓x_X1_worthAt_1, ↓x_X1_worthAt_4, ↓x_X1_worthAt_5, ↓x_X1_worthAt_8, ↓x_X1_worthAt_9, ↓x_X1_worthAt_10, ↓x_X1_worthAt_13, ↓x_X1_worthAt_14, ↓x_X1_worthAt_17, ↓x_X1_worthAt_18, ↓x_X1_worthAt_21, ↓x_X1_worthAt_22, ↓x_X1_worthAt_23, ↓gK_of g4, ↓gL_of l3, ↓gK_of q, ht]) | rw [if_pos (by omega)] | rw [if_neg (by omega)] | split))
theorem c_setPay (M : Mach h a k n py w) {v0 : AV} (hw : rd h 1 a 5 = some v0) {s : Nat} {v : Int} (hs : s < n) : E mX1_setPay [aR (some a), aI s, aI v] h = some (none, wr (wr h 10 (a + 1) s (aI v)) 1 a 5 (aI 0)) := by
  obtain ⟨⟨_, _⟩, g0, g1, g2, g3, g4, l1, l2, l3, p1, w1, o1⟩ := M
  have q : rd h 10 (a + 1) (s : Int).toNat = some (aI (py s)) := p1 s hs
  have q2 : rd (wr h 10 (a + 1) (s : Int).toNat (aI v)) 1 a 5 = some v0 := by rw [rd_wn (Or.inl (by decide))]; exact hw
  rw [e_X1_setPay]
  (repeat' (first | (simp only [↓reduceIte, not_true_eq_false, not_false_eq_true, eq_self, ↓x_X1_setPay_0, ↓x_X1_setPay_1, ↓x_X1_setPay_4, ↓x_X1_setPay_5, ↓x_X1_setPay_6, ↓x_X1_setPay_9, ↓x_X1_setPay_10, ↓x_X1_setPay_13, ↓x_X1_setPay_14, ↓x_X1_setPay_17, ↓x_X1_setPay_18, ↓x_X1_setPay_19, ↓x_X1_setPay_20, ↓x_X1_setPay_21, ↓x_X1_setPay_22_0, ↓x_X1_setPay_22_1, ↓x_X1_setPay_25, ↓gK_of g2, ↓gL_of l1, ↓pK_of q, ↓pK_of q2, Int.toNat_natCast]) | rw [if_pos (by omega)] | rw [if_neg (by omega)] | split))
theorem c_setWeight (M : Mach h a k n py w) {v0 : AV} (hw : rd h 1 a 5 = some v0) {s t : Nat} {v : Int} (hs : s < n) (ht : t < n) : E mX1_setWeight [aR (some a), aI s, aI t, aI v] h = some (none, wr (wr h 10 (a + 2) (s * n + t) (aI v)) 1 a 5 (aI 0)) := by
  obtain ⟨⟨_, hn5⟩, g0, g1, g2, g3, g4, l1, l2, l3, p1, w1, o1⟩ := M
  have hb := sn_b hs
  have hc := nn_b hn5
  have e1 : w32 ((s : Int) * (n : Int)) = ((s * n : Nat) : Int) := by rw [w32_in] <;> rw [← Int.natCast_mul] <;> omega
  have e2 : w32 (((s * n : Nat) : Int) + (t : Int)) = ((s * n + t : Nat) : Int) := by rw [w32_in] <;> omega
  have q : rd h 10 (a + 2) (((s * n + t : Nat) : Int)).toNat = some (aI (w s t)) := w1 s t hs ht
  have q2 : rd (wr h 10 (a + 2) (((s * n + t : Nat) : Int)).toNat (aI v)) 1 a 5 = some v0 := by rw [rd_wn (Or.inl (by decide))]; exact hw
  rw [Int.toNat_natCast] at q q2
  have ho := isO_rd g1
  have c1 := c_has (s := (s : Int)) g1
  have c2 := c_has (s := (t : Int)) g1
  rw [if_pos (by omega)] at c1 c2
  rw [e_X1_setWeight]
  (repeat' (first | (simp only [↓reduceIte, not_true_eq_false, not_false_eq_true, eq_self, ↓x_X1_setWeight_0, ↓x_X1_setWeight_1, ↓x_X1_setWeight_2, ↓x_X1_setWeight_5, ↓x_X1_setWeight_8, ↓x_X1_setWeight_9, ↓x_X1_setWeight_10, ↓x_X1_setWeight_13, ↓x_X1_setWeight_16, ↓x_X1_setWeight_17, ↓x_X1_setWeight_20, ↓x_X1_setWeight_21, ↓x_X1_setWeight_22, ↓x_X1_setWeight_25, ↓x_X1_setWeight_26, ↓x_X1_setWeight_27, ↓x_X1_setWeight_28, ↓x_X1_setWeight_29, ↓x_X1_setWeight_30, ↓x_X1_setWeight_31, ↓x_X1_setWeight_32_0, ↓x_X1_setWeight_32_1, ↓x_X1_setWeight_35, ↓gK_of g1, ↓gK_of g3, pK_of q, pK_of q2, e1, e2, ho, ↓cKI c1, ↓cKI c2, Int.toNat_natCast]) | rw [if_pos (by omega)] | rw [if_neg (by omega)] | split))
end MACH
