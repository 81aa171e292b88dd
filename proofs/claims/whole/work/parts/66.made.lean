def FO (h : AH) (a : Nat) (f : Nat → AV) : Prop := ∀ j, j < 8 → rd h 1 a j = some (f j)
theorem FO.wr {h : AH} {a : Nat} {f : Nat → AV} (H : FO h a f) (j0 : Nat) (hj : j0 < 8) (v : AV) : FO (wr h 1 a j0 v) a (fun j => if j = j0 then v else f j) := fun j h8 => by
  by_cases e : j = j0
  · subst e
    show _ = some (if j = j then v else f j)
    rw [if_pos rfl]
    exact rd_wr (H j h8)
  · show _ = some (if j = j0 then v else f j)
    rw [if_neg e, rd_wn (Or.inr (Or.inr e))]
    exact H j h8
theorem FO.app {h : AH} {a : Nat} {f : Nat → AV} (H : FO h a f) (c : AC) : FO (h ++ [c]) a f := fun j h8 => by
  rw [rd_app (rd_lt (H j h8))]
  exact H j h8
theorem nn_w {n : Nat} (hn : n ≤ 5) : w32 ((n : Int) * (n : Int)) = ((n * n : Nat) : Int) := by
  have hc := nn_b hn
  rw [w32_in] <;> rw [← Int.natCast_mul] <;> omega
theorem c_init1 {h0 : AH} {kd : Int} {n : Nat} (hn : 1 ≤ n ∧ n ≤ 5) : ∃ h', E mX1_init [aR (some h0.length), aI kd, aI n] (h0 ++ [(1, [aI 0, aI 0, aR none, aR none, aR none, aI 0, aI 0, aI 0])]) = some (none, h') ∧ IM h0 h' kd n n := by
  have H0 : FO (h0 ++ [(1, [aI 0, aI 0, aR none, aR none, aR none, aI 0, aI 0, aI 0])]) h0.length (fun j => if j = 2 ∨ j = 3 ∨ j = 4 then aR none else aI 0) := fun j h8 => by
    match j, h8 with
    | 0, _ => exact rd_nw
    | 1, _ => exact rd_nw
    | 2, _ => exact rd_nw
    | 3, _ => exact rd_nw
    | 4, _ => exact rd_nw
    | 5, _ => exact rd_nw
    | 6, _ => exact rd_nw
    | 7, _ => exact rd_nw
  have hl : (h0 ++ [(1, [aI 0, aI 0, aR none, aR none, aR none, aI 0, aI 0, aI 0])]).length = h0.length + 1 := len_app
  have hs : slt (h0 ++ [(1, [aI 0, aI 0, aR none, aR none, aR none, aI 0, aI 0, aI 0])]) = slt h0 + 8 := by rw [slt_app]; rfl
  have ex : Ext h0 (h0 ++ [(1, [aI 0, aI 0, aR none, aR none, aR none, aI 0, aI 0, aI 0])]) := Ext.rf.app _
  generalize h0 ++ [(1, [aI 0, aI 0, aR none, aR none, aR none, aI 0, aI 0, aI 0])] = g at *
  generalize hc : h0.length = a at *
  have H1 := H0.wr 5 (by decide) (aI 0)
  have H2 := H1.wr 6 (by decide) (aI 0)
  have H3 := H2.wr 7 (by decide) (aI 0)
  have H4 := H3.wr 0 (by decide) (aI kd)
  have H5 := H4.wr 1 (by decide) (aI n)
  have cmin := c_min' (h := wr (wr (wr (wr g 1 a 5 (aI 0)) 1 a 6 (aI 0)) 1 a 7 (aI 0)) 1 a 0 (aI kd)) (a := 5) (b := (n : Int)) (by omega)
  have cmax := c_max' (h := wr (wr (wr (wr g 1 a 5 (aI 0)) 1 a 6 (aI 0)) 1 a 7 (aI 0)) 1 a 0 (aI kd)) (a := 1) (b := (n : Int)) (by omega)
  have s1 : E mX1_init [aR (some a), aI kd, aI n] g = X mX1_init 37 [aR (some a), aI kd, aI n, aU, aU, aU] [] (wr (wr (wr (wr (wr g 1 a 5 (aI 0)) 1 a 6 (aI 0)) 1 a 7 (aI 0)) 1 a 0 (aI kd)) 1 a 1 (aI n)) := by
    rw [e_X1_init]
    simp only [↓x_X1_init_0, ↓x_X1_init_1, ↓x_X1_init_4, ↓x_X1_init_5, ↓x_X1_init_6_0, ↓x_X1_init_6_1, ↓x_X1_init_9, ↓x_X1_init_10, ↓x_X1_init_11, ↓x_X1_init_14, ↓x_X1_init_15, ↓x_X1_init_16, ↓x_X1_init_19, ↓x_X1_init_20, ↓x_X1_init_21, ↓x_X1_init_24, ↓x_X1_init_25, ↓x_X1_init_26, ↓x_X1_init_27, ↓x_X1_init_28, ↓x_X1_init_31, ↓x_X1_init_34, ↓x_X1_init_38, ↓x_X1_init_39, ↓x_X1_init_42, ↓x_X1_init_44, ↓x_X1_init_47, ↓x_X1_init_48, ↓x_X1_init_49, ↓x_X1_init_52, ↓x_X1_init_53, ↓x_X1_init_56, ↓x_X1_init_57, ↓x_X1_init_59, ↓x_X1_init_62, ↓x_X1_init_63, ↓x_X1_init_64, ↓x_X1_init_67, ↓x_X1_init_70, ↓x_X1_init_73, ↓x_X1_init_74, ↓x_X1_init_75, ↓x_X1_init_78, ↓x_X1_init_79, ↓x_X1_init_80, ↓x_X1_init_83, ↓x_X1_init_84, ↓x_X1_init_87, ↓x_X1_init_88, ↓x_X1_init_89, ↓x_X1_init_90, ↓x_X1_init_94, ↓x_X1_init_95, ↓x_X1_init_98, ↓x_X1_init_101, ↓x_X1_init_102, ↓x_X1_init_105, ↓x_X1_init_107, ↓x_X1_init_108, ↓x_X1_init_111, ↓x_X1_init_112, ↓x_X1_init_113, ↓x_X1_init_116, ↓x_X1_init_118, ↓x_X1_init_119, ↓x_X1_init_120, ↓x_X1_init_123, ↓x_X1_init_125, ↓x_X1_init_127, ↓x_X1_init_128, ↓x_X1_init_131, ↓x_X1_init_133, ↓x_X1_init_134, ↓x_X1_init_137, ↓x_X1_init_138, ↓x_X1_init_140, ↓x_X1_init_141, ↓x_X1_init_142, ↓x_X1_init_143, ↓x_X1_init_144, ↓x_X1_init_147, ↓x_X1_init_149, ↓x_X1_init_152, ↓x_X1_init_153, ↓x_X1_init_156, ↓x_X1_init_157, ↓x_X1_init_160, ↓x_X1_init_163, ↓pK_of (H0 5 (by decide)), ↓pK_of (H1 6 (by decide)), ↓pK_of (H2 7 (by decide)), ↓pK_of (H3 0 (by decide)), ↓cKI cmin, ↓cKI cmax, ↓pK_of (H4 1 (by decide))]
  have exA : Ext h0 (wr (wr (wr (wr (wr g 1 a 5 (aI 0)) 1 a 6 (aI 0)) 1 a 7 (aI 0)) 1 a 0 (aI kd)) 1 a 1 (aI n)) := ((((ex.wr (by omega)).wr (by omega)).wr (by omega)).wr (by omega)).wr (by omega)
  have lA : (wr (wr (wr (wr (wr g 1 a 5 (aI 0)) 1 a 6 (aI 0)) 1 a 7 (aI 0)) 1 a 0 (aI kd)) 1 a 1 (aI n)).length = a + 1 := by rw [wr_len, wr_len, wr_len, wr_len, wr_len, hl]
  have sA : slt (wr (wr (wr (wr (wr g 1 a 5 (aI 0)) 1 a 6 (aI 0)) 1 a 7 (aI 0)) 1 a 0 (aI kd)) 1 a 1 (aI n)) = slt h0 + 8 := by rw [wr_slt, wr_slt, wr_slt, wr_slt, wr_slt, hs]
  rw [s1]
  clear cmin cmax s1 H0 H1 H2 H3 H4 ex hl hs
  generalize wr (wr (wr (wr (wr g 1 a 5 (aI 0)) 1 a 6 (aI 0)) 1 a 7 (aI 0)) 1 a 0 (aI kd)) 1 a 1 (aI n) = A at *
  have g1 : rd A 1 a 1 = some (aI n) := H5 1 (by decide)
  have hn' : 0 ≤ (n : Int) ∧ (n : Int) ≤ 1000 := by omega
  have hnn := nn_b hn.2
  have hnn' : 0 ≤ ((n * n : Nat) : Int) ∧ ((n * n : Nat) : Int) ≤ 1000 := ⟨Int.natCast_nonneg _, by omega⟩
  have B0 := H5.app (10, List.replicate n (aI 0))
  have B1 := B0.wr 2 (by decide) (aR (some (a + 1)))
  have C0 := B1.app (10, List.replicate (n * n) (aI 0))
  have C1 := C0.wr 3 (by decide) (aR (some (a + 2)))
  have D0 := C1.app (14, List.replicate n (aR none))
  have D1 := D0.wr 4 (by decide) (aR (some (a + 3)))
  have lB : (wr (A ++ [(10, List.replicate n (aI 0))]) 1 a 2 (aR (some (a + 1)))).length = a + 2 := by rw [wr_len, len_app, lA]
  have lC : (wr (wr (A ++ [(10, List.replicate n (aI 0))]) 1 a 2 (aR (some (a + 1))) ++ [(10, List.replicate (n * n) (aI 0))]) 1 a 3 (aR (some (a + 2)))).length = a + 3 := by rw [wr_len, len_app, lB]
  have s2 : X mX1_init 37 [aR (some a), aI kd, aI n, aU, aU, aU] [] A = X mX1_init 47 [aR (some a), aI kd, aI n, aU, aU, aU] [] (wr (A ++ [(10, List.replicate n (aI 0))]) 1 a 2 (aR (some (a + 1)))) := by
    simp only [↓x_X1_init_0, ↓x_X1_init_1, ↓x_X1_init_4, ↓x_X1_init_5, ↓x_X1_init_6_0, ↓x_X1_init_6_1, ↓x_X1_init_9, ↓x_X1_init_10, ↓x_X1_init_11, ↓x_X1_init_14, ↓x_X1_init_15, ↓x_X1_init_16, ↓x_X1_init_19, ↓x_X1_init_20, ↓x_X1_init_21, ↓x_X1_init_24, ↓x_X1_init_25, ↓x_X1_init_26, ↓x_X1_init_27, ↓x_X1_init_28, ↓x_X1_init_31, ↓x_X1_init_34, ↓x_X1_init_37, ↓x_X1_init_38, ↓x_X1_init_39, ↓x_X1_init_42, ↓x_X1_init_48, ↓x_X1_init_49, ↓x_X1_init_52, ↓x_X1_init_53, ↓x_X1_init_56, ↓x_X1_init_57, ↓x_X1_init_59, ↓x_X1_init_62, ↓x_X1_init_63, ↓x_X1_init_64, ↓x_X1_init_67, ↓x_X1_init_70, ↓x_X1_init_73, ↓x_X1_init_74, ↓x_X1_init_75, ↓x_X1_init_78, ↓x_X1_init_79, ↓x_X1_init_80, ↓x_X1_init_83, ↓x_X1_init_84, ↓x_X1_init_87, ↓x_X1_init_88, ↓x_X1_init_89, ↓x_X1_init_90, ↓x_X1_init_94, ↓x_X1_init_95, ↓x_X1_init_98, ↓x_X1_init_101, ↓x_X1_init_102, ↓x_X1_init_105, ↓x_X1_init_107, ↓x_X1_init_108, ↓x_X1_init_111, ↓x_X1_init_112, ↓x_X1_init_113, ↓x_X1_init_116, ↓x_X1_init_118, ↓x_X1_init_119, ↓x_X1_init_120, ↓x_X1_init_123, ↓x_X1_init_125, ↓x_X1_init_127, ↓x_X1_init_128, ↓x_X1_init_131, ↓x_X1_init_133, ↓x_X1_init_134, ↓x_X1_init_137, ↓x_X1_init_138, ↓x_X1_init_140, ↓x_X1_init_141, ↓x_X1_init_142, ↓x_X1_init_143, ↓x_X1_init_144, ↓x_X1_init_147, ↓x_X1_init_149, ↓x_X1_init_152, ↓x_X1_init_153, ↓x_X1_init_156, ↓x_X1_init_157, ↓x_X1_init_160, ↓x_X1_init_163, ↓gK_of g1, hn', and_self, ↓reduceIte, Int.toNat_natCast, lA]
    rw [x_X1_init_44, pK_of (B0 2 (by decide))]
  have s3 : X mX1_init 47 [aR (some a), aI kd, aI n, aU, aU, aU] [] (wr (A ++ [(10, List.replicate n (aI 0))]) 1 a 2 (aR (some (a + 1)))) = X mX1_init 62 [aR (some a), aI kd, aI n, aU, aU, aU] [] (wr (wr (A ++ [(10, List.replicate n (aI 0))]) 1 a 2 (aR (some (a + 1))) ++ [(10, List.replicate (n * n) (aI 0))]) 1 a 3 (aR (some (a + 2)))) := by
    have g1' : rd (wr (A ++ [(10, List.replicate n (aI 0))]) 1 a 2 (aR (some (a + 1)))) 1 a 1 = some (aI n) := B1 1 (by decide)
    simp only [↓x_X1_init_0, ↓x_X1_init_1, ↓x_X1_init_4, ↓x_X1_init_5, ↓x_X1_init_6_0, ↓x_X1_init_6_1, ↓x_X1_init_9, ↓x_X1_init_10, ↓x_X1_init_11, ↓x_X1_init_14, ↓x_X1_init_15, ↓x_X1_init_16, ↓x_X1_init_19, ↓x_X1_init_20, ↓x_X1_init_21, ↓x_X1_init_24, ↓x_X1_init_25, ↓x_X1_init_26, ↓x_X1_init_27, ↓x_X1_init_28, ↓x_X1_init_31, ↓x_X1_init_34, ↓x_X1_init_37, ↓x_X1_init_38, ↓x_X1_init_39, ↓x_X1_init_42, ↓x_X1_init_44, ↓x_X1_init_47, ↓x_X1_init_48, ↓x_X1_init_49, ↓x_X1_init_52, ↓x_X1_init_53, ↓x_X1_init_56, ↓x_X1_init_57, ↓x_X1_init_63, ↓x_X1_init_64, ↓x_X1_init_67, ↓x_X1_init_70, ↓x_X1_init_73, ↓x_X1_init_74, ↓x_X1_init_75, ↓x_X1_init_78, ↓x_X1_init_79, ↓x_X1_init_80, ↓x_X1_init_83, ↓x_X1_init_84, ↓x_X1_init_87, ↓x_X1_init_88, ↓x_X1_init_89, ↓x_X1_init_90, ↓x_X1_init_94, ↓x_X1_init_95, ↓x_X1_init_98, ↓x_X1_init_101, ↓x_X1_init_102, ↓x_X1_init_105, ↓x_X1_init_107, ↓x_X1_init_108, ↓x_X1_init_111, ↓x_X1_init_112, ↓x_X1_init_113, ↓x_X1_init_116, ↓x_X1_init_118, ↓x_X1_init_119, ↓x_X1_init_120, ↓x_X1_init_123, ↓x_X1_init_125, ↓x_X1_init_127, ↓x_X1_init_128, ↓x_X1_init_131, ↓x_X1_init_133, ↓x_X1_init_134, ↓x_X1_init_137, ↓x_X1_init_138, ↓x_X1_init_140, ↓x_X1_init_141, ↓x_X1_init_142, ↓x_X1_init_143, ↓x_X1_init_144, ↓x_X1_init_147, ↓x_X1_init_149, ↓x_X1_init_152, ↓x_X1_init_153, ↓x_X1_init_156, ↓x_X1_init_157, ↓x_X1_init_160, ↓x_X1_init_163, ↓gK_of g1', nn_w hn.2, hnn', and_self, ↓reduceIte, Int.toNat_natCast, lB]
    rw [x_X1_init_59, pK_of (C0 3 (by decide))]
  have s4 : X mX1_init 62 [aR (some a), aI kd, aI n, aU, aU, aU] [] (wr (wr (A ++ [(10, List.replicate n (aI 0))]) 1 a 2 (aR (some (a + 1))) ++ [(10, List.replicate (n * n) (aI 0))]) 1 a 3 (aR (some (a + 2)))) = X mX1_init 73 [aR (some a), aI kd, aI n, aU, aU, aU] [] (wr (wr (wr (A ++ [(10, List.replicate n (aI 0))]) 1 a 2 (aR (some (a + 1))) ++ [(10, List.replicate (n * n) (aI 0))]) 1 a 3 (aR (some (a + 2))) ++ [(14, List.replicate n (aR none))]) 1 a 4 (aR (some (a + 3)))) := by
    have g1' : rd (wr (wr (A ++ [(10, List.replicate n (aI 0))]) 1 a 2 (aR (some (a + 1))) ++ [(10, List.replicate (n * n) (aI 0))]) 1 a 3 (aR (some (a + 2)))) 1 a 1 = some (aI n) := C1 1 (by decide)
    simp only [↓x_X1_init_0, ↓x_X1_init_1, ↓x_X1_init_4, ↓x_X1_init_5, ↓x_X1_init_6_0, ↓x_X1_init_6_1, ↓x_X1_init_9, ↓x_X1_init_10, ↓x_X1_init_11, ↓x_X1_init_14, ↓x_X1_init_15, ↓x_X1_init_16, ↓x_X1_init_19, ↓x_X1_init_20, ↓x_X1_init_21, ↓x_X1_init_24, ↓x_X1_init_25, ↓x_X1_init_26, ↓x_X1_init_27, ↓x_X1_init_28, ↓x_X1_init_31, ↓x_X1_init_34, ↓x_X1_init_37, ↓x_X1_init_38, ↓x_X1_init_39, ↓x_X1_init_42, ↓x_X1_init_44, ↓x_X1_init_47, ↓x_X1_init_48, ↓x_X1_init_49, ↓x_X1_init_52, ↓x_X1_init_53, ↓x_X1_init_56, ↓x_X1_init_57, ↓x_X1_init_59, ↓x_X1_init_62, ↓x_X1_init_63, ↓x_X1_init_64, ↓x_X1_init_67, ↓x_X1_init_74, ↓x_X1_init_75, ↓x_X1_init_78, ↓x_X1_init_79, ↓x_X1_init_80, ↓x_X1_init_83, ↓x_X1_init_84, ↓x_X1_init_87, ↓x_X1_init_88, ↓x_X1_init_89, ↓x_X1_init_90, ↓x_X1_init_94, ↓x_X1_init_95, ↓x_X1_init_98, ↓x_X1_init_101, ↓x_X1_init_102, ↓x_X1_init_105, ↓x_X1_init_107, ↓x_X1_init_108, ↓x_X1_init_111, ↓x_X1_init_112, ↓x_X1_init_113, ↓x_X1_init_116, ↓x_X1_init_118, ↓x_X1_init_119, ↓x_X1_init_120, ↓x_X1_init_123, ↓x_X1_init_125, ↓x_X1_init_127, ↓x_X1_init_128, ↓x_X1_init_131, ↓x_X1_init_133, ↓x_X1_init_134, ↓x_X1_init_137, ↓x_X1_init_138, ↓x_X1_init_140, ↓x_X1_init_141, ↓x_X1_init_142, ↓x_X1_init_143, ↓x_X1_init_144, ↓x_X1_init_147, ↓x_X1_init_149, ↓x_X1_init_152, ↓x_X1_init_153, ↓x_X1_init_156, ↓x_X1_init_157, ↓x_X1_init_160, ↓x_X1_init_163, ↓gK_of g1', hn', and_self, ↓reduceIte, Int.toNat_natCast, lC]
    rw [x_X1_init_70, pK_of (D0 4 (by decide))]
  rw [s2, s3, s4]
  have exD : Ext h0 (wr (wr (wr (A ++ [(10, List.replicate n (aI 0))]) 1 a 2 (aR (some (a + 1))) ++ [(10, List.replicate (n * n) (aI 0))]) 1 a 3 (aR (some (a + 2))) ++ [(14, List.replicate n (aR none))]) 1 a 4 (aR (some (a + 3)))) := ((((((exA.app _).wr (by omega)).app _).wr (by omega)).app _).wr (by omega))
  have I0 : IM h0 (wr (wr (wr (A ++ [(10, List.replicate n (aI 0))]) 1 a 2 (aR (some (a + 1))) ++ [(10, List.replicate (n * n) (aI 0))]) 1 a 3 (aR (some (a + 2))) ++ [(14, List.replicate n (aR none))]) 1 a 4 (aR (some (a + 3)))) kd n 0 := by
    unfold IM
    rw [hc]
    refine ⟨⟨exD, by rw [wr_len, len_app, lC], ?_⟩, ⟨D1 0 (by decide), D1 1 (by decide), D1 2 (by decide), D1 3 (by decide), D1 4 (by decide)⟩, fun j h1 h2 => ?_, ⟨?_, ?_, ?_⟩, fun j hj => ?_, fun x t hx ht => ?_, fun j hj => ?_, fun j hj => by omega, fun j hj => by omega⟩
    · rw [wr_slt, slt_app, wr_slt, slt_app, wr_slt, slt_app, sA, List.length_replicate, List.length_replicate, List.length_replicate]
      omega
    · match j, h1, h2 with
      | 5, _, _ => exact D1 5 (by decide)
      | 6, _, _ => exact D1 6 (by decide)
      | 7, _, _ => exact D1 7 (by decide)
    · rw [ln_wr, ln_app (by omega), ln_wr, ln_app (by omega), ln_wr, ← lA, ln_nw rfl, List.length_replicate]
    · rw [ln_wr, ln_app (by omega), ln_wr, ← lB, ln_nw rfl, List.length_replicate]
    · rw [ln_wr, ← lC, ln_nw rfl, List.length_replicate]
    · rw [rd_wn (Or.inl (by decide)), rd_app (by omega), rd_wn (Or.inl (by decide)), rd_app (by omega), rd_wn (Or.inl (by decide)), ← lA, rd_nw, List.getElem?_replicate, if_pos hj]
    · rw [if_neg (by omega), rd_wn (Or.inl (by decide)), rd_app (by omega), rd_wn (Or.inl (by decide)), ← lB, rd_nw, List.getElem?_replicate, if_pos (by have := sn_b hx; omega)]
    · exact ⟨aR none, by rw [rd_wn (Or.inl (by decide)), ← lC, rd_nw, List.getElem?_replicate, if_pos hj]⟩
  generalize wr (wr (wr (A ++ [(10, List.replicate n (aI 0))]) 1 a 2 (aR (some (a + 1))) ++ [(10, List.replicate (n * n) (aI 0))]) 1 a 3 (aR (some (a + 2))) ++ [(14, List.replicate n (aR none))]) 1 a 4 (aR (some (a + 3))) = D at *
  obtain ⟨h', r1, r2⟩ := l_init1 (h0 := h0) hn (ag := if kd = 2 ∨ kd = 3 then 1 else 0) rfl n 0 D aU (by omega) I0
  refine ⟨h', ?_, r2⟩
  rw [hc] at r1
  rw [← r1]
  by_cases c1 : kd = 2
  · rw [if_pos (Or.inl c1)]
    simp only [↓x_X1_init_0, ↓x_X1_init_1, ↓x_X1_init_4, ↓x_X1_init_5, ↓x_X1_init_6_0, ↓x_X1_init_6_1, ↓x_X1_init_9, ↓x_X1_init_10, ↓x_X1_init_11, ↓x_X1_init_14, ↓x_X1_init_15, ↓x_X1_init_16, ↓x_X1_init_19, ↓x_X1_init_20, ↓x_X1_init_21, ↓x_X1_init_24, ↓x_X1_init_25, ↓x_X1_init_26, ↓x_X1_init_27, ↓x_X1_init_28, ↓x_X1_init_31, ↓x_X1_init_34, ↓x_X1_init_37, ↓x_X1_init_38, ↓x_X1_init_39, ↓x_X1_init_42, ↓x_X1_init_44, ↓x_X1_init_47, ↓x_X1_init_48, ↓x_X1_init_49, ↓x_X1_init_52, ↓x_X1_init_53, ↓x_X1_init_56, ↓x_X1_init_57, ↓x_X1_init_59, ↓x_X1_init_62, ↓x_X1_init_63, ↓x_X1_init_64, ↓x_X1_init_67, ↓x_X1_init_70, ↓x_X1_init_73, ↓x_X1_init_74, ↓x_X1_init_75, ↓x_X1_init_78, ↓x_X1_init_79, ↓x_X1_init_80, ↓x_X1_init_83, ↓x_X1_init_84, ↓x_X1_init_87, ↓x_X1_init_88, ↓x_X1_init_89, ↓x_X1_init_90, ↓x_X1_init_94, ↓x_X1_init_95, ↓x_X1_init_98, ↓x_X1_init_101, ↓x_X1_init_102, ↓x_X1_init_105, ↓x_X1_init_107, ↓x_X1_init_108, ↓x_X1_init_111, ↓x_X1_init_112, ↓x_X1_init_113, ↓x_X1_init_116, ↓x_X1_init_118, ↓x_X1_init_119, ↓x_X1_init_120, ↓x_X1_init_123, ↓x_X1_init_125, ↓x_X1_init_127, ↓x_X1_init_128, ↓x_X1_init_131, ↓x_X1_init_133, ↓x_X1_init_134, ↓x_X1_init_137, ↓x_X1_init_138, ↓x_X1_init_140, ↓x_X1_init_141, ↓x_X1_init_142, ↓x_X1_init_143, ↓x_X1_init_144, ↓x_X1_init_147, ↓x_X1_init_149, ↓x_X1_init_152, ↓x_X1_init_153, ↓x_X1_init_156, ↓x_X1_init_157, ↓x_X1_init_160, ↓x_X1_init_163, c1, ↓reduceIte]
    rfl
  · by_cases c2 : kd = 3
    · rw [if_pos (Or.inr c2)]
      simp only [↓x_X1_init_0, ↓x_X1_init_1, ↓x_X1_init_4, ↓x_X1_init_5, ↓x_X1_init_6_0, ↓x_X1_init_6_1, ↓x_X1_init_9, ↓x_X1_init_10, ↓x_X1_init_11, ↓x_X1_init_14, ↓x_X1_init_15, ↓x_X1_init_16, ↓x_X1_init_19, ↓x_X1_init_20, ↓x_X1_init_21, ↓x_X1_init_24, ↓x_X1_init_25, ↓x_X1_init_26, ↓x_X1_init_27, ↓x_X1_init_28, ↓x_X1_init_31, ↓x_X1_init_34, ↓x_X1_init_37, ↓x_X1_init_38, ↓x_X1_init_39, ↓x_X1_init_42, ↓x_X1_init_44, ↓x_X1_init_47, ↓x_X1_init_48, ↓x_X1_init_49, ↓x_X1_init_52, ↓x_X1_init_53, ↓x_X1_init_56, ↓x_X1_init_57, ↓x_X1_init_59, ↓x_X1_init_62, ↓x_X1_init_63, ↓x_X1_init_64, ↓x_X1_init_67, ↓x_X1_init_70, ↓x_X1_init_73, ↓x_X1_init_74, ↓x_X1_init_75, ↓x_X1_init_78, ↓x_X1_init_79, ↓x_X1_init_80, ↓x_X1_init_83, ↓x_X1_init_84, ↓x_X1_init_87, ↓x_X1_init_88, ↓x_X1_init_89, ↓x_X1_init_90, ↓x_X1_init_94, ↓x_X1_init_95, ↓x_X1_init_98, ↓x_X1_init_101, ↓x_X1_init_102, ↓x_X1_init_105, ↓x_X1_init_107, ↓x_X1_init_108, ↓x_X1_init_111, ↓x_X1_init_112, ↓x_X1_init_113, ↓x_X1_init_116, ↓x_X1_init_118, ↓x_X1_init_119, ↓x_X1_init_120, ↓x_X1_init_123, ↓x_X1_init_125, ↓x_X1_init_127, ↓x_X1_init_128, ↓x_X1_init_131, ↓x_X1_init_133, ↓x_X1_init_134, ↓x_X1_init_137, ↓x_X1_init_138, ↓x_X1_init_140, ↓x_X1_init_141, ↓x_X1_init_142, ↓x_X1_init_143, ↓x_X1_init_144, ↓x_X1_init_147, ↓x_X1_init_149, ↓x_X1_init_152, ↓x_X1_init_153, ↓x_X1_init_156, ↓x_X1_init_157, ↓x_X1_init_160, ↓x_X1_init_163, c1, c2, not_true_eq_false, ↓reduceIte]
      rfl
    · rw [if_neg (by omega)]
      simp only [↓x_X1_init_0, ↓x_X1_init_1, ↓x_X1_init_4, ↓x_X1_init_5, ↓x_X1_init_6_0, ↓x_X1_init_6_1, ↓x_X1_init_9, ↓x_X1_init_10, ↓x_X1_init_11, ↓x_X1_init_14, ↓x_X1_init_15, ↓x_X1_init_16, ↓x_X1_init_19, ↓x_X1_init_20, ↓x_X1_init_21, ↓x_X1_init_24, ↓x_X1_init_25, ↓x_X1_init_26, ↓x_X1_init_27, ↓x_X1_init_28, ↓x_X1_init_31, ↓x_X1_init_34, ↓x_X1_init_37, ↓x_X1_init_38, ↓x_X1_init_39, ↓x_X1_init_42, ↓x_X1_init_44, ↓x_X1_init_47, ↓x_X1_init_48, ↓x_X1_init_49, ↓x_X1_init_52, ↓x_X1_init_53, ↓x_X1_init_56, ↓x_X1_init_57, ↓x_X1_init_59, ↓x_X1_init_62, ↓x_X1_init_63, ↓x_X1_init_64, ↓x_X1_init_67, ↓x_X1_init_70, ↓x_X1_init_73, ↓x_X1_init_74, ↓x_X1_init_75, ↓x_X1_init_78, ↓x_X1_init_79, ↓x_X1_init_80, ↓x_X1_init_83, ↓x_X1_init_84, ↓x_X1_init_87, ↓x_X1_init_88, ↓x_X1_init_89, ↓x_X1_init_90, ↓x_X1_init_94, ↓x_X1_init_95, ↓x_X1_init_98, ↓x_X1_init_101, ↓x_X1_init_102, ↓x_X1_init_105, ↓x_X1_init_107, ↓x_X1_init_108, ↓x_X1_init_111, ↓x_X1_init_112, ↓x_X1_init_113, ↓x_X1_init_116, ↓x_X1_init_118, ↓x_X1_init_119, ↓x_X1_init_120, ↓x_X1_init_123, ↓x_X1_init_125, ↓x_X1_init_127, ↓x_X1_init_128, ↓x_X1_init_131, ↓x_X1_init_133, ↓x_X1_init_134, ↓x_X1_init_137, ↓x_X1_init_138, ↓x_X1_init_140, ↓x_X1_init_141, ↓x_X1_init_142, ↓x_X1_init_143, ↓x_X1_init_144, ↓x_X1_init_147, ↓x_X1_init_149, ↓x_X1_init_152, ↓x_X1_init_153, ↓x_X1_init_156, ↓x_X1_init_157, ↓x_X1_init_160, ↓x_X1_init_163, c1, c2, not_false_eq_true, ↓reduceIte]
      rfl
