def wAll : List Cond := lw_tbl.filter goodWord
theorem mem_w {w : Cond} {i : Nat} (h : lw_tbl[i]? = some w) (g : goodWord w = true) : w ∈ wAll := List.mem_filter.mpr ⟨List.mem_of_getElem? h, g⟩
theorem wAll_good {w : Cond} (h : w ∈ wAll) : (w.onTables && w.keeps) = true ∨ ∃ ty, w = .arrayClass ty := good_of_word (List.mem_filter.mp h).2
/-- name, code, locals, answer, class number, rank, the locals' room of what it calls, arguments (with this) -/
abbrev MI : Type := MethodName × ByteArray × Nat × Option FieldType × Nat × Nat × Nat × Nat
abbrev mY (M : MI) : MethodName := M.1
abbrev mC (M : MI) : ByteArray := M.2.1
abbrev mL (M : MI) : Nat := M.2.2.1
abbrev mT (M : MI) : Option FieldType := M.2.2.2.1
abbrev mK (M : MI) : Nat := M.2.2.2.2.1
abbrev mR (M : MI) : Nat := M.2.2.2.2.2.1
abbrev mW (M : MI) : Nat := M.2.2.2.2.2.2.1
abbrev mN (M : MI) : Nat := M.2.2.2.2.2.2.2
def clsN : Nat → String := fun k => match k with
  | 0 => RX0
  | 1 => RX1
  | 2 => RX2
  | 3 => RX3
  | 4 => RX4
  | 5 => RX5
  | _ => RJ9
def clsT : Nat → u_T := fun k => match k with
  | 0 => TX0
  | 1 => TX1
  | 2 => TX2
  | 3 => TX3
  | 4 => TX4
  | _ => TX5
def clsY : Nat → Nat → FieldType := fun k => match k with
  | 0 => tyX0
  | 1 => tyX1
  | 2 => tyX2
  | 3 => tyX3
  | 4 => tyX4
  | _ => tyX5
def clsF : Nat → Nat := fun k => match k with
  | 0 => 2
  | 1 => 8
  | 2 => 4
  | 3 => 3
  | 4 => 15
  | _ => 30
abbrev vwA : List vw_C := [(RX0, TX0, 2), (RX1, TX1, 8), (RX2, TX2, 4), (RX3, TX3, 3), (RX4, TX4, 15), (RX5, TX5, 30)]
theorem vwA_at : ∀ k, k < 6 → vwA[k]? = some (clsN k, clsT k, clsF k) := fun k h => match k, h with
  | 0, _ => rfl
  | 1, _ => rfl
  | 2, _ => rfl
  | 3, _ => rfl
  | 4, _ => rfl
  | 5, _ => rfl
theorem clsY_ok : ∀ c, c < 6 → ∀ k, k < clsF c → parseFieldDescriptor (clsT c k).2.2.1 = some (clsY c k) := fun c h => match c, h with
  | 0, _ => tyX0_ok
  | 1, _ => tyX1_ok
  | 2, _ => tyX2_ok
  | 3, _ => tyX3_ok
  | 4, _ => tyX4_ok
  | 5, _ => tyX5_ok
theorem clsT_nm : ∀ c, c < 6 → ∀ a, a < clsF c → ∀ b, b < clsF c → a ≠ b → (clsT c a).2.1 ≠ (clsT c b).2.1 := fun c h => match c, h with
  | 0, _ => nmX0
  | 1, _ => nmX1
  | 2, _ => nmX2
  | 3, _ => nmX3
  | 4, _ => nmX4
  | 5, _ => nmX5
theorem uw_X0 : ∀ w ∈ u_ws RX0 TX0 2, w ∈ wAll := by
  have h : (u_ws RX0 TX0 2) = [69, 71].filterMap (fun i => lw_tbl[i]?) := by decide +kernel
  have g : (u_ws RX0 TX0 2).all goodWord = true := by decide +kernel
  intro w hw
  have g1 := List.all_eq_true.mp g w hw
  rw [h] at hw
  obtain ⟨i, -, hi⟩ := List.mem_filterMap.mp hw
  exact mem_w hi g1
theorem uw_X1 : ∀ w ∈ u_ws RX1 TX1 8, w ∈ wAll := by
  have h : (u_ws RX1 TX1 8) = [248, 250, 252, 254, 256, 258, 260, 262].filterMap (fun i => lw_tbl[i]?) := by decide +kernel
  have g : (u_ws RX1 TX1 8).all goodWord = true := by decide +kernel
  intro w hw
  have g1 := List.all_eq_true.mp g w hw
  rw [h] at hw
  obtain ⟨i, -, hi⟩ := List.mem_filterMap.mp hw
  exact mem_w hi g1
theorem uw_X2 : ∀ w ∈ u_ws RX2 TX2 4, w ∈ wAll := by
  have h : (u_ws RX2 TX2 4) = [80, 82, 84, 86].filterMap (fun i => lw_tbl[i]?) := by decide +kernel
  have g : (u_ws RX2 TX2 4).all goodWord = true := by decide +kernel
  intro w hw
  have g1 := List.all_eq_true.mp g w hw
  rw [h] at hw
  obtain ⟨i, -, hi⟩ := List.mem_filterMap.mp hw
  exact mem_w hi g1
theorem uw_X3 : ∀ w ∈ u_ws RX3 TX3 3, w ∈ wAll := by
  have h : (u_ws RX3 TX3 3) = [170, 172, 174].filterMap (fun i => lw_tbl[i]?) := by decide +kernel
  have g : (u_ws RX3 TX3 3).all goodWord = true := by decide +kernel
  intro w hw
  have g1 := List.all_eq_true.mp g w hw
  rw [h] at hw
  obtain ⟨i, -, hi⟩ := List.mem_filterMap.mp hw
  exact mem_w hi g1
theorem uw_X4 : ∀ w ∈ u_ws RX4 TX4 15, w ∈ wAll := by
  have h : (u_ws RX4 TX4 15) = [106, 108, 110, 112, 114, 116, 118, 120, 122, 124, 126, 128, 130, 132, 134].filterMap (fun i => lw_tbl[i]?) := by decide +kernel
  have g : (u_ws RX4 TX4 15).all goodWord = true := by decide +kernel
  intro w hw
  have g1 := List.all_eq_true.mp g w hw
  rw [h] at hw
  obtain ⟨i, -, hi⟩ := List.mem_filterMap.mp hw
  exact mem_w hi g1
theorem uw_X5 : ∀ w ∈ u_ws RX5 TX5 30, w ∈ wAll := by
  have h : (u_ws RX5 TX5 30) = [583, 585, 587, 589, 591, 593, 595, 597, 599, 601, 603, 605, 607, 609, 611, 613, 615, 617, 619, 621, 623, 625, 627, 629, 631, 633, 635, 637, 639, 641].filterMap (fun i => lw_tbl[i]?) := by decide +kernel
  have g : (u_ws RX5 TX5 30).all goodWord = true := by decide +kernel
  intro w hw
  have g1 := List.all_eq_true.mp g w hw
  rw [h] at hw
  obtain ⟨i, -, hi⟩ := List.mem_filterMap.mp hw
  exact mem_w hi g1
theorem clsW_ok : ∀ c, c < 6 → ∀ w ∈ u_ws (clsN c) (clsT c) (clsF c), w ∈ wAll := fun c h => match c, h with
  | 0, _ => uw_X0
  | 1, _ => uw_X1
  | 2, _ => uw_X2
  | 3, _ => uw_X3
  | 4, _ => uw_X4
  | 5, _ => uw_X5
def mX0_init : MI := (yX0_init, cX0_init, 1, none, 0, 1, 20, 1)
def mX0_take : MI := (yX0_take, cX0_take, 2, none, 0, 0, 0, 2)
def mX0_become : MI := (yX0_become, cX0_become, 7, none, 0, 1, 30, 3)
def mX0_against : MI := (yX0_against, cX0_against, 2, (some .int), 0, 2, 70, 2)
def mX0_common : MI := (yX0_common, cX0_common, 11, (some .long), 0, 0, 0, 2)
def mX0_weigh : MI := (yX0_weigh, cX0_weigh, 26, (some .int), 0, 1, 25, 4)
def mX1_init : MI := (yX1_init, cX1_init, 6, none, 1, 2, 40, 3)
def mX1_has : MI := (yX1_has, cX1_has, 2, (some .boolean), 1, 0, 0, 2)
def mX1_isUnder : MI := (yX1_isUnder, cX1_isUnder, 2, (some .boolean), 1, 0, 0, 2)
def mX1_mayPay : MI := (yX1_mayPay, cX1_mayPay, 2, (some .boolean), 1, 0, 0, 2)
def mX1_payAt : MI := (yX1_payAt, cX1_payAt, 2, (some .int), 1, 0, 0, 2)
def mX1_setPay : MI := (yX1_setPay, cX1_setPay, 3, none, 1, 0, 0, 3)
def mX1_weightAt : MI := (yX1_weightAt, cX1_weightAt, 3, (some .int), 1, 0, 0, 3)
def mX1_setWeight : MI := (yX1_setWeight, cX1_setWeight, 4, none, 1, 1, 21, 4)
def mX1_sumOf : MI := (yX1_sumOf, cX1_sumOf, 5, (some .int), 1, 0, 0, 2)
def mX1_goal : MI := (yX1_goal, cX1_goal, 4, (some .int), 1, 1, 22, 2)
def mX1_worthAt : MI := (yX1_worthAt, cX1_worthAt, 2, (some (.object "TinkerTrials$Fraction")), 1, 0, 0, 2)
def mX2_init : MI := (yX2_init, cX2_init, 1, none, 2, 2, 40, 1)
def mX2_valueOf : MI := (yX2_valueOf, cX2_valueOf, 8, (some (.object "TinkerTrials$Fraction")), 2, 2, 57, 6)
def mX2_reckonWorths : MI := (yX2_reckonWorths, cX2_reckonWorths, 9, none, 2, 3, 91, 4)
def mX2_longestRow : MI := (yX2_longestRow, cX2_longestRow, 9, (some .int), 2, 3, 91, 5)
def mX2_listStates : MI := (yX2_listStates, cX2_listStates, 6, (some .int), 2, 0, 0, 4)
def mX2_layRow : MI := (yX2_layRow, cX2_layRow, 12, none, 2, 1, 25, 6)
def mX2_eliminate : MI := (yX2_eliminate, cX2_eliminate, 13, none, 2, 1, 25, 2)
def mX2_cellAt : MI := (yX2_cellAt, cX2_cellAt, 4, (some .long), 2, 0, 0, 3)
def mX2_setCell : MI := (yX2_setCell, cX2_setCell, 6, none, 2, 0, 0, 4)
def mX3_init : MI := (yX3_init, cX3_init, 3, none, 3, 1, 21, 3)
def mX3_hasPlaces : MI := (yX3_hasPlaces, cX3_hasPlaces, 3, (some .boolean), 3, 0, 0, 3)
def mX3_placeAt : MI := (yX3_placeAt, cX3_placeAt, 2, (some .long), 3, 0, 0, 2)
def mX3_put : MI := (yX3_put, cX3_put, 4, none, 3, 1, 22, 3)
def mX3_cut : MI := (yX3_cut, cX3_cut, 3, (some .long), 3, 0, 0, 2)
def mX4_init : MI := (yX4_init, cX4_init, 1, none, 4, 3, 60, 1)
def mX4_share : MI := (yX4_share, cX4_share, 5, (some .int), 4, 1, 21, 3)
def mX4_sheet : MI := (yX4_sheet, cX4_sheet, 3, (some .int), 4, 2, 43, 3)
def mX4_tear : MI := (yX4_tear, cX4_tear, 3, (some .int), 4, 1, 21, 2)
def mX4_lay : MI := (yX4_lay, cX4_lay, 6, (some .int), 4, 2, 45, 4)
def mX4_get : MI := (yX4_get, cX4_get, 4, (some .int), 4, 1, 22, 3)
def mX4_copy : MI := (yX4_copy, cX4_copy, 8, (some .int), 4, 1, 30, 6)
def mX4_machine : MI := (yX4_machine, cX4_machine, 3, (some .int), 4, 3, 65, 3)
def mX4_is : MI := (yX4_is, cX4_is, 4, (some .int), 4, 1, 21, 3)
def mX4_told : MI := (yX4_told, cX4_told, 4, (some .int), 4, 1, 21, 3)
def mX4_pay : MI := (yX4_pay, cX4_pay, 6, (some .int), 4, 1, 22, 4)
def mX4_chance : MI := (yX4_chance, cX4_chance, 8, (some .int), 4, 2, 44, 5)
def mX4_fill : MI := (yX4_fill, cX4_fill, 9, (some .int), 4, 1, 22, 4)
def mX4_ask : MI := (yX4_ask, cX4_ask, 5, (some .int), 4, 1, 22, 4)
def mX4_stand : MI := (yX4_stand, cX4_stand, 5, (some .int), 4, 1, 21, 3)
def mX4_worth : MI := (yX4_worth, cX4_worth, 4, (some .int), 4, 5, 141, 3)
def mX4_way : MI := (yX4_way, cX4_way, 5, (some .int), 4, 3, 84, 4)
def mX4_upper : MI := (yX4_upper, cX4_upper, 1, (some .long), 4, 0, 0, 1)
def mX4_lower : MI := (yX4_lower, cX4_lower, 1, (some .long), 4, 0, 0, 1)
def mX4_order : MI := (yX4_order, cX4_order, 5, (some .int), 4, 6, 166, 3)
def mX4_goes : MI := (yX4_goes, cX4_goes, 6, (some .int), 4, 5, 141, 3)
def mX4_even : MI := (yX4_even, cX4_even, 7, (some .int), 4, 5, 141, 5)
def mX4_better : MI := (yX4_better, cX4_better, 5, (some .int), 4, 5, 141, 3)
def mX4_mean : MI := (yX4_mean, cX4_mean, 7, (some .int), 4, 2, 56, 3)
def mX4_row : MI := (yX4_row, cX4_row, 4, (some .int), 4, 4, 119, 3)
def mX4_least : MI := (yX4_least, cX4_least, 5, (some .int), 4, 5, 141, 2)
def mX4_compare : MI := (yX4_compare, cX4_compare, 7, (some .int), 4, 5, 141, 5)
def mX4_seed : MI := (yX4_seed, cX4_seed, 3, (some .int), 4, 0, 0, 2)
def mX4_best : MI := (yX4_best, cX4_best, 1, (some .int), 4, 6, 166, 1)
def mX4_work : MI := (yX4_work, cX4_work, 3, (some .int), 4, 3, 67, 2)
def mX4_run : MI := (yX4_run, cX4_run, 5, (some .int), 4, 6, 166, 2)
def mX4_step : MI := (yX4_step, cX4_step, 2, (some .int), 4, 0, 0, 2)
def mX4_worked : MI := (yX4_worked, cX4_worked, 3, (some .int), 4, 1, 21, 2)
def mX4_paid : MI := (yX4_paid, cX4_paid, 1, (some .long), 4, 0, 0, 1)
def mX4_fail : MI := (yX4_fail, cX4_fail, 3, (some .int), 4, 1, 21, 3)
def mX4_asked : MI := (yX4_asked, cX4_asked, 1, (some .long), 4, 0, 0, 1)
def mX4_count : MI := (yX4_count, cX4_count, 2, (some .int), 4, 0, 0, 2)
def mX4_finding : MI := (yX4_finding, cX4_finding, 1, (some .int), 4, 0, 0, 1)
def mX4_findings : MI := (yX4_findings, cX4_findings, 2, (some .int), 4, 0, 0, 2)
def mX4_digest : MI := (yX4_digest, cX4_digest, 4, (some .long), 4, 2, 49, 1)
def mX4_machineAt : MI := (yX4_machineAt, cX4_machineAt, 2, (some (.object "TinkerTrials$Machine")), 4, 0, 0, 2)
def mX4_sheetAt : MI := (yX4_sheetAt, cX4_sheetAt, 2, (some (.object "TinkerTrials$Sheet")), 4, 0, 0, 2)
def mX4_found : MI := (yX4_found, cX4_found, 2, (some .int), 4, 0, 0, 2)
def mX4_isPay : MI := (yX4_isPay, cX4_isPay, 2, (some .boolean), 4, 0, 0, 1)
def mX4_fits : MI := (yX4_fits, cX4_fits, 2, (some .boolean), 4, 0, 0, 2)
def mX4_asAnswer : MI := (yX4_asAnswer, cX4_asAnswer, 1, (some .int), 4, 0, 0, 1)
def mX4_worthOf : MI := (yX4_worthOf, cX4_worthOf, 3, (some (.object "TinkerTrials$Fraction")), 4, 4, 119, 3)
def mX4_rankOf : MI := (yX4_rankOf, cX4_rankOf, 6, (some .int), 4, 5, 141, 3)
def mX4_bestMachine : MI := (yX4_bestMachine, cX4_bestMachine, 6, (some .int), 4, 5, 141, 1)
def mX4_workOnce : MI := (yX4_workOnce, cX4_workOnce, 3, (some .int), 4, 2, 45, 2)
def mX4_draw : MI := (yX4_draw, cX4_draw, 2, (some .int), 4, 0, 0, 2)
def mX4_mix : MI := (yX4_mix, cX4_mix, 4, (some .long), 4, 0, 0, 2)
def mX4_mixMachine : MI := (yX4_mixMachine, cX4_mixMachine, 7, (some .long), 4, 1, 23, 2)
def mX4_mixSheet : MI := (yX4_mixSheet, cX4_mixSheet, 6, (some .long), 4, 1, 23, 2)
def mX5_init : MI := (yX5_init, cX5_init, 1, none, 5, 1, 20, 1)
def mX5_in : MI := (yX5_in, cX5_in, 6, (some .boolean), 5, 0, 0, 3)
def mX5_meets : MI := (yX5_meets, cX5_meets, 2, (some .int), 5, 0, 0, 2)
def mX5_finding : MI := (yX5_finding, cX5_finding, 1, (some .int), 5, 0, 0, 1)
def mX5_findings : MI := (yX5_findings, cX5_findings, 2, (some .int), 5, 1, 25, 2)
def mX5_share : MI := (yX5_share, cX5_share, 3, (some .int), 5, 1, 25, 3)
def mX5_isSheet : MI := (yX5_isSheet, cX5_isSheet, 2, (some .boolean), 5, 1, 25, 2)
def mX5_sheet : MI := (yX5_sheet, cX5_sheet, 4, (some .int), 5, 1, 25, 3)
def mX5_tear : MI := (yX5_tear, cX5_tear, 2, (some .int), 5, 2, 46, 2)
def mX5_lacks : MI := (yX5_lacks, cX5_lacks, 3, (some .int), 5, 1, 25, 3)
def mX5_lay : MI := (yX5_lay, cX5_lay, 7, (some .int), 5, 2, 47, 4)
def mX5_get : MI := (yX5_get, cX5_get, 4, (some .int), 5, 2, 47, 3)
def mX5_copy : MI := (yX5_copy, cX5_copy, 7, (some .int), 5, 2, 46, 6)
def mX5_isMachine : MI := (yX5_isMachine, cX5_isMachine, 2, (some .boolean), 5, 1, 25, 2)
def mX5_isAgeing : MI := (yX5_isAgeing, cX5_isAgeing, 2, (some .boolean), 5, 0, 0, 2)
def mX5_isState : MI := (yX5_isState, cX5_isState, 3, (some .boolean), 5, 1, 25, 3)
def mX5_machine : MI := (yX5_machine, cX5_machine, 7, (some .int), 5, 1, 25, 3)
def mX5_is : MI := (yX5_is, cX5_is, 4, (some .int), 5, 2, 46, 3)
def mX5_told : MI := (yX5_told, cX5_told, 3, (some .int), 5, 2, 46, 3)
def mX5_mayPay : MI := (yX5_mayPay, cX5_mayPay, 3, (some .boolean), 5, 0, 0, 3)
def mX5_pay : MI := (yX5_pay, cX5_pay, 5, (some .int), 5, 2, 47, 4)
def mX5_sum : MI := (yX5_sum, cX5_sum, 5, (some .int), 5, 0, 0, 3)
def mX5_chance : MI := (yX5_chance, cX5_chance, 7, (some .int), 5, 2, 47, 5)
def mX5_fill : MI := (yX5_fill, cX5_fill, 8, (some .int), 5, 2, 46, 4)
def mX5_ask : MI := (yX5_ask, cX5_ask, 4, (some .int), 5, 2, 47, 4)
def mX5_asked : MI := (yX5_asked, cX5_asked, 1, (some .long), 5, 0, 0, 1)
def mX5_stand : MI := (yX5_stand, cX5_stand, 4, (some .int), 5, 2, 47, 3)
def mX5_gcd : MI := (yX5_gcd, cX5_gcd, 10, (some .long), 5, 0, 0, 2)
def mX5_fraction : MI := (yX5_fraction, cX5_fraction, 7, none, 5, 1, 29, 3)
def mX5_tells : MI := (yX5_tells, cX5_tells, 1, (some .int), 5, 0, 0, 1)
def mX5_upper : MI := (yX5_upper, cX5_upper, 1, (some .long), 5, 0, 0, 1)
def mX5_lower : MI := (yX5_lower, cX5_lower, 1, (some .long), 5, 0, 0, 1)
def mX5_cutDown : MI := (yX5_cutDown, cX5_cutDown, 6, (some .long), 5, 0, 0, 2)
def mX5_compared : MI := (yX5_compared, cX5_compared, 25, (some .int), 5, 1, 25, 4)
def mX5_determinant : MI := (yX5_determinant, cX5_determinant, 8, (some .long), 5, 0, 0, 2)
def mX5_layTable : MI := (yX5_layTable, cX5_layTable, 12, none, 5, 1, 24, 5)
def mX5_value : MI := (yX5_value, cX5_value, 8, none, 5, 2, 55, 4)
def mX5_worthOf : MI := (yX5_worthOf, cX5_worthOf, 8, none, 5, 3, 82, 3)
def mX5_need : MI := (yX5_need, cX5_need, 3, (some .int), 5, 2, 47, 3)
def mX5_worth : MI := (yX5_worth, cX5_worth, 4, (some .int), 5, 4, 109, 3)
def mX5_way : MI := (yX5_way, cX5_way, 5, (some .int), 5, 3, 82, 4)
def mX5_layWorths : MI := (yX5_layWorths, cX5_layWorths, 3, none, 5, 4, 109, 2)
def mX5_between : MI := (yX5_between, cX5_between, 3, (some .int), 5, 2, 69, 3)
def mX5_order : MI := (yX5_order, cX5_order, 5, (some .int), 5, 5, 131, 3)
def mX5_goes : MI := (yX5_goes, cX5_goes, 6, (some .int), 5, 5, 131, 3)
def mX5_even : MI := (yX5_even, cX5_even, 6, (some .int), 5, 4, 109, 5)
def mX5_better : MI := (yX5_better, cX5_better, 4, (some .int), 5, 4, 109, 3)
def mX5_mean : MI := (yX5_mean, cX5_mean, 7, (some .int), 5, 3, 69, 3)
def mX5_row : MI := (yX5_row, cX5_row, 10, (some .int), 5, 3, 82, 3)
def mX5_least : MI := (yX5_least, cX5_least, 4, (some .int), 5, 5, 131, 2)
def mX5_compare : MI := (yX5_compare, cX5_compare, 10, (some .int), 5, 4, 109, 5)
def mX5_seed : MI := (yX5_seed, cX5_seed, 3, (some .int), 5, 0, 0, 2)
def mX5_best : MI := (yX5_best, cX5_best, 7, (some .int), 5, 4, 109, 1)
def mX5_works : MI := (yX5_works, cX5_works, 7, (some .int), 5, 1, 24, 2)
def mX5_work : MI := (yX5_work, cX5_work, 3, (some .int), 5, 2, 50, 2)
def mX5_run : MI := (yX5_run, cX5_run, 5, (some .int), 5, 5, 135, 2)
def mX5_step : MI := (yX5_step, cX5_step, 2, (some .int), 5, 1, 25, 2)
def mX5_worked : MI := (yX5_worked, cX5_worked, 2, (some .int), 5, 2, 46, 2)
def mX5_paid : MI := (yX5_paid, cX5_paid, 1, (some .long), 5, 0, 0, 1)
def mX5_fail : MI := (yX5_fail, cX5_fail, 3, (some .int), 5, 2, 46, 3)
def mX5_count : MI := (yX5_count, cX5_count, 2, (some .int), 5, 0, 0, 2)
def mX5_digest : MI := (yX5_digest, cX5_digest, 6, (some .long), 5, 0, 0, 1)
def mJ9_floorDiv_f86c9 : MI := (yJ9_floorDiv_f86c9, cJ9_floorDiv_f86c9, 6, (some .long), 6, 0, 0, 2)
def mJ9_abs_067f4 : MI := (yJ9_abs_067f4, cJ9_abs_067f4, 2, (some .long), 6, 0, 0, 1)
def mJ9_max_7cf53 : MI := (yJ9_max_7cf53, cJ9_max_7cf53, 2, (some .int), 6, 0, 0, 2)
def mJ9_min_7cf53 : MI := (yJ9_min_7cf53, cJ9_min_7cf53, 2, (some .int), 6, 0, 0, 2)
def okM (M : MI) : Prop := Cond.code (mY M) (mC M) (mL M) (mT M) ∈ wAll ∧ Cond.initialized (mY M).cls ∈ wAll ∧ plainFor (mY M) = true ∧ (mY M).cls = clsN (mK M) ∧ ((mY M).cls ≠ "java/lang/invoke/MethodHandle" ∧ (mY M).cls ≠ "java/lang/invoke/VarHandle")
theorem ok_mX0_init : okM mX0_init := ⟨mem_w (i := 63) (by decide +kernel) rfl, mem_w (i := 35) (by decide +kernel) rfl, by decide +kernel, rfl, by decide +kernel, by decide +kernel⟩
theorem ok_mX0_take : okM mX0_take := ⟨mem_w (i := 393) (by decide +kernel) rfl, mem_w (i := 35) (by decide +kernel) rfl, by decide +kernel, rfl, by decide +kernel, by decide +kernel⟩
theorem ok_mX0_become : okM mX0_become := ⟨mem_w (i := 373) (by decide +kernel) rfl, mem_w (i := 35) (by decide +kernel) rfl, by decide +kernel, rfl, by decide +kernel, by decide +kernel⟩
theorem ok_mX0_against : okM mX0_against := ⟨mem_w (i := 383) (by decide +kernel) rfl, mem_w (i := 35) (by decide +kernel) rfl, by decide +kernel, rfl, by decide +kernel, by decide +kernel⟩
theorem ok_mX0_common : okM mX0_common := ⟨mem_w (i := 379) (by decide +kernel) rfl, mem_w (i := 35) (by decide +kernel) rfl, by decide +kernel, rfl, by decide +kernel, by decide +kernel⟩
theorem ok_mX0_weigh : okM mX0_weigh := ⟨mem_w (i := 386) (by decide +kernel) rfl, mem_w (i := 35) (by decide +kernel) rfl, by decide +kernel, rfl, by decide +kernel, by decide +kernel⟩
theorem ok_mX1_init : okM mX1_init := ⟨mem_w (i := 226) (by decide +kernel) rfl, mem_w (i := 40) (by decide +kernel) rfl, by decide +kernel, rfl, by decide +kernel, by decide +kernel⟩
theorem ok_mX1_has : okM mX1_has := ⟨mem_w (i := 289) (by decide +kernel) rfl, mem_w (i := 40) (by decide +kernel) rfl, by decide +kernel, rfl, by decide +kernel, by decide +kernel⟩
theorem ok_mX1_isUnder : okM mX1_isUnder := ⟨mem_w (i := 272) (by decide +kernel) rfl, mem_w (i := 40) (by decide +kernel) rfl, by decide +kernel, rfl, by decide +kernel, by decide +kernel⟩
theorem ok_mX1_mayPay : okM mX1_mayPay := ⟨mem_w (i := 293) (by decide +kernel) rfl, mem_w (i := 40) (by decide +kernel) rfl, by decide +kernel, rfl, by decide +kernel, by decide +kernel⟩
theorem ok_mX1_payAt : okM mX1_payAt := ⟨mem_w (i := 297) (by decide +kernel) rfl, mem_w (i := 40) (by decide +kernel) rfl, by decide +kernel, rfl, by decide +kernel, by decide +kernel⟩
theorem ok_mX1_setPay : okM mX1_setPay := ⟨mem_w (i := 301) (by decide +kernel) rfl, mem_w (i := 40) (by decide +kernel) rfl, by decide +kernel, rfl, by decide +kernel, by decide +kernel⟩
theorem ok_mX1_weightAt : okM mX1_weightAt := ⟨mem_w (i := 309) (by decide +kernel) rfl, mem_w (i := 40) (by decide +kernel) rfl, by decide +kernel, rfl, by decide +kernel, by decide +kernel⟩
theorem ok_mX1_setWeight : okM mX1_setWeight := ⟨mem_w (i := 317) (by decide +kernel) rfl, mem_w (i := 40) (by decide +kernel) rfl, by decide +kernel, rfl, by decide +kernel, by decide +kernel⟩
theorem ok_mX1_sumOf : okM mX1_sumOf := ⟨mem_w (i := 313) (by decide +kernel) rfl, mem_w (i := 40) (by decide +kernel) rfl, by decide +kernel, rfl, by decide +kernel, by decide +kernel⟩
theorem ok_mX1_goal : okM mX1_goal := ⟨mem_w (i := 492) (by decide +kernel) rfl, mem_w (i := 40) (by decide +kernel) rfl, by decide +kernel, rfl, by decide +kernel, by decide +kernel⟩
theorem ok_mX1_worthAt : okM mX1_worthAt := ⟨mem_w (i := 397) (by decide +kernel) rfl, mem_w (i := 40) (by decide +kernel) rfl, by decide +kernel, rfl, by decide +kernel, by decide +kernel⟩
theorem ok_mX2_init : okM mX2_init := ⟨mem_w (i := 57) (by decide +kernel) rfl, mem_w (i := 34) (by decide +kernel) rfl, by decide +kernel, rfl, by decide +kernel, by decide +kernel⟩
theorem ok_mX2_valueOf : okM mX2_valueOf := ⟨mem_w (i := 346) (by decide +kernel) rfl, mem_w (i := 34) (by decide +kernel) rfl, by decide +kernel, rfl, by decide +kernel, by decide +kernel⟩
theorem ok_mX2_reckonWorths : okM mX2_reckonWorths := ⟨mem_w (i := 342) (by decide +kernel) rfl, mem_w (i := 34) (by decide +kernel) rfl, by decide +kernel, rfl, by decide +kernel, by decide +kernel⟩
theorem ok_mX2_longestRow : okM mX2_longestRow := ⟨mem_w (i := 452) (by decide +kernel) rfl, mem_w (i := 34) (by decide +kernel) rfl, by decide +kernel, rfl, by decide +kernel, by decide +kernel⟩
theorem ok_mX2_listStates : okM mX2_listStates := ⟨mem_w (i := 350) (by decide +kernel) rfl, mem_w (i := 34) (by decide +kernel) rfl, by decide +kernel, rfl, by decide +kernel, by decide +kernel⟩
theorem ok_mX2_layRow : okM mX2_layRow := ⟨mem_w (i := 354) (by decide +kernel) rfl, mem_w (i := 34) (by decide +kernel) rfl, by decide +kernel, rfl, by decide +kernel, by decide +kernel⟩
theorem ok_mX2_eliminate : okM mX2_eliminate := ⟨mem_w (i := 365) (by decide +kernel) rfl, mem_w (i := 34) (by decide +kernel) rfl, by decide +kernel, rfl, by decide +kernel, by decide +kernel⟩
theorem ok_mX2_cellAt : okM mX2_cellAt := ⟨mem_w (i := 369) (by decide +kernel) rfl, mem_w (i := 34) (by decide +kernel) rfl, by decide +kernel, rfl, by decide +kernel, by decide +kernel⟩
theorem ok_mX2_setCell : okM mX2_setCell := ⟨mem_w (i := 360) (by decide +kernel) rfl, mem_w (i := 34) (by decide +kernel) rfl, by decide +kernel, rfl, by decide +kernel, by decide +kernel⟩
theorem ok_mX3_init : okM mX3_init := ⟨mem_w (i := 156) (by decide +kernel) rfl, mem_w (i := 37) (by decide +kernel) rfl, by decide +kernel, rfl, by decide +kernel, by decide +kernel⟩
theorem ok_mX3_hasPlaces : okM mX3_hasPlaces := ⟨mem_w (i := 192) (by decide +kernel) rfl, mem_w (i := 37) (by decide +kernel) rfl, by decide +kernel, rfl, by decide +kernel, by decide +kernel⟩
theorem ok_mX3_placeAt : okM mX3_placeAt := ⟨mem_w (i := 208) (by decide +kernel) rfl, mem_w (i := 37) (by decide +kernel) rfl, by decide +kernel, rfl, by decide +kernel, by decide +kernel⟩
theorem ok_mX3_put : okM mX3_put := ⟨mem_w (i := 196) (by decide +kernel) rfl, mem_w (i := 37) (by decide +kernel) rfl, by decide +kernel, rfl, by decide +kernel, by decide +kernel⟩
theorem ok_mX3_cut : okM mX3_cut := ⟨mem_w (i := 200) (by decide +kernel) rfl, mem_w (i := 37) (by decide +kernel) rfl, by decide +kernel, rfl, by decide +kernel, by decide +kernel⟩
theorem ok_mX4_init : okM mX4_init := ⟨mem_w (i := 45) (by decide +kernel) rfl, mem_w (i := 33) (by decide +kernel) rfl, by decide +kernel, rfl, by decide +kernel, by decide +kernel⟩
theorem ok_mX4_share : okM mX4_share := ⟨mem_w (i := 140) (by decide +kernel) rfl, mem_w (i := 33) (by decide +kernel) rfl, by decide +kernel, rfl, by decide +kernel, by decide +kernel⟩
theorem ok_mX4_sheet : okM mX4_sheet := ⟨mem_w (i := 148) (by decide +kernel) rfl, mem_w (i := 33) (by decide +kernel) rfl, by decide +kernel, rfl, by decide +kernel, by decide +kernel⟩
theorem ok_mX4_tear : okM mX4_tear := ⟨mem_w (i := 180) (by decide +kernel) rfl, mem_w (i := 33) (by decide +kernel) rfl, by decide +kernel, rfl, by decide +kernel, by decide +kernel⟩
theorem ok_mX4_lay : okM mX4_lay := ⟨mem_w (i := 188) (by decide +kernel) rfl, mem_w (i := 33) (by decide +kernel) rfl, by decide +kernel, rfl, by decide +kernel, by decide +kernel⟩
theorem ok_mX4_get : okM mX4_get := ⟨mem_w (i := 204) (by decide +kernel) rfl, mem_w (i := 33) (by decide +kernel) rfl, by decide +kernel, rfl, by decide +kernel, by decide +kernel⟩
theorem ok_mX4_copy : okM mX4_copy := ⟨mem_w (i := 212) (by decide +kernel) rfl, mem_w (i := 33) (by decide +kernel) rfl, by decide +kernel, rfl, by decide +kernel, by decide +kernel⟩
theorem ok_mX4_machine : okM mX4_machine := ⟨mem_w (i := 219) (by decide +kernel) rfl, mem_w (i := 33) (by decide +kernel) rfl, by decide +kernel, rfl, by decide +kernel, by decide +kernel⟩
theorem ok_mX4_is : okM mX4_is := ⟨mem_w (i := 268) (by decide +kernel) rfl, mem_w (i := 33) (by decide +kernel) rfl, by decide +kernel, rfl, by decide +kernel, by decide +kernel⟩
theorem ok_mX4_told : okM mX4_told := ⟨mem_w (i := 276) (by decide +kernel) rfl, mem_w (i := 33) (by decide +kernel) rfl, by decide +kernel, rfl, by decide +kernel, by decide +kernel⟩
theorem ok_mX4_pay : okM mX4_pay := ⟨mem_w (i := 280) (by decide +kernel) rfl, mem_w (i := 33) (by decide +kernel) rfl, by decide +kernel, rfl, by decide +kernel, by decide +kernel⟩
theorem ok_mX4_chance : okM mX4_chance := ⟨mem_w (i := 305) (by decide +kernel) rfl, mem_w (i := 33) (by decide +kernel) rfl, by decide +kernel, rfl, by decide +kernel, by decide +kernel⟩
theorem ok_mX4_fill : okM mX4_fill := ⟨mem_w (i := 322) (by decide +kernel) rfl, mem_w (i := 33) (by decide +kernel) rfl, by decide +kernel, rfl, by decide +kernel, by decide +kernel⟩
theorem ok_mX4_ask : okM mX4_ask := ⟨mem_w (i := 326) (by decide +kernel) rfl, mem_w (i := 33) (by decide +kernel) rfl, by decide +kernel, rfl, by decide +kernel, by decide +kernel⟩
theorem ok_mX4_stand : okM mX4_stand := ⟨mem_w (i := 330) (by decide +kernel) rfl, mem_w (i := 33) (by decide +kernel) rfl, by decide +kernel, rfl, by decide +kernel, by decide +kernel⟩
theorem ok_mX4_worth : okM mX4_worth := ⟨mem_w (i := 334) (by decide +kernel) rfl, mem_w (i := 33) (by decide +kernel) rfl, by decide +kernel, rfl, by decide +kernel, by decide +kernel⟩
theorem ok_mX4_way : okM mX4_way := ⟨mem_w (i := 403) (by decide +kernel) rfl, mem_w (i := 33) (by decide +kernel) rfl, by decide +kernel, rfl, by decide +kernel, by decide +kernel⟩
theorem ok_mX4_upper : okM mX4_upper := ⟨mem_w (i := 408) (by decide +kernel) rfl, mem_w (i := 33) (by decide +kernel) rfl, by decide +kernel, rfl, by decide +kernel, by decide +kernel⟩
theorem ok_mX4_lower : okM mX4_lower := ⟨mem_w (i := 412) (by decide +kernel) rfl, mem_w (i := 33) (by decide +kernel) rfl, by decide +kernel, rfl, by decide +kernel, by decide +kernel⟩
theorem ok_mX4_order : okM mX4_order := ⟨mem_w (i := 416) (by decide +kernel) rfl, mem_w (i := 33) (by decide +kernel) rfl, by decide +kernel, rfl, by decide +kernel, by decide +kernel⟩
theorem ok_mX4_goes : okM mX4_goes := ⟨mem_w (i := 425) (by decide +kernel) rfl, mem_w (i := 33) (by decide +kernel) rfl, by decide +kernel, rfl, by decide +kernel, by decide +kernel⟩
theorem ok_mX4_even : okM mX4_even := ⟨mem_w (i := 429) (by decide +kernel) rfl, mem_w (i := 33) (by decide +kernel) rfl, by decide +kernel, rfl, by decide +kernel, by decide +kernel⟩
theorem ok_mX4_better : okM mX4_better := ⟨mem_w (i := 439) (by decide +kernel) rfl, mem_w (i := 33) (by decide +kernel) rfl, by decide +kernel, rfl, by decide +kernel, by decide +kernel⟩
theorem ok_mX4_mean : okM mX4_mean := ⟨mem_w (i := 444) (by decide +kernel) rfl, mem_w (i := 33) (by decide +kernel) rfl, by decide +kernel, rfl, by decide +kernel, by decide +kernel⟩
theorem ok_mX4_row : okM mX4_row := ⟨mem_w (i := 448) (by decide +kernel) rfl, mem_w (i := 33) (by decide +kernel) rfl, by decide +kernel, rfl, by decide +kernel, by decide +kernel⟩
theorem ok_mX4_least : okM mX4_least := ⟨mem_w (i := 456) (by decide +kernel) rfl, mem_w (i := 33) (by decide +kernel) rfl, by decide +kernel, rfl, by decide +kernel, by decide +kernel⟩
theorem ok_mX4_compare : okM mX4_compare := ⟨mem_w (i := 460) (by decide +kernel) rfl, mem_w (i := 33) (by decide +kernel) rfl, by decide +kernel, rfl, by decide +kernel, by decide +kernel⟩
theorem ok_mX4_seed : okM mX4_seed := ⟨mem_w (i := 464) (by decide +kernel) rfl, mem_w (i := 33) (by decide +kernel) rfl, by decide +kernel, rfl, by decide +kernel, by decide +kernel⟩
theorem ok_mX4_best : okM mX4_best := ⟨mem_w (i := 468) (by decide +kernel) rfl, mem_w (i := 33) (by decide +kernel) rfl, by decide +kernel, rfl, by decide +kernel, by decide +kernel⟩
theorem ok_mX4_work : okM mX4_work := ⟨mem_w (i := 476) (by decide +kernel) rfl, mem_w (i := 33) (by decide +kernel) rfl, by decide +kernel, rfl, by decide +kernel, by decide +kernel⟩
theorem ok_mX4_run : okM mX4_run := ⟨mem_w (i := 497) (by decide +kernel) rfl, mem_w (i := 33) (by decide +kernel) rfl, by decide +kernel, rfl, by decide +kernel, by decide +kernel⟩
theorem ok_mX4_step : okM mX4_step := ⟨mem_w (i := 502) (by decide +kernel) rfl, mem_w (i := 33) (by decide +kernel) rfl, by decide +kernel, rfl, by decide +kernel, by decide +kernel⟩
theorem ok_mX4_worked : okM mX4_worked := ⟨mem_w (i := 506) (by decide +kernel) rfl, mem_w (i := 33) (by decide +kernel) rfl, by decide +kernel, rfl, by decide +kernel, by decide +kernel⟩
theorem ok_mX4_paid : okM mX4_paid := ⟨mem_w (i := 510) (by decide +kernel) rfl, mem_w (i := 33) (by decide +kernel) rfl, by decide +kernel, rfl, by decide +kernel, by decide +kernel⟩
theorem ok_mX4_fail : okM mX4_fail := ⟨mem_w (i := 514) (by decide +kernel) rfl, mem_w (i := 33) (by decide +kernel) rfl, by decide +kernel, rfl, by decide +kernel, by decide +kernel⟩
theorem ok_mX4_asked : okM mX4_asked := ⟨mem_w (i := 518) (by decide +kernel) rfl, mem_w (i := 33) (by decide +kernel) rfl, by decide +kernel, rfl, by decide +kernel, by decide +kernel⟩
theorem ok_mX4_count : okM mX4_count := ⟨mem_w (i := 522) (by decide +kernel) rfl, mem_w (i := 33) (by decide +kernel) rfl, by decide +kernel, rfl, by decide +kernel, by decide +kernel⟩
theorem ok_mX4_finding : okM mX4_finding := ⟨mem_w (i := 526) (by decide +kernel) rfl, mem_w (i := 33) (by decide +kernel) rfl, by decide +kernel, rfl, by decide +kernel, by decide +kernel⟩
theorem ok_mX4_findings : okM mX4_findings := ⟨mem_w (i := 530) (by decide +kernel) rfl, mem_w (i := 33) (by decide +kernel) rfl, by decide +kernel, rfl, by decide +kernel, by decide +kernel⟩
theorem ok_mX4_digest : okM mX4_digest := ⟨mem_w (i := 534) (by decide +kernel) rfl, mem_w (i := 33) (by decide +kernel) rfl, by decide +kernel, rfl, by decide +kernel, by decide +kernel⟩
theorem ok_mX4_machineAt : okM mX4_machineAt := ⟨mem_w (i := 144) (by decide +kernel) rfl, mem_w (i := 33) (by decide +kernel) rfl, by decide +kernel, rfl, by decide +kernel, by decide +kernel⟩
theorem ok_mX4_sheetAt : okM mX4_sheetAt := ⟨mem_w (i := 184) (by decide +kernel) rfl, mem_w (i := 33) (by decide +kernel) rfl, by decide +kernel, rfl, by decide +kernel, by decide +kernel⟩
theorem ok_mX4_found : okM mX4_found := ⟨mem_w (i := 152) (by decide +kernel) rfl, mem_w (i := 33) (by decide +kernel) rfl, by decide +kernel, rfl, by decide +kernel, by decide +kernel⟩
theorem ok_mX4_isPay : okM mX4_isPay := ⟨mem_w (i := 283) (by decide +kernel) rfl, mem_w (i := 33) (by decide +kernel) rfl, by decide +kernel, rfl, by decide +kernel, by decide +kernel⟩
theorem ok_mX4_fits : okM mX4_fits := ⟨mem_w (i := 222) (by decide +kernel) rfl, mem_w (i := 33) (by decide +kernel) rfl, by decide +kernel, rfl, by decide +kernel, by decide +kernel⟩
theorem ok_mX4_asAnswer : okM mX4_asAnswer := ⟨mem_w (i := 435) (by decide +kernel) rfl, mem_w (i := 33) (by decide +kernel) rfl, by decide +kernel, rfl, by decide +kernel, by decide +kernel⟩
theorem ok_mX4_worthOf : okM mX4_worthOf := ⟨mem_w (i := 338) (by decide +kernel) rfl, mem_w (i := 33) (by decide +kernel) rfl, by decide +kernel, rfl, by decide +kernel, by decide +kernel⟩
theorem ok_mX4_rankOf : okM mX4_rankOf := ⟨mem_w (i := 420) (by decide +kernel) rfl, mem_w (i := 33) (by decide +kernel) rfl, by decide +kernel, rfl, by decide +kernel, by decide +kernel⟩
theorem ok_mX4_bestMachine : okM mX4_bestMachine := ⟨mem_w (i := 472) (by decide +kernel) rfl, mem_w (i := 33) (by decide +kernel) rfl, by decide +kernel, rfl, by decide +kernel, by decide +kernel⟩
theorem ok_mX4_workOnce : okM mX4_workOnce := ⟨mem_w (i := 480) (by decide +kernel) rfl, mem_w (i := 33) (by decide +kernel) rfl, by decide +kernel, rfl, by decide +kernel, by decide +kernel⟩
theorem ok_mX4_draw : okM mX4_draw := ⟨mem_w (i := 484) (by decide +kernel) rfl, mem_w (i := 33) (by decide +kernel) rfl, by decide +kernel, rfl, by decide +kernel, by decide +kernel⟩
theorem ok_mX4_mix : okM mX4_mix := ⟨mem_w (i := 538) (by decide +kernel) rfl, mem_w (i := 33) (by decide +kernel) rfl, by decide +kernel, rfl, by decide +kernel, by decide +kernel⟩
theorem ok_mX4_mixMachine : okM mX4_mixMachine := ⟨mem_w (i := 542) (by decide +kernel) rfl, mem_w (i := 33) (by decide +kernel) rfl, by decide +kernel, rfl, by decide +kernel, by decide +kernel⟩
theorem ok_mX4_mixSheet : okM mX4_mixSheet := ⟨mem_w (i := 545) (by decide +kernel) rfl, mem_w (i := 33) (by decide +kernel) rfl, by decide +kernel, rfl, by decide +kernel, by decide +kernel⟩
theorem ok_mX5_init : okM mX5_init := ⟨mem_w (i := 551) (by decide +kernel) rfl, mem_w (i := 36) (by decide +kernel) rfl, by decide +kernel, rfl, by decide +kernel, by decide +kernel⟩
theorem ok_mX5_in : okM mX5_in := ⟨mem_w (i := 655) (by decide +kernel) rfl, mem_w (i := 36) (by decide +kernel) rfl, by decide +kernel, rfl, by decide +kernel, by decide +kernel⟩
theorem ok_mX5_meets : okM mX5_meets := ⟨mem_w (i := 671) (by decide +kernel) rfl, mem_w (i := 36) (by decide +kernel) rfl, by decide +kernel, rfl, by decide +kernel, by decide +kernel⟩
theorem ok_mX5_finding : okM mX5_finding := ⟨mem_w (i := 647) (by decide +kernel) rfl, mem_w (i := 36) (by decide +kernel) rfl, by decide +kernel, rfl, by decide +kernel, by decide +kernel⟩
theorem ok_mX5_findings : okM mX5_findings := ⟨mem_w (i := 651) (by decide +kernel) rfl, mem_w (i := 36) (by decide +kernel) rfl, by decide +kernel, rfl, by decide +kernel, by decide +kernel⟩
theorem ok_mX5_share : okM mX5_share := ⟨mem_w (i := 659) (by decide +kernel) rfl, mem_w (i := 36) (by decide +kernel) rfl, by decide +kernel, rfl, by decide +kernel, by decide +kernel⟩
theorem ok_mX5_isSheet : okM mX5_isSheet := ⟨mem_w (i := 679) (by decide +kernel) rfl, mem_w (i := 36) (by decide +kernel) rfl, by decide +kernel, rfl, by decide +kernel, by decide +kernel⟩
theorem ok_mX5_sheet : okM mX5_sheet := ⟨mem_w (i := 666) (by decide +kernel) rfl, mem_w (i := 36) (by decide +kernel) rfl, by decide +kernel, rfl, by decide +kernel, by decide +kernel⟩
theorem ok_mX5_tear : okM mX5_tear := ⟨mem_w (i := 675) (by decide +kernel) rfl, mem_w (i := 36) (by decide +kernel) rfl, by decide +kernel, rfl, by decide +kernel, by decide +kernel⟩
theorem ok_mX5_lacks : okM mX5_lacks := ⟨mem_w (i := 687) (by decide +kernel) rfl, mem_w (i := 36) (by decide +kernel) rfl, by decide +kernel, rfl, by decide +kernel, by decide +kernel⟩
theorem ok_mX5_lay : okM mX5_lay := ⟨mem_w (i := 683) (by decide +kernel) rfl, mem_w (i := 36) (by decide +kernel) rfl, by decide +kernel, rfl, by decide +kernel, by decide +kernel⟩
theorem ok_mX5_get : okM mX5_get := ⟨mem_w (i := 691) (by decide +kernel) rfl, mem_w (i := 36) (by decide +kernel) rfl, by decide +kernel, rfl, by decide +kernel, by decide +kernel⟩
theorem ok_mX5_copy : okM mX5_copy := ⟨mem_w (i := 695) (by decide +kernel) rfl, mem_w (i := 36) (by decide +kernel) rfl, by decide +kernel, rfl, by decide +kernel, by decide +kernel⟩
theorem ok_mX5_isMachine : okM mX5_isMachine := ⟨mem_w (i := 707) (by decide +kernel) rfl, mem_w (i := 36) (by decide +kernel) rfl, by decide +kernel, rfl, by decide +kernel, by decide +kernel⟩
theorem ok_mX5_isAgeing : okM mX5_isAgeing := ⟨mem_w (i := 734) (by decide +kernel) rfl, mem_w (i := 36) (by decide +kernel) rfl, by decide +kernel, rfl, by decide +kernel, by decide +kernel⟩
theorem ok_mX5_isState : okM mX5_isState := ⟨mem_w (i := 721) (by decide +kernel) rfl, mem_w (i := 36) (by decide +kernel) rfl, by decide +kernel, rfl, by decide +kernel, by decide +kernel⟩
theorem ok_mX5_machine : okM mX5_machine := ⟨mem_w (i := 699) (by decide +kernel) rfl, mem_w (i := 36) (by decide +kernel) rfl, by decide +kernel, rfl, by decide +kernel, by decide +kernel⟩
theorem ok_mX5_is : okM mX5_is := ⟨mem_w (i := 703) (by decide +kernel) rfl, mem_w (i := 36) (by decide +kernel) rfl, by decide +kernel, rfl, by decide +kernel, by decide +kernel⟩
theorem ok_mX5_told : okM mX5_told := ⟨mem_w (i := 711) (by decide +kernel) rfl, mem_w (i := 36) (by decide +kernel) rfl, by decide +kernel, rfl, by decide +kernel, by decide +kernel⟩
theorem ok_mX5_mayPay : okM mX5_mayPay := ⟨mem_w (i := 725) (by decide +kernel) rfl, mem_w (i := 36) (by decide +kernel) rfl, by decide +kernel, rfl, by decide +kernel, by decide +kernel⟩
theorem ok_mX5_pay : okM mX5_pay := ⟨mem_w (i := 715) (by decide +kernel) rfl, mem_w (i := 36) (by decide +kernel) rfl, by decide +kernel, rfl, by decide +kernel, by decide +kernel⟩
theorem ok_mX5_sum : okM mX5_sum := ⟨mem_w (i := 738) (by decide +kernel) rfl, mem_w (i := 36) (by decide +kernel) rfl, by decide +kernel, rfl, by decide +kernel, by decide +kernel⟩
theorem ok_mX5_chance : okM mX5_chance := ⟨mem_w (i := 729) (by decide +kernel) rfl, mem_w (i := 36) (by decide +kernel) rfl, by decide +kernel, rfl, by decide +kernel, by decide +kernel⟩
theorem ok_mX5_fill : okM mX5_fill := ⟨mem_w (i := 742) (by decide +kernel) rfl, mem_w (i := 36) (by decide +kernel) rfl, by decide +kernel, rfl, by decide +kernel, by decide +kernel⟩
theorem ok_mX5_ask : okM mX5_ask := ⟨mem_w (i := 746) (by decide +kernel) rfl, mem_w (i := 36) (by decide +kernel) rfl, by decide +kernel, rfl, by decide +kernel, by decide +kernel⟩
theorem ok_mX5_asked : okM mX5_asked := ⟨mem_w (i := 750) (by decide +kernel) rfl, mem_w (i := 36) (by decide +kernel) rfl, by decide +kernel, rfl, by decide +kernel, by decide +kernel⟩
theorem ok_mX5_stand : okM mX5_stand := ⟨mem_w (i := 754) (by decide +kernel) rfl, mem_w (i := 36) (by decide +kernel) rfl, by decide +kernel, rfl, by decide +kernel, by decide +kernel⟩
theorem ok_mX5_gcd : okM mX5_gcd := ⟨mem_w (i := 793) (by decide +kernel) rfl, mem_w (i := 36) (by decide +kernel) rfl, by decide +kernel, rfl, by decide +kernel, by decide +kernel⟩
theorem ok_mX5_fraction : okM mX5_fraction := ⟨mem_w (i := 790) (by decide +kernel) rfl, mem_w (i := 36) (by decide +kernel) rfl, by decide +kernel, rfl, by decide +kernel, by decide +kernel⟩
theorem ok_mX5_tells : okM mX5_tells := ⟨mem_w (i := 803) (by decide +kernel) rfl, mem_w (i := 36) (by decide +kernel) rfl, by decide +kernel, rfl, by decide +kernel, by decide +kernel⟩
theorem ok_mX5_upper : okM mX5_upper := ⟨mem_w (i := 758) (by decide +kernel) rfl, mem_w (i := 36) (by decide +kernel) rfl, by decide +kernel, rfl, by decide +kernel, by decide +kernel⟩
theorem ok_mX5_lower : okM mX5_lower := ⟨mem_w (i := 762) (by decide +kernel) rfl, mem_w (i := 36) (by decide +kernel) rfl, by decide +kernel, rfl, by decide +kernel, by decide +kernel⟩
theorem ok_mX5_cutDown : okM mX5_cutDown := ⟨mem_w (i := 799) (by decide +kernel) rfl, mem_w (i := 36) (by decide +kernel) rfl, by decide +kernel, rfl, by decide +kernel, by decide +kernel⟩
theorem ok_mX5_compared : okM mX5_compared := ⟨mem_w (i := 796) (by decide +kernel) rfl, mem_w (i := 36) (by decide +kernel) rfl, by decide +kernel, rfl, by decide +kernel, by decide +kernel⟩
theorem ok_mX5_determinant : okM mX5_determinant := ⟨mem_w (i := 786) (by decide +kernel) rfl, mem_w (i := 36) (by decide +kernel) rfl, by decide +kernel, rfl, by decide +kernel, by decide +kernel⟩
theorem ok_mX5_layTable : okM mX5_layTable := ⟨mem_w (i := 782) (by decide +kernel) rfl, mem_w (i := 36) (by decide +kernel) rfl, by decide +kernel, rfl, by decide +kernel, by decide +kernel⟩
theorem ok_mX5_value : okM mX5_value := ⟨mem_w (i := 778) (by decide +kernel) rfl, mem_w (i := 36) (by decide +kernel) rfl, by decide +kernel, rfl, by decide +kernel, by decide +kernel⟩
theorem ok_mX5_worthOf : okM mX5_worthOf := ⟨mem_w (i := 774) (by decide +kernel) rfl, mem_w (i := 36) (by decide +kernel) rfl, by decide +kernel, rfl, by decide +kernel, by decide +kernel⟩
theorem ok_mX5_need : okM mX5_need := ⟨mem_w (i := 770) (by decide +kernel) rfl, mem_w (i := 36) (by decide +kernel) rfl, by decide +kernel, rfl, by decide +kernel, by decide +kernel⟩
theorem ok_mX5_worth : okM mX5_worth := ⟨mem_w (i := 766) (by decide +kernel) rfl, mem_w (i := 36) (by decide +kernel) rfl, by decide +kernel, rfl, by decide +kernel, by decide +kernel⟩
theorem ok_mX5_way : okM mX5_way := ⟨mem_w (i := 807) (by decide +kernel) rfl, mem_w (i := 36) (by decide +kernel) rfl, by decide +kernel, rfl, by decide +kernel, by decide +kernel⟩
theorem ok_mX5_layWorths : okM mX5_layWorths := ⟨mem_w (i := 816) (by decide +kernel) rfl, mem_w (i := 36) (by decide +kernel) rfl, by decide +kernel, rfl, by decide +kernel, by decide +kernel⟩
theorem ok_mX5_between : okM mX5_between := ⟨mem_w (i := 820) (by decide +kernel) rfl, mem_w (i := 36) (by decide +kernel) rfl, by decide +kernel, rfl, by decide +kernel, by decide +kernel⟩
theorem ok_mX5_order : okM mX5_order := ⟨mem_w (i := 812) (by decide +kernel) rfl, mem_w (i := 36) (by decide +kernel) rfl, by decide +kernel, rfl, by decide +kernel, by decide +kernel⟩
theorem ok_mX5_goes : okM mX5_goes := ⟨mem_w (i := 824) (by decide +kernel) rfl, mem_w (i := 36) (by decide +kernel) rfl, by decide +kernel, rfl, by decide +kernel, by decide +kernel⟩
theorem ok_mX5_even : okM mX5_even := ⟨mem_w (i := 828) (by decide +kernel) rfl, mem_w (i := 36) (by decide +kernel) rfl, by decide +kernel, rfl, by decide +kernel, by decide +kernel⟩
theorem ok_mX5_better : okM mX5_better := ⟨mem_w (i := 834) (by decide +kernel) rfl, mem_w (i := 36) (by decide +kernel) rfl, by decide +kernel, rfl, by decide +kernel, by decide +kernel⟩
theorem ok_mX5_mean : okM mX5_mean := ⟨mem_w (i := 838) (by decide +kernel) rfl, mem_w (i := 36) (by decide +kernel) rfl, by decide +kernel, rfl, by decide +kernel, by decide +kernel⟩
theorem ok_mX5_row : okM mX5_row := ⟨mem_w (i := 842) (by decide +kernel) rfl, mem_w (i := 36) (by decide +kernel) rfl, by decide +kernel, rfl, by decide +kernel, by decide +kernel⟩
theorem ok_mX5_least : okM mX5_least := ⟨mem_w (i := 846) (by decide +kernel) rfl, mem_w (i := 36) (by decide +kernel) rfl, by decide +kernel, rfl, by decide +kernel, by decide +kernel⟩
theorem ok_mX5_compare : okM mX5_compare := ⟨mem_w (i := 850) (by decide +kernel) rfl, mem_w (i := 36) (by decide +kernel) rfl, by decide +kernel, rfl, by decide +kernel, by decide +kernel⟩
theorem ok_mX5_seed : okM mX5_seed := ⟨mem_w (i := 854) (by decide +kernel) rfl, mem_w (i := 36) (by decide +kernel) rfl, by decide +kernel, rfl, by decide +kernel, by decide +kernel⟩
theorem ok_mX5_best : okM mX5_best := ⟨mem_w (i := 858) (by decide +kernel) rfl, mem_w (i := 36) (by decide +kernel) rfl, by decide +kernel, rfl, by decide +kernel, by decide +kernel⟩
theorem ok_mX5_works : okM mX5_works := ⟨mem_w (i := 866) (by decide +kernel) rfl, mem_w (i := 36) (by decide +kernel) rfl, by decide +kernel, rfl, by decide +kernel, by decide +kernel⟩
theorem ok_mX5_work : okM mX5_work := ⟨mem_w (i := 862) (by decide +kernel) rfl, mem_w (i := 36) (by decide +kernel) rfl, by decide +kernel, rfl, by decide +kernel, by decide +kernel⟩
theorem ok_mX5_run : okM mX5_run := ⟨mem_w (i := 874) (by decide +kernel) rfl, mem_w (i := 36) (by decide +kernel) rfl, by decide +kernel, rfl, by decide +kernel, by decide +kernel⟩
theorem ok_mX5_step : okM mX5_step := ⟨mem_w (i := 882) (by decide +kernel) rfl, mem_w (i := 36) (by decide +kernel) rfl, by decide +kernel, rfl, by decide +kernel, by decide +kernel⟩
theorem ok_mX5_worked : okM mX5_worked := ⟨mem_w (i := 886) (by decide +kernel) rfl, mem_w (i := 36) (by decide +kernel) rfl, by decide +kernel, rfl, by decide +kernel, by decide +kernel⟩
theorem ok_mX5_paid : okM mX5_paid := ⟨mem_w (i := 890) (by decide +kernel) rfl, mem_w (i := 36) (by decide +kernel) rfl, by decide +kernel, rfl, by decide +kernel, by decide +kernel⟩
theorem ok_mX5_fail : okM mX5_fail := ⟨mem_w (i := 894) (by decide +kernel) rfl, mem_w (i := 36) (by decide +kernel) rfl, by decide +kernel, rfl, by decide +kernel, by decide +kernel⟩
theorem ok_mX5_count : okM mX5_count := ⟨mem_w (i := 898) (by decide +kernel) rfl, mem_w (i := 36) (by decide +kernel) rfl, by decide +kernel, rfl, by decide +kernel, by decide +kernel⟩
theorem ok_mX5_digest : okM mX5_digest := ⟨mem_w (i := 902) (by decide +kernel) rfl, mem_w (i := 36) (by decide +kernel) rfl, by decide +kernel, rfl, by decide +kernel, by decide +kernel⟩
theorem ok_mJ9_floorDiv_f86c9 : okM mJ9_floorDiv_f86c9 := ⟨mem_w (i := 389) (by decide +kernel) rfl, mem_w (i := 38) (by decide +kernel) rfl, by decide +kernel, rfl, by decide +kernel, by decide +kernel⟩
theorem ok_mJ9_abs_067f4 : okM mJ9_abs_067f4 := ⟨mem_w (i := 376) (by decide +kernel) rfl, mem_w (i := 38) (by decide +kernel) rfl, by decide +kernel, rfl, by decide +kernel, by decide +kernel⟩
theorem ok_mJ9_max_7cf53 : okM mJ9_max_7cf53 := ⟨mem_w (i := 163) (by decide +kernel) rfl, mem_w (i := 38) (by decide +kernel) rfl, by decide +kernel, rfl, by decide +kernel, by decide +kernel⟩
theorem ok_mJ9_min_7cf53 : okM mJ9_min_7cf53 := ⟨mem_w (i := 160) (by decide +kernel) rfl, mem_w (i := 38) (by decide +kernel) rfl, by decide +kernel, rfl, by decide +kernel, by decide +kernel⟩
def nwM : List Cond := [.methodLinkNest RX4 23 yX2_init "TinkerTrials", .methodLinkNest RX2 21 yX0_init "TinkerTrials", .methodLinkNest RX4 30 yX0_init "TinkerTrials", .methodLinkNest RX1 50 yX0_init "TinkerTrials"]
def nwF : List Cond := [.fieldLinkNest RX4 172 "TinkerTrials$Fraction" "top" "J" "TinkerTrials", .fieldLinkNest RX4 175 "TinkerTrials$Fraction" "bottom" "J" "TinkerTrials", .fieldLinkNest RX4 105 "TinkerTrials$Sheet" "kind" "I" "TinkerTrials", .fieldLinkNest RX4 108 "TinkerTrials$Sheet" "places" "[J" "TinkerTrials", .fieldLinkNest RX4 90 "TinkerTrials$Sheet" "missing" "Z" "TinkerTrials", .fieldLinkNest RX4 126 "TinkerTrials$Machine" "kind" "I" "TinkerTrials", .fieldLinkNest RX2 49 "TinkerTrials$Machine" "size" "I" "TinkerTrials", .fieldLinkNest RX4 127 "TinkerTrials$Machine" "size" "I" "TinkerTrials", .fieldLinkNest RX4 75 "TinkerTrials$Machine" "weighed" "Z" "TinkerTrials", .fieldLinkNest RX2 71 "TinkerTrials$Machine" "weighed" "Z" "TinkerTrials", .fieldLinkNest RX4 130 "TinkerTrials$Machine" "stands" "I" "TinkerTrials", .fieldLinkNest RX4 212 "TinkerTrials$Machine" "steps" "I" "TinkerTrials"]
theorem nwM_in : nwM = [55, 61, 90, 232].filterMap (fun i => lw_tbl[i]?) := by decide +kernel
theorem nwF_in : nwF = [66, 68, 165, 167, 169, 234, 236, 237, 242, 243, 245, 247].filterMap (fun i => lw_tbl[i]?) := by decide +kernel

/-- how a class's constant links a method: 0 virtual, 1 static, 2 special, 3 special of a nest mate -/
def okC (c idx : Nat) (k : Nat) (M : MI) : Prop := match k with
  | 0 => Cond.methodLink (clsN c) idx (mY M) ∈ wAll ∧ Cond.instanceMethod (mY M) ∈ wAll ∧ Cond.selects (mY M).cls (mY M) (mY M) ∈ wAll ∧ (parseMethodDescriptor (mY M).desc).map (fun d => d.parameters.length + 1) = some (mN M)
  | 1 => Cond.methodLink (clsN c) idx (mY M) ∈ wAll ∧ Cond.static (mY M) ∈ wAll ∧ (parseMethodDescriptor (mY M).desc).map (fun d => d.parameters.length) = some (mN M)
  | 2 => Cond.methodLink (clsN c) idx (mY M) ∈ wAll ∧ Cond.instanceMethod (mY M) ∈ wAll ∧ (mY M).name = "<init>" ∧ mT M = none ∧ (parseMethodDescriptor (mY M).desc).map (fun d => d.parameters.length + 1) = some (mN M)
  | _ => (∃ host, Cond.methodLinkNest (clsN c) idx (mY M) host ∈ nwM) ∧ Cond.instanceMethod (mY M) ∈ wAll ∧ (mY M).name = "<init>" ∧ mT M = none ∧ (parseMethodDescriptor (mY M).desc).map (fun d => d.parameters.length + 1) = some (mN M)
def lk {α : Type} : List (Nat × Nat × α) → Nat → Nat → Option α
  | [], _, _ => none
  | q :: t, c, d => bif Nat.beq q.1 c && Nat.beq q.2.1 d then some q.2.2 else lk t c d
theorem lk_mem {α : Type} {x : α} : ∀ {l : List (Nat × Nat × α)} {c d : Nat}, lk l c d = some x → (c, d, x) ∈ l
  | [], _, _, h => by cases h
  | q :: t, c, d, h => by
    unfold lk at h
    cases hb : (Nat.beq q.1 c && Nat.beq q.2.1 d) with
    | true =>
      rw [hb] at h
      simp only [Bool.and_eq_true] at hb
      have h1 := Nat.eq_of_beq_eq_true hb.1
      have h2 := Nat.eq_of_beq_eq_true hb.2
      cases h
      subst h1; subst h2
      exact List.mem_cons_self
    | false =>
      rw [hb] at h
      exact List.mem_cons_of_mem _ (lk_mem h)
def cLst : List (Nat × Nat × (Nat × MI)) := [(4, 23, (3, mX2_init)),
  (2, 21, (3, mX0_init)),
  (4, 30, (3, mX0_init)),
  (4, 71, (0, mX4_machineAt)),
  (4, 79, (0, mX4_found)),
  (4, 83, (2, mX3_init)),
  (3, 19, (1, mJ9_min_7cf53)),
  (3, 25, (1, mJ9_max_7cf53)),
  (4, 86, (0, mX4_sheetAt)),
  (4, 93, (0, mX3_hasPlaces)),
  (4, 97, (0, mX3_put)),
  (3, 32, (0, mX3_cut)),
  (4, 101, (0, mX3_placeAt)),
  (4, 118, (1, mX4_fits)),
  (4, 121, (2, mX1_init)),
  (1, 25, (1, mJ9_min_7cf53)),
  (1, 31, (1, mJ9_max_7cf53)),
  (1, 50, (3, mX0_init)),
  (4, 122, (0, mX1_isUnder)),
  (4, 133, (1, mX4_isPay)),
  (4, 137, (0, mX1_has)),
  (4, 140, (0, mX1_mayPay)),
  (4, 143, (0, mX1_payAt)),
  (4, 146, (0, mX1_setPay)),
  (4, 149, (0, mX1_weightAt)),
  (4, 153, (0, mX1_sumOf)),
  (4, 156, (0, mX1_setWeight)),
  (1, 51, (0, mX1_has)),
  (4, 160, (0, mX4_worthOf)),
  (4, 233, (0, mX2_reckonWorths)),
  (2, 55, (0, mX2_valueOf)),
  (2, 29, (0, mX2_listStates)),
  (2, 33, (0, mX2_layRow)),
  (2, 75, (0, mX1_sumOf)),
  (2, 79, (0, mX1_weightAt)),
  (2, 83, (0, mX2_setCell)),
  (2, 87, (0, mX1_payAt)),
  (2, 37, (0, mX2_eliminate)),
  (2, 41, (0, mX2_cellAt)),
  (2, 45, (0, mX0_become)),
  (0, 16, (1, mJ9_abs_067f4)),
  (0, 22, (1, mX0_common)),
  (2, 59, (0, mX0_against)),
  (0, 26, (1, mX0_weigh)),
  (0, 30, (1, mJ9_floorDiv_f86c9)),
  (2, 63, (0, mX0_take)),
  (2, 67, (0, mX1_worthAt)),
  (4, 237, (0, mX1_worthAt)),
  (4, 164, (0, mX0_take)),
  (4, 168, (0, mX2_valueOf)),
  (4, 178, (0, mX4_rankOf)),
  (4, 182, (0, mX0_against)),
  (4, 188, (1, mX0_weigh)),
  (4, 192, (1, mX4_asAnswer)),
  (4, 195, (0, mX0_become)),
  (4, 199, (0, mX2_longestRow)),
  (4, 203, (0, mX4_bestMachine)),
  (4, 207, (0, mX4_workOnce)),
  (4, 241, (0, mX4_draw)),
  (4, 244, (0, mX1_goal)),
  (1, 55, (0, mX1_weightAt)),
  (4, 217, (1, mX4_mix)),
  (4, 221, (1, mX4_mixMachine)),
  (4, 225, (1, mX4_mixSheet)),
  (5, 81, (1, mX5_in)),
  (5, 96, (0, mX5_meets)),
  (5, 100, (0, mX5_isSheet)),
  (5, 104, (0, mX5_lacks)),
  (5, 114, (0, mX5_isMachine)),
  (5, 121, (0, mX5_isState)),
  (5, 125, (0, mX5_mayPay)),
  (5, 130, (0, mX5_isAgeing)),
  (5, 133, (0, mX5_sum)),
  (5, 172, (0, mX5_need)),
  (5, 175, (0, mX5_worthOf)),
  (5, 164, (0, mX5_value)),
  (5, 152, (0, mX5_layTable)),
  (5, 156, (0, mX5_determinant)),
  (5, 160, (0, mX5_fraction)),
  (5, 136, (1, mX5_gcd)),
  (5, 168, (1, mX5_compared)),
  (5, 149, (1, mX5_cutDown)),
  (5, 179, (0, mX5_tells)),
  (5, 185, (0, mX5_layWorths)),
  (5, 189, (0, mX5_between)),
  (5, 206, (0, mX5_works)),
  (5, 216, (0, mX5_best))]
theorem okC_4_23 : okC 4 23 3 mX2_init ∧ okM mX2_init := ⟨⟨⟨"TinkerTrials", List.mem_of_getElem? (i := 0) rfl⟩, mem_w (i := 56) (by decide +kernel) rfl, rfl, rfl, by decide +kernel⟩, ok_mX2_init⟩
theorem okC_2_21 : okC 2 21 3 mX0_init ∧ okM mX0_init := ⟨⟨⟨"TinkerTrials", List.mem_of_getElem? (i := 1) rfl⟩, mem_w (i := 62) (by decide +kernel) rfl, rfl, rfl, by decide +kernel⟩, ok_mX0_init⟩
theorem okC_4_30 : okC 4 30 3 mX0_init ∧ okM mX0_init := ⟨⟨⟨"TinkerTrials", List.mem_of_getElem? (i := 2) rfl⟩, mem_w (i := 62) (by decide +kernel) rfl, rfl, rfl, by decide +kernel⟩, ok_mX0_init⟩
theorem okC_4_71 : okC 4 71 0 mX4_machineAt ∧ okM mX4_machineAt := ⟨⟨mem_w (i := 141) (by decide +kernel) rfl, mem_w (i := 143) (by decide +kernel) rfl, mem_w (i := 0) (by decide +kernel) rfl, by decide +kernel⟩, ok_mX4_machineAt⟩
theorem okC_4_79 : okC 4 79 0 mX4_found ∧ okM mX4_found := ⟨⟨mem_w (i := 149) (by decide +kernel) rfl, mem_w (i := 151) (by decide +kernel) rfl, mem_w (i := 1) (by decide +kernel) rfl, by decide +kernel⟩, ok_mX4_found⟩
theorem okC_4_83 : okC 4 83 2 mX3_init ∧ okM mX3_init := ⟨⟨mem_w (i := 154) (by decide +kernel) rfl, mem_w (i := 155) (by decide +kernel) rfl, rfl, rfl, by decide +kernel⟩, ok_mX3_init⟩
theorem okC_3_19 : okC 3 19 1 mJ9_min_7cf53 ∧ okM mJ9_min_7cf53 := ⟨⟨mem_w (i := 158) (by decide +kernel) rfl, mem_w (i := 159) (by decide +kernel) rfl, by decide +kernel⟩, ok_mJ9_min_7cf53⟩
theorem okC_3_25 : okC 3 25 1 mJ9_max_7cf53 ∧ okM mJ9_max_7cf53 := ⟨⟨mem_w (i := 161) (by decide +kernel) rfl, mem_w (i := 162) (by decide +kernel) rfl, by decide +kernel⟩, ok_mJ9_max_7cf53⟩
theorem okC_4_86 : okC 4 86 0 mX4_sheetAt ∧ okM mX4_sheetAt := ⟨⟨mem_w (i := 181) (by decide +kernel) rfl, mem_w (i := 183) (by decide +kernel) rfl, mem_w (i := 2) (by decide +kernel) rfl, by decide +kernel⟩, ok_mX4_sheetAt⟩
theorem okC_4_93 : okC 4 93 0 mX3_hasPlaces ∧ okM mX3_hasPlaces := ⟨⟨mem_w (i := 189) (by decide +kernel) rfl, mem_w (i := 190) (by decide +kernel) rfl, mem_w (i := 191) (by decide +kernel) rfl, by decide +kernel⟩, ok_mX3_hasPlaces⟩
theorem okC_4_97 : okC 4 97 0 mX3_put ∧ okM mX3_put := ⟨⟨mem_w (i := 193) (by decide +kernel) rfl, mem_w (i := 194) (by decide +kernel) rfl, mem_w (i := 195) (by decide +kernel) rfl, by decide +kernel⟩, ok_mX3_put⟩
theorem okC_3_32 : okC 3 32 0 mX3_cut ∧ okM mX3_cut := ⟨⟨mem_w (i := 197) (by decide +kernel) rfl, mem_w (i := 199) (by decide +kernel) rfl, mem_w (i := 3) (by decide +kernel) rfl, by decide +kernel⟩, ok_mX3_cut⟩
theorem okC_4_101 : okC 4 101 0 mX3_placeAt ∧ okM mX3_placeAt := ⟨⟨mem_w (i := 205) (by decide +kernel) rfl, mem_w (i := 206) (by decide +kernel) rfl, mem_w (i := 207) (by decide +kernel) rfl, by decide +kernel⟩, ok_mX3_placeAt⟩
theorem okC_4_118 : okC 4 118 1 mX4_fits ∧ okM mX4_fits := ⟨⟨mem_w (i := 220) (by decide +kernel) rfl, mem_w (i := 221) (by decide +kernel) rfl, by decide +kernel⟩, ok_mX4_fits⟩
theorem okC_4_121 : okC 4 121 2 mX1_init ∧ okM mX1_init := ⟨⟨mem_w (i := 224) (by decide +kernel) rfl, mem_w (i := 225) (by decide +kernel) rfl, rfl, rfl, by decide +kernel⟩, ok_mX1_init⟩
theorem okC_1_25 : okC 1 25 1 mJ9_min_7cf53 ∧ okM mJ9_min_7cf53 := ⟨⟨mem_w (i := 228) (by decide +kernel) rfl, mem_w (i := 159) (by decide +kernel) rfl, by decide +kernel⟩, ok_mJ9_min_7cf53⟩
theorem okC_1_31 : okC 1 31 1 mJ9_max_7cf53 ∧ okM mJ9_max_7cf53 := ⟨⟨mem_w (i := 229) (by decide +kernel) rfl, mem_w (i := 162) (by decide +kernel) rfl, by decide +kernel⟩, ok_mJ9_max_7cf53⟩
theorem okC_1_50 : okC 1 50 3 mX0_init ∧ okM mX0_init := ⟨⟨⟨"TinkerTrials", List.mem_of_getElem? (i := 3) rfl⟩, mem_w (i := 62) (by decide +kernel) rfl, rfl, rfl, by decide +kernel⟩, ok_mX0_init⟩
theorem okC_4_122 : okC 4 122 0 mX1_isUnder ∧ okM mX1_isUnder := ⟨⟨mem_w (i := 269) (by decide +kernel) rfl, mem_w (i := 270) (by decide +kernel) rfl, mem_w (i := 271) (by decide +kernel) rfl, by decide +kernel⟩, ok_mX1_isUnder⟩
theorem okC_4_133 : okC 4 133 1 mX4_isPay ∧ okM mX4_isPay := ⟨⟨mem_w (i := 281) (by decide +kernel) rfl, mem_w (i := 282) (by decide +kernel) rfl, by decide +kernel⟩, ok_mX4_isPay⟩
theorem okC_4_137 : okC 4 137 0 mX1_has ∧ okM mX1_has := ⟨⟨mem_w (i := 286) (by decide +kernel) rfl, mem_w (i := 287) (by decide +kernel) rfl, mem_w (i := 288) (by decide +kernel) rfl, by decide +kernel⟩, ok_mX1_has⟩
theorem okC_4_140 : okC 4 140 0 mX1_mayPay ∧ okM mX1_mayPay := ⟨⟨mem_w (i := 290) (by decide +kernel) rfl, mem_w (i := 291) (by decide +kernel) rfl, mem_w (i := 292) (by decide +kernel) rfl, by decide +kernel⟩, ok_mX1_mayPay⟩
theorem okC_4_143 : okC 4 143 0 mX1_payAt ∧ okM mX1_payAt := ⟨⟨mem_w (i := 294) (by decide +kernel) rfl, mem_w (i := 295) (by decide +kernel) rfl, mem_w (i := 296) (by decide +kernel) rfl, by decide +kernel⟩, ok_mX1_payAt⟩
theorem okC_4_146 : okC 4 146 0 mX1_setPay ∧ okM mX1_setPay := ⟨⟨mem_w (i := 298) (by decide +kernel) rfl, mem_w (i := 299) (by decide +kernel) rfl, mem_w (i := 300) (by decide +kernel) rfl, by decide +kernel⟩, ok_mX1_setPay⟩
theorem okC_4_149 : okC 4 149 0 mX1_weightAt ∧ okM mX1_weightAt := ⟨⟨mem_w (i := 306) (by decide +kernel) rfl, mem_w (i := 307) (by decide +kernel) rfl, mem_w (i := 308) (by decide +kernel) rfl, by decide +kernel⟩, ok_mX1_weightAt⟩
theorem okC_4_153 : okC 4 153 0 mX1_sumOf ∧ okM mX1_sumOf := ⟨⟨mem_w (i := 310) (by decide +kernel) rfl, mem_w (i := 311) (by decide +kernel) rfl, mem_w (i := 312) (by decide +kernel) rfl, by decide +kernel⟩, ok_mX1_sumOf⟩
theorem okC_4_156 : okC 4 156 0 mX1_setWeight ∧ okM mX1_setWeight := ⟨⟨mem_w (i := 314) (by decide +kernel) rfl, mem_w (i := 315) (by decide +kernel) rfl, mem_w (i := 316) (by decide +kernel) rfl, by decide +kernel⟩, ok_mX1_setWeight⟩
theorem okC_1_51 : okC 1 51 0 mX1_has ∧ okM mX1_has := ⟨⟨mem_w (i := 318) (by decide +kernel) rfl, mem_w (i := 287) (by decide +kernel) rfl, mem_w (i := 288) (by decide +kernel) rfl, by decide +kernel⟩, ok_mX1_has⟩
theorem okC_4_160 : okC 4 160 0 mX4_worthOf ∧ okM mX4_worthOf := ⟨⟨mem_w (i := 335) (by decide +kernel) rfl, mem_w (i := 337) (by decide +kernel) rfl, mem_w (i := 4) (by decide +kernel) rfl, by decide +kernel⟩, ok_mX4_worthOf⟩
theorem okC_4_233 : okC 4 233 0 mX2_reckonWorths ∧ okM mX2_reckonWorths := ⟨⟨mem_w (i := 339) (by decide +kernel) rfl, mem_w (i := 340) (by decide +kernel) rfl, mem_w (i := 341) (by decide +kernel) rfl, by decide +kernel⟩, ok_mX2_reckonWorths⟩
theorem okC_2_55 : okC 2 55 0 mX2_valueOf ∧ okM mX2_valueOf := ⟨⟨mem_w (i := 343) (by decide +kernel) rfl, mem_w (i := 344) (by decide +kernel) rfl, mem_w (i := 345) (by decide +kernel) rfl, by decide +kernel⟩, ok_mX2_valueOf⟩
theorem okC_2_29 : okC 2 29 0 mX2_listStates ∧ okM mX2_listStates := ⟨⟨mem_w (i := 347) (by decide +kernel) rfl, mem_w (i := 349) (by decide +kernel) rfl, mem_w (i := 5) (by decide +kernel) rfl, by decide +kernel⟩, ok_mX2_listStates⟩
theorem okC_2_33 : okC 2 33 0 mX2_layRow ∧ okM mX2_layRow := ⟨⟨mem_w (i := 351) (by decide +kernel) rfl, mem_w (i := 353) (by decide +kernel) rfl, mem_w (i := 6) (by decide +kernel) rfl, by decide +kernel⟩, ok_mX2_layRow⟩
theorem okC_2_75 : okC 2 75 0 mX1_sumOf ∧ okM mX1_sumOf := ⟨⟨mem_w (i := 355) (by decide +kernel) rfl, mem_w (i := 311) (by decide +kernel) rfl, mem_w (i := 312) (by decide +kernel) rfl, by decide +kernel⟩, ok_mX1_sumOf⟩
theorem okC_2_79 : okC 2 79 0 mX1_weightAt ∧ okM mX1_weightAt := ⟨⟨mem_w (i := 356) (by decide +kernel) rfl, mem_w (i := 307) (by decide +kernel) rfl, mem_w (i := 308) (by decide +kernel) rfl, by decide +kernel⟩, ok_mX1_weightAt⟩
theorem okC_2_83 : okC 2 83 0 mX2_setCell ∧ okM mX2_setCell := ⟨⟨mem_w (i := 357) (by decide +kernel) rfl, mem_w (i := 359) (by decide +kernel) rfl, mem_w (i := 7) (by decide +kernel) rfl, by decide +kernel⟩, ok_mX2_setCell⟩
theorem okC_2_87 : okC 2 87 0 mX1_payAt ∧ okM mX1_payAt := ⟨⟨mem_w (i := 361) (by decide +kernel) rfl, mem_w (i := 295) (by decide +kernel) rfl, mem_w (i := 296) (by decide +kernel) rfl, by decide +kernel⟩, ok_mX1_payAt⟩
theorem okC_2_37 : okC 2 37 0 mX2_eliminate ∧ okM mX2_eliminate := ⟨⟨mem_w (i := 362) (by decide +kernel) rfl, mem_w (i := 364) (by decide +kernel) rfl, mem_w (i := 8) (by decide +kernel) rfl, by decide +kernel⟩, ok_mX2_eliminate⟩
theorem okC_2_41 : okC 2 41 0 mX2_cellAt ∧ okM mX2_cellAt := ⟨⟨mem_w (i := 366) (by decide +kernel) rfl, mem_w (i := 368) (by decide +kernel) rfl, mem_w (i := 9) (by decide +kernel) rfl, by decide +kernel⟩, ok_mX2_cellAt⟩
theorem okC_2_45 : okC 2 45 0 mX0_become ∧ okM mX0_become := ⟨⟨mem_w (i := 370) (by decide +kernel) rfl, mem_w (i := 371) (by decide +kernel) rfl, mem_w (i := 372) (by decide +kernel) rfl, by decide +kernel⟩, ok_mX0_become⟩
theorem okC_0_16 : okC 0 16 1 mJ9_abs_067f4 ∧ okM mJ9_abs_067f4 := ⟨⟨mem_w (i := 374) (by decide +kernel) rfl, mem_w (i := 375) (by decide +kernel) rfl, by decide +kernel⟩, ok_mJ9_abs_067f4⟩
theorem okC_0_22 : okC 0 22 1 mX0_common ∧ okM mX0_common := ⟨⟨mem_w (i := 377) (by decide +kernel) rfl, mem_w (i := 378) (by decide +kernel) rfl, by decide +kernel⟩, ok_mX0_common⟩
theorem okC_2_59 : okC 2 59 0 mX0_against ∧ okM mX0_against := ⟨⟨mem_w (i := 380) (by decide +kernel) rfl, mem_w (i := 381) (by decide +kernel) rfl, mem_w (i := 382) (by decide +kernel) rfl, by decide +kernel⟩, ok_mX0_against⟩
theorem okC_0_26 : okC 0 26 1 mX0_weigh ∧ okM mX0_weigh := ⟨⟨mem_w (i := 384) (by decide +kernel) rfl, mem_w (i := 385) (by decide +kernel) rfl, by decide +kernel⟩, ok_mX0_weigh⟩
theorem okC_0_30 : okC 0 30 1 mJ9_floorDiv_f86c9 ∧ okM mJ9_floorDiv_f86c9 := ⟨⟨mem_w (i := 387) (by decide +kernel) rfl, mem_w (i := 388) (by decide +kernel) rfl, by decide +kernel⟩, ok_mJ9_floorDiv_f86c9⟩
theorem okC_2_63 : okC 2 63 0 mX0_take ∧ okM mX0_take := ⟨⟨mem_w (i := 390) (by decide +kernel) rfl, mem_w (i := 391) (by decide +kernel) rfl, mem_w (i := 392) (by decide +kernel) rfl, by decide +kernel⟩, ok_mX0_take⟩
theorem okC_2_67 : okC 2 67 0 mX1_worthAt ∧ okM mX1_worthAt := ⟨⟨mem_w (i := 394) (by decide +kernel) rfl, mem_w (i := 395) (by decide +kernel) rfl, mem_w (i := 396) (by decide +kernel) rfl, by decide +kernel⟩, ok_mX1_worthAt⟩
theorem okC_4_237 : okC 4 237 0 mX1_worthAt ∧ okM mX1_worthAt := ⟨⟨mem_w (i := 398) (by decide +kernel) rfl, mem_w (i := 395) (by decide +kernel) rfl, mem_w (i := 396) (by decide +kernel) rfl, by decide +kernel⟩, ok_mX1_worthAt⟩
theorem okC_4_164 : okC 4 164 0 mX0_take ∧ okM mX0_take := ⟨⟨mem_w (i := 399) (by decide +kernel) rfl, mem_w (i := 391) (by decide +kernel) rfl, mem_w (i := 392) (by decide +kernel) rfl, by decide +kernel⟩, ok_mX0_take⟩
theorem okC_4_168 : okC 4 168 0 mX2_valueOf ∧ okM mX2_valueOf := ⟨⟨mem_w (i := 404) (by decide +kernel) rfl, mem_w (i := 344) (by decide +kernel) rfl, mem_w (i := 345) (by decide +kernel) rfl, by decide +kernel⟩, ok_mX2_valueOf⟩
theorem okC_4_178 : okC 4 178 0 mX4_rankOf ∧ okM mX4_rankOf := ⟨⟨mem_w (i := 417) (by decide +kernel) rfl, mem_w (i := 419) (by decide +kernel) rfl, mem_w (i := 10) (by decide +kernel) rfl, by decide +kernel⟩, ok_mX4_rankOf⟩
theorem okC_4_182 : okC 4 182 0 mX0_against ∧ okM mX0_against := ⟨⟨mem_w (i := 421) (by decide +kernel) rfl, mem_w (i := 381) (by decide +kernel) rfl, mem_w (i := 382) (by decide +kernel) rfl, by decide +kernel⟩, ok_mX0_against⟩
theorem okC_4_188 : okC 4 188 1 mX0_weigh ∧ okM mX0_weigh := ⟨⟨mem_w (i := 432) (by decide +kernel) rfl, mem_w (i := 385) (by decide +kernel) rfl, by decide +kernel⟩, ok_mX0_weigh⟩
theorem okC_4_192 : okC 4 192 1 mX4_asAnswer ∧ okM mX4_asAnswer := ⟨⟨mem_w (i := 433) (by decide +kernel) rfl, mem_w (i := 434) (by decide +kernel) rfl, by decide +kernel⟩, ok_mX4_asAnswer⟩
theorem okC_4_195 : okC 4 195 0 mX0_become ∧ okM mX0_become := ⟨⟨mem_w (i := 440) (by decide +kernel) rfl, mem_w (i := 371) (by decide +kernel) rfl, mem_w (i := 372) (by decide +kernel) rfl, by decide +kernel⟩, ok_mX0_become⟩
theorem okC_4_199 : okC 4 199 0 mX2_longestRow ∧ okM mX2_longestRow := ⟨⟨mem_w (i := 449) (by decide +kernel) rfl, mem_w (i := 450) (by decide +kernel) rfl, mem_w (i := 451) (by decide +kernel) rfl, by decide +kernel⟩, ok_mX2_longestRow⟩
theorem okC_4_203 : okC 4 203 0 mX4_bestMachine ∧ okM mX4_bestMachine := ⟨⟨mem_w (i := 469) (by decide +kernel) rfl, mem_w (i := 471) (by decide +kernel) rfl, mem_w (i := 11) (by decide +kernel) rfl, by decide +kernel⟩, ok_mX4_bestMachine⟩
theorem okC_4_207 : okC 4 207 0 mX4_workOnce ∧ okM mX4_workOnce := ⟨⟨mem_w (i := 477) (by decide +kernel) rfl, mem_w (i := 479) (by decide +kernel) rfl, mem_w (i := 12) (by decide +kernel) rfl, by decide +kernel⟩, ok_mX4_workOnce⟩
theorem okC_4_241 : okC 4 241 0 mX4_draw ∧ okM mX4_draw := ⟨⟨mem_w (i := 481) (by decide +kernel) rfl, mem_w (i := 483) (by decide +kernel) rfl, mem_w (i := 13) (by decide +kernel) rfl, by decide +kernel⟩, ok_mX4_draw⟩
theorem okC_4_244 : okC 4 244 0 mX1_goal ∧ okM mX1_goal := ⟨⟨mem_w (i := 489) (by decide +kernel) rfl, mem_w (i := 490) (by decide +kernel) rfl, mem_w (i := 491) (by decide +kernel) rfl, by decide +kernel⟩, ok_mX1_goal⟩
theorem okC_1_55 : okC 1 55 0 mX1_weightAt ∧ okM mX1_weightAt := ⟨⟨mem_w (i := 493) (by decide +kernel) rfl, mem_w (i := 307) (by decide +kernel) rfl, mem_w (i := 308) (by decide +kernel) rfl, by decide +kernel⟩, ok_mX1_weightAt⟩
theorem okC_4_217 : okC 4 217 1 mX4_mix ∧ okM mX4_mix := ⟨⟨mem_w (i := 536) (by decide +kernel) rfl, mem_w (i := 537) (by decide +kernel) rfl, by decide +kernel⟩, ok_mX4_mix⟩
theorem okC_4_221 : okC 4 221 1 mX4_mixMachine ∧ okM mX4_mixMachine := ⟨⟨mem_w (i := 540) (by decide +kernel) rfl, mem_w (i := 541) (by decide +kernel) rfl, by decide +kernel⟩, ok_mX4_mixMachine⟩
theorem okC_4_225 : okC 4 225 1 mX4_mixSheet ∧ okM mX4_mixSheet := ⟨⟨mem_w (i := 543) (by decide +kernel) rfl, mem_w (i := 544) (by decide +kernel) rfl, by decide +kernel⟩, ok_mX4_mixSheet⟩
theorem okC_5_81 : okC 5 81 1 mX5_in ∧ okM mX5_in := ⟨⟨mem_w (i := 653) (by decide +kernel) rfl, mem_w (i := 654) (by decide +kernel) rfl, by decide +kernel⟩, ok_mX5_in⟩
theorem okC_5_96 : okC 5 96 0 mX5_meets ∧ okM mX5_meets := ⟨⟨mem_w (i := 668) (by decide +kernel) rfl, mem_w (i := 670) (by decide +kernel) rfl, mem_w (i := 14) (by decide +kernel) rfl, by decide +kernel⟩, ok_mX5_meets⟩
theorem okC_5_100 : okC 5 100 0 mX5_isSheet ∧ okM mX5_isSheet := ⟨⟨mem_w (i := 676) (by decide +kernel) rfl, mem_w (i := 678) (by decide +kernel) rfl, mem_w (i := 15) (by decide +kernel) rfl, by decide +kernel⟩, ok_mX5_isSheet⟩
theorem okC_5_104 : okC 5 104 0 mX5_lacks ∧ okM mX5_lacks := ⟨⟨mem_w (i := 684) (by decide +kernel) rfl, mem_w (i := 686) (by decide +kernel) rfl, mem_w (i := 16) (by decide +kernel) rfl, by decide +kernel⟩, ok_mX5_lacks⟩
theorem okC_5_114 : okC 5 114 0 mX5_isMachine ∧ okM mX5_isMachine := ⟨⟨mem_w (i := 704) (by decide +kernel) rfl, mem_w (i := 706) (by decide +kernel) rfl, mem_w (i := 17) (by decide +kernel) rfl, by decide +kernel⟩, ok_mX5_isMachine⟩
theorem okC_5_121 : okC 5 121 0 mX5_isState ∧ okM mX5_isState := ⟨⟨mem_w (i := 718) (by decide +kernel) rfl, mem_w (i := 720) (by decide +kernel) rfl, mem_w (i := 18) (by decide +kernel) rfl, by decide +kernel⟩, ok_mX5_isState⟩
theorem okC_5_125 : okC 5 125 0 mX5_mayPay ∧ okM mX5_mayPay := ⟨⟨mem_w (i := 722) (by decide +kernel) rfl, mem_w (i := 724) (by decide +kernel) rfl, mem_w (i := 19) (by decide +kernel) rfl, by decide +kernel⟩, ok_mX5_mayPay⟩
theorem okC_5_130 : okC 5 130 0 mX5_isAgeing ∧ okM mX5_isAgeing := ⟨⟨mem_w (i := 731) (by decide +kernel) rfl, mem_w (i := 733) (by decide +kernel) rfl, mem_w (i := 20) (by decide +kernel) rfl, by decide +kernel⟩, ok_mX5_isAgeing⟩
theorem okC_5_133 : okC 5 133 0 mX5_sum ∧ okM mX5_sum := ⟨⟨mem_w (i := 735) (by decide +kernel) rfl, mem_w (i := 737) (by decide +kernel) rfl, mem_w (i := 21) (by decide +kernel) rfl, by decide +kernel⟩, ok_mX5_sum⟩
theorem okC_5_172 : okC 5 172 0 mX5_need ∧ okM mX5_need := ⟨⟨mem_w (i := 767) (by decide +kernel) rfl, mem_w (i := 769) (by decide +kernel) rfl, mem_w (i := 22) (by decide +kernel) rfl, by decide +kernel⟩, ok_mX5_need⟩
theorem okC_5_175 : okC 5 175 0 mX5_worthOf ∧ okM mX5_worthOf := ⟨⟨mem_w (i := 771) (by decide +kernel) rfl, mem_w (i := 773) (by decide +kernel) rfl, mem_w (i := 23) (by decide +kernel) rfl, by decide +kernel⟩, ok_mX5_worthOf⟩
theorem okC_5_164 : okC 5 164 0 mX5_value ∧ okM mX5_value := ⟨⟨mem_w (i := 775) (by decide +kernel) rfl, mem_w (i := 777) (by decide +kernel) rfl, mem_w (i := 24) (by decide +kernel) rfl, by decide +kernel⟩, ok_mX5_value⟩
theorem okC_5_152 : okC 5 152 0 mX5_layTable ∧ okM mX5_layTable := ⟨⟨mem_w (i := 779) (by decide +kernel) rfl, mem_w (i := 781) (by decide +kernel) rfl, mem_w (i := 25) (by decide +kernel) rfl, by decide +kernel⟩, ok_mX5_layTable⟩
theorem okC_5_156 : okC 5 156 0 mX5_determinant ∧ okM mX5_determinant := ⟨⟨mem_w (i := 783) (by decide +kernel) rfl, mem_w (i := 785) (by decide +kernel) rfl, mem_w (i := 26) (by decide +kernel) rfl, by decide +kernel⟩, ok_mX5_determinant⟩
theorem okC_5_160 : okC 5 160 0 mX5_fraction ∧ okM mX5_fraction := ⟨⟨mem_w (i := 787) (by decide +kernel) rfl, mem_w (i := 789) (by decide +kernel) rfl, mem_w (i := 27) (by decide +kernel) rfl, by decide +kernel⟩, ok_mX5_fraction⟩
theorem okC_5_136 : okC 5 136 1 mX5_gcd ∧ okM mX5_gcd := ⟨⟨mem_w (i := 791) (by decide +kernel) rfl, mem_w (i := 792) (by decide +kernel) rfl, by decide +kernel⟩, ok_mX5_gcd⟩
theorem okC_5_168 : okC 5 168 1 mX5_compared ∧ okM mX5_compared := ⟨⟨mem_w (i := 794) (by decide +kernel) rfl, mem_w (i := 795) (by decide +kernel) rfl, by decide +kernel⟩, ok_mX5_compared⟩
theorem okC_5_149 : okC 5 149 1 mX5_cutDown ∧ okM mX5_cutDown := ⟨⟨mem_w (i := 797) (by decide +kernel) rfl, mem_w (i := 798) (by decide +kernel) rfl, by decide +kernel⟩, ok_mX5_cutDown⟩
theorem okC_5_179 : okC 5 179 0 mX5_tells ∧ okM mX5_tells := ⟨⟨mem_w (i := 800) (by decide +kernel) rfl, mem_w (i := 802) (by decide +kernel) rfl, mem_w (i := 28) (by decide +kernel) rfl, by decide +kernel⟩, ok_mX5_tells⟩
theorem okC_5_185 : okC 5 185 0 mX5_layWorths ∧ okM mX5_layWorths := ⟨⟨mem_w (i := 813) (by decide +kernel) rfl, mem_w (i := 815) (by decide +kernel) rfl, mem_w (i := 29) (by decide +kernel) rfl, by decide +kernel⟩, ok_mX5_layWorths⟩
theorem okC_5_189 : okC 5 189 0 mX5_between ∧ okM mX5_between := ⟨⟨mem_w (i := 817) (by decide +kernel) rfl, mem_w (i := 819) (by decide +kernel) rfl, mem_w (i := 30) (by decide +kernel) rfl, by decide +kernel⟩, ok_mX5_between⟩
theorem okC_5_206 : okC 5 206 0 mX5_works ∧ okM mX5_works := ⟨⟨mem_w (i := 863) (by decide +kernel) rfl, mem_w (i := 865) (by decide +kernel) rfl, mem_w (i := 31) (by decide +kernel) rfl, by decide +kernel⟩, ok_mX5_works⟩
theorem okC_5_216 : okC 5 216 0 mX5_best ∧ okM mX5_best := ⟨⟨mem_w (i := 878) (by decide +kernel) rfl, mem_w (i := 856) (by decide +kernel) rfl, mem_w (i := 857) (by decide +kernel) rfl, by decide +kernel⟩, ok_mX5_best⟩
theorem cLst_ok : ∀ q ∈ cLst, okC q.1 q.2.1 q.2.2.1 q.2.2.2 ∧ okM q.2.2.2 := by
  intro q hq
  simp only [cLst, List.mem_cons, List.not_mem_nil, or_false] at hq
  rcases hq with rfl | rfl | rfl | rfl | rfl | rfl | rfl | rfl | rfl | rfl | rfl | rfl | rfl | rfl | rfl | rfl | rfl | rfl | rfl | rfl | rfl | rfl | rfl | rfl | rfl | rfl | rfl | rfl | rfl | rfl | rfl | rfl | rfl | rfl | rfl | rfl | rfl | rfl | rfl | rfl | rfl | rfl | rfl | rfl | rfl | rfl | rfl | rfl | rfl | rfl | rfl | rfl | rfl | rfl | rfl | rfl | rfl | rfl | rfl | rfl | rfl | rfl | rfl | rfl | rfl | rfl | rfl | rfl | rfl | rfl | rfl | rfl | rfl | rfl | rfl | rfl | rfl | rfl | rfl | rfl | rfl | rfl | rfl | rfl | rfl | rfl | rfl
  · exact okC_4_23
  · exact okC_2_21
  · exact okC_4_30
  · exact okC_4_71
  · exact okC_4_79
  · exact okC_4_83
  · exact okC_3_19
  · exact okC_3_25
  · exact okC_4_86
  · exact okC_4_93
  · exact okC_4_97
  · exact okC_3_32
  · exact okC_4_101
  · exact okC_4_118
  · exact okC_4_121
  · exact okC_1_25
  · exact okC_1_31
  · exact okC_1_50
  · exact okC_4_122
  · exact okC_4_133
  · exact okC_4_137
  · exact okC_4_140
  · exact okC_4_143
  · exact okC_4_146
  · exact okC_4_149
  · exact okC_4_153
  · exact okC_4_156
  · exact okC_1_51
  · exact okC_4_160
  · exact okC_4_233
  · exact okC_2_55
  · exact okC_2_29
  · exact okC_2_33
  · exact okC_2_75
  · exact okC_2_79
  · exact okC_2_83
  · exact okC_2_87
  · exact okC_2_37
  · exact okC_2_41
  · exact okC_2_45
  · exact okC_0_16
  · exact okC_0_22
  · exact okC_2_59
  · exact okC_0_26
  · exact okC_0_30
  · exact okC_2_63
  · exact okC_2_67
  · exact okC_4_237
  · exact okC_4_164
  · exact okC_4_168
  · exact okC_4_178
  · exact okC_4_182
  · exact okC_4_188
  · exact okC_4_192
  · exact okC_4_195
  · exact okC_4_199
  · exact okC_4_203
  · exact okC_4_207
  · exact okC_4_241
  · exact okC_4_244
  · exact okC_1_55
  · exact okC_4_217
  · exact okC_4_221
  · exact okC_4_225
  · exact okC_5_81
  · exact okC_5_96
  · exact okC_5_100
  · exact okC_5_104
  · exact okC_5_114
  · exact okC_5_121
  · exact okC_5_125
  · exact okC_5_130
  · exact okC_5_133
  · exact okC_5_172
  · exact okC_5_175
  · exact okC_5_164
  · exact okC_5_152
  · exact okC_5_156
  · exact okC_5_160
  · exact okC_5_136
  · exact okC_5_168
  · exact okC_5_149
  · exact okC_5_179
  · exact okC_5_185
  · exact okC_5_189
  · exact okC_5_206
  · exact okC_5_216
def cT (c idx : Nat) : Option (Nat × MI) := lk cLst c idx
theorem cT_4_23 : cT 4 23 = some (3, mX2_init) := rfl
theorem cT_2_21 : cT 2 21 = some (3, mX0_init) := rfl
theorem cT_4_30 : cT 4 30 = some (3, mX0_init) := rfl
theorem cT_4_71 : cT 4 71 = some (0, mX4_machineAt) := rfl
theorem cT_4_79 : cT 4 79 = some (0, mX4_found) := rfl
theorem cT_4_83 : cT 4 83 = some (2, mX3_init) := rfl
theorem cT_3_19 : cT 3 19 = some (1, mJ9_min_7cf53) := rfl
theorem cT_3_25 : cT 3 25 = some (1, mJ9_max_7cf53) := rfl
theorem cT_4_86 : cT 4 86 = some (0, mX4_sheetAt) := rfl
theorem cT_4_93 : cT 4 93 = some (0, mX3_hasPlaces) := rfl
theorem cT_4_97 : cT 4 97 = some (0, mX3_put) := rfl
theorem cT_3_32 : cT 3 32 = some (0, mX3_cut) := rfl
theorem cT_4_101 : cT 4 101 = some (0, mX3_placeAt) := rfl
theorem cT_4_118 : cT 4 118 = some (1, mX4_fits) := rfl
theorem cT_4_121 : cT 4 121 = some (2, mX1_init) := rfl
theorem cT_1_25 : cT 1 25 = some (1, mJ9_min_7cf53) := rfl
theorem cT_1_31 : cT 1 31 = some (1, mJ9_max_7cf53) := rfl
theorem cT_1_50 : cT 1 50 = some (3, mX0_init) := rfl
theorem cT_4_122 : cT 4 122 = some (0, mX1_isUnder) := rfl
theorem cT_4_133 : cT 4 133 = some (1, mX4_isPay) := rfl
theorem cT_4_137 : cT 4 137 = some (0, mX1_has) := rfl
theorem cT_4_140 : cT 4 140 = some (0, mX1_mayPay) := rfl
theorem cT_4_143 : cT 4 143 = some (0, mX1_payAt) := rfl
theorem cT_4_146 : cT 4 146 = some (0, mX1_setPay) := rfl
theorem cT_4_149 : cT 4 149 = some (0, mX1_weightAt) := rfl
theorem cT_4_153 : cT 4 153 = some (0, mX1_sumOf) := rfl
theorem cT_4_156 : cT 4 156 = some (0, mX1_setWeight) := rfl
theorem cT_1_51 : cT 1 51 = some (0, mX1_has) := rfl
theorem cT_4_160 : cT 4 160 = some (0, mX4_worthOf) := rfl
theorem cT_4_233 : cT 4 233 = some (0, mX2_reckonWorths) := rfl
theorem cT_2_55 : cT 2 55 = some (0, mX2_valueOf) := rfl
theorem cT_2_29 : cT 2 29 = some (0, mX2_listStates) := rfl
theorem cT_2_33 : cT 2 33 = some (0, mX2_layRow) := rfl
theorem cT_2_75 : cT 2 75 = some (0, mX1_sumOf) := rfl
theorem cT_2_79 : cT 2 79 = some (0, mX1_weightAt) := rfl
theorem cT_2_83 : cT 2 83 = some (0, mX2_setCell) := rfl
theorem cT_2_87 : cT 2 87 = some (0, mX1_payAt) := rfl
theorem cT_2_37 : cT 2 37 = some (0, mX2_eliminate) := rfl
theorem cT_2_41 : cT 2 41 = some (0, mX2_cellAt) := rfl
theorem cT_2_45 : cT 2 45 = some (0, mX0_become) := rfl
theorem cT_0_16 : cT 0 16 = some (1, mJ9_abs_067f4) := rfl
theorem cT_0_22 : cT 0 22 = some (1, mX0_common) := rfl
theorem cT_2_59 : cT 2 59 = some (0, mX0_against) := rfl
theorem cT_0_26 : cT 0 26 = some (1, mX0_weigh) := rfl
theorem cT_0_30 : cT 0 30 = some (1, mJ9_floorDiv_f86c9) := rfl
theorem cT_2_63 : cT 2 63 = some (0, mX0_take) := rfl
theorem cT_2_67 : cT 2 67 = some (0, mX1_worthAt) := rfl
theorem cT_4_237 : cT 4 237 = some (0, mX1_worthAt) := rfl
theorem cT_4_164 : cT 4 164 = some (0, mX0_take) := rfl
theorem cT_4_168 : cT 4 168 = some (0, mX2_valueOf) := rfl
theorem cT_4_178 : cT 4 178 = some (0, mX4_rankOf) := rfl
theorem cT_4_182 : cT 4 182 = some (0, mX0_against) := rfl
theorem cT_4_188 : cT 4 188 = some (1, mX0_weigh) := rfl
theorem cT_4_192 : cT 4 192 = some (1, mX4_asAnswer) := rfl
theorem cT_4_195 : cT 4 195 = some (0, mX0_become) := rfl
theorem cT_4_199 : cT 4 199 = some (0, mX2_longestRow) := rfl
theorem cT_4_203 : cT 4 203 = some (0, mX4_bestMachine) := rfl
theorem cT_4_207 : cT 4 207 = some (0, mX4_workOnce) := rfl
theorem cT_4_241 : cT 4 241 = some (0, mX4_draw) := rfl
theorem cT_4_244 : cT 4 244 = some (0, mX1_goal) := rfl
theorem cT_1_55 : cT 1 55 = some (0, mX1_weightAt) := rfl
theorem cT_4_217 : cT 4 217 = some (1, mX4_mix) := rfl
theorem cT_4_221 : cT 4 221 = some (1, mX4_mixMachine) := rfl
theorem cT_4_225 : cT 4 225 = some (1, mX4_mixSheet) := rfl
theorem cT_5_81 : cT 5 81 = some (1, mX5_in) := rfl
theorem cT_5_96 : cT 5 96 = some (0, mX5_meets) := rfl
theorem cT_5_100 : cT 5 100 = some (0, mX5_isSheet) := rfl
theorem cT_5_104 : cT 5 104 = some (0, mX5_lacks) := rfl
theorem cT_5_114 : cT 5 114 = some (0, mX5_isMachine) := rfl
theorem cT_5_121 : cT 5 121 = some (0, mX5_isState) := rfl
theorem cT_5_125 : cT 5 125 = some (0, mX5_mayPay) := rfl
theorem cT_5_130 : cT 5 130 = some (0, mX5_isAgeing) := rfl
theorem cT_5_133 : cT 5 133 = some (0, mX5_sum) := rfl
theorem cT_5_172 : cT 5 172 = some (0, mX5_need) := rfl
theorem cT_5_175 : cT 5 175 = some (0, mX5_worthOf) := rfl
theorem cT_5_164 : cT 5 164 = some (0, mX5_value) := rfl
theorem cT_5_152 : cT 5 152 = some (0, mX5_layTable) := rfl
theorem cT_5_156 : cT 5 156 = some (0, mX5_determinant) := rfl
theorem cT_5_160 : cT 5 160 = some (0, mX5_fraction) := rfl
theorem cT_5_136 : cT 5 136 = some (1, mX5_gcd) := rfl
theorem cT_5_168 : cT 5 168 = some (1, mX5_compared) := rfl
theorem cT_5_149 : cT 5 149 = some (1, mX5_cutDown) := rfl
theorem cT_5_179 : cT 5 179 = some (0, mX5_tells) := rfl
theorem cT_5_185 : cT 5 185 = some (0, mX5_layWorths) := rfl
theorem cT_5_189 : cT 5 189 = some (0, mX5_between) := rfl
theorem cT_5_206 : cT 5 206 = some (0, mX5_works) := rfl
theorem cT_5_216 : cT 5 216 = some (0, mX5_best) := rfl
def fLst : List (Nat × Nat × (Nat × Nat × Nat × Bool)) := [(0, 7, (0, 0, 2, false)), (4, 172, (0, 0, 2, false)), (0, 13, (0, 1, 2, false)), (4, 175, (0, 1, 2, false)), (2, 11, (2, 0, 3, true)), (2, 15, (2, 1, 3, true)), (2, 22, (2, 2, 3, true)), (2, 26, (2, 3, 3, true)), (4, 11, (4, 0, 3, true)), (4, 17, (4, 1, 3, true)), (4, 24, (4, 2, 3, true)), (4, 31, (4, 3, 3, true)), (4, 35, (4, 4, 3, true)), (4, 39, (4, 5, 3, true)), (4, 42, (4, 6, 0, false)), (4, 46, (4, 7, 0, false)), (4, 49, (4, 8, 0, false)), (4, 52, (4, 9, 0, false)), (4, 55, (4, 10, 0, false)), (4, 58, (4, 11, 0, false)), (4, 61, (4, 12, 0, false)), (4, 64, (4, 13, 2, false)), (4, 68, (4, 14, 2, false)), (3, 15, (3, 0, 0, true)), (4, 105, (3, 0, 0, true)), (3, 28, (3, 1, 3, true)), (4, 108, (3, 1, 3, true)), (3, 9, (3, 2, 1, false)), (4, 90, (3, 2, 1, false)), (1, 22, (1, 0, 0, true)), (4, 126, (1, 0, 0, true)), (1, 34, (1, 1, 0, true)), (2, 49, (1, 1, 0, true)), (4, 127, (1, 1, 0, true)), (1, 37, (1, 2, 3, true)), (1, 41, (1, 3, 3, true)), (1, 46, (1, 4, 3, true)), (1, 9, (1, 5, 1, false)), (4, 75, (1, 5, 1, false)), (2, 71, (1, 5, 1, false)), (1, 15, (1, 6, 0, false)), (4, 130, (1, 6, 0, false)), (1, 19, (1, 7, 0, false)), (4, 212, (1, 7, 0, false)), (5, 76, (5, 0, 0, false)), (5, 7, (5, 1, 3, true)), (5, 62, (5, 2, 0, false)), (5, 66, (5, 3, 0, false)), (5, 91, (5, 4, 0, false)), (5, 13, (5, 5, 3, true)), (5, 16, (5, 6, 3, true)), (5, 19, (5, 7, 3, true)), (5, 108, (5, 8, 2, false)), (5, 23, (5, 9, 3, true)), (5, 111, (5, 10, 0, false)), (5, 26, (5, 11, 3, true)), (5, 29, (5, 12, 3, true)), (5, 32, (5, 13, 3, true)), (5, 35, (5, 14, 3, true)), (5, 38, (5, 15, 3, true)), (5, 41, (5, 16, 3, true)), (5, 140, (5, 17, 2, false)), (5, 143, (5, 18, 2, false)), (5, 146, (5, 19, 2, false)), (5, 72, (5, 20, 2, false)), (5, 44, (5, 21, 3, true)), (5, 47, (5, 22, 3, true)), (5, 50, (5, 23, 3, true)), (5, 53, (5, 24, 3, true)), (5, 56, (5, 25, 3, true)), (5, 69, (5, 26, 0, false)), (5, 196, (5, 27, 2, false)), (5, 213, (5, 28, 0, false)), (5, 59, (5, 29, 3, true))]
/-- how a class's constant links a field -/
def okF (c idx : Nat) (C k kd : Nat) (fin : Bool) : Prop := C < 6 ∧ k < clsF C ∧ (clsT C k).1 = clsN C ∧ (clsT C k).2.2.2 = fin ∧ ((kd = 0 ∧ clsY C k = .int) ∨ (kd = 1 ∧ clsY C k = .boolean) ∨ (kd = 2 ∧ clsY C k = .long) ∨ (kd = 3 ∧ ((∃ n, clsY C k = .object n) ∨ ∃ t, clsY C k = .array t))) ∧ (Cond.fieldLink (clsN c) idx (clsT C k).1 (clsT C k).2.1 (clsT C k).2.2.1 ∈ wAll ∨ c ≠ C ∧ ∃ host, Cond.fieldLinkNest (clsN c) idx (clsT C k).1 (clsT C k).2.1 (clsT C k).2.2.1 host ∈ nwF)
theorem okF_0_7 : okF 0 7 0 0 2 false := ⟨by decide, by decide, rfl, rfl, Or.inr (Or.inr (Or.inl ⟨rfl, rfl⟩)), Or.inl (mem_w (i := 65) (by decide +kernel) rfl)⟩
theorem okF_4_172 : okF 4 172 0 0 2 false := ⟨by decide, by decide, rfl, rfl, Or.inr (Or.inr (Or.inl ⟨rfl, rfl⟩)), Or.inr ⟨by decide, "TinkerTrials", List.mem_of_getElem? (i := 0) rfl⟩⟩
theorem okF_0_13 : okF 0 13 0 1 2 false := ⟨by decide, by decide, rfl, rfl, Or.inr (Or.inr (Or.inl ⟨rfl, rfl⟩)), Or.inl (mem_w (i := 67) (by decide +kernel) rfl)⟩
theorem okF_4_175 : okF 4 175 0 1 2 false := ⟨by decide, by decide, rfl, rfl, Or.inr (Or.inr (Or.inl ⟨rfl, rfl⟩)), Or.inr ⟨by decide, "TinkerTrials", List.mem_of_getElem? (i := 1) rfl⟩⟩
theorem okF_2_11 : okF 2 11 2 0 3 true := ⟨by decide, by decide, rfl, rfl, Or.inr (Or.inr (Or.inr ⟨rfl, Or.inr ⟨_, rfl⟩⟩)), Or.inl (mem_w (i := 76) (by decide +kernel) rfl)⟩
theorem okF_2_15 : okF 2 15 2 1 3 true := ⟨by decide, by decide, rfl, rfl, Or.inr (Or.inr (Or.inr ⟨rfl, Or.inr ⟨_, rfl⟩⟩)), Or.inl (mem_w (i := 77) (by decide +kernel) rfl)⟩
theorem okF_2_22 : okF 2 22 2 2 3 true := ⟨by decide, by decide, rfl, rfl, Or.inr (Or.inr (Or.inr ⟨rfl, Or.inl ⟨_, rfl⟩⟩)), Or.inl (mem_w (i := 78) (by decide +kernel) rfl)⟩
theorem okF_2_26 : okF 2 26 2 3 3 true := ⟨by decide, by decide, rfl, rfl, Or.inr (Or.inr (Or.inr ⟨rfl, Or.inl ⟨_, rfl⟩⟩)), Or.inl (mem_w (i := 79) (by decide +kernel) rfl)⟩
theorem okF_4_11 : okF 4 11 4 0 3 true := ⟨by decide, by decide, rfl, rfl, Or.inr (Or.inr (Or.inr ⟨rfl, Or.inr ⟨_, rfl⟩⟩)), Or.inl (mem_w (i := 91) (by decide +kernel) rfl)⟩
theorem okF_4_17 : okF 4 17 4 1 3 true := ⟨by decide, by decide, rfl, rfl, Or.inr (Or.inr (Or.inr ⟨rfl, Or.inr ⟨_, rfl⟩⟩)), Or.inl (mem_w (i := 92) (by decide +kernel) rfl)⟩
theorem okF_4_24 : okF 4 24 4 2 3 true := ⟨by decide, by decide, rfl, rfl, Or.inr (Or.inr (Or.inr ⟨rfl, Or.inl ⟨_, rfl⟩⟩)), Or.inl (mem_w (i := 93) (by decide +kernel) rfl)⟩
theorem okF_4_31 : okF 4 31 4 3 3 true := ⟨by decide, by decide, rfl, rfl, Or.inr (Or.inr (Or.inr ⟨rfl, Or.inl ⟨_, rfl⟩⟩)), Or.inl (mem_w (i := 94) (by decide +kernel) rfl)⟩
theorem okF_4_35 : okF 4 35 4 4 3 true := ⟨by decide, by decide, rfl, rfl, Or.inr (Or.inr (Or.inr ⟨rfl, Or.inr ⟨_, rfl⟩⟩)), Or.inl (mem_w (i := 95) (by decide +kernel) rfl)⟩
theorem okF_4_39 : okF 4 39 4 5 3 true := ⟨by decide, by decide, rfl, rfl, Or.inr (Or.inr (Or.inr ⟨rfl, Or.inr ⟨_, rfl⟩⟩)), Or.inl (mem_w (i := 96) (by decide +kernel) rfl)⟩
theorem okF_4_42 : okF 4 42 4 6 0 false := ⟨by decide, by decide, rfl, rfl, Or.inl ⟨rfl, rfl⟩, Or.inl (mem_w (i := 97) (by decide +kernel) rfl)⟩
theorem okF_4_46 : okF 4 46 4 7 0 false := ⟨by decide, by decide, rfl, rfl, Or.inl ⟨rfl, rfl⟩, Or.inl (mem_w (i := 98) (by decide +kernel) rfl)⟩
theorem okF_4_49 : okF 4 49 4 8 0 false := ⟨by decide, by decide, rfl, rfl, Or.inl ⟨rfl, rfl⟩, Or.inl (mem_w (i := 99) (by decide +kernel) rfl)⟩
theorem okF_4_52 : okF 4 52 4 9 0 false := ⟨by decide, by decide, rfl, rfl, Or.inl ⟨rfl, rfl⟩, Or.inl (mem_w (i := 100) (by decide +kernel) rfl)⟩
theorem okF_4_55 : okF 4 55 4 10 0 false := ⟨by decide, by decide, rfl, rfl, Or.inl ⟨rfl, rfl⟩, Or.inl (mem_w (i := 101) (by decide +kernel) rfl)⟩
theorem okF_4_58 : okF 4 58 4 11 0 false := ⟨by decide, by decide, rfl, rfl, Or.inl ⟨rfl, rfl⟩, Or.inl (mem_w (i := 102) (by decide +kernel) rfl)⟩
theorem okF_4_61 : okF 4 61 4 12 0 false := ⟨by decide, by decide, rfl, rfl, Or.inl ⟨rfl, rfl⟩, Or.inl (mem_w (i := 103) (by decide +kernel) rfl)⟩
theorem okF_4_64 : okF 4 64 4 13 2 false := ⟨by decide, by decide, rfl, rfl, Or.inr (Or.inr (Or.inl ⟨rfl, rfl⟩)), Or.inl (mem_w (i := 104) (by decide +kernel) rfl)⟩
theorem okF_4_68 : okF 4 68 4 14 2 false := ⟨by decide, by decide, rfl, rfl, Or.inr (Or.inr (Or.inl ⟨rfl, rfl⟩)), Or.inl (mem_w (i := 105) (by decide +kernel) rfl)⟩
theorem okF_3_15 : okF 3 15 3 0 0 true := ⟨by decide, by decide, rfl, rfl, Or.inl ⟨rfl, rfl⟩, Or.inl (mem_w (i := 164) (by decide +kernel) rfl)⟩
theorem okF_4_105 : okF 4 105 3 0 0 true := ⟨by decide, by decide, rfl, rfl, Or.inl ⟨rfl, rfl⟩, Or.inr ⟨by decide, "TinkerTrials", List.mem_of_getElem? (i := 2) rfl⟩⟩
theorem okF_3_28 : okF 3 28 3 1 3 true := ⟨by decide, by decide, rfl, rfl, Or.inr (Or.inr (Or.inr ⟨rfl, Or.inr ⟨_, rfl⟩⟩)), Or.inl (mem_w (i := 166) (by decide +kernel) rfl)⟩
theorem okF_4_108 : okF 4 108 3 1 3 true := ⟨by decide, by decide, rfl, rfl, Or.inr (Or.inr (Or.inr ⟨rfl, Or.inr ⟨_, rfl⟩⟩)), Or.inr ⟨by decide, "TinkerTrials", List.mem_of_getElem? (i := 3) rfl⟩⟩
theorem okF_3_9 : okF 3 9 3 2 1 false := ⟨by decide, by decide, rfl, rfl, Or.inr (Or.inl ⟨rfl, rfl⟩), Or.inl (mem_w (i := 168) (by decide +kernel) rfl)⟩
theorem okF_4_90 : okF 4 90 3 2 1 false := ⟨by decide, by decide, rfl, rfl, Or.inr (Or.inl ⟨rfl, rfl⟩), Or.inr ⟨by decide, "TinkerTrials", List.mem_of_getElem? (i := 4) rfl⟩⟩
theorem okF_1_22 : okF 1 22 1 0 0 true := ⟨by decide, by decide, rfl, rfl, Or.inl ⟨rfl, rfl⟩, Or.inl (mem_w (i := 233) (by decide +kernel) rfl)⟩
theorem okF_4_126 : okF 4 126 1 0 0 true := ⟨by decide, by decide, rfl, rfl, Or.inl ⟨rfl, rfl⟩, Or.inr ⟨by decide, "TinkerTrials", List.mem_of_getElem? (i := 5) rfl⟩⟩
theorem okF_1_34 : okF 1 34 1 1 0 true := ⟨by decide, by decide, rfl, rfl, Or.inl ⟨rfl, rfl⟩, Or.inl (mem_w (i := 235) (by decide +kernel) rfl)⟩
theorem okF_2_49 : okF 2 49 1 1 0 true := ⟨by decide, by decide, rfl, rfl, Or.inl ⟨rfl, rfl⟩, Or.inr ⟨by decide, "TinkerTrials", List.mem_of_getElem? (i := 6) rfl⟩⟩
theorem okF_4_127 : okF 4 127 1 1 0 true := ⟨by decide, by decide, rfl, rfl, Or.inl ⟨rfl, rfl⟩, Or.inr ⟨by decide, "TinkerTrials", List.mem_of_getElem? (i := 7) rfl⟩⟩
theorem okF_1_37 : okF 1 37 1 2 3 true := ⟨by decide, by decide, rfl, rfl, Or.inr (Or.inr (Or.inr ⟨rfl, Or.inr ⟨_, rfl⟩⟩)), Or.inl (mem_w (i := 238) (by decide +kernel) rfl)⟩
theorem okF_1_41 : okF 1 41 1 3 3 true := ⟨by decide, by decide, rfl, rfl, Or.inr (Or.inr (Or.inr ⟨rfl, Or.inr ⟨_, rfl⟩⟩)), Or.inl (mem_w (i := 239) (by decide +kernel) rfl)⟩
theorem okF_1_46 : okF 1 46 1 4 3 true := ⟨by decide, by decide, rfl, rfl, Or.inr (Or.inr (Or.inr ⟨rfl, Or.inr ⟨_, rfl⟩⟩)), Or.inl (mem_w (i := 240) (by decide +kernel) rfl)⟩
theorem okF_1_9 : okF 1 9 1 5 1 false := ⟨by decide, by decide, rfl, rfl, Or.inr (Or.inl ⟨rfl, rfl⟩), Or.inl (mem_w (i := 241) (by decide +kernel) rfl)⟩
theorem okF_4_75 : okF 4 75 1 5 1 false := ⟨by decide, by decide, rfl, rfl, Or.inr (Or.inl ⟨rfl, rfl⟩), Or.inr ⟨by decide, "TinkerTrials", List.mem_of_getElem? (i := 8) rfl⟩⟩
theorem okF_2_71 : okF 2 71 1 5 1 false := ⟨by decide, by decide, rfl, rfl, Or.inr (Or.inl ⟨rfl, rfl⟩), Or.inr ⟨by decide, "TinkerTrials", List.mem_of_getElem? (i := 9) rfl⟩⟩
theorem okF_1_15 : okF 1 15 1 6 0 false := ⟨by decide, by decide, rfl, rfl, Or.inl ⟨rfl, rfl⟩, Or.inl (mem_w (i := 244) (by decide +kernel) rfl)⟩
theorem okF_4_130 : okF 4 130 1 6 0 false := ⟨by decide, by decide, rfl, rfl, Or.inl ⟨rfl, rfl⟩, Or.inr ⟨by decide, "TinkerTrials", List.mem_of_getElem? (i := 10) rfl⟩⟩
theorem okF_1_19 : okF 1 19 1 7 0 false := ⟨by decide, by decide, rfl, rfl, Or.inl ⟨rfl, rfl⟩, Or.inl (mem_w (i := 246) (by decide +kernel) rfl)⟩
theorem okF_4_212 : okF 4 212 1 7 0 false := ⟨by decide, by decide, rfl, rfl, Or.inl ⟨rfl, rfl⟩, Or.inr ⟨by decide, "TinkerTrials", List.mem_of_getElem? (i := 11) rfl⟩⟩
theorem okF_5_76 : okF 5 76 5 0 0 false := ⟨by decide, by decide, rfl, rfl, Or.inl ⟨rfl, rfl⟩, Or.inl (mem_w (i := 553) (by decide +kernel) rfl)⟩
theorem okF_5_7 : okF 5 7 5 1 3 true := ⟨by decide, by decide, rfl, rfl, Or.inr (Or.inr (Or.inr ⟨rfl, Or.inr ⟨_, rfl⟩⟩)), Or.inl (mem_w (i := 554) (by decide +kernel) rfl)⟩
theorem okF_5_62 : okF 5 62 5 2 0 false := ⟨by decide, by decide, rfl, rfl, Or.inl ⟨rfl, rfl⟩, Or.inl (mem_w (i := 555) (by decide +kernel) rfl)⟩
theorem okF_5_66 : okF 5 66 5 3 0 false := ⟨by decide, by decide, rfl, rfl, Or.inl ⟨rfl, rfl⟩, Or.inl (mem_w (i := 556) (by decide +kernel) rfl)⟩
theorem okF_5_91 : okF 5 91 5 4 0 false := ⟨by decide, by decide, rfl, rfl, Or.inl ⟨rfl, rfl⟩, Or.inl (mem_w (i := 557) (by decide +kernel) rfl)⟩
theorem okF_5_13 : okF 5 13 5 5 3 true := ⟨by decide, by decide, rfl, rfl, Or.inr (Or.inr (Or.inr ⟨rfl, Or.inr ⟨_, rfl⟩⟩)), Or.inl (mem_w (i := 558) (by decide +kernel) rfl)⟩
theorem okF_5_16 : okF 5 16 5 6 3 true := ⟨by decide, by decide, rfl, rfl, Or.inr (Or.inr (Or.inr ⟨rfl, Or.inr ⟨_, rfl⟩⟩)), Or.inl (mem_w (i := 559) (by decide +kernel) rfl)⟩
theorem okF_5_19 : okF 5 19 5 7 3 true := ⟨by decide, by decide, rfl, rfl, Or.inr (Or.inr (Or.inr ⟨rfl, Or.inr ⟨_, rfl⟩⟩)), Or.inl (mem_w (i := 560) (by decide +kernel) rfl)⟩
theorem okF_5_108 : okF 5 108 5 8 2 false := ⟨by decide, by decide, rfl, rfl, Or.inr (Or.inr (Or.inl ⟨rfl, rfl⟩)), Or.inl (mem_w (i := 561) (by decide +kernel) rfl)⟩
theorem okF_5_23 : okF 5 23 5 9 3 true := ⟨by decide, by decide, rfl, rfl, Or.inr (Or.inr (Or.inr ⟨rfl, Or.inr ⟨_, rfl⟩⟩)), Or.inl (mem_w (i := 562) (by decide +kernel) rfl)⟩
theorem okF_5_111 : okF 5 111 5 10 0 false := ⟨by decide, by decide, rfl, rfl, Or.inl ⟨rfl, rfl⟩, Or.inl (mem_w (i := 563) (by decide +kernel) rfl)⟩
theorem okF_5_26 : okF 5 26 5 11 3 true := ⟨by decide, by decide, rfl, rfl, Or.inr (Or.inr (Or.inr ⟨rfl, Or.inr ⟨_, rfl⟩⟩)), Or.inl (mem_w (i := 564) (by decide +kernel) rfl)⟩
theorem okF_5_29 : okF 5 29 5 12 3 true := ⟨by decide, by decide, rfl, rfl, Or.inr (Or.inr (Or.inr ⟨rfl, Or.inr ⟨_, rfl⟩⟩)), Or.inl (mem_w (i := 565) (by decide +kernel) rfl)⟩
theorem okF_5_32 : okF 5 32 5 13 3 true := ⟨by decide, by decide, rfl, rfl, Or.inr (Or.inr (Or.inr ⟨rfl, Or.inr ⟨_, rfl⟩⟩)), Or.inl (mem_w (i := 566) (by decide +kernel) rfl)⟩
theorem okF_5_35 : okF 5 35 5 14 3 true := ⟨by decide, by decide, rfl, rfl, Or.inr (Or.inr (Or.inr ⟨rfl, Or.inr ⟨_, rfl⟩⟩)), Or.inl (mem_w (i := 567) (by decide +kernel) rfl)⟩
theorem okF_5_38 : okF 5 38 5 15 3 true := ⟨by decide, by decide, rfl, rfl, Or.inr (Or.inr (Or.inr ⟨rfl, Or.inr ⟨_, rfl⟩⟩)), Or.inl (mem_w (i := 568) (by decide +kernel) rfl)⟩
theorem okF_5_41 : okF 5 41 5 16 3 true := ⟨by decide, by decide, rfl, rfl, Or.inr (Or.inr (Or.inr ⟨rfl, Or.inr ⟨_, rfl⟩⟩)), Or.inl (mem_w (i := 569) (by decide +kernel) rfl)⟩
theorem okF_5_140 : okF 5 140 5 17 2 false := ⟨by decide, by decide, rfl, rfl, Or.inr (Or.inr (Or.inl ⟨rfl, rfl⟩)), Or.inl (mem_w (i := 570) (by decide +kernel) rfl)⟩
theorem okF_5_143 : okF 5 143 5 18 2 false := ⟨by decide, by decide, rfl, rfl, Or.inr (Or.inr (Or.inl ⟨rfl, rfl⟩)), Or.inl (mem_w (i := 571) (by decide +kernel) rfl)⟩
theorem okF_5_146 : okF 5 146 5 19 2 false := ⟨by decide, by decide, rfl, rfl, Or.inr (Or.inr (Or.inl ⟨rfl, rfl⟩)), Or.inl (mem_w (i := 572) (by decide +kernel) rfl)⟩
theorem okF_5_72 : okF 5 72 5 20 2 false := ⟨by decide, by decide, rfl, rfl, Or.inr (Or.inr (Or.inl ⟨rfl, rfl⟩)), Or.inl (mem_w (i := 573) (by decide +kernel) rfl)⟩
theorem okF_5_44 : okF 5 44 5 21 3 true := ⟨by decide, by decide, rfl, rfl, Or.inr (Or.inr (Or.inr ⟨rfl, Or.inr ⟨_, rfl⟩⟩)), Or.inl (mem_w (i := 574) (by decide +kernel) rfl)⟩
theorem okF_5_47 : okF 5 47 5 22 3 true := ⟨by decide, by decide, rfl, rfl, Or.inr (Or.inr (Or.inr ⟨rfl, Or.inr ⟨_, rfl⟩⟩)), Or.inl (mem_w (i := 575) (by decide +kernel) rfl)⟩
theorem okF_5_50 : okF 5 50 5 23 3 true := ⟨by decide, by decide, rfl, rfl, Or.inr (Or.inr (Or.inr ⟨rfl, Or.inr ⟨_, rfl⟩⟩)), Or.inl (mem_w (i := 576) (by decide +kernel) rfl)⟩
theorem okF_5_53 : okF 5 53 5 24 3 true := ⟨by decide, by decide, rfl, rfl, Or.inr (Or.inr (Or.inr ⟨rfl, Or.inr ⟨_, rfl⟩⟩)), Or.inl (mem_w (i := 577) (by decide +kernel) rfl)⟩
theorem okF_5_56 : okF 5 56 5 25 3 true := ⟨by decide, by decide, rfl, rfl, Or.inr (Or.inr (Or.inr ⟨rfl, Or.inr ⟨_, rfl⟩⟩)), Or.inl (mem_w (i := 578) (by decide +kernel) rfl)⟩
theorem okF_5_69 : okF 5 69 5 26 0 false := ⟨by decide, by decide, rfl, rfl, Or.inl ⟨rfl, rfl⟩, Or.inl (mem_w (i := 579) (by decide +kernel) rfl)⟩
theorem okF_5_196 : okF 5 196 5 27 2 false := ⟨by decide, by decide, rfl, rfl, Or.inr (Or.inr (Or.inl ⟨rfl, rfl⟩)), Or.inl (mem_w (i := 580) (by decide +kernel) rfl)⟩
theorem okF_5_213 : okF 5 213 5 28 0 false := ⟨by decide, by decide, rfl, rfl, Or.inl ⟨rfl, rfl⟩, Or.inl (mem_w (i := 581) (by decide +kernel) rfl)⟩
theorem okF_5_59 : okF 5 59 5 29 3 true := ⟨by decide, by decide, rfl, rfl, Or.inr (Or.inr (Or.inr ⟨rfl, Or.inr ⟨_, rfl⟩⟩)), Or.inl (mem_w (i := 582) (by decide +kernel) rfl)⟩
theorem fLst_ok : ∀ q ∈ fLst, okF q.1 q.2.1 q.2.2.1 q.2.2.2.1 q.2.2.2.2.1 q.2.2.2.2.2 := by
  intro q hq
  simp only [fLst, List.mem_cons, List.not_mem_nil, or_false] at hq
  rcases hq with rfl | rfl | rfl | rfl | rfl | rfl | rfl | rfl | rfl | rfl | rfl | rfl | rfl | rfl | rfl | rfl | rfl | rfl | rfl | rfl | rfl | rfl | rfl | rfl | rfl | rfl | rfl | rfl | rfl | rfl | rfl | rfl | rfl | rfl | rfl | rfl | rfl | rfl | rfl | rfl | rfl | rfl | rfl | rfl | rfl | rfl | rfl | rfl | rfl | rfl | rfl | rfl | rfl | rfl | rfl | rfl | rfl | rfl | rfl | rfl | rfl | rfl | rfl | rfl | rfl | rfl | rfl | rfl | rfl | rfl | rfl | rfl | rfl | rfl
  · exact okF_0_7
  · exact okF_4_172
  · exact okF_0_13
  · exact okF_4_175
  · exact okF_2_11
  · exact okF_2_15
  · exact okF_2_22
  · exact okF_2_26
  · exact okF_4_11
  · exact okF_4_17
  · exact okF_4_24
  · exact okF_4_31
  · exact okF_4_35
  · exact okF_4_39
  · exact okF_4_42
  · exact okF_4_46
  · exact okF_4_49
  · exact okF_4_52
  · exact okF_4_55
  · exact okF_4_58
  · exact okF_4_61
  · exact okF_4_64
  · exact okF_4_68
  · exact okF_3_15
  · exact okF_4_105
  · exact okF_3_28
  · exact okF_4_108
  · exact okF_3_9
  · exact okF_4_90
  · exact okF_1_22
  · exact okF_4_126
  · exact okF_1_34
  · exact okF_2_49
  · exact okF_4_127
  · exact okF_1_37
  · exact okF_1_41
  · exact okF_1_46
  · exact okF_1_9
  · exact okF_4_75
  · exact okF_2_71
  · exact okF_1_15
  · exact okF_4_130
  · exact okF_1_19
  · exact okF_4_212
  · exact okF_5_76
  · exact okF_5_7
  · exact okF_5_62
  · exact okF_5_66
  · exact okF_5_91
  · exact okF_5_13
  · exact okF_5_16
  · exact okF_5_19
  · exact okF_5_108
  · exact okF_5_23
  · exact okF_5_111
  · exact okF_5_26
  · exact okF_5_29
  · exact okF_5_32
  · exact okF_5_35
  · exact okF_5_38
  · exact okF_5_41
  · exact okF_5_140
  · exact okF_5_143
  · exact okF_5_146
  · exact okF_5_72
  · exact okF_5_44
  · exact okF_5_47
  · exact okF_5_50
  · exact okF_5_53
  · exact okF_5_56
  · exact okF_5_69
  · exact okF_5_196
  · exact okF_5_213
  · exact okF_5_59
def fT (c idx : Nat) : Option (Nat × Nat × Nat × Bool) := lk fLst c idx
theorem fT_0_7 : fT 0 7 = some (0, 0, 2, false) := rfl
theorem fT_4_172 : fT 4 172 = some (0, 0, 2, false) := rfl
theorem fT_0_13 : fT 0 13 = some (0, 1, 2, false) := rfl
theorem fT_4_175 : fT 4 175 = some (0, 1, 2, false) := rfl
theorem fT_2_11 : fT 2 11 = some (2, 0, 3, true) := rfl
theorem fT_2_15 : fT 2 15 = some (2, 1, 3, true) := rfl
theorem fT_2_22 : fT 2 22 = some (2, 2, 3, true) := rfl
theorem fT_2_26 : fT 2 26 = some (2, 3, 3, true) := rfl
theorem fT_4_11 : fT 4 11 = some (4, 0, 3, true) := rfl
theorem fT_4_17 : fT 4 17 = some (4, 1, 3, true) := rfl
theorem fT_4_24 : fT 4 24 = some (4, 2, 3, true) := rfl
theorem fT_4_31 : fT 4 31 = some (4, 3, 3, true) := rfl
theorem fT_4_35 : fT 4 35 = some (4, 4, 3, true) := rfl
theorem fT_4_39 : fT 4 39 = some (4, 5, 3, true) := rfl
theorem fT_4_42 : fT 4 42 = some (4, 6, 0, false) := rfl
theorem fT_4_46 : fT 4 46 = some (4, 7, 0, false) := rfl
theorem fT_4_49 : fT 4 49 = some (4, 8, 0, false) := rfl
theorem fT_4_52 : fT 4 52 = some (4, 9, 0, false) := rfl
theorem fT_4_55 : fT 4 55 = some (4, 10, 0, false) := rfl
theorem fT_4_58 : fT 4 58 = some (4, 11, 0, false) := rfl
theorem fT_4_61 : fT 4 61 = some (4, 12, 0, false) := rfl
theorem fT_4_64 : fT 4 64 = some (4, 13, 2, false) := rfl
theorem fT_4_68 : fT 4 68 = some (4, 14, 2, false) := rfl
theorem fT_3_15 : fT 3 15 = some (3, 0, 0, true) := rfl
theorem fT_4_105 : fT 4 105 = some (3, 0, 0, true) := rfl
theorem fT_3_28 : fT 3 28 = some (3, 1, 3, true) := rfl
theorem fT_4_108 : fT 4 108 = some (3, 1, 3, true) := rfl
theorem fT_3_9 : fT 3 9 = some (3, 2, 1, false) := rfl
theorem fT_4_90 : fT 4 90 = some (3, 2, 1, false) := rfl
theorem fT_1_22 : fT 1 22 = some (1, 0, 0, true) := rfl
theorem fT_4_126 : fT 4 126 = some (1, 0, 0, true) := rfl
theorem fT_1_34 : fT 1 34 = some (1, 1, 0, true) := rfl
theorem fT_2_49 : fT 2 49 = some (1, 1, 0, true) := rfl
theorem fT_4_127 : fT 4 127 = some (1, 1, 0, true) := rfl
theorem fT_1_37 : fT 1 37 = some (1, 2, 3, true) := rfl
theorem fT_1_41 : fT 1 41 = some (1, 3, 3, true) := rfl
theorem fT_1_46 : fT 1 46 = some (1, 4, 3, true) := rfl
theorem fT_1_9 : fT 1 9 = some (1, 5, 1, false) := rfl
theorem fT_4_75 : fT 4 75 = some (1, 5, 1, false) := rfl
theorem fT_2_71 : fT 2 71 = some (1, 5, 1, false) := rfl
theorem fT_1_15 : fT 1 15 = some (1, 6, 0, false) := rfl
theorem fT_4_130 : fT 4 130 = some (1, 6, 0, false) := rfl
theorem fT_1_19 : fT 1 19 = some (1, 7, 0, false) := rfl
theorem fT_4_212 : fT 4 212 = some (1, 7, 0, false) := rfl
theorem fT_5_76 : fT 5 76 = some (5, 0, 0, false) := rfl
theorem fT_5_7 : fT 5 7 = some (5, 1, 3, true) := rfl
theorem fT_5_62 : fT 5 62 = some (5, 2, 0, false) := rfl
theorem fT_5_66 : fT 5 66 = some (5, 3, 0, false) := rfl
theorem fT_5_91 : fT 5 91 = some (5, 4, 0, false) := rfl
theorem fT_5_13 : fT 5 13 = some (5, 5, 3, true) := rfl
theorem fT_5_16 : fT 5 16 = some (5, 6, 3, true) := rfl
theorem fT_5_19 : fT 5 19 = some (5, 7, 3, true) := rfl
theorem fT_5_108 : fT 5 108 = some (5, 8, 2, false) := rfl
theorem fT_5_23 : fT 5 23 = some (5, 9, 3, true) := rfl
theorem fT_5_111 : fT 5 111 = some (5, 10, 0, false) := rfl
theorem fT_5_26 : fT 5 26 = some (5, 11, 3, true) := rfl
theorem fT_5_29 : fT 5 29 = some (5, 12, 3, true) := rfl
theorem fT_5_32 : fT 5 32 = some (5, 13, 3, true) := rfl
theorem fT_5_35 : fT 5 35 = some (5, 14, 3, true) := rfl
theorem fT_5_38 : fT 5 38 = some (5, 15, 3, true) := rfl
theorem fT_5_41 : fT 5 41 = some (5, 16, 3, true) := rfl
theorem fT_5_140 : fT 5 140 = some (5, 17, 2, false) := rfl
theorem fT_5_143 : fT 5 143 = some (5, 18, 2, false) := rfl
theorem fT_5_146 : fT 5 146 = some (5, 19, 2, false) := rfl
theorem fT_5_72 : fT 5 72 = some (5, 20, 2, false) := rfl
theorem fT_5_44 : fT 5 44 = some (5, 21, 3, true) := rfl
theorem fT_5_47 : fT 5 47 = some (5, 22, 3, true) := rfl
theorem fT_5_50 : fT 5 50 = some (5, 23, 3, true) := rfl
theorem fT_5_53 : fT 5 53 = some (5, 24, 3, true) := rfl
theorem fT_5_56 : fT 5 56 = some (5, 25, 3, true) := rfl
theorem fT_5_69 : fT 5 69 = some (5, 26, 0, false) := rfl
theorem fT_5_196 : fT 5 196 = some (5, 27, 2, false) := rfl
theorem fT_5_213 : fT 5 213 = some (5, 28, 0, false) := rfl
theorem fT_5_59 : fT 5 59 = some (5, 29, 3, true) := rfl
def kILst : List (Nat × Nat × Int) := [(4, 186, -1000000), (4, 187, 1000000), (4, 253, 65536), (4, 211, -1000004), (5, 205, 65536), (5, 211, -1000000), (5, 212, -1000004)]
theorem kILst_ok : ∀ q ∈ kILst, Cond.constant (clsN q.1) q.2.1 (Int32.ofInt q.2.2) ∈ wAll ∧ (Int32.ofInt q.2.2).toInt = q.2.2 := by
  intro q hq
  simp only [kILst, List.mem_cons, List.not_mem_nil, or_false] at hq
  rcases hq with rfl | rfl | rfl | rfl | rfl | rfl | rfl
  · exact ⟨mem_w (i := 430) (by decide +kernel) rfl, by decide +kernel⟩
  · exact ⟨mem_w (i := 431) (by decide +kernel) rfl, by decide +kernel⟩
  · exact ⟨mem_w (i := 488) (by decide +kernel) rfl, by decide +kernel⟩
  · exact ⟨mem_w (i := 498) (by decide +kernel) rfl, by decide +kernel⟩
  · exact ⟨mem_w (i := 870) (by decide +kernel) rfl, by decide +kernel⟩
  · exact ⟨mem_w (i := 876) (by decide +kernel) rfl, by decide +kernel⟩
  · exact ⟨mem_w (i := 877) (by decide +kernel) rfl, by decide +kernel⟩
theorem kI_4_186 : lk kILst 4 186 = some (-1000000) := rfl
theorem kI_4_187 : lk kILst 4 187 = some (1000000) := rfl
theorem kI_4_253 : lk kILst 4 253 = some (65536) := rfl
theorem kI_4_211 : lk kILst 4 211 = some (-1000004) := rfl
theorem kI_5_205 : lk kILst 5 205 = some (65536) := rfl
theorem kI_5_211 : lk kILst 5 211 = some (-1000000) := rfl
theorem kI_5_212 : lk kILst 5 212 = some (-1000004) := rfl
def kJLst : List (Nat × Nat × Int) := [(4, 229, -50), (4, 231, 50), (4, 247, 1103515245), (4, 249, 12345), (4, 251, 2147483647), (4, 215, 17), (4, 254, 31), (4, 256, -1), (5, 79, 6), (5, 85, 7), (5, 87, 2), (5, 89, 8), (5, 94, 3), (5, 117, -50), (5, 119, 50), (5, 128, 10), (5, 183, 31), (5, 192, -1000000), (5, 194, 1000000), (5, 199, 1103515245), (5, 201, 12345), (5, 203, 2147483648), (5, 209, 500), (5, 219, 527)]
theorem kJLst_ok : ∀ q ∈ kJLst, Cond.constantLong (clsN q.1) q.2.1 (Int64.ofInt q.2.2) ∈ wAll ∧ (Int64.ofInt q.2.2).toInt = q.2.2 := by
  intro q hq
  simp only [kJLst, List.mem_cons, List.not_mem_nil, or_false] at hq
  rcases hq with rfl | rfl | rfl | rfl | rfl | rfl | rfl | rfl | rfl | rfl | rfl | rfl | rfl | rfl | rfl | rfl | rfl | rfl | rfl | rfl | rfl | rfl | rfl | rfl
  · exact ⟨mem_w (i := 284) (by decide +kernel) rfl, by decide +kernel⟩
  · exact ⟨mem_w (i := 285) (by decide +kernel) rfl, by decide +kernel⟩
  · exact ⟨mem_w (i := 485) (by decide +kernel) rfl, by decide +kernel⟩
  · exact ⟨mem_w (i := 486) (by decide +kernel) rfl, by decide +kernel⟩
  · exact ⟨mem_w (i := 487) (by decide +kernel) rfl, by decide +kernel⟩
  · exact ⟨mem_w (i := 535) (by decide +kernel) rfl, by decide +kernel⟩
  · exact ⟨mem_w (i := 539) (by decide +kernel) rfl, by decide +kernel⟩
  · exact ⟨mem_w (i := 546) (by decide +kernel) rfl, by decide +kernel⟩
  · exact ⟨mem_w (i := 652) (by decide +kernel) rfl, by decide +kernel⟩
  · exact ⟨mem_w (i := 660) (by decide +kernel) rfl, by decide +kernel⟩
  · exact ⟨mem_w (i := 661) (by decide +kernel) rfl, by decide +kernel⟩
  · exact ⟨mem_w (i := 662) (by decide +kernel) rfl, by decide +kernel⟩
  · exact ⟨mem_w (i := 667) (by decide +kernel) rfl, by decide +kernel⟩
  · exact ⟨mem_w (i := 716) (by decide +kernel) rfl, by decide +kernel⟩
  · exact ⟨mem_w (i := 717) (by decide +kernel) rfl, by decide +kernel⟩
  · exact ⟨mem_w (i := 730) (by decide +kernel) rfl, by decide +kernel⟩
  · exact ⟨mem_w (i := 808) (by decide +kernel) rfl, by decide +kernel⟩
  · exact ⟨mem_w (i := 829) (by decide +kernel) rfl, by decide +kernel⟩
  · exact ⟨mem_w (i := 830) (by decide +kernel) rfl, by decide +kernel⟩
  · exact ⟨mem_w (i := 867) (by decide +kernel) rfl, by decide +kernel⟩
  · exact ⟨mem_w (i := 868) (by decide +kernel) rfl, by decide +kernel⟩
  · exact ⟨mem_w (i := 869) (by decide +kernel) rfl, by decide +kernel⟩
  · exact ⟨mem_w (i := 875) (by decide +kernel) rfl, by decide +kernel⟩
  · exact ⟨mem_w (i := 903) (by decide +kernel) rfl, by decide +kernel⟩
theorem kJ_4_229 : lk kJLst 4 229 = some (-50) := rfl
theorem kJ_4_231 : lk kJLst 4 231 = some (50) := rfl
theorem kJ_4_247 : lk kJLst 4 247 = some (1103515245) := rfl
theorem kJ_4_249 : lk kJLst 4 249 = some (12345) := rfl
theorem kJ_4_251 : lk kJLst 4 251 = some (2147483647) := rfl
theorem kJ_4_215 : lk kJLst 4 215 = some (17) := rfl
theorem kJ_4_254 : lk kJLst 4 254 = some (31) := rfl
theorem kJ_4_256 : lk kJLst 4 256 = some (-1) := rfl
theorem kJ_5_79 : lk kJLst 5 79 = some (6) := rfl
theorem kJ_5_85 : lk kJLst 5 85 = some (7) := rfl
theorem kJ_5_87 : lk kJLst 5 87 = some (2) := rfl
theorem kJ_5_89 : lk kJLst 5 89 = some (8) := rfl
theorem kJ_5_94 : lk kJLst 5 94 = some (3) := rfl
theorem kJ_5_117 : lk kJLst 5 117 = some (-50) := rfl
theorem kJ_5_119 : lk kJLst 5 119 = some (50) := rfl
theorem kJ_5_128 : lk kJLst 5 128 = some (10) := rfl
theorem kJ_5_183 : lk kJLst 5 183 = some (31) := rfl
theorem kJ_5_192 : lk kJLst 5 192 = some (-1000000) := rfl
theorem kJ_5_194 : lk kJLst 5 194 = some (1000000) := rfl
theorem kJ_5_199 : lk kJLst 5 199 = some (1103515245) := rfl
theorem kJ_5_201 : lk kJLst 5 201 = some (12345) := rfl
theorem kJ_5_203 : lk kJLst 5 203 = some (2147483648) := rfl
theorem kJ_5_209 : lk kJLst 5 209 = some (500) := rfl
theorem kJ_5_219 : lk kJLst 5 219 = some (527) := rfl
def nLst : List (Nat × Nat × Nat) := [(4, 9, 1), (4, 15, 3), (4, 21, 2), (4, 28, 0), (1, 44, 0), (2, 19, 0)]
theorem nLst_ok : ∀ q ∈ nLst, q.2.2 < 6 ∧ Cond.classLink (clsN q.1) q.2.1 (clsN q.2.2) ∈ wAll ∧ Cond.instantiable (clsN q.2.2) (clsF q.2.2) ∈ wAll ∧ Cond.initialized (clsN q.2.2) ∈ wAll := by
  intro q hq
  simp only [nLst, List.mem_cons, List.not_mem_nil, or_false] at hq
  rcases hq with rfl | rfl | rfl | rfl | rfl | rfl
  · exact ⟨by decide, mem_w (i := 49) (by decide +kernel) rfl, mem_w (i := 223) (by decide +kernel) rfl, mem_w (i := 40) (by decide +kernel) rfl⟩
  · exact ⟨by decide, mem_w (i := 51) (by decide +kernel) rfl, mem_w (i := 153) (by decide +kernel) rfl, mem_w (i := 37) (by decide +kernel) rfl⟩
  · exact ⟨by decide, mem_w (i := 53) (by decide +kernel) rfl, mem_w (i := 54) (by decide +kernel) rfl, mem_w (i := 34) (by decide +kernel) rfl⟩
  · exact ⟨by decide, mem_w (i := 89) (by decide +kernel) rfl, mem_w (i := 60) (by decide +kernel) rfl, mem_w (i := 35) (by decide +kernel) rfl⟩
  · exact ⟨by decide, mem_w (i := 230) (by decide +kernel) rfl, mem_w (i := 60) (by decide +kernel) rfl, mem_w (i := 35) (by decide +kernel) rfl⟩
  · exact ⟨by decide, mem_w (i := 59) (by decide +kernel) rfl, mem_w (i := 60) (by decide +kernel) rfl, mem_w (i := 35) (by decide +kernel) rfl⟩
theorem nT_4_9 : lk nLst 4 9 = some 1 := rfl
theorem nT_4_15 : lk nLst 4 15 = some 3 := rfl
theorem nT_4_21 : lk nLst 4 21 = some 2 := rfl
theorem nT_4_28 : lk nLst 4 28 = some 0 := rfl
theorem nT_1_44 : lk nLst 1 44 = some 0 := rfl
theorem nT_2_19 : lk nLst 2 19 = some 0 := rfl
def arrN : Nat → String := fun t => match t with
  | 12 => RX1
  | 13 => RX3
  | _ => RX0
def aLst : List (Nat × Nat × Nat) := [(4, 9, 12), (4, 15, 13), (1, 44, 14)]
theorem aLst_ok : ∀ q ∈ aLst, 12 ≤ q.2.2 ∧ q.2.2 ≤ 14 ∧ Cond.classLink (clsN q.1) q.2.1 (arrN q.2.2) ∈ wAll := by
  intro q hq
  simp only [aLst, List.mem_cons, List.not_mem_nil, or_false] at hq
  rcases hq with rfl | rfl | rfl
  · exact ⟨by decide, by decide, mem_w (i := 49) (by decide +kernel) rfl⟩
  · exact ⟨by decide, by decide, mem_w (i := 51) (by decide +kernel) rfl⟩
  · exact ⟨by decide, by decide, mem_w (i := 230) (by decide +kernel) rfl⟩
theorem aT_4_9 : lk aLst 4 9 = some 12 := rfl
theorem aT_4_15 : lk aLst 4 15 = some 13 := rfl
theorem aT_1_44 : lk aLst 1 44 = some 14 := rfl
def oLst : List (Nat × Nat × Unit) := [(4, 1, ()), (2, 3, ()), (0, 1, ()), (3, 3, ()), (1, 3, ()), (5, 1, ())]
theorem oLst_ok : ∀ q ∈ oLst, Cond.methodLink (clsN q.1) q.2.1 Lib.objectInit ∈ wAll := by
  intro q hq
  simp only [oLst, List.mem_cons, List.not_mem_nil, or_false] at hq
  rcases hq with rfl | rfl | rfl | rfl | rfl | rfl
  · exact mem_w (i := 46) (by decide +kernel) rfl
  · exact mem_w (i := 58) (by decide +kernel) rfl
  · exact mem_w (i := 64) (by decide +kernel) rfl
  · exact mem_w (i := 157) (by decide +kernel) rfl
  · exact mem_w (i := 227) (by decide +kernel) rfl
  · exact mem_w (i := 552) (by decide +kernel) rfl
theorem objI_w : Cond.instanceMethod Lib.objectInit ∈ wAll := mem_w (i := 47) (by decide +kernel) rfl
theorem objC_w : Cond.code Lib.objectInit ⟨#[0xb1]⟩ 1 none ∈ wAll := mem_w (i := 48) (by decide +kernel) rfl
theorem oT_4_1 : lk oLst 4 1 = some () := rfl
theorem oT_2_3 : lk oLst 2 3 = some () := rfl
theorem oT_0_1 : lk oLst 0 1 = some () := rfl
theorem oT_3_3 : lk oLst 3 3 = some () := rfl
theorem oT_1_3 : lk oLst 1 3 = some () := rfl
theorem oT_5_1 : lk oLst 5 1 = some () := rfl
-- arraycopy: [(4, 112, 213)]
theorem acp_w : Cond.methodLink (clsN 4) 112 arraycopyName ∈ wAll ∧ Cond.native arraycopyName ∈ wAll ∧ Cond.static arraycopyName ∈ wAll ∧ Cond.initialized "java/lang/System" ∈ wAll := ⟨mem_w (i := 213) (by decide +kernel) rfl, mem_w (i := 215) (by decide +kernel) rfl, mem_w (i := 214) (by decide +kernel) rfl, mem_w (i := 39) (by decide +kernel) rfl⟩
theorem arI_w : Cond.arrayClass .int ∈ wAll := mem_w (i := 75) (by decide +kernel) rfl
theorem arJ_w : Cond.arrayClass .long ∈ wAll := mem_w (i := 74) (by decide +kernel) rfl
theorem arO_in : ([.arrayOver (.object RX1), .arrayOver (.object RX3), .arrayOver (.object RX0)] : List Cond) = [50, 52, 231].filterMap (fun i => lw_tbl[i]?) := by decide +kernel
