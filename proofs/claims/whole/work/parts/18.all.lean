/-! ALL METHODS TOGETHER -/
def px_P (n : Nat) (pc : Nat) (f : pm_S) : Prop := po_Stp pd_md (pd_md n).1.cls (pd_md n).2.1 (pd_md n).2.2.1 (po_ini (pd_md n)) (pd_md n).2.2.2.1 (pd_md n).2.2.2.2 pc f
theorem pz_node {P : Nat → pm_S → Prop} {n m : Nat} {a b : Nat → Option pm_S} (ha : ∀ pc g, a pc = some g → P pc g) (hb : ∀ pc g, b pc = some g → P pc g) : ∀ pc g, (if n < m then a else b) pc = some g → P pc g := by
  intro pc g h
  split at h
  · exact ha pc g h
  · exact hb pc g h
theorem pz_leaf {n k : Nat} {a : Nat → Option pm_S} (ha : ∀ pc g, a pc = some g → px_P k pc g) : ∀ pc g, (if n = k then a else fun _ => none) pc = some g → px_P n pc g := by
  intro pc g h
  split at h
  · rename_i e
    subst e
    exact ha pc g h
  · cases h
theorem pz_nodeV {α : Type} {P : α → Prop} {n m : Nat} {a b : α} (ha : P a) (hb : P b) : P (if n < m then a else b) := by
  split
  · exact ha
  · exact hb
theorem pz_leafV {n k : Nat} {a : Nat → Option pm_S} (ha : a 9999 = none) : (if n = k then a else fun _ => none) 9999 = none := by
  split
  · exact ha
  · rfl
theorem pz_0 : ∀ pc g, pi_X0_init pc = some g → px_P 0 pc g := by
  intro pc g h
  unfold px_P
  rw [show pd_md 0 = pd_X0_init from rfl, show po_ini pd_X0_init = true by decide +kernel]
  exact pk_X0_init pc g h
theorem pz_1 : ∀ pc g, pi_X0_forget pc = some g → px_P 1 pc g := by
  intro pc g h
  unfold px_P
  rw [show pd_md 1 = pd_X0_forget from rfl, show po_ini pd_X0_forget = false by decide +kernel]
  exact pk_X0_forget pc g h
theorem pz_2 : ∀ pc g, pi_X0_choose pc = some g → px_P 2 pc g := by
  intro pc g h
  unfold px_P
  rw [show pd_md 2 = pd_X0_choose from rfl, show po_ini pd_X0_choose = false by decide +kernel]
  exact pk_X0_choose pc g h
theorem pz_3 : ∀ pc g, pi_X0_takeMinutes pc = some g → px_P 3 pc g := by
  intro pc g h
  unfold px_P
  rw [show pd_md 3 = pd_X0_takeMinutes from rfl, show po_ini pd_X0_takeMinutes = false by decide +kernel]
  exact pk_X0_takeMinutes pc g h
theorem pz_4 : ∀ pc g, pi_X0_throwAll pc = some g → px_P 4 pc g := by
  intro pc g h
  unfold px_P
  rw [show pd_md 4 = pd_X0_throwAll from rfl, show po_ini pd_X0_throwAll = false by decide +kernel]
  exact pk_X0_throwAll pc g h
theorem pz_5 : ∀ pc g, pi_X0_mostBehind pc = some g → px_P 5 pc g := by
  intro pc g h
  unfold px_P
  rw [show pd_md 5 = pd_X0_mostBehind from rfl, show po_ini pd_X0_mostBehind = false by decide +kernel]
  exact pk_X0_mostBehind pc g h
theorem pz_6 : ∀ pc g, pi_X0_assign pc = some g → px_P 6 pc g := by
  intro pc g h
  unfold px_P
  rw [show pd_md 6 = pd_X0_assign from rfl, show po_ini pd_X0_assign = false by decide +kernel]
  exact pk_X0_assign pc g h
theorem pz_7 : ∀ pc g, pi_X0_leastTrim pc = some g → px_P 7 pc g := by
  intro pc g h
  unfold px_P
  rw [show pd_md 7 = pd_X0_leastTrim from rfl, show po_ini pd_X0_leastTrim = false by decide +kernel]
  exact pk_X0_leastTrim pc g h
theorem pz_8 : ∀ pc g, pi_X0_isFree pc = some g → px_P 8 pc g := by
  intro pc g h
  unfold px_P
  rw [show pd_md 8 = pd_X0_isFree from rfl, show po_ini pd_X0_isFree = false by decide +kernel]
  exact pk_X0_isFree pc g h
theorem pz_9 : ∀ pc g, pi_X0_togetherBy pc = some g → px_P 9 pc g := by
  intro pc g h
  unfold px_P
  rw [show pd_md 9 = pd_X0_togetherBy from rfl, show po_ini pd_X0_togetherBy = false by decide +kernel]
  exact pk_X0_togetherBy pc g h
theorem pz_10 : ∀ pc g, pi_X1_init pc = some g → px_P 10 pc g := by
  intro pc g h
  unfold px_P
  rw [show pd_md 10 = pd_X1_init from rfl, show po_ini pd_X1_init = true by decide +kernel]
  exact pk_X1_init pc g h
theorem pz_11 : ∀ pc g, pi_X1_prepare pc = some g → px_P 11 pc g := by
  intro pc g h
  unfold px_P
  rw [show pd_md 11 = pd_X1_prepare from rfl, show po_ini pd_X1_prepare = false by decide +kernel]
  exact pk_X1_prepare pc g h
theorem pz_12 : ∀ pc g, pi_X1_kindNumber pc = some g → px_P 12 pc g := by
  intro pc g h
  unfold px_P
  rw [show pd_md 12 = pd_X1_kindNumber from rfl, show po_ini pd_X1_kindNumber = false by decide +kernel]
  exact pk_X1_kindNumber pc g h
theorem pz_13 : ∀ pc g, pi_X1_fly pc = some g → px_P 13 pc g := by
  intro pc g h
  unfold px_P
  rw [show pd_md 13 = pd_X1_fly from rfl, show po_ini pd_X1_fly = false by decide +kernel]
  exact pk_X1_fly pc g h
theorem pz_14 : ∀ pc g, pi_X1_paceIn pc = some g → px_P 14 pc g := by
  intro pc g h
  unfold px_P
  rw [show pd_md 14 = pd_X1_paceIn from rfl, show po_ini pd_X1_paceIn = false by decide +kernel]
  exact pk_X1_paceIn pc g h
theorem pz_15 : ∀ pc g, pi_X1_sinkIn pc = some g → px_P 15 pc g := by
  intro pc g h
  unfold px_P
  rw [show pd_md 15 = pd_X1_sinkIn from rfl, show po_ini pd_X1_sinkIn = false by decide +kernel]
  exact pk_X1_sinkIn pc g h
theorem pz_16 : ∀ pc g, pi_X1_move pc = some g → px_P 16 pc g := by
  intro pc g h
  unfold px_P
  rw [show pd_md 16 = pd_X1_move from rfl, show po_ini pd_X1_move = false by decide +kernel]
  exact pk_X1_move pc g h
theorem pz_17 : ∀ pc g, pi_X1_turnBehindStep pc = some g → px_P 17 pc g := by
  intro pc g h
  unfold px_P
  rw [show pd_md 17 = pd_X1_turnBehindStep from rfl, show po_ini pd_X1_turnBehindStep = false by decide +kernel]
  exact pk_X1_turnBehindStep pc g h
theorem pz_18 : ∀ pc g, pi_X2_init pc = some g → px_P 18 pc g := by
  intro pc g h
  unfold px_P
  rw [show pd_md 18 = pd_X2_init from rfl, show po_ini pd_X2_init = true by decide +kernel]
  exact pk_X2_init pc g h
theorem pz_19 : ∀ pc g, pi_X2_lengthAsTold pc = some g → px_P 19 pc g := by
  intro pc g h
  unfold px_P
  rw [show pd_md 19 = pd_X2_lengthAsTold from rfl, show po_ini pd_X2_lengthAsTold = false by decide +kernel]
  exact pk_X2_lengthAsTold pc g h
theorem pz_20 : ∀ pc g, pi_X2_arrange pc = some g → px_P 20 pc g := by
  intro pc g h
  unfold px_P
  rw [show pd_md 20 = pd_X2_arrange from rfl, show po_ini pd_X2_arrange = false by decide +kernel]
  exact pk_X2_arrange pc g h
theorem pz_21 : ∀ pc g, pi_X2_leastTeachable pc = some g → px_P 21 pc g := by
  intro pc g h
  unfold px_P
  rw [show pd_md 21 = pd_X2_leastTeachable from rfl, show po_ini pd_X2_leastTeachable = false by decide +kernel]
  exact pk_X2_leastTeachable pc g h
theorem pz_22 : ∀ pc g, pi_X2_isTeachable pc = some g → px_P 22 pc g := by
  intro pc g h
  unfold px_P
  rw [show pd_md 22 = pd_X2_isTeachable from rfl, show po_ini pd_X2_isTeachable = false by decide +kernel]
  exact pk_X2_isTeachable pc g h
theorem pz_23 : ∀ pc g, pi_X2_isOneMoreBehind pc = some g → px_P 23 pc g := by
  intro pc g h
  unfold px_P
  rw [show pd_md 23 = pd_X2_isOneMoreBehind from rfl, show po_ini pd_X2_isOneMoreBehind = false by decide +kernel]
  exact pk_X2_isOneMoreBehind pc g h
theorem pz_24 : ∀ pc g, pi_X2_isOneLeftOut pc = some g → px_P 24 pc g := by
  intro pc g h
  unfold px_P
  rw [show pd_md 24 = pd_X2_isOneLeftOut from rfl, show po_ini pd_X2_isOneLeftOut = false by decide +kernel]
  exact pk_X2_isOneLeftOut pc g h
theorem pz_25 : ∀ pc g, pi_X2_isLeftOutAt pc = some g → px_P 25 pc g := by
  intro pc g h
  unfold px_P
  rw [show pd_md 25 = pd_X2_isLeftOutAt from rfl, show po_ini pd_X2_isLeftOutAt = false by decide +kernel]
  exact pk_X2_isLeftOutAt pc g h
theorem pz_26 : ∀ pc g, pi_X3_init pc = some g → px_P 26 pc g := by
  intro pc g h
  unfold px_P
  rw [show pd_md 26 = pd_X3_init from rfl, show po_ini pd_X3_init = true by decide +kernel]
  exact pk_X3_init pc g h
theorem pz_27 : ∀ pc g, pi_X3_read pc = some g → px_P 27 pc g := by
  intro pc g h
  unfold px_P
  rw [show pd_md 27 = pd_X3_read from rfl, show po_ini pd_X3_read = false by decide +kernel]
  exact pk_X3_read pc g h
theorem pz_28 : ∀ pc g, pi_X3_sideOf pc = some g → px_P 28 pc g := by
  intro pc g h
  unfold px_P
  rw [show pd_md 28 = pd_X3_sideOf from rfl, show po_ini pd_X3_sideOf = false by decide +kernel]
  exact pk_X3_sideOf pc g h
theorem pz_29 : ∀ pc g, pi_X3_numberOf pc = some g → px_P 29 pc g := by
  intro pc g h
  unfold px_P
  rw [show pd_md 29 = pd_X3_numberOf from rfl, show po_ini pd_X3_numberOf = false by decide +kernel]
  exact pk_X3_numberOf pc g h
theorem pz_30 : ∀ pc g, pi_X4_init pc = some g → px_P 30 pc g := by
  intro pc g h
  unfold px_P
  rw [show pd_md 30 = pd_X4_init from rfl, show po_ini pd_X4_init = true by decide +kernel]
  exact pk_X4_init pc g h
theorem pz_31 : ∀ pc g, pi_X4_setUntold pc = some g → px_P 31 pc g := by
  intro pc g h
  unfold px_P
  rw [show pd_md 31 = pd_X4_setUntold from rfl, show po_ini pd_X4_setUntold = false by decide +kernel]
  exact pk_X4_setUntold pc g h
theorem pz_32 : ∀ pc g, pi_X4_knowUsualFolds pc = some g → px_P 32 pc g := by
  intro pc g h
  unfold px_P
  rw [show pd_md 32 = pd_X4_knowUsualFolds from rfl, show po_ini pd_X4_knowUsualFolds = false by decide +kernel]
  exact pk_X4_knowUsualFolds pc g h
theorem pz_33 : ∀ pc g, pi_X4_addKnown pc = some g → px_P 33 pc g := by
  intro pc g h
  unfold px_P
  rw [show pd_md 33 = pd_X4_addKnown from rfl, show po_ini pd_X4_addKnown = false by decide +kernel]
  exact pk_X4_addKnown pc g h
theorem pz_34 : ∀ pc g, pi_X4_isKnown pc = some g → px_P 34 pc g := by
  intro pc g h
  unfold px_P
  rw [show pd_md 34 = pd_X4_isKnown from rfl, show po_ini pd_X4_isKnown = false by decide +kernel]
  exact pk_X4_isKnown pc g h
theorem pz_35 : ∀ pc g, pi_X5_init pc = some g → px_P 35 pc g := by
  intro pc g h
  unfold px_P
  rw [show pd_md 35 = pd_X5_init from rfl, show po_ini pd_X5_init = true by decide +kernel]
  exact pk_X5_init pc g h
theorem pz_36 : ∀ pc g, pi_X5_read pc = some g → px_P 36 pc g := by
  intro pc g h
  unfold px_P
  rw [show pd_md 36 = pd_X5_read from rfl, show po_ini pd_X5_read = false by decide +kernel]
  exact pk_X5_read pc g h
theorem pz_37 : ∀ pc g, pi_X5_readLine pc = some g → px_P 37 pc g := by
  intro pc g h
  unfold px_P
  rw [show pd_md 37 = pd_X5_readLine from rfl, show po_ini pd_X5_readLine = false by decide +kernel]
  exact pk_X5_readLine pc g h
theorem pz_38 : ∀ pc g, pi_X5_readSheet pc = some g → px_P 38 pc g := by
  intro pc g h
  unfold px_P
  rw [show pd_md 38 = pd_X5_readSheet from rfl, show po_ini pd_X5_readSheet = false by decide +kernel]
  exact pk_X5_readSheet pc g h
theorem pz_39 : ∀ pc g, pi_X5_readTable pc = some g → px_P 39 pc g := by
  intro pc g h
  unfold px_P
  rw [show pd_md 39 = pd_X5_readTable from rfl, show po_ini pd_X5_readTable = false by decide +kernel]
  exact pk_X5_readTable pc g h
theorem pz_40 : ∀ pc g, pi_X5_readWind pc = some g → px_P 40 pc g := by
  intro pc g h
  unfold px_P
  rw [show pd_md 40 = pd_X5_readWind from rfl, show po_ini pd_X5_readWind = false by decide +kernel]
  exact pk_X5_readWind pc g h
theorem pz_41 : ∀ pc g, pi_X5_takeUntold pc = some g → px_P 41 pc g := by
  intro pc g h
  unfold px_P
  rw [show pd_md 41 = pd_X5_takeUntold from rfl, show po_ini pd_X5_takeUntold = false by decide +kernel]
  exact pk_X5_takeUntold pc g h
theorem pz_42 : ∀ pc g, pi_X5_readTower pc = some g → px_P 42 pc g := by
  intro pc g h
  unfold px_P
  rw [show pd_md 42 = pd_X5_readTower from rfl, show po_ini pd_X5_readTower = false by decide +kernel]
  exact pk_X5_readTower pc g h
theorem pz_43 : ∀ pc g, pi_X5_readWindow pc = some g → px_P 43 pc g := by
  intro pc g h
  unfold px_P
  rw [show pd_md 43 = pd_X5_readWindow from rfl, show po_ini pd_X5_readWindow = false by decide +kernel]
  exact pk_X5_readWindow pc g h
theorem pz_44 : ∀ pc g, pi_X5_readKnown pc = some g → px_P 44 pc g := by
  intro pc g h
  unfold px_P
  rw [show pd_md 44 = pd_X5_readKnown from rfl, show po_ini pd_X5_readKnown = false by decide +kernel]
  exact pk_X5_readKnown pc g h
theorem pz_45 : ∀ pc g, pi_X6_init pc = some g → px_P 45 pc g := by
  intro pc g h
  unfold px_P
  rw [show pd_md 45 = pd_X6_init from rfl, show po_ini pd_X6_init = true by decide +kernel]
  exact pk_X6_init pc g h
theorem pz_46 : ∀ pc g, pi_X6_begin pc = some g → px_P 46 pc g := by
  intro pc g h
  unfold px_P
  rw [show pd_md 46 = pd_X6_begin from rfl, show po_ini pd_X6_begin = false by decide +kernel]
  exact pk_X6_begin pc g h
theorem pz_47 : ∀ pc g, pi_X6_isSpent pc = some g → px_P 47 pc g := by
  intro pc g h
  unfold px_P
  rw [show pd_md 47 = pd_X6_isSpent from rfl, show po_ini pd_X6_isSpent = false by decide +kernel]
  exact pk_X6_isSpent pc g h
theorem pz_48 : ∀ pc g, pi_X6_forget pc = some g → px_P 48 pc g := by
  intro pc g h
  unfold px_P
  rw [show pd_md 48 = pd_X6_forget from rfl, show po_ini pd_X6_forget = false by decide +kernel]
  exact pk_X6_forget pc g h
theorem pz_49 : ∀ pc g, pi_X6_keepFirst pc = some g → px_P 49 pc g := by
  intro pc g h
  unfold px_P
  rw [show pd_md 49 = pd_X6_keepFirst from rfl, show po_ini pd_X6_keepFirst = false by decide +kernel]
  exact pk_X6_keepFirst pc g h
theorem pz_50 : ∀ pc g, pi_X6_meetAll pc = some g → px_P 50 pc g := by
  intro pc g h
  unfold px_P
  rw [show pd_md 50 = pd_X6_meetAll from rfl, show po_ini pd_X6_meetAll = false by decide +kernel]
  exact pk_X6_meetAll pc g h
theorem pz_51 : ∀ pc g, pi_X6_extend pc = some g → px_P 51 pc g := by
  intro pc g h
  unfold px_P
  rw [show pd_md 51 = pd_X6_extend from rfl, show po_ini pd_X6_extend = false by decide +kernel]
  exact pk_X6_extend pc g h
theorem pz_52 : ∀ pc g, pi_X6_putFold pc = some g → px_P 52 pc g := by
  intro pc g h
  unfold px_P
  rw [show pd_md 52 = pd_X6_putFold from rfl, show po_ini pd_X6_putFold = false by decide +kernel]
  exact pk_X6_putFold pc g h
theorem pz_53 : ∀ pc g, pi_X6_meet pc = some g → px_P 53 pc g := by
  intro pc g h
  unfold px_P
  rw [show pd_md 53 = pd_X6_meet from rfl, show po_ini pd_X6_meet = false by decide +kernel]
  exact pk_X6_meet pc g h
theorem pz_54 : ∀ pc g, pi_X6_compare pc = some g → px_P 54 pc g := by
  intro pc g h
  unfold px_P
  rw [show pd_md 54 = pd_X6_compare from rfl, show po_ini pd_X6_compare = false by decide +kernel]
  exact pk_X6_compare pc g h
theorem pz_55 : ∀ pc g, pi_X6_throwByEachTrim pc = some g → px_P 55 pc g := by
  intro pc g h
  unfold px_P
  rw [show pd_md 55 = pd_X6_throwByEachTrim from rfl, show po_ini pd_X6_throwByEachTrim = false by decide +kernel]
  exact pk_X6_throwByEachTrim pc g h
theorem pz_56 : ∀ pc g, pi_X6_hit pc = some g → px_P 56 pc g := by
  intro pc g h
  unfold px_P
  rw [show pd_md 56 = pd_X6_hit from rfl, show po_ini pd_X6_hit = false by decide +kernel]
  exact pk_X6_hit pc g h
theorem pz_57 : ∀ pc g, pi_X7_init pc = some g → px_P 57 pc g := by
  intro pc g h
  unfold px_P
  rw [show pd_md 57 = pd_X7_init from rfl, show po_ini pd_X7_init = true by decide +kernel]
  exact pk_X7_init pc g h
theorem pz_58 : ∀ pc g, pi_X7_layPlain pc = some g → px_P 58 pc g := by
  intro pc g h
  unfold px_P
  rw [show pd_md 58 = pd_X7_layPlain from rfl, show po_ini pd_X7_layPlain = false by decide +kernel]
  exact pk_X7_layPlain pc g h
theorem pz_59 : ∀ pc g, pi_X7_copyFrom pc = some g → px_P 59 pc g := by
  intro pc g h
  unfold px_P
  rw [show pd_md 59 = pd_X7_copyFrom from rfl, show po_ini pd_X7_copyFrom = false by decide +kernel]
  exact pk_X7_copyFrom pc g h
theorem pz_60 : ∀ pc g, pi_X7_canTurn pc = some g → px_P 60 pc g := by
  intro pc g h
  unfold px_P
  rw [show pd_md 60 = pd_X7_canTurn from rfl, show po_ini pd_X7_canTurn = false by decide +kernel]
  exact pk_X7_canTurn pc g h
theorem pz_61 : ∀ pc g, pi_X7_turnOver pc = some g → px_P 61 pc g := by
  intro pc g h
  unfold px_P
  rw [show pd_md 61 = pd_X7_turnOver from rfl, show po_ini pd_X7_turnOver = false by decide +kernel]
  exact pk_X7_turnOver pc g h
theorem pz_62 : ∀ pc g, pi_X7_cells pc = some g → px_P 62 pc g := by
  intro pc g h
  unfold px_P
  rw [show pd_md 62 = pd_X7_cells from rfl, show po_ini pd_X7_cells = false by decide +kernel]
  exact pk_X7_cells pc g h
theorem pz_63 : ∀ pc g, pi_X7_markMoving pc = some g → px_P 63 pc g := by
  intro pc g h
  unfold px_P
  rw [show pd_md 63 = pd_X7_markMoving from rfl, show po_ini pd_X7_markMoving = false by decide +kernel]
  exact pk_X7_markMoving pc g h
theorem pz_64 : ∀ pc g, pi_X7_addCreases pc = some g → px_P 64 pc g := by
  intro pc g h
  unfold px_P
  rw [show pd_md 64 = pd_X7_addCreases from rfl, show po_ini pd_X7_addCreases = false by decide +kernel]
  exact pk_X7_addCreases pc g h
theorem pz_65 : ∀ pc g, pi_X7_newCrease pc = some g → px_P 65 pc g := by
  intro pc g h
  unfold px_P
  rw [show pd_md 65 = pd_X7_newCrease from rfl, show po_ini pd_X7_newCrease = false by decide +kernel]
  exact pk_X7_newCrease pc g h
theorem pz_66 : ∀ pc g, pi_X7_turnCells pc = some g → px_P 66 pc g := by
  intro pc g h
  unfold px_P
  rw [show pd_md 66 = pd_X7_turnCells from rfl, show po_ini pd_X7_turnCells = false by decide +kernel]
  exact pk_X7_turnCells pc g h
theorem pz_67 : ∀ pc g, pi_X7_numberFrom pc = some g → px_P 67 pc g := by
  intro pc g h
  unfold px_P
  rw [show pd_md 67 = pd_X7_numberFrom from rfl, show po_ini pd_X7_numberFrom = false by decide +kernel]
  exact pk_X7_numberFrom pc g h
theorem pz_68 : ∀ pc g, pi_X7_weigh pc = some g → px_P 68 pc g := by
  intro pc g h
  unfold px_P
  rw [show pd_md 68 = pd_X7_weigh from rfl, show po_ini pd_X7_weigh = false by decide +kernel]
  exact pk_X7_weigh pc g h
theorem pz_69 : ∀ pc g, pi_X7_hasPlace pc = some g → px_P 69 pc g := by
  intro pc g h
  unfold px_P
  rw [show pd_md 69 = pd_X7_hasPlace from rfl, show po_ini pd_X7_hasPlace = false by decide +kernel]
  exact pk_X7_hasPlace pc g h
theorem pz_70 : ∀ pc g, pi_X7_weightAt pc = some g → px_P 70 pc g := by
  intro pc g h
  unfold px_P
  rw [show pd_md 70 = pd_X7_weightAt from rfl, show po_ini pd_X7_weightAt = false by decide +kernel]
  exact pk_X7_weightAt pc g h
theorem pz_71 : ∀ pc g, pi_X7_cellAt pc = some g → px_P 71 pc g := by
  intro pc g h
  unfold px_P
  rw [show pd_md 71 = pd_X7_cellAt from rfl, show po_ini pd_X7_cellAt = false by decide +kernel]
  exact pk_X7_cellAt pc g h
theorem pz_72 : ∀ pc g, pi_X7_creaseOf pc = some g → px_P 72 pc g := by
  intro pc g h
  unfold px_P
  rw [show pd_md 72 = pd_X7_creaseOf from rfl, show po_ini pd_X7_creaseOf = false by decide +kernel]
  exact pk_X7_creaseOf pc g h
theorem pz_73 : ∀ pc g, pi_X7_countCreases pc = some g → px_P 73 pc g := by
  intro pc g h
  unfold px_P
  rw [show pd_md 73 = pd_X7_countCreases from rfl, show po_ini pd_X7_countCreases = false by decide +kernel]
  exact pk_X7_countCreases pc g h
theorem pz_74 : ∀ pc g, pi_X7_nosiness pc = some g → px_P 74 pc g := by
  intro pc g h
  unfold px_P
  rw [show pd_md 74 = pd_X7_nosiness from rfl, show po_ini pd_X7_nosiness = false by decide +kernel]
  exact pk_X7_nosiness pc g h
theorem pz_75 : ∀ pc g, pi_X7_wings pc = some g → px_P 75 pc g := by
  intro pc g h
  unfold px_P
  rw [show pd_md 75 = pd_X7_wings from rfl, show po_ini pd_X7_wings = false by decide +kernel]
  exact pk_X7_wings pc g h
theorem pz_76 : ∀ pc g, pi_X7_hasCreasesOf pc = some g → px_P 76 pc g := by
  intro pc g h
  unfold px_P
  rw [show pd_md 76 = pd_X7_hasCreasesOf from rfl, show po_ini pd_X7_hasCreasesOf = false by decide +kernel]
  exact pk_X7_hasCreasesOf pc g h
theorem pz_77 : ∀ pc g, pi_X7_hasWeightsOf pc = some g → px_P 77 pc g := by
  intro pc g h
  unfold px_P
  rw [show pd_md 77 = pd_X7_hasWeightsOf from rfl, show po_ini pd_X7_hasWeightsOf = false by decide +kernel]
  exact pk_X7_hasWeightsOf pc g h
theorem pz_78 : ∀ pc g, pi_X8_init pc = some g → px_P 78 pc g := by
  intro pc g h
  unfold px_P
  rw [show pd_md 78 = pd_X8_init from rfl, show po_ini pd_X8_init = true by decide +kernel]
  exact pk_X8_init pc g h
theorem pz_79 : ∀ pc g, pi_X8_clearButRefused pc = some g → px_P 79 pc g := by
  intro pc g h
  unfold px_P
  rw [show pd_md 79 = pd_X8_clearButRefused from rfl, show po_ini pd_X8_clearButRefused = false by decide +kernel]
  exact pk_X8_clearButRefused pc g h
theorem pz_80 : ∀ pc g, pi_X8_copyFrom pc = some g → px_P 80 pc g := by
  intro pc g h
  unfold px_P
  rw [show pd_md 80 = pd_X8_copyFrom from rfl, show po_ini pd_X8_copyFrom = false by decide +kernel]
  exact pk_X8_copyFrom pc g h
theorem pz_81 : ∀ pc g, pi_X8_addFold pc = some g → px_P 81 pc g := by
  intro pc g h
  unfold px_P
  rw [show pd_md 81 = pd_X8_addFold from rfl, show po_ini pd_X8_addFold = false by decide +kernel]
  exact pk_X8_addFold pc g h
theorem pz_82 : ∀ pc g, pi_X8_addRow pc = some g → px_P 82 pc g := by
  intro pc g h
  unfold px_P
  rw [show pd_md 82 = pd_X8_addRow from rfl, show po_ini pd_X8_addRow = false by decide +kernel]
  exact pk_X8_addRow pc g h
theorem pz_83 : ∀ pc g, pi_X8_lengthOfRow pc = some g → px_P 83 pc g := by
  intro pc g h
  unfold px_P
  rw [show pd_md 83 = pd_X8_lengthOfRow from rfl, show po_ini pd_X8_lengthOfRow = false by decide +kernel]
  exact pk_X8_lengthOfRow pc g h
theorem pz_84 : ∀ pc g, pi_X8_foldOfRow pc = some g → px_P 84 pc g := by
  intro pc g h
  unfold px_P
  rw [show pd_md 84 = pd_X8_foldOfRow from rfl, show po_ini pd_X8_foldOfRow = false by decide +kernel]
  exact pk_X8_foldOfRow pc g h
theorem pz_85 : ∀ pc g, pi_X9_init pc = some g → px_P 85 pc g := by
  intro pc g h
  unfold px_P
  rw [show pd_md 85 = pd_X9_init from rfl, show po_ini pd_X9_init = true by decide +kernel]
  exact pk_X9_init pc g h
theorem pz_86 : ∀ pc g, pi_X9_put pc = some g → px_P 86 pc g := by
  intro pc g h
  unfold px_P
  rw [show pd_md 86 = pd_X9_put from rfl, show po_ini pd_X9_put = false by decide +kernel]
  exact pk_X9_put pc g h
theorem pz_87 : ∀ pc g, pi_X9_open pc = some g → px_P 87 pc g := by
  intro pc g h
  unfold px_P
  rw [show pd_md 87 = pd_X9_open from rfl, show po_ini pd_X9_open = false by decide +kernel]
  exact pk_X9_open pc g h
theorem pz_88 : ∀ pc g, pi_X9_goesOn pc = some g → px_P 88 pc g := by
  intro pc g h
  unfold px_P
  rw [show pd_md 88 = pd_X9_goesOn from rfl, show po_ini pd_X9_goesOn = false by decide +kernel]
  exact pk_X9_goesOn pc g h
theorem pz_89 : ∀ pc g, pi_X9_refuse pc = some g → px_P 89 pc g := by
  intro pc g h
  unfold px_P
  rw [show pd_md 89 = pd_X9_refuse from rfl, show po_ini pd_X9_refuse = false by decide +kernel]
  exact pk_X9_refuse pc g h
theorem pz_90 : ∀ pc g, pi_X9_advance pc = some g → px_P 90 pc g := by
  intro pc g h
  unfold px_P
  rw [show pd_md 90 = pd_X9_advance from rfl, show po_ini pd_X9_advance = false by decide +kernel]
  exact pk_X9_advance pc g h
theorem pz_91 : ∀ pc g, pi_X9_readValue pc = some g → px_P 91 pc g := by
  intro pc g h
  unfold px_P
  rw [show pd_md 91 = pd_X9_readValue from rfl, show po_ini pd_X9_readValue = false by decide +kernel]
  exact pk_X9_readValue pc g h
theorem pz_92 : ∀ pc g, pi_X9_kindBeginning pc = some g → px_P 92 pc g := by
  intro pc g h
  unfold px_P
  rw [show pd_md 92 = pd_X9_kindBeginning from rfl, show po_ini pd_X9_kindBeginning = false by decide +kernel]
  exact pk_X9_kindBeginning pc g h
theorem pz_93 : ∀ pc g, pi_X9_isBlank pc = some g → px_P 93 pc g := by
  intro pc g h
  unfold px_P
  rw [show pd_md 93 = pd_X9_isBlank from rfl, show po_ini pd_X9_isBlank = false by decide +kernel]
  exact pk_X9_isBlank pc g h
theorem pz_94 : ∀ pc g, pi_X9_isWord pc = some g → px_P 94 pc g := by
  intro pc g h
  unfold px_P
  rw [show pd_md 94 = pd_X9_isWord from rfl, show po_ini pd_X9_isWord = false by decide +kernel]
  exact pk_X9_isWord pc g h
theorem pz_95 : ∀ pc g, pi_X9_isNumber pc = some g → px_P 95 pc g := by
  intro pc g h
  unfold px_P
  rw [show pd_md 95 = pd_X9_isNumber from rfl, show po_ini pd_X9_isNumber = false by decide +kernel]
  exact pk_X9_isNumber pc g h
theorem pz_96 : ∀ pc g, pi_X9_numberHere pc = some g → px_P 96 pc g := by
  intro pc g h
  unfold px_P
  rw [show pd_md 96 = pd_X9_numberHere from rfl, show po_ini pd_X9_numberHere = false by decide +kernel]
  exact pk_X9_numberHere pc g h
theorem pz_97 : ∀ pc g, pi_X9_takeNumber pc = some g → px_P 97 pc g := by
  intro pc g h
  unfold px_P
  rw [show pd_md 97 = pd_X9_takeNumber from rfl, show po_ini pd_X9_takeNumber = false by decide +kernel]
  exact pk_X9_takeNumber pc g h
theorem pz_98 : ∀ pc g, pi_X9_takeSigned pc = some g → px_P 98 pc g := by
  intro pc g h
  unfold px_P
  rw [show pd_md 98 = pd_X9_takeSigned from rfl, show po_ini pd_X9_takeSigned = false by decide +kernel]
  exact pk_X9_takeSigned pc g h
theorem pz_99 : ∀ pc g, pi_X9_takeSide pc = some g → px_P 99 pc g := by
  intro pc g h
  unfold px_P
  rw [show pd_md 99 = pd_X9_takeSide from rfl, show po_ini pd_X9_takeSide = false by decide +kernel]
  exact pk_X9_takeSide pc g h
theorem pz_100 : ∀ pc g, pi_X9_takeSemicolon pc = some g → px_P 100 pc g := by
  intro pc g h
  unfold px_P
  rw [show pd_md 100 = pd_X9_takeSemicolon from rfl, show po_ini pd_X9_takeSemicolon = false by decide +kernel]
  exact pk_X9_takeSemicolon pc g h
theorem pz_101 : ∀ pc g, pi_X10_init pc = some g → px_P 101 pc g := by
  intro pc g h
  unfold px_P
  rw [show pd_md 101 = pd_X10_init from rfl, show po_ini pd_X10_init = true by decide +kernel]
  exact pk_X10_init pc g h
theorem pz_102 : ∀ pc g, pi_X10_feed pc = some g → px_P 102 pc g := by
  intro pc g h
  unfold px_P
  rw [show pd_md 102 = pd_X10_feed from rfl, show po_ini pd_X10_feed = false by decide +kernel]
  exact pk_X10_feed pc g h
theorem pz_103 : ∀ pc g, pi_X10_school pc = some g → px_P 103 pc g := by
  intro pc g h
  unfold px_P
  rw [show pd_md 103 = pd_X10_school from rfl, show po_ini pd_X10_school = false by decide +kernel]
  exact pk_X10_school pc g h
theorem pz_104 : ∀ pc g, pi_X10_row pc = some g → px_P 104 pc g := by
  intro pc g h
  unfold px_P
  rw [show pd_md 104 = pd_X10_row from rfl, show po_ini pd_X10_row = false by decide +kernel]
  exact pk_X10_row pc g h
theorem pz_105 : ∀ pc g, pi_X10_fault pc = some g → px_P 105 pc g := by
  intro pc g h
  unfold px_P
  rw [show pd_md 105 = pd_X10_fault from rfl, show po_ini pd_X10_fault = false by decide +kernel]
  exact pk_X10_fault pc g h
theorem pz_106 : ∀ pc g, pi_X10_count pc = some g → px_P 106 pc g := by
  intro pc g h
  unfold px_P
  rw [show pd_md 106 = pd_X10_count from rfl, show po_ini pd_X10_count = false by decide +kernel]
  exact pk_X10_count pc g h
theorem pz_107 : ∀ pc g, pi_X10_table pc = some g → px_P 107 pc g := by
  intro pc g h
  unfold px_P
  rw [show pd_md 107 = pd_X10_table from rfl, show po_ini pd_X10_table = false by decide +kernel]
  exact pk_X10_table pc g h
theorem pz_108 : ∀ pc g, pi_X10_fold pc = some g → px_P 108 pc g := by
  intro pc g h
  unfold px_P
  rw [show pd_md 108 = pd_X10_fold from rfl, show po_ini pd_X10_fold = false by decide +kernel]
  exact pk_X10_fold pc g h
theorem pz_109 : ∀ pc g, pi_X10_undo pc = some g → px_P 109 pc g := by
  intro pc g h
  unfold px_P
  rw [show pd_md 109 = pd_X10_undo from rfl, show po_ini pd_X10_undo = false by decide +kernel]
  exact pk_X10_undo pc g h
theorem pz_110 : ∀ pc g, pi_X10_layer pc = some g → px_P 110 pc g := by
  intro pc g h
  unfold px_P
  rw [show pd_md 110 = pd_X10_layer from rfl, show po_ini pd_X10_layer = false by decide +kernel]
  exact pk_X10_layer pc g h
theorem pz_111 : ∀ pc g, pi_X10_crease pc = some g → px_P 111 pc g := by
  intro pc g h
  unfold px_P
  rw [show pd_md 111 = pd_X10_crease from rfl, show po_ini pd_X10_crease = false by decide +kernel]
  exact pk_X10_crease pc g h
theorem pz_112 : ∀ pc g, pi_X10_flight pc = some g → px_P 112 pc g := by
  intro pc g h
  unfold px_P
  rw [show pd_md 112 = pd_X10_flight from rfl, show po_ini pd_X10_flight = false by decide +kernel]
  exact pk_X10_flight pc g h
theorem pz_113 : ∀ pc g, pi_X10_step pc = some g → px_P 113 pc g := by
  intro pc g h
  unfold px_P
  rw [show pd_md 113 = pd_X10_step from rfl, show po_ini pd_X10_step = false by decide +kernel]
  exact pk_X10_step pc g h
theorem pz_114 : ∀ pc g, pi_X10_best pc = some g → px_P 114 pc g := by
  intro pc g h
  unfold px_P
  rw [show pd_md 114 = pd_X10_best from rfl, show po_ini pd_X10_best = false by decide +kernel]
  exact pk_X10_best pc g h
theorem pz_115 : ∀ pc g, pi_X10_found pc = some g → px_P 115 pc g := by
  intro pc g h
  unfold px_P
  rw [show pd_md 115 = pd_X10_found from rfl, show po_ini pd_X10_found = false by decide +kernel]
  exact pk_X10_found pc g h
theorem pz_116 : ∀ pc g, pi_X10_mean pc = some g → px_P 116 pc g := by
  intro pc g h
  unfold px_P
  rw [show pd_md 116 = pd_X10_mean from rfl, show po_ini pd_X10_mean = false by decide +kernel]
  exact pk_X10_mean pc g h
theorem pz_117 : ∀ pc g, pi_X10_rows pc = some g → px_P 117 pc g := by
  intro pc g h
  unfold px_P
  rw [show pd_md 117 = pd_X10_rows from rfl, show po_ini pd_X10_rows = false by decide +kernel]
  exact pk_X10_rows pc g h
theorem pz_118 : ∀ pc g, pi_X10_evening pc = some g → px_P 118 pc g := by
  intro pc g h
  unfold px_P
  rw [show pd_md 118 = pd_X10_evening from rfl, show po_ini pd_X10_evening = false by decide +kernel]
  exact pk_X10_evening pc g h
theorem pz_119 : ∀ pc g, pi_X10_trim pc = some g → px_P 119 pc g := by
  intro pc g h
  unfold px_P
  rw [show pd_md 119 = pd_X10_trim from rfl, show po_ini pd_X10_trim = false by decide +kernel]
  exact pk_X10_trim pc g h
theorem pz_120 : ∀ pc g, pi_X10_teach pc = some g → px_P 120 pc g := by
  intro pc g h
  unfold px_P
  rw [show pd_md 120 = pd_X10_teach from rfl, show po_ini pd_X10_teach = false by decide +kernel]
  exact pk_X10_teach pc g h
theorem pz_121 : ∀ pc g, pi_X10_taught pc = some g → px_P 121 pc g := by
  intro pc g h
  unfold px_P
  rw [show pd_md 121 = pd_X10_taught from rfl, show po_ini pd_X10_taught = false by decide +kernel]
  exact pk_X10_taught pc g h
theorem pz_122 : ∀ pc g, pi_X10_image pc = some g → px_P 122 pc g := by
  intro pc g h
  unfold px_P
  rw [show pd_md 122 = pd_X10_image from rfl, show po_ini pd_X10_image = false by decide +kernel]
  exact pk_X10_image pc g h
theorem pz_123 : ∀ pc g, pi_X10_restore pc = some g → px_P 123 pc g := by
  intro pc g h
  unfold px_P
  rw [show pd_md 123 = pd_X10_restore from rfl, show po_ini pd_X10_restore = false by decide +kernel]
  exact pk_X10_restore pc g h
theorem pz_124 : ∀ pc g, pi_X10_checkTape pc = some g → px_P 124 pc g := by
  intro pc g h
  unfold px_P
  rw [show pd_md 124 = pd_X10_checkTape from rfl, show po_ini pd_X10_checkTape = false by decide +kernel]
  exact pk_X10_checkTape pc g h
theorem pz_125 : ∀ pc g, pi_X10_checkMinute pc = some g → px_P 125 pc g := by
  intro pc g h
  unfold px_P
  rw [show pd_md 125 = pd_X10_checkMinute from rfl, show po_ini pd_X10_checkMinute = false by decide +kernel]
  exact pk_X10_checkMinute pc g h
theorem pz_126 : ∀ pc g, pi_X10_checkTrim pc = some g → px_P 126 pc g := by
  intro pc g h
  unfold px_P
  rw [show pd_md 126 = pd_X10_checkTrim from rfl, show po_ini pd_X10_checkTrim = false by decide +kernel]
  exact pk_X10_checkTrim pc g h
theorem pz_127 : ∀ pc g, pi_X10_checkThrow pc = some g → px_P 127 pc g := by
  intro pc g h
  unfold px_P
  rw [show pd_md 127 = pd_X10_checkThrow from rfl, show po_ini pd_X10_checkThrow = false by decide +kernel]
  exact pk_X10_checkThrow pc g h
theorem pz_128 : ∀ pc g, pi_X10_checkRowLength pc = some g → px_P 128 pc g := by
  intro pc g h
  unfold px_P
  rw [show pd_md 128 = pd_X10_checkRowLength from rfl, show po_ini pd_X10_checkRowLength = false by decide +kernel]
  exact pk_X10_checkRowLength pc g h
theorem pz_129 : ∀ pc g, pi_X10_closeText pc = some g → px_P 129 pc g := by
  intro pc g h
  unfold px_P
  rw [show pd_md 129 = pd_X10_closeText from rfl, show po_ini pd_X10_closeText = false by decide +kernel]
  exact pk_X10_closeText pc g h
theorem pz_130 : ∀ pc g, pi_X10_foldNow pc = some g → px_P 130 pc g := by
  intro pc g h
  unfold px_P
  rw [show pd_md 130 = pd_X10_foldNow from rfl, show po_ini pd_X10_foldNow = false by decide +kernel]
  exact pk_X10_foldNow pc g h
theorem pz_131 : ∀ pc g, pi_X10_layAnew pc = some g → px_P 131 pc g := by
  intro pc g h
  unfold px_P
  rw [show pd_md 131 = pd_X10_layAnew from rfl, show po_ini pd_X10_layAnew = false by decide +kernel]
  exact pk_X10_layAnew pc g h
theorem pz_132 : ∀ pc g, pi_X10_commonDivisor pc = some g → px_P 132 pc g := by
  intro pc g h
  unfold px_P
  rw [show pd_md 132 = pd_X10_commonDivisor from rfl, show po_ini pd_X10_commonDivisor = false by decide +kernel]
  exact pk_X10_commonDivisor pc g h
theorem pz_133 : ∀ pc g, pi_X11_init pc = some g → px_P 133 pc g := by
  intro pc g h
  unfold px_P
  rw [show pd_md 133 = pd_X11_init from rfl, show po_ini pd_X11_init = true by decide +kernel]
  exact pk_X11_init pc g h
theorem pz_134 : ∀ pc g, pi_X11_thrown pc = some g → px_P 134 pc g := by
  intro pc g h
  unfold px_P
  rw [show pd_md 134 = pd_X11_thrown from rfl, show po_ini pd_X11_thrown = false by decide +kernel]
  exact pk_X11_thrown pc g h
theorem pz_135 : ∀ pc g, pi_X11_fail pc = some g → px_P 135 pc g := by
  intro pc g h
  unfold px_P
  rw [show pd_md 135 = pd_X11_fail from rfl, show po_ini pd_X11_fail = false by decide +kernel]
  exact pk_X11_fail pc g h
theorem pz_136 : ∀ pc g, pi_X11_isIn pc = some g → px_P 136 pc g := by
  intro pc g h
  unfold px_P
  rw [show pd_md 136 = pd_X11_isIn from rfl, show po_ini pd_X11_isIn = false by decide +kernel]
  exact pk_X11_isIn pc g h
theorem pz_137 : ∀ pc g, pi_X11_feed pc = some g → px_P 137 pc g := by
  intro pc g h
  unfold px_P
  rw [show pd_md 137 = pd_X11_feed from rfl, show po_ini pd_X11_feed = false by decide +kernel]
  exact pk_X11_feed pc g h
theorem pz_138 : ∀ pc g, pi_X11_byteAt pc = some g → px_P 138 pc g := by
  intro pc g h
  unfold px_P
  rw [show pd_md 138 = pd_X11_byteAt from rfl, show po_ini pd_X11_byteAt = false by decide +kernel]
  exact pk_X11_byteAt pc g h
theorem pz_139 : ∀ pc g, pi_X11_isLetter pc = some g → px_P 139 pc g := by
  intro pc g h
  unfold px_P
  rw [show pd_md 139 = pd_X11_isLetter from rfl, show po_ini pd_X11_isLetter = false by decide +kernel]
  exact pk_X11_isLetter pc g h
theorem pz_140 : ∀ pc g, pi_X11_isDigit pc = some g → px_P 140 pc g := by
  intro pc g h
  unfold px_P
  rw [show pd_md 140 = pd_X11_isDigit from rfl, show po_ini pd_X11_isDigit = false by decide +kernel]
  exact pk_X11_isDigit pc g h
theorem pz_141 : ∀ pc g, pi_X11_stepOn pc = some g → px_P 141 pc g := by
  intro pc g h
  unfold px_P
  rw [show pd_md 141 = pd_X11_stepOn from rfl, show po_ini pd_X11_stepOn = false by decide +kernel]
  exact pk_X11_stepOn pc g h
theorem pz_142 : ∀ pc g, pi_X11_wrong pc = some g → px_P 142 pc g := by
  intro pc g h
  unfold px_P
  rw [show pd_md 142 = pd_X11_wrong from rfl, show po_ini pd_X11_wrong = false by decide +kernel]
  exact pk_X11_wrong pc g h
theorem pz_143 : ∀ pc g, pi_X11_is pc = some g → px_P 143 pc g := by
  intro pc g h
  unfold px_P
  rw [show pd_md 143 = pd_X11_is from rfl, show po_ini pd_X11_is = false by decide +kernel]
  exact pk_X11_is pc g h
theorem pz_144 : ∀ pc g, pi_X11_isMarked pc = some g → px_P 144 pc g := by
  intro pc g h
  unfold px_P
  rw [show pd_md 144 = pd_X11_isMarked from rfl, show po_ini pd_X11_isMarked = false by decide +kernel]
  exact pk_X11_isMarked pc g h
theorem pz_145 : ∀ pc g, pi_X11_semi pc = some g → px_P 145 pc g := by
  intro pc g h
  unfold px_P
  rw [show pd_md 145 = pd_X11_semi from rfl, show po_ini pd_X11_semi = false by decide +kernel]
  exact pk_X11_semi pc g h
theorem pz_146 : ∀ pc g, pi_X11_numberNow pc = some g → px_P 146 pc g := by
  intro pc g h
  unfold px_P
  rw [show pd_md 146 = pd_X11_numberNow from rfl, show po_ini pd_X11_numberNow = false by decide +kernel]
  exact pk_X11_numberNow pc g h
theorem pz_147 : ∀ pc g, pi_X11_readNumber pc = some g → px_P 147 pc g := by
  intro pc g h
  unfold px_P
  rw [show pd_md 147 = pd_X11_readNumber from rfl, show po_ini pd_X11_readNumber = false by decide +kernel]
  exact pk_X11_readNumber pc g h
theorem pz_148 : ∀ pc g, pi_X11_readSigned pc = some g → px_P 148 pc g := by
  intro pc g h
  unfold px_P
  rw [show pd_md 148 = pd_X11_readSigned from rfl, show po_ini pd_X11_readSigned = false by decide +kernel]
  exact pk_X11_readSigned pc g h
theorem pz_149 : ∀ pc g, pi_X11_readOnceOf pc = some g → px_P 149 pc g := by
  intro pc g h
  unfold px_P
  rw [show pd_md 149 = pd_X11_readOnceOf from rfl, show po_ini pd_X11_readOnceOf = false by decide +kernel]
  exact pk_X11_readOnceOf pc g h
theorem pz_150 : ∀ pc g, pi_X11_foldNow pc = some g → px_P 150 pc g := by
  intro pc g h
  unfold px_P
  rw [show pd_md 150 = pd_X11_foldNow from rfl, show po_ini pd_X11_foldNow = false by decide +kernel]
  exact pk_X11_foldNow pc g h
theorem pz_151 : ∀ pc g, pi_X11_readKnown pc = some g → px_P 151 pc g := by
  intro pc g h
  unfold px_P
  rw [show pd_md 151 = pd_X11_readKnown from rfl, show po_ini pd_X11_readKnown = false by decide +kernel]
  exact pk_X11_readKnown pc g h
theorem pz_152 : ∀ pc g, pi_X11_readLine pc = some g → px_P 152 pc g := by
  intro pc g h
  unfold px_P
  rw [show pd_md 152 = pd_X11_readLine from rfl, show po_ini pd_X11_readLine = false by decide +kernel]
  exact pk_X11_readLine pc g h
theorem pz_153 : ∀ pc g, pi_X11_readRule pc = some g → px_P 153 pc g := by
  intro pc g h
  unfold px_P
  rw [show pd_md 153 = pd_X11_readRule from rfl, show po_ini pd_X11_readRule = false by decide +kernel]
  exact pk_X11_readRule pc g h
theorem pz_154 : ∀ pc g, pi_X11_readTable pc = some g → px_P 154 pc g := by
  intro pc g h
  unfold px_P
  rw [show pd_md 154 = pd_X11_readTable from rfl, show po_ini pd_X11_readTable = false by decide +kernel]
  exact pk_X11_readTable pc g h
theorem pz_155 : ∀ pc g, pi_X11_readWind pc = some g → px_P 155 pc g := by
  intro pc g h
  unfold px_P
  rw [show pd_md 155 = pd_X11_readWind from rfl, show po_ini pd_X11_readWind = false by decide +kernel]
  exact pk_X11_readWind pc g h
theorem pz_156 : ∀ pc g, pi_X11_untold pc = some g → px_P 156 pc g := by
  intro pc g h
  unfold px_P
  rw [show pd_md 156 = pd_X11_untold from rfl, show po_ini pd_X11_untold = false by decide +kernel]
  exact pk_X11_untold pc g h
theorem pz_157 : ∀ pc g, pi_X11_open pc = some g → px_P 157 pc g := by
  intro pc g h
  unfold px_P
  rw [show pd_md 157 = pd_X11_open from rfl, show po_ini pd_X11_open = false by decide +kernel]
  exact pk_X11_open pc g h
theorem pz_158 : ∀ pc g, pi_X11_faulty pc = some g → px_P 158 pc g := by
  intro pc g h
  unfold px_P
  rw [show pd_md 158 = pd_X11_faulty from rfl, show po_ini pd_X11_faulty = false by decide +kernel]
  exact pk_X11_faulty pc g h
theorem pz_159 : ∀ pc g, pi_X11_school pc = some g → px_P 159 pc g := by
  intro pc g h
  unfold px_P
  rw [show pd_md 159 = pd_X11_school from rfl, show po_ini pd_X11_school = false by decide +kernel]
  exact pk_X11_school pc g h
theorem pz_160 : ∀ pc g, pi_X11_takeHalf pc = some g → px_P 160 pc g := by
  intro pc g h
  unfold px_P
  rw [show pd_md 160 = pd_X11_takeHalf from rfl, show po_ini pd_X11_takeHalf = false by decide +kernel]
  exact pk_X11_takeHalf pc g h
theorem pz_161 : ∀ pc g, pi_X11_take pc = some g → px_P 161 pc g := by
  intro pc g h
  unfold px_P
  rw [show pd_md 161 = pd_X11_take from rfl, show po_ini pd_X11_take = false by decide +kernel]
  exact pk_X11_take pc g h
theorem pz_162 : ∀ pc g, pi_X11_row pc = some g → px_P 162 pc g := by
  intro pc g h
  unfold px_P
  rw [show pd_md 162 = pd_X11_row from rfl, show po_ini pd_X11_row = false by decide +kernel]
  exact pk_X11_row pc g h
theorem pz_163 : ∀ pc g, pi_X11_fault pc = some g → px_P 163 pc g := by
  intro pc g h
  unfold px_P
  rw [show pd_md 163 = pd_X11_fault from rfl, show po_ini pd_X11_fault = false by decide +kernel]
  exact pk_X11_fault pc g h
theorem pz_164 : ∀ pc g, pi_X11_cells pc = some g → px_P 164 pc g := by
  intro pc g h
  unfold px_P
  rw [show pd_md 164 = pd_X11_cells from rfl, show po_ini pd_X11_cells = false by decide +kernel]
  exact pk_X11_cells pc g h
theorem pz_165 : ∀ pc g, pi_X11_plain pc = some g → px_P 165 pc g := by
  intro pc g h
  unfold px_P
  rw [show pd_md 165 = pd_X11_plain from rfl, show po_ini pd_X11_plain = false by decide +kernel]
  exact pk_X11_plain pc g h
theorem pz_166 : ∀ pc g, pi_X11_canFold pc = some g → px_P 166 pc g := by
  intro pc g h
  unfold px_P
  rw [show pd_md 166 = pd_X11_canFold from rfl, show po_ini pd_X11_canFold = false by decide +kernel]
  exact pk_X11_canFold pc g h
theorem pz_167 : ∀ pc g, pi_X11_turnedTo pc = some g → px_P 167 pc g := by
  intro pc g h
  unfold px_P
  rw [show pd_md 167 = pd_X11_turnedTo from rfl, show po_ini pd_X11_turnedTo = false by decide +kernel]
  exact pk_X11_turnedTo pc g h
theorem pz_168 : ∀ pc g, pi_X11_tellLoad pc = some g → px_P 168 pc g := by
  intro pc g h
  unfold px_P
  rw [show pd_md 168 = pd_X11_tellLoad from rfl, show po_ini pd_X11_tellLoad = false by decide +kernel]
  exact pk_X11_tellLoad pc g h
theorem pz_169 : ∀ pc g, pi_X11_apply pc = some g → px_P 169 pc g := by
  intro pc g h
  unfold px_P
  rw [show pd_md 169 = pd_X11_apply from rfl, show po_ini pd_X11_apply = false by decide +kernel]
  exact pk_X11_apply pc g h
theorem pz_170 : ∀ pc g, pi_X11_doFold pc = some g → px_P 170 pc g := by
  intro pc g h
  unfold px_P
  rw [show pd_md 170 = pd_X11_doFold from rfl, show po_ini pd_X11_doFold = false by decide +kernel]
  exact pk_X11_doFold pc g h
theorem pz_171 : ∀ pc g, pi_X11_fold pc = some g → px_P 171 pc g := by
  intro pc g h
  unfold px_P
  rw [show pd_md 171 = pd_X11_fold from rfl, show po_ini pd_X11_fold = false by decide +kernel]
  exact pk_X11_fold pc g h
theorem pz_172 : ∀ pc g, pi_X11_undo pc = some g → px_P 172 pc g := by
  intro pc g h
  unfold px_P
  rw [show pd_md 172 = pd_X11_undo from rfl, show po_ini pd_X11_undo = false by decide +kernel]
  exact pk_X11_undo pc g h
theorem pz_173 : ∀ pc g, pi_X11_creases pc = some g → px_P 173 pc g := by
  intro pc g h
  unfold px_P
  rw [show pd_md 173 = pd_X11_creases from rfl, show po_ini pd_X11_creases = false by decide +kernel]
  exact pk_X11_creases pc g h
theorem pz_174 : ∀ pc g, pi_X11_nosiness pc = some g → px_P 174 pc g := by
  intro pc g h
  unfold px_P
  rw [show pd_md 174 = pd_X11_nosiness from rfl, show po_ini pd_X11_nosiness = false by decide +kernel]
  exact pk_X11_nosiness pc g h
theorem pz_175 : ∀ pc g, pi_X11_wings pc = some g → px_P 175 pc g := by
  intro pc g h
  unfold px_P
  rw [show pd_md 175 = pd_X11_wings from rfl, show po_ini pd_X11_wings = false by decide +kernel]
  exact pk_X11_wings pc g h
theorem pz_176 : ∀ pc g, pi_X11_count pc = some g → px_P 176 pc g := by
  intro pc g h
  unfold px_P
  rw [show pd_md 176 = pd_X11_count from rfl, show po_ini pd_X11_count = false by decide +kernel]
  exact pk_X11_count pc g h
theorem pz_177 : ∀ pc g, pi_X11_table pc = some g → px_P 177 pc g := by
  intro pc g h
  unfold px_P
  rw [show pd_md 177 = pd_X11_table from rfl, show po_ini pd_X11_table = false by decide +kernel]
  exact pk_X11_table pc g h
theorem pz_178 : ∀ pc g, pi_X11_layer pc = some g → px_P 178 pc g := by
  intro pc g h
  unfold px_P
  rw [show pd_md 178 = pd_X11_layer from rfl, show po_ini pd_X11_layer = false by decide +kernel]
  exact pk_X11_layer pc g h
theorem pz_179 : ∀ pc g, pi_X11_crease pc = some g → px_P 179 pc g := by
  intro pc g h
  unfold px_P
  rw [show pd_md 179 = pd_X11_crease from rfl, show po_ini pd_X11_crease = false by decide +kernel]
  exact pk_X11_crease pc g h
theorem pz_180 : ∀ pc g, pi_X11_launch pc = some g → px_P 180 pc g := by
  intro pc g h
  unfold px_P
  rw [show pd_md 180 = pd_X11_launch from rfl, show po_ini pd_X11_launch = false by decide +kernel]
  exact pk_X11_launch pc g h
theorem pz_181 : ∀ pc g, pi_X11_flyOn pc = some g → px_P 181 pc g := by
  intro pc g h
  unfold px_P
  rw [show pd_md 181 = pd_X11_flyOn from rfl, show po_ini pd_X11_flyOn = false by decide +kernel]
  exact pk_X11_flyOn pc g h
theorem pz_182 : ∀ pc g, pi_X11_fly pc = some g → px_P 182 pc g := by
  intro pc g h
  unfold px_P
  rw [show pd_md 182 = pd_X11_fly from rfl, show po_ini pd_X11_fly = false by decide +kernel]
  exact pk_X11_fly pc g h
theorem pz_183 : ∀ pc g, pi_X11_isThrow pc = some g → px_P 183 pc g := by
  intro pc g h
  unfold px_P
  rw [show pd_md 183 = pd_X11_isThrow from rfl, show po_ini pd_X11_isThrow = false by decide +kernel]
  exact pk_X11_isThrow pc g h
theorem pz_184 : ∀ pc g, pi_X11_flight pc = some g → px_P 184 pc g := by
  intro pc g h
  unfold px_P
  rw [show pd_md 184 = pd_X11_flight from rfl, show po_ini pd_X11_flight = false by decide +kernel]
  exact pk_X11_flight pc g h
theorem pz_185 : ∀ pc g, pi_X11_step pc = some g → px_P 185 pc g := by
  intro pc g h
  unfold px_P
  rw [show pd_md 185 = pd_X11_step from rfl, show po_ini pd_X11_step = false by decide +kernel]
  exact pk_X11_step pc g h
theorem pz_186 : ∀ pc g, pi_X11_power pc = some g → px_P 186 pc g := by
  intro pc g h
  unfold px_P
  rw [show pd_md 186 = pd_X11_power from rfl, show po_ini pd_X11_power = false by decide +kernel]
  exact pk_X11_power pc g h
theorem pz_187 : ∀ pc g, pi_X11_tryRow pc = some g → px_P 187 pc g := by
  intro pc g h
  unfold px_P
  rw [show pd_md 187 = pd_X11_tryRow from rfl, show po_ini pd_X11_tryRow = false by decide +kernel]
  exact pk_X11_tryRow pc g h
theorem pz_188 : ∀ pc g, pi_X11_isSpent pc = some g → px_P 188 pc g := by
  intro pc g h
  unfold px_P
  rw [show pd_md 188 = pd_X11_isSpent from rfl, show po_ini pd_X11_isSpent = false by decide +kernel]
  exact pk_X11_isSpent pc g h
theorem pz_189 : ∀ pc g, pi_X11_keepRow pc = some g → px_P 189 pc g := by
  intro pc g h
  unfold px_P
  rw [show pd_md 189 = pd_X11_keepRow from rfl, show po_ini pd_X11_keepRow = false by decide +kernel]
  exact pk_X11_keepRow pc g h
theorem pz_190 : ∀ pc g, pi_X11_best pc = some g → px_P 190 pc g := by
  intro pc g h
  unfold px_P
  rw [show pd_md 190 = pd_X11_best from rfl, show po_ini pd_X11_best = false by decide +kernel]
  exact pk_X11_best pc g h
theorem pz_191 : ∀ pc g, pi_X11_found pc = some g → px_P 191 pc g := by
  intro pc g h
  unfold px_P
  rw [show pd_md 191 = pd_X11_found from rfl, show po_ini pd_X11_found = false by decide +kernel]
  exact pk_X11_found pc g h
theorem pz_192 : ∀ pc g, pi_X11_sameCreases pc = some g → px_P 192 pc g := by
  intro pc g h
  unfold px_P
  rw [show pd_md 192 = pd_X11_sameCreases from rfl, show po_ini pd_X11_sameCreases = false by decide +kernel]
  exact pk_X11_sameCreases pc g h
theorem pz_193 : ∀ pc g, pi_X11_sameLoads pc = some g → px_P 193 pc g := by
  intro pc g h
  unfold px_P
  rw [show pd_md 193 = pd_X11_sameLoads from rfl, show po_ini pd_X11_sameLoads = false by decide +kernel]
  exact pk_X11_sameLoads pc g h
theorem pz_194 : ∀ pc g, pi_X11_rows pc = some g → px_P 194 pc g := by
  intro pc g h
  unfold px_P
  rw [show pd_md 194 = pd_X11_rows from rfl, show po_ini pd_X11_rows = false by decide +kernel]
  exact pk_X11_rows pc g h
theorem pz_195 : ∀ pc g, pi_X11_common pc = some g → px_P 195 pc g := by
  intro pc g h
  unfold px_P
  rw [show pd_md 195 = pd_X11_common from rfl, show po_ini pd_X11_common = false by decide +kernel]
  exact pk_X11_common pc g h
theorem pz_196 : ∀ pc g, pi_X11_mean pc = some g → px_P 196 pc g := by
  intro pc g h
  unfold px_P
  rw [show pd_md 196 = pd_X11_mean from rfl, show po_ini pd_X11_mean = false by decide +kernel]
  exact pk_X11_mean pc g h
theorem pz_197 : ∀ pc g, pi_X11_throwOn pc = some g → px_P 197 pc g := by
  intro pc g h
  unfold px_P
  rw [show pd_md 197 = pd_X11_throwOn from rfl, show po_ini pd_X11_throwOn = false by decide +kernel]
  exact pk_X11_throwOn pc g h
theorem pz_198 : ∀ pc g, pi_X11_evening pc = some g → px_P 198 pc g := by
  intro pc g h
  unfold px_P
  rw [show pd_md 198 = pd_X11_evening from rfl, show po_ini pd_X11_evening = false by decide +kernel]
  exact pk_X11_evening pc g h
theorem pz_199 : ∀ pc g, pi_X11_trim pc = some g → px_P 199 pc g := by
  intro pc g h
  unfold px_P
  rw [show pd_md 199 = pd_X11_trim from rfl, show po_ini pd_X11_trim = false by decide +kernel]
  exact pk_X11_trim pc g h
theorem pz_200 : ∀ pc g, pi_X11_teach pc = some g → px_P 200 pc g := by
  intro pc g h
  unfold px_P
  rw [show pd_md 200 = pd_X11_teach from rfl, show po_ini pd_X11_teach = false by decide +kernel]
  exact pk_X11_teach pc g h
theorem pz_201 : ∀ pc g, pi_X11_isBut pc = some g → px_P 201 pc g := by
  intro pc g h
  unfold px_P
  rw [show pd_md 201 = pd_X11_isBut from rfl, show po_ini pd_X11_isBut = false by decide +kernel]
  exact pk_X11_isBut pc g h
theorem pz_202 : ∀ pc g, pi_X11_comesOf pc = some g → px_P 202 pc g := by
  intro pc g h
  unfold px_P
  rw [show pd_md 202 = pd_X11_comesOf from rfl, show po_ini pd_X11_comesOf = false by decide +kernel]
  exact pk_X11_comesOf pc g h
theorem pz_203 : ∀ pc g, pi_X11_tellTaught pc = some g → px_P 203 pc g := by
  intro pc g h
  unfold px_P
  rw [show pd_md 203 = pd_X11_tellTaught from rfl, show po_ini pd_X11_tellTaught = false by decide +kernel]
  exact pk_X11_tellTaught pc g h
theorem pz_204 : ∀ pc g, pi_X11_taught pc = some g → px_P 204 pc g := by
  intro pc g h
  unfold px_P
  rw [show pd_md 204 = pd_X11_taught from rfl, show po_ini pd_X11_taught = false by decide +kernel]
  exact pk_X11_taught pc g h
theorem pz_205 : ∀ pc g, pi_X11_be pc = some g → px_P 205 pc g := by
  intro pc g h
  unfold px_P
  rw [show pd_md 205 = pd_X11_be from rfl, show po_ini pd_X11_be = false by decide +kernel]
  exact pk_X11_be pc g h
theorem pz_206 : ∀ pc g, pi_X11_image pc = some g → px_P 206 pc g := by
  intro pc g h
  unfold px_P
  rw [show pd_md 206 = pd_X11_image from rfl, show po_ini pd_X11_image = false by decide +kernel]
  exact pk_X11_image pc g h
theorem pz_207 : ∀ pc g, pi_X11_restore pc = some g → px_P 207 pc g := by
  intro pc g h
  unfold px_P
  rw [show pd_md 207 = pd_X11_restore from rfl, show po_ini pd_X11_restore = false by decide +kernel]
  exact pk_X11_restore pc g h
theorem pz_208 : ∀ pc g, pi_L_school pc = some g → px_P 208 pc g := by
  intro pc g h
  unfold px_P
  rw [show pd_md 208 = pd_L_school from rfl, show po_ini pd_L_school = false by decide +kernel]
  exact pk_L_school pc g h
theorem pz_209 : ∀ pc g, pi_L_row pc = some g → px_P 209 pc g := by
  intro pc g h
  unfold px_P
  rw [show pd_md 209 = pd_L_row from rfl, show po_ini pd_L_row = false by decide +kernel]
  exact pk_L_row pc g h
theorem pz_210 : ∀ pc g, pi_L_count pc = some g → px_P 210 pc g := by
  intro pc g h
  unfold px_P
  rw [show pd_md 210 = pd_L_count from rfl, show po_ini pd_L_count = false by decide +kernel]
  exact pk_L_count pc g h
theorem pz_211 : ∀ pc g, pi_L_table pc = some g → px_P 211 pc g := by
  intro pc g h
  unfold px_P
  rw [show pd_md 211 = pd_L_table from rfl, show po_ini pd_L_table = false by decide +kernel]
  exact pk_L_table pc g h
theorem pz_212 : ∀ pc g, pi_L_fold pc = some g → px_P 212 pc g := by
  intro pc g h
  unfold px_P
  rw [show pd_md 212 = pd_L_fold from rfl, show po_ini pd_L_fold = false by decide +kernel]
  exact pk_L_fold pc g h
theorem pz_213 : ∀ pc g, pi_L_layer pc = some g → px_P 213 pc g := by
  intro pc g h
  unfold px_P
  rw [show pd_md 213 = pd_L_layer from rfl, show po_ini pd_L_layer = false by decide +kernel]
  exact pk_L_layer pc g h
theorem pz_214 : ∀ pc g, pi_L_crease pc = some g → px_P 214 pc g := by
  intro pc g h
  unfold px_P
  rw [show pd_md 214 = pd_L_crease from rfl, show po_ini pd_L_crease = false by decide +kernel]
  exact pk_L_crease pc g h
theorem pz_215 : ∀ pc g, pi_L_flight pc = some g → px_P 215 pc g := by
  intro pc g h
  unfold px_P
  rw [show pd_md 215 = pd_L_flight from rfl, show po_ini pd_L_flight = false by decide +kernel]
  exact pk_L_flight pc g h
theorem pz_216 : ∀ pc g, pi_L_step pc = some g → px_P 216 pc g := by
  intro pc g h
  unfold px_P
  rw [show pd_md 216 = pd_L_step from rfl, show po_ini pd_L_step = false by decide +kernel]
  exact pk_L_step pc g h
theorem pz_217 : ∀ pc g, pi_L_best pc = some g → px_P 217 pc g := by
  intro pc g h
  unfold px_P
  rw [show pd_md 217 = pd_L_best from rfl, show po_ini pd_L_best = false by decide +kernel]
  exact pk_L_best pc g h
theorem pz_218 : ∀ pc g, pi_L_found pc = some g → px_P 218 pc g := by
  intro pc g h
  unfold px_P
  rw [show pd_md 218 = pd_L_found from rfl, show po_ini pd_L_found = false by decide +kernel]
  exact pk_L_found pc g h
theorem pz_219 : ∀ pc g, pi_L_mean pc = some g → px_P 219 pc g := by
  intro pc g h
  unfold px_P
  rw [show pd_md 219 = pd_L_mean from rfl, show po_ini pd_L_mean = false by decide +kernel]
  exact pk_L_mean pc g h
theorem pz_220 : ∀ pc g, pi_L_rows pc = some g → px_P 220 pc g := by
  intro pc g h
  unfold px_P
  rw [show pd_md 220 = pd_L_rows from rfl, show po_ini pd_L_rows = false by decide +kernel]
  exact pk_L_rows pc g h
theorem pz_221 : ∀ pc g, pi_L_evening pc = some g → px_P 221 pc g := by
  intro pc g h
  unfold px_P
  rw [show pd_md 221 = pd_L_evening from rfl, show po_ini pd_L_evening = false by decide +kernel]
  exact pk_L_evening pc g h
theorem pz_222 : ∀ pc g, pi_L_trim pc = some g → px_P 222 pc g := by
  intro pc g h
  unfold px_P
  rw [show pd_md 222 = pd_L_trim from rfl, show po_ini pd_L_trim = false by decide +kernel]
  exact pk_L_trim pc g h
theorem pz_223 : ∀ pc g, pi_L_taught pc = some g → px_P 223 pc g := by
  intro pc g h
  unfold px_P
  rw [show pd_md 223 = pd_L_taught from rfl, show po_ini pd_L_taught = false by decide +kernel]
  exact pk_L_taught pc g h
theorem pz_224 : ∀ pc g, pi_L_law pc = some g → px_P 224 pc g := by
  intro pc g h
  unfold px_P
  rw [show pd_md 224 = pd_L_law from rfl, show po_ini pd_L_law = false by decide +kernel]
  exact pk_L_law pc g h
theorem pz_225 : ∀ pc g, pi_J0_length_8abf5 pc = some g → px_P 225 pc g := by
  intro pc g h
  unfold px_P
  rw [show pd_md 225 = pd_J0_length_8abf5 from rfl, show po_ini pd_J0_length_8abf5 = false by decide +kernel]
  exact pk_J0_length_8abf5 pc g h
theorem pz_226 : ∀ pc g, pi_J0_coder_7d493 pc = some g → px_P 226 pc g := by
  intro pc g h
  unfold px_P
  rw [show pd_md 226 = pd_J0_coder_7d493 from rfl, show po_ini pd_J0_coder_7d493 = false by decide +kernel]
  exact pk_J0_coder_7d493 pc g h
theorem pz_227 : ∀ pc g, pi_J0_charAt_5068e pc = some g → px_P 227 pc g := by
  intro pc g h
  unfold px_P
  rw [show pd_md 227 = pd_J0_charAt_5068e from rfl, show po_ini pd_J0_charAt_5068e = false by decide +kernel]
  exact pk_J0_charAt_5068e pc g h
theorem pz_228 : ∀ pc g, pi_J0_isLatin1_aae02 pc = some g → px_P 228 pc g := by
  intro pc g h
  unfold px_P
  rw [show pd_md 228 = pd_J0_isLatin1_aae02 from rfl, show po_ini pd_J0_isLatin1_aae02 = false by decide +kernel]
  exact pk_J0_isLatin1_aae02 pc g h
theorem pz_229 : ∀ pc g, pi_J1_charAt_3b067 pc = some g → px_P 229 pc g := by
  intro pc g h
  unfold px_P
  rw [show pd_md 229 = pd_J1_charAt_3b067 from rfl, show po_ini pd_J1_charAt_3b067 = false by decide +kernel]
  exact pk_J1_charAt_3b067 pc g h
theorem pz_230 : ∀ pc g, pi_J0_checkIndex_df160 pc = some g → px_P 230 pc g := by
  intro pc g h
  unfold px_P
  rw [show pd_md 230 = pd_J0_checkIndex_df160 from rfl, show po_ini pd_J0_checkIndex_df160 = false by decide +kernel]
  exact pk_J0_checkIndex_df160 pc g h
theorem pz_231 : ∀ pc g, pi_J3_checkIndex_8e157 pc = some g → px_P 231 pc g := by
  intro pc g h
  unfold px_P
  rw [show pd_md 231 = pd_J3_checkIndex_8e157 from rfl, show po_ini pd_J3_checkIndex_8e157 = false by decide +kernel]
  exact pk_J3_checkIndex_8e157 pc g h
theorem pz_232 : ∀ pc g, pi_J6_bitCount_0f7a4 pc = some g → px_P 232 pc g := by
  intro pc g h
  unfold px_P
  rw [show pd_md 232 = pd_J6_bitCount_0f7a4 from rfl, show po_ini pd_J6_bitCount_0f7a4 = false by decide +kernel]
  exact pk_J6_bitCount_0f7a4 pc g h
theorem pz_233 : ∀ pc g, pi_J6_compare_7cf53 pc = some g → px_P 233 pc g := by
  intro pc g h
  unfold px_P
  rw [show pd_md 233 = pd_J6_compare_7cf53 from rfl, show po_ini pd_J6_compare_7cf53 = false by decide +kernel]
  exact pk_J6_compare_7cf53 pc g h
theorem pz_234 : ∀ pc g, pi_J7_fill_53178 pc = some g → px_P 234 pc g := by
  intro pc g h
  unfold px_P
  rw [show pd_md 234 = pd_J7_fill_53178 from rfl, show po_ini pd_J7_fill_53178 = false by decide +kernel]
  exact pk_J7_fill_53178 pc g h
theorem pz_235 : ∀ pc g, pi_J9_floorMod_7cf53 pc = some g → px_P 235 pc g := by
  intro pc g h
  unfold px_P
  rw [show pd_md 235 = pd_J9_floorMod_7cf53 from rfl, show po_ini pd_J9_floorMod_7cf53 = false by decide +kernel]
  exact pk_J9_floorMod_7cf53 pc g h
theorem pz_ins : po_Ins pd_md pi_ins := fun n => by
  unfold pi_ins
  exact (pz_node (pz_node (pz_node (pz_node (pz_node (pz_node (pz_node (pz_leaf pz_0) (pz_node (pz_leaf pz_1) (pz_leaf pz_2))) (pz_node (pz_node (pz_leaf pz_3) (pz_leaf pz_4)) (pz_node (pz_leaf pz_5) (pz_leaf pz_6)))) (pz_node (pz_node (pz_leaf pz_7) (pz_node (pz_leaf pz_8) (pz_leaf pz_9))) (pz_node (pz_node (pz_leaf pz_10) (pz_leaf pz_11)) (pz_node (pz_leaf pz_12) (pz_leaf pz_13))))) (pz_node (pz_node (pz_node (pz_leaf pz_14) (pz_node (pz_leaf pz_15) (pz_leaf pz_16))) (pz_node (pz_node (pz_leaf pz_17) (pz_leaf pz_18)) (pz_node (pz_leaf pz_19) (pz_leaf pz_20)))) (pz_node (pz_node (pz_node (pz_leaf pz_21) (pz_leaf pz_22)) (pz_node (pz_leaf pz_23) (pz_leaf pz_24))) (pz_node (pz_node (pz_leaf pz_25) (pz_leaf pz_26)) (pz_node (pz_leaf pz_27) (pz_leaf pz_28)))))) (pz_node (pz_node (pz_node (pz_node (pz_leaf pz_29) (pz_node (pz_leaf pz_30) (pz_leaf pz_31))) (pz_node (pz_node (pz_leaf pz_32) (pz_leaf pz_33)) (pz_node (pz_leaf pz_34) (pz_leaf pz_35)))) (pz_node (pz_node (pz_node (pz_leaf pz_36) (pz_leaf pz_37)) (pz_node (pz_leaf pz_38) (pz_leaf pz_39))) (pz_node (pz_node (pz_leaf pz_40) (pz_leaf pz_41)) (pz_node (pz_leaf pz_42) (pz_leaf pz_43))))) (pz_node (pz_node (pz_node (pz_leaf pz_44) (pz_node (pz_leaf pz_45) (pz_leaf pz_46))) (pz_node (pz_node (pz_leaf pz_47) (pz_leaf pz_48)) (pz_node (pz_leaf pz_49) (pz_leaf pz_50)))) (pz_node (pz_node (pz_node (pz_leaf pz_51) (pz_leaf pz_52)) (pz_node (pz_leaf pz_53) (pz_leaf pz_54))) (pz_node (pz_node (pz_leaf pz_55) (pz_leaf pz_56)) (pz_node (pz_leaf pz_57) (pz_leaf pz_58))))))) (pz_node (pz_node (pz_node (pz_node (pz_node (pz_leaf pz_59) (pz_node (pz_leaf pz_60) (pz_leaf pz_61))) (pz_node (pz_node (pz_leaf pz_62) (pz_leaf pz_63)) (pz_node (pz_leaf pz_64) (pz_leaf pz_65)))) (pz_node (pz_node (pz_leaf pz_66) (pz_node (pz_leaf pz_67) (pz_leaf pz_68))) (pz_node (pz_node (pz_leaf pz_69) (pz_leaf pz_70)) (pz_node (pz_leaf pz_71) (pz_leaf pz_72))))) (pz_node (pz_node (pz_node (pz_leaf pz_73) (pz_node (pz_leaf pz_74) (pz_leaf pz_75))) (pz_node (pz_node (pz_leaf pz_76) (pz_leaf pz_77)) (pz_node (pz_leaf pz_78) (pz_leaf pz_79)))) (pz_node (pz_node (pz_node (pz_leaf pz_80) (pz_leaf pz_81)) (pz_node (pz_leaf pz_82) (pz_leaf pz_83))) (pz_node (pz_node (pz_leaf pz_84) (pz_leaf pz_85)) (pz_node (pz_leaf pz_86) (pz_leaf pz_87)))))) (pz_node (pz_node (pz_node (pz_node (pz_leaf pz_88) (pz_node (pz_leaf pz_89) (pz_leaf pz_90))) (pz_node (pz_node (pz_leaf pz_91) (pz_leaf pz_92)) (pz_node (pz_leaf pz_93) (pz_leaf pz_94)))) (pz_node (pz_node (pz_node (pz_leaf pz_95) (pz_leaf pz_96)) (pz_node (pz_leaf pz_97) (pz_leaf pz_98))) (pz_node (pz_node (pz_leaf pz_99) (pz_leaf pz_100)) (pz_node (pz_leaf pz_101) (pz_leaf pz_102))))) (pz_node (pz_node (pz_node (pz_leaf pz_103) (pz_node (pz_leaf pz_104) (pz_leaf pz_105))) (pz_node (pz_node (pz_leaf pz_106) (pz_leaf pz_107)) (pz_node (pz_leaf pz_108) (pz_leaf pz_109)))) (pz_node (pz_node (pz_node (pz_leaf pz_110) (pz_leaf pz_111)) (pz_node (pz_leaf pz_112) (pz_leaf pz_113))) (pz_node (pz_node (pz_leaf pz_114) (pz_leaf pz_115)) (pz_node (pz_leaf pz_116) (pz_leaf pz_117)))))))) (pz_node (pz_node (pz_node (pz_node (pz_node (pz_node (pz_leaf pz_118) (pz_node (pz_leaf pz_119) (pz_leaf pz_120))) (pz_node (pz_node (pz_leaf pz_121) (pz_leaf pz_122)) (pz_node (pz_leaf pz_123) (pz_leaf pz_124)))) (pz_node (pz_node (pz_leaf pz_125) (pz_node (pz_leaf pz_126) (pz_leaf pz_127))) (pz_node (pz_node (pz_leaf pz_128) (pz_leaf pz_129)) (pz_node (pz_leaf pz_130) (pz_leaf pz_131))))) (pz_node (pz_node (pz_node (pz_leaf pz_132) (pz_node (pz_leaf pz_133) (pz_leaf pz_134))) (pz_node (pz_node (pz_leaf pz_135) (pz_leaf pz_136)) (pz_node (pz_leaf pz_137) (pz_leaf pz_138)))) (pz_node (pz_node (pz_node (pz_leaf pz_139) (pz_leaf pz_140)) (pz_node (pz_leaf pz_141) (pz_leaf pz_142))) (pz_node (pz_node (pz_leaf pz_143) (pz_leaf pz_144)) (pz_node (pz_leaf pz_145) (pz_leaf pz_146)))))) (pz_node (pz_node (pz_node (pz_node (pz_leaf pz_147) (pz_node (pz_leaf pz_148) (pz_leaf pz_149))) (pz_node (pz_node (pz_leaf pz_150) (pz_leaf pz_151)) (pz_node (pz_leaf pz_152) (pz_leaf pz_153)))) (pz_node (pz_node (pz_node (pz_leaf pz_154) (pz_leaf pz_155)) (pz_node (pz_leaf pz_156) (pz_leaf pz_157))) (pz_node (pz_node (pz_leaf pz_158) (pz_leaf pz_159)) (pz_node (pz_leaf pz_160) (pz_leaf pz_161))))) (pz_node (pz_node (pz_node (pz_leaf pz_162) (pz_node (pz_leaf pz_163) (pz_leaf pz_164))) (pz_node (pz_node (pz_leaf pz_165) (pz_leaf pz_166)) (pz_node (pz_leaf pz_167) (pz_leaf pz_168)))) (pz_node (pz_node (pz_node (pz_leaf pz_169) (pz_leaf pz_170)) (pz_node (pz_leaf pz_171) (pz_leaf pz_172))) (pz_node (pz_node (pz_leaf pz_173) (pz_leaf pz_174)) (pz_node (pz_leaf pz_175) (pz_leaf pz_176))))))) (pz_node (pz_node (pz_node (pz_node (pz_node (pz_leaf pz_177) (pz_node (pz_leaf pz_178) (pz_leaf pz_179))) (pz_node (pz_node (pz_leaf pz_180) (pz_leaf pz_181)) (pz_node (pz_leaf pz_182) (pz_leaf pz_183)))) (pz_node (pz_node (pz_leaf pz_184) (pz_node (pz_leaf pz_185) (pz_leaf pz_186))) (pz_node (pz_node (pz_leaf pz_187) (pz_leaf pz_188)) (pz_node (pz_leaf pz_189) (pz_leaf pz_190))))) (pz_node (pz_node (pz_node (pz_leaf pz_191) (pz_node (pz_leaf pz_192) (pz_leaf pz_193))) (pz_node (pz_node (pz_leaf pz_194) (pz_leaf pz_195)) (pz_node (pz_leaf pz_196) (pz_leaf pz_197)))) (pz_node (pz_node (pz_node (pz_leaf pz_198) (pz_leaf pz_199)) (pz_node (pz_leaf pz_200) (pz_leaf pz_201))) (pz_node (pz_node (pz_leaf pz_202) (pz_leaf pz_203)) (pz_node (pz_leaf pz_204) (pz_leaf pz_205)))))) (pz_node (pz_node (pz_node (pz_node (pz_leaf pz_206) (pz_node (pz_leaf pz_207) (pz_leaf pz_208))) (pz_node (pz_node (pz_leaf pz_209) (pz_leaf pz_210)) (pz_node (pz_leaf pz_211) (pz_leaf pz_212)))) (pz_node (pz_node (pz_node (pz_leaf pz_213) (pz_leaf pz_214)) (pz_node (pz_leaf pz_215) (pz_leaf pz_216))) (pz_node (pz_node (pz_leaf pz_217) (pz_leaf pz_218)) (pz_node (pz_leaf pz_219) (pz_leaf pz_220))))) (pz_node (pz_node (pz_node (pz_leaf pz_221) (pz_node (pz_leaf pz_222) (pz_leaf pz_223))) (pz_node (pz_node (pz_leaf pz_224) (pz_leaf pz_225)) (pz_node (pz_leaf pz_226) (pz_leaf pz_227)))) (pz_node (pz_node (pz_node (pz_leaf pz_228) (pz_leaf pz_229)) (pz_node (pz_leaf pz_230) (pz_leaf pz_231))) (pz_node (pz_node (pz_leaf pz_232) (pz_leaf pz_233)) (pz_node (pz_leaf pz_234) (pz_leaf pz_235)))))))))
theorem pz_pn : ∀ n, plainFor (pd_md n).1 = true := fun n => by
  unfold pd_md
  exact (pz_nodeV (P := fun D : po_M => plainFor D.1 = true) (pz_nodeV (P := fun D : po_M => plainFor D.1 = true) (pz_nodeV (P := fun D : po_M => plainFor D.1 = true) (pz_nodeV (P := fun D : po_M => plainFor D.1 = true) (pz_nodeV (P := fun D : po_M => plainFor D.1 = true) (pz_nodeV (P := fun D : po_M => plainFor D.1 = true) (pz_nodeV (P := fun D : po_M => plainFor D.1 = true) (plainFor_of_name (by decide +kernel)) (pz_nodeV (P := fun D : po_M => plainFor D.1 = true) (plainFor_of_name (by decide +kernel)) (plainFor_of_name (by decide +kernel)))) (pz_nodeV (P := fun D : po_M => plainFor D.1 = true) (pz_nodeV (P := fun D : po_M => plainFor D.1 = true) (plainFor_of_name (by decide +kernel)) (plainFor_of_name (by decide +kernel))) (pz_nodeV (P := fun D : po_M => plainFor D.1 = true) (plainFor_of_name (by decide +kernel)) (plainFor_of_name (by decide +kernel))))) (pz_nodeV (P := fun D : po_M => plainFor D.1 = true) (pz_nodeV (P := fun D : po_M => plainFor D.1 = true) (plainFor_of_name (by decide +kernel)) (pz_nodeV (P := fun D : po_M => plainFor D.1 = true) (plainFor_of_name (by decide +kernel)) (plainFor_of_name (by decide +kernel)))) (pz_nodeV (P := fun D : po_M => plainFor D.1 = true) (pz_nodeV (P := fun D : po_M => plainFor D.1 = true) (plainFor_of_name (by decide +kernel)) (plainFor_of_name (by decide +kernel))) (pz_nodeV (P := fun D : po_M => plainFor D.1 = true) (plainFor_of_name (by decide +kernel)) (plainFor_of_name (by decide +kernel)))))) (pz_nodeV (P := fun D : po_M => plainFor D.1 = true) (pz_nodeV (P := fun D : po_M => plainFor D.1 = true) (pz_nodeV (P := fun D : po_M => plainFor D.1 = true) (plainFor_of_name (by decide +kernel)) (pz_nodeV (P := fun D : po_M => plainFor D.1 = true) (plainFor_of_name (by decide +kernel)) (plainFor_of_name (by decide +kernel)))) (pz_nodeV (P := fun D : po_M => plainFor D.1 = true) (pz_nodeV (P := fun D : po_M => plainFor D.1 = true) (plainFor_of_name (by decide +kernel)) (plainFor_of_name (by decide +kernel))) (pz_nodeV (P := fun D : po_M => plainFor D.1 = true) (plainFor_of_name (by decide +kernel)) (plainFor_of_name (by decide +kernel))))) (pz_nodeV (P := fun D : po_M => plainFor D.1 = true) (pz_nodeV (P := fun D : po_M => plainFor D.1 = true) (pz_nodeV (P := fun D : po_M => plainFor D.1 = true) (plainFor_of_name (by decide +kernel)) (plainFor_of_name (by decide +kernel))) (pz_nodeV (P := fun D : po_M => plainFor D.1 = true) (plainFor_of_name (by decide +kernel)) (plainFor_of_name (by decide +kernel)))) (pz_nodeV (P := fun D : po_M => plainFor D.1 = true) (pz_nodeV (P := fun D : po_M => plainFor D.1 = true) (plainFor_of_name (by decide +kernel)) (plainFor_of_name (by decide +kernel))) (pz_nodeV (P := fun D : po_M => plainFor D.1 = true) (plainFor_of_name (by decide +kernel)) (plainFor_of_name (by decide +kernel))))))) (pz_nodeV (P := fun D : po_M => plainFor D.1 = true) (pz_nodeV (P := fun D : po_M => plainFor D.1 = true) (pz_nodeV (P := fun D : po_M => plainFor D.1 = true) (pz_nodeV (P := fun D : po_M => plainFor D.1 = true) (plainFor_of_name (by decide +kernel)) (pz_nodeV (P := fun D : po_M => plainFor D.1 = true) (plainFor_of_name (by decide +kernel)) (plainFor_of_name (by decide +kernel)))) (pz_nodeV (P := fun D : po_M => plainFor D.1 = true) (pz_nodeV (P := fun D : po_M => plainFor D.1 = true) (plainFor_of_name (by decide +kernel)) (plainFor_of_name (by decide +kernel))) (pz_nodeV (P := fun D : po_M => plainFor D.1 = true) (plainFor_of_name (by decide +kernel)) (plainFor_of_name (by decide +kernel))))) (pz_nodeV (P := fun D : po_M => plainFor D.1 = true) (pz_nodeV (P := fun D : po_M => plainFor D.1 = true) (pz_nodeV (P := fun D : po_M => plainFor D.1 = true) (plainFor_of_name (by decide +kernel)) (plainFor_of_name (by decide +kernel))) (pz_nodeV (P := fun D : po_M => plainFor D.1 = true) (plainFor_of_name (by decide +kernel)) (plainFor_of_name (by decide +kernel)))) (pz_nodeV (P := fun D : po_M => plainFor D.1 = true) (pz_nodeV (P := fun D : po_M => plainFor D.1 = true) (plainFor_of_name (by decide +kernel)) (plainFor_of_name (by decide +kernel))) (pz_nodeV (P := fun D : po_M => plainFor D.1 = true) (plainFor_of_name (by decide +kernel)) (plainFor_of_name (by decide +kernel)))))) (pz_nodeV (P := fun D : po_M => plainFor D.1 = true) (pz_nodeV (P := fun D : po_M => plainFor D.1 = true) (pz_nodeV (P := fun D : po_M => plainFor D.1 = true) (plainFor_of_name (by decide +kernel)) (pz_nodeV (P := fun D : po_M => plainFor D.1 = true) (plainFor_of_name (by decide +kernel)) (plainFor_of_name (by decide +kernel)))) (pz_nodeV (P := fun D : po_M => plainFor D.1 = true) (pz_nodeV (P := fun D : po_M => plainFor D.1 = true) (plainFor_of_name (by decide +kernel)) (plainFor_of_name (by decide +kernel))) (pz_nodeV (P := fun D : po_M => plainFor D.1 = true) (plainFor_of_name (by decide +kernel)) (plainFor_of_name (by decide +kernel))))) (pz_nodeV (P := fun D : po_M => plainFor D.1 = true) (pz_nodeV (P := fun D : po_M => plainFor D.1 = true) (pz_nodeV (P := fun D : po_M => plainFor D.1 = true) (plainFor_of_name (by decide +kernel)) (plainFor_of_name (by decide +kernel))) (pz_nodeV (P := fun D : po_M => plainFor D.1 = true) (plainFor_of_name (by decide +kernel)) (plainFor_of_name (by decide +kernel)))) (pz_nodeV (P := fun D : po_M => plainFor D.1 = true) (pz_nodeV (P := fun D : po_M => plainFor D.1 = true) (plainFor_of_name (by decide +kernel)) (plainFor_of_name (by decide +kernel))) (pz_nodeV (P := fun D : po_M => plainFor D.1 = true) (plainFor_of_name (by decide +kernel)) (plainFor_of_name (by decide +kernel)))))))) (pz_nodeV (P := fun D : po_M => plainFor D.1 = true) (pz_nodeV (P := fun D : po_M => plainFor D.1 = true) (pz_nodeV (P := fun D : po_M => plainFor D.1 = true) (pz_nodeV (P := fun D : po_M => plainFor D.1 = true) (pz_nodeV (P := fun D : po_M => plainFor D.1 = true) (plainFor_of_name (by decide +kernel)) (pz_nodeV (P := fun D : po_M => plainFor D.1 = true) (plainFor_of_name (by decide +kernel)) (plainFor_of_name (by decide +kernel)))) (pz_nodeV (P := fun D : po_M => plainFor D.1 = true) (pz_nodeV (P := fun D : po_M => plainFor D.1 = true) (plainFor_of_name (by decide +kernel)) (plainFor_of_name (by decide +kernel))) (pz_nodeV (P := fun D : po_M => plainFor D.1 = true) (plainFor_of_name (by decide +kernel)) (plainFor_of_name (by decide +kernel))))) (pz_nodeV (P := fun D : po_M => plainFor D.1 = true) (pz_nodeV (P := fun D : po_M => plainFor D.1 = true) (plainFor_of_name (by decide +kernel)) (pz_nodeV (P := fun D : po_M => plainFor D.1 = true) (plainFor_of_name (by decide +kernel)) (plainFor_of_name (by decide +kernel)))) (pz_nodeV (P := fun D : po_M => plainFor D.1 = true) (pz_nodeV (P := fun D : po_M => plainFor D.1 = true) (plainFor_of_name (by decide +kernel)) (plainFor_of_name (by decide +kernel))) (pz_nodeV (P := fun D : po_M => plainFor D.1 = true) (plainFor_of_name (by decide +kernel)) (plainFor_of_name (by decide +kernel)))))) (pz_nodeV (P := fun D : po_M => plainFor D.1 = true) (pz_nodeV (P := fun D : po_M => plainFor D.1 = true) (pz_nodeV (P := fun D : po_M => plainFor D.1 = true) (plainFor_of_name (by decide +kernel)) (pz_nodeV (P := fun D : po_M => plainFor D.1 = true) (plainFor_of_name (by decide +kernel)) (plainFor_of_name (by decide +kernel)))) (pz_nodeV (P := fun D : po_M => plainFor D.1 = true) (pz_nodeV (P := fun D : po_M => plainFor D.1 = true) (plainFor_of_name (by decide +kernel)) (plainFor_of_name (by decide +kernel))) (pz_nodeV (P := fun D : po_M => plainFor D.1 = true) (plainFor_of_name (by decide +kernel)) (plainFor_of_name (by decide +kernel))))) (pz_nodeV (P := fun D : po_M => plainFor D.1 = true) (pz_nodeV (P := fun D : po_M => plainFor D.1 = true) (pz_nodeV (P := fun D : po_M => plainFor D.1 = true) (plainFor_of_name (by decide +kernel)) (plainFor_of_name (by decide +kernel))) (pz_nodeV (P := fun D : po_M => plainFor D.1 = true) (plainFor_of_name (by decide +kernel)) (plainFor_of_name (by decide +kernel)))) (pz_nodeV (P := fun D : po_M => plainFor D.1 = true) (pz_nodeV (P := fun D : po_M => plainFor D.1 = true) (plainFor_of_name (by decide +kernel)) (plainFor_of_name (by decide +kernel))) (pz_nodeV (P := fun D : po_M => plainFor D.1 = true) (plainFor_of_name (by decide +kernel)) (plainFor_of_name (by decide +kernel))))))) (pz_nodeV (P := fun D : po_M => plainFor D.1 = true) (pz_nodeV (P := fun D : po_M => plainFor D.1 = true) (pz_nodeV (P := fun D : po_M => plainFor D.1 = true) (pz_nodeV (P := fun D : po_M => plainFor D.1 = true) (plainFor_of_name (by decide +kernel)) (pz_nodeV (P := fun D : po_M => plainFor D.1 = true) (plainFor_of_name (by decide +kernel)) (plainFor_of_name (by decide +kernel)))) (pz_nodeV (P := fun D : po_M => plainFor D.1 = true) (pz_nodeV (P := fun D : po_M => plainFor D.1 = true) (plainFor_of_name (by decide +kernel)) (plainFor_of_name (by decide +kernel))) (pz_nodeV (P := fun D : po_M => plainFor D.1 = true) (plainFor_of_name (by decide +kernel)) (plainFor_of_name (by decide +kernel))))) (pz_nodeV (P := fun D : po_M => plainFor D.1 = true) (pz_nodeV (P := fun D : po_M => plainFor D.1 = true) (pz_nodeV (P := fun D : po_M => plainFor D.1 = true) (plainFor_of_name (by decide +kernel)) (plainFor_of_name (by decide +kernel))) (pz_nodeV (P := fun D : po_M => plainFor D.1 = true) (plainFor_of_name (by decide +kernel)) (plainFor_of_name (by decide +kernel)))) (pz_nodeV (P := fun D : po_M => plainFor D.1 = true) (pz_nodeV (P := fun D : po_M => plainFor D.1 = true) (plainFor_of_name (by decide +kernel)) (plainFor_of_name (by decide +kernel))) (pz_nodeV (P := fun D : po_M => plainFor D.1 = true) (plainFor_of_name (by decide +kernel)) (plainFor_of_name (by decide +kernel)))))) (pz_nodeV (P := fun D : po_M => plainFor D.1 = true) (pz_nodeV (P := fun D : po_M => plainFor D.1 = true) (pz_nodeV (P := fun D : po_M => plainFor D.1 = true) (plainFor_of_name (by decide +kernel)) (pz_nodeV (P := fun D : po_M => plainFor D.1 = true) (plainFor_of_name (by decide +kernel)) (plainFor_of_name (by decide +kernel)))) (pz_nodeV (P := fun D : po_M => plainFor D.1 = true) (pz_nodeV (P := fun D : po_M => plainFor D.1 = true) (plainFor_of_name (by decide +kernel)) (plainFor_of_name (by decide +kernel))) (pz_nodeV (P := fun D : po_M => plainFor D.1 = true) (plainFor_of_name (by decide +kernel)) (plainFor_of_name (by decide +kernel))))) (pz_nodeV (P := fun D : po_M => plainFor D.1 = true) (pz_nodeV (P := fun D : po_M => plainFor D.1 = true) (pz_nodeV (P := fun D : po_M => plainFor D.1 = true) (plainFor_of_name (by decide +kernel)) (plainFor_of_name (by decide +kernel))) (pz_nodeV (P := fun D : po_M => plainFor D.1 = true) (plainFor_of_name (by decide +kernel)) (plainFor_of_name (by decide +kernel)))) (pz_nodeV (P := fun D : po_M => plainFor D.1 = true) (pz_nodeV (P := fun D : po_M => plainFor D.1 = true) (plainFor_of_name (by decide +kernel)) (plainFor_of_name (by decide +kernel))) (pz_nodeV (P := fun D : po_M => plainFor D.1 = true) (plainFor_of_name (by decide +kernel)) (plainFor_of_name (by decide +kernel))))))))) (pz_nodeV (P := fun D : po_M => plainFor D.1 = true) (pz_nodeV (P := fun D : po_M => plainFor D.1 = true) (pz_nodeV (P := fun D : po_M => plainFor D.1 = true) (pz_nodeV (P := fun D : po_M => plainFor D.1 = true) (pz_nodeV (P := fun D : po_M => plainFor D.1 = true) (pz_nodeV (P := fun D : po_M => plainFor D.1 = true) (plainFor_of_name (by decide +kernel)) (pz_nodeV (P := fun D : po_M => plainFor D.1 = true) (plainFor_of_name (by decide +kernel)) (plainFor_of_name (by decide +kernel)))) (pz_nodeV (P := fun D : po_M => plainFor D.1 = true) (pz_nodeV (P := fun D : po_M => plainFor D.1 = true) (plainFor_of_name (by decide +kernel)) (plainFor_of_name (by decide +kernel))) (pz_nodeV (P := fun D : po_M => plainFor D.1 = true) (plainFor_of_name (by decide +kernel)) (plainFor_of_name (by decide +kernel))))) (pz_nodeV (P := fun D : po_M => plainFor D.1 = true) (pz_nodeV (P := fun D : po_M => plainFor D.1 = true) (plainFor_of_name (by decide +kernel)) (pz_nodeV (P := fun D : po_M => plainFor D.1 = true) (plainFor_of_name (by decide +kernel)) (plainFor_of_name (by decide +kernel)))) (pz_nodeV (P := fun D : po_M => plainFor D.1 = true) (pz_nodeV (P := fun D : po_M => plainFor D.1 = true) (plainFor_of_name (by decide +kernel)) (plainFor_of_name (by decide +kernel))) (pz_nodeV (P := fun D : po_M => plainFor D.1 = true) (plainFor_of_name (by decide +kernel)) (plainFor_of_name (by decide +kernel)))))) (pz_nodeV (P := fun D : po_M => plainFor D.1 = true) (pz_nodeV (P := fun D : po_M => plainFor D.1 = true) (pz_nodeV (P := fun D : po_M => plainFor D.1 = true) (plainFor_of_name (by decide +kernel)) (pz_nodeV (P := fun D : po_M => plainFor D.1 = true) (plainFor_of_name (by decide +kernel)) (plainFor_of_name (by decide +kernel)))) (pz_nodeV (P := fun D : po_M => plainFor D.1 = true) (pz_nodeV (P := fun D : po_M => plainFor D.1 = true) (plainFor_of_name (by decide +kernel)) (plainFor_of_name (by decide +kernel))) (pz_nodeV (P := fun D : po_M => plainFor D.1 = true) (plainFor_of_name (by decide +kernel)) (plainFor_of_name (by decide +kernel))))) (pz_nodeV (P := fun D : po_M => plainFor D.1 = true) (pz_nodeV (P := fun D : po_M => plainFor D.1 = true) (pz_nodeV (P := fun D : po_M => plainFor D.1 = true) (plainFor_of_name (by decide +kernel)) (plainFor_of_name (by decide +kernel))) (pz_nodeV (P := fun D : po_M => plainFor D.1 = true) (plainFor_of_name (by decide +kernel)) (plainFor_of_name (by decide +kernel)))) (pz_nodeV (P := fun D : po_M => plainFor D.1 = true) (pz_nodeV (P := fun D : po_M => plainFor D.1 = true) (plainFor_of_name (by decide +kernel)) (plainFor_of_name (by decide +kernel))) (pz_nodeV (P := fun D : po_M => plainFor D.1 = true) (plainFor_of_name (by decide +kernel)) (plainFor_of_name (by decide +kernel))))))) (pz_nodeV (P := fun D : po_M => plainFor D.1 = true) (pz_nodeV (P := fun D : po_M => plainFor D.1 = true) (pz_nodeV (P := fun D : po_M => plainFor D.1 = true) (pz_nodeV (P := fun D : po_M => plainFor D.1 = true) (plainFor_of_name (by decide +kernel)) (pz_nodeV (P := fun D : po_M => plainFor D.1 = true) (plainFor_of_name (by decide +kernel)) (plainFor_of_name (by decide +kernel)))) (pz_nodeV (P := fun D : po_M => plainFor D.1 = true) (pz_nodeV (P := fun D : po_M => plainFor D.1 = true) (plainFor_of_name (by decide +kernel)) (plainFor_of_name (by decide +kernel))) (pz_nodeV (P := fun D : po_M => plainFor D.1 = true) (plainFor_of_name (by decide +kernel)) (plainFor_of_name (by decide +kernel))))) (pz_nodeV (P := fun D : po_M => plainFor D.1 = true) (pz_nodeV (P := fun D : po_M => plainFor D.1 = true) (pz_nodeV (P := fun D : po_M => plainFor D.1 = true) (plainFor_of_name (by decide +kernel)) (plainFor_of_name (by decide +kernel))) (pz_nodeV (P := fun D : po_M => plainFor D.1 = true) (plainFor_of_name (by decide +kernel)) (plainFor_of_name (by decide +kernel)))) (pz_nodeV (P := fun D : po_M => plainFor D.1 = true) (pz_nodeV (P := fun D : po_M => plainFor D.1 = true) (plainFor_of_name (by decide +kernel)) (plainFor_of_name (by decide +kernel))) (pz_nodeV (P := fun D : po_M => plainFor D.1 = true) (plainFor_of_name (by decide +kernel)) (plainFor_of_name (by decide +kernel)))))) (pz_nodeV (P := fun D : po_M => plainFor D.1 = true) (pz_nodeV (P := fun D : po_M => plainFor D.1 = true) (pz_nodeV (P := fun D : po_M => plainFor D.1 = true) (plainFor_of_name (by decide +kernel)) (pz_nodeV (P := fun D : po_M => plainFor D.1 = true) (plainFor_of_name (by decide +kernel)) (plainFor_of_name (by decide +kernel)))) (pz_nodeV (P := fun D : po_M => plainFor D.1 = true) (pz_nodeV (P := fun D : po_M => plainFor D.1 = true) (plainFor_of_name (by decide +kernel)) (plainFor_of_name (by decide +kernel))) (pz_nodeV (P := fun D : po_M => plainFor D.1 = true) (plainFor_of_name (by decide +kernel)) (plainFor_of_name (by decide +kernel))))) (pz_nodeV (P := fun D : po_M => plainFor D.1 = true) (pz_nodeV (P := fun D : po_M => plainFor D.1 = true) (pz_nodeV (P := fun D : po_M => plainFor D.1 = true) (plainFor_of_name (by decide +kernel)) (plainFor_of_name (by decide +kernel))) (pz_nodeV (P := fun D : po_M => plainFor D.1 = true) (plainFor_of_name (by decide +kernel)) (plainFor_of_name (by decide +kernel)))) (pz_nodeV (P := fun D : po_M => plainFor D.1 = true) (pz_nodeV (P := fun D : po_M => plainFor D.1 = true) (plainFor_of_name (by decide +kernel)) (plainFor_of_name (by decide +kernel))) (pz_nodeV (P := fun D : po_M => plainFor D.1 = true) (plainFor_of_name (by decide +kernel)) (plainFor_of_name (by decide +kernel)))))))) (pz_nodeV (P := fun D : po_M => plainFor D.1 = true) (pz_nodeV (P := fun D : po_M => plainFor D.1 = true) (pz_nodeV (P := fun D : po_M => plainFor D.1 = true) (pz_nodeV (P := fun D : po_M => plainFor D.1 = true) (pz_nodeV (P := fun D : po_M => plainFor D.1 = true) (plainFor_of_name (by decide +kernel)) (pz_nodeV (P := fun D : po_M => plainFor D.1 = true) (plainFor_of_name (by decide +kernel)) (plainFor_of_name (by decide +kernel)))) (pz_nodeV (P := fun D : po_M => plainFor D.1 = true) (pz_nodeV (P := fun D : po_M => plainFor D.1 = true) (plainFor_of_name (by decide +kernel)) (plainFor_of_name (by decide +kernel))) (pz_nodeV (P := fun D : po_M => plainFor D.1 = true) (plainFor_of_name (by decide +kernel)) (plainFor_of_name (by decide +kernel))))) (pz_nodeV (P := fun D : po_M => plainFor D.1 = true) (pz_nodeV (P := fun D : po_M => plainFor D.1 = true) (plainFor_of_name (by decide +kernel)) (pz_nodeV (P := fun D : po_M => plainFor D.1 = true) (plainFor_of_name (by decide +kernel)) (plainFor_of_name (by decide +kernel)))) (pz_nodeV (P := fun D : po_M => plainFor D.1 = true) (pz_nodeV (P := fun D : po_M => plainFor D.1 = true) (plainFor_of_name (by decide +kernel)) (plainFor_of_name (by decide +kernel))) (pz_nodeV (P := fun D : po_M => plainFor D.1 = true) (plainFor_of_name (by decide +kernel)) (plainFor_of_name (by decide +kernel)))))) (pz_nodeV (P := fun D : po_M => plainFor D.1 = true) (pz_nodeV (P := fun D : po_M => plainFor D.1 = true) (pz_nodeV (P := fun D : po_M => plainFor D.1 = true) (plainFor_of_name (by decide +kernel)) (pz_nodeV (P := fun D : po_M => plainFor D.1 = true) (plainFor_of_name (by decide +kernel)) (plainFor_of_name (by decide +kernel)))) (pz_nodeV (P := fun D : po_M => plainFor D.1 = true) (pz_nodeV (P := fun D : po_M => plainFor D.1 = true) (plainFor_of_name (by decide +kernel)) (plainFor_of_name (by decide +kernel))) (pz_nodeV (P := fun D : po_M => plainFor D.1 = true) (plainFor_of_name (by decide +kernel)) (plainFor_of_name (by decide +kernel))))) (pz_nodeV (P := fun D : po_M => plainFor D.1 = true) (pz_nodeV (P := fun D : po_M => plainFor D.1 = true) (pz_nodeV (P := fun D : po_M => plainFor D.1 = true) (plainFor_of_name (by decide +kernel)) (plainFor_of_name (by decide +kernel))) (pz_nodeV (P := fun D : po_M => plainFor D.1 = true) (plainFor_of_name (by decide +kernel)) (plainFor_of_name (by decide +kernel)))) (pz_nodeV (P := fun D : po_M => plainFor D.1 = true) (pz_nodeV (P := fun D : po_M => plainFor D.1 = true) (plainFor_of_name (by decide +kernel)) (plainFor_of_name (by decide +kernel))) (pz_nodeV (P := fun D : po_M => plainFor D.1 = true) (plainFor_of_name (by decide +kernel)) (plainFor_of_name (by decide +kernel))))))) (pz_nodeV (P := fun D : po_M => plainFor D.1 = true) (pz_nodeV (P := fun D : po_M => plainFor D.1 = true) (pz_nodeV (P := fun D : po_M => plainFor D.1 = true) (pz_nodeV (P := fun D : po_M => plainFor D.1 = true) (plainFor_of_name (by decide +kernel)) (pz_nodeV (P := fun D : po_M => plainFor D.1 = true) (plainFor_of_name (by decide +kernel)) (plainFor_of_name (by decide +kernel)))) (pz_nodeV (P := fun D : po_M => plainFor D.1 = true) (pz_nodeV (P := fun D : po_M => plainFor D.1 = true) (plainFor_of_name (by decide +kernel)) (plainFor_of_name (by decide +kernel))) (pz_nodeV (P := fun D : po_M => plainFor D.1 = true) (plainFor_of_name (by decide +kernel)) (plainFor_of_name (by decide +kernel))))) (pz_nodeV (P := fun D : po_M => plainFor D.1 = true) (pz_nodeV (P := fun D : po_M => plainFor D.1 = true) (pz_nodeV (P := fun D : po_M => plainFor D.1 = true) (plainFor_of_name (by decide +kernel)) (plainFor_of_name (by decide +kernel))) (pz_nodeV (P := fun D : po_M => plainFor D.1 = true) (plainFor_of_name (by decide +kernel)) (plainFor_of_name (by decide +kernel)))) (pz_nodeV (P := fun D : po_M => plainFor D.1 = true) (pz_nodeV (P := fun D : po_M => plainFor D.1 = true) (plainFor_of_name (by decide +kernel)) (plainFor_of_name (by decide +kernel))) (pz_nodeV (P := fun D : po_M => plainFor D.1 = true) (plainFor_of_name (by decide +kernel)) (plainFor_of_name (by decide +kernel)))))) (pz_nodeV (P := fun D : po_M => plainFor D.1 = true) (pz_nodeV (P := fun D : po_M => plainFor D.1 = true) (pz_nodeV (P := fun D : po_M => plainFor D.1 = true) (plainFor_of_name (by decide +kernel)) (pz_nodeV (P := fun D : po_M => plainFor D.1 = true) (plainFor_of_name (by decide +kernel)) (plainFor_of_name (by decide +kernel)))) (pz_nodeV (P := fun D : po_M => plainFor D.1 = true) (pz_nodeV (P := fun D : po_M => plainFor D.1 = true) (plainFor_of_name (by decide +kernel)) (plainFor_of_name (by decide +kernel))) (pz_nodeV (P := fun D : po_M => plainFor D.1 = true) (plainFor_of_name (by decide +kernel)) (plainFor_of_name (by decide +kernel))))) (pz_nodeV (P := fun D : po_M => plainFor D.1 = true) (pz_nodeV (P := fun D : po_M => plainFor D.1 = true) (pz_nodeV (P := fun D : po_M => plainFor D.1 = true) (plainFor_of_name (by decide +kernel)) (plainFor_of_name (by decide +kernel))) (pz_nodeV (P := fun D : po_M => plainFor D.1 = true) (plainFor_of_name (by decide +kernel)) (plainFor_of_name (by decide +kernel)))) (pz_nodeV (P := fun D : po_M => plainFor D.1 = true) (pz_nodeV (P := fun D : po_M => plainFor D.1 = true) (plainFor_of_name (by decide +kernel)) (plainFor_of_name (by decide +kernel))) (pz_nodeV (P := fun D : po_M => plainFor D.1 = true) (plainFor_of_name (by decide +kernel)) (Jvm.Free.JP.mathPlain rfl (by decide +kernel))))))))))
theorem pz_no : ∀ n, pi_ins n 9999 = none := fun n => by
  unfold pi_ins
  exact (pz_nodeV (P := fun a : Nat → Option pm_S => a 9999 = none) (pz_nodeV (P := fun a : Nat → Option pm_S => a 9999 = none) (pz_nodeV (P := fun a : Nat → Option pm_S => a 9999 = none) (pz_nodeV (P := fun a : Nat → Option pm_S => a 9999 = none) (pz_nodeV (P := fun a : Nat → Option pm_S => a 9999 = none) (pz_nodeV (P := fun a : Nat → Option pm_S => a 9999 = none) (pz_nodeV (P := fun a : Nat → Option pm_S => a 9999 = none) (pz_leafV (by decide +kernel)) (pz_nodeV (P := fun a : Nat → Option pm_S => a 9999 = none) (pz_leafV (by decide +kernel)) (pz_leafV (by decide +kernel)))) (pz_nodeV (P := fun a : Nat → Option pm_S => a 9999 = none) (pz_nodeV (P := fun a : Nat → Option pm_S => a 9999 = none) (pz_leafV (by decide +kernel)) (pz_leafV (by decide +kernel))) (pz_nodeV (P := fun a : Nat → Option pm_S => a 9999 = none) (pz_leafV (by decide +kernel)) (pz_leafV (by decide +kernel))))) (pz_nodeV (P := fun a : Nat → Option pm_S => a 9999 = none) (pz_nodeV (P := fun a : Nat → Option pm_S => a 9999 = none) (pz_leafV (by decide +kernel)) (pz_nodeV (P := fun a : Nat → Option pm_S => a 9999 = none) (pz_leafV (by decide +kernel)) (pz_leafV (by decide +kernel)))) (pz_nodeV (P := fun a : Nat → Option pm_S => a 9999 = none) (pz_nodeV (P := fun a : Nat → Option pm_S => a 9999 = none) (pz_leafV (by decide +kernel)) (pz_leafV (by decide +kernel))) (pz_nodeV (P := fun a : Nat → Option pm_S => a 9999 = none) (pz_leafV (by decide +kernel)) (pz_leafV (by decide +kernel)))))) (pz_nodeV (P := fun a : Nat → Option pm_S => a 9999 = none) (pz_nodeV (P := fun a : Nat → Option pm_S => a 9999 = none) (pz_nodeV (P := fun a : Nat → Option pm_S => a 9999 = none) (pz_leafV (by decide +kernel)) (pz_nodeV (P := fun a : Nat → Option pm_S => a 9999 = none) (pz_leafV (by decide +kernel)) (pz_leafV (by decide +kernel)))) (pz_nodeV (P := fun a : Nat → Option pm_S => a 9999 = none) (pz_nodeV (P := fun a : Nat → Option pm_S => a 9999 = none) (pz_leafV (by decide +kernel)) (pz_leafV (by decide +kernel))) (pz_nodeV (P := fun a : Nat → Option pm_S => a 9999 = none) (pz_leafV (by decide +kernel)) (pz_leafV (by decide +kernel))))) (pz_nodeV (P := fun a : Nat → Option pm_S => a 9999 = none) (pz_nodeV (P := fun a : Nat → Option pm_S => a 9999 = none) (pz_nodeV (P := fun a : Nat → Option pm_S => a 9999 = none) (pz_leafV (by decide +kernel)) (pz_leafV (by decide +kernel))) (pz_nodeV (P := fun a : Nat → Option pm_S => a 9999 = none) (pz_leafV (by decide +kernel)) (pz_leafV (by decide +kernel)))) (pz_nodeV (P := fun a : Nat → Option pm_S => a 9999 = none) (pz_nodeV (P := fun a : Nat → Option pm_S => a 9999 = none) (pz_leafV (by decide +kernel)) (pz_leafV (by decide +kernel))) (pz_nodeV (P := fun a : Nat → Option pm_S => a 9999 = none) (pz_leafV (by decide +kernel)) (pz_leafV (by decide +kernel))))))) (pz_nodeV (P := fun a : Nat → Option pm_S => a 9999 = none) (pz_nodeV (P := fun a : Nat → Option pm_S => a 9999 = none) (pz_nodeV (P := fun a : Nat → Option pm_S => a 9999 = none) (pz_nodeV (P := fun a : Nat → Option pm_S => a 9999 = none) (pz_leafV (by decide +kernel)) (pz_nodeV (P := fun a : Nat → Option pm_S => a 9999 = none) (pz_leafV (by decide +kernel)) (pz_leafV (by decide +kernel)))) (pz_nodeV (P := fun a : Nat → Option pm_S => a 9999 = none) (pz_nodeV (P := fun a : Nat → Option pm_S => a 9999 = none) (pz_leafV (by decide +kernel)) (pz_leafV (by decide +kernel))) (pz_nodeV (P := fun a : Nat → Option pm_S => a 9999 = none) (pz_leafV (by decide +kernel)) (pz_leafV (by decide +kernel))))) (pz_nodeV (P := fun a : Nat → Option pm_S => a 9999 = none) (pz_nodeV (P := fun a : Nat → Option pm_S => a 9999 = none) (pz_nodeV (P := fun a : Nat → Option pm_S => a 9999 = none) (pz_leafV (by decide +kernel)) (pz_leafV (by decide +kernel))) (pz_nodeV (P := fun a : Nat → Option pm_S => a 9999 = none) (pz_leafV (by decide +kernel)) (pz_leafV (by decide +kernel)))) (pz_nodeV (P := fun a : Nat → Option pm_S => a 9999 = none) (pz_nodeV (P := fun a : Nat → Option pm_S => a 9999 = none) (pz_leafV (by decide +kernel)) (pz_leafV (by decide +kernel))) (pz_nodeV (P := fun a : Nat → Option pm_S => a 9999 = none) (pz_leafV (by decide +kernel)) (pz_leafV (by decide +kernel)))))) (pz_nodeV (P := fun a : Nat → Option pm_S => a 9999 = none) (pz_nodeV (P := fun a : Nat → Option pm_S => a 9999 = none) (pz_nodeV (P := fun a : Nat → Option pm_S => a 9999 = none) (pz_leafV (by decide +kernel)) (pz_nodeV (P := fun a : Nat → Option pm_S => a 9999 = none) (pz_leafV (by decide +kernel)) (pz_leafV (by decide +kernel)))) (pz_nodeV (P := fun a : Nat → Option pm_S => a 9999 = none) (pz_nodeV (P := fun a : Nat → Option pm_S => a 9999 = none) (pz_leafV (by decide +kernel)) (pz_leafV (by decide +kernel))) (pz_nodeV (P := fun a : Nat → Option pm_S => a 9999 = none) (pz_leafV (by decide +kernel)) (pz_leafV (by decide +kernel))))) (pz_nodeV (P := fun a : Nat → Option pm_S => a 9999 = none) (pz_nodeV (P := fun a : Nat → Option pm_S => a 9999 = none) (pz_nodeV (P := fun a : Nat → Option pm_S => a 9999 = none) (pz_leafV (by decide +kernel)) (pz_leafV (by decide +kernel))) (pz_nodeV (P := fun a : Nat → Option pm_S => a 9999 = none) (pz_leafV (by decide +kernel)) (pz_leafV (by decide +kernel)))) (pz_nodeV (P := fun a : Nat → Option pm_S => a 9999 = none) (pz_nodeV (P := fun a : Nat → Option pm_S => a 9999 = none) (pz_leafV (by decide +kernel)) (pz_leafV (by decide +kernel))) (pz_nodeV (P := fun a : Nat → Option pm_S => a 9999 = none) (pz_leafV (by decide +kernel)) (pz_leafV (by decide +kernel)))))))) (pz_nodeV (P := fun a : Nat → Option pm_S => a 9999 = none) (pz_nodeV (P := fun a : Nat → Option pm_S => a 9999 = none) (pz_nodeV (P := fun a : Nat → Option pm_S => a 9999 = none) (pz_nodeV (P := fun a : Nat → Option pm_S => a 9999 = none) (pz_nodeV (P := fun a : Nat → Option pm_S => a 9999 = none) (pz_leafV (by decide +kernel)) (pz_nodeV (P := fun a : Nat → Option pm_S => a 9999 = none) (pz_leafV (by decide +kernel)) (pz_leafV (by decide +kernel)))) (pz_nodeV (P := fun a : Nat → Option pm_S => a 9999 = none) (pz_nodeV (P := fun a : Nat → Option pm_S => a 9999 = none) (pz_leafV (by decide +kernel)) (pz_leafV (by decide +kernel))) (pz_nodeV (P := fun a : Nat → Option pm_S => a 9999 = none) (pz_leafV (by decide +kernel)) (pz_leafV (by decide +kernel))))) (pz_nodeV (P := fun a : Nat → Option pm_S => a 9999 = none) (pz_nodeV (P := fun a : Nat → Option pm_S => a 9999 = none) (pz_leafV (by decide +kernel)) (pz_nodeV (P := fun a : Nat → Option pm_S => a 9999 = none) (pz_leafV (by decide +kernel)) (pz_leafV (by decide +kernel)))) (pz_nodeV (P := fun a : Nat → Option pm_S => a 9999 = none) (pz_nodeV (P := fun a : Nat → Option pm_S => a 9999 = none) (pz_leafV (by decide +kernel)) (pz_leafV (by decide +kernel))) (pz_nodeV (P := fun a : Nat → Option pm_S => a 9999 = none) (pz_leafV (by decide +kernel)) (pz_leafV (by decide +kernel)))))) (pz_nodeV (P := fun a : Nat → Option pm_S => a 9999 = none) (pz_nodeV (P := fun a : Nat → Option pm_S => a 9999 = none) (pz_nodeV (P := fun a : Nat → Option pm_S => a 9999 = none) (pz_leafV (by decide +kernel)) (pz_nodeV (P := fun a : Nat → Option pm_S => a 9999 = none) (pz_leafV (by decide +kernel)) (pz_leafV (by decide +kernel)))) (pz_nodeV (P := fun a : Nat → Option pm_S => a 9999 = none) (pz_nodeV (P := fun a : Nat → Option pm_S => a 9999 = none) (pz_leafV (by decide +kernel)) (pz_leafV (by decide +kernel))) (pz_nodeV (P := fun a : Nat → Option pm_S => a 9999 = none) (pz_leafV (by decide +kernel)) (pz_leafV (by decide +kernel))))) (pz_nodeV (P := fun a : Nat → Option pm_S => a 9999 = none) (pz_nodeV (P := fun a : Nat → Option pm_S => a 9999 = none) (pz_nodeV (P := fun a : Nat → Option pm_S => a 9999 = none) (pz_leafV (by decide +kernel)) (pz_leafV (by decide +kernel))) (pz_nodeV (P := fun a : Nat → Option pm_S => a 9999 = none) (pz_leafV (by decide +kernel)) (pz_leafV (by decide +kernel)))) (pz_nodeV (P := fun a : Nat → Option pm_S => a 9999 = none) (pz_nodeV (P := fun a : Nat → Option pm_S => a 9999 = none) (pz_leafV (by decide +kernel)) (pz_leafV (by decide +kernel))) (pz_nodeV (P := fun a : Nat → Option pm_S => a 9999 = none) (pz_leafV (by decide +kernel)) (pz_leafV (by decide +kernel))))))) (pz_nodeV (P := fun a : Nat → Option pm_S => a 9999 = none) (pz_nodeV (P := fun a : Nat → Option pm_S => a 9999 = none) (pz_nodeV (P := fun a : Nat → Option pm_S => a 9999 = none) (pz_nodeV (P := fun a : Nat → Option pm_S => a 9999 = none) (pz_leafV (by decide +kernel)) (pz_nodeV (P := fun a : Nat → Option pm_S => a 9999 = none) (pz_leafV (by decide +kernel)) (pz_leafV (by decide +kernel)))) (pz_nodeV (P := fun a : Nat → Option pm_S => a 9999 = none) (pz_nodeV (P := fun a : Nat → Option pm_S => a 9999 = none) (pz_leafV (by decide +kernel)) (pz_leafV (by decide +kernel))) (pz_nodeV (P := fun a : Nat → Option pm_S => a 9999 = none) (pz_leafV (by decide +kernel)) (pz_leafV (by decide +kernel))))) (pz_nodeV (P := fun a : Nat → Option pm_S => a 9999 = none) (pz_nodeV (P := fun a : Nat → Option pm_S => a 9999 = none) (pz_nodeV (P := fun a : Nat → Option pm_S => a 9999 = none) (pz_leafV (by decide +kernel)) (pz_leafV (by decide +kernel))) (pz_nodeV (P := fun a : Nat → Option pm_S => a 9999 = none) (pz_leafV (by decide +kernel)) (pz_leafV (by decide +kernel)))) (pz_nodeV (P := fun a : Nat → Option pm_S => a 9999 = none) (pz_nodeV (P := fun a : Nat → Option pm_S => a 9999 = none) (pz_leafV (by decide +kernel)) (pz_leafV (by decide +kernel))) (pz_nodeV (P := fun a : Nat → Option pm_S => a 9999 = none) (pz_leafV (by decide +kernel)) (pz_leafV (by decide +kernel)))))) (pz_nodeV (P := fun a : Nat → Option pm_S => a 9999 = none) (pz_nodeV (P := fun a : Nat → Option pm_S => a 9999 = none) (pz_nodeV (P := fun a : Nat → Option pm_S => a 9999 = none) (pz_leafV (by decide +kernel)) (pz_nodeV (P := fun a : Nat → Option pm_S => a 9999 = none) (pz_leafV (by decide +kernel)) (pz_leafV (by decide +kernel)))) (pz_nodeV (P := fun a : Nat → Option pm_S => a 9999 = none) (pz_nodeV (P := fun a : Nat → Option pm_S => a 9999 = none) (pz_leafV (by decide +kernel)) (pz_leafV (by decide +kernel))) (pz_nodeV (P := fun a : Nat → Option pm_S => a 9999 = none) (pz_leafV (by decide +kernel)) (pz_leafV (by decide +kernel))))) (pz_nodeV (P := fun a : Nat → Option pm_S => a 9999 = none) (pz_nodeV (P := fun a : Nat → Option pm_S => a 9999 = none) (pz_nodeV (P := fun a : Nat → Option pm_S => a 9999 = none) (pz_leafV (by decide +kernel)) (pz_leafV (by decide +kernel))) (pz_nodeV (P := fun a : Nat → Option pm_S => a 9999 = none) (pz_leafV (by decide +kernel)) (pz_leafV (by decide +kernel)))) (pz_nodeV (P := fun a : Nat → Option pm_S => a 9999 = none) (pz_nodeV (P := fun a : Nat → Option pm_S => a 9999 = none) (pz_leafV (by decide +kernel)) (pz_leafV (by decide +kernel))) (pz_nodeV (P := fun a : Nat → Option pm_S => a 9999 = none) (pz_leafV (by decide +kernel)) (pz_leafV (by decide +kernel))))))))) (pz_nodeV (P := fun a : Nat → Option pm_S => a 9999 = none) (pz_nodeV (P := fun a : Nat → Option pm_S => a 9999 = none) (pz_nodeV (P := fun a : Nat → Option pm_S => a 9999 = none) (pz_nodeV (P := fun a : Nat → Option pm_S => a 9999 = none) (pz_nodeV (P := fun a : Nat → Option pm_S => a 9999 = none) (pz_nodeV (P := fun a : Nat → Option pm_S => a 9999 = none) (pz_leafV (by decide +kernel)) (pz_nodeV (P := fun a : Nat → Option pm_S => a 9999 = none) (pz_leafV (by decide +kernel)) (pz_leafV (by decide +kernel)))) (pz_nodeV (P := fun a : Nat → Option pm_S => a 9999 = none) (pz_nodeV (P := fun a : Nat → Option pm_S => a 9999 = none) (pz_leafV (by decide +kernel)) (pz_leafV (by decide +kernel))) (pz_nodeV (P := fun a : Nat → Option pm_S => a 9999 = none) (pz_leafV (by decide +kernel)) (pz_leafV (by decide +kernel))))) (pz_nodeV (P := fun a : Nat → Option pm_S => a 9999 = none) (pz_nodeV (P := fun a : Nat → Option pm_S => a 9999 = none) (pz_leafV (by decide +kernel)) (pz_nodeV (P := fun a : Nat → Option pm_S => a 9999 = none) (pz_leafV (by decide +kernel)) (pz_leafV (by decide +kernel)))) (pz_nodeV (P := fun a : Nat → Option pm_S => a 9999 = none) (pz_nodeV (P := fun a : Nat → Option pm_S => a 9999 = none) (pz_leafV (by decide +kernel)) (pz_leafV (by decide +kernel))) (pz_nodeV (P := fun a : Nat → Option pm_S => a 9999 = none) (pz_leafV (by decide +kernel)) (pz_leafV (by decide +kernel)))))) (pz_nodeV (P := fun a : Nat → Option pm_S => a 9999 = none) (pz_nodeV (P := fun a : Nat → Option pm_S => a 9999 = none) (pz_nodeV (P := fun a : Nat → Option pm_S => a 9999 = none) (pz_leafV (by decide +kernel)) (pz_nodeV (P := fun a : Nat → Option pm_S => a 9999 = none) (pz_leafV (by decide +kernel)) (pz_leafV (by decide +kernel)))) (pz_nodeV (P := fun a : Nat → Option pm_S => a 9999 = none) (pz_nodeV (P := fun a : Nat → Option pm_S => a 9999 = none) (pz_leafV (by decide +kernel)) (pz_leafV (by decide +kernel))) (pz_nodeV (P := fun a : Nat → Option pm_S => a 9999 = none) (pz_leafV (by decide +kernel)) (pz_leafV (by decide +kernel))))) (pz_nodeV (P := fun a : Nat → Option pm_S => a 9999 = none) (pz_nodeV (P := fun a : Nat → Option pm_S => a 9999 = none) (pz_nodeV (P := fun a : Nat → Option pm_S => a 9999 = none) (pz_leafV (by decide +kernel)) (pz_leafV (by decide +kernel))) (pz_nodeV (P := fun a : Nat → Option pm_S => a 9999 = none) (pz_leafV (by decide +kernel)) (pz_leafV (by decide +kernel)))) (pz_nodeV (P := fun a : Nat → Option pm_S => a 9999 = none) (pz_nodeV (P := fun a : Nat → Option pm_S => a 9999 = none) (pz_leafV (by decide +kernel)) (pz_leafV (by decide +kernel))) (pz_nodeV (P := fun a : Nat → Option pm_S => a 9999 = none) (pz_leafV (by decide +kernel)) (pz_leafV (by decide +kernel))))))) (pz_nodeV (P := fun a : Nat → Option pm_S => a 9999 = none) (pz_nodeV (P := fun a : Nat → Option pm_S => a 9999 = none) (pz_nodeV (P := fun a : Nat → Option pm_S => a 9999 = none) (pz_nodeV (P := fun a : Nat → Option pm_S => a 9999 = none) (pz_leafV (by decide +kernel)) (pz_nodeV (P := fun a : Nat → Option pm_S => a 9999 = none) (pz_leafV (by decide +kernel)) (pz_leafV (by decide +kernel)))) (pz_nodeV (P := fun a : Nat → Option pm_S => a 9999 = none) (pz_nodeV (P := fun a : Nat → Option pm_S => a 9999 = none) (pz_leafV (by decide +kernel)) (pz_leafV (by decide +kernel))) (pz_nodeV (P := fun a : Nat → Option pm_S => a 9999 = none) (pz_leafV (by decide +kernel)) (pz_leafV (by decide +kernel))))) (pz_nodeV (P := fun a : Nat → Option pm_S => a 9999 = none) (pz_nodeV (P := fun a : Nat → Option pm_S => a 9999 = none) (pz_nodeV (P := fun a : Nat → Option pm_S => a 9999 = none) (pz_leafV (by decide +kernel)) (pz_leafV (by decide +kernel))) (pz_nodeV (P := fun a : Nat → Option pm_S => a 9999 = none) (pz_leafV (by decide +kernel)) (pz_leafV (by decide +kernel)))) (pz_nodeV (P := fun a : Nat → Option pm_S => a 9999 = none) (pz_nodeV (P := fun a : Nat → Option pm_S => a 9999 = none) (pz_leafV (by decide +kernel)) (pz_leafV (by decide +kernel))) (pz_nodeV (P := fun a : Nat → Option pm_S => a 9999 = none) (pz_leafV (by decide +kernel)) (pz_leafV (by decide +kernel)))))) (pz_nodeV (P := fun a : Nat → Option pm_S => a 9999 = none) (pz_nodeV (P := fun a : Nat → Option pm_S => a 9999 = none) (pz_nodeV (P := fun a : Nat → Option pm_S => a 9999 = none) (pz_leafV (by decide +kernel)) (pz_nodeV (P := fun a : Nat → Option pm_S => a 9999 = none) (pz_leafV (by decide +kernel)) (pz_leafV (by decide +kernel)))) (pz_nodeV (P := fun a : Nat → Option pm_S => a 9999 = none) (pz_nodeV (P := fun a : Nat → Option pm_S => a 9999 = none) (pz_leafV (by decide +kernel)) (pz_leafV (by decide +kernel))) (pz_nodeV (P := fun a : Nat → Option pm_S => a 9999 = none) (pz_leafV (by decide +kernel)) (pz_leafV (by decide +kernel))))) (pz_nodeV (P := fun a : Nat → Option pm_S => a 9999 = none) (pz_nodeV (P := fun a : Nat → Option pm_S => a 9999 = none) (pz_nodeV (P := fun a : Nat → Option pm_S => a 9999 = none) (pz_leafV (by decide +kernel)) (pz_leafV (by decide +kernel))) (pz_nodeV (P := fun a : Nat → Option pm_S => a 9999 = none) (pz_leafV (by decide +kernel)) (pz_leafV (by decide +kernel)))) (pz_nodeV (P := fun a : Nat → Option pm_S => a 9999 = none) (pz_nodeV (P := fun a : Nat → Option pm_S => a 9999 = none) (pz_leafV (by decide +kernel)) (pz_leafV (by decide +kernel))) (pz_nodeV (P := fun a : Nat → Option pm_S => a 9999 = none) (pz_leafV (by decide +kernel)) (pz_leafV (by decide +kernel)))))))) (pz_nodeV (P := fun a : Nat → Option pm_S => a 9999 = none) (pz_nodeV (P := fun a : Nat → Option pm_S => a 9999 = none) (pz_nodeV (P := fun a : Nat → Option pm_S => a 9999 = none) (pz_nodeV (P := fun a : Nat → Option pm_S => a 9999 = none) (pz_nodeV (P := fun a : Nat → Option pm_S => a 9999 = none) (pz_leafV (by decide +kernel)) (pz_nodeV (P := fun a : Nat → Option pm_S => a 9999 = none) (pz_leafV (by decide +kernel)) (pz_leafV (by decide +kernel)))) (pz_nodeV (P := fun a : Nat → Option pm_S => a 9999 = none) (pz_nodeV (P := fun a : Nat → Option pm_S => a 9999 = none) (pz_leafV (by decide +kernel)) (pz_leafV (by decide +kernel))) (pz_nodeV (P := fun a : Nat → Option pm_S => a 9999 = none) (pz_leafV (by decide +kernel)) (pz_leafV (by decide +kernel))))) (pz_nodeV (P := fun a : Nat → Option pm_S => a 9999 = none) (pz_nodeV (P := fun a : Nat → Option pm_S => a 9999 = none) (pz_leafV (by decide +kernel)) (pz_nodeV (P := fun a : Nat → Option pm_S => a 9999 = none) (pz_leafV (by decide +kernel)) (pz_leafV (by decide +kernel)))) (pz_nodeV (P := fun a : Nat → Option pm_S => a 9999 = none) (pz_nodeV (P := fun a : Nat → Option pm_S => a 9999 = none) (pz_leafV (by decide +kernel)) (pz_leafV (by decide +kernel))) (pz_nodeV (P := fun a : Nat → Option pm_S => a 9999 = none) (pz_leafV (by decide +kernel)) (pz_leafV (by decide +kernel)))))) (pz_nodeV (P := fun a : Nat → Option pm_S => a 9999 = none) (pz_nodeV (P := fun a : Nat → Option pm_S => a 9999 = none) (pz_nodeV (P := fun a : Nat → Option pm_S => a 9999 = none) (pz_leafV (by decide +kernel)) (pz_nodeV (P := fun a : Nat → Option pm_S => a 9999 = none) (pz_leafV (by decide +kernel)) (pz_leafV (by decide +kernel)))) (pz_nodeV (P := fun a : Nat → Option pm_S => a 9999 = none) (pz_nodeV (P := fun a : Nat → Option pm_S => a 9999 = none) (pz_leafV (by decide +kernel)) (pz_leafV (by decide +kernel))) (pz_nodeV (P := fun a : Nat → Option pm_S => a 9999 = none) (pz_leafV (by decide +kernel)) (pz_leafV (by decide +kernel))))) (pz_nodeV (P := fun a : Nat → Option pm_S => a 9999 = none) (pz_nodeV (P := fun a : Nat → Option pm_S => a 9999 = none) (pz_nodeV (P := fun a : Nat → Option pm_S => a 9999 = none) (pz_leafV (by decide +kernel)) (pz_leafV (by decide +kernel))) (pz_nodeV (P := fun a : Nat → Option pm_S => a 9999 = none) (pz_leafV (by decide +kernel)) (pz_leafV (by decide +kernel)))) (pz_nodeV (P := fun a : Nat → Option pm_S => a 9999 = none) (pz_nodeV (P := fun a : Nat → Option pm_S => a 9999 = none) (pz_leafV (by decide +kernel)) (pz_leafV (by decide +kernel))) (pz_nodeV (P := fun a : Nat → Option pm_S => a 9999 = none) (pz_leafV (by decide +kernel)) (pz_leafV (by decide +kernel))))))) (pz_nodeV (P := fun a : Nat → Option pm_S => a 9999 = none) (pz_nodeV (P := fun a : Nat → Option pm_S => a 9999 = none) (pz_nodeV (P := fun a : Nat → Option pm_S => a 9999 = none) (pz_nodeV (P := fun a : Nat → Option pm_S => a 9999 = none) (pz_leafV (by decide +kernel)) (pz_nodeV (P := fun a : Nat → Option pm_S => a 9999 = none) (pz_leafV (by decide +kernel)) (pz_leafV (by decide +kernel)))) (pz_nodeV (P := fun a : Nat → Option pm_S => a 9999 = none) (pz_nodeV (P := fun a : Nat → Option pm_S => a 9999 = none) (pz_leafV (by decide +kernel)) (pz_leafV (by decide +kernel))) (pz_nodeV (P := fun a : Nat → Option pm_S => a 9999 = none) (pz_leafV (by decide +kernel)) (pz_leafV (by decide +kernel))))) (pz_nodeV (P := fun a : Nat → Option pm_S => a 9999 = none) (pz_nodeV (P := fun a : Nat → Option pm_S => a 9999 = none) (pz_nodeV (P := fun a : Nat → Option pm_S => a 9999 = none) (pz_leafV (by decide +kernel)) (pz_leafV (by decide +kernel))) (pz_nodeV (P := fun a : Nat → Option pm_S => a 9999 = none) (pz_leafV (by decide +kernel)) (pz_leafV (by decide +kernel)))) (pz_nodeV (P := fun a : Nat → Option pm_S => a 9999 = none) (pz_nodeV (P := fun a : Nat → Option pm_S => a 9999 = none) (pz_leafV (by decide +kernel)) (pz_leafV (by decide +kernel))) (pz_nodeV (P := fun a : Nat → Option pm_S => a 9999 = none) (pz_leafV (by decide +kernel)) (pz_leafV (by decide +kernel)))))) (pz_nodeV (P := fun a : Nat → Option pm_S => a 9999 = none) (pz_nodeV (P := fun a : Nat → Option pm_S => a 9999 = none) (pz_nodeV (P := fun a : Nat → Option pm_S => a 9999 = none) (pz_leafV (by decide +kernel)) (pz_nodeV (P := fun a : Nat → Option pm_S => a 9999 = none) (pz_leafV (by decide +kernel)) (pz_leafV (by decide +kernel)))) (pz_nodeV (P := fun a : Nat → Option pm_S => a 9999 = none) (pz_nodeV (P := fun a : Nat → Option pm_S => a 9999 = none) (pz_leafV (by decide +kernel)) (pz_leafV (by decide +kernel))) (pz_nodeV (P := fun a : Nat → Option pm_S => a 9999 = none) (pz_leafV (by decide +kernel)) (pz_leafV (by decide +kernel))))) (pz_nodeV (P := fun a : Nat → Option pm_S => a 9999 = none) (pz_nodeV (P := fun a : Nat → Option pm_S => a 9999 = none) (pz_nodeV (P := fun a : Nat → Option pm_S => a 9999 = none) (pz_leafV (by decide +kernel)) (pz_leafV (by decide +kernel))) (pz_nodeV (P := fun a : Nat → Option pm_S => a 9999 = none) (pz_leafV (by decide +kernel)) (pz_leafV (by decide +kernel)))) (pz_nodeV (P := fun a : Nat → Option pm_S => a 9999 = none) (pz_nodeV (P := fun a : Nat → Option pm_S => a 9999 = none) (pz_leafV (by decide +kernel)) (pz_leafV (by decide +kernel))) (pz_nodeV (P := fun a : Nat → Option pm_S => a 9999 = none) (pz_leafV (by decide +kernel)) (pz_leafV (by decide +kernel))))))))))
