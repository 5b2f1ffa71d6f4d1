def ms_X6_formatAt : Nat → Option QI := fun i => none
def T_X6_formatAt : QTT := q_T cX6_formatAt 2 6 false (some (.object "StochasticBench$Format")) ms_X6_formatAt 0 0
set_option maxRecDepth 100000 in
theorem qw_X6_formatAt : q_Wd yX6_formatAt cX6_formatAt 2 (some (.object "StochasticBench$Format")) 1 := ⟨q_in 426 rfl rfl, q_in 65 (by decide +kernel) rfl, by decide +kernel, by decide +kernel, by decide +kernel, by decide⟩
theorem qst_X6_formatAt : Cond.instanceMethod yX6_formatAt ∈ q_Ts := q_in 424 (by decide +kernel) rfl
theorem qsl_X6_formatAt : Cond.selects yX6_formatAt.cls yX6_formatAt yX6_formatAt ∈ q_Ts := q_in 425 (by decide +kernel) rfl
theorem cs_X6_formatAt : ∀ (idx : Nat) (info : QI), ms_X6_formatAt idx = some info → q_Cs cX6_formatAt 6 0 idx info := by
  intro idx info h
  unfold ms_X6_formatAt at h
  cases h
theorem ok_X6_formatAt : q_Ok yX6_formatAt cX6_formatAt 2 (some (.object "StochasticBench$Format")) 0 T_X6_formatAt 0 0 := q_okOf (plainFor_of_name (by decide +kernel)) rfl (fun h => by cases h) cs_X6_formatAt (fun _ _ _ _ h => h)
theorem qlk_6_77 : Cond.methodLink (q_ow 6) 77 yX3_drawFor ∈ q_Ts := q_in 517 (by decide +kernel) rfl
theorem qlk_6_84 : Cond.methodLink (q_ow 6) 84 yX6_computeFraction ∈ q_Ts := q_in 522 (by decide +kernel) rfl
theorem qlk_6_88 : Cond.methodLink (q_ow 6) 88 yX6_formatAt ∈ q_Ts := q_in 533 (by decide +kernel) rfl
theorem qlk_6_92 : Cond.methodLink (q_ow 6) 92 yX3_findNeighbors ∈ q_Ts := q_in 534 (by decide +kernel) rfl
theorem qlk_6_96 : Cond.methodLink (q_ow 6) 96 yX3_rounded ∈ q_Ts := q_in 535 (by decide +kernel) rfl
theorem qlk_6_107 : Cond.methodLink (q_ow 6) 107 yX3_numeratorOf ∈ q_Ts := q_in 536 (by decide +kernel) rfl
def ms_X6_carryOut : Nat → Option QI := fun i => if i = 66 then some (0, 1, 3, T_X3_targetOf, 0, 0) else if i = 77 then some (0, 3, 3, T_X3_drawFor, 0, 0) else if i = 84 then some (1, 2, 6, T_X6_computeFraction, 0, 0) else if i = 88 then some (1, 1, 6, T_X6_formatAt, 0, 0) else if i = 92 then some (1, 1, 3, T_X3_findNeighbors, 0, 0) else if i = 96 then some (1, 2, 3, T_X3_rounded, 0, 0) else if i = 107 then some (1, 1, 3, T_X3_numeratorOf, 0, 0) else none
theorem ms_X6_carryOut_66 : ms_X6_carryOut 66 = some (0, 1, 3, T_X3_targetOf, 0, 0) := rfl
theorem ms_X6_carryOut_77 : ms_X6_carryOut 77 = some (0, 3, 3, T_X3_drawFor, 0, 0) := rfl
theorem ms_X6_carryOut_84 : ms_X6_carryOut 84 = some (1, 2, 6, T_X6_computeFraction, 0, 0) := rfl
theorem ms_X6_carryOut_88 : ms_X6_carryOut 88 = some (1, 1, 6, T_X6_formatAt, 0, 0) := rfl
theorem ms_X6_carryOut_92 : ms_X6_carryOut 92 = some (1, 1, 3, T_X3_findNeighbors, 0, 0) := rfl
theorem ms_X6_carryOut_96 : ms_X6_carryOut 96 = some (1, 2, 3, T_X3_rounded, 0, 0) := rfl
theorem ms_X6_carryOut_107 : ms_X6_carryOut 107 = some (1, 1, 3, T_X3_numeratorOf, 0, 0) := rfl
def T_X6_carryOut : QTT := q_T cX6_carryOut 7 6 false none ms_X6_carryOut 0 0
set_option maxRecDepth 100000 in
theorem qw_X6_carryOut : q_Wd yX6_carryOut cX6_carryOut 7 none 2 := ⟨q_in 513 rfl rfl, q_in 65 (by decide +kernel) rfl, by decide +kernel, by decide +kernel, by decide +kernel, by decide⟩
theorem qst_X6_carryOut : Cond.instanceMethod yX6_carryOut ∈ q_Ts := q_in 511 (by decide +kernel) rfl
theorem qsl_X6_carryOut : Cond.selects yX6_carryOut.cls yX6_carryOut yX6_carryOut ∈ q_Ts := q_in 512 (by decide +kernel) rfl
theorem cs_X6_carryOut : ∀ (idx : Nat) (info : QI), ms_X6_carryOut idx = some info → q_Cs cX6_carryOut 6 3 idx info := by
  intro idx info h
  unfold ms_X6_carryOut at h
  by_cases h0 : idx = 66
  · subst h0; rw [if_pos rfl] at h; cases h; intro p l e R s m args below meth c Q D cy nL A hC hf hlo; exact q_r0 hC ok_X3_targetOf qw_X3_targetOf qlk_6_66 qst_X3_targetOf (by omega) (by omega)
  rw [if_neg h0] at h
  by_cases h1 : idx = 77
  · subst h1; rw [if_pos rfl] at h; cases h; intro p l e R s m args below meth c Q D cy nL A hC hf hlo; exact q_r0 hC ok_X3_drawFor qw_X3_drawFor qlk_6_77 qst_X3_drawFor (by omega) (by omega)
  rw [if_neg h1] at h
  by_cases h2 : idx = 84
  · subst h2; rw [if_pos rfl] at h; cases h; intro p l e R s m args below meth c Q D cy nL A hC hf hlo; exact q_r1 hC ok_X6_computeFraction qw_X6_computeFraction qlk_6_84 ⟨qst_X6_computeFraction, qsl_X6_computeFraction⟩ ⟨rfl, rfl⟩ (by omega) (by omega)
  rw [if_neg h2] at h
  by_cases h3 : idx = 88
  · subst h3; rw [if_pos rfl] at h; cases h; intro p l e R s m args below meth c Q D cy nL A hC hf hlo; exact q_r1 hC ok_X6_formatAt qw_X6_formatAt qlk_6_88 ⟨qst_X6_formatAt, qsl_X6_formatAt⟩ ⟨rfl, rfl⟩ (by omega) (by omega)
  rw [if_neg h3] at h
  by_cases h4 : idx = 92
  · subst h4; rw [if_pos rfl] at h; cases h; intro p l e R s m args below meth c Q D cy nL A hC hf hlo; exact q_r1 hC ok_X3_findNeighbors qw_X3_findNeighbors qlk_6_92 ⟨qst_X3_findNeighbors, qsl_X3_findNeighbors⟩ ⟨rfl, rfl⟩ (by omega) (by omega)
  rw [if_neg h4] at h
  by_cases h5 : idx = 96
  · subst h5; rw [if_pos rfl] at h; cases h; intro p l e R s m args below meth c Q D cy nL A hC hf hlo; exact q_r1 hC ok_X3_rounded qw_X3_rounded qlk_6_96 ⟨qst_X3_rounded, qsl_X3_rounded⟩ ⟨rfl, rfl⟩ (by omega) (by omega)
  rw [if_neg h5] at h
  by_cases h6 : idx = 107
  · subst h6; rw [if_pos rfl] at h; cases h; intro p l e R s m args below meth c Q D cy nL A hC hf hlo; exact q_r1 hC ok_X3_numeratorOf qw_X3_numeratorOf qlk_6_107 ⟨qst_X3_numeratorOf, qsl_X3_numeratorOf⟩ ⟨rfl, rfl⟩ (by omega) (by omega)
  rw [if_neg h6] at h
  cases h
theorem ok_X6_carryOut : q_Ok yX6_carryOut cX6_carryOut 7 none 3 T_X6_carryOut 0 0 := q_okOf (plainFor_of_name (by decide +kernel)) rfl (fun h => by cases h) cs_X6_carryOut (fun _ _ _ _ h => h)
theorem qlk_5_20 : Cond.methodLink (q_ow 5) 20 yX5_start ∈ q_Ts := q_in 665 (by decide +kernel) rfl
theorem qlk_5_23 : Cond.methodLink (q_ow 5) 23 yX5_nextCode ∈ q_Ts := q_in 669 (by decide +kernel) rfl
theorem qlk_5_31 : Cond.methodLink (q_ow 5) 31 yX6_canCarryOut ∈ q_Ts := q_in 682 (by decide +kernel) rfl
theorem qlk_5_37 : Cond.methodLink (q_ow 5) 37 yX6_carryOut ∈ q_Ts := q_in 683 (by decide +kernel) rfl
theorem qlk_5_41 : Cond.methodLink (q_ow 5) 41 yX2_enter ∈ q_Ts := q_in 684 (by decide +kernel) rfl
def ms_X5_carryOut : Nat → Option QI := fun i => if i = 20 then some (1, 0, 5, T_X5_start, 0, 0) else if i = 23 then some (1, 1, 5, T_X5_nextCode, 0, 0) else if i = 31 then some (1, 1, 6, T_X6_canCarryOut, 0, 0) else if i = 37 then some (1, 2, 6, T_X6_carryOut, 0, 0) else if i = 41 then some (1, 1, 2, T_X2_enter, 0, 0) else none
theorem ms_X5_carryOut_20 : ms_X5_carryOut 20 = some (1, 0, 5, T_X5_start, 0, 0) := rfl
theorem ms_X5_carryOut_23 : ms_X5_carryOut 23 = some (1, 1, 5, T_X5_nextCode, 0, 0) := rfl
theorem ms_X5_carryOut_31 : ms_X5_carryOut 31 = some (1, 1, 6, T_X6_canCarryOut, 0, 0) := rfl
theorem ms_X5_carryOut_37 : ms_X5_carryOut 37 = some (1, 2, 6, T_X6_carryOut, 0, 0) := rfl
theorem ms_X5_carryOut_41 : ms_X5_carryOut 41 = some (1, 1, 2, T_X2_enter, 0, 0) := rfl
def T_X5_carryOut : QTT := q_T cX5_carryOut 6 5 false none ms_X5_carryOut 0 0
set_option maxRecDepth 100000 in
theorem qw_X5_carryOut : q_Wd yX5_carryOut cX5_carryOut 6 none 4 := ⟨q_in 664 rfl rfl, q_in 71 (by decide +kernel) rfl, by decide +kernel, by decide +kernel, by decide +kernel, by decide⟩
theorem qst_X5_carryOut : Cond.instanceMethod yX5_carryOut ∈ q_Ts := q_in 662 (by decide +kernel) rfl
theorem qsl_X5_carryOut : Cond.selects yX5_carryOut.cls yX5_carryOut yX5_carryOut ∈ q_Ts := q_in 663 (by decide +kernel) rfl
theorem cs_X5_carryOut : ∀ (idx : Nat) (info : QI), ms_X5_carryOut idx = some info → q_Cs cX5_carryOut 5 5 idx info := by
  intro idx info h
  unfold ms_X5_carryOut at h
  by_cases h0 : idx = 20
  · subst h0; rw [if_pos rfl] at h; cases h; intro p l e R s m args below meth c Q D cy nL A hC hf hlo; exact q_r1 hC ok_X5_start qw_X5_start qlk_5_20 ⟨qst_X5_start, qsl_X5_start⟩ ⟨rfl, rfl⟩ (by omega) (by omega)
  rw [if_neg h0] at h
  by_cases h1 : idx = 23
  · subst h1; rw [if_pos rfl] at h; cases h; intro p l e R s m args below meth c Q D cy nL A hC hf hlo; exact q_r1 hC ok_X5_nextCode qw_X5_nextCode qlk_5_23 ⟨qst_X5_nextCode, qsl_X5_nextCode⟩ ⟨rfl, rfl⟩ (by omega) (by omega)
  rw [if_neg h1] at h
  by_cases h2 : idx = 31
  · subst h2; rw [if_pos rfl] at h; cases h; intro p l e R s m args below meth c Q D cy nL A hC hf hlo; exact q_r1 hC ok_X6_canCarryOut qw_X6_canCarryOut qlk_5_31 ⟨qst_X6_canCarryOut, qsl_X6_canCarryOut⟩ ⟨rfl, rfl⟩ (by omega) (by omega)
  rw [if_neg h2] at h
  by_cases h3 : idx = 37
  · subst h3; rw [if_pos rfl] at h; cases h; intro p l e R s m args below meth c Q D cy nL A hC hf hlo; exact q_r1 hC ok_X6_carryOut qw_X6_carryOut qlk_5_37 ⟨qst_X6_carryOut, qsl_X6_carryOut⟩ ⟨rfl, rfl⟩ (by omega) (by omega)
  rw [if_neg h3] at h
  by_cases h4 : idx = 41
  · subst h4; rw [if_pos rfl] at h; cases h; intro p l e R s m args below meth c Q D cy nL A hC hf hlo; exact q_r1 hC ok_X2_enter qw_X2_enter qlk_5_41 ⟨qst_X2_enter, qsl_X2_enter⟩ ⟨rfl, rfl⟩ (by omega) (by omega)
  rw [if_neg h4] at h
  cases h
theorem ok_X5_carryOut : q_Ok yX5_carryOut cX5_carryOut 6 none 5 T_X5_carryOut 0 0 := q_okOf (plainFor_of_name (by decide +kernel)) rfl (fun h => by cases h) cs_X5_carryOut (fun _ _ _ _ h => h)
def ms_X6_emptyRegistersOf : Nat → Option QI := fun i => none
def T_X6_emptyRegistersOf : QTT := q_T cX6_emptyRegistersOf 3 6 false none ms_X6_emptyRegistersOf 0 0
set_option maxRecDepth 100000 in
theorem qw_X6_emptyRegistersOf : q_Wd yX6_emptyRegistersOf cX6_emptyRegistersOf 3 none 1 := ⟨q_in 402 rfl rfl, q_in 65 (by decide +kernel) rfl, by decide +kernel, by decide +kernel, by decide +kernel, by decide⟩
theorem qst_X6_emptyRegistersOf : Cond.instanceMethod yX6_emptyRegistersOf ∈ q_Ts := q_in 400 (by decide +kernel) rfl
theorem qsl_X6_emptyRegistersOf : Cond.selects yX6_emptyRegistersOf.cls yX6_emptyRegistersOf yX6_emptyRegistersOf ∈ q_Ts := q_in 401 (by decide +kernel) rfl
theorem cs_X6_emptyRegistersOf : ∀ (idx : Nat) (info : QI), ms_X6_emptyRegistersOf idx = some info → q_Cs cX6_emptyRegistersOf 6 0 idx info := by
  intro idx info h
  unfold ms_X6_emptyRegistersOf at h
  cases h
theorem ok_X6_emptyRegistersOf : q_Ok yX6_emptyRegistersOf cX6_emptyRegistersOf 3 none 0 T_X6_emptyRegistersOf 0 0 := q_okOf (plainFor_of_name (by decide +kernel)) rfl (fun h => by cases h) cs_X6_emptyRegistersOf (fun _ _ _ _ h => h)
theorem qlk_7_1 : Cond.methodLink (q_ow 7) 1 objectInit ∈ q_Ts := q_in 80 (by decide +kernel) rfl
theorem qlk_7_9 : Cond.methodLink (q_ow 7) 9 yX6_init ∈ q_Ts := q_in 85 (by decide +kernel) rfl
theorem qlk_7_18 : Cond.methodLink (q_ow 7) 18 yX2_init ∈ q_Ts := q_in 144 (by decide +kernel) rfl
theorem qlk_7_25 : Cond.methodLink (q_ow 7) 25 yX1_init ∈ q_Ts := q_in 226 (by decide +kernel) rfl
def ms_X7_init : Nat → Option QI := fun i => if i = 1 then some (8, 0, 0, q_T0, 0, 0) else if i = 9 then some (2, 0, 6, T_X6_init, 7, 32) else if i = 18 then some (2, 0, 2, T_X2_init, 66, 775) else if i = 25 then some (2, 0, 1, T_X1_init, 452, 4920) else if i = 32 then some (3, 0, 4, T_X4_init, 5, 323) else if i = 39 then some (3, 0, 5, T_X5_init, 2, 6) else if i = 49 then some (3, 0, 3, T_X3_init, 0, 0) else none
theorem ms_X7_init_1 : ms_X7_init 1 = some (8, 0, 0, q_T0, 0, 0) := rfl
theorem ms_X7_init_9 : ms_X7_init 9 = some (2, 0, 6, T_X6_init, 7, 32) := rfl
theorem ms_X7_init_18 : ms_X7_init 18 = some (2, 0, 2, T_X2_init, 66, 775) := rfl
theorem ms_X7_init_25 : ms_X7_init 25 = some (2, 0, 1, T_X1_init, 452, 4920) := rfl
theorem ms_X7_init_32 : ms_X7_init 32 = some (3, 0, 4, T_X4_init, 5, 323) := rfl
theorem ms_X7_init_39 : ms_X7_init 39 = some (3, 0, 5, T_X5_init, 2, 6) := rfl
theorem ms_X7_init_49 : ms_X7_init 49 = some (3, 0, 3, T_X3_init, 0, 0) := rfl
def T_X7_init : QTT := q_T cX7_init 1 7 true none ms_X7_init 546 6140
set_option maxRecDepth 100000 in
theorem qw_X7_init : q_Wd yX7_init cX7_init 1 none 0 := ⟨q_in 79 rfl rfl, q_in 64 (by decide +kernel) rfl, by decide +kernel, by decide +kernel, by decide +kernel, by decide⟩
theorem qst_X7_init : Cond.instanceMethod yX7_init ∈ q_Ts := q_in 78 (by decide +kernel) rfl
theorem cs_X7_init : ∀ (idx : Nat) (info : QI), ms_X7_init idx = some info → q_Cs cX7_init 7 4 idx info := by
  intro idx info h
  unfold ms_X7_init at h
  by_cases h0 : idx = 1
  · subst h0; rw [if_pos rfl] at h; cases h; intro p l e R s m args below meth c Q D cy nL A hC hf hlo; exact q_r8 hC qlk_7_1 q_lo0 q_lo1 (by omega) (by omega)
  rw [if_neg h0] at h
  by_cases h1 : idx = 9
  · subst h1; rw [if_pos rfl] at h; cases h; intro p l e R s m args below meth c Q D cy nL A hC hf hlo; exact q_r2 hC ok_X6_init qw_X6_init qlk_7_9 qst_X6_init rfl (by omega) (by omega)
  rw [if_neg h1] at h
  by_cases h2 : idx = 18
  · subst h2; rw [if_pos rfl] at h; cases h; intro p l e R s m args below meth c Q D cy nL A hC hf hlo; exact q_r2 hC ok_X2_init qw_X2_init qlk_7_18 qst_X2_init rfl (by omega) (by omega)
  rw [if_neg h2] at h
  by_cases h3 : idx = 25
  · subst h3; rw [if_pos rfl] at h; cases h; intro p l e R s m args below meth c Q D cy nL A hC hf hlo; exact q_r2 hC ok_X1_init qw_X1_init qlk_7_25 qst_X1_init rfl (by omega) (by omega)
  rw [if_neg h3] at h
  by_cases h4 : idx = 32
  · subst h4; rw [if_pos rfl] at h; cases h; intro p l e R s m args below meth c Q D cy nL A hC hf hlo; exact q_r3 (host := "StochasticBench") hC ok_X4_init qw_X4_init (by decide +kernel) qst_X4_init rfl (by omega) (by omega)
  rw [if_neg h4] at h
  by_cases h5 : idx = 39
  · subst h5; rw [if_pos rfl] at h; cases h; intro p l e R s m args below meth c Q D cy nL A hC hf hlo; exact q_r3 (host := "StochasticBench") hC ok_X5_init qw_X5_init (by decide +kernel) qst_X5_init rfl (by omega) (by omega)
  rw [if_neg h5] at h
  by_cases h6 : idx = 49
  · subst h6; rw [if_pos rfl] at h; cases h; intro p l e R s m args below meth c Q D cy nL A hC hf hlo; exact q_r3 (host := "StochasticBench") hC ok_X3_init qw_X3_init (by decide +kernel) qst_X3_init rfl (by omega) (by omega)
  rw [if_neg h6] at h
  cases h
theorem ok_X7_init : q_Ok yX7_init cX7_init 1 none 4 T_X7_init 546 6140 := q_okOf (plainFor_of_name (by decide +kernel)) rfl (fun _ => rfl) cs_X7_init (fun _ _ _ _ h => h)
def ms_X7_isFormat : Nat → Option QI := fun i => none
def T_X7_isFormat : QTT := q_T cX7_isFormat 1 7 false (some .boolean) ms_X7_isFormat 0 0
set_option maxRecDepth 100000 in
theorem qw_X7_isFormat : q_Wd yX7_isFormat cX7_isFormat 1 (some .boolean) 1 := ⟨q_in 361 rfl rfl, q_in 64 (by decide +kernel) rfl, by decide +kernel, by decide +kernel, by decide +kernel, by decide⟩
theorem qst_X7_isFormat : Cond.static yX7_isFormat ∈ q_Ts := q_in 360 (by decide +kernel) rfl
theorem cs_X7_isFormat : ∀ (idx : Nat) (info : QI), ms_X7_isFormat idx = some info → q_Cs cX7_isFormat 7 0 idx info := by
  intro idx info h
  unfold ms_X7_isFormat at h
  cases h
theorem ok_X7_isFormat : q_Ok yX7_isFormat cX7_isFormat 1 (some .boolean) 0 T_X7_isFormat 0 0 := q_okOf (plainFor_of_name (by decide +kernel)) rfl (fun h => by cases h) cs_X7_isFormat (fun _ _ _ _ h => h)
theorem qlk_7_303 : Cond.methodLink (q_ow 7) 303 yX1_keep ∈ q_Ts := q_in 370 (by decide +kernel) rfl
def ms_X7_remember : Nat → Option QI := fun i => if i = 303 then some (1, 2, 1, T_X1_keep, 0, 0) else none
theorem ms_X7_remember_303 : ms_X7_remember 303 = some (1, 2, 1, T_X1_keep, 0, 0) := rfl
def T_X7_remember : QTT := q_T cX7_remember 1 7 false none ms_X7_remember 0 0
set_option maxRecDepth 100000 in
theorem qw_X7_remember : q_Wd yX7_remember cX7_remember 1 none 0 := ⟨q_in 369 rfl rfl, q_in 64 (by decide +kernel) rfl, by decide +kernel, by decide +kernel, by decide +kernel, by decide⟩
theorem qst_X7_remember : Cond.instanceMethod yX7_remember ∈ q_Ts := q_in 368 (by decide +kernel) rfl
theorem qsl_X7_remember : Cond.selects yX7_remember.cls yX7_remember yX7_remember ∈ q_Ts := q_in 0 (by decide +kernel) rfl
theorem cs_X7_remember : ∀ (idx : Nat) (info : QI), ms_X7_remember idx = some info → q_Cs cX7_remember 7 3 idx info := by
  intro idx info h
  unfold ms_X7_remember at h
  by_cases h0 : idx = 303
  · subst h0; rw [if_pos rfl] at h; cases h; intro p l e R s m args below meth c Q D cy nL A hC hf hlo; exact q_r1 hC ok_X1_keep qw_X1_keep qlk_7_303 ⟨qst_X1_keep, qsl_X1_keep⟩ ⟨rfl, rfl⟩ (by omega) (by omega)
  rw [if_neg h0] at h
  cases h
theorem ok_X7_remember : q_Ok yX7_remember cX7_remember 1 none 3 T_X7_remember 0 0 := q_okOf (plainFor_of_name (by decide +kernel)) rfl (fun h => by cases h) cs_X7_remember (fun _ _ _ _ h => h)
theorem qlk_7_58 : Cond.methodLink (q_ow 7) 58 yX7_isFormat ∈ q_Ts := q_in 359 (by decide +kernel) rfl
theorem qlk_7_62 : Cond.methodLink (q_ow 7) 62 yX0_isPossible ∈ q_Ts := q_in 362 (by decide +kernel) rfl
theorem qlk_7_69 : Cond.methodLink (q_ow 7) 69 yX7_remember ∈ q_Ts := q_in 366 (by decide +kernel) rfl
theorem qlk_7_79 : Cond.methodLink (q_ow 7) 79 yX0_define ∈ q_Ts := q_in 398 (by decide +kernel) rfl
theorem qlk_7_83 : Cond.methodLink (q_ow 7) 83 yX6_emptyRegistersOf ∈ q_Ts := q_in 399 (by decide +kernel) rfl
def ms_X7_setFormat : Nat → Option QI := fun i => if i = 58 then some (0, 1, 7, T_X7_isFormat, 0, 0) else if i = 62 then some (0, 3, 0, T_X0_isPossible, 0, 0) else if i = 69 then some (1, 0, 7, T_X7_remember, 0, 0) else if i = 79 then some (1, 3, 0, T_X0_define, 0, 0) else if i = 83 then some (1, 1, 6, T_X6_emptyRegistersOf, 0, 0) else none
theorem ms_X7_setFormat_58 : ms_X7_setFormat 58 = some (0, 1, 7, T_X7_isFormat, 0, 0) := rfl
theorem ms_X7_setFormat_62 : ms_X7_setFormat 62 = some (0, 3, 0, T_X0_isPossible, 0, 0) := rfl
theorem ms_X7_setFormat_69 : ms_X7_setFormat 69 = some (1, 0, 7, T_X7_remember, 0, 0) := rfl
theorem ms_X7_setFormat_79 : ms_X7_setFormat 79 = some (1, 3, 0, T_X0_define, 0, 0) := rfl
theorem ms_X7_setFormat_83 : ms_X7_setFormat 83 = some (1, 1, 6, T_X6_emptyRegistersOf, 0, 0) := rfl
def T_X7_setFormat : QTT := q_T cX7_setFormat 6 7 false (some .int) ms_X7_setFormat 0 0
set_option maxRecDepth 100000 in
theorem qw_X7_setFormat : q_Wd yX7_setFormat cX7_setFormat 6 (some .int) 4 := ⟨q_in 358 rfl rfl, q_in 64 (by decide +kernel) rfl, by decide +kernel, by decide +kernel, by decide +kernel, by decide⟩
theorem qst_X7_setFormat : Cond.instanceMethod yX7_setFormat ∈ q_Ts := q_in 356 (by decide +kernel) rfl
theorem qsl_X7_setFormat : Cond.selects yX7_setFormat.cls yX7_setFormat yX7_setFormat ∈ q_Ts := q_in 357 (by decide +kernel) rfl
theorem cs_X7_setFormat : ∀ (idx : Nat) (info : QI), ms_X7_setFormat idx = some info → q_Cs cX7_setFormat 7 4 idx info := by
  intro idx info h
  unfold ms_X7_setFormat at h
  by_cases h0 : idx = 58
  · subst h0; rw [if_pos rfl] at h; cases h; intro p l e R s m args below meth c Q D cy nL A hC hf hlo; exact q_r0 hC ok_X7_isFormat qw_X7_isFormat qlk_7_58 qst_X7_isFormat (by omega) (by omega)
  rw [if_neg h0] at h
  by_cases h1 : idx = 62
  · subst h1; rw [if_pos rfl] at h; cases h; intro p l e R s m args below meth c Q D cy nL A hC hf hlo; exact q_r0 hC ok_X0_isPossible qw_X0_isPossible qlk_7_62 qst_X0_isPossible (by omega) (by omega)
  rw [if_neg h1] at h
  by_cases h2 : idx = 69
  · subst h2; rw [if_pos rfl] at h; cases h; intro p l e R s m args below meth c Q D cy nL A hC hf hlo; exact q_r1 hC ok_X7_remember qw_X7_remember qlk_7_69 ⟨qst_X7_remember, qsl_X7_remember⟩ ⟨rfl, rfl⟩ (by omega) (by omega)
  rw [if_neg h2] at h
  by_cases h3 : idx = 79
  · subst h3; rw [if_pos rfl] at h; cases h; intro p l e R s m args below meth c Q D cy nL A hC hf hlo; exact q_r1 hC ok_X0_define qw_X0_define qlk_7_79 ⟨qst_X0_define, qsl_X0_define⟩ ⟨rfl, rfl⟩ (by omega) (by omega)
  rw [if_neg h3] at h
  by_cases h4 : idx = 83
  · subst h4; rw [if_pos rfl] at h; cases h; intro p l e R s m args below meth c Q D cy nL A hC hf hlo; exact q_r1 hC ok_X6_emptyRegistersOf qw_X6_emptyRegistersOf qlk_7_83 ⟨qst_X6_emptyRegistersOf, qsl_X6_emptyRegistersOf⟩ ⟨rfl, rfl⟩ (by omega) (by omega)
  rw [if_neg h4] at h
  cases h
theorem ok_X7_setFormat : q_Ok yX7_setFormat cX7_setFormat 6 (some .int) 4 T_X7_setFormat 0 0 := q_okOf (plainFor_of_name (by decide +kernel)) rfl (fun h => by cases h) cs_X7_setFormat (fun _ _ _ _ h => h)
def ms_X7_isRegister : Nat → Option QI := fun i => none
def T_X7_isRegister : QTT := q_T cX7_isRegister 1 7 false (some .boolean) ms_X7_isRegister 0 0
set_option maxRecDepth 100000 in
theorem qw_X7_isRegister : q_Wd yX7_isRegister cX7_isRegister 1 (some .boolean) 1 := ⟨q_in 409 rfl rfl, q_in 64 (by decide +kernel) rfl, by decide +kernel, by decide +kernel, by decide +kernel, by decide⟩
theorem qst_X7_isRegister : Cond.static yX7_isRegister ∈ q_Ts := q_in 408 (by decide +kernel) rfl
theorem cs_X7_isRegister : ∀ (idx : Nat) (info : QI), ms_X7_isRegister idx = some info → q_Cs cX7_isRegister 7 0 idx info := by
  intro idx info h
  unfold ms_X7_isRegister at h
  cases h
theorem ok_X7_isRegister : q_Ok yX7_isRegister cX7_isRegister 1 (some .boolean) 0 T_X7_isRegister 0 0 := q_okOf (plainFor_of_name (by decide +kernel)) rfl (fun h => by cases h) cs_X7_isRegister (fun _ _ _ _ h => h)
theorem qlk_7_87 : Cond.methodLink (q_ow 7) 87 yX7_isRegister ∈ q_Ts := q_in 407 (by decide +kernel) rfl
def ms_X7_setRegister : Nat → Option QI := fun i => if i = 87 then some (0, 1, 7, T_X7_isRegister, 0, 0) else if i = 58 then some (0, 1, 7, T_X7_isFormat, 0, 0) else if i = 69 then some (1, 0, 7, T_X7_remember, 0, 0) else none
theorem ms_X7_setRegister_87 : ms_X7_setRegister 87 = some (0, 1, 7, T_X7_isRegister, 0, 0) := rfl
theorem ms_X7_setRegister_58 : ms_X7_setRegister 58 = some (0, 1, 7, T_X7_isFormat, 0, 0) := rfl
theorem ms_X7_setRegister_69 : ms_X7_setRegister 69 = some (1, 0, 7, T_X7_remember, 0, 0) := rfl
def T_X7_setRegister : QTT := q_T cX7_setRegister 4 7 false (some .int) ms_X7_setRegister 0 0
set_option maxRecDepth 100000 in
theorem qw_X7_setRegister : q_Wd yX7_setRegister cX7_setRegister 4 (some .int) 2 := ⟨q_in 406 rfl rfl, q_in 64 (by decide +kernel) rfl, by decide +kernel, by decide +kernel, by decide +kernel, by decide⟩
theorem qst_X7_setRegister : Cond.instanceMethod yX7_setRegister ∈ q_Ts := q_in 404 (by decide +kernel) rfl
theorem qsl_X7_setRegister : Cond.selects yX7_setRegister.cls yX7_setRegister yX7_setRegister ∈ q_Ts := q_in 405 (by decide +kernel) rfl
theorem cs_X7_setRegister : ∀ (idx : Nat) (info : QI), ms_X7_setRegister idx = some info → q_Cs cX7_setRegister 7 4 idx info := by
  intro idx info h
  unfold ms_X7_setRegister at h
  by_cases h0 : idx = 87
  · subst h0; rw [if_pos rfl] at h; cases h; intro p l e R s m args below meth c Q D cy nL A hC hf hlo; exact q_r0 hC ok_X7_isRegister qw_X7_isRegister qlk_7_87 qst_X7_isRegister (by omega) (by omega)
  rw [if_neg h0] at h
  by_cases h1 : idx = 58
  · subst h1; rw [if_pos rfl] at h; cases h; intro p l e R s m args below meth c Q D cy nL A hC hf hlo; exact q_r0 hC ok_X7_isFormat qw_X7_isFormat qlk_7_58 qst_X7_isFormat (by omega) (by omega)
  rw [if_neg h1] at h
  by_cases h2 : idx = 69
  · subst h2; rw [if_pos rfl] at h; cases h; intro p l e R s m args below meth c Q D cy nL A hC hf hlo; exact q_r1 hC ok_X7_remember qw_X7_remember qlk_7_69 ⟨qst_X7_remember, qsl_X7_remember⟩ ⟨rfl, rfl⟩ (by omega) (by omega)
  rw [if_neg h2] at h
  cases h
theorem ok_X7_setRegister : q_Ok yX7_setRegister cX7_setRegister 4 (some .int) 4 T_X7_setRegister 0 0 := q_okOf (plainFor_of_name (by decide +kernel)) rfl (fun h => by cases h) cs_X7_setRegister (fun _ _ _ _ h => h)
def ms_X7_isInRange : Nat → Option QI := fun i => none
def T_X7_isInRange : QTT := q_T cX7_isInRange 1 7 false (some .boolean) ms_X7_isInRange 0 0
set_option maxRecDepth 100000 in
theorem qw_X7_isInRange : q_Wd yX7_isInRange cX7_isInRange 1 (some .boolean) 1 := ⟨q_in 416 rfl rfl, q_in 64 (by decide +kernel) rfl, by decide +kernel, by decide +kernel, by decide +kernel, by decide⟩
theorem qst_X7_isInRange : Cond.static yX7_isInRange ∈ q_Ts := q_in 415 (by decide +kernel) rfl
theorem cs_X7_isInRange : ∀ (idx : Nat) (info : QI), ms_X7_isInRange idx = some info → q_Cs cX7_isInRange 7 0 idx info := by
  intro idx info h
  unfold ms_X7_isInRange at h
  cases h
theorem ok_X7_isInRange : q_Ok yX7_isInRange cX7_isInRange 1 (some .boolean) 0 T_X7_isInRange 0 0 := q_okOf (plainFor_of_name (by decide +kernel)) rfl (fun h => by cases h) cs_X7_isInRange (fun _ _ _ _ h => h)
theorem qlk_7_97 : Cond.methodLink (q_ow 7) 97 yX7_isInRange ∈ q_Ts := q_in 414 (by decide +kernel) rfl
theorem qlk_7_100 : Cond.methodLink (q_ow 7) 100 yX3_setFraction ∈ q_Ts := q_in 419 (by decide +kernel) rfl
theorem qlk_7_104 : Cond.methodLink (q_ow 7) 104 yX6_formatAt ∈ q_Ts := q_in 423 (by decide +kernel) rfl
theorem qlk_7_108 : Cond.methodLink (q_ow 7) 108 yX3_findNeighbors ∈ q_Ts := q_in 427 (by decide +kernel) rfl
theorem qlk_7_112 : Cond.methodLink (q_ow 7) 112 yX3_rounded ∈ q_Ts := q_in 460 (by decide +kernel) rfl
def ms_X7_setValue : Nat → Option QI := fun i => if i = 87 then some (0, 1, 7, T_X7_isRegister, 0, 0) else if i = 97 then some (0, 1, 7, T_X7_isInRange, 0, 0) else if i = 69 then some (1, 0, 7, T_X7_remember, 0, 0) else if i = 100 then some (1, 2, 3, T_X3_setFraction, 0, 0) else if i = 104 then some (1, 1, 6, T_X6_formatAt, 0, 0) else if i = 108 then some (1, 1, 3, T_X3_findNeighbors, 0, 0) else if i = 112 then some (1, 2, 3, T_X3_rounded, 0, 0) else none
theorem ms_X7_setValue_87 : ms_X7_setValue 87 = some (0, 1, 7, T_X7_isRegister, 0, 0) := rfl
theorem ms_X7_setValue_97 : ms_X7_setValue 97 = some (0, 1, 7, T_X7_isInRange, 0, 0) := rfl
theorem ms_X7_setValue_69 : ms_X7_setValue 69 = some (1, 0, 7, T_X7_remember, 0, 0) := rfl
theorem ms_X7_setValue_100 : ms_X7_setValue 100 = some (1, 2, 3, T_X3_setFraction, 0, 0) := rfl
theorem ms_X7_setValue_104 : ms_X7_setValue 104 = some (1, 1, 6, T_X6_formatAt, 0, 0) := rfl
theorem ms_X7_setValue_108 : ms_X7_setValue 108 = some (1, 1, 3, T_X3_findNeighbors, 0, 0) := rfl
theorem ms_X7_setValue_112 : ms_X7_setValue 112 = some (1, 2, 3, T_X3_rounded, 0, 0) := rfl
def T_X7_setValue : QTT := q_T cX7_setValue 3 7 false (some .int) ms_X7_setValue 0 0
set_option maxRecDepth 100000 in
theorem qw_X7_setValue : q_Wd yX7_setValue cX7_setValue 3 (some .int) 2 := ⟨q_in 413 rfl rfl, q_in 64 (by decide +kernel) rfl, by decide +kernel, by decide +kernel, by decide +kernel, by decide⟩
theorem qst_X7_setValue : Cond.instanceMethod yX7_setValue ∈ q_Ts := q_in 411 (by decide +kernel) rfl
theorem qsl_X7_setValue : Cond.selects yX7_setValue.cls yX7_setValue yX7_setValue ∈ q_Ts := q_in 412 (by decide +kernel) rfl
theorem cs_X7_setValue : ∀ (idx : Nat) (info : QI), ms_X7_setValue idx = some info → q_Cs cX7_setValue 7 4 idx info := by
  intro idx info h
  unfold ms_X7_setValue at h
  by_cases h0 : idx = 87
  · subst h0; rw [if_pos rfl] at h; cases h; intro p l e R s m args below meth c Q D cy nL A hC hf hlo; exact q_r0 hC ok_X7_isRegister qw_X7_isRegister qlk_7_87 qst_X7_isRegister (by omega) (by omega)
  rw [if_neg h0] at h
  by_cases h1 : idx = 97
  · subst h1; rw [if_pos rfl] at h; cases h; intro p l e R s m args below meth c Q D cy nL A hC hf hlo; exact q_r0 hC ok_X7_isInRange qw_X7_isInRange qlk_7_97 qst_X7_isInRange (by omega) (by omega)
  rw [if_neg h1] at h
  by_cases h2 : idx = 69
  · subst h2; rw [if_pos rfl] at h; cases h; intro p l e R s m args below meth c Q D cy nL A hC hf hlo; exact q_r1 hC ok_X7_remember qw_X7_remember qlk_7_69 ⟨qst_X7_remember, qsl_X7_remember⟩ ⟨rfl, rfl⟩ (by omega) (by omega)
  rw [if_neg h2] at h
  by_cases h3 : idx = 100
  · subst h3; rw [if_pos rfl] at h; cases h; intro p l e R s m args below meth c Q D cy nL A hC hf hlo; exact q_r1 hC ok_X3_setFraction qw_X3_setFraction qlk_7_100 ⟨qst_X3_setFraction, qsl_X3_setFraction⟩ ⟨rfl, rfl⟩ (by omega) (by omega)
  rw [if_neg h3] at h
  by_cases h4 : idx = 104
  · subst h4; rw [if_pos rfl] at h; cases h; intro p l e R s m args below meth c Q D cy nL A hC hf hlo; exact q_r1 hC ok_X6_formatAt qw_X6_formatAt qlk_7_104 ⟨qst_X6_formatAt, qsl_X6_formatAt⟩ ⟨rfl, rfl⟩ (by omega) (by omega)
  rw [if_neg h4] at h
  by_cases h5 : idx = 108
  · subst h5; rw [if_pos rfl] at h; cases h; intro p l e R s m args below meth c Q D cy nL A hC hf hlo; exact q_r1 hC ok_X3_findNeighbors qw_X3_findNeighbors qlk_7_108 ⟨qst_X3_findNeighbors, qsl_X3_findNeighbors⟩ ⟨rfl, rfl⟩ (by omega) (by omega)
  rw [if_neg h5] at h
  by_cases h6 : idx = 112
  · subst h6; rw [if_pos rfl] at h; cases h; intro p l e R s m args below meth c Q D cy nL A hC hf hlo; exact q_r1 hC ok_X3_rounded qw_X3_rounded qlk_7_112 ⟨qst_X3_rounded, qsl_X3_rounded⟩ ⟨rfl, rfl⟩ (by omega) (by omega)
  rw [if_neg h6] at h
  cases h
theorem ok_X7_setValue : q_Ok yX7_setValue cX7_setValue 3 (some .int) 4 T_X7_setValue 0 0 := q_okOf (plainFor_of_name (by decide +kernel)) rfl (fun h => by cases h) cs_X7_setValue (fun _ _ _ _ h => h)
def ms_X7_isMode : Nat → Option QI := fun i => none
def T_X7_isMode : QTT := q_T cX7_isMode 1 7 false (some .boolean) ms_X7_isMode 0 0
set_option maxRecDepth 100000 in
theorem qw_X7_isMode : q_Wd yX7_isMode cX7_isMode 1 (some .boolean) 1 := ⟨q_in 475 rfl rfl, q_in 64 (by decide +kernel) rfl, by decide +kernel, by decide +kernel, by decide +kernel, by decide⟩
theorem qst_X7_isMode : Cond.static yX7_isMode ∈ q_Ts := q_in 474 (by decide +kernel) rfl
theorem cs_X7_isMode : ∀ (idx : Nat) (info : QI), ms_X7_isMode idx = some info → q_Cs cX7_isMode 7 0 idx info := by
  intro idx info h
  unfold ms_X7_isMode at h
  cases h
theorem ok_X7_isMode : q_Ok yX7_isMode cX7_isMode 1 (some .boolean) 0 T_X7_isMode 0 0 := q_okOf (plainFor_of_name (by decide +kernel)) rfl (fun h => by cases h) cs_X7_isMode (fun _ _ _ _ h => h)
theorem qlk_7_116 : Cond.methodLink (q_ow 7) 116 yX7_isMode ∈ q_Ts := q_in 473 (by decide +kernel) rfl
def ms_X7_setMode : Nat → Option QI := fun i => if i = 116 then some (0, 1, 7, T_X7_isMode, 0, 0) else if i = 69 then some (1, 0, 7, T_X7_remember, 0, 0) else none
theorem ms_X7_setMode_116 : ms_X7_setMode 116 = some (0, 1, 7, T_X7_isMode, 0, 0) := rfl
theorem ms_X7_setMode_69 : ms_X7_setMode 69 = some (1, 0, 7, T_X7_remember, 0, 0) := rfl
def T_X7_setMode : QTT := q_T cX7_setMode 3 7 false (some .int) ms_X7_setMode 0 0
set_option maxRecDepth 100000 in
theorem qw_X7_setMode : q_Wd yX7_setMode cX7_setMode 3 (some .int) 1 := ⟨q_in 472 rfl rfl, q_in 64 (by decide +kernel) rfl, by decide +kernel, by decide +kernel, by decide +kernel, by decide⟩
theorem qst_X7_setMode : Cond.instanceMethod yX7_setMode ∈ q_Ts := q_in 470 (by decide +kernel) rfl
theorem qsl_X7_setMode : Cond.selects yX7_setMode.cls yX7_setMode yX7_setMode ∈ q_Ts := q_in 471 (by decide +kernel) rfl
theorem cs_X7_setMode : ∀ (idx : Nat) (info : QI), ms_X7_setMode idx = some info → q_Cs cX7_setMode 7 4 idx info := by
  intro idx info h
  unfold ms_X7_setMode at h
  by_cases h0 : idx = 116
  · subst h0; rw [if_pos rfl] at h; cases h; intro p l e R s m args below meth c Q D cy nL A hC hf hlo; exact q_r0 hC ok_X7_isMode qw_X7_isMode qlk_7_116 qst_X7_isMode (by omega) (by omega)
  rw [if_neg h0] at h
  by_cases h1 : idx = 69
  · subst h1; rw [if_pos rfl] at h; cases h; intro p l e R s m args below meth c Q D cy nL A hC hf hlo; exact q_r1 hC ok_X7_remember qw_X7_remember qlk_7_69 ⟨qst_X7_remember, qsl_X7_remember⟩ ⟨rfl, rfl⟩ (by omega) (by omega)
  rw [if_neg h1] at h
  cases h
theorem ok_X7_setMode : q_Ok yX7_setMode cX7_setMode 3 (some .int) 4 T_X7_setMode 0 0 := q_okOf (plainFor_of_name (by decide +kernel)) rfl (fun h => by cases h) cs_X7_setMode (fun _ _ _ _ h => h)
def ms_X7_setBits : Nat → Option QI := fun i => if i = 69 then some (1, 0, 7, T_X7_remember, 0, 0) else none
theorem ms_X7_setBits_69 : ms_X7_setBits 69 = some (1, 0, 7, T_X7_remember, 0, 0) := rfl
def T_X7_setBits : QTT := q_T cX7_setBits 3 7 false (some .int) ms_X7_setBits 0 0
set_option maxRecDepth 100000 in
theorem qw_X7_setBits : q_Wd yX7_setBits cX7_setBits 3 (some .int) 1 := ⟨q_in 479 rfl rfl, q_in 64 (by decide +kernel) rfl, by decide +kernel, by decide +kernel, by decide +kernel, by decide⟩
theorem qst_X7_setBits : Cond.instanceMethod yX7_setBits ∈ q_Ts := q_in 477 (by decide +kernel) rfl
theorem qsl_X7_setBits : Cond.selects yX7_setBits.cls yX7_setBits yX7_setBits ∈ q_Ts := q_in 478 (by decide +kernel) rfl
theorem cs_X7_setBits : ∀ (idx : Nat) (info : QI), ms_X7_setBits idx = some info → q_Cs cX7_setBits 7 4 idx info := by
  intro idx info h
  unfold ms_X7_setBits at h
  by_cases h0 : idx = 69
  · subst h0; rw [if_pos rfl] at h; cases h; intro p l e R s m args below meth c Q D cy nL A hC hf hlo; exact q_r1 hC ok_X7_remember qw_X7_remember qlk_7_69 ⟨qst_X7_remember, qsl_X7_remember⟩ ⟨rfl, rfl⟩ (by omega) (by omega)
  rw [if_neg h0] at h
  cases h
theorem ok_X7_setBits : q_Ok yX7_setBits cX7_setBits 3 (some .int) 4 T_X7_setBits 0 0 := q_okOf (plainFor_of_name (by decide +kernel)) rfl (fun h => by cases h) cs_X7_setBits (fun _ _ _ _ h => h)
def ms_X7_setSeed : Nat → Option QI := fun i => if i = 69 then some (1, 0, 7, T_X7_remember, 0, 0) else none
theorem ms_X7_setSeed_69 : ms_X7_setSeed 69 = some (1, 0, 7, T_X7_remember, 0, 0) := rfl
def T_X7_setSeed : QTT := q_T cX7_setSeed 3 7 false (some .int) ms_X7_setSeed 0 0
set_option maxRecDepth 100000 in
theorem qw_X7_setSeed : q_Wd yX7_setSeed cX7_setSeed 3 (some .int) 1 := ⟨q_in 483 rfl rfl, q_in 64 (by decide +kernel) rfl, by decide +kernel, by decide +kernel, by decide +kernel, by decide⟩
theorem qst_X7_setSeed : Cond.instanceMethod yX7_setSeed ∈ q_Ts := q_in 481 (by decide +kernel) rfl
theorem qsl_X7_setSeed : Cond.selects yX7_setSeed.cls yX7_setSeed yX7_setSeed ∈ q_Ts := q_in 482 (by decide +kernel) rfl
theorem cs_X7_setSeed : ∀ (idx : Nat) (info : QI), ms_X7_setSeed idx = some info → q_Cs cX7_setSeed 7 4 idx info := by
  intro idx info h
  unfold ms_X7_setSeed at h
  by_cases h0 : idx = 69
  · subst h0; rw [if_pos rfl] at h; cases h; intro p l e R s m args below meth c Q D cy nL A hC hf hlo; exact q_r1 hC ok_X7_remember qw_X7_remember qlk_7_69 ⟨qst_X7_remember, qsl_X7_remember⟩ ⟨rfl, rfl⟩ (by omega) (by omega)
  rw [if_neg h0] at h
  cases h
theorem ok_X7_setSeed : q_Ok yX7_setSeed cX7_setSeed 3 (some .int) 4 T_X7_setSeed 0 0 := q_okOf (plainFor_of_name (by decide +kernel)) rfl (fun h => by cases h) cs_X7_setSeed (fun _ _ _ _ h => h)
def ms_X7_value : Nat → Option QI := fun i => if i = 87 then some (0, 1, 7, T_X7_isRegister, 0, 0) else none
theorem ms_X7_value_87 : ms_X7_value 87 = some (0, 1, 7, T_X7_isRegister, 0, 0) := rfl
def T_X7_value : QTT := q_T cX7_value 2 7 false (some .int) ms_X7_value 0 0
set_option maxRecDepth 100000 in
theorem qw_X7_value : q_Wd yX7_value cX7_value 2 (some .int) 1 := ⟨q_in 487 rfl rfl, q_in 64 (by decide +kernel) rfl, by decide +kernel, by decide +kernel, by decide +kernel, by decide⟩
theorem qst_X7_value : Cond.instanceMethod yX7_value ∈ q_Ts := q_in 485 (by decide +kernel) rfl
theorem qsl_X7_value : Cond.selects yX7_value.cls yX7_value yX7_value ∈ q_Ts := q_in 486 (by decide +kernel) rfl
theorem cs_X7_value : ∀ (idx : Nat) (info : QI), ms_X7_value idx = some info → q_Cs cX7_value 7 1 idx info := by
  intro idx info h
  unfold ms_X7_value at h
  by_cases h0 : idx = 87
  · subst h0; rw [if_pos rfl] at h; cases h; intro p l e R s m args below meth c Q D cy nL A hC hf hlo; exact q_r0 hC ok_X7_isRegister qw_X7_isRegister qlk_7_87 qst_X7_isRegister (by omega) (by omega)
  rw [if_neg h0] at h
  cases h
theorem ok_X7_value : q_Ok yX7_value cX7_value 2 (some .int) 1 T_X7_value 0 0 := q_okOf (plainFor_of_name (by decide +kernel)) rfl (fun h => by cases h) cs_X7_value (fun _ _ _ _ h => h)
def ms_X7_formatOf : Nat → Option QI := fun i => if i = 87 then some (0, 1, 7, T_X7_isRegister, 0, 0) else none
theorem ms_X7_formatOf_87 : ms_X7_formatOf 87 = some (0, 1, 7, T_X7_isRegister, 0, 0) := rfl
def T_X7_formatOf : QTT := q_T cX7_formatOf 2 7 false (some .int) ms_X7_formatOf 0 0
set_option maxRecDepth 100000 in
theorem qw_X7_formatOf : q_Wd yX7_formatOf cX7_formatOf 2 (some .int) 1 := ⟨q_in 491 rfl rfl, q_in 64 (by decide +kernel) rfl, by decide +kernel, by decide +kernel, by decide +kernel, by decide⟩
theorem qst_X7_formatOf : Cond.instanceMethod yX7_formatOf ∈ q_Ts := q_in 489 (by decide +kernel) rfl
theorem qsl_X7_formatOf : Cond.selects yX7_formatOf.cls yX7_formatOf yX7_formatOf ∈ q_Ts := q_in 490 (by decide +kernel) rfl
theorem cs_X7_formatOf : ∀ (idx : Nat) (info : QI), ms_X7_formatOf idx = some info → q_Cs cX7_formatOf 7 1 idx info := by
  intro idx info h
  unfold ms_X7_formatOf at h
  by_cases h0 : idx = 87
  · subst h0; rw [if_pos rfl] at h; cases h; intro p l e R s m args below meth c Q D cy nL A hC hf hlo; exact q_r0 hC ok_X7_isRegister qw_X7_isRegister qlk_7_87 qst_X7_isRegister (by omega) (by omega)
  rw [if_neg h0] at h
  cases h
theorem ok_X7_formatOf : q_Ok yX7_formatOf cX7_formatOf 2 (some .int) 1 T_X7_formatOf 0 0 := q_okOf (plainFor_of_name (by decide +kernel)) rfl (fun h => by cases h) cs_X7_formatOf (fun _ _ _ _ h => h)
theorem qlk_7_128 : Cond.methodLink (q_ow 7) 128 yX3_codeOf ∈ q_Ts := q_in 496 (by decide +kernel) rfl
theorem qlk_7_132 : Cond.methodLink (q_ow 7) 132 yX6_canCarryOut ∈ q_Ts := q_in 499 (by decide +kernel) rfl
theorem qlk_7_136 : Cond.methodLink (q_ow 7) 136 yX6_carryOut ∈ q_Ts := q_in 510 (by decide +kernel) rfl
theorem qlk_7_140 : Cond.methodLink (q_ow 7) 140 yX2_enter ∈ q_Ts := q_in 537 (by decide +kernel) rfl
def ms_X7_operate : Nat → Option QI := fun i => if i = 87 then some (0, 1, 7, T_X7_isRegister, 0, 0) else if i = 128 then some (0, 4, 3, T_X3_codeOf, 0, 0) else if i = 132 then some (1, 1, 6, T_X6_canCarryOut, 0, 0) else if i = 69 then some (1, 0, 7, T_X7_remember, 0, 0) else if i = 136 then some (1, 2, 6, T_X6_carryOut, 0, 0) else if i = 140 then some (1, 1, 2, T_X2_enter, 0, 0) else none
theorem ms_X7_operate_87 : ms_X7_operate 87 = some (0, 1, 7, T_X7_isRegister, 0, 0) := rfl
theorem ms_X7_operate_128 : ms_X7_operate 128 = some (0, 4, 3, T_X3_codeOf, 0, 0) := rfl
theorem ms_X7_operate_132 : ms_X7_operate 132 = some (1, 1, 6, T_X6_canCarryOut, 0, 0) := rfl
theorem ms_X7_operate_69 : ms_X7_operate 69 = some (1, 0, 7, T_X7_remember, 0, 0) := rfl
theorem ms_X7_operate_136 : ms_X7_operate 136 = some (1, 2, 6, T_X6_carryOut, 0, 0) := rfl
theorem ms_X7_operate_140 : ms_X7_operate 140 = some (1, 1, 2, T_X2_enter, 0, 0) := rfl
def T_X7_operate : QTT := q_T cX7_operate 6 7 false (some .int) ms_X7_operate 0 0
set_option maxRecDepth 100000 in
theorem qw_X7_operate : q_Wd yX7_operate cX7_operate 6 (some .int) 4 := ⟨q_in 495 rfl rfl, q_in 64 (by decide +kernel) rfl, by decide +kernel, by decide +kernel, by decide +kernel, by decide⟩
theorem qst_X7_operate : Cond.instanceMethod yX7_operate ∈ q_Ts := q_in 493 (by decide +kernel) rfl
theorem qsl_X7_operate : Cond.selects yX7_operate.cls yX7_operate yX7_operate ∈ q_Ts := q_in 494 (by decide +kernel) rfl
theorem cs_X7_operate : ∀ (idx : Nat) (info : QI), ms_X7_operate idx = some info → q_Cs cX7_operate 7 5 idx info := by
  intro idx info h
  unfold ms_X7_operate at h
  by_cases h0 : idx = 87
  · subst h0; rw [if_pos rfl] at h; cases h; intro p l e R s m args below meth c Q D cy nL A hC hf hlo; exact q_r0 hC ok_X7_isRegister qw_X7_isRegister qlk_7_87 qst_X7_isRegister (by omega) (by omega)
  rw [if_neg h0] at h
  by_cases h1 : idx = 128
  · subst h1; rw [if_pos rfl] at h; cases h; intro p l e R s m args below meth c Q D cy nL A hC hf hlo; exact q_r0 hC ok_X3_codeOf qw_X3_codeOf qlk_7_128 qst_X3_codeOf (by omega) (by omega)
  rw [if_neg h1] at h
  by_cases h2 : idx = 132
  · subst h2; rw [if_pos rfl] at h; cases h; intro p l e R s m args below meth c Q D cy nL A hC hf hlo; exact q_r1 hC ok_X6_canCarryOut qw_X6_canCarryOut qlk_7_132 ⟨qst_X6_canCarryOut, qsl_X6_canCarryOut⟩ ⟨rfl, rfl⟩ (by omega) (by omega)
  rw [if_neg h2] at h
  by_cases h3 : idx = 69
  · subst h3; rw [if_pos rfl] at h; cases h; intro p l e R s m args below meth c Q D cy nL A hC hf hlo; exact q_r1 hC ok_X7_remember qw_X7_remember qlk_7_69 ⟨qst_X7_remember, qsl_X7_remember⟩ ⟨rfl, rfl⟩ (by omega) (by omega)
  rw [if_neg h3] at h
  by_cases h4 : idx = 136
  · subst h4; rw [if_pos rfl] at h; cases h; intro p l e R s m args below meth c Q D cy nL A hC hf hlo; exact q_r1 hC ok_X6_carryOut qw_X6_carryOut qlk_7_136 ⟨qst_X6_carryOut, qsl_X6_carryOut⟩ ⟨rfl, rfl⟩ (by omega) (by omega)
  rw [if_neg h4] at h
  by_cases h5 : idx = 140
  · subst h5; rw [if_pos rfl] at h; cases h; intro p l e R s m args below meth c Q D cy nL A hC hf hlo; exact q_r1 hC ok_X2_enter qw_X2_enter qlk_7_140 ⟨qst_X2_enter, qsl_X2_enter⟩ ⟨rfl, rfl⟩ (by omega) (by omega)
  rw [if_neg h5] at h
  cases h
theorem ok_X7_operate : q_Ok yX7_operate cX7_operate 6 (some .int) 5 T_X7_operate 0 0 := q_okOf (plainFor_of_name (by decide +kernel)) rfl (fun h => by cases h) cs_X7_operate (fun _ _ _ _ h => h)
theorem qlk_7_147 : Cond.methodLink (q_ow 7) 147 yX4_append ∈ q_Ts := q_in 571 (by decide +kernel) rfl
def ms_X7_type : Nat → Option QI := fun i => if i = 147 then some (1, 1, 4, T_X4_append, 0, 0) else none
theorem ms_X7_type_147 : ms_X7_type 147 = some (1, 1, 4, T_X4_append, 0, 0) := rfl
def T_X7_type : QTT := q_T cX7_type 2 7 false (some .int) ms_X7_type 0 0
set_option maxRecDepth 100000 in
theorem qw_X7_type : q_Wd yX7_type cX7_type 2 (some .int) 1 := ⟨q_in 570 rfl rfl, q_in 64 (by decide +kernel) rfl, by decide +kernel, by decide +kernel, by decide +kernel, by decide⟩
theorem qst_X7_type : Cond.instanceMethod yX7_type ∈ q_Ts := q_in 568 (by decide +kernel) rfl
theorem qsl_X7_type : Cond.selects yX7_type.cls yX7_type yX7_type ∈ q_Ts := q_in 569 (by decide +kernel) rfl
theorem cs_X7_type : ∀ (idx : Nat) (info : QI), ms_X7_type idx = some info → q_Cs cX7_type 7 1 idx info := by
  intro idx info h
  unfold ms_X7_type at h
  by_cases h0 : idx = 147
  · subst h0; rw [if_pos rfl] at h; cases h; intro p l e R s m args below meth c Q D cy nL A hC hf hlo; exact q_r1 hC ok_X4_append qw_X4_append qlk_7_147 ⟨qst_X4_append, qsl_X4_append⟩ ⟨rfl, rfl⟩ (by omega) (by omega)
  rw [if_neg h0] at h
  cases h
theorem ok_X7_type : q_Ok yX7_type cX7_type 2 (some .int) 1 T_X7_type 0 0 := q_okOf (plainFor_of_name (by decide +kernel)) rfl (fun h => by cases h) cs_X7_type (fun _ _ _ _ h => h)
def ms_X7_clear : Nat → Option QI := fun i => none
def T_X7_clear : QTT := q_T cX7_clear 2 7 false (some .int) ms_X7_clear 0 0
set_option maxRecDepth 100000 in
theorem qw_X7_clear : q_Wd yX7_clear cX7_clear 2 (some .int) 0 := ⟨q_in 579 rfl rfl, q_in 64 (by decide +kernel) rfl, by decide +kernel, by decide +kernel, by decide +kernel, by decide⟩
theorem qst_X7_clear : Cond.instanceMethod yX7_clear ∈ q_Ts := q_in 577 (by decide +kernel) rfl
theorem qsl_X7_clear : Cond.selects yX7_clear.cls yX7_clear yX7_clear ∈ q_Ts := q_in 578 (by decide +kernel) rfl
theorem cs_X7_clear : ∀ (idx : Nat) (info : QI), ms_X7_clear idx = some info → q_Cs cX7_clear 7 0 idx info := by
  intro idx info h
  unfold ms_X7_clear at h
  cases h
theorem ok_X7_clear : q_Ok yX7_clear cX7_clear 2 (some .int) 0 T_X7_clear 0 0 := q_okOf (plainFor_of_name (by decide +kernel)) rfl (fun h => by cases h) cs_X7_clear (fun _ _ _ _ h => h)
theorem qlk_7_154 : Cond.methodLink (q_ow 7) 154 yX4_read ∈ q_Ts := q_in 584 (by decide +kernel) rfl
def ms_X7_fault : Nat → Option QI := fun i => if i = 154 then some (1, 0, 4, T_X4_read, 0, 0) else none
theorem ms_X7_fault_154 : ms_X7_fault 154 = some (1, 0, 4, T_X4_read, 0, 0) := rfl
def T_X7_fault : QTT := q_T cX7_fault 1 7 false (some .int) ms_X7_fault 0 0
set_option maxRecDepth 100000 in
theorem qw_X7_fault : q_Wd yX7_fault cX7_fault 1 (some .int) 0 := ⟨q_in 583 rfl rfl, q_in 64 (by decide +kernel) rfl, by decide +kernel, by decide +kernel, by decide +kernel, by decide⟩
theorem qst_X7_fault : Cond.instanceMethod yX7_fault ∈ q_Ts := q_in 581 (by decide +kernel) rfl
theorem qsl_X7_fault : Cond.selects yX7_fault.cls yX7_fault yX7_fault ∈ q_Ts := q_in 582 (by decide +kernel) rfl
theorem cs_X7_fault : ∀ (idx : Nat) (info : QI), ms_X7_fault idx = some info → q_Cs cX7_fault 7 5 idx info := by
  intro idx info h
  unfold ms_X7_fault at h
  by_cases h0 : idx = 154
  · subst h0; rw [if_pos rfl] at h; cases h; intro p l e R s m args below meth c Q D cy nL A hC hf hlo; exact q_r1 hC ok_X4_read qw_X4_read qlk_7_154 ⟨qst_X4_read, qsl_X4_read⟩ ⟨rfl, rfl⟩ (by omega) (by omega)
  rw [if_neg h0] at h
  cases h
theorem ok_X7_fault : q_Ok yX7_fault cX7_fault 1 (some .int) 5 T_X7_fault 0 0 := q_okOf (plainFor_of_name (by decide +kernel)) rfl (fun h => by cases h) cs_X7_fault (fun _ _ _ _ h => h)
theorem qlk_7_159 : Cond.methodLink (q_ow 7) 159 yX5_carryOut ∈ q_Ts := q_in 661 (by decide +kernel) rfl
def ms_X7_run : Nat → Option QI := fun i => if i = 154 then some (1, 0, 4, T_X4_read, 0, 0) else if i = 69 then some (1, 0, 7, T_X7_remember, 0, 0) else if i = 159 then some (1, 4, 5, T_X5_carryOut, 0, 0) else none
theorem ms_X7_run_154 : ms_X7_run 154 = some (1, 0, 4, T_X4_read, 0, 0) := rfl
theorem ms_X7_run_69 : ms_X7_run 69 = some (1, 0, 7, T_X7_remember, 0, 0) := rfl
theorem ms_X7_run_159 : ms_X7_run 159 = some (1, 4, 5, T_X5_carryOut, 0, 0) := rfl
def T_X7_run : QTT := q_T cX7_run 1 7 false (some .int) ms_X7_run 0 0
set_option maxRecDepth 100000 in
theorem qw_X7_run : q_Wd yX7_run cX7_run 1 (some .int) 0 := ⟨q_in 659 rfl rfl, q_in 64 (by decide +kernel) rfl, by decide +kernel, by decide +kernel, by decide +kernel, by decide⟩
theorem qst_X7_run : Cond.instanceMethod yX7_run ∈ q_Ts := q_in 657 (by decide +kernel) rfl
theorem qsl_X7_run : Cond.selects yX7_run.cls yX7_run yX7_run ∈ q_Ts := q_in 658 (by decide +kernel) rfl
theorem cs_X7_run : ∀ (idx : Nat) (info : QI), ms_X7_run idx = some info → q_Cs cX7_run 7 6 idx info := by
  intro idx info h
  unfold ms_X7_run at h
  by_cases h0 : idx = 154
  · subst h0; rw [if_pos rfl] at h; cases h; intro p l e R s m args below meth c Q D cy nL A hC hf hlo; exact q_r1 hC ok_X4_read qw_X4_read qlk_7_154 ⟨qst_X4_read, qsl_X4_read⟩ ⟨rfl, rfl⟩ (by omega) (by omega)
  rw [if_neg h0] at h
  by_cases h1 : idx = 69
  · subst h1; rw [if_pos rfl] at h; cases h; intro p l e R s m args below meth c Q D cy nL A hC hf hlo; exact q_r1 hC ok_X7_remember qw_X7_remember qlk_7_69 ⟨qst_X7_remember, qsl_X7_remember⟩ ⟨rfl, rfl⟩ (by omega) (by omega)
  rw [if_neg h1] at h
  by_cases h2 : idx = 159
  · subst h2; rw [if_pos rfl] at h; cases h; intro p l e R s m args below meth c Q D cy nL A hC hf hlo; exact q_r1 hC ok_X5_carryOut qw_X5_carryOut qlk_7_159 ⟨qst_X5_carryOut, qsl_X5_carryOut⟩ ⟨rfl, rfl⟩ (by omega) (by omega)
  rw [if_neg h2] at h
  cases h
theorem ok_X7_run : q_Ok yX7_run cX7_run 1 (some .int) 6 T_X7_run 0 0 := q_okOf (plainFor_of_name (by decide +kernel)) rfl (fun h => by cases h) cs_X7_run (fun _ _ _ _ h => h)
def ms_X7_stopped : Nat → Option QI := fun i => none
def T_X7_stopped : QTT := q_T cX7_stopped 1 7 false (some .int) ms_X7_stopped 0 0
set_option maxRecDepth 100000 in
theorem qw_X7_stopped : q_Wd yX7_stopped cX7_stopped 1 (some .int) 0 := ⟨q_in 688 rfl rfl, q_in 64 (by decide +kernel) rfl, by decide +kernel, by decide +kernel, by decide +kernel, by decide⟩
theorem qst_X7_stopped : Cond.instanceMethod yX7_stopped ∈ q_Ts := q_in 686 (by decide +kernel) rfl
theorem qsl_X7_stopped : Cond.selects yX7_stopped.cls yX7_stopped yX7_stopped ∈ q_Ts := q_in 687 (by decide +kernel) rfl
theorem cs_X7_stopped : ∀ (idx : Nat) (info : QI), ms_X7_stopped idx = some info → q_Cs cX7_stopped 7 0 idx info := by
  intro idx info h
  unfold ms_X7_stopped at h
  cases h
theorem ok_X7_stopped : q_Ok yX7_stopped cX7_stopped 1 (some .int) 0 T_X7_stopped 0 0 := q_okOf (plainFor_of_name (by decide +kernel)) rfl (fun h => by cases h) cs_X7_stopped (fun _ _ _ _ h => h)
theorem qlk_7_307 : Cond.methodLink (q_ow 7) 307 yX6_copyFrom ∈ q_Ts := q_in 697 (by decide +kernel) rfl
def ms_X7_valueAfterTrial : Nat → Option QI := fun i => if i = 307 then some (1, 1, 6, T_X6_copyFrom, 0, 0) else if i = 159 then some (1, 4, 5, T_X5_carryOut, 0, 0) else none
theorem ms_X7_valueAfterTrial_307 : ms_X7_valueAfterTrial 307 = some (1, 1, 6, T_X6_copyFrom, 0, 0) := rfl
theorem ms_X7_valueAfterTrial_159 : ms_X7_valueAfterTrial 159 = some (1, 4, 5, T_X5_carryOut, 0, 0) := rfl
def T_X7_valueAfterTrial : QTT := q_T cX7_valueAfterTrial 4 7 false (some .int) ms_X7_valueAfterTrial 0 0
set_option maxRecDepth 100000 in
theorem qw_X7_valueAfterTrial : q_Wd yX7_valueAfterTrial cX7_valueAfterTrial 4 (some .int) 3 := ⟨q_in 696 rfl rfl, q_in 64 (by decide +kernel) rfl, by decide +kernel, by decide +kernel, by decide +kernel, by decide⟩
theorem qst_X7_valueAfterTrial : Cond.instanceMethod yX7_valueAfterTrial ∈ q_Ts := q_in 695 (by decide +kernel) rfl
theorem qsl_X7_valueAfterTrial : Cond.selects yX7_valueAfterTrial.cls yX7_valueAfterTrial yX7_valueAfterTrial ∈ q_Ts := q_in 24 (by decide +kernel) rfl
theorem cs_X7_valueAfterTrial : ∀ (idx : Nat) (info : QI), ms_X7_valueAfterTrial idx = some info → q_Cs cX7_valueAfterTrial 7 6 idx info := by
  intro idx info h
  unfold ms_X7_valueAfterTrial at h
  by_cases h0 : idx = 307
  · subst h0; rw [if_pos rfl] at h; cases h; intro p l e R s m args below meth c Q D cy nL A hC hf hlo; exact q_r1 hC ok_X6_copyFrom qw_X6_copyFrom qlk_7_307 ⟨qst_X6_copyFrom, qsl_X6_copyFrom⟩ ⟨rfl, rfl⟩ (by omega) (by omega)
  rw [if_neg h0] at h
  by_cases h1 : idx = 159
  · subst h1; rw [if_pos rfl] at h; cases h; intro p l e R s m args below meth c Q D cy nL A hC hf hlo; exact q_r1 hC ok_X5_carryOut qw_X5_carryOut qlk_7_159 ⟨qst_X5_carryOut, qsl_X5_carryOut⟩ ⟨rfl, rfl⟩ (by omega) (by omega)
  rw [if_neg h1] at h
  cases h
theorem ok_X7_valueAfterTrial : q_Ok yX7_valueAfterTrial cX7_valueAfterTrial 4 (some .int) 6 T_X7_valueAfterTrial 0 0 := q_okOf (plainFor_of_name (by decide +kernel)) rfl (fun h => by cases h) cs_X7_valueAfterTrial (fun _ _ _ _ h => h)
theorem qlk_7_168 : Cond.methodLink (q_ow 7) 168 yX7_valueAfterTrial ∈ q_Ts := q_in 693 (by decide +kernel) rfl
def ms_X7_ifRun : Nat → Option QI := fun i => if i = 87 then some (0, 1, 7, T_X7_isRegister, 0, 0) else if i = 116 then some (0, 1, 7, T_X7_isMode, 0, 0) else if i = 154 then some (1, 0, 4, T_X4_read, 0, 0) else if i = 168 then some (1, 3, 7, T_X7_valueAfterTrial, 0, 0) else none
theorem ms_X7_ifRun_87 : ms_X7_ifRun 87 = some (0, 1, 7, T_X7_isRegister, 0, 0) := rfl
theorem ms_X7_ifRun_116 : ms_X7_ifRun 116 = some (0, 1, 7, T_X7_isMode, 0, 0) := rfl
theorem ms_X7_ifRun_154 : ms_X7_ifRun 154 = some (1, 0, 4, T_X4_read, 0, 0) := rfl
theorem ms_X7_ifRun_168 : ms_X7_ifRun 168 = some (1, 3, 7, T_X7_valueAfterTrial, 0, 0) := rfl
def T_X7_ifRun : QTT := q_T cX7_ifRun 4 7 false (some .int) ms_X7_ifRun 0 0
set_option maxRecDepth 100000 in
theorem qw_X7_ifRun : q_Wd yX7_ifRun cX7_ifRun 4 (some .int) 3 := ⟨q_in 692 rfl rfl, q_in 64 (by decide +kernel) rfl, by decide +kernel, by decide +kernel, by decide +kernel, by decide⟩
theorem qst_X7_ifRun : Cond.instanceMethod yX7_ifRun ∈ q_Ts := q_in 690 (by decide +kernel) rfl
theorem qsl_X7_ifRun : Cond.selects yX7_ifRun.cls yX7_ifRun yX7_ifRun ∈ q_Ts := q_in 691 (by decide +kernel) rfl
theorem cs_X7_ifRun : ∀ (idx : Nat) (info : QI), ms_X7_ifRun idx = some info → q_Cs cX7_ifRun 7 7 idx info := by
  intro idx info h
  unfold ms_X7_ifRun at h
  by_cases h0 : idx = 87
  · subst h0; rw [if_pos rfl] at h; cases h; intro p l e R s m args below meth c Q D cy nL A hC hf hlo; exact q_r0 hC ok_X7_isRegister qw_X7_isRegister qlk_7_87 qst_X7_isRegister (by omega) (by omega)
  rw [if_neg h0] at h
  by_cases h1 : idx = 116
  · subst h1; rw [if_pos rfl] at h; cases h; intro p l e R s m args below meth c Q D cy nL A hC hf hlo; exact q_r0 hC ok_X7_isMode qw_X7_isMode qlk_7_116 qst_X7_isMode (by omega) (by omega)
  rw [if_neg h1] at h
  by_cases h2 : idx = 154
  · subst h2; rw [if_pos rfl] at h; cases h; intro p l e R s m args below meth c Q D cy nL A hC hf hlo; exact q_r1 hC ok_X4_read qw_X4_read qlk_7_154 ⟨qst_X4_read, qsl_X4_read⟩ ⟨rfl, rfl⟩ (by omega) (by omega)
  rw [if_neg h2] at h
  by_cases h3 : idx = 168
  · subst h3; rw [if_pos rfl] at h; cases h; intro p l e R s m args below meth c Q D cy nL A hC hf hlo; exact q_r1 hC ok_X7_valueAfterTrial qw_X7_valueAfterTrial qlk_7_168 ⟨qst_X7_valueAfterTrial, qsl_X7_valueAfterTrial⟩ ⟨rfl, rfl⟩ (by omega) (by omega)
  rw [if_neg h3] at h
  cases h
theorem ok_X7_ifRun : q_Ok yX7_ifRun cX7_ifRun 4 (some .int) 7 T_X7_ifRun 0 0 := q_okOf (plainFor_of_name (by decide +kernel)) rfl (fun h => by cases h) cs_X7_ifRun (fun _ _ _ _ h => h)
def ms_X7_isEnsemble : Nat → Option QI := fun i => none
def T_X7_isEnsemble : QTT := q_T cX7_isEnsemble 1 7 false (some .boolean) ms_X7_isEnsemble 0 0
set_option maxRecDepth 100000 in
theorem qw_X7_isEnsemble : q_Wd yX7_isEnsemble cX7_isEnsemble 1 (some .boolean) 1 := ⟨q_in 704 rfl rfl, q_in 64 (by decide +kernel) rfl, by decide +kernel, by decide +kernel, by decide +kernel, by decide⟩
theorem qst_X7_isEnsemble : Cond.static yX7_isEnsemble ∈ q_Ts := q_in 703 (by decide +kernel) rfl
theorem cs_X7_isEnsemble : ∀ (idx : Nat) (info : QI), ms_X7_isEnsemble idx = some info → q_Cs cX7_isEnsemble 7 0 idx info := by
  intro idx info h
  unfold ms_X7_isEnsemble at h
  cases h
theorem ok_X7_isEnsemble : q_Ok yX7_isEnsemble cX7_isEnsemble 1 (some .boolean) 0 T_X7_isEnsemble 0 0 := q_okOf (plainFor_of_name (by decide +kernel)) rfl (fun h => by cases h) cs_X7_isEnsemble (fun _ _ _ _ h => h)
theorem qlk_7_172 : Cond.methodLink (q_ow 7) 172 yX7_isEnsemble ∈ q_Ts := q_in 702 (by decide +kernel) rfl
def ms_X7_ensembleSum : Nat → Option QI := fun i => if i = 87 then some (0, 1, 7, T_X7_isRegister, 0, 0) else if i = 172 then some (0, 1, 7, T_X7_isEnsemble, 0, 0) else if i = 154 then some (1, 0, 4, T_X4_read, 0, 0) else if i = 168 then some (1, 3, 7, T_X7_valueAfterTrial, 0, 0) else none
theorem ms_X7_ensembleSum_87 : ms_X7_ensembleSum 87 = some (0, 1, 7, T_X7_isRegister, 0, 0) := rfl
theorem ms_X7_ensembleSum_172 : ms_X7_ensembleSum 172 = some (0, 1, 7, T_X7_isEnsemble, 0, 0) := rfl
theorem ms_X7_ensembleSum_154 : ms_X7_ensembleSum 154 = some (1, 0, 4, T_X4_read, 0, 0) := rfl
theorem ms_X7_ensembleSum_168 : ms_X7_ensembleSum 168 = some (1, 3, 7, T_X7_valueAfterTrial, 0, 0) := rfl
def T_X7_ensembleSum : QTT := q_T cX7_ensembleSum 6 7 false (some .int) ms_X7_ensembleSum 0 0
set_option maxRecDepth 100000 in
theorem qw_X7_ensembleSum : q_Wd yX7_ensembleSum cX7_ensembleSum 6 (some .int) 3 := ⟨q_in 701 rfl rfl, q_in 64 (by decide +kernel) rfl, by decide +kernel, by decide +kernel, by decide +kernel, by decide⟩
theorem qst_X7_ensembleSum : Cond.instanceMethod yX7_ensembleSum ∈ q_Ts := q_in 699 (by decide +kernel) rfl
theorem qsl_X7_ensembleSum : Cond.selects yX7_ensembleSum.cls yX7_ensembleSum yX7_ensembleSum ∈ q_Ts := q_in 700 (by decide +kernel) rfl
theorem cs_X7_ensembleSum : ∀ (idx : Nat) (info : QI), ms_X7_ensembleSum idx = some info → q_Cs cX7_ensembleSum 7 7 idx info := by
  intro idx info h
  unfold ms_X7_ensembleSum at h
  by_cases h0 : idx = 87
  · subst h0; rw [if_pos rfl] at h; cases h; intro p l e R s m args below meth c Q D cy nL A hC hf hlo; exact q_r0 hC ok_X7_isRegister qw_X7_isRegister qlk_7_87 qst_X7_isRegister (by omega) (by omega)
  rw [if_neg h0] at h
  by_cases h1 : idx = 172
  · subst h1; rw [if_pos rfl] at h; cases h; intro p l e R s m args below meth c Q D cy nL A hC hf hlo; exact q_r0 hC ok_X7_isEnsemble qw_X7_isEnsemble qlk_7_172 qst_X7_isEnsemble (by omega) (by omega)
  rw [if_neg h1] at h
  by_cases h2 : idx = 154
  · subst h2; rw [if_pos rfl] at h; cases h; intro p l e R s m args below meth c Q D cy nL A hC hf hlo; exact q_r1 hC ok_X4_read qw_X4_read qlk_7_154 ⟨qst_X4_read, qsl_X4_read⟩ ⟨rfl, rfl⟩ (by omega) (by omega)
  rw [if_neg h2] at h
  by_cases h3 : idx = 168
  · subst h3; rw [if_pos rfl] at h; cases h; intro p l e R s m args below meth c Q D cy nL A hC hf hlo; exact q_r1 hC ok_X7_valueAfterTrial qw_X7_valueAfterTrial qlk_7_168 ⟨qst_X7_valueAfterTrial, qsl_X7_valueAfterTrial⟩ ⟨rfl, rfl⟩ (by omega) (by omega)
  rw [if_neg h3] at h
  cases h
theorem ok_X7_ensembleSum : q_Ok yX7_ensembleSum cX7_ensembleSum 6 (some .int) 7 T_X7_ensembleSum 0 0 := q_okOf (plainFor_of_name (by decide +kernel)) rfl (fun h => by cases h) cs_X7_ensembleSum (fun _ _ _ _ h => h)
theorem qlk_7_177 : Cond.methodLink (q_ow 7) 177 yJ9_min_7cf53 ∈ q_Ts := q_in 709 (by decide +kernel) rfl
theorem qlk_7_182 : Cond.methodLink (q_ow 7) 182 yJ9_max_7cf53 ∈ q_Ts := q_in 710 (by decide +kernel) rfl
def ms_X7_ensembleSpread : Nat → Option QI := fun i => if i = 87 then some (0, 1, 7, T_X7_isRegister, 0, 0) else if i = 172 then some (0, 1, 7, T_X7_isEnsemble, 0, 0) else if i = 154 then some (1, 0, 4, T_X4_read, 0, 0) else if i = 168 then some (1, 3, 7, T_X7_valueAfterTrial, 0, 0) else if i = 177 then some (0, 2, 0, T_J9_min_7cf53, 0, 0) else if i = 182 then some (0, 2, 0, T_J9_max_7cf53, 0, 0) else none
theorem ms_X7_ensembleSpread_87 : ms_X7_ensembleSpread 87 = some (0, 1, 7, T_X7_isRegister, 0, 0) := rfl
theorem ms_X7_ensembleSpread_172 : ms_X7_ensembleSpread 172 = some (0, 1, 7, T_X7_isEnsemble, 0, 0) := rfl
theorem ms_X7_ensembleSpread_154 : ms_X7_ensembleSpread 154 = some (1, 0, 4, T_X4_read, 0, 0) := rfl
theorem ms_X7_ensembleSpread_168 : ms_X7_ensembleSpread 168 = some (1, 3, 7, T_X7_valueAfterTrial, 0, 0) := rfl
theorem ms_X7_ensembleSpread_177 : ms_X7_ensembleSpread 177 = some (0, 2, 0, T_J9_min_7cf53, 0, 0) := rfl
theorem ms_X7_ensembleSpread_182 : ms_X7_ensembleSpread 182 = some (0, 2, 0, T_J9_max_7cf53, 0, 0) := rfl
def T_X7_ensembleSpread : QTT := q_T cX7_ensembleSpread 8 7 false (some .int) ms_X7_ensembleSpread 0 0
set_option maxRecDepth 100000 in
theorem qw_X7_ensembleSpread : q_Wd yX7_ensembleSpread cX7_ensembleSpread 8 (some .int) 3 := ⟨q_in 708 rfl rfl, q_in 64 (by decide +kernel) rfl, by decide +kernel, by decide +kernel, by decide +kernel, by decide⟩
theorem qst_X7_ensembleSpread : Cond.instanceMethod yX7_ensembleSpread ∈ q_Ts := q_in 706 (by decide +kernel) rfl
theorem qsl_X7_ensembleSpread : Cond.selects yX7_ensembleSpread.cls yX7_ensembleSpread yX7_ensembleSpread ∈ q_Ts := q_in 707 (by decide +kernel) rfl
theorem cs_X7_ensembleSpread : ∀ (idx : Nat) (info : QI), ms_X7_ensembleSpread idx = some info → q_Cs cX7_ensembleSpread 7 7 idx info := by
  intro idx info h
  unfold ms_X7_ensembleSpread at h
  by_cases h0 : idx = 87
  · subst h0; rw [if_pos rfl] at h; cases h; intro p l e R s m args below meth c Q D cy nL A hC hf hlo; exact q_r0 hC ok_X7_isRegister qw_X7_isRegister qlk_7_87 qst_X7_isRegister (by omega) (by omega)
  rw [if_neg h0] at h
  by_cases h1 : idx = 172
  · subst h1; rw [if_pos rfl] at h; cases h; intro p l e R s m args below meth c Q D cy nL A hC hf hlo; exact q_r0 hC ok_X7_isEnsemble qw_X7_isEnsemble qlk_7_172 qst_X7_isEnsemble (by omega) (by omega)
  rw [if_neg h1] at h
  by_cases h2 : idx = 154
  · subst h2; rw [if_pos rfl] at h; cases h; intro p l e R s m args below meth c Q D cy nL A hC hf hlo; exact q_r1 hC ok_X4_read qw_X4_read qlk_7_154 ⟨qst_X4_read, qsl_X4_read⟩ ⟨rfl, rfl⟩ (by omega) (by omega)
  rw [if_neg h2] at h
  by_cases h3 : idx = 168
  · subst h3; rw [if_pos rfl] at h; cases h; intro p l e R s m args below meth c Q D cy nL A hC hf hlo; exact q_r1 hC ok_X7_valueAfterTrial qw_X7_valueAfterTrial qlk_7_168 ⟨qst_X7_valueAfterTrial, qsl_X7_valueAfterTrial⟩ ⟨rfl, rfl⟩ (by omega) (by omega)
  rw [if_neg h3] at h
  by_cases h4 : idx = 177
  · subst h4; rw [if_pos rfl] at h; cases h; intro p l e R s m args below meth c Q D cy nL A hC hf hlo; exact q_r0 hC ok_J9_min_7cf53 qw_J9_min_7cf53 qlk_7_177 qst_J9_min_7cf53 (by omega) (by omega)
  rw [if_neg h4] at h
  by_cases h5 : idx = 182
  · subst h5; rw [if_pos rfl] at h; cases h; intro p l e R s m args below meth c Q D cy nL A hC hf hlo; exact q_r0 hC ok_J9_max_7cf53 qw_J9_max_7cf53 qlk_7_182 qst_J9_max_7cf53 (by omega) (by omega)
  rw [if_neg h5] at h
  cases h
theorem ok_X7_ensembleSpread : q_Ok yX7_ensembleSpread cX7_ensembleSpread 8 (some .int) 7 T_X7_ensembleSpread 0 0 := q_okOf (plainFor_of_name (by decide +kernel)) rfl (fun h => by cases h) cs_X7_ensembleSpread (fun _ _ _ _ h => h)
def ms_X7_records : Nat → Option QI := fun i => none
def T_X7_records : QTT := q_T cX7_records 1 7 false (some .int) ms_X7_records 0 0
set_option maxRecDepth 100000 in
theorem qw_X7_records : q_Wd yX7_records cX7_records 1 (some .int) 0 := ⟨q_in 714 rfl rfl, q_in 64 (by decide +kernel) rfl, by decide +kernel, by decide +kernel, by decide +kernel, by decide⟩
theorem qst_X7_records : Cond.instanceMethod yX7_records ∈ q_Ts := q_in 712 (by decide +kernel) rfl
theorem qsl_X7_records : Cond.selects yX7_records.cls yX7_records yX7_records ∈ q_Ts := q_in 713 (by decide +kernel) rfl
theorem cs_X7_records : ∀ (idx : Nat) (info : QI), ms_X7_records idx = some info → q_Cs cX7_records 7 0 idx info := by
  intro idx info h
  unfold ms_X7_records at h
  cases h
theorem ok_X7_records : q_Ok yX7_records cX7_records 1 (some .int) 0 T_X7_records 0 0 := q_okOf (plainFor_of_name (by decide +kernel)) rfl (fun h => by cases h) cs_X7_records (fun _ _ _ _ h => h)
theorem qlk_7_188 : Cond.methodLink (q_ow 7) 188 yX2_has ∈ q_Ts := q_in 719 (by decide +kernel) rfl
theorem qlk_7_191 : Cond.methodLink (q_ow 7) 191 yX2_at ∈ q_Ts := q_in 723 (by decide +kernel) rfl
def ms_X7_numberOf : Nat → Option QI := fun i => if i = 188 then some (1, 1, 2, T_X2_has, 0, 0) else if i = 191 then some (1, 1, 2, T_X2_at, 0, 0) else none
theorem ms_X7_numberOf_188 : ms_X7_numberOf 188 = some (1, 1, 2, T_X2_has, 0, 0) := rfl
theorem ms_X7_numberOf_191 : ms_X7_numberOf 191 = some (1, 1, 2, T_X2_at, 0, 0) := rfl
def T_X7_numberOf : QTT := q_T cX7_numberOf 2 7 false (some .int) ms_X7_numberOf 0 0
set_option maxRecDepth 100000 in
theorem qw_X7_numberOf : q_Wd yX7_numberOf cX7_numberOf 2 (some .int) 1 := ⟨q_in 718 rfl rfl, q_in 64 (by decide +kernel) rfl, by decide +kernel, by decide +kernel, by decide +kernel, by decide⟩
theorem qst_X7_numberOf : Cond.instanceMethod yX7_numberOf ∈ q_Ts := q_in 716 (by decide +kernel) rfl
theorem qsl_X7_numberOf : Cond.selects yX7_numberOf.cls yX7_numberOf yX7_numberOf ∈ q_Ts := q_in 717 (by decide +kernel) rfl
theorem cs_X7_numberOf : ∀ (idx : Nat) (info : QI), ms_X7_numberOf idx = some info → q_Cs cX7_numberOf 7 1 idx info := by
  intro idx info h
  unfold ms_X7_numberOf at h
  by_cases h0 : idx = 188
  · subst h0; rw [if_pos rfl] at h; cases h; intro p l e R s m args below meth c Q D cy nL A hC hf hlo; exact q_r1 hC ok_X2_has qw_X2_has qlk_7_188 ⟨qst_X2_has, qsl_X2_has⟩ ⟨rfl, rfl⟩ (by omega) (by omega)
  rw [if_neg h0] at h
  by_cases h1 : idx = 191
  · subst h1; rw [if_pos rfl] at h; cases h; intro p l e R s m args below meth c Q D cy nL A hC hf hlo; exact q_r1 hC ok_X2_at qw_X2_at qlk_7_191 ⟨qst_X2_at, qsl_X2_at⟩ ⟨rfl, rfl⟩ (by omega) (by omega)
  rw [if_neg h1] at h
  cases h
theorem ok_X7_numberOf : q_Ok yX7_numberOf cX7_numberOf 2 (some .int) 1 T_X7_numberOf 0 0 := q_okOf (plainFor_of_name (by decide +kernel)) rfl (fun h => by cases h) cs_X7_numberOf (fun _ _ _ _ h => h)
theorem qlk_7_198 : Cond.methodLink (q_ow 7) 198 yX3_decimalCode ∈ q_Ts := q_in 728 (by decide +kernel) rfl
def ms_X7_operation : Nat → Option QI := fun i => if i = 188 then some (1, 1, 2, T_X2_has, 0, 0) else if i = 191 then some (1, 1, 2, T_X2_at, 0, 0) else if i = 198 then some (1, 0, 3, T_X3_decimalCode, 0, 0) else none
theorem ms_X7_operation_188 : ms_X7_operation 188 = some (1, 1, 2, T_X2_has, 0, 0) := rfl
theorem ms_X7_operation_191 : ms_X7_operation 191 = some (1, 1, 2, T_X2_at, 0, 0) := rfl
theorem ms_X7_operation_198 : ms_X7_operation 198 = some (1, 0, 3, T_X3_decimalCode, 0, 0) := rfl
def T_X7_operation : QTT := q_T cX7_operation 2 7 false (some .int) ms_X7_operation 0 0
set_option maxRecDepth 100000 in
theorem qw_X7_operation : q_Wd yX7_operation cX7_operation 2 (some .int) 1 := ⟨q_in 727 rfl rfl, q_in 64 (by decide +kernel) rfl, by decide +kernel, by decide +kernel, by decide +kernel, by decide⟩
theorem qst_X7_operation : Cond.instanceMethod yX7_operation ∈ q_Ts := q_in 725 (by decide +kernel) rfl
theorem qsl_X7_operation : Cond.selects yX7_operation.cls yX7_operation yX7_operation ∈ q_Ts := q_in 726 (by decide +kernel) rfl
theorem cs_X7_operation : ∀ (idx : Nat) (info : QI), ms_X7_operation idx = some info → q_Cs cX7_operation 7 2 idx info := by
  intro idx info h
  unfold ms_X7_operation at h
  by_cases h0 : idx = 188
  · subst h0; rw [if_pos rfl] at h; cases h; intro p l e R s m args below meth c Q D cy nL A hC hf hlo; exact q_r1 hC ok_X2_has qw_X2_has qlk_7_188 ⟨qst_X2_has, qsl_X2_has⟩ ⟨rfl, rfl⟩ (by omega) (by omega)
  rw [if_neg h0] at h
  by_cases h1 : idx = 191
  · subst h1; rw [if_pos rfl] at h; cases h; intro p l e R s m args below meth c Q D cy nL A hC hf hlo; exact q_r1 hC ok_X2_at qw_X2_at qlk_7_191 ⟨qst_X2_at, qsl_X2_at⟩ ⟨rfl, rfl⟩ (by omega) (by omega)
  rw [if_neg h1] at h
  by_cases h2 : idx = 198
  · subst h2; rw [if_pos rfl] at h; cases h; intro p l e R s m args below meth c Q D cy nL A hC hf hlo; exact q_r1 hC ok_X3_decimalCode qw_X3_decimalCode qlk_7_198 ⟨qst_X3_decimalCode, qsl_X3_decimalCode⟩ ⟨rfl, rfl⟩ (by omega) (by omega)
  rw [if_neg h2] at h
  cases h
theorem ok_X7_operation : q_Ok yX7_operation cX7_operation 2 (some .int) 2 T_X7_operation 0 0 := q_okOf (plainFor_of_name (by decide +kernel)) rfl (fun h => by cases h) cs_X7_operation (fun _ _ _ _ h => h)
def ms_X7_result : Nat → Option QI := fun i => if i = 188 then some (1, 1, 2, T_X2_has, 0, 0) else if i = 191 then some (1, 1, 2, T_X2_at, 0, 0) else none
theorem ms_X7_result_188 : ms_X7_result 188 = some (1, 1, 2, T_X2_has, 0, 0) := rfl
theorem ms_X7_result_191 : ms_X7_result 191 = some (1, 1, 2, T_X2_at, 0, 0) := rfl
def T_X7_result : QTT := q_T cX7_result 2 7 false (some .int) ms_X7_result 0 0
set_option maxRecDepth 100000 in
theorem qw_X7_result : q_Wd yX7_result cX7_result 2 (some .int) 1 := ⟨q_in 738 rfl rfl, q_in 64 (by decide +kernel) rfl, by decide +kernel, by decide +kernel, by decide +kernel, by decide⟩
theorem qst_X7_result : Cond.instanceMethod yX7_result ∈ q_Ts := q_in 736 (by decide +kernel) rfl
theorem qsl_X7_result : Cond.selects yX7_result.cls yX7_result yX7_result ∈ q_Ts := q_in 737 (by decide +kernel) rfl
theorem cs_X7_result : ∀ (idx : Nat) (info : QI), ms_X7_result idx = some info → q_Cs cX7_result 7 1 idx info := by
  intro idx info h
  unfold ms_X7_result at h
  by_cases h0 : idx = 188
  · subst h0; rw [if_pos rfl] at h; cases h; intro p l e R s m args below meth c Q D cy nL A hC hf hlo; exact q_r1 hC ok_X2_has qw_X2_has qlk_7_188 ⟨qst_X2_has, qsl_X2_has⟩ ⟨rfl, rfl⟩ (by omega) (by omega)
  rw [if_neg h0] at h
  by_cases h1 : idx = 191
  · subst h1; rw [if_pos rfl] at h; cases h; intro p l e R s m args below meth c Q D cy nL A hC hf hlo; exact q_r1 hC ok_X2_at qw_X2_at qlk_7_191 ⟨qst_X2_at, qsl_X2_at⟩ ⟨rfl, rfl⟩ (by omega) (by omega)
  rw [if_neg h1] at h
  cases h
theorem ok_X7_result : q_Ok yX7_result cX7_result 2 (some .int) 1 T_X7_result 0 0 := q_okOf (plainFor_of_name (by decide +kernel)) rfl (fun h => by cases h) cs_X7_result (fun _ _ _ _ h => h)
def ms_X7_neighbor : Nat → Option QI := fun i => if i = 188 then some (1, 1, 2, T_X2_has, 0, 0) else if i = 191 then some (1, 1, 2, T_X2_at, 0, 0) else none
theorem ms_X7_neighbor_188 : ms_X7_neighbor 188 = some (1, 1, 2, T_X2_has, 0, 0) := rfl
theorem ms_X7_neighbor_191 : ms_X7_neighbor 191 = some (1, 1, 2, T_X2_at, 0, 0) := rfl
def T_X7_neighbor : QTT := q_T cX7_neighbor 3 7 false (some .int) ms_X7_neighbor 0 0
set_option maxRecDepth 100000 in
theorem qw_X7_neighbor : q_Wd yX7_neighbor cX7_neighbor 3 (some .int) 2 := ⟨q_in 742 rfl rfl, q_in 64 (by decide +kernel) rfl, by decide +kernel, by decide +kernel, by decide +kernel, by decide⟩
theorem qst_X7_neighbor : Cond.instanceMethod yX7_neighbor ∈ q_Ts := q_in 740 (by decide +kernel) rfl
theorem qsl_X7_neighbor : Cond.selects yX7_neighbor.cls yX7_neighbor yX7_neighbor ∈ q_Ts := q_in 741 (by decide +kernel) rfl
theorem cs_X7_neighbor : ∀ (idx : Nat) (info : QI), ms_X7_neighbor idx = some info → q_Cs cX7_neighbor 7 1 idx info := by
  intro idx info h
  unfold ms_X7_neighbor at h
  by_cases h0 : idx = 188
  · subst h0; rw [if_pos rfl] at h; cases h; intro p l e R s m args below meth c Q D cy nL A hC hf hlo; exact q_r1 hC ok_X2_has qw_X2_has qlk_7_188 ⟨qst_X2_has, qsl_X2_has⟩ ⟨rfl, rfl⟩ (by omega) (by omega)
  rw [if_neg h0] at h
  by_cases h1 : idx = 191
  · subst h1; rw [if_pos rfl] at h; cases h; intro p l e R s m args below meth c Q D cy nL A hC hf hlo; exact q_r1 hC ok_X2_at qw_X2_at qlk_7_191 ⟨qst_X2_at, qsl_X2_at⟩ ⟨rfl, rfl⟩ (by omega) (by omega)
  rw [if_neg h1] at h
  cases h
theorem ok_X7_neighbor : q_Ok yX7_neighbor cX7_neighbor 3 (some .int) 1 T_X7_neighbor 0 0 := q_okOf (plainFor_of_name (by decide +kernel)) rfl (fun h => by cases h) cs_X7_neighbor (fun _ _ _ _ h => h)
def ms_X7_drawOf : Nat → Option QI := fun i => if i = 188 then some (1, 1, 2, T_X2_has, 0, 0) else if i = 191 then some (1, 1, 2, T_X2_at, 0, 0) else none
theorem ms_X7_drawOf_188 : ms_X7_drawOf 188 = some (1, 1, 2, T_X2_has, 0, 0) := rfl
theorem ms_X7_drawOf_191 : ms_X7_drawOf 191 = some (1, 1, 2, T_X2_at, 0, 0) := rfl
def T_X7_drawOf : QTT := q_T cX7_drawOf 2 7 false (some .int) ms_X7_drawOf 0 0
set_option maxRecDepth 100000 in
theorem qw_X7_drawOf : q_Wd yX7_drawOf cX7_drawOf 2 (some .int) 1 := ⟨q_in 746 rfl rfl, q_in 64 (by decide +kernel) rfl, by decide +kernel, by decide +kernel, by decide +kernel, by decide⟩
theorem qst_X7_drawOf : Cond.instanceMethod yX7_drawOf ∈ q_Ts := q_in 744 (by decide +kernel) rfl
theorem qsl_X7_drawOf : Cond.selects yX7_drawOf.cls yX7_drawOf yX7_drawOf ∈ q_Ts := q_in 745 (by decide +kernel) rfl
theorem cs_X7_drawOf : ∀ (idx : Nat) (info : QI), ms_X7_drawOf idx = some info → q_Cs cX7_drawOf 7 1 idx info := by
  intro idx info h
  unfold ms_X7_drawOf at h
  by_cases h0 : idx = 188
  · subst h0; rw [if_pos rfl] at h; cases h; intro p l e R s m args below meth c Q D cy nL A hC hf hlo; exact q_r1 hC ok_X2_has qw_X2_has qlk_7_188 ⟨qst_X2_has, qsl_X2_has⟩ ⟨rfl, rfl⟩ (by omega) (by omega)
  rw [if_neg h0] at h
  by_cases h1 : idx = 191
  · subst h1; rw [if_pos rfl] at h; cases h; intro p l e R s m args below meth c Q D cy nL A hC hf hlo; exact q_r1 hC ok_X2_at qw_X2_at qlk_7_191 ⟨qst_X2_at, qsl_X2_at⟩ ⟨rfl, rfl⟩ (by omega) (by omega)
  rw [if_neg h1] at h
  cases h
theorem ok_X7_drawOf : q_Ok yX7_drawOf cX7_drawOf 2 (some .int) 1 T_X7_drawOf 0 0 := q_okOf (plainFor_of_name (by decide +kernel)) rfl (fun h => by cases h) cs_X7_drawOf (fun _ _ _ _ h => h)
def ms_X7_flags : Nat → Option QI := fun i => if i = 188 then some (1, 1, 2, T_X2_has, 0, 0) else if i = 191 then some (1, 1, 2, T_X2_at, 0, 0) else none
theorem ms_X7_flags_188 : ms_X7_flags 188 = some (1, 1, 2, T_X2_has, 0, 0) := rfl
theorem ms_X7_flags_191 : ms_X7_flags 191 = some (1, 1, 2, T_X2_at, 0, 0) := rfl
def T_X7_flags : QTT := q_T cX7_flags 2 7 false (some .int) ms_X7_flags 0 0
set_option maxRecDepth 100000 in
theorem qw_X7_flags : q_Wd yX7_flags cX7_flags 2 (some .int) 1 := ⟨q_in 750 rfl rfl, q_in 64 (by decide +kernel) rfl, by decide +kernel, by decide +kernel, by decide +kernel, by decide⟩
theorem qst_X7_flags : Cond.instanceMethod yX7_flags ∈ q_Ts := q_in 748 (by decide +kernel) rfl
theorem qsl_X7_flags : Cond.selects yX7_flags.cls yX7_flags yX7_flags ∈ q_Ts := q_in 749 (by decide +kernel) rfl
theorem cs_X7_flags : ∀ (idx : Nat) (info : QI), ms_X7_flags idx = some info → q_Cs cX7_flags 7 1 idx info := by
  intro idx info h
  unfold ms_X7_flags at h
  by_cases h0 : idx = 188
  · subst h0; rw [if_pos rfl] at h; cases h; intro p l e R s m args below meth c Q D cy nL A hC hf hlo; exact q_r1 hC ok_X2_has qw_X2_has qlk_7_188 ⟨qst_X2_has, qsl_X2_has⟩ ⟨rfl, rfl⟩ (by omega) (by omega)
  rw [if_neg h0] at h
  by_cases h1 : idx = 191
  · subst h1; rw [if_pos rfl] at h; cases h; intro p l e R s m args below meth c Q D cy nL A hC hf hlo; exact q_r1 hC ok_X2_at qw_X2_at qlk_7_191 ⟨qst_X2_at, qsl_X2_at⟩ ⟨rfl, rfl⟩ (by omega) (by omega)
  rw [if_neg h1] at h
  cases h
theorem ok_X7_flags : q_Ok yX7_flags cX7_flags 2 (some .int) 1 T_X7_flags 0 0 := q_okOf (plainFor_of_name (by decide +kernel)) rfl (fun h => by cases h) cs_X7_flags (fun _ _ _ _ h => h)
theorem qlk_7_320 : Cond.methodLink (q_ow 7) 320 yJ9_abs_067f4 ∈ q_Ts := q_in 766 (by decide +kernel) rfl
def ms_X7_commonDivisor : Nat → Option QI := fun i => if i = 320 then some (0, 1, 0, T_J9_abs_067f4, 0, 0) else none
theorem ms_X7_commonDivisor_320 : ms_X7_commonDivisor 320 = some (0, 1, 0, T_J9_abs_067f4, 0, 0) := rfl
def T_X7_commonDivisor : QTT := q_T cX7_commonDivisor 11 7 false (some .long) ms_X7_commonDivisor 0 0
set_option maxRecDepth 100000 in
theorem qw_X7_commonDivisor : q_Wd yX7_commonDivisor cX7_commonDivisor 11 (some .long) 2 := ⟨q_in 765 rfl rfl, q_in 64 (by decide +kernel) rfl, by decide +kernel, by decide +kernel, by decide +kernel, by decide⟩
theorem qst_X7_commonDivisor : Cond.static yX7_commonDivisor ∈ q_Ts := q_in 764 (by decide +kernel) rfl
theorem cs_X7_commonDivisor : ∀ (idx : Nat) (info : QI), ms_X7_commonDivisor idx = some info → q_Cs cX7_commonDivisor 7 1 idx info := by
  intro idx info h
  unfold ms_X7_commonDivisor at h
  by_cases h0 : idx = 320
  · subst h0; rw [if_pos rfl] at h; cases h; intro p l e R s m args below meth c Q D cy nL A hC hf hlo; exact q_r0 hC ok_J9_abs_067f4 qw_J9_abs_067f4 qlk_7_320 qst_J9_abs_067f4 (by omega) (by omega)
  rw [if_neg h0] at h
  cases h
theorem ok_X7_commonDivisor : q_Ok yX7_commonDivisor cX7_commonDivisor 11 (some .long) 1 T_X7_commonDivisor 0 0 := q_okOf (plainFor_of_name (by decide +kernel)) rfl (fun h => by cases h) cs_X7_commonDivisor (fun _ _ _ _ h => h)
theorem qlk_7_317 : Cond.methodLink (q_ow 7) 317 yX7_commonDivisor ∈ q_Ts := q_in 763 (by decide +kernel) rfl
def ms_X7_lowestNumerator : Nat → Option QI := fun i => if i = 317 then some (0, 2, 7, T_X7_commonDivisor, 0, 0) else none
theorem ms_X7_lowestNumerator_317 : ms_X7_lowestNumerator 317 = some (0, 2, 7, T_X7_commonDivisor, 0, 0) := rfl
def T_X7_lowestNumerator : QTT := q_T cX7_lowestNumerator 6 7 false (some .long) ms_X7_lowestNumerator 0 0
set_option maxRecDepth 100000 in
theorem qw_X7_lowestNumerator : q_Wd yX7_lowestNumerator cX7_lowestNumerator 6 (some .long) 2 := ⟨q_in 762 rfl rfl, q_in 64 (by decide +kernel) rfl, by decide +kernel, by decide +kernel, by decide +kernel, by decide⟩
theorem qst_X7_lowestNumerator : Cond.static yX7_lowestNumerator ∈ q_Ts := q_in 761 (by decide +kernel) rfl
theorem cs_X7_lowestNumerator : ∀ (idx : Nat) (info : QI), ms_X7_lowestNumerator idx = some info → q_Cs cX7_lowestNumerator 7 2 idx info := by
  intro idx info h
  unfold ms_X7_lowestNumerator at h
  by_cases h0 : idx = 317
  · subst h0; rw [if_pos rfl] at h; cases h; intro p l e R s m args below meth c Q D cy nL A hC hf hlo; exact q_r0 hC ok_X7_commonDivisor qw_X7_commonDivisor qlk_7_317 qst_X7_commonDivisor (by omega) (by omega)
  rw [if_neg h0] at h
  cases h
theorem ok_X7_lowestNumerator : q_Ok yX7_lowestNumerator cX7_lowestNumerator 6 (some .long) 2 T_X7_lowestNumerator 0 0 := q_okOf (plainFor_of_name (by decide +kernel)) rfl (fun h => by cases h) cs_X7_lowestNumerator (fun _ _ _ _ h => h)
theorem qlk_7_219 : Cond.methodLink (q_ow 7) 219 yX3_denominator ∈ q_Ts := q_in 756 (by decide +kernel) rfl
theorem qlk_7_223 : Cond.methodLink (q_ow 7) 223 yX7_lowestNumerator ∈ q_Ts := q_in 760 (by decide +kernel) rfl
def ms_X7_exactNumerator : Nat → Option QI := fun i => if i = 188 then some (1, 1, 2, T_X2_has, 0, 0) else if i = 191 then some (1, 1, 2, T_X2_at, 0, 0) else if i = 219 then some (1, 0, 3, T_X3_denominator, 0, 0) else if i = 223 then some (0, 2, 7, T_X7_lowestNumerator, 0, 0) else none
theorem ms_X7_exactNumerator_188 : ms_X7_exactNumerator 188 = some (1, 1, 2, T_X2_has, 0, 0) := rfl
theorem ms_X7_exactNumerator_191 : ms_X7_exactNumerator 191 = some (1, 1, 2, T_X2_at, 0, 0) := rfl
theorem ms_X7_exactNumerator_219 : ms_X7_exactNumerator 219 = some (1, 0, 3, T_X3_denominator, 0, 0) := rfl
theorem ms_X7_exactNumerator_223 : ms_X7_exactNumerator 223 = some (0, 2, 7, T_X7_lowestNumerator, 0, 0) := rfl
def T_X7_exactNumerator : QTT := q_T cX7_exactNumerator 3 7 false (some .long) ms_X7_exactNumerator 0 0
set_option maxRecDepth 100000 in
theorem qw_X7_exactNumerator : q_Wd yX7_exactNumerator cX7_exactNumerator 3 (some .long) 1 := ⟨q_in 754 rfl rfl, q_in 64 (by decide +kernel) rfl, by decide +kernel, by decide +kernel, by decide +kernel, by decide⟩
theorem qst_X7_exactNumerator : Cond.instanceMethod yX7_exactNumerator ∈ q_Ts := q_in 752 (by decide +kernel) rfl
theorem qsl_X7_exactNumerator : Cond.selects yX7_exactNumerator.cls yX7_exactNumerator yX7_exactNumerator ∈ q_Ts := q_in 753 (by decide +kernel) rfl
theorem cs_X7_exactNumerator : ∀ (idx : Nat) (info : QI), ms_X7_exactNumerator idx = some info → q_Cs cX7_exactNumerator 7 3 idx info := by
  intro idx info h
  unfold ms_X7_exactNumerator at h
  by_cases h0 : idx = 188
  · subst h0; rw [if_pos rfl] at h; cases h; intro p l e R s m args below meth c Q D cy nL A hC hf hlo; exact q_r1 hC ok_X2_has qw_X2_has qlk_7_188 ⟨qst_X2_has, qsl_X2_has⟩ ⟨rfl, rfl⟩ (by omega) (by omega)
  rw [if_neg h0] at h
  by_cases h1 : idx = 191
  · subst h1; rw [if_pos rfl] at h; cases h; intro p l e R s m args below meth c Q D cy nL A hC hf hlo; exact q_r1 hC ok_X2_at qw_X2_at qlk_7_191 ⟨qst_X2_at, qsl_X2_at⟩ ⟨rfl, rfl⟩ (by omega) (by omega)
  rw [if_neg h1] at h
  by_cases h2 : idx = 219
  · subst h2; rw [if_pos rfl] at h; cases h; intro p l e R s m args below meth c Q D cy nL A hC hf hlo; exact q_r1 hC ok_X3_denominator qw_X3_denominator qlk_7_219 ⟨qst_X3_denominator, qsl_X3_denominator⟩ ⟨rfl, rfl⟩ (by omega) (by omega)
  rw [if_neg h2] at h
  by_cases h3 : idx = 223
  · subst h3; rw [if_pos rfl] at h; cases h; intro p l e R s m args below meth c Q D cy nL A hC hf hlo; exact q_r0 hC ok_X7_lowestNumerator qw_X7_lowestNumerator qlk_7_223 qst_X7_lowestNumerator (by omega) (by omega)
  rw [if_neg h3] at h
  cases h
theorem ok_X7_exactNumerator : q_Ok yX7_exactNumerator cX7_exactNumerator 3 (some .long) 3 T_X7_exactNumerator 0 0 := q_okOf (plainFor_of_name (by decide +kernel)) rfl (fun h => by cases h) cs_X7_exactNumerator (fun _ _ _ _ h => h)
def ms_X7_lowestDenominator : Nat → Option QI := fun i => if i = 317 then some (0, 2, 7, T_X7_commonDivisor, 0, 0) else none
theorem ms_X7_lowestDenominator_317 : ms_X7_lowestDenominator 317 = some (0, 2, 7, T_X7_commonDivisor, 0, 0) := rfl
def T_X7_lowestDenominator : QTT := q_T cX7_lowestDenominator 6 7 false (some .long) ms_X7_lowestDenominator 0 0
set_option maxRecDepth 100000 in
theorem qw_X7_lowestDenominator : q_Wd yX7_lowestDenominator cX7_lowestDenominator 6 (some .long) 2 := ⟨q_in 773 rfl rfl, q_in 64 (by decide +kernel) rfl, by decide +kernel, by decide +kernel, by decide +kernel, by decide⟩
theorem qst_X7_lowestDenominator : Cond.static yX7_lowestDenominator ∈ q_Ts := q_in 772 (by decide +kernel) rfl
theorem cs_X7_lowestDenominator : ∀ (idx : Nat) (info : QI), ms_X7_lowestDenominator idx = some info → q_Cs cX7_lowestDenominator 7 2 idx info := by
  intro idx info h
  unfold ms_X7_lowestDenominator at h
  by_cases h0 : idx = 317
  · subst h0; rw [if_pos rfl] at h; cases h; intro p l e R s m args below meth c Q D cy nL A hC hf hlo; exact q_r0 hC ok_X7_commonDivisor qw_X7_commonDivisor qlk_7_317 qst_X7_commonDivisor (by omega) (by omega)
  rw [if_neg h0] at h
  cases h
theorem ok_X7_lowestDenominator : q_Ok yX7_lowestDenominator cX7_lowestDenominator 6 (some .long) 2 T_X7_lowestDenominator 0 0 := q_okOf (plainFor_of_name (by decide +kernel)) rfl (fun h => by cases h) cs_X7_lowestDenominator (fun _ _ _ _ h => h)
theorem qlk_7_227 : Cond.methodLink (q_ow 7) 227 yX7_lowestDenominator ∈ q_Ts := q_in 771 (by decide +kernel) rfl
def ms_X7_exactDenominator : Nat → Option QI := fun i => if i = 188 then some (1, 1, 2, T_X2_has, 0, 0) else if i = 191 then some (1, 1, 2, T_X2_at, 0, 0) else if i = 219 then some (1, 0, 3, T_X3_denominator, 0, 0) else if i = 227 then some (0, 2, 7, T_X7_lowestDenominator, 0, 0) else none
theorem ms_X7_exactDenominator_188 : ms_X7_exactDenominator 188 = some (1, 1, 2, T_X2_has, 0, 0) := rfl
theorem ms_X7_exactDenominator_191 : ms_X7_exactDenominator 191 = some (1, 1, 2, T_X2_at, 0, 0) := rfl
theorem ms_X7_exactDenominator_219 : ms_X7_exactDenominator 219 = some (1, 0, 3, T_X3_denominator, 0, 0) := rfl
theorem ms_X7_exactDenominator_227 : ms_X7_exactDenominator 227 = some (0, 2, 7, T_X7_lowestDenominator, 0, 0) := rfl
def T_X7_exactDenominator : QTT := q_T cX7_exactDenominator 3 7 false (some .long) ms_X7_exactDenominator 0 0
set_option maxRecDepth 100000 in
theorem qw_X7_exactDenominator : q_Wd yX7_exactDenominator cX7_exactDenominator 3 (some .long) 1 := ⟨q_in 770 rfl rfl, q_in 64 (by decide +kernel) rfl, by decide +kernel, by decide +kernel, by decide +kernel, by decide⟩
theorem qst_X7_exactDenominator : Cond.instanceMethod yX7_exactDenominator ∈ q_Ts := q_in 768 (by decide +kernel) rfl
theorem qsl_X7_exactDenominator : Cond.selects yX7_exactDenominator.cls yX7_exactDenominator yX7_exactDenominator ∈ q_Ts := q_in 769 (by decide +kernel) rfl
theorem cs_X7_exactDenominator : ∀ (idx : Nat) (info : QI), ms_X7_exactDenominator idx = some info → q_Cs cX7_exactDenominator 7 3 idx info := by
  intro idx info h
  unfold ms_X7_exactDenominator at h
  by_cases h0 : idx = 188
  · subst h0; rw [if_pos rfl] at h; cases h; intro p l e R s m args below meth c Q D cy nL A hC hf hlo; exact q_r1 hC ok_X2_has qw_X2_has qlk_7_188 ⟨qst_X2_has, qsl_X2_has⟩ ⟨rfl, rfl⟩ (by omega) (by omega)
  rw [if_neg h0] at h
  by_cases h1 : idx = 191
  · subst h1; rw [if_pos rfl] at h; cases h; intro p l e R s m args below meth c Q D cy nL A hC hf hlo; exact q_r1 hC ok_X2_at qw_X2_at qlk_7_191 ⟨qst_X2_at, qsl_X2_at⟩ ⟨rfl, rfl⟩ (by omega) (by omega)
  rw [if_neg h1] at h
  by_cases h2 : idx = 219
  · subst h2; rw [if_pos rfl] at h; cases h; intro p l e R s m args below meth c Q D cy nL A hC hf hlo; exact q_r1 hC ok_X3_denominator qw_X3_denominator qlk_7_219 ⟨qst_X3_denominator, qsl_X3_denominator⟩ ⟨rfl, rfl⟩ (by omega) (by omega)
  rw [if_neg h2] at h
  by_cases h3 : idx = 227
  · subst h3; rw [if_pos rfl] at h; cases h; intro p l e R s m args below meth c Q D cy nL A hC hf hlo; exact q_r0 hC ok_X7_lowestDenominator qw_X7_lowestDenominator qlk_7_227 qst_X7_lowestDenominator (by omega) (by omega)
  rw [if_neg h3] at h
  cases h
theorem ok_X7_exactDenominator : q_Ok yX7_exactDenominator cX7_exactDenominator 3 (some .long) 3 T_X7_exactDenominator 0 0 := q_okOf (plainFor_of_name (by decide +kernel)) rfl (fun h => by cases h) cs_X7_exactDenominator (fun _ _ _ _ h => h)
theorem qlk_7_231 : Cond.methodLink (q_ow 7) 231 yX3_drawFor ∈ q_Ts := q_in 778 (by decide +kernel) rfl
def ms_X7_replay : Nat → Option QI := fun i => if i = 188 then some (1, 1, 2, T_X2_has, 0, 0) else if i = 116 then some (0, 1, 7, T_X7_isMode, 0, 0) else if i = 191 then some (1, 1, 2, T_X2_at, 0, 0) else if i = 231 then some (0, 3, 3, T_X3_drawFor, 0, 0) else if i = 112 then some (1, 2, 3, T_X3_rounded, 0, 0) else none
theorem ms_X7_replay_188 : ms_X7_replay 188 = some (1, 1, 2, T_X2_has, 0, 0) := rfl
theorem ms_X7_replay_116 : ms_X7_replay 116 = some (0, 1, 7, T_X7_isMode, 0, 0) := rfl
theorem ms_X7_replay_191 : ms_X7_replay 191 = some (1, 1, 2, T_X2_at, 0, 0) := rfl
theorem ms_X7_replay_231 : ms_X7_replay 231 = some (0, 3, 3, T_X3_drawFor, 0, 0) := rfl
theorem ms_X7_replay_112 : ms_X7_replay 112 = some (1, 2, 3, T_X3_rounded, 0, 0) := rfl
def T_X7_replay : QTT := q_T cX7_replay 5 7 false (some .int) ms_X7_replay 0 0
set_option maxRecDepth 100000 in
theorem qw_X7_replay : q_Wd yX7_replay cX7_replay 5 (some .int) 3 := ⟨q_in 777 rfl rfl, q_in 64 (by decide +kernel) rfl, by decide +kernel, by decide +kernel, by decide +kernel, by decide⟩
theorem qst_X7_replay : Cond.instanceMethod yX7_replay ∈ q_Ts := q_in 775 (by decide +kernel) rfl
theorem qsl_X7_replay : Cond.selects yX7_replay.cls yX7_replay yX7_replay ∈ q_Ts := q_in 776 (by decide +kernel) rfl
theorem cs_X7_replay : ∀ (idx : Nat) (info : QI), ms_X7_replay idx = some info → q_Cs cX7_replay 7 3 idx info := by
  intro idx info h
  unfold ms_X7_replay at h
  by_cases h0 : idx = 188
  · subst h0; rw [if_pos rfl] at h; cases h; intro p l e R s m args below meth c Q D cy nL A hC hf hlo; exact q_r1 hC ok_X2_has qw_X2_has qlk_7_188 ⟨qst_X2_has, qsl_X2_has⟩ ⟨rfl, rfl⟩ (by omega) (by omega)
  rw [if_neg h0] at h
  by_cases h1 : idx = 116
  · subst h1; rw [if_pos rfl] at h; cases h; intro p l e R s m args below meth c Q D cy nL A hC hf hlo; exact q_r0 hC ok_X7_isMode qw_X7_isMode qlk_7_116 qst_X7_isMode (by omega) (by omega)
  rw [if_neg h1] at h
  by_cases h2 : idx = 191
  · subst h2; rw [if_pos rfl] at h; cases h; intro p l e R s m args below meth c Q D cy nL A hC hf hlo; exact q_r1 hC ok_X2_at qw_X2_at qlk_7_191 ⟨qst_X2_at, qsl_X2_at⟩ ⟨rfl, rfl⟩ (by omega) (by omega)
  rw [if_neg h2] at h
  by_cases h3 : idx = 231
  · subst h3; rw [if_pos rfl] at h; cases h; intro p l e R s m args below meth c Q D cy nL A hC hf hlo; exact q_r0 hC ok_X3_drawFor qw_X3_drawFor qlk_7_231 qst_X3_drawFor (by omega) (by omega)
  rw [if_neg h3] at h
  by_cases h4 : idx = 112
  · subst h4; rw [if_pos rfl] at h; cases h; intro p l e R s m args below meth c Q D cy nL A hC hf hlo; exact q_r1 hC ok_X3_rounded qw_X3_rounded qlk_7_112 ⟨qst_X3_rounded, qsl_X3_rounded⟩ ⟨rfl, rfl⟩ (by omega) (by omega)
  rw [if_neg h4] at h
  cases h
theorem ok_X7_replay : q_Ok yX7_replay cX7_replay 5 (some .int) 3 T_X7_replay 0 0 := q_okOf (plainFor_of_name (by decide +kernel)) rfl (fun h => by cases h) cs_X7_replay (fun _ _ _ _ h => h)
theorem qlk_7_234 : Cond.methodLink (q_ow 7) 234 yX3_average ∈ q_Ts := q_in 783 (by decide +kernel) rfl
def ms_X7_mean : Nat → Option QI := fun i => if i = 188 then some (1, 1, 2, T_X2_has, 0, 0) else if i = 191 then some (1, 1, 2, T_X2_at, 0, 0) else if i = 234 then some (1, 0, 3, T_X3_average, 0, 0) else none
theorem ms_X7_mean_188 : ms_X7_mean 188 = some (1, 1, 2, T_X2_has, 0, 0) := rfl
theorem ms_X7_mean_191 : ms_X7_mean 191 = some (1, 1, 2, T_X2_at, 0, 0) := rfl
theorem ms_X7_mean_234 : ms_X7_mean 234 = some (1, 0, 3, T_X3_average, 0, 0) := rfl
def T_X7_mean : QTT := q_T cX7_mean 2 7 false (some .long) ms_X7_mean 0 0
set_option maxRecDepth 100000 in
theorem qw_X7_mean : q_Wd yX7_mean cX7_mean 2 (some .long) 1 := ⟨q_in 782 rfl rfl, q_in 64 (by decide +kernel) rfl, by decide +kernel, by decide +kernel, by decide +kernel, by decide⟩
theorem qst_X7_mean : Cond.instanceMethod yX7_mean ∈ q_Ts := q_in 780 (by decide +kernel) rfl
theorem qsl_X7_mean : Cond.selects yX7_mean.cls yX7_mean yX7_mean ∈ q_Ts := q_in 781 (by decide +kernel) rfl
theorem cs_X7_mean : ∀ (idx : Nat) (info : QI), ms_X7_mean idx = some info → q_Cs cX7_mean 7 3 idx info := by
  intro idx info h
  unfold ms_X7_mean at h
  by_cases h0 : idx = 188
  · subst h0; rw [if_pos rfl] at h; cases h; intro p l e R s m args below meth c Q D cy nL A hC hf hlo; exact q_r1 hC ok_X2_has qw_X2_has qlk_7_188 ⟨qst_X2_has, qsl_X2_has⟩ ⟨rfl, rfl⟩ (by omega) (by omega)
  rw [if_neg h0] at h
  by_cases h1 : idx = 191
  · subst h1; rw [if_pos rfl] at h; cases h; intro p l e R s m args below meth c Q D cy nL A hC hf hlo; exact q_r1 hC ok_X2_at qw_X2_at qlk_7_191 ⟨qst_X2_at, qsl_X2_at⟩ ⟨rfl, rfl⟩ (by omega) (by omega)
  rw [if_neg h1] at h
  by_cases h2 : idx = 234
  · subst h2; rw [if_pos rfl] at h; cases h; intro p l e R s m args below meth c Q D cy nL A hC hf hlo; exact q_r1 hC ok_X3_average qw_X3_average qlk_7_234 ⟨qst_X3_average, qsl_X3_average⟩ ⟨rfl, rfl⟩ (by omega) (by omega)
  rw [if_neg h2] at h
  cases h
theorem ok_X7_mean : q_Ok yX7_mean cX7_mean 2 (some .long) 3 T_X7_mean 0 0 := q_okOf (plainFor_of_name (by decide +kernel)) rfl (fun h => by cases h) cs_X7_mean (fun _ _ _ _ h => h)
theorem qlk_7_237 : Cond.methodLink (q_ow 7) 237 yX3_offset ∈ q_Ts := q_in 788 (by decide +kernel) rfl
def ms_X7_biasNumerator : Nat → Option QI := fun i => if i = 188 then some (1, 1, 2, T_X2_has, 0, 0) else if i = 191 then some (1, 1, 2, T_X2_at, 0, 0) else if i = 237 then some (1, 0, 3, T_X3_offset, 0, 0) else if i = 219 then some (1, 0, 3, T_X3_denominator, 0, 0) else if i = 223 then some (0, 2, 7, T_X7_lowestNumerator, 0, 0) else none
theorem ms_X7_biasNumerator_188 : ms_X7_biasNumerator 188 = some (1, 1, 2, T_X2_has, 0, 0) := rfl
theorem ms_X7_biasNumerator_191 : ms_X7_biasNumerator 191 = some (1, 1, 2, T_X2_at, 0, 0) := rfl
theorem ms_X7_biasNumerator_237 : ms_X7_biasNumerator 237 = some (1, 0, 3, T_X3_offset, 0, 0) := rfl
theorem ms_X7_biasNumerator_219 : ms_X7_biasNumerator 219 = some (1, 0, 3, T_X3_denominator, 0, 0) := rfl
theorem ms_X7_biasNumerator_223 : ms_X7_biasNumerator 223 = some (0, 2, 7, T_X7_lowestNumerator, 0, 0) := rfl
def T_X7_biasNumerator : QTT := q_T cX7_biasNumerator 3 7 false (some .long) ms_X7_biasNumerator 0 0
set_option maxRecDepth 100000 in
theorem qw_X7_biasNumerator : q_Wd yX7_biasNumerator cX7_biasNumerator 3 (some .long) 1 := ⟨q_in 787 rfl rfl, q_in 64 (by decide +kernel) rfl, by decide +kernel, by decide +kernel, by decide +kernel, by decide⟩
theorem qst_X7_biasNumerator : Cond.instanceMethod yX7_biasNumerator ∈ q_Ts := q_in 785 (by decide +kernel) rfl
theorem qsl_X7_biasNumerator : Cond.selects yX7_biasNumerator.cls yX7_biasNumerator yX7_biasNumerator ∈ q_Ts := q_in 786 (by decide +kernel) rfl
theorem cs_X7_biasNumerator : ∀ (idx : Nat) (info : QI), ms_X7_biasNumerator idx = some info → q_Cs cX7_biasNumerator 7 4 idx info := by
  intro idx info h
  unfold ms_X7_biasNumerator at h
  by_cases h0 : idx = 188
  · subst h0; rw [if_pos rfl] at h; cases h; intro p l e R s m args below meth c Q D cy nL A hC hf hlo; exact q_r1 hC ok_X2_has qw_X2_has qlk_7_188 ⟨qst_X2_has, qsl_X2_has⟩ ⟨rfl, rfl⟩ (by omega) (by omega)
  rw [if_neg h0] at h
  by_cases h1 : idx = 191
  · subst h1; rw [if_pos rfl] at h; cases h; intro p l e R s m args below meth c Q D cy nL A hC hf hlo; exact q_r1 hC ok_X2_at qw_X2_at qlk_7_191 ⟨qst_X2_at, qsl_X2_at⟩ ⟨rfl, rfl⟩ (by omega) (by omega)
  rw [if_neg h1] at h
  by_cases h2 : idx = 237
  · subst h2; rw [if_pos rfl] at h; cases h; intro p l e R s m args below meth c Q D cy nL A hC hf hlo; exact q_r1 hC ok_X3_offset qw_X3_offset qlk_7_237 ⟨qst_X3_offset, qsl_X3_offset⟩ ⟨rfl, rfl⟩ (by omega) (by omega)
  rw [if_neg h2] at h
  by_cases h3 : idx = 219
  · subst h3; rw [if_pos rfl] at h; cases h; intro p l e R s m args below meth c Q D cy nL A hC hf hlo; exact q_r1 hC ok_X3_denominator qw_X3_denominator qlk_7_219 ⟨qst_X3_denominator, qsl_X3_denominator⟩ ⟨rfl, rfl⟩ (by omega) (by omega)
  rw [if_neg h3] at h
  by_cases h4 : idx = 223
  · subst h4; rw [if_pos rfl] at h; cases h; intro p l e R s m args below meth c Q D cy nL A hC hf hlo; exact q_r0 hC ok_X7_lowestNumerator qw_X7_lowestNumerator qlk_7_223 qst_X7_lowestNumerator (by omega) (by omega)
  rw [if_neg h4] at h
  cases h
theorem ok_X7_biasNumerator : q_Ok yX7_biasNumerator cX7_biasNumerator 3 (some .long) 4 T_X7_biasNumerator 0 0 := q_okOf (plainFor_of_name (by decide +kernel)) rfl (fun h => by cases h) cs_X7_biasNumerator (fun _ _ _ _ h => h)
def ms_X7_biasDenominator : Nat → Option QI := fun i => if i = 188 then some (1, 1, 2, T_X2_has, 0, 0) else if i = 191 then some (1, 1, 2, T_X2_at, 0, 0) else if i = 237 then some (1, 0, 3, T_X3_offset, 0, 0) else if i = 219 then some (1, 0, 3, T_X3_denominator, 0, 0) else if i = 227 then some (0, 2, 7, T_X7_lowestDenominator, 0, 0) else none
theorem ms_X7_biasDenominator_188 : ms_X7_biasDenominator 188 = some (1, 1, 2, T_X2_has, 0, 0) := rfl
theorem ms_X7_biasDenominator_191 : ms_X7_biasDenominator 191 = some (1, 1, 2, T_X2_at, 0, 0) := rfl
theorem ms_X7_biasDenominator_237 : ms_X7_biasDenominator 237 = some (1, 0, 3, T_X3_offset, 0, 0) := rfl
theorem ms_X7_biasDenominator_219 : ms_X7_biasDenominator 219 = some (1, 0, 3, T_X3_denominator, 0, 0) := rfl
theorem ms_X7_biasDenominator_227 : ms_X7_biasDenominator 227 = some (0, 2, 7, T_X7_lowestDenominator, 0, 0) := rfl
def T_X7_biasDenominator : QTT := q_T cX7_biasDenominator 3 7 false (some .long) ms_X7_biasDenominator 0 0
set_option maxRecDepth 100000 in
theorem qw_X7_biasDenominator : q_Wd yX7_biasDenominator cX7_biasDenominator 3 (some .long) 1 := ⟨q_in 792 rfl rfl, q_in 64 (by decide +kernel) rfl, by decide +kernel, by decide +kernel, by decide +kernel, by decide⟩
theorem qst_X7_biasDenominator : Cond.instanceMethod yX7_biasDenominator ∈ q_Ts := q_in 790 (by decide +kernel) rfl
theorem qsl_X7_biasDenominator : Cond.selects yX7_biasDenominator.cls yX7_biasDenominator yX7_biasDenominator ∈ q_Ts := q_in 791 (by decide +kernel) rfl
theorem cs_X7_biasDenominator : ∀ (idx : Nat) (info : QI), ms_X7_biasDenominator idx = some info → q_Cs cX7_biasDenominator 7 4 idx info := by
  intro idx info h
  unfold ms_X7_biasDenominator at h
  by_cases h0 : idx = 188
  · subst h0; rw [if_pos rfl] at h; cases h; intro p l e R s m args below meth c Q D cy nL A hC hf hlo; exact q_r1 hC ok_X2_has qw_X2_has qlk_7_188 ⟨qst_X2_has, qsl_X2_has⟩ ⟨rfl, rfl⟩ (by omega) (by omega)
  rw [if_neg h0] at h
  by_cases h1 : idx = 191
  · subst h1; rw [if_pos rfl] at h; cases h; intro p l e R s m args below meth c Q D cy nL A hC hf hlo; exact q_r1 hC ok_X2_at qw_X2_at qlk_7_191 ⟨qst_X2_at, qsl_X2_at⟩ ⟨rfl, rfl⟩ (by omega) (by omega)
  rw [if_neg h1] at h
  by_cases h2 : idx = 237
  · subst h2; rw [if_pos rfl] at h; cases h; intro p l e R s m args below meth c Q D cy nL A hC hf hlo; exact q_r1 hC ok_X3_offset qw_X3_offset qlk_7_237 ⟨qst_X3_offset, qsl_X3_offset⟩ ⟨rfl, rfl⟩ (by omega) (by omega)
  rw [if_neg h2] at h
  by_cases h3 : idx = 219
  · subst h3; rw [if_pos rfl] at h; cases h; intro p l e R s m args below meth c Q D cy nL A hC hf hlo; exact q_r1 hC ok_X3_denominator qw_X3_denominator qlk_7_219 ⟨qst_X3_denominator, qsl_X3_denominator⟩ ⟨rfl, rfl⟩ (by omega) (by omega)
  rw [if_neg h3] at h
  by_cases h4 : idx = 227
  · subst h4; rw [if_pos rfl] at h; cases h; intro p l e R s m args below meth c Q D cy nL A hC hf hlo; exact q_r0 hC ok_X7_lowestDenominator qw_X7_lowestDenominator qlk_7_227 qst_X7_lowestDenominator (by omega) (by omega)
  rw [if_neg h4] at h
  cases h
theorem ok_X7_biasDenominator : q_Ok yX7_biasDenominator cX7_biasDenominator 3 (some .long) 4 T_X7_biasDenominator 0 0 := q_okOf (plainFor_of_name (by decide +kernel)) rfl (fun h => by cases h) cs_X7_biasDenominator (fun _ _ _ _ h => h)
theorem qlk_7_240 : Cond.methodLink (q_ow 7) 240 yX3_scatter ∈ q_Ts := q_in 797 (by decide +kernel) rfl
def ms_X7_variance : Nat → Option QI := fun i => if i = 188 then some (1, 1, 2, T_X2_has, 0, 0) else if i = 191 then some (1, 1, 2, T_X2_at, 0, 0) else if i = 240 then some (1, 0, 3, T_X3_scatter, 0, 0) else none
theorem ms_X7_variance_188 : ms_X7_variance 188 = some (1, 1, 2, T_X2_has, 0, 0) := rfl
theorem ms_X7_variance_191 : ms_X7_variance 191 = some (1, 1, 2, T_X2_at, 0, 0) := rfl
theorem ms_X7_variance_240 : ms_X7_variance 240 = some (1, 0, 3, T_X3_scatter, 0, 0) := rfl
def T_X7_variance : QTT := q_T cX7_variance 2 7 false (some .long) ms_X7_variance 0 0
set_option maxRecDepth 100000 in
theorem qw_X7_variance : q_Wd yX7_variance cX7_variance 2 (some .long) 1 := ⟨q_in 796 rfl rfl, q_in 64 (by decide +kernel) rfl, by decide +kernel, by decide +kernel, by decide +kernel, by decide⟩
theorem qst_X7_variance : Cond.instanceMethod yX7_variance ∈ q_Ts := q_in 794 (by decide +kernel) rfl
theorem qsl_X7_variance : Cond.selects yX7_variance.cls yX7_variance yX7_variance ∈ q_Ts := q_in 795 (by decide +kernel) rfl
theorem cs_X7_variance : ∀ (idx : Nat) (info : QI), ms_X7_variance idx = some info → q_Cs cX7_variance 7 3 idx info := by
  intro idx info h
  unfold ms_X7_variance at h
  by_cases h0 : idx = 188
  · subst h0; rw [if_pos rfl] at h; cases h; intro p l e R s m args below meth c Q D cy nL A hC hf hlo; exact q_r1 hC ok_X2_has qw_X2_has qlk_7_188 ⟨qst_X2_has, qsl_X2_has⟩ ⟨rfl, rfl⟩ (by omega) (by omega)
  rw [if_neg h0] at h
  by_cases h1 : idx = 191
  · subst h1; rw [if_pos rfl] at h; cases h; intro p l e R s m args below meth c Q D cy nL A hC hf hlo; exact q_r1 hC ok_X2_at qw_X2_at qlk_7_191 ⟨qst_X2_at, qsl_X2_at⟩ ⟨rfl, rfl⟩ (by omega) (by omega)
  rw [if_neg h1] at h
  by_cases h2 : idx = 240
  · subst h2; rw [if_pos rfl] at h; cases h; intro p l e R s m args below meth c Q D cy nL A hC hf hlo; exact q_r1 hC ok_X3_scatter qw_X3_scatter qlk_7_240 ⟨qst_X3_scatter, qsl_X3_scatter⟩ ⟨rfl, rfl⟩ (by omega) (by omega)
  rw [if_neg h2] at h
  cases h
theorem ok_X7_variance : q_Ok yX7_variance cX7_variance 2 (some .long) 3 T_X7_variance 0 0 := q_okOf (plainFor_of_name (by decide +kernel)) rfl (fun h => by cases h) cs_X7_variance (fun _ _ _ _ h => h)
def ms_X7_account : Nat → Option QI := fun i => none
def T_X7_account : QTT := q_T cX7_account 2 7 false (some .long) ms_X7_account 0 0
set_option maxRecDepth 100000 in
theorem qw_X7_account : q_Wd yX7_account cX7_account 2 (some .long) 1 := ⟨q_in 801 rfl rfl, q_in 64 (by decide +kernel) rfl, by decide +kernel, by decide +kernel, by decide +kernel, by decide⟩
theorem qst_X7_account : Cond.instanceMethod yX7_account ∈ q_Ts := q_in 799 (by decide +kernel) rfl
theorem qsl_X7_account : Cond.selects yX7_account.cls yX7_account yX7_account ∈ q_Ts := q_in 800 (by decide +kernel) rfl
theorem cs_X7_account : ∀ (idx : Nat) (info : QI), ms_X7_account idx = some info → q_Cs cX7_account 7 0 idx info := by
  intro idx info h
  unfold ms_X7_account at h
  cases h
theorem ok_X7_account : q_Ok yX7_account cX7_account 2 (some .long) 0 T_X7_account 0 0 := q_okOf (plainFor_of_name (by decide +kernel)) rfl (fun h => by cases h) cs_X7_account (fun _ _ _ _ h => h)
theorem qlk_7_251 : Cond.methodLink (q_ow 7) 251 yX2_clearSums ∈ q_Ts := q_in 807 (by decide +kernel) rfl
def ms_X7_clearAccount : Nat → Option QI := fun i => if i = 69 then some (1, 0, 7, T_X7_remember, 0, 0) else if i = 251 then some (1, 0, 2, T_X2_clearSums, 0, 0) else none
theorem ms_X7_clearAccount_69 : ms_X7_clearAccount 69 = some (1, 0, 7, T_X7_remember, 0, 0) := rfl
theorem ms_X7_clearAccount_251 : ms_X7_clearAccount 251 = some (1, 0, 2, T_X2_clearSums, 0, 0) := rfl
def T_X7_clearAccount : QTT := q_T cX7_clearAccount 2 7 false (some .int) ms_X7_clearAccount 0 0
set_option maxRecDepth 100000 in
theorem qw_X7_clearAccount : q_Wd yX7_clearAccount cX7_clearAccount 2 (some .int) 0 := ⟨q_in 805 rfl rfl, q_in 64 (by decide +kernel) rfl, by decide +kernel, by decide +kernel, by decide +kernel, by decide⟩
theorem qst_X7_clearAccount : Cond.instanceMethod yX7_clearAccount ∈ q_Ts := q_in 803 (by decide +kernel) rfl
theorem qsl_X7_clearAccount : Cond.selects yX7_clearAccount.cls yX7_clearAccount yX7_clearAccount ∈ q_Ts := q_in 804 (by decide +kernel) rfl
theorem cs_X7_clearAccount : ∀ (idx : Nat) (info : QI), ms_X7_clearAccount idx = some info → q_Cs cX7_clearAccount 7 4 idx info := by
  intro idx info h
  unfold ms_X7_clearAccount at h
  by_cases h0 : idx = 69
  · subst h0; rw [if_pos rfl] at h; cases h; intro p l e R s m args below meth c Q D cy nL A hC hf hlo; exact q_r1 hC ok_X7_remember qw_X7_remember qlk_7_69 ⟨qst_X7_remember, qsl_X7_remember⟩ ⟨rfl, rfl⟩ (by omega) (by omega)
  rw [if_neg h0] at h
  by_cases h1 : idx = 251
  · subst h1; rw [if_pos rfl] at h; cases h; intro p l e R s m args below meth c Q D cy nL A hC hf hlo; exact q_r1 hC ok_X2_clearSums qw_X2_clearSums qlk_7_251 ⟨qst_X2_clearSums, qsl_X2_clearSums⟩ ⟨rfl, rfl⟩ (by omega) (by omega)
  rw [if_neg h1] at h
  cases h
theorem ok_X7_clearAccount : q_Ok yX7_clearAccount cX7_clearAccount 2 (some .int) 4 T_X7_clearAccount 0 0 := q_okOf (plainFor_of_name (by decide +kernel)) rfl (fun h => by cases h) cs_X7_clearAccount (fun _ _ _ _ h => h)
theorem qlk_7_254 : Cond.methodLink (q_ow 7) 254 yX0_has ∈ q_Ts := q_in 815 (by decide +kernel) rfl
def ms_X7_isValue : Nat → Option QI := fun i => if i = 58 then some (0, 1, 7, T_X7_isFormat, 0, 0) else if i = 97 then some (0, 1, 7, T_X7_isInRange, 0, 0) else if i = 254 then some (1, 1, 0, T_X0_has, 0, 0) else none
theorem ms_X7_isValue_58 : ms_X7_isValue 58 = some (0, 1, 7, T_X7_isFormat, 0, 0) := rfl
theorem ms_X7_isValue_97 : ms_X7_isValue 97 = some (0, 1, 7, T_X7_isInRange, 0, 0) := rfl
theorem ms_X7_isValue_254 : ms_X7_isValue 254 = some (1, 1, 0, T_X0_has, 0, 0) := rfl
def T_X7_isValue : QTT := q_T cX7_isValue 3 7 false (some .int) ms_X7_isValue 0 0
set_option maxRecDepth 100000 in
theorem qw_X7_isValue : q_Wd yX7_isValue cX7_isValue 3 (some .int) 2 := ⟨q_in 814 rfl rfl, q_in 64 (by decide +kernel) rfl, by decide +kernel, by decide +kernel, by decide +kernel, by decide⟩
theorem qst_X7_isValue : Cond.instanceMethod yX7_isValue ∈ q_Ts := q_in 812 (by decide +kernel) rfl
theorem qsl_X7_isValue : Cond.selects yX7_isValue.cls yX7_isValue yX7_isValue ∈ q_Ts := q_in 813 (by decide +kernel) rfl
theorem cs_X7_isValue : ∀ (idx : Nat) (info : QI), ms_X7_isValue idx = some info → q_Cs cX7_isValue 7 3 idx info := by
  intro idx info h
  unfold ms_X7_isValue at h
  by_cases h0 : idx = 58
  · subst h0; rw [if_pos rfl] at h; cases h; intro p l e R s m args below meth c Q D cy nL A hC hf hlo; exact q_r0 hC ok_X7_isFormat qw_X7_isFormat qlk_7_58 qst_X7_isFormat (by omega) (by omega)
  rw [if_neg h0] at h
  by_cases h1 : idx = 97
  · subst h1; rw [if_pos rfl] at h; cases h; intro p l e R s m args below meth c Q D cy nL A hC hf hlo; exact q_r0 hC ok_X7_isInRange qw_X7_isInRange qlk_7_97 qst_X7_isInRange (by omega) (by omega)
  rw [if_neg h1] at h
  by_cases h2 : idx = 254
  · subst h2; rw [if_pos rfl] at h; cases h; intro p l e R s m args below meth c Q D cy nL A hC hf hlo; exact q_r1 hC ok_X0_has qw_X0_has qlk_7_254 ⟨qst_X0_has, qsl_X0_has⟩ ⟨rfl, rfl⟩ (by omega) (by omega)
  rw [if_neg h2] at h
  cases h
theorem ok_X7_isValue : q_Ok yX7_isValue cX7_isValue 3 (some .int) 3 T_X7_isValue 0 0 := q_okOf (plainFor_of_name (by decide +kernel)) rfl (fun h => by cases h) cs_X7_isValue (fun _ _ _ _ h => h)
theorem qlk_7_255 : Cond.methodLink (q_ow 7) 255 yX0_top ∈ q_Ts := q_in 824 (by decide +kernel) rfl
theorem qlk_7_258 : Cond.methodLink (q_ow 7) 258 yX0_atMost ∈ q_Ts := q_in 825 (by decide +kernel) rfl
def ms_X7_next : Nat → Option QI := fun i => if i = 58 then some (0, 1, 7, T_X7_isFormat, 0, 0) else if i = 97 then some (0, 1, 7, T_X7_isInRange, 0, 0) else if i = 255 then some (1, 0, 0, T_X0_top, 0, 0) else if i = 258 then some (1, 1, 0, T_X0_atMost, 0, 0) else none
theorem ms_X7_next_58 : ms_X7_next 58 = some (0, 1, 7, T_X7_isFormat, 0, 0) := rfl
theorem ms_X7_next_97 : ms_X7_next 97 = some (0, 1, 7, T_X7_isInRange, 0, 0) := rfl
theorem ms_X7_next_255 : ms_X7_next 255 = some (1, 0, 0, T_X0_top, 0, 0) := rfl
theorem ms_X7_next_258 : ms_X7_next 258 = some (1, 1, 0, T_X0_atMost, 0, 0) := rfl
def T_X7_next : QTT := q_T cX7_next 7 7 false (some .int) ms_X7_next 0 0
set_option maxRecDepth 100000 in
theorem qw_X7_next : q_Wd yX7_next cX7_next 7 (some .int) 3 := ⟨q_in 823 rfl rfl, q_in 64 (by decide +kernel) rfl, by decide +kernel, by decide +kernel, by decide +kernel, by decide⟩
theorem qst_X7_next : Cond.instanceMethod yX7_next ∈ q_Ts := q_in 821 (by decide +kernel) rfl
theorem qsl_X7_next : Cond.selects yX7_next.cls yX7_next yX7_next ∈ q_Ts := q_in 822 (by decide +kernel) rfl
theorem cs_X7_next : ∀ (idx : Nat) (info : QI), ms_X7_next idx = some info → q_Cs cX7_next 7 2 idx info := by
  intro idx info h
  unfold ms_X7_next at h
  by_cases h0 : idx = 58
  · subst h0; rw [if_pos rfl] at h; cases h; intro p l e R s m args below meth c Q D cy nL A hC hf hlo; exact q_r0 hC ok_X7_isFormat qw_X7_isFormat qlk_7_58 qst_X7_isFormat (by omega) (by omega)
  rw [if_neg h0] at h
  by_cases h1 : idx = 97
  · subst h1; rw [if_pos rfl] at h; cases h; intro p l e R s m args below meth c Q D cy nL A hC hf hlo; exact q_r0 hC ok_X7_isInRange qw_X7_isInRange qlk_7_97 qst_X7_isInRange (by omega) (by omega)
  rw [if_neg h1] at h
  by_cases h2 : idx = 255
  · subst h2; rw [if_pos rfl] at h; cases h; intro p l e R s m args below meth c Q D cy nL A hC hf hlo; exact q_r1 hC ok_X0_top qw_X0_top qlk_7_255 ⟨qst_X0_top, qsl_X0_top⟩ ⟨rfl, rfl⟩ (by omega) (by omega)
  rw [if_neg h2] at h
  by_cases h3 : idx = 258
  · subst h3; rw [if_pos rfl] at h; cases h; intro p l e R s m args below meth c Q D cy nL A hC hf hlo; exact q_r1 hC ok_X0_atMost qw_X0_atMost qlk_7_258 ⟨qst_X0_atMost, qsl_X0_atMost⟩ ⟨rfl, rfl⟩ (by omega) (by omega)
  rw [if_neg h3] at h
  cases h
theorem ok_X7_next : q_Ok yX7_next cX7_next 7 (some .int) 2 T_X7_next 0 0 := q_okOf (plainFor_of_name (by decide +kernel)) rfl (fun h => by cases h) cs_X7_next (fun _ _ _ _ h => h)
theorem qlk_7_262 : Cond.methodLink (q_ow 7) 262 yX0_countUpTo ∈ q_Ts := q_in 830 (by decide +kernel) rfl
def ms_X7_countValues : Nat → Option QI := fun i => if i = 58 then some (0, 1, 7, T_X7_isFormat, 0, 0) else if i = 262 then some (1, 1, 0, T_X0_countUpTo, 0, 0) else none
theorem ms_X7_countValues_58 : ms_X7_countValues 58 = some (0, 1, 7, T_X7_isFormat, 0, 0) := rfl
theorem ms_X7_countValues_262 : ms_X7_countValues 262 = some (1, 1, 0, T_X0_countUpTo, 0, 0) := rfl
def T_X7_countValues : QTT := q_T cX7_countValues 2 7 false (some .int) ms_X7_countValues 0 0
set_option maxRecDepth 100000 in
theorem qw_X7_countValues : q_Wd yX7_countValues cX7_countValues 2 (some .int) 1 := ⟨q_in 829 rfl rfl, q_in 64 (by decide +kernel) rfl, by decide +kernel, by decide +kernel, by decide +kernel, by decide⟩
theorem qst_X7_countValues : Cond.instanceMethod yX7_countValues ∈ q_Ts := q_in 827 (by decide +kernel) rfl
theorem qsl_X7_countValues : Cond.selects yX7_countValues.cls yX7_countValues yX7_countValues ∈ q_Ts := q_in 828 (by decide +kernel) rfl
theorem cs_X7_countValues : ∀ (idx : Nat) (info : QI), ms_X7_countValues idx = some info → q_Cs cX7_countValues 7 3 idx info := by
  intro idx info h
  unfold ms_X7_countValues at h
  by_cases h0 : idx = 58
  · subst h0; rw [if_pos rfl] at h; cases h; intro p l e R s m args below meth c Q D cy nL A hC hf hlo; exact q_r0 hC ok_X7_isFormat qw_X7_isFormat qlk_7_58 qst_X7_isFormat (by omega) (by omega)
  rw [if_neg h0] at h
  by_cases h1 : idx = 262
  · subst h1; rw [if_pos rfl] at h; cases h; intro p l e R s m args below meth c Q D cy nL A hC hf hlo; exact q_r1 hC ok_X0_countUpTo qw_X0_countUpTo qlk_7_262 ⟨qst_X0_countUpTo, qsl_X0_countUpTo⟩ ⟨rfl, rfl⟩ (by omega) (by omega)
  rw [if_neg h1] at h
  cases h
theorem ok_X7_countValues : q_Ok yX7_countValues cX7_countValues 2 (some .int) 3 T_X7_countValues 0 0 := q_okOf (plainFor_of_name (by decide +kernel)) rfl (fun h => by cases h) cs_X7_countValues (fun _ _ _ _ h => h)
def ms_X7_between : Nat → Option QI := fun i => if i = 58 then some (0, 1, 7, T_X7_isFormat, 0, 0) else if i = 97 then some (0, 1, 7, T_X7_isInRange, 0, 0) else if i = 262 then some (1, 1, 0, T_X0_countUpTo, 0, 0) else none
theorem ms_X7_between_58 : ms_X7_between 58 = some (0, 1, 7, T_X7_isFormat, 0, 0) := rfl
theorem ms_X7_between_97 : ms_X7_between 97 = some (0, 1, 7, T_X7_isInRange, 0, 0) := rfl
theorem ms_X7_between_262 : ms_X7_between 262 = some (1, 1, 0, T_X0_countUpTo, 0, 0) := rfl
def T_X7_between : QTT := q_T cX7_between 5 7 false (some .int) ms_X7_between 0 0
set_option maxRecDepth 100000 in
theorem qw_X7_between : q_Wd yX7_between cX7_between 5 (some .int) 3 := ⟨q_in 841 rfl rfl, q_in 64 (by decide +kernel) rfl, by decide +kernel, by decide +kernel, by decide +kernel, by decide⟩
theorem qst_X7_between : Cond.instanceMethod yX7_between ∈ q_Ts := q_in 839 (by decide +kernel) rfl
theorem qsl_X7_between : Cond.selects yX7_between.cls yX7_between yX7_between ∈ q_Ts := q_in 840 (by decide +kernel) rfl
theorem cs_X7_between : ∀ (idx : Nat) (info : QI), ms_X7_between idx = some info → q_Cs cX7_between 7 3 idx info := by
  intro idx info h
  unfold ms_X7_between at h
  by_cases h0 : idx = 58
  · subst h0; rw [if_pos rfl] at h; cases h; intro p l e R s m args below meth c Q D cy nL A hC hf hlo; exact q_r0 hC ok_X7_isFormat qw_X7_isFormat qlk_7_58 qst_X7_isFormat (by omega) (by omega)
  rw [if_neg h0] at h
  by_cases h1 : idx = 97
  · subst h1; rw [if_pos rfl] at h; cases h; intro p l e R s m args below meth c Q D cy nL A hC hf hlo; exact q_r0 hC ok_X7_isInRange qw_X7_isInRange qlk_7_97 qst_X7_isInRange (by omega) (by omega)
  rw [if_neg h1] at h
  by_cases h2 : idx = 262
  · subst h2; rw [if_pos rfl] at h; cases h; intro p l e R s m args below meth c Q D cy nL A hC hf hlo; exact q_r1 hC ok_X0_countUpTo qw_X0_countUpTo qlk_7_262 ⟨qst_X0_countUpTo, qsl_X0_countUpTo⟩ ⟨rfl, rfl⟩ (by omega) (by omega)
  rw [if_neg h2] at h
  cases h
theorem ok_X7_between : q_Ok yX7_between cX7_between 5 (some .int) 3 T_X7_between 0 0 := q_okOf (plainFor_of_name (by decide +kernel)) rfl (fun h => by cases h) cs_X7_between (fun _ _ _ _ h => h)
theorem qlk_7_265 : Cond.methodLink (q_ow 7) 265 yX0_covers ∈ q_Ts := q_in 846 (by decide +kernel) rfl
def ms_X7_contains : Nat → Option QI := fun i => if i = 58 then some (0, 1, 7, T_X7_isFormat, 0, 0) else if i = 265 then some (1, 1, 0, T_X0_covers, 0, 0) else none
theorem ms_X7_contains_58 : ms_X7_contains 58 = some (0, 1, 7, T_X7_isFormat, 0, 0) := rfl
theorem ms_X7_contains_265 : ms_X7_contains 265 = some (1, 1, 0, T_X0_covers, 0, 0) := rfl
def T_X7_contains : QTT := q_T cX7_contains 3 7 false (some .int) ms_X7_contains 0 0
set_option maxRecDepth 100000 in
theorem qw_X7_contains : q_Wd yX7_contains cX7_contains 3 (some .int) 2 := ⟨q_in 845 rfl rfl, q_in 64 (by decide +kernel) rfl, by decide +kernel, by decide +kernel, by decide +kernel, by decide⟩
theorem qst_X7_contains : Cond.instanceMethod yX7_contains ∈ q_Ts := q_in 843 (by decide +kernel) rfl
theorem qsl_X7_contains : Cond.selects yX7_contains.cls yX7_contains yX7_contains ∈ q_Ts := q_in 844 (by decide +kernel) rfl
theorem cs_X7_contains : ∀ (idx : Nat) (info : QI), ms_X7_contains idx = some info → q_Cs cX7_contains 7 4 idx info := by
  intro idx info h
  unfold ms_X7_contains at h
  by_cases h0 : idx = 58
  · subst h0; rw [if_pos rfl] at h; cases h; intro p l e R s m args below meth c Q D cy nL A hC hf hlo; exact q_r0 hC ok_X7_isFormat qw_X7_isFormat qlk_7_58 qst_X7_isFormat (by omega) (by omega)
  rw [if_neg h0] at h
  by_cases h1 : idx = 265
  · subst h1; rw [if_pos rfl] at h; cases h; intro p l e R s m args below meth c Q D cy nL A hC hf hlo; exact q_r1 hC ok_X0_covers qw_X0_covers qlk_7_265 ⟨qst_X0_covers, qsl_X0_covers⟩ ⟨rfl, rfl⟩ (by omega) (by omega)
  rw [if_neg h1] at h
  cases h
theorem ok_X7_contains : q_Ok yX7_contains cX7_contains 3 (some .int) 4 T_X7_contains 0 0 := q_okOf (plainFor_of_name (by decide +kernel)) rfl (fun h => by cases h) cs_X7_contains (fun _ _ _ _ h => h)
theorem qlk_7_268 : Cond.methodLink (q_ow 7) 268 yX1_restore ∈ q_Ts := q_in 855 (by decide +kernel) rfl
def ms_X7_undo : Nat → Option QI := fun i => if i = 268 then some (1, 2, 1, T_X1_restore, 0, 0) else none
theorem ms_X7_undo_268 : ms_X7_undo 268 = some (1, 2, 1, T_X1_restore, 0, 0) := rfl
def T_X7_undo : QTT := q_T cX7_undo 1 7 false (some .int) ms_X7_undo 0 0
set_option maxRecDepth 100000 in
theorem qw_X7_undo : q_Wd yX7_undo cX7_undo 1 (some .int) 0 := ⟨q_in 854 rfl rfl, q_in 64 (by decide +kernel) rfl, by decide +kernel, by decide +kernel, by decide +kernel, by decide⟩
theorem qst_X7_undo : Cond.instanceMethod yX7_undo ∈ q_Ts := q_in 852 (by decide +kernel) rfl
theorem qsl_X7_undo : Cond.selects yX7_undo.cls yX7_undo yX7_undo ∈ q_Ts := q_in 853 (by decide +kernel) rfl
theorem cs_X7_undo : ∀ (idx : Nat) (info : QI), ms_X7_undo idx = some info → q_Cs cX7_undo 7 3 idx info := by
  intro idx info h
  unfold ms_X7_undo at h
  by_cases h0 : idx = 268
  · subst h0; rw [if_pos rfl] at h; cases h; intro p l e R s m args below meth c Q D cy nL A hC hf hlo; exact q_r1 hC ok_X1_restore qw_X1_restore qlk_7_268 ⟨qst_X1_restore, qsl_X1_restore⟩ ⟨rfl, rfl⟩ (by omega) (by omega)
  rw [if_neg h0] at h
  cases h
theorem ok_X7_undo : q_Ok yX7_undo cX7_undo 1 (some .int) 3 T_X7_undo 0 0 := q_okOf (plainFor_of_name (by decide +kernel)) rfl (fun h => by cases h) cs_X7_undo (fun _ _ _ _ h => h)
def ms_X7_toldOfFormats : Nat → Option QI := fun i => none
def T_X7_toldOfFormats : QTT := q_T cX7_toldOfFormats 3 7 false (some .int) ms_X7_toldOfFormats 0 0
set_option maxRecDepth 100000 in
theorem qw_X7_toldOfFormats : q_Wd yX7_toldOfFormats cX7_toldOfFormats 3 (some .int) 1 := ⟨q_in 866 rfl rfl, q_in 64 (by decide +kernel) rfl, by decide +kernel, by decide +kernel, by decide +kernel, by decide⟩
theorem qst_X7_toldOfFormats : Cond.instanceMethod yX7_toldOfFormats ∈ q_Ts := q_in 865 (by decide +kernel) rfl
theorem qsl_X7_toldOfFormats : Cond.selects yX7_toldOfFormats.cls yX7_toldOfFormats yX7_toldOfFormats ∈ q_Ts := q_in 25 (by decide +kernel) rfl
theorem cs_X7_toldOfFormats : ∀ (idx : Nat) (info : QI), ms_X7_toldOfFormats idx = some info → q_Cs cX7_toldOfFormats 7 0 idx info := by
  intro idx info h
  unfold ms_X7_toldOfFormats at h
  cases h
theorem ok_X7_toldOfFormats : q_Ok yX7_toldOfFormats cX7_toldOfFormats 3 (some .int) 0 T_X7_toldOfFormats 0 0 := q_okOf (plainFor_of_name (by decide +kernel)) rfl (fun h => by cases h) cs_X7_toldOfFormats (fun _ _ _ _ h => h)
theorem qlk_7_276 : Cond.methodLink (q_ow 7) 276 yX7_toldOfFormats ∈ q_Ts := q_in 863 (by decide +kernel) rfl
def ms_X7_told : Nat → Option QI := fun i => if i = 276 then some (1, 1, 7, T_X7_toldOfFormats, 0, 0) else none
theorem ms_X7_told_276 : ms_X7_told 276 = some (1, 1, 7, T_X7_toldOfFormats, 0, 0) := rfl
def T_X7_told : QTT := q_T cX7_told 2 7 false (some .int) ms_X7_told 0 0
set_option maxRecDepth 100000 in
theorem qw_X7_told : q_Wd yX7_told cX7_told 2 (some .int) 1 := ⟨q_in 862 rfl rfl, q_in 64 (by decide +kernel) rfl, by decide +kernel, by decide +kernel, by decide +kernel, by decide⟩
theorem qst_X7_told : Cond.instanceMethod yX7_told ∈ q_Ts := q_in 860 (by decide +kernel) rfl
theorem qsl_X7_told : Cond.selects yX7_told.cls yX7_told yX7_told ∈ q_Ts := q_in 861 (by decide +kernel) rfl
theorem cs_X7_told : ∀ (idx : Nat) (info : QI), ms_X7_told idx = some info → q_Cs cX7_told 7 1 idx info := by
  intro idx info h
  unfold ms_X7_told at h
  by_cases h0 : idx = 276
  · subst h0; rw [if_pos rfl] at h; cases h; intro p l e R s m args below meth c Q D cy nL A hC hf hlo; exact q_r1 hC ok_X7_toldOfFormats qw_X7_toldOfFormats qlk_7_276 ⟨qst_X7_toldOfFormats, qsl_X7_toldOfFormats⟩ ⟨rfl, rfl⟩ (by omega) (by omega)
  rw [if_neg h0] at h
  cases h
theorem ok_X7_told : q_Ok yX7_told cX7_told 2 (some .int) 1 T_X7_told 0 0 := q_okOf (plainFor_of_name (by decide +kernel)) rfl (fun h => by cases h) cs_X7_told (fun _ _ _ _ h => h)
theorem qlk_7_283 : Cond.methodLink (q_ow 7) 283 yX7_told ∈ q_Ts := q_in 873 (by decide +kernel) rfl
theorem qlk_7_286 : Cond.methodLink (q_ow 7) 286 yX7_formatOf ∈ q_Ts := q_in 874 (by decide +kernel) rfl
theorem qlk_7_289 : Cond.methodLink (q_ow 7) 289 yX7_value ∈ q_Ts := q_in 875 (by decide +kernel) rfl
theorem qlk_7_292 : Cond.methodLink (q_ow 7) 292 yX7_account ∈ q_Ts := q_in 876 (by decide +kernel) rfl
theorem qlk_7_296 : Cond.methodLink (q_ow 7) 296 yX7_stopped ∈ q_Ts := q_in 877 (by decide +kernel) rfl
theorem qlk_7_299 : Cond.methodLink (q_ow 7) 299 yX3_addedTo ∈ q_Ts := q_in 878 (by decide +kernel) rfl
def ms_X7_digest : Nat → Option QI := fun i => if i = 283 then some (1, 1, 7, T_X7_told, 0, 0) else if i = 286 then some (1, 1, 7, T_X7_formatOf, 0, 0) else if i = 289 then some (1, 1, 7, T_X7_value, 0, 0) else if i = 292 then some (1, 1, 7, T_X7_account, 0, 0) else if i = 296 then some (1, 0, 7, T_X7_stopped, 0, 0) else if i = 191 then some (1, 1, 2, T_X2_at, 0, 0) else if i = 299 then some (1, 1, 3, T_X3_addedTo, 0, 0) else none
theorem ms_X7_digest_283 : ms_X7_digest 283 = some (1, 1, 7, T_X7_told, 0, 0) := rfl
theorem ms_X7_digest_286 : ms_X7_digest 286 = some (1, 1, 7, T_X7_formatOf, 0, 0) := rfl
theorem ms_X7_digest_289 : ms_X7_digest 289 = some (1, 1, 7, T_X7_value, 0, 0) := rfl
theorem ms_X7_digest_292 : ms_X7_digest 292 = some (1, 1, 7, T_X7_account, 0, 0) := rfl
theorem ms_X7_digest_296 : ms_X7_digest 296 = some (1, 0, 7, T_X7_stopped, 0, 0) := rfl
theorem ms_X7_digest_191 : ms_X7_digest 191 = some (1, 1, 2, T_X2_at, 0, 0) := rfl
theorem ms_X7_digest_299 : ms_X7_digest 299 = some (1, 1, 3, T_X3_addedTo, 0, 0) := rfl
def T_X7_digest : QTT := q_T cX7_digest 4 7 false (some .long) ms_X7_digest 0 0
set_option maxRecDepth 100000 in
theorem qw_X7_digest : q_Wd yX7_digest cX7_digest 4 (some .long) 0 := ⟨q_in 870 rfl rfl, q_in 64 (by decide +kernel) rfl, by decide +kernel, by decide +kernel, by decide +kernel, by decide⟩
theorem qst_X7_digest : Cond.instanceMethod yX7_digest ∈ q_Ts := q_in 868 (by decide +kernel) rfl
theorem qsl_X7_digest : Cond.selects yX7_digest.cls yX7_digest yX7_digest ∈ q_Ts := q_in 869 (by decide +kernel) rfl
theorem cs_X7_digest : ∀ (idx : Nat) (info : QI), ms_X7_digest idx = some info → q_Cs cX7_digest 7 3 idx info := by
  intro idx info h
  unfold ms_X7_digest at h
  by_cases h0 : idx = 283
  · subst h0; rw [if_pos rfl] at h; cases h; intro p l e R s m args below meth c Q D cy nL A hC hf hlo; exact q_r1 hC ok_X7_told qw_X7_told qlk_7_283 ⟨qst_X7_told, qsl_X7_told⟩ ⟨rfl, rfl⟩ (by omega) (by omega)
  rw [if_neg h0] at h
  by_cases h1 : idx = 286
  · subst h1; rw [if_pos rfl] at h; cases h; intro p l e R s m args below meth c Q D cy nL A hC hf hlo; exact q_r1 hC ok_X7_formatOf qw_X7_formatOf qlk_7_286 ⟨qst_X7_formatOf, qsl_X7_formatOf⟩ ⟨rfl, rfl⟩ (by omega) (by omega)
  rw [if_neg h1] at h
  by_cases h2 : idx = 289
  · subst h2; rw [if_pos rfl] at h; cases h; intro p l e R s m args below meth c Q D cy nL A hC hf hlo; exact q_r1 hC ok_X7_value qw_X7_value qlk_7_289 ⟨qst_X7_value, qsl_X7_value⟩ ⟨rfl, rfl⟩ (by omega) (by omega)
  rw [if_neg h2] at h
  by_cases h3 : idx = 292
  · subst h3; rw [if_pos rfl] at h; cases h; intro p l e R s m args below meth c Q D cy nL A hC hf hlo; exact q_r1 hC ok_X7_account qw_X7_account qlk_7_292 ⟨qst_X7_account, qsl_X7_account⟩ ⟨rfl, rfl⟩ (by omega) (by omega)
  rw [if_neg h3] at h
  by_cases h4 : idx = 296
  · subst h4; rw [if_pos rfl] at h; cases h; intro p l e R s m args below meth c Q D cy nL A hC hf hlo; exact q_r1 hC ok_X7_stopped qw_X7_stopped qlk_7_296 ⟨qst_X7_stopped, qsl_X7_stopped⟩ ⟨rfl, rfl⟩ (by omega) (by omega)
  rw [if_neg h4] at h
  by_cases h5 : idx = 191
  · subst h5; rw [if_pos rfl] at h; cases h; intro p l e R s m args below meth c Q D cy nL A hC hf hlo; exact q_r1 hC ok_X2_at qw_X2_at qlk_7_191 ⟨qst_X2_at, qsl_X2_at⟩ ⟨rfl, rfl⟩ (by omega) (by omega)
  rw [if_neg h5] at h
  by_cases h6 : idx = 299
  · subst h6; rw [if_pos rfl] at h; cases h; intro p l e R s m args below meth c Q D cy nL A hC hf hlo; exact q_r1 hC ok_X3_addedTo qw_X3_addedTo qlk_7_299 ⟨qst_X3_addedTo, qsl_X3_addedTo⟩ ⟨rfl, rfl⟩ (by omega) (by omega)
  rw [if_neg h6] at h
  cases h
theorem ok_X7_digest : q_Ok yX7_digest cX7_digest 4 (some .long) 3 T_X7_digest 0 0 := q_okOf (plainFor_of_name (by decide +kernel)) rfl (fun h => by cases h) cs_X7_digest (fun _ _ _ _ h => h)
theorem qlk_8_1 : Cond.methodLink (q_ow 8) 1 objectInit ∈ q_Ts := q_in 889 (by decide +kernel) rfl
def ms_X8_init : Nat → Option QI := fun i => if i = 1 then some (8, 0, 0, q_T0, 0, 0) else none
theorem ms_X8_init_1 : ms_X8_init 1 = some (8, 0, 0, q_T0, 0, 0) := rfl
def T_X8_init : QTT := q_T cX8_init 2 8 true none ms_X8_init 10 8467
set_option maxRecDepth 100000 in
theorem qw_X8_init : q_Wd yX8_init cX8_init 2 none 0 := ⟨q_in 888 rfl rfl, q_in 72 (by decide +kernel) rfl, by decide +kernel, by decide +kernel, by decide +kernel, by decide⟩
theorem qst_X8_init : Cond.instanceMethod yX8_init ∈ q_Ts := q_in 887 (by decide +kernel) rfl
theorem cs_X8_init : ∀ (idx : Nat) (info : QI), ms_X8_init idx = some info → q_Cs cX8_init 8 1 idx info := by
  intro idx info h
  unfold ms_X8_init at h
  by_cases h0 : idx = 1
  · subst h0; rw [if_pos rfl] at h; cases h; intro p l e R s m args below meth c Q D cy nL A hC hf hlo; exact q_r8 hC qlk_8_1 q_lo0 q_lo1 (by omega) (by omega)
  rw [if_neg h0] at h
  cases h
theorem ok_X8_init : q_Ok yX8_init cX8_init 2 none 1 T_X8_init 10 8467 := q_okOf (plainFor_of_name (by decide +kernel)) rfl (fun _ => rfl) cs_X8_init (fun _ _ _ _ h => h)
def ms_X8_in : Nat → Option QI := fun i => none
def T_X8_in : QTT := q_T cX8_in 3 8 false (some .boolean) ms_X8_in 0 0
set_option maxRecDepth 100000 in
theorem qw_X8_in : q_Wd yX8_in cX8_in 3 (some .boolean) 3 := ⟨q_in 985 rfl rfl, q_in 72 (by decide +kernel) rfl, by decide +kernel, by decide +kernel, by decide +kernel, by decide⟩
theorem qst_X8_in : Cond.static yX8_in ∈ q_Ts := q_in 984 (by decide +kernel) rfl
theorem cs_X8_in : ∀ (idx : Nat) (info : QI), ms_X8_in idx = some info → q_Cs cX8_in 8 0 idx info := by
  intro idx info h
  unfold ms_X8_in at h
  cases h
theorem ok_X8_in : q_Ok yX8_in cX8_in 3 (some .boolean) 0 T_X8_in 0 0 := q_okOf (plainFor_of_name (by decide +kernel)) rfl (fun h => by cases h) cs_X8_in (fun _ _ _ _ h => h)
def ms_X8_begins : Nat → Option QI := fun i => none
def T_X8_begins : QTT := q_T cX8_begins 2 8 false none ms_X8_begins 0 0
set_option maxRecDepth 100000 in
theorem qw_X8_begins : q_Wd yX8_begins cX8_begins 2 none 0 := ⟨q_in 990 rfl rfl, q_in 72 (by decide +kernel) rfl, by decide +kernel, by decide +kernel, by decide +kernel, by decide⟩
theorem qst_X8_begins : Cond.instanceMethod yX8_begins ∈ q_Ts := q_in 989 (by decide +kernel) rfl
theorem qsl_X8_begins : Cond.selects yX8_begins.cls yX8_begins yX8_begins ∈ q_Ts := q_in 26 (by decide +kernel) rfl
theorem cs_X8_begins : ∀ (idx : Nat) (info : QI), ms_X8_begins idx = some info → q_Cs cX8_begins 8 0 idx info := by
  intro idx info h
  unfold ms_X8_begins at h
  cases h
theorem ok_X8_begins : q_Ok yX8_begins cX8_begins 2 none 0 T_X8_begins 0 0 := q_okOf (plainFor_of_name (by decide +kernel)) rfl (fun h => by cases h) cs_X8_begins (fun _ _ _ _ h => h)
theorem qlk_8_53 : Cond.methodLink (q_ow 8) 53 yX8_in ∈ q_Ts := q_in 983 (by decide +kernel) rfl
def ms_X8_isRegister : Nat → Option QI := fun i => if i = 53 then some (0, 3, 8, T_X8_in, 0, 0) else none
theorem ms_X8_isRegister_53 : ms_X8_isRegister 53 = some (0, 3, 8, T_X8_in, 0, 0) := rfl
def T_X8_isRegister : QTT := q_T cX8_isRegister 1 8 false (some .boolean) ms_X8_isRegister 0 0
set_option maxRecDepth 100000 in
theorem qw_X8_isRegister : q_Wd yX8_isRegister cX8_isRegister 1 (some .boolean) 1 := ⟨q_in 1005 rfl rfl, q_in 72 (by decide +kernel) rfl, by decide +kernel, by decide +kernel, by decide +kernel, by decide⟩
theorem qst_X8_isRegister : Cond.static yX8_isRegister ∈ q_Ts := q_in 1004 (by decide +kernel) rfl
theorem cs_X8_isRegister : ∀ (idx : Nat) (info : QI), ms_X8_isRegister idx = some info → q_Cs cX8_isRegister 8 1 idx info := by
  intro idx info h
  unfold ms_X8_isRegister at h
  by_cases h0 : idx = 53
  · subst h0; rw [if_pos rfl] at h; cases h; intro p l e R s m args below meth c Q D cy nL A hC hf hlo; exact q_r0 hC ok_X8_in qw_X8_in qlk_8_53 qst_X8_in (by omega) (by omega)
  rw [if_neg h0] at h
  cases h
theorem ok_X8_isRegister : q_Ok yX8_isRegister cX8_isRegister 1 (some .boolean) 1 T_X8_isRegister 0 0 := q_okOf (plainFor_of_name (by decide +kernel)) rfl (fun h => by cases h) cs_X8_isRegister (fun _ _ _ _ h => h)
def ms_X8_isFormat : Nat → Option QI := fun i => if i = 53 then some (0, 3, 8, T_X8_in, 0, 0) else none
theorem ms_X8_isFormat_53 : ms_X8_isFormat 53 = some (0, 3, 8, T_X8_in, 0, 0) := rfl
def T_X8_isFormat : QTT := q_T cX8_isFormat 1 8 false (some .boolean) ms_X8_isFormat 0 0
set_option maxRecDepth 100000 in
theorem qw_X8_isFormat : q_Wd yX8_isFormat cX8_isFormat 1 (some .boolean) 1 := ⟨q_in 982 rfl rfl, q_in 72 (by decide +kernel) rfl, by decide +kernel, by decide +kernel, by decide +kernel, by decide⟩
theorem qst_X8_isFormat : Cond.static yX8_isFormat ∈ q_Ts := q_in 981 (by decide +kernel) rfl
theorem cs_X8_isFormat : ∀ (idx : Nat) (info : QI), ms_X8_isFormat idx = some info → q_Cs cX8_isFormat 8 1 idx info := by
  intro idx info h
  unfold ms_X8_isFormat at h
  by_cases h0 : idx = 53
  · subst h0; rw [if_pos rfl] at h; cases h; intro p l e R s m args below meth c Q D cy nL A hC hf hlo; exact q_r0 hC ok_X8_in qw_X8_in qlk_8_53 qst_X8_in (by omega) (by omega)
  rw [if_neg h0] at h
  cases h
theorem ok_X8_isFormat : q_Ok yX8_isFormat cX8_isFormat 1 (some .boolean) 1 T_X8_isFormat 0 0 := q_okOf (plainFor_of_name (by decide +kernel)) rfl (fun h => by cases h) cs_X8_isFormat (fun _ _ _ _ h => h)
def ms_X8_greatest : Nat → Option QI := fun i => none
def T_X8_greatest : QTT := q_T cX8_greatest 2 8 false (some .long) ms_X8_greatest 0 0
set_option maxRecDepth 100000 in
theorem qw_X8_greatest : q_Wd yX8_greatest cX8_greatest 2 (some .long) 2 := ⟨q_in 1018 rfl rfl, q_in 72 (by decide +kernel) rfl, by decide +kernel, by decide +kernel, by decide +kernel, by decide⟩
theorem qst_X8_greatest : Cond.static yX8_greatest ∈ q_Ts := q_in 1017 (by decide +kernel) rfl
theorem cs_X8_greatest : ∀ (idx : Nat) (info : QI), ms_X8_greatest idx = some info → q_Cs cX8_greatest 8 0 idx info := by
  intro idx info h
  unfold ms_X8_greatest at h
  cases h
theorem ok_X8_greatest : q_Ok yX8_greatest cX8_greatest 2 (some .long) 0 T_X8_greatest 0 0 := q_okOf (plainFor_of_name (by decide +kernel)) rfl (fun h => by cases h) cs_X8_greatest (fun _ _ _ _ h => h)
def ms_X8_exponent : Nat → Option QI := fun i => none
def T_X8_exponent : QTT := q_T cX8_exponent 6 8 false (some .int) ms_X8_exponent 0 0
set_option maxRecDepth 100000 in
theorem qw_X8_exponent : q_Wd yX8_exponent cX8_exponent 6 (some .int) 4 := ⟨q_in 1030 rfl rfl, q_in 72 (by decide +kernel) rfl, by decide +kernel, by decide +kernel, by decide +kernel, by decide⟩
theorem qst_X8_exponent : Cond.static yX8_exponent ∈ q_Ts := q_in 1029 (by decide +kernel) rfl
theorem cs_X8_exponent : ∀ (idx : Nat) (info : QI), ms_X8_exponent idx = some info → q_Cs cX8_exponent 8 0 idx info := by
  intro idx info h
  unfold ms_X8_exponent at h
  cases h
theorem ok_X8_exponent : q_Ok yX8_exponent cX8_exponent 6 (some .int) 0 T_X8_exponent 0 0 := q_okOf (plainFor_of_name (by decide +kernel)) rfl (fun h => by cases h) cs_X8_exponent (fun _ _ _ _ h => h)
theorem qlk_8_57 : Cond.methodLink (q_ow 8) 57 yX8_exponent ∈ q_Ts := q_in 1028 (by decide +kernel) rfl
def ms_X8_cut : Nat → Option QI := fun i => if i = 57 then some (0, 4, 8, T_X8_exponent, 0, 0) else none
theorem ms_X8_cut_57 : ms_X8_cut 57 = some (0, 4, 8, T_X8_exponent, 0, 0) := rfl
def T_X8_cut : QTT := q_T cX8_cut 6 8 false (some .long) ms_X8_cut 0 0
set_option maxRecDepth 100000 in
theorem qw_X8_cut : q_Wd yX8_cut cX8_cut 6 (some .long) 4 := ⟨q_in 1027 rfl rfl, q_in 72 (by decide +kernel) rfl, by decide +kernel, by decide +kernel, by decide +kernel, by decide⟩
theorem qst_X8_cut : Cond.static yX8_cut ∈ q_Ts := q_in 1026 (by decide +kernel) rfl
theorem cs_X8_cut : ∀ (idx : Nat) (info : QI), ms_X8_cut idx = some info → q_Cs cX8_cut 8 1 idx info := by
  intro idx info h
  unfold ms_X8_cut at h
  by_cases h0 : idx = 57
  · subst h0; rw [if_pos rfl] at h; cases h; intro p l e R s m args below meth c Q D cy nL A hC hf hlo; exact q_r0 hC ok_X8_exponent qw_X8_exponent qlk_8_57 qst_X8_exponent (by omega) (by omega)
  rw [if_neg h0] at h
  cases h
theorem ok_X8_cut : q_Ok yX8_cut cX8_cut 6 (some .long) 1 T_X8_cut 0 0 := q_okOf (plainFor_of_name (by decide +kernel)) rfl (fun h => by cases h) cs_X8_cut (fun _ _ _ _ h => h)
theorem qlk_8_61 : Cond.methodLink (q_ow 8) 61 yX8_cut ∈ q_Ts := q_in 1025 (by decide +kernel) rfl
def ms_X8_lift : Nat → Option QI := fun i => if i = 61 then some (0, 4, 8, T_X8_cut, 0, 0) else if i = 57 then some (0, 4, 8, T_X8_exponent, 0, 0) else none
theorem ms_X8_lift_61 : ms_X8_lift 61 = some (0, 4, 8, T_X8_cut, 0, 0) := rfl
theorem ms_X8_lift_57 : ms_X8_lift 57 = some (0, 4, 8, T_X8_exponent, 0, 0) := rfl
def T_X8_lift : QTT := q_T cX8_lift 7 8 false (some .long) ms_X8_lift 0 0
set_option maxRecDepth 100000 in
theorem qw_X8_lift : q_Wd yX8_lift cX8_lift 7 (some .long) 4 := ⟨q_in 1033 rfl rfl, q_in 72 (by decide +kernel) rfl, by decide +kernel, by decide +kernel, by decide +kernel, by decide⟩
theorem qst_X8_lift : Cond.static yX8_lift ∈ q_Ts := q_in 1032 (by decide +kernel) rfl
theorem cs_X8_lift : ∀ (idx : Nat) (info : QI), ms_X8_lift idx = some info → q_Cs cX8_lift 8 2 idx info := by
  intro idx info h
  unfold ms_X8_lift at h
  by_cases h0 : idx = 61
  · subst h0; rw [if_pos rfl] at h; cases h; intro p l e R s m args below meth c Q D cy nL A hC hf hlo; exact q_r0 hC ok_X8_cut qw_X8_cut qlk_8_61 qst_X8_cut (by omega) (by omega)
  rw [if_neg h0] at h
  by_cases h1 : idx = 57
  · subst h1; rw [if_pos rfl] at h; cases h; intro p l e R s m args below meth c Q D cy nL A hC hf hlo; exact q_r0 hC ok_X8_exponent qw_X8_exponent qlk_8_57 qst_X8_exponent (by omega) (by omega)
  rw [if_neg h1] at h
  cases h
theorem ok_X8_lift : q_Ok yX8_lift cX8_lift 7 (some .long) 2 T_X8_lift 0 0 := q_okOf (plainFor_of_name (by decide +kernel)) rfl (fun h => by cases h) cs_X8_lift (fun _ _ _ _ h => h)
theorem qlk_8_65 : Cond.methodLink (q_ow 8) 65 yX8_lift ∈ q_Ts := q_in 1031 (by decide +kernel) rfl
def ms_X8_under : Nat → Option QI := fun i => if i = 61 then some (0, 4, 8, T_X8_cut, 0, 0) else if i = 65 then some (0, 4, 8, T_X8_lift, 0, 0) else none
theorem ms_X8_under_61 : ms_X8_under 61 = some (0, 4, 8, T_X8_cut, 0, 0) := rfl
theorem ms_X8_under_65 : ms_X8_under 65 = some (0, 4, 8, T_X8_lift, 0, 0) := rfl
def T_X8_under : QTT := q_T cX8_under 5 8 false (some .long) ms_X8_under 0 0
set_option maxRecDepth 100000 in
theorem qw_X8_under : q_Wd yX8_under cX8_under 5 (some .long) 4 := ⟨q_in 1024 rfl rfl, q_in 72 (by decide +kernel) rfl, by decide +kernel, by decide +kernel, by decide +kernel, by decide⟩
theorem qst_X8_under : Cond.static yX8_under ∈ q_Ts := q_in 1023 (by decide +kernel) rfl
theorem cs_X8_under : ∀ (idx : Nat) (info : QI), ms_X8_under idx = some info → q_Cs cX8_under 8 3 idx info := by
  intro idx info h
  unfold ms_X8_under at h
  by_cases h0 : idx = 61
  · subst h0; rw [if_pos rfl] at h; cases h; intro p l e R s m args below meth c Q D cy nL A hC hf hlo; exact q_r0 hC ok_X8_cut qw_X8_cut qlk_8_61 qst_X8_cut (by omega) (by omega)
  rw [if_neg h0] at h
  by_cases h1 : idx = 65
  · subst h1; rw [if_pos rfl] at h; cases h; intro p l e R s m args below meth c Q D cy nL A hC hf hlo; exact q_r0 hC ok_X8_lift qw_X8_lift qlk_8_65 qst_X8_lift (by omega) (by omega)
  rw [if_neg h1] at h
  cases h
theorem ok_X8_under : q_Ok yX8_under cX8_under 5 (some .long) 3 T_X8_under 0 0 := q_okOf (plainFor_of_name (by decide +kernel)) rfl (fun h => by cases h) cs_X8_under (fun _ _ _ _ h => h)
theorem qlk_8_68 : Cond.methodLink (q_ow 8) 68 yX8_under ∈ q_Ts := q_in 1022 (by decide +kernel) rfl
def ms_X8_over : Nat → Option QI := fun i => if i = 68 then some (0, 4, 8, T_X8_under, 0, 0) else none
theorem ms_X8_over_68 : ms_X8_over 68 = some (0, 4, 8, T_X8_under, 0, 0) := rfl
def T_X8_over : QTT := q_T cX8_over 5 8 false (some .long) ms_X8_over 0 0
set_option maxRecDepth 100000 in
theorem qw_X8_over : q_Wd yX8_over cX8_over 5 (some .long) 4 := ⟨q_in 1036 rfl rfl, q_in 72 (by decide +kernel) rfl, by decide +kernel, by decide +kernel, by decide +kernel, by decide⟩
theorem qst_X8_over : Cond.static yX8_over ∈ q_Ts := q_in 1035 (by decide +kernel) rfl
theorem cs_X8_over : ∀ (idx : Nat) (info : QI), ms_X8_over idx = some info → q_Cs cX8_over 8 4 idx info := by
  intro idx info h
  unfold ms_X8_over at h
  by_cases h0 : idx = 68
  · subst h0; rw [if_pos rfl] at h; cases h; intro p l e R s m args below meth c Q D cy nL A hC hf hlo; exact q_r0 hC ok_X8_under qw_X8_under qlk_8_68 qst_X8_under (by omega) (by omega)
  rw [if_neg h0] at h
  cases h
theorem ok_X8_over : q_Ok yX8_over cX8_over 5 (some .long) 4 T_X8_over 0 0 := q_okOf (plainFor_of_name (by decide +kernel)) rfl (fun h => by cases h) cs_X8_over (fun _ _ _ _ h => h)
def ms_X8_floor : Nat → Option QI := fun i => none
def T_X8_floor : QTT := q_T cX8_floor 6 8 false (some .long) ms_X8_floor 0 0
set_option maxRecDepth 100000 in
theorem qw_X8_floor : q_Wd yX8_floor cX8_floor 6 (some .long) 2 := ⟨q_in 1021 rfl rfl, q_in 72 (by decide +kernel) rfl, by decide +kernel, by decide +kernel, by decide +kernel, by decide⟩
theorem qst_X8_floor : Cond.static yX8_floor ∈ q_Ts := q_in 1020 (by decide +kernel) rfl
theorem cs_X8_floor : ∀ (idx : Nat) (info : QI), ms_X8_floor idx = some info → q_Cs cX8_floor 8 0 idx info := by
  intro idx info h
  unfold ms_X8_floor at h
  cases h
theorem ok_X8_floor : q_Ok yX8_floor cX8_floor 6 (some .long) 0 T_X8_floor 0 0 := q_okOf (plainFor_of_name (by decide +kernel)) rfl (fun h => by cases h) cs_X8_floor (fun _ _ _ _ h => h)
theorem qlk_8_71 : Cond.methodLink (q_ow 8) 71 yX8_greatest ∈ q_Ts := q_in 1016 (by decide +kernel) rfl
theorem qlk_8_86 : Cond.methodLink (q_ow 8) 86 yX8_floor ∈ q_Ts := q_in 1019 (by decide +kernel) rfl
theorem qlk_8_90 : Cond.methodLink (q_ow 8) 90 yX8_over ∈ q_Ts := q_in 1034 (by decide +kernel) rfl
def ms_X8_finds : Nat → Option QI := fun i => if i = 71 then some (0, 2, 8, T_X8_greatest, 0, 0) else if i = 86 then some (0, 2, 8, T_X8_floor, 0, 0) else if i = 68 then some (0, 4, 8, T_X8_under, 0, 0) else if i = 90 then some (0, 4, 8, T_X8_over, 0, 0) else none
theorem ms_X8_finds_71 : ms_X8_finds 71 = some (0, 2, 8, T_X8_greatest, 0, 0) := rfl
theorem ms_X8_finds_86 : ms_X8_finds 86 = some (0, 2, 8, T_X8_floor, 0, 0) := rfl
theorem ms_X8_finds_68 : ms_X8_finds 68 = some (0, 4, 8, T_X8_under, 0, 0) := rfl
theorem ms_X8_finds_90 : ms_X8_finds 90 = some (0, 4, 8, T_X8_over, 0, 0) := rfl
def T_X8_finds : QTT := q_T cX8_finds 10 8 false none ms_X8_finds 0 0
set_option maxRecDepth 100000 in
theorem qw_X8_finds : q_Wd yX8_finds cX8_finds 10 none 5 := ⟨q_in 1015 rfl rfl, q_in 72 (by decide +kernel) rfl, by decide +kernel, by decide +kernel, by decide +kernel, by decide⟩
theorem qst_X8_finds : Cond.instanceMethod yX8_finds ∈ q_Ts := q_in 1014 (by decide +kernel) rfl
theorem qsl_X8_finds : Cond.selects yX8_finds.cls yX8_finds yX8_finds ∈ q_Ts := q_in 29 (by decide +kernel) rfl
theorem cs_X8_finds : ∀ (idx : Nat) (info : QI), ms_X8_finds idx = some info → q_Cs cX8_finds 8 5 idx info := by
  intro idx info h
  unfold ms_X8_finds at h
  by_cases h0 : idx = 71
  · subst h0; rw [if_pos rfl] at h; cases h; intro p l e R s m args below meth c Q D cy nL A hC hf hlo; exact q_r0 hC ok_X8_greatest qw_X8_greatest qlk_8_71 qst_X8_greatest (by omega) (by omega)
  rw [if_neg h0] at h
  by_cases h1 : idx = 86
  · subst h1; rw [if_pos rfl] at h; cases h; intro p l e R s m args below meth c Q D cy nL A hC hf hlo; exact q_r0 hC ok_X8_floor qw_X8_floor qlk_8_86 qst_X8_floor (by omega) (by omega)
  rw [if_neg h1] at h
  by_cases h2 : idx = 68
  · subst h2; rw [if_pos rfl] at h; cases h; intro p l e R s m args below meth c Q D cy nL A hC hf hlo; exact q_r0 hC ok_X8_under qw_X8_under qlk_8_68 qst_X8_under (by omega) (by omega)
  rw [if_neg h2] at h
  by_cases h3 : idx = 90
  · subst h3; rw [if_pos rfl] at h; cases h; intro p l e R s m args below meth c Q D cy nL A hC hf hlo; exact q_r0 hC ok_X8_over qw_X8_over qlk_8_90 qst_X8_over (by omega) (by omega)
  rw [if_neg h3] at h
  cases h
theorem ok_X8_finds : q_Ok yX8_finds cX8_finds 10 none 5 T_X8_finds 0 0 := q_okOf (plainFor_of_name (by decide +kernel)) rfl (fun h => by cases h) cs_X8_finds (fun _ _ _ _ h => h)
def ms_X8_above : Nat → Option QI := fun i => none
def T_X8_above : QTT := q_T cX8_above 5 8 false (some .long) ms_X8_above 0 0
set_option maxRecDepth 100000 in
theorem qw_X8_above : q_Wd yX8_above cX8_above 5 (some .long) 2 := ⟨q_in 1044 rfl rfl, q_in 72 (by decide +kernel) rfl, by decide +kernel, by decide +kernel, by decide +kernel, by decide⟩
theorem qst_X8_above : Cond.instanceMethod yX8_above ∈ q_Ts := q_in 1043 (by decide +kernel) rfl
theorem qsl_X8_above : Cond.selects yX8_above.cls yX8_above yX8_above ∈ q_Ts := q_in 31 (by decide +kernel) rfl
theorem cs_X8_above : ∀ (idx : Nat) (info : QI), ms_X8_above idx = some info → q_Cs cX8_above 8 0 idx info := by
  intro idx info h
  unfold ms_X8_above at h
  cases h
theorem ok_X8_above : q_Ok yX8_above cX8_above 5 (some .long) 0 T_X8_above 0 0 := q_okOf (plainFor_of_name (by decide +kernel)) rfl (fun h => by cases h) cs_X8_above (fun _ _ _ _ h => h)
theorem qlk_8_93 : Cond.methodLink (q_ow 8) 93 yX8_above ∈ q_Ts := q_in 1041 (by decide +kernel) rfl
def ms_X8_picks : Nat → Option QI := fun i => if i = 93 then some (1, 2, 8, T_X8_above, 0, 0) else none
theorem ms_X8_picks_93 : ms_X8_picks 93 = some (1, 2, 8, T_X8_above, 0, 0) := rfl
def T_X8_picks : QTT := q_T cX8_picks 15 8 false (some .long) ms_X8_picks 0 0
set_option maxRecDepth 100000 in
theorem qw_X8_picks : q_Wd yX8_picks cX8_picks 15 (some .long) 5 := ⟨q_in 1040 rfl rfl, q_in 72 (by decide +kernel) rfl, by decide +kernel, by decide +kernel, by decide +kernel, by decide⟩
theorem qst_X8_picks : Cond.instanceMethod yX8_picks ∈ q_Ts := q_in 1039 (by decide +kernel) rfl
theorem qsl_X8_picks : Cond.selects yX8_picks.cls yX8_picks yX8_picks ∈ q_Ts := q_in 30 (by decide +kernel) rfl
theorem cs_X8_picks : ∀ (idx : Nat) (info : QI), ms_X8_picks idx = some info → q_Cs cX8_picks 8 1 idx info := by
  intro idx info h
  unfold ms_X8_picks at h
  by_cases h0 : idx = 93
  · subst h0; rw [if_pos rfl] at h; cases h; intro p l e R s m args below meth c Q D cy nL A hC hf hlo; exact q_r1 hC ok_X8_above qw_X8_above qlk_8_93 ⟨qst_X8_above, qsl_X8_above⟩ ⟨rfl, rfl⟩ (by omega) (by omega)
  rw [if_neg h0] at h
  cases h
theorem ok_X8_picks : q_Ok yX8_picks cX8_picks 15 (some .long) 1 T_X8_picks 0 0 := q_okOf (plainFor_of_name (by decide +kernel)) rfl (fun h => by cases h) cs_X8_picks (fun _ _ _ _ h => h)
def ms_X8_drawn : Nat → Option QI := fun i => none
def T_X8_drawn : QTT := q_T cX8_drawn 4 8 false (some .long) ms_X8_drawn 0 0
set_option maxRecDepth 100000 in
theorem qw_X8_drawn : q_Wd yX8_drawn cX8_drawn 4 (some .long) 3 := ⟨q_in 1094 rfl rfl, q_in 72 (by decide +kernel) rfl, by decide +kernel, by decide +kernel, by decide +kernel, by decide⟩
theorem qst_X8_drawn : Cond.static yX8_drawn ∈ q_Ts := q_in 1093 (by decide +kernel) rfl
theorem cs_X8_drawn : ∀ (idx : Nat) (info : QI), ms_X8_drawn idx = some info → q_Cs cX8_drawn 8 0 idx info := by
  intro idx info h
  unfold ms_X8_drawn at h
  cases h
theorem ok_X8_drawn : q_Ok yX8_drawn cX8_drawn 4 (some .long) 0 T_X8_drawn 0 0 := q_okOf (plainFor_of_name (by decide +kernel)) rfl (fun h => by cases h) cs_X8_drawn (fun _ _ _ _ h => h)
def ms_X8_part : Nat → Option QI := fun i => none
def T_X8_part : QTT := q_T cX8_part 3 8 false (some .int) ms_X8_part 0 0
set_option maxRecDepth 100000 in
theorem qw_X8_part : q_Wd yX8_part cX8_part 3 (some .int) 2 := ⟨q_in 994 rfl rfl, q_in 72 (by decide +kernel) rfl, by decide +kernel, by decide +kernel, by decide +kernel, by decide⟩
theorem qst_X8_part : Cond.instanceMethod yX8_part ∈ q_Ts := q_in 993 (by decide +kernel) rfl
theorem qsl_X8_part : Cond.selects yX8_part.cls yX8_part yX8_part ∈ q_Ts := q_in 27 (by decide +kernel) rfl
theorem cs_X8_part : ∀ (idx : Nat) (info : QI), ms_X8_part idx = some info → q_Cs cX8_part 8 0 idx info := by
  intro idx info h
  unfold ms_X8_part at h
  cases h
theorem ok_X8_part : q_Ok yX8_part cX8_part 3 (some .int) 0 T_X8_part 0 0 := q_okOf (plainFor_of_name (by decide +kernel)) rfl (fun h => by cases h) cs_X8_part (fun _ _ _ _ h => h)
def ms_X8_formatIn : Nat → Option QI := fun i => none
def T_X8_formatIn : QTT := q_T cX8_formatIn 2 8 false (some .int) ms_X8_formatIn 0 0
set_option maxRecDepth 100000 in
theorem qw_X8_formatIn : q_Wd yX8_formatIn cX8_formatIn 2 (some .int) 1 := ⟨q_in 998 rfl rfl, q_in 72 (by decide +kernel) rfl, by decide +kernel, by decide +kernel, by decide +kernel, by decide⟩
theorem qst_X8_formatIn : Cond.instanceMethod yX8_formatIn ∈ q_Ts := q_in 997 (by decide +kernel) rfl
theorem qsl_X8_formatIn : Cond.selects yX8_formatIn.cls yX8_formatIn yX8_formatIn ∈ q_Ts := q_in 28 (by decide +kernel) rfl
theorem cs_X8_formatIn : ∀ (idx : Nat) (info : QI), ms_X8_formatIn idx = some info → q_Cs cX8_formatIn 8 0 idx info := by
  intro idx info h
  unfold ms_X8_formatIn at h
  cases h
theorem ok_X8_formatIn : q_Ok yX8_formatIn cX8_formatIn 2 (some .int) 0 T_X8_formatIn 0 0 := q_okOf (plainFor_of_name (by decide +kernel)) rfl (fun h => by cases h) cs_X8_formatIn (fun _ _ _ _ h => h)
theorem qlk_8_100 : Cond.methodLink (q_ow 8) 100 yX8_isFormat ∈ q_Ts := q_in 980 (by decide +kernel) rfl
theorem qlk_8_105 : Cond.methodLink (q_ow 8) 105 yX8_begins ∈ q_Ts := q_in 987 (by decide +kernel) rfl
theorem qlk_8_108 : Cond.methodLink (q_ow 8) 108 yX8_part ∈ q_Ts := q_in 991 (by decide +kernel) rfl
theorem qlk_8_112 : Cond.methodLink (q_ow 8) 112 yX8_formatIn ∈ q_Ts := q_in 995 (by decide +kernel) rfl
