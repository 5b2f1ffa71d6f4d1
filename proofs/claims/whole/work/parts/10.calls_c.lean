def ms_X8_setFormat : Nat → Option QI := fun i => if i = 100 then some (0, 1, 8, T_X8_isFormat, 0, 0) else if i = 53 then some (0, 3, 8, T_X8_in, 0, 0) else if i = 105 then some (1, 0, 8, T_X8_begins, 0, 0) else if i = 108 then some (1, 2, 8, T_X8_part, 0, 0) else if i = 112 then some (1, 1, 8, T_X8_formatIn, 0, 0) else none
theorem ms_X8_setFormat_100 : ms_X8_setFormat 100 = some (0, 1, 8, T_X8_isFormat, 0, 0) := rfl
theorem ms_X8_setFormat_53 : ms_X8_setFormat 53 = some (0, 3, 8, T_X8_in, 0, 0) := rfl
theorem ms_X8_setFormat_105 : ms_X8_setFormat 105 = some (1, 0, 8, T_X8_begins, 0, 0) := rfl
theorem ms_X8_setFormat_108 : ms_X8_setFormat 108 = some (1, 2, 8, T_X8_part, 0, 0) := rfl
theorem ms_X8_setFormat_112 : ms_X8_setFormat 112 = some (1, 1, 8, T_X8_formatIn, 0, 0) := rfl
def T_X8_setFormat : QTT := q_T cX8_setFormat 7 8 false (some .int) ms_X8_setFormat 0 0
set_option maxRecDepth 100000 in
theorem qw_X8_setFormat : q_Wd yX8_setFormat cX8_setFormat 7 (some .int) 4 := ⟨q_in 979 rfl rfl, q_in 72 (by decide +kernel) rfl, by decide +kernel, by decide +kernel, by decide +kernel, by decide⟩
theorem qst_X8_setFormat : Cond.instanceMethod yX8_setFormat ∈ q_Ts := q_in 977 (by decide +kernel) rfl
theorem qsl_X8_setFormat : Cond.selects yX8_setFormat.cls yX8_setFormat yX8_setFormat ∈ q_Ts := q_in 978 (by decide +kernel) rfl
theorem cs_X8_setFormat : ∀ (idx : Nat) (info : QI), ms_X8_setFormat idx = some info → q_Cs cX8_setFormat 8 2 idx info := by
  intro idx info h
  unfold ms_X8_setFormat at h
  by_cases h0 : idx = 100
  · subst h0; rw [if_pos rfl] at h; cases h; intro p l e R s m args below meth c Q D cy nL A hC hf hlo; exact q_r0 hC ok_X8_isFormat qw_X8_isFormat qlk_8_100 qst_X8_isFormat (by omega) (by omega)
  rw [if_neg h0] at h
  by_cases h1 : idx = 53
  · subst h1; rw [if_pos rfl] at h; cases h; intro p l e R s m args below meth c Q D cy nL A hC hf hlo; exact q_r0 hC ok_X8_in qw_X8_in qlk_8_53 qst_X8_in (by omega) (by omega)
  rw [if_neg h1] at h
  by_cases h2 : idx = 105
  · subst h2; rw [if_pos rfl] at h; cases h; intro p l e R s m args below meth c Q D cy nL A hC hf hlo; exact q_r1 hC ok_X8_begins qw_X8_begins qlk_8_105 ⟨qst_X8_begins, qsl_X8_begins⟩ ⟨rfl, rfl⟩ (by omega) (by omega)
  rw [if_neg h2] at h
  by_cases h3 : idx = 108
  · subst h3; rw [if_pos rfl] at h; cases h; intro p l e R s m args below meth c Q D cy nL A hC hf hlo; exact q_r1 hC ok_X8_part qw_X8_part qlk_8_108 ⟨qst_X8_part, qsl_X8_part⟩ ⟨rfl, rfl⟩ (by omega) (by omega)
  rw [if_neg h3] at h
  by_cases h4 : idx = 112
  · subst h4; rw [if_pos rfl] at h; cases h; intro p l e R s m args below meth c Q D cy nL A hC hf hlo; exact q_r1 hC ok_X8_formatIn qw_X8_formatIn qlk_8_112 ⟨qst_X8_formatIn, qsl_X8_formatIn⟩ ⟨rfl, rfl⟩ (by omega) (by omega)
  rw [if_neg h4] at h
  cases h
theorem ok_X8_setFormat : q_Ok yX8_setFormat cX8_setFormat 7 (some .int) 2 T_X8_setFormat 0 0 := q_okOf (plainFor_of_name (by decide +kernel)) rfl (fun h => by cases h) cs_X8_setFormat (fun _ _ _ _ h => h)
theorem qlk_8_116 : Cond.methodLink (q_ow 8) 116 yX8_isRegister ∈ q_Ts := q_in 1003 (by decide +kernel) rfl
def ms_X8_setRegister : Nat → Option QI := fun i => if i = 116 then some (0, 1, 8, T_X8_isRegister, 0, 0) else if i = 100 then some (0, 1, 8, T_X8_isFormat, 0, 0) else if i = 105 then some (1, 0, 8, T_X8_begins, 0, 0) else if i = 112 then some (1, 1, 8, T_X8_formatIn, 0, 0) else none
theorem ms_X8_setRegister_116 : ms_X8_setRegister 116 = some (0, 1, 8, T_X8_isRegister, 0, 0) := rfl
theorem ms_X8_setRegister_100 : ms_X8_setRegister 100 = some (0, 1, 8, T_X8_isFormat, 0, 0) := rfl
theorem ms_X8_setRegister_105 : ms_X8_setRegister 105 = some (1, 0, 8, T_X8_begins, 0, 0) := rfl
theorem ms_X8_setRegister_112 : ms_X8_setRegister 112 = some (1, 1, 8, T_X8_formatIn, 0, 0) := rfl
def T_X8_setRegister : QTT := q_T cX8_setRegister 4 8 false (some .int) ms_X8_setRegister 0 0
set_option maxRecDepth 100000 in
theorem qw_X8_setRegister : q_Wd yX8_setRegister cX8_setRegister 4 (some .int) 2 := ⟨q_in 1002 rfl rfl, q_in 72 (by decide +kernel) rfl, by decide +kernel, by decide +kernel, by decide +kernel, by decide⟩
theorem qst_X8_setRegister : Cond.instanceMethod yX8_setRegister ∈ q_Ts := q_in 1000 (by decide +kernel) rfl
theorem qsl_X8_setRegister : Cond.selects yX8_setRegister.cls yX8_setRegister yX8_setRegister ∈ q_Ts := q_in 1001 (by decide +kernel) rfl
theorem cs_X8_setRegister : ∀ (idx : Nat) (info : QI), ms_X8_setRegister idx = some info → q_Cs cX8_setRegister 8 2 idx info := by
  intro idx info h
  unfold ms_X8_setRegister at h
  by_cases h0 : idx = 116
  · subst h0; rw [if_pos rfl] at h; cases h; intro p l e R s m args below meth c Q D cy nL A hC hf hlo; exact q_r0 hC ok_X8_isRegister qw_X8_isRegister qlk_8_116 qst_X8_isRegister (by omega) (by omega)
  rw [if_neg h0] at h
  by_cases h1 : idx = 100
  · subst h1; rw [if_pos rfl] at h; cases h; intro p l e R s m args below meth c Q D cy nL A hC hf hlo; exact q_r0 hC ok_X8_isFormat qw_X8_isFormat qlk_8_100 qst_X8_isFormat (by omega) (by omega)
  rw [if_neg h1] at h
  by_cases h2 : idx = 105
  · subst h2; rw [if_pos rfl] at h; cases h; intro p l e R s m args below meth c Q D cy nL A hC hf hlo; exact q_r1 hC ok_X8_begins qw_X8_begins qlk_8_105 ⟨qst_X8_begins, qsl_X8_begins⟩ ⟨rfl, rfl⟩ (by omega) (by omega)
  rw [if_neg h2] at h
  by_cases h3 : idx = 112
  · subst h3; rw [if_pos rfl] at h; cases h; intro p l e R s m args below meth c Q D cy nL A hC hf hlo; exact q_r1 hC ok_X8_formatIn qw_X8_formatIn qlk_8_112 ⟨qst_X8_formatIn, qsl_X8_formatIn⟩ ⟨rfl, rfl⟩ (by omega) (by omega)
  rw [if_neg h3] at h
  cases h
theorem ok_X8_setRegister : q_Ok yX8_setRegister cX8_setRegister 4 (some .int) 2 T_X8_setRegister 0 0 := q_okOf (plainFor_of_name (by decide +kernel)) rfl (fun h => by cases h) cs_X8_setRegister (fun _ _ _ _ h => h)
theorem qlk_8_121 : Cond.methodLink (q_ow 8) 121 yX8_finds ∈ q_Ts := q_in 1012 (by decide +kernel) rfl
theorem qlk_8_125 : Cond.methodLink (q_ow 8) 125 yX8_picks ∈ q_Ts := q_in 1037 (by decide +kernel) rfl
def ms_X8_setValue : Nat → Option QI := fun i => if i = 116 then some (0, 1, 8, T_X8_isRegister, 0, 0) else if i = 53 then some (0, 3, 8, T_X8_in, 0, 0) else if i = 105 then some (1, 0, 8, T_X8_begins, 0, 0) else if i = 112 then some (1, 1, 8, T_X8_formatIn, 0, 0) else if i = 108 then some (1, 2, 8, T_X8_part, 0, 0) else if i = 121 then some (1, 5, 8, T_X8_finds, 0, 0) else if i = 125 then some (1, 5, 8, T_X8_picks, 0, 0) else none
theorem ms_X8_setValue_116 : ms_X8_setValue 116 = some (0, 1, 8, T_X8_isRegister, 0, 0) := rfl
theorem ms_X8_setValue_53 : ms_X8_setValue 53 = some (0, 3, 8, T_X8_in, 0, 0) := rfl
theorem ms_X8_setValue_105 : ms_X8_setValue 105 = some (1, 0, 8, T_X8_begins, 0, 0) := rfl
theorem ms_X8_setValue_112 : ms_X8_setValue 112 = some (1, 1, 8, T_X8_formatIn, 0, 0) := rfl
theorem ms_X8_setValue_108 : ms_X8_setValue 108 = some (1, 2, 8, T_X8_part, 0, 0) := rfl
theorem ms_X8_setValue_121 : ms_X8_setValue 121 = some (1, 5, 8, T_X8_finds, 0, 0) := rfl
theorem ms_X8_setValue_125 : ms_X8_setValue 125 = some (1, 5, 8, T_X8_picks, 0, 0) := rfl
def T_X8_setValue : QTT := q_T cX8_setValue 4 8 false (some .int) ms_X8_setValue 0 0
set_option maxRecDepth 100000 in
theorem qw_X8_setValue : q_Wd yX8_setValue cX8_setValue 4 (some .int) 2 := ⟨q_in 1009 rfl rfl, q_in 72 (by decide +kernel) rfl, by decide +kernel, by decide +kernel, by decide +kernel, by decide⟩
theorem qst_X8_setValue : Cond.instanceMethod yX8_setValue ∈ q_Ts := q_in 1007 (by decide +kernel) rfl
theorem qsl_X8_setValue : Cond.selects yX8_setValue.cls yX8_setValue yX8_setValue ∈ q_Ts := q_in 1008 (by decide +kernel) rfl
theorem cs_X8_setValue : ∀ (idx : Nat) (info : QI), ms_X8_setValue idx = some info → q_Cs cX8_setValue 8 6 idx info := by
  intro idx info h
  unfold ms_X8_setValue at h
  by_cases h0 : idx = 116
  · subst h0; rw [if_pos rfl] at h; cases h; intro p l e R s m args below meth c Q D cy nL A hC hf hlo; exact q_r0 hC ok_X8_isRegister qw_X8_isRegister qlk_8_116 qst_X8_isRegister (by omega) (by omega)
  rw [if_neg h0] at h
  by_cases h1 : idx = 53
  · subst h1; rw [if_pos rfl] at h; cases h; intro p l e R s m args below meth c Q D cy nL A hC hf hlo; exact q_r0 hC ok_X8_in qw_X8_in qlk_8_53 qst_X8_in (by omega) (by omega)
  rw [if_neg h1] at h
  by_cases h2 : idx = 105
  · subst h2; rw [if_pos rfl] at h; cases h; intro p l e R s m args below meth c Q D cy nL A hC hf hlo; exact q_r1 hC ok_X8_begins qw_X8_begins qlk_8_105 ⟨qst_X8_begins, qsl_X8_begins⟩ ⟨rfl, rfl⟩ (by omega) (by omega)
  rw [if_neg h2] at h
  by_cases h3 : idx = 112
  · subst h3; rw [if_pos rfl] at h; cases h; intro p l e R s m args below meth c Q D cy nL A hC hf hlo; exact q_r1 hC ok_X8_formatIn qw_X8_formatIn qlk_8_112 ⟨qst_X8_formatIn, qsl_X8_formatIn⟩ ⟨rfl, rfl⟩ (by omega) (by omega)
  rw [if_neg h3] at h
  by_cases h4 : idx = 108
  · subst h4; rw [if_pos rfl] at h; cases h; intro p l e R s m args below meth c Q D cy nL A hC hf hlo; exact q_r1 hC ok_X8_part qw_X8_part qlk_8_108 ⟨qst_X8_part, qsl_X8_part⟩ ⟨rfl, rfl⟩ (by omega) (by omega)
  rw [if_neg h4] at h
  by_cases h5 : idx = 121
  · subst h5; rw [if_pos rfl] at h; cases h; intro p l e R s m args below meth c Q D cy nL A hC hf hlo; exact q_r1 hC ok_X8_finds qw_X8_finds qlk_8_121 ⟨qst_X8_finds, qsl_X8_finds⟩ ⟨rfl, rfl⟩ (by omega) (by omega)
  rw [if_neg h5] at h
  by_cases h6 : idx = 125
  · subst h6; rw [if_pos rfl] at h; cases h; intro p l e R s m args below meth c Q D cy nL A hC hf hlo; exact q_r1 hC ok_X8_picks qw_X8_picks qlk_8_125 ⟨qst_X8_picks, qsl_X8_picks⟩ ⟨rfl, rfl⟩ (by omega) (by omega)
  rw [if_neg h6] at h
  cases h
theorem ok_X8_setValue : q_Ok yX8_setValue cX8_setValue 4 (some .int) 6 T_X8_setValue 0 0 := q_okOf (plainFor_of_name (by decide +kernel)) rfl (fun h => by cases h) cs_X8_setValue (fun _ _ _ _ h => h)
def ms_X8_sets : Nat → Option QI := fun i => if i = 105 then some (1, 0, 8, T_X8_begins, 0, 0) else none
theorem ms_X8_sets_105 : ms_X8_sets 105 = some (1, 0, 8, T_X8_begins, 0, 0) := rfl
def T_X8_sets : QTT := q_T cX8_sets 4 8 false (some .int) ms_X8_sets 0 0
set_option maxRecDepth 100000 in
theorem qw_X8_sets : q_Wd yX8_sets cX8_sets 4 (some .int) 2 := ⟨q_in 1053 rfl rfl, q_in 72 (by decide +kernel) rfl, by decide +kernel, by decide +kernel, by decide +kernel, by decide⟩
theorem qst_X8_sets : Cond.instanceMethod yX8_sets ∈ q_Ts := q_in 1052 (by decide +kernel) rfl
theorem qsl_X8_sets : Cond.selects yX8_sets.cls yX8_sets yX8_sets ∈ q_Ts := q_in 32 (by decide +kernel) rfl
theorem cs_X8_sets : ∀ (idx : Nat) (info : QI), ms_X8_sets idx = some info → q_Cs cX8_sets 8 1 idx info := by
  intro idx info h
  unfold ms_X8_sets at h
  by_cases h0 : idx = 105
  · subst h0; rw [if_pos rfl] at h; cases h; intro p l e R s m args below meth c Q D cy nL A hC hf hlo; exact q_r1 hC ok_X8_begins qw_X8_begins qlk_8_105 ⟨qst_X8_begins, qsl_X8_begins⟩ ⟨rfl, rfl⟩ (by omega) (by omega)
  rw [if_neg h0] at h
  cases h
theorem ok_X8_sets : q_Ok yX8_sets cX8_sets 4 (some .int) 1 T_X8_sets 0 0 := q_okOf (plainFor_of_name (by decide +kernel)) rfl (fun h => by cases h) cs_X8_sets (fun _ _ _ _ h => h)
theorem qlk_8_129 : Cond.methodLink (q_ow 8) 129 yX8_sets ∈ q_Ts := q_in 1050 (by decide +kernel) rfl
def ms_X8_setMode : Nat → Option QI := fun i => if i = 53 then some (0, 3, 8, T_X8_in, 0, 0) else if i = 129 then some (1, 2, 8, T_X8_sets, 0, 0) else none
theorem ms_X8_setMode_53 : ms_X8_setMode 53 = some (0, 3, 8, T_X8_in, 0, 0) := rfl
theorem ms_X8_setMode_129 : ms_X8_setMode 129 = some (1, 2, 8, T_X8_sets, 0, 0) := rfl
def T_X8_setMode : QTT := q_T cX8_setMode 2 8 false (some .int) ms_X8_setMode 0 0
set_option maxRecDepth 100000 in
theorem qw_X8_setMode : q_Wd yX8_setMode cX8_setMode 2 (some .int) 1 := ⟨q_in 1049 rfl rfl, q_in 72 (by decide +kernel) rfl, by decide +kernel, by decide +kernel, by decide +kernel, by decide⟩
theorem qst_X8_setMode : Cond.instanceMethod yX8_setMode ∈ q_Ts := q_in 1047 (by decide +kernel) rfl
theorem qsl_X8_setMode : Cond.selects yX8_setMode.cls yX8_setMode yX8_setMode ∈ q_Ts := q_in 1048 (by decide +kernel) rfl
theorem cs_X8_setMode : ∀ (idx : Nat) (info : QI), ms_X8_setMode idx = some info → q_Cs cX8_setMode 8 2 idx info := by
  intro idx info h
  unfold ms_X8_setMode at h
  by_cases h0 : idx = 53
  · subst h0; rw [if_pos rfl] at h; cases h; intro p l e R s m args below meth c Q D cy nL A hC hf hlo; exact q_r0 hC ok_X8_in qw_X8_in qlk_8_53 qst_X8_in (by omega) (by omega)
  rw [if_neg h0] at h
  by_cases h1 : idx = 129
  · subst h1; rw [if_pos rfl] at h; cases h; intro p l e R s m args below meth c Q D cy nL A hC hf hlo; exact q_r1 hC ok_X8_sets qw_X8_sets qlk_8_129 ⟨qst_X8_sets, qsl_X8_sets⟩ ⟨rfl, rfl⟩ (by omega) (by omega)
  rw [if_neg h1] at h
  cases h
theorem ok_X8_setMode : q_Ok yX8_setMode cX8_setMode 2 (some .int) 2 T_X8_setMode 0 0 := q_okOf (plainFor_of_name (by decide +kernel)) rfl (fun h => by cases h) cs_X8_setMode (fun _ _ _ _ h => h)
def ms_X8_setBits : Nat → Option QI := fun i => if i = 53 then some (0, 3, 8, T_X8_in, 0, 0) else if i = 129 then some (1, 2, 8, T_X8_sets, 0, 0) else none
theorem ms_X8_setBits_53 : ms_X8_setBits 53 = some (0, 3, 8, T_X8_in, 0, 0) := rfl
theorem ms_X8_setBits_129 : ms_X8_setBits 129 = some (1, 2, 8, T_X8_sets, 0, 0) := rfl
def T_X8_setBits : QTT := q_T cX8_setBits 2 8 false (some .int) ms_X8_setBits 0 0
set_option maxRecDepth 100000 in
theorem qw_X8_setBits : q_Wd yX8_setBits cX8_setBits 2 (some .int) 1 := ⟨q_in 1057 rfl rfl, q_in 72 (by decide +kernel) rfl, by decide +kernel, by decide +kernel, by decide +kernel, by decide⟩
theorem qst_X8_setBits : Cond.instanceMethod yX8_setBits ∈ q_Ts := q_in 1055 (by decide +kernel) rfl
theorem qsl_X8_setBits : Cond.selects yX8_setBits.cls yX8_setBits yX8_setBits ∈ q_Ts := q_in 1056 (by decide +kernel) rfl
theorem cs_X8_setBits : ∀ (idx : Nat) (info : QI), ms_X8_setBits idx = some info → q_Cs cX8_setBits 8 2 idx info := by
  intro idx info h
  unfold ms_X8_setBits at h
  by_cases h0 : idx = 53
  · subst h0; rw [if_pos rfl] at h; cases h; intro p l e R s m args below meth c Q D cy nL A hC hf hlo; exact q_r0 hC ok_X8_in qw_X8_in qlk_8_53 qst_X8_in (by omega) (by omega)
  rw [if_neg h0] at h
  by_cases h1 : idx = 129
  · subst h1; rw [if_pos rfl] at h; cases h; intro p l e R s m args below meth c Q D cy nL A hC hf hlo; exact q_r1 hC ok_X8_sets qw_X8_sets qlk_8_129 ⟨qst_X8_sets, qsl_X8_sets⟩ ⟨rfl, rfl⟩ (by omega) (by omega)
  rw [if_neg h1] at h
  cases h
theorem ok_X8_setBits : q_Ok yX8_setBits cX8_setBits 2 (some .int) 2 T_X8_setBits 0 0 := q_okOf (plainFor_of_name (by decide +kernel)) rfl (fun h => by cases h) cs_X8_setBits (fun _ _ _ _ h => h)
def ms_X8_setSeed : Nat → Option QI := fun i => if i = 129 then some (1, 2, 8, T_X8_sets, 0, 0) else none
theorem ms_X8_setSeed_129 : ms_X8_setSeed 129 = some (1, 2, 8, T_X8_sets, 0, 0) := rfl
def T_X8_setSeed : QTT := q_T cX8_setSeed 2 8 false (some .int) ms_X8_setSeed 0 0
set_option maxRecDepth 100000 in
theorem qw_X8_setSeed : q_Wd yX8_setSeed cX8_setSeed 2 (some .int) 1 := ⟨q_in 1061 rfl rfl, q_in 72 (by decide +kernel) rfl, by decide +kernel, by decide +kernel, by decide +kernel, by decide⟩
theorem qst_X8_setSeed : Cond.instanceMethod yX8_setSeed ∈ q_Ts := q_in 1059 (by decide +kernel) rfl
theorem qsl_X8_setSeed : Cond.selects yX8_setSeed.cls yX8_setSeed yX8_setSeed ∈ q_Ts := q_in 1060 (by decide +kernel) rfl
theorem cs_X8_setSeed : ∀ (idx : Nat) (info : QI), ms_X8_setSeed idx = some info → q_Cs cX8_setSeed 8 2 idx info := by
  intro idx info h
  unfold ms_X8_setSeed at h
  by_cases h0 : idx = 129
  · subst h0; rw [if_pos rfl] at h; cases h; intro p l e R s m args below meth c Q D cy nL A hC hf hlo; exact q_r1 hC ok_X8_sets qw_X8_sets qlk_8_129 ⟨qst_X8_sets, qsl_X8_sets⟩ ⟨rfl, rfl⟩ (by omega) (by omega)
  rw [if_neg h0] at h
  cases h
theorem ok_X8_setSeed : q_Ok yX8_setSeed cX8_setSeed 2 (some .int) 2 T_X8_setSeed 0 0 := q_okOf (plainFor_of_name (by decide +kernel)) rfl (fun h => by cases h) cs_X8_setSeed (fun _ _ _ _ h => h)
def ms_X8_value : Nat → Option QI := fun i => if i = 116 then some (0, 1, 8, T_X8_isRegister, 0, 0) else none
theorem ms_X8_value_116 : ms_X8_value 116 = some (0, 1, 8, T_X8_isRegister, 0, 0) := rfl
def T_X8_value : QTT := q_T cX8_value 2 8 false (some .int) ms_X8_value 0 0
set_option maxRecDepth 100000 in
theorem qw_X8_value : q_Wd yX8_value cX8_value 2 (some .int) 1 := ⟨q_in 1065 rfl rfl, q_in 72 (by decide +kernel) rfl, by decide +kernel, by decide +kernel, by decide +kernel, by decide⟩
theorem qst_X8_value : Cond.instanceMethod yX8_value ∈ q_Ts := q_in 1063 (by decide +kernel) rfl
theorem qsl_X8_value : Cond.selects yX8_value.cls yX8_value yX8_value ∈ q_Ts := q_in 1064 (by decide +kernel) rfl
theorem cs_X8_value : ∀ (idx : Nat) (info : QI), ms_X8_value idx = some info → q_Cs cX8_value 8 2 idx info := by
  intro idx info h
  unfold ms_X8_value at h
  by_cases h0 : idx = 116
  · subst h0; rw [if_pos rfl] at h; cases h; intro p l e R s m args below meth c Q D cy nL A hC hf hlo; exact q_r0 hC ok_X8_isRegister qw_X8_isRegister qlk_8_116 qst_X8_isRegister (by omega) (by omega)
  rw [if_neg h0] at h
  cases h
theorem ok_X8_value : q_Ok yX8_value cX8_value 2 (some .int) 2 T_X8_value 0 0 := q_okOf (plainFor_of_name (by decide +kernel)) rfl (fun h => by cases h) cs_X8_value (fun _ _ _ _ h => h)
def ms_X8_formatOf : Nat → Option QI := fun i => if i = 116 then some (0, 1, 8, T_X8_isRegister, 0, 0) else if i = 112 then some (1, 1, 8, T_X8_formatIn, 0, 0) else none
theorem ms_X8_formatOf_116 : ms_X8_formatOf 116 = some (0, 1, 8, T_X8_isRegister, 0, 0) := rfl
theorem ms_X8_formatOf_112 : ms_X8_formatOf 112 = some (1, 1, 8, T_X8_formatIn, 0, 0) := rfl
def T_X8_formatOf : QTT := q_T cX8_formatOf 2 8 false (some .int) ms_X8_formatOf 0 0
set_option maxRecDepth 100000 in
theorem qw_X8_formatOf : q_Wd yX8_formatOf cX8_formatOf 2 (some .int) 1 := ⟨q_in 1069 rfl rfl, q_in 72 (by decide +kernel) rfl, by decide +kernel, by decide +kernel, by decide +kernel, by decide⟩
theorem qst_X8_formatOf : Cond.instanceMethod yX8_formatOf ∈ q_Ts := q_in 1067 (by decide +kernel) rfl
theorem qsl_X8_formatOf : Cond.selects yX8_formatOf.cls yX8_formatOf yX8_formatOf ∈ q_Ts := q_in 1068 (by decide +kernel) rfl
theorem cs_X8_formatOf : ∀ (idx : Nat) (info : QI), ms_X8_formatOf idx = some info → q_Cs cX8_formatOf 8 2 idx info := by
  intro idx info h
  unfold ms_X8_formatOf at h
  by_cases h0 : idx = 116
  · subst h0; rw [if_pos rfl] at h; cases h; intro p l e R s m args below meth c Q D cy nL A hC hf hlo; exact q_r0 hC ok_X8_isRegister qw_X8_isRegister qlk_8_116 qst_X8_isRegister (by omega) (by omega)
  rw [if_neg h0] at h
  by_cases h1 : idx = 112
  · subst h1; rw [if_pos rfl] at h; cases h; intro p l e R s m args below meth c Q D cy nL A hC hf hlo; exact q_r1 hC ok_X8_formatIn qw_X8_formatIn qlk_8_112 ⟨qst_X8_formatIn, qsl_X8_formatIn⟩ ⟨rfl, rfl⟩ (by omega) (by omega)
  rw [if_neg h1] at h
  cases h
theorem ok_X8_formatOf : q_Ok yX8_formatOf cX8_formatOf 2 (some .int) 2 T_X8_formatOf 0 0 := q_okOf (plainFor_of_name (by decide +kernel)) rfl (fun h => by cases h) cs_X8_formatOf (fun _ _ _ _ h => h)
def ms_X8_takes : Nat → Option QI := fun i => none
def T_X8_takes : QTT := q_T cX8_takes 2 8 false none ms_X8_takes 0 0
set_option maxRecDepth 100000 in
theorem qw_X8_takes : q_Wd yX8_takes cX8_takes 2 none 0 := ⟨q_in 1078 rfl rfl, q_in 72 (by decide +kernel) rfl, by decide +kernel, by decide +kernel, by decide +kernel, by decide⟩
theorem qst_X8_takes : Cond.instanceMethod yX8_takes ∈ q_Ts := q_in 1077 (by decide +kernel) rfl
theorem qsl_X8_takes : Cond.selects yX8_takes.cls yX8_takes yX8_takes ∈ q_Ts := q_in 33 (by decide +kernel) rfl
theorem cs_X8_takes : ∀ (idx : Nat) (info : QI), ms_X8_takes idx = some info → q_Cs cX8_takes 8 0 idx info := by
  intro idx info h
  unfold ms_X8_takes at h
  cases h
theorem ok_X8_takes : q_Ok yX8_takes cX8_takes 2 none 0 T_X8_takes 0 0 := q_okOf (plainFor_of_name (by decide +kernel)) rfl (fun h => by cases h) cs_X8_takes (fun _ _ _ _ h => h)
def ms_X8_computes : Nat → Option QI := fun i => none
def T_X8_computes : QTT := q_T cX8_computes 9 8 false none ms_X8_computes 0 0
set_option maxRecDepth 100000 in
theorem qw_X8_computes : q_Wd yX8_computes cX8_computes 9 none 4 := ⟨q_in 1090 rfl rfl, q_in 72 (by decide +kernel) rfl, by decide +kernel, by decide +kernel, by decide +kernel, by decide⟩
theorem qst_X8_computes : Cond.instanceMethod yX8_computes ∈ q_Ts := q_in 1089 (by decide +kernel) rfl
theorem qsl_X8_computes : Cond.selects yX8_computes.cls yX8_computes yX8_computes ∈ q_Ts := q_in 36 (by decide +kernel) rfl
theorem cs_X8_computes : ∀ (idx : Nat) (info : QI), ms_X8_computes idx = some info → q_Cs cX8_computes 8 0 idx info := by
  intro idx info h
  unfold ms_X8_computes at h
  cases h
theorem ok_X8_computes : q_Ok yX8_computes cX8_computes 9 none 0 T_X8_computes 0 0 := q_okOf (plainFor_of_name (by decide +kernel)) rfl (fun h => by cases h) cs_X8_computes (fun _ _ _ _ h => h)
theorem qlk_8_149 : Cond.methodLink (q_ow 8) 149 yX8_computes ∈ q_Ts := q_in 1087 (by decide +kernel) rfl
theorem qlk_8_153 : Cond.methodLink (q_ow 8) 153 yX8_drawn ∈ q_Ts := q_in 1092 (by decide +kernel) rfl
def ms_X8_works : Nat → Option QI := fun i => if i = 112 then some (1, 1, 8, T_X8_formatIn, 0, 0) else if i = 149 then some (1, 4, 8, T_X8_computes, 0, 0) else if i = 108 then some (1, 2, 8, T_X8_part, 0, 0) else if i = 121 then some (1, 5, 8, T_X8_finds, 0, 0) else if i = 153 then some (0, 3, 8, T_X8_drawn, 0, 0) else if i = 125 then some (1, 5, 8, T_X8_picks, 0, 0) else none
theorem ms_X8_works_112 : ms_X8_works 112 = some (1, 1, 8, T_X8_formatIn, 0, 0) := rfl
theorem ms_X8_works_149 : ms_X8_works 149 = some (1, 4, 8, T_X8_computes, 0, 0) := rfl
theorem ms_X8_works_108 : ms_X8_works 108 = some (1, 2, 8, T_X8_part, 0, 0) := rfl
theorem ms_X8_works_121 : ms_X8_works 121 = some (1, 5, 8, T_X8_finds, 0, 0) := rfl
theorem ms_X8_works_153 : ms_X8_works 153 = some (0, 3, 8, T_X8_drawn, 0, 0) := rfl
theorem ms_X8_works_125 : ms_X8_works 125 = some (1, 5, 8, T_X8_picks, 0, 0) := rfl
def T_X8_works : QTT := q_T cX8_works 8 8 false (some .long) ms_X8_works 0 0
set_option maxRecDepth 100000 in
theorem qw_X8_works : q_Wd yX8_works cX8_works 8 (some .long) 4 := ⟨q_in 1086 rfl rfl, q_in 72 (by decide +kernel) rfl, by decide +kernel, by decide +kernel, by decide +kernel, by decide⟩
theorem qst_X8_works : Cond.instanceMethod yX8_works ∈ q_Ts := q_in 1085 (by decide +kernel) rfl
theorem qsl_X8_works : Cond.selects yX8_works.cls yX8_works yX8_works ∈ q_Ts := q_in 35 (by decide +kernel) rfl
theorem cs_X8_works : ∀ (idx : Nat) (info : QI), ms_X8_works idx = some info → q_Cs cX8_works 8 6 idx info := by
  intro idx info h
  unfold ms_X8_works at h
  by_cases h0 : idx = 112
  · subst h0; rw [if_pos rfl] at h; cases h; intro p l e R s m args below meth c Q D cy nL A hC hf hlo; exact q_r1 hC ok_X8_formatIn qw_X8_formatIn qlk_8_112 ⟨qst_X8_formatIn, qsl_X8_formatIn⟩ ⟨rfl, rfl⟩ (by omega) (by omega)
  rw [if_neg h0] at h
  by_cases h1 : idx = 149
  · subst h1; rw [if_pos rfl] at h; cases h; intro p l e R s m args below meth c Q D cy nL A hC hf hlo; exact q_r1 hC ok_X8_computes qw_X8_computes qlk_8_149 ⟨qst_X8_computes, qsl_X8_computes⟩ ⟨rfl, rfl⟩ (by omega) (by omega)
  rw [if_neg h1] at h
  by_cases h2 : idx = 108
  · subst h2; rw [if_pos rfl] at h; cases h; intro p l e R s m args below meth c Q D cy nL A hC hf hlo; exact q_r1 hC ok_X8_part qw_X8_part qlk_8_108 ⟨qst_X8_part, qsl_X8_part⟩ ⟨rfl, rfl⟩ (by omega) (by omega)
  rw [if_neg h2] at h
  by_cases h3 : idx = 121
  · subst h3; rw [if_pos rfl] at h; cases h; intro p l e R s m args below meth c Q D cy nL A hC hf hlo; exact q_r1 hC ok_X8_finds qw_X8_finds qlk_8_121 ⟨qst_X8_finds, qsl_X8_finds⟩ ⟨rfl, rfl⟩ (by omega) (by omega)
  rw [if_neg h3] at h
  by_cases h4 : idx = 153
  · subst h4; rw [if_pos rfl] at h; cases h; intro p l e R s m args below meth c Q D cy nL A hC hf hlo; exact q_r0 hC ok_X8_drawn qw_X8_drawn qlk_8_153 qst_X8_drawn (by omega) (by omega)
  rw [if_neg h4] at h
  by_cases h5 : idx = 125
  · subst h5; rw [if_pos rfl] at h; cases h; intro p l e R s m args below meth c Q D cy nL A hC hf hlo; exact q_r1 hC ok_X8_picks qw_X8_picks qlk_8_125 ⟨qst_X8_picks, qsl_X8_picks⟩ ⟨rfl, rfl⟩ (by omega) (by omega)
  rw [if_neg h5] at h
  cases h
theorem ok_X8_works : q_Ok yX8_works cX8_works 8 (some .long) 6 T_X8_works 0 0 := q_okOf (plainFor_of_name (by decide +kernel)) rfl (fun h => by cases h) cs_X8_works (fun _ _ _ _ h => h)
def ms_X8_divisor : Nat → Option QI := fun i => none
def T_X8_divisor : QTT := q_T cX8_divisor 10 8 false (some .long) ms_X8_divisor 0 0
set_option maxRecDepth 100000 in
theorem qw_X8_divisor : q_Wd yX8_divisor cX8_divisor 10 (some .long) 2 := ⟨q_in 1112 rfl rfl, q_in 72 (by decide +kernel) rfl, by decide +kernel, by decide +kernel, by decide +kernel, by decide⟩
theorem qst_X8_divisor : Cond.static yX8_divisor ∈ q_Ts := q_in 1111 (by decide +kernel) rfl
theorem cs_X8_divisor : ∀ (idx : Nat) (info : QI), ms_X8_divisor idx = some info → q_Cs cX8_divisor 8 0 idx info := by
  intro idx info h
  unfold ms_X8_divisor at h
  cases h
theorem ok_X8_divisor : q_Ok yX8_divisor cX8_divisor 10 (some .long) 0 T_X8_divisor 0 0 := q_okOf (plainFor_of_name (by decide +kernel)) rfl (fun h => by cases h) cs_X8_divisor (fun _ _ _ _ h => h)
def ms_X8_at : Nat → Option QI := fun i => none
def T_X8_at : QTT := q_T cX8_at 2 8 false (some .int) ms_X8_at 0 0
set_option maxRecDepth 100000 in
theorem qw_X8_at : q_Wd yX8_at cX8_at 2 (some .int) 1 := ⟨q_in 1109 rfl rfl, q_in 72 (by decide +kernel) rfl, by decide +kernel, by decide +kernel, by decide +kernel, by decide⟩
theorem qst_X8_at : Cond.instanceMethod yX8_at ∈ q_Ts := q_in 1108 (by decide +kernel) rfl
theorem qsl_X8_at : Cond.selects yX8_at.cls yX8_at yX8_at ∈ q_Ts := q_in 39 (by decide +kernel) rfl
theorem cs_X8_at : ∀ (idx : Nat) (info : QI), ms_X8_at idx = some info → q_Cs cX8_at 8 0 idx info := by
  intro idx info h
  unfold ms_X8_at at h
  cases h
theorem ok_X8_at : q_Ok yX8_at cX8_at 2 (some .int) 0 T_X8_at 0 0 := q_okOf (plainFor_of_name (by decide +kernel)) rfl (fun h => by cases h) cs_X8_at (fun _ _ _ _ h => h)
def ms_X8_dropsOldest : Nat → Option QI := fun i => none
def T_X8_dropsOldest : QTT := q_T cX8_dropsOldest 2 8 false none ms_X8_dropsOldest 0 0
set_option maxRecDepth 100000 in
theorem qw_X8_dropsOldest : q_Wd yX8_dropsOldest cX8_dropsOldest 2 none 0 := ⟨q_in 1105 rfl rfl, q_in 72 (by decide +kernel) rfl, by decide +kernel, by decide +kernel, by decide +kernel, by decide⟩
theorem qst_X8_dropsOldest : Cond.instanceMethod yX8_dropsOldest ∈ q_Ts := q_in 1104 (by decide +kernel) rfl
theorem qsl_X8_dropsOldest : Cond.selects yX8_dropsOldest.cls yX8_dropsOldest yX8_dropsOldest ∈ q_Ts := q_in 38 (by decide +kernel) rfl
theorem cs_X8_dropsOldest : ∀ (idx : Nat) (info : QI), ms_X8_dropsOldest idx = some info → q_Cs cX8_dropsOldest 8 0 idx info := by
  intro idx info h
  unfold ms_X8_dropsOldest at h
  cases h
theorem ok_X8_dropsOldest : q_Ok yX8_dropsOldest cX8_dropsOldest 2 none 0 T_X8_dropsOldest 0 0 := q_okOf (plainFor_of_name (by decide +kernel)) rfl (fun h => by cases h) cs_X8_dropsOldest (fun _ _ _ _ h => h)
def ms_X8_upsAt : Nat → Option QI := fun i => if i = 86 then some (0, 2, 8, T_X8_floor, 0, 0) else none
theorem ms_X8_upsAt_86 : ms_X8_upsAt 86 = some (0, 2, 8, T_X8_floor, 0, 0) := rfl
def T_X8_upsAt : QTT := q_T cX8_upsAt 8 8 false (some .long) ms_X8_upsAt 0 0
set_option maxRecDepth 100000 in
theorem qw_X8_upsAt : q_Wd yX8_upsAt cX8_upsAt 8 (some .long) 1 := ⟨q_in 1120 rfl rfl, q_in 72 (by decide +kernel) rfl, by decide +kernel, by decide +kernel, by decide +kernel, by decide⟩
theorem qst_X8_upsAt : Cond.instanceMethod yX8_upsAt ∈ q_Ts := q_in 1119 (by decide +kernel) rfl
theorem qsl_X8_upsAt : Cond.selects yX8_upsAt.cls yX8_upsAt yX8_upsAt ∈ q_Ts := q_in 41 (by decide +kernel) rfl
theorem cs_X8_upsAt : ∀ (idx : Nat) (info : QI), ms_X8_upsAt idx = some info → q_Cs cX8_upsAt 8 1 idx info := by
  intro idx info h
  unfold ms_X8_upsAt at h
  by_cases h0 : idx = 86
  · subst h0; rw [if_pos rfl] at h; cases h; intro p l e R s m args below meth c Q D cy nL A hC hf hlo; exact q_r0 hC ok_X8_floor qw_X8_floor qlk_8_86 qst_X8_floor (by omega) (by omega)
  rw [if_neg h0] at h
  cases h
theorem ok_X8_upsAt : q_Ok yX8_upsAt cX8_upsAt 8 (some .long) 1 T_X8_upsAt 0 0 := q_okOf (plainFor_of_name (by decide +kernel)) rfl (fun h => by cases h) cs_X8_upsAt (fun _ _ _ _ h => h)
theorem qlk_8_269 : Cond.methodLink (q_ow 8) 269 yX8_upsAt ∈ q_Ts := q_in 1117 (by decide +kernel) rfl
def ms_X8_meanAt : Nat → Option QI := fun i => if i = 269 then some (1, 1, 8, T_X8_upsAt, 0, 0) else none
theorem ms_X8_meanAt_269 : ms_X8_meanAt 269 = some (1, 1, 8, T_X8_upsAt, 0, 0) := rfl
def T_X8_meanAt : QTT := q_T cX8_meanAt 6 8 false (some .long) ms_X8_meanAt 0 0
set_option maxRecDepth 100000 in
theorem qw_X8_meanAt : q_Wd yX8_meanAt cX8_meanAt 6 (some .long) 1 := ⟨q_in 1116 rfl rfl, q_in 72 (by decide +kernel) rfl, by decide +kernel, by decide +kernel, by decide +kernel, by decide⟩
theorem qst_X8_meanAt : Cond.instanceMethod yX8_meanAt ∈ q_Ts := q_in 1115 (by decide +kernel) rfl
theorem qsl_X8_meanAt : Cond.selects yX8_meanAt.cls yX8_meanAt yX8_meanAt ∈ q_Ts := q_in 40 (by decide +kernel) rfl
theorem cs_X8_meanAt : ∀ (idx : Nat) (info : QI), ms_X8_meanAt idx = some info → q_Cs cX8_meanAt 8 2 idx info := by
  intro idx info h
  unfold ms_X8_meanAt at h
  by_cases h0 : idx = 269
  · subst h0; rw [if_pos rfl] at h; cases h; intro p l e R s m args below meth c Q D cy nL A hC hf hlo; exact q_r1 hC ok_X8_upsAt qw_X8_upsAt qlk_8_269 ⟨qst_X8_upsAt, qsl_X8_upsAt⟩ ⟨rfl, rfl⟩ (by omega) (by omega)
  rw [if_neg h0] at h
  cases h
theorem ok_X8_meanAt : q_Ok yX8_meanAt cX8_meanAt 6 (some .long) 2 T_X8_meanAt 0 0 := q_okOf (plainFor_of_name (by decide +kernel)) rfl (fun h => by cases h) cs_X8_meanAt (fun _ _ _ _ h => h)
def ms_X8_varianceAt : Nat → Option QI := fun i => if i = 269 then some (1, 1, 8, T_X8_upsAt, 0, 0) else none
theorem ms_X8_varianceAt_269 : ms_X8_varianceAt 269 = some (1, 1, 8, T_X8_upsAt, 0, 0) := rfl
def T_X8_varianceAt : QTT := q_T cX8_varianceAt 7 8 false (some .long) ms_X8_varianceAt 0 0
set_option maxRecDepth 100000 in
theorem qw_X8_varianceAt : q_Wd yX8_varianceAt cX8_varianceAt 7 (some .long) 1 := ⟨q_in 1125 rfl rfl, q_in 72 (by decide +kernel) rfl, by decide +kernel, by decide +kernel, by decide +kernel, by decide⟩
theorem qst_X8_varianceAt : Cond.instanceMethod yX8_varianceAt ∈ q_Ts := q_in 1124 (by decide +kernel) rfl
theorem qsl_X8_varianceAt : Cond.selects yX8_varianceAt.cls yX8_varianceAt yX8_varianceAt ∈ q_Ts := q_in 42 (by decide +kernel) rfl
theorem cs_X8_varianceAt : ∀ (idx : Nat) (info : QI), ms_X8_varianceAt idx = some info → q_Cs cX8_varianceAt 8 2 idx info := by
  intro idx info h
  unfold ms_X8_varianceAt at h
  by_cases h0 : idx = 269
  · subst h0; rw [if_pos rfl] at h; cases h; intro p l e R s m args below meth c Q D cy nL A hC hf hlo; exact q_r1 hC ok_X8_upsAt qw_X8_upsAt qlk_8_269 ⟨qst_X8_upsAt, qsl_X8_upsAt⟩ ⟨rfl, rfl⟩ (by omega) (by omega)
  rw [if_neg h0] at h
  cases h
theorem ok_X8_varianceAt : q_Ok yX8_varianceAt cX8_varianceAt 7 (some .long) 2 T_X8_varianceAt 0 0 := q_okOf (plainFor_of_name (by decide +kernel)) rfl (fun h => by cases h) cs_X8_varianceAt (fun _ _ _ _ h => h)
theorem qlk_8_162 : Cond.methodLink (q_ow 8) 162 yX8_dropsOldest ∈ q_Ts := q_in 1102 (by decide +kernel) rfl
theorem qlk_8_165 : Cond.methodLink (q_ow 8) 165 yX8_at ∈ q_Ts := q_in 1106 (by decide +kernel) rfl
theorem qlk_8_168 : Cond.methodLink (q_ow 8) 168 yX8_divisor ∈ q_Ts := q_in 1110 (by decide +kernel) rfl
theorem qlk_8_171 : Cond.methodLink (q_ow 8) 171 yX8_meanAt ∈ q_Ts := q_in 1113 (by decide +kernel) rfl
theorem qlk_8_175 : Cond.methodLink (q_ow 8) 175 yX8_varianceAt ∈ q_Ts := q_in 1122 (by decide +kernel) rfl
def ms_X8_books : Nat → Option QI := fun i => if i = 162 then some (1, 0, 8, T_X8_dropsOldest, 0, 0) else if i = 165 then some (1, 1, 8, T_X8_at, 0, 0) else if i = 168 then some (0, 2, 8, T_X8_divisor, 0, 0) else if i = 112 then some (1, 1, 8, T_X8_formatIn, 0, 0) else if i = 108 then some (1, 2, 8, T_X8_part, 0, 0) else if i = 171 then some (1, 1, 8, T_X8_meanAt, 0, 0) else if i = 175 then some (1, 1, 8, T_X8_varianceAt, 0, 0) else none
theorem ms_X8_books_162 : ms_X8_books 162 = some (1, 0, 8, T_X8_dropsOldest, 0, 0) := rfl
theorem ms_X8_books_165 : ms_X8_books 165 = some (1, 1, 8, T_X8_at, 0, 0) := rfl
theorem ms_X8_books_168 : ms_X8_books 168 = some (0, 2, 8, T_X8_divisor, 0, 0) := rfl
theorem ms_X8_books_112 : ms_X8_books 112 = some (1, 1, 8, T_X8_formatIn, 0, 0) := rfl
theorem ms_X8_books_108 : ms_X8_books 108 = some (1, 2, 8, T_X8_part, 0, 0) := rfl
theorem ms_X8_books_171 : ms_X8_books 171 = some (1, 1, 8, T_X8_meanAt, 0, 0) := rfl
theorem ms_X8_books_175 : ms_X8_books 175 = some (1, 1, 8, T_X8_varianceAt, 0, 0) := rfl
def T_X8_books : QTT := q_T cX8_books 12 8 false none ms_X8_books 0 0
set_option maxRecDepth 100000 in
theorem qw_X8_books : q_Wd yX8_books cX8_books 12 none 5 := ⟨q_in 1100 rfl rfl, q_in 72 (by decide +kernel) rfl, by decide +kernel, by decide +kernel, by decide +kernel, by decide⟩
theorem qst_X8_books : Cond.instanceMethod yX8_books ∈ q_Ts := q_in 1099 (by decide +kernel) rfl
theorem qsl_X8_books : Cond.selects yX8_books.cls yX8_books yX8_books ∈ q_Ts := q_in 37 (by decide +kernel) rfl
theorem cs_X8_books : ∀ (idx : Nat) (info : QI), ms_X8_books idx = some info → q_Cs cX8_books 8 3 idx info := by
  intro idx info h
  unfold ms_X8_books at h
  by_cases h0 : idx = 162
  · subst h0; rw [if_pos rfl] at h; cases h; intro p l e R s m args below meth c Q D cy nL A hC hf hlo; exact q_r1 hC ok_X8_dropsOldest qw_X8_dropsOldest qlk_8_162 ⟨qst_X8_dropsOldest, qsl_X8_dropsOldest⟩ ⟨rfl, rfl⟩ (by omega) (by omega)
  rw [if_neg h0] at h
  by_cases h1 : idx = 165
  · subst h1; rw [if_pos rfl] at h; cases h; intro p l e R s m args below meth c Q D cy nL A hC hf hlo; exact q_r1 hC ok_X8_at qw_X8_at qlk_8_165 ⟨qst_X8_at, qsl_X8_at⟩ ⟨rfl, rfl⟩ (by omega) (by omega)
  rw [if_neg h1] at h
  by_cases h2 : idx = 168
  · subst h2; rw [if_pos rfl] at h; cases h; intro p l e R s m args below meth c Q D cy nL A hC hf hlo; exact q_r0 hC ok_X8_divisor qw_X8_divisor qlk_8_168 qst_X8_divisor (by omega) (by omega)
  rw [if_neg h2] at h
  by_cases h3 : idx = 112
  · subst h3; rw [if_pos rfl] at h; cases h; intro p l e R s m args below meth c Q D cy nL A hC hf hlo; exact q_r1 hC ok_X8_formatIn qw_X8_formatIn qlk_8_112 ⟨qst_X8_formatIn, qsl_X8_formatIn⟩ ⟨rfl, rfl⟩ (by omega) (by omega)
  rw [if_neg h3] at h
  by_cases h4 : idx = 108
  · subst h4; rw [if_pos rfl] at h; cases h; intro p l e R s m args below meth c Q D cy nL A hC hf hlo; exact q_r1 hC ok_X8_part qw_X8_part qlk_8_108 ⟨qst_X8_part, qsl_X8_part⟩ ⟨rfl, rfl⟩ (by omega) (by omega)
  rw [if_neg h4] at h
  by_cases h5 : idx = 171
  · subst h5; rw [if_pos rfl] at h; cases h; intro p l e R s m args below meth c Q D cy nL A hC hf hlo; exact q_r1 hC ok_X8_meanAt qw_X8_meanAt qlk_8_171 ⟨qst_X8_meanAt, qsl_X8_meanAt⟩ ⟨rfl, rfl⟩ (by omega) (by omega)
  rw [if_neg h5] at h
  by_cases h6 : idx = 175
  · subst h6; rw [if_pos rfl] at h; cases h; intro p l e R s m args below meth c Q D cy nL A hC hf hlo; exact q_r1 hC ok_X8_varianceAt qw_X8_varianceAt qlk_8_175 ⟨qst_X8_varianceAt, qsl_X8_varianceAt⟩ ⟨rfl, rfl⟩ (by omega) (by omega)
  rw [if_neg h6] at h
  cases h
theorem ok_X8_books : q_Ok yX8_books cX8_books 12 none 3 T_X8_books 0 0 := q_okOf (plainFor_of_name (by decide +kernel)) rfl (fun h => by cases h) cs_X8_books (fun _ _ _ _ h => h)
theorem qlk_8_178 : Cond.methodLink (q_ow 8) 178 yX8_works ∈ q_Ts := q_in 1083 (by decide +kernel) rfl
theorem qlk_8_182 : Cond.methodLink (q_ow 8) 182 yX8_books ∈ q_Ts := q_in 1097 (by decide +kernel) rfl
def ms_X8_does : Nat → Option QI := fun i => if i = 178 then some (1, 4, 8, T_X8_works, 0, 0) else if i = 182 then some (1, 5, 8, T_X8_books, 0, 0) else none
theorem ms_X8_does_178 : ms_X8_does 178 = some (1, 4, 8, T_X8_works, 0, 0) := rfl
theorem ms_X8_does_182 : ms_X8_does 182 = some (1, 5, 8, T_X8_books, 0, 0) := rfl
def T_X8_does : QTT := q_T cX8_does 7 8 false (some .long) ms_X8_does 0 0
set_option maxRecDepth 100000 in
theorem qw_X8_does : q_Wd yX8_does cX8_does 7 (some .long) 4 := ⟨q_in 1082 rfl rfl, q_in 72 (by decide +kernel) rfl, by decide +kernel, by decide +kernel, by decide +kernel, by decide⟩
theorem qst_X8_does : Cond.instanceMethod yX8_does ∈ q_Ts := q_in 1081 (by decide +kernel) rfl
theorem qsl_X8_does : Cond.selects yX8_does.cls yX8_does yX8_does ∈ q_Ts := q_in 34 (by decide +kernel) rfl
theorem cs_X8_does : ∀ (idx : Nat) (info : QI), ms_X8_does idx = some info → q_Cs cX8_does 8 7 idx info := by
  intro idx info h
  unfold ms_X8_does at h
  by_cases h0 : idx = 178
  · subst h0; rw [if_pos rfl] at h; cases h; intro p l e R s m args below meth c Q D cy nL A hC hf hlo; exact q_r1 hC ok_X8_works qw_X8_works qlk_8_178 ⟨qst_X8_works, qsl_X8_works⟩ ⟨rfl, rfl⟩ (by omega) (by omega)
  rw [if_neg h0] at h
  by_cases h1 : idx = 182
  · subst h1; rw [if_pos rfl] at h; cases h; intro p l e R s m args below meth c Q D cy nL A hC hf hlo; exact q_r1 hC ok_X8_books qw_X8_books qlk_8_182 ⟨qst_X8_books, qsl_X8_books⟩ ⟨rfl, rfl⟩ (by omega) (by omega)
  rw [if_neg h1] at h
  cases h
theorem ok_X8_does : q_Ok yX8_does cX8_does 7 (some .long) 7 T_X8_does 0 0 := q_okOf (plainFor_of_name (by decide +kernel)) rfl (fun h => by cases h) cs_X8_does (fun _ _ _ _ h => h)
theorem qlk_8_187 : Cond.methodLink (q_ow 8) 187 yX8_takes ∈ q_Ts := q_in 1075 (by decide +kernel) rfl
theorem qlk_8_190 : Cond.methodLink (q_ow 8) 190 yX8_does ∈ q_Ts := q_in 1079 (by decide +kernel) rfl
def ms_X8_operate : Nat → Option QI := fun i => if i = 53 then some (0, 3, 8, T_X8_in, 0, 0) else if i = 116 then some (0, 1, 8, T_X8_isRegister, 0, 0) else if i = 105 then some (1, 0, 8, T_X8_begins, 0, 0) else if i = 187 then some (1, 0, 8, T_X8_takes, 0, 0) else if i = 190 then some (1, 4, 8, T_X8_does, 0, 0) else none
theorem ms_X8_operate_53 : ms_X8_operate 53 = some (0, 3, 8, T_X8_in, 0, 0) := rfl
theorem ms_X8_operate_116 : ms_X8_operate 116 = some (0, 1, 8, T_X8_isRegister, 0, 0) := rfl
theorem ms_X8_operate_105 : ms_X8_operate 105 = some (1, 0, 8, T_X8_begins, 0, 0) := rfl
theorem ms_X8_operate_187 : ms_X8_operate 187 = some (1, 0, 8, T_X8_takes, 0, 0) := rfl
theorem ms_X8_operate_190 : ms_X8_operate 190 = some (1, 4, 8, T_X8_does, 0, 0) := rfl
def T_X8_operate : QTT := q_T cX8_operate 5 8 false (some .int) ms_X8_operate 0 0
set_option maxRecDepth 100000 in
theorem qw_X8_operate : q_Wd yX8_operate cX8_operate 5 (some .int) 4 := ⟨q_in 1073 rfl rfl, q_in 72 (by decide +kernel) rfl, by decide +kernel, by decide +kernel, by decide +kernel, by decide⟩
theorem qst_X8_operate : Cond.instanceMethod yX8_operate ∈ q_Ts := q_in 1071 (by decide +kernel) rfl
theorem qsl_X8_operate : Cond.selects yX8_operate.cls yX8_operate yX8_operate ∈ q_Ts := q_in 1072 (by decide +kernel) rfl
theorem cs_X8_operate : ∀ (idx : Nat) (info : QI), ms_X8_operate idx = some info → q_Cs cX8_operate 8 8 idx info := by
  intro idx info h
  unfold ms_X8_operate at h
  by_cases h0 : idx = 53
  · subst h0; rw [if_pos rfl] at h; cases h; intro p l e R s m args below meth c Q D cy nL A hC hf hlo; exact q_r0 hC ok_X8_in qw_X8_in qlk_8_53 qst_X8_in (by omega) (by omega)
  rw [if_neg h0] at h
  by_cases h1 : idx = 116
  · subst h1; rw [if_pos rfl] at h; cases h; intro p l e R s m args below meth c Q D cy nL A hC hf hlo; exact q_r0 hC ok_X8_isRegister qw_X8_isRegister qlk_8_116 qst_X8_isRegister (by omega) (by omega)
  rw [if_neg h1] at h
  by_cases h2 : idx = 105
  · subst h2; rw [if_pos rfl] at h; cases h; intro p l e R s m args below meth c Q D cy nL A hC hf hlo; exact q_r1 hC ok_X8_begins qw_X8_begins qlk_8_105 ⟨qst_X8_begins, qsl_X8_begins⟩ ⟨rfl, rfl⟩ (by omega) (by omega)
  rw [if_neg h2] at h
  by_cases h3 : idx = 187
  · subst h3; rw [if_pos rfl] at h; cases h; intro p l e R s m args below meth c Q D cy nL A hC hf hlo; exact q_r1 hC ok_X8_takes qw_X8_takes qlk_8_187 ⟨qst_X8_takes, qsl_X8_takes⟩ ⟨rfl, rfl⟩ (by omega) (by omega)
  rw [if_neg h3] at h
  by_cases h4 : idx = 190
  · subst h4; rw [if_pos rfl] at h; cases h; intro p l e R s m args below meth c Q D cy nL A hC hf hlo; exact q_r1 hC ok_X8_does qw_X8_does qlk_8_190 ⟨qst_X8_does, qsl_X8_does⟩ ⟨rfl, rfl⟩ (by omega) (by omega)
  rw [if_neg h4] at h
  cases h
theorem ok_X8_operate : q_Ok yX8_operate cX8_operate 5 (some .int) 8 T_X8_operate 0 0 := q_okOf (plainFor_of_name (by decide +kernel)) rfl (fun h => by cases h) cs_X8_operate (fun _ _ _ _ h => h)
def ms_X8_type : Nat → Option QI := fun i => if i = 53 then some (0, 3, 8, T_X8_in, 0, 0) else none
theorem ms_X8_type_53 : ms_X8_type 53 = some (0, 3, 8, T_X8_in, 0, 0) := rfl
def T_X8_type : QTT := q_T cX8_type 2 8 false (some .int) ms_X8_type 0 0
set_option maxRecDepth 100000 in
theorem qw_X8_type : q_Wd yX8_type cX8_type 2 (some .int) 1 := ⟨q_in 1129 rfl rfl, q_in 72 (by decide +kernel) rfl, by decide +kernel, by decide +kernel, by decide +kernel, by decide⟩
theorem qst_X8_type : Cond.instanceMethod yX8_type ∈ q_Ts := q_in 1127 (by decide +kernel) rfl
theorem qsl_X8_type : Cond.selects yX8_type.cls yX8_type yX8_type ∈ q_Ts := q_in 1128 (by decide +kernel) rfl
theorem cs_X8_type : ∀ (idx : Nat) (info : QI), ms_X8_type idx = some info → q_Cs cX8_type 8 1 idx info := by
  intro idx info h
  unfold ms_X8_type at h
  by_cases h0 : idx = 53
  · subst h0; rw [if_pos rfl] at h; cases h; intro p l e R s m args below meth c Q D cy nL A hC hf hlo; exact q_r0 hC ok_X8_in qw_X8_in qlk_8_53 qst_X8_in (by omega) (by omega)
  rw [if_neg h0] at h
  cases h
theorem ok_X8_type : q_Ok yX8_type cX8_type 2 (some .int) 1 T_X8_type 0 0 := q_okOf (plainFor_of_name (by decide +kernel)) rfl (fun h => by cases h) cs_X8_type (fun _ _ _ _ h => h)
def ms_X8_clear : Nat → Option QI := fun i => none
def T_X8_clear : QTT := q_T cX8_clear 2 8 false (some .int) ms_X8_clear 0 0
set_option maxRecDepth 100000 in
theorem qw_X8_clear : q_Wd yX8_clear cX8_clear 2 (some .int) 0 := ⟨q_in 1134 rfl rfl, q_in 72 (by decide +kernel) rfl, by decide +kernel, by decide +kernel, by decide +kernel, by decide⟩
theorem qst_X8_clear : Cond.instanceMethod yX8_clear ∈ q_Ts := q_in 1132 (by decide +kernel) rfl
theorem qsl_X8_clear : Cond.selects yX8_clear.cls yX8_clear yX8_clear ∈ q_Ts := q_in 1133 (by decide +kernel) rfl
theorem cs_X8_clear : ∀ (idx : Nat) (info : QI), ms_X8_clear idx = some info → q_Cs cX8_clear 8 0 idx info := by
  intro idx info h
  unfold ms_X8_clear at h
  cases h
theorem ok_X8_clear : q_Ok yX8_clear cX8_clear 2 (some .int) 0 T_X8_clear 0 0 := q_okOf (plainFor_of_name (by decide +kernel)) rfl (fun h => by cases h) cs_X8_clear (fun _ _ _ _ h => h)
def ms_X8_here : Nat → Option QI := fun i => none
def T_X8_here : QTT := q_T cX8_here 1 8 false (some .int) ms_X8_here 0 0
set_option maxRecDepth 100000 in
theorem qw_X8_here : q_Wd yX8_here cX8_here 1 (some .int) 0 := ⟨q_in 1151 rfl rfl, q_in 72 (by decide +kernel) rfl, by decide +kernel, by decide +kernel, by decide +kernel, by decide⟩
theorem qst_X8_here : Cond.instanceMethod yX8_here ∈ q_Ts := q_in 1150 (by decide +kernel) rfl
theorem qsl_X8_here : Cond.selects yX8_here.cls yX8_here yX8_here ∈ q_Ts := q_in 45 (by decide +kernel) rfl
theorem cs_X8_here : ∀ (idx : Nat) (info : QI), ms_X8_here idx = some info → q_Cs cX8_here 8 0 idx info := by
  intro idx info h
  unfold ms_X8_here at h
  cases h
theorem ok_X8_here : q_Ok yX8_here cX8_here 1 (some .int) 0 T_X8_here 0 0 := q_okOf (plainFor_of_name (by decide +kernel)) rfl (fun h => by cases h) cs_X8_here (fun _ _ _ _ h => h)
theorem qlk_8_201 : Cond.methodLink (q_ow 8) 201 yX8_here ∈ q_Ts := q_in 1148 (by decide +kernel) rfl
def ms_X8_skips : Nat → Option QI := fun i => if i = 201 then some (1, 0, 8, T_X8_here, 0, 0) else none
theorem ms_X8_skips_201 : ms_X8_skips 201 = some (1, 0, 8, T_X8_here, 0, 0) := rfl
def T_X8_skips : QTT := q_T cX8_skips 1 8 false none ms_X8_skips 0 0
set_option maxRecDepth 100000 in
theorem qw_X8_skips : q_Wd yX8_skips cX8_skips 1 none 0 := ⟨q_in 1147 rfl rfl, q_in 72 (by decide +kernel) rfl, by decide +kernel, by decide +kernel, by decide +kernel, by decide⟩
theorem qst_X8_skips : Cond.instanceMethod yX8_skips ∈ q_Ts := q_in 1146 (by decide +kernel) rfl
theorem qsl_X8_skips : Cond.selects yX8_skips.cls yX8_skips yX8_skips ∈ q_Ts := q_in 44 (by decide +kernel) rfl
theorem cs_X8_skips : ∀ (idx : Nat) (info : QI), ms_X8_skips idx = some info → q_Cs cX8_skips 8 1 idx info := by
  intro idx info h
  unfold ms_X8_skips at h
  by_cases h0 : idx = 201
  · subst h0; rw [if_pos rfl] at h; cases h; intro p l e R s m args below meth c Q D cy nL A hC hf hlo; exact q_r1 hC ok_X8_here qw_X8_here qlk_8_201 ⟨qst_X8_here, qsl_X8_here⟩ ⟨rfl, rfl⟩ (by omega) (by omega)
  rw [if_neg h0] at h
  cases h
theorem ok_X8_skips : q_Ok yX8_skips cX8_skips 1 none 1 T_X8_skips 0 0 := q_okOf (plainFor_of_name (by decide +kernel)) rfl (fun h => by cases h) cs_X8_skips (fun _ _ _ _ h => h)
def ms_X8_fails : Nat → Option QI := fun i => none
def T_X8_fails : QTT := q_T cX8_fails 1 8 false none ms_X8_fails 0 0
set_option maxRecDepth 100000 in
theorem qw_X8_fails : q_Wd yX8_fails cX8_fails 1 none 0 := ⟨q_in 1163 rfl rfl, q_in 72 (by decide +kernel) rfl, by decide +kernel, by decide +kernel, by decide +kernel, by decide⟩
theorem qst_X8_fails : Cond.instanceMethod yX8_fails ∈ q_Ts := q_in 1162 (by decide +kernel) rfl
theorem qsl_X8_fails : Cond.selects yX8_fails.cls yX8_fails yX8_fails ∈ q_Ts := q_in 48 (by decide +kernel) rfl
theorem cs_X8_fails : ∀ (idx : Nat) (info : QI), ms_X8_fails idx = some info → q_Cs cX8_fails 8 0 idx info := by
  intro idx info h
  unfold ms_X8_fails at h
  cases h
theorem ok_X8_fails : q_Ok yX8_fails cX8_fails 1 none 0 T_X8_fails 0 0 := q_okOf (plainFor_of_name (by decide +kernel)) rfl (fun h => by cases h) cs_X8_fails (fun _ _ _ _ h => h)
theorem qlk_8_208 : Cond.methodLink (q_ow 8) 208 yX8_skips ∈ q_Ts := q_in 1144 (by decide +kernel) rfl
theorem qlk_8_211 : Cond.methodLink (q_ow 8) 211 yX8_fails ∈ q_Ts := q_in 1160 (by decide +kernel) rfl
def ms_X8_takesIn : Nat → Option QI := fun i => if i = 208 then some (1, 0, 8, T_X8_skips, 0, 0) else if i = 201 then some (1, 0, 8, T_X8_here, 0, 0) else if i = 53 then some (0, 3, 8, T_X8_in, 0, 0) else if i = 211 then some (1, 0, 8, T_X8_fails, 0, 0) else none
theorem ms_X8_takesIn_208 : ms_X8_takesIn 208 = some (1, 0, 8, T_X8_skips, 0, 0) := rfl
theorem ms_X8_takesIn_201 : ms_X8_takesIn 201 = some (1, 0, 8, T_X8_here, 0, 0) := rfl
theorem ms_X8_takesIn_53 : ms_X8_takesIn 53 = some (0, 3, 8, T_X8_in, 0, 0) := rfl
theorem ms_X8_takesIn_211 : ms_X8_takesIn 211 = some (1, 0, 8, T_X8_fails, 0, 0) := rfl
def T_X8_takesIn : QTT := q_T cX8_takesIn 3 8 false (some .int) ms_X8_takesIn 0 0
set_option maxRecDepth 100000 in
theorem qw_X8_takesIn : q_Wd yX8_takesIn cX8_takesIn 3 (some .int) 2 := ⟨q_in 1167 rfl rfl, q_in 72 (by decide +kernel) rfl, by decide +kernel, by decide +kernel, by decide +kernel, by decide⟩
theorem qst_X8_takesIn : Cond.instanceMethod yX8_takesIn ∈ q_Ts := q_in 1166 (by decide +kernel) rfl
theorem qsl_X8_takesIn : Cond.selects yX8_takesIn.cls yX8_takesIn yX8_takesIn ∈ q_Ts := q_in 49 (by decide +kernel) rfl
theorem cs_X8_takesIn : ∀ (idx : Nat) (info : QI), ms_X8_takesIn idx = some info → q_Cs cX8_takesIn 8 2 idx info := by
  intro idx info h
  unfold ms_X8_takesIn at h
  by_cases h0 : idx = 208
  · subst h0; rw [if_pos rfl] at h; cases h; intro p l e R s m args below meth c Q D cy nL A hC hf hlo; exact q_r1 hC ok_X8_skips qw_X8_skips qlk_8_208 ⟨qst_X8_skips, qsl_X8_skips⟩ ⟨rfl, rfl⟩ (by omega) (by omega)
  rw [if_neg h0] at h
  by_cases h1 : idx = 201
  · subst h1; rw [if_pos rfl] at h; cases h; intro p l e R s m args below meth c Q D cy nL A hC hf hlo; exact q_r1 hC ok_X8_here qw_X8_here qlk_8_201 ⟨qst_X8_here, qsl_X8_here⟩ ⟨rfl, rfl⟩ (by omega) (by omega)
  rw [if_neg h1] at h
  by_cases h2 : idx = 53
  · subst h2; rw [if_pos rfl] at h; cases h; intro p l e R s m args below meth c Q D cy nL A hC hf hlo; exact q_r0 hC ok_X8_in qw_X8_in qlk_8_53 qst_X8_in (by omega) (by omega)
  rw [if_neg h2] at h
  by_cases h3 : idx = 211
  · subst h3; rw [if_pos rfl] at h; cases h; intro p l e R s m args below meth c Q D cy nL A hC hf hlo; exact q_r1 hC ok_X8_fails qw_X8_fails qlk_8_211 ⟨qst_X8_fails, qsl_X8_fails⟩ ⟨rfl, rfl⟩ (by omega) (by omega)
  rw [if_neg h3] at h
  cases h
theorem ok_X8_takesIn : q_Ok yX8_takesIn cX8_takesIn 3 (some .int) 2 T_X8_takesIn 0 0 := q_okOf (plainFor_of_name (by decide +kernel)) rfl (fun h => by cases h) cs_X8_takesIn (fun _ _ _ _ h => h)
def ms_X8_takesOne : Nat → Option QI := fun i => if i = 208 then some (1, 0, 8, T_X8_skips, 0, 0) else if i = 201 then some (1, 0, 8, T_X8_here, 0, 0) else none
theorem ms_X8_takesOne_208 : ms_X8_takesOne 208 = some (1, 0, 8, T_X8_skips, 0, 0) := rfl
theorem ms_X8_takesOne_201 : ms_X8_takesOne 201 = some (1, 0, 8, T_X8_here, 0, 0) := rfl
def T_X8_takesOne : QTT := q_T cX8_takesOne 3 8 false (some .boolean) ms_X8_takesOne 0 0
set_option maxRecDepth 100000 in
theorem qw_X8_takesOne : q_Wd yX8_takesOne cX8_takesOne 3 (some .boolean) 1 := ⟨q_in 1175 rfl rfl, q_in 72 (by decide +kernel) rfl, by decide +kernel, by decide +kernel, by decide +kernel, by decide⟩
theorem qst_X8_takesOne : Cond.instanceMethod yX8_takesOne ∈ q_Ts := q_in 1174 (by decide +kernel) rfl
theorem qsl_X8_takesOne : Cond.selects yX8_takesOne.cls yX8_takesOne yX8_takesOne ∈ q_Ts := q_in 51 (by decide +kernel) rfl
theorem cs_X8_takesOne : ∀ (idx : Nat) (info : QI), ms_X8_takesOne idx = some info → q_Cs cX8_takesOne 8 2 idx info := by
  intro idx info h
  unfold ms_X8_takesOne at h
  by_cases h0 : idx = 208
  · subst h0; rw [if_pos rfl] at h; cases h; intro p l e R s m args below meth c Q D cy nL A hC hf hlo; exact q_r1 hC ok_X8_skips qw_X8_skips qlk_8_208 ⟨qst_X8_skips, qsl_X8_skips⟩ ⟨rfl, rfl⟩ (by omega) (by omega)
  rw [if_neg h0] at h
  by_cases h1 : idx = 201
  · subst h1; rw [if_pos rfl] at h; cases h; intro p l e R s m args below meth c Q D cy nL A hC hf hlo; exact q_r1 hC ok_X8_here qw_X8_here qlk_8_201 ⟨qst_X8_here, qsl_X8_here⟩ ⟨rfl, rfl⟩ (by omega) (by omega)
  rw [if_neg h1] at h
  cases h
theorem ok_X8_takesOne : q_Ok yX8_takesOne cX8_takesOne 3 (some .boolean) 2 T_X8_takesOne 0 0 := q_okOf (plainFor_of_name (by decide +kernel)) rfl (fun h => by cases h) cs_X8_takesOne (fun _ _ _ _ h => h)
theorem qlk_8_214 : Cond.methodLink (q_ow 8) 214 yX8_takesOne ∈ q_Ts := q_in 1172 (by decide +kernel) rfl
theorem qlk_8_217 : Cond.methodLink (q_ow 8) 217 yX8_takesIn ∈ q_Ts := q_in 1164 (by decide +kernel) rfl
def ms_X8_readsTerm : Nat → Option QI := fun i => if i = 214 then some (1, 1, 8, T_X8_takesOne, 0, 0) else if i = 217 then some (1, 2, 8, T_X8_takesIn, 0, 0) else none
theorem ms_X8_readsTerm_214 : ms_X8_readsTerm 214 = some (1, 1, 8, T_X8_takesOne, 0, 0) := rfl
theorem ms_X8_readsTerm_217 : ms_X8_readsTerm 217 = some (1, 2, 8, T_X8_takesIn, 0, 0) := rfl
def T_X8_readsTerm : QTT := q_T cX8_readsTerm 3 8 false none ms_X8_readsTerm 0 0
set_option maxRecDepth 100000 in
theorem qw_X8_readsTerm : q_Wd yX8_readsTerm cX8_readsTerm 3 none 1 := ⟨q_in 1171 rfl rfl, q_in 72 (by decide +kernel) rfl, by decide +kernel, by decide +kernel, by decide +kernel, by decide⟩
theorem qst_X8_readsTerm : Cond.instanceMethod yX8_readsTerm ∈ q_Ts := q_in 1170 (by decide +kernel) rfl
theorem qsl_X8_readsTerm : Cond.selects yX8_readsTerm.cls yX8_readsTerm yX8_readsTerm ∈ q_Ts := q_in 50 (by decide +kernel) rfl
theorem cs_X8_readsTerm : ∀ (idx : Nat) (info : QI), ms_X8_readsTerm idx = some info → q_Cs cX8_readsTerm 8 3 idx info := by
  intro idx info h
  unfold ms_X8_readsTerm at h
  by_cases h0 : idx = 214
  · subst h0; rw [if_pos rfl] at h; cases h; intro p l e R s m args below meth c Q D cy nL A hC hf hlo; exact q_r1 hC ok_X8_takesOne qw_X8_takesOne qlk_8_214 ⟨qst_X8_takesOne, qsl_X8_takesOne⟩ ⟨rfl, rfl⟩ (by omega) (by omega)
  rw [if_neg h0] at h
  by_cases h1 : idx = 217
  · subst h1; rw [if_pos rfl] at h; cases h; intro p l e R s m args below meth c Q D cy nL A hC hf hlo; exact q_r1 hC ok_X8_takesIn qw_X8_takesIn qlk_8_217 ⟨qst_X8_takesIn, qsl_X8_takesIn⟩ ⟨rfl, rfl⟩ (by omega) (by omega)
  rw [if_neg h1] at h
  cases h
theorem ok_X8_readsTerm : q_Ok yX8_readsTerm cX8_readsTerm 3 none 3 T_X8_readsTerm 0 0 := q_okOf (plainFor_of_name (by decide +kernel)) rfl (fun h => by cases h) cs_X8_readsTerm (fun _ _ _ _ h => h)
def ms_X8_readsCount : Nat → Option QI := fun i => if i = 201 then some (1, 0, 8, T_X8_here, 0, 0) else if i = 53 then some (0, 3, 8, T_X8_in, 0, 0) else if i = 211 then some (1, 0, 8, T_X8_fails, 0, 0) else if i = 208 then some (1, 0, 8, T_X8_skips, 0, 0) else none
theorem ms_X8_readsCount_201 : ms_X8_readsCount 201 = some (1, 0, 8, T_X8_here, 0, 0) := rfl
theorem ms_X8_readsCount_53 : ms_X8_readsCount 53 = some (0, 3, 8, T_X8_in, 0, 0) := rfl
theorem ms_X8_readsCount_211 : ms_X8_readsCount 211 = some (1, 0, 8, T_X8_fails, 0, 0) := rfl
theorem ms_X8_readsCount_208 : ms_X8_readsCount 208 = some (1, 0, 8, T_X8_skips, 0, 0) := rfl
def T_X8_readsCount : QTT := q_T cX8_readsCount 4 8 false none ms_X8_readsCount 0 0
set_option maxRecDepth 100000 in
theorem qw_X8_readsCount : q_Wd yX8_readsCount cX8_readsCount 4 none 1 := ⟨q_in 1159 rfl rfl, q_in 72 (by decide +kernel) rfl, by decide +kernel, by decide +kernel, by decide +kernel, by decide⟩
theorem qst_X8_readsCount : Cond.instanceMethod yX8_readsCount ∈ q_Ts := q_in 1158 (by decide +kernel) rfl
theorem qsl_X8_readsCount : Cond.selects yX8_readsCount.cls yX8_readsCount yX8_readsCount ∈ q_Ts := q_in 47 (by decide +kernel) rfl
theorem cs_X8_readsCount : ∀ (idx : Nat) (info : QI), ms_X8_readsCount idx = some info → q_Cs cX8_readsCount 8 2 idx info := by
  intro idx info h
  unfold ms_X8_readsCount at h
  by_cases h0 : idx = 201
  · subst h0; rw [if_pos rfl] at h; cases h; intro p l e R s m args below meth c Q D cy nL A hC hf hlo; exact q_r1 hC ok_X8_here qw_X8_here qlk_8_201 ⟨qst_X8_here, qsl_X8_here⟩ ⟨rfl, rfl⟩ (by omega) (by omega)
  rw [if_neg h0] at h
  by_cases h1 : idx = 53
  · subst h1; rw [if_pos rfl] at h; cases h; intro p l e R s m args below meth c Q D cy nL A hC hf hlo; exact q_r0 hC ok_X8_in qw_X8_in qlk_8_53 qst_X8_in (by omega) (by omega)
  rw [if_neg h1] at h
  by_cases h2 : idx = 211
  · subst h2; rw [if_pos rfl] at h; cases h; intro p l e R s m args below meth c Q D cy nL A hC hf hlo; exact q_r1 hC ok_X8_fails qw_X8_fails qlk_8_211 ⟨qst_X8_fails, qsl_X8_fails⟩ ⟨rfl, rfl⟩ (by omega) (by omega)
  rw [if_neg h2] at h
  by_cases h3 : idx = 208
  · subst h3; rw [if_pos rfl] at h; cases h; intro p l e R s m args below meth c Q D cy nL A hC hf hlo; exact q_r1 hC ok_X8_skips qw_X8_skips qlk_8_208 ⟨qst_X8_skips, qsl_X8_skips⟩ ⟨rfl, rfl⟩ (by omega) (by omega)
  rw [if_neg h3] at h
  cases h
theorem ok_X8_readsCount : q_Ok yX8_readsCount cX8_readsCount 4 none 2 T_X8_readsCount 0 0 := q_okOf (plainFor_of_name (by decide +kernel)) rfl (fun h => by cases h) cs_X8_readsCount (fun _ _ _ _ h => h)
theorem qlk_8_226 : Cond.methodLink (q_ow 8) 226 yX8_readsCount ∈ q_Ts := q_in 1156 (by decide +kernel) rfl
theorem qlk_8_230 : Cond.methodLink (q_ow 8) 230 yX8_readsTerm ∈ q_Ts := q_in 1168 (by decide +kernel) rfl
def ms_X8_readsStep : Nat → Option QI := fun i => if i = 201 then some (1, 0, 8, T_X8_here, 0, 0) else if i = 226 then some (1, 1, 8, T_X8_readsCount, 0, 0) else if i = 217 then some (1, 2, 8, T_X8_takesIn, 0, 0) else if i = 230 then some (1, 1, 8, T_X8_readsTerm, 0, 0) else none
theorem ms_X8_readsStep_201 : ms_X8_readsStep 201 = some (1, 0, 8, T_X8_here, 0, 0) := rfl
theorem ms_X8_readsStep_226 : ms_X8_readsStep 226 = some (1, 1, 8, T_X8_readsCount, 0, 0) := rfl
theorem ms_X8_readsStep_217 : ms_X8_readsStep 217 = some (1, 2, 8, T_X8_takesIn, 0, 0) := rfl
theorem ms_X8_readsStep_230 : ms_X8_readsStep 230 = some (1, 1, 8, T_X8_readsTerm, 0, 0) := rfl
def T_X8_readsStep : QTT := q_T cX8_readsStep 2 8 false none ms_X8_readsStep 0 0
set_option maxRecDepth 100000 in
theorem qw_X8_readsStep : q_Wd yX8_readsStep cX8_readsStep 2 none 0 := ⟨q_in 1155 rfl rfl, q_in 72 (by decide +kernel) rfl, by decide +kernel, by decide +kernel, by decide +kernel, by decide⟩
theorem qst_X8_readsStep : Cond.instanceMethod yX8_readsStep ∈ q_Ts := q_in 1154 (by decide +kernel) rfl
theorem qsl_X8_readsStep : Cond.selects yX8_readsStep.cls yX8_readsStep yX8_readsStep ∈ q_Ts := q_in 46 (by decide +kernel) rfl
theorem cs_X8_readsStep : ∀ (idx : Nat) (info : QI), ms_X8_readsStep idx = some info → q_Cs cX8_readsStep 8 4 idx info := by
  intro idx info h
  unfold ms_X8_readsStep at h
  by_cases h0 : idx = 201
  · subst h0; rw [if_pos rfl] at h; cases h; intro p l e R s m args below meth c Q D cy nL A hC hf hlo; exact q_r1 hC ok_X8_here qw_X8_here qlk_8_201 ⟨qst_X8_here, qsl_X8_here⟩ ⟨rfl, rfl⟩ (by omega) (by omega)
  rw [if_neg h0] at h
  by_cases h1 : idx = 226
  · subst h1; rw [if_pos rfl] at h; cases h; intro p l e R s m args below meth c Q D cy nL A hC hf hlo; exact q_r1 hC ok_X8_readsCount qw_X8_readsCount qlk_8_226 ⟨qst_X8_readsCount, qsl_X8_readsCount⟩ ⟨rfl, rfl⟩ (by omega) (by omega)
  rw [if_neg h1] at h
  by_cases h2 : idx = 217
  · subst h2; rw [if_pos rfl] at h; cases h; intro p l e R s m args below meth c Q D cy nL A hC hf hlo; exact q_r1 hC ok_X8_takesIn qw_X8_takesIn qlk_8_217 ⟨qst_X8_takesIn, qsl_X8_takesIn⟩ ⟨rfl, rfl⟩ (by omega) (by omega)
  rw [if_neg h2] at h
  by_cases h3 : idx = 230
  · subst h3; rw [if_pos rfl] at h; cases h; intro p l e R s m args below meth c Q D cy nL A hC hf hlo; exact q_r1 hC ok_X8_readsTerm qw_X8_readsTerm qlk_8_230 ⟨qst_X8_readsTerm, qsl_X8_readsTerm⟩ ⟨rfl, rfl⟩ (by omega) (by omega)
  rw [if_neg h3] at h
  cases h
theorem ok_X8_readsStep : q_Ok yX8_readsStep cX8_readsStep 2 none 4 T_X8_readsStep 0 0 := q_okOf (plainFor_of_name (by decide +kernel)) rfl (fun h => by cases h) cs_X8_readsStep (fun _ _ _ _ h => h)
theorem qlk_8_233 : Cond.methodLink (q_ow 8) 233 yX8_readsStep ∈ q_Ts := q_in 1152 (by decide +kernel) rfl
def ms_X8_reads : Nat → Option QI := fun i => if i = 208 then some (1, 0, 8, T_X8_skips, 0, 0) else if i = 233 then some (1, 0, 8, T_X8_readsStep, 0, 0) else if i = 211 then some (1, 0, 8, T_X8_fails, 0, 0) else none
theorem ms_X8_reads_208 : ms_X8_reads 208 = some (1, 0, 8, T_X8_skips, 0, 0) := rfl
theorem ms_X8_reads_233 : ms_X8_reads 233 = some (1, 0, 8, T_X8_readsStep, 0, 0) := rfl
theorem ms_X8_reads_211 : ms_X8_reads 211 = some (1, 0, 8, T_X8_fails, 0, 0) := rfl
def T_X8_reads : QTT := q_T cX8_reads 1 8 false (some .int) ms_X8_reads 0 0
set_option maxRecDepth 100000 in
theorem qw_X8_reads : q_Wd yX8_reads cX8_reads 1 (some .int) 0 := ⟨q_in 1142 rfl rfl, q_in 72 (by decide +kernel) rfl, by decide +kernel, by decide +kernel, by decide +kernel, by decide⟩
theorem qst_X8_reads : Cond.instanceMethod yX8_reads ∈ q_Ts := q_in 1141 (by decide +kernel) rfl
theorem qsl_X8_reads : Cond.selects yX8_reads.cls yX8_reads yX8_reads ∈ q_Ts := q_in 43 (by decide +kernel) rfl
theorem cs_X8_reads : ∀ (idx : Nat) (info : QI), ms_X8_reads idx = some info → q_Cs cX8_reads 8 5 idx info := by
  intro idx info h
  unfold ms_X8_reads at h
  by_cases h0 : idx = 208
  · subst h0; rw [if_pos rfl] at h; cases h; intro p l e R s m args below meth c Q D cy nL A hC hf hlo; exact q_r1 hC ok_X8_skips qw_X8_skips qlk_8_208 ⟨qst_X8_skips, qsl_X8_skips⟩ ⟨rfl, rfl⟩ (by omega) (by omega)
  rw [if_neg h0] at h
  by_cases h1 : idx = 233
  · subst h1; rw [if_pos rfl] at h; cases h; intro p l e R s m args below meth c Q D cy nL A hC hf hlo; exact q_r1 hC ok_X8_readsStep qw_X8_readsStep qlk_8_233 ⟨qst_X8_readsStep, qsl_X8_readsStep⟩ ⟨rfl, rfl⟩ (by omega) (by omega)
  rw [if_neg h1] at h
  by_cases h2 : idx = 211
  · subst h2; rw [if_pos rfl] at h; cases h; intro p l e R s m args below meth c Q D cy nL A hC hf hlo; exact q_r1 hC ok_X8_fails qw_X8_fails qlk_8_211 ⟨qst_X8_fails, qsl_X8_fails⟩ ⟨rfl, rfl⟩ (by omega) (by omega)
  rw [if_neg h2] at h
  cases h
theorem ok_X8_reads : q_Ok yX8_reads cX8_reads 1 (some .int) 5 T_X8_reads 0 0 := q_okOf (plainFor_of_name (by decide +kernel)) rfl (fun h => by cases h) cs_X8_reads (fun _ _ _ _ h => h)
theorem qlk_8_236 : Cond.methodLink (q_ow 8) 236 yX8_reads ∈ q_Ts := q_in 1139 (by decide +kernel) rfl
def ms_X8_fault : Nat → Option QI := fun i => if i = 236 then some (1, 0, 8, T_X8_reads, 0, 0) else none
theorem ms_X8_fault_236 : ms_X8_fault 236 = some (1, 0, 8, T_X8_reads, 0, 0) := rfl
def T_X8_fault : QTT := q_T cX8_fault 1 8 false (some .int) ms_X8_fault 0 0
set_option maxRecDepth 100000 in
theorem qw_X8_fault : q_Wd yX8_fault cX8_fault 1 (some .int) 0 := ⟨q_in 1138 rfl rfl, q_in 72 (by decide +kernel) rfl, by decide +kernel, by decide +kernel, by decide +kernel, by decide⟩
theorem qst_X8_fault : Cond.instanceMethod yX8_fault ∈ q_Ts := q_in 1136 (by decide +kernel) rfl
theorem qsl_X8_fault : Cond.selects yX8_fault.cls yX8_fault yX8_fault ∈ q_Ts := q_in 1137 (by decide +kernel) rfl
theorem cs_X8_fault : ∀ (idx : Nat) (info : QI), ms_X8_fault idx = some info → q_Cs cX8_fault 8 6 idx info := by
  intro idx info h
  unfold ms_X8_fault at h
  by_cases h0 : idx = 236
  · subst h0; rw [if_pos rfl] at h; cases h; intro p l e R s m args below meth c Q D cy nL A hC hf hlo; exact q_r1 hC ok_X8_reads qw_X8_reads qlk_8_236 ⟨qst_X8_reads, qsl_X8_reads⟩ ⟨rfl, rfl⟩ (by omega) (by omega)
  rw [if_neg h0] at h
  cases h
theorem ok_X8_fault : q_Ok yX8_fault cX8_fault 1 (some .int) 6 T_X8_fault 0 0 := q_okOf (plainFor_of_name (by decide +kernel)) rfl (fun h => by cases h) cs_X8_fault (fun _ _ _ _ h => h)
def ms_X8_hasWork : Nat → Option QI := fun i => none
def T_X8_hasWork : QTT := q_T cX8_hasWork 4 8 false (some .boolean) ms_X8_hasWork 0 0
set_option maxRecDepth 100000 in
theorem qw_X8_hasWork : q_Wd yX8_hasWork cX8_hasWork 4 (some .boolean) 1 := ⟨q_in 1187 rfl rfl, q_in 72 (by decide +kernel) rfl, by decide +kernel, by decide +kernel, by decide +kernel, by decide⟩
theorem qst_X8_hasWork : Cond.instanceMethod yX8_hasWork ∈ q_Ts := q_in 1186 (by decide +kernel) rfl
theorem qsl_X8_hasWork : Cond.selects yX8_hasWork.cls yX8_hasWork yX8_hasWork ∈ q_Ts := q_in 53 (by decide +kernel) rfl
theorem cs_X8_hasWork : ∀ (idx : Nat) (info : QI), ms_X8_hasWork idx = some info → q_Cs cX8_hasWork 8 0 idx info := by
  intro idx info h
  unfold ms_X8_hasWork at h
  cases h
theorem ok_X8_hasWork : q_Ok yX8_hasWork cX8_hasWork 4 (some .boolean) 0 T_X8_hasWork 0 0 := q_okOf (plainFor_of_name (by decide +kernel)) rfl (fun h => by cases h) cs_X8_hasWork (fun _ _ _ _ h => h)
theorem qlk_8_242 : Cond.methodLink (q_ow 8) 242 yX8_hasWork ∈ q_Ts := q_in 1184 (by decide +kernel) rfl
def ms_X8_goes : Nat → Option QI := fun i => if i = 242 then some (1, 1, 8, T_X8_hasWork, 0, 0) else if i = 190 then some (1, 4, 8, T_X8_does, 0, 0) else if i = 178 then some (1, 4, 8, T_X8_works, 0, 0) else none
theorem ms_X8_goes_242 : ms_X8_goes 242 = some (1, 1, 8, T_X8_hasWork, 0, 0) := rfl
theorem ms_X8_goes_190 : ms_X8_goes 190 = some (1, 4, 8, T_X8_does, 0, 0) := rfl
theorem ms_X8_goes_178 : ms_X8_goes 178 = some (1, 4, 8, T_X8_works, 0, 0) := rfl
def T_X8_goes : QTT := q_T cX8_goes 5 8 false (some .int) ms_X8_goes 0 0
set_option maxRecDepth 100000 in
theorem qw_X8_goes : q_Wd yX8_goes cX8_goes 5 (some .int) 1 := ⟨q_in 1183 rfl rfl, q_in 72 (by decide +kernel) rfl, by decide +kernel, by decide +kernel, by decide +kernel, by decide⟩
theorem qst_X8_goes : Cond.instanceMethod yX8_goes ∈ q_Ts := q_in 1182 (by decide +kernel) rfl
theorem qsl_X8_goes : Cond.selects yX8_goes.cls yX8_goes yX8_goes ∈ q_Ts := q_in 52 (by decide +kernel) rfl
theorem cs_X8_goes : ∀ (idx : Nat) (info : QI), ms_X8_goes idx = some info → q_Cs cX8_goes 8 8 idx info := by
  intro idx info h
  unfold ms_X8_goes at h
  by_cases h0 : idx = 242
  · subst h0; rw [if_pos rfl] at h; cases h; intro p l e R s m args below meth c Q D cy nL A hC hf hlo; exact q_r1 hC ok_X8_hasWork qw_X8_hasWork qlk_8_242 ⟨qst_X8_hasWork, qsl_X8_hasWork⟩ ⟨rfl, rfl⟩ (by omega) (by omega)
  rw [if_neg h0] at h
  by_cases h1 : idx = 190
  · subst h1; rw [if_pos rfl] at h; cases h; intro p l e R s m args below meth c Q D cy nL A hC hf hlo; exact q_r1 hC ok_X8_does qw_X8_does qlk_8_190 ⟨qst_X8_does, qsl_X8_does⟩ ⟨rfl, rfl⟩ (by omega) (by omega)
  rw [if_neg h1] at h
  by_cases h2 : idx = 178
  · subst h2; rw [if_pos rfl] at h; cases h; intro p l e R s m args below meth c Q D cy nL A hC hf hlo; exact q_r1 hC ok_X8_works qw_X8_works qlk_8_178 ⟨qst_X8_works, qsl_X8_works⟩ ⟨rfl, rfl⟩ (by omega) (by omega)
  rw [if_neg h2] at h
  cases h
theorem ok_X8_goes : q_Ok yX8_goes cX8_goes 5 (some .int) 8 T_X8_goes 0 0 := q_okOf (plainFor_of_name (by decide +kernel)) rfl (fun h => by cases h) cs_X8_goes (fun _ _ _ _ h => h)
theorem qlk_8_245 : Cond.methodLink (q_ow 8) 245 yX8_goes ∈ q_Ts := q_in 1180 (by decide +kernel) rfl
def ms_X8_run : Nat → Option QI := fun i => if i = 236 then some (1, 0, 8, T_X8_reads, 0, 0) else if i = 105 then some (1, 0, 8, T_X8_begins, 0, 0) else if i = 187 then some (1, 0, 8, T_X8_takes, 0, 0) else if i = 245 then some (1, 1, 8, T_X8_goes, 0, 0) else none
theorem ms_X8_run_236 : ms_X8_run 236 = some (1, 0, 8, T_X8_reads, 0, 0) := rfl
theorem ms_X8_run_105 : ms_X8_run 105 = some (1, 0, 8, T_X8_begins, 0, 0) := rfl
theorem ms_X8_run_187 : ms_X8_run 187 = some (1, 0, 8, T_X8_takes, 0, 0) := rfl
theorem ms_X8_run_245 : ms_X8_run 245 = some (1, 1, 8, T_X8_goes, 0, 0) := rfl
def T_X8_run : QTT := q_T cX8_run 2 8 false (some .int) ms_X8_run 0 0
set_option maxRecDepth 100000 in
theorem qw_X8_run : q_Wd yX8_run cX8_run 2 (some .int) 0 := ⟨q_in 1179 rfl rfl, q_in 72 (by decide +kernel) rfl, by decide +kernel, by decide +kernel, by decide +kernel, by decide⟩
theorem qst_X8_run : Cond.instanceMethod yX8_run ∈ q_Ts := q_in 1177 (by decide +kernel) rfl
theorem qsl_X8_run : Cond.selects yX8_run.cls yX8_run yX8_run ∈ q_Ts := q_in 1178 (by decide +kernel) rfl
theorem cs_X8_run : ∀ (idx : Nat) (info : QI), ms_X8_run idx = some info → q_Cs cX8_run 8 9 idx info := by
  intro idx info h
  unfold ms_X8_run at h
  by_cases h0 : idx = 236
  · subst h0; rw [if_pos rfl] at h; cases h; intro p l e R s m args below meth c Q D cy nL A hC hf hlo; exact q_r1 hC ok_X8_reads qw_X8_reads qlk_8_236 ⟨qst_X8_reads, qsl_X8_reads⟩ ⟨rfl, rfl⟩ (by omega) (by omega)
  rw [if_neg h0] at h
  by_cases h1 : idx = 105
  · subst h1; rw [if_pos rfl] at h; cases h; intro p l e R s m args below meth c Q D cy nL A hC hf hlo; exact q_r1 hC ok_X8_begins qw_X8_begins qlk_8_105 ⟨qst_X8_begins, qsl_X8_begins⟩ ⟨rfl, rfl⟩ (by omega) (by omega)
  rw [if_neg h1] at h
  by_cases h2 : idx = 187
  · subst h2; rw [if_pos rfl] at h; cases h; intro p l e R s m args below meth c Q D cy nL A hC hf hlo; exact q_r1 hC ok_X8_takes qw_X8_takes qlk_8_187 ⟨qst_X8_takes, qsl_X8_takes⟩ ⟨rfl, rfl⟩ (by omega) (by omega)
  rw [if_neg h2] at h
  by_cases h3 : idx = 245
  · subst h3; rw [if_pos rfl] at h; cases h; intro p l e R s m args below meth c Q D cy nL A hC hf hlo; exact q_r1 hC ok_X8_goes qw_X8_goes qlk_8_245 ⟨qst_X8_goes, qsl_X8_goes⟩ ⟨rfl, rfl⟩ (by omega) (by omega)
  rw [if_neg h3] at h
  cases h
theorem ok_X8_run : q_Ok yX8_run cX8_run 2 (some .int) 9 T_X8_run 0 0 := q_okOf (plainFor_of_name (by decide +kernel)) rfl (fun h => by cases h) cs_X8_run (fun _ _ _ _ h => h)
def ms_X8_stopped : Nat → Option QI := fun i => none
def T_X8_stopped : QTT := q_T cX8_stopped 1 8 false (some .int) ms_X8_stopped 0 0
set_option maxRecDepth 100000 in
theorem qw_X8_stopped : q_Wd yX8_stopped cX8_stopped 1 (some .int) 0 := ⟨q_in 1191 rfl rfl, q_in 72 (by decide +kernel) rfl, by decide +kernel, by decide +kernel, by decide +kernel, by decide⟩
theorem qst_X8_stopped : Cond.instanceMethod yX8_stopped ∈ q_Ts := q_in 1189 (by decide +kernel) rfl
theorem qsl_X8_stopped : Cond.selects yX8_stopped.cls yX8_stopped yX8_stopped ∈ q_Ts := q_in 1190 (by decide +kernel) rfl
theorem cs_X8_stopped : ∀ (idx : Nat) (info : QI), ms_X8_stopped idx = some info → q_Cs cX8_stopped 8 0 idx info := by
  intro idx info h
  unfold ms_X8_stopped at h
  cases h
theorem ok_X8_stopped : q_Ok yX8_stopped cX8_stopped 1 (some .int) 0 T_X8_stopped 0 0 := q_okOf (plainFor_of_name (by decide +kernel)) rfl (fun h => by cases h) cs_X8_stopped (fun _ _ _ _ h => h)
def ms_X8_tries : Nat → Option QI := fun i => if i = 187 then some (1, 0, 8, T_X8_takes, 0, 0) else if i = 245 then some (1, 1, 8, T_X8_goes, 0, 0) else none
theorem ms_X8_tries_187 : ms_X8_tries 187 = some (1, 0, 8, T_X8_takes, 0, 0) := rfl
theorem ms_X8_tries_245 : ms_X8_tries 245 = some (1, 1, 8, T_X8_goes, 0, 0) := rfl
def T_X8_tries : QTT := q_T cX8_tries 4 8 false (some .int) ms_X8_tries 0 0
set_option maxRecDepth 100000 in
theorem qw_X8_tries : q_Wd yX8_tries cX8_tries 4 (some .int) 3 := ⟨q_in 1199 rfl rfl, q_in 72 (by decide +kernel) rfl, by decide +kernel, by decide +kernel, by decide +kernel, by decide⟩
theorem qst_X8_tries : Cond.instanceMethod yX8_tries ∈ q_Ts := q_in 1198 (by decide +kernel) rfl
theorem qsl_X8_tries : Cond.selects yX8_tries.cls yX8_tries yX8_tries ∈ q_Ts := q_in 54 (by decide +kernel) rfl
theorem cs_X8_tries : ∀ (idx : Nat) (info : QI), ms_X8_tries idx = some info → q_Cs cX8_tries 8 9 idx info := by
  intro idx info h
  unfold ms_X8_tries at h
  by_cases h0 : idx = 187
  · subst h0; rw [if_pos rfl] at h; cases h; intro p l e R s m args below meth c Q D cy nL A hC hf hlo; exact q_r1 hC ok_X8_takes qw_X8_takes qlk_8_187 ⟨qst_X8_takes, qsl_X8_takes⟩ ⟨rfl, rfl⟩ (by omega) (by omega)
  rw [if_neg h0] at h
  by_cases h1 : idx = 245
  · subst h1; rw [if_pos rfl] at h; cases h; intro p l e R s m args below meth c Q D cy nL A hC hf hlo; exact q_r1 hC ok_X8_goes qw_X8_goes qlk_8_245 ⟨qst_X8_goes, qsl_X8_goes⟩ ⟨rfl, rfl⟩ (by omega) (by omega)
  rw [if_neg h1] at h
  cases h
theorem ok_X8_tries : q_Ok yX8_tries cX8_tries 4 (some .int) 9 T_X8_tries 0 0 := q_okOf (plainFor_of_name (by decide +kernel)) rfl (fun h => by cases h) cs_X8_tries (fun _ _ _ _ h => h)
theorem qlk_8_252 : Cond.methodLink (q_ow 8) 252 yX8_tries ∈ q_Ts := q_in 1196 (by decide +kernel) rfl
def ms_X8_ifRun : Nat → Option QI := fun i => if i = 116 then some (0, 1, 8, T_X8_isRegister, 0, 0) else if i = 53 then some (0, 3, 8, T_X8_in, 0, 0) else if i = 236 then some (1, 0, 8, T_X8_reads, 0, 0) else if i = 252 then some (1, 3, 8, T_X8_tries, 0, 0) else none
theorem ms_X8_ifRun_116 : ms_X8_ifRun 116 = some (0, 1, 8, T_X8_isRegister, 0, 0) := rfl
theorem ms_X8_ifRun_53 : ms_X8_ifRun 53 = some (0, 3, 8, T_X8_in, 0, 0) := rfl
theorem ms_X8_ifRun_236 : ms_X8_ifRun 236 = some (1, 0, 8, T_X8_reads, 0, 0) := rfl
theorem ms_X8_ifRun_252 : ms_X8_ifRun 252 = some (1, 3, 8, T_X8_tries, 0, 0) := rfl
def T_X8_ifRun : QTT := q_T cX8_ifRun 4 8 false (some .int) ms_X8_ifRun 0 0
set_option maxRecDepth 100000 in
theorem qw_X8_ifRun : q_Wd yX8_ifRun cX8_ifRun 4 (some .int) 3 := ⟨q_in 1195 rfl rfl, q_in 72 (by decide +kernel) rfl, by decide +kernel, by decide +kernel, by decide +kernel, by decide⟩
theorem qst_X8_ifRun : Cond.instanceMethod yX8_ifRun ∈ q_Ts := q_in 1193 (by decide +kernel) rfl
theorem qsl_X8_ifRun : Cond.selects yX8_ifRun.cls yX8_ifRun yX8_ifRun ∈ q_Ts := q_in 1194 (by decide +kernel) rfl
theorem cs_X8_ifRun : ∀ (idx : Nat) (info : QI), ms_X8_ifRun idx = some info → q_Cs cX8_ifRun 8 10 idx info := by
  intro idx info h
  unfold ms_X8_ifRun at h
  by_cases h0 : idx = 116
  · subst h0; rw [if_pos rfl] at h; cases h; intro p l e R s m args below meth c Q D cy nL A hC hf hlo; exact q_r0 hC ok_X8_isRegister qw_X8_isRegister qlk_8_116 qst_X8_isRegister (by omega) (by omega)
  rw [if_neg h0] at h
  by_cases h1 : idx = 53
  · subst h1; rw [if_pos rfl] at h; cases h; intro p l e R s m args below meth c Q D cy nL A hC hf hlo; exact q_r0 hC ok_X8_in qw_X8_in qlk_8_53 qst_X8_in (by omega) (by omega)
  rw [if_neg h1] at h
  by_cases h2 : idx = 236
  · subst h2; rw [if_pos rfl] at h; cases h; intro p l e R s m args below meth c Q D cy nL A hC hf hlo; exact q_r1 hC ok_X8_reads qw_X8_reads qlk_8_236 ⟨qst_X8_reads, qsl_X8_reads⟩ ⟨rfl, rfl⟩ (by omega) (by omega)
  rw [if_neg h2] at h
  by_cases h3 : idx = 252
  · subst h3; rw [if_pos rfl] at h; cases h; intro p l e R s m args below meth c Q D cy nL A hC hf hlo; exact q_r1 hC ok_X8_tries qw_X8_tries qlk_8_252 ⟨qst_X8_tries, qsl_X8_tries⟩ ⟨rfl, rfl⟩ (by omega) (by omega)
  rw [if_neg h3] at h
  cases h
theorem ok_X8_ifRun : q_Ok yX8_ifRun cX8_ifRun 4 (some .int) 10 T_X8_ifRun 0 0 := q_okOf (plainFor_of_name (by decide +kernel)) rfl (fun h => by cases h) cs_X8_ifRun (fun _ _ _ _ h => h)
def ms_X8_ensembleSum : Nat → Option QI := fun i => if i = 116 then some (0, 1, 8, T_X8_isRegister, 0, 0) else if i = 53 then some (0, 3, 8, T_X8_in, 0, 0) else if i = 236 then some (1, 0, 8, T_X8_reads, 0, 0) else if i = 252 then some (1, 3, 8, T_X8_tries, 0, 0) else none
theorem ms_X8_ensembleSum_116 : ms_X8_ensembleSum 116 = some (0, 1, 8, T_X8_isRegister, 0, 0) := rfl
theorem ms_X8_ensembleSum_53 : ms_X8_ensembleSum 53 = some (0, 3, 8, T_X8_in, 0, 0) := rfl
theorem ms_X8_ensembleSum_236 : ms_X8_ensembleSum 236 = some (1, 0, 8, T_X8_reads, 0, 0) := rfl
theorem ms_X8_ensembleSum_252 : ms_X8_ensembleSum 252 = some (1, 3, 8, T_X8_tries, 0, 0) := rfl
def T_X8_ensembleSum : QTT := q_T cX8_ensembleSum 6 8 false (some .int) ms_X8_ensembleSum 0 0
set_option maxRecDepth 100000 in
theorem qw_X8_ensembleSum : q_Wd yX8_ensembleSum cX8_ensembleSum 6 (some .int) 3 := ⟨q_in 1203 rfl rfl, q_in 72 (by decide +kernel) rfl, by decide +kernel, by decide +kernel, by decide +kernel, by decide⟩
theorem qst_X8_ensembleSum : Cond.instanceMethod yX8_ensembleSum ∈ q_Ts := q_in 1201 (by decide +kernel) rfl
theorem qsl_X8_ensembleSum : Cond.selects yX8_ensembleSum.cls yX8_ensembleSum yX8_ensembleSum ∈ q_Ts := q_in 1202 (by decide +kernel) rfl
theorem cs_X8_ensembleSum : ∀ (idx : Nat) (info : QI), ms_X8_ensembleSum idx = some info → q_Cs cX8_ensembleSum 8 10 idx info := by
  intro idx info h
  unfold ms_X8_ensembleSum at h
  by_cases h0 : idx = 116
  · subst h0; rw [if_pos rfl] at h; cases h; intro p l e R s m args below meth c Q D cy nL A hC hf hlo; exact q_r0 hC ok_X8_isRegister qw_X8_isRegister qlk_8_116 qst_X8_isRegister (by omega) (by omega)
  rw [if_neg h0] at h
  by_cases h1 : idx = 53
  · subst h1; rw [if_pos rfl] at h; cases h; intro p l e R s m args below meth c Q D cy nL A hC hf hlo; exact q_r0 hC ok_X8_in qw_X8_in qlk_8_53 qst_X8_in (by omega) (by omega)
  rw [if_neg h1] at h
  by_cases h2 : idx = 236
  · subst h2; rw [if_pos rfl] at h; cases h; intro p l e R s m args below meth c Q D cy nL A hC hf hlo; exact q_r1 hC ok_X8_reads qw_X8_reads qlk_8_236 ⟨qst_X8_reads, qsl_X8_reads⟩ ⟨rfl, rfl⟩ (by omega) (by omega)
  rw [if_neg h2] at h
  by_cases h3 : idx = 252
  · subst h3; rw [if_pos rfl] at h; cases h; intro p l e R s m args below meth c Q D cy nL A hC hf hlo; exact q_r1 hC ok_X8_tries qw_X8_tries qlk_8_252 ⟨qst_X8_tries, qsl_X8_tries⟩ ⟨rfl, rfl⟩ (by omega) (by omega)
  rw [if_neg h3] at h
  cases h
theorem ok_X8_ensembleSum : q_Ok yX8_ensembleSum cX8_ensembleSum 6 (some .int) 10 T_X8_ensembleSum 0 0 := q_okOf (plainFor_of_name (by decide +kernel)) rfl (fun h => by cases h) cs_X8_ensembleSum (fun _ _ _ _ h => h)
def ms_X8_ensembleSpread : Nat → Option QI := fun i => if i = 116 then some (0, 1, 8, T_X8_isRegister, 0, 0) else if i = 53 then some (0, 3, 8, T_X8_in, 0, 0) else if i = 236 then some (1, 0, 8, T_X8_reads, 0, 0) else if i = 252 then some (1, 3, 8, T_X8_tries, 0, 0) else none
theorem ms_X8_ensembleSpread_116 : ms_X8_ensembleSpread 116 = some (0, 1, 8, T_X8_isRegister, 0, 0) := rfl
theorem ms_X8_ensembleSpread_53 : ms_X8_ensembleSpread 53 = some (0, 3, 8, T_X8_in, 0, 0) := rfl
theorem ms_X8_ensembleSpread_236 : ms_X8_ensembleSpread 236 = some (1, 0, 8, T_X8_reads, 0, 0) := rfl
theorem ms_X8_ensembleSpread_252 : ms_X8_ensembleSpread 252 = some (1, 3, 8, T_X8_tries, 0, 0) := rfl
def T_X8_ensembleSpread : QTT := q_T cX8_ensembleSpread 8 8 false (some .int) ms_X8_ensembleSpread 0 0
set_option maxRecDepth 100000 in
theorem qw_X8_ensembleSpread : q_Wd yX8_ensembleSpread cX8_ensembleSpread 8 (some .int) 3 := ⟨q_in 1207 rfl rfl, q_in 72 (by decide +kernel) rfl, by decide +kernel, by decide +kernel, by decide +kernel, by decide⟩
theorem qst_X8_ensembleSpread : Cond.instanceMethod yX8_ensembleSpread ∈ q_Ts := q_in 1205 (by decide +kernel) rfl
theorem qsl_X8_ensembleSpread : Cond.selects yX8_ensembleSpread.cls yX8_ensembleSpread yX8_ensembleSpread ∈ q_Ts := q_in 1206 (by decide +kernel) rfl
theorem cs_X8_ensembleSpread : ∀ (idx : Nat) (info : QI), ms_X8_ensembleSpread idx = some info → q_Cs cX8_ensembleSpread 8 10 idx info := by
  intro idx info h
  unfold ms_X8_ensembleSpread at h
  by_cases h0 : idx = 116
  · subst h0; rw [if_pos rfl] at h; cases h; intro p l e R s m args below meth c Q D cy nL A hC hf hlo; exact q_r0 hC ok_X8_isRegister qw_X8_isRegister qlk_8_116 qst_X8_isRegister (by omega) (by omega)
  rw [if_neg h0] at h
  by_cases h1 : idx = 53
  · subst h1; rw [if_pos rfl] at h; cases h; intro p l e R s m args below meth c Q D cy nL A hC hf hlo; exact q_r0 hC ok_X8_in qw_X8_in qlk_8_53 qst_X8_in (by omega) (by omega)
  rw [if_neg h1] at h
  by_cases h2 : idx = 236
  · subst h2; rw [if_pos rfl] at h; cases h; intro p l e R s m args below meth c Q D cy nL A hC hf hlo; exact q_r1 hC ok_X8_reads qw_X8_reads qlk_8_236 ⟨qst_X8_reads, qsl_X8_reads⟩ ⟨rfl, rfl⟩ (by omega) (by omega)
  rw [if_neg h2] at h
  by_cases h3 : idx = 252
  · subst h3; rw [if_pos rfl] at h; cases h; intro p l e R s m args below meth c Q D cy nL A hC hf hlo; exact q_r1 hC ok_X8_tries qw_X8_tries qlk_8_252 ⟨qst_X8_tries, qsl_X8_tries⟩ ⟨rfl, rfl⟩ (by omega) (by omega)
  rw [if_neg h3] at h
  cases h
theorem ok_X8_ensembleSpread : q_Ok yX8_ensembleSpread cX8_ensembleSpread 8 (some .int) 10 T_X8_ensembleSpread 0 0 := q_okOf (plainFor_of_name (by decide +kernel)) rfl (fun h => by cases h) cs_X8_ensembleSpread (fun _ _ _ _ h => h)
def ms_X8_isRecord : Nat → Option QI := fun i => none
def T_X8_isRecord : QTT := q_T cX8_isRecord 2 8 false (some .boolean) ms_X8_isRecord 0 0
set_option maxRecDepth 100000 in
theorem qw_X8_isRecord : q_Wd yX8_isRecord cX8_isRecord 2 (some .boolean) 1 := ⟨q_in 1219 rfl rfl, q_in 72 (by decide +kernel) rfl, by decide +kernel, by decide +kernel, by decide +kernel, by decide⟩
theorem qst_X8_isRecord : Cond.instanceMethod yX8_isRecord ∈ q_Ts := q_in 1218 (by decide +kernel) rfl
theorem qsl_X8_isRecord : Cond.selects yX8_isRecord.cls yX8_isRecord yX8_isRecord ∈ q_Ts := q_in 55 (by decide +kernel) rfl
theorem cs_X8_isRecord : ∀ (idx : Nat) (info : QI), ms_X8_isRecord idx = some info → q_Cs cX8_isRecord 8 0 idx info := by
  intro idx info h
  unfold ms_X8_isRecord at h
  cases h
theorem ok_X8_isRecord : q_Ok yX8_isRecord cX8_isRecord 2 (some .boolean) 0 T_X8_isRecord 0 0 := q_okOf (plainFor_of_name (by decide +kernel)) rfl (fun h => by cases h) cs_X8_isRecord (fun _ _ _ _ h => h)
def ms_X8_records : Nat → Option QI := fun i => none
def T_X8_records : QTT := q_T cX8_records 1 8 false (some .int) ms_X8_records 0 0
set_option maxRecDepth 100000 in
theorem qw_X8_records : q_Wd yX8_records cX8_records 1 (some .int) 0 := ⟨q_in 1211 rfl rfl, q_in 72 (by decide +kernel) rfl, by decide +kernel, by decide +kernel, by decide +kernel, by decide⟩
theorem qst_X8_records : Cond.instanceMethod yX8_records ∈ q_Ts := q_in 1209 (by decide +kernel) rfl
theorem qsl_X8_records : Cond.selects yX8_records.cls yX8_records yX8_records ∈ q_Ts := q_in 1210 (by decide +kernel) rfl
theorem cs_X8_records : ∀ (idx : Nat) (info : QI), ms_X8_records idx = some info → q_Cs cX8_records 8 0 idx info := by
  intro idx info h
  unfold ms_X8_records at h
  cases h
theorem ok_X8_records : q_Ok yX8_records cX8_records 1 (some .int) 0 T_X8_records 0 0 := q_okOf (plainFor_of_name (by decide +kernel)) rfl (fun h => by cases h) cs_X8_records (fun _ _ _ _ h => h)
theorem qlk_8_256 : Cond.methodLink (q_ow 8) 256 yX8_isRecord ∈ q_Ts := q_in 1216 (by decide +kernel) rfl
def ms_X8_numberOf : Nat → Option QI := fun i => if i = 256 then some (1, 1, 8, T_X8_isRecord, 0, 0) else if i = 165 then some (1, 1, 8, T_X8_at, 0, 0) else none
theorem ms_X8_numberOf_256 : ms_X8_numberOf 256 = some (1, 1, 8, T_X8_isRecord, 0, 0) := rfl
theorem ms_X8_numberOf_165 : ms_X8_numberOf 165 = some (1, 1, 8, T_X8_at, 0, 0) := rfl
def T_X8_numberOf : QTT := q_T cX8_numberOf 2 8 false (some .int) ms_X8_numberOf 0 0
set_option maxRecDepth 100000 in
theorem qw_X8_numberOf : q_Wd yX8_numberOf cX8_numberOf 2 (some .int) 1 := ⟨q_in 1215 rfl rfl, q_in 72 (by decide +kernel) rfl, by decide +kernel, by decide +kernel, by decide +kernel, by decide⟩
theorem qst_X8_numberOf : Cond.instanceMethod yX8_numberOf ∈ q_Ts := q_in 1213 (by decide +kernel) rfl
theorem qsl_X8_numberOf : Cond.selects yX8_numberOf.cls yX8_numberOf yX8_numberOf ∈ q_Ts := q_in 1214 (by decide +kernel) rfl
theorem cs_X8_numberOf : ∀ (idx : Nat) (info : QI), ms_X8_numberOf idx = some info → q_Cs cX8_numberOf 8 1 idx info := by
  intro idx info h
  unfold ms_X8_numberOf at h
  by_cases h0 : idx = 256
  · subst h0; rw [if_pos rfl] at h; cases h; intro p l e R s m args below meth c Q D cy nL A hC hf hlo; exact q_r1 hC ok_X8_isRecord qw_X8_isRecord qlk_8_256 ⟨qst_X8_isRecord, qsl_X8_isRecord⟩ ⟨rfl, rfl⟩ (by omega) (by omega)
  rw [if_neg h0] at h
  by_cases h1 : idx = 165
  · subst h1; rw [if_pos rfl] at h; cases h; intro p l e R s m args below meth c Q D cy nL A hC hf hlo; exact q_r1 hC ok_X8_at qw_X8_at qlk_8_165 ⟨qst_X8_at, qsl_X8_at⟩ ⟨rfl, rfl⟩ (by omega) (by omega)
  rw [if_neg h1] at h
  cases h
theorem ok_X8_numberOf : q_Ok yX8_numberOf cX8_numberOf 2 (some .int) 1 T_X8_numberOf 0 0 := q_okOf (plainFor_of_name (by decide +kernel)) rfl (fun h => by cases h) cs_X8_numberOf (fun _ _ _ _ h => h)
def ms_X8_operation : Nat → Option QI := fun i => if i = 256 then some (1, 1, 8, T_X8_isRecord, 0, 0) else if i = 165 then some (1, 1, 8, T_X8_at, 0, 0) else none
theorem ms_X8_operation_256 : ms_X8_operation 256 = some (1, 1, 8, T_X8_isRecord, 0, 0) := rfl
theorem ms_X8_operation_165 : ms_X8_operation 165 = some (1, 1, 8, T_X8_at, 0, 0) := rfl
def T_X8_operation : QTT := q_T cX8_operation 3 8 false (some .int) ms_X8_operation 0 0
set_option maxRecDepth 100000 in
theorem qw_X8_operation : q_Wd yX8_operation cX8_operation 3 (some .int) 1 := ⟨q_in 1223 rfl rfl, q_in 72 (by decide +kernel) rfl, by decide +kernel, by decide +kernel, by decide +kernel, by decide⟩
theorem qst_X8_operation : Cond.instanceMethod yX8_operation ∈ q_Ts := q_in 1221 (by decide +kernel) rfl
theorem qsl_X8_operation : Cond.selects yX8_operation.cls yX8_operation yX8_operation ∈ q_Ts := q_in 1222 (by decide +kernel) rfl
theorem cs_X8_operation : ∀ (idx : Nat) (info : QI), ms_X8_operation idx = some info → q_Cs cX8_operation 8 1 idx info := by
  intro idx info h
  unfold ms_X8_operation at h
  by_cases h0 : idx = 256
  · subst h0; rw [if_pos rfl] at h; cases h; intro p l e R s m args below meth c Q D cy nL A hC hf hlo; exact q_r1 hC ok_X8_isRecord qw_X8_isRecord qlk_8_256 ⟨qst_X8_isRecord, qsl_X8_isRecord⟩ ⟨rfl, rfl⟩ (by omega) (by omega)
  rw [if_neg h0] at h
  by_cases h1 : idx = 165
  · subst h1; rw [if_pos rfl] at h; cases h; intro p l e R s m args below meth c Q D cy nL A hC hf hlo; exact q_r1 hC ok_X8_at qw_X8_at qlk_8_165 ⟨qst_X8_at, qsl_X8_at⟩ ⟨rfl, rfl⟩ (by omega) (by omega)
  rw [if_neg h1] at h
  cases h
theorem ok_X8_operation : q_Ok yX8_operation cX8_operation 3 (some .int) 1 T_X8_operation 0 0 := q_okOf (plainFor_of_name (by decide +kernel)) rfl (fun h => by cases h) cs_X8_operation (fun _ _ _ _ h => h)
def ms_X8_result : Nat → Option QI := fun i => if i = 256 then some (1, 1, 8, T_X8_isRecord, 0, 0) else if i = 165 then some (1, 1, 8, T_X8_at, 0, 0) else none
theorem ms_X8_result_256 : ms_X8_result 256 = some (1, 1, 8, T_X8_isRecord, 0, 0) := rfl
theorem ms_X8_result_165 : ms_X8_result 165 = some (1, 1, 8, T_X8_at, 0, 0) := rfl
def T_X8_result : QTT := q_T cX8_result 2 8 false (some .int) ms_X8_result 0 0
set_option maxRecDepth 100000 in
theorem qw_X8_result : q_Wd yX8_result cX8_result 2 (some .int) 1 := ⟨q_in 1230 rfl rfl, q_in 72 (by decide +kernel) rfl, by decide +kernel, by decide +kernel, by decide +kernel, by decide⟩
theorem qst_X8_result : Cond.instanceMethod yX8_result ∈ q_Ts := q_in 1228 (by decide +kernel) rfl
theorem qsl_X8_result : Cond.selects yX8_result.cls yX8_result yX8_result ∈ q_Ts := q_in 1229 (by decide +kernel) rfl
theorem cs_X8_result : ∀ (idx : Nat) (info : QI), ms_X8_result idx = some info → q_Cs cX8_result 8 1 idx info := by
  intro idx info h
  unfold ms_X8_result at h
  by_cases h0 : idx = 256
  · subst h0; rw [if_pos rfl] at h; cases h; intro p l e R s m args below meth c Q D cy nL A hC hf hlo; exact q_r1 hC ok_X8_isRecord qw_X8_isRecord qlk_8_256 ⟨qst_X8_isRecord, qsl_X8_isRecord⟩ ⟨rfl, rfl⟩ (by omega) (by omega)
  rw [if_neg h0] at h
  by_cases h1 : idx = 165
  · subst h1; rw [if_pos rfl] at h; cases h; intro p l e R s m args below meth c Q D cy nL A hC hf hlo; exact q_r1 hC ok_X8_at qw_X8_at qlk_8_165 ⟨qst_X8_at, qsl_X8_at⟩ ⟨rfl, rfl⟩ (by omega) (by omega)
  rw [if_neg h1] at h
  cases h
theorem ok_X8_result : q_Ok yX8_result cX8_result 2 (some .int) 1 T_X8_result 0 0 := q_okOf (plainFor_of_name (by decide +kernel)) rfl (fun h => by cases h) cs_X8_result (fun _ _ _ _ h => h)
def ms_X8_neighbor : Nat → Option QI := fun i => if i = 256 then some (1, 1, 8, T_X8_isRecord, 0, 0) else if i = 165 then some (1, 1, 8, T_X8_at, 0, 0) else none
theorem ms_X8_neighbor_256 : ms_X8_neighbor 256 = some (1, 1, 8, T_X8_isRecord, 0, 0) := rfl
theorem ms_X8_neighbor_165 : ms_X8_neighbor 165 = some (1, 1, 8, T_X8_at, 0, 0) := rfl
def T_X8_neighbor : QTT := q_T cX8_neighbor 3 8 false (some .int) ms_X8_neighbor 0 0
set_option maxRecDepth 100000 in
theorem qw_X8_neighbor : q_Wd yX8_neighbor cX8_neighbor 3 (some .int) 2 := ⟨q_in 1234 rfl rfl, q_in 72 (by decide +kernel) rfl, by decide +kernel, by decide +kernel, by decide +kernel, by decide⟩
theorem qst_X8_neighbor : Cond.instanceMethod yX8_neighbor ∈ q_Ts := q_in 1232 (by decide +kernel) rfl
theorem qsl_X8_neighbor : Cond.selects yX8_neighbor.cls yX8_neighbor yX8_neighbor ∈ q_Ts := q_in 1233 (by decide +kernel) rfl
theorem cs_X8_neighbor : ∀ (idx : Nat) (info : QI), ms_X8_neighbor idx = some info → q_Cs cX8_neighbor 8 1 idx info := by
  intro idx info h
  unfold ms_X8_neighbor at h
  by_cases h0 : idx = 256
  · subst h0; rw [if_pos rfl] at h; cases h; intro p l e R s m args below meth c Q D cy nL A hC hf hlo; exact q_r1 hC ok_X8_isRecord qw_X8_isRecord qlk_8_256 ⟨qst_X8_isRecord, qsl_X8_isRecord⟩ ⟨rfl, rfl⟩ (by omega) (by omega)
  rw [if_neg h0] at h
  by_cases h1 : idx = 165
  · subst h1; rw [if_pos rfl] at h; cases h; intro p l e R s m args below meth c Q D cy nL A hC hf hlo; exact q_r1 hC ok_X8_at qw_X8_at qlk_8_165 ⟨qst_X8_at, qsl_X8_at⟩ ⟨rfl, rfl⟩ (by omega) (by omega)
  rw [if_neg h1] at h
  cases h
theorem ok_X8_neighbor : q_Ok yX8_neighbor cX8_neighbor 3 (some .int) 1 T_X8_neighbor 0 0 := q_okOf (plainFor_of_name (by decide +kernel)) rfl (fun h => by cases h) cs_X8_neighbor (fun _ _ _ _ h => h)
def ms_X8_drawOf : Nat → Option QI := fun i => if i = 256 then some (1, 1, 8, T_X8_isRecord, 0, 0) else if i = 165 then some (1, 1, 8, T_X8_at, 0, 0) else none
theorem ms_X8_drawOf_256 : ms_X8_drawOf 256 = some (1, 1, 8, T_X8_isRecord, 0, 0) := rfl
theorem ms_X8_drawOf_165 : ms_X8_drawOf 165 = some (1, 1, 8, T_X8_at, 0, 0) := rfl
def T_X8_drawOf : QTT := q_T cX8_drawOf 2 8 false (some .int) ms_X8_drawOf 0 0
set_option maxRecDepth 100000 in
theorem qw_X8_drawOf : q_Wd yX8_drawOf cX8_drawOf 2 (some .int) 1 := ⟨q_in 1238 rfl rfl, q_in 72 (by decide +kernel) rfl, by decide +kernel, by decide +kernel, by decide +kernel, by decide⟩
theorem qst_X8_drawOf : Cond.instanceMethod yX8_drawOf ∈ q_Ts := q_in 1236 (by decide +kernel) rfl
theorem qsl_X8_drawOf : Cond.selects yX8_drawOf.cls yX8_drawOf yX8_drawOf ∈ q_Ts := q_in 1237 (by decide +kernel) rfl
theorem cs_X8_drawOf : ∀ (idx : Nat) (info : QI), ms_X8_drawOf idx = some info → q_Cs cX8_drawOf 8 1 idx info := by
  intro idx info h
  unfold ms_X8_drawOf at h
  by_cases h0 : idx = 256
  · subst h0; rw [if_pos rfl] at h; cases h; intro p l e R s m args below meth c Q D cy nL A hC hf hlo; exact q_r1 hC ok_X8_isRecord qw_X8_isRecord qlk_8_256 ⟨qst_X8_isRecord, qsl_X8_isRecord⟩ ⟨rfl, rfl⟩ (by omega) (by omega)
  rw [if_neg h0] at h
  by_cases h1 : idx = 165
  · subst h1; rw [if_pos rfl] at h; cases h; intro p l e R s m args below meth c Q D cy nL A hC hf hlo; exact q_r1 hC ok_X8_at qw_X8_at qlk_8_165 ⟨qst_X8_at, qsl_X8_at⟩ ⟨rfl, rfl⟩ (by omega) (by omega)
  rw [if_neg h1] at h
  cases h
theorem ok_X8_drawOf : q_Ok yX8_drawOf cX8_drawOf 2 (some .int) 1 T_X8_drawOf 0 0 := q_okOf (plainFor_of_name (by decide +kernel)) rfl (fun h => by cases h) cs_X8_drawOf (fun _ _ _ _ h => h)
def ms_X8_flags : Nat → Option QI := fun i => if i = 256 then some (1, 1, 8, T_X8_isRecord, 0, 0) else if i = 165 then some (1, 1, 8, T_X8_at, 0, 0) else none
theorem ms_X8_flags_256 : ms_X8_flags 256 = some (1, 1, 8, T_X8_isRecord, 0, 0) := rfl
theorem ms_X8_flags_165 : ms_X8_flags 165 = some (1, 1, 8, T_X8_at, 0, 0) := rfl
def T_X8_flags : QTT := q_T cX8_flags 2 8 false (some .int) ms_X8_flags 0 0
set_option maxRecDepth 100000 in
theorem qw_X8_flags : q_Wd yX8_flags cX8_flags 2 (some .int) 1 := ⟨q_in 1242 rfl rfl, q_in 72 (by decide +kernel) rfl, by decide +kernel, by decide +kernel, by decide +kernel, by decide⟩
theorem qst_X8_flags : Cond.instanceMethod yX8_flags ∈ q_Ts := q_in 1240 (by decide +kernel) rfl
theorem qsl_X8_flags : Cond.selects yX8_flags.cls yX8_flags yX8_flags ∈ q_Ts := q_in 1241 (by decide +kernel) rfl
theorem cs_X8_flags : ∀ (idx : Nat) (info : QI), ms_X8_flags idx = some info → q_Cs cX8_flags 8 1 idx info := by
  intro idx info h
  unfold ms_X8_flags at h
  by_cases h0 : idx = 256
  · subst h0; rw [if_pos rfl] at h; cases h; intro p l e R s m args below meth c Q D cy nL A hC hf hlo; exact q_r1 hC ok_X8_isRecord qw_X8_isRecord qlk_8_256 ⟨qst_X8_isRecord, qsl_X8_isRecord⟩ ⟨rfl, rfl⟩ (by omega) (by omega)
  rw [if_neg h0] at h
  by_cases h1 : idx = 165
  · subst h1; rw [if_pos rfl] at h; cases h; intro p l e R s m args below meth c Q D cy nL A hC hf hlo; exact q_r1 hC ok_X8_at qw_X8_at qlk_8_165 ⟨qst_X8_at, qsl_X8_at⟩ ⟨rfl, rfl⟩ (by omega) (by omega)
  rw [if_neg h1] at h
  cases h
theorem ok_X8_flags : q_Ok yX8_flags cX8_flags 2 (some .int) 1 T_X8_flags 0 0 := q_okOf (plainFor_of_name (by decide +kernel)) rfl (fun h => by cases h) cs_X8_flags (fun _ _ _ _ h => h)
def ms_X8_exactNumerator : Nat → Option QI := fun i => if i = 256 then some (1, 1, 8, T_X8_isRecord, 0, 0) else if i = 165 then some (1, 1, 8, T_X8_at, 0, 0) else none
theorem ms_X8_exactNumerator_256 : ms_X8_exactNumerator 256 = some (1, 1, 8, T_X8_isRecord, 0, 0) := rfl
theorem ms_X8_exactNumerator_165 : ms_X8_exactNumerator 165 = some (1, 1, 8, T_X8_at, 0, 0) := rfl
def T_X8_exactNumerator : QTT := q_T cX8_exactNumerator 2 8 false (some .long) ms_X8_exactNumerator 0 0
set_option maxRecDepth 100000 in
theorem qw_X8_exactNumerator : q_Wd yX8_exactNumerator cX8_exactNumerator 2 (some .long) 1 := ⟨q_in 1246 rfl rfl, q_in 72 (by decide +kernel) rfl, by decide +kernel, by decide +kernel, by decide +kernel, by decide⟩
theorem qst_X8_exactNumerator : Cond.instanceMethod yX8_exactNumerator ∈ q_Ts := q_in 1244 (by decide +kernel) rfl
theorem qsl_X8_exactNumerator : Cond.selects yX8_exactNumerator.cls yX8_exactNumerator yX8_exactNumerator ∈ q_Ts := q_in 1245 (by decide +kernel) rfl
theorem cs_X8_exactNumerator : ∀ (idx : Nat) (info : QI), ms_X8_exactNumerator idx = some info → q_Cs cX8_exactNumerator 8 1 idx info := by
  intro idx info h
  unfold ms_X8_exactNumerator at h
  by_cases h0 : idx = 256
  · subst h0; rw [if_pos rfl] at h; cases h; intro p l e R s m args below meth c Q D cy nL A hC hf hlo; exact q_r1 hC ok_X8_isRecord qw_X8_isRecord qlk_8_256 ⟨qst_X8_isRecord, qsl_X8_isRecord⟩ ⟨rfl, rfl⟩ (by omega) (by omega)
  rw [if_neg h0] at h
  by_cases h1 : idx = 165
  · subst h1; rw [if_pos rfl] at h; cases h; intro p l e R s m args below meth c Q D cy nL A hC hf hlo; exact q_r1 hC ok_X8_at qw_X8_at qlk_8_165 ⟨qst_X8_at, qsl_X8_at⟩ ⟨rfl, rfl⟩ (by omega) (by omega)
  rw [if_neg h1] at h
  cases h
theorem ok_X8_exactNumerator : q_Ok yX8_exactNumerator cX8_exactNumerator 2 (some .long) 1 T_X8_exactNumerator 0 0 := q_okOf (plainFor_of_name (by decide +kernel)) rfl (fun h => by cases h) cs_X8_exactNumerator (fun _ _ _ _ h => h)
def ms_X8_exactDenominator : Nat → Option QI := fun i => if i = 256 then some (1, 1, 8, T_X8_isRecord, 0, 0) else if i = 165 then some (1, 1, 8, T_X8_at, 0, 0) else none
theorem ms_X8_exactDenominator_256 : ms_X8_exactDenominator 256 = some (1, 1, 8, T_X8_isRecord, 0, 0) := rfl
theorem ms_X8_exactDenominator_165 : ms_X8_exactDenominator 165 = some (1, 1, 8, T_X8_at, 0, 0) := rfl
def T_X8_exactDenominator : QTT := q_T cX8_exactDenominator 2 8 false (some .long) ms_X8_exactDenominator 0 0
set_option maxRecDepth 100000 in
theorem qw_X8_exactDenominator : q_Wd yX8_exactDenominator cX8_exactDenominator 2 (some .long) 1 := ⟨q_in 1251 rfl rfl, q_in 72 (by decide +kernel) rfl, by decide +kernel, by decide +kernel, by decide +kernel, by decide⟩
theorem qst_X8_exactDenominator : Cond.instanceMethod yX8_exactDenominator ∈ q_Ts := q_in 1249 (by decide +kernel) rfl
theorem qsl_X8_exactDenominator : Cond.selects yX8_exactDenominator.cls yX8_exactDenominator yX8_exactDenominator ∈ q_Ts := q_in 1250 (by decide +kernel) rfl
theorem cs_X8_exactDenominator : ∀ (idx : Nat) (info : QI), ms_X8_exactDenominator idx = some info → q_Cs cX8_exactDenominator 8 1 idx info := by
  intro idx info h
  unfold ms_X8_exactDenominator at h
  by_cases h0 : idx = 256
  · subst h0; rw [if_pos rfl] at h; cases h; intro p l e R s m args below meth c Q D cy nL A hC hf hlo; exact q_r1 hC ok_X8_isRecord qw_X8_isRecord qlk_8_256 ⟨qst_X8_isRecord, qsl_X8_isRecord⟩ ⟨rfl, rfl⟩ (by omega) (by omega)
  rw [if_neg h0] at h
  by_cases h1 : idx = 165
  · subst h1; rw [if_pos rfl] at h; cases h; intro p l e R s m args below meth c Q D cy nL A hC hf hlo; exact q_r1 hC ok_X8_at qw_X8_at qlk_8_165 ⟨qst_X8_at, qsl_X8_at⟩ ⟨rfl, rfl⟩ (by omega) (by omega)
  rw [if_neg h1] at h
  cases h
theorem ok_X8_exactDenominator : q_Ok yX8_exactDenominator cX8_exactDenominator 2 (some .long) 1 T_X8_exactDenominator 0 0 := q_okOf (plainFor_of_name (by decide +kernel)) rfl (fun h => by cases h) cs_X8_exactDenominator (fun _ _ _ _ h => h)
def ms_X8_replay : Nat → Option QI := fun i => if i = 256 then some (1, 1, 8, T_X8_isRecord, 0, 0) else if i = 53 then some (0, 3, 8, T_X8_in, 0, 0) else if i = 165 then some (1, 1, 8, T_X8_at, 0, 0) else if i = 121 then some (1, 5, 8, T_X8_finds, 0, 0) else if i = 153 then some (0, 3, 8, T_X8_drawn, 0, 0) else if i = 125 then some (1, 5, 8, T_X8_picks, 0, 0) else none
theorem ms_X8_replay_256 : ms_X8_replay 256 = some (1, 1, 8, T_X8_isRecord, 0, 0) := rfl
theorem ms_X8_replay_53 : ms_X8_replay 53 = some (0, 3, 8, T_X8_in, 0, 0) := rfl
theorem ms_X8_replay_165 : ms_X8_replay 165 = some (1, 1, 8, T_X8_at, 0, 0) := rfl
theorem ms_X8_replay_121 : ms_X8_replay 121 = some (1, 5, 8, T_X8_finds, 0, 0) := rfl
theorem ms_X8_replay_153 : ms_X8_replay 153 = some (0, 3, 8, T_X8_drawn, 0, 0) := rfl
theorem ms_X8_replay_125 : ms_X8_replay 125 = some (1, 5, 8, T_X8_picks, 0, 0) := rfl
def T_X8_replay : QTT := q_T cX8_replay 6 8 false (some .int) ms_X8_replay 0 0
set_option maxRecDepth 100000 in
theorem qw_X8_replay : q_Wd yX8_replay cX8_replay 6 (some .int) 3 := ⟨q_in 1255 rfl rfl, q_in 72 (by decide +kernel) rfl, by decide +kernel, by decide +kernel, by decide +kernel, by decide⟩
theorem qst_X8_replay : Cond.instanceMethod yX8_replay ∈ q_Ts := q_in 1253 (by decide +kernel) rfl
theorem qsl_X8_replay : Cond.selects yX8_replay.cls yX8_replay yX8_replay ∈ q_Ts := q_in 1254 (by decide +kernel) rfl
theorem cs_X8_replay : ∀ (idx : Nat) (info : QI), ms_X8_replay idx = some info → q_Cs cX8_replay 8 6 idx info := by
  intro idx info h
  unfold ms_X8_replay at h
  by_cases h0 : idx = 256
  · subst h0; rw [if_pos rfl] at h; cases h; intro p l e R s m args below meth c Q D cy nL A hC hf hlo; exact q_r1 hC ok_X8_isRecord qw_X8_isRecord qlk_8_256 ⟨qst_X8_isRecord, qsl_X8_isRecord⟩ ⟨rfl, rfl⟩ (by omega) (by omega)
  rw [if_neg h0] at h
  by_cases h1 : idx = 53
  · subst h1; rw [if_pos rfl] at h; cases h; intro p l e R s m args below meth c Q D cy nL A hC hf hlo; exact q_r0 hC ok_X8_in qw_X8_in qlk_8_53 qst_X8_in (by omega) (by omega)
  rw [if_neg h1] at h
  by_cases h2 : idx = 165
  · subst h2; rw [if_pos rfl] at h; cases h; intro p l e R s m args below meth c Q D cy nL A hC hf hlo; exact q_r1 hC ok_X8_at qw_X8_at qlk_8_165 ⟨qst_X8_at, qsl_X8_at⟩ ⟨rfl, rfl⟩ (by omega) (by omega)
  rw [if_neg h2] at h
  by_cases h3 : idx = 121
  · subst h3; rw [if_pos rfl] at h; cases h; intro p l e R s m args below meth c Q D cy nL A hC hf hlo; exact q_r1 hC ok_X8_finds qw_X8_finds qlk_8_121 ⟨qst_X8_finds, qsl_X8_finds⟩ ⟨rfl, rfl⟩ (by omega) (by omega)
  rw [if_neg h3] at h
  by_cases h4 : idx = 153
  · subst h4; rw [if_pos rfl] at h; cases h; intro p l e R s m args below meth c Q D cy nL A hC hf hlo; exact q_r0 hC ok_X8_drawn qw_X8_drawn qlk_8_153 qst_X8_drawn (by omega) (by omega)
  rw [if_neg h4] at h
  by_cases h5 : idx = 125
  · subst h5; rw [if_pos rfl] at h; cases h; intro p l e R s m args below meth c Q D cy nL A hC hf hlo; exact q_r1 hC ok_X8_picks qw_X8_picks qlk_8_125 ⟨qst_X8_picks, qsl_X8_picks⟩ ⟨rfl, rfl⟩ (by omega) (by omega)
  rw [if_neg h5] at h
  cases h
theorem ok_X8_replay : q_Ok yX8_replay cX8_replay 6 (some .int) 6 T_X8_replay 0 0 := q_okOf (plainFor_of_name (by decide +kernel)) rfl (fun h => by cases h) cs_X8_replay (fun _ _ _ _ h => h)
def ms_X8_mean : Nat → Option QI := fun i => if i = 256 then some (1, 1, 8, T_X8_isRecord, 0, 0) else if i = 165 then some (1, 1, 8, T_X8_at, 0, 0) else if i = 171 then some (1, 1, 8, T_X8_meanAt, 0, 0) else none
theorem ms_X8_mean_256 : ms_X8_mean 256 = some (1, 1, 8, T_X8_isRecord, 0, 0) := rfl
theorem ms_X8_mean_165 : ms_X8_mean 165 = some (1, 1, 8, T_X8_at, 0, 0) := rfl
theorem ms_X8_mean_171 : ms_X8_mean 171 = some (1, 1, 8, T_X8_meanAt, 0, 0) := rfl
def T_X8_mean : QTT := q_T cX8_mean 2 8 false (some .long) ms_X8_mean 0 0
set_option maxRecDepth 100000 in
theorem qw_X8_mean : q_Wd yX8_mean cX8_mean 2 (some .long) 1 := ⟨q_in 1259 rfl rfl, q_in 72 (by decide +kernel) rfl, by decide +kernel, by decide +kernel, by decide +kernel, by decide⟩
theorem qst_X8_mean : Cond.instanceMethod yX8_mean ∈ q_Ts := q_in 1257 (by decide +kernel) rfl
theorem qsl_X8_mean : Cond.selects yX8_mean.cls yX8_mean yX8_mean ∈ q_Ts := q_in 1258 (by decide +kernel) rfl
theorem cs_X8_mean : ∀ (idx : Nat) (info : QI), ms_X8_mean idx = some info → q_Cs cX8_mean 8 3 idx info := by
  intro idx info h
  unfold ms_X8_mean at h
  by_cases h0 : idx = 256
  · subst h0; rw [if_pos rfl] at h; cases h; intro p l e R s m args below meth c Q D cy nL A hC hf hlo; exact q_r1 hC ok_X8_isRecord qw_X8_isRecord qlk_8_256 ⟨qst_X8_isRecord, qsl_X8_isRecord⟩ ⟨rfl, rfl⟩ (by omega) (by omega)
  rw [if_neg h0] at h
  by_cases h1 : idx = 165
  · subst h1; rw [if_pos rfl] at h; cases h; intro p l e R s m args below meth c Q D cy nL A hC hf hlo; exact q_r1 hC ok_X8_at qw_X8_at qlk_8_165 ⟨qst_X8_at, qsl_X8_at⟩ ⟨rfl, rfl⟩ (by omega) (by omega)
  rw [if_neg h1] at h
  by_cases h2 : idx = 171
  · subst h2; rw [if_pos rfl] at h; cases h; intro p l e R s m args below meth c Q D cy nL A hC hf hlo; exact q_r1 hC ok_X8_meanAt qw_X8_meanAt qlk_8_171 ⟨qst_X8_meanAt, qsl_X8_meanAt⟩ ⟨rfl, rfl⟩ (by omega) (by omega)
  rw [if_neg h2] at h
  cases h
theorem ok_X8_mean : q_Ok yX8_mean cX8_mean 2 (some .long) 3 T_X8_mean 0 0 := q_okOf (plainFor_of_name (by decide +kernel)) rfl (fun h => by cases h) cs_X8_mean (fun _ _ _ _ h => h)
def ms_X8_biasUp : Nat → Option QI := fun i => if i = 171 then some (1, 1, 8, T_X8_meanAt, 0, 0) else none
theorem ms_X8_biasUp_171 : ms_X8_biasUp 171 = some (1, 1, 8, T_X8_meanAt, 0, 0) := rfl
def T_X8_biasUp : QTT := q_T cX8_biasUp 2 8 false (some .long) ms_X8_biasUp 0 0
set_option maxRecDepth 100000 in
theorem qw_X8_biasUp : q_Wd yX8_biasUp cX8_biasUp 2 (some .long) 1 := ⟨q_in 1267 rfl rfl, q_in 72 (by decide +kernel) rfl, by decide +kernel, by decide +kernel, by decide +kernel, by decide⟩
theorem qst_X8_biasUp : Cond.instanceMethod yX8_biasUp ∈ q_Ts := q_in 1266 (by decide +kernel) rfl
theorem qsl_X8_biasUp : Cond.selects yX8_biasUp.cls yX8_biasUp yX8_biasUp ∈ q_Ts := q_in 56 (by decide +kernel) rfl
theorem cs_X8_biasUp : ∀ (idx : Nat) (info : QI), ms_X8_biasUp idx = some info → q_Cs cX8_biasUp 8 3 idx info := by
  intro idx info h
  unfold ms_X8_biasUp at h
  by_cases h0 : idx = 171
  · subst h0; rw [if_pos rfl] at h; cases h; intro p l e R s m args below meth c Q D cy nL A hC hf hlo; exact q_r1 hC ok_X8_meanAt qw_X8_meanAt qlk_8_171 ⟨qst_X8_meanAt, qsl_X8_meanAt⟩ ⟨rfl, rfl⟩ (by omega) (by omega)
  rw [if_neg h0] at h
  cases h
theorem ok_X8_biasUp : q_Ok yX8_biasUp cX8_biasUp 2 (some .long) 3 T_X8_biasUp 0 0 := q_okOf (plainFor_of_name (by decide +kernel)) rfl (fun h => by cases h) cs_X8_biasUp (fun _ _ _ _ h => h)
def ms_X8_biasDown : Nat → Option QI := fun i => none
def T_X8_biasDown : QTT := q_T cX8_biasDown 2 8 false (some .long) ms_X8_biasDown 0 0
set_option maxRecDepth 100000 in
theorem qw_X8_biasDown : q_Wd yX8_biasDown cX8_biasDown 2 (some .long) 1 := ⟨q_in 1271 rfl rfl, q_in 72 (by decide +kernel) rfl, by decide +kernel, by decide +kernel, by decide +kernel, by decide⟩
theorem qst_X8_biasDown : Cond.instanceMethod yX8_biasDown ∈ q_Ts := q_in 1270 (by decide +kernel) rfl
theorem qsl_X8_biasDown : Cond.selects yX8_biasDown.cls yX8_biasDown yX8_biasDown ∈ q_Ts := q_in 57 (by decide +kernel) rfl
theorem cs_X8_biasDown : ∀ (idx : Nat) (info : QI), ms_X8_biasDown idx = some info → q_Cs cX8_biasDown 8 0 idx info := by
  intro idx info h
  unfold ms_X8_biasDown at h
  cases h
theorem ok_X8_biasDown : q_Ok yX8_biasDown cX8_biasDown 2 (some .long) 0 T_X8_biasDown 0 0 := q_okOf (plainFor_of_name (by decide +kernel)) rfl (fun h => by cases h) cs_X8_biasDown (fun _ _ _ _ h => h)
theorem qlk_8_272 : Cond.methodLink (q_ow 8) 272 yX8_biasUp ∈ q_Ts := q_in 1264 (by decide +kernel) rfl
theorem qlk_8_275 : Cond.methodLink (q_ow 8) 275 yX8_biasDown ∈ q_Ts := q_in 1268 (by decide +kernel) rfl
def ms_X8_biasNumerator : Nat → Option QI := fun i => if i = 256 then some (1, 1, 8, T_X8_isRecord, 0, 0) else if i = 165 then some (1, 1, 8, T_X8_at, 0, 0) else if i = 272 then some (1, 1, 8, T_X8_biasUp, 0, 0) else if i = 275 then some (1, 1, 8, T_X8_biasDown, 0, 0) else if i = 168 then some (0, 2, 8, T_X8_divisor, 0, 0) else none
theorem ms_X8_biasNumerator_256 : ms_X8_biasNumerator 256 = some (1, 1, 8, T_X8_isRecord, 0, 0) := rfl
theorem ms_X8_biasNumerator_165 : ms_X8_biasNumerator 165 = some (1, 1, 8, T_X8_at, 0, 0) := rfl
theorem ms_X8_biasNumerator_272 : ms_X8_biasNumerator 272 = some (1, 1, 8, T_X8_biasUp, 0, 0) := rfl
theorem ms_X8_biasNumerator_275 : ms_X8_biasNumerator 275 = some (1, 1, 8, T_X8_biasDown, 0, 0) := rfl
theorem ms_X8_biasNumerator_168 : ms_X8_biasNumerator 168 = some (0, 2, 8, T_X8_divisor, 0, 0) := rfl
def T_X8_biasNumerator : QTT := q_T cX8_biasNumerator 2 8 false (some .long) ms_X8_biasNumerator 0 0
set_option maxRecDepth 100000 in
theorem qw_X8_biasNumerator : q_Wd yX8_biasNumerator cX8_biasNumerator 2 (some .long) 1 := ⟨q_in 1263 rfl rfl, q_in 72 (by decide +kernel) rfl, by decide +kernel, by decide +kernel, by decide +kernel, by decide⟩
theorem qst_X8_biasNumerator : Cond.instanceMethod yX8_biasNumerator ∈ q_Ts := q_in 1261 (by decide +kernel) rfl
theorem qsl_X8_biasNumerator : Cond.selects yX8_biasNumerator.cls yX8_biasNumerator yX8_biasNumerator ∈ q_Ts := q_in 1262 (by decide +kernel) rfl
theorem cs_X8_biasNumerator : ∀ (idx : Nat) (info : QI), ms_X8_biasNumerator idx = some info → q_Cs cX8_biasNumerator 8 4 idx info := by
  intro idx info h
  unfold ms_X8_biasNumerator at h
  by_cases h0 : idx = 256
  · subst h0; rw [if_pos rfl] at h; cases h; intro p l e R s m args below meth c Q D cy nL A hC hf hlo; exact q_r1 hC ok_X8_isRecord qw_X8_isRecord qlk_8_256 ⟨qst_X8_isRecord, qsl_X8_isRecord⟩ ⟨rfl, rfl⟩ (by omega) (by omega)
  rw [if_neg h0] at h
  by_cases h1 : idx = 165
  · subst h1; rw [if_pos rfl] at h; cases h; intro p l e R s m args below meth c Q D cy nL A hC hf hlo; exact q_r1 hC ok_X8_at qw_X8_at qlk_8_165 ⟨qst_X8_at, qsl_X8_at⟩ ⟨rfl, rfl⟩ (by omega) (by omega)
  rw [if_neg h1] at h
  by_cases h2 : idx = 272
  · subst h2; rw [if_pos rfl] at h; cases h; intro p l e R s m args below meth c Q D cy nL A hC hf hlo; exact q_r1 hC ok_X8_biasUp qw_X8_biasUp qlk_8_272 ⟨qst_X8_biasUp, qsl_X8_biasUp⟩ ⟨rfl, rfl⟩ (by omega) (by omega)
  rw [if_neg h2] at h
  by_cases h3 : idx = 275
  · subst h3; rw [if_pos rfl] at h; cases h; intro p l e R s m args below meth c Q D cy nL A hC hf hlo; exact q_r1 hC ok_X8_biasDown qw_X8_biasDown qlk_8_275 ⟨qst_X8_biasDown, qsl_X8_biasDown⟩ ⟨rfl, rfl⟩ (by omega) (by omega)
  rw [if_neg h3] at h
  by_cases h4 : idx = 168
  · subst h4; rw [if_pos rfl] at h; cases h; intro p l e R s m args below meth c Q D cy nL A hC hf hlo; exact q_r0 hC ok_X8_divisor qw_X8_divisor qlk_8_168 qst_X8_divisor (by omega) (by omega)
  rw [if_neg h4] at h
  cases h
theorem ok_X8_biasNumerator : q_Ok yX8_biasNumerator cX8_biasNumerator 2 (some .long) 4 T_X8_biasNumerator 0 0 := q_okOf (plainFor_of_name (by decide +kernel)) rfl (fun h => by cases h) cs_X8_biasNumerator (fun _ _ _ _ h => h)
def ms_X8_biasDenominator : Nat → Option QI := fun i => if i = 256 then some (1, 1, 8, T_X8_isRecord, 0, 0) else if i = 165 then some (1, 1, 8, T_X8_at, 0, 0) else if i = 275 then some (1, 1, 8, T_X8_biasDown, 0, 0) else if i = 272 then some (1, 1, 8, T_X8_biasUp, 0, 0) else if i = 168 then some (0, 2, 8, T_X8_divisor, 0, 0) else none
theorem ms_X8_biasDenominator_256 : ms_X8_biasDenominator 256 = some (1, 1, 8, T_X8_isRecord, 0, 0) := rfl
theorem ms_X8_biasDenominator_165 : ms_X8_biasDenominator 165 = some (1, 1, 8, T_X8_at, 0, 0) := rfl
theorem ms_X8_biasDenominator_275 : ms_X8_biasDenominator 275 = some (1, 1, 8, T_X8_biasDown, 0, 0) := rfl
theorem ms_X8_biasDenominator_272 : ms_X8_biasDenominator 272 = some (1, 1, 8, T_X8_biasUp, 0, 0) := rfl
theorem ms_X8_biasDenominator_168 : ms_X8_biasDenominator 168 = some (0, 2, 8, T_X8_divisor, 0, 0) := rfl
def T_X8_biasDenominator : QTT := q_T cX8_biasDenominator 2 8 false (some .long) ms_X8_biasDenominator 0 0
set_option maxRecDepth 100000 in
theorem qw_X8_biasDenominator : q_Wd yX8_biasDenominator cX8_biasDenominator 2 (some .long) 1 := ⟨q_in 1275 rfl rfl, q_in 72 (by decide +kernel) rfl, by decide +kernel, by decide +kernel, by decide +kernel, by decide⟩
theorem qst_X8_biasDenominator : Cond.instanceMethod yX8_biasDenominator ∈ q_Ts := q_in 1273 (by decide +kernel) rfl
theorem qsl_X8_biasDenominator : Cond.selects yX8_biasDenominator.cls yX8_biasDenominator yX8_biasDenominator ∈ q_Ts := q_in 1274 (by decide +kernel) rfl
theorem cs_X8_biasDenominator : ∀ (idx : Nat) (info : QI), ms_X8_biasDenominator idx = some info → q_Cs cX8_biasDenominator 8 4 idx info := by
  intro idx info h
  unfold ms_X8_biasDenominator at h
  by_cases h0 : idx = 256
  · subst h0; rw [if_pos rfl] at h; cases h; intro p l e R s m args below meth c Q D cy nL A hC hf hlo; exact q_r1 hC ok_X8_isRecord qw_X8_isRecord qlk_8_256 ⟨qst_X8_isRecord, qsl_X8_isRecord⟩ ⟨rfl, rfl⟩ (by omega) (by omega)
  rw [if_neg h0] at h
  by_cases h1 : idx = 165
  · subst h1; rw [if_pos rfl] at h; cases h; intro p l e R s m args below meth c Q D cy nL A hC hf hlo; exact q_r1 hC ok_X8_at qw_X8_at qlk_8_165 ⟨qst_X8_at, qsl_X8_at⟩ ⟨rfl, rfl⟩ (by omega) (by omega)
  rw [if_neg h1] at h
  by_cases h2 : idx = 275
  · subst h2; rw [if_pos rfl] at h; cases h; intro p l e R s m args below meth c Q D cy nL A hC hf hlo; exact q_r1 hC ok_X8_biasDown qw_X8_biasDown qlk_8_275 ⟨qst_X8_biasDown, qsl_X8_biasDown⟩ ⟨rfl, rfl⟩ (by omega) (by omega)
  rw [if_neg h2] at h
  by_cases h3 : idx = 272
  · subst h3; rw [if_pos rfl] at h; cases h; intro p l e R s m args below meth c Q D cy nL A hC hf hlo; exact q_r1 hC ok_X8_biasUp qw_X8_biasUp qlk_8_272 ⟨qst_X8_biasUp, qsl_X8_biasUp⟩ ⟨rfl, rfl⟩ (by omega) (by omega)
  rw [if_neg h3] at h
  by_cases h4 : idx = 168
  · subst h4; rw [if_pos rfl] at h; cases h; intro p l e R s m args below meth c Q D cy nL A hC hf hlo; exact q_r0 hC ok_X8_divisor qw_X8_divisor qlk_8_168 qst_X8_divisor (by omega) (by omega)
  rw [if_neg h4] at h
  cases h
theorem ok_X8_biasDenominator : q_Ok yX8_biasDenominator cX8_biasDenominator 2 (some .long) 4 T_X8_biasDenominator 0 0 := q_okOf (plainFor_of_name (by decide +kernel)) rfl (fun h => by cases h) cs_X8_biasDenominator (fun _ _ _ _ h => h)
def ms_X8_variance : Nat → Option QI := fun i => if i = 256 then some (1, 1, 8, T_X8_isRecord, 0, 0) else if i = 165 then some (1, 1, 8, T_X8_at, 0, 0) else if i = 175 then some (1, 1, 8, T_X8_varianceAt, 0, 0) else none
theorem ms_X8_variance_256 : ms_X8_variance 256 = some (1, 1, 8, T_X8_isRecord, 0, 0) := rfl
theorem ms_X8_variance_165 : ms_X8_variance 165 = some (1, 1, 8, T_X8_at, 0, 0) := rfl
theorem ms_X8_variance_175 : ms_X8_variance 175 = some (1, 1, 8, T_X8_varianceAt, 0, 0) := rfl
def T_X8_variance : QTT := q_T cX8_variance 2 8 false (some .long) ms_X8_variance 0 0
set_option maxRecDepth 100000 in
theorem qw_X8_variance : q_Wd yX8_variance cX8_variance 2 (some .long) 1 := ⟨q_in 1279 rfl rfl, q_in 72 (by decide +kernel) rfl, by decide +kernel, by decide +kernel, by decide +kernel, by decide⟩
theorem qst_X8_variance : Cond.instanceMethod yX8_variance ∈ q_Ts := q_in 1277 (by decide +kernel) rfl
theorem qsl_X8_variance : Cond.selects yX8_variance.cls yX8_variance yX8_variance ∈ q_Ts := q_in 1278 (by decide +kernel) rfl
theorem cs_X8_variance : ∀ (idx : Nat) (info : QI), ms_X8_variance idx = some info → q_Cs cX8_variance 8 3 idx info := by
  intro idx info h
  unfold ms_X8_variance at h
  by_cases h0 : idx = 256
  · subst h0; rw [if_pos rfl] at h; cases h; intro p l e R s m args below meth c Q D cy nL A hC hf hlo; exact q_r1 hC ok_X8_isRecord qw_X8_isRecord qlk_8_256 ⟨qst_X8_isRecord, qsl_X8_isRecord⟩ ⟨rfl, rfl⟩ (by omega) (by omega)
  rw [if_neg h0] at h
  by_cases h1 : idx = 165
  · subst h1; rw [if_pos rfl] at h; cases h; intro p l e R s m args below meth c Q D cy nL A hC hf hlo; exact q_r1 hC ok_X8_at qw_X8_at qlk_8_165 ⟨qst_X8_at, qsl_X8_at⟩ ⟨rfl, rfl⟩ (by omega) (by omega)
  rw [if_neg h1] at h
  by_cases h2 : idx = 175
  · subst h2; rw [if_pos rfl] at h; cases h; intro p l e R s m args below meth c Q D cy nL A hC hf hlo; exact q_r1 hC ok_X8_varianceAt qw_X8_varianceAt qlk_8_175 ⟨qst_X8_varianceAt, qsl_X8_varianceAt⟩ ⟨rfl, rfl⟩ (by omega) (by omega)
  rw [if_neg h2] at h
  cases h
theorem ok_X8_variance : q_Ok yX8_variance cX8_variance 2 (some .long) 3 T_X8_variance 0 0 := q_okOf (plainFor_of_name (by decide +kernel)) rfl (fun h => by cases h) cs_X8_variance (fun _ _ _ _ h => h)
def ms_X8_account : Nat → Option QI := fun i => if i = 53 then some (0, 3, 8, T_X8_in, 0, 0) else none
theorem ms_X8_account_53 : ms_X8_account 53 = some (0, 3, 8, T_X8_in, 0, 0) := rfl
def T_X8_account : QTT := q_T cX8_account 2 8 false (some .long) ms_X8_account 0 0
set_option maxRecDepth 100000 in
theorem qw_X8_account : q_Wd yX8_account cX8_account 2 (some .long) 1 := ⟨q_in 1283 rfl rfl, q_in 72 (by decide +kernel) rfl, by decide +kernel, by decide +kernel, by decide +kernel, by decide⟩
theorem qst_X8_account : Cond.instanceMethod yX8_account ∈ q_Ts := q_in 1281 (by decide +kernel) rfl
theorem qsl_X8_account : Cond.selects yX8_account.cls yX8_account yX8_account ∈ q_Ts := q_in 1282 (by decide +kernel) rfl
theorem cs_X8_account : ∀ (idx : Nat) (info : QI), ms_X8_account idx = some info → q_Cs cX8_account 8 1 idx info := by
  intro idx info h
  unfold ms_X8_account at h
  by_cases h0 : idx = 53
  · subst h0; rw [if_pos rfl] at h; cases h; intro p l e R s m args below meth c Q D cy nL A hC hf hlo; exact q_r0 hC ok_X8_in qw_X8_in qlk_8_53 qst_X8_in (by omega) (by omega)
  rw [if_neg h0] at h
  cases h
theorem ok_X8_account : q_Ok yX8_account cX8_account 2 (some .long) 1 T_X8_account 0 0 := q_okOf (plainFor_of_name (by decide +kernel)) rfl (fun h => by cases h) cs_X8_account (fun _ _ _ _ h => h)
def ms_X8_clearAccount : Nat → Option QI := fun i => if i = 105 then some (1, 0, 8, T_X8_begins, 0, 0) else none
theorem ms_X8_clearAccount_105 : ms_X8_clearAccount 105 = some (1, 0, 8, T_X8_begins, 0, 0) := rfl
def T_X8_clearAccount : QTT := q_T cX8_clearAccount 4 8 false (some .int) ms_X8_clearAccount 0 0
set_option maxRecDepth 100000 in
theorem qw_X8_clearAccount : q_Wd yX8_clearAccount cX8_clearAccount 4 (some .int) 0 := ⟨q_in 1287 rfl rfl, q_in 72 (by decide +kernel) rfl, by decide +kernel, by decide +kernel, by decide +kernel, by decide⟩
theorem qst_X8_clearAccount : Cond.instanceMethod yX8_clearAccount ∈ q_Ts := q_in 1285 (by decide +kernel) rfl
theorem qsl_X8_clearAccount : Cond.selects yX8_clearAccount.cls yX8_clearAccount yX8_clearAccount ∈ q_Ts := q_in 1286 (by decide +kernel) rfl
theorem cs_X8_clearAccount : ∀ (idx : Nat) (info : QI), ms_X8_clearAccount idx = some info → q_Cs cX8_clearAccount 8 1 idx info := by
  intro idx info h
  unfold ms_X8_clearAccount at h
  by_cases h0 : idx = 105
  · subst h0; rw [if_pos rfl] at h; cases h; intro p l e R s m args below meth c Q D cy nL A hC hf hlo; exact q_r1 hC ok_X8_begins qw_X8_begins qlk_8_105 ⟨qst_X8_begins, qsl_X8_begins⟩ ⟨rfl, rfl⟩ (by omega) (by omega)
  rw [if_neg h0] at h
  cases h
theorem ok_X8_clearAccount : q_Ok yX8_clearAccount cX8_clearAccount 4 (some .int) 1 T_X8_clearAccount 0 0 := q_okOf (plainFor_of_name (by decide +kernel)) rfl (fun h => by cases h) cs_X8_clearAccount (fun _ _ _ _ h => h)
def ms_X8_isNumber : Nat → Option QI := fun i => if i = 53 then some (0, 3, 8, T_X8_in, 0, 0) else none
theorem ms_X8_isNumber_53 : ms_X8_isNumber 53 = some (0, 3, 8, T_X8_in, 0, 0) := rfl
def T_X8_isNumber : QTT := q_T cX8_isNumber 1 8 false (some .boolean) ms_X8_isNumber 0 0
set_option maxRecDepth 100000 in
theorem qw_X8_isNumber : q_Wd yX8_isNumber cX8_isNumber 1 (some .boolean) 1 := ⟨q_in 1295 rfl rfl, q_in 72 (by decide +kernel) rfl, by decide +kernel, by decide +kernel, by decide +kernel, by decide⟩
theorem qst_X8_isNumber : Cond.static yX8_isNumber ∈ q_Ts := q_in 1294 (by decide +kernel) rfl
theorem cs_X8_isNumber : ∀ (idx : Nat) (info : QI), ms_X8_isNumber idx = some info → q_Cs cX8_isNumber 8 1 idx info := by
  intro idx info h
  unfold ms_X8_isNumber at h
  by_cases h0 : idx = 53
  · subst h0; rw [if_pos rfl] at h; cases h; intro p l e R s m args below meth c Q D cy nL A hC hf hlo; exact q_r0 hC ok_X8_in qw_X8_in qlk_8_53 qst_X8_in (by omega) (by omega)
  rw [if_neg h0] at h
  cases h
theorem ok_X8_isNumber : q_Ok yX8_isNumber cX8_isNumber 1 (some .boolean) 1 T_X8_isNumber 0 0 := q_okOf (plainFor_of_name (by decide +kernel)) rfl (fun h => by cases h) cs_X8_isNumber (fun _ _ _ _ h => h)
def ms_X8_most : Nat → Option QI := fun i => if i = 108 then some (1, 2, 8, T_X8_part, 0, 0) else if i = 71 then some (0, 2, 8, T_X8_greatest, 0, 0) else none
theorem ms_X8_most_108 : ms_X8_most 108 = some (1, 2, 8, T_X8_part, 0, 0) := rfl
theorem ms_X8_most_71 : ms_X8_most 71 = some (0, 2, 8, T_X8_greatest, 0, 0) := rfl
def T_X8_most : QTT := q_T cX8_most 2 8 false (some .long) ms_X8_most 0 0
set_option maxRecDepth 100000 in
theorem qw_X8_most : q_Wd yX8_most cX8_most 2 (some .long) 1 := ⟨q_in 1303 rfl rfl, q_in 72 (by decide +kernel) rfl, by decide +kernel, by decide +kernel, by decide +kernel, by decide⟩
theorem qst_X8_most : Cond.instanceMethod yX8_most ∈ q_Ts := q_in 1302 (by decide +kernel) rfl
theorem qsl_X8_most : Cond.selects yX8_most.cls yX8_most yX8_most ∈ q_Ts := q_in 59 (by decide +kernel) rfl
theorem cs_X8_most : ∀ (idx : Nat) (info : QI), ms_X8_most idx = some info → q_Cs cX8_most 8 1 idx info := by
  intro idx info h
  unfold ms_X8_most at h
  by_cases h0 : idx = 108
  · subst h0; rw [if_pos rfl] at h; cases h; intro p l e R s m args below meth c Q D cy nL A hC hf hlo; exact q_r1 hC ok_X8_part qw_X8_part qlk_8_108 ⟨qst_X8_part, qsl_X8_part⟩ ⟨rfl, rfl⟩ (by omega) (by omega)
  rw [if_neg h0] at h
  by_cases h1 : idx = 71
  · subst h1; rw [if_pos rfl] at h; cases h; intro p l e R s m args below meth c Q D cy nL A hC hf hlo; exact q_r0 hC ok_X8_greatest qw_X8_greatest qlk_8_71 qst_X8_greatest (by omega) (by omega)
  rw [if_neg h1] at h
  cases h
theorem ok_X8_most : q_Ok yX8_most cX8_most 2 (some .long) 1 T_X8_most 0 0 := q_okOf (plainFor_of_name (by decide +kernel)) rfl (fun h => by cases h) cs_X8_most (fun _ _ _ _ h => h)
theorem qlk_8_280 : Cond.methodLink (q_ow 8) 280 yX8_most ∈ q_Ts := q_in 1300 (by decide +kernel) rfl
def ms_X8_isIn : Nat → Option QI := fun i => if i = 280 then some (1, 1, 8, T_X8_most, 0, 0) else if i = 108 then some (1, 2, 8, T_X8_part, 0, 0) else if i = 61 then some (0, 4, 8, T_X8_cut, 0, 0) else none
theorem ms_X8_isIn_280 : ms_X8_isIn 280 = some (1, 1, 8, T_X8_most, 0, 0) := rfl
theorem ms_X8_isIn_108 : ms_X8_isIn 108 = some (1, 2, 8, T_X8_part, 0, 0) := rfl
theorem ms_X8_isIn_61 : ms_X8_isIn 61 = some (0, 4, 8, T_X8_cut, 0, 0) := rfl
def T_X8_isIn : QTT := q_T cX8_isIn 6 8 false (some .boolean) ms_X8_isIn 0 0
set_option maxRecDepth 100000 in
theorem qw_X8_isIn : q_Wd yX8_isIn cX8_isIn 6 (some .boolean) 2 := ⟨q_in 1299 rfl rfl, q_in 72 (by decide +kernel) rfl, by decide +kernel, by decide +kernel, by decide +kernel, by decide⟩
theorem qst_X8_isIn : Cond.instanceMethod yX8_isIn ∈ q_Ts := q_in 1298 (by decide +kernel) rfl
theorem qsl_X8_isIn : Cond.selects yX8_isIn.cls yX8_isIn yX8_isIn ∈ q_Ts := q_in 58 (by decide +kernel) rfl
theorem cs_X8_isIn : ∀ (idx : Nat) (info : QI), ms_X8_isIn idx = some info → q_Cs cX8_isIn 8 2 idx info := by
  intro idx info h
  unfold ms_X8_isIn at h
  by_cases h0 : idx = 280
  · subst h0; rw [if_pos rfl] at h; cases h; intro p l e R s m args below meth c Q D cy nL A hC hf hlo; exact q_r1 hC ok_X8_most qw_X8_most qlk_8_280 ⟨qst_X8_most, qsl_X8_most⟩ ⟨rfl, rfl⟩ (by omega) (by omega)
  rw [if_neg h0] at h
  by_cases h1 : idx = 108
  · subst h1; rw [if_pos rfl] at h; cases h; intro p l e R s m args below meth c Q D cy nL A hC hf hlo; exact q_r1 hC ok_X8_part qw_X8_part qlk_8_108 ⟨qst_X8_part, qsl_X8_part⟩ ⟨rfl, rfl⟩ (by omega) (by omega)
  rw [if_neg h1] at h
  by_cases h2 : idx = 61
  · subst h2; rw [if_pos rfl] at h; cases h; intro p l e R s m args below meth c Q D cy nL A hC hf hlo; exact q_r0 hC ok_X8_cut qw_X8_cut qlk_8_61 qst_X8_cut (by omega) (by omega)
  rw [if_neg h2] at h
  cases h
theorem ok_X8_isIn : q_Ok yX8_isIn cX8_isIn 6 (some .boolean) 2 T_X8_isIn 0 0 := q_okOf (plainFor_of_name (by decide +kernel)) rfl (fun h => by cases h) cs_X8_isIn (fun _ _ _ _ h => h)
theorem qlk_8_283 : Cond.methodLink (q_ow 8) 283 yX8_isNumber ∈ q_Ts := q_in 1293 (by decide +kernel) rfl
theorem qlk_8_286 : Cond.methodLink (q_ow 8) 286 yX8_isIn ∈ q_Ts := q_in 1296 (by decide +kernel) rfl
def ms_X8_isValue : Nat → Option QI := fun i => if i = 100 then some (0, 1, 8, T_X8_isFormat, 0, 0) else if i = 283 then some (0, 1, 8, T_X8_isNumber, 0, 0) else if i = 286 then some (1, 2, 8, T_X8_isIn, 0, 0) else none
theorem ms_X8_isValue_100 : ms_X8_isValue 100 = some (0, 1, 8, T_X8_isFormat, 0, 0) := rfl
theorem ms_X8_isValue_283 : ms_X8_isValue 283 = some (0, 1, 8, T_X8_isNumber, 0, 0) := rfl
theorem ms_X8_isValue_286 : ms_X8_isValue 286 = some (1, 2, 8, T_X8_isIn, 0, 0) := rfl
def T_X8_isValue : QTT := q_T cX8_isValue 3 8 false (some .int) ms_X8_isValue 0 0
set_option maxRecDepth 100000 in
theorem qw_X8_isValue : q_Wd yX8_isValue cX8_isValue 3 (some .int) 2 := ⟨q_in 1292 rfl rfl, q_in 72 (by decide +kernel) rfl, by decide +kernel, by decide +kernel, by decide +kernel, by decide⟩
theorem qst_X8_isValue : Cond.instanceMethod yX8_isValue ∈ q_Ts := q_in 1290 (by decide +kernel) rfl
theorem qsl_X8_isValue : Cond.selects yX8_isValue.cls yX8_isValue yX8_isValue ∈ q_Ts := q_in 1291 (by decide +kernel) rfl
theorem cs_X8_isValue : ∀ (idx : Nat) (info : QI), ms_X8_isValue idx = some info → q_Cs cX8_isValue 8 3 idx info := by
  intro idx info h
  unfold ms_X8_isValue at h
  by_cases h0 : idx = 100
  · subst h0; rw [if_pos rfl] at h; cases h; intro p l e R s m args below meth c Q D cy nL A hC hf hlo; exact q_r0 hC ok_X8_isFormat qw_X8_isFormat qlk_8_100 qst_X8_isFormat (by omega) (by omega)
  rw [if_neg h0] at h
  by_cases h1 : idx = 283
  · subst h1; rw [if_pos rfl] at h; cases h; intro p l e R s m args below meth c Q D cy nL A hC hf hlo; exact q_r0 hC ok_X8_isNumber qw_X8_isNumber qlk_8_283 qst_X8_isNumber (by omega) (by omega)
  rw [if_neg h1] at h
  by_cases h2 : idx = 286
  · subst h2; rw [if_pos rfl] at h; cases h; intro p l e R s m args below meth c Q D cy nL A hC hf hlo; exact q_r1 hC ok_X8_isIn qw_X8_isIn qlk_8_286 ⟨qst_X8_isIn, qsl_X8_isIn⟩ ⟨rfl, rfl⟩ (by omega) (by omega)
  rw [if_neg h2] at h
  cases h
theorem ok_X8_isValue : q_Ok yX8_isValue cX8_isValue 3 (some .int) 3 T_X8_isValue 0 0 := q_okOf (plainFor_of_name (by decide +kernel)) rfl (fun h => by cases h) cs_X8_isValue (fun _ _ _ _ h => h)
def ms_X8_from : Nat → Option QI := fun i => if i = 280 then some (1, 1, 8, T_X8_most, 0, 0) else if i = 108 then some (1, 2, 8, T_X8_part, 0, 0) else if i = 90 then some (0, 4, 8, T_X8_over, 0, 0) else none
theorem ms_X8_from_280 : ms_X8_from 280 = some (1, 1, 8, T_X8_most, 0, 0) := rfl
theorem ms_X8_from_108 : ms_X8_from 108 = some (1, 2, 8, T_X8_part, 0, 0) := rfl
theorem ms_X8_from_90 : ms_X8_from 90 = some (0, 4, 8, T_X8_over, 0, 0) := rfl
def T_X8_from : QTT := q_T cX8_from 4 8 false (some .long) ms_X8_from 0 0
set_option maxRecDepth 100000 in
theorem qw_X8_from : q_Wd yX8_from cX8_from 4 (some .long) 2 := ⟨q_in 1311 rfl rfl, q_in 72 (by decide +kernel) rfl, by decide +kernel, by decide +kernel, by decide +kernel, by decide⟩
theorem qst_X8_from : Cond.instanceMethod yX8_from ∈ q_Ts := q_in 1310 (by decide +kernel) rfl
theorem qsl_X8_from : Cond.selects yX8_from.cls yX8_from yX8_from ∈ q_Ts := q_in 60 (by decide +kernel) rfl
theorem cs_X8_from : ∀ (idx : Nat) (info : QI), ms_X8_from idx = some info → q_Cs cX8_from 8 5 idx info := by
  intro idx info h
  unfold ms_X8_from at h
  by_cases h0 : idx = 280
  · subst h0; rw [if_pos rfl] at h; cases h; intro p l e R s m args below meth c Q D cy nL A hC hf hlo; exact q_r1 hC ok_X8_most qw_X8_most qlk_8_280 ⟨qst_X8_most, qsl_X8_most⟩ ⟨rfl, rfl⟩ (by omega) (by omega)
  rw [if_neg h0] at h
  by_cases h1 : idx = 108
  · subst h1; rw [if_pos rfl] at h; cases h; intro p l e R s m args below meth c Q D cy nL A hC hf hlo; exact q_r1 hC ok_X8_part qw_X8_part qlk_8_108 ⟨qst_X8_part, qsl_X8_part⟩ ⟨rfl, rfl⟩ (by omega) (by omega)
  rw [if_neg h1] at h
  by_cases h2 : idx = 90
  · subst h2; rw [if_pos rfl] at h; cases h; intro p l e R s m args below meth c Q D cy nL A hC hf hlo; exact q_r0 hC ok_X8_over qw_X8_over qlk_8_90 qst_X8_over (by omega) (by omega)
  rw [if_neg h2] at h
  cases h
theorem ok_X8_from : q_Ok yX8_from cX8_from 4 (some .long) 5 T_X8_from 0 0 := q_okOf (plainFor_of_name (by decide +kernel)) rfl (fun h => by cases h) cs_X8_from (fun _ _ _ _ h => h)
theorem qlk_8_290 : Cond.methodLink (q_ow 8) 290 yX8_from ∈ q_Ts := q_in 1308 (by decide +kernel) rfl
def ms_X8_next : Nat → Option QI := fun i => if i = 100 then some (0, 1, 8, T_X8_isFormat, 0, 0) else if i = 283 then some (0, 1, 8, T_X8_isNumber, 0, 0) else if i = 290 then some (1, 2, 8, T_X8_from, 0, 0) else none
theorem ms_X8_next_100 : ms_X8_next 100 = some (0, 1, 8, T_X8_isFormat, 0, 0) := rfl
theorem ms_X8_next_283 : ms_X8_next 283 = some (0, 1, 8, T_X8_isNumber, 0, 0) := rfl
theorem ms_X8_next_290 : ms_X8_next 290 = some (1, 2, 8, T_X8_from, 0, 0) := rfl
def T_X8_next : QTT := q_T cX8_next 6 8 false (some .int) ms_X8_next 0 0
set_option maxRecDepth 100000 in
theorem qw_X8_next : q_Wd yX8_next cX8_next 6 (some .int) 3 := ⟨q_in 1307 rfl rfl, q_in 72 (by decide +kernel) rfl, by decide +kernel, by decide +kernel, by decide +kernel, by decide⟩
theorem qst_X8_next : Cond.instanceMethod yX8_next ∈ q_Ts := q_in 1305 (by decide +kernel) rfl
theorem qsl_X8_next : Cond.selects yX8_next.cls yX8_next yX8_next ∈ q_Ts := q_in 1306 (by decide +kernel) rfl
theorem cs_X8_next : ∀ (idx : Nat) (info : QI), ms_X8_next idx = some info → q_Cs cX8_next 8 6 idx info := by
  intro idx info h
  unfold ms_X8_next at h
  by_cases h0 : idx = 100
  · subst h0; rw [if_pos rfl] at h; cases h; intro p l e R s m args below meth c Q D cy nL A hC hf hlo; exact q_r0 hC ok_X8_isFormat qw_X8_isFormat qlk_8_100 qst_X8_isFormat (by omega) (by omega)
  rw [if_neg h0] at h
  by_cases h1 : idx = 283
  · subst h1; rw [if_pos rfl] at h; cases h; intro p l e R s m args below meth c Q D cy nL A hC hf hlo; exact q_r0 hC ok_X8_isNumber qw_X8_isNumber qlk_8_283 qst_X8_isNumber (by omega) (by omega)
  rw [if_neg h1] at h
  by_cases h2 : idx = 290
  · subst h2; rw [if_pos rfl] at h; cases h; intro p l e R s m args below meth c Q D cy nL A hC hf hlo; exact q_r1 hC ok_X8_from qw_X8_from qlk_8_290 ⟨qst_X8_from, qsl_X8_from⟩ ⟨rfl, rfl⟩ (by omega) (by omega)
  rw [if_neg h2] at h
  cases h
theorem ok_X8_next : q_Ok yX8_next cX8_next 6 (some .int) 6 T_X8_next 0 0 := q_okOf (plainFor_of_name (by decide +kernel)) rfl (fun h => by cases h) cs_X8_next (fun _ _ _ _ h => h)
def ms_X8_upTo : Nat → Option QI := fun i => if i = 108 then some (1, 2, 8, T_X8_part, 0, 0) else if i = 280 then some (1, 1, 8, T_X8_most, 0, 0) else if i = 57 then some (0, 4, 8, T_X8_exponent, 0, 0) else none
theorem ms_X8_upTo_108 : ms_X8_upTo 108 = some (1, 2, 8, T_X8_part, 0, 0) := rfl
theorem ms_X8_upTo_280 : ms_X8_upTo 280 = some (1, 1, 8, T_X8_most, 0, 0) := rfl
theorem ms_X8_upTo_57 : ms_X8_upTo 57 = some (0, 4, 8, T_X8_exponent, 0, 0) := rfl
def T_X8_upTo : QTT := q_T cX8_upTo 11 8 false (some .long) ms_X8_upTo 0 0
set_option maxRecDepth 100000 in
theorem qw_X8_upTo : q_Wd yX8_upTo cX8_upTo 11 (some .long) 2 := ⟨q_in 1323 rfl rfl, q_in 72 (by decide +kernel) rfl, by decide +kernel, by decide +kernel, by decide +kernel, by decide⟩
theorem qst_X8_upTo : Cond.instanceMethod yX8_upTo ∈ q_Ts := q_in 1322 (by decide +kernel) rfl
theorem qsl_X8_upTo : Cond.selects yX8_upTo.cls yX8_upTo yX8_upTo ∈ q_Ts := q_in 62 (by decide +kernel) rfl
theorem cs_X8_upTo : ∀ (idx : Nat) (info : QI), ms_X8_upTo idx = some info → q_Cs cX8_upTo 8 2 idx info := by
  intro idx info h
  unfold ms_X8_upTo at h
  by_cases h0 : idx = 108
  · subst h0; rw [if_pos rfl] at h; cases h; intro p l e R s m args below meth c Q D cy nL A hC hf hlo; exact q_r1 hC ok_X8_part qw_X8_part qlk_8_108 ⟨qst_X8_part, qsl_X8_part⟩ ⟨rfl, rfl⟩ (by omega) (by omega)
  rw [if_neg h0] at h
  by_cases h1 : idx = 280
  · subst h1; rw [if_pos rfl] at h; cases h; intro p l e R s m args below meth c Q D cy nL A hC hf hlo; exact q_r1 hC ok_X8_most qw_X8_most qlk_8_280 ⟨qst_X8_most, qsl_X8_most⟩ ⟨rfl, rfl⟩ (by omega) (by omega)
  rw [if_neg h1] at h
  by_cases h2 : idx = 57
  · subst h2; rw [if_pos rfl] at h; cases h; intro p l e R s m args below meth c Q D cy nL A hC hf hlo; exact q_r0 hC ok_X8_exponent qw_X8_exponent qlk_8_57 qst_X8_exponent (by omega) (by omega)
  rw [if_neg h2] at h
  cases h
theorem ok_X8_upTo : q_Ok yX8_upTo cX8_upTo 11 (some .long) 2 T_X8_upTo 0 0 := q_okOf (plainFor_of_name (by decide +kernel)) rfl (fun h => by cases h) cs_X8_upTo (fun _ _ _ _ h => h)
theorem qlk_8_294 : Cond.methodLink (q_ow 8) 294 yX8_upTo ∈ q_Ts := q_in 1320 (by decide +kernel) rfl
def ms_X8_ranks : Nat → Option QI := fun i => if i = 280 then some (1, 1, 8, T_X8_most, 0, 0) else if i = 294 then some (1, 2, 8, T_X8_upTo, 0, 0) else none
theorem ms_X8_ranks_280 : ms_X8_ranks 280 = some (1, 1, 8, T_X8_most, 0, 0) := rfl
theorem ms_X8_ranks_294 : ms_X8_ranks 294 = some (1, 2, 8, T_X8_upTo, 0, 0) := rfl
def T_X8_ranks : QTT := q_T cX8_ranks 6 8 false (some .long) ms_X8_ranks 0 0
set_option maxRecDepth 100000 in
theorem qw_X8_ranks : q_Wd yX8_ranks cX8_ranks 6 (some .long) 2 := ⟨q_in 1319 rfl rfl, q_in 72 (by decide +kernel) rfl, by decide +kernel, by decide +kernel, by decide +kernel, by decide⟩
theorem qst_X8_ranks : Cond.instanceMethod yX8_ranks ∈ q_Ts := q_in 1318 (by decide +kernel) rfl
theorem qsl_X8_ranks : Cond.selects yX8_ranks.cls yX8_ranks yX8_ranks ∈ q_Ts := q_in 61 (by decide +kernel) rfl
theorem cs_X8_ranks : ∀ (idx : Nat) (info : QI), ms_X8_ranks idx = some info → q_Cs cX8_ranks 8 3 idx info := by
  intro idx info h
  unfold ms_X8_ranks at h
  by_cases h0 : idx = 280
  · subst h0; rw [if_pos rfl] at h; cases h; intro p l e R s m args below meth c Q D cy nL A hC hf hlo; exact q_r1 hC ok_X8_most qw_X8_most qlk_8_280 ⟨qst_X8_most, qsl_X8_most⟩ ⟨rfl, rfl⟩ (by omega) (by omega)
  rw [if_neg h0] at h
  by_cases h1 : idx = 294
  · subst h1; rw [if_pos rfl] at h; cases h; intro p l e R s m args below meth c Q D cy nL A hC hf hlo; exact q_r1 hC ok_X8_upTo qw_X8_upTo qlk_8_294 ⟨qst_X8_upTo, qsl_X8_upTo⟩ ⟨rfl, rfl⟩ (by omega) (by omega)
  rw [if_neg h1] at h
  cases h
theorem ok_X8_ranks : q_Ok yX8_ranks cX8_ranks 6 (some .long) 3 T_X8_ranks 0 0 := q_okOf (plainFor_of_name (by decide +kernel)) rfl (fun h => by cases h) cs_X8_ranks (fun _ _ _ _ h => h)
theorem qlk_8_297 : Cond.methodLink (q_ow 8) 297 yX8_ranks ∈ q_Ts := q_in 1316 (by decide +kernel) rfl
def ms_X8_countValues : Nat → Option QI := fun i => if i = 100 then some (0, 1, 8, T_X8_isFormat, 0, 0) else if i = 280 then some (1, 1, 8, T_X8_most, 0, 0) else if i = 297 then some (1, 2, 8, T_X8_ranks, 0, 0) else none
theorem ms_X8_countValues_100 : ms_X8_countValues 100 = some (0, 1, 8, T_X8_isFormat, 0, 0) := rfl
theorem ms_X8_countValues_280 : ms_X8_countValues 280 = some (1, 1, 8, T_X8_most, 0, 0) := rfl
theorem ms_X8_countValues_297 : ms_X8_countValues 297 = some (1, 2, 8, T_X8_ranks, 0, 0) := rfl
def T_X8_countValues : QTT := q_T cX8_countValues 2 8 false (some .int) ms_X8_countValues 0 0
set_option maxRecDepth 100000 in
theorem qw_X8_countValues : q_Wd yX8_countValues cX8_countValues 2 (some .int) 1 := ⟨q_in 1315 rfl rfl, q_in 72 (by decide +kernel) rfl, by decide +kernel, by decide +kernel, by decide +kernel, by decide⟩
theorem qst_X8_countValues : Cond.instanceMethod yX8_countValues ∈ q_Ts := q_in 1313 (by decide +kernel) rfl
theorem qsl_X8_countValues : Cond.selects yX8_countValues.cls yX8_countValues yX8_countValues ∈ q_Ts := q_in 1314 (by decide +kernel) rfl
theorem cs_X8_countValues : ∀ (idx : Nat) (info : QI), ms_X8_countValues idx = some info → q_Cs cX8_countValues 8 4 idx info := by
  intro idx info h
  unfold ms_X8_countValues at h
  by_cases h0 : idx = 100
  · subst h0; rw [if_pos rfl] at h; cases h; intro p l e R s m args below meth c Q D cy nL A hC hf hlo; exact q_r0 hC ok_X8_isFormat qw_X8_isFormat qlk_8_100 qst_X8_isFormat (by omega) (by omega)
  rw [if_neg h0] at h
  by_cases h1 : idx = 280
  · subst h1; rw [if_pos rfl] at h; cases h; intro p l e R s m args below meth c Q D cy nL A hC hf hlo; exact q_r1 hC ok_X8_most qw_X8_most qlk_8_280 ⟨qst_X8_most, qsl_X8_most⟩ ⟨rfl, rfl⟩ (by omega) (by omega)
  rw [if_neg h1] at h
  by_cases h2 : idx = 297
  · subst h2; rw [if_pos rfl] at h; cases h; intro p l e R s m args below meth c Q D cy nL A hC hf hlo; exact q_r1 hC ok_X8_ranks qw_X8_ranks qlk_8_297 ⟨qst_X8_ranks, qsl_X8_ranks⟩ ⟨rfl, rfl⟩ (by omega) (by omega)
  rw [if_neg h2] at h
  cases h
theorem ok_X8_countValues : q_Ok yX8_countValues cX8_countValues 2 (some .int) 4 T_X8_countValues 0 0 := q_okOf (plainFor_of_name (by decide +kernel)) rfl (fun h => by cases h) cs_X8_countValues (fun _ _ _ _ h => h)
def ms_X8_between : Nat → Option QI := fun i => if i = 100 then some (0, 1, 8, T_X8_isFormat, 0, 0) else if i = 283 then some (0, 1, 8, T_X8_isNumber, 0, 0) else if i = 53 then some (0, 3, 8, T_X8_in, 0, 0) else if i = 297 then some (1, 2, 8, T_X8_ranks, 0, 0) else none
theorem ms_X8_between_100 : ms_X8_between 100 = some (0, 1, 8, T_X8_isFormat, 0, 0) := rfl
theorem ms_X8_between_283 : ms_X8_between 283 = some (0, 1, 8, T_X8_isNumber, 0, 0) := rfl
theorem ms_X8_between_53 : ms_X8_between 53 = some (0, 3, 8, T_X8_in, 0, 0) := rfl
theorem ms_X8_between_297 : ms_X8_between 297 = some (1, 2, 8, T_X8_ranks, 0, 0) := rfl
def T_X8_between : QTT := q_T cX8_between 4 8 false (some .int) ms_X8_between 0 0
set_option maxRecDepth 100000 in
theorem qw_X8_between : q_Wd yX8_between cX8_between 4 (some .int) 3 := ⟨q_in 1327 rfl rfl, q_in 72 (by decide +kernel) rfl, by decide +kernel, by decide +kernel, by decide +kernel, by decide⟩
theorem qst_X8_between : Cond.instanceMethod yX8_between ∈ q_Ts := q_in 1325 (by decide +kernel) rfl
theorem qsl_X8_between : Cond.selects yX8_between.cls yX8_between yX8_between ∈ q_Ts := q_in 1326 (by decide +kernel) rfl
theorem cs_X8_between : ∀ (idx : Nat) (info : QI), ms_X8_between idx = some info → q_Cs cX8_between 8 4 idx info := by
  intro idx info h
  unfold ms_X8_between at h
  by_cases h0 : idx = 100
  · subst h0; rw [if_pos rfl] at h; cases h; intro p l e R s m args below meth c Q D cy nL A hC hf hlo; exact q_r0 hC ok_X8_isFormat qw_X8_isFormat qlk_8_100 qst_X8_isFormat (by omega) (by omega)
  rw [if_neg h0] at h
  by_cases h1 : idx = 283
  · subst h1; rw [if_pos rfl] at h; cases h; intro p l e R s m args below meth c Q D cy nL A hC hf hlo; exact q_r0 hC ok_X8_isNumber qw_X8_isNumber qlk_8_283 qst_X8_isNumber (by omega) (by omega)
  rw [if_neg h1] at h
  by_cases h2 : idx = 53
  · subst h2; rw [if_pos rfl] at h; cases h; intro p l e R s m args below meth c Q D cy nL A hC hf hlo; exact q_r0 hC ok_X8_in qw_X8_in qlk_8_53 qst_X8_in (by omega) (by omega)
  rw [if_neg h2] at h
  by_cases h3 : idx = 297
  · subst h3; rw [if_pos rfl] at h; cases h; intro p l e R s m args below meth c Q D cy nL A hC hf hlo; exact q_r1 hC ok_X8_ranks qw_X8_ranks qlk_8_297 ⟨qst_X8_ranks, qsl_X8_ranks⟩ ⟨rfl, rfl⟩ (by omega) (by omega)
  rw [if_neg h3] at h
  cases h
theorem ok_X8_between : q_Ok yX8_between cX8_between 4 (some .int) 4 T_X8_between 0 0 := q_okOf (plainFor_of_name (by decide +kernel)) rfl (fun h => by cases h) cs_X8_between (fun _ _ _ _ h => h)
def ms_X8_contains : Nat → Option QI := fun i => if i = 100 then some (0, 1, 8, T_X8_isFormat, 0, 0) else if i = 108 then some (1, 2, 8, T_X8_part, 0, 0) else if i = 286 then some (1, 2, 8, T_X8_isIn, 0, 0) else none
theorem ms_X8_contains_100 : ms_X8_contains 100 = some (0, 1, 8, T_X8_isFormat, 0, 0) := rfl
theorem ms_X8_contains_108 : ms_X8_contains 108 = some (1, 2, 8, T_X8_part, 0, 0) := rfl
theorem ms_X8_contains_286 : ms_X8_contains 286 = some (1, 2, 8, T_X8_isIn, 0, 0) := rfl
def T_X8_contains : QTT := q_T cX8_contains 7 8 false (some .int) ms_X8_contains 0 0
set_option maxRecDepth 100000 in
theorem qw_X8_contains : q_Wd yX8_contains cX8_contains 7 (some .int) 2 := ⟨q_in 1331 rfl rfl, q_in 72 (by decide +kernel) rfl, by decide +kernel, by decide +kernel, by decide +kernel, by decide⟩
theorem qst_X8_contains : Cond.instanceMethod yX8_contains ∈ q_Ts := q_in 1329 (by decide +kernel) rfl
theorem qsl_X8_contains : Cond.selects yX8_contains.cls yX8_contains yX8_contains ∈ q_Ts := q_in 1330 (by decide +kernel) rfl
theorem cs_X8_contains : ∀ (idx : Nat) (info : QI), ms_X8_contains idx = some info → q_Cs cX8_contains 8 3 idx info := by
  intro idx info h
  unfold ms_X8_contains at h
  by_cases h0 : idx = 100
  · subst h0; rw [if_pos rfl] at h; cases h; intro p l e R s m args below meth c Q D cy nL A hC hf hlo; exact q_r0 hC ok_X8_isFormat qw_X8_isFormat qlk_8_100 qst_X8_isFormat (by omega) (by omega)
  rw [if_neg h0] at h
  by_cases h1 : idx = 108
  · subst h1; rw [if_pos rfl] at h; cases h; intro p l e R s m args below meth c Q D cy nL A hC hf hlo; exact q_r1 hC ok_X8_part qw_X8_part qlk_8_108 ⟨qst_X8_part, qsl_X8_part⟩ ⟨rfl, rfl⟩ (by omega) (by omega)
  rw [if_neg h1] at h
  by_cases h2 : idx = 286
  · subst h2; rw [if_pos rfl] at h; cases h; intro p l e R s m args below meth c Q D cy nL A hC hf hlo; exact q_r1 hC ok_X8_isIn qw_X8_isIn qlk_8_286 ⟨qst_X8_isIn, qsl_X8_isIn⟩ ⟨rfl, rfl⟩ (by omega) (by omega)
  rw [if_neg h2] at h
  cases h
theorem ok_X8_contains : q_Ok yX8_contains cX8_contains 7 (some .int) 3 T_X8_contains 0 0 := q_okOf (plainFor_of_name (by decide +kernel)) rfl (fun h => by cases h) cs_X8_contains (fun _ _ _ _ h => h)
def ms_X8_undo : Nat → Option QI := fun i => none
def T_X8_undo : QTT := q_T cX8_undo 2 8 false (some .int) ms_X8_undo 0 0
set_option maxRecDepth 100000 in
theorem qw_X8_undo : q_Wd yX8_undo cX8_undo 2 (some .int) 0 := ⟨q_in 1335 rfl rfl, q_in 72 (by decide +kernel) rfl, by decide +kernel, by decide +kernel, by decide +kernel, by decide⟩
theorem qst_X8_undo : Cond.instanceMethod yX8_undo ∈ q_Ts := q_in 1333 (by decide +kernel) rfl
theorem qsl_X8_undo : Cond.selects yX8_undo.cls yX8_undo yX8_undo ∈ q_Ts := q_in 1334 (by decide +kernel) rfl
theorem cs_X8_undo : ∀ (idx : Nat) (info : QI), ms_X8_undo idx = some info → q_Cs cX8_undo 8 0 idx info := by
  intro idx info h
  unfold ms_X8_undo at h
  cases h
theorem ok_X8_undo : q_Ok yX8_undo cX8_undo 2 (some .int) 0 T_X8_undo 0 0 := q_okOf (plainFor_of_name (by decide +kernel)) rfl (fun h => by cases h) cs_X8_undo (fun _ _ _ _ h => h)
def ms_X8_told : Nat → Option QI := fun i => if i = 53 then some (0, 3, 8, T_X8_in, 0, 0) else if i = 108 then some (1, 2, 8, T_X8_part, 0, 0) else none
theorem ms_X8_told_53 : ms_X8_told 53 = some (0, 3, 8, T_X8_in, 0, 0) := rfl
theorem ms_X8_told_108 : ms_X8_told 108 = some (1, 2, 8, T_X8_part, 0, 0) := rfl
def T_X8_told : QTT := q_T cX8_told 2 8 false (some .int) ms_X8_told 0 0
set_option maxRecDepth 100000 in
theorem qw_X8_told : q_Wd yX8_told cX8_told 2 (some .int) 1 := ⟨q_in 1339 rfl rfl, q_in 72 (by decide +kernel) rfl, by decide +kernel, by decide +kernel, by decide +kernel, by decide⟩
theorem qst_X8_told : Cond.instanceMethod yX8_told ∈ q_Ts := q_in 1337 (by decide +kernel) rfl
theorem qsl_X8_told : Cond.selects yX8_told.cls yX8_told yX8_told ∈ q_Ts := q_in 1338 (by decide +kernel) rfl
theorem cs_X8_told : ∀ (idx : Nat) (info : QI), ms_X8_told idx = some info → q_Cs cX8_told 8 1 idx info := by
  intro idx info h
  unfold ms_X8_told at h
  by_cases h0 : idx = 53
  · subst h0; rw [if_pos rfl] at h; cases h; intro p l e R s m args below meth c Q D cy nL A hC hf hlo; exact q_r0 hC ok_X8_in qw_X8_in qlk_8_53 qst_X8_in (by omega) (by omega)
  rw [if_neg h0] at h
  by_cases h1 : idx = 108
  · subst h1; rw [if_pos rfl] at h; cases h; intro p l e R s m args below meth c Q D cy nL A hC hf hlo; exact q_r1 hC ok_X8_part qw_X8_part qlk_8_108 ⟨qst_X8_part, qsl_X8_part⟩ ⟨rfl, rfl⟩ (by omega) (by omega)
  rw [if_neg h1] at h
  cases h
theorem ok_X8_told : q_Ok yX8_told cX8_told 2 (some .int) 1 T_X8_told 0 0 := q_okOf (plainFor_of_name (by decide +kernel)) rfl (fun h => by cases h) cs_X8_told (fun _ _ _ _ h => h)
theorem qlk_8_304 : Cond.methodLink (q_ow 8) 304 yX8_told ∈ q_Ts := q_in 1346 (by decide +kernel) rfl
theorem qlk_8_307 : Cond.methodLink (q_ow 8) 307 yX8_numberOf ∈ q_Ts := q_in 1347 (by decide +kernel) rfl
theorem qlk_8_310 : Cond.methodLink (q_ow 8) 310 yX8_operation ∈ q_Ts := q_in 1348 (by decide +kernel) rfl
theorem qlk_8_313 : Cond.methodLink (q_ow 8) 313 yX8_result ∈ q_Ts := q_in 1349 (by decide +kernel) rfl
theorem qlk_8_316 : Cond.methodLink (q_ow 8) 316 yX8_neighbor ∈ q_Ts := q_in 1350 (by decide +kernel) rfl
theorem qlk_8_320 : Cond.methodLink (q_ow 8) 320 yX8_drawOf ∈ q_Ts := q_in 1351 (by decide +kernel) rfl
theorem qlk_8_323 : Cond.methodLink (q_ow 8) 323 yX8_flags ∈ q_Ts := q_in 1352 (by decide +kernel) rfl
def ms_X8_digest : Nat → Option QI := fun i => if i = 304 then some (1, 1, 8, T_X8_told, 0, 0) else if i = 112 then some (1, 1, 8, T_X8_formatIn, 0, 0) else if i = 307 then some (1, 1, 8, T_X8_numberOf, 0, 0) else if i = 310 then some (1, 1, 8, T_X8_operation, 0, 0) else if i = 313 then some (1, 1, 8, T_X8_result, 0, 0) else if i = 316 then some (1, 2, 8, T_X8_neighbor, 0, 0) else if i = 320 then some (1, 1, 8, T_X8_drawOf, 0, 0) else if i = 323 then some (1, 1, 8, T_X8_flags, 0, 0) else none
theorem ms_X8_digest_304 : ms_X8_digest 304 = some (1, 1, 8, T_X8_told, 0, 0) := rfl
theorem ms_X8_digest_112 : ms_X8_digest 112 = some (1, 1, 8, T_X8_formatIn, 0, 0) := rfl
theorem ms_X8_digest_307 : ms_X8_digest 307 = some (1, 1, 8, T_X8_numberOf, 0, 0) := rfl
theorem ms_X8_digest_310 : ms_X8_digest 310 = some (1, 1, 8, T_X8_operation, 0, 0) := rfl
theorem ms_X8_digest_313 : ms_X8_digest 313 = some (1, 1, 8, T_X8_result, 0, 0) := rfl
theorem ms_X8_digest_316 : ms_X8_digest 316 = some (1, 2, 8, T_X8_neighbor, 0, 0) := rfl
theorem ms_X8_digest_320 : ms_X8_digest 320 = some (1, 1, 8, T_X8_drawOf, 0, 0) := rfl
theorem ms_X8_digest_323 : ms_X8_digest 323 = some (1, 1, 8, T_X8_flags, 0, 0) := rfl
def T_X8_digest : QTT := q_T cX8_digest 4 8 false (some .long) ms_X8_digest 0 0
set_option maxRecDepth 100000 in
theorem qw_X8_digest : q_Wd yX8_digest cX8_digest 4 (some .long) 0 := ⟨q_in 1343 rfl rfl, q_in 72 (by decide +kernel) rfl, by decide +kernel, by decide +kernel, by decide +kernel, by decide⟩
theorem qst_X8_digest : Cond.instanceMethod yX8_digest ∈ q_Ts := q_in 1341 (by decide +kernel) rfl
theorem qsl_X8_digest : Cond.selects yX8_digest.cls yX8_digest yX8_digest ∈ q_Ts := q_in 1342 (by decide +kernel) rfl
theorem cs_X8_digest : ∀ (idx : Nat) (info : QI), ms_X8_digest idx = some info → q_Cs cX8_digest 8 2 idx info := by
  intro idx info h
  unfold ms_X8_digest at h
  by_cases h0 : idx = 304
  · subst h0; rw [if_pos rfl] at h; cases h; intro p l e R s m args below meth c Q D cy nL A hC hf hlo; exact q_r1 hC ok_X8_told qw_X8_told qlk_8_304 ⟨qst_X8_told, qsl_X8_told⟩ ⟨rfl, rfl⟩ (by omega) (by omega)
  rw [if_neg h0] at h
  by_cases h1 : idx = 112
  · subst h1; rw [if_pos rfl] at h; cases h; intro p l e R s m args below meth c Q D cy nL A hC hf hlo; exact q_r1 hC ok_X8_formatIn qw_X8_formatIn qlk_8_112 ⟨qst_X8_formatIn, qsl_X8_formatIn⟩ ⟨rfl, rfl⟩ (by omega) (by omega)
  rw [if_neg h1] at h
  by_cases h2 : idx = 307
  · subst h2; rw [if_pos rfl] at h; cases h; intro p l e R s m args below meth c Q D cy nL A hC hf hlo; exact q_r1 hC ok_X8_numberOf qw_X8_numberOf qlk_8_307 ⟨qst_X8_numberOf, qsl_X8_numberOf⟩ ⟨rfl, rfl⟩ (by omega) (by omega)
  rw [if_neg h2] at h
  by_cases h3 : idx = 310
  · subst h3; rw [if_pos rfl] at h; cases h; intro p l e R s m args below meth c Q D cy nL A hC hf hlo; exact q_r1 hC ok_X8_operation qw_X8_operation qlk_8_310 ⟨qst_X8_operation, qsl_X8_operation⟩ ⟨rfl, rfl⟩ (by omega) (by omega)
  rw [if_neg h3] at h
  by_cases h4 : idx = 313
  · subst h4; rw [if_pos rfl] at h; cases h; intro p l e R s m args below meth c Q D cy nL A hC hf hlo; exact q_r1 hC ok_X8_result qw_X8_result qlk_8_313 ⟨qst_X8_result, qsl_X8_result⟩ ⟨rfl, rfl⟩ (by omega) (by omega)
  rw [if_neg h4] at h
  by_cases h5 : idx = 316
  · subst h5; rw [if_pos rfl] at h; cases h; intro p l e R s m args below meth c Q D cy nL A hC hf hlo; exact q_r1 hC ok_X8_neighbor qw_X8_neighbor qlk_8_316 ⟨qst_X8_neighbor, qsl_X8_neighbor⟩ ⟨rfl, rfl⟩ (by omega) (by omega)
  rw [if_neg h5] at h
  by_cases h6 : idx = 320
  · subst h6; rw [if_pos rfl] at h; cases h; intro p l e R s m args below meth c Q D cy nL A hC hf hlo; exact q_r1 hC ok_X8_drawOf qw_X8_drawOf qlk_8_320 ⟨qst_X8_drawOf, qsl_X8_drawOf⟩ ⟨rfl, rfl⟩ (by omega) (by omega)
  rw [if_neg h6] at h
  by_cases h7 : idx = 323
  · subst h7; rw [if_pos rfl] at h; cases h; intro p l e R s m args below meth c Q D cy nL A hC hf hlo; exact q_r1 hC ok_X8_flags qw_X8_flags qlk_8_323 ⟨qst_X8_flags, qsl_X8_flags⟩ ⟨rfl, rfl⟩ (by omega) (by omega)
  rw [if_neg h7] at h
  cases h
theorem ok_X8_digest : q_Ok yX8_digest cX8_digest 4 (some .long) 2 T_X8_digest 0 0 := q_okOf (plainFor_of_name (by decide +kernel)) rfl (fun h => by cases h) cs_X8_digest (fun _ _ _ _ h => h)
