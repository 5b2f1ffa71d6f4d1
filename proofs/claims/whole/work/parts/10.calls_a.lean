/-! ===== every method: its calls, what its code says, and that the machine keeps to it ===== -/
def q_T (cc : ByteArray) (maxL ow : Nat) (ini : Bool) (ret : Option FieldType) (ms : Nat → Option QI) (mc msl : Nat) : QTT := fun av w sz post => (q_ent av).length ≤ maxL ∧ ∀ G : QK, q_Cl cc ow ini ret ms (sz + mc) msl post G → G 0 (q_entry maxL av) [] w sz 0
def q_T0 : QTT := fun _ _ _ _ => False
theorem q_lo0 : Cond.instanceMethod objectInit ∈ q_Ts := q_in 81 (by decide +kernel) rfl
theorem q_lo1 : Cond.code objectInit ⟨#[0xb1]⟩ 1 none ∈ q_Ts := q_in 82 rfl rfl
theorem q_la0 : Cond.native arraycopyName ∈ q_Ts := q_in 384 (by decide +kernel) rfl
theorem q_la1 : Cond.static arraycopyName ∈ q_Ts := q_in 383 (by decide +kernel) rfl
theorem q_la2 : Cond.initialized "java/lang/System" ∈ q_Ts := q_in 73 (by decide +kernel) rfl
theorem qlk_0_3 : Cond.methodLink (q_ow 0) 3 objectInit ∈ q_Ts := q_in 95 (by decide +kernel) rfl
def ms_X0_init : Nat → Option QI := fun i => if i = 3 then some (8, 0, 0, q_T0, 0, 0) else none
theorem ms_X0_init_3 : ms_X0_init 3 = some (8, 0, 0, q_T0, 0, 0) := rfl
def T_X0_init : QTT := q_T cX0_init 1 0 true none ms_X0_init 0 0
set_option maxRecDepth 100000 in
theorem qw_X0_init : q_Wd yX0_init cX0_init 1 none 0 := ⟨q_in 94 rfl rfl, q_in 66 (by decide +kernel) rfl, by decide +kernel, by decide +kernel, by decide +kernel, by decide⟩
theorem qst_X0_init : Cond.instanceMethod yX0_init ∈ q_Ts := q_in 93 (by decide +kernel) rfl
theorem cs_X0_init : ∀ (idx : Nat) (info : QI), ms_X0_init idx = some info → q_Cs cX0_init 0 1 idx info := by
  intro idx info h
  unfold ms_X0_init at h
  by_cases h0 : idx = 3
  · subst h0; rw [if_pos rfl] at h; cases h; intro p l e R s m args below meth c Q D cy nL A hC hf hlo; exact q_r8 hC qlk_0_3 q_lo0 q_lo1 (by omega) (by omega)
  rw [if_neg h0] at h
  cases h
theorem ok_X0_init : q_Ok yX0_init cX0_init 1 none 1 T_X0_init 0 0 := q_okOf (plainFor_of_name (by decide +kernel)) rfl (fun _ => rfl) cs_X0_init (fun _ _ _ _ h => h)
def ms_X0_isPossible : Nat → Option QI := fun i => none
def T_X0_isPossible : QTT := q_T cX0_isPossible 3 0 false (some .boolean) ms_X0_isPossible 0 0
set_option maxRecDepth 100000 in
theorem qw_X0_isPossible : q_Wd yX0_isPossible cX0_isPossible 3 (some .boolean) 3 := ⟨q_in 364 rfl rfl, q_in 66 (by decide +kernel) rfl, by decide +kernel, by decide +kernel, by decide +kernel, by decide⟩
theorem qst_X0_isPossible : Cond.static yX0_isPossible ∈ q_Ts := q_in 363 (by decide +kernel) rfl
theorem cs_X0_isPossible : ∀ (idx : Nat) (info : QI), ms_X0_isPossible idx = some info → q_Cs cX0_isPossible 0 0 idx info := by
  intro idx info h
  unfold ms_X0_isPossible at h
  cases h
theorem ok_X0_isPossible : q_Ok yX0_isPossible cX0_isPossible 3 (some .boolean) 0 T_X0_isPossible 0 0 := q_okOf (plainFor_of_name (by decide +kernel)) rfl (fun h => by cases h) cs_X0_isPossible (fun _ _ _ _ h => h)
def ms_X0_define : Nat → Option QI := fun i => none
def T_X0_define : QTT := q_T cX0_define 4 0 false none ms_X0_define 0 0
set_option maxRecDepth 100000 in
theorem qw_X0_define : q_Wd yX0_define cX0_define 4 none 3 := ⟨q_in 381 rfl rfl, q_in 66 (by decide +kernel) rfl, by decide +kernel, by decide +kernel, by decide +kernel, by decide⟩
theorem qst_X0_define : Cond.instanceMethod yX0_define ∈ q_Ts := q_in 379 (by decide +kernel) rfl
theorem qsl_X0_define : Cond.selects yX0_define.cls yX0_define yX0_define ∈ q_Ts := q_in 380 (by decide +kernel) rfl
theorem cs_X0_define : ∀ (idx : Nat) (info : QI), ms_X0_define idx = some info → q_Cs cX0_define 0 0 idx info := by
  intro idx info h
  unfold ms_X0_define at h
  cases h
theorem ok_X0_define : q_Ok yX0_define cX0_define 4 none 0 T_X0_define 0 0 := q_okOf (plainFor_of_name (by decide +kernel)) rfl (fun h => by cases h) cs_X0_define (fun _ _ _ _ h => h)
def ms_X0_top : Nat → Option QI := fun i => none
def T_X0_top : QTT := q_T cX0_top 1 0 false (some .int) ms_X0_top 0 0
set_option maxRecDepth 100000 in
theorem qw_X0_top : q_Wd yX0_top cX0_top 1 (some .int) 0 := ⟨q_in 434 rfl rfl, q_in 66 (by decide +kernel) rfl, by decide +kernel, by decide +kernel, by decide +kernel, by decide⟩
theorem qst_X0_top : Cond.instanceMethod yX0_top ∈ q_Ts := q_in 432 (by decide +kernel) rfl
theorem qsl_X0_top : Cond.selects yX0_top.cls yX0_top yX0_top ∈ q_Ts := q_in 433 (by decide +kernel) rfl
theorem cs_X0_top : ∀ (idx : Nat) (info : QI), ms_X0_top idx = some info → q_Cs cX0_top 0 0 idx info := by
  intro idx info h
  unfold ms_X0_top at h
  cases h
theorem ok_X0_top : q_Ok yX0_top cX0_top 1 (some .int) 0 T_X0_top 0 0 := q_okOf (plainFor_of_name (by decide +kernel)) rfl (fun h => by cases h) cs_X0_top (fun _ _ _ _ h => h)
def ms_X0_spacingBits : Nat → Option QI := fun i => none
def T_X0_spacingBits : QTT := q_T cX0_spacingBits 4 0 false (some .int) ms_X0_spacingBits 0 0
set_option maxRecDepth 100000 in
theorem qw_X0_spacingBits : q_Wd yX0_spacingBits cX0_spacingBits 4 (some .int) 1 := ⟨q_in 459 rfl rfl, q_in 66 (by decide +kernel) rfl, by decide +kernel, by decide +kernel, by decide +kernel, by decide⟩
theorem qst_X0_spacingBits : Cond.instanceMethod yX0_spacingBits ∈ q_Ts := q_in 457 (by decide +kernel) rfl
theorem qsl_X0_spacingBits : Cond.selects yX0_spacingBits.cls yX0_spacingBits yX0_spacingBits ∈ q_Ts := q_in 458 (by decide +kernel) rfl
theorem cs_X0_spacingBits : ∀ (idx : Nat) (info : QI), ms_X0_spacingBits idx = some info → q_Cs cX0_spacingBits 0 0 idx info := by
  intro idx info h
  unfold ms_X0_spacingBits at h
  cases h
theorem ok_X0_spacingBits : q_Ok yX0_spacingBits cX0_spacingBits 4 (some .int) 0 T_X0_spacingBits 0 0 := q_okOf (plainFor_of_name (by decide +kernel)) rfl (fun h => by cases h) cs_X0_spacingBits (fun _ _ _ _ h => h)
def ms_J9_min_7cf53 : Nat → Option QI := fun i => none
def T_J9_min_7cf53 : QTT := q_T cJ9_min_7cf53 2 10 false (some .int) ms_J9_min_7cf53 0 0
set_option maxRecDepth 100000 in
theorem qw_J9_min_7cf53 : q_Wd yJ9_min_7cf53 cJ9_min_7cf53 2 (some .int) 2 := ⟨q_in 449 rfl rfl, q_in 74 (by decide +kernel) rfl, by decide +kernel, by decide +kernel, by decide +kernel, by decide⟩
theorem qst_J9_min_7cf53 : Cond.static yJ9_min_7cf53 ∈ q_Ts := q_in 448 (by decide +kernel) rfl
theorem cs_J9_min_7cf53 : ∀ (idx : Nat) (info : QI), ms_J9_min_7cf53 idx = some info → q_Cs cJ9_min_7cf53 10 0 idx info := by
  intro idx info h
  unfold ms_J9_min_7cf53 at h
  cases h
theorem ok_J9_min_7cf53 : q_Ok yJ9_min_7cf53 cJ9_min_7cf53 2 (some .int) 0 T_J9_min_7cf53 0 0 := q_okOf (by decide +kernel) rfl (fun h => by cases h) cs_J9_min_7cf53 (fun _ _ _ _ h => h)
def ms_J9_max_7cf53 : Nat → Option QI := fun i => none
def T_J9_max_7cf53 : QTT := q_T cJ9_max_7cf53 2 10 false (some .int) ms_J9_max_7cf53 0 0
set_option maxRecDepth 100000 in
theorem qw_J9_max_7cf53 : q_Wd yJ9_max_7cf53 cJ9_max_7cf53 2 (some .int) 2 := ⟨q_in 452 rfl rfl, q_in 74 (by decide +kernel) rfl, by decide +kernel, by decide +kernel, by decide +kernel, by decide⟩
theorem qst_J9_max_7cf53 : Cond.static yJ9_max_7cf53 ∈ q_Ts := q_in 451 (by decide +kernel) rfl
theorem cs_J9_max_7cf53 : ∀ (idx : Nat) (info : QI), ms_J9_max_7cf53 idx = some info → q_Cs cJ9_max_7cf53 10 0 idx info := by
  intro idx info h
  unfold ms_J9_max_7cf53 at h
  cases h
theorem ok_J9_max_7cf53 : q_Ok yJ9_max_7cf53 cJ9_max_7cf53 2 (some .int) 0 T_J9_max_7cf53 0 0 := q_okOf (by decide +kernel) rfl (fun h => by cases h) cs_J9_max_7cf53 (fun _ _ _ _ h => h)
def ms_J9_abs_0f7a4 : Nat → Option QI := fun i => none
def T_J9_abs_0f7a4 : QTT := q_T cJ9_abs_0f7a4 1 10 false (some .int) ms_J9_abs_0f7a4 0 0
set_option maxRecDepth 100000 in
theorem qw_J9_abs_0f7a4 : q_Wd yJ9_abs_0f7a4 cJ9_abs_0f7a4 1 (some .int) 1 := ⟨q_in 455 rfl rfl, q_in 74 (by decide +kernel) rfl, by decide +kernel, by decide +kernel, by decide +kernel, by decide⟩
theorem qst_J9_abs_0f7a4 : Cond.static yJ9_abs_0f7a4 ∈ q_Ts := q_in 454 (by decide +kernel) rfl
theorem cs_J9_abs_0f7a4 : ∀ (idx : Nat) (info : QI), ms_J9_abs_0f7a4 idx = some info → q_Cs cJ9_abs_0f7a4 10 0 idx info := by
  intro idx info h
  unfold ms_J9_abs_0f7a4 at h
  cases h
theorem ok_J9_abs_0f7a4 : q_Ok yJ9_abs_0f7a4 cJ9_abs_0f7a4 1 (some .int) 0 T_J9_abs_0f7a4 0 0 := q_okOf (by decide +kernel) rfl (fun h => by cases h) cs_J9_abs_0f7a4 (fun _ _ _ _ h => h)
theorem qlk_0_21 : Cond.methodLink (q_ow 0) 21 yX0_top ∈ q_Ts := q_in 446 (by decide +kernel) rfl
theorem qlk_0_25 : Cond.methodLink (q_ow 0) 25 yJ9_min_7cf53 ∈ q_Ts := q_in 447 (by decide +kernel) rfl
theorem qlk_0_31 : Cond.methodLink (q_ow 0) 31 yJ9_max_7cf53 ∈ q_Ts := q_in 450 (by decide +kernel) rfl
theorem qlk_0_34 : Cond.methodLink (q_ow 0) 34 yJ9_abs_0f7a4 ∈ q_Ts := q_in 453 (by decide +kernel) rfl
theorem qlk_0_38 : Cond.methodLink (q_ow 0) 38 yX0_spacingBits ∈ q_Ts := q_in 456 (by decide +kernel) rfl
def ms_X0_atMost : Nat → Option QI := fun i => if i = 21 then some (1, 0, 0, T_X0_top, 0, 0) else if i = 25 then some (0, 2, 0, T_J9_min_7cf53, 0, 0) else if i = 31 then some (0, 2, 0, T_J9_max_7cf53, 0, 0) else if i = 34 then some (0, 1, 0, T_J9_abs_0f7a4, 0, 0) else if i = 38 then some (1, 1, 0, T_X0_spacingBits, 0, 0) else none
theorem ms_X0_atMost_21 : ms_X0_atMost 21 = some (1, 0, 0, T_X0_top, 0, 0) := rfl
theorem ms_X0_atMost_25 : ms_X0_atMost 25 = some (0, 2, 0, T_J9_min_7cf53, 0, 0) := rfl
theorem ms_X0_atMost_31 : ms_X0_atMost 31 = some (0, 2, 0, T_J9_max_7cf53, 0, 0) := rfl
theorem ms_X0_atMost_34 : ms_X0_atMost 34 = some (0, 1, 0, T_J9_abs_0f7a4, 0, 0) := rfl
theorem ms_X0_atMost_38 : ms_X0_atMost 38 = some (1, 1, 0, T_X0_spacingBits, 0, 0) := rfl
def T_X0_atMost : QTT := q_T cX0_atMost 5 0 false (some .int) ms_X0_atMost 0 0
set_option maxRecDepth 100000 in
theorem qw_X0_atMost : q_Wd yX0_atMost cX0_atMost 5 (some .int) 1 := ⟨q_in 445 rfl rfl, q_in 66 (by decide +kernel) rfl, by decide +kernel, by decide +kernel, by decide +kernel, by decide⟩
theorem qst_X0_atMost : Cond.instanceMethod yX0_atMost ∈ q_Ts := q_in 443 (by decide +kernel) rfl
theorem qsl_X0_atMost : Cond.selects yX0_atMost.cls yX0_atMost yX0_atMost ∈ q_Ts := q_in 444 (by decide +kernel) rfl
theorem cs_X0_atMost : ∀ (idx : Nat) (info : QI), ms_X0_atMost idx = some info → q_Cs cX0_atMost 0 1 idx info := by
  intro idx info h
  unfold ms_X0_atMost at h
  by_cases h0 : idx = 21
  · subst h0; rw [if_pos rfl] at h; cases h; intro p l e R s m args below meth c Q D cy nL A hC hf hlo; exact q_r1 hC ok_X0_top qw_X0_top qlk_0_21 ⟨qst_X0_top, qsl_X0_top⟩ ⟨rfl, rfl⟩ (by omega) (by omega)
  rw [if_neg h0] at h
  by_cases h1 : idx = 25
  · subst h1; rw [if_pos rfl] at h; cases h; intro p l e R s m args below meth c Q D cy nL A hC hf hlo; exact q_r0 hC ok_J9_min_7cf53 qw_J9_min_7cf53 qlk_0_25 qst_J9_min_7cf53 (by omega) (by omega)
  rw [if_neg h1] at h
  by_cases h2 : idx = 31
  · subst h2; rw [if_pos rfl] at h; cases h; intro p l e R s m args below meth c Q D cy nL A hC hf hlo; exact q_r0 hC ok_J9_max_7cf53 qw_J9_max_7cf53 qlk_0_31 qst_J9_max_7cf53 (by omega) (by omega)
  rw [if_neg h2] at h
  by_cases h3 : idx = 34
  · subst h3; rw [if_pos rfl] at h; cases h; intro p l e R s m args below meth c Q D cy nL A hC hf hlo; exact q_r0 hC ok_J9_abs_0f7a4 qw_J9_abs_0f7a4 qlk_0_34 qst_J9_abs_0f7a4 (by omega) (by omega)
  rw [if_neg h3] at h
  by_cases h4 : idx = 38
  · subst h4; rw [if_pos rfl] at h; cases h; intro p l e R s m args below meth c Q D cy nL A hC hf hlo; exact q_r1 hC ok_X0_spacingBits qw_X0_spacingBits qlk_0_38 ⟨qst_X0_spacingBits, qsl_X0_spacingBits⟩ ⟨rfl, rfl⟩ (by omega) (by omega)
  rw [if_neg h4] at h
  cases h
theorem ok_X0_atMost : q_Ok yX0_atMost cX0_atMost 5 (some .int) 1 T_X0_atMost 0 0 := q_okOf (plainFor_of_name (by decide +kernel)) rfl (fun h => by cases h) cs_X0_atMost (fun _ _ _ _ h => h)
theorem qlk_0_41 : Cond.methodLink (q_ow 0) 41 yX0_atMost ∈ q_Ts := q_in 819 (by decide +kernel) rfl
def ms_X0_has : Nat → Option QI := fun i => if i = 41 then some (1, 1, 0, T_X0_atMost, 0, 0) else none
theorem ms_X0_has_41 : ms_X0_has 41 = some (1, 1, 0, T_X0_atMost, 0, 0) := rfl
def T_X0_has : QTT := q_T cX0_has 2 0 false (some .boolean) ms_X0_has 0 0
set_option maxRecDepth 100000 in
theorem qw_X0_has : q_Wd yX0_has cX0_has 2 (some .boolean) 1 := ⟨q_in 818 rfl rfl, q_in 66 (by decide +kernel) rfl, by decide +kernel, by decide +kernel, by decide +kernel, by decide⟩
theorem qst_X0_has : Cond.instanceMethod yX0_has ∈ q_Ts := q_in 816 (by decide +kernel) rfl
theorem qsl_X0_has : Cond.selects yX0_has.cls yX0_has yX0_has ∈ q_Ts := q_in 817 (by decide +kernel) rfl
theorem cs_X0_has : ∀ (idx : Nat) (info : QI), ms_X0_has idx = some info → q_Cs cX0_has 0 2 idx info := by
  intro idx info h
  unfold ms_X0_has at h
  by_cases h0 : idx = 41
  · subst h0; rw [if_pos rfl] at h; cases h; intro p l e R s m args below meth c Q D cy nL A hC hf hlo; exact q_r1 hC ok_X0_atMost qw_X0_atMost qlk_0_41 ⟨qst_X0_atMost, qsl_X0_atMost⟩ ⟨rfl, rfl⟩ (by omega) (by omega)
  rw [if_neg h0] at h
  cases h
theorem ok_X0_has : q_Ok yX0_has cX0_has 2 (some .boolean) 2 T_X0_has 0 0 := q_okOf (plainFor_of_name (by decide +kernel)) rfl (fun h => by cases h) cs_X0_has (fun _ _ _ _ h => h)
def ms_X0_countPositivesUpTo : Nat → Option QI := fun i => if i = 21 then some (1, 0, 0, T_X0_top, 0, 0) else if i = 25 then some (0, 2, 0, T_J9_min_7cf53, 0, 0) else if i = 38 then some (1, 1, 0, T_X0_spacingBits, 0, 0) else none
theorem ms_X0_countPositivesUpTo_21 : ms_X0_countPositivesUpTo 21 = some (1, 0, 0, T_X0_top, 0, 0) := rfl
theorem ms_X0_countPositivesUpTo_25 : ms_X0_countPositivesUpTo 25 = some (0, 2, 0, T_J9_min_7cf53, 0, 0) := rfl
theorem ms_X0_countPositivesUpTo_38 : ms_X0_countPositivesUpTo 38 = some (1, 1, 0, T_X0_spacingBits, 0, 0) := rfl
def T_X0_countPositivesUpTo : QTT := q_T cX0_countPositivesUpTo 5 0 false (some .int) ms_X0_countPositivesUpTo 0 0
set_option maxRecDepth 100000 in
theorem qw_X0_countPositivesUpTo : q_Wd yX0_countPositivesUpTo cX0_countPositivesUpTo 5 (some .int) 1 := ⟨q_in 837 rfl rfl, q_in 66 (by decide +kernel) rfl, by decide +kernel, by decide +kernel, by decide +kernel, by decide⟩
theorem qst_X0_countPositivesUpTo : Cond.instanceMethod yX0_countPositivesUpTo ∈ q_Ts := q_in 835 (by decide +kernel) rfl
theorem qsl_X0_countPositivesUpTo : Cond.selects yX0_countPositivesUpTo.cls yX0_countPositivesUpTo yX0_countPositivesUpTo ∈ q_Ts := q_in 836 (by decide +kernel) rfl
theorem cs_X0_countPositivesUpTo : ∀ (idx : Nat) (info : QI), ms_X0_countPositivesUpTo idx = some info → q_Cs cX0_countPositivesUpTo 0 1 idx info := by
  intro idx info h
  unfold ms_X0_countPositivesUpTo at h
  by_cases h0 : idx = 21
  · subst h0; rw [if_pos rfl] at h; cases h; intro p l e R s m args below meth c Q D cy nL A hC hf hlo; exact q_r1 hC ok_X0_top qw_X0_top qlk_0_21 ⟨qst_X0_top, qsl_X0_top⟩ ⟨rfl, rfl⟩ (by omega) (by omega)
  rw [if_neg h0] at h
  by_cases h1 : idx = 25
  · subst h1; rw [if_pos rfl] at h; cases h; intro p l e R s m args below meth c Q D cy nL A hC hf hlo; exact q_r0 hC ok_J9_min_7cf53 qw_J9_min_7cf53 qlk_0_25 qst_J9_min_7cf53 (by omega) (by omega)
  rw [if_neg h1] at h
  by_cases h2 : idx = 38
  · subst h2; rw [if_pos rfl] at h; cases h; intro p l e R s m args below meth c Q D cy nL A hC hf hlo; exact q_r1 hC ok_X0_spacingBits qw_X0_spacingBits qlk_0_38 ⟨qst_X0_spacingBits, qsl_X0_spacingBits⟩ ⟨rfl, rfl⟩ (by omega) (by omega)
  rw [if_neg h2] at h
  cases h
theorem ok_X0_countPositivesUpTo : q_Ok yX0_countPositivesUpTo cX0_countPositivesUpTo 5 (some .int) 1 T_X0_countPositivesUpTo 0 0 := q_okOf (plainFor_of_name (by decide +kernel)) rfl (fun h => by cases h) cs_X0_countPositivesUpTo (fun _ _ _ _ h => h)
theorem qlk_0_44 : Cond.methodLink (q_ow 0) 44 yX0_countPositivesUpTo ∈ q_Ts := q_in 834 (by decide +kernel) rfl
def ms_X0_countUpTo : Nat → Option QI := fun i => if i = 21 then some (1, 0, 0, T_X0_top, 0, 0) else if i = 44 then some (1, 1, 0, T_X0_countPositivesUpTo, 0, 0) else none
theorem ms_X0_countUpTo_21 : ms_X0_countUpTo 21 = some (1, 0, 0, T_X0_top, 0, 0) := rfl
theorem ms_X0_countUpTo_44 : ms_X0_countUpTo 44 = some (1, 1, 0, T_X0_countPositivesUpTo, 0, 0) := rfl
def T_X0_countUpTo : QTT := q_T cX0_countUpTo 3 0 false (some .int) ms_X0_countUpTo 0 0
set_option maxRecDepth 100000 in
theorem qw_X0_countUpTo : q_Wd yX0_countUpTo cX0_countUpTo 3 (some .int) 1 := ⟨q_in 833 rfl rfl, q_in 66 (by decide +kernel) rfl, by decide +kernel, by decide +kernel, by decide +kernel, by decide⟩
theorem qst_X0_countUpTo : Cond.instanceMethod yX0_countUpTo ∈ q_Ts := q_in 831 (by decide +kernel) rfl
theorem qsl_X0_countUpTo : Cond.selects yX0_countUpTo.cls yX0_countUpTo yX0_countUpTo ∈ q_Ts := q_in 832 (by decide +kernel) rfl
theorem cs_X0_countUpTo : ∀ (idx : Nat) (info : QI), ms_X0_countUpTo idx = some info → q_Cs cX0_countUpTo 0 2 idx info := by
  intro idx info h
  unfold ms_X0_countUpTo at h
  by_cases h0 : idx = 21
  · subst h0; rw [if_pos rfl] at h; cases h; intro p l e R s m args below meth c Q D cy nL A hC hf hlo; exact q_r1 hC ok_X0_top qw_X0_top qlk_0_21 ⟨qst_X0_top, qsl_X0_top⟩ ⟨rfl, rfl⟩ (by omega) (by omega)
  rw [if_neg h0] at h
  by_cases h1 : idx = 44
  · subst h1; rw [if_pos rfl] at h; cases h; intro p l e R s m args below meth c Q D cy nL A hC hf hlo; exact q_r1 hC ok_X0_countPositivesUpTo qw_X0_countPositivesUpTo qlk_0_44 ⟨qst_X0_countPositivesUpTo, qsl_X0_countPositivesUpTo⟩ ⟨rfl, rfl⟩ (by omega) (by omega)
  rw [if_neg h1] at h
  cases h
theorem ok_X0_countUpTo : q_Ok yX0_countUpTo cX0_countUpTo 3 (some .int) 2 T_X0_countUpTo 0 0 := q_okOf (plainFor_of_name (by decide +kernel)) rfl (fun h => by cases h) cs_X0_countUpTo (fun _ _ _ _ h => h)
theorem qlk_0_47 : Cond.methodLink (q_ow 0) 47 yX0_has ∈ q_Ts := q_in 850 (by decide +kernel) rfl
def ms_X0_covers : Nat → Option QI := fun i => if i = 47 then some (1, 1, 0, T_X0_has, 0, 0) else none
theorem ms_X0_covers_47 : ms_X0_covers 47 = some (1, 1, 0, T_X0_has, 0, 0) := rfl
def T_X0_covers : QTT := q_T cX0_covers 4 0 false (some .boolean) ms_X0_covers 0 0
set_option maxRecDepth 100000 in
theorem qw_X0_covers : q_Wd yX0_covers cX0_covers 4 (some .boolean) 1 := ⟨q_in 849 rfl rfl, q_in 66 (by decide +kernel) rfl, by decide +kernel, by decide +kernel, by decide +kernel, by decide⟩
theorem qst_X0_covers : Cond.instanceMethod yX0_covers ∈ q_Ts := q_in 847 (by decide +kernel) rfl
theorem qsl_X0_covers : Cond.selects yX0_covers.cls yX0_covers yX0_covers ∈ q_Ts := q_in 848 (by decide +kernel) rfl
theorem cs_X0_covers : ∀ (idx : Nat) (info : QI), ms_X0_covers idx = some info → q_Cs cX0_covers 0 3 idx info := by
  intro idx info h
  unfold ms_X0_covers at h
  by_cases h0 : idx = 47
  · subst h0; rw [if_pos rfl] at h; cases h; intro p l e R s m args below meth c Q D cy nL A hC hf hlo; exact q_r1 hC ok_X0_has qw_X0_has qlk_0_47 ⟨qst_X0_has, qsl_X0_has⟩ ⟨rfl, rfl⟩ (by omega) (by omega)
  rw [if_neg h0] at h
  cases h
theorem ok_X0_covers : q_Ok yX0_covers cX0_covers 4 (some .boolean) 3 T_X0_covers 0 0 := q_okOf (plainFor_of_name (by decide +kernel)) rfl (fun h => by cases h) cs_X0_covers (fun _ _ _ _ h => h)
theorem qlk_6_3 : Cond.methodLink (q_ow 6) 3 objectInit ∈ q_Ts := q_in 88 (by decide +kernel) rfl
def ms_X6_init : Nat → Option QI := fun i => if i = 3 then some (8, 0, 0, q_T0, 0, 0) else if i = 34 then some (3, 0, 0, T_X0_init, 0, 0) else none
theorem ms_X6_init_3 : ms_X6_init 3 = some (8, 0, 0, q_T0, 0, 0) := rfl
theorem ms_X6_init_34 : ms_X6_init 34 = some (3, 0, 0, T_X0_init, 0, 0) := rfl
def T_X6_init : QTT := q_T cX6_init 2 6 true none ms_X6_init 7 32
set_option maxRecDepth 100000 in
theorem qw_X6_init : q_Wd yX6_init cX6_init 2 none 0 := ⟨q_in 87 rfl rfl, q_in 65 (by decide +kernel) rfl, by decide +kernel, by decide +kernel, by decide +kernel, by decide⟩
theorem qst_X6_init : Cond.instanceMethod yX6_init ∈ q_Ts := q_in 86 (by decide +kernel) rfl
theorem cs_X6_init : ∀ (idx : Nat) (info : QI), ms_X6_init idx = some info → q_Cs cX6_init 6 2 idx info := by
  intro idx info h
  unfold ms_X6_init at h
  by_cases h0 : idx = 3
  · subst h0; rw [if_pos rfl] at h; cases h; intro p l e R s m args below meth c Q D cy nL A hC hf hlo; exact q_r8 hC qlk_6_3 q_lo0 q_lo1 (by omega) (by omega)
  rw [if_neg h0] at h
  by_cases h1 : idx = 34
  · subst h1; rw [if_pos rfl] at h; cases h; intro p l e R s m args below meth c Q D cy nL A hC hf hlo; exact q_r3 (host := "StochasticBench") hC ok_X0_init qw_X0_init (by decide +kernel) qst_X0_init rfl (by omega) (by omega)
  rw [if_neg h1] at h
  cases h
theorem ok_X6_init : q_Ok yX6_init cX6_init 2 none 2 T_X6_init 7 32 := q_okOf (plainFor_of_name (by decide +kernel)) rfl (fun _ => rfl) cs_X6_init (fun _ _ _ _ h => h)
theorem qlk_3_3 : Cond.methodLink (q_ow 3) 3 objectInit ∈ q_Ts := q_in 154 (by decide +kernel) rfl
def ms_X3_init : Nat → Option QI := fun i => if i = 3 then some (8, 0, 0, q_T0, 0, 0) else none
theorem ms_X3_init_3 : ms_X3_init 3 = some (8, 0, 0, q_T0, 0, 0) := rfl
def T_X3_init : QTT := q_T cX3_init 1 3 true none ms_X3_init 0 0
set_option maxRecDepth 100000 in
theorem qw_X3_init : q_Wd yX3_init cX3_init 1 none 0 := ⟨q_in 153 rfl rfl, q_in 68 (by decide +kernel) rfl, by decide +kernel, by decide +kernel, by decide +kernel, by decide⟩
theorem qst_X3_init : Cond.instanceMethod yX3_init ∈ q_Ts := q_in 152 (by decide +kernel) rfl
theorem cs_X3_init : ∀ (idx : Nat) (info : QI), ms_X3_init idx = some info → q_Cs cX3_init 3 1 idx info := by
  intro idx info h
  unfold ms_X3_init at h
  by_cases h0 : idx = 3
  · subst h0; rw [if_pos rfl] at h; cases h; intro p l e R s m args below meth c Q D cy nL A hC hf hlo; exact q_r8 hC qlk_3_3 q_lo0 q_lo1 (by omega) (by omega)
  rw [if_neg h0] at h
  cases h
theorem ok_X3_init : q_Ok yX3_init cX3_init 1 none 1 T_X3_init 0 0 := q_okOf (plainFor_of_name (by decide +kernel)) rfl (fun _ => rfl) cs_X3_init (fun _ _ _ _ h => h)
theorem qlk_2_3 : Cond.methodLink (q_ow 2) 3 objectInit ∈ q_Ts := q_in 147 (by decide +kernel) rfl
def ms_X2_init : Nat → Option QI := fun i => if i = 3 then some (8, 0, 0, q_T0, 0, 0) else if i = 21 then some (3, 0, 3, T_X3_init, 0, 0) else none
theorem ms_X2_init_3 : ms_X2_init 3 = some (8, 0, 0, q_T0, 0, 0) := rfl
theorem ms_X2_init_21 : ms_X2_init 21 = some (3, 0, 3, T_X3_init, 0, 0) := rfl
def T_X2_init : QTT := q_T cX2_init 2 2 true none ms_X2_init 66 775
set_option maxRecDepth 100000 in
theorem qw_X2_init : q_Wd yX2_init cX2_init 2 none 0 := ⟨q_in 146 rfl rfl, q_in 67 (by decide +kernel) rfl, by decide +kernel, by decide +kernel, by decide +kernel, by decide⟩
theorem qst_X2_init : Cond.instanceMethod yX2_init ∈ q_Ts := q_in 145 (by decide +kernel) rfl
theorem cs_X2_init : ∀ (idx : Nat) (info : QI), ms_X2_init idx = some info → q_Cs cX2_init 2 2 idx info := by
  intro idx info h
  unfold ms_X2_init at h
  by_cases h0 : idx = 3
  · subst h0; rw [if_pos rfl] at h; cases h; intro p l e R s m args below meth c Q D cy nL A hC hf hlo; exact q_r8 hC qlk_2_3 q_lo0 q_lo1 (by omega) (by omega)
  rw [if_neg h0] at h
  by_cases h1 : idx = 21
  · subst h1; rw [if_pos rfl] at h; cases h; intro p l e R s m args below meth c Q D cy nL A hC hf hlo; exact q_r3 (host := "StochasticBench") hC ok_X3_init qw_X3_init (by decide +kernel) qst_X3_init rfl (by omega) (by omega)
  rw [if_neg h1] at h
  cases h
theorem ok_X2_init : q_Ok yX2_init cX2_init 2 none 2 T_X2_init 66 775 := q_okOf (plainFor_of_name (by decide +kernel)) rfl (fun _ => rfl) cs_X2_init (fun _ _ _ _ h => h)
theorem qlk_1_1 : Cond.methodLink (q_ow 1) 1 objectInit ∈ q_Ts := q_in 229 (by decide +kernel) rfl
theorem qlk_1_21 : Cond.methodLink (q_ow 1) 21 yX6_init ∈ q_Ts := q_in 234 (by decide +kernel) rfl
theorem qlk_1_22 : Cond.methodLink (q_ow 1) 22 yX2_init ∈ q_Ts := q_in 235 (by decide +kernel) rfl
def ms_X1_init : Nat → Option QI := fun i => if i = 1 then some (8, 0, 0, q_T0, 0, 0) else if i = 21 then some (2, 0, 6, T_X6_init, 7, 32) else if i = 22 then some (2, 0, 2, T_X2_init, 66, 775) else none
theorem ms_X1_init_1 : ms_X1_init 1 = some (8, 0, 0, q_T0, 0, 0) := rfl
theorem ms_X1_init_21 : ms_X1_init 21 = some (2, 0, 6, T_X6_init, 7, 32) := rfl
theorem ms_X1_init_22 : ms_X1_init 22 = some (2, 0, 2, T_X2_init, 66, 775) := rfl
def T_X1_init : QTT := q_T cX1_init 2 1 true none ms_X1_init 452 4920
set_option maxRecDepth 100000 in
theorem qw_X1_init : q_Wd yX1_init cX1_init 2 none 0 := ⟨q_in 228 rfl rfl, q_in 69 (by decide +kernel) rfl, by decide +kernel, by decide +kernel, by decide +kernel, by decide⟩
theorem qst_X1_init : Cond.instanceMethod yX1_init ∈ q_Ts := q_in 227 (by decide +kernel) rfl
theorem cs_X1_init : ∀ (idx : Nat) (info : QI), ms_X1_init idx = some info → q_Cs cX1_init 1 3 idx info := by
  intro idx info h
  unfold ms_X1_init at h
  by_cases h0 : idx = 1
  · subst h0; rw [if_pos rfl] at h; cases h; intro p l e R s m args below meth c Q D cy nL A hC hf hlo; exact q_r8 hC qlk_1_1 q_lo0 q_lo1 (by omega) (by omega)
  rw [if_neg h0] at h
  by_cases h1 : idx = 21
  · subst h1; rw [if_pos rfl] at h; cases h; intro p l e R s m args below meth c Q D cy nL A hC hf hlo; exact q_r2 hC ok_X6_init qw_X6_init qlk_1_21 qst_X6_init rfl (by omega) (by omega)
  rw [if_neg h1] at h
  by_cases h2 : idx = 22
  · subst h2; rw [if_pos rfl] at h; cases h; intro p l e R s m args below meth c Q D cy nL A hC hf hlo; exact q_r2 hC ok_X2_init qw_X2_init qlk_1_22 qst_X2_init rfl (by omega) (by omega)
  rw [if_neg h2] at h
  cases h
theorem ok_X1_init : q_Ok yX1_init cX1_init 2 none 3 T_X1_init 452 4920 := q_okOf (plainFor_of_name (by decide +kernel)) rfl (fun _ => rfl) cs_X1_init (fun _ _ _ _ h => h)
theorem qlk_6_44 : Cond.methodLink (q_ow 6) 44 yX0_define ∈ q_Ts := q_in 378 (by decide +kernel) rfl
theorem qlk_6_48 : Cond.methodLink (q_ow 6) 48 arraycopyName ∈ q_Ts := q_in 382 (by decide +kernel) rfl
def ms_X6_copyFrom : Nat → Option QI := fun i => if i = 44 then some (1, 3, 0, T_X0_define, 0, 0) else if i = 48 then some (9, 0, 0, q_T0, 0, 0) else none
theorem ms_X6_copyFrom_44 : ms_X6_copyFrom 44 = some (1, 3, 0, T_X0_define, 0, 0) := rfl
theorem ms_X6_copyFrom_48 : ms_X6_copyFrom 48 = some (9, 0, 0, q_T0, 0, 0) := rfl
def T_X6_copyFrom : QTT := q_T cX6_copyFrom 4 6 false none ms_X6_copyFrom 0 0
set_option maxRecDepth 100000 in
theorem qw_X6_copyFrom : q_Wd yX6_copyFrom cX6_copyFrom 4 none 1 := ⟨q_in 377 rfl rfl, q_in 65 (by decide +kernel) rfl, by decide +kernel, by decide +kernel, by decide +kernel, by decide⟩
theorem qst_X6_copyFrom : Cond.instanceMethod yX6_copyFrom ∈ q_Ts := q_in 375 (by decide +kernel) rfl
theorem qsl_X6_copyFrom : Cond.selects yX6_copyFrom.cls yX6_copyFrom yX6_copyFrom ∈ q_Ts := q_in 376 (by decide +kernel) rfl
theorem cs_X6_copyFrom : ∀ (idx : Nat) (info : QI), ms_X6_copyFrom idx = some info → q_Cs cX6_copyFrom 6 1 idx info := by
  intro idx info h
  unfold ms_X6_copyFrom at h
  by_cases h0 : idx = 44
  · subst h0; rw [if_pos rfl] at h; cases h; intro p l e R s m args below meth c Q D cy nL A hC hf hlo; exact q_r1 hC ok_X0_define qw_X0_define qlk_6_44 ⟨qst_X0_define, qsl_X0_define⟩ ⟨rfl, rfl⟩ (by omega) (by omega)
  rw [if_neg h0] at h
  by_cases h1 : idx = 48
  · subst h1; rw [if_pos rfl] at h; cases h; intro p l e R s m args below meth c Q D cy nL A hC hf hlo; exact q_r9 hC qlk_6_48 q_la0 q_la1 q_la2 (by omega) (by omega)
  rw [if_neg h1] at h
  cases h
theorem ok_X6_copyFrom : q_Ok yX6_copyFrom cX6_copyFrom 4 none 1 T_X6_copyFrom 0 0 := q_okOf (plainFor_of_name (by decide +kernel)) rfl (fun h => by cases h) cs_X6_copyFrom (fun _ _ _ _ h => h)
def ms_X2_at : Nat → Option QI := fun i => none
def T_X2_at : QTT := q_T cX2_at 2 2 false (some (.object "StochasticBench$Operation")) ms_X2_at 0 0
set_option maxRecDepth 100000 in
theorem qw_X2_at : q_Wd yX2_at cX2_at 2 (some (.object "StochasticBench$Operation")) 1 := ⟨q_in 392 rfl rfl, q_in 67 (by decide +kernel) rfl, by decide +kernel, by decide +kernel, by decide +kernel, by decide⟩
theorem qst_X2_at : Cond.instanceMethod yX2_at ∈ q_Ts := q_in 390 (by decide +kernel) rfl
theorem qsl_X2_at : Cond.selects yX2_at.cls yX2_at yX2_at ∈ q_Ts := q_in 391 (by decide +kernel) rfl
theorem cs_X2_at : ∀ (idx : Nat) (info : QI), ms_X2_at idx = some info → q_Cs cX2_at 2 0 idx info := by
  intro idx info h
  unfold ms_X2_at at h
  cases h
theorem ok_X2_at : q_Ok yX2_at cX2_at 2 (some (.object "StochasticBench$Operation")) 0 T_X2_at 0 0 := q_okOf (plainFor_of_name (by decide +kernel)) rfl (fun h => by cases h) cs_X2_at (fun _ _ _ _ h => h)
def ms_X3_copyFrom : Nat → Option QI := fun i => none
def T_X3_copyFrom : QTT := q_T cX3_copyFrom 2 3 false none ms_X3_copyFrom 0 0
set_option maxRecDepth 100000 in
theorem qw_X3_copyFrom : q_Wd yX3_copyFrom cX3_copyFrom 2 none 1 := ⟨q_in 396 rfl rfl, q_in 68 (by decide +kernel) rfl, by decide +kernel, by decide +kernel, by decide +kernel, by decide⟩
theorem qst_X3_copyFrom : Cond.instanceMethod yX3_copyFrom ∈ q_Ts := q_in 394 (by decide +kernel) rfl
theorem qsl_X3_copyFrom : Cond.selects yX3_copyFrom.cls yX3_copyFrom yX3_copyFrom ∈ q_Ts := q_in 395 (by decide +kernel) rfl
theorem cs_X3_copyFrom : ∀ (idx : Nat) (info : QI), ms_X3_copyFrom idx = some info → q_Cs cX3_copyFrom 3 0 idx info := by
  intro idx info h
  unfold ms_X3_copyFrom at h
  cases h
theorem ok_X3_copyFrom : q_Ok yX3_copyFrom cX3_copyFrom 2 none 0 T_X3_copyFrom 0 0 := q_okOf (plainFor_of_name (by decide +kernel)) rfl (fun h => by cases h) cs_X3_copyFrom (fun _ _ _ _ h => h)
theorem qlk_2_26 : Cond.methodLink (q_ow 2) 26 yX2_at ∈ q_Ts := q_in 389 (by decide +kernel) rfl
theorem qlk_2_30 : Cond.methodLink (q_ow 2) 30 yX3_copyFrom ∈ q_Ts := q_in 393 (by decide +kernel) rfl
theorem qlk_2_37 : Cond.methodLink (q_ow 2) 37 arraycopyName ∈ q_Ts := q_in 397 (by decide +kernel) rfl
def ms_X2_copyFrom : Nat → Option QI := fun i => if i = 26 then some (1, 1, 2, T_X2_at, 0, 0) else if i = 30 then some (1, 1, 3, T_X3_copyFrom, 0, 0) else if i = 37 then some (9, 0, 0, q_T0, 0, 0) else none
theorem ms_X2_copyFrom_26 : ms_X2_copyFrom 26 = some (1, 1, 2, T_X2_at, 0, 0) := rfl
theorem ms_X2_copyFrom_30 : ms_X2_copyFrom 30 = some (1, 1, 3, T_X3_copyFrom, 0, 0) := rfl
theorem ms_X2_copyFrom_37 : ms_X2_copyFrom 37 = some (9, 0, 0, q_T0, 0, 0) := rfl
def T_X2_copyFrom : QTT := q_T cX2_copyFrom 3 2 false none ms_X2_copyFrom 0 0
set_option maxRecDepth 100000 in
theorem qw_X2_copyFrom : q_Wd yX2_copyFrom cX2_copyFrom 3 none 1 := ⟨q_in 388 rfl rfl, q_in 67 (by decide +kernel) rfl, by decide +kernel, by decide +kernel, by decide +kernel, by decide⟩
theorem qst_X2_copyFrom : Cond.instanceMethod yX2_copyFrom ∈ q_Ts := q_in 386 (by decide +kernel) rfl
theorem qsl_X2_copyFrom : Cond.selects yX2_copyFrom.cls yX2_copyFrom yX2_copyFrom ∈ q_Ts := q_in 387 (by decide +kernel) rfl
theorem cs_X2_copyFrom : ∀ (idx : Nat) (info : QI), ms_X2_copyFrom idx = some info → q_Cs cX2_copyFrom 2 1 idx info := by
  intro idx info h
  unfold ms_X2_copyFrom at h
  by_cases h0 : idx = 26
  · subst h0; rw [if_pos rfl] at h; cases h; intro p l e R s m args below meth c Q D cy nL A hC hf hlo; exact q_r1 hC ok_X2_at qw_X2_at qlk_2_26 ⟨qst_X2_at, qsl_X2_at⟩ ⟨rfl, rfl⟩ (by omega) (by omega)
  rw [if_neg h0] at h
  by_cases h1 : idx = 30
  · subst h1; rw [if_pos rfl] at h; cases h; intro p l e R s m args below meth c Q D cy nL A hC hf hlo; exact q_r1 hC ok_X3_copyFrom qw_X3_copyFrom qlk_2_30 ⟨qst_X3_copyFrom, qsl_X3_copyFrom⟩ ⟨rfl, rfl⟩ (by omega) (by omega)
  rw [if_neg h1] at h
  by_cases h2 : idx = 37
  · subst h2; rw [if_pos rfl] at h; cases h; intro p l e R s m args below meth c Q D cy nL A hC hf hlo; exact q_r9 hC qlk_2_37 q_la0 q_la1 q_la2 (by omega) (by omega)
  rw [if_neg h2] at h
  cases h
theorem ok_X2_copyFrom : q_Ok yX2_copyFrom cX2_copyFrom 3 none 1 T_X2_copyFrom 0 0 := q_okOf (plainFor_of_name (by decide +kernel)) rfl (fun h => by cases h) cs_X2_copyFrom (fun _ _ _ _ h => h)
theorem qlk_1_30 : Cond.methodLink (q_ow 1) 30 yX6_copyFrom ∈ q_Ts := q_in 374 (by decide +kernel) rfl
theorem qlk_1_34 : Cond.methodLink (q_ow 1) 34 yX2_copyFrom ∈ q_Ts := q_in 385 (by decide +kernel) rfl
def ms_X1_keep : Nat → Option QI := fun i => if i = 30 then some (1, 1, 6, T_X6_copyFrom, 0, 0) else if i = 34 then some (1, 1, 2, T_X2_copyFrom, 0, 0) else none
theorem ms_X1_keep_30 : ms_X1_keep 30 = some (1, 1, 6, T_X6_copyFrom, 0, 0) := rfl
theorem ms_X1_keep_34 : ms_X1_keep 34 = some (1, 1, 2, T_X2_copyFrom, 0, 0) := rfl
def T_X1_keep : QTT := q_T cX1_keep 4 1 false none ms_X1_keep 0 0
set_option maxRecDepth 100000 in
theorem qw_X1_keep : q_Wd yX1_keep cX1_keep 4 none 2 := ⟨q_in 373 rfl rfl, q_in 69 (by decide +kernel) rfl, by decide +kernel, by decide +kernel, by decide +kernel, by decide⟩
theorem qst_X1_keep : Cond.instanceMethod yX1_keep ∈ q_Ts := q_in 371 (by decide +kernel) rfl
theorem qsl_X1_keep : Cond.selects yX1_keep.cls yX1_keep yX1_keep ∈ q_Ts := q_in 372 (by decide +kernel) rfl
theorem cs_X1_keep : ∀ (idx : Nat) (info : QI), ms_X1_keep idx = some info → q_Cs cX1_keep 1 2 idx info := by
  intro idx info h
  unfold ms_X1_keep at h
  by_cases h0 : idx = 30
  · subst h0; rw [if_pos rfl] at h; cases h; intro p l e R s m args below meth c Q D cy nL A hC hf hlo; exact q_r1 hC ok_X6_copyFrom qw_X6_copyFrom qlk_1_30 ⟨qst_X6_copyFrom, qsl_X6_copyFrom⟩ ⟨rfl, rfl⟩ (by omega) (by omega)
  rw [if_neg h0] at h
  by_cases h1 : idx = 34
  · subst h1; rw [if_pos rfl] at h; cases h; intro p l e R s m args below meth c Q D cy nL A hC hf hlo; exact q_r1 hC ok_X2_copyFrom qw_X2_copyFrom qlk_1_34 ⟨qst_X2_copyFrom, qsl_X2_copyFrom⟩ ⟨rfl, rfl⟩ (by omega) (by omega)
  rw [if_neg h1] at h
  cases h
theorem ok_X1_keep : q_Ok yX1_keep cX1_keep 4 none 2 T_X1_keep 0 0 := q_okOf (plainFor_of_name (by decide +kernel)) rfl (fun h => by cases h) cs_X1_keep (fun _ _ _ _ h => h)
def ms_X1_restore : Nat → Option QI := fun i => if i = 30 then some (1, 1, 6, T_X6_copyFrom, 0, 0) else if i = 34 then some (1, 1, 2, T_X2_copyFrom, 0, 0) else none
theorem ms_X1_restore_30 : ms_X1_restore 30 = some (1, 1, 6, T_X6_copyFrom, 0, 0) := rfl
theorem ms_X1_restore_34 : ms_X1_restore 34 = some (1, 1, 2, T_X2_copyFrom, 0, 0) := rfl
def T_X1_restore : QTT := q_T cX1_restore 4 1 false (some .boolean) ms_X1_restore 0 0
set_option maxRecDepth 100000 in
theorem qw_X1_restore : q_Wd yX1_restore cX1_restore 4 (some .boolean) 2 := ⟨q_in 858 rfl rfl, q_in 69 (by decide +kernel) rfl, by decide +kernel, by decide +kernel, by decide +kernel, by decide⟩
theorem qst_X1_restore : Cond.instanceMethod yX1_restore ∈ q_Ts := q_in 856 (by decide +kernel) rfl
theorem qsl_X1_restore : Cond.selects yX1_restore.cls yX1_restore yX1_restore ∈ q_Ts := q_in 857 (by decide +kernel) rfl
theorem cs_X1_restore : ∀ (idx : Nat) (info : QI), ms_X1_restore idx = some info → q_Cs cX1_restore 1 2 idx info := by
  intro idx info h
  unfold ms_X1_restore at h
  by_cases h0 : idx = 30
  · subst h0; rw [if_pos rfl] at h; cases h; intro p l e R s m args below meth c Q D cy nL A hC hf hlo; exact q_r1 hC ok_X6_copyFrom qw_X6_copyFrom qlk_1_30 ⟨qst_X6_copyFrom, qsl_X6_copyFrom⟩ ⟨rfl, rfl⟩ (by omega) (by omega)
  rw [if_neg h0] at h
  by_cases h1 : idx = 34
  · subst h1; rw [if_pos rfl] at h; cases h; intro p l e R s m args below meth c Q D cy nL A hC hf hlo; exact q_r1 hC ok_X2_copyFrom qw_X2_copyFrom qlk_1_34 ⟨qst_X2_copyFrom, qsl_X2_copyFrom⟩ ⟨rfl, rfl⟩ (by omega) (by omega)
  rw [if_neg h1] at h
  cases h
theorem ok_X1_restore : q_Ok yX1_restore cX1_restore 4 (some .boolean) 2 T_X1_restore 0 0 := q_okOf (plainFor_of_name (by decide +kernel)) rfl (fun h => by cases h) cs_X1_restore (fun _ _ _ _ h => h)
def ms_X2_clearSums : Nat → Option QI := fun i => none
def T_X2_clearSums : QTT := q_T cX2_clearSums 2 2 false none ms_X2_clearSums 0 0
set_option maxRecDepth 100000 in
theorem qw_X2_clearSums : q_Wd yX2_clearSums cX2_clearSums 2 none 0 := ⟨q_in 810 rfl rfl, q_in 67 (by decide +kernel) rfl, by decide +kernel, by decide +kernel, by decide +kernel, by decide⟩
theorem qst_X2_clearSums : Cond.instanceMethod yX2_clearSums ∈ q_Ts := q_in 808 (by decide +kernel) rfl
theorem qsl_X2_clearSums : Cond.selects yX2_clearSums.cls yX2_clearSums yX2_clearSums ∈ q_Ts := q_in 809 (by decide +kernel) rfl
theorem cs_X2_clearSums : ∀ (idx : Nat) (info : QI), ms_X2_clearSums idx = some info → q_Cs cX2_clearSums 2 0 idx info := by
  intro idx info h
  unfold ms_X2_clearSums at h
  cases h
theorem ok_X2_clearSums : q_Ok yX2_clearSums cX2_clearSums 2 none 0 T_X2_clearSums 0 0 := q_okOf (plainFor_of_name (by decide +kernel)) rfl (fun h => by cases h) cs_X2_clearSums (fun _ _ _ _ h => h)
def ms_X2_has : Nat → Option QI := fun i => none
def T_X2_has : QTT := q_T cX2_has 2 2 false (some .boolean) ms_X2_has 0 0
set_option maxRecDepth 100000 in
theorem qw_X2_has : q_Wd yX2_has cX2_has 2 (some .boolean) 1 := ⟨q_in 722 rfl rfl, q_in 67 (by decide +kernel) rfl, by decide +kernel, by decide +kernel, by decide +kernel, by decide⟩
theorem qst_X2_has : Cond.instanceMethod yX2_has ∈ q_Ts := q_in 720 (by decide +kernel) rfl
theorem qsl_X2_has : Cond.selects yX2_has.cls yX2_has yX2_has ∈ q_Ts := q_in 721 (by decide +kernel) rfl
theorem cs_X2_has : ∀ (idx : Nat) (info : QI), ms_X2_has idx = some info → q_Cs cX2_has 2 0 idx info := by
  intro idx info h
  unfold ms_X2_has at h
  cases h
theorem ok_X2_has : q_Ok yX2_has cX2_has 2 (some .boolean) 0 T_X2_has 0 0 := q_okOf (plainFor_of_name (by decide +kernel)) rfl (fun h => by cases h) cs_X2_has (fun _ _ _ _ h => h)
def ms_X3_kindOf : Nat → Option QI := fun i => none
def T_X3_kindOf : QTT := q_T cX3_kindOf 1 3 false (some .int) ms_X3_kindOf 0 0
set_option maxRecDepth 100000 in
theorem qw_X3_kindOf : q_Wd yX3_kindOf cX3_kindOf 1 (some .int) 1 := ⟨q_in 505 rfl rfl, q_in 68 (by decide +kernel) rfl, by decide +kernel, by decide +kernel, by decide +kernel, by decide⟩
theorem qst_X3_kindOf : Cond.static yX3_kindOf ∈ q_Ts := q_in 504 (by decide +kernel) rfl
theorem cs_X3_kindOf : ∀ (idx : Nat) (info : QI), ms_X3_kindOf idx = some info → q_Cs cX3_kindOf 3 0 idx info := by
  intro idx info h
  unfold ms_X3_kindOf at h
  cases h
theorem ok_X3_kindOf : q_Ok yX3_kindOf cX3_kindOf 1 (some .int) 0 T_X3_kindOf 0 0 := q_okOf (plainFor_of_name (by decide +kernel)) rfl (fun h => by cases h) cs_X3_kindOf (fun _ _ _ _ h => h)
theorem qlk_3_48 : Cond.methodLink (q_ow 3) 48 yX3_kindOf ∈ q_Ts := q_in 545 (by decide +kernel) rfl
def ms_X3_isQuotient : Nat → Option QI := fun i => if i = 48 then some (0, 1, 3, T_X3_kindOf, 0, 0) else none
theorem ms_X3_isQuotient_48 : ms_X3_isQuotient 48 = some (0, 1, 3, T_X3_kindOf, 0, 0) := rfl
def T_X3_isQuotient : QTT := q_T cX3_isQuotient 1 3 false (some .boolean) ms_X3_isQuotient 0 0
set_option maxRecDepth 100000 in
theorem qw_X3_isQuotient : q_Wd yX3_isQuotient cX3_isQuotient 1 (some .boolean) 0 := ⟨q_in 544 rfl rfl, q_in 68 (by decide +kernel) rfl, by decide +kernel, by decide +kernel, by decide +kernel, by decide⟩
theorem qst_X3_isQuotient : Cond.instanceMethod yX3_isQuotient ∈ q_Ts := q_in 542 (by decide +kernel) rfl
theorem qsl_X3_isQuotient : Cond.selects yX3_isQuotient.cls yX3_isQuotient yX3_isQuotient ∈ q_Ts := q_in 543 (by decide +kernel) rfl
theorem cs_X3_isQuotient : ∀ (idx : Nat) (info : QI), ms_X3_isQuotient idx = some info → q_Cs cX3_isQuotient 3 1 idx info := by
  intro idx info h
  unfold ms_X3_isQuotient at h
  by_cases h0 : idx = 48
  · subst h0; rw [if_pos rfl] at h; cases h; intro p l e R s m args below meth c Q D cy nL A hC hf hlo; exact q_r0 hC ok_X3_kindOf qw_X3_kindOf qlk_3_48 qst_X3_kindOf (by omega) (by omega)
  rw [if_neg h0] at h
  cases h
theorem ok_X3_isQuotient : q_Ok yX3_isQuotient cX3_isQuotient 1 (some .boolean) 1 T_X3_isQuotient 0 0 := q_okOf (plainFor_of_name (by decide +kernel)) rfl (fun h => by cases h) cs_X3_isQuotient (fun _ _ _ _ h => h)
def ms_X3_numeratorOf : Nat → Option QI := fun i => none
def T_X3_numeratorOf : QTT := q_T cX3_numeratorOf 3 3 false (some .long) ms_X3_numeratorOf 0 0
set_option maxRecDepth 100000 in
theorem qw_X3_numeratorOf : q_Wd yX3_numeratorOf cX3_numeratorOf 3 (some .long) 1 := ⟨q_in 438 rfl rfl, q_in 68 (by decide +kernel) rfl, by decide +kernel, by decide +kernel, by decide +kernel, by decide⟩
theorem qst_X3_numeratorOf : Cond.instanceMethod yX3_numeratorOf ∈ q_Ts := q_in 436 (by decide +kernel) rfl
theorem qsl_X3_numeratorOf : Cond.selects yX3_numeratorOf.cls yX3_numeratorOf yX3_numeratorOf ∈ q_Ts := q_in 437 (by decide +kernel) rfl
theorem cs_X3_numeratorOf : ∀ (idx : Nat) (info : QI), ms_X3_numeratorOf idx = some info → q_Cs cX3_numeratorOf 3 0 idx info := by
  intro idx info h
  unfold ms_X3_numeratorOf at h
  cases h
theorem ok_X3_numeratorOf : q_Ok yX3_numeratorOf cX3_numeratorOf 3 (some .long) 0 T_X3_numeratorOf 0 0 := q_okOf (plainFor_of_name (by decide +kernel)) rfl (fun h => by cases h) cs_X3_numeratorOf (fun _ _ _ _ h => h)
def ms_X3_dependsOnDraw : Nat → Option QI := fun i => none
def T_X3_dependsOnDraw : QTT := q_T cX3_dependsOnDraw 1 3 false (some .boolean) ms_X3_dependsOnDraw 0 0
set_option maxRecDepth 100000 in
theorem qw_X3_dependsOnDraw : q_Wd yX3_dependsOnDraw cX3_dependsOnDraw 1 (some .boolean) 0 := ⟨q_in 558 rfl rfl, q_in 68 (by decide +kernel) rfl, by decide +kernel, by decide +kernel, by decide +kernel, by decide⟩
theorem qst_X3_dependsOnDraw : Cond.instanceMethod yX3_dependsOnDraw ∈ q_Ts := q_in 557 (by decide +kernel) rfl
theorem qsl_X3_dependsOnDraw : Cond.selects yX3_dependsOnDraw.cls yX3_dependsOnDraw yX3_dependsOnDraw ∈ q_Ts := q_in 3 (by decide +kernel) rfl
theorem cs_X3_dependsOnDraw : ∀ (idx : Nat) (info : QI), ms_X3_dependsOnDraw idx = some info → q_Cs cX3_dependsOnDraw 3 0 idx info := by
  intro idx info h
  unfold ms_X3_dependsOnDraw at h
  cases h
theorem ok_X3_dependsOnDraw : q_Ok yX3_dependsOnDraw cX3_dependsOnDraw 1 (some .boolean) 0 T_X3_dependsOnDraw 0 0 := q_okOf (plainFor_of_name (by decide +kernel)) rfl (fun h => by cases h) cs_X3_dependsOnDraw (fun _ _ _ _ h => h)
def ms_J9_floorDiv_f86c9 : Nat → Option QI := fun i => none
def T_J9_floorDiv_f86c9 : QTT := q_T cJ9_floorDiv_f86c9 6 10 false (some .long) ms_J9_floorDiv_f86c9 0 0
set_option maxRecDepth 100000 in
theorem qw_J9_floorDiv_f86c9 : q_Wd yJ9_floorDiv_f86c9 cJ9_floorDiv_f86c9 6 (some .long) 2 := ⟨q_in 441 rfl rfl, q_in 74 (by decide +kernel) rfl, by decide +kernel, by decide +kernel, by decide +kernel, by decide⟩
theorem qst_J9_floorDiv_f86c9 : Cond.static yJ9_floorDiv_f86c9 ∈ q_Ts := q_in 440 (by decide +kernel) rfl
theorem cs_J9_floorDiv_f86c9 : ∀ (idx : Nat) (info : QI), ms_J9_floorDiv_f86c9 idx = some info → q_Cs cJ9_floorDiv_f86c9 10 0 idx info := by
  intro idx info h
  unfold ms_J9_floorDiv_f86c9 at h
  cases h
theorem ok_J9_floorDiv_f86c9 : q_Ok yJ9_floorDiv_f86c9 cJ9_floorDiv_f86c9 6 (some .long) 0 T_J9_floorDiv_f86c9 0 0 := q_okOf (by decide +kernel) rfl (fun h => by cases h) cs_J9_floorDiv_f86c9 (fun _ _ _ _ h => h)
theorem qlk_3_71 : Cond.methodLink (q_ow 3) 71 yJ9_floorDiv_f86c9 ∈ q_Ts := q_in 439 (by decide +kernel) rfl
def ms_X3_drawsUp : Nat → Option QI := fun i => if i = 71 then some (0, 2, 0, T_J9_floorDiv_f86c9, 0, 0) else none
theorem ms_X3_drawsUp_71 : ms_X3_drawsUp 71 = some (0, 2, 0, T_J9_floorDiv_f86c9, 0, 0) := rfl
def T_X3_drawsUp : QTT := q_T cX3_drawsUp 7 3 false (some .long) ms_X3_drawsUp 0 0
set_option maxRecDepth 100000 in
theorem qw_X3_drawsUp : q_Wd yX3_drawsUp cX3_drawsUp 7 (some .long) 0 := ⟨q_in 562 rfl rfl, q_in 68 (by decide +kernel) rfl, by decide +kernel, by decide +kernel, by decide +kernel, by decide⟩
theorem qst_X3_drawsUp : Cond.instanceMethod yX3_drawsUp ∈ q_Ts := q_in 561 (by decide +kernel) rfl
theorem qsl_X3_drawsUp : Cond.selects yX3_drawsUp.cls yX3_drawsUp yX3_drawsUp ∈ q_Ts := q_in 4 (by decide +kernel) rfl
theorem cs_X3_drawsUp : ∀ (idx : Nat) (info : QI), ms_X3_drawsUp idx = some info → q_Cs cX3_drawsUp 3 1 idx info := by
  intro idx info h
  unfold ms_X3_drawsUp at h
  by_cases h0 : idx = 71
  · subst h0; rw [if_pos rfl] at h; cases h; intro p l e R s m args below meth c Q D cy nL A hC hf hlo; exact q_r0 hC ok_J9_floorDiv_f86c9 qw_J9_floorDiv_f86c9 qlk_3_71 qst_J9_floorDiv_f86c9 (by omega) (by omega)
  rw [if_neg h0] at h
  cases h
theorem ok_X3_drawsUp : q_Ok yX3_drawsUp cX3_drawsUp 7 (some .long) 1 T_X3_drawsUp 0 0 := q_okOf (plainFor_of_name (by decide +kernel)) rfl (fun h => by cases h) cs_X3_drawsUp (fun _ _ _ _ h => h)
theorem qlk_3_86 : Cond.methodLink (q_ow 3) 86 yX3_dependsOnDraw ∈ q_Ts := q_in 555 (by decide +kernel) rfl
theorem qlk_3_90 : Cond.methodLink (q_ow 3) 90 yX3_drawsUp ∈ q_Ts := q_in 559 (by decide +kernel) rfl
def ms_X3_average : Nat → Option QI := fun i => if i = 86 then some (1, 0, 3, T_X3_dependsOnDraw, 0, 0) else if i = 90 then some (1, 0, 3, T_X3_drawsUp, 0, 0) else none
theorem ms_X3_average_86 : ms_X3_average 86 = some (1, 0, 3, T_X3_dependsOnDraw, 0, 0) := rfl
theorem ms_X3_average_90 : ms_X3_average 90 = some (1, 0, 3, T_X3_drawsUp, 0, 0) := rfl
def T_X3_average : QTT := q_T cX3_average 3 3 false (some .long) ms_X3_average 0 0
set_option maxRecDepth 100000 in
theorem qw_X3_average : q_Wd yX3_average cX3_average 3 (some .long) 0 := ⟨q_in 554 rfl rfl, q_in 68 (by decide +kernel) rfl, by decide +kernel, by decide +kernel, by decide +kernel, by decide⟩
theorem qst_X3_average : Cond.instanceMethod yX3_average ∈ q_Ts := q_in 552 (by decide +kernel) rfl
theorem qsl_X3_average : Cond.selects yX3_average.cls yX3_average yX3_average ∈ q_Ts := q_in 553 (by decide +kernel) rfl
theorem cs_X3_average : ∀ (idx : Nat) (info : QI), ms_X3_average idx = some info → q_Cs cX3_average 3 2 idx info := by
  intro idx info h
  unfold ms_X3_average at h
  by_cases h0 : idx = 86
  · subst h0; rw [if_pos rfl] at h; cases h; intro p l e R s m args below meth c Q D cy nL A hC hf hlo; exact q_r1 hC ok_X3_dependsOnDraw qw_X3_dependsOnDraw qlk_3_86 ⟨qst_X3_dependsOnDraw, qsl_X3_dependsOnDraw⟩ ⟨rfl, rfl⟩ (by omega) (by omega)
  rw [if_neg h0] at h
  by_cases h1 : idx = 90
  · subst h1; rw [if_pos rfl] at h; cases h; intro p l e R s m args below meth c Q D cy nL A hC hf hlo; exact q_r1 hC ok_X3_drawsUp qw_X3_drawsUp qlk_3_90 ⟨qst_X3_drawsUp, qsl_X3_drawsUp⟩ ⟨rfl, rfl⟩ (by omega) (by omega)
  rw [if_neg h1] at h
  cases h
theorem ok_X3_average : q_Ok yX3_average cX3_average 3 (some .long) 2 T_X3_average 0 0 := q_okOf (plainFor_of_name (by decide +kernel)) rfl (fun h => by cases h) cs_X3_average (fun _ _ _ _ h => h)
theorem qlk_3_94 : Cond.methodLink (q_ow 3) 94 yX3_average ∈ q_Ts := q_in 551 (by decide +kernel) rfl
def ms_X3_offset : Nat → Option QI := fun i => if i = 94 then some (1, 0, 3, T_X3_average, 0, 0) else none
theorem ms_X3_offset_94 : ms_X3_offset 94 = some (1, 0, 3, T_X3_average, 0, 0) := rfl
def T_X3_offset : QTT := q_T cX3_offset 1 3 false (some .long) ms_X3_offset 0 0
set_option maxRecDepth 100000 in
theorem qw_X3_offset : q_Wd yX3_offset cX3_offset 1 (some .long) 0 := ⟨q_in 550 rfl rfl, q_in 68 (by decide +kernel) rfl, by decide +kernel, by decide +kernel, by decide +kernel, by decide⟩
theorem qst_X3_offset : Cond.instanceMethod yX3_offset ∈ q_Ts := q_in 548 (by decide +kernel) rfl
theorem qsl_X3_offset : Cond.selects yX3_offset.cls yX3_offset yX3_offset ∈ q_Ts := q_in 549 (by decide +kernel) rfl
theorem cs_X3_offset : ∀ (idx : Nat) (info : QI), ms_X3_offset idx = some info → q_Cs cX3_offset 3 3 idx info := by
  intro idx info h
  unfold ms_X3_offset at h
  by_cases h0 : idx = 94
  · subst h0; rw [if_pos rfl] at h; cases h; intro p l e R s m args below meth c Q D cy nL A hC hf hlo; exact q_r1 hC ok_X3_average qw_X3_average qlk_3_94 ⟨qst_X3_average, qsl_X3_average⟩ ⟨rfl, rfl⟩ (by omega) (by omega)
  rw [if_neg h0] at h
  cases h
theorem ok_X3_offset : q_Ok yX3_offset cX3_offset 1 (some .long) 3 T_X3_offset 0 0 := q_okOf (plainFor_of_name (by decide +kernel)) rfl (fun h => by cases h) cs_X3_offset (fun _ _ _ _ h => h)
def ms_X3_scatter : Nat → Option QI := fun i => if i = 86 then some (1, 0, 3, T_X3_dependsOnDraw, 0, 0) else if i = 90 then some (1, 0, 3, T_X3_drawsUp, 0, 0) else none
theorem ms_X3_scatter_86 : ms_X3_scatter 86 = some (1, 0, 3, T_X3_dependsOnDraw, 0, 0) := rfl
theorem ms_X3_scatter_90 : ms_X3_scatter 90 = some (1, 0, 3, T_X3_drawsUp, 0, 0) := rfl
def T_X3_scatter : QTT := q_T cX3_scatter 7 3 false (some .long) ms_X3_scatter 0 0
set_option maxRecDepth 100000 in
theorem qw_X3_scatter : q_Wd yX3_scatter cX3_scatter 7 (some .long) 0 := ⟨q_in 566 rfl rfl, q_in 68 (by decide +kernel) rfl, by decide +kernel, by decide +kernel, by decide +kernel, by decide⟩
theorem qst_X3_scatter : Cond.instanceMethod yX3_scatter ∈ q_Ts := q_in 564 (by decide +kernel) rfl
theorem qsl_X3_scatter : Cond.selects yX3_scatter.cls yX3_scatter yX3_scatter ∈ q_Ts := q_in 565 (by decide +kernel) rfl
theorem cs_X3_scatter : ∀ (idx : Nat) (info : QI), ms_X3_scatter idx = some info → q_Cs cX3_scatter 3 2 idx info := by
  intro idx info h
  unfold ms_X3_scatter at h
  by_cases h0 : idx = 86
  · subst h0; rw [if_pos rfl] at h; cases h; intro p l e R s m args below meth c Q D cy nL A hC hf hlo; exact q_r1 hC ok_X3_dependsOnDraw qw_X3_dependsOnDraw qlk_3_86 ⟨qst_X3_dependsOnDraw, qsl_X3_dependsOnDraw⟩ ⟨rfl, rfl⟩ (by omega) (by omega)
  rw [if_neg h0] at h
  by_cases h1 : idx = 90
  · subst h1; rw [if_pos rfl] at h; cases h; intro p l e R s m args below meth c Q D cy nL A hC hf hlo; exact q_r1 hC ok_X3_drawsUp qw_X3_drawsUp qlk_3_90 ⟨qst_X3_drawsUp, qsl_X3_drawsUp⟩ ⟨rfl, rfl⟩ (by omega) (by omega)
  rw [if_neg h1] at h
  cases h
theorem ok_X3_scatter : q_Ok yX3_scatter cX3_scatter 7 (some .long) 2 T_X3_scatter 0 0 := q_okOf (plainFor_of_name (by decide +kernel)) rfl (fun h => by cases h) cs_X3_scatter (fun _ _ _ _ h => h)
theorem qlk_2_46 : Cond.methodLink (q_ow 2) 46 yX3_isQuotient ∈ q_Ts := q_in 541 (by decide +kernel) rfl
theorem qlk_2_53 : Cond.methodLink (q_ow 2) 53 yX3_numeratorOf ∈ q_Ts := q_in 546 (by decide +kernel) rfl
theorem qlk_2_61 : Cond.methodLink (q_ow 2) 61 yX3_offset ∈ q_Ts := q_in 547 (by decide +kernel) rfl
theorem qlk_2_65 : Cond.methodLink (q_ow 2) 65 yX3_scatter ∈ q_Ts := q_in 563 (by decide +kernel) rfl
def ms_X2_enter : Nat → Option QI := fun i => if i = 26 then some (1, 1, 2, T_X2_at, 0, 0) else if i = 30 then some (1, 1, 3, T_X3_copyFrom, 0, 0) else if i = 46 then some (1, 0, 3, T_X3_isQuotient, 0, 0) else if i = 53 then some (1, 1, 3, T_X3_numeratorOf, 0, 0) else if i = 61 then some (1, 0, 3, T_X3_offset, 0, 0) else if i = 65 then some (1, 0, 3, T_X3_scatter, 0, 0) else none
theorem ms_X2_enter_26 : ms_X2_enter 26 = some (1, 1, 2, T_X2_at, 0, 0) := rfl
theorem ms_X2_enter_30 : ms_X2_enter 30 = some (1, 1, 3, T_X3_copyFrom, 0, 0) := rfl
theorem ms_X2_enter_46 : ms_X2_enter 46 = some (1, 0, 3, T_X3_isQuotient, 0, 0) := rfl
theorem ms_X2_enter_53 : ms_X2_enter 53 = some (1, 1, 3, T_X3_numeratorOf, 0, 0) := rfl
theorem ms_X2_enter_61 : ms_X2_enter 61 = some (1, 0, 3, T_X3_offset, 0, 0) := rfl
theorem ms_X2_enter_65 : ms_X2_enter 65 = some (1, 0, 3, T_X3_scatter, 0, 0) := rfl
def T_X2_enter : QTT := q_T cX2_enter 2 2 false none ms_X2_enter 0 0
set_option maxRecDepth 100000 in
theorem qw_X2_enter : q_Wd yX2_enter cX2_enter 2 none 1 := ⟨q_in 540 rfl rfl, q_in 67 (by decide +kernel) rfl, by decide +kernel, by decide +kernel, by decide +kernel, by decide⟩
theorem qst_X2_enter : Cond.instanceMethod yX2_enter ∈ q_Ts := q_in 538 (by decide +kernel) rfl
theorem qsl_X2_enter : Cond.selects yX2_enter.cls yX2_enter yX2_enter ∈ q_Ts := q_in 539 (by decide +kernel) rfl
theorem cs_X2_enter : ∀ (idx : Nat) (info : QI), ms_X2_enter idx = some info → q_Cs cX2_enter 2 4 idx info := by
  intro idx info h
  unfold ms_X2_enter at h
  by_cases h0 : idx = 26
  · subst h0; rw [if_pos rfl] at h; cases h; intro p l e R s m args below meth c Q D cy nL A hC hf hlo; exact q_r1 hC ok_X2_at qw_X2_at qlk_2_26 ⟨qst_X2_at, qsl_X2_at⟩ ⟨rfl, rfl⟩ (by omega) (by omega)
  rw [if_neg h0] at h
  by_cases h1 : idx = 30
  · subst h1; rw [if_pos rfl] at h; cases h; intro p l e R s m args below meth c Q D cy nL A hC hf hlo; exact q_r1 hC ok_X3_copyFrom qw_X3_copyFrom qlk_2_30 ⟨qst_X3_copyFrom, qsl_X3_copyFrom⟩ ⟨rfl, rfl⟩ (by omega) (by omega)
  rw [if_neg h1] at h
  by_cases h2 : idx = 46
  · subst h2; rw [if_pos rfl] at h; cases h; intro p l e R s m args below meth c Q D cy nL A hC hf hlo; exact q_r1 hC ok_X3_isQuotient qw_X3_isQuotient qlk_2_46 ⟨qst_X3_isQuotient, qsl_X3_isQuotient⟩ ⟨rfl, rfl⟩ (by omega) (by omega)
  rw [if_neg h2] at h
  by_cases h3 : idx = 53
  · subst h3; rw [if_pos rfl] at h; cases h; intro p l e R s m args below meth c Q D cy nL A hC hf hlo; exact q_r1 hC ok_X3_numeratorOf qw_X3_numeratorOf qlk_2_53 ⟨qst_X3_numeratorOf, qsl_X3_numeratorOf⟩ ⟨rfl, rfl⟩ (by omega) (by omega)
  rw [if_neg h3] at h
  by_cases h4 : idx = 61
  · subst h4; rw [if_pos rfl] at h; cases h; intro p l e R s m args below meth c Q D cy nL A hC hf hlo; exact q_r1 hC ok_X3_offset qw_X3_offset qlk_2_61 ⟨qst_X3_offset, qsl_X3_offset⟩ ⟨rfl, rfl⟩ (by omega) (by omega)
  rw [if_neg h4] at h
  by_cases h5 : idx = 65
  · subst h5; rw [if_pos rfl] at h; cases h; intro p l e R s m args below meth c Q D cy nL A hC hf hlo; exact q_r1 hC ok_X3_scatter qw_X3_scatter qlk_2_65 ⟨qst_X3_scatter, qsl_X3_scatter⟩ ⟨rfl, rfl⟩ (by omega) (by omega)
  rw [if_neg h5] at h
  cases h
theorem ok_X2_enter : q_Ok yX2_enter cX2_enter 2 none 4 T_X2_enter 0 0 := q_okOf (plainFor_of_name (by decide +kernel)) rfl (fun h => by cases h) cs_X2_enter (fun _ _ _ _ h => h)
def ms_X3_codeOf : Nat → Option QI := fun i => none
def T_X3_codeOf : QTT := q_T cX3_codeOf 4 3 false (some .int) ms_X3_codeOf 0 0
set_option maxRecDepth 100000 in
theorem qw_X3_codeOf : q_Wd yX3_codeOf cX3_codeOf 4 (some .int) 4 := ⟨q_in 498 rfl rfl, q_in 68 (by decide +kernel) rfl, by decide +kernel, by decide +kernel, by decide +kernel, by decide⟩
theorem qst_X3_codeOf : Cond.static yX3_codeOf ∈ q_Ts := q_in 497 (by decide +kernel) rfl
theorem cs_X3_codeOf : ∀ (idx : Nat) (info : QI), ms_X3_codeOf idx = some info → q_Cs cX3_codeOf 3 0 idx info := by
  intro idx info h
  unfold ms_X3_codeOf at h
  cases h
theorem ok_X3_codeOf : q_Ok yX3_codeOf cX3_codeOf 4 (some .int) 0 T_X3_codeOf 0 0 := q_okOf (plainFor_of_name (by decide +kernel)) rfl (fun h => by cases h) cs_X3_codeOf (fun _ _ _ _ h => h)
def ms_X3_targetOf : Nat → Option QI := fun i => none
def T_X3_targetOf : QTT := q_T cX3_targetOf 1 3 false (some .int) ms_X3_targetOf 0 0
set_option maxRecDepth 100000 in
theorem qw_X3_targetOf : q_Wd yX3_targetOf cX3_targetOf 1 (some .int) 1 := ⟨q_in 516 rfl rfl, q_in 68 (by decide +kernel) rfl, by decide +kernel, by decide +kernel, by decide +kernel, by decide⟩
theorem qst_X3_targetOf : Cond.static yX3_targetOf ∈ q_Ts := q_in 515 (by decide +kernel) rfl
theorem cs_X3_targetOf : ∀ (idx : Nat) (info : QI), ms_X3_targetOf idx = some info → q_Cs cX3_targetOf 3 0 idx info := by
  intro idx info h
  unfold ms_X3_targetOf at h
  cases h
theorem ok_X3_targetOf : q_Ok yX3_targetOf cX3_targetOf 1 (some .int) 0 T_X3_targetOf 0 0 := q_okOf (plainFor_of_name (by decide +kernel)) rfl (fun h => by cases h) cs_X3_targetOf (fun _ _ _ _ h => h)
def ms_X3_firstOf : Nat → Option QI := fun i => none
def T_X3_firstOf : QTT := q_T cX3_firstOf 1 3 false (some .int) ms_X3_firstOf 0 0
set_option maxRecDepth 100000 in
theorem qw_X3_firstOf : q_Wd yX3_firstOf cX3_firstOf 1 (some .int) 1 := ⟨q_in 528 rfl rfl, q_in 68 (by decide +kernel) rfl, by decide +kernel, by decide +kernel, by decide +kernel, by decide⟩
theorem qst_X3_firstOf : Cond.static yX3_firstOf ∈ q_Ts := q_in 527 (by decide +kernel) rfl
theorem cs_X3_firstOf : ∀ (idx : Nat) (info : QI), ms_X3_firstOf idx = some info → q_Cs cX3_firstOf 3 0 idx info := by
  intro idx info h
  unfold ms_X3_firstOf at h
  cases h
theorem ok_X3_firstOf : q_Ok yX3_firstOf cX3_firstOf 1 (some .int) 0 T_X3_firstOf 0 0 := q_okOf (plainFor_of_name (by decide +kernel)) rfl (fun h => by cases h) cs_X3_firstOf (fun _ _ _ _ h => h)
def ms_X3_secondOf : Nat → Option QI := fun i => none
def T_X3_secondOf : QTT := q_T cX3_secondOf 1 3 false (some .int) ms_X3_secondOf 0 0
set_option maxRecDepth 100000 in
theorem qw_X3_secondOf : q_Wd yX3_secondOf cX3_secondOf 1 (some .int) 1 := ⟨q_in 508 rfl rfl, q_in 68 (by decide +kernel) rfl, by decide +kernel, by decide +kernel, by decide +kernel, by decide⟩
theorem qst_X3_secondOf : Cond.static yX3_secondOf ∈ q_Ts := q_in 507 (by decide +kernel) rfl
theorem cs_X3_secondOf : ∀ (idx : Nat) (info : QI), ms_X3_secondOf idx = some info → q_Cs cX3_secondOf 3 0 idx info := by
  intro idx info h
  unfold ms_X3_secondOf at h
  cases h
theorem ok_X3_secondOf : q_Ok yX3_secondOf cX3_secondOf 1 (some .int) 0 T_X3_secondOf 0 0 := q_okOf (plainFor_of_name (by decide +kernel)) rfl (fun h => by cases h) cs_X3_secondOf (fun _ _ _ _ h => h)
def ms_X3_drawFor : Nat → Option QI := fun i => none
def T_X3_drawFor : QTT := q_T cX3_drawFor 4 3 false (some .int) ms_X3_drawFor 0 0
set_option maxRecDepth 100000 in
theorem qw_X3_drawFor : q_Wd yX3_drawFor cX3_drawFor 4 (some .int) 3 := ⟨q_in 519 rfl rfl, q_in 68 (by decide +kernel) rfl, by decide +kernel, by decide +kernel, by decide +kernel, by decide⟩
theorem qst_X3_drawFor : Cond.static yX3_drawFor ∈ q_Ts := q_in 518 (by decide +kernel) rfl
theorem cs_X3_drawFor : ∀ (idx : Nat) (info : QI), ms_X3_drawFor idx = some info → q_Cs cX3_drawFor 3 0 idx info := by
  intro idx info h
  unfold ms_X3_drawFor at h
  cases h
theorem ok_X3_drawFor : q_Ok yX3_drawFor cX3_drawFor 4 (some .int) 0 T_X3_drawFor 0 0 := q_okOf (plainFor_of_name (by decide +kernel)) rfl (fun h => by cases h) cs_X3_drawFor (fun _ _ _ _ h => h)
theorem qlk_3_52 : Cond.methodLink (q_ow 3) 52 yX3_targetOf ∈ q_Ts := q_in 732 (by decide +kernel) rfl
theorem qlk_3_55 : Cond.methodLink (q_ow 3) 55 yX3_firstOf ∈ q_Ts := q_in 733 (by decide +kernel) rfl
theorem qlk_3_58 : Cond.methodLink (q_ow 3) 58 yX3_secondOf ∈ q_Ts := q_in 734 (by decide +kernel) rfl
def ms_X3_decimalCode : Nat → Option QI := fun i => if i = 48 then some (0, 1, 3, T_X3_kindOf, 0, 0) else if i = 52 then some (0, 1, 3, T_X3_targetOf, 0, 0) else if i = 55 then some (0, 1, 3, T_X3_firstOf, 0, 0) else if i = 58 then some (0, 1, 3, T_X3_secondOf, 0, 0) else none
theorem ms_X3_decimalCode_48 : ms_X3_decimalCode 48 = some (0, 1, 3, T_X3_kindOf, 0, 0) := rfl
theorem ms_X3_decimalCode_52 : ms_X3_decimalCode 52 = some (0, 1, 3, T_X3_targetOf, 0, 0) := rfl
theorem ms_X3_decimalCode_55 : ms_X3_decimalCode 55 = some (0, 1, 3, T_X3_firstOf, 0, 0) := rfl
theorem ms_X3_decimalCode_58 : ms_X3_decimalCode 58 = some (0, 1, 3, T_X3_secondOf, 0, 0) := rfl
def T_X3_decimalCode : QTT := q_T cX3_decimalCode 1 3 false (some .int) ms_X3_decimalCode 0 0
set_option maxRecDepth 100000 in
theorem qw_X3_decimalCode : q_Wd yX3_decimalCode cX3_decimalCode 1 (some .int) 0 := ⟨q_in 731 rfl rfl, q_in 68 (by decide +kernel) rfl, by decide +kernel, by decide +kernel, by decide +kernel, by decide⟩
theorem qst_X3_decimalCode : Cond.instanceMethod yX3_decimalCode ∈ q_Ts := q_in 729 (by decide +kernel) rfl
theorem qsl_X3_decimalCode : Cond.selects yX3_decimalCode.cls yX3_decimalCode yX3_decimalCode ∈ q_Ts := q_in 730 (by decide +kernel) rfl
theorem cs_X3_decimalCode : ∀ (idx : Nat) (info : QI), ms_X3_decimalCode idx = some info → q_Cs cX3_decimalCode 3 1 idx info := by
  intro idx info h
  unfold ms_X3_decimalCode at h
  by_cases h0 : idx = 48
  · subst h0; rw [if_pos rfl] at h; cases h; intro p l e R s m args below meth c Q D cy nL A hC hf hlo; exact q_r0 hC ok_X3_kindOf qw_X3_kindOf qlk_3_48 qst_X3_kindOf (by omega) (by omega)
  rw [if_neg h0] at h
  by_cases h1 : idx = 52
  · subst h1; rw [if_pos rfl] at h; cases h; intro p l e R s m args below meth c Q D cy nL A hC hf hlo; exact q_r0 hC ok_X3_targetOf qw_X3_targetOf qlk_3_52 qst_X3_targetOf (by omega) (by omega)
  rw [if_neg h1] at h
  by_cases h2 : idx = 55
  · subst h2; rw [if_pos rfl] at h; cases h; intro p l e R s m args below meth c Q D cy nL A hC hf hlo; exact q_r0 hC ok_X3_firstOf qw_X3_firstOf qlk_3_55 qst_X3_firstOf (by omega) (by omega)
  rw [if_neg h2] at h
  by_cases h3 : idx = 58
  · subst h3; rw [if_pos rfl] at h; cases h; intro p l e R s m args below meth c Q D cy nL A hC hf hlo; exact q_r0 hC ok_X3_secondOf qw_X3_secondOf qlk_3_58 qst_X3_secondOf (by omega) (by omega)
  rw [if_neg h3] at h
  cases h
theorem ok_X3_decimalCode : q_Ok yX3_decimalCode cX3_decimalCode 1 (some .int) 1 T_X3_decimalCode 0 0 := q_okOf (plainFor_of_name (by decide +kernel)) rfl (fun h => by cases h) cs_X3_decimalCode (fun _ _ _ _ h => h)
def ms_X3_setFraction : Nat → Option QI := fun i => none
def T_X3_setFraction : QTT := q_T cX3_setFraction 5 3 false none ms_X3_setFraction 0 0
set_option maxRecDepth 100000 in
theorem qw_X3_setFraction : q_Wd yX3_setFraction cX3_setFraction 5 none 2 := ⟨q_in 422 rfl rfl, q_in 68 (by decide +kernel) rfl, by decide +kernel, by decide +kernel, by decide +kernel, by decide⟩
theorem qst_X3_setFraction : Cond.instanceMethod yX3_setFraction ∈ q_Ts := q_in 420 (by decide +kernel) rfl
theorem qsl_X3_setFraction : Cond.selects yX3_setFraction.cls yX3_setFraction yX3_setFraction ∈ q_Ts := q_in 421 (by decide +kernel) rfl
theorem cs_X3_setFraction : ∀ (idx : Nat) (info : QI), ms_X3_setFraction idx = some info → q_Cs cX3_setFraction 3 0 idx info := by
  intro idx info h
  unfold ms_X3_setFraction at h
  cases h
theorem ok_X3_setFraction : q_Ok yX3_setFraction cX3_setFraction 5 none 0 T_X3_setFraction 0 0 := q_okOf (plainFor_of_name (by decide +kernel)) rfl (fun h => by cases h) cs_X3_setFraction (fun _ _ _ _ h => h)
def ms_X3_denominator : Nat → Option QI := fun i => none
def T_X3_denominator : QTT := q_T cX3_denominator 1 3 false (some .long) ms_X3_denominator 0 0
set_option maxRecDepth 100000 in
theorem qw_X3_denominator : q_Wd yX3_denominator cX3_denominator 1 (some .long) 0 := ⟨q_in 759 rfl rfl, q_in 68 (by decide +kernel) rfl, by decide +kernel, by decide +kernel, by decide +kernel, by decide⟩
theorem qst_X3_denominator : Cond.instanceMethod yX3_denominator ∈ q_Ts := q_in 757 (by decide +kernel) rfl
theorem qsl_X3_denominator : Cond.selects yX3_denominator.cls yX3_denominator yX3_denominator ∈ q_Ts := q_in 758 (by decide +kernel) rfl
theorem cs_X3_denominator : ∀ (idx : Nat) (info : QI), ms_X3_denominator idx = some info → q_Cs cX3_denominator 3 0 idx info := by
  intro idx info h
  unfold ms_X3_denominator at h
  cases h
theorem ok_X3_denominator : q_Ok yX3_denominator cX3_denominator 1 (some .long) 0 T_X3_denominator 0 0 := q_okOf (plainFor_of_name (by decide +kernel)) rfl (fun h => by cases h) cs_X3_denominator (fun _ _ _ _ h => h)
theorem qlk_3_61 : Cond.methodLink (q_ow 3) 61 yX0_top ∈ q_Ts := q_in 431 (by decide +kernel) rfl
theorem qlk_3_67 : Cond.methodLink (q_ow 3) 67 yX3_numeratorOf ∈ q_Ts := q_in 435 (by decide +kernel) rfl
theorem qlk_3_77 : Cond.methodLink (q_ow 3) 77 yX0_atMost ∈ q_Ts := q_in 442 (by decide +kernel) rfl
def ms_X3_findNeighbors : Nat → Option QI := fun i => if i = 61 then some (1, 0, 0, T_X0_top, 0, 0) else if i = 67 then some (1, 1, 3, T_X3_numeratorOf, 0, 0) else if i = 71 then some (0, 2, 0, T_J9_floorDiv_f86c9, 0, 0) else if i = 77 then some (1, 1, 0, T_X0_atMost, 0, 0) else none
theorem ms_X3_findNeighbors_61 : ms_X3_findNeighbors 61 = some (1, 0, 0, T_X0_top, 0, 0) := rfl
theorem ms_X3_findNeighbors_67 : ms_X3_findNeighbors 67 = some (1, 1, 3, T_X3_numeratorOf, 0, 0) := rfl
theorem ms_X3_findNeighbors_71 : ms_X3_findNeighbors 71 = some (0, 2, 0, T_J9_floorDiv_f86c9, 0, 0) := rfl
theorem ms_X3_findNeighbors_77 : ms_X3_findNeighbors 77 = some (1, 1, 0, T_X0_atMost, 0, 0) := rfl
def T_X3_findNeighbors : QTT := q_T cX3_findNeighbors 5 3 false (some .boolean) ms_X3_findNeighbors 0 0
set_option maxRecDepth 100000 in
theorem qw_X3_findNeighbors : q_Wd yX3_findNeighbors cX3_findNeighbors 5 (some .boolean) 1 := ⟨q_in 430 rfl rfl, q_in 68 (by decide +kernel) rfl, by decide +kernel, by decide +kernel, by decide +kernel, by decide⟩
theorem qst_X3_findNeighbors : Cond.instanceMethod yX3_findNeighbors ∈ q_Ts := q_in 428 (by decide +kernel) rfl
theorem qsl_X3_findNeighbors : Cond.selects yX3_findNeighbors.cls yX3_findNeighbors yX3_findNeighbors ∈ q_Ts := q_in 429 (by decide +kernel) rfl
theorem cs_X3_findNeighbors : ∀ (idx : Nat) (info : QI), ms_X3_findNeighbors idx = some info → q_Cs cX3_findNeighbors 3 2 idx info := by
  intro idx info h
  unfold ms_X3_findNeighbors at h
  by_cases h0 : idx = 61
  · subst h0; rw [if_pos rfl] at h; cases h; intro p l e R s m args below meth c Q D cy nL A hC hf hlo; exact q_r1 hC ok_X0_top qw_X0_top qlk_3_61 ⟨qst_X0_top, qsl_X0_top⟩ ⟨rfl, rfl⟩ (by omega) (by omega)
  rw [if_neg h0] at h
  by_cases h1 : idx = 67
  · subst h1; rw [if_pos rfl] at h; cases h; intro p l e R s m args below meth c Q D cy nL A hC hf hlo; exact q_r1 hC ok_X3_numeratorOf qw_X3_numeratorOf qlk_3_67 ⟨qst_X3_numeratorOf, qsl_X3_numeratorOf⟩ ⟨rfl, rfl⟩ (by omega) (by omega)
  rw [if_neg h1] at h
  by_cases h2 : idx = 71
  · subst h2; rw [if_pos rfl] at h; cases h; intro p l e R s m args below meth c Q D cy nL A hC hf hlo; exact q_r0 hC ok_J9_floorDiv_f86c9 qw_J9_floorDiv_f86c9 qlk_3_71 qst_J9_floorDiv_f86c9 (by omega) (by omega)
  rw [if_neg h2] at h
  by_cases h3 : idx = 77
  · subst h3; rw [if_pos rfl] at h; cases h; intro p l e R s m args below meth c Q D cy nL A hC hf hlo; exact q_r1 hC ok_X0_atMost qw_X0_atMost qlk_3_77 ⟨qst_X0_atMost, qsl_X0_atMost⟩ ⟨rfl, rfl⟩ (by omega) (by omega)
  rw [if_neg h3] at h
  cases h
theorem ok_X3_findNeighbors : q_Ok yX3_findNeighbors cX3_findNeighbors 5 (some .boolean) 2 T_X3_findNeighbors 0 0 := q_okOf (plainFor_of_name (by decide +kernel)) rfl (fun h => by cases h) cs_X3_findNeighbors (fun _ _ _ _ h => h)
def ms_X3_goesUp : Nat → Option QI := fun i => if i = 67 then some (1, 1, 3, T_X3_numeratorOf, 0, 0) else none
theorem ms_X3_goesUp_67 : ms_X3_goesUp 67 = some (1, 1, 3, T_X3_numeratorOf, 0, 0) := rfl
def T_X3_goesUp : QTT := q_T cX3_goesUp 8 3 false (some .boolean) ms_X3_goesUp 0 0
set_option maxRecDepth 100000 in
theorem qw_X3_goesUp : q_Wd yX3_goesUp cX3_goesUp 8 (some .boolean) 2 := ⟨q_in 467 rfl rfl, q_in 68 (by decide +kernel) rfl, by decide +kernel, by decide +kernel, by decide +kernel, by decide⟩
theorem qst_X3_goesUp : Cond.instanceMethod yX3_goesUp ∈ q_Ts := q_in 466 (by decide +kernel) rfl
theorem qsl_X3_goesUp : Cond.selects yX3_goesUp.cls yX3_goesUp yX3_goesUp ∈ q_Ts := q_in 1 (by decide +kernel) rfl
theorem cs_X3_goesUp : ∀ (idx : Nat) (info : QI), ms_X3_goesUp idx = some info → q_Cs cX3_goesUp 3 1 idx info := by
  intro idx info h
  unfold ms_X3_goesUp at h
  by_cases h0 : idx = 67
  · subst h0; rw [if_pos rfl] at h; cases h; intro p l e R s m args below meth c Q D cy nL A hC hf hlo; exact q_r1 hC ok_X3_numeratorOf qw_X3_numeratorOf qlk_3_67 ⟨qst_X3_numeratorOf, qsl_X3_numeratorOf⟩ ⟨rfl, rfl⟩ (by omega) (by omega)
  rw [if_neg h0] at h
  cases h
theorem ok_X3_goesUp : q_Ok yX3_goesUp cX3_goesUp 8 (some .boolean) 1 T_X3_goesUp 0 0 := q_okOf (plainFor_of_name (by decide +kernel)) rfl (fun h => by cases h) cs_X3_goesUp (fun _ _ _ _ h => h)
theorem qlk_3_80 : Cond.methodLink (q_ow 3) 80 yX3_goesUp ∈ q_Ts := q_in 464 (by decide +kernel) rfl
def ms_X3_rounded : Nat → Option QI := fun i => if i = 80 then some (1, 2, 3, T_X3_goesUp, 0, 0) else none
theorem ms_X3_rounded_80 : ms_X3_rounded 80 = some (1, 2, 3, T_X3_goesUp, 0, 0) := rfl
def T_X3_rounded : QTT := q_T cX3_rounded 3 3 false (some .int) ms_X3_rounded 0 0
set_option maxRecDepth 100000 in
theorem qw_X3_rounded : q_Wd yX3_rounded cX3_rounded 3 (some .int) 2 := ⟨q_in 463 rfl rfl, q_in 68 (by decide +kernel) rfl, by decide +kernel, by decide +kernel, by decide +kernel, by decide⟩
theorem qst_X3_rounded : Cond.instanceMethod yX3_rounded ∈ q_Ts := q_in 461 (by decide +kernel) rfl
theorem qsl_X3_rounded : Cond.selects yX3_rounded.cls yX3_rounded yX3_rounded ∈ q_Ts := q_in 462 (by decide +kernel) rfl
theorem cs_X3_rounded : ∀ (idx : Nat) (info : QI), ms_X3_rounded idx = some info → q_Cs cX3_rounded 3 2 idx info := by
  intro idx info h
  unfold ms_X3_rounded at h
  by_cases h0 : idx = 80
  · subst h0; rw [if_pos rfl] at h; cases h; intro p l e R s m args below meth c Q D cy nL A hC hf hlo; exact q_r1 hC ok_X3_goesUp qw_X3_goesUp qlk_3_80 ⟨qst_X3_goesUp, qsl_X3_goesUp⟩ ⟨rfl, rfl⟩ (by omega) (by omega)
  rw [if_neg h0] at h
  cases h
theorem ok_X3_rounded : q_Ok yX3_rounded cX3_rounded 3 (some .int) 2 T_X3_rounded 0 0 := q_okOf (plainFor_of_name (by decide +kernel)) rfl (fun h => by cases h) cs_X3_rounded (fun _ _ _ _ h => h)
theorem qlk_3_99 : Cond.methodLink (q_ow 3) 99 yX3_decimalCode ∈ q_Ts := q_in 883 (by decide +kernel) rfl
def ms_X3_addedTo : Nat → Option QI := fun i => if i = 99 then some (1, 0, 3, T_X3_decimalCode, 0, 0) else none
theorem ms_X3_addedTo_99 : ms_X3_addedTo 99 = some (1, 0, 3, T_X3_decimalCode, 0, 0) := rfl
def T_X3_addedTo : QTT := q_T cX3_addedTo 5 3 false (some .long) ms_X3_addedTo 0 0
set_option maxRecDepth 100000 in
theorem qw_X3_addedTo : q_Wd yX3_addedTo cX3_addedTo 5 (some .long) 1 := ⟨q_in 881 rfl rfl, q_in 68 (by decide +kernel) rfl, by decide +kernel, by decide +kernel, by decide +kernel, by decide⟩
theorem qst_X3_addedTo : Cond.instanceMethod yX3_addedTo ∈ q_Ts := q_in 879 (by decide +kernel) rfl
theorem qsl_X3_addedTo : Cond.selects yX3_addedTo.cls yX3_addedTo yX3_addedTo ∈ q_Ts := q_in 880 (by decide +kernel) rfl
theorem cs_X3_addedTo : ∀ (idx : Nat) (info : QI), ms_X3_addedTo idx = some info → q_Cs cX3_addedTo 3 2 idx info := by
  intro idx info h
  unfold ms_X3_addedTo at h
  by_cases h0 : idx = 99
  · subst h0; rw [if_pos rfl] at h; cases h; intro p l e R s m args below meth c Q D cy nL A hC hf hlo; exact q_r1 hC ok_X3_decimalCode qw_X3_decimalCode qlk_3_99 ⟨qst_X3_decimalCode, qsl_X3_decimalCode⟩ ⟨rfl, rfl⟩ (by omega) (by omega)
  rw [if_neg h0] at h
  cases h
theorem ok_X3_addedTo : q_Ok yX3_addedTo cX3_addedTo 5 (some .long) 2 T_X3_addedTo 0 0 := q_okOf (plainFor_of_name (by decide +kernel)) rfl (fun h => by cases h) cs_X3_addedTo (fun _ _ _ _ h => h)
theorem qlk_4_3 : Cond.methodLink (q_ow 4) 3 objectInit ∈ q_Ts := q_in 255 (by decide +kernel) rfl
def ms_X4_init : Nat → Option QI := fun i => if i = 3 then some (8, 0, 0, q_T0, 0, 0) else none
theorem ms_X4_init_3 : ms_X4_init 3 = some (8, 0, 0, q_T0, 0, 0) := rfl
def T_X4_init : QTT := q_T cX4_init 1 4 true none ms_X4_init 5 323
set_option maxRecDepth 100000 in
theorem qw_X4_init : q_Wd yX4_init cX4_init 1 none 0 := ⟨q_in 254 rfl rfl, q_in 70 (by decide +kernel) rfl, by decide +kernel, by decide +kernel, by decide +kernel, by decide⟩
theorem qst_X4_init : Cond.instanceMethod yX4_init ∈ q_Ts := q_in 253 (by decide +kernel) rfl
theorem cs_X4_init : ∀ (idx : Nat) (info : QI), ms_X4_init idx = some info → q_Cs cX4_init 4 1 idx info := by
  intro idx info h
  unfold ms_X4_init at h
  by_cases h0 : idx = 3
  · subst h0; rw [if_pos rfl] at h; cases h; intro p l e R s m args below meth c Q D cy nL A hC hf hlo; exact q_r8 hC qlk_4_3 q_lo0 q_lo1 (by omega) (by omega)
  rw [if_neg h0] at h
  cases h
theorem ok_X4_init : q_Ok yX4_init cX4_init 1 none 1 T_X4_init 5 323 := q_okOf (plainFor_of_name (by decide +kernel)) rfl (fun _ => rfl) cs_X4_init (fun _ _ _ _ h => h)
def ms_X4_append : Nat → Option QI := fun i => none
def T_X4_append : QTT := q_T cX4_append 2 4 false (some .boolean) ms_X4_append 0 0
set_option maxRecDepth 100000 in
theorem qw_X4_append : q_Wd yX4_append cX4_append 2 (some .boolean) 1 := ⟨q_in 574 rfl rfl, q_in 70 (by decide +kernel) rfl, by decide +kernel, by decide +kernel, by decide +kernel, by decide⟩
theorem qst_X4_append : Cond.instanceMethod yX4_append ∈ q_Ts := q_in 572 (by decide +kernel) rfl
theorem qsl_X4_append : Cond.selects yX4_append.cls yX4_append yX4_append ∈ q_Ts := q_in 573 (by decide +kernel) rfl
theorem cs_X4_append : ∀ (idx : Nat) (info : QI), ms_X4_append idx = some info → q_Cs cX4_append 4 0 idx info := by
  intro idx info h
  unfold ms_X4_append at h
  cases h
theorem ok_X4_append : q_Ok yX4_append cX4_append 2 (some .boolean) 0 T_X4_append 0 0 := q_okOf (plainFor_of_name (by decide +kernel)) rfl (fun h => by cases h) cs_X4_append (fun _ _ _ _ h => h)
def ms_X4_want : Nat → Option QI := fun i => none
def T_X4_want : QTT := q_T cX4_want 2 4 false (some .boolean) ms_X4_want 0 0
set_option maxRecDepth 100000 in
theorem qw_X4_want : q_Wd yX4_want cX4_want 2 (some .boolean) 1 := ⟨q_in 599 rfl rfl, q_in 70 (by decide +kernel) rfl, by decide +kernel, by decide +kernel, by decide +kernel, by decide⟩
theorem qst_X4_want : Cond.instanceMethod yX4_want ∈ q_Ts := q_in 598 (by decide +kernel) rfl
theorem qsl_X4_want : Cond.selects yX4_want.cls yX4_want yX4_want ∈ q_Ts := q_in 7 (by decide +kernel) rfl
theorem cs_X4_want : ∀ (idx : Nat) (info : QI), ms_X4_want idx = some info → q_Cs cX4_want 4 0 idx info := by
  intro idx info h
  unfold ms_X4_want at h
  cases h
theorem ok_X4_want : q_Ok yX4_want cX4_want 2 (some .boolean) 0 T_X4_want 0 0 := q_okOf (plainFor_of_name (by decide +kernel)) rfl (fun h => by cases h) cs_X4_want (fun _ _ _ _ h => h)
theorem qlk_4_52 : Cond.methodLink (q_ow 4) 52 yX4_want ∈ q_Ts := q_in 596 (by decide +kernel) rfl
def ms_X4_takeBlank : Nat → Option QI := fun i => if i = 52 then some (1, 1, 4, T_X4_want, 0, 0) else none
theorem ms_X4_takeBlank_52 : ms_X4_takeBlank 52 = some (1, 1, 4, T_X4_want, 0, 0) := rfl
def T_X4_takeBlank : QTT := q_T cX4_takeBlank 1 4 false (some .boolean) ms_X4_takeBlank 0 0
set_option maxRecDepth 100000 in
theorem qw_X4_takeBlank : q_Wd yX4_takeBlank cX4_takeBlank 1 (some .boolean) 0 := ⟨q_in 595 rfl rfl, q_in 70 (by decide +kernel) rfl, by decide +kernel, by decide +kernel, by decide +kernel, by decide⟩
theorem qst_X4_takeBlank : Cond.instanceMethod yX4_takeBlank ∈ q_Ts := q_in 594 (by decide +kernel) rfl
theorem qsl_X4_takeBlank : Cond.selects yX4_takeBlank.cls yX4_takeBlank yX4_takeBlank ∈ q_Ts := q_in 6 (by decide +kernel) rfl
theorem cs_X4_takeBlank : ∀ (idx : Nat) (info : QI), ms_X4_takeBlank idx = some info → q_Cs cX4_takeBlank 4 1 idx info := by
  intro idx info h
  unfold ms_X4_takeBlank at h
  by_cases h0 : idx = 52
  · subst h0; rw [if_pos rfl] at h; cases h; intro p l e R s m args below meth c Q D cy nL A hC hf hlo; exact q_r1 hC ok_X4_want qw_X4_want qlk_4_52 ⟨qst_X4_want, qsl_X4_want⟩ ⟨rfl, rfl⟩ (by omega) (by omega)
  rw [if_neg h0] at h
  cases h
theorem ok_X4_takeBlank : q_Ok yX4_takeBlank cX4_takeBlank 1 (some .boolean) 1 T_X4_takeBlank 0 0 := q_okOf (plainFor_of_name (by decide +kernel)) rfl (fun h => by cases h) cs_X4_takeBlank (fun _ _ _ _ h => h)
def ms_X4_isRegisterDigit : Nat → Option QI := fun i => none
def T_X4_isRegisterDigit : QTT := q_T cX4_isRegisterDigit 1 4 false (some .boolean) ms_X4_isRegisterDigit 0 0
set_option maxRecDepth 100000 in
theorem qw_X4_isRegisterDigit : q_Wd yX4_isRegisterDigit cX4_isRegisterDigit 1 (some .boolean) 1 := ⟨q_in 606 rfl rfl, q_in 70 (by decide +kernel) rfl, by decide +kernel, by decide +kernel, by decide +kernel, by decide⟩
theorem qst_X4_isRegisterDigit : Cond.static yX4_isRegisterDigit ∈ q_Ts := q_in 605 (by decide +kernel) rfl
theorem cs_X4_isRegisterDigit : ∀ (idx : Nat) (info : QI), ms_X4_isRegisterDigit idx = some info → q_Cs cX4_isRegisterDigit 4 0 idx info := by
  intro idx info h
  unfold ms_X4_isRegisterDigit at h
  cases h
theorem ok_X4_isRegisterDigit : q_Ok yX4_isRegisterDigit cX4_isRegisterDigit 1 (some .boolean) 0 T_X4_isRegisterDigit 0 0 := q_okOf (plainFor_of_name (by decide +kernel)) rfl (fun h => by cases h) cs_X4_isRegisterDigit (fun _ _ _ _ h => h)
def ms_X4_addStep : Nat → Option QI := fun i => none
def T_X4_addStep : QTT := q_T cX4_addStep 3 4 false (some .boolean) ms_X4_addStep 0 0
set_option maxRecDepth 100000 in
theorem qw_X4_addStep : q_Wd yX4_addStep cX4_addStep 3 (some .boolean) 2 := ⟨q_in 614 rfl rfl, q_in 70 (by decide +kernel) rfl, by decide +kernel, by decide +kernel, by decide +kernel, by decide⟩
theorem qst_X4_addStep : Cond.instanceMethod yX4_addStep ∈ q_Ts := q_in 613 (by decide +kernel) rfl
theorem qsl_X4_addStep : Cond.selects yX4_addStep.cls yX4_addStep yX4_addStep ∈ q_Ts := q_in 10 (by decide +kernel) rfl
theorem cs_X4_addStep : ∀ (idx : Nat) (info : QI), ms_X4_addStep idx = some info → q_Cs cX4_addStep 4 0 idx info := by
  intro idx info h
  unfold ms_X4_addStep at h
  cases h
theorem ok_X4_addStep : q_Ok yX4_addStep cX4_addStep 3 (some .boolean) 0 T_X4_addStep 0 0 := q_okOf (plainFor_of_name (by decide +kernel)) rfl (fun h => by cases h) cs_X4_addStep (fun _ _ _ _ h => h)
theorem qlk_4_104 : Cond.methodLink (q_ow 4) 104 yX4_addStep ∈ q_Ts := q_in 611 (by decide +kernel) rfl
def ms_X4_takeClose : Nat → Option QI := fun i => if i = 104 then some (1, 2, 4, T_X4_addStep, 0, 0) else if i = 52 then some (1, 1, 4, T_X4_want, 0, 0) else none
theorem ms_X4_takeClose_104 : ms_X4_takeClose 104 = some (1, 2, 4, T_X4_addStep, 0, 0) := rfl
theorem ms_X4_takeClose_52 : ms_X4_takeClose 52 = some (1, 1, 4, T_X4_want, 0, 0) := rfl
def T_X4_takeClose : QTT := q_T cX4_takeClose 2 4 false (some .boolean) ms_X4_takeClose 0 0
set_option maxRecDepth 100000 in
theorem qw_X4_takeClose : q_Wd yX4_takeClose cX4_takeClose 2 (some .boolean) 0 := ⟨q_in 610 rfl rfl, q_in 70 (by decide +kernel) rfl, by decide +kernel, by decide +kernel, by decide +kernel, by decide⟩
theorem qst_X4_takeClose : Cond.instanceMethod yX4_takeClose ∈ q_Ts := q_in 609 (by decide +kernel) rfl
theorem qsl_X4_takeClose : Cond.selects yX4_takeClose.cls yX4_takeClose yX4_takeClose ∈ q_Ts := q_in 9 (by decide +kernel) rfl
theorem cs_X4_takeClose : ∀ (idx : Nat) (info : QI), ms_X4_takeClose idx = some info → q_Cs cX4_takeClose 4 1 idx info := by
  intro idx info h
  unfold ms_X4_takeClose at h
  by_cases h0 : idx = 104
  · subst h0; rw [if_pos rfl] at h; cases h; intro p l e R s m args below meth c Q D cy nL A hC hf hlo; exact q_r1 hC ok_X4_addStep qw_X4_addStep qlk_4_104 ⟨qst_X4_addStep, qsl_X4_addStep⟩ ⟨rfl, rfl⟩ (by omega) (by omega)
  rw [if_neg h0] at h
  by_cases h1 : idx = 52
  · subst h1; rw [if_pos rfl] at h; cases h; intro p l e R s m args below meth c Q D cy nL A hC hf hlo; exact q_r1 hC ok_X4_want qw_X4_want qlk_4_52 ⟨qst_X4_want, qsl_X4_want⟩ ⟨rfl, rfl⟩ (by omega) (by omega)
  rw [if_neg h1] at h
  cases h
theorem ok_X4_takeClose : q_Ok yX4_takeClose cX4_takeClose 2 (some .boolean) 1 T_X4_takeClose 0 0 := q_okOf (plainFor_of_name (by decide +kernel)) rfl (fun h => by cases h) cs_X4_takeClose (fun _ _ _ _ h => h)
theorem qlk_4_83 : Cond.methodLink (q_ow 4) 83 yX4_isRegisterDigit ∈ q_Ts := q_in 604 (by decide +kernel) rfl
theorem qlk_4_89 : Cond.methodLink (q_ow 4) 89 yX4_takeClose ∈ q_Ts := q_in 607 (by decide +kernel) rfl
def ms_X4_takeStatement : Nat → Option QI := fun i => if i = 83 then some (0, 1, 4, T_X4_isRegisterDigit, 0, 0) else if i = 52 then some (1, 1, 4, T_X4_want, 0, 0) else if i = 89 then some (1, 0, 4, T_X4_takeClose, 0, 0) else none
theorem ms_X4_takeStatement_83 : ms_X4_takeStatement 83 = some (0, 1, 4, T_X4_isRegisterDigit, 0, 0) := rfl
theorem ms_X4_takeStatement_52 : ms_X4_takeStatement 52 = some (1, 1, 4, T_X4_want, 0, 0) := rfl
theorem ms_X4_takeStatement_89 : ms_X4_takeStatement 89 = some (1, 0, 4, T_X4_takeClose, 0, 0) := rfl
def T_X4_takeStatement : QTT := q_T cX4_takeStatement 2 4 false (some .boolean) ms_X4_takeStatement 0 0
set_option maxRecDepth 100000 in
theorem qw_X4_takeStatement : q_Wd yX4_takeStatement cX4_takeStatement 2 (some .boolean) 1 := ⟨q_in 603 rfl rfl, q_in 70 (by decide +kernel) rfl, by decide +kernel, by decide +kernel, by decide +kernel, by decide⟩
theorem qst_X4_takeStatement : Cond.instanceMethod yX4_takeStatement ∈ q_Ts := q_in 602 (by decide +kernel) rfl
theorem qsl_X4_takeStatement : Cond.selects yX4_takeStatement.cls yX4_takeStatement yX4_takeStatement ∈ q_Ts := q_in 8 (by decide +kernel) rfl
theorem cs_X4_takeStatement : ∀ (idx : Nat) (info : QI), ms_X4_takeStatement idx = some info → q_Cs cX4_takeStatement 4 2 idx info := by
  intro idx info h
  unfold ms_X4_takeStatement at h
  by_cases h0 : idx = 83
  · subst h0; rw [if_pos rfl] at h; cases h; intro p l e R s m args below meth c Q D cy nL A hC hf hlo; exact q_r0 hC ok_X4_isRegisterDigit qw_X4_isRegisterDigit qlk_4_83 qst_X4_isRegisterDigit (by omega) (by omega)
  rw [if_neg h0] at h
  by_cases h1 : idx = 52
  · subst h1; rw [if_pos rfl] at h; cases h; intro p l e R s m args below meth c Q D cy nL A hC hf hlo; exact q_r1 hC ok_X4_want qw_X4_want qlk_4_52 ⟨qst_X4_want, qsl_X4_want⟩ ⟨rfl, rfl⟩ (by omega) (by omega)
  rw [if_neg h1] at h
  by_cases h2 : idx = 89
  · subst h2; rw [if_pos rfl] at h; cases h; intro p l e R s m args below meth c Q D cy nL A hC hf hlo; exact q_r1 hC ok_X4_takeClose qw_X4_takeClose qlk_4_89 ⟨qst_X4_takeClose, qsl_X4_takeClose⟩ ⟨rfl, rfl⟩ (by omega) (by omega)
  rw [if_neg h2] at h
  cases h
theorem ok_X4_takeStatement : q_Ok yX4_takeStatement cX4_takeStatement 2 (some .boolean) 2 T_X4_takeStatement 0 0 := q_okOf (plainFor_of_name (by decide +kernel)) rfl (fun h => by cases h) cs_X4_takeStatement (fun _ _ _ _ h => h)
def ms_X4_takeFirst : Nat → Option QI := fun i => if i = 83 then some (0, 1, 4, T_X4_isRegisterDigit, 0, 0) else if i = 52 then some (1, 1, 4, T_X4_want, 0, 0) else none
theorem ms_X4_takeFirst_83 : ms_X4_takeFirst 83 = some (0, 1, 4, T_X4_isRegisterDigit, 0, 0) := rfl
theorem ms_X4_takeFirst_52 : ms_X4_takeFirst 52 = some (1, 1, 4, T_X4_want, 0, 0) := rfl
def T_X4_takeFirst : QTT := q_T cX4_takeFirst 3 4 false (some .boolean) ms_X4_takeFirst 0 0
set_option maxRecDepth 100000 in
theorem qw_X4_takeFirst : q_Wd yX4_takeFirst cX4_takeFirst 3 (some .boolean) 2 := ⟨q_in 622 rfl rfl, q_in 70 (by decide +kernel) rfl, by decide +kernel, by decide +kernel, by decide +kernel, by decide⟩
theorem qst_X4_takeFirst : Cond.instanceMethod yX4_takeFirst ∈ q_Ts := q_in 621 (by decide +kernel) rfl
theorem qsl_X4_takeFirst : Cond.selects yX4_takeFirst.cls yX4_takeFirst yX4_takeFirst ∈ q_Ts := q_in 12 (by decide +kernel) rfl
theorem cs_X4_takeFirst : ∀ (idx : Nat) (info : QI), ms_X4_takeFirst idx = some info → q_Cs cX4_takeFirst 4 1 idx info := by
  intro idx info h
  unfold ms_X4_takeFirst at h
  by_cases h0 : idx = 83
  · subst h0; rw [if_pos rfl] at h; cases h; intro p l e R s m args below meth c Q D cy nL A hC hf hlo; exact q_r0 hC ok_X4_isRegisterDigit qw_X4_isRegisterDigit qlk_4_83 qst_X4_isRegisterDigit (by omega) (by omega)
  rw [if_neg h0] at h
  by_cases h1 : idx = 52
  · subst h1; rw [if_pos rfl] at h; cases h; intro p l e R s m args below meth c Q D cy nL A hC hf hlo; exact q_r1 hC ok_X4_want qw_X4_want qlk_4_52 ⟨qst_X4_want, qsl_X4_want⟩ ⟨rfl, rfl⟩ (by omega) (by omega)
  rw [if_neg h1] at h
  cases h
theorem ok_X4_takeFirst : q_Ok yX4_takeFirst cX4_takeFirst 3 (some .boolean) 1 T_X4_takeFirst 0 0 := q_okOf (plainFor_of_name (by decide +kernel)) rfl (fun h => by cases h) cs_X4_takeFirst (fun _ _ _ _ h => h)
theorem qlk_4_64 : Cond.methodLink (q_ow 4) 64 yX4_takeFirst ∈ q_Ts := q_in 619 (by decide +kernel) rfl
def ms_X4_takeTerm : Nat → Option QI := fun i => if i = 52 then some (1, 1, 4, T_X4_want, 0, 0) else if i = 64 then some (1, 2, 4, T_X4_takeFirst, 0, 0) else none
theorem ms_X4_takeTerm_52 : ms_X4_takeTerm 52 = some (1, 1, 4, T_X4_want, 0, 0) := rfl
theorem ms_X4_takeTerm_64 : ms_X4_takeTerm 64 = some (1, 2, 4, T_X4_takeFirst, 0, 0) := rfl
def T_X4_takeTerm : QTT := q_T cX4_takeTerm 2 4 false (some .boolean) ms_X4_takeTerm 0 0
set_option maxRecDepth 100000 in
theorem qw_X4_takeTerm : q_Wd yX4_takeTerm cX4_takeTerm 2 (some .boolean) 1 := ⟨q_in 618 rfl rfl, q_in 70 (by decide +kernel) rfl, by decide +kernel, by decide +kernel, by decide +kernel, by decide⟩
theorem qst_X4_takeTerm : Cond.instanceMethod yX4_takeTerm ∈ q_Ts := q_in 617 (by decide +kernel) rfl
theorem qsl_X4_takeTerm : Cond.selects yX4_takeTerm.cls yX4_takeTerm yX4_takeTerm ∈ q_Ts := q_in 11 (by decide +kernel) rfl
theorem cs_X4_takeTerm : ∀ (idx : Nat) (info : QI), ms_X4_takeTerm idx = some info → q_Cs cX4_takeTerm 4 2 idx info := by
  intro idx info h
  unfold ms_X4_takeTerm at h
  by_cases h0 : idx = 52
  · subst h0; rw [if_pos rfl] at h; cases h; intro p l e R s m args below meth c Q D cy nL A hC hf hlo; exact q_r1 hC ok_X4_want qw_X4_want qlk_4_52 ⟨qst_X4_want, qsl_X4_want⟩ ⟨rfl, rfl⟩ (by omega) (by omega)
  rw [if_neg h0] at h
  by_cases h1 : idx = 64
  · subst h1; rw [if_pos rfl] at h; cases h; intro p l e R s m args below meth c Q D cy nL A hC hf hlo; exact q_r1 hC ok_X4_takeFirst qw_X4_takeFirst qlk_4_64 ⟨qst_X4_takeFirst, qsl_X4_takeFirst⟩ ⟨rfl, rfl⟩ (by omega) (by omega)
  rw [if_neg h1] at h
  cases h
theorem ok_X4_takeTerm : q_Ok yX4_takeTerm cX4_takeTerm 2 (some .boolean) 2 T_X4_takeTerm 0 0 := q_okOf (plainFor_of_name (by decide +kernel)) rfl (fun h => by cases h) cs_X4_takeTerm (fun _ _ _ _ h => h)
theorem qlk_4_107 : Cond.methodLink (q_ow 4) 107 yX3_codeOf ∈ q_Ts := q_in 631 (by decide +kernel) rfl
def ms_X4_addOperation : Nat → Option QI := fun i => if i = 107 then some (0, 4, 3, T_X3_codeOf, 0, 0) else if i = 104 then some (1, 2, 4, T_X4_addStep, 0, 0) else none
theorem ms_X4_addOperation_107 : ms_X4_addOperation 107 = some (0, 4, 3, T_X3_codeOf, 0, 0) := rfl
theorem ms_X4_addOperation_104 : ms_X4_addOperation 104 = some (1, 2, 4, T_X4_addStep, 0, 0) := rfl
def T_X4_addOperation : QTT := q_T cX4_addOperation 3 4 false (some .boolean) ms_X4_addOperation 0 0
set_option maxRecDepth 100000 in
theorem qw_X4_addOperation : q_Wd yX4_addOperation cX4_addOperation 3 (some .boolean) 2 := ⟨q_in 630 rfl rfl, q_in 70 (by decide +kernel) rfl, by decide +kernel, by decide +kernel, by decide +kernel, by decide⟩
theorem qst_X4_addOperation : Cond.instanceMethod yX4_addOperation ∈ q_Ts := q_in 629 (by decide +kernel) rfl
theorem qsl_X4_addOperation : Cond.selects yX4_addOperation.cls yX4_addOperation yX4_addOperation ∈ q_Ts := q_in 14 (by decide +kernel) rfl
theorem cs_X4_addOperation : ∀ (idx : Nat) (info : QI), ms_X4_addOperation idx = some info → q_Cs cX4_addOperation 4 1 idx info := by
  intro idx info h
  unfold ms_X4_addOperation at h
  by_cases h0 : idx = 107
  · subst h0; rw [if_pos rfl] at h; cases h; intro p l e R s m args below meth c Q D cy nL A hC hf hlo; exact q_r0 hC ok_X3_codeOf qw_X3_codeOf qlk_4_107 qst_X3_codeOf (by omega) (by omega)
  rw [if_neg h0] at h
  by_cases h1 : idx = 104
  · subst h1; rw [if_pos rfl] at h; cases h; intro p l e R s m args below meth c Q D cy nL A hC hf hlo; exact q_r1 hC ok_X4_addStep qw_X4_addStep qlk_4_104 ⟨qst_X4_addStep, qsl_X4_addStep⟩ ⟨rfl, rfl⟩ (by omega) (by omega)
  rw [if_neg h1] at h
  cases h
theorem ok_X4_addOperation : q_Ok yX4_addOperation cX4_addOperation 3 (some .boolean) 1 T_X4_addOperation 0 0 := q_okOf (plainFor_of_name (by decide +kernel)) rfl (fun h => by cases h) cs_X4_addOperation (fun _ _ _ _ h => h)
def ms_X4_wantSecond : Nat → Option QI := fun i => if i = 52 then some (1, 1, 4, T_X4_want, 0, 0) else none
theorem ms_X4_wantSecond_52 : ms_X4_wantSecond 52 = some (1, 1, 4, T_X4_want, 0, 0) := rfl
def T_X4_wantSecond : QTT := q_T cX4_wantSecond 2 4 false (some .boolean) ms_X4_wantSecond 0 0
set_option maxRecDepth 100000 in
theorem qw_X4_wantSecond : q_Wd yX4_wantSecond cX4_wantSecond 2 (some .boolean) 1 := ⟨q_in 635 rfl rfl, q_in 70 (by decide +kernel) rfl, by decide +kernel, by decide +kernel, by decide +kernel, by decide⟩
theorem qst_X4_wantSecond : Cond.instanceMethod yX4_wantSecond ∈ q_Ts := q_in 634 (by decide +kernel) rfl
theorem qsl_X4_wantSecond : Cond.selects yX4_wantSecond.cls yX4_wantSecond yX4_wantSecond ∈ q_Ts := q_in 15 (by decide +kernel) rfl
theorem cs_X4_wantSecond : ∀ (idx : Nat) (info : QI), ms_X4_wantSecond idx = some info → q_Cs cX4_wantSecond 4 1 idx info := by
  intro idx info h
  unfold ms_X4_wantSecond at h
  by_cases h0 : idx = 52
  · subst h0; rw [if_pos rfl] at h; cases h; intro p l e R s m args below meth c Q D cy nL A hC hf hlo; exact q_r1 hC ok_X4_want qw_X4_want qlk_4_52 ⟨qst_X4_want, qsl_X4_want⟩ ⟨rfl, rfl⟩ (by omega) (by omega)
  rw [if_neg h0] at h
  cases h
theorem ok_X4_wantSecond : q_Ok yX4_wantSecond cX4_wantSecond 2 (some .boolean) 1 T_X4_wantSecond 0 0 := q_okOf (plainFor_of_name (by decide +kernel)) rfl (fun h => by cases h) cs_X4_wantSecond (fun _ _ _ _ h => h)
theorem qlk_4_95 : Cond.methodLink (q_ow 4) 95 yX4_addOperation ∈ q_Ts := q_in 627 (by decide +kernel) rfl
theorem qlk_4_68 : Cond.methodLink (q_ow 4) 68 yX4_wantSecond ∈ q_Ts := q_in 632 (by decide +kernel) rfl
def ms_X4_takeSign : Nat → Option QI := fun i => if i = 95 then some (1, 2, 4, T_X4_addOperation, 0, 0) else if i = 52 then some (1, 1, 4, T_X4_want, 0, 0) else if i = 68 then some (1, 1, 4, T_X4_wantSecond, 0, 0) else none
theorem ms_X4_takeSign_95 : ms_X4_takeSign 95 = some (1, 2, 4, T_X4_addOperation, 0, 0) := rfl
theorem ms_X4_takeSign_52 : ms_X4_takeSign 52 = some (1, 1, 4, T_X4_want, 0, 0) := rfl
theorem ms_X4_takeSign_68 : ms_X4_takeSign 68 = some (1, 1, 4, T_X4_wantSecond, 0, 0) := rfl
def T_X4_takeSign : QTT := q_T cX4_takeSign 2 4 false (some .boolean) ms_X4_takeSign 0 0
set_option maxRecDepth 100000 in
theorem qw_X4_takeSign : q_Wd yX4_takeSign cX4_takeSign 2 (some .boolean) 1 := ⟨q_in 626 rfl rfl, q_in 70 (by decide +kernel) rfl, by decide +kernel, by decide +kernel, by decide +kernel, by decide⟩
theorem qst_X4_takeSign : Cond.instanceMethod yX4_takeSign ∈ q_Ts := q_in 625 (by decide +kernel) rfl
theorem qsl_X4_takeSign : Cond.selects yX4_takeSign.cls yX4_takeSign yX4_takeSign ∈ q_Ts := q_in 13 (by decide +kernel) rfl
theorem cs_X4_takeSign : ∀ (idx : Nat) (info : QI), ms_X4_takeSign idx = some info → q_Cs cX4_takeSign 4 2 idx info := by
  intro idx info h
  unfold ms_X4_takeSign at h
  by_cases h0 : idx = 95
  · subst h0; rw [if_pos rfl] at h; cases h; intro p l e R s m args below meth c Q D cy nL A hC hf hlo; exact q_r1 hC ok_X4_addOperation qw_X4_addOperation qlk_4_95 ⟨qst_X4_addOperation, qsl_X4_addOperation⟩ ⟨rfl, rfl⟩ (by omega) (by omega)
  rw [if_neg h0] at h
  by_cases h1 : idx = 52
  · subst h1; rw [if_pos rfl] at h; cases h; intro p l e R s m args below meth c Q D cy nL A hC hf hlo; exact q_r1 hC ok_X4_want qw_X4_want qlk_4_52 ⟨qst_X4_want, qsl_X4_want⟩ ⟨rfl, rfl⟩ (by omega) (by omega)
  rw [if_neg h1] at h
  by_cases h2 : idx = 68
  · subst h2; rw [if_pos rfl] at h; cases h; intro p l e R s m args below meth c Q D cy nL A hC hf hlo; exact q_r1 hC ok_X4_wantSecond qw_X4_wantSecond qlk_4_68 ⟨qst_X4_wantSecond, qsl_X4_wantSecond⟩ ⟨rfl, rfl⟩ (by omega) (by omega)
  rw [if_neg h2] at h
  cases h
theorem ok_X4_takeSign : q_Ok yX4_takeSign cX4_takeSign 2 (some .boolean) 2 T_X4_takeSign 0 0 := q_okOf (plainFor_of_name (by decide +kernel)) rfl (fun h => by cases h) cs_X4_takeSign (fun _ _ _ _ h => h)
def ms_X4_takeSecond : Nat → Option QI := fun i => if i = 83 then some (0, 1, 4, T_X4_isRegisterDigit, 0, 0) else if i = 95 then some (1, 2, 4, T_X4_addOperation, 0, 0) else if i = 52 then some (1, 1, 4, T_X4_want, 0, 0) else none
theorem ms_X4_takeSecond_83 : ms_X4_takeSecond 83 = some (0, 1, 4, T_X4_isRegisterDigit, 0, 0) := rfl
theorem ms_X4_takeSecond_95 : ms_X4_takeSecond 95 = some (1, 2, 4, T_X4_addOperation, 0, 0) := rfl
theorem ms_X4_takeSecond_52 : ms_X4_takeSecond 52 = some (1, 1, 4, T_X4_want, 0, 0) := rfl
def T_X4_takeSecond : QTT := q_T cX4_takeSecond 2 4 false (some .boolean) ms_X4_takeSecond 0 0
set_option maxRecDepth 100000 in
theorem qw_X4_takeSecond : q_Wd yX4_takeSecond cX4_takeSecond 2 (some .boolean) 1 := ⟨q_in 639 rfl rfl, q_in 70 (by decide +kernel) rfl, by decide +kernel, by decide +kernel, by decide +kernel, by decide⟩
theorem qst_X4_takeSecond : Cond.instanceMethod yX4_takeSecond ∈ q_Ts := q_in 638 (by decide +kernel) rfl
theorem qsl_X4_takeSecond : Cond.selects yX4_takeSecond.cls yX4_takeSecond yX4_takeSecond ∈ q_Ts := q_in 16 (by decide +kernel) rfl
theorem cs_X4_takeSecond : ∀ (idx : Nat) (info : QI), ms_X4_takeSecond idx = some info → q_Cs cX4_takeSecond 4 2 idx info := by
  intro idx info h
  unfold ms_X4_takeSecond at h
  by_cases h0 : idx = 83
  · subst h0; rw [if_pos rfl] at h; cases h; intro p l e R s m args below meth c Q D cy nL A hC hf hlo; exact q_r0 hC ok_X4_isRegisterDigit qw_X4_isRegisterDigit qlk_4_83 qst_X4_isRegisterDigit (by omega) (by omega)
  rw [if_neg h0] at h
  by_cases h1 : idx = 95
  · subst h1; rw [if_pos rfl] at h; cases h; intro p l e R s m args below meth c Q D cy nL A hC hf hlo; exact q_r1 hC ok_X4_addOperation qw_X4_addOperation qlk_4_95 ⟨qst_X4_addOperation, qsl_X4_addOperation⟩ ⟨rfl, rfl⟩ (by omega) (by omega)
  rw [if_neg h1] at h
  by_cases h2 : idx = 52
  · subst h2; rw [if_pos rfl] at h; cases h; intro p l e R s m args below meth c Q D cy nL A hC hf hlo; exact q_r1 hC ok_X4_want qw_X4_want qlk_4_52 ⟨qst_X4_want, qsl_X4_want⟩ ⟨rfl, rfl⟩ (by omega) (by omega)
  rw [if_neg h2] at h
  cases h
theorem ok_X4_takeSecond : q_Ok yX4_takeSecond cX4_takeSecond 2 (some .boolean) 2 T_X4_takeSecond 0 0 := q_okOf (plainFor_of_name (by decide +kernel)) rfl (fun h => by cases h) cs_X4_takeSecond (fun _ _ _ _ h => h)
def ms_X4_isDigit : Nat → Option QI := fun i => none
def T_X4_isDigit : QTT := q_T cX4_isDigit 1 4 false (some .boolean) ms_X4_isDigit 0 0
set_option maxRecDepth 100000 in
theorem qw_X4_isDigit : q_Wd yX4_isDigit cX4_isDigit 1 (some .boolean) 1 := ⟨q_in 646 rfl rfl, q_in 70 (by decide +kernel) rfl, by decide +kernel, by decide +kernel, by decide +kernel, by decide⟩
theorem qst_X4_isDigit : Cond.static yX4_isDigit ∈ q_Ts := q_in 645 (by decide +kernel) rfl
theorem cs_X4_isDigit : ∀ (idx : Nat) (info : QI), ms_X4_isDigit idx = some info → q_Cs cX4_isDigit 4 0 idx info := by
  intro idx info h
  unfold ms_X4_isDigit at h
  cases h
theorem ok_X4_isDigit : q_Ok yX4_isDigit cX4_isDigit 1 (some .boolean) 0 T_X4_isDigit 0 0 := q_okOf (plainFor_of_name (by decide +kernel)) rfl (fun h => by cases h) cs_X4_isDigit (fun _ _ _ _ h => h)
theorem qlk_4_98 : Cond.methodLink (q_ow 4) 98 yX4_isDigit ∈ q_Ts := q_in 644 (by decide +kernel) rfl
def ms_X4_takeCount : Nat → Option QI := fun i => if i = 98 then some (0, 1, 4, T_X4_isDigit, 0, 0) else if i = 52 then some (1, 1, 4, T_X4_want, 0, 0) else none
theorem ms_X4_takeCount_98 : ms_X4_takeCount 98 = some (0, 1, 4, T_X4_isDigit, 0, 0) := rfl
theorem ms_X4_takeCount_52 : ms_X4_takeCount 52 = some (1, 1, 4, T_X4_want, 0, 0) := rfl
def T_X4_takeCount : QTT := q_T cX4_takeCount 2 4 false (some .boolean) ms_X4_takeCount 0 0
set_option maxRecDepth 100000 in
theorem qw_X4_takeCount : q_Wd yX4_takeCount cX4_takeCount 2 (some .boolean) 1 := ⟨q_in 643 rfl rfl, q_in 70 (by decide +kernel) rfl, by decide +kernel, by decide +kernel, by decide +kernel, by decide⟩
theorem qst_X4_takeCount : Cond.instanceMethod yX4_takeCount ∈ q_Ts := q_in 642 (by decide +kernel) rfl
theorem qsl_X4_takeCount : Cond.selects yX4_takeCount.cls yX4_takeCount yX4_takeCount ∈ q_Ts := q_in 17 (by decide +kernel) rfl
theorem cs_X4_takeCount : ∀ (idx : Nat) (info : QI), ms_X4_takeCount idx = some info → q_Cs cX4_takeCount 4 1 idx info := by
  intro idx info h
  unfold ms_X4_takeCount at h
  by_cases h0 : idx = 98
  · subst h0; rw [if_pos rfl] at h; cases h; intro p l e R s m args below meth c Q D cy nL A hC hf hlo; exact q_r0 hC ok_X4_isDigit qw_X4_isDigit qlk_4_98 qst_X4_isDigit (by omega) (by omega)
  rw [if_neg h0] at h
  by_cases h1 : idx = 52
  · subst h1; rw [if_pos rfl] at h; cases h; intro p l e R s m args below meth c Q D cy nL A hC hf hlo; exact q_r1 hC ok_X4_want qw_X4_want qlk_4_52 ⟨qst_X4_want, qsl_X4_want⟩ ⟨rfl, rfl⟩ (by omega) (by omega)
  rw [if_neg h1] at h
  cases h
theorem ok_X4_takeCount : q_Ok yX4_takeCount cX4_takeCount 2 (some .boolean) 1 T_X4_takeCount 0 0 := q_okOf (plainFor_of_name (by decide +kernel)) rfl (fun h => by cases h) cs_X4_takeCount (fun _ _ _ _ h => h)
def ms_X4_takeSecondOfCount : Nat → Option QI := fun i => if i = 98 then some (0, 1, 4, T_X4_isDigit, 0, 0) else if i = 52 then some (1, 1, 4, T_X4_want, 0, 0) else none
theorem ms_X4_takeSecondOfCount_98 : ms_X4_takeSecondOfCount 98 = some (0, 1, 4, T_X4_isDigit, 0, 0) := rfl
theorem ms_X4_takeSecondOfCount_52 : ms_X4_takeSecondOfCount 52 = some (1, 1, 4, T_X4_want, 0, 0) := rfl
def T_X4_takeSecondOfCount : QTT := q_T cX4_takeSecondOfCount 2 4 false (some .boolean) ms_X4_takeSecondOfCount 0 0
set_option maxRecDepth 100000 in
theorem qw_X4_takeSecondOfCount : q_Wd yX4_takeSecondOfCount cX4_takeSecondOfCount 2 (some .boolean) 1 := ⟨q_in 650 rfl rfl, q_in 70 (by decide +kernel) rfl, by decide +kernel, by decide +kernel, by decide +kernel, by decide⟩
theorem qst_X4_takeSecondOfCount : Cond.instanceMethod yX4_takeSecondOfCount ∈ q_Ts := q_in 649 (by decide +kernel) rfl
theorem qsl_X4_takeSecondOfCount : Cond.selects yX4_takeSecondOfCount.cls yX4_takeSecondOfCount yX4_takeSecondOfCount ∈ q_Ts := q_in 18 (by decide +kernel) rfl
theorem cs_X4_takeSecondOfCount : ∀ (idx : Nat) (info : QI), ms_X4_takeSecondOfCount idx = some info → q_Cs cX4_takeSecondOfCount 4 1 idx info := by
  intro idx info h
  unfold ms_X4_takeSecondOfCount at h
  by_cases h0 : idx = 98
  · subst h0; rw [if_pos rfl] at h; cases h; intro p l e R s m args below meth c Q D cy nL A hC hf hlo; exact q_r0 hC ok_X4_isDigit qw_X4_isDigit qlk_4_98 qst_X4_isDigit (by omega) (by omega)
  rw [if_neg h0] at h
  by_cases h1 : idx = 52
  · subst h1; rw [if_pos rfl] at h; cases h; intro p l e R s m args below meth c Q D cy nL A hC hf hlo; exact q_r1 hC ok_X4_want qw_X4_want qlk_4_52 ⟨qst_X4_want, qsl_X4_want⟩ ⟨rfl, rfl⟩ (by omega) (by omega)
  rw [if_neg h1] at h
  cases h
theorem ok_X4_takeSecondOfCount : q_Ok yX4_takeSecondOfCount cX4_takeSecondOfCount 2 (some .boolean) 1 T_X4_takeSecondOfCount 0 0 := q_okOf (plainFor_of_name (by decide +kernel)) rfl (fun h => by cases h) cs_X4_takeSecondOfCount (fun _ _ _ _ h => h)
def ms_X4_takeOpen : Nat → Option QI := fun i => if i = 104 then some (1, 2, 4, T_X4_addStep, 0, 0) else if i = 52 then some (1, 1, 4, T_X4_want, 0, 0) else none
theorem ms_X4_takeOpen_104 : ms_X4_takeOpen 104 = some (1, 2, 4, T_X4_addStep, 0, 0) := rfl
theorem ms_X4_takeOpen_52 : ms_X4_takeOpen 52 = some (1, 1, 4, T_X4_want, 0, 0) := rfl
def T_X4_takeOpen : QTT := q_T cX4_takeOpen 2 4 false (some .boolean) ms_X4_takeOpen 0 0
set_option maxRecDepth 100000 in
theorem qw_X4_takeOpen : q_Wd yX4_takeOpen cX4_takeOpen 2 (some .boolean) 1 := ⟨q_in 654 rfl rfl, q_in 70 (by decide +kernel) rfl, by decide +kernel, by decide +kernel, by decide +kernel, by decide⟩
theorem qst_X4_takeOpen : Cond.instanceMethod yX4_takeOpen ∈ q_Ts := q_in 653 (by decide +kernel) rfl
theorem qsl_X4_takeOpen : Cond.selects yX4_takeOpen.cls yX4_takeOpen yX4_takeOpen ∈ q_Ts := q_in 19 (by decide +kernel) rfl
theorem cs_X4_takeOpen : ∀ (idx : Nat) (info : QI), ms_X4_takeOpen idx = some info → q_Cs cX4_takeOpen 4 1 idx info := by
  intro idx info h
  unfold ms_X4_takeOpen at h
  by_cases h0 : idx = 104
  · subst h0; rw [if_pos rfl] at h; cases h; intro p l e R s m args below meth c Q D cy nL A hC hf hlo; exact q_r1 hC ok_X4_addStep qw_X4_addStep qlk_4_104 ⟨qst_X4_addStep, qsl_X4_addStep⟩ ⟨rfl, rfl⟩ (by omega) (by omega)
  rw [if_neg h0] at h
  by_cases h1 : idx = 52
  · subst h1; rw [if_pos rfl] at h; cases h; intro p l e R s m args below meth c Q D cy nL A hC hf hlo; exact q_r1 hC ok_X4_want qw_X4_want qlk_4_52 ⟨qst_X4_want, qsl_X4_want⟩ ⟨rfl, rfl⟩ (by omega) (by omega)
  rw [if_neg h1] at h
  cases h
theorem ok_X4_takeOpen : q_Ok yX4_takeOpen cX4_takeOpen 2 (some .boolean) 1 T_X4_takeOpen 0 0 := q_okOf (plainFor_of_name (by decide +kernel)) rfl (fun h => by cases h) cs_X4_takeOpen (fun _ _ _ _ h => h)
theorem qlk_4_45 : Cond.methodLink (q_ow 4) 45 yX4_takeBlank ∈ q_Ts := q_in 592 (by decide +kernel) rfl
theorem qlk_4_49 : Cond.methodLink (q_ow 4) 49 yX4_takeStatement ∈ q_Ts := q_in 600 (by decide +kernel) rfl
theorem qlk_4_55 : Cond.methodLink (q_ow 4) 55 yX4_takeTerm ∈ q_Ts := q_in 615 (by decide +kernel) rfl
theorem qlk_4_58 : Cond.methodLink (q_ow 4) 58 yX4_takeSign ∈ q_Ts := q_in 623 (by decide +kernel) rfl
theorem qlk_4_61 : Cond.methodLink (q_ow 4) 61 yX4_takeSecond ∈ q_Ts := q_in 636 (by decide +kernel) rfl
theorem qlk_4_71 : Cond.methodLink (q_ow 4) 71 yX4_takeCount ∈ q_Ts := q_in 640 (by decide +kernel) rfl
theorem qlk_4_74 : Cond.methodLink (q_ow 4) 74 yX4_takeSecondOfCount ∈ q_Ts := q_in 647 (by decide +kernel) rfl
theorem qlk_4_77 : Cond.methodLink (q_ow 4) 77 yX4_takeOpen ∈ q_Ts := q_in 651 (by decide +kernel) rfl
def ms_X4_take : Nat → Option QI := fun i => if i = 45 then some (1, 0, 4, T_X4_takeBlank, 0, 0) else if i = 49 then some (1, 1, 4, T_X4_takeStatement, 0, 0) else if i = 52 then some (1, 1, 4, T_X4_want, 0, 0) else if i = 55 then some (1, 1, 4, T_X4_takeTerm, 0, 0) else if i = 58 then some (1, 1, 4, T_X4_takeSign, 0, 0) else if i = 61 then some (1, 1, 4, T_X4_takeSecond, 0, 0) else if i = 64 then some (1, 2, 4, T_X4_takeFirst, 0, 0) else if i = 68 then some (1, 1, 4, T_X4_wantSecond, 0, 0) else if i = 71 then some (1, 1, 4, T_X4_takeCount, 0, 0) else if i = 74 then some (1, 1, 4, T_X4_takeSecondOfCount, 0, 0) else if i = 77 then some (1, 1, 4, T_X4_takeOpen, 0, 0) else none
theorem ms_X4_take_45 : ms_X4_take 45 = some (1, 0, 4, T_X4_takeBlank, 0, 0) := rfl
theorem ms_X4_take_49 : ms_X4_take 49 = some (1, 1, 4, T_X4_takeStatement, 0, 0) := rfl
theorem ms_X4_take_52 : ms_X4_take 52 = some (1, 1, 4, T_X4_want, 0, 0) := rfl
theorem ms_X4_take_55 : ms_X4_take 55 = some (1, 1, 4, T_X4_takeTerm, 0, 0) := rfl
theorem ms_X4_take_58 : ms_X4_take 58 = some (1, 1, 4, T_X4_takeSign, 0, 0) := rfl
theorem ms_X4_take_61 : ms_X4_take 61 = some (1, 1, 4, T_X4_takeSecond, 0, 0) := rfl
theorem ms_X4_take_64 : ms_X4_take 64 = some (1, 2, 4, T_X4_takeFirst, 0, 0) := rfl
theorem ms_X4_take_68 : ms_X4_take 68 = some (1, 1, 4, T_X4_wantSecond, 0, 0) := rfl
theorem ms_X4_take_71 : ms_X4_take 71 = some (1, 1, 4, T_X4_takeCount, 0, 0) := rfl
theorem ms_X4_take_74 : ms_X4_take 74 = some (1, 1, 4, T_X4_takeSecondOfCount, 0, 0) := rfl
theorem ms_X4_take_77 : ms_X4_take 77 = some (1, 1, 4, T_X4_takeOpen, 0, 0) := rfl
def T_X4_take : QTT := q_T cX4_take 2 4 false (some .boolean) ms_X4_take 0 0
set_option maxRecDepth 100000 in
theorem qw_X4_take : q_Wd yX4_take cX4_take 2 (some .boolean) 1 := ⟨q_in 591 rfl rfl, q_in 70 (by decide +kernel) rfl, by decide +kernel, by decide +kernel, by decide +kernel, by decide⟩
theorem qst_X4_take : Cond.instanceMethod yX4_take ∈ q_Ts := q_in 590 (by decide +kernel) rfl
theorem qsl_X4_take : Cond.selects yX4_take.cls yX4_take yX4_take ∈ q_Ts := q_in 5 (by decide +kernel) rfl
theorem cs_X4_take : ∀ (idx : Nat) (info : QI), ms_X4_take idx = some info → q_Cs cX4_take 4 3 idx info := by
  intro idx info h
  unfold ms_X4_take at h
  by_cases h0 : idx = 45
  · subst h0; rw [if_pos rfl] at h; cases h; intro p l e R s m args below meth c Q D cy nL A hC hf hlo; exact q_r1 hC ok_X4_takeBlank qw_X4_takeBlank qlk_4_45 ⟨qst_X4_takeBlank, qsl_X4_takeBlank⟩ ⟨rfl, rfl⟩ (by omega) (by omega)
  rw [if_neg h0] at h
  by_cases h1 : idx = 49
  · subst h1; rw [if_pos rfl] at h; cases h; intro p l e R s m args below meth c Q D cy nL A hC hf hlo; exact q_r1 hC ok_X4_takeStatement qw_X4_takeStatement qlk_4_49 ⟨qst_X4_takeStatement, qsl_X4_takeStatement⟩ ⟨rfl, rfl⟩ (by omega) (by omega)
  rw [if_neg h1] at h
  by_cases h2 : idx = 52
  · subst h2; rw [if_pos rfl] at h; cases h; intro p l e R s m args below meth c Q D cy nL A hC hf hlo; exact q_r1 hC ok_X4_want qw_X4_want qlk_4_52 ⟨qst_X4_want, qsl_X4_want⟩ ⟨rfl, rfl⟩ (by omega) (by omega)
  rw [if_neg h2] at h
  by_cases h3 : idx = 55
  · subst h3; rw [if_pos rfl] at h; cases h; intro p l e R s m args below meth c Q D cy nL A hC hf hlo; exact q_r1 hC ok_X4_takeTerm qw_X4_takeTerm qlk_4_55 ⟨qst_X4_takeTerm, qsl_X4_takeTerm⟩ ⟨rfl, rfl⟩ (by omega) (by omega)
  rw [if_neg h3] at h
  by_cases h4 : idx = 58
  · subst h4; rw [if_pos rfl] at h; cases h; intro p l e R s m args below meth c Q D cy nL A hC hf hlo; exact q_r1 hC ok_X4_takeSign qw_X4_takeSign qlk_4_58 ⟨qst_X4_takeSign, qsl_X4_takeSign⟩ ⟨rfl, rfl⟩ (by omega) (by omega)
  rw [if_neg h4] at h
  by_cases h5 : idx = 61
  · subst h5; rw [if_pos rfl] at h; cases h; intro p l e R s m args below meth c Q D cy nL A hC hf hlo; exact q_r1 hC ok_X4_takeSecond qw_X4_takeSecond qlk_4_61 ⟨qst_X4_takeSecond, qsl_X4_takeSecond⟩ ⟨rfl, rfl⟩ (by omega) (by omega)
  rw [if_neg h5] at h
  by_cases h6 : idx = 64
  · subst h6; rw [if_pos rfl] at h; cases h; intro p l e R s m args below meth c Q D cy nL A hC hf hlo; exact q_r1 hC ok_X4_takeFirst qw_X4_takeFirst qlk_4_64 ⟨qst_X4_takeFirst, qsl_X4_takeFirst⟩ ⟨rfl, rfl⟩ (by omega) (by omega)
  rw [if_neg h6] at h
  by_cases h7 : idx = 68
  · subst h7; rw [if_pos rfl] at h; cases h; intro p l e R s m args below meth c Q D cy nL A hC hf hlo; exact q_r1 hC ok_X4_wantSecond qw_X4_wantSecond qlk_4_68 ⟨qst_X4_wantSecond, qsl_X4_wantSecond⟩ ⟨rfl, rfl⟩ (by omega) (by omega)
  rw [if_neg h7] at h
  by_cases h8 : idx = 71
  · subst h8; rw [if_pos rfl] at h; cases h; intro p l e R s m args below meth c Q D cy nL A hC hf hlo; exact q_r1 hC ok_X4_takeCount qw_X4_takeCount qlk_4_71 ⟨qst_X4_takeCount, qsl_X4_takeCount⟩ ⟨rfl, rfl⟩ (by omega) (by omega)
  rw [if_neg h8] at h
  by_cases h9 : idx = 74
  · subst h9; rw [if_pos rfl] at h; cases h; intro p l e R s m args below meth c Q D cy nL A hC hf hlo; exact q_r1 hC ok_X4_takeSecondOfCount qw_X4_takeSecondOfCount qlk_4_74 ⟨qst_X4_takeSecondOfCount, qsl_X4_takeSecondOfCount⟩ ⟨rfl, rfl⟩ (by omega) (by omega)
  rw [if_neg h9] at h
  by_cases h10 : idx = 77
  · subst h10; rw [if_pos rfl] at h; cases h; intro p l e R s m args below meth c Q D cy nL A hC hf hlo; exact q_r1 hC ok_X4_takeOpen qw_X4_takeOpen qlk_4_77 ⟨qst_X4_takeOpen, qsl_X4_takeOpen⟩ ⟨rfl, rfl⟩ (by omega) (by omega)
  rw [if_neg h10] at h
  cases h
theorem ok_X4_take : q_Ok yX4_take cX4_take 2 (some .boolean) 3 T_X4_take 0 0 := q_okOf (plainFor_of_name (by decide +kernel)) rfl (fun h => by cases h) cs_X4_take (fun _ _ _ _ h => h)
theorem qlk_4_40 : Cond.methodLink (q_ow 4) 40 yX4_take ∈ q_Ts := q_in 588 (by decide +kernel) rfl
def ms_X4_read : Nat → Option QI := fun i => if i = 40 then some (1, 1, 4, T_X4_take, 0, 0) else none
theorem ms_X4_read_40 : ms_X4_read 40 = some (1, 1, 4, T_X4_take, 0, 0) := rfl
def T_X4_read : QTT := q_T cX4_read 2 4 false (some .int) ms_X4_read 0 0
set_option maxRecDepth 100000 in
theorem qw_X4_read : q_Wd yX4_read cX4_read 2 (some .int) 0 := ⟨q_in 587 rfl rfl, q_in 70 (by decide +kernel) rfl, by decide +kernel, by decide +kernel, by decide +kernel, by decide⟩
theorem qst_X4_read : Cond.instanceMethod yX4_read ∈ q_Ts := q_in 585 (by decide +kernel) rfl
theorem qsl_X4_read : Cond.selects yX4_read.cls yX4_read yX4_read ∈ q_Ts := q_in 586 (by decide +kernel) rfl
theorem cs_X4_read : ∀ (idx : Nat) (info : QI), ms_X4_read idx = some info → q_Cs cX4_read 4 4 idx info := by
  intro idx info h
  unfold ms_X4_read at h
  by_cases h0 : idx = 40
  · subst h0; rw [if_pos rfl] at h; cases h; intro p l e R s m args below meth c Q D cy nL A hC hf hlo; exact q_r1 hC ok_X4_take qw_X4_take qlk_4_40 ⟨qst_X4_take, qsl_X4_take⟩ ⟨rfl, rfl⟩ (by omega) (by omega)
  rw [if_neg h0] at h
  cases h
theorem ok_X4_read : q_Ok yX4_read cX4_read 2 (some .int) 4 T_X4_read 0 0 := q_okOf (plainFor_of_name (by decide +kernel)) rfl (fun h => by cases h) cs_X4_read (fun _ _ _ _ h => h)
theorem qlk_5_3 : Cond.methodLink (q_ow 5) 3 objectInit ∈ q_Ts := q_in 306 (by decide +kernel) rfl
def ms_X5_init : Nat → Option QI := fun i => if i = 3 then some (8, 0, 0, q_T0, 0, 0) else none
theorem ms_X5_init_3 : ms_X5_init 3 = some (8, 0, 0, q_T0, 0, 0) := rfl
def T_X5_init : QTT := q_T cX5_init 1 5 true none ms_X5_init 2 6
set_option maxRecDepth 100000 in
theorem qw_X5_init : q_Wd yX5_init cX5_init 1 none 0 := ⟨q_in 305 rfl rfl, q_in 71 (by decide +kernel) rfl, by decide +kernel, by decide +kernel, by decide +kernel, by decide⟩
theorem qst_X5_init : Cond.instanceMethod yX5_init ∈ q_Ts := q_in 304 (by decide +kernel) rfl
theorem cs_X5_init : ∀ (idx : Nat) (info : QI), ms_X5_init idx = some info → q_Cs cX5_init 5 1 idx info := by
  intro idx info h
  unfold ms_X5_init at h
  by_cases h0 : idx = 3
  · subst h0; rw [if_pos rfl] at h; cases h; intro p l e R s m args below meth c Q D cy nL A hC hf hlo; exact q_r8 hC qlk_5_3 q_lo0 q_lo1 (by omega) (by omega)
  rw [if_neg h0] at h
  cases h
theorem ok_X5_init : q_Ok yX5_init cX5_init 1 none 1 T_X5_init 2 6 := q_okOf (plainFor_of_name (by decide +kernel)) rfl (fun _ => rfl) cs_X5_init (fun _ _ _ _ h => h)
def ms_X5_start : Nat → Option QI := fun i => none
def T_X5_start : QTT := q_T cX5_start 1 5 false none ms_X5_start 0 0
set_option maxRecDepth 100000 in
theorem qw_X5_start : q_Wd yX5_start cX5_start 1 none 0 := ⟨q_in 668 rfl rfl, q_in 71 (by decide +kernel) rfl, by decide +kernel, by decide +kernel, by decide +kernel, by decide⟩
theorem qst_X5_start : Cond.instanceMethod yX5_start ∈ q_Ts := q_in 667 (by decide +kernel) rfl
theorem qsl_X5_start : Cond.selects yX5_start.cls yX5_start yX5_start ∈ q_Ts := q_in 20 (by decide +kernel) rfl
theorem cs_X5_start : ∀ (idx : Nat) (info : QI), ms_X5_start idx = some info → q_Cs cX5_start 5 0 idx info := by
  intro idx info h
  unfold ms_X5_start at h
  cases h
theorem ok_X5_start : q_Ok yX5_start cX5_start 1 none 0 T_X5_start 0 0 := q_okOf (plainFor_of_name (by decide +kernel)) rfl (fun h => by cases h) cs_X5_start (fun _ _ _ _ h => h)
def ms_X5_enterLoop : Nat → Option QI := fun i => none
def T_X5_enterLoop : QTT := q_T cX5_enterLoop 3 5 false none ms_X5_enterLoop 0 0
set_option maxRecDepth 100000 in
theorem qw_X5_enterLoop : q_Wd yX5_enterLoop cX5_enterLoop 3 none 2 := ⟨q_in 677 rfl rfl, q_in 71 (by decide +kernel) rfl, by decide +kernel, by decide +kernel, by decide +kernel, by decide⟩
theorem qst_X5_enterLoop : Cond.instanceMethod yX5_enterLoop ∈ q_Ts := q_in 676 (by decide +kernel) rfl
theorem qsl_X5_enterLoop : Cond.selects yX5_enterLoop.cls yX5_enterLoop yX5_enterLoop ∈ q_Ts := q_in 22 (by decide +kernel) rfl
theorem cs_X5_enterLoop : ∀ (idx : Nat) (info : QI), ms_X5_enterLoop idx = some info → q_Cs cX5_enterLoop 5 0 idx info := by
  intro idx info h
  unfold ms_X5_enterLoop at h
  cases h
theorem ok_X5_enterLoop : q_Ok yX5_enterLoop cX5_enterLoop 3 none 0 T_X5_enterLoop 0 0 := q_okOf (plainFor_of_name (by decide +kernel)) rfl (fun h => by cases h) cs_X5_enterLoop (fun _ _ _ _ h => h)
def ms_X5_endRound : Nat → Option QI := fun i => none
def T_X5_endRound : QTT := q_T cX5_endRound 3 5 false none ms_X5_endRound 0 0
set_option maxRecDepth 100000 in
theorem qw_X5_endRound : q_Wd yX5_endRound cX5_endRound 3 none 1 := ⟨q_in 681 rfl rfl, q_in 71 (by decide +kernel) rfl, by decide +kernel, by decide +kernel, by decide +kernel, by decide⟩
theorem qst_X5_endRound : Cond.instanceMethod yX5_endRound ∈ q_Ts := q_in 680 (by decide +kernel) rfl
theorem qsl_X5_endRound : Cond.selects yX5_endRound.cls yX5_endRound yX5_endRound ∈ q_Ts := q_in 23 (by decide +kernel) rfl
theorem cs_X5_endRound : ∀ (idx : Nat) (info : QI), ms_X5_endRound idx = some info → q_Cs cX5_endRound 5 0 idx info := by
  intro idx info h
  unfold ms_X5_endRound at h
  cases h
theorem ok_X5_endRound : q_Ok yX5_endRound cX5_endRound 3 none 0 T_X5_endRound 0 0 := q_okOf (plainFor_of_name (by decide +kernel)) rfl (fun h => by cases h) cs_X5_endRound (fun _ _ _ _ h => h)
theorem qlk_5_69 : Cond.methodLink (q_ow 5) 69 yX5_enterLoop ∈ q_Ts := q_in 674 (by decide +kernel) rfl
theorem qlk_5_73 : Cond.methodLink (q_ow 5) 73 yX5_endRound ∈ q_Ts := q_in 678 (by decide +kernel) rfl
def ms_X5_nextCode : Nat → Option QI := fun i => if i = 69 then some (1, 2, 5, T_X5_enterLoop, 0, 0) else if i = 73 then some (1, 1, 5, T_X5_endRound, 0, 0) else none
theorem ms_X5_nextCode_69 : ms_X5_nextCode 69 = some (1, 2, 5, T_X5_enterLoop, 0, 0) := rfl
theorem ms_X5_nextCode_73 : ms_X5_nextCode 73 = some (1, 1, 5, T_X5_endRound, 0, 0) := rfl
def T_X5_nextCode : QTT := q_T cX5_nextCode 4 5 false (some .int) ms_X5_nextCode 0 0
set_option maxRecDepth 100000 in
theorem qw_X5_nextCode : q_Wd yX5_nextCode cX5_nextCode 4 (some .int) 1 := ⟨q_in 672 rfl rfl, q_in 71 (by decide +kernel) rfl, by decide +kernel, by decide +kernel, by decide +kernel, by decide⟩
theorem qst_X5_nextCode : Cond.instanceMethod yX5_nextCode ∈ q_Ts := q_in 671 (by decide +kernel) rfl
theorem qsl_X5_nextCode : Cond.selects yX5_nextCode.cls yX5_nextCode yX5_nextCode ∈ q_Ts := q_in 21 (by decide +kernel) rfl
theorem cs_X5_nextCode : ∀ (idx : Nat) (info : QI), ms_X5_nextCode idx = some info → q_Cs cX5_nextCode 5 1 idx info := by
  intro idx info h
  unfold ms_X5_nextCode at h
  by_cases h0 : idx = 69
  · subst h0; rw [if_pos rfl] at h; cases h; intro p l e R s m args below meth c Q D cy nL A hC hf hlo; exact q_r1 hC ok_X5_enterLoop qw_X5_enterLoop qlk_5_69 ⟨qst_X5_enterLoop, qsl_X5_enterLoop⟩ ⟨rfl, rfl⟩ (by omega) (by omega)
  rw [if_neg h0] at h
  by_cases h1 : idx = 73
  · subst h1; rw [if_pos rfl] at h; cases h; intro p l e R s m args below meth c Q D cy nL A hC hf hlo; exact q_r1 hC ok_X5_endRound qw_X5_endRound qlk_5_73 ⟨qst_X5_endRound, qsl_X5_endRound⟩ ⟨rfl, rfl⟩ (by omega) (by omega)
  rw [if_neg h1] at h
  cases h
theorem ok_X5_nextCode : q_Ok yX5_nextCode cX5_nextCode 4 (some .int) 1 T_X5_nextCode 0 0 := q_okOf (plainFor_of_name (by decide +kernel)) rfl (fun h => by cases h) cs_X5_nextCode (fun _ _ _ _ h => h)
theorem qlk_6_57 : Cond.methodLink (q_ow 6) 57 yX3_kindOf ∈ q_Ts := q_in 503 (by decide +kernel) rfl
theorem qlk_6_63 : Cond.methodLink (q_ow 6) 63 yX3_secondOf ∈ q_Ts := q_in 506 (by decide +kernel) rfl
def ms_X6_canCarryOut : Nat → Option QI := fun i => if i = 57 then some (0, 1, 3, T_X3_kindOf, 0, 0) else if i = 63 then some (0, 1, 3, T_X3_secondOf, 0, 0) else none
theorem ms_X6_canCarryOut_57 : ms_X6_canCarryOut 57 = some (0, 1, 3, T_X3_kindOf, 0, 0) := rfl
theorem ms_X6_canCarryOut_63 : ms_X6_canCarryOut 63 = some (0, 1, 3, T_X3_secondOf, 0, 0) := rfl
def T_X6_canCarryOut : QTT := q_T cX6_canCarryOut 2 6 false (some .boolean) ms_X6_canCarryOut 0 0
set_option maxRecDepth 100000 in
theorem qw_X6_canCarryOut : q_Wd yX6_canCarryOut cX6_canCarryOut 2 (some .boolean) 1 := ⟨q_in 502 rfl rfl, q_in 65 (by decide +kernel) rfl, by decide +kernel, by decide +kernel, by decide +kernel, by decide⟩
theorem qst_X6_canCarryOut : Cond.instanceMethod yX6_canCarryOut ∈ q_Ts := q_in 500 (by decide +kernel) rfl
theorem qsl_X6_canCarryOut : Cond.selects yX6_canCarryOut.cls yX6_canCarryOut yX6_canCarryOut ∈ q_Ts := q_in 501 (by decide +kernel) rfl
theorem cs_X6_canCarryOut : ∀ (idx : Nat) (info : QI), ms_X6_canCarryOut idx = some info → q_Cs cX6_canCarryOut 6 1 idx info := by
  intro idx info h
  unfold ms_X6_canCarryOut at h
  by_cases h0 : idx = 57
  · subst h0; rw [if_pos rfl] at h; cases h; intro p l e R s m args below meth c Q D cy nL A hC hf hlo; exact q_r0 hC ok_X3_kindOf qw_X3_kindOf qlk_6_57 qst_X3_kindOf (by omega) (by omega)
  rw [if_neg h0] at h
  by_cases h1 : idx = 63
  · subst h1; rw [if_pos rfl] at h; cases h; intro p l e R s m args below meth c Q D cy nL A hC hf hlo; exact q_r0 hC ok_X3_secondOf qw_X3_secondOf qlk_6_63 qst_X3_secondOf (by omega) (by omega)
  rw [if_neg h1] at h
  cases h
theorem ok_X6_canCarryOut : q_Ok yX6_canCarryOut cX6_canCarryOut 2 (some .boolean) 1 T_X6_canCarryOut 0 0 := q_okOf (plainFor_of_name (by decide +kernel)) rfl (fun h => by cases h) cs_X6_canCarryOut (fun _ _ _ _ h => h)
def ms_J9_abs_067f4 : Nat → Option QI := fun i => none
def T_J9_abs_067f4 : QTT := q_T cJ9_abs_067f4 2 10 false (some .long) ms_J9_abs_067f4 0 0
set_option maxRecDepth 100000 in
theorem qw_J9_abs_067f4 : q_Wd yJ9_abs_067f4 cJ9_abs_067f4 2 (some .long) 1 := ⟨q_in 532 rfl rfl, q_in 74 (by decide +kernel) rfl, by decide +kernel, by decide +kernel, by decide +kernel, by decide⟩
theorem qst_J9_abs_067f4 : Cond.static yJ9_abs_067f4 ∈ q_Ts := q_in 531 (by decide +kernel) rfl
theorem cs_J9_abs_067f4 : ∀ (idx : Nat) (info : QI), ms_J9_abs_067f4 idx = some info → q_Cs cJ9_abs_067f4 10 0 idx info := by
  intro idx info h
  unfold ms_J9_abs_067f4 at h
  cases h
theorem ok_J9_abs_067f4 : q_Ok yJ9_abs_067f4 cJ9_abs_067f4 2 (some .long) 0 T_J9_abs_067f4 0 0 := q_okOf (by decide +kernel) rfl (fun h => by cases h) cs_J9_abs_067f4 (fun _ _ _ _ h => h)
theorem qlk_6_114 : Cond.methodLink (q_ow 6) 114 yX3_firstOf ∈ q_Ts := q_in 526 (by decide +kernel) rfl
theorem qlk_6_66 : Cond.methodLink (q_ow 6) 66 yX3_targetOf ∈ q_Ts := q_in 514 (by decide +kernel) rfl
theorem qlk_6_117 : Cond.methodLink (q_ow 6) 117 yX3_setFraction ∈ q_Ts := q_in 529 (by decide +kernel) rfl
theorem qlk_6_121 : Cond.methodLink (q_ow 6) 121 yJ9_abs_067f4 ∈ q_Ts := q_in 530 (by decide +kernel) rfl
def ms_X6_computeFraction : Nat → Option QI := fun i => if i = 114 then some (0, 1, 3, T_X3_firstOf, 0, 0) else if i = 63 then some (0, 1, 3, T_X3_secondOf, 0, 0) else if i = 66 then some (0, 1, 3, T_X3_targetOf, 0, 0) else if i = 57 then some (0, 1, 3, T_X3_kindOf, 0, 0) else if i = 117 then some (1, 2, 3, T_X3_setFraction, 0, 0) else if i = 121 then some (0, 1, 0, T_J9_abs_067f4, 0, 0) else none
theorem ms_X6_computeFraction_114 : ms_X6_computeFraction 114 = some (0, 1, 3, T_X3_firstOf, 0, 0) := rfl
theorem ms_X6_computeFraction_63 : ms_X6_computeFraction 63 = some (0, 1, 3, T_X3_secondOf, 0, 0) := rfl
theorem ms_X6_computeFraction_66 : ms_X6_computeFraction 66 = some (0, 1, 3, T_X3_targetOf, 0, 0) := rfl
theorem ms_X6_computeFraction_57 : ms_X6_computeFraction 57 = some (0, 1, 3, T_X3_kindOf, 0, 0) := rfl
theorem ms_X6_computeFraction_117 : ms_X6_computeFraction 117 = some (1, 2, 3, T_X3_setFraction, 0, 0) := rfl
theorem ms_X6_computeFraction_121 : ms_X6_computeFraction 121 = some (0, 1, 0, T_J9_abs_067f4, 0, 0) := rfl
def T_X6_computeFraction : QTT := q_T cX6_computeFraction 9 6 false none ms_X6_computeFraction 0 0
set_option maxRecDepth 100000 in
theorem qw_X6_computeFraction : q_Wd yX6_computeFraction cX6_computeFraction 9 none 2 := ⟨q_in 525 rfl rfl, q_in 65 (by decide +kernel) rfl, by decide +kernel, by decide +kernel, by decide +kernel, by decide⟩
theorem qst_X6_computeFraction : Cond.instanceMethod yX6_computeFraction ∈ q_Ts := q_in 524 (by decide +kernel) rfl
theorem qsl_X6_computeFraction : Cond.selects yX6_computeFraction.cls yX6_computeFraction yX6_computeFraction ∈ q_Ts := q_in 2 (by decide +kernel) rfl
theorem cs_X6_computeFraction : ∀ (idx : Nat) (info : QI), ms_X6_computeFraction idx = some info → q_Cs cX6_computeFraction 6 1 idx info := by
  intro idx info h
  unfold ms_X6_computeFraction at h
  by_cases h0 : idx = 114
  · subst h0; rw [if_pos rfl] at h; cases h; intro p l e R s m args below meth c Q D cy nL A hC hf hlo; exact q_r0 hC ok_X3_firstOf qw_X3_firstOf qlk_6_114 qst_X3_firstOf (by omega) (by omega)
  rw [if_neg h0] at h
  by_cases h1 : idx = 63
  · subst h1; rw [if_pos rfl] at h; cases h; intro p l e R s m args below meth c Q D cy nL A hC hf hlo; exact q_r0 hC ok_X3_secondOf qw_X3_secondOf qlk_6_63 qst_X3_secondOf (by omega) (by omega)
  rw [if_neg h1] at h
  by_cases h2 : idx = 66
  · subst h2; rw [if_pos rfl] at h; cases h; intro p l e R s m args below meth c Q D cy nL A hC hf hlo; exact q_r0 hC ok_X3_targetOf qw_X3_targetOf qlk_6_66 qst_X3_targetOf (by omega) (by omega)
  rw [if_neg h2] at h
  by_cases h3 : idx = 57
  · subst h3; rw [if_pos rfl] at h; cases h; intro p l e R s m args below meth c Q D cy nL A hC hf hlo; exact q_r0 hC ok_X3_kindOf qw_X3_kindOf qlk_6_57 qst_X3_kindOf (by omega) (by omega)
  rw [if_neg h3] at h
  by_cases h4 : idx = 117
  · subst h4; rw [if_pos rfl] at h; cases h; intro p l e R s m args below meth c Q D cy nL A hC hf hlo; exact q_r1 hC ok_X3_setFraction qw_X3_setFraction qlk_6_117 ⟨qst_X3_setFraction, qsl_X3_setFraction⟩ ⟨rfl, rfl⟩ (by omega) (by omega)
  rw [if_neg h4] at h
  by_cases h5 : idx = 121
  · subst h5; rw [if_pos rfl] at h; cases h; intro p l e R s m args below meth c Q D cy nL A hC hf hlo; exact q_r0 hC ok_J9_abs_067f4 qw_J9_abs_067f4 qlk_6_121 qst_J9_abs_067f4 (by omega) (by omega)
  rw [if_neg h5] at h
  cases h
theorem ok_X6_computeFraction : q_Ok yX6_computeFraction cX6_computeFraction 9 none 1 T_X6_computeFraction 0 0 := q_okOf (plainFor_of_name (by decide +kernel)) rfl (fun h => by cases h) cs_X6_computeFraction (fun _ _ _ _ h => h)
