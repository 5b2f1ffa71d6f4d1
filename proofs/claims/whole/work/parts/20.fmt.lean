/-! ===== Format: the numbers ===== -/
def Fok (p lo hi : Nat) : Prop := 1 ≤ p ∧ lo ≤ 10 ∧ 10 ≤ hi ∧ p + hi ≤ 20
def fsp (p : Nat) : Nat → Nat → Int → Nat
  | 0, b, _ => b
  | n + 1, b, v => if 2 ^ p ≤ v / 2 ^ b then fsp p n (b + 1) v else b
def fbits (p lo hi : Nat) (v : Int) : Nat := fsp p (hi - lo) lo v
def ftop (p hi : Nat) : Int := (2 ^ p - 1) * 2 ^ hi
def iabs (v : Int) : Int := if 0 ≤ v then v else -v
def ffl (p lo hi : Nat) (v : Int) : Int := v / 2 ^ fbits p lo hi (iabs v) * 2 ^ fbits p lo hi (iabs v)
theorem pw_pos (k : Nat) : (0 : Int) < 2 ^ k := by exact_mod_cast Nat.two_pow_pos k
theorem pw_le {a b : Nat} (h : a ≤ b) : (2 : Int) ^ a ≤ 2 ^ b := by exact_mod_cast Nat.pow_le_pow_right (by decide) h
theorem pw_10 {p : Nat} (h : p ≤ 10) : (2 : Int) ^ p ≤ 1024 := pw_le h
theorem pw_20 {p : Nat} (h : p ≤ 20) : (2 : Int) ^ p ≤ 1048576 := pw_le h
theorem ftop_rng {p lo hi : Nat} (h : Fok p lo hi) : 0 < ftop p hi ∧ ftop p hi ≤ 1048575 := by
  obtain ⟨h1, h2, h3, h4⟩ := h
  have e1 : (2 : Int) ≤ 2 ^ p := pw_le (a := 1) h1
  have e2 := pw_pos hi
  have e3 : (2 : Int) ^ p * 2 ^ hi ≤ 1048576 := by rw [← Int.pow_add]; exact pw_20 h4
  have e4 : (1 : Int) * 2 ^ hi ≤ (2 ^ p - 1) * 2 ^ hi := Int.mul_le_mul_of_nonneg_right (by omega) (by omega)
  have e5 : ftop p hi = 2 ^ p * 2 ^ hi - 2 ^ hi := by unfold ftop; rw [Int.sub_mul, Int.one_mul]
  unfold ftop at e5 ⊢
  omega
theorem fsp_rng (p : Nat) (v : Int) : ∀ n b, b ≤ fsp p n b v ∧ fsp p n b v ≤ b + n
  | 0, b => ⟨Nat.le_refl _, Nat.le_refl _⟩
  | n + 1, b => by
    have := fsp_rng p v n (b + 1)
    unfold fsp
    split <;> omega
theorem fbits_rng {p lo hi : Nat} (h : Fok p lo hi) (v : Int) : lo ≤ fbits p lo hi v ∧ fbits p lo hi v ≤ hi := by
  obtain ⟨h1, h2, h3, h4⟩ := h
  have := fsp_rng p v (hi - lo) lo
  unfold fbits
  omega
/-! ===== Format: the code ===== -/
abbrev cFmt (p lo hi : Nat) : QCl := .inr (0, [.int (iI p), .int (iI ((lo : Int) - 10)), .int (iI ((hi : Int) - 10))])
theorem t_top {a : Nat} {w : QWd} {sz : Nat} {post : QPo} {p lo hi : Nat} (hF : Fok p lo hi) (hw : w a = some (cFmt p lo hi)) (h : post (some (.int (iI (ftop p hi)))) w) : T_X0_top [.ref a] w sz post := by
  obtain ⟨h1, h2, h3, h4⟩ := hF
  refine Ti_X0_top (fun G hG => hG (fun _ => false) 40 _ _ _ _ _ _ ?_)
  simp only [qe_x, qe_v, q_get, Bool.cond_false, Bool.cond_true, Nat.reduceAdd, Nat.reduceBEq, Nat.reduceLT, Nat.reduceLeDiff, Nat.add_zero, Nat.zero_add, Nat.le_refl, true_and, and_true, List.length_cons, List.length_nil, Option.some.injEq, exists_eq_left', exists_eq_left, exists_eq', reduceCtorEq, dX0_top_0, qe_iconst, dX0_top_1, qe_aload_0, qe_al, dX0_top_2, qe_get, qF_0_9, qe_gf, qe_fg, List.getElem?_cons_zero, List.getElem?_cons_succ, dX0_top_5, qe_ishl, dX0_top_6, dX0_top_7, qe_isub, dX0_top_8, dX0_top_9, qF_0_18, dX0_top_12, qe_bipush, Int.reduceLE, Int.reduceLT, Int.reduceNeg, dX0_top_14, qe_iadd, dX0_top_15, dX0_top_16, qe_iret, qe_nar_i, qe_nar_0, qe_nar_1, hw]
  simp (disch := omega) only [iI_add, iI_sub, iI_shl, Int.sub_add_cancel, Int.toNat_natCast]
  unfold ftop at h
  rw [Int.one_mul]
  exact h
theorem t_isPossible {w : QWd} {sz : Nat} {post : QPo} {p q g : Int} (hp : -2147483648 ≤ p ∧ p < 2147483648) (hq : -2147483648 ≤ q ∧ q < 2147483648) (hg : -2147483648 ≤ g ∧ g < 2147483648)
    (h : post (some (.int (iI (if 1 ≤ p ∧ p ≤ 10 ∧ -10 ≤ q ∧ q ≤ 0 ∧ 0 ≤ g ∧ g ≤ 9 ∧ p + g ≤ 10 then 1 else 0)))) w) : T_X0_isPossible [.int (iI p), .int (iI q), .int (iI g)] w sz post := by
  refine Ti_X0_isPossible (fun G hG => hG (fun _ => false) 40 _ _ _ _ _ _ ?_)
  simp only [qe_x, qe_v, q_get, Bool.cond_false, Bool.cond_true, Nat.reduceAdd, Nat.reduceBEq, Nat.reduceLT, Nat.reduceLeDiff, Nat.add_zero, Nat.zero_add, Nat.le_refl, true_and, and_true, List.length_cons, List.length_nil, Option.some.injEq, exists_eq_left', exists_eq_left, exists_eq', reduceCtorEq, dX0_isPossible_0, qe_iload_0, qe_il, dX0_isPossible_1, qe_iconst, dX0_isPossible_2, qe_icmp_lt, q_br, q_tg, Int.reduceNatCast', Int.reduceAdd, Int.reduceToNat, Int.reduceLE, Int.reduceNeg, dX0_isPossible_5, dX0_isPossible_6, qe_bipush, Int.reduceLT, dX0_isPossible_8, qe_icmp_gt, dX0_isPossible_11, qe_iload_1, dX0_isPossible_12, dX0_isPossible_14, dX0_isPossible_17, dX0_isPossible_18, qe_if_gt, dX0_isPossible_21, qe_iload_2, dX0_isPossible_22, qe_if_lt, dX0_isPossible_25, dX0_isPossible_26, dX0_isPossible_28, dX0_isPossible_31, dX0_isPossible_32, dX0_isPossible_33, qe_iadd, dX0_isPossible_34, dX0_isPossible_36, dX0_isPossible_39, dX0_isPossible_40, qe_goto, dX0_isPossible_43, dX0_isPossible_44, qe_iret, qe_nar_i, qe_nar_0, qe_nar_1]
  simp (disch := omega) only [iI_lt, iI_le]
  repeat' (first | refine And.intro ?_ ?_ | intro _)
  all_goals (try (rw [iI_add, iI_lt (by omega) (by omega) (by omega) (by omega)] at *))
  all_goals first | (rw [if_pos (by omega)] at h; exact h) | (rw [if_neg (by omega)] at h; exact h)
theorem t_define {a : Nat} {w : QWd} {sz : Nat} {post : QPo} {v0 v1 v2 x y z : Int32} (hw : w a = some (.inr (0, [.int v0, .int v1, .int v2]))) (h : post none (q_set w a (.inr (0, [.int x, .int y, .int z])))) : T_X0_define [.ref a, .int x, .int y, .int z] w sz post := by
  refine Ti_X0_define (fun G hG => hG (fun _ => false) 40 _ _ _ _ _ _ ?_)
  simp only [qe_x, qe_v, q_get, Bool.cond_false, Bool.cond_true, Nat.reduceAdd, Nat.reduceBEq, Nat.reduceLT, Nat.reduceLeDiff, Nat.add_zero, Nat.zero_add, Nat.le_refl, true_and, and_true, List.length_cons, List.length_nil, Option.some.injEq, exists_eq_left', exists_eq_left, exists_eq', reduceCtorEq, dX0_define_0, qe_aload_0, qe_al, dX0_define_1, qe_iload_1, qe_il, dX0_define_2, qe_put, qF_0_9, qe_pf, qe_pfF, qe_fp, qe_pv_i, qe_pv_l, qe_pv_a, qe_pv_o, qe_pv_z0, qe_pv_z1, List.set_cons_zero, List.set_cons_succ, dX0_define_5, dX0_define_6, qe_iload_2, dX0_define_7, qF_0_15, dX0_define_10, dX0_define_11, qe_iload_3, dX0_define_12, qF_0_18, dX0_define_15, qe_vret, hw, q_set_s, q_set_ss]
  exact h
theorem t_spacing {a : Nat} {w : QWd} {sz : Nat} {post : QPo} {p lo hi : Nat} {v : Int} (hF : Fok p lo hi) (hw : w a = some (cFmt p lo hi)) (hv : 0 ≤ v ∧ v < 2147483648) (h : post (some (.int (iI (fbits p lo hi v)))) w) : T_X0_spacingBits [.ref a, .int (iI v)] w sz post := by
  obtain ⟨h1, h2, h3, h4⟩ := hF
  have hp := pw_10 (p := p) (by omega)
  have hp0 := pw_pos p
  refine Ti_X0_spacingBits (fun G hG => ?_)
  have loop : ∀ n b : Nat, b + n = hi → lo ≤ b → fsp p n b v = fbits p lo hi v → G 16 [some (.ref a), some (.int (iI v)), some (.int (iI hi)), some (.int (iI b))] [] w sz 0 := by
    intro n
    induction n with
    | zero =>
      intro b hb hlo he
      refine hG (fun pc => pc == 16) 20 _ _ _ _ _ _ ?_
      simp only [qe_x, qe_v, q_get, Bool.cond_false, Bool.cond_true, Nat.reduceAdd, Nat.reduceBEq, Nat.reduceLT, Nat.reduceLeDiff, Nat.add_zero, Nat.zero_add, Nat.le_refl, true_and, and_true, List.length_cons, List.length_nil, Option.some.injEq, exists_eq_left', exists_eq_left, exists_eq', reduceCtorEq, dX0_spacingBits_0, qe_aload_0, qe_al, dX0_spacingBits_1, qe_get, qF_0_18, qe_gf, qe_fg, List.getElem?_cons_zero, List.getElem?_cons_succ, dX0_spacingBits_4, qe_bipush, Int.reduceLE, Int.reduceLT, Int.reduceNeg, dX0_spacingBits_6, qe_iadd, dX0_spacingBits_7, qe_istore_2, q_st1, q_st2, q_clr, Value.category, Nat.reduceEqDiff, reduceIte, dX0_spacingBits_8, dX0_spacingBits_9, qF_0_15, dX0_spacingBits_12, dX0_spacingBits_14, dX0_spacingBits_15, qe_istore_3, dX0_spacingBits_16, qe_iload_3, qe_il, dX0_spacingBits_17, qe_iload_2, dX0_spacingBits_18, qe_icmp_ge, q_br, q_tg, Int.reduceNatCast', Int.reduceAdd, Int.reduceToNat, dX0_spacingBits_21, qe_iload_1, dX0_spacingBits_22, dX0_spacingBits_23, qe_ishr, dX0_spacingBits_24, qe_iconst, dX0_spacingBits_25, dX0_spacingBits_26, qF_0_9, dX0_spacingBits_29, qe_ishl, dX0_spacingBits_30, qe_icmp_lt, dX0_spacingBits_33, qe_iinc, qe_ii, dX0_spacingBits_36, qe_goto, dX0_spacingBits_39, dX0_spacingBits_40, qe_iret, qe_nar_i, qe_nar_0, qe_nar_1, hw]
      simp (disch := omega) only [iI_le]
      refine ⟨fun _ => ?_, fun q => absurd (show (hi : Int) ≤ b by omega) q⟩
      rw [← he] at h
      exact h
    | succ n ih =>
      intro b hb hlo he
      have hb0 := pw_pos b
      have hr : 0 ≤ v / 2 ^ b ∧ v / 2 ^ b < 2147483648 := ediv_rng hb0 (by omega) hv.1 hv.2 (by omega)
      refine hG (fun pc => pc == 16) 20 _ _ _ _ _ _ ?_
      simp only [qe_x, qe_v, q_get, Bool.cond_false, Bool.cond_true, Nat.reduceAdd, Nat.reduceBEq, Nat.reduceLT, Nat.reduceLeDiff, Nat.add_zero, Nat.zero_add, Nat.le_refl, true_and, and_true, List.length_cons, List.length_nil, Option.some.injEq, exists_eq_left', exists_eq_left, exists_eq', reduceCtorEq, dX0_spacingBits_0, qe_aload_0, qe_al, dX0_spacingBits_1, qe_get, qF_0_18, qe_gf, qe_fg, List.getElem?_cons_zero, List.getElem?_cons_succ, dX0_spacingBits_4, qe_bipush, Int.reduceLE, Int.reduceLT, Int.reduceNeg, dX0_spacingBits_6, qe_iadd, dX0_spacingBits_7, qe_istore_2, q_st1, q_st2, q_clr, Value.category, Nat.reduceEqDiff, reduceIte, dX0_spacingBits_8, dX0_spacingBits_9, qF_0_15, dX0_spacingBits_12, dX0_spacingBits_14, dX0_spacingBits_15, qe_istore_3, dX0_spacingBits_16, qe_iload_3, qe_il, dX0_spacingBits_17, qe_iload_2, dX0_spacingBits_18, qe_icmp_ge, q_br, q_tg, Int.reduceNatCast', Int.reduceAdd, Int.reduceToNat, dX0_spacingBits_21, qe_iload_1, dX0_spacingBits_22, dX0_spacingBits_23, qe_ishr, dX0_spacingBits_24, qe_iconst, dX0_spacingBits_25, dX0_spacingBits_26, qF_0_9, dX0_spacingBits_29, qe_ishl, dX0_spacingBits_30, qe_icmp_lt, dX0_spacingBits_33, qe_iinc, qe_ii, dX0_spacingBits_36, qe_goto, dX0_spacingBits_39, dX0_spacingBits_40, qe_iret, qe_nar_i, qe_nar_0, qe_nar_1, hw]
      simp (disch := omega) only [iI_le, iI_lt, iI_shl, iI_shr, iI_add, Int.toNat_natCast, Int.one_mul]
      refine ⟨fun q => absurd q (by omega), fun _ => ⟨fun q => ?_, fun q => ?_⟩⟩
      · have e : fsp p (n + 1) b v = b := by show (if _ then _ else _) = _; rw [if_neg (by omega)]
        rw [← he, e] at h
        exact h
      · have e : fsp p (n + 1) b v = fsp p n (b + 1) v := by show (if _ then _ else _) = _; rw [if_pos (by omega)]
        exact ih (b + 1) (by omega) (by omega) (by rw [← e]; exact he)
  refine hG (fun pc => pc == 16) 20 _ _ _ _ _ _ ?_
  simp only [qe_x, qe_v, q_get, Bool.cond_false, Bool.cond_true, Nat.reduceAdd, Nat.reduceBEq, Nat.reduceLT, Nat.reduceLeDiff, Nat.add_zero, Nat.zero_add, Nat.le_refl, true_and, and_true, List.length_cons, List.length_nil, Option.some.injEq, exists_eq_left', exists_eq_left, exists_eq', reduceCtorEq, dX0_spacingBits_0, qe_aload_0, qe_al, dX0_spacingBits_1, qe_get, qF_0_18, qe_gf, qe_fg, List.getElem?_cons_zero, List.getElem?_cons_succ, dX0_spacingBits_4, qe_bipush, Int.reduceLE, Int.reduceLT, Int.reduceNeg, dX0_spacingBits_6, qe_iadd, dX0_spacingBits_7, qe_istore_2, q_st1, q_st2, q_clr, Value.category, Nat.reduceEqDiff, reduceIte, dX0_spacingBits_8, dX0_spacingBits_9, qF_0_15, dX0_spacingBits_12, dX0_spacingBits_14, dX0_spacingBits_15, qe_istore_3, dX0_spacingBits_16, qe_iload_3, qe_il, dX0_spacingBits_17, qe_iload_2, dX0_spacingBits_18, qe_icmp_ge, q_br, q_tg, Int.reduceNatCast', Int.reduceAdd, Int.reduceToNat, dX0_spacingBits_21, qe_iload_1, dX0_spacingBits_22, dX0_spacingBits_23, qe_ishr, dX0_spacingBits_24, qe_iconst, dX0_spacingBits_25, dX0_spacingBits_26, qF_0_9, dX0_spacingBits_29, qe_ishl, dX0_spacingBits_30, qe_icmp_lt, dX0_spacingBits_33, qe_iinc, qe_ii, dX0_spacingBits_36, qe_goto, dX0_spacingBits_39, dX0_spacingBits_40, qe_iret, qe_nar_i, qe_nar_0, qe_nar_1, hw]
  simp only [iI_add, Int.sub_add_cancel]
  exact loop (hi - lo) lo (by omega) (Nat.le_refl _) rfl
