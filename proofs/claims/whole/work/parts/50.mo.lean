/-! ===== Model: numbers ===== -/
section
variable {w : QWd} {sz : Nat} {post : QPo}
theorem m_in {z a b : Int} (hz : i32 z) (ha : i32 a) (hb : i32 b) (h : post (some (.int (iI (bI (decide (a ≤ z ∧ z ≤ b)))))) w) : T_X8_in [.int (iI z), .int (iI a), .int (iI b)] w sz post := by
  refine Ti_X8_in (fun G hG => hG (fun _ => false) 30 _ _ _ _ _ _ ?_)
  simp only [qe_x, qe_v, q_get, Bool.cond_false, Bool.cond_true, Nat.reduceAdd, Nat.reduceBEq, Nat.reduceLT, Nat.reduceLeDiff, Nat.add_zero, Nat.zero_add, Nat.le_refl, true_and, and_true, List.length_cons, List.length_nil, Option.some.injEq, exists_eq_left', exists_eq_left, exists_eq', reduceCtorEq, dX8_in_0, qe_iload_0, qe_il, dX8_in_1, qe_iload_1, dX8_in_2, qe_icmp_lt, q_br, q_tg, Int.reduceNatCast', Int.reduceAdd, Int.reduceToNat, Int.reduceLE, Int.reduceNeg, dX8_in_5, dX8_in_6, qe_iload_2, dX8_in_7, qe_icmp_gt, dX8_in_10, qe_iconst, dX8_in_11, qe_goto, dX8_in_14, dX8_in_15, qe_iret, qe_nar_i, qe_nar_0, qe_nar_1]
  simp (disch := omega) only [iI_lt, iI_le]
  repeat' (first | refine And.intro ?_ ?_ | intro _)
  all_goals first
    | (rw [decide_eq_true (by omega)] at h; exact h)
    | (rw [decide_eq_false (by omega)] at h; exact h)
theorem m_isRegister {z : Int} (hz : i32 z) (h : post (some (.int (iI (bI (decide (0 ≤ z ∧ z < 8)))))) w) : T_X8_isRegister [.int (iI z)] w sz post := by
  refine Ti_X8_isRegister (fun G hG => hG (fun _ => false) 30 _ _ _ _ _ _ ?_)
  simp only [qe_x, qe_v, q_get, Bool.cond_false, Bool.cond_true, Nat.reduceAdd, Nat.reduceBEq, Nat.reduceLT, Nat.reduceLeDiff, Nat.add_zero, Nat.zero_add, Nat.le_refl, true_and, and_true, List.length_cons, List.length_nil, Option.some.injEq, exists_eq_left', exists_eq_left, exists_eq', reduceCtorEq, dX8_isRegister_0, qe_iload_0, qe_il, dX8_isRegister_1, qe_iconst, dX8_isRegister_2, qe_bipush, Int.reduceLE, Int.reduceLT, Int.reduceNeg, dX8_isRegister_4, qe_invs, ms_X8_isRegister_53, qe_c0, qe_c1, qe_c2, qe_c3, qe_c8, qe_c9, qe_cs, qe_cv, qe_tk, qe_tk0, qe_cat0, qe_cati, qe_catl, qe_catr, qe_catn, qe_ob, qe_cpy, qe_tl, qe_tl0, dX8_isRegister_7, qe_iret, qe_nar_i, qe_nar_0, qe_nar_1]
  refine m_in hz ⟨by omega, by omega⟩ ⟨by omega, by omega⟩ ?_
  simp only [qe_x, qe_v, q_get, Bool.cond_false, Bool.cond_true, Nat.reduceAdd, Nat.reduceBEq, Nat.reduceLT, Nat.reduceLeDiff, Nat.add_zero, Nat.zero_add, Nat.le_refl, true_and, and_true, List.length_cons, List.length_nil, Option.some.injEq, exists_eq_left', exists_eq_left, exists_eq', reduceCtorEq, dX8_isRegister_0, qe_iload_0, qe_il, dX8_isRegister_1, qe_iconst, dX8_isRegister_2, qe_bipush, Int.reduceLE, Int.reduceLT, Int.reduceNeg, dX8_isRegister_4, qe_invs, ms_X8_isRegister_53, qe_c0, qe_c1, qe_c2, qe_c3, qe_c8, qe_c9, qe_cs, qe_cv, qe_tk, qe_tk0, qe_cat0, qe_cati, qe_catl, qe_catr, qe_catn, qe_ob, qe_cpy, qe_tl, qe_tl0, dX8_isRegister_7, qe_iret, qe_nar_i, qe_nar_0, qe_nar_1, bI_nar, true_and]
  rw [show decide (0 ≤ z ∧ z ≤ 7) = decide (0 ≤ z ∧ z < 8) from decide_eq_decide.mpr (by omega)]
  exact h
theorem m_isFormat {z : Int} (hz : i32 z) (h : post (some (.int (iI (bI (decide (0 ≤ z ∧ z < 4)))))) w) : T_X8_isFormat [.int (iI z)] w sz post := by
  refine Ti_X8_isFormat (fun G hG => hG (fun _ => false) 30 _ _ _ _ _ _ ?_)
  simp only [qe_x, qe_v, q_get, Bool.cond_false, Bool.cond_true, Nat.reduceAdd, Nat.reduceBEq, Nat.reduceLT, Nat.reduceLeDiff, Nat.add_zero, Nat.zero_add, Nat.le_refl, true_and, and_true, List.length_cons, List.length_nil, Option.some.injEq, exists_eq_left', exists_eq_left, exists_eq', reduceCtorEq, dX8_isFormat_0, qe_iload_0, qe_il, dX8_isFormat_1, qe_iconst, dX8_isFormat_2, dX8_isFormat_3, qe_invs, ms_X8_isFormat_53, qe_c0, qe_c1, qe_c2, qe_c3, qe_c8, qe_c9, qe_cs, qe_cv, qe_tk, qe_tk0, qe_cat0, qe_cati, qe_catl, qe_catr, qe_catn, qe_ob, qe_cpy, qe_tl, qe_tl0, dX8_isFormat_6, qe_iret, qe_nar_i, qe_nar_0, qe_nar_1]
  refine m_in hz ⟨by omega, by omega⟩ ⟨by omega, by omega⟩ ?_
  simp only [qe_x, qe_v, q_get, Bool.cond_false, Bool.cond_true, Nat.reduceAdd, Nat.reduceBEq, Nat.reduceLT, Nat.reduceLeDiff, Nat.add_zero, Nat.zero_add, Nat.le_refl, true_and, and_true, List.length_cons, List.length_nil, Option.some.injEq, exists_eq_left', exists_eq_left, exists_eq', reduceCtorEq, dX8_isFormat_0, qe_iload_0, qe_il, dX8_isFormat_1, qe_iconst, dX8_isFormat_2, dX8_isFormat_3, qe_invs, ms_X8_isFormat_53, qe_c0, qe_c1, qe_c2, qe_c3, qe_c8, qe_c9, qe_cs, qe_cv, qe_tk, qe_tk0, qe_cat0, qe_cati, qe_catl, qe_catr, qe_catn, qe_ob, qe_cpy, qe_tl, qe_tl0, dX8_isFormat_6, qe_iret, qe_nar_i, qe_nar_0, qe_nar_1, bI_nar, true_and]
  rw [show decide (0 ≤ z ∧ z ≤ 3) = decide (0 ≤ z ∧ z < 4) from decide_eq_decide.mpr (by omega)]
  exact h
theorem m_isNumber {z : Int} (hz : i32 z) (h : post (some (.int (iI (bI (decide (-1048575 ≤ z ∧ z ≤ 1048575)))))) w) : T_X8_isNumber [.int (iI z)] w sz post := by
  refine Ti_X8_isNumber (fun G hG => hG (fun _ => false) 30 _ _ _ _ _ _ ?_)
  simp only [qe_x, qe_v, q_get, Bool.cond_false, Bool.cond_true, Nat.reduceAdd, Nat.reduceBEq, Nat.reduceLT, Nat.reduceLeDiff, Nat.add_zero, Nat.zero_add, Nat.le_refl, true_and, and_true, List.length_cons, List.length_nil, Option.some.injEq, exists_eq_left', exists_eq_left, exists_eq', reduceCtorEq, dX8_isNumber_0, qe_iload_0, qe_il, dX8_isNumber_1, qe_ldc, qe_pk, qCi_8_119, dX8_isNumber_3, qCi_8_120, dX8_isNumber_5, qe_invs, ms_X8_isNumber_53, qe_c0, qe_c1, qe_c2, qe_c3, qe_c8, qe_c9, qe_cs, qe_cv, qe_tk, qe_tk0, qe_cat0, qe_cati, qe_catl, qe_catr, qe_catn, qe_ob, qe_cpy, qe_tl, qe_tl0, dX8_isNumber_8, qe_iret, qe_nar_i, qe_nar_0, qe_nar_1]
  refine m_in hz ⟨by omega, by omega⟩ ⟨by omega, by omega⟩ ?_
  simp only [qe_x, qe_v, q_get, Bool.cond_false, Bool.cond_true, Nat.reduceAdd, Nat.reduceBEq, Nat.reduceLT, Nat.reduceLeDiff, Nat.add_zero, Nat.zero_add, Nat.le_refl, true_and, and_true, List.length_cons, List.length_nil, Option.some.injEq, exists_eq_left', exists_eq_left, exists_eq', reduceCtorEq, dX8_isNumber_0, qe_iload_0, qe_il, dX8_isNumber_1, qe_ldc, qe_pk, qCi_8_119, dX8_isNumber_3, qCi_8_120, dX8_isNumber_5, qe_invs, ms_X8_isNumber_53, qe_c0, qe_c1, qe_c2, qe_c3, qe_c8, qe_c9, qe_cs, qe_cv, qe_tk, qe_tk0, qe_cat0, qe_cati, qe_catl, qe_catr, qe_catn, qe_ob, qe_cpy, qe_tl, qe_tl0, dX8_isNumber_8, qe_iret, qe_nar_i, qe_nar_0, qe_nar_1, bI_nar, true_and]
  exact h
theorem m_greatest {p lo hi : Nat} (hF : Fok p lo hi) (h : post (some (.long (lI (ftop p hi)))) w) : T_X8_greatest [.int (iI p), .int (iI ((hi : Int) - 10))] w sz post := by
  obtain ⟨f1, f2, f3, f4⟩ := hF
  refine Ti_X8_greatest (fun G hG => hG (fun _ => false) 30 _ _ _ _ _ _ ?_)
  simp only [qe_x, qe_v, q_get, Bool.cond_false, Bool.cond_true, Nat.reduceAdd, Nat.reduceBEq, Nat.reduceLT, Nat.reduceLeDiff, Nat.add_zero, Nat.zero_add, Nat.le_refl, true_and, and_true, List.length_cons, List.length_nil, Option.some.injEq, exists_eq_left', exists_eq_left, exists_eq', reduceCtorEq, dX8_greatest_0, qe_lconst1, dX8_greatest_1, qe_iload_0, qe_il, dX8_greatest_2, qe_lshl, dX8_greatest_3, dX8_greatest_4, qe_lsub, dX8_greatest_5, qe_iload_1, dX8_greatest_6, qe_bipush, Int.reduceLE, Int.reduceLT, Int.reduceNeg, dX8_greatest_8, qe_iadd, dX8_greatest_9, dX8_greatest_10, qe_lret, iI_add]
  rw [show (hi : Int) - 10 + 10 = hi by omega]
  simp (disch := omega) only [lI_shl, lI_sub, Int.toNat_natCast]
  rw [Int.one_mul]
  exact h
theorem m_exponent {p lo hi : Nat} {v : Int} (hF : Fok p lo hi) (hv : 0 ≤ v ∧ v < 9223372036854775808) (h : post (some (.int (iI ((fbits p lo hi v : Int) - 10)))) w) : T_X8_exponent [.int (iI p), .int (iI ((lo : Int) - 10)), .int (iI ((hi : Int) - 10)), .long (lI v)] w sz post := by
  obtain ⟨f1, f2, f3, f4⟩ := hF
  refine Ti_X8_exponent (fun G hG => ?_)
  have loop : ∀ (n b : Nat), b + n = hi → fsp p n b v = fbits p lo hi v → G 3 [some (.int (iI p)), some (.int (iI ((lo : Int) - 10))), some (.int (iI ((hi : Int) - 10))), some (.long (lI v)), none, some (.int (iI ((b : Int) - 10)))] [] w sz 0 := by
    intro n
    induction n with
    | zero =>
      intro b hb e
      refine hG (fun pc => pc == 3) 30 _ _ _ _ _ _ ?_
      simp only [qe_x, qe_v, q_get, Bool.cond_false, Bool.cond_true, Nat.reduceAdd, Nat.reduceBEq, Nat.reduceLT, Nat.reduceLeDiff, Nat.add_zero, Nat.zero_add, Nat.le_refl, true_and, and_true, List.length_cons, List.length_nil, Option.some.injEq, exists_eq_left', exists_eq_left, exists_eq', reduceCtorEq, dX8_exponent_0, qe_iload_1, qe_il, dX8_exponent_1, qe_istore, q_st1, q_st2, q_clr, Value.category, Nat.reduceEqDiff, reduceIte, dX8_exponent_3, qe_iload, dX8_exponent_5, qe_iload_2, dX8_exponent_6, qe_icmp_ge, q_br, q_tg, Int.reduceNatCast', Int.reduceAdd, Int.reduceToNat, Int.reduceLE, Int.reduceNeg, dX8_exponent_9, qe_lload_3, qe_ll, dX8_exponent_10, dX8_exponent_12, qe_bipush, Int.reduceLT, dX8_exponent_14, qe_iadd, dX8_exponent_15, qe_lshr, dX8_exponent_16, qe_lconst1, dX8_exponent_17, qe_iload_0, dX8_exponent_18, qe_lshl, dX8_exponent_19, qe_lcmp, iI_cmp_lt, iI_cmp_le, iI_cmp_ge, iI_cmp_gt, iI_cmp_eq, dX8_exponent_20, qe_if_lt, dX8_exponent_23, qe_iinc, qe_ii, dX8_exponent_26, qe_goto, dX8_exponent_29, dX8_exponent_31, qe_iret, qe_nar_i, qe_nar_0, qe_nar_1, iI_add]
      simp (disch := omega) only [iI_le]
      rw [← e] at h
      exact ⟨fun _ => h, fun q => absurd (show (hi : Int) - 10 ≤ b - 10 by omega) q⟩
    | succ n ih =>
      intro b hb e
      have p0 := pw_pos b
      have p1 := pw_pos p
      have p2 := pw_10 (p := p) (by omega)
      have d1 : v / 2 ^ b ≤ v := Int.ediv_le_self _ hv.1
      have d2 : 0 ≤ v / 2 ^ b := Int.ediv_nonneg hv.1 (by omega)
      refine hG (fun pc => pc == 3) 30 _ _ _ _ _ _ ?_
      simp only [qe_x, qe_v, q_get, Bool.cond_false, Bool.cond_true, Nat.reduceAdd, Nat.reduceBEq, Nat.reduceLT, Nat.reduceLeDiff, Nat.add_zero, Nat.zero_add, Nat.le_refl, true_and, and_true, List.length_cons, List.length_nil, Option.some.injEq, exists_eq_left', exists_eq_left, exists_eq', reduceCtorEq, dX8_exponent_0, qe_iload_1, qe_il, dX8_exponent_1, qe_istore, q_st1, q_st2, q_clr, Value.category, Nat.reduceEqDiff, reduceIte, dX8_exponent_3, qe_iload, dX8_exponent_5, qe_iload_2, dX8_exponent_6, qe_icmp_ge, q_br, q_tg, Int.reduceNatCast', Int.reduceAdd, Int.reduceToNat, Int.reduceLE, Int.reduceNeg, dX8_exponent_9, qe_lload_3, qe_ll, dX8_exponent_10, dX8_exponent_12, qe_bipush, Int.reduceLT, dX8_exponent_14, qe_iadd, dX8_exponent_15, qe_lshr, dX8_exponent_16, qe_lconst1, dX8_exponent_17, qe_iload_0, dX8_exponent_18, qe_lshl, dX8_exponent_19, qe_lcmp, iI_cmp_lt, iI_cmp_le, iI_cmp_ge, iI_cmp_gt, iI_cmp_eq, dX8_exponent_20, qe_if_lt, dX8_exponent_23, qe_iinc, qe_ii, dX8_exponent_26, qe_goto, dX8_exponent_29, dX8_exponent_31, qe_iret, qe_nar_i, qe_nar_0, qe_nar_1, iI_add]
      rw [show (b : Int) - 10 + 10 = b by omega]
      simp (disch := omega) only [iI_le, lI_shl, lI_shr, Int.toNat_natCast, Int.one_mul]
      simp (disch := omega) only [lI_lt, lI_le]
      change (if 2 ^ p ≤ v / 2 ^ b then fsp p n (b + 1) v else b) = fbits p lo hi v at e
      refine ⟨fun q => absurd q (by omega), fun _ => ⟨fun q => ?_, fun q => ?_⟩⟩
      · rw [if_neg (by omega)] at e
        rw [← e] at h
        exact h
      · rw [if_pos (by omega)] at e
        have := ih (b + 1) (by omega) e
        rw [show (b : Int) - 10 + 1 = ((b + 1 : Nat) : Int) - 10 by omega]
        exact this
  refine hG (fun pc => pc == 3) 30 _ _ _ _ _ _ ?_
  simp only [qe_x, qe_v, q_get, Bool.cond_false, Bool.cond_true, Nat.reduceAdd, Nat.reduceBEq, Nat.reduceLT, Nat.reduceLeDiff, Nat.add_zero, Nat.zero_add, Nat.le_refl, true_and, and_true, List.length_cons, List.length_nil, Option.some.injEq, exists_eq_left', exists_eq_left, exists_eq', reduceCtorEq, dX8_exponent_0, qe_iload_1, qe_il, dX8_exponent_1, qe_istore, q_st1, q_st2, q_clr, Value.category, Nat.reduceEqDiff, reduceIte, dX8_exponent_3, qe_iload, dX8_exponent_5, qe_iload_2, dX8_exponent_6, qe_icmp_ge, q_br, q_tg, Int.reduceNatCast', Int.reduceAdd, Int.reduceToNat, Int.reduceLE, Int.reduceNeg, dX8_exponent_9, qe_lload_3, qe_ll, dX8_exponent_10, dX8_exponent_12, qe_bipush, Int.reduceLT, dX8_exponent_14, qe_iadd, dX8_exponent_15, qe_lshr, dX8_exponent_16, qe_lconst1, dX8_exponent_17, qe_iload_0, dX8_exponent_18, qe_lshl, dX8_exponent_19, qe_lcmp, iI_cmp_lt, iI_cmp_le, iI_cmp_ge, iI_cmp_gt, iI_cmp_eq, dX8_exponent_20, qe_if_lt, dX8_exponent_23, qe_iinc, qe_ii, dX8_exponent_26, qe_goto, dX8_exponent_29, dX8_exponent_31, qe_iret, qe_nar_i, qe_nar_0, qe_nar_1]
  exact loop (hi - lo) lo (by omega) rfl
theorem m_cut {p lo hi : Nat} {v : Int} (hF : Fok p lo hi) (hv : 0 ≤ v ∧ v < 9223372036854775808) (h : post (some (.long (lI (ffl p lo hi v)))) w) : T_X8_cut [.int (iI p), .int (iI ((lo : Int) - 10)), .int (iI ((hi : Int) - 10)), .long (lI v)] w sz post := by
  refine Ti_X8_cut (fun G hG => hG (fun _ => false) 30 _ _ _ _ _ _ ?_)
  have hb := fbits_rng hF v
  obtain ⟨f1, f2, f3, f4⟩ := id hF
  simp only [qe_x, qe_v, q_get, Bool.cond_false, Bool.cond_true, Nat.reduceAdd, Nat.reduceBEq, Nat.reduceLT, Nat.reduceLeDiff, Nat.add_zero, Nat.zero_add, Nat.le_refl, true_and, and_true, List.length_cons, List.length_nil, Option.some.injEq, exists_eq_left', exists_eq_left, exists_eq', reduceCtorEq, dX8_cut_0, qe_iload_0, qe_il, dX8_cut_1, qe_iload_1, dX8_cut_2, qe_iload_2, dX8_cut_3, qe_lload_3, qe_ll, dX8_cut_4, qe_invs, ms_X8_cut_57, qe_c0, qe_c1, qe_c2, qe_c3, qe_c8, qe_c9, qe_cs, qe_cv, qe_tk, qe_tk0, qe_cat0, qe_cati, qe_catl, qe_catr, qe_catn, qe_ob, qe_cpy, qe_tl, qe_tl0, dX8_cut_7, qe_bipush, Int.reduceLE, Int.reduceLT, Int.reduceNeg, dX8_cut_9, qe_iadd, dX8_cut_10, qe_istore, q_st1, q_st2, q_clr, Value.category, Nat.reduceEqDiff, reduceIte, dX8_cut_12, dX8_cut_13, qe_iload, dX8_cut_15, qe_lshr, dX8_cut_16, dX8_cut_18, qe_lshl, dX8_cut_19, qe_lret]
  refine m_exponent hF hv ?_
  simp only [qe_x, qe_v, q_get, Bool.cond_false, Bool.cond_true, Nat.reduceAdd, Nat.reduceBEq, Nat.reduceLT, Nat.reduceLeDiff, Nat.add_zero, Nat.zero_add, Nat.le_refl, true_and, and_true, List.length_cons, List.length_nil, Option.some.injEq, exists_eq_left', exists_eq_left, exists_eq', reduceCtorEq, dX8_cut_0, qe_iload_0, qe_il, dX8_cut_1, qe_iload_1, dX8_cut_2, qe_iload_2, dX8_cut_3, qe_lload_3, qe_ll, dX8_cut_4, qe_invs, ms_X8_cut_57, qe_c0, qe_c1, qe_c2, qe_c3, qe_c8, qe_c9, qe_cs, qe_cv, qe_tk, qe_tk0, qe_cat0, qe_cati, qe_catl, qe_catr, qe_catn, qe_ob, qe_cpy, qe_tl, qe_tl0, dX8_cut_7, qe_bipush, Int.reduceLE, Int.reduceLT, Int.reduceNeg, dX8_cut_9, qe_iadd, dX8_cut_10, qe_istore, q_st1, q_st2, q_clr, Value.category, Nat.reduceEqDiff, reduceIte, dX8_cut_12, dX8_cut_13, qe_iload, dX8_cut_15, qe_lshr, dX8_cut_16, dX8_cut_18, qe_lshl, dX8_cut_19, qe_lret, iI_add]
  rw [show (fbits p lo hi v : Int) - 10 + 10 = (fbits p lo hi v : Nat) by omega]
  simp (disch := omega) only [lI_shr, lI_shl, Int.toNat_natCast]
  unfold ffl at h
  rw [show iabs v = v from if_pos hv.1] at h
  exact h
end
