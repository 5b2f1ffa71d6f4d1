/-! ===== Model: neighbors ===== -/
theorem div_uq {a b q r : Int} (hb : 0 < b) (e : r + q * b = a) (h1 : 0 ≤ r) (h2 : r < b) : a / b = q := ((Int.ediv_emod_unique (a := a) (b := b) (r := r) (q := q) hb).mpr ⟨by rw [Int.mul_comm]; exact e, h1, h2⟩).1
theorem neg_div {v b : Int} (hb : 0 < b) : -(-v / b * b) = if v / b * b = v then v else v / b * b + b := by
  have e := Int.emod_add_mul_ediv v b
  have m0 := Int.emod_nonneg v (show b ≠ 0 by omega)
  have m1 := Int.emod_lt_of_pos v hb
  rw [Int.mul_comm b] at e
  by_cases q : v / b * b = v
  · rw [if_pos q]
    have : -v / b = -(v / b) := div_uq (r := 0) hb (by rw [Int.neg_mul]; omega) (by omega) hb
    rw [this, Int.neg_mul]; omega
  · rw [if_neg q]
    have : -v / b = -(v / b) - 1 := div_uq (r := b - v % b) hb (by rw [Int.sub_mul, Int.neg_mul]; omega) (by omega) (by omega)
    rw [this, Int.sub_mul, Int.neg_mul]; omega
section
variable {w : QWd} {sz : Nat} {post : QPo}
theorem m_lift {p lo hi : Nat} {v : Int} (hF : Fok p lo hi) (hv : 0 ≤ v ∧ v < 4611686018427387904) (h : post (some (.long (lI (-ffl p lo hi (-v))))) w) : T_X8_lift [.int (iI p), .int (iI ((lo : Int) - 10)), .int (iI ((hi : Int) - 10)), .long (lI v)] w sz post := by
  refine Ti_X8_lift (fun G hG => hG (fun _ => false) 30 _ _ _ _ _ _ ?_)
  have hb := fbits_rng hF v
  obtain ⟨f1, f2, f3, f4⟩ := id hF
  have p0 := pw_pos (fbits p lo hi v)
  have e1 : ffl p lo hi v = v / 2 ^ fbits p lo hi v * 2 ^ fbits p lo hi v := by unfold ffl; rw [show iabs v = v from if_pos hv.1]
  have e2 : -ffl p lo hi (-v) = if ffl p lo hi v = v then v else ffl p lo hi v + 2 ^ fbits p lo hi v := by
    rw [e1, ← neg_div p0]
    unfold ffl
    rw [show iabs (-v) = v by unfold iabs; split <;> omega]
  have r1 : ffl p lo hi v ≤ v := by rw [e1]; exact Int.ediv_mul_le _ (by omega)
  have r2 : 0 ≤ ffl p lo hi v := by rw [e1]; exact Int.mul_nonneg (Int.ediv_nonneg hv.1 (by omega)) (by omega)
  simp only [qe_x, qe_v, q_get, Bool.cond_false, Bool.cond_true, Nat.reduceAdd, Nat.reduceBEq, Nat.reduceLT, Nat.reduceLeDiff, Nat.add_zero, Nat.zero_add, Nat.le_refl, true_and, and_true, List.length_cons, List.length_nil, Option.some.injEq, exists_eq_left', exists_eq_left, exists_eq', reduceCtorEq, dX8_lift_0, qe_iload_0, qe_il, dX8_lift_1, qe_iload_1, dX8_lift_2, qe_iload_2, dX8_lift_3, qe_lload_3, qe_ll, dX8_lift_4, qe_invs, ms_X8_lift_61, qe_c0, qe_c1, qe_c2, qe_c3, qe_c8, qe_c9, qe_cs, qe_cv, qe_tk, qe_tk0, qe_cat0, qe_cati, qe_catl, qe_catr, qe_catn, qe_ob, qe_cpy, qe_tl, qe_tl0, dX8_lift_7, qe_lstore, q_st1, q_st2, q_clr, Value.category, Nat.reduceEqDiff, reduceIte, dX8_lift_9, qe_lload, dX8_lift_11, dX8_lift_12, qe_lcmp, iI_cmp_lt, iI_cmp_le, iI_cmp_ge, iI_cmp_gt, iI_cmp_eq, dX8_lift_13, qe_if_ne, q_br, q_tg, Int.reduceNatCast', Int.reduceAdd, Int.reduceToNat, Int.reduceLE, Int.reduceNeg, dX8_lift_16, dX8_lift_17, qe_goto, dX8_lift_20, dX8_lift_22, qe_lconst1, dX8_lift_23, dX8_lift_24, dX8_lift_25, dX8_lift_26, dX8_lift_27, ms_X8_lift_57, dX8_lift_30, qe_bipush, Int.reduceLT, dX8_lift_32, qe_iadd, dX8_lift_33, qe_lshl, dX8_lift_34, qe_ladd, dX8_lift_35, qe_lret]
  refine m_cut hF ⟨hv.1, by omega⟩ ?_
  simp only [qe_x, qe_v, q_get, Bool.cond_false, Bool.cond_true, Nat.reduceAdd, Nat.reduceBEq, Nat.reduceLT, Nat.reduceLeDiff, Nat.add_zero, Nat.zero_add, Nat.le_refl, true_and, and_true, List.length_cons, List.length_nil, Option.some.injEq, exists_eq_left', exists_eq_left, exists_eq', reduceCtorEq, dX8_lift_0, qe_iload_0, qe_il, dX8_lift_1, qe_iload_1, dX8_lift_2, qe_iload_2, dX8_lift_3, qe_lload_3, qe_ll, dX8_lift_4, qe_invs, ms_X8_lift_61, qe_c0, qe_c1, qe_c2, qe_c3, qe_c8, qe_c9, qe_cs, qe_cv, qe_tk, qe_tk0, qe_cat0, qe_cati, qe_catl, qe_catr, qe_catn, qe_ob, qe_cpy, qe_tl, qe_tl0, dX8_lift_7, qe_lstore, q_st1, q_st2, q_clr, Value.category, Nat.reduceEqDiff, reduceIte, dX8_lift_9, qe_lload, dX8_lift_11, dX8_lift_12, qe_lcmp, iI_cmp_lt, iI_cmp_le, iI_cmp_ge, iI_cmp_gt, iI_cmp_eq, dX8_lift_13, qe_if_ne, q_br, q_tg, Int.reduceNatCast', Int.reduceAdd, Int.reduceToNat, Int.reduceLE, Int.reduceNeg, dX8_lift_16, dX8_lift_17, qe_goto, dX8_lift_20, dX8_lift_22, qe_lconst1, dX8_lift_23, dX8_lift_24, dX8_lift_25, dX8_lift_26, dX8_lift_27, ms_X8_lift_57, dX8_lift_30, qe_bipush, Int.reduceLT, dX8_lift_32, qe_iadd, dX8_lift_33, qe_lshl, dX8_lift_34, qe_ladd, dX8_lift_35, qe_lret]
  simp (disch := omega) only [lI_eq]
  rw [e2] at h
  refine ⟨fun q => ?_, fun q => ?_⟩
  · rw [if_neg q] at h
    refine m_exponent hF ⟨hv.1, by omega⟩ ?_
    simp only [qe_x, qe_v, q_get, Bool.cond_false, Bool.cond_true, Nat.reduceAdd, Nat.reduceBEq, Nat.reduceLT, Nat.reduceLeDiff, Nat.add_zero, Nat.zero_add, Nat.le_refl, true_and, and_true, List.length_cons, List.length_nil, Option.some.injEq, exists_eq_left', exists_eq_left, exists_eq', reduceCtorEq, dX8_lift_0, qe_iload_0, qe_il, dX8_lift_1, qe_iload_1, dX8_lift_2, qe_iload_2, dX8_lift_3, qe_lload_3, qe_ll, dX8_lift_4, qe_invs, ms_X8_lift_61, qe_c0, qe_c1, qe_c2, qe_c3, qe_c8, qe_c9, qe_cs, qe_cv, qe_tk, qe_tk0, qe_cat0, qe_cati, qe_catl, qe_catr, qe_catn, qe_ob, qe_cpy, qe_tl, qe_tl0, dX8_lift_7, qe_lstore, q_st1, q_st2, q_clr, Value.category, Nat.reduceEqDiff, reduceIte, dX8_lift_9, qe_lload, dX8_lift_11, dX8_lift_12, qe_lcmp, iI_cmp_lt, iI_cmp_le, iI_cmp_ge, iI_cmp_gt, iI_cmp_eq, dX8_lift_13, qe_if_ne, q_br, q_tg, Int.reduceNatCast', Int.reduceAdd, Int.reduceToNat, Int.reduceLE, Int.reduceNeg, dX8_lift_16, dX8_lift_17, qe_goto, dX8_lift_20, dX8_lift_22, qe_lconst1, dX8_lift_23, dX8_lift_24, dX8_lift_25, dX8_lift_26, dX8_lift_27, ms_X8_lift_57, dX8_lift_30, qe_bipush, Int.reduceLT, dX8_lift_32, qe_iadd, dX8_lift_33, qe_lshl, dX8_lift_34, qe_ladd, dX8_lift_35, qe_lret, iI_add]
    rw [show (fbits p lo hi v : Int) - 10 + 10 = (fbits p lo hi v : Nat) by omega]
    simp (disch := omega) only [lI_shl, lI_add, Int.toNat_natCast, Int.one_mul]
    exact h
  · rw [if_pos (Decidable.not_not.mp q)] at h
    exact h
theorem m_under {p lo hi : Nat} {v : Int} (hF : Fok p lo hi) (hv : -4611686018427387904 < v ∧ v < 4611686018427387904) (h : post (some (.long (lI (ffl p lo hi v)))) w) : T_X8_under [.int (iI p), .int (iI ((lo : Int) - 10)), .int (iI ((hi : Int) - 10)), .long (lI v)] w sz post := by
  refine Ti_X8_under (fun G hG => hG (fun _ => false) 30 _ _ _ _ _ _ ?_)
  simp only [qe_x, qe_v, q_get, Bool.cond_false, Bool.cond_true, Nat.reduceAdd, Nat.reduceBEq, Nat.reduceLT, Nat.reduceLeDiff, Nat.add_zero, Nat.zero_add, Nat.le_refl, true_and, and_true, List.length_cons, List.length_nil, Option.some.injEq, exists_eq_left', exists_eq_left, exists_eq', reduceCtorEq, dX8_under_0, qe_lload_3, qe_ll, dX8_under_1, qe_lconst0, dX8_under_2, qe_lcmp, iI_cmp_lt, iI_cmp_le, iI_cmp_ge, iI_cmp_gt, iI_cmp_eq, dX8_under_3, qe_if_lt, q_br, q_tg, Int.reduceNatCast', Int.reduceAdd, Int.reduceToNat, Int.reduceLE, Int.reduceNeg, dX8_under_6, qe_iload_0, qe_il, dX8_under_7, qe_iload_1, dX8_under_8, qe_iload_2, dX8_under_9, dX8_under_10, qe_invs, ms_X8_under_61, qe_c0, qe_c1, qe_c2, qe_c3, qe_c8, qe_c9, qe_cs, qe_cv, qe_tk, qe_tk0, qe_cat0, qe_cati, qe_catl, qe_catr, qe_catn, qe_ob, qe_cpy, qe_tl, qe_tl0, dX8_under_13, qe_goto, dX8_under_16, dX8_under_17, dX8_under_18, dX8_under_19, dX8_under_20, qe_lneg, dX8_under_21, ms_X8_under_65, dX8_under_24, dX8_under_25, qe_lret, lI_neg]
  simp (disch := omega) only [lI_lt]
  refine ⟨fun q => m_lift hF ⟨by omega, by omega⟩ ?_, fun q => m_cut hF ⟨by omega, by omega⟩ ?_⟩
  · simp only [qe_x, qe_v, q_get, Bool.cond_false, Bool.cond_true, Nat.reduceAdd, Nat.reduceBEq, Nat.reduceLT, Nat.reduceLeDiff, Nat.add_zero, Nat.zero_add, Nat.le_refl, true_and, and_true, List.length_cons, List.length_nil, Option.some.injEq, exists_eq_left', exists_eq_left, exists_eq', reduceCtorEq, dX8_under_0, qe_lload_3, qe_ll, dX8_under_1, qe_lconst0, dX8_under_2, qe_lcmp, iI_cmp_lt, iI_cmp_le, iI_cmp_ge, iI_cmp_gt, iI_cmp_eq, dX8_under_3, qe_if_lt, q_br, q_tg, Int.reduceNatCast', Int.reduceAdd, Int.reduceToNat, Int.reduceLE, Int.reduceNeg, dX8_under_6, qe_iload_0, qe_il, dX8_under_7, qe_iload_1, dX8_under_8, qe_iload_2, dX8_under_9, dX8_under_10, qe_invs, ms_X8_under_61, qe_c0, qe_c1, qe_c2, qe_c3, qe_c8, qe_c9, qe_cs, qe_cv, qe_tk, qe_tk0, qe_cat0, qe_cati, qe_catl, qe_catr, qe_catn, qe_ob, qe_cpy, qe_tl, qe_tl0, dX8_under_13, qe_goto, dX8_under_16, dX8_under_17, dX8_under_18, dX8_under_19, dX8_under_20, qe_lneg, dX8_under_21, ms_X8_under_65, dX8_under_24, dX8_under_25, qe_lret, lI_neg]
    rw [Int.neg_neg, Int.neg_neg]
    exact h
  · simp only [qe_x, qe_v, q_get, Bool.cond_false, Bool.cond_true, Nat.reduceAdd, Nat.reduceBEq, Nat.reduceLT, Nat.reduceLeDiff, Nat.add_zero, Nat.zero_add, Nat.le_refl, true_and, and_true, List.length_cons, List.length_nil, Option.some.injEq, exists_eq_left', exists_eq_left, exists_eq', reduceCtorEq, dX8_under_0, qe_lload_3, qe_ll, dX8_under_1, qe_lconst0, dX8_under_2, qe_lcmp, iI_cmp_lt, iI_cmp_le, iI_cmp_ge, iI_cmp_gt, iI_cmp_eq, dX8_under_3, qe_if_lt, q_br, q_tg, Int.reduceNatCast', Int.reduceAdd, Int.reduceToNat, Int.reduceLE, Int.reduceNeg, dX8_under_6, qe_iload_0, qe_il, dX8_under_7, qe_iload_1, dX8_under_8, qe_iload_2, dX8_under_9, dX8_under_10, qe_invs, ms_X8_under_61, qe_c0, qe_c1, qe_c2, qe_c3, qe_c8, qe_c9, qe_cs, qe_cv, qe_tk, qe_tk0, qe_cat0, qe_cati, qe_catl, qe_catr, qe_catn, qe_ob, qe_cpy, qe_tl, qe_tl0, dX8_under_13, qe_goto, dX8_under_16, dX8_under_17, dX8_under_18, dX8_under_19, dX8_under_20, qe_lneg, dX8_under_21, ms_X8_under_65, dX8_under_24, dX8_under_25, qe_lret]
    exact h
theorem m_over {p lo hi : Nat} {v : Int} (hF : Fok p lo hi) (hv : -4611686018427387904 < v ∧ v < 4611686018427387904) (h : post (some (.long (lI (-ffl p lo hi (-v))))) w) : T_X8_over [.int (iI p), .int (iI ((lo : Int) - 10)), .int (iI ((hi : Int) - 10)), .long (lI v)] w sz post := by
  refine Ti_X8_over (fun G hG => hG (fun _ => false) 30 _ _ _ _ _ _ ?_)
  simp only [qe_x, qe_v, q_get, Bool.cond_false, Bool.cond_true, Nat.reduceAdd, Nat.reduceBEq, Nat.reduceLT, Nat.reduceLeDiff, Nat.add_zero, Nat.zero_add, Nat.le_refl, true_and, and_true, List.length_cons, List.length_nil, Option.some.injEq, exists_eq_left', exists_eq_left, exists_eq', reduceCtorEq, dX8_over_0, qe_iload_0, qe_il, dX8_over_1, qe_iload_1, dX8_over_2, qe_iload_2, dX8_over_3, qe_lload_3, qe_ll, dX8_over_4, qe_lneg, dX8_over_5, qe_invs, ms_X8_over_68, qe_c0, qe_c1, qe_c2, qe_c3, qe_c8, qe_c9, qe_cs, qe_cv, qe_tk, qe_tk0, qe_cat0, qe_cati, qe_catl, qe_catr, qe_catn, qe_ob, qe_cpy, qe_tl, qe_tl0, dX8_over_8, dX8_over_9, qe_lret, lI_neg]
  refine m_under hF ⟨by omega, by omega⟩ ?_
  simp only [qe_x, qe_v, q_get, Bool.cond_false, Bool.cond_true, Nat.reduceAdd, Nat.reduceBEq, Nat.reduceLT, Nat.reduceLeDiff, Nat.add_zero, Nat.zero_add, Nat.le_refl, true_and, and_true, List.length_cons, List.length_nil, Option.some.injEq, exists_eq_left', exists_eq_left, exists_eq', reduceCtorEq, dX8_over_0, qe_iload_0, qe_il, dX8_over_1, qe_iload_1, dX8_over_2, qe_iload_2, dX8_over_3, qe_lload_3, qe_ll, dX8_over_4, qe_lneg, dX8_over_5, qe_invs, ms_X8_over_68, qe_c0, qe_c1, qe_c2, qe_c3, qe_c8, qe_c9, qe_cs, qe_cv, qe_tk, qe_tk0, qe_cat0, qe_cati, qe_catl, qe_catr, qe_catn, qe_ob, qe_cpy, qe_tl, qe_tl0, dX8_over_8, dX8_over_9, qe_lret, lI_neg]
  exact h
theorem rem_toLz {a b : Int} (h1 : -9223372036854775808 < a) (h2 : a < 9223372036854775808) (h3 : 0 < b) (h4 : b < 9223372036854775808) : lI a - lI a / lI b * lI b = lI (a.tmod b) := by
  rw [lI_div h1 h2 (by omega) h4, lI_mul, lI_sub]
  congr 1
  have := Int.tmod_add_mul_tdiv a b
  rw [Int.mul_comm] at this
  omega
theorem m_floor {a b : Int} (ha : -9223372036854775807 < a ∧ a < 9223372036854775807) (hb : 0 < b ∧ b < 9223372036854775808) (h : post (some (.long (lI (a / b)))) w) : T_X8_floor [.long (lI a), .long (lI b)] w sz post := by
  refine Ti_X8_floor (fun G hG => hG (fun _ => false) 30 _ _ _ _ _ _ ?_)
  have e1 := Int.tmod_add_mul_tdiv a b
  have e2 := Int.emod_add_mul_ediv a b
  have m0 := Int.emod_nonneg a (show b ≠ 0 by omega)
  have m1 := Int.emod_lt_of_pos a hb.1
  have t1 : (a.tmod b).natAbs < b.natAbs := by rw [Int.natAbs_tmod]; exact Nat.mod_lt _ (by omega)
  simp only [qe_x, qe_v, q_get, Bool.cond_false, Bool.cond_true, Nat.reduceAdd, Nat.reduceBEq, Nat.reduceLT, Nat.reduceLeDiff, Nat.add_zero, Nat.zero_add, Nat.le_refl, true_and, and_true, List.length_cons, List.length_nil, Option.some.injEq, exists_eq_left', exists_eq_left, exists_eq', reduceCtorEq, dX8_floor_0, qe_lload_0, qe_ll, dX8_floor_1, qe_lload_2, dX8_floor_2, qe_ldiv, dX8_floor_3, qe_lstore, q_st1, q_st2, q_clr, Value.category, Nat.reduceEqDiff, reduceIte, dX8_floor_5, dX8_floor_6, dX8_floor_7, qe_lrem, dX8_floor_8, qe_lconst0, dX8_floor_9, qe_lcmp, iI_cmp_lt, iI_cmp_le, iI_cmp_ge, iI_cmp_gt, iI_cmp_eq, dX8_floor_10, qe_if_ge, q_br, q_tg, Int.reduceNatCast', Int.reduceAdd, Int.reduceToNat, Int.reduceLE, Int.reduceNeg, dX8_floor_13, qe_lload, dX8_floor_15, qe_lconst1, dX8_floor_16, qe_lsub, dX8_floor_17, qe_goto, dX8_floor_20, dX8_floor_22, qe_lret]
  rw [rem_toLz (by omega) (by omega) (by omega) (by omega), lI_div (by omega) (by omega) (by omega) (by omega)]
  simp (disch := omega) only [lI_le, lI_lt, lI_eq, lI_sub]
  have key : a / b = if a.tmod b < 0 then a.tdiv b - 1 else a.tdiv b := by
    rw [Int.mul_comm] at e1
    split
    · exact div_uq (r := a.tmod b + b) hb.1 (by rw [Int.sub_mul]; omega) (by omega) (by omega)
    · exact div_uq (r := a.tmod b) hb.1 e1 (by omega) (by omega)
  rw [key] at h
  refine ⟨by omega, by omega, fun q => ?_, fun q => ?_⟩
  · rw [if_neg (by omega)] at h; exact h
  · rw [if_pos (by omega)] at h; exact h
theorem m_drawn {num seed : Int32} {bits : Int32} (h : post (some (.long (drw num seed bits).toInt64)) w) : T_X8_drawn [.int seed, .int num, .int bits] w sz post := by
  refine Ti_X8_drawn (fun G hG => hG (fun _ => false) 60 _ _ _ _ _ _ ?_)
  simp only [qe_x, qe_v, q_get, Bool.cond_false, Bool.cond_true, Nat.reduceAdd, Nat.reduceBEq, Nat.reduceLT, Nat.reduceLeDiff, Nat.add_zero, Nat.zero_add, Nat.le_refl, true_and, and_true, List.length_cons, List.length_nil, Option.some.injEq, exists_eq_left', exists_eq_left, exists_eq', reduceCtorEq, dX8_drawn_0, qe_iload_0, qe_il, dX8_drawn_1, qe_iload_1, dX8_drawn_2, qe_ldc, qe_pk, qCi_8_98, dX8_drawn_4, qe_imul, dX8_drawn_5, qe_iadd, dX8_drawn_6, qe_istore_3, q_st1, q_st2, q_clr, Value.category, Nat.reduceEqDiff, reduceIte, dX8_drawn_7, qe_iload_3, dX8_drawn_8, dX8_drawn_9, qe_bipush, Int.reduceLE, Int.reduceLT, Int.reduceNeg, dX8_drawn_11, qe_iushr, dX8_drawn_12, qe_ixor, dX8_drawn_13, qCi_8_99, dX8_drawn_15, dX8_drawn_16, dX8_drawn_17, dX8_drawn_18, dX8_drawn_19, dX8_drawn_21, dX8_drawn_22, dX8_drawn_23, dX8_drawn_25, dX8_drawn_26, dX8_drawn_27, dX8_drawn_28, dX8_drawn_29, dX8_drawn_31, dX8_drawn_32, dX8_drawn_33, qe_iconst, dX8_drawn_34, qe_iload_2, dX8_drawn_35, qe_ishl, dX8_drawn_36, dX8_drawn_37, qe_isub, dX8_drawn_38, qe_iand, dX8_drawn_39, qe_i2l, dX8_drawn_40, qe_lret]
  exact h
end
