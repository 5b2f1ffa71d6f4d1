/-! ===== StochasticBench: its state ===== -/
theorem t_rounded3 {x : Nat} {w : QWd} {sz : Nat} {post : QPo} {nu co mo dr ou ma bb : Int32} {n d lw up : Int} (hN : Nok n d) (hl : -1048576 ≤ lw ∧ lw ≤ 1048576) (hu : -1048576 ≤ up ∧ up ≤ 1048576)
    (hw : w x = some (cOp nu co mo bb dr (iI lw) (iI up) ou ma (lI n) (lI d))) (h : post (some (.int (iI (npk n d lw up 0 3 0)))) w) : T_X3_rounded [.ref x, .int (iI 3), .int (iI 0)] w sz post := by
  obtain ⟨n1, n2, d1, d2⟩ := hN
  have m1 := mul_bd (x := up - lw) (y := d) (A := 2097152) (B := 1048576) (by omega) (by omega) (by omega) (by omega)
  have m2 := mul_bd (x := lw) (y := d) (A := 1048576) (B := 1048576) (by omega) (by omega) (by omega) (by omega)
  refine Ti_X3_rounded (fun G hG => hG (fun _ => false) 80 _ _ _ _ _ _ ?_)
  simp only [qe_x, qe_v, q_get, Bool.cond_false, Bool.cond_true, Nat.reduceAdd, Nat.reduceBEq, Nat.reduceLT, Nat.reduceLeDiff, Nat.add_zero, Nat.zero_add, Nat.le_refl, true_and, and_true, List.length_cons, List.length_nil, Option.some.injEq, exists_eq_left', exists_eq_left, exists_eq', reduceCtorEq, dX3_rounded_0, qe_aload_0, qe_al, dX3_rounded_1, qe_get, qF_3_33, qe_gf, qe_fg, List.getElem?_cons_zero, List.getElem?_cons_succ, dX3_rounded_4, dX3_rounded_5, qF_3_36, dX3_rounded_8, qe_icmp_eq, q_br, q_tg, Int.reduceNatCast', Int.reduceAdd, Int.reduceToNat, Int.reduceLE, Int.reduceNeg, dX3_rounded_11, dX3_rounded_12, qe_iload_1, qe_il, dX3_rounded_13, qe_iload_2, dX3_rounded_14, qe_invv, ms_X3_rounded_80, qe_c0, qe_c1, qe_c2, qe_c3, qe_c8, qe_c9, qe_cs, qe_cv, qe_tk, qe_tk0, qe_cat0, qe_cati, qe_catl, qe_catr, qe_catn, qe_ob, qe_cpy, qe_tl, qe_tl0, dX3_rounded_17, qe_if_eq, dX3_rounded_20, dX3_rounded_21, dX3_rounded_24, qe_goto, dX3_rounded_27, dX3_rounded_28, dX3_rounded_31, qe_iret, qe_nar_i, qe_nar_0, qe_nar_1, hw, q_kl]
  simp (disch := omega) only [iI_eq]
  unfold npk at h
  refine ⟨fun c => ?_, fun c => ⟨⟨_, rfl⟩, ?_⟩⟩
  · rw [if_neg (fun q => q.1 c)] at h
    exact h
  refine Ti_X3_goesUp (fun G hG => hG (fun _ => false) 80 _ _ _ _ _ _ ?_)
  simp only [qe_x, qe_v, q_get, Bool.cond_false, Bool.cond_true, Nat.reduceAdd, Nat.reduceBEq, Nat.reduceLT, Nat.reduceLeDiff, Nat.add_zero, Nat.zero_add, Nat.le_refl, true_and, and_true, List.length_cons, List.length_nil, Option.some.injEq, exists_eq_left', exists_eq_left, exists_eq', reduceCtorEq, dX3_goesUp_0, qe_aload_0, qe_al, dX3_goesUp_1, dX3_goesUp_2, qe_get, qF_3_36, qe_gf, qe_fg, List.getElem?_cons_zero, List.getElem?_cons_succ, dX3_goesUp_5, dX3_goesUp_6, qF_3_33, dX3_goesUp_9, qe_isub, dX3_goesUp_10, qe_i2l, dX3_goesUp_11, qe_invv, ms_X3_goesUp_67, qe_c0, qe_c1, qe_c2, qe_c3, qe_c8, qe_c9, qe_cs, qe_cv, qe_tk, qe_tk0, qe_cat0, qe_cati, qe_catl, qe_catr, qe_catn, qe_ob, qe_cpy, qe_tl, qe_tl0, dX3_goesUp_14, qe_lstore_3, q_st1, q_st2, q_clr, Value.category, Nat.reduceEqDiff, reduceIte, dX3_goesUp_15, dX3_goesUp_16, qF_3_45, dX3_goesUp_19, dX3_goesUp_20, dX3_goesUp_21, dX3_goesUp_24, dX3_goesUp_25, dX3_goesUp_28, qe_lsub, dX3_goesUp_29, qe_lstore, dX3_goesUp_31, dX3_goesUp_32, dX3_goesUp_35, qe_if_gt, q_br, q_tg, Int.reduceNatCast', Int.reduceAdd, Int.reduceToNat, Int.reduceLE, Int.reduceNeg, dX3_goesUp_38, qe_iconst, dX3_goesUp_39, qe_goto, dX3_goesUp_42, dX3_goesUp_43, qe_istore, dX3_goesUp_45, qe_iload_1, qe_il, dX3_goesUp_46, qe_table, dX3_goesUp_76, dX3_goesUp_77, qe_iret, qe_nar_i, qe_nar_0, qe_nar_1, dX3_goesUp_78, dX3_goesUp_79, dX3_goesUp_80, qe_iload, dX3_goesUp_82, dX3_goesUp_83, qe_ldc2, qe_pk, qDi_3_84, dX3_goesUp_86, qe_lload, qe_ll, dX3_goesUp_88, qe_lmul, dX3_goesUp_89, qe_lload_3, dX3_goesUp_90, qe_lcmp, iI_cmp_lt, iI_cmp_le, iI_cmp_ge, iI_cmp_gt, iI_cmp_eq, dX3_goesUp_91, dX3_goesUp_94, dX3_goesUp_97, dX3_goesUp_99, dX3_goesUp_100, dX3_goesUp_101, dX3_goesUp_102, qe_if_ne, dX3_goesUp_105, dX3_goesUp_107, qe_if_eq, dX3_goesUp_110, dX3_goesUp_111, dX3_goesUp_114, dX3_goesUp_115, dX3_goesUp_116, qe_iload_2, dX3_goesUp_117, dX3_goesUp_118, dX3_goesUp_119, dX3_goesUp_120, dX3_goesUp_122, dX3_goesUp_123, qF_3_9, dX3_goesUp_126, qe_lshl, dX3_goesUp_127, dX3_goesUp_128, qe_if_ge, dX3_goesUp_131, dX3_goesUp_132, dX3_goesUp_135, dX3_goesUp_136, hw, q_kl]
  rw [iI_sub, iI_l (by omega) (by omega)]
  refine ⟨⟨_, rfl⟩, t_numOf hw ?_⟩
  simp only [qe_x, qe_v, q_get, Bool.cond_false, Bool.cond_true, Nat.reduceAdd, Nat.reduceBEq, Nat.reduceLT, Nat.reduceLeDiff, Nat.add_zero, Nat.zero_add, Nat.le_refl, true_and, and_true, List.length_cons, List.length_nil, Option.some.injEq, exists_eq_left', exists_eq_left, exists_eq', reduceCtorEq, dX3_goesUp_0, qe_aload_0, qe_al, dX3_goesUp_1, dX3_goesUp_2, qe_get, qF_3_36, qe_gf, qe_fg, List.getElem?_cons_zero, List.getElem?_cons_succ, dX3_goesUp_5, dX3_goesUp_6, qF_3_33, dX3_goesUp_9, qe_isub, dX3_goesUp_10, qe_i2l, dX3_goesUp_11, qe_invv, ms_X3_goesUp_67, qe_c0, qe_c1, qe_c2, qe_c3, qe_c8, qe_c9, qe_cs, qe_cv, qe_tk, qe_tk0, qe_cat0, qe_cati, qe_catl, qe_catr, qe_catn, qe_ob, qe_cpy, qe_tl, qe_tl0, dX3_goesUp_14, qe_lstore_3, q_st1, q_st2, q_clr, Value.category, Nat.reduceEqDiff, reduceIte, dX3_goesUp_15, dX3_goesUp_16, qF_3_45, dX3_goesUp_19, dX3_goesUp_20, dX3_goesUp_21, dX3_goesUp_24, dX3_goesUp_25, dX3_goesUp_28, qe_lsub, dX3_goesUp_29, qe_lstore, dX3_goesUp_31, dX3_goesUp_32, dX3_goesUp_35, qe_if_gt, q_br, q_tg, Int.reduceNatCast', Int.reduceAdd, Int.reduceToNat, Int.reduceLE, Int.reduceNeg, dX3_goesUp_38, qe_iconst, dX3_goesUp_39, qe_goto, dX3_goesUp_42, dX3_goesUp_43, qe_istore, dX3_goesUp_45, qe_iload_1, qe_il, dX3_goesUp_46, qe_table, dX3_goesUp_76, dX3_goesUp_77, qe_iret, qe_nar_i, qe_nar_0, qe_nar_1, dX3_goesUp_78, dX3_goesUp_79, dX3_goesUp_80, qe_iload, dX3_goesUp_82, dX3_goesUp_83, qe_ldc2, qe_pk, qDi_3_84, dX3_goesUp_86, qe_lload, qe_ll, dX3_goesUp_88, qe_lmul, dX3_goesUp_89, qe_lload_3, dX3_goesUp_90, qe_lcmp, iI_cmp_lt, iI_cmp_le, iI_cmp_ge, iI_cmp_gt, iI_cmp_eq, dX3_goesUp_91, dX3_goesUp_94, dX3_goesUp_97, dX3_goesUp_99, dX3_goesUp_100, dX3_goesUp_101, dX3_goesUp_102, qe_if_ne, dX3_goesUp_105, dX3_goesUp_107, qe_if_eq, dX3_goesUp_110, dX3_goesUp_111, dX3_goesUp_114, dX3_goesUp_115, dX3_goesUp_116, qe_iload_2, dX3_goesUp_117, dX3_goesUp_118, dX3_goesUp_119, dX3_goesUp_120, dX3_goesUp_122, dX3_goesUp_123, qF_3_9, dX3_goesUp_126, qe_lshl, dX3_goesUp_127, dX3_goesUp_128, qe_if_ge, dX3_goesUp_131, dX3_goesUp_132, dX3_goesUp_135, dX3_goesUp_136, hw, q_kl]
  rw [iI_l (by omega) (by omega)]
  refine ⟨⟨_, rfl⟩, t_numOf hw ?_⟩
  simp only [qe_x, qe_v, q_get, Bool.cond_false, Bool.cond_true, Nat.reduceAdd, Nat.reduceBEq, Nat.reduceLT, Nat.reduceLeDiff, Nat.add_zero, Nat.zero_add, Nat.le_refl, true_and, and_true, List.length_cons, List.length_nil, Option.some.injEq, exists_eq_left', exists_eq_left, exists_eq', reduceCtorEq, dX3_goesUp_0, qe_aload_0, qe_al, dX3_goesUp_1, dX3_goesUp_2, qe_get, qF_3_36, qe_gf, qe_fg, List.getElem?_cons_zero, List.getElem?_cons_succ, dX3_goesUp_5, dX3_goesUp_6, qF_3_33, dX3_goesUp_9, qe_isub, dX3_goesUp_10, qe_i2l, dX3_goesUp_11, qe_invv, ms_X3_goesUp_67, qe_c0, qe_c1, qe_c2, qe_c3, qe_c8, qe_c9, qe_cs, qe_cv, qe_tk, qe_tk0, qe_cat0, qe_cati, qe_catl, qe_catr, qe_catn, qe_ob, qe_cpy, qe_tl, qe_tl0, dX3_goesUp_14, qe_lstore_3, q_st1, q_st2, q_clr, Value.category, Nat.reduceEqDiff, reduceIte, dX3_goesUp_15, dX3_goesUp_16, qF_3_45, dX3_goesUp_19, dX3_goesUp_20, dX3_goesUp_21, dX3_goesUp_24, dX3_goesUp_25, dX3_goesUp_28, qe_lsub, dX3_goesUp_29, qe_lstore, dX3_goesUp_31, dX3_goesUp_32, dX3_goesUp_35, qe_if_gt, q_br, q_tg, Int.reduceNatCast', Int.reduceAdd, Int.reduceToNat, Int.reduceLE, Int.reduceNeg, dX3_goesUp_38, qe_iconst, dX3_goesUp_39, qe_goto, dX3_goesUp_42, dX3_goesUp_43, qe_istore, dX3_goesUp_45, qe_iload_1, qe_il, dX3_goesUp_46, qe_table, dX3_goesUp_76, dX3_goesUp_77, qe_iret, qe_nar_i, qe_nar_0, qe_nar_1, dX3_goesUp_78, dX3_goesUp_79, dX3_goesUp_80, qe_iload, dX3_goesUp_82, dX3_goesUp_83, qe_ldc2, qe_pk, qDi_3_84, dX3_goesUp_86, qe_lload, qe_ll, dX3_goesUp_88, qe_lmul, dX3_goesUp_89, qe_lload_3, dX3_goesUp_90, qe_lcmp, iI_cmp_lt, iI_cmp_le, iI_cmp_ge, iI_cmp_gt, iI_cmp_eq, dX3_goesUp_91, dX3_goesUp_94, dX3_goesUp_97, dX3_goesUp_99, dX3_goesUp_100, dX3_goesUp_101, dX3_goesUp_102, qe_if_ne, dX3_goesUp_105, dX3_goesUp_107, qe_if_eq, dX3_goesUp_110, dX3_goesUp_111, dX3_goesUp_114, dX3_goesUp_115, dX3_goesUp_116, qe_iload_2, dX3_goesUp_117, dX3_goesUp_118, dX3_goesUp_119, dX3_goesUp_120, dX3_goesUp_122, dX3_goesUp_123, qF_3_9, dX3_goesUp_126, qe_lshl, dX3_goesUp_127, dX3_goesUp_128, qe_if_ge, dX3_goesUp_131, dX3_goesUp_132, dX3_goesUp_135, dX3_goesUp_136, hw, q_kl, lI_sub]
  simp (disch := omega) only [iI_lt]
  have e3 : ngo n d lw up 0 3 0 = decide ((up - lw) * d * 1024 < 2 * (n - lw * d * 1024) ∨ (2 * (n - lw * d * 1024) = (up - lw) * d * 1024 ∧ up ≤ 0)) := rfl
  refine ⟨fun c => q_tsI 3 37 83 (by omega) (by omega) (by omega) rfl (by omega) ?_, fun c => q_tsI 3 37 83 (by omega) (by omega) (by omega) rfl (by omega) ?_⟩
  all_goals
    simp only [qe_x, qe_v, q_get, Bool.cond_false, Bool.cond_true, Nat.reduceAdd, Nat.reduceBEq, Nat.reduceLT, Nat.reduceLeDiff, Nat.add_zero, Nat.zero_add, Nat.le_refl, true_and, and_true, List.length_cons, List.length_nil, Option.some.injEq, exists_eq_left', exists_eq_left, exists_eq', reduceCtorEq, dX3_goesUp_0, qe_aload_0, qe_al, dX3_goesUp_1, dX3_goesUp_2, qe_get, qF_3_36, qe_gf, qe_fg, List.getElem?_cons_zero, List.getElem?_cons_succ, dX3_goesUp_5, dX3_goesUp_6, qF_3_33, dX3_goesUp_9, qe_isub, dX3_goesUp_10, qe_i2l, dX3_goesUp_11, qe_invv, ms_X3_goesUp_67, qe_c0, qe_c1, qe_c2, qe_c3, qe_c8, qe_c9, qe_cs, qe_cv, qe_tk, qe_tk0, qe_cat0, qe_cati, qe_catl, qe_catr, qe_catn, qe_ob, qe_cpy, qe_tl, qe_tl0, dX3_goesUp_14, qe_lstore_3, q_st1, q_st2, q_clr, Value.category, Nat.reduceEqDiff, reduceIte, dX3_goesUp_15, dX3_goesUp_16, qF_3_45, dX3_goesUp_19, dX3_goesUp_20, dX3_goesUp_21, dX3_goesUp_24, dX3_goesUp_25, dX3_goesUp_28, qe_lsub, dX3_goesUp_29, qe_lstore, dX3_goesUp_31, dX3_goesUp_32, dX3_goesUp_35, qe_if_gt, q_br, q_tg, Int.reduceNatCast', Int.reduceAdd, Int.reduceToNat, Int.reduceLE, Int.reduceNeg, dX3_goesUp_38, qe_iconst, dX3_goesUp_39, qe_goto, dX3_goesUp_42, dX3_goesUp_43, qe_istore, dX3_goesUp_45, qe_iload_1, qe_il, dX3_goesUp_46, qe_table, dX3_goesUp_76, dX3_goesUp_77, qe_iret, qe_nar_i, qe_nar_0, qe_nar_1, dX3_goesUp_78, dX3_goesUp_79, dX3_goesUp_80, qe_iload, dX3_goesUp_82, dX3_goesUp_83, qe_ldc2, qe_pk, qDi_3_84, dX3_goesUp_86, qe_lload, qe_ll, dX3_goesUp_88, qe_lmul, dX3_goesUp_89, qe_lload_3, dX3_goesUp_90, qe_lcmp, iI_cmp_lt, iI_cmp_le, iI_cmp_ge, iI_cmp_gt, iI_cmp_eq, dX3_goesUp_91, dX3_goesUp_94, dX3_goesUp_97, dX3_goesUp_99, dX3_goesUp_100, dX3_goesUp_101, dX3_goesUp_102, qe_if_ne, dX3_goesUp_105, dX3_goesUp_107, qe_if_eq, dX3_goesUp_110, dX3_goesUp_111, dX3_goesUp_114, dX3_goesUp_115, dX3_goesUp_116, qe_iload_2, dX3_goesUp_117, dX3_goesUp_118, dX3_goesUp_119, dX3_goesUp_120, dX3_goesUp_122, dX3_goesUp_123, qF_3_9, dX3_goesUp_126, qe_lshl, dX3_goesUp_127, dX3_goesUp_128, qe_if_ge, dX3_goesUp_131, dX3_goesUp_132, dX3_goesUp_135, dX3_goesUp_136, qe_x, qe_v, q_get, Bool.cond_false, Bool.cond_true, Nat.reduceAdd, Nat.reduceBEq, Nat.reduceLT, Nat.reduceLeDiff, Nat.add_zero, Nat.zero_add, Nat.le_refl, true_and, and_true, List.length_cons, List.length_nil, Option.some.injEq, exists_eq_left', exists_eq_left, exists_eq', reduceCtorEq, dX3_rounded_0, qe_aload_0, qe_al, dX3_rounded_1, qe_get, qF_3_33, qe_gf, qe_fg, List.getElem?_cons_zero, List.getElem?_cons_succ, dX3_rounded_4, dX3_rounded_5, qF_3_36, dX3_rounded_8, qe_icmp_eq, q_br, q_tg, Int.reduceNatCast', Int.reduceAdd, Int.reduceToNat, Int.reduceLE, Int.reduceNeg, dX3_rounded_11, dX3_rounded_12, qe_iload_1, qe_il, dX3_rounded_13, qe_iload_2, dX3_rounded_14, qe_invv, ms_X3_rounded_80, qe_c0, qe_c1, qe_c2, qe_c3, qe_c8, qe_c9, qe_cs, qe_cv, qe_tk, qe_tk0, qe_cat0, qe_cati, qe_catl, qe_catr, qe_catn, qe_ob, qe_cpy, qe_tl, qe_tl0, dX3_rounded_17, qe_if_eq, dX3_rounded_20, dX3_rounded_21, dX3_rounded_24, qe_goto, dX3_rounded_27, dX3_rounded_28, dX3_rounded_31, qe_iret, qe_nar_i, qe_nar_0, qe_nar_1, lI_mul, hw]
    simp (disch := omega) only [lI_lt, lI_eq, iI_eq, not_true_eq_false, false_implies, true_implies, and_true, true_and, Int.reduceEq, not_false_eq_true]
    repeat' (first | refine And.intro ?_ ?_ | intro _)
    all_goals first
      | (rw [e3, decide_eq_true (by omega), if_pos ⟨by assumption, rfl⟩] at h; exact h)
      | (rw [e3, decide_eq_false (by omega), if_neg (fun q => absurd q.2 (by decide))] at h; exact h)
      | (exfalso; omega)
theorem sAt.eqv {w w' : QWd} {a : Nat} {S : QSt} (h : sAt w a S) (hf : ∀ z, a ≤ z → z < a + 8 → w' z = w z) : sAt w' a S := by
  obtain ⟨h1, ⟨f1, h2, h2'⟩, ⟨f2, h3, h3'⟩, ⟨f3, h4, h4'⟩, h5⟩ := h
  refine ⟨by rw [hf _ (by omega) (by omega)]; exact h1, ⟨f1, by rw [hf _ (by omega) (by omega)]; exact h2, h2'⟩, ⟨f2, by rw [hf _ (by omega) (by omega)]; exact h3, h3'⟩, ⟨f3, by rw [hf _ (by omega) (by omega)]; exact h4, h4'⟩, fun i hi => by rw [hf _ (by omega) (by omega)]; exact h5 i hi⟩
theorem eAt.eqv {w w' : QWd} {a : Nat} {E : QLe} (h : eAt w a E) (hf : ∀ z, a ≤ z → z < a + 67 → w' z = w z) : eAt w' a E := by
  obtain ⟨old, h0, h0', h1, ⟨f1, h2, h2'⟩, ⟨f2, h3, h3'⟩, h4, h5⟩ := h
  refine ⟨old, h0, h0', by rw [hf _ (by omega) (by omega)]; exact h1, ⟨f1, by rw [hf _ (by omega) (by omega)]; exact h2, h2'⟩, ⟨f2, by rw [hf _ (by omega) (by omega)]; exact h3, h3'⟩, fun j hj => (h4 j hj).eq (hf _ (by omega) (by omega)), fun i hi => by rw [hf _ (by omega) (by omega)]; exact h5 i hi⟩
theorem hAt.eqv {w w' : QWd} {a : Nat} {H : QHi} (h : hAt w a H) (hf : ∀ z, a ≤ z → z < a + 453 → w' z = w z) : hAt w' a H := by
  obtain ⟨old, h0, h0', h1, ⟨f1, h2, h2'⟩, ⟨f2, h3, h3'⟩, h4, h5⟩ := h
  refine ⟨old, h0, h0', by rw [hf _ (by omega) (by omega)]; exact h1, ⟨f1, by rw [hf _ (by omega) (by omega)]; exact h2, h2'⟩, ⟨f2, by rw [hf _ (by omega) (by omega)]; exact h3, h3'⟩, fun j hj => ⟨(h4 j hj).1.imp fun S hS => hS.eqv (fun z z1 z2 => hf z (by omega) (by omega)), (h4 j hj).2.imp fun E hE => hE.eqv (fun z z1 z2 => hf z (by omega) (by omega))⟩, fun i hi => ⟨(h5 i hi).1.eqv (fun z z1 z2 => hf z (by omega) (by omega)), (h5 i hi).2.eqv (fun z z1 z2 => hf z (by omega) (by omega))⟩⟩
theorem gAt.eqv {w w' : QWd} {P L : Nat} {tx : Nat → Nat} {q : QPs} (h : gAt w P L tx q) (hf : ∀ z, P ≤ z → z < P + 6 → w' z = w z) : gAt w' P L tx q := by
  obtain ⟨h0, ⟨f1, h1, k1⟩, ⟨f2, h2, k2⟩, ⟨f3, h3, k3⟩, ⟨f4, h4, k4⟩, ⟨f5, h5, k5⟩⟩ := h
  exact ⟨by rw [hf _ (by omega) (by omega)]; exact h0, ⟨f1, by rw [hf _ (by omega) (by omega)]; exact h1, k1⟩, ⟨f2, by rw [hf _ (by omega) (by omega)]; exact h2, k2⟩, ⟨f3, by rw [hf _ (by omega) (by omega)]; exact h3, k3⟩, ⟨f4, by rw [hf _ (by omega) (by omega)]; exact h4, k4⟩, ⟨f5, by rw [hf _ (by omega) (by omega)]; exact h5, k5⟩⟩
theorem uAt.eqv {w w' : QWd} {U dn st d p : Nat} {rl db : Nat → Nat} (h : uAt w U dn st d p rl db) (hf : ∀ z, U ≤ z → z < U + 3 → w' z = w z) : uAt w' U dn st d p rl db := by
  obtain ⟨h0, ⟨f1, h1, k1⟩, ⟨f2, h2, k2⟩⟩ := h
  exact ⟨by rw [hf _ (by omega) (by omega)]; exact h0, ⟨f1, by rw [hf _ (by omega) (by omega)]; exact h1, k1⟩, ⟨f2, by rw [hf _ (by omega) (by omega)]; exact h2, k2⟩⟩
/-- setting, ledger, history, length of the text, the text, why the last run stopped, what the reader holds -/
abbrev QY : Type := QSt × QLe × QHi × Nat × (Nat → Nat) × Nat × QPs
abbrev yS (y : QY) : QSt := y.1
abbrev yE (y : QY) : QLe := y.2.1
abbrev yH (y : QY) : QHi := y.2.2.1
abbrev yL (y : QY) : Nat := y.2.2.2.1
abbrev yT (y : QY) : Nat → Nat := y.2.2.2.2.1
abbrev yP (y : QY) : Nat := y.2.2.2.2.2.1
abbrev yQ (y : QY) : QPs := y.2.2.2.2.2.2
def yOk (y : QY) : Prop := sOk (yS y) ∧ eOk (yE y) ∧ eSz (yE y) ≤ 64 ∧ (yH y).1 ≤ 6 ∧ (∀ i, i < (yH y).1 → sOk ((yH y).2 i).1 ∧ eOk ((yH y).2 i).2 ∧ eSz ((yH y).2 i).2 ≤ 64) ∧ yL y ≤ 80 ∧ (∀ i, i < yL y → yT y i < 128) ∧ yP y ≤ 2 ∧ gB (yQ y)
abbrev cBn (B : Nat) (st : Nat) : QCl := .inr (7, [.ref (B + 1), .ref (B + 9), .ref (B + 76), .ref (B + 529), .ref (B + 535), .ref (B + 538), .ref (B + 546), .int (iI st)])
def bAt (w : QWd) (B : Nat) (y : QY) : Prop := w B = some (cBn B (yP y)) ∧ sAt w (B + 1) (yS y) ∧ eAt w (B + 9) (yE y) ∧ hAt w (B + 76) (yH y) ∧ gAt w (B + 529) (yL y) (yT y) (yQ y) ∧ (∃ dn st d p rl db, uAt w (B + 535) dn st d p rl db) ∧ (∃ S, sAt w (B + 538) S) ∧ isOp w (B + 546)
theorem bAt.fr {w w' : QWd} {B b n : Nat} {y : QY} (h : bAt w B y) (hf : fr w w' b n) (hd : B + 547 ≤ b ∨ b + n ≤ B) : bAt w' B y := by
  obtain ⟨h0, h1, h2, h3, h4, ⟨dn, st, d, p, rl, db, h5⟩, ⟨S, h6⟩, h7⟩ := h
  exact ⟨by rw [hf _ (by omega)]; exact h0, h1.fr hf (by omega), h2.fr hf (by omega), h3.fr hf (by omega), h4.fr hf (by omega), ⟨dn, st, d, p, rl, db, h5.fr hf (by omega)⟩, ⟨S, h6.fr hf (by omega)⟩, h7.eq (hf _ (by omega))⟩
/-- setting and work may change -/
theorem b_sset {w w' : QWd} {B : Nat} {y : QY} {S : QSt} (h : bAt w B y) (hf : ∀ q, q ≠ B + 546 → (q < B + 1 ∨ B + 9 ≤ q) → w' q = w q) (hS : sAt w' (B + 1) S) (hw : isOp w' (B + 546)) : bAt w' B (S, y.2) := by
  obtain ⟨h0, -, h2, h3, h4, ⟨dn, st, d, p, rl, db, h5⟩, ⟨S, h6⟩, -⟩ := h
  exact ⟨by rw [hf _ (by omega) (by omega)]; exact h0, hS, h2.eqv (fun z z1 z2 => hf z (by omega) (by omega)), h3.eqv (fun z z1 z2 => hf z (by omega) (by omega)), h4.eqv (fun z z1 z2 => hf z (by omega) (by omega)), ⟨dn, st, d, p, rl, db, h5.eqv (fun z z1 z2 => hf z (by omega) (by omega))⟩, ⟨S, h6.eqv (fun z z1 z2 => hf z (by omega) (by omega))⟩, hw⟩
theorem b_eset {w w' : QWd} {B : Nat} {y : QY} {E : QLe} (h : bAt w B y) (hf : fr w w' (B + 9) 67) (hE : eAt w' (B + 9) E) : bAt w' B (y.1, E, y.2.2) := by
  obtain ⟨h0, h1, -, h3, h4, ⟨dn, st, d, p, rl, db, h5⟩, ⟨S, h6⟩, h7⟩ := h
  exact ⟨by rw [hf _ (by omega)]; exact h0, h1.fr hf (by omega), hE, h3.fr hf (by omega), h4.fr hf (by omega), ⟨dn, st, d, p, rl, db, h5.fr hf (by omega)⟩, ⟨S, h6.fr hf (by omega)⟩, h7.eq (hf _ (by omega))⟩
theorem b_hset {w w' : QWd} {B : Nat} {y : QY} {H : QHi} (h : bAt w B y) (hf : fr w w' (B + 76) 453) (hH : hAt w' (B + 76) H) : bAt w' B (y.1, y.2.1, H, y.2.2.2) := by
  obtain ⟨h0, h1, h2, -, h4, ⟨dn, st, d, p, rl, db, h5⟩, ⟨S, h6⟩, h7⟩ := h
  exact ⟨by rw [hf _ (by omega)]; exact h0, h1.fr hf (by omega), h2.fr hf (by omega), hH, h4.fr hf (by omega), ⟨dn, st, d, p, rl, db, h5.fr hf (by omega)⟩, ⟨S, h6.fr hf (by omega)⟩, h7.eq (hf _ (by omega))⟩
theorem b_pset {w w' : QWd} {B L : Nat} {tx : Nat → Nat} {q : QPs} {y : QY} (h : bAt w B y) (hf : fr w w' (B + 529) 6) (hg : gAt w' (B + 529) L tx q) : bAt w' B (y.1, y.2.1, y.2.2.1, L, tx, yP y, q) := by
  obtain ⟨h0, h1, h2, h3, -, ⟨dn, st, d, p, rl, db, h5⟩, ⟨S, h6⟩, h7⟩ := h
  exact ⟨by rw [hf _ (by omega)]; exact h0, h1.fr hf (by omega), h2.fr hf (by omega), h3.fr hf (by omega), hg, ⟨dn, st, d, p, rl, db, h5.fr hf (by omega)⟩, ⟨S, h6.fr hf (by omega)⟩, h7.eq (hf _ (by omega))⟩
def yPush (y : QY) : QY := (yS y, yE y, hPush (yH y) (yS y, yE y), y.2.2.2)
theorem yPush_ok {y : QY} (h : yOk y) : yOk (yPush y) := by
  obtain ⟨h1, h2, h2', h3, h4, h5, h6, h7⟩ := h
  refine ⟨h1, h2, h2', ?_, ?_, h5, h6, h7⟩
  · show (if (yH y).1 < 6 then (yH y).1 + 1 else 6) ≤ 6
    split <;> omega
  · intro i hi
    change i < (if (yH y).1 < 6 then (yH y).1 + 1 else 6) at hi
    show sOk (if (yH y).1 < 6 then (if i = (yH y).1 then (yS y, yE y) else (yH y).2 i) else (if i = 5 then (yS y, yE y) else (yH y).2 (i + 1))).1 ∧ eOk (if (yH y).1 < 6 then (if i = (yH y).1 then (yS y, yE y) else (yH y).2 i) else (if i = 5 then (yS y, yE y) else (yH y).2 (i + 1))).2 ∧ eSz (if (yH y).1 < 6 then (if i = (yH y).1 then (yS y, yE y) else (yH y).2 i) else (if i = 5 then (yS y, yE y) else (yH y).2 (i + 1))).2 ≤ 64
    by_cases q : (yH y).1 < 6
    · rw [if_pos q] at hi
      rw [if_pos q]
      by_cases q2 : i = (yH y).1
      · rw [if_pos q2]; exact ⟨h1, h2, h2'⟩
      · rw [if_neg q2]; exact h4 i (by omega)
    · rw [if_neg q] at hi
      rw [if_neg q]
      by_cases q2 : i = 5
      · rw [if_pos q2]; exact ⟨h1, h2, h2'⟩
      · rw [if_neg q2]; exact h4 (i + 1) (by omega)
section
variable {B : Nat} {y : QY} {w : QWd} {sz : Nat} {post : QPo}
theorem t_remember (hb : bAt w B y) (h : ∀ w', bAt w' B (yPush y) → fr w w' (B + 76) 453 → post none w') : T_X7_remember [.ref B] w sz post := by
  obtain ⟨h0, h1, h2, h3, -⟩ := id hb
  refine Ti_X7_remember (fun G hG => hG (fun _ => false) 30 _ _ _ _ _ _ ?_)
  simp only [qe_x, qe_v, q_get, Bool.cond_false, Bool.cond_true, Nat.reduceAdd, Nat.reduceBEq, Nat.reduceLT, Nat.reduceLeDiff, Nat.add_zero, Nat.zero_add, Nat.le_refl, true_and, and_true, List.length_cons, List.length_nil, Option.some.injEq, exists_eq_left', exists_eq_left, exists_eq', reduceCtorEq, dX7_remember_0, qe_aload_0, qe_al, dX7_remember_1, qe_get, qF_7_26, qe_gf, qe_fg, List.getElem?_cons_zero, List.getElem?_cons_succ, dX7_remember_4, dX7_remember_5, qF_7_10, dX7_remember_8, dX7_remember_9, qF_7_19, dX7_remember_12, qe_invv, ms_X7_remember_303, qe_c0, qe_c1, qe_c2, qe_c3, qe_c8, qe_c9, qe_cs, qe_cv, qe_tk, qe_tk0, qe_cat0, qe_cati, qe_catl, qe_catr, qe_catn, qe_ob, qe_cpy, qe_tl, qe_tl0, dX7_remember_15, qe_vret, h0]
  have hk : q_kl w (B + 76) 1 := by
    obtain ⟨old, -, -, q, -⟩ := h3
    exact ⟨_, q⟩
  refine ⟨hk, t_keep h3 h1 h2 (by omega) (by omega) (fun w' a f => ?_)⟩
  simp only [qe_x, qe_v, q_get, Bool.cond_false, Bool.cond_true, Nat.reduceAdd, Nat.reduceBEq, Nat.reduceLT, Nat.reduceLeDiff, Nat.add_zero, Nat.zero_add, Nat.le_refl, true_and, and_true, List.length_cons, List.length_nil, Option.some.injEq, exists_eq_left', exists_eq_left, exists_eq', reduceCtorEq, dX7_remember_0, qe_aload_0, qe_al, dX7_remember_1, qe_get, qF_7_26, qe_gf, qe_fg, List.getElem?_cons_zero, List.getElem?_cons_succ, dX7_remember_4, dX7_remember_5, qF_7_10, dX7_remember_8, dX7_remember_9, qF_7_19, dX7_remember_12, qe_invv, ms_X7_remember_303, qe_c0, qe_c1, qe_c2, qe_c3, qe_c8, qe_c9, qe_cs, qe_cv, qe_tk, qe_tk0, qe_cat0, qe_cati, qe_catl, qe_catr, qe_catn, qe_ob, qe_cpy, qe_tl, qe_tl0, dX7_remember_15, qe_vret]
  exact h w' (b_hset hb f a) f
theorem t_isFormat {z : Int} (hz : -2147483648 ≤ z ∧ z < 2147483648) (h : post (some (.int (iI (bI (decide (0 ≤ z ∧ z < 4)))))) w) : T_X7_isFormat [.int (iI z)] w sz post := by
  refine Ti_X7_isFormat (fun G hG => hG (fun _ => false) 30 _ _ _ _ _ _ ?_)
  simp only [qe_x, qe_v, q_get, Bool.cond_false, Bool.cond_true, Nat.reduceAdd, Nat.reduceBEq, Nat.reduceLT, Nat.reduceLeDiff, Nat.add_zero, Nat.zero_add, Nat.le_refl, true_and, and_true, List.length_cons, List.length_nil, Option.some.injEq, exists_eq_left', exists_eq_left, exists_eq', reduceCtorEq, dX7_isFormat_0, qe_iload_0, qe_il, dX7_isFormat_1, qe_if_lt, q_br, q_tg, Int.reduceNatCast', Int.reduceAdd, Int.reduceToNat, Int.reduceLE, Int.reduceNeg, dX7_isFormat_4, dX7_isFormat_5, qe_iconst, dX7_isFormat_6, qe_icmp_ge, dX7_isFormat_9, dX7_isFormat_10, qe_goto, dX7_isFormat_13, dX7_isFormat_14, qe_iret, qe_nar_i, qe_nar_0, qe_nar_1]
  simp (disch := omega) only [iI_lt, iI_le, iI_0]
  repeat' (first | refine And.intro ?_ ?_ | intro _)
  all_goals first
    | (rw [decide_eq_true (by omega)] at h; exact h)
    | (rw [decide_eq_false (by omega)] at h; exact h)
theorem t_isRegister {z : Int} (hz : -2147483648 ≤ z ∧ z < 2147483648) (h : post (some (.int (iI (bI (decide (0 ≤ z ∧ z < 8)))))) w) : T_X7_isRegister [.int (iI z)] w sz post := by
  refine Ti_X7_isRegister (fun G hG => hG (fun _ => false) 30 _ _ _ _ _ _ ?_)
  simp only [qe_x, qe_v, q_get, Bool.cond_false, Bool.cond_true, Nat.reduceAdd, Nat.reduceBEq, Nat.reduceLT, Nat.reduceLeDiff, Nat.add_zero, Nat.zero_add, Nat.le_refl, true_and, and_true, List.length_cons, List.length_nil, Option.some.injEq, exists_eq_left', exists_eq_left, exists_eq', reduceCtorEq, dX7_isRegister_0, qe_iload_0, qe_il, dX7_isRegister_1, qe_if_lt, q_br, q_tg, Int.reduceNatCast', Int.reduceAdd, Int.reduceToNat, Int.reduceLE, Int.reduceNeg, dX7_isRegister_4, dX7_isRegister_5, qe_bipush, Int.reduceLT, dX7_isRegister_7, qe_icmp_ge, dX7_isRegister_10, qe_iconst, dX7_isRegister_11, qe_goto, dX7_isRegister_14, dX7_isRegister_15, qe_iret, qe_nar_i, qe_nar_0, qe_nar_1]
  simp (disch := omega) only [iI_lt, iI_le, iI_0]
  repeat' (first | refine And.intro ?_ ?_ | intro _)
  all_goals first
    | (rw [decide_eq_true (by omega)] at h; exact h)
    | (rw [decide_eq_false (by omega)] at h; exact h)
theorem t_isMode {z : Int} (hz : -2147483648 ≤ z ∧ z < 2147483648) (h : post (some (.int (iI (bI (decide (0 ≤ z ∧ z < 5)))))) w) : T_X7_isMode [.int (iI z)] w sz post := by
  refine Ti_X7_isMode (fun G hG => hG (fun _ => false) 30 _ _ _ _ _ _ ?_)
  simp only [qe_x, qe_v, q_get, Bool.cond_false, Bool.cond_true, Nat.reduceAdd, Nat.reduceBEq, Nat.reduceLT, Nat.reduceLeDiff, Nat.add_zero, Nat.zero_add, Nat.le_refl, true_and, and_true, List.length_cons, List.length_nil, Option.some.injEq, exists_eq_left', exists_eq_left, exists_eq', reduceCtorEq, dX7_isMode_0, qe_iload_0, qe_il, dX7_isMode_1, qe_if_lt, q_br, q_tg, Int.reduceNatCast', Int.reduceAdd, Int.reduceToNat, Int.reduceLE, Int.reduceNeg, dX7_isMode_4, dX7_isMode_5, qe_iconst, dX7_isMode_6, qe_icmp_ge, dX7_isMode_9, dX7_isMode_10, qe_goto, dX7_isMode_13, dX7_isMode_14, qe_iret, qe_nar_i, qe_nar_0, qe_nar_1]
  simp (disch := omega) only [iI_lt, iI_le, iI_0]
  repeat' (first | refine And.intro ?_ ?_ | intro _)
  all_goals first
    | (rw [decide_eq_true (by omega)] at h; exact h)
    | (rw [decide_eq_false (by omega)] at h; exact h)
theorem t_isEnsemble {z : Int} (hz : -2147483648 ≤ z ∧ z < 2147483648) (h : post (some (.int (iI (bI (decide (1 ≤ z ∧ z < 9)))))) w) : T_X7_isEnsemble [.int (iI z)] w sz post := by
  refine Ti_X7_isEnsemble (fun G hG => hG (fun _ => false) 30 _ _ _ _ _ _ ?_)
  simp only [qe_x, qe_v, q_get, Bool.cond_false, Bool.cond_true, Nat.reduceAdd, Nat.reduceBEq, Nat.reduceLT, Nat.reduceLeDiff, Nat.add_zero, Nat.zero_add, Nat.le_refl, true_and, and_true, List.length_cons, List.length_nil, Option.some.injEq, exists_eq_left', exists_eq_left, exists_eq', reduceCtorEq, dX7_isEnsemble_0, qe_iload_0, qe_il, dX7_isEnsemble_1, qe_iconst, dX7_isEnsemble_2, qe_icmp_lt, q_br, q_tg, Int.reduceNatCast', Int.reduceAdd, Int.reduceToNat, Int.reduceLE, Int.reduceNeg, dX7_isEnsemble_5, dX7_isEnsemble_6, qe_bipush, Int.reduceLT, dX7_isEnsemble_8, qe_icmp_gt, dX7_isEnsemble_11, dX7_isEnsemble_12, qe_goto, dX7_isEnsemble_15, dX7_isEnsemble_16, qe_iret, qe_nar_i, qe_nar_0, qe_nar_1]
  simp (disch := omega) only [iI_lt, iI_le, iI_0]
  repeat' (first | refine And.intro ?_ ?_ | intro _)
  all_goals first
    | (rw [decide_eq_true (by omega)] at h; exact h)
    | (rw [decide_eq_false (by omega)] at h; exact h)
theorem t_isInRange {z : Int} (hz : -2147483648 ≤ z ∧ z < 2147483648) (h : post (some (.int (iI (bI (decide (-1048575 ≤ z ∧ z ≤ 1048575)))))) w) : T_X7_isInRange [.int (iI z)] w sz post := by
  refine Ti_X7_isInRange (fun G hG => hG (fun _ => false) 30 _ _ _ _ _ _ ?_)
  simp only [qe_x, qe_v, q_get, Bool.cond_false, Bool.cond_true, Nat.reduceAdd, Nat.reduceBEq, Nat.reduceLT, Nat.reduceLeDiff, Nat.add_zero, Nat.zero_add, Nat.le_refl, true_and, and_true, List.length_cons, List.length_nil, Option.some.injEq, exists_eq_left', exists_eq_left, exists_eq', reduceCtorEq, dX7_isInRange_0, qe_iload_0, qe_il, dX7_isInRange_1, qe_ldc, qe_pk, qCi_7_176, dX7_isInRange_3, qe_icmp_lt, q_br, q_tg, Int.reduceNatCast', Int.reduceAdd, Int.reduceToNat, Int.reduceLE, Int.reduceNeg, dX7_isInRange_6, dX7_isInRange_7, qCi_7_175, dX7_isInRange_9, qe_icmp_gt, dX7_isInRange_12, qe_iconst, dX7_isInRange_13, qe_goto, dX7_isInRange_16, dX7_isInRange_17, qe_iret, qe_nar_i, qe_nar_0, qe_nar_1]
  simp (disch := omega) only [iI_lt, iI_le, iI_0]
  repeat' (first | refine And.intro ?_ ?_ | intro _)
  all_goals first
    | (rw [decide_eq_true (by omega)] at h; exact h)
    | (rw [decide_eq_false (by omega)] at h; exact h)
end
