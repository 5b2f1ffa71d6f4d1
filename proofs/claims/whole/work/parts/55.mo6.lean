/-! ===== Model: begins ===== -/
theorem m_begins {M : Nat} {y : QY} {wy ty ov um us un st sp bk od en : Int32} {lo0 up0 xu xd ld : Int64} {w : QWd} {sz : Nat} {post : QPo} {f : Nat → Int64} (hw : w M = some (cMo M (iI (yH y).1) wy ty lo0 up0 ov um us un xu xd ld st sp bk od en)) (hp : w (M + 1) = some (aLng 7896 f)) (hf : pgY f y) (hy : yOk y)
    (h : ∀ g w', w' M = some (cMo M (iI (yH (yPush y)).1) wy ty lo0 up0 ov um us un xu xd ld st sp bk od en) → w' (M + 1) = some (aLng 7896 g) → pgY g (yPush y) → fr w w' M 2 → post none w') : T_X8_begins [.ref M] w sz post := by
  obtain ⟨o1, o2, o2', o3, o4, -⟩ := id hy
  refine Ti_X8_begins (fun G hG => ?_)
  -- the second loop: the state is copied behind
  have l2 : ∀ (k c : Nat) (v : QWd) (x : Nat) (g g0 : Nat → Int64), c + k = 1128 → 1 ≤ x → x ≤ 6 → v M = some (cMo M (iI x) wy ty lo0 up0 ov um us un xu xd ld st sp bk od en) → v (M + 1) = some (aLng 7896 g) → fr w v M 2 → (∀ j, g j = if 1128 * x ≤ j ∧ j < 1128 * x + c then g0 (j - 1128 * x) else g0 j) → (∀ g' w', w' M = some (cMo M (iI x) wy ty lo0 up0 ov um us un xu xd ld st sp bk od en) → w' (M + 1) = some (aLng 7896 g') → fr w w' M 2 → (∀ j, g' j = if 1128 * x ≤ j ∧ j < 1128 * x + 1128 then g0 (j - 1128 * x) else g0 j) → post none w') → G 66 [some (.ref M), some (.int (iI c))] [] v sz 0 := by
    intro k
    induction k with
    | zero =>
      intro c v x g g0 hc x1 x6 v0 v1 fv hg hh
      refine hG (fun pc => pc == 11 || pc == 66) 60 _ _ _ _ _ _ ?_
      simp only [qe_x, qe_v, q_get, Bool.cond_false, Bool.cond_true, Nat.reduceAdd, Nat.reduceBEq, Nat.reduceLT, Nat.reduceLeDiff, Nat.add_zero, Nat.zero_add, Nat.le_refl, true_and, and_true, List.length_cons, List.length_nil, Option.some.injEq, exists_eq_left', exists_eq_left, exists_eq', reduceCtorEq, dX8_begins_0, qe_aload_0, qe_al, dX8_begins_1, qe_get, qF_8_49, qe_gf, qe_fg, List.getElem?_cons_zero, List.getElem?_cons_succ, dX8_begins_4, qe_bipush, Int.reduceLE, Int.reduceLT, Int.reduceNeg, dX8_begins_6, qe_icmp_ne, q_br, q_tg, Int.reduceNatCast', Int.reduceAdd, Int.reduceToNat, dX8_begins_9, qe_iconst, dX8_begins_10, qe_istore_1, q_st1, q_st2, q_clr, Value.category, Nat.reduceEqDiff, reduceIte, dX8_begins_11, qe_iload_1, qe_il, dX8_begins_12, qe_sipush, dX8_begins_15, qe_icmp_ge, dX8_begins_18, dX8_begins_19, qF_8_7, dX8_begins_22, dX8_begins_25, dX8_begins_26, qe_iadd, dX8_begins_27, dX8_begins_28, dX8_begins_31, dX8_begins_34, dX8_begins_35, dX8_begins_36, qe_lald, qe_aj, dX8_begins_37, qe_last, qe_bj, dX8_begins_38, qe_iinc, qe_ii, dX8_begins_41, qe_goto, dX8_begins_44, dX8_begins_45, qe_dup_i, qe_dup_r, dX8_begins_46, dX8_begins_49, dX8_begins_50, qe_isub, dX8_begins_51, qe_put, qe_pf, qe_pfF, qe_fp, qe_pv_i, qe_pv_l, qe_pv_a, qe_pv_o, qe_pv_z0, qe_pv_z1, List.set_cons_zero, List.set_cons_succ, dX8_begins_54, dX8_begins_55, dX8_begins_56, dX8_begins_59, dX8_begins_60, dX8_begins_61, dX8_begins_64, dX8_begins_65, dX8_begins_66, dX8_begins_67, dX8_begins_70, dX8_begins_73, dX8_begins_74, dX8_begins_77, dX8_begins_80, dX8_begins_81, dX8_begins_84, qe_imul, dX8_begins_85, dX8_begins_86, dX8_begins_87, dX8_begins_88, dX8_begins_91, dX8_begins_92, dX8_begins_93, dX8_begins_94, dX8_begins_97, dX8_begins_100, qe_vret]
      simp (disch := omega) only [iI_le]
      rw [show c = 1128 by omega] at hg
      exact ⟨fun _ => hh g v v0 v1 fv hg, fun q => absurd (show (1128 : Int) ≤ c by omega) q⟩
    | succ k ih =>
      intro c v x g g0 hc x1 x6 v0 v1 fv hg hh
      refine hG (fun pc => pc == 11 || pc == 66) 60 _ _ _ _ _ _ ?_
      simp only [qe_x, qe_v, q_get, Bool.cond_false, Bool.cond_true, Nat.reduceAdd, Nat.reduceBEq, Nat.reduceLT, Nat.reduceLeDiff, Nat.add_zero, Nat.zero_add, Nat.le_refl, true_and, and_true, List.length_cons, List.length_nil, Option.some.injEq, exists_eq_left', exists_eq_left, exists_eq', reduceCtorEq, dX8_begins_0, qe_aload_0, qe_al, dX8_begins_1, qe_get, qF_8_49, qe_gf, qe_fg, List.getElem?_cons_zero, List.getElem?_cons_succ, dX8_begins_4, qe_bipush, Int.reduceLE, Int.reduceLT, Int.reduceNeg, dX8_begins_6, qe_icmp_ne, q_br, q_tg, Int.reduceNatCast', Int.reduceAdd, Int.reduceToNat, dX8_begins_9, qe_iconst, dX8_begins_10, qe_istore_1, q_st1, q_st2, q_clr, Value.category, Nat.reduceEqDiff, reduceIte, dX8_begins_11, qe_iload_1, qe_il, dX8_begins_12, qe_sipush, dX8_begins_15, qe_icmp_ge, dX8_begins_18, dX8_begins_19, qF_8_7, dX8_begins_22, dX8_begins_25, dX8_begins_26, qe_iadd, dX8_begins_27, dX8_begins_28, dX8_begins_31, dX8_begins_34, dX8_begins_35, dX8_begins_36, qe_lald, qe_aj, dX8_begins_37, qe_last, qe_bj, dX8_begins_38, qe_iinc, qe_ii, dX8_begins_41, qe_goto, dX8_begins_44, dX8_begins_45, qe_dup_i, qe_dup_r, dX8_begins_46, dX8_begins_49, dX8_begins_50, qe_isub, dX8_begins_51, qe_put, qe_pf, qe_pfF, qe_fp, qe_pv_i, qe_pv_l, qe_pv_a, qe_pv_o, qe_pv_z0, qe_pv_z1, List.set_cons_zero, List.set_cons_succ, dX8_begins_54, dX8_begins_55, dX8_begins_56, dX8_begins_59, dX8_begins_60, dX8_begins_61, dX8_begins_64, dX8_begins_65, dX8_begins_66, dX8_begins_67, dX8_begins_70, dX8_begins_73, dX8_begins_74, dX8_begins_77, dX8_begins_80, dX8_begins_81, dX8_begins_84, qe_imul, dX8_begins_85, dX8_begins_86, dX8_begins_87, dX8_begins_88, dX8_begins_91, dX8_begins_92, dX8_begins_93, dX8_begins_94, dX8_begins_97, dX8_begins_100, qe_vret, v0, v1, iI_mul, iI_add]
      rw [show (1128 : Int) * (x : Int) + c = ((1128 * x + c : Nat) : Int) by omega]
      simp (disch := omega) only [iI_le, iI_inN, iI_clN, true_and]
      refine ⟨fun q => absurd q (by omega), fun _ => ?_⟩
      refine ih (c + 1) _ x _ g0 (by omega) x1 x6 (by rw [q_set_n _ _ (by omega)]; exact v0) (q_set_s _ _ _) (fv.set (by omega) (by omega)) (fun j => ?_) hh
      have e0 : g c = g0 c := by rw [hg c, if_neg (by omega)]
      by_cases q : j = 1128 * x + c
      · rw [q, pk_uLs, if_pos (by omega), e0, show 1128 * x + c - 1128 * x = c by omega]
      · rw [pk_uLn q, hg j]
        by_cases q2 : 1128 * x ≤ j ∧ j < 1128 * x + c
        · rw [if_pos q2, if_pos (by omega)]
        · rw [if_neg q2, if_neg (by omega)]
  -- the first loop: the oldest is dropped
  have l1 : ∀ (k c : Nat) (v : QWd) (g : Nat → Int64), c + k = 5640 → v M = some (cMo M (iI (6 : Nat)) wy ty lo0 up0 ov um us un xu xd ld st sp bk od en) → v (M + 1) = some (aLng 7896 g) → fr w v M 2 → (∀ j, g j = if 1128 ≤ j ∧ j < 1128 + c then f (j + 1128) else f j) → (∀ g' w', w' M = some (cMo M (iI (6 : Nat)) wy ty lo0 up0 ov um us un xu xd ld st sp bk od en) → w' (M + 1) = some (aLng 7896 g') → fr w w' M 2 → (∀ j, g' j = if 1128 ≤ j ∧ j < 6768 then f (j + 1128) else f j) → G 66 [some (.ref M), some (.int (iI 0))] [] w' sz 0) → G 11 [some (.ref M), some (.int (iI c))] [] v sz 0 := by
    intro k
    induction k with
    | zero =>
      intro c v g hc v0 v1 fv hg hh
      refine hG (fun pc => pc == 11 || pc == 66) 60 _ _ _ _ _ _ ?_
      simp only [qe_x, qe_v, q_get, Bool.cond_false, Bool.cond_true, Nat.reduceAdd, Nat.reduceBEq, Nat.reduceLT, Nat.reduceLeDiff, Nat.add_zero, Nat.zero_add, Nat.le_refl, true_and, and_true, List.length_cons, List.length_nil, Option.some.injEq, exists_eq_left', exists_eq_left, exists_eq', reduceCtorEq, dX8_begins_0, qe_aload_0, qe_al, dX8_begins_1, qe_get, qF_8_49, qe_gf, qe_fg, List.getElem?_cons_zero, List.getElem?_cons_succ, dX8_begins_4, qe_bipush, Int.reduceLE, Int.reduceLT, Int.reduceNeg, dX8_begins_6, qe_icmp_ne, q_br, q_tg, Int.reduceNatCast', Int.reduceAdd, Int.reduceToNat, dX8_begins_9, qe_iconst, dX8_begins_10, qe_istore_1, q_st1, q_st2, q_clr, Value.category, Nat.reduceEqDiff, reduceIte, dX8_begins_11, qe_iload_1, qe_il, dX8_begins_12, qe_sipush, dX8_begins_15, qe_icmp_ge, dX8_begins_18, dX8_begins_19, qF_8_7, dX8_begins_22, dX8_begins_25, dX8_begins_26, qe_iadd, dX8_begins_27, dX8_begins_28, dX8_begins_31, dX8_begins_34, dX8_begins_35, dX8_begins_36, qe_lald, qe_aj, dX8_begins_37, qe_last, qe_bj, dX8_begins_38, qe_iinc, qe_ii, dX8_begins_41, qe_goto, dX8_begins_44, dX8_begins_45, qe_dup_i, qe_dup_r, dX8_begins_46, dX8_begins_49, dX8_begins_50, qe_isub, dX8_begins_51, qe_put, qe_pf, qe_pfF, qe_fp, qe_pv_i, qe_pv_l, qe_pv_a, qe_pv_o, qe_pv_z0, qe_pv_z1, List.set_cons_zero, List.set_cons_succ, dX8_begins_54, dX8_begins_55, dX8_begins_56, dX8_begins_59, dX8_begins_60, dX8_begins_61, dX8_begins_64, dX8_begins_65, dX8_begins_66, dX8_begins_67, dX8_begins_70, dX8_begins_73, dX8_begins_74, dX8_begins_77, dX8_begins_80, dX8_begins_81, dX8_begins_84, qe_imul, dX8_begins_85, dX8_begins_86, dX8_begins_87, dX8_begins_88, dX8_begins_91, dX8_begins_92, dX8_begins_93, dX8_begins_94, dX8_begins_97, dX8_begins_100, qe_vret, v0, q_set_s, q_set_ss, iI_sub, iI_add]
      simp (disch := omega) only [iI_le]
      rw [show c = 5640 by omega] at hg
      refine ⟨fun _ => hh g _ (q_set_s _ _ _) (by rw [q_set_n _ _ (by omega)]; exact v1) (fv.set (by omega) (by omega)) hg, fun q => absurd (show (5640 : Int) ≤ c by omega) q⟩
    | succ k ih =>
      intro c v g hc v0 v1 fv hg hh
      refine hG (fun pc => pc == 11 || pc == 66) 60 _ _ _ _ _ _ ?_
      simp only [qe_x, qe_v, q_get, Bool.cond_false, Bool.cond_true, Nat.reduceAdd, Nat.reduceBEq, Nat.reduceLT, Nat.reduceLeDiff, Nat.add_zero, Nat.zero_add, Nat.le_refl, true_and, and_true, List.length_cons, List.length_nil, Option.some.injEq, exists_eq_left', exists_eq_left, exists_eq', reduceCtorEq, dX8_begins_0, qe_aload_0, qe_al, dX8_begins_1, qe_get, qF_8_49, qe_gf, qe_fg, List.getElem?_cons_zero, List.getElem?_cons_succ, dX8_begins_4, qe_bipush, Int.reduceLE, Int.reduceLT, Int.reduceNeg, dX8_begins_6, qe_icmp_ne, q_br, q_tg, Int.reduceNatCast', Int.reduceAdd, Int.reduceToNat, dX8_begins_9, qe_iconst, dX8_begins_10, qe_istore_1, q_st1, q_st2, q_clr, Value.category, Nat.reduceEqDiff, reduceIte, dX8_begins_11, qe_iload_1, qe_il, dX8_begins_12, qe_sipush, dX8_begins_15, qe_icmp_ge, dX8_begins_18, dX8_begins_19, qF_8_7, dX8_begins_22, dX8_begins_25, dX8_begins_26, qe_iadd, dX8_begins_27, dX8_begins_28, dX8_begins_31, dX8_begins_34, dX8_begins_35, dX8_begins_36, qe_lald, qe_aj, dX8_begins_37, qe_last, qe_bj, dX8_begins_38, qe_iinc, qe_ii, dX8_begins_41, qe_goto, dX8_begins_44, dX8_begins_45, qe_dup_i, qe_dup_r, dX8_begins_46, dX8_begins_49, dX8_begins_50, qe_isub, dX8_begins_51, qe_put, qe_pf, qe_pfF, qe_fp, qe_pv_i, qe_pv_l, qe_pv_a, qe_pv_o, qe_pv_z0, qe_pv_z1, List.set_cons_zero, List.set_cons_succ, dX8_begins_54, dX8_begins_55, dX8_begins_56, dX8_begins_59, dX8_begins_60, dX8_begins_61, dX8_begins_64, dX8_begins_65, dX8_begins_66, dX8_begins_67, dX8_begins_70, dX8_begins_73, dX8_begins_74, dX8_begins_77, dX8_begins_80, dX8_begins_81, dX8_begins_84, qe_imul, dX8_begins_85, dX8_begins_86, dX8_begins_87, dX8_begins_88, dX8_begins_91, dX8_begins_92, dX8_begins_93, dX8_begins_94, dX8_begins_97, dX8_begins_100, qe_vret, v0, v1, iI_add]
      rw [show (1128 : Int) + c = ((1128 + c : Nat) : Int) by omega, show (2256 : Int) + c = ((2256 + c : Nat) : Int) by omega]
      simp (disch := omega) only [iI_le, iI_inN, iI_clN, true_and]
      refine ⟨fun q => absurd q (by omega), fun _ => ?_⟩
      refine ih (c + 1) _ _ (by omega) (by rw [q_set_n _ _ (by omega)]; exact v0) (q_set_s _ _ _) (fv.set (by omega) (by omega)) (fun j => ?_) hh
      have e0 : g (2256 + c) = f (2256 + c) := by rw [hg, if_neg (by omega)]
      by_cases q : j = 1128 + c
      · rw [q, pk_uLs, if_pos (by omega), e0, show 1128 + c + 1128 = 2256 + c by omega]
      · rw [pk_uLn q, hg j]
        by_cases q2 : 1128 ≤ j ∧ j < 1128 + c
        · rw [if_pos q2, if_pos (by omega)]
        · rw [if_neg q2, if_neg (by omega)]
  by_cases c6 : (yH y).1 = 6
  · have eP : (yH (yPush y)).1 = 6 := by show (if (yH y).1 < 6 then (yH y).1 + 1 else 6) = 6; rw [if_neg (by omega)]
    have eH : ∀ i, (yH (yPush y)).2 i = if i = 5 then (yS y, yE y) else (yH y).2 (i + 1) := fun i => by
      show (if (yH y).1 < 6 then _ else (if i = 5 then (yS y, yE y) else (yH y).2 (i + 1))) = _
      rw [if_neg (by omega)]
    rw [c6] at hw
    rw [eP] at h
    refine hG (fun pc => pc == 11 || pc == 66) 60 _ _ _ _ _ _ ?_
    simp only [qe_x, qe_v, q_get, Bool.cond_false, Bool.cond_true, Nat.reduceAdd, Nat.reduceBEq, Nat.reduceLT, Nat.reduceLeDiff, Nat.add_zero, Nat.zero_add, Nat.le_refl, true_and, and_true, List.length_cons, List.length_nil, Option.some.injEq, exists_eq_left', exists_eq_left, exists_eq', reduceCtorEq, dX8_begins_0, qe_aload_0, qe_al, dX8_begins_1, qe_get, qF_8_49, qe_gf, qe_fg, List.getElem?_cons_zero, List.getElem?_cons_succ, dX8_begins_4, qe_bipush, Int.reduceLE, Int.reduceLT, Int.reduceNeg, dX8_begins_6, qe_icmp_ne, q_br, q_tg, Int.reduceNatCast', Int.reduceAdd, Int.reduceToNat, dX8_begins_9, qe_iconst, dX8_begins_10, qe_istore_1, q_st1, q_st2, q_clr, Value.category, Nat.reduceEqDiff, reduceIte, dX8_begins_11, qe_iload_1, qe_il, dX8_begins_12, qe_sipush, dX8_begins_15, qe_icmp_ge, dX8_begins_18, dX8_begins_19, qF_8_7, dX8_begins_22, dX8_begins_25, dX8_begins_26, qe_iadd, dX8_begins_27, dX8_begins_28, dX8_begins_31, dX8_begins_34, dX8_begins_35, dX8_begins_36, qe_lald, qe_aj, dX8_begins_37, qe_last, qe_bj, dX8_begins_38, qe_iinc, qe_ii, dX8_begins_41, qe_goto, dX8_begins_44, dX8_begins_45, qe_dup_i, qe_dup_r, dX8_begins_46, dX8_begins_49, dX8_begins_50, qe_isub, dX8_begins_51, qe_put, qe_pf, qe_pfF, qe_fp, qe_pv_i, qe_pv_l, qe_pv_a, qe_pv_o, qe_pv_z0, qe_pv_z1, List.set_cons_zero, List.set_cons_succ, dX8_begins_54, dX8_begins_55, dX8_begins_56, dX8_begins_59, dX8_begins_60, dX8_begins_61, dX8_begins_64, dX8_begins_65, dX8_begins_66, dX8_begins_67, dX8_begins_70, dX8_begins_73, dX8_begins_74, dX8_begins_77, dX8_begins_80, dX8_begins_81, dX8_begins_84, qe_imul, dX8_begins_85, dX8_begins_86, dX8_begins_87, dX8_begins_88, dX8_begins_91, dX8_begins_92, dX8_begins_93, dX8_begins_94, dX8_begins_97, dX8_begins_100, qe_vret, hw]
    refine ⟨fun q => absurd trivial q, fun _ => ?_⟩
    refine l1 5640 0 w f (by omega) hw hp fr.rf (fun j => by rw [if_neg (by omega)]) (fun g1 w1 a0 a1 f1 e1 => ?_)
    refine l2 1128 0 w1 6 g1 g1 (by omega) (by omega) (by omega) a0 a1 f1 (fun j => by rw [if_neg (by omega)]) (fun g2 w2 b0 b1 f2 e2 => ?_)
    refine h g2 w2 b0 b1 ⟨hf.1.mv o2' (fun c hc => ?_), fun i hi => ?_⟩ f2
    · rw [e2, if_neg (by omega), e1, if_neg (by omega)]
    · rw [eP] at hi
      rw [eH i]
      by_cases q : i = 5
      · rw [if_pos q, q]
        refine hf.1.mv o2' (fun c hc => ?_)
        rw [e2, if_pos (by omega), e1, if_neg (by omega)]
        exact congrArg f (by omega)
      · rw [if_neg q]
        refine (hf.2 (i + 1) (by omega)).mv (o4 (i + 1) (by omega)).2.2 (fun c hc => ?_)
        rw [e2, if_neg (by omega), e1, if_pos (by omega)]
        exact congrArg f (by omega)
  · have eP : (yH (yPush y)).1 = (yH y).1 + 1 := by show (if (yH y).1 < 6 then (yH y).1 + 1 else 6) = _; rw [if_pos (by omega)]
    have eH : ∀ i, (yH (yPush y)).2 i = if i = (yH y).1 then (yS y, yE y) else (yH y).2 i := fun i => by
      show (if (yH y).1 < 6 then (if i = (yH y).1 then (yS y, yE y) else (yH y).2 i) else _) = _
      rw [if_pos (by omega)]
    rw [eP] at h
    generalize hx : (yH y).1 = x at *
    refine hG (fun pc => pc == 11 || pc == 66) 60 _ _ _ _ _ _ ?_
    simp only [qe_x, qe_v, q_get, Bool.cond_false, Bool.cond_true, Nat.reduceAdd, Nat.reduceBEq, Nat.reduceLT, Nat.reduceLeDiff, Nat.add_zero, Nat.zero_add, Nat.le_refl, true_and, and_true, List.length_cons, List.length_nil, Option.some.injEq, exists_eq_left', exists_eq_left, exists_eq', reduceCtorEq, dX8_begins_0, qe_aload_0, qe_al, dX8_begins_1, qe_get, qF_8_49, qe_gf, qe_fg, List.getElem?_cons_zero, List.getElem?_cons_succ, dX8_begins_4, qe_bipush, Int.reduceLE, Int.reduceLT, Int.reduceNeg, dX8_begins_6, qe_icmp_ne, q_br, q_tg, Int.reduceNatCast', Int.reduceAdd, Int.reduceToNat, dX8_begins_9, qe_iconst, dX8_begins_10, qe_istore_1, q_st1, q_st2, q_clr, Value.category, Nat.reduceEqDiff, reduceIte, dX8_begins_11, qe_iload_1, qe_il, dX8_begins_12, qe_sipush, dX8_begins_15, qe_icmp_ge, dX8_begins_18, dX8_begins_19, qF_8_7, dX8_begins_22, dX8_begins_25, dX8_begins_26, qe_iadd, dX8_begins_27, dX8_begins_28, dX8_begins_31, dX8_begins_34, dX8_begins_35, dX8_begins_36, qe_lald, qe_aj, dX8_begins_37, qe_last, qe_bj, dX8_begins_38, qe_iinc, qe_ii, dX8_begins_41, qe_goto, dX8_begins_44, dX8_begins_45, qe_dup_i, qe_dup_r, dX8_begins_46, dX8_begins_49, dX8_begins_50, qe_isub, dX8_begins_51, qe_put, qe_pf, qe_pfF, qe_fp, qe_pv_i, qe_pv_l, qe_pv_a, qe_pv_o, qe_pv_z0, qe_pv_z1, List.set_cons_zero, List.set_cons_succ, dX8_begins_54, dX8_begins_55, dX8_begins_56, dX8_begins_59, dX8_begins_60, dX8_begins_61, dX8_begins_64, dX8_begins_65, dX8_begins_66, dX8_begins_67, dX8_begins_70, dX8_begins_73, dX8_begins_74, dX8_begins_77, dX8_begins_80, dX8_begins_81, dX8_begins_84, qe_imul, dX8_begins_85, dX8_begins_86, dX8_begins_87, dX8_begins_88, dX8_begins_91, dX8_begins_92, dX8_begins_93, dX8_begins_94, dX8_begins_97, dX8_begins_100, qe_vret, hw, iI_add]
    simp (disch := omega) only [iI_eq]
    refine ⟨fun _ => ?_, fun q => absurd (show ¬ (x : Int) = 6 by omega) q⟩
    refine l2 1128 0 _ (x + 1) f f (by omega) (by omega) (by omega) (q_set_s _ _ _) (by rw [q_set_n _ _ (by omega)]; exact hp) (fr.rf.set (by omega) (by omega)) (fun j => by rw [if_neg (by omega)]) (fun g2 w2 b0 b1 f2 e2 => ?_)
    refine h g2 w2 b0 b1 ⟨hf.1.mv o2' (fun c hc => ?_), fun i hi => ?_⟩ f2
    · rw [e2, if_neg (by omega)]
    · rw [eP] at hi
      rw [eH i]
      by_cases q : i = x
      · rw [if_pos q, q]
        refine hf.1.mv o2' (fun c hc => ?_)
        rw [e2, if_pos (by omega)]
        exact congrArg f (by omega)
      · rw [if_neg q]
        refine (hf.2 i (by omega)).mv (o4 i (by omega)).2.2 (fun c hc => ?_)
        rw [e2, if_neg (by omega)]
