/-! ===== Model: settings ===== -/
theorem pgY.st {f g : Nat → Int64} {y : QY} {S : QSt} {E : QLe} (h : pgY f y) (hy : yOk y) (hg : ∀ j, 1128 ≤ j → g j = f j) (hb : blk g 0 S E) : pgY g (S, E, y.2.2) := by
  obtain ⟨o1, o2, o2', o3, o4, -⟩ := hy
  exact ⟨hb, fun i hi => (h.2 i hi).mv (o4 i hi).2.2 (fun c hc => hg _ (by omega))⟩
/-- one number of the head changes -/
theorem blk.hd {f : Nat → Int64} {c : Nat} {x : Int64} {S S' : QSt} {E : QLe} (h : blk f 0 S E) (hc : c < 40) (h1 : pgH S' E c = x) (h2 : ∀ j, j < 40 → j ≠ c → pgH S' E j = pgH S E j) : blk (vp_updL f c x) 0 S' E := by
  refine ⟨fun j hj => ?_, fun i hi j hj => ?_⟩
  · rw [Nat.zero_add]
    by_cases q : j = c
    · rw [q, pk_uLs, h1]
    · rw [pk_uLn q, h2 j hj q]
      have := h.1 j hj
      rw [Nat.zero_add] at this
      exact this
  · rw [pk_uLn (by omega)]
    exact h.2 i hi j hj
section
variable {M : Nat} {y : QY} {w : QWd} {sz : Nat} {post : QPo}
theorem m_sets {c : Nat} {v : Int32} {wy ty ov um us un st sp bk od en : Int32} {lo0 up0 xu xd ld : Int64} {f : Nat → Int64} (hw : w M = some (cMo M (iI (yH y).1) wy ty lo0 up0 ov um us un xu xd ld st sp bk od en)) (hp : w (M + 1) = some (aLng 7896 f)) (hf : pgY f y) (hy : yOk y) (hc : c < 40)
    (h : ∀ g w', w' M = some (cMo M (iI (yH (yPush y)).1) wy ty lo0 up0 ov um us un xu xd ld st sp bk od en) → w' (M + 1) = some (aLng 7896 (vp_updL g c v.toInt64)) → pgY g (yPush y) → fr w w' M 2 → post (some (.int (g c).toInt32)) w') : T_X8_sets [.ref M, .int (iI c), .int v] w sz post := by
  refine Ti_X8_sets (fun G hG => hG (fun _ => false) 60 _ _ _ _ _ _ ?_)
  simp only [qe_x, qe_v, q_get, Bool.cond_false, Bool.cond_true, Nat.reduceAdd, Nat.reduceBEq, Nat.reduceLT, Nat.reduceLeDiff, Nat.add_zero, Nat.zero_add, Nat.le_refl, true_and, and_true, List.length_cons, List.length_nil, Option.some.injEq, exists_eq_left', exists_eq_left, exists_eq', reduceCtorEq, dX8_sets_0, qe_aload_0, qe_al, dX8_sets_1, qe_invv, ms_X8_sets_105, qe_c0, qe_c1, qe_c2, qe_c3, qe_c8, qe_c9, qe_cs, qe_cv, qe_tk, qe_tk0, qe_cat0, qe_cati, qe_catl, qe_catr, qe_catn, qe_ob, qe_cpy, qe_tl, qe_tl0, dX8_sets_4, dX8_sets_5, qe_get, qF_8_7, qe_gf, qe_fg, List.getElem?_cons_zero, List.getElem?_cons_succ, dX8_sets_8, qe_iload_1, qe_il, dX8_sets_9, qe_lald, qe_aj, dX8_sets_10, qe_l2i, dX8_sets_11, qe_istore_3, q_st1, q_st2, q_clr, Value.category, Nat.reduceEqDiff, reduceIte, dX8_sets_12, dX8_sets_13, dX8_sets_16, dX8_sets_17, qe_iload_2, dX8_sets_18, qe_i2l, dX8_sets_19, qe_last, qe_bj, dX8_sets_20, qe_iload_3, dX8_sets_21, qe_iret, qe_nar_i, qe_nar_0, qe_nar_1]
  refine ⟨⟨_, hw⟩, m_begins hw hp hf hy (fun g w1 a0 a1 a2 f1 => ?_)⟩
  simp only [qe_x, qe_v, q_get, Bool.cond_false, Bool.cond_true, Nat.reduceAdd, Nat.reduceBEq, Nat.reduceLT, Nat.reduceLeDiff, Nat.add_zero, Nat.zero_add, Nat.le_refl, true_and, and_true, List.length_cons, List.length_nil, Option.some.injEq, exists_eq_left', exists_eq_left, exists_eq', reduceCtorEq, dX8_sets_0, qe_aload_0, qe_al, dX8_sets_1, qe_invv, ms_X8_sets_105, qe_c0, qe_c1, qe_c2, qe_c3, qe_c8, qe_c9, qe_cs, qe_cv, qe_tk, qe_tk0, qe_cat0, qe_cati, qe_catl, qe_catr, qe_catn, qe_ob, qe_cpy, qe_tl, qe_tl0, dX8_sets_4, dX8_sets_5, qe_get, qF_8_7, qe_gf, qe_fg, List.getElem?_cons_zero, List.getElem?_cons_succ, dX8_sets_8, qe_iload_1, qe_il, dX8_sets_9, qe_lald, qe_aj, dX8_sets_10, qe_l2i, dX8_sets_11, qe_istore_3, q_st1, q_st2, q_clr, Value.category, Nat.reduceEqDiff, reduceIte, dX8_sets_12, dX8_sets_13, dX8_sets_16, dX8_sets_17, qe_iload_2, dX8_sets_18, qe_i2l, dX8_sets_19, qe_last, qe_bj, dX8_sets_20, qe_iload_3, dX8_sets_21, qe_iret, qe_nar_i, qe_nar_0, qe_nar_1, a0, a1]
  simp (disch := omega) only [iI_inN, iI_clN, true_and]
  exact h g _ (by rw [q_set_n _ _ (by omega)]; exact a0) (q_set_s _ _ _) a2 (f1.set (by omega) (by omega))
theorem m_setMode {m : Int} (hm : mAt w M y) (hy : yOk y) (hmm : i32 m) (h : ∀ w', mAt w' M (aSetMode y m).2 → fr w w' M 11 → post (some (.int (iI (aSetMode y m).1))) w') : T_X8_setMode [.ref M, .int (iI m)] w sz post := by
  unfold aSetMode at h
  obtain ⟨⟨lo, up, ov, um, us, un, xu, xd, ld, st, sp, bk, od, en, h0⟩, ⟨f, hp, hf⟩, ha⟩ := id hm
  refine Ti_X8_setMode (fun G hG => hG (fun _ => false) 60 _ _ _ _ _ _ ?_)
  simp only [qe_x, qe_v, q_get, Bool.cond_false, Bool.cond_true, Nat.reduceAdd, Nat.reduceBEq, Nat.reduceLT, Nat.reduceLeDiff, Nat.add_zero, Nat.zero_add, Nat.le_refl, true_and, and_true, List.length_cons, List.length_nil, Option.some.injEq, exists_eq_left', exists_eq_left, exists_eq', reduceCtorEq, dX8_setMode_0, qe_iload_1, qe_il, dX8_setMode_1, qe_iconst, dX8_setMode_2, dX8_setMode_3, qe_invs, ms_X8_setMode_53, qe_c0, qe_c1, qe_c2, qe_c3, qe_c8, qe_c9, qe_cs, qe_cv, qe_tk, qe_tk0, qe_cat0, qe_cati, qe_catl, qe_catr, qe_catn, qe_ob, qe_cpy, qe_tl, qe_tl0, dX8_setMode_6, qe_if_eq, q_br, q_tg, Int.reduceNatCast', Int.reduceAdd, Int.reduceToNat, Int.reduceLE, Int.reduceNeg, dX8_setMode_9, qe_aload_0, qe_al, dX8_setMode_10, qe_bipush, Int.reduceLT, dX8_setMode_12, dX8_setMode_13, qe_invv, ms_X8_setMode_129, dX8_setMode_16, qe_goto, dX8_setMode_19, qe_ldc, qe_pk, qCi_8_104, dX8_setMode_21, qe_iret, qe_nar_i, qe_nar_0, qe_nar_1]
  refine m_in hmm ⟨by omega, by omega⟩ ⟨by omega, by omega⟩ ?_
  by_cases c : 0 ≤ m ∧ m < 5
  · rw [if_pos c] at h
    rw [decide_eq_true (show 0 ≤ m ∧ m ≤ 4 by omega), bI_t]
    obtain ⟨m, rfl⟩ : ∃ R : Nat, m = R := ⟨m.toNat, by omega⟩
    rw [Int.toNat_natCast] at h
    simp only [qe_x, qe_v, q_get, Bool.cond_false, Bool.cond_true, Nat.reduceAdd, Nat.reduceBEq, Nat.reduceLT, Nat.reduceLeDiff, Nat.add_zero, Nat.zero_add, Nat.le_refl, true_and, and_true, List.length_cons, List.length_nil, Option.some.injEq, exists_eq_left', exists_eq_left, exists_eq', reduceCtorEq, dX8_setMode_0, qe_iload_1, qe_il, dX8_setMode_1, qe_iconst, dX8_setMode_2, dX8_setMode_3, qe_invs, ms_X8_setMode_53, qe_c0, qe_c1, qe_c2, qe_c3, qe_c8, qe_c9, qe_cs, qe_cv, qe_tk, qe_tk0, qe_cat0, qe_cati, qe_catl, qe_catr, qe_catn, qe_ob, qe_cpy, qe_tl, qe_tl0, dX8_setMode_6, qe_if_eq, q_br, q_tg, Int.reduceNatCast', Int.reduceAdd, Int.reduceToNat, Int.reduceLE, Int.reduceNeg, dX8_setMode_9, qe_aload_0, qe_al, dX8_setMode_10, qe_bipush, Int.reduceLT, dX8_setMode_12, dX8_setMode_13, qe_invv, ms_X8_setMode_129, dX8_setMode_16, qe_goto, dX8_setMode_19, qe_ldc, qe_pk, qCi_8_104, dX8_setMode_21, qe_iret, qe_nar_i, qe_nar_0, qe_nar_1]
    refine ⟨fun q => absurd q i10, fun _ => ⟨⟨_, h0⟩, m_sets (c := 28) h0 hp hf hy (by omega) (fun g w1 a0 a1 a2 f1 => ?_)⟩⟩
    simp only [qe_x, qe_v, q_get, Bool.cond_false, Bool.cond_true, Nat.reduceAdd, Nat.reduceBEq, Nat.reduceLT, Nat.reduceLeDiff, Nat.add_zero, Nat.zero_add, Nat.le_refl, true_and, and_true, List.length_cons, List.length_nil, Option.some.injEq, exists_eq_left', exists_eq_left, exists_eq', reduceCtorEq, dX8_setMode_0, qe_iload_1, qe_il, dX8_setMode_1, qe_iconst, dX8_setMode_2, dX8_setMode_3, qe_invs, ms_X8_setMode_53, qe_c0, qe_c1, qe_c2, qe_c3, qe_c8, qe_c9, qe_cs, qe_cv, qe_tk, qe_tk0, qe_cat0, qe_cati, qe_catl, qe_catr, qe_catn, qe_ob, qe_cpy, qe_tl, qe_tl0, dX8_setMode_6, qe_if_eq, q_br, q_tg, Int.reduceNatCast', Int.reduceAdd, Int.reduceToNat, Int.reduceLE, Int.reduceNeg, dX8_setMode_9, qe_aload_0, qe_al, dX8_setMode_10, qe_bipush, Int.reduceLT, dX8_setMode_12, dX8_setMode_13, qe_invv, ms_X8_setMode_129, dX8_setMode_16, qe_goto, dX8_setMode_19, qe_ldc, qe_pk, qCi_8_104, dX8_setMode_21, qe_iret, qe_nar_i, qe_nar_0, qe_nar_1]
    have e1 : (g 28).toInt32 = iI (sMo (yS y)) := by rw [show g 28 = lI (sMo (yS y) : Int) from a2.1.1 28 (by omega), lI_i]
    rw [e1]
    refine h w1 ⟨⟨_, _, _, _, _, _, _, _, _, _, _, _, _, _, a0⟩, ⟨_, a1, ?_⟩, ha.fr f1 (by omega)⟩ (f1.up (by omega) (by omega))
    rw [iI_l (by omega) (by omega)]
    refine a2.st (yPush_ok hy) (fun j hj => pk_uLn (by omega)) (a2.1.hd (by omega) rfl (fun j hj hne => ?_))
    unfold pgH
    repeat' split
    all_goals first | rfl | omega
  · rw [if_neg c] at h
    rw [decide_eq_false (show ¬ (0 ≤ m ∧ m ≤ 4) by omega), bI_f]
    simp only [qe_x, qe_v, q_get, Bool.cond_false, Bool.cond_true, Nat.reduceAdd, Nat.reduceBEq, Nat.reduceLT, Nat.reduceLeDiff, Nat.add_zero, Nat.zero_add, Nat.le_refl, true_and, and_true, List.length_cons, List.length_nil, Option.some.injEq, exists_eq_left', exists_eq_left, exists_eq', reduceCtorEq, dX8_setMode_0, qe_iload_1, qe_il, dX8_setMode_1, qe_iconst, dX8_setMode_2, dX8_setMode_3, qe_invs, ms_X8_setMode_53, qe_c0, qe_c1, qe_c2, qe_c3, qe_c8, qe_c9, qe_cs, qe_cv, qe_tk, qe_tk0, qe_cat0, qe_cati, qe_catl, qe_catr, qe_catn, qe_ob, qe_cpy, qe_tl, qe_tl0, dX8_setMode_6, qe_if_eq, q_br, q_tg, Int.reduceNatCast', Int.reduceAdd, Int.reduceToNat, Int.reduceLE, Int.reduceNeg, dX8_setMode_9, qe_aload_0, qe_al, dX8_setMode_10, qe_bipush, Int.reduceLT, dX8_setMode_12, dX8_setMode_13, qe_invv, ms_X8_setMode_129, dX8_setMode_16, qe_goto, dX8_setMode_19, qe_ldc, qe_pk, qCi_8_104, dX8_setMode_21, qe_iret, qe_nar_i, qe_nar_0, qe_nar_1]
    exact ⟨fun _ => h w hm fr.rf, fun q => absurd trivial q⟩
theorem m_setBits {m : Int} (hm : mAt w M y) (hy : yOk y) (hmm : i32 m) (h : ∀ w', mAt w' M (aSetBits y m).2 → fr w w' M 11 → post (some (.int (iI (aSetBits y m).1))) w') : T_X8_setBits [.ref M, .int (iI m)] w sz post := by
  unfold aSetBits at h
  obtain ⟨⟨lo, up, ov, um, us, un, xu, xd, ld, st, sp, bk, od, en, h0⟩, ⟨f, hp, hf⟩, ha⟩ := id hm
  refine Ti_X8_setBits (fun G hG => hG (fun _ => false) 60 _ _ _ _ _ _ ?_)
  simp only [qe_x, qe_v, q_get, Bool.cond_false, Bool.cond_true, Nat.reduceAdd, Nat.reduceBEq, Nat.reduceLT, Nat.reduceLeDiff, Nat.add_zero, Nat.zero_add, Nat.le_refl, true_and, and_true, List.length_cons, List.length_nil, Option.some.injEq, exists_eq_left', exists_eq_left, exists_eq', reduceCtorEq, dX8_setBits_0, qe_iload_1, qe_il, dX8_setBits_1, qe_iconst, dX8_setBits_2, qe_bipush, Int.reduceLE, Int.reduceLT, Int.reduceNeg, dX8_setBits_4, qe_invs, ms_X8_setBits_53, qe_c0, qe_c1, qe_c2, qe_c3, qe_c8, qe_c9, qe_cs, qe_cv, qe_tk, qe_tk0, qe_cat0, qe_cati, qe_catl, qe_catr, qe_catn, qe_ob, qe_cpy, qe_tl, qe_tl0, dX8_setBits_7, qe_if_eq, q_br, q_tg, Int.reduceNatCast', Int.reduceAdd, Int.reduceToNat, dX8_setBits_10, qe_aload_0, qe_al, dX8_setBits_11, dX8_setBits_13, dX8_setBits_14, qe_invv, ms_X8_setBits_129, dX8_setBits_17, qe_goto, dX8_setBits_20, qe_ldc, qe_pk, qCi_8_104, dX8_setBits_22, qe_iret, qe_nar_i, qe_nar_0, qe_nar_1]
  refine m_in hmm ⟨by omega, by omega⟩ ⟨by omega, by omega⟩ ?_
  by_cases c : 1 ≤ m ∧ m ≤ 8
  · rw [if_pos c] at h
    rw [decide_eq_true (show 1 ≤ m ∧ m ≤ 8 by omega), bI_t]
    obtain ⟨m, rfl⟩ : ∃ R : Nat, m = R := ⟨m.toNat, by omega⟩
    rw [Int.toNat_natCast] at h
    simp only [qe_x, qe_v, q_get, Bool.cond_false, Bool.cond_true, Nat.reduceAdd, Nat.reduceBEq, Nat.reduceLT, Nat.reduceLeDiff, Nat.add_zero, Nat.zero_add, Nat.le_refl, true_and, and_true, List.length_cons, List.length_nil, Option.some.injEq, exists_eq_left', exists_eq_left, exists_eq', reduceCtorEq, dX8_setBits_0, qe_iload_1, qe_il, dX8_setBits_1, qe_iconst, dX8_setBits_2, qe_bipush, Int.reduceLE, Int.reduceLT, Int.reduceNeg, dX8_setBits_4, qe_invs, ms_X8_setBits_53, qe_c0, qe_c1, qe_c2, qe_c3, qe_c8, qe_c9, qe_cs, qe_cv, qe_tk, qe_tk0, qe_cat0, qe_cati, qe_catl, qe_catr, qe_catn, qe_ob, qe_cpy, qe_tl, qe_tl0, dX8_setBits_7, qe_if_eq, q_br, q_tg, Int.reduceNatCast', Int.reduceAdd, Int.reduceToNat, dX8_setBits_10, qe_aload_0, qe_al, dX8_setBits_11, dX8_setBits_13, dX8_setBits_14, qe_invv, ms_X8_setBits_129, dX8_setBits_17, qe_goto, dX8_setBits_20, qe_ldc, qe_pk, qCi_8_104, dX8_setBits_22, qe_iret, qe_nar_i, qe_nar_0, qe_nar_1]
    refine ⟨fun q => absurd q i10, fun _ => ⟨⟨_, h0⟩, m_sets (c := 29) h0 hp hf hy (by omega) (fun g w1 a0 a1 a2 f1 => ?_)⟩⟩
    simp only [qe_x, qe_v, q_get, Bool.cond_false, Bool.cond_true, Nat.reduceAdd, Nat.reduceBEq, Nat.reduceLT, Nat.reduceLeDiff, Nat.add_zero, Nat.zero_add, Nat.le_refl, true_and, and_true, List.length_cons, List.length_nil, Option.some.injEq, exists_eq_left', exists_eq_left, exists_eq', reduceCtorEq, dX8_setBits_0, qe_iload_1, qe_il, dX8_setBits_1, qe_iconst, dX8_setBits_2, qe_bipush, Int.reduceLE, Int.reduceLT, Int.reduceNeg, dX8_setBits_4, qe_invs, ms_X8_setBits_53, qe_c0, qe_c1, qe_c2, qe_c3, qe_c8, qe_c9, qe_cs, qe_cv, qe_tk, qe_tk0, qe_cat0, qe_cati, qe_catl, qe_catr, qe_catn, qe_ob, qe_cpy, qe_tl, qe_tl0, dX8_setBits_7, qe_if_eq, q_br, q_tg, Int.reduceNatCast', Int.reduceAdd, Int.reduceToNat, dX8_setBits_10, qe_aload_0, qe_al, dX8_setBits_11, dX8_setBits_13, dX8_setBits_14, qe_invv, ms_X8_setBits_129, dX8_setBits_17, qe_goto, dX8_setBits_20, qe_ldc, qe_pk, qCi_8_104, dX8_setBits_22, qe_iret, qe_nar_i, qe_nar_0, qe_nar_1]
    have e1 : (g 29).toInt32 = iI (sBi (yS y)) := by rw [show g 29 = lI (sBi (yS y) : Int) from a2.1.1 29 (by omega), lI_i]
    rw [e1]
    refine h w1 ⟨⟨_, _, _, _, _, _, _, _, _, _, _, _, _, _, a0⟩, ⟨_, a1, ?_⟩, ha.fr f1 (by omega)⟩ (f1.up (by omega) (by omega))
    rw [iI_l (by omega) (by omega)]
    refine a2.st (yPush_ok hy) (fun j hj => pk_uLn (by omega)) (a2.1.hd (by omega) rfl (fun j hj hne => ?_))
    unfold pgH
    repeat' split
    all_goals first | rfl | omega
  · rw [if_neg c] at h
    rw [decide_eq_false (show ¬ (1 ≤ m ∧ m ≤ 8) by omega), bI_f]
    simp only [qe_x, qe_v, q_get, Bool.cond_false, Bool.cond_true, Nat.reduceAdd, Nat.reduceBEq, Nat.reduceLT, Nat.reduceLeDiff, Nat.add_zero, Nat.zero_add, Nat.le_refl, true_and, and_true, List.length_cons, List.length_nil, Option.some.injEq, exists_eq_left', exists_eq_left, exists_eq', reduceCtorEq, dX8_setBits_0, qe_iload_1, qe_il, dX8_setBits_1, qe_iconst, dX8_setBits_2, qe_bipush, Int.reduceLE, Int.reduceLT, Int.reduceNeg, dX8_setBits_4, qe_invs, ms_X8_setBits_53, qe_c0, qe_c1, qe_c2, qe_c3, qe_c8, qe_c9, qe_cs, qe_cv, qe_tk, qe_tk0, qe_cat0, qe_cati, qe_catl, qe_catr, qe_catn, qe_ob, qe_cpy, qe_tl, qe_tl0, dX8_setBits_7, qe_if_eq, q_br, q_tg, Int.reduceNatCast', Int.reduceAdd, Int.reduceToNat, dX8_setBits_10, qe_aload_0, qe_al, dX8_setBits_11, dX8_setBits_13, dX8_setBits_14, qe_invv, ms_X8_setBits_129, dX8_setBits_17, qe_goto, dX8_setBits_20, qe_ldc, qe_pk, qCi_8_104, dX8_setBits_22, qe_iret, qe_nar_i, qe_nar_0, qe_nar_1]
    exact ⟨fun _ => h w hm fr.rf, fun q => absurd trivial q⟩
theorem tl_ti (x : Int32) : x.toInt64.toInt32 = x := by
  rw [iI_of x]
  have := iI_rng x
  rw [iI_l (by omega) (by omega), lI_i]
theorem m_setSeed {s : Int32} (hm : mAt w M y) (hy : yOk y) (h : ∀ w', mAt w' M (aSetSeed y s).2 → fr w w' M 11 → post (some (.int (aSetSeed y s).1)) w') : T_X8_setSeed [.ref M, .int s] w sz post := by
  unfold aSetSeed at h
  obtain ⟨⟨lo, up, ov, um, us, un, xu, xd, ld, st, sp, bk, od, en, h0⟩, ⟨f, hp, hf⟩, ha⟩ := id hm
  refine Ti_X8_setSeed (fun G hG => hG (fun _ => false) 60 _ _ _ _ _ _ ?_)
  simp only [qe_x, qe_v, q_get, Bool.cond_false, Bool.cond_true, Nat.reduceAdd, Nat.reduceBEq, Nat.reduceLT, Nat.reduceLeDiff, Nat.add_zero, Nat.zero_add, Nat.le_refl, true_and, and_true, List.length_cons, List.length_nil, Option.some.injEq, exists_eq_left', exists_eq_left, exists_eq', reduceCtorEq, dX8_setSeed_0, qe_aload_0, qe_al, dX8_setSeed_1, qe_bipush, Int.reduceLE, Int.reduceLT, Int.reduceNeg, dX8_setSeed_3, qe_iload_1, qe_il, dX8_setSeed_4, qe_invv, ms_X8_setSeed_129, qe_c0, qe_c1, qe_c2, qe_c3, qe_c8, qe_c9, qe_cs, qe_cv, qe_tk, qe_tk0, qe_cat0, qe_cati, qe_catl, qe_catr, qe_catn, qe_ob, qe_cpy, qe_tl, qe_tl0, dX8_setSeed_7, qe_iret, qe_nar_i, qe_nar_0, qe_nar_1]
  refine ⟨⟨_, h0⟩, m_sets (c := 30) h0 hp hf hy (by omega) (fun g w1 a0 a1 a2 f1 => ?_)⟩
  simp only [qe_x, qe_v, q_get, Bool.cond_false, Bool.cond_true, Nat.reduceAdd, Nat.reduceBEq, Nat.reduceLT, Nat.reduceLeDiff, Nat.add_zero, Nat.zero_add, Nat.le_refl, true_and, and_true, List.length_cons, List.length_nil, Option.some.injEq, exists_eq_left', exists_eq_left, exists_eq', reduceCtorEq, dX8_setSeed_0, qe_aload_0, qe_al, dX8_setSeed_1, qe_bipush, Int.reduceLE, Int.reduceLT, Int.reduceNeg, dX8_setSeed_3, qe_iload_1, qe_il, dX8_setSeed_4, qe_invv, ms_X8_setSeed_129, qe_c0, qe_c1, qe_c2, qe_c3, qe_c8, qe_c9, qe_cs, qe_cv, qe_tk, qe_tk0, qe_cat0, qe_cati, qe_catl, qe_catr, qe_catn, qe_ob, qe_cpy, qe_tl, qe_tl0, dX8_setSeed_7, qe_iret, qe_nar_i, qe_nar_0, qe_nar_1]
  have e1 : (g 30).toInt32 = sSe (yS y) := by rw [show g 30 = (sSe (yS y)).toInt64 from a2.1.1 30 (by omega), tl_ti]
  rw [e1]
  refine h w1 ⟨⟨_, _, _, _, _, _, _, _, _, _, _, _, _, _, a0⟩, ⟨_, a1, ?_⟩, ha.fr f1 (by omega)⟩ (f1.up (by omega) (by omega))
  refine a2.st (yPush_ok hy) (fun j hj => pk_uLn (by omega)) (a2.1.hd (by omega) rfl (fun j hj hne => ?_))
  unfold pgH
  repeat' split
  all_goals first | rfl | omega
theorem pgH_v {S : QSt} {E : QLe} {r : Nat} (hr : r < 8) : pgH S E (20 + r) = lI (sVa S r) := by
  unfold pgH
  rw [if_neg (by omega), if_neg (by omega), if_pos (by omega), show 20 + r - 20 = r by omega]
theorem pgH_f {S : QSt} {E : QLe} {r : Nat} (hr : r < 8) : pgH S E (12 + r) = lI (sFn S r : Int) := by
  unfold pgH
  rw [if_neg (by omega), if_pos (by omega), show 12 + r - 12 = r by omega]
theorem m_value {r : Int} (hm : mAt w M y) (hr : i32 r) (h : post (some (.int (iI (aValue y r)))) w) : T_X8_value [.ref M, .int (iI r)] w sz post := by
  unfold aValue at h
  obtain ⟨⟨lo, up, ov, um, us, un, xu, xd, ld, st, sp, bk, od, en, h0⟩, ⟨f, hp, hf⟩, ha⟩ := id hm
  refine Ti_X8_value (fun G hG => hG (fun _ => false) 60 _ _ _ _ _ _ ?_)
  simp only [qe_x, qe_v, q_get, Bool.cond_false, Bool.cond_true, Nat.reduceAdd, Nat.reduceBEq, Nat.reduceLT, Nat.reduceLeDiff, Nat.add_zero, Nat.zero_add, Nat.le_refl, true_and, and_true, List.length_cons, List.length_nil, Option.some.injEq, exists_eq_left', exists_eq_left, exists_eq', reduceCtorEq, dX8_value_0, qe_iload_1, qe_il, dX8_value_1, qe_invs, ms_X8_value_116, qe_c0, qe_c1, qe_c2, qe_c3, qe_c8, qe_c9, qe_cs, qe_cv, qe_tk, qe_tk0, qe_cat0, qe_cati, qe_catl, qe_catr, qe_catn, qe_ob, qe_cpy, qe_tl, qe_tl0, dX8_value_4, qe_if_eq, q_br, q_tg, Int.reduceNatCast', Int.reduceAdd, Int.reduceToNat, Int.reduceLE, Int.reduceNeg, dX8_value_7, qe_aload_0, qe_al, dX8_value_8, qe_get, qF_8_7, qe_gf, qe_fg, List.getElem?_cons_zero, List.getElem?_cons_succ, dX8_value_11, qe_bipush, Int.reduceLT, dX8_value_13, dX8_value_14, qe_iadd, dX8_value_15, qe_lald, qe_aj, dX8_value_16, qe_l2i, dX8_value_17, qe_goto, dX8_value_20, qe_ldc, qe_pk, qCi_8_104, dX8_value_22, qe_iret, qe_nar_i, qe_nar_0, qe_nar_1]
  refine m_isRegister hr ?_
  by_cases c1 : 0 ≤ r ∧ r < 8
  · rw [if_pos c1] at h
    rw [decide_eq_true c1, bI_t]
    obtain ⟨r, rfl⟩ : ∃ R : Nat, r = R := ⟨r.toNat, by omega⟩
    rw [Int.toNat_natCast] at h
    simp only [qe_x, qe_v, q_get, Bool.cond_false, Bool.cond_true, Nat.reduceAdd, Nat.reduceBEq, Nat.reduceLT, Nat.reduceLeDiff, Nat.add_zero, Nat.zero_add, Nat.le_refl, true_and, and_true, List.length_cons, List.length_nil, Option.some.injEq, exists_eq_left', exists_eq_left, exists_eq', reduceCtorEq, dX8_value_0, qe_iload_1, qe_il, dX8_value_1, qe_invs, ms_X8_value_116, qe_c0, qe_c1, qe_c2, qe_c3, qe_c8, qe_c9, qe_cs, qe_cv, qe_tk, qe_tk0, qe_cat0, qe_cati, qe_catl, qe_catr, qe_catn, qe_ob, qe_cpy, qe_tl, qe_tl0, dX8_value_4, qe_if_eq, q_br, q_tg, Int.reduceNatCast', Int.reduceAdd, Int.reduceToNat, Int.reduceLE, Int.reduceNeg, dX8_value_7, qe_aload_0, qe_al, dX8_value_8, qe_get, qF_8_7, qe_gf, qe_fg, List.getElem?_cons_zero, List.getElem?_cons_succ, dX8_value_11, qe_bipush, Int.reduceLT, dX8_value_13, dX8_value_14, qe_iadd, dX8_value_15, qe_lald, qe_aj, dX8_value_16, qe_l2i, dX8_value_17, qe_goto, dX8_value_20, qe_ldc, qe_pk, qCi_8_104, dX8_value_22, qe_iret, qe_nar_i, qe_nar_0, qe_nar_1, h0, hp, iI_add]
    rw [show (20 : Int) + (r : Int) = ((20 + r : Nat) : Int) by omega]
    simp (disch := omega) only [iI_inN, iI_clN, true_and]
    have e : f (20 + r) = lI (sVa (yS y) r) := by have := hf.1.1 (20 + r) (by omega); rw [Nat.zero_add, pgH_v (by omega)] at this; exact this
    rw [e, lI_i]
    exact ⟨fun q => absurd q i10, fun _ => h⟩
  · rw [if_neg c1] at h
    rw [decide_eq_false c1, bI_f]
    simp only [qe_x, qe_v, q_get, Bool.cond_false, Bool.cond_true, Nat.reduceAdd, Nat.reduceBEq, Nat.reduceLT, Nat.reduceLeDiff, Nat.add_zero, Nat.zero_add, Nat.le_refl, true_and, and_true, List.length_cons, List.length_nil, Option.some.injEq, exists_eq_left', exists_eq_left, exists_eq', reduceCtorEq, dX8_value_0, qe_iload_1, qe_il, dX8_value_1, qe_invs, ms_X8_value_116, qe_c0, qe_c1, qe_c2, qe_c3, qe_c8, qe_c9, qe_cs, qe_cv, qe_tk, qe_tk0, qe_cat0, qe_cati, qe_catl, qe_catr, qe_catn, qe_ob, qe_cpy, qe_tl, qe_tl0, dX8_value_4, qe_if_eq, q_br, q_tg, Int.reduceNatCast', Int.reduceAdd, Int.reduceToNat, Int.reduceLE, Int.reduceNeg, dX8_value_7, qe_aload_0, qe_al, dX8_value_8, qe_get, qF_8_7, qe_gf, qe_fg, List.getElem?_cons_zero, List.getElem?_cons_succ, dX8_value_11, qe_bipush, Int.reduceLT, dX8_value_13, dX8_value_14, qe_iadd, dX8_value_15, qe_lald, qe_aj, dX8_value_16, qe_l2i, dX8_value_17, qe_goto, dX8_value_20, qe_ldc, qe_pk, qCi_8_104, dX8_value_22, qe_iret, qe_nar_i, qe_nar_0, qe_nar_1]
    exact ⟨fun _ => h, fun q => absurd trivial q⟩
theorem m_formatOf {r : Int} (hm : mAt w M y) (hr : i32 r) (h : post (some (.int (iI (aFormatOf y r)))) w) : T_X8_formatOf [.ref M, .int (iI r)] w sz post := by
  unfold aFormatOf at h
  obtain ⟨⟨lo, up, ov, um, us, un, xu, xd, ld, st, sp, bk, od, en, h0⟩, ⟨f, hp, hf⟩, ha⟩ := id hm
  refine Ti_X8_formatOf (fun G hG => hG (fun _ => false) 60 _ _ _ _ _ _ ?_)
  simp only [qe_x, qe_v, q_get, Bool.cond_false, Bool.cond_true, Nat.reduceAdd, Nat.reduceBEq, Nat.reduceLT, Nat.reduceLeDiff, Nat.add_zero, Nat.zero_add, Nat.le_refl, true_and, and_true, List.length_cons, List.length_nil, Option.some.injEq, exists_eq_left', exists_eq_left, exists_eq', reduceCtorEq, dX8_formatOf_0, qe_iload_1, qe_il, dX8_formatOf_1, qe_invs, ms_X8_formatOf_116, qe_c0, qe_c1, qe_c2, qe_c3, qe_c8, qe_c9, qe_cs, qe_cv, qe_tk, qe_tk0, qe_cat0, qe_cati, qe_catl, qe_catr, qe_catn, qe_ob, qe_cpy, qe_tl, qe_tl0, dX8_formatOf_4, qe_if_eq, q_br, q_tg, Int.reduceNatCast', Int.reduceAdd, Int.reduceToNat, Int.reduceLE, Int.reduceNeg, dX8_formatOf_7, qe_aload_0, qe_al, dX8_formatOf_8, dX8_formatOf_9, qe_invv, ms_X8_formatOf_112, dX8_formatOf_12, qe_goto, dX8_formatOf_15, qe_ldc, qe_pk, qCi_8_104, dX8_formatOf_17, qe_iret, qe_nar_i, qe_nar_0, qe_nar_1]
  refine m_isRegister hr ?_
  by_cases c1 : 0 ≤ r ∧ r < 8
  · rw [if_pos c1] at h
    rw [decide_eq_true c1, bI_t]
    obtain ⟨r, rfl⟩ : ∃ R : Nat, r = R := ⟨r.toNat, by omega⟩
    rw [Int.toNat_natCast] at h
    simp only [qe_x, qe_v, q_get, Bool.cond_false, Bool.cond_true, Nat.reduceAdd, Nat.reduceBEq, Nat.reduceLT, Nat.reduceLeDiff, Nat.add_zero, Nat.zero_add, Nat.le_refl, true_and, and_true, List.length_cons, List.length_nil, Option.some.injEq, exists_eq_left', exists_eq_left, exists_eq', reduceCtorEq, dX8_formatOf_0, qe_iload_1, qe_il, dX8_formatOf_1, qe_invs, ms_X8_formatOf_116, qe_c0, qe_c1, qe_c2, qe_c3, qe_c8, qe_c9, qe_cs, qe_cv, qe_tk, qe_tk0, qe_cat0, qe_cati, qe_catl, qe_catr, qe_catn, qe_ob, qe_cpy, qe_tl, qe_tl0, dX8_formatOf_4, qe_if_eq, q_br, q_tg, Int.reduceNatCast', Int.reduceAdd, Int.reduceToNat, Int.reduceLE, Int.reduceNeg, dX8_formatOf_7, qe_aload_0, qe_al, dX8_formatOf_8, dX8_formatOf_9, qe_invv, ms_X8_formatOf_112, dX8_formatOf_12, qe_goto, dX8_formatOf_15, qe_ldc, qe_pk, qCi_8_104, dX8_formatOf_17, qe_iret, qe_nar_i, qe_nar_0, qe_nar_1]
    have e : f (12 + r) = lI (sFn (yS y) r : Int) := by have := hf.1.1 (12 + r) (by omega); rw [Nat.zero_add, pgH_f (by omega)] at this; exact this
    refine ⟨fun q => absurd q i10, fun _ => ⟨⟨_, h0⟩, m_formatIn h0 hp (by omega) ?_⟩⟩
    simp only [qe_x, qe_v, q_get, Bool.cond_false, Bool.cond_true, Nat.reduceAdd, Nat.reduceBEq, Nat.reduceLT, Nat.reduceLeDiff, Nat.add_zero, Nat.zero_add, Nat.le_refl, true_and, and_true, List.length_cons, List.length_nil, Option.some.injEq, exists_eq_left', exists_eq_left, exists_eq', reduceCtorEq, dX8_formatOf_0, qe_iload_1, qe_il, dX8_formatOf_1, qe_invs, ms_X8_formatOf_116, qe_c0, qe_c1, qe_c2, qe_c3, qe_c8, qe_c9, qe_cs, qe_cv, qe_tk, qe_tk0, qe_cat0, qe_cati, qe_catl, qe_catr, qe_catn, qe_ob, qe_cpy, qe_tl, qe_tl0, dX8_formatOf_4, qe_if_eq, q_br, q_tg, Int.reduceNatCast', Int.reduceAdd, Int.reduceToNat, Int.reduceLE, Int.reduceNeg, dX8_formatOf_7, qe_aload_0, qe_al, dX8_formatOf_8, dX8_formatOf_9, qe_invv, ms_X8_formatOf_112, dX8_formatOf_12, qe_goto, dX8_formatOf_15, qe_ldc, qe_pk, qCi_8_104, dX8_formatOf_17, qe_iret, qe_nar_i, qe_nar_0, qe_nar_1]
    rw [e, lI_i]
    exact h
  · rw [if_neg c1] at h
    rw [decide_eq_false c1, bI_f]
    simp only [qe_x, qe_v, q_get, Bool.cond_false, Bool.cond_true, Nat.reduceAdd, Nat.reduceBEq, Nat.reduceLT, Nat.reduceLeDiff, Nat.add_zero, Nat.zero_add, Nat.le_refl, true_and, and_true, List.length_cons, List.length_nil, Option.some.injEq, exists_eq_left', exists_eq_left, exists_eq', reduceCtorEq, dX8_formatOf_0, qe_iload_1, qe_il, dX8_formatOf_1, qe_invs, ms_X8_formatOf_116, qe_c0, qe_c1, qe_c2, qe_c3, qe_c8, qe_c9, qe_cs, qe_cv, qe_tk, qe_tk0, qe_cat0, qe_cati, qe_catl, qe_catr, qe_catn, qe_ob, qe_cpy, qe_tl, qe_tl0, dX8_formatOf_4, qe_if_eq, q_br, q_tg, Int.reduceNatCast', Int.reduceAdd, Int.reduceToNat, Int.reduceLE, Int.reduceNeg, dX8_formatOf_7, qe_aload_0, qe_al, dX8_formatOf_8, dX8_formatOf_9, qe_invv, ms_X8_formatOf_112, dX8_formatOf_12, qe_goto, dX8_formatOf_15, qe_ldc, qe_pk, qCi_8_104, dX8_formatOf_17, qe_iret, qe_nar_i, qe_nar_0, qe_nar_1]
    exact ⟨fun _ => h, fun q => absurd trivial q⟩
end
