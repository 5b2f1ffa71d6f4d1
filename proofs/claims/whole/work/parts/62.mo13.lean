/-! ===== Model: operation, neighbor, account ===== -/
section
variable {M : Nat} {y : QY} {w : QWd} {sz : Nat} {post : QPo}
theorem m_neighbor {i : Int} {b : Bool} (hm : mAt w M y) (hy : yOk y) (hi : i32 i) (h : post (some (.int (iI (aRec y i (fun r => if b then rUp r else rLw r))))) w) : T_X8_neighbor [.ref M, .int (iI i), .int (iI (bI b))] w sz post := by
  unfold aRec at h
  obtain ⟨-, -, h64, -⟩ := id hy
  obtain ⟨⟨lo, up, ov, um, us, un, xu, xd, ld, st, sp, bk, od, en, h0⟩, ⟨f, hp, hf⟩, -⟩ := id hm
  refine Ti_X8_neighbor (fun G hG => hG (fun _ => false) 60 _ _ _ _ _ _ ?_)
  simp only [qe_x, qe_v, q_get, Bool.cond_false, Bool.cond_true, Nat.reduceAdd, Nat.reduceBEq, Nat.reduceLT, Nat.reduceLeDiff, Nat.add_zero, Nat.zero_add, Nat.le_refl, true_and, and_true, List.length_cons, List.length_nil, Option.some.injEq, exists_eq_left', exists_eq_left, exists_eq', reduceCtorEq, dX8_neighbor_0, qe_aload_0, qe_al, dX8_neighbor_1, qe_iload_1, qe_il, dX8_neighbor_2, qe_invv, ms_X8_neighbor_256, qe_c0, qe_c1, qe_c2, qe_c3, qe_c8, qe_c9, qe_cs, qe_cv, qe_tk, qe_tk0, qe_cat0, qe_cati, qe_catl, qe_catr, qe_catn, qe_ob, qe_cpy, qe_tl, qe_tl0, dX8_neighbor_5, qe_if_eq, q_br, q_tg, Int.reduceNatCast', Int.reduceAdd, Int.reduceToNat, Int.reduceLE, Int.reduceNeg, dX8_neighbor_8, dX8_neighbor_9, qe_get, qF_8_7, qe_gf, qe_fg, List.getElem?_cons_zero, List.getElem?_cons_succ, dX8_neighbor_12, dX8_neighbor_13, dX8_neighbor_14, ms_X8_neighbor_165, dX8_neighbor_17, qe_iload_2, dX8_neighbor_18, dX8_neighbor_21, qe_bipush, Int.reduceLT, dX8_neighbor_23, qe_goto, dX8_neighbor_26, dX8_neighbor_28, qe_iadd, dX8_neighbor_29, qe_lald, qe_aj, dX8_neighbor_30, qe_l2i, dX8_neighbor_31, dX8_neighbor_34, qe_ldc, qe_pk, qCi_8_104, dX8_neighbor_36, qe_iret, qe_nar_i, qe_nar_0, qe_nar_1]
  refine ⟨⟨_, h0⟩, m_isRecord hm hy hi ?_⟩
  by_cases c : 0 ≤ i ∧ i < eSz (yE y)
  · rw [if_pos c] at h
    rw [decide_eq_true c, bI_t]
    obtain ⟨i, rfl⟩ : ∃ R : Nat, i = R := ⟨i.toNat, by omega⟩
    rw [Int.toNat_natCast] at h
    have e10 : f (40 + 17 * i + 10) = lI (rLw (eRe (yE y) i)) := by have := hf.1.2 i (by omega) 10 (by omega); rw [show 0 + 40 + 17 * i + 10 = 40 + 17 * i + 10 by omega] at this; exact this
    have e11 : f (40 + 17 * i + 11) = lI (rUp (eRe (yE y) i)) := by have := hf.1.2 i (by omega) 11 (by omega); rw [show 0 + 40 + 17 * i + 11 = 40 + 17 * i + 11 by omega] at this; exact this
    simp only [qe_x, qe_v, q_get, Bool.cond_false, Bool.cond_true, Nat.reduceAdd, Nat.reduceBEq, Nat.reduceLT, Nat.reduceLeDiff, Nat.add_zero, Nat.zero_add, Nat.le_refl, true_and, and_true, List.length_cons, List.length_nil, Option.some.injEq, exists_eq_left', exists_eq_left, exists_eq', reduceCtorEq, dX8_neighbor_0, qe_aload_0, qe_al, dX8_neighbor_1, qe_iload_1, qe_il, dX8_neighbor_2, qe_invv, ms_X8_neighbor_256, qe_c0, qe_c1, qe_c2, qe_c3, qe_c8, qe_c9, qe_cs, qe_cv, qe_tk, qe_tk0, qe_cat0, qe_cati, qe_catl, qe_catr, qe_catn, qe_ob, qe_cpy, qe_tl, qe_tl0, dX8_neighbor_5, qe_if_eq, q_br, q_tg, Int.reduceNatCast', Int.reduceAdd, Int.reduceToNat, Int.reduceLE, Int.reduceNeg, dX8_neighbor_8, dX8_neighbor_9, qe_get, qF_8_7, qe_gf, qe_fg, List.getElem?_cons_zero, List.getElem?_cons_succ, dX8_neighbor_12, dX8_neighbor_13, dX8_neighbor_14, ms_X8_neighbor_165, dX8_neighbor_17, qe_iload_2, dX8_neighbor_18, dX8_neighbor_21, qe_bipush, Int.reduceLT, dX8_neighbor_23, qe_goto, dX8_neighbor_26, dX8_neighbor_28, qe_iadd, dX8_neighbor_29, qe_lald, qe_aj, dX8_neighbor_30, qe_l2i, dX8_neighbor_31, dX8_neighbor_34, qe_ldc, qe_pk, qCi_8_104, dX8_neighbor_36, qe_iret, qe_nar_i, qe_nar_0, qe_nar_1, h0]
    refine ⟨fun q => absurd q i10, fun _ => ⟨⟨_, h0⟩, m_at (by omega) ?_⟩⟩
    simp only [qe_x, qe_v, q_get, Bool.cond_false, Bool.cond_true, Nat.reduceAdd, Nat.reduceBEq, Nat.reduceLT, Nat.reduceLeDiff, Nat.add_zero, Nat.zero_add, Nat.le_refl, true_and, and_true, List.length_cons, List.length_nil, Option.some.injEq, exists_eq_left', exists_eq_left, exists_eq', reduceCtorEq, dX8_neighbor_0, qe_aload_0, qe_al, dX8_neighbor_1, qe_iload_1, qe_il, dX8_neighbor_2, qe_invv, ms_X8_neighbor_256, qe_c0, qe_c1, qe_c2, qe_c3, qe_c8, qe_c9, qe_cs, qe_cv, qe_tk, qe_tk0, qe_cat0, qe_cati, qe_catl, qe_catr, qe_catn, qe_ob, qe_cpy, qe_tl, qe_tl0, dX8_neighbor_5, qe_if_eq, q_br, q_tg, Int.reduceNatCast', Int.reduceAdd, Int.reduceToNat, Int.reduceLE, Int.reduceNeg, dX8_neighbor_8, dX8_neighbor_9, qe_get, qF_8_7, qe_gf, qe_fg, List.getElem?_cons_zero, List.getElem?_cons_succ, dX8_neighbor_12, dX8_neighbor_13, dX8_neighbor_14, ms_X8_neighbor_165, dX8_neighbor_17, qe_iload_2, dX8_neighbor_18, dX8_neighbor_21, qe_bipush, Int.reduceLT, dX8_neighbor_23, qe_goto, dX8_neighbor_26, dX8_neighbor_28, qe_iadd, dX8_neighbor_29, qe_lald, qe_aj, dX8_neighbor_30, qe_l2i, dX8_neighbor_31, dX8_neighbor_34, qe_ldc, qe_pk, qCi_8_104, dX8_neighbor_36, qe_iret, qe_nar_i, qe_nar_0, qe_nar_1, hp, iI_add]
    rw [show ((40 + 17 * i : Nat) : Int) + 10 = ((40 + 17 * i + 10 : Nat) : Int) by omega, show ((40 + 17 * i : Nat) : Int) + 11 = ((40 + 17 * i + 11 : Nat) : Int) by omega]
    simp (disch := omega) only [iI_inN, iI_clN, true_and]
    rw [e10, e11, lI_i, lI_i]
    cases b with
    | true => exact ⟨fun q => absurd q i10, fun _ => h⟩
    | false => exact ⟨fun _ => h, fun q => absurd rfl q⟩
  · rw [if_neg c] at h
    rw [decide_eq_false c, bI_f]
    simp only [qe_x, qe_v, q_get, Bool.cond_false, Bool.cond_true, Nat.reduceAdd, Nat.reduceBEq, Nat.reduceLT, Nat.reduceLeDiff, Nat.add_zero, Nat.zero_add, Nat.le_refl, true_and, and_true, List.length_cons, List.length_nil, Option.some.injEq, exists_eq_left', exists_eq_left, exists_eq', reduceCtorEq, dX8_neighbor_0, qe_aload_0, qe_al, dX8_neighbor_1, qe_iload_1, qe_il, dX8_neighbor_2, qe_invv, ms_X8_neighbor_256, qe_c0, qe_c1, qe_c2, qe_c3, qe_c8, qe_c9, qe_cs, qe_cv, qe_tk, qe_tk0, qe_cat0, qe_cati, qe_catl, qe_catr, qe_catn, qe_ob, qe_cpy, qe_tl, qe_tl0, dX8_neighbor_5, qe_if_eq, q_br, q_tg, Int.reduceNatCast', Int.reduceAdd, Int.reduceToNat, Int.reduceLE, Int.reduceNeg, dX8_neighbor_8, dX8_neighbor_9, qe_get, qF_8_7, qe_gf, qe_fg, List.getElem?_cons_zero, List.getElem?_cons_succ, dX8_neighbor_12, dX8_neighbor_13, dX8_neighbor_14, ms_X8_neighbor_165, dX8_neighbor_17, qe_iload_2, dX8_neighbor_18, dX8_neighbor_21, qe_bipush, Int.reduceLT, dX8_neighbor_23, qe_goto, dX8_neighbor_26, dX8_neighbor_28, qe_iadd, dX8_neighbor_29, qe_lald, qe_aj, dX8_neighbor_30, qe_l2i, dX8_neighbor_31, dX8_neighbor_34, qe_ldc, qe_pk, qCi_8_104, dX8_neighbor_36, qe_iret, qe_nar_i, qe_nar_0, qe_nar_1]
    exact ⟨fun _ => h, fun q => absurd trivial q⟩
theorem m_account {z : Int} (hm : mAt w M y) (hz : i32 z) (h : post (some (.long (aAccount y z))) w) : T_X8_account [.ref M, .int (iI z)] w sz post := by
  unfold aAccount at h
  obtain ⟨⟨lo, up, ov, um, us, un, xu, xd, ld, st, sp, bk, od, en, h0⟩, ⟨f, hp, hf⟩, -⟩ := id hm
  refine Ti_X8_account (fun G hG => hG (fun _ => false) 60 _ _ _ _ _ _ ?_)
  simp only [qe_x, qe_v, q_get, Bool.cond_false, Bool.cond_true, Nat.reduceAdd, Nat.reduceBEq, Nat.reduceLT, Nat.reduceLeDiff, Nat.add_zero, Nat.zero_add, Nat.le_refl, true_and, and_true, List.length_cons, List.length_nil, Option.some.injEq, exists_eq_left', exists_eq_left, exists_eq', reduceCtorEq, dX8_account_0, qe_iload_1, qe_il, dX8_account_1, qe_iconst, dX8_account_2, qe_bipush, Int.reduceLE, Int.reduceLT, Int.reduceNeg, dX8_account_4, qe_invs, ms_X8_account_53, qe_c0, qe_c1, qe_c2, qe_c3, qe_c8, qe_c9, qe_cs, qe_cv, qe_tk, qe_tk0, qe_cat0, qe_cati, qe_catl, qe_catr, qe_catn, qe_ob, qe_cpy, qe_tl, qe_tl0, dX8_account_7, qe_if_eq, q_br, q_tg, Int.reduceNatCast', Int.reduceAdd, Int.reduceToNat, dX8_account_10, qe_aload_0, qe_al, dX8_account_11, qe_get, qF_8_7, qe_gf, qe_fg, List.getElem?_cons_zero, List.getElem?_cons_succ, dX8_account_14, dX8_account_16, dX8_account_17, qe_iadd, dX8_account_18, qe_lald, qe_aj, dX8_account_19, qe_goto, dX8_account_22, qe_ldc2, qe_pk, qDi_8_265, dX8_account_25, qe_lret]
  refine m_in hz ⟨by omega, by omega⟩ ⟨by omega, by omega⟩ ?_
  by_cases c : 0 ≤ z ∧ z < 7
  · rw [if_pos c] at h
    rw [decide_eq_true (show 0 ≤ z ∧ z ≤ 6 by omega), bI_t]
    obtain ⟨z, rfl⟩ : ∃ R : Nat, z = R := ⟨z.toNat, by omega⟩
    rw [Int.toNat_natCast] at h
    have e : f (33 + z) = eSu (yE y) z := by
      have := hf.1.1 (33 + z) (by omega)
      rw [Nat.zero_add] at this
      rw [this]
      unfold pgH
      rw [if_neg (by omega), if_neg (by omega), if_neg (by omega), if_neg (by omega), if_neg (by omega), if_neg (by omega), if_neg (by omega), if_neg (by omega), show 33 + z - 33 = z by omega]
    simp only [qe_x, qe_v, q_get, Bool.cond_false, Bool.cond_true, Nat.reduceAdd, Nat.reduceBEq, Nat.reduceLT, Nat.reduceLeDiff, Nat.add_zero, Nat.zero_add, Nat.le_refl, true_and, and_true, List.length_cons, List.length_nil, Option.some.injEq, exists_eq_left', exists_eq_left, exists_eq', reduceCtorEq, dX8_account_0, qe_iload_1, qe_il, dX8_account_1, qe_iconst, dX8_account_2, qe_bipush, Int.reduceLE, Int.reduceLT, Int.reduceNeg, dX8_account_4, qe_invs, ms_X8_account_53, qe_c0, qe_c1, qe_c2, qe_c3, qe_c8, qe_c9, qe_cs, qe_cv, qe_tk, qe_tk0, qe_cat0, qe_cati, qe_catl, qe_catr, qe_catn, qe_ob, qe_cpy, qe_tl, qe_tl0, dX8_account_7, qe_if_eq, q_br, q_tg, Int.reduceNatCast', Int.reduceAdd, Int.reduceToNat, dX8_account_10, qe_aload_0, qe_al, dX8_account_11, qe_get, qF_8_7, qe_gf, qe_fg, List.getElem?_cons_zero, List.getElem?_cons_succ, dX8_account_14, dX8_account_16, dX8_account_17, qe_iadd, dX8_account_18, qe_lald, qe_aj, dX8_account_19, qe_goto, dX8_account_22, qe_ldc2, qe_pk, qDi_8_265, dX8_account_25, qe_lret, h0, hp, iI_add]
    rw [show (33 : Int) + (z : Int) = ((33 + z : Nat) : Int) by omega]
    simp (disch := omega) only [iI_inN, iI_clN, true_and]
    rw [e]
    exact ⟨fun q => absurd q i10, fun _ => h⟩
  · rw [if_neg c] at h
    rw [decide_eq_false (show ¬ (0 ≤ z ∧ z ≤ 6) by omega), bI_f]
    simp only [qe_x, qe_v, q_get, Bool.cond_false, Bool.cond_true, Nat.reduceAdd, Nat.reduceBEq, Nat.reduceLT, Nat.reduceLeDiff, Nat.add_zero, Nat.zero_add, Nat.le_refl, true_and, and_true, List.length_cons, List.length_nil, Option.some.injEq, exists_eq_left', exists_eq_left, exists_eq', reduceCtorEq, dX8_account_0, qe_iload_1, qe_il, dX8_account_1, qe_iconst, dX8_account_2, qe_bipush, Int.reduceLE, Int.reduceLT, Int.reduceNeg, dX8_account_4, qe_invs, ms_X8_account_53, qe_c0, qe_c1, qe_c2, qe_c3, qe_c8, qe_c9, qe_cs, qe_cv, qe_tk, qe_tk0, qe_cat0, qe_cati, qe_catl, qe_catr, qe_catn, qe_ob, qe_cpy, qe_tl, qe_tl0, dX8_account_7, qe_if_eq, q_br, q_tg, Int.reduceNatCast', Int.reduceAdd, Int.reduceToNat, dX8_account_10, qe_aload_0, qe_al, dX8_account_11, qe_get, qF_8_7, qe_gf, qe_fg, List.getElem?_cons_zero, List.getElem?_cons_succ, dX8_account_14, dX8_account_16, dX8_account_17, qe_iadd, dX8_account_18, qe_lald, qe_aj, dX8_account_19, qe_goto, dX8_account_22, qe_ldc2, qe_pk, qDi_8_265, dX8_account_25, qe_lret]
    exact ⟨fun _ => h, fun q => absurd trivial q⟩
end
