/-! ===== Model: text, small answers ===== -/
section
variable {M : Nat} {y : QY} {w : QWd} {sz : Nat} {post : QPo}
theorem m_stopped (hm : mAt w M y) (h : post (some (.int (iI (yP y)))) w) : T_X8_stopped [.ref M] w sz post := by
  obtain ⟨⟨lo, up, ov, um, us, un, xu, xd, ld, st, sp, bk, od, en, h0⟩, -, -⟩ := hm
  refine Ti_X8_stopped (fun G hG => hG (fun _ => false) 60 _ _ _ _ _ _ ?_)
  simp only [qe_x, qe_v, q_get, Bool.cond_false, Bool.cond_true, Nat.reduceAdd, Nat.reduceBEq, Nat.reduceLT, Nat.reduceLeDiff, Nat.add_zero, Nat.zero_add, Nat.le_refl, true_and, and_true, List.length_cons, List.length_nil, Option.some.injEq, exists_eq_left', exists_eq_left, exists_eq', reduceCtorEq, dX8_stopped_0, qe_aload_0, qe_al, dX8_stopped_1, qe_get, qF_8_249, qe_gf, qe_fg, List.getElem?_cons_zero, List.getElem?_cons_succ, dX8_stopped_4, qe_iret, qe_nar_i, qe_nar_0, qe_nar_1, h0]
  exact h
theorem m_records (hm : mAt w M y) (h : post (some (.int (iI (eSz (yE y))))) w) : T_X8_records [.ref M] w sz post := by
  obtain ⟨⟨lo, up, ov, um, us, un, xu, xd, ld, st, sp, bk, od, en, h0⟩, ⟨f, hp, hf⟩, -⟩ := hm
  have e : f 32 = lI (eSz (yE y) : Int) := hf.1.1 32 (by omega)
  have c32 : (iI 32).toNatClampNeg = 32 := by decide
  have i32' : vp_in (iI 32) 7896 = True := iI_inT (by omega) (by omega) (by omega)
  refine Ti_X8_records (fun G hG => hG (fun _ => false) 60 _ _ _ _ _ _ ?_)
  simp only [qe_x, qe_v, q_get, Bool.cond_false, Bool.cond_true, Nat.reduceAdd, Nat.reduceBEq, Nat.reduceLT, Nat.reduceLeDiff, Nat.add_zero, Nat.zero_add, Nat.le_refl, true_and, and_true, List.length_cons, List.length_nil, Option.some.injEq, exists_eq_left', exists_eq_left, exists_eq', reduceCtorEq, dX8_records_0, qe_aload_0, qe_al, dX8_records_1, qe_get, qF_8_7, qe_gf, qe_fg, List.getElem?_cons_zero, List.getElem?_cons_succ, dX8_records_4, qe_bipush, Int.reduceLE, Int.reduceLT, Int.reduceNeg, dX8_records_6, qe_lald, qe_aj, dX8_records_7, qe_l2i, dX8_records_8, qe_iret, qe_nar_i, qe_nar_0, qe_nar_1, h0, hp, c32, i32', true_and, e, lI_i]
  exact h
theorem m_clear (hm : mAt w M y) (h : ∀ w', mAt w' M (aClear y).2 → fr w w' M 11 → post (some (.int (iI (aClear y).1))) w') : T_X8_clear [.ref M] w sz post := by
  obtain ⟨⟨lo, up, ov, um, us, un, xu, xd, ld, st, sp, bk, od, en, h0⟩, ⟨f, hp, hf⟩, ⟨ft, ht, ht'⟩, ha⟩ := hm
  refine Ti_X8_clear (fun G hG => hG (fun _ => false) 60 _ _ _ _ _ _ ?_)
  simp only [qe_x, qe_v, q_get, Bool.cond_false, Bool.cond_true, Nat.reduceAdd, Nat.reduceBEq, Nat.reduceLT, Nat.reduceLeDiff, Nat.add_zero, Nat.zero_add, Nat.le_refl, true_and, and_true, List.length_cons, List.length_nil, Option.some.injEq, exists_eq_left', exists_eq_left, exists_eq', reduceCtorEq, dX8_clear_0, qe_aload_0, qe_al, dX8_clear_1, qe_get, qF_8_193, qe_gf, qe_fg, List.getElem?_cons_zero, List.getElem?_cons_succ, dX8_clear_4, qe_istore_1, q_st1, q_st2, q_clr, Value.category, Nat.reduceEqDiff, reduceIte, dX8_clear_5, dX8_clear_6, qe_iconst, dX8_clear_7, qe_put, qe_pf, qe_pfF, qe_fp, qe_pv_i, qe_pv_l, qe_pv_a, qe_pv_o, qe_pv_z0, qe_pv_z1, List.set_cons_zero, List.set_cons_succ, dX8_clear_10, qe_iload_1, qe_il, dX8_clear_11, qe_iret, qe_nar_i, qe_nar_0, qe_nar_1, h0]
  have f1 : fr w (q_set w M (cMo M (iI (yH y).1) (iI (yP y)) (iI (0 : Nat)) lo up ov um us un xu xd ld st sp bk od en)) M 2 := fr.cell (by omega)
  have ha2 : mAr w M (aClear y).2 := ⟨⟨ft, ht, fun i hi => absurd hi (by show ¬ i < 0; omega)⟩, ha⟩
  exact h _ ⟨⟨_, _, _, _, _, _, _, _, _, _, _, _, _, _, q_set_s _ _ _⟩, ⟨f, by rw [q_set_n _ _ (by omega)]; exact hp, hf⟩, ha2.fr f1 (by omega)⟩ (f1.up (by omega) (by omega))
theorem m_type {c : Int} (hm : mAt w M y) (hy : yOk y) (hc : i32 c) (h : ∀ w', mAt w' M (aType y c).2 → fr w w' M 11 → post (some (.int (iI (aType y c).1))) w') : T_X8_type [.ref M, .int (iI c)] w sz post := by
  unfold aType at h
  obtain ⟨-, -, -, -, -, h5, -⟩ := id hy
  obtain ⟨⟨lo, up, ov, um, us, un, xu, xd, ld, st, sp, bk, od, en, h0⟩, ⟨f, hp, hf⟩, ⟨ft, ht, ht'⟩, ⟨f3, a3⟩, ⟨f4, a4⟩, ⟨f5, a5⟩, ⟨f6, a6⟩, ⟨f7, a7⟩, ⟨f8, a8⟩, ⟨f9, a9⟩, ⟨f10, a10⟩⟩ := id hm
  refine Ti_X8_type (fun G hG => hG (fun _ => false) 60 _ _ _ _ _ _ ?_)
  simp only [qe_x, qe_v, q_get, Bool.cond_false, Bool.cond_true, Nat.reduceAdd, Nat.reduceBEq, Nat.reduceLT, Nat.reduceLeDiff, Nat.add_zero, Nat.zero_add, Nat.le_refl, true_and, and_true, List.length_cons, List.length_nil, Option.some.injEq, exists_eq_left', exists_eq_left, exists_eq', reduceCtorEq, dX8_type_0, qe_iload_1, qe_il, dX8_type_1, qe_iconst, dX8_type_2, qe_bipush, Int.reduceLE, Int.reduceLT, Int.reduceNeg, dX8_type_4, qe_invs, ms_X8_type_53, qe_c0, qe_c1, qe_c2, qe_c3, qe_c8, qe_c9, qe_cs, qe_cv, qe_tk, qe_tk0, qe_cat0, qe_cati, qe_catl, qe_catr, qe_catn, qe_ob, qe_cpy, qe_tl, qe_tl0, dX8_type_7, qe_if_ne, q_br, q_tg, Int.reduceNatCast', Int.reduceAdd, Int.reduceToNat, dX8_type_10, qe_ldc, qe_pk, qCi_8_104, dX8_type_12, qe_iret, qe_nar_i, qe_nar_0, qe_nar_1, dX8_type_13, qe_aload_0, qe_al, dX8_type_14, qe_get, qF_8_193, qe_gf, qe_fg, List.getElem?_cons_zero, List.getElem?_cons_succ, dX8_type_17, dX8_type_19, qe_icmp_ne, dX8_type_22, qCi_8_196, dX8_type_24, dX8_type_25, dX8_type_26, qF_8_13, dX8_type_29, dX8_type_30, dX8_type_33, dX8_type_34, qe_iast, qe_bi, q_st1, q_st2, q_clr, Value.category, Nat.reduceEqDiff, reduceIte, dX8_type_35, dX8_type_36, qe_dup_i, qe_dup_r, dX8_type_37, dX8_type_40, dX8_type_41, qe_iadd, dX8_type_42, qe_put, qe_pf, qe_pfF, qe_fp, qe_pv_i, qe_pv_l, qe_pv_a, qe_pv_o, qe_pv_z0, qe_pv_z1, List.set_cons_zero, List.set_cons_succ, dX8_type_45, dX8_type_46, dX8_type_49]
  refine m_in hc ⟨by omega, by omega⟩ ⟨by omega, by omega⟩ ?_
  by_cases cc : 0 ≤ c ∧ c ≤ 127
  · rw [if_pos cc] at h
    rw [decide_eq_true cc, bI_t]
    obtain ⟨c, rfl⟩ : ∃ R : Nat, c = R := ⟨c.toNat, by omega⟩
    rw [Int.toNat_natCast] at h
    have e1 : ∀ X, q_set w (M + 2) X M = w M := fun X => q_set_n _ _ (by omega)
    simp only [qe_x, qe_v, q_get, Bool.cond_false, Bool.cond_true, Nat.reduceAdd, Nat.reduceBEq, Nat.reduceLT, Nat.reduceLeDiff, Nat.add_zero, Nat.zero_add, Nat.le_refl, true_and, and_true, List.length_cons, List.length_nil, Option.some.injEq, exists_eq_left', exists_eq_left, exists_eq', reduceCtorEq, dX8_type_0, qe_iload_1, qe_il, dX8_type_1, qe_iconst, dX8_type_2, qe_bipush, Int.reduceLE, Int.reduceLT, Int.reduceNeg, dX8_type_4, qe_invs, ms_X8_type_53, qe_c0, qe_c1, qe_c2, qe_c3, qe_c8, qe_c9, qe_cs, qe_cv, qe_tk, qe_tk0, qe_cat0, qe_cati, qe_catl, qe_catr, qe_catn, qe_ob, qe_cpy, qe_tl, qe_tl0, dX8_type_7, qe_if_ne, q_br, q_tg, Int.reduceNatCast', Int.reduceAdd, Int.reduceToNat, dX8_type_10, qe_ldc, qe_pk, qCi_8_104, dX8_type_12, qe_iret, qe_nar_i, qe_nar_0, qe_nar_1, dX8_type_13, qe_aload_0, qe_al, dX8_type_14, qe_get, qF_8_193, qe_gf, qe_fg, List.getElem?_cons_zero, List.getElem?_cons_succ, dX8_type_17, dX8_type_19, qe_icmp_ne, dX8_type_22, qCi_8_196, dX8_type_24, dX8_type_25, dX8_type_26, qF_8_13, dX8_type_29, dX8_type_30, dX8_type_33, dX8_type_34, qe_iast, qe_bi, q_st1, q_st2, q_clr, Value.category, Nat.reduceEqDiff, reduceIte, dX8_type_35, dX8_type_36, qe_dup_i, qe_dup_r, dX8_type_37, dX8_type_40, dX8_type_41, qe_iadd, dX8_type_42, qe_put, qe_pf, qe_pfF, qe_fp, qe_pv_i, qe_pv_l, qe_pv_a, qe_pv_o, qe_pv_z0, qe_pv_z1, List.set_cons_zero, List.set_cons_succ, dX8_type_45, dX8_type_46, dX8_type_49, h0, ht, e1, q_set_s]
    simp (disch := omega) only [iI_eq]
    refine ⟨fun _ => ⟨fun q => ?_, fun q => ?_⟩, fun q => absurd (show ¬ (1 : Int) = 0 by decide) q⟩
    · rw [if_pos (by omega)] at h
      simp (disch := omega) only [iI_inN, iI_clN, iI_add, true_and]
      have f1 : fr w (q_set (q_set w (M + 2) (.inl (0, 80, .inl (upd ft (yL y) (iI c))))) M (cMo M (iI (yH y).1) (iI (yP y)) (iI ((yL y : Int) + 1)) lo up ov um us un xu xd ld st sp bk od en)) M 11 := (fr.rf.set (by omega) (by omega)).set (by omega) (by omega)
      refine h _ ⟨⟨_, _, _, _, _, _, _, _, _, _, _, _, _, _, q_set_s _ _ _⟩, ⟨f, by rw [q_set_n _ _ (by omega), q_set_n _ _ (by omega)]; exact hp, hf⟩, ⟨upd ft (yL y) (iI c), by rw [q_set_n _ _ (by omega), q_set_s], fun i hi => ?_⟩, ⟨f3, by rw [q_set_n _ _ (by omega), q_set_n _ _ (by omega)]; exact a3⟩, ⟨f4, by rw [q_set_n _ _ (by omega), q_set_n _ _ (by omega)]; exact a4⟩, ⟨f5, by rw [q_set_n _ _ (by omega), q_set_n _ _ (by omega)]; exact a5⟩, ⟨f6, by rw [q_set_n _ _ (by omega), q_set_n _ _ (by omega)]; exact a6⟩, ⟨f7, by rw [q_set_n _ _ (by omega), q_set_n _ _ (by omega)]; exact a7⟩, ⟨f8, by rw [q_set_n _ _ (by omega), q_set_n _ _ (by omega)]; exact a8⟩, ⟨f9, by rw [q_set_n _ _ (by omega), q_set_n _ _ (by omega)]; exact a9⟩, ⟨f10, by rw [q_set_n _ _ (by omega), q_set_n _ _ (by omega)]; exact a10⟩⟩ f1
      change i < yL y + 1 at hi
      show upd ft (yL y) (iI c) i = iI ((if i = yL y then c else yT y i : Nat) : Int)
      by_cases q2 : i = yL y
      · rw [if_pos q2, q2, up_s]
      · rw [if_neg q2, up_n q2]; exact ht' i (by omega)
    · rw [if_neg (by omega)] at h
      exact h w hm fr.rf
  · rw [if_neg cc] at h
    rw [decide_eq_false cc, bI_f]
    simp only [qe_x, qe_v, q_get, Bool.cond_false, Bool.cond_true, Nat.reduceAdd, Nat.reduceBEq, Nat.reduceLT, Nat.reduceLeDiff, Nat.add_zero, Nat.zero_add, Nat.le_refl, true_and, and_true, List.length_cons, List.length_nil, Option.some.injEq, exists_eq_left', exists_eq_left, exists_eq', reduceCtorEq, dX8_type_0, qe_iload_1, qe_il, dX8_type_1, qe_iconst, dX8_type_2, qe_bipush, Int.reduceLE, Int.reduceLT, Int.reduceNeg, dX8_type_4, qe_invs, ms_X8_type_53, qe_c0, qe_c1, qe_c2, qe_c3, qe_c8, qe_c9, qe_cs, qe_cv, qe_tk, qe_tk0, qe_cat0, qe_cati, qe_catl, qe_catr, qe_catn, qe_ob, qe_cpy, qe_tl, qe_tl0, dX8_type_7, qe_if_ne, q_br, q_tg, Int.reduceNatCast', Int.reduceAdd, Int.reduceToNat, dX8_type_10, qe_ldc, qe_pk, qCi_8_104, dX8_type_12, qe_iret, qe_nar_i, qe_nar_0, qe_nar_1, dX8_type_13, qe_aload_0, qe_al, dX8_type_14, qe_get, qF_8_193, qe_gf, qe_fg, List.getElem?_cons_zero, List.getElem?_cons_succ, dX8_type_17, dX8_type_19, qe_icmp_ne, dX8_type_22, qCi_8_196, dX8_type_24, dX8_type_25, dX8_type_26, qF_8_13, dX8_type_29, dX8_type_30, dX8_type_33, dX8_type_34, qe_iast, qe_bi, q_st1, q_st2, q_clr, Value.category, Nat.reduceEqDiff, reduceIte, dX8_type_35, dX8_type_36, qe_dup_i, qe_dup_r, dX8_type_37, dX8_type_40, dX8_type_41, qe_iadd, dX8_type_42, qe_put, qe_pf, qe_pfF, qe_fp, qe_pv_i, qe_pv_l, qe_pv_a, qe_pv_o, qe_pv_z0, qe_pv_z1, List.set_cons_zero, List.set_cons_succ, dX8_type_45, dX8_type_46, dX8_type_49]
    exact ⟨fun q => absurd trivial q, fun _ => h w hm fr.rf⟩
end
