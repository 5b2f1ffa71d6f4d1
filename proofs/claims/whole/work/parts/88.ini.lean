/-! ===== constructors ===== -/
def S00 : QSt := (fun _ => (4, 6, 13), fun _ => 0, fun _ => 0, 4, 8, iI 1, iI 0)
def R00 : QRe := (iI 0, (0, 0, 0, 0), 0, 0, 0, 0, 0, 0, false, false, 0, 0, (0, 0, 0))
def E00 : QLe := (fun _ => lI 0, 0, fun _ => R00)
theorem z_cl : (iI 3).toNatClampNeg = 3 ∧ (iI 4).toNatClampNeg = 4 ∧ (iI 6).toNatClampNeg = 6 ∧ (iI 7).toNatClampNeg = 7 ∧ (iI 8).toNatClampNeg = 8 ∧ (iI 64).toNatClampNeg = 64 ∧ (iI 80).toNatClampNeg = 80 ∧ (iI 7896).toNatClampNeg = 7896 := by decide
theorem z_3 : (iI 3).toNatClampNeg = 3 := z_cl.1
theorem z_4 : (iI 4).toNatClampNeg = 4 := z_cl.2.1
theorem z_6 : (iI 6).toNatClampNeg = 6 := z_cl.2.2.1
theorem z_7 : (iI 7).toNatClampNeg = 7 := z_cl.2.2.2.1
theorem z_8 : (iI 8).toNatClampNeg = 8 := z_cl.2.2.2.2.1
theorem z_64 : (iI 64).toNatClampNeg = 64 := z_cl.2.2.2.2.2.1
theorem z_80 : (iI 80).toNatClampNeg = 80 := z_cl.2.2.2.2.2.2.1
theorem z_7896 : (iI 7896).toNatClampNeg = 7896 := z_cl.2.2.2.2.2.2.2
theorem z_l : ¬ iI 3 < 0 ∧ ¬ iI 4 < 0 ∧ ¬ iI 6 < 0 ∧ ¬ iI 7 < 0 ∧ ¬ iI 8 < 0 ∧ ¬ iI 64 < 0 ∧ ¬ iI 80 < 0 ∧ ¬ iI 7896 < 0 := by decide
theorem y_3 : (iI 3 < 0) = False := eq_false z_l.1
theorem y_4 : (iI 4 < 0) = False := eq_false z_l.2.1
theorem y_6 : (iI 6 < 0) = False := eq_false z_l.2.2.1
theorem y_7 : (iI 7 < 0) = False := eq_false z_l.2.2.2.1
theorem y_8 : (iI 8 < 0) = False := eq_false z_l.2.2.2.2.1
theorem y_64 : (iI 64 < 0) = False := eq_false z_l.2.2.2.2.2.1
theorem y_80 : (iI 80 < 0) = False := eq_false z_l.2.2.2.2.2.2.1
theorem y_7896 : (iI 7896 < 0) = False := eq_false z_l.2.2.2.2.2.2.2
theorem vu_s {f : Nat → Option Nat} {k : Nat} {x : Option Nat} : va_up f k x k = x := if_pos rfl
theorem vu_n {f : Nat → Option Nat} {k j : Nat} {x : Option Nat} (h : j ≠ k) : va_up f k x j = f j := if_neg h
section
variable {w : QWd} {post : QPo}
theorem t_setInit {a : Nat} (hw : w a = some (.inr (6, [.null, .null, .null, .int 0, .int 0, .int 0, .int 0]))) (h : ∀ w', sAt w' a S00 → fr w w' a 8 → post none w') : T_X6_init [.ref a] w (a + 1) post := by
  refine Ti_X6_init (fun G hG => ?_)
  have loop : ∀ (n r : Nat) (v : QWd) (g : Nat → Option Nat), r + n = 4 → v a = some (cSet a 4 8 (iI 1) (iI 0)) → v (a + 1) = some (aRef 4 2 g) → (∀ i, i < r → g i = some (a + 4 + i)) → v (a + 2) = some (aInt 8 (fun _ => 0)) → v (a + 3) = some (aInt 8 (fun _ => 0)) → (∀ i, i < r → v (a + 4 + i) = some (cFmt 4 6 13)) → fr w v a 8 → G 46 [some (.ref a), some (.int (iI r))] [] v (a + 4 + r) (20 + 3 * r) := by
    intro n
    induction n with
    | zero =>
      intro r v g hr v0 v1 hg v2 v3 v4 fv
      have r4 : r = 4 := by omega
      subst r4
      refine hG (fun pc => pc == 46) 60 _ _ _ _ _ _ ?_
      simp only [qe_x, qe_v, q_get, Bool.cond_false, Bool.cond_true, Nat.reduceAdd, Nat.reduceBEq, Nat.reduceLT, Nat.reduceLeDiff, Nat.add_zero, Nat.zero_add, Nat.le_refl, true_and, and_true, List.length_cons, List.length_nil, Option.some.injEq, exists_eq_left', exists_eq_left, exists_eq', reduceCtorEq, dX6_init_0, qe_aload_0, qe_al, dX6_init_1, qe_invi, ms_X6_init_3, qe_c0, qe_c1, qe_c2, qe_c3, qe_c8, qe_c9, qe_cs, qe_cv, qe_tk, qe_tk0, qe_cat0, qe_cati, qe_catl, qe_catr, qe_catn, qe_ob, qe_cpy, qe_tl, qe_tl0, dX6_init_4, dX6_init_5, qe_iconst, dX6_init_6, qe_newq, qA_6_9, q_nq, dX6_init_9, qe_put, qF_6_11, qe_pf, qe_pfF, qe_fp, qe_pv_i, qe_pv_l, qe_pv_a, qe_pv_o, qe_pv_z0, qe_pv_z1, List.set_cons_zero, List.set_cons_succ, dX6_init_12, dX6_init_13, qe_bipush, Int.reduceLE, Int.reduceLT, Int.reduceNeg, dX6_init_15, qe_newa, q_na, dX6_init_17, qF_6_17, dX6_init_20, dX6_init_21, dX6_init_23, dX6_init_25, qF_6_21, dX6_init_28, dX6_init_29, dX6_init_30, qF_6_24, dX6_init_33, dX6_init_34, dX6_init_36, qF_6_28, dX6_init_39, dX6_init_40, dX6_init_41, qF_6_31, dX6_init_44, dX6_init_45, qe_istore_1, q_st1, q_st2, q_clr, Value.category, Nat.reduceEqDiff, reduceIte, dX6_init_46, qe_iload_1, qe_il, dX6_init_47, dX6_init_48, qe_icmp_ge, q_br, q_tg, Int.reduceNatCast', Int.reduceAdd, Int.reduceToNat, dX6_init_51, dX6_init_52, qe_get, qe_gf, qe_fg, List.getElem?_cons_zero, List.getElem?_cons_succ, dX6_init_55, dX6_init_56, qe_new, qN_6_9, q_nw, dX6_init_59, qe_dup_i, qe_dup_r, dX6_init_60, ms_X6_init_34, dX6_init_63, qe_aast, qe_bq, dX6_init_64, qe_iinc, qe_ii, dX6_init_67, qe_goto, dX6_init_70, qe_vret]
      simp (disch := omega) only [iI_le]
      refine ⟨fun _ => ?_, fun z => absurd (show (4 : Int) ≤ (4 : Nat) by omega) z⟩
      first
        | exact h v ⟨v0, ⟨g, v1, hg⟩, ⟨_, v2, fun _ _ => rfl⟩, ⟨_, v3, fun _ _ => rfl⟩, v4⟩ fv
        | exact ⟨by omega, by omega, h v ⟨v0, ⟨g, v1, hg⟩, ⟨_, v2, fun _ _ => rfl⟩, ⟨_, v3, fun _ _ => rfl⟩, v4⟩ fv⟩
    | succ n ih =>
      intro r v g hr v0 v1 hg v2 v3 v4 fv
      refine hG (fun pc => pc == 46) 60 _ _ _ _ _ _ ?_
      simp (disch := omega) only [qe_x, qe_v, q_get, Bool.cond_false, Bool.cond_true, Nat.reduceAdd, Nat.reduceBEq, Nat.reduceLT, Nat.reduceLeDiff, Nat.add_zero, Nat.zero_add, Nat.le_refl, true_and, and_true, List.length_cons, List.length_nil, Option.some.injEq, exists_eq_left', exists_eq_left, exists_eq', reduceCtorEq, dX6_init_0, qe_aload_0, qe_al, dX6_init_1, qe_invi, ms_X6_init_3, qe_c0, qe_c1, qe_c2, qe_c3, qe_c8, qe_c9, qe_cs, qe_cv, qe_tk, qe_tk0, qe_cat0, qe_cati, qe_catl, qe_catr, qe_catn, qe_ob, qe_cpy, qe_tl, qe_tl0, dX6_init_4, dX6_init_5, qe_iconst, dX6_init_6, qe_newq, qA_6_9, q_nq, dX6_init_9, qe_put, qF_6_11, qe_pf, qe_pfF, qe_fp, qe_pv_i, qe_pv_l, qe_pv_a, qe_pv_o, qe_pv_z0, qe_pv_z1, List.set_cons_zero, List.set_cons_succ, dX6_init_12, dX6_init_13, qe_bipush, Int.reduceLE, Int.reduceLT, Int.reduceNeg, dX6_init_15, qe_newa, q_na, dX6_init_17, qF_6_17, dX6_init_20, dX6_init_21, dX6_init_23, dX6_init_25, qF_6_21, dX6_init_28, dX6_init_29, dX6_init_30, qF_6_24, dX6_init_33, dX6_init_34, dX6_init_36, qF_6_28, dX6_init_39, dX6_init_40, dX6_init_41, qF_6_31, dX6_init_44, dX6_init_45, qe_istore_1, q_st1, q_st2, q_clr, Value.category, Nat.reduceEqDiff, reduceIte, dX6_init_46, qe_iload_1, qe_il, dX6_init_47, dX6_init_48, qe_icmp_ge, q_br, q_tg, Int.reduceNatCast', Int.reduceAdd, Int.reduceToNat, dX6_init_51, dX6_init_52, qe_get, qe_gf, qe_fg, List.getElem?_cons_zero, List.getElem?_cons_succ, dX6_init_55, dX6_init_56, qe_new, qN_6_9, q_nw, dX6_init_59, qe_dup_i, qe_dup_r, dX6_init_60, ms_X6_init_34, dX6_init_63, qe_aast, qe_bq, dX6_init_64, qe_iinc, qe_ii, dX6_init_67, qe_goto, dX6_init_70, qe_vret, v0, v1, q_set_s, q_set_n]
      simp (disch := omega) only [iI_le]
      refine ⟨fun z => absurd z (by omega), fun _ => ⟨by omega, by omega, by omega, by omega, ⟨_, q_set_s _ _ _⟩, t_fmtInit (q_set_s _ _ _) ?_⟩⟩
      simp (disch := omega) only [qe_x, qe_v, q_get, Bool.cond_false, Bool.cond_true, Nat.reduceAdd, Nat.reduceBEq, Nat.reduceLT, Nat.reduceLeDiff, Nat.add_zero, Nat.zero_add, Nat.le_refl, true_and, and_true, List.length_cons, List.length_nil, Option.some.injEq, exists_eq_left', exists_eq_left, exists_eq', reduceCtorEq, dX6_init_0, qe_aload_0, qe_al, dX6_init_1, qe_invi, ms_X6_init_3, qe_c0, qe_c1, qe_c2, qe_c3, qe_c8, qe_c9, qe_cs, qe_cv, qe_tk, qe_tk0, qe_cat0, qe_cati, qe_catl, qe_catr, qe_catn, qe_ob, qe_cpy, qe_tl, qe_tl0, dX6_init_4, dX6_init_5, qe_iconst, dX6_init_6, qe_newq, qA_6_9, q_nq, dX6_init_9, qe_put, qF_6_11, qe_pf, qe_pfF, qe_fp, qe_pv_i, qe_pv_l, qe_pv_a, qe_pv_o, qe_pv_z0, qe_pv_z1, List.set_cons_zero, List.set_cons_succ, dX6_init_12, dX6_init_13, qe_bipush, Int.reduceLE, Int.reduceLT, Int.reduceNeg, dX6_init_15, qe_newa, q_na, dX6_init_17, qF_6_17, dX6_init_20, dX6_init_21, dX6_init_23, dX6_init_25, qF_6_21, dX6_init_28, dX6_init_29, dX6_init_30, qF_6_24, dX6_init_33, dX6_init_34, dX6_init_36, qF_6_28, dX6_init_39, dX6_init_40, dX6_init_41, qF_6_31, dX6_init_44, dX6_init_45, qe_istore_1, q_st1, q_st2, q_clr, Value.category, Nat.reduceEqDiff, reduceIte, dX6_init_46, qe_iload_1, qe_il, dX6_init_47, dX6_init_48, qe_icmp_ge, q_br, q_tg, Int.reduceNatCast', Int.reduceAdd, Int.reduceToNat, dX6_init_51, dX6_init_52, qe_get, qe_gf, qe_fg, List.getElem?_cons_zero, List.getElem?_cons_succ, dX6_init_55, dX6_init_56, qe_new, qN_6_9, q_nw, dX6_init_59, qe_dup_i, qe_dup_r, dX6_init_60, ms_X6_init_34, dX6_init_63, qe_aast, qe_bq, dX6_init_64, qe_iinc, qe_ii, dX6_init_67, qe_goto, dX6_init_70, qe_vret, v0, v1, q_set_s, q_set_ss, q_set_n, iI_add, iI_inN, iI_clN]
      refine ⟨⟨_, rfl⟩, ?_⟩
      refine ih (r + 1) _ _ (by omega) (by simp (disch := omega) only [q_set_n]; exact v0) (q_set_s _ _ _) (fun i hi => ?_) (by simp (disch := omega) only [q_set_n]; exact v2) (by simp (disch := omega) only [q_set_n]; exact v3) (fun i hi => ?_) ((fv.set (by omega) (by omega)).set (by omega) (by omega))
      · by_cases q : i = r
        · rw [q, vu_s]
        · rw [vu_n q]; exact hg i (by omega)
      · rw [q_set_n _ _ (by omega)]
        by_cases q : i = r
        · rw [q, q_set_s]
        · rw [q_set_n _ _ (by omega)]; exact v4 i (by omega)
  have n2 : a + 1 + 1 = a + 2 := rfl
  have n3 : a + 2 + 1 = a + 3 := rfl
  have n4 : a + 3 + 1 = a + 4 := rfl
  refine hG (fun pc => pc == 46) 60 _ _ _ _ _ _ ?_
  simp (disch := omega) only [qe_x, qe_v, q_get, Bool.cond_false, Bool.cond_true, Nat.reduceAdd, Nat.reduceBEq, Nat.reduceLT, Nat.reduceLeDiff, Nat.add_zero, Nat.zero_add, Nat.le_refl, true_and, and_true, List.length_cons, List.length_nil, Option.some.injEq, exists_eq_left', exists_eq_left, exists_eq', reduceCtorEq, dX6_init_0, qe_aload_0, qe_al, dX6_init_1, qe_invi, ms_X6_init_3, qe_c0, qe_c1, qe_c2, qe_c3, qe_c8, qe_c9, qe_cs, qe_cv, qe_tk, qe_tk0, qe_cat0, qe_cati, qe_catl, qe_catr, qe_catn, qe_ob, qe_cpy, qe_tl, qe_tl0, dX6_init_4, dX6_init_5, qe_iconst, dX6_init_6, qe_newq, qA_6_9, q_nq, dX6_init_9, qe_put, qF_6_11, qe_pf, qe_pfF, qe_fp, qe_pv_i, qe_pv_l, qe_pv_a, qe_pv_o, qe_pv_z0, qe_pv_z1, List.set_cons_zero, List.set_cons_succ, dX6_init_12, dX6_init_13, qe_bipush, Int.reduceLE, Int.reduceLT, Int.reduceNeg, dX6_init_15, qe_newa, q_na, dX6_init_17, qF_6_17, dX6_init_20, dX6_init_21, dX6_init_23, dX6_init_25, qF_6_21, dX6_init_28, dX6_init_29, dX6_init_30, qF_6_24, dX6_init_33, dX6_init_34, dX6_init_36, qF_6_28, dX6_init_39, dX6_init_40, dX6_init_41, qF_6_31, dX6_init_44, dX6_init_45, qe_istore_1, q_st1, q_st2, q_clr, Value.category, Nat.reduceEqDiff, reduceIte, dX6_init_46, qe_iload_1, qe_il, dX6_init_47, dX6_init_48, qe_icmp_ge, q_br, q_tg, Int.reduceNatCast', Int.reduceAdd, Int.reduceToNat, dX6_init_51, dX6_init_52, qe_get, qe_gf, qe_fg, List.getElem?_cons_zero, List.getElem?_cons_succ, dX6_init_55, dX6_init_56, qe_new, qN_6_9, q_nw, dX6_init_59, qe_dup_i, qe_dup_r, dX6_init_60, ms_X6_init_34, dX6_init_63, qe_aast, qe_bq, dX6_init_64, qe_iinc, qe_ii, dX6_init_67, qe_goto, dX6_init_70, qe_vret, hw, q_set_s, q_set_ss, q_set_n, z_4, z_8, y_4, y_8, not_false_eq_true, false_and, or_false, Nat.le_add_right, n2, n3, n4]
  refine loop 4 0 _ (fun _ => none) rfl (q_set_s _ _ _) ?_ (fun i hi => absurd hi (by omega)) ?_ ?_ (fun i hi => absurd hi (by omega)) ?_
  · simp (disch := omega) only [q_set_n, q_set_s]
  · simp (disch := omega) only [q_set_n, q_set_s]
  · simp (disch := omega) only [q_set_n, q_set_s]
  · intro q hq
    simp (disch := omega) only [q_set_n]
theorem t_ledInit {a : Nat} (hw : w a = some (.inr (2, [.null, .int 0, .null, .int 0]))) (h : ∀ w', eAt w' a E00 → fr w w' a 67 → post none w') : T_X2_init [.ref a] w (a + 1) post := by
  refine Ti_X2_init (fun G hG => ?_)
  have loop : ∀ (n r : Nat) (v : QWd) (g : Nat → Option Nat), r + n = 64 → v a = some (cLed a 0 0) → v (a + 1) = some (aLng 7 (fun _ => 0)) → v (a + 2) = some (aRef 64 4 g) → (∀ i, i < r → g i = some (a + 3 + i)) → (∀ i, i < r → isOp v (a + 3 + i)) → fr w v a 67 → G 23 [some (.ref a), some (.int (iI r))] [] v (a + 3 + r) (71 + 11 * r) := by
    intro n
    induction n with
    | zero =>
      intro r v g hr v0 v1 v2 hg v4 fv
      have r4 : r = 64 := by omega
      subst r4
      have fin := h v ⟨0, by omega, by show 0 ≤ 64; omega, v0, ⟨_, v1, fun _ _ => rfl⟩, ⟨g, v2, hg⟩, v4, fun i hi => absurd hi (by show ¬ i < 0; omega)⟩ fv
      refine hG (fun pc => pc == 23) 60 _ _ _ _ _ _ ?_
      simp only [qe_x, qe_v, q_get, Bool.cond_false, Bool.cond_true, Nat.reduceAdd, Nat.reduceBEq, Nat.reduceLT, Nat.reduceLeDiff, Nat.add_zero, Nat.zero_add, Nat.le_refl, true_and, and_true, List.length_cons, List.length_nil, Option.some.injEq, exists_eq_left', exists_eq_left, exists_eq', reduceCtorEq, dX2_init_0, qe_aload_0, qe_al, dX2_init_1, qe_invi, ms_X2_init_3, qe_c0, qe_c1, qe_c2, qe_c3, qe_c8, qe_c9, qe_cs, qe_cv, qe_tk, qe_tk0, qe_cat0, qe_cati, qe_catl, qe_catr, qe_catn, qe_ob, qe_cpy, qe_tl, qe_tl0, dX2_init_4, dX2_init_5, qe_bipush, Int.reduceLE, Int.reduceLT, Int.reduceNeg, dX2_init_7, qe_newa, q_na, dX2_init_9, qe_put, qF_2_9, qe_pf, qe_pfF, qe_fp, qe_pv_i, qe_pv_l, qe_pv_a, qe_pv_o, qe_pv_z0, qe_pv_z1, List.set_cons_zero, List.set_cons_succ, dX2_init_12, dX2_init_13, dX2_init_15, qe_newq, qA_2_15, q_nq, dX2_init_18, qF_2_17, dX2_init_21, qe_iconst, dX2_init_22, qe_istore_1, q_st1, q_st2, q_clr, Value.category, Nat.reduceEqDiff, reduceIte, dX2_init_23, qe_iload_1, qe_il, dX2_init_24, dX2_init_26, qe_icmp_ge, q_br, q_tg, Int.reduceNatCast', Int.reduceAdd, Int.reduceToNat, dX2_init_29, dX2_init_30, qe_get, qe_gf, qe_fg, List.getElem?_cons_zero, List.getElem?_cons_succ, dX2_init_33, dX2_init_34, qe_new, qN_2_15, q_nw, dX2_init_37, qe_dup_i, qe_dup_r, dX2_init_38, ms_X2_init_21, dX2_init_41, qe_aast, qe_bq, dX2_init_42, qe_iinc, qe_ii, dX2_init_45, qe_goto, dX2_init_48, qe_vret]
      simp (disch := omega) only [iI_le]
      refine ⟨fun _ => ?_, fun z => absurd (show (64 : Int) ≤ (64 : Nat) by omega) z⟩
      first
        | exact fin
        | exact ⟨by omega, by omega, fin⟩
    | succ n ih =>
      intro r v g hr v0 v1 v2 hg v4 fv
      refine hG (fun pc => pc == 23) 60 _ _ _ _ _ _ ?_
      simp (disch := omega) only [qe_x, qe_v, q_get, Bool.cond_false, Bool.cond_true, Nat.reduceAdd, Nat.reduceBEq, Nat.reduceLT, Nat.reduceLeDiff, Nat.add_zero, Nat.zero_add, Nat.le_refl, true_and, and_true, List.length_cons, List.length_nil, Option.some.injEq, exists_eq_left', exists_eq_left, exists_eq', reduceCtorEq, dX2_init_0, qe_aload_0, qe_al, dX2_init_1, qe_invi, ms_X2_init_3, qe_c0, qe_c1, qe_c2, qe_c3, qe_c8, qe_c9, qe_cs, qe_cv, qe_tk, qe_tk0, qe_cat0, qe_cati, qe_catl, qe_catr, qe_catn, qe_ob, qe_cpy, qe_tl, qe_tl0, dX2_init_4, dX2_init_5, qe_bipush, Int.reduceLE, Int.reduceLT, Int.reduceNeg, dX2_init_7, qe_newa, q_na, dX2_init_9, qe_put, qF_2_9, qe_pf, qe_pfF, qe_fp, qe_pv_i, qe_pv_l, qe_pv_a, qe_pv_o, qe_pv_z0, qe_pv_z1, List.set_cons_zero, List.set_cons_succ, dX2_init_12, dX2_init_13, dX2_init_15, qe_newq, qA_2_15, q_nq, dX2_init_18, qF_2_17, dX2_init_21, qe_iconst, dX2_init_22, qe_istore_1, q_st1, q_st2, q_clr, Value.category, Nat.reduceEqDiff, reduceIte, dX2_init_23, qe_iload_1, qe_il, dX2_init_24, dX2_init_26, qe_icmp_ge, q_br, q_tg, Int.reduceNatCast', Int.reduceAdd, Int.reduceToNat, dX2_init_29, dX2_init_30, qe_get, qe_gf, qe_fg, List.getElem?_cons_zero, List.getElem?_cons_succ, dX2_init_33, dX2_init_34, qe_new, qN_2_15, q_nw, dX2_init_37, qe_dup_i, qe_dup_r, dX2_init_38, ms_X2_init_21, dX2_init_41, qe_aast, qe_bq, dX2_init_42, qe_iinc, qe_ii, dX2_init_45, qe_goto, dX2_init_48, qe_vret, v0, v2, q_set_s, q_set_n]
      simp (disch := omega) only [iI_le]
      refine ⟨fun z => absurd z (by omega), fun _ => ⟨by omega, by omega, by omega, by omega, ⟨_, q_set_s _ _ _⟩, t_opInit (q_set_s _ _ _) ?_⟩⟩
      simp (disch := omega) only [qe_x, qe_v, q_get, Bool.cond_false, Bool.cond_true, Nat.reduceAdd, Nat.reduceBEq, Nat.reduceLT, Nat.reduceLeDiff, Nat.add_zero, Nat.zero_add, Nat.le_refl, true_and, and_true, List.length_cons, List.length_nil, Option.some.injEq, exists_eq_left', exists_eq_left, exists_eq', reduceCtorEq, dX2_init_0, qe_aload_0, qe_al, dX2_init_1, qe_invi, ms_X2_init_3, qe_c0, qe_c1, qe_c2, qe_c3, qe_c8, qe_c9, qe_cs, qe_cv, qe_tk, qe_tk0, qe_cat0, qe_cati, qe_catl, qe_catr, qe_catn, qe_ob, qe_cpy, qe_tl, qe_tl0, dX2_init_4, dX2_init_5, qe_bipush, Int.reduceLE, Int.reduceLT, Int.reduceNeg, dX2_init_7, qe_newa, q_na, dX2_init_9, qe_put, qF_2_9, qe_pf, qe_pfF, qe_fp, qe_pv_i, qe_pv_l, qe_pv_a, qe_pv_o, qe_pv_z0, qe_pv_z1, List.set_cons_zero, List.set_cons_succ, dX2_init_12, dX2_init_13, dX2_init_15, qe_newq, qA_2_15, q_nq, dX2_init_18, qF_2_17, dX2_init_21, qe_iconst, dX2_init_22, qe_istore_1, q_st1, q_st2, q_clr, Value.category, Nat.reduceEqDiff, reduceIte, dX2_init_23, qe_iload_1, qe_il, dX2_init_24, dX2_init_26, qe_icmp_ge, q_br, q_tg, Int.reduceNatCast', Int.reduceAdd, Int.reduceToNat, dX2_init_29, dX2_init_30, qe_get, qe_gf, qe_fg, List.getElem?_cons_zero, List.getElem?_cons_succ, dX2_init_33, dX2_init_34, qe_new, qN_2_15, q_nw, dX2_init_37, qe_dup_i, qe_dup_r, dX2_init_38, ms_X2_init_21, dX2_init_41, qe_aast, qe_bq, dX2_init_42, qe_iinc, qe_ii, dX2_init_45, qe_goto, dX2_init_48, qe_vret, v0, v2, q_set_s, q_set_ss, q_set_n, iI_add, iI_inN, iI_clN]
      refine ⟨⟨_, rfl⟩, ?_⟩
      refine ih (r + 1) _ _ (by omega) (by simp (disch := omega) only [q_set_n]; exact v0) (by simp (disch := omega) only [q_set_n]; exact v1) (q_set_s _ _ _) (fun i hi => ?_) (fun i hi => ?_) ((fv.set (by omega) (by omega)).set (by omega) (by omega))
      · by_cases q : i = r
        · rw [q, vu_s]
        · rw [vu_n q]; exact hg i (by omega)
      · by_cases q : i = r
        · rw [q]
          exact ⟨_, _, _, _, _, _, _, _, _, _, _, by rw [q_set_n _ _ (by omega), q_set_s]⟩
        · exact (v4 i (by omega)).eq (by rw [q_set_n _ _ (by omega), q_set_n _ _ (by omega)])
  have n2 : a + 1 + 1 = a + 2 := rfl
  have n3 : a + 2 + 1 = a + 3 := rfl
  refine hG (fun pc => pc == 23) 60 _ _ _ _ _ _ ?_
  simp (disch := omega) only [qe_x, qe_v, q_get, Bool.cond_false, Bool.cond_true, Nat.reduceAdd, Nat.reduceBEq, Nat.reduceLT, Nat.reduceLeDiff, Nat.add_zero, Nat.zero_add, Nat.le_refl, true_and, and_true, List.length_cons, List.length_nil, Option.some.injEq, exists_eq_left', exists_eq_left, exists_eq', reduceCtorEq, dX2_init_0, qe_aload_0, qe_al, dX2_init_1, qe_invi, ms_X2_init_3, qe_c0, qe_c1, qe_c2, qe_c3, qe_c8, qe_c9, qe_cs, qe_cv, qe_tk, qe_tk0, qe_cat0, qe_cati, qe_catl, qe_catr, qe_catn, qe_ob, qe_cpy, qe_tl, qe_tl0, dX2_init_4, dX2_init_5, qe_bipush, Int.reduceLE, Int.reduceLT, Int.reduceNeg, dX2_init_7, qe_newa, q_na, dX2_init_9, qe_put, qF_2_9, qe_pf, qe_pfF, qe_fp, qe_pv_i, qe_pv_l, qe_pv_a, qe_pv_o, qe_pv_z0, qe_pv_z1, List.set_cons_zero, List.set_cons_succ, dX2_init_12, dX2_init_13, dX2_init_15, qe_newq, qA_2_15, q_nq, dX2_init_18, qF_2_17, dX2_init_21, qe_iconst, dX2_init_22, qe_istore_1, q_st1, q_st2, q_clr, Value.category, Nat.reduceEqDiff, reduceIte, dX2_init_23, qe_iload_1, qe_il, dX2_init_24, dX2_init_26, qe_icmp_ge, q_br, q_tg, Int.reduceNatCast', Int.reduceAdd, Int.reduceToNat, dX2_init_29, dX2_init_30, qe_get, qe_gf, qe_fg, List.getElem?_cons_zero, List.getElem?_cons_succ, dX2_init_33, dX2_init_34, qe_new, qN_2_15, q_nw, dX2_init_37, qe_dup_i, qe_dup_r, dX2_init_38, ms_X2_init_21, dX2_init_41, qe_aast, qe_bq, dX2_init_42, qe_iinc, qe_ii, dX2_init_45, qe_goto, dX2_init_48, qe_vret, hw, q_set_s, q_set_ss, q_set_n, z_7, z_64, y_7, y_64, not_false_eq_true, false_and, or_false, false_or, Nat.le_add_right, n2, n3]
  refine loop 64 0 _ (fun _ => none) rfl (q_set_s _ _ _) ?_ ?_ (fun i hi => absurd hi (by omega)) (fun i hi => absurd hi (by omega)) ?_
  · simp (disch := omega) only [q_set_n, q_set_s]
  · simp (disch := omega) only [q_set_n, q_set_s]
  · intro q hq
    simp (disch := omega) only [q_set_n]
end
