/-! ===== constructors: History, Program, Runner, StochasticBench ===== -/
section
variable {w : QWd} {post : QPo}
theorem t_hisInit {a : Nat} (hw : w a = some (.inr (1, [.int 0, .null, .null, .int 0]))) (h : ∀ w', hAt w' a (0, fun _ => (S00, E00)) → fr w w' a 453 → post none w') : T_X1_init [.ref a] w (a + 1) post := by
  refine Ti_X1_init (fun G hG => ?_)
  have loop : ∀ (n r : Nat) (v : QWd) (g k : Nat → Option Nat), r + n = 6 → v a = some (cHis a 0 0) → v (a + 1) = some (aRef 6 5 g) → v (a + 2) = some (aRef 6 3 k) → (∀ i, i < r → g i = some (a + 3 + 75 * i)) → (∀ i, i < r → k i = some (a + 3 + 75 * i + 8)) → (∀ i, i < r → sAt v (a + 3 + 75 * i) S00 ∧ eAt v (a + 3 + 75 * i + 8) E00) → fr w v a 453 → G 24 [some (.ref a), some (.int (iI r))] [] v (a + 3 + 75 * r) (12 + 818 * r) := by
    intro n
    induction n with
    | zero =>
      intro r v g k hr v0 v1 v2 hg hk hse fv
      have r4 : r = 6 := by omega
      subst r4
      have fin := h v ⟨0, by omega, by show 0 ≤ 6; omega, v0, ⟨g, v1, hg⟩, ⟨k, v2, hk⟩, fun j hj => ⟨⟨_, (hse j hj).1⟩, ⟨_, (hse j hj).2⟩⟩, fun i hi => absurd hi (by show ¬ i < 0; omega)⟩ fv
      refine hG (fun pc => pc == 24) 60 _ _ _ _ _ _ ?_
      simp only [qe_x, qe_v, q_get, Bool.cond_false, Bool.cond_true, Nat.reduceAdd, Nat.reduceBEq, Nat.reduceLT, Nat.reduceLeDiff, Nat.add_zero, Nat.zero_add, Nat.le_refl, true_and, and_true, List.length_cons, List.length_nil, Option.some.injEq, exists_eq_left', exists_eq_left, exists_eq', reduceCtorEq, dX1_init_0, qe_aload_0, qe_al, dX1_init_1, qe_invi, ms_X1_init_1, qe_c0, qe_c1, qe_c2, qe_c3, qe_c8, qe_c9, qe_cs, qe_cv, qe_tk, qe_tk0, qe_cat0, qe_cati, qe_catl, qe_catr, qe_catn, qe_ob, qe_cpy, qe_tl, qe_tl0, dX1_init_4, dX1_init_5, qe_bipush, Int.reduceLE, Int.reduceLT, Int.reduceNeg, dX1_init_7, qe_newq, qA_1_9, q_nq, dX1_init_10, qe_put, qF_1_11, qe_pf, qe_pfF, qe_fp, qe_pv_i, qe_pv_l, qe_pv_a, qe_pv_o, qe_pv_z0, qe_pv_z1, List.set_cons_zero, List.set_cons_succ, dX1_init_13, dX1_init_14, dX1_init_16, qA_1_15, dX1_init_19, qF_1_17, dX1_init_22, qe_iconst, dX1_init_23, qe_istore_1, q_st1, q_st2, q_clr, Value.category, Nat.reduceEqDiff, reduceIte, dX1_init_24, qe_iload_1, qe_il, dX1_init_25, dX1_init_27, qe_icmp_ge, q_br, q_tg, Int.reduceNatCast', Int.reduceAdd, Int.reduceToNat, dX1_init_30, dX1_init_31, qe_get, qe_gf, qe_fg, List.getElem?_cons_zero, List.getElem?_cons_succ, dX1_init_34, dX1_init_35, qe_new, qN_1_9, q_nw, dX1_init_38, qe_dup_i, qe_dup_r, dX1_init_39, ms_X1_init_21, dX1_init_42, qe_aast, qe_bq, dX1_init_43, dX1_init_44, dX1_init_47, dX1_init_48, qN_1_15, dX1_init_51, dX1_init_52, ms_X1_init_22, dX1_init_55, dX1_init_56, qe_iinc, qe_ii, dX1_init_59, qe_goto, dX1_init_62, qe_vret]
      simp (disch := omega) only [iI_le]
      refine ⟨fun _ => ?_, fun z => absurd (show (6 : Int) ≤ (6 : Nat) by omega) z⟩
      first
        | exact fin
        | exact ⟨by omega, by omega, fin⟩
    | succ n ih =>
      intro r v g k hr v0 v1 v2 hg hk hse fv
      refine hG (fun pc => pc == 24) 60 _ _ _ _ _ _ ?_
      simp (disch := omega) only [qe_x, qe_v, q_get, Bool.cond_false, Bool.cond_true, Nat.reduceAdd, Nat.reduceBEq, Nat.reduceLT, Nat.reduceLeDiff, Nat.add_zero, Nat.zero_add, Nat.le_refl, true_and, and_true, List.length_cons, List.length_nil, Option.some.injEq, exists_eq_left', exists_eq_left, exists_eq', reduceCtorEq, dX1_init_0, qe_aload_0, qe_al, dX1_init_1, qe_invi, ms_X1_init_1, qe_c0, qe_c1, qe_c2, qe_c3, qe_c8, qe_c9, qe_cs, qe_cv, qe_tk, qe_tk0, qe_cat0, qe_cati, qe_catl, qe_catr, qe_catn, qe_ob, qe_cpy, qe_tl, qe_tl0, dX1_init_4, dX1_init_5, qe_bipush, Int.reduceLE, Int.reduceLT, Int.reduceNeg, dX1_init_7, qe_newq, qA_1_9, q_nq, dX1_init_10, qe_put, qF_1_11, qe_pf, qe_pfF, qe_fp, qe_pv_i, qe_pv_l, qe_pv_a, qe_pv_o, qe_pv_z0, qe_pv_z1, List.set_cons_zero, List.set_cons_succ, dX1_init_13, dX1_init_14, dX1_init_16, qA_1_15, dX1_init_19, qF_1_17, dX1_init_22, qe_iconst, dX1_init_23, qe_istore_1, q_st1, q_st2, q_clr, Value.category, Nat.reduceEqDiff, reduceIte, dX1_init_24, qe_iload_1, qe_il, dX1_init_25, dX1_init_27, qe_icmp_ge, q_br, q_tg, Int.reduceNatCast', Int.reduceAdd, Int.reduceToNat, dX1_init_30, dX1_init_31, qe_get, qe_gf, qe_fg, List.getElem?_cons_zero, List.getElem?_cons_succ, dX1_init_34, dX1_init_35, qe_new, qN_1_9, q_nw, dX1_init_38, qe_dup_i, qe_dup_r, dX1_init_39, ms_X1_init_21, dX1_init_42, qe_aast, qe_bq, dX1_init_43, dX1_init_44, dX1_init_47, dX1_init_48, qN_1_15, dX1_init_51, dX1_init_52, ms_X1_init_22, dX1_init_55, dX1_init_56, qe_iinc, qe_ii, dX1_init_59, qe_goto, dX1_init_62, qe_vret, v0, v1, q_set_s, q_set_n]
      simp (disch := omega) only [iI_le]
      refine ⟨fun z => absurd z (by omega), fun _ => ⟨by omega, by omega, by omega, by omega, ⟨_, q_set_s _ _ _⟩, t_setInit (q_set_s _ _ _) (fun v2' s2 f2 => ?_)⟩⟩
      have k0 : v2' a = some (cHis a 0 0) := by rw [f2 _ (by omega), q_set_n _ _ (by omega)]; exact v0
      have k1 : v2' (a + 1) = some (aRef 6 5 g) := by rw [f2 _ (by omega), q_set_n _ _ (by omega)]; exact v1
      have k2 : v2' (a + 2) = some (aRef 6 3 k) := by rw [f2 _ (by omega), q_set_n _ _ (by omega)]; exact v2
      have nn : a + 3 + 75 * r + 1 + 7 = a + 3 + 75 * r + 8 := rfl
      simp (disch := omega) only [qe_x, qe_v, q_get, Bool.cond_false, Bool.cond_true, Nat.reduceAdd, Nat.reduceBEq, Nat.reduceLT, Nat.reduceLeDiff, Nat.add_zero, Nat.zero_add, Nat.le_refl, true_and, and_true, List.length_cons, List.length_nil, Option.some.injEq, exists_eq_left', exists_eq_left, exists_eq', reduceCtorEq, dX1_init_0, qe_aload_0, qe_al, dX1_init_1, qe_invi, ms_X1_init_1, qe_c0, qe_c1, qe_c2, qe_c3, qe_c8, qe_c9, qe_cs, qe_cv, qe_tk, qe_tk0, qe_cat0, qe_cati, qe_catl, qe_catr, qe_catn, qe_ob, qe_cpy, qe_tl, qe_tl0, dX1_init_4, dX1_init_5, qe_bipush, Int.reduceLE, Int.reduceLT, Int.reduceNeg, dX1_init_7, qe_newq, qA_1_9, q_nq, dX1_init_10, qe_put, qF_1_11, qe_pf, qe_pfF, qe_fp, qe_pv_i, qe_pv_l, qe_pv_a, qe_pv_o, qe_pv_z0, qe_pv_z1, List.set_cons_zero, List.set_cons_succ, dX1_init_13, dX1_init_14, dX1_init_16, qA_1_15, dX1_init_19, qF_1_17, dX1_init_22, qe_iconst, dX1_init_23, qe_istore_1, q_st1, q_st2, q_clr, Value.category, Nat.reduceEqDiff, reduceIte, dX1_init_24, qe_iload_1, qe_il, dX1_init_25, dX1_init_27, qe_icmp_ge, q_br, q_tg, Int.reduceNatCast', Int.reduceAdd, Int.reduceToNat, dX1_init_30, dX1_init_31, qe_get, qe_gf, qe_fg, List.getElem?_cons_zero, List.getElem?_cons_succ, dX1_init_34, dX1_init_35, qe_new, qN_1_9, q_nw, dX1_init_38, qe_dup_i, qe_dup_r, dX1_init_39, ms_X1_init_21, dX1_init_42, qe_aast, qe_bq, dX1_init_43, dX1_init_44, dX1_init_47, dX1_init_48, qN_1_15, dX1_init_51, dX1_init_52, ms_X1_init_22, dX1_init_55, dX1_init_56, qe_iinc, qe_ii, dX1_init_59, qe_goto, dX1_init_62, qe_vret, k0, k1, k2, q_set_s, q_set_ss, q_set_n, iI_inN, iI_clN, nn]
      refine ⟨⟨_, s2.1⟩, by omega, by omega, by omega, by omega, ⟨_, q_set_s _ _ _⟩, ?_⟩
      generalize hv3 : q_set v2' (a + 1) (Sum.inl (5, 6, Sum.inr (Sum.inr (Sum.inr (Sum.inr (va_up g r (some (a + 3 + 75 * r)))))))) = v3
      refine t_ledInit (q_set_s _ _ _) (fun v4 e4 f4 => ?_)
      have j0 : v4 a = some (cHis a 0 0) := by rw [f4 _ (by omega), q_set_n _ _ (by omega), ← hv3, q_set_n _ _ (by omega)]; exact k0
      have j1 : v4 (a + 1) = some (aRef 6 5 (va_up g r (some (a + 3 + 75 * r)))) := by rw [f4 _ (by omega), q_set_n _ _ (by omega), ← hv3, q_set_s]
      have j2 : v4 (a + 2) = some (aRef 6 3 k) := by rw [f4 _ (by omega), q_set_n _ _ (by omega), ← hv3, q_set_n _ _ (by omega)]; exact k2
      have off : ∀ q, (q < a + 3 + 75 * r ∨ a + 3 + 75 * r + 75 ≤ q) → q ≠ a + 1 → v4 q = v q := fun q q1 q2 => by rw [f4 _ (by omega), q_set_n _ _ (by omega), ← hv3, q_set_n _ _ q2, f2 _ (by omega), q_set_n _ _ (by omega)]
      have s4 : sAt v4 (a + 3 + 75 * r) S00 := s2.eqv (fun z z1 z2 => by rw [f4 _ (by omega), q_set_n _ _ (by omega), ← hv3, q_set_n _ _ (by omega)])
      simp (disch := omega) only [qe_x, qe_v, q_get, Bool.cond_false, Bool.cond_true, Nat.reduceAdd, Nat.reduceBEq, Nat.reduceLT, Nat.reduceLeDiff, Nat.add_zero, Nat.zero_add, Nat.le_refl, true_and, and_true, List.length_cons, List.length_nil, Option.some.injEq, exists_eq_left', exists_eq_left, exists_eq', reduceCtorEq, dX1_init_0, qe_aload_0, qe_al, dX1_init_1, qe_invi, ms_X1_init_1, qe_c0, qe_c1, qe_c2, qe_c3, qe_c8, qe_c9, qe_cs, qe_cv, qe_tk, qe_tk0, qe_cat0, qe_cati, qe_catl, qe_catr, qe_catn, qe_ob, qe_cpy, qe_tl, qe_tl0, dX1_init_4, dX1_init_5, qe_bipush, Int.reduceLE, Int.reduceLT, Int.reduceNeg, dX1_init_7, qe_newq, qA_1_9, q_nq, dX1_init_10, qe_put, qF_1_11, qe_pf, qe_pfF, qe_fp, qe_pv_i, qe_pv_l, qe_pv_a, qe_pv_o, qe_pv_z0, qe_pv_z1, List.set_cons_zero, List.set_cons_succ, dX1_init_13, dX1_init_14, dX1_init_16, qA_1_15, dX1_init_19, qF_1_17, dX1_init_22, qe_iconst, dX1_init_23, qe_istore_1, q_st1, q_st2, q_clr, Value.category, Nat.reduceEqDiff, reduceIte, dX1_init_24, qe_iload_1, qe_il, dX1_init_25, dX1_init_27, qe_icmp_ge, q_br, q_tg, Int.reduceNatCast', Int.reduceAdd, Int.reduceToNat, dX1_init_30, dX1_init_31, qe_get, qe_gf, qe_fg, List.getElem?_cons_zero, List.getElem?_cons_succ, dX1_init_34, dX1_init_35, qe_new, qN_1_9, q_nw, dX1_init_38, qe_dup_i, qe_dup_r, dX1_init_39, ms_X1_init_21, dX1_init_42, qe_aast, qe_bq, dX1_init_43, dX1_init_44, dX1_init_47, dX1_init_48, qN_1_15, dX1_init_51, dX1_init_52, ms_X1_init_22, dX1_init_55, dX1_init_56, qe_iinc, qe_ii, dX1_init_59, qe_goto, dX1_init_62, qe_vret, j0, j2, q_set_s, q_set_ss, q_set_n, iI_add, iI_inN, iI_clN]
      refine ⟨e4.kl, ?_⟩
      have fr5 : fr v4 (q_set v4 (a + 2) (aRef 6 3 (va_up k r (some (a + 3 + 75 * r + 8))))) (a + 2) 1 := fr.rf.set (by omega) (by omega)
      have sz : a + 3 + 75 * r + 8 + 1 + 66 = a + 3 + 75 * (r + 1) := by omega
      have sl : 12 + 818 * r + 7 + 32 + 4 + 775 = 12 + 818 * (r + 1) := by omega
      have j := ih (r + 1) (q_set v4 (a + 2) (aRef 6 3 (va_up k r (some (a + 3 + 75 * r + 8))))) (va_up g r (some (a + 3 + 75 * r))) (va_up k r (some (a + 3 + 75 * r + 8))) (by omega) (by rw [q_set_n _ _ (by omega)]; exact j0) (by rw [q_set_n _ _ (by omega)]; exact j1) (q_set_s _ _ _) (fun i hi => ?_) (fun i hi => ?_) (fun i hi => ?_) ?_
      · rw [← sz, ← sl] at j
        exact j
      · by_cases q : i = r
        · rw [q, vu_s]
        · rw [vu_n q]; exact hg i (by omega)
      · by_cases q : i = r
        · rw [q, vu_s]
        · rw [vu_n q]; exact hk i (by omega)
      · by_cases q : i = r
        · rw [q]
          exact ⟨s4.fr fr5 (by omega), e4.fr fr5 (by omega)⟩
        · have := hse i (by omega)
          exact ⟨(this.1.eqv (fun z z1 z2 => off z (by omega) (by omega))).fr fr5 (by omega), (this.2.eqv (fun z z1 z2 => off z (by omega) (by omega))).fr fr5 (by omega)⟩
      · refine fr.set (fun q hq => ?_) (by omega) (by omega)
        rw [off q (by omega) (by omega)]
        exact fv q hq
  have n2 : a + 1 + 1 = a + 2 := rfl
  have n3 : a + 2 + 1 = a + 3 := rfl
  refine hG (fun pc => pc == 24) 60 _ _ _ _ _ _ ?_
  simp (disch := omega) only [qe_x, qe_v, q_get, Bool.cond_false, Bool.cond_true, Nat.reduceAdd, Nat.reduceBEq, Nat.reduceLT, Nat.reduceLeDiff, Nat.add_zero, Nat.zero_add, Nat.le_refl, true_and, and_true, List.length_cons, List.length_nil, Option.some.injEq, exists_eq_left', exists_eq_left, exists_eq', reduceCtorEq, dX1_init_0, qe_aload_0, qe_al, dX1_init_1, qe_invi, ms_X1_init_1, qe_c0, qe_c1, qe_c2, qe_c3, qe_c8, qe_c9, qe_cs, qe_cv, qe_tk, qe_tk0, qe_cat0, qe_cati, qe_catl, qe_catr, qe_catn, qe_ob, qe_cpy, qe_tl, qe_tl0, dX1_init_4, dX1_init_5, qe_bipush, Int.reduceLE, Int.reduceLT, Int.reduceNeg, dX1_init_7, qe_newq, qA_1_9, q_nq, dX1_init_10, qe_put, qF_1_11, qe_pf, qe_pfF, qe_fp, qe_pv_i, qe_pv_l, qe_pv_a, qe_pv_o, qe_pv_z0, qe_pv_z1, List.set_cons_zero, List.set_cons_succ, dX1_init_13, dX1_init_14, dX1_init_16, qA_1_15, dX1_init_19, qF_1_17, dX1_init_22, qe_iconst, dX1_init_23, qe_istore_1, q_st1, q_st2, q_clr, Value.category, Nat.reduceEqDiff, reduceIte, dX1_init_24, qe_iload_1, qe_il, dX1_init_25, dX1_init_27, qe_icmp_ge, q_br, q_tg, Int.reduceNatCast', Int.reduceAdd, Int.reduceToNat, dX1_init_30, dX1_init_31, qe_get, qe_gf, qe_fg, List.getElem?_cons_zero, List.getElem?_cons_succ, dX1_init_34, dX1_init_35, qe_new, qN_1_9, q_nw, dX1_init_38, qe_dup_i, qe_dup_r, dX1_init_39, ms_X1_init_21, dX1_init_42, qe_aast, qe_bq, dX1_init_43, dX1_init_44, dX1_init_47, dX1_init_48, qN_1_15, dX1_init_51, dX1_init_52, ms_X1_init_22, dX1_init_55, dX1_init_56, qe_iinc, qe_ii, dX1_init_59, qe_goto, dX1_init_62, qe_vret, hw, q_set_s, q_set_ss, q_set_n, z_6, y_6, not_false_eq_true, false_and, or_false, false_or, Nat.le_add_right, n2, n3]
  refine loop 6 0 _ (fun _ => none) (fun _ => none) rfl (q_set_s _ _ _) ?_ ?_ (fun i hi => absurd hi (by omega)) (fun i hi => absurd hi (by omega)) (fun i hi => absurd hi (by omega)) ?_
  · simp (disch := omega) only [q_set_n, q_set_s]
  · simp (disch := omega) only [q_set_n, q_set_s]
  · intro q hq
    simp (disch := omega) only [q_set_n]
def Q00 : QPs := ((0, fun _ => (0, (0, 0, 0, 0), none)), (0, fun _ => 0), 0, 0, 0, 0, 0)
theorem t_pgmInit {P : Nat} (hw : w P = some (.inr (4, [.int 0, .int 0, .null, .null, .null, .null, .null, .int 0, .int 0, .int 0, .int 0, .int 0, .int 0]))) (h : ∀ w', gAt w' P 0 (fun _ => 0) Q00 → fr w w' P 6 → post none w') : T_X4_init [.ref P] w (P + 1) post := by
  have n2 : P + 1 + 1 = P + 2 := rfl
  have n3 : P + 2 + 1 = P + 3 := rfl
  have n4 : P + 3 + 1 = P + 4 := rfl
  have n5 : P + 4 + 1 = P + 5 := rfl
  have n6 : P + 5 + 1 = P + 6 := rfl
  refine Ti_X4_init (fun G hG => hG (fun _ => false) 60 _ _ _ _ _ _ ?_)
  simp (disch := omega) only [qe_x, qe_v, q_get, Bool.cond_false, Bool.cond_true, Nat.reduceAdd, Nat.reduceBEq, Nat.reduceLT, Nat.reduceLeDiff, Nat.add_zero, Nat.zero_add, Nat.le_refl, true_and, and_true, List.length_cons, List.length_nil, Option.some.injEq, exists_eq_left', exists_eq_left, exists_eq', reduceCtorEq, dX4_init_0, qe_aload_0, qe_al, dX4_init_1, qe_invi, ms_X4_init_3, qe_c0, qe_c1, qe_c2, qe_c3, qe_c8, qe_c9, qe_cs, qe_cv, qe_tk, qe_tk0, qe_cat0, qe_cati, qe_catl, qe_catr, qe_catn, qe_ob, qe_cpy, qe_tl, qe_tl0, dX4_init_4, dX4_init_5, qe_bipush, Int.reduceLE, Int.reduceLT, Int.reduceNeg, dX4_init_7, qe_newa, q_na, dX4_init_9, qe_put, qF_4_11, qe_pf, qe_pfF, qe_fp, qe_pv_i, qe_pv_l, qe_pv_a, qe_pv_o, qe_pv_z0, qe_pv_z1, List.set_cons_zero, List.set_cons_succ, dX4_init_12, dX4_init_13, dX4_init_15, dX4_init_17, qF_4_15, dX4_init_20, dX4_init_21, dX4_init_23, dX4_init_25, qF_4_18, dX4_init_28, dX4_init_29, dX4_init_31, dX4_init_33, qF_4_21, dX4_init_36, dX4_init_37, qe_iconst, dX4_init_38, dX4_init_40, qF_4_24, dX4_init_43, qe_vret, hw, q_set_s, q_set_ss, q_set_n, z_80, y_80, z_3, y_3, not_false_eq_true, false_and, or_false, false_or, Nat.le_add_right, n2, n3, n4, n5, n6]
  refine h _ ⟨q_set_s _ _ _, ⟨_, by simp (disch := omega) only [q_set_n, q_set_s]; rfl, fun i hi => absurd hi (by show ¬ i < 0; omega)⟩, ⟨_, by simp (disch := omega) only [q_set_n, q_set_s]; rfl, fun i hi => absurd hi (by show ¬ i < 0; omega)⟩, ⟨_, by simp (disch := omega) only [q_set_n, q_set_s]; rfl, fun i hi => absurd hi (by show ¬ i < 0; omega)⟩, ⟨_, by simp (disch := omega) only [q_set_n, q_set_s]; rfl, fun i hi => absurd hi (by omega)⟩, ⟨_, by simp (disch := omega) only [q_set_n, q_set_s]; rfl, fun i hi => absurd hi (by show ¬ i < 0; omega)⟩⟩ (fun q hq => ?_)
  simp (disch := omega) only [q_set_n]
theorem t_rnrInit {U : Nat} (hw : w U = some (.inr (5, [.int 0, .int 0, .null, .null, .int 0, .int 0]))) (h : ∀ w', uAt w' U 0 0 0 0 (fun _ => 0) (fun _ => 0) → fr w w' U 3 → post none w') : T_X5_init [.ref U] w (U + 1) post := by
  have n2 : U + 1 + 1 = U + 2 := rfl
  have n3 : U + 2 + 1 = U + 3 := rfl
  refine Ti_X5_init (fun G hG => hG (fun _ => false) 60 _ _ _ _ _ _ ?_)
  simp (disch := omega) only [qe_x, qe_v, q_get, Bool.cond_false, Bool.cond_true, Nat.reduceAdd, Nat.reduceBEq, Nat.reduceLT, Nat.reduceLeDiff, Nat.add_zero, Nat.zero_add, Nat.le_refl, true_and, and_true, List.length_cons, List.length_nil, Option.some.injEq, exists_eq_left', exists_eq_left, exists_eq', reduceCtorEq, dX5_init_0, qe_aload_0, qe_al, dX5_init_1, qe_invi, ms_X5_init_3, qe_c0, qe_c1, qe_c2, qe_c3, qe_c8, qe_c9, qe_cs, qe_cv, qe_tk, qe_tk0, qe_cat0, qe_cati, qe_catl, qe_catr, qe_catn, qe_ob, qe_cpy, qe_tl, qe_tl0, dX5_init_4, dX5_init_5, qe_iconst, dX5_init_6, qe_newa, q_na, dX5_init_8, qe_put, qF_5_11, qe_pf, qe_pfF, qe_fp, qe_pv_i, qe_pv_l, qe_pv_a, qe_pv_o, qe_pv_z0, qe_pv_z1, List.set_cons_zero, List.set_cons_succ, dX5_init_11, dX5_init_12, dX5_init_13, dX5_init_15, qF_5_17, dX5_init_18, qe_vret, hw, q_set_s, q_set_ss, q_set_n, z_3, y_3, not_false_eq_true, false_and, or_false, false_or, Nat.le_add_right, n2, n3]
  refine h _ ⟨q_set_s _ _ _, ⟨_, by simp (disch := omega) only [q_set_n, q_set_s]; rfl, fun i hi => absurd hi (by omega)⟩, ⟨_, by simp (disch := omega) only [q_set_n, q_set_s]; rfl, fun i hi => absurd hi (by omega)⟩⟩ (fun q hq => ?_)
  simp (disch := omega) only [q_set_n]
end
