/-! ===== Model: finds, picks ===== -/
abbrev cMo (M : Nat) (rm wy ty : Int32) (lo up : Int64) (ov um us un : Int32) (xu xd ld : Int64) (st sp bk od en : Int32) : QCl := .inr (8, [.ref (M + 1), .int rm, .int wy, .ref (M + 2), .int ty, .long lo, .long up, .int ov, .ref (M + 3), .int um, .int us, .int un, .long xu, .long xd, .long ld, .ref (M + 4), .ref (M + 5), .ref (M + 6), .ref (M + 7), .ref (M + 8), .int st, .int sp, .int bk, .ref (M + 9), .int od, .ref (M + 10), .int en])
/-- the same fraction -/
abbrev sfr (u v n d : Int) : Prop := u * (d * 1024) = n * v
theorem sfr_div {u v n d : Int} (h : sfr u v n d) (hv : 0 < v) (hd : 0 < d) : u / v = n / (d * 1024) := by
  have hD : 0 < d * 1024 := by omega
  rw [← Int.mul_ediv_mul_of_pos u v hD, ← Int.mul_ediv_mul_of_pos_left n (d * 1024) hv, Int.mul_comm (d * 1024) u, h, Int.mul_comm (d * 1024) v, Int.mul_comm v (d * 1024)]
theorem sfr_lt {u v n d : Int} (h : sfr u v n d) (hv : 0 < v) (hd : 0 < d) (t : Int) : t * v < u ↔ t * (d * 1024) < n := by
  have hD : 0 < d * 1024 := by omega
  have e1 : t * v * (d * 1024) = t * (d * 1024) * v := by rw [Int.mul_assoc, Int.mul_comm v, ← Int.mul_assoc]
  constructor
  · intro q
    have := Int.mul_lt_mul_of_pos_right q hD
    rw [h, e1] at this
    exact Int.lt_of_mul_lt_mul_right this (by omega)
  · intro q
    have := Int.mul_lt_mul_of_pos_right q hv
    rw [← h, ← e1] at this
    exact Int.lt_of_mul_lt_mul_right this (by omega)
theorem sfr_neg {u v n d : Int} (h : sfr u v n d) : sfr (-u) v (-n) d := by
  show -u * (d * 1024) = -n * v
  rw [Int.neg_mul, Int.neg_mul, h]
theorem ffl_nn {p lo hi : Nat} {v : Int} (h : 0 ≤ v) : 0 ≤ ffl p lo hi v := by
  unfold ffl
  have := pw_pos (fbits p lo hi (iabs v))
  exact Int.mul_nonneg (Int.ediv_nonneg h (by omega)) (by omega)
/-- both neighbors are on one side of 0 -/
theorem n_side {p lo hi : Nat} {n d : Int} (hF : Fok p lo hi) (hd : 1 ≤ d) (h : nlw p lo hi n d < 0) : nup p lo hi n d ≤ 0 := by
  have ht := ftop_rng hF
  unfold nlw at h
  unfold nup
  by_cases h1 : ftop p hi * d * 1024 < n
  · rw [if_pos h1] at h; omega
  · rw [if_neg h1] at h ⊢
    by_cases h2 : n < -ftop p hi * d * 1024
    · rw [if_pos h2] at h ⊢; exact Int.le_of_lt h
    · rw [if_neg h2] at h ⊢
      have hn : n < 0 := by
        rcases Int.lt_or_le n 0 with q | q
        · exact q
        · have := ffl_nn (p := p) (lo := lo) (hi := hi) (Int.ediv_nonneg q (show 0 ≤ 1 * d * 1024 by omega))
          omega
      have := ffl_nn (p := p) (lo := lo) (hi := hi) (Int.ediv_nonneg (show 0 ≤ -n by omega) (show 0 ≤ 1 * d * 1024 by omega))
      omega
section
variable {M : Nat} {rm wy ty ov um us un st sp bk od en : Int32} {lo0 up0 xu xd ld : Int64} {w : QWd} {sz : Nat} {post : QPo}
theorem m_finds {p lo hi : Nat} {u v n d : Int} (hF : Fok p lo hi) (hN : Nok n d) (hs : sfr u v n d) (hu : -4611686018427387904 ≤ u ∧ u ≤ 4611686018427387904) (hv : 0 < v ∧ v ≤ 1099511627776) (hw : w M = some (cMo M rm wy ty lo0 up0 ov um us un xu xd ld st sp bk od en))
    (h : post none (q_set w M (cMo M rm wy ty (lI (nlw p lo hi n d)) (lI (nup p lo hi n d)) (iI (bI (nov p hi n d))) um us un xu xd ld st sp bk od en))) : T_X8_finds [.ref M, .int (iI p), .int (iI ((lo : Int) - 10)), .int (iI ((hi : Int) - 10)), .long (lI u), .long (lI v)] w sz post := by
  have ht := ftop_rng hF
  obtain ⟨n1, n2, d1, d2⟩ := id hN
  have m1 := mul_bd (x := ftop p hi) (y := v) (A := 1048576) (B := 1099511627776) (by omega) (by omega) (by omega) (by omega)
  have a1 := sfr_lt hs hv.1 (by omega) (ftop p hi)
  have a2 := sfr_lt (sfr_neg hs) hv.1 (by omega) (ftop p hi)
  rw [← Int.mul_assoc] at a1 a2
  have e1 : -ftop p hi * v = -(ftop p hi * v) := Int.neg_mul _ _
  have e2 : -ftop p hi * d * 1024 = -(ftop p hi * d * 1024) := by rw [Int.neg_mul, Int.neg_mul]
  have pv : 0 < ftop p hi * v := Int.mul_pos (by omega) hv.1
  have pd : 0 < ftop p hi * d := Int.mul_pos (by omega) (by omega)
  have dv1 := sfr_div hs hv.1 (show 0 < d by omega)
  have dv2 := sfr_div (sfr_neg hs) hv.1 (show 0 < d by omega)
  unfold nlw nup nov at h
  rw [e2, show 1 * d * 1024 = d * 1024 by omega, ← dv1, ← dv2] at h
  refine Ti_X8_finds (fun G hG => ?_)
  -- behind 36: whether it is over lies on the stack
  have j1 : ∀ b : Bool, b = decide (ftop p hi * d * 1024 < n ∨ n < -(ftop p hi * d * 1024)) → G 36 [some (.ref M), some (.int (iI p)), some (.int (iI ((lo : Int) - 10))), some (.int (iI ((hi : Int) - 10))), some (.long (lI u)), none, some (.long (lI v)), none, some (.long (lI (ftop p hi))), none] [.int (iI (bI b)), .ref M] w sz 0 := by
    intro b hb
    rw [← hb] at h
    refine hG (fun _ => false) 60 _ _ _ _ _ _ ?_
    simp only [qe_x, qe_v, q_get, Bool.cond_false, Bool.cond_true, Nat.reduceAdd, Nat.reduceBEq, Nat.reduceLT, Nat.reduceLeDiff, Nat.add_zero, Nat.zero_add, Nat.le_refl, true_and, and_true, List.length_cons, List.length_nil, Option.some.injEq, exists_eq_left', exists_eq_left, exists_eq', reduceCtorEq, dX8_finds_0, qe_iload_1, qe_il, dX8_finds_1, qe_iload_3, dX8_finds_2, qe_invs, ms_X8_finds_71, qe_c0, qe_c1, qe_c2, qe_c3, qe_c8, qe_c9, qe_cs, qe_cv, qe_tk, qe_tk0, qe_cat0, qe_cati, qe_catl, qe_catr, qe_catn, qe_ob, qe_cpy, qe_tl, qe_tl0, dX8_finds_5, qe_lstore, q_st1, q_st2, q_clr, Value.category, Nat.reduceEqDiff, reduceIte, dX8_finds_7, qe_aload_0, qe_al, dX8_finds_8, qe_lload, qe_ll, dX8_finds_10, dX8_finds_12, dX8_finds_14, qe_lmul, dX8_finds_15, qe_lcmp, iI_cmp_lt, iI_cmp_le, iI_cmp_ge, iI_cmp_gt, iI_cmp_eq, dX8_finds_16, qe_if_gt, q_br, q_tg, Int.reduceNatCast', Int.reduceAdd, Int.reduceToNat, Int.reduceLE, Int.reduceNeg, dX8_finds_19, dX8_finds_21, dX8_finds_23, qe_lneg, dX8_finds_24, dX8_finds_26, dX8_finds_27, dX8_finds_28, qe_if_ge, dX8_finds_31, qe_iconst, dX8_finds_32, qe_goto, dX8_finds_35, dX8_finds_36, qe_put, qF_8_75, qe_pf, qe_pfF, qe_fp, qe_pv_i, qe_pv_l, qe_pv_a, qe_pv_o, qe_pv_z0, qe_pv_z1, List.set_cons_zero, List.set_cons_succ, dX8_finds_39, dX8_finds_40, qe_get, qe_gf, qe_fg, List.getElem?_cons_zero, List.getElem?_cons_succ, dX8_finds_43, qe_if_eq, dX8_finds_46, dX8_finds_47, dX8_finds_49, qe_lconst0, dX8_finds_50, dX8_finds_51, qe_if_le, dX8_finds_54, dX8_finds_56, dX8_finds_59, dX8_finds_61, dX8_finds_62, qF_8_79, dX8_finds_65, dX8_finds_66, dX8_finds_67, dX8_finds_70, qF_8_83, dX8_finds_73, dX8_finds_76, dX8_finds_77, dX8_finds_78, qe_iload_2, dX8_finds_79, dX8_finds_80, dX8_finds_82, dX8_finds_84, ms_X8_finds_86, dX8_finds_87, ms_X8_finds_68, dX8_finds_90, dX8_finds_93, dX8_finds_94, dX8_finds_95, dX8_finds_96, dX8_finds_97, dX8_finds_99, dX8_finds_100, dX8_finds_102, dX8_finds_105, dX8_finds_106, ms_X8_finds_90, dX8_finds_109, dX8_finds_112, qe_vret, hw, q_set_s, q_set_ss, bI_pv, true_and, lI_neg]
    simp (disch := omega) only [lI_le, lI_lt]
    cases b with
    | true =>
      have hb := of_decide_eq_true hb.symm
      rw [bI_t]
      refine ⟨fun q => absurd q i10, fun _ => ⟨fun q => ?_, fun q => ?_⟩⟩
      · have c1 : ¬ ftop p hi * d * 1024 < n := fun z => by have := a1.mpr z; omega
        have c2 : n < -(ftop p hi * d * 1024) := by omega
        rw [if_neg c1, if_pos c2, if_neg c1, if_pos c2] at h
        exact h
      · have c1 : ftop p hi * d * 1024 < n := by
          rcases hb with z | z
          · exact z
          · have := a2.mpr (by omega); omega
        rw [if_pos c1, if_pos c1] at h
        exact h
    | false =>
      have hb := of_decide_eq_false hb.symm
      have c1 : ¬ ftop p hi * d * 1024 < n := fun z => hb (Or.inl z)
      have c2 : ¬ n < -(ftop p hi * d * 1024) := fun z => hb (Or.inr z)
      rw [if_neg c1, if_neg c2, if_neg c1, if_neg c2] at h
      have b1 : ¬ ftop p hi * v < u := fun z => c1 (a1.mp z)
      have b2 : ¬ ftop p hi * v < -u := fun z => c2 (by have := a2.mp z; omega)
      rw [bI_f]
      have r1 : -ftop p hi ≤ u / v ∧ u / v ≤ ftop p hi := ⟨(Int.le_ediv_iff_mul_le hv.1).mpr (by omega), Int.ediv_le_of_le_mul hv.1 (by omega)⟩
      have r2 : -ftop p hi ≤ -u / v ∧ -u / v ≤ ftop p hi := ⟨(Int.le_ediv_iff_mul_le hv.1).mpr (by omega), Int.ediv_le_of_le_mul hv.1 (by omega)⟩
      refine ⟨fun _ => m_floor ⟨by omega, by omega⟩ ⟨hv.1, by omega⟩ ?_, fun q => absurd rfl q⟩
      simp only [qe_x, qe_v, q_get, Bool.cond_false, Bool.cond_true, Nat.reduceAdd, Nat.reduceBEq, Nat.reduceLT, Nat.reduceLeDiff, Nat.add_zero, Nat.zero_add, Nat.le_refl, true_and, and_true, List.length_cons, List.length_nil, Option.some.injEq, exists_eq_left', exists_eq_left, exists_eq', reduceCtorEq, dX8_finds_0, qe_iload_1, qe_il, dX8_finds_1, qe_iload_3, dX8_finds_2, qe_invs, ms_X8_finds_71, qe_c0, qe_c1, qe_c2, qe_c3, qe_c8, qe_c9, qe_cs, qe_cv, qe_tk, qe_tk0, qe_cat0, qe_cati, qe_catl, qe_catr, qe_catn, qe_ob, qe_cpy, qe_tl, qe_tl0, dX8_finds_5, qe_lstore, q_st1, q_st2, q_clr, Value.category, Nat.reduceEqDiff, reduceIte, dX8_finds_7, qe_aload_0, qe_al, dX8_finds_8, qe_lload, qe_ll, dX8_finds_10, dX8_finds_12, dX8_finds_14, qe_lmul, dX8_finds_15, qe_lcmp, iI_cmp_lt, iI_cmp_le, iI_cmp_ge, iI_cmp_gt, iI_cmp_eq, dX8_finds_16, qe_if_gt, q_br, q_tg, Int.reduceNatCast', Int.reduceAdd, Int.reduceToNat, Int.reduceLE, Int.reduceNeg, dX8_finds_19, dX8_finds_21, dX8_finds_23, qe_lneg, dX8_finds_24, dX8_finds_26, dX8_finds_27, dX8_finds_28, qe_if_ge, dX8_finds_31, qe_iconst, dX8_finds_32, qe_goto, dX8_finds_35, dX8_finds_36, qe_put, qF_8_75, qe_pf, qe_pfF, qe_fp, qe_pv_i, qe_pv_l, qe_pv_a, qe_pv_o, qe_pv_z0, qe_pv_z1, List.set_cons_zero, List.set_cons_succ, dX8_finds_39, dX8_finds_40, qe_get, qe_gf, qe_fg, List.getElem?_cons_zero, List.getElem?_cons_succ, dX8_finds_43, qe_if_eq, dX8_finds_46, dX8_finds_47, dX8_finds_49, qe_lconst0, dX8_finds_50, dX8_finds_51, qe_if_le, dX8_finds_54, dX8_finds_56, dX8_finds_59, dX8_finds_61, dX8_finds_62, qF_8_79, dX8_finds_65, dX8_finds_66, dX8_finds_67, dX8_finds_70, qF_8_83, dX8_finds_73, dX8_finds_76, dX8_finds_77, dX8_finds_78, qe_iload_2, dX8_finds_79, dX8_finds_80, dX8_finds_82, dX8_finds_84, ms_X8_finds_86, dX8_finds_87, ms_X8_finds_68, dX8_finds_90, dX8_finds_93, dX8_finds_94, dX8_finds_95, dX8_finds_96, dX8_finds_97, dX8_finds_99, dX8_finds_100, dX8_finds_102, dX8_finds_105, dX8_finds_106, ms_X8_finds_90, dX8_finds_109, dX8_finds_112, qe_vret]
      refine m_under hF ⟨by omega, by omega⟩ ?_
      simp only [qe_x, qe_v, q_get, Bool.cond_false, Bool.cond_true, Nat.reduceAdd, Nat.reduceBEq, Nat.reduceLT, Nat.reduceLeDiff, Nat.add_zero, Nat.zero_add, Nat.le_refl, true_and, and_true, List.length_cons, List.length_nil, Option.some.injEq, exists_eq_left', exists_eq_left, exists_eq', reduceCtorEq, dX8_finds_0, qe_iload_1, qe_il, dX8_finds_1, qe_iload_3, dX8_finds_2, qe_invs, ms_X8_finds_71, qe_c0, qe_c1, qe_c2, qe_c3, qe_c8, qe_c9, qe_cs, qe_cv, qe_tk, qe_tk0, qe_cat0, qe_cati, qe_catl, qe_catr, qe_catn, qe_ob, qe_cpy, qe_tl, qe_tl0, dX8_finds_5, qe_lstore, q_st1, q_st2, q_clr, Value.category, Nat.reduceEqDiff, reduceIte, dX8_finds_7, qe_aload_0, qe_al, dX8_finds_8, qe_lload, qe_ll, dX8_finds_10, dX8_finds_12, dX8_finds_14, qe_lmul, dX8_finds_15, qe_lcmp, iI_cmp_lt, iI_cmp_le, iI_cmp_ge, iI_cmp_gt, iI_cmp_eq, dX8_finds_16, qe_if_gt, q_br, q_tg, Int.reduceNatCast', Int.reduceAdd, Int.reduceToNat, Int.reduceLE, Int.reduceNeg, dX8_finds_19, dX8_finds_21, dX8_finds_23, qe_lneg, dX8_finds_24, dX8_finds_26, dX8_finds_27, dX8_finds_28, qe_if_ge, dX8_finds_31, qe_iconst, dX8_finds_32, qe_goto, dX8_finds_35, dX8_finds_36, qe_put, qF_8_75, qe_pf, qe_pfF, qe_fp, qe_pv_i, qe_pv_l, qe_pv_a, qe_pv_o, qe_pv_z0, qe_pv_z1, List.set_cons_zero, List.set_cons_succ, dX8_finds_39, dX8_finds_40, qe_get, qe_gf, qe_fg, List.getElem?_cons_zero, List.getElem?_cons_succ, dX8_finds_43, qe_if_eq, dX8_finds_46, dX8_finds_47, dX8_finds_49, qe_lconst0, dX8_finds_50, dX8_finds_51, qe_if_le, dX8_finds_54, dX8_finds_56, dX8_finds_59, dX8_finds_61, dX8_finds_62, qF_8_79, dX8_finds_65, dX8_finds_66, dX8_finds_67, dX8_finds_70, qF_8_83, dX8_finds_73, dX8_finds_76, dX8_finds_77, dX8_finds_78, qe_iload_2, dX8_finds_79, dX8_finds_80, dX8_finds_82, dX8_finds_84, ms_X8_finds_86, dX8_finds_87, ms_X8_finds_68, dX8_finds_90, dX8_finds_93, dX8_finds_94, dX8_finds_95, dX8_finds_96, dX8_finds_97, dX8_finds_99, dX8_finds_100, dX8_finds_102, dX8_finds_105, dX8_finds_106, ms_X8_finds_90, dX8_finds_109, dX8_finds_112, qe_vret, q_set_s, q_set_ss, lI_neg]
      refine m_floor ⟨by omega, by omega⟩ ⟨hv.1, by omega⟩ ?_
      simp only [qe_x, qe_v, q_get, Bool.cond_false, Bool.cond_true, Nat.reduceAdd, Nat.reduceBEq, Nat.reduceLT, Nat.reduceLeDiff, Nat.add_zero, Nat.zero_add, Nat.le_refl, true_and, and_true, List.length_cons, List.length_nil, Option.some.injEq, exists_eq_left', exists_eq_left, exists_eq', reduceCtorEq, dX8_finds_0, qe_iload_1, qe_il, dX8_finds_1, qe_iload_3, dX8_finds_2, qe_invs, ms_X8_finds_71, qe_c0, qe_c1, qe_c2, qe_c3, qe_c8, qe_c9, qe_cs, qe_cv, qe_tk, qe_tk0, qe_cat0, qe_cati, qe_catl, qe_catr, qe_catn, qe_ob, qe_cpy, qe_tl, qe_tl0, dX8_finds_5, qe_lstore, q_st1, q_st2, q_clr, Value.category, Nat.reduceEqDiff, reduceIte, dX8_finds_7, qe_aload_0, qe_al, dX8_finds_8, qe_lload, qe_ll, dX8_finds_10, dX8_finds_12, dX8_finds_14, qe_lmul, dX8_finds_15, qe_lcmp, iI_cmp_lt, iI_cmp_le, iI_cmp_ge, iI_cmp_gt, iI_cmp_eq, dX8_finds_16, qe_if_gt, q_br, q_tg, Int.reduceNatCast', Int.reduceAdd, Int.reduceToNat, Int.reduceLE, Int.reduceNeg, dX8_finds_19, dX8_finds_21, dX8_finds_23, qe_lneg, dX8_finds_24, dX8_finds_26, dX8_finds_27, dX8_finds_28, qe_if_ge, dX8_finds_31, qe_iconst, dX8_finds_32, qe_goto, dX8_finds_35, dX8_finds_36, qe_put, qF_8_75, qe_pf, qe_pfF, qe_fp, qe_pv_i, qe_pv_l, qe_pv_a, qe_pv_o, qe_pv_z0, qe_pv_z1, List.set_cons_zero, List.set_cons_succ, dX8_finds_39, dX8_finds_40, qe_get, qe_gf, qe_fg, List.getElem?_cons_zero, List.getElem?_cons_succ, dX8_finds_43, qe_if_eq, dX8_finds_46, dX8_finds_47, dX8_finds_49, qe_lconst0, dX8_finds_50, dX8_finds_51, qe_if_le, dX8_finds_54, dX8_finds_56, dX8_finds_59, dX8_finds_61, dX8_finds_62, qF_8_79, dX8_finds_65, dX8_finds_66, dX8_finds_67, dX8_finds_70, qF_8_83, dX8_finds_73, dX8_finds_76, dX8_finds_77, dX8_finds_78, qe_iload_2, dX8_finds_79, dX8_finds_80, dX8_finds_82, dX8_finds_84, ms_X8_finds_86, dX8_finds_87, ms_X8_finds_68, dX8_finds_90, dX8_finds_93, dX8_finds_94, dX8_finds_95, dX8_finds_96, dX8_finds_97, dX8_finds_99, dX8_finds_100, dX8_finds_102, dX8_finds_105, dX8_finds_106, ms_X8_finds_90, dX8_finds_109, dX8_finds_112, qe_vret, lI_neg]
      refine m_over hF ⟨by omega, by omega⟩ ?_
      rw [Int.neg_neg]
      simp only [qe_x, qe_v, q_get, Bool.cond_false, Bool.cond_true, Nat.reduceAdd, Nat.reduceBEq, Nat.reduceLT, Nat.reduceLeDiff, Nat.add_zero, Nat.zero_add, Nat.le_refl, true_and, and_true, List.length_cons, List.length_nil, Option.some.injEq, exists_eq_left', exists_eq_left, exists_eq', reduceCtorEq, dX8_finds_0, qe_iload_1, qe_il, dX8_finds_1, qe_iload_3, dX8_finds_2, qe_invs, ms_X8_finds_71, qe_c0, qe_c1, qe_c2, qe_c3, qe_c8, qe_c9, qe_cs, qe_cv, qe_tk, qe_tk0, qe_cat0, qe_cati, qe_catl, qe_catr, qe_catn, qe_ob, qe_cpy, qe_tl, qe_tl0, dX8_finds_5, qe_lstore, q_st1, q_st2, q_clr, Value.category, Nat.reduceEqDiff, reduceIte, dX8_finds_7, qe_aload_0, qe_al, dX8_finds_8, qe_lload, qe_ll, dX8_finds_10, dX8_finds_12, dX8_finds_14, qe_lmul, dX8_finds_15, qe_lcmp, iI_cmp_lt, iI_cmp_le, iI_cmp_ge, iI_cmp_gt, iI_cmp_eq, dX8_finds_16, qe_if_gt, q_br, q_tg, Int.reduceNatCast', Int.reduceAdd, Int.reduceToNat, Int.reduceLE, Int.reduceNeg, dX8_finds_19, dX8_finds_21, dX8_finds_23, qe_lneg, dX8_finds_24, dX8_finds_26, dX8_finds_27, dX8_finds_28, qe_if_ge, dX8_finds_31, qe_iconst, dX8_finds_32, qe_goto, dX8_finds_35, dX8_finds_36, qe_put, qF_8_75, qe_pf, qe_pfF, qe_fp, qe_pv_i, qe_pv_l, qe_pv_a, qe_pv_o, qe_pv_z0, qe_pv_z1, List.set_cons_zero, List.set_cons_succ, dX8_finds_39, dX8_finds_40, qe_get, qe_gf, qe_fg, List.getElem?_cons_zero, List.getElem?_cons_succ, dX8_finds_43, qe_if_eq, dX8_finds_46, dX8_finds_47, dX8_finds_49, qe_lconst0, dX8_finds_50, dX8_finds_51, qe_if_le, dX8_finds_54, dX8_finds_56, dX8_finds_59, dX8_finds_61, dX8_finds_62, qF_8_79, dX8_finds_65, dX8_finds_66, dX8_finds_67, dX8_finds_70, qF_8_83, dX8_finds_73, dX8_finds_76, dX8_finds_77, dX8_finds_78, qe_iload_2, dX8_finds_79, dX8_finds_80, dX8_finds_82, dX8_finds_84, ms_X8_finds_86, dX8_finds_87, ms_X8_finds_68, dX8_finds_90, dX8_finds_93, dX8_finds_94, dX8_finds_95, dX8_finds_96, dX8_finds_97, dX8_finds_99, dX8_finds_100, dX8_finds_102, dX8_finds_105, dX8_finds_106, ms_X8_finds_90, dX8_finds_109, dX8_finds_112, qe_vret, q_set_s, q_set_ss]
      exact h
  refine hG (fun pc => pc == 36) 60 _ _ _ _ _ _ ?_
  simp only [qe_x, qe_v, q_get, Bool.cond_false, Bool.cond_true, Nat.reduceAdd, Nat.reduceBEq, Nat.reduceLT, Nat.reduceLeDiff, Nat.add_zero, Nat.zero_add, Nat.le_refl, true_and, and_true, List.length_cons, List.length_nil, Option.some.injEq, exists_eq_left', exists_eq_left, exists_eq', reduceCtorEq, dX8_finds_0, qe_iload_1, qe_il, dX8_finds_1, qe_iload_3, dX8_finds_2, qe_invs, ms_X8_finds_71, qe_c0, qe_c1, qe_c2, qe_c3, qe_c8, qe_c9, qe_cs, qe_cv, qe_tk, qe_tk0, qe_cat0, qe_cati, qe_catl, qe_catr, qe_catn, qe_ob, qe_cpy, qe_tl, qe_tl0, dX8_finds_5, qe_lstore, q_st1, q_st2, q_clr, Value.category, Nat.reduceEqDiff, reduceIte, dX8_finds_7, qe_aload_0, qe_al, dX8_finds_8, qe_lload, qe_ll, dX8_finds_10, dX8_finds_12, dX8_finds_14, qe_lmul, dX8_finds_15, qe_lcmp, iI_cmp_lt, iI_cmp_le, iI_cmp_ge, iI_cmp_gt, iI_cmp_eq, dX8_finds_16, qe_if_gt, q_br, q_tg, Int.reduceNatCast', Int.reduceAdd, Int.reduceToNat, Int.reduceLE, Int.reduceNeg, dX8_finds_19, dX8_finds_21, dX8_finds_23, qe_lneg, dX8_finds_24, dX8_finds_26, dX8_finds_27, dX8_finds_28, qe_if_ge, dX8_finds_31, qe_iconst, dX8_finds_32, qe_goto, dX8_finds_35, dX8_finds_36, qe_put, qF_8_75, qe_pf, qe_pfF, qe_fp, qe_pv_i, qe_pv_l, qe_pv_a, qe_pv_o, qe_pv_z0, qe_pv_z1, List.set_cons_zero, List.set_cons_succ, dX8_finds_39, dX8_finds_40, qe_get, qe_gf, qe_fg, List.getElem?_cons_zero, List.getElem?_cons_succ, dX8_finds_43, qe_if_eq, dX8_finds_46, dX8_finds_47, dX8_finds_49, qe_lconst0, dX8_finds_50, dX8_finds_51, qe_if_le, dX8_finds_54, dX8_finds_56, dX8_finds_59, dX8_finds_61, dX8_finds_62, qF_8_79, dX8_finds_65, dX8_finds_66, dX8_finds_67, dX8_finds_70, qF_8_83, dX8_finds_73, dX8_finds_76, dX8_finds_77, dX8_finds_78, qe_iload_2, dX8_finds_79, dX8_finds_80, dX8_finds_82, dX8_finds_84, ms_X8_finds_86, dX8_finds_87, ms_X8_finds_68, dX8_finds_90, dX8_finds_93, dX8_finds_94, dX8_finds_95, dX8_finds_96, dX8_finds_97, dX8_finds_99, dX8_finds_100, dX8_finds_102, dX8_finds_105, dX8_finds_106, ms_X8_finds_90, dX8_finds_109, dX8_finds_112, qe_vret]
  refine m_greatest hF ?_
  simp only [qe_x, qe_v, q_get, Bool.cond_false, Bool.cond_true, Nat.reduceAdd, Nat.reduceBEq, Nat.reduceLT, Nat.reduceLeDiff, Nat.add_zero, Nat.zero_add, Nat.le_refl, true_and, and_true, List.length_cons, List.length_nil, Option.some.injEq, exists_eq_left', exists_eq_left, exists_eq', reduceCtorEq, dX8_finds_0, qe_iload_1, qe_il, dX8_finds_1, qe_iload_3, dX8_finds_2, qe_invs, ms_X8_finds_71, qe_c0, qe_c1, qe_c2, qe_c3, qe_c8, qe_c9, qe_cs, qe_cv, qe_tk, qe_tk0, qe_cat0, qe_cati, qe_catl, qe_catr, qe_catn, qe_ob, qe_cpy, qe_tl, qe_tl0, dX8_finds_5, qe_lstore, q_st1, q_st2, q_clr, Value.category, Nat.reduceEqDiff, reduceIte, dX8_finds_7, qe_aload_0, qe_al, dX8_finds_8, qe_lload, qe_ll, dX8_finds_10, dX8_finds_12, dX8_finds_14, qe_lmul, dX8_finds_15, qe_lcmp, iI_cmp_lt, iI_cmp_le, iI_cmp_ge, iI_cmp_gt, iI_cmp_eq, dX8_finds_16, qe_if_gt, q_br, q_tg, Int.reduceNatCast', Int.reduceAdd, Int.reduceToNat, Int.reduceLE, Int.reduceNeg, dX8_finds_19, dX8_finds_21, dX8_finds_23, qe_lneg, dX8_finds_24, dX8_finds_26, dX8_finds_27, dX8_finds_28, qe_if_ge, dX8_finds_31, qe_iconst, dX8_finds_32, qe_goto, dX8_finds_35, dX8_finds_36, qe_put, qF_8_75, qe_pf, qe_pfF, qe_fp, qe_pv_i, qe_pv_l, qe_pv_a, qe_pv_o, qe_pv_z0, qe_pv_z1, List.set_cons_zero, List.set_cons_succ, dX8_finds_39, dX8_finds_40, qe_get, qe_gf, qe_fg, List.getElem?_cons_zero, List.getElem?_cons_succ, dX8_finds_43, qe_if_eq, dX8_finds_46, dX8_finds_47, dX8_finds_49, qe_lconst0, dX8_finds_50, dX8_finds_51, qe_if_le, dX8_finds_54, dX8_finds_56, dX8_finds_59, dX8_finds_61, dX8_finds_62, qF_8_79, dX8_finds_65, dX8_finds_66, dX8_finds_67, dX8_finds_70, qF_8_83, dX8_finds_73, dX8_finds_76, dX8_finds_77, dX8_finds_78, qe_iload_2, dX8_finds_79, dX8_finds_80, dX8_finds_82, dX8_finds_84, ms_X8_finds_86, dX8_finds_87, ms_X8_finds_68, dX8_finds_90, dX8_finds_93, dX8_finds_94, dX8_finds_95, dX8_finds_96, dX8_finds_97, dX8_finds_99, dX8_finds_100, dX8_finds_102, dX8_finds_105, dX8_finds_106, ms_X8_finds_90, dX8_finds_109, dX8_finds_112, qe_vret, lI_mul, lI_neg]
  simp (disch := omega) only [lI_le, lI_lt]
  refine ⟨fun q => j1 true ?_, fun q => ⟨fun q2 => j1 false ?_, fun q2 => j1 true ?_⟩⟩
  · exact (decide_eq_true (Or.inl (a1.mp (by omega)))).symm
  · exact (decide_eq_false (fun z => by
      rcases z with z | z
      · have := a1.mpr z; omega
      · have := a2.mpr (by omega); omega)).symm
  · exact (decide_eq_true (Or.inr (by have := a2.mp (by omega); omega))).symm
/-- a comparison of scaled numbers -/
theorem sfr_sub {u v n d l : Int} (h : sfr u v n d) : (u - l * v) * (d * 1024) = (n - l * (d * 1024)) * v := by
  rw [Int.sub_mul, Int.sub_mul, h, Int.mul_assoc, Int.mul_assoc, Int.mul_comm v]
theorem sc_lt {a b c e s t : Int} (hs : 0 < s) (ht : 0 < t) (h1 : a * s = c * t) (h2 : b * s = e * t) : (a < b ↔ c < e) ∧ (a = b ↔ c = e) := by
  constructor
  · constructor
    · intro q
      have := Int.mul_lt_mul_of_pos_right q hs
      rw [h1, h2] at this
      exact Int.lt_of_mul_lt_mul_right this (by omega)
    · intro q
      have := Int.mul_lt_mul_of_pos_right q ht
      rw [← h1, ← h2] at this
      exact Int.lt_of_mul_lt_mul_right this (by omega)
  · constructor
    · intro q
      rw [q, h2] at h1
      exact (Int.eq_of_mul_eq_mul_right (by omega) h1).symm
    · intro q
      rw [q, ← h2] at h1
      exact Int.eq_of_mul_eq_mul_right (by omega) h1
end
