/-! ===== the law's loop ===== -/
theorem law_loop {G : QK} {lim sm b B M L Z K : Nat} {xs : Nat → Int32} (hG : q_Cl cL_law 9 false (some .boolean) ms_L_law lim sm (fun _ _ => False) G) (hbB : b < B) (hBM : B + 547 ≤ M) (hL : L ≤ 2560) (hZ : Z ≤ lim) (hK : K ≤ sm)
    (hend : ∀ (i : Nat) (v : QWd), G 1351 [some (.ref b), some (.ref B), some (.ref M), some (.int (iI i))] [] v Z K) : ∀ (n i : Nat) (v : QWd) (y : QY), L ≤ i + n → i ≤ 2565 → lwS v b B M L xs y → G 18 [some (.ref b), some (.ref B), some (.ref M), some (.int (iI i))] [] v Z K := by
  intro n
  induction n with
  | zero =>
    intro i v y h1 h2 hS
    have hs := hS.2.2.2
    have hl : Int32.ofNat L = iI (L : Int) := nI_iI L
    refine hG (fun pc => decide (212 ≤ pc)) 60 _ _ _ _ _ _ ?_
    simp only [qe_x, qe_v, q_get, Bool.cond_false, Bool.cond_true, Nat.reduceAdd, Nat.reduceBEq, Nat.reduceLT, Nat.reduceLeDiff, Nat.add_zero, Nat.zero_add, Nat.le_refl, true_and, and_true, List.length_cons, List.length_nil, Option.some.injEq, exists_eq_left', exists_eq_left, exists_eq', reduceCtorEq, Bool.or_self, Bool.or_false, Bool.false_or, Bool.or_true, Bool.true_or, dL_law_18, qe_iload_3, qe_il, dL_law_19, qe_aload_0, qe_al, dL_law_20, qe_alen, qe_ln, dL_law_21, qe_iconst, dL_law_22, qe_isub, dL_law_23, qe_icmp_gt, q_br, q_tg, Int.reduceNatCast', Int.reduceAdd, Int.reduceToNat, Int.reduceLE, Int.reduceNeg, dL_law_26, dL_law_27, dL_law_28, qe_iald, qe_ai, qe_ai6, dL_law_29, qe_bipush, Int.reduceLT, dL_law_31, qe_iand, dL_law_32, qe_table, hs, hl, iI_sub, decide_true, decide_false]
    simp (disch := omega) only [iI_lt]
    exact ⟨fun _ => hend i v, fun z => absurd (show (L : Int) - 5 < i by omega) z⟩
  | succ n ih =>
    intro i v y h1 h2 hS
    have hs := hS.2.2.2
    have hl : Int32.ofNat L = iI (L : Int) := nI_iI L
    by_cases hi : i + 5 ≤ L
    · have nx : ∀ v' y', lwS v' b B M L xs y' → G 1345 [some (.ref b), some (.ref B), some (.ref M), some (.int (iI i))] [] v' Z K := by
        intro v' y' hS'
        refine hG (fun pc => pc == 18) 60 _ _ _ _ _ _ ?_
        simp only [qe_x, qe_v, q_get, Bool.cond_false, Bool.cond_true, Nat.reduceAdd, Nat.reduceBEq, Nat.reduceLT, Nat.reduceLeDiff, Nat.add_zero, Nat.zero_add, Nat.le_refl, true_and, and_true, List.length_cons, List.length_nil, Option.some.injEq, exists_eq_left', exists_eq_left, exists_eq', reduceCtorEq, Bool.or_self, Bool.or_false, Bool.false_or, Bool.or_true, Bool.true_or, dL_law_1345, qe_iinc, qe_ii, q_st1, q_st2, q_clr, Value.category, Nat.reduceEqDiff, reduceIte, dL_law_1348, qe_goto, q_br, q_tg, Int.reduceNatCast', Int.reduceAdd, Int.reduceToNat, Int.reduceLE, Int.reduceNeg, iI_add]
        exact ih (i + 5) v' y' (by omega) (by omega) hS'
      obtain ⟨z, ez⟩ : ∃ z : Int, xs i = iI z := ⟨_, iI_of _⟩
      refine hG (fun pc => decide (212 ≤ pc)) 60 _ _ _ _ _ _ ?_
      simp only [qe_x, qe_v, q_get, Bool.cond_false, Bool.cond_true, Nat.reduceAdd, Nat.reduceBEq, Nat.reduceLT, Nat.reduceLeDiff, Nat.add_zero, Nat.zero_add, Nat.le_refl, true_and, and_true, List.length_cons, List.length_nil, Option.some.injEq, exists_eq_left', exists_eq_left, exists_eq', reduceCtorEq, Bool.or_self, Bool.or_false, Bool.false_or, Bool.or_true, Bool.true_or, dL_law_18, qe_iload_3, qe_il, dL_law_19, qe_aload_0, qe_al, dL_law_20, qe_alen, qe_ln, dL_law_21, qe_iconst, dL_law_22, qe_isub, dL_law_23, qe_icmp_gt, q_br, q_tg, Int.reduceNatCast', Int.reduceAdd, Int.reduceToNat, Int.reduceLE, Int.reduceNeg, dL_law_26, dL_law_27, dL_law_28, qe_iald, qe_ai, qe_ai6, dL_law_29, qe_bipush, Int.reduceLT, dL_law_31, qe_iand, dL_law_32, qe_table, hs, hl, iI_sub, decide_true, decide_false]
      simp (disch := omega) only [iI_lt, iI_inN, iI_clN, true_and, ez, iI_and63]
      refine ⟨fun q => absurd q (by omega), fun _ => ?_⟩
      have r0 : 0 ≤ z % 64 ∧ z % 64 < 64 := ⟨by omega, by omega⟩
      generalize z % 64 = r at r0 ⊢
      rcases (show r = 0 ∨ r = 1 ∨ r = 2 ∨ r = 3 ∨ r = 4 ∨ r = 5 ∨ r = 6 ∨ r = 7 ∨ r = 8 ∨ r = 9 ∨ r = 10 ∨ r = 11 ∨ r = 12 ∨ r = 13 ∨ r = 14 ∨ r = 15 ∨ r = 16 ∨ r = 17 ∨ r = 18 ∨ r = 19 ∨ r = 20 ∨ r = 21 ∨ r = 22 ∨ r = 23 ∨ r = 24 ∨ r = 25 ∨ r = 26 ∨ r = 27 ∨ r = 28 ∨ r = 29 ∨ r = 30 ∨ r = 31 ∨ r = 32 ∨ r = 33 ∨ r = 34 ∨ r = 35 ∨ r = 36 ∨ r = 37 ∨ r = 38 ∨ r = 39 ∨ r = 40 ∨ 40 < r by omega) with rfl | rfl | rfl | rfl | rfl | rfl | rfl | rfl | rfl | rfl | rfl | rfl | rfl | rfl | rfl | rfl | rfl | rfl | rfl | rfl | rfl | rfl | rfl | rfl | rfl | rfl | rfl | rfl | rfl | rfl | rfl | rfl | rfl | rfl | rfl | rfl | rfl | rfl | rfl | rfl | rfl | c
      · refine q_tsI 0 180 212 (by omega) (by omega) (by omega) rfl (by omega) ?_
        simp only [qe_v, decide_true, Bool.cond_true, Nat.reduceLeDiff]
        exact law_0 hG hS hbB hBM hi hL hZ hK nx
      · refine q_tsI 1 233 265 (by omega) (by omega) (by omega) rfl (by omega) ?_
        simp only [qe_v, decide_true, Bool.cond_true, Nat.reduceLeDiff]
        exact law_1 hG hS hbB hBM hi hL hZ hK nx
      · refine q_tsI 2 266 298 (by omega) (by omega) (by omega) rfl (by omega) ?_
        simp only [qe_v, decide_true, Bool.cond_true, Nat.reduceLeDiff]
        exact law_2 hG hS hbB hBM hi hL hZ hK nx
      · refine q_tsI 3 299 331 (by omega) (by omega) (by omega) rfl (by omega) ?_
        simp only [qe_v, decide_true, Bool.cond_true, Nat.reduceLeDiff]
        exact law_3 hG hS hbB hBM hi hL hZ hK nx
      · refine q_tsI 4 322 354 (by omega) (by omega) (by omega) rfl (by omega) ?_
        simp only [qe_v, decide_true, Bool.cond_true, Nat.reduceLeDiff]
        exact law_4 hG hS hbB hBM hi hL hZ hK nx
      · refine q_tsI 5 345 377 (by omega) (by omega) (by omega) rfl (by omega) ?_
        simp only [qe_v, decide_true, Bool.cond_true, Nat.reduceLeDiff]
        exact law_5 hG hS hbB hBM hi hL hZ hK nx
      · refine q_tsI 6 368 400 (by omega) (by omega) (by omega) rfl (by omega) ?_
        simp only [qe_v, decide_true, Bool.cond_true, Nat.reduceLeDiff]
        exact law_6 hG hS hbB hBM hi hL hZ hK nx
      · refine q_tsI 7 391 423 (by omega) (by omega) (by omega) rfl (by omega) ?_
        simp only [qe_v, decide_true, Bool.cond_true, Nat.reduceLeDiff]
        exact law_7 hG hS hbB hBM hi hL hZ hK nx
      · refine q_tsI 8 414 446 (by omega) (by omega) (by omega) rfl (by omega) ?_
        simp only [qe_v, decide_true, Bool.cond_true, Nat.reduceLeDiff]
        exact law_8 hG hS hbB hBM hi hL hZ hK nx
      · refine q_tsI 9 467 499 (by omega) (by omega) (by omega) rfl (by omega) ?_
        simp only [qe_v, decide_true, Bool.cond_true, Nat.reduceLeDiff]
        exact law_9 hG hS hbB hBM hi hL hZ hK nx
      · refine q_tsI 10 490 522 (by omega) (by omega) (by omega) rfl (by omega) ?_
        simp only [qe_v, decide_true, Bool.cond_true, Nat.reduceLeDiff]
        exact law_10 hG hS hbB hBM hi hL hZ hK nx
      · refine q_tsI 11 503 535 (by omega) (by omega) (by omega) rfl (by omega) ?_
        simp only [qe_v, decide_true, Bool.cond_true, Nat.reduceLeDiff]
        exact law_11 hG hS hbB hBM hi hL hZ hK nx
      · refine q_tsI 12 516 548 (by omega) (by omega) (by omega) rfl (by omega) ?_
        simp only [qe_v, decide_true, Bool.cond_true, Nat.reduceLeDiff]
        exact law_12 hG hS hbB hBM hi hL hZ hK nx
      · refine q_tsI 13 529 561 (by omega) (by omega) (by omega) rfl (by omega) ?_
        simp only [qe_v, decide_true, Bool.cond_true, Nat.reduceLeDiff]
        exact law_13 hG hS hbB hBM hi hL hZ hK nx
      · refine q_tsI 14 542 574 (by omega) (by omega) (by omega) rfl (by omega) ?_
        simp only [qe_v, decide_true, Bool.cond_true, Nat.reduceLeDiff]
        exact law_14 hG hS hbB hBM hi hL hZ hK nx
      · refine q_tsI 15 585 617 (by omega) (by omega) (by omega) rfl (by omega) ?_
        simp only [qe_v, decide_true, Bool.cond_true, Nat.reduceLeDiff]
        exact law_15 hG hS hbB hBM hi hL hZ hK nx
      · refine q_tsI 16 628 660 (by omega) (by omega) (by omega) rfl (by omega) ?_
        simp only [qe_v, decide_true, Bool.cond_true, Nat.reduceLeDiff]
        exact law_16 hG hS hbB hBM hi hL hZ hK nx
      · refine q_tsI 17 671 703 (by omega) (by omega) (by omega) rfl (by omega) ?_
        simp only [qe_v, decide_true, Bool.cond_true, Nat.reduceLeDiff]
        exact law_17 hG hS hbB hBM hi hL hZ hK nx
      · refine q_tsI 18 684 716 (by omega) (by omega) (by omega) rfl (by omega) ?_
        simp only [qe_v, decide_true, Bool.cond_true, Nat.reduceLeDiff]
        exact law_18 hG hS hbB hBM hi hL hZ hK nx
      · refine q_tsI 19 707 739 (by omega) (by omega) (by omega) rfl (by omega) ?_
        simp only [qe_v, decide_true, Bool.cond_true, Nat.reduceLeDiff]
        exact law_19 hG hS hbB hBM hi hL hZ hK nx
      · refine q_tsI 20 730 762 (by omega) (by omega) (by omega) rfl (by omega) ?_
        simp only [qe_v, decide_true, Bool.cond_true, Nat.reduceLeDiff]
        exact law_20 hG hS hbB hBM hi hL hZ hK nx
      · refine q_tsI 21 753 785 (by omega) (by omega) (by omega) rfl (by omega) ?_
        simp only [qe_v, decide_true, Bool.cond_true, Nat.reduceLeDiff]
        exact law_21 hG hS hbB hBM hi hL hZ hK nx
      · refine q_tsI 22 802 834 (by omega) (by omega) (by omega) rfl (by omega) ?_
        simp only [qe_v, decide_true, Bool.cond_true, Nat.reduceLeDiff]
        exact law_22 hG hS hbB hBM hi hL hZ hK nx
      · refine q_tsI 23 825 857 (by omega) (by omega) (by omega) rfl (by omega) ?_
        simp only [qe_v, decide_true, Bool.cond_true, Nat.reduceLeDiff]
        exact law_23 hG hS hbB hBM hi hL hZ hK nx
      · refine q_tsI 24 848 880 (by omega) (by omega) (by omega) rfl (by omega) ?_
        simp only [qe_v, decide_true, Bool.cond_true, Nat.reduceLeDiff]
        exact law_24 hG hS hbB hBM hi hL hZ hK nx
      · refine q_tsI 25 872 904 (by omega) (by omega) (by omega) rfl (by omega) ?_
        simp only [qe_v, decide_true, Bool.cond_true, Nat.reduceLeDiff]
        exact law_25 hG hS hbB hBM hi hL hZ hK nx
      · refine q_tsI 26 896 928 (by omega) (by omega) (by omega) rfl (by omega) ?_
        simp only [qe_v, decide_true, Bool.cond_true, Nat.reduceLeDiff]
        exact law_26 hG hS hbB hBM hi hL hZ hK nx
      · refine q_tsI 27 939 971 (by omega) (by omega) (by omega) rfl (by omega) ?_
        simp only [qe_v, decide_true, Bool.cond_true, Nat.reduceLeDiff]
        exact law_27 hG hS hbB hBM hi hL hZ hK nx
      · refine q_tsI 28 963 995 (by omega) (by omega) (by omega) rfl (by omega) ?_
        simp only [qe_v, decide_true, Bool.cond_true, Nat.reduceLeDiff]
        exact law_28 hG hS hbB hBM hi hL hZ hK nx
      · refine q_tsI 29 987 1019 (by omega) (by omega) (by omega) rfl (by omega) ?_
        simp only [qe_v, decide_true, Bool.cond_true, Nat.reduceLeDiff]
        exact law_29 hG hS hbB hBM hi hL hZ hK nx
      · refine q_tsI 30 1011 1043 (by omega) (by omega) (by omega) rfl (by omega) ?_
        simp only [qe_v, decide_true, Bool.cond_true, Nat.reduceLeDiff]
        exact law_30 hG hS hbB hBM hi hL hZ hK nx
      · refine q_tsI 31 1035 1067 (by omega) (by omega) (by omega) rfl (by omega) ?_
        simp only [qe_v, decide_true, Bool.cond_true, Nat.reduceLeDiff]
        exact law_31 hG hS hbB hBM hi hL hZ hK nx
      · refine q_tsI 32 1059 1091 (by omega) (by omega) (by omega) rfl (by omega) ?_
        simp only [qe_v, decide_true, Bool.cond_true, Nat.reduceLeDiff]
        exact law_32 hG hS hbB hBM hi hL hZ hK nx
      · refine q_tsI 33 1072 1104 (by omega) (by omega) (by omega) rfl (by omega) ?_
        simp only [qe_v, decide_true, Bool.cond_true, Nat.reduceLeDiff]
        exact law_33 hG hS hbB hBM hi hL hZ hK nx
      · refine q_tsI 34 1105 1137 (by omega) (by omega) (by omega) rfl (by omega) ?_
        simp only [qe_v, decide_true, Bool.cond_true, Nat.reduceLeDiff]
        exact law_34 hG hS hbB hBM hi hL hZ hK nx
      · refine q_tsI 35 1164 1196 (by omega) (by omega) (by omega) rfl (by omega) ?_
        simp only [qe_v, decide_true, Bool.cond_true, Nat.reduceLeDiff]
        exact law_35 hG hS hbB hBM hi hL hZ hK nx
      · refine q_tsI 36 1187 1219 (by omega) (by omega) (by omega) rfl (by omega) ?_
        simp only [qe_v, decide_true, Bool.cond_true, Nat.reduceLeDiff]
        exact law_36 hG hS hbB hBM hi hL hZ hK nx
      · refine q_tsI 37 1230 1262 (by omega) (by omega) (by omega) rfl (by omega) ?_
        simp only [qe_v, decide_true, Bool.cond_true, Nat.reduceLeDiff]
        exact law_37 hG hS hbB hBM hi hL hZ hK nx
      · refine q_tsI 38 1263 1295 (by omega) (by omega) (by omega) rfl (by omega) ?_
        simp only [qe_v, decide_true, Bool.cond_true, Nat.reduceLeDiff]
        exact law_38 hG hS hbB hBM hi hL hZ hK nx
      · refine q_tsI 39 1276 1308 (by omega) (by omega) (by omega) rfl (by omega) ?_
        simp only [qe_v, decide_true, Bool.cond_true, Nat.reduceLeDiff]
        exact law_39 hG hS hbB hBM hi hL hZ hK nx
      · refine q_tsI 40 1299 1331 (by omega) (by omega) (by omega) rfl (by omega) ?_
        simp only [qe_v, decide_true, Bool.cond_true, Nat.reduceLeDiff]
        exact law_40 hG hS hbB hBM hi hL hZ hK nx
      · refine q_tsD r 1345 (by omega) (by omega) (by omega) ?_
        simp only [qe_v, decide_true, Bool.cond_true, Nat.reduceLeDiff]
        exact nx v y hS
    · refine hG (fun pc => decide (212 ≤ pc)) 60 _ _ _ _ _ _ ?_
      simp only [qe_x, qe_v, q_get, Bool.cond_false, Bool.cond_true, Nat.reduceAdd, Nat.reduceBEq, Nat.reduceLT, Nat.reduceLeDiff, Nat.add_zero, Nat.zero_add, Nat.le_refl, true_and, and_true, List.length_cons, List.length_nil, Option.some.injEq, exists_eq_left', exists_eq_left, exists_eq', reduceCtorEq, Bool.or_self, Bool.or_false, Bool.false_or, Bool.or_true, Bool.true_or, dL_law_18, qe_iload_3, qe_il, dL_law_19, qe_aload_0, qe_al, dL_law_20, qe_alen, qe_ln, dL_law_21, qe_iconst, dL_law_22, qe_isub, dL_law_23, qe_icmp_gt, q_br, q_tg, Int.reduceNatCast', Int.reduceAdd, Int.reduceToNat, Int.reduceLE, Int.reduceNeg, dL_law_26, dL_law_27, dL_law_28, qe_iald, qe_ai, qe_ai6, dL_law_29, qe_bipush, Int.reduceLT, dL_law_31, qe_iand, dL_law_32, qe_table, hs, hl, iI_sub, decide_true, decide_false]
      simp (disch := omega) only [iI_lt]
      exact ⟨fun _ => hend i v, fun z => absurd (show (L : Int) - 5 < i by omega) z⟩
theorem law_body {G : QK} {b B L : Nat} {xs : Nat → Int32} {w : QWd} (hG : q_Cl cL_law 9 false (some .boolean) ms_L_law (B + 600000) 7302250 (fun _ _ => False) G) (hbB : b < B) (hL : L ≤ 2560) (hs : w b = some (.inl (6, L, .inl xs)))
    (hend : ∀ (i : Nat) (v : QWd), G 1351 [some (.ref b), some (.ref B), some (.ref (B + 547)), some (.int (iI i))] [] v (B + 558) 14642) : G 0 [some (.ref b), none, none, none] [] w B 0 := by
  have n1 : B + 1 + 546 = B + 547 := rfl
  have n2 : B + 547 + 1 + 10 = B + 558 := rfl
  refine hG (fun pc => pc == 18) 60 _ _ _ _ _ _ ?_
  simp (disch := omega) only [qe_x, qe_v, q_get, Bool.cond_false, Bool.cond_true, Nat.reduceAdd, Nat.reduceBEq, Nat.reduceLT, Nat.reduceLeDiff, Nat.add_zero, Nat.zero_add, Nat.le_refl, true_and, and_true, List.length_cons, List.length_nil, Option.some.injEq, exists_eq_left', exists_eq_left, exists_eq', reduceCtorEq, Bool.or_self, Bool.or_false, Bool.false_or, Bool.or_true, Bool.true_or, dL_law_0, qe_new, qN_9_7, q_nw, dL_law_3, qe_dup_i, qe_dup_r, dL_law_4, qe_invi, ms_L_law_9, qe_c0, qe_c1, qe_c2, qe_c3, qe_c8, qe_c9, qe_cs, qe_cv, qe_tk, qe_tk0, qe_cat0, qe_cati, qe_catl, qe_catr, qe_catn, qe_ob, qe_cpy, qe_tl, qe_tl0, dL_law_7, qe_astore_1, q_st1, q_st2, q_clr, Value.category, Nat.reduceEqDiff, reduceIte, dL_law_8, qN_9_10, dL_law_11, dL_law_12, ms_L_law_12, dL_law_15, qe_astore_2, dL_law_16, qe_iconst, dL_law_17, qe_istore_3, q_set_s, Nat.le_add_right]
  refine ⟨⟨_, q_set_s _ _ _⟩, t_benchInit (q_set_s _ _ _) (fun w1 b1 f1 => ?_)⟩
  simp (disch := omega) only [qe_x, qe_v, q_get, Bool.cond_false, Bool.cond_true, Nat.reduceAdd, Nat.reduceBEq, Nat.reduceLT, Nat.reduceLeDiff, Nat.add_zero, Nat.zero_add, Nat.le_refl, true_and, and_true, List.length_cons, List.length_nil, Option.some.injEq, exists_eq_left', exists_eq_left, exists_eq', reduceCtorEq, Bool.or_self, Bool.or_false, Bool.false_or, Bool.or_true, Bool.true_or, dL_law_0, qe_new, qN_9_7, q_nw, dL_law_3, qe_dup_i, qe_dup_r, dL_law_4, qe_invi, ms_L_law_9, qe_c0, qe_c1, qe_c2, qe_c3, qe_c8, qe_c9, qe_cs, qe_cv, qe_tk, qe_tk0, qe_cat0, qe_cati, qe_catl, qe_catr, qe_catn, qe_ob, qe_cpy, qe_tl, qe_tl0, dL_law_7, qe_astore_1, q_st1, q_st2, q_clr, Value.category, Nat.reduceEqDiff, reduceIte, dL_law_8, qN_9_10, dL_law_11, dL_law_12, ms_L_law_12, dL_law_15, qe_astore_2, dL_law_16, qe_iconst, dL_law_17, qe_istore_3, n1, q_set_s, Nat.le_add_right]
  refine ⟨⟨_, q_set_s _ _ _⟩, m_init (q_set_s _ _ _) (fun w2 m2 f2 => ?_)⟩
  simp (disch := omega) only [qe_x, qe_v, q_get, Bool.cond_false, Bool.cond_true, Nat.reduceAdd, Nat.reduceBEq, Nat.reduceLT, Nat.reduceLeDiff, Nat.add_zero, Nat.zero_add, Nat.le_refl, true_and, and_true, List.length_cons, List.length_nil, Option.some.injEq, exists_eq_left', exists_eq_left, exists_eq', reduceCtorEq, Bool.or_self, Bool.or_false, Bool.false_or, Bool.or_true, Bool.true_or, dL_law_0, qe_new, qN_9_7, q_nw, dL_law_3, qe_dup_i, qe_dup_r, dL_law_4, qe_invi, ms_L_law_9, qe_c0, qe_c1, qe_c2, qe_c3, qe_c8, qe_c9, qe_cs, qe_cv, qe_tk, qe_tk0, qe_cat0, qe_cati, qe_catl, qe_catr, qe_catn, qe_ob, qe_cpy, qe_tl, qe_tl0, dL_law_7, qe_astore_1, q_st1, q_st2, q_clr, Value.category, Nat.reduceEqDiff, reduceIte, dL_law_8, qN_9_10, dL_law_11, dL_law_12, ms_L_law_12, dL_law_15, qe_astore_2, dL_law_16, qe_iconst, dL_law_17, qe_istore_3, n2]
  have b2 : bAt w2 B y00 := (b1.fr (b := B + 547) (n := 1) (fr.rf.set (by omega) (by omega)) (by omega)).fr f2 (by omega)
  have s2 : w2 b = some (.inl (6, L, .inl xs)) := by rw [f2 _ (by omega), q_set_n _ _ (by omega), f1 _ (by omega), q_set_n _ _ (by omega)]; exact hs
  exact law_loop hG hbB (by omega) hL (by omega) (by omega) hend L 0 w2 y00 (by omega) (by omega) ⟨b2, m2, gd00, s2⟩
