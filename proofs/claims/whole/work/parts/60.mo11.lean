/-! ===== Model: lowest terms, places ===== -/
section
variable {w : QWd} {sz : Nat} {post : QPo}
theorem m_divisor {a b : Int} (ha : -9223372036854775808 < a ∧ a < 9223372036854775808) (hb : 0 < b ∧ b < 9223372036854775808) (h : post (some (.long (lI (Nat.gcd a.natAbs b.natAbs : Nat)))) w) : T_X8_divisor [.long (lI a), .long (lI b)] w sz post := by
  refine Ti_X8_divisor (fun G hG => ?_)
  have loop : ∀ (N A C : Nat) (x8 x9 : Option Value), C ≤ N → A < 9223372036854775808 → C < 9223372036854775808 → Nat.gcd A C = Nat.gcd a.natAbs b.natAbs → G 17 [some (.long (lI a)), none, some (.long (lI b)), none, some (.long (lI A)), none, some (.long (lI C)), none, x8, x9] [] w sz 0 := by
    intro N
    induction N with
    | zero =>
      intro A C x8 x9 hC hA hC2 e
      have c0 : C = 0 := by omega
      subst c0
      refine hG (fun pc => pc == 17) 60 _ _ _ _ _ _ ?_
      simp only [qe_x, qe_v, q_get, Bool.cond_false, Bool.cond_true, Nat.reduceAdd, Nat.reduceBEq, Nat.reduceLT, Nat.reduceLeDiff, Nat.add_zero, Nat.zero_add, Nat.le_refl, true_and, and_true, List.length_cons, List.length_nil, Option.some.injEq, exists_eq_left', exists_eq_left, exists_eq', reduceCtorEq, dX8_divisor_0, qe_lload_0, qe_ll, dX8_divisor_1, qe_lconst0, dX8_divisor_2, qe_lcmp, iI_cmp_lt, iI_cmp_le, iI_cmp_ge, iI_cmp_gt, iI_cmp_eq, dX8_divisor_3, qe_if_ge, q_br, q_tg, Int.reduceNatCast', Int.reduceAdd, Int.reduceToNat, Int.reduceLE, Int.reduceNeg, dX8_divisor_6, dX8_divisor_7, qe_lneg, dX8_divisor_8, qe_goto, dX8_divisor_11, dX8_divisor_12, qe_lstore, q_st1, q_st2, q_clr, Value.category, Nat.reduceEqDiff, reduceIte, dX8_divisor_14, qe_lload_2, dX8_divisor_15, dX8_divisor_17, qe_lload, dX8_divisor_19, dX8_divisor_20, dX8_divisor_21, qe_if_le, dX8_divisor_24, dX8_divisor_26, dX8_divisor_28, qe_lrem, dX8_divisor_29, dX8_divisor_31, dX8_divisor_33, dX8_divisor_35, dX8_divisor_37, dX8_divisor_39, dX8_divisor_42, dX8_divisor_44, qe_lret]
      simp (disch := omega) only [lI_le]
      rw [Nat.gcd_zero_right] at e
      rw [← e] at h
      exact ⟨fun _ => h, fun q => absurd (show ((0 : Nat) : Int) ≤ 0 by omega) q⟩
    | succ N ih =>
      intro A C x8 x9 hC hA hC2 e
      rcases Nat.eq_zero_or_pos C with c0 | c0
      · subst c0
        exact ih A 0 x8 x9 (by omega) hA (by omega) e
      · have m1 := Nat.mod_lt A c0
        have e1 : Nat.gcd C (A % C) = Nat.gcd a.natAbs b.natAbs := by rw [← e, Nat.gcd_comm C, Nat.gcd_comm A, ← Nat.gcd_rec]
        refine hG (fun pc => pc == 17) 60 _ _ _ _ _ _ ?_
        simp only [qe_x, qe_v, q_get, Bool.cond_false, Bool.cond_true, Nat.reduceAdd, Nat.reduceBEq, Nat.reduceLT, Nat.reduceLeDiff, Nat.add_zero, Nat.zero_add, Nat.le_refl, true_and, and_true, List.length_cons, List.length_nil, Option.some.injEq, exists_eq_left', exists_eq_left, exists_eq', reduceCtorEq, dX8_divisor_0, qe_lload_0, qe_ll, dX8_divisor_1, qe_lconst0, dX8_divisor_2, qe_lcmp, iI_cmp_lt, iI_cmp_le, iI_cmp_ge, iI_cmp_gt, iI_cmp_eq, dX8_divisor_3, qe_if_ge, q_br, q_tg, Int.reduceNatCast', Int.reduceAdd, Int.reduceToNat, Int.reduceLE, Int.reduceNeg, dX8_divisor_6, dX8_divisor_7, qe_lneg, dX8_divisor_8, qe_goto, dX8_divisor_11, dX8_divisor_12, qe_lstore, q_st1, q_st2, q_clr, Value.category, Nat.reduceEqDiff, reduceIte, dX8_divisor_14, qe_lload_2, dX8_divisor_15, dX8_divisor_17, qe_lload, dX8_divisor_19, dX8_divisor_20, dX8_divisor_21, qe_if_le, dX8_divisor_24, dX8_divisor_26, dX8_divisor_28, qe_lrem, dX8_divisor_29, dX8_divisor_31, dX8_divisor_33, dX8_divisor_35, dX8_divisor_37, dX8_divisor_39, dX8_divisor_42, dX8_divisor_44, qe_lret]
        rw [rem_toL (by omega) (by omega) (by omega) (by omega)]
        simp (disch := omega) only [lI_le, lI_eq]
        refine ⟨fun q => absurd q (by omega), fun _ => ⟨by omega, ih C (A % C) _ _ (by omega) (by omega) (by omega) e1⟩⟩
  have j1 : ∀ z : Int, z = (a.natAbs : Int) → G 12 [some (.long (lI a)), none, some (.long (lI b)), none, none, none, none, none, none, none] [.long (lI z)] w sz 0 := by
    intro z hz
    refine hG (fun pc => pc == 17) 60 _ _ _ _ _ _ ?_
    simp only [qe_x, qe_v, q_get, Bool.cond_false, Bool.cond_true, Nat.reduceAdd, Nat.reduceBEq, Nat.reduceLT, Nat.reduceLeDiff, Nat.add_zero, Nat.zero_add, Nat.le_refl, true_and, and_true, List.length_cons, List.length_nil, Option.some.injEq, exists_eq_left', exists_eq_left, exists_eq', reduceCtorEq, dX8_divisor_0, qe_lload_0, qe_ll, dX8_divisor_1, qe_lconst0, dX8_divisor_2, qe_lcmp, iI_cmp_lt, iI_cmp_le, iI_cmp_ge, iI_cmp_gt, iI_cmp_eq, dX8_divisor_3, qe_if_ge, q_br, q_tg, Int.reduceNatCast', Int.reduceAdd, Int.reduceToNat, Int.reduceLE, Int.reduceNeg, dX8_divisor_6, dX8_divisor_7, qe_lneg, dX8_divisor_8, qe_goto, dX8_divisor_11, dX8_divisor_12, qe_lstore, q_st1, q_st2, q_clr, Value.category, Nat.reduceEqDiff, reduceIte, dX8_divisor_14, qe_lload_2, dX8_divisor_15, dX8_divisor_17, qe_lload, dX8_divisor_19, dX8_divisor_20, dX8_divisor_21, qe_if_le, dX8_divisor_24, dX8_divisor_26, dX8_divisor_28, qe_lrem, dX8_divisor_29, dX8_divisor_31, dX8_divisor_33, dX8_divisor_35, dX8_divisor_37, dX8_divisor_39, dX8_divisor_42, dX8_divisor_44, qe_lret]
    have e2 := loop b.natAbs a.natAbs b.natAbs none none (by omega) (by omega) (by omega) rfl
    rw [show ((b.natAbs : Nat) : Int) = b by omega] at e2
    rw [hz]
    exact e2
  refine hG (fun pc => pc == 12) 60 _ _ _ _ _ _ ?_
  simp only [qe_x, qe_v, q_get, Bool.cond_false, Bool.cond_true, Nat.reduceAdd, Nat.reduceBEq, Nat.reduceLT, Nat.reduceLeDiff, Nat.add_zero, Nat.zero_add, Nat.le_refl, true_and, and_true, List.length_cons, List.length_nil, Option.some.injEq, exists_eq_left', exists_eq_left, exists_eq', reduceCtorEq, dX8_divisor_0, qe_lload_0, qe_ll, dX8_divisor_1, qe_lconst0, dX8_divisor_2, qe_lcmp, iI_cmp_lt, iI_cmp_le, iI_cmp_ge, iI_cmp_gt, iI_cmp_eq, dX8_divisor_3, qe_if_ge, q_br, q_tg, Int.reduceNatCast', Int.reduceAdd, Int.reduceToNat, Int.reduceLE, Int.reduceNeg, dX8_divisor_6, dX8_divisor_7, qe_lneg, dX8_divisor_8, qe_goto, dX8_divisor_11, dX8_divisor_12, qe_lstore, q_st1, q_st2, q_clr, Value.category, Nat.reduceEqDiff, reduceIte, dX8_divisor_14, qe_lload_2, dX8_divisor_15, dX8_divisor_17, qe_lload, dX8_divisor_19, dX8_divisor_20, dX8_divisor_21, qe_if_le, dX8_divisor_24, dX8_divisor_26, dX8_divisor_28, qe_lrem, dX8_divisor_29, dX8_divisor_31, dX8_divisor_33, dX8_divisor_35, dX8_divisor_37, dX8_divisor_39, dX8_divisor_42, dX8_divisor_44, qe_lret, lI_neg]
  simp (disch := omega) only [lI_le]
  exact ⟨fun q => j1 a (by omega), fun q => j1 (-a) (by omega)⟩
theorem m_at {M i : Nat} (hi : i < 100) (h : post (some (.int (iI (40 + 17 * i : Nat)))) w) : T_X8_at [.ref M, .int (iI i)] w sz post := by
  refine Ti_X8_at (fun G hG => hG (fun _ => false) 30 _ _ _ _ _ _ ?_)
  simp only [qe_x, qe_v, q_get, Bool.cond_false, Bool.cond_true, Nat.reduceAdd, Nat.reduceBEq, Nat.reduceLT, Nat.reduceLeDiff, Nat.add_zero, Nat.zero_add, Nat.le_refl, true_and, and_true, List.length_cons, List.length_nil, Option.some.injEq, exists_eq_left', exists_eq_left, exists_eq', reduceCtorEq, dX8_at_0, qe_bipush, Int.reduceLE, Int.reduceLT, Int.reduceNeg, dX8_at_2, dX8_at_4, qe_iload_1, qe_il, dX8_at_5, qe_imul, dX8_at_6, qe_iadd, dX8_at_7, qe_iret, qe_nar_i, qe_nar_0, qe_nar_1, iI_mul, iI_add]
  rw [show (40 : Int) + 17 * (i : Int) = ((40 + 17 * i : Nat) : Int) by omega]
  exact h
theorem m_isRecord {M : Nat} {y : QY} {i : Int} (hm : mAt w M y) (hy : yOk y) (hi : i32 i) (h : post (some (.int (iI (bI (decide (0 ≤ i ∧ i < eSz (yE y))))))) w) : T_X8_isRecord [.ref M, .int (iI i)] w sz post := by
  obtain ⟨-, -, h64, -⟩ := id hy
  obtain ⟨⟨lo, up, ov, um, us, un, xu, xd, ld, st, sp, bk, od, en, h0⟩, ⟨f, hp, hf⟩, -⟩ := hm
  have e : f 32 = lI (eSz (yE y) : Int) := hf.1.1 32 (by omega)
  have c32 : (iI 32).toNatClampNeg = 32 := by decide
  have i32' : vp_in (iI 32) 7896 = True := iI_inT (by omega) (by omega) (by omega)
  refine Ti_X8_isRecord (fun G hG => hG (fun _ => false) 60 _ _ _ _ _ _ ?_)
  simp only [qe_x, qe_v, q_get, Bool.cond_false, Bool.cond_true, Nat.reduceAdd, Nat.reduceBEq, Nat.reduceLT, Nat.reduceLeDiff, Nat.add_zero, Nat.zero_add, Nat.le_refl, true_and, and_true, List.length_cons, List.length_nil, Option.some.injEq, exists_eq_left', exists_eq_left, exists_eq', reduceCtorEq, dX8_isRecord_0, qe_iload_1, qe_il, dX8_isRecord_1, qe_if_lt, q_br, q_tg, Int.reduceNatCast', Int.reduceAdd, Int.reduceToNat, Int.reduceLE, Int.reduceNeg, dX8_isRecord_4, dX8_isRecord_5, qe_i2l, dX8_isRecord_6, qe_aload_0, qe_al, dX8_isRecord_7, qe_get, qF_8_7, qe_gf, qe_fg, List.getElem?_cons_zero, List.getElem?_cons_succ, dX8_isRecord_10, qe_bipush, Int.reduceLT, dX8_isRecord_12, qe_lald, qe_aj, dX8_isRecord_13, qe_lcmp, iI_cmp_lt, iI_cmp_le, iI_cmp_ge, iI_cmp_gt, iI_cmp_eq, dX8_isRecord_14, qe_if_ge, dX8_isRecord_17, qe_iconst, dX8_isRecord_18, qe_goto, dX8_isRecord_21, dX8_isRecord_22, qe_iret, qe_nar_i, qe_nar_0, qe_nar_1, h0, hp, c32, i32', true_and, e]
  simp (disch := omega) only [iI_l, iI_lt0, iI_lt, iI_le, lI_le, lI_lt]
  repeat' (first | refine And.intro ?_ ?_ | intro _)
  all_goals first
    | (rw [decide_eq_true (by omega)] at h; exact h)
    | (rw [decide_eq_false (by omega)] at h; exact h)
end
