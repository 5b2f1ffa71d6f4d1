/-! ===== formats explored: the numbers ===== -/
section
variable {p lo hi : Nat}
theorem ffl_top (hF : Fok p lo hi) : ffl p lo hi (ftop p hi) = ftop p hi := by
  have hb := fbits_rng hF (iabs (ftop p hi))
  unfold ffl
  generalize fbits p lo hi (iabs (ftop p hi)) = b at hb ⊢
  have e1 : ftop p hi = (2 ^ p - 1) * 2 ^ (hi - b) * 2 ^ b := by
    unfold ftop
    rw [Int.mul_assoc, ← Int.pow_add, show hi - b + b = hi by omega]
  have e2 := pw_pos b
  rw [e1, Int.mul_ediv_cancel _ (by omega)]
/-- whether a number is a value of a format -/
def isB (p lo hi : Nat) (v : Int) : Prop := iabs v ≤ ftop p hi ∧ ffl p lo hi (iabs v) = iabs v
theorem isB_eq (hF : Fok p lo hi) {v : Int} (hv : -1048576 ≤ v ∧ v ≤ 1048576) : (ffl p lo hi (fcl (ftop p hi) v) = v) ↔ isB p lo hi v := by
  have ht := ftop_rng hF
  have ab : iabs v = v ∧ 0 ≤ v ∨ iabs v = -v ∧ v < 0 := by unfold iabs; split <;> omega
  by_cases c : iabs v ≤ ftop p hi
  · rw [fcl_id (by omega) (by omega) (by omega)]
    refine ⟨fun h => ⟨c, ?_⟩, fun h => ?_⟩
    · rcases ab with ⟨e, e0⟩ | ⟨e, e0⟩
      · rw [e]; exact h
      · rw [e]
        have pb := pw_pos (fbits p lo hi (iabs v))
        have q := neg_div (v := -v) pb
        unfold ffl at h ⊢
        rw [show iabs (-v) = iabs v by unfold iabs; split <;> split <;> omega]
        rw [Int.neg_neg, h] at q
        by_cases z : -v / 2 ^ fbits p lo hi (iabs v) * 2 ^ fbits p lo hi (iabs v) = -v
        · exact z
        · rw [if_neg z] at q
          have := Int.lt_ediv_add_one_mul_self (-v) pb
          rw [Int.add_mul] at this
          omega
    · rcases ab with ⟨e, e0⟩ | ⟨e, e0⟩
      · have := h.2; rw [e] at this; exact this
      · have h2 := h.2
        rw [e] at h2
        have pb := pw_pos (fbits p lo hi (iabs v))
        have q := neg_div (v := -v) pb
        unfold ffl at h2 ⊢
        rw [show iabs (-v) = iabs v by unfold iabs; split <;> split <;> omega] at h2
        rw [Int.neg_neg, if_pos h2] at q
        omega
  · refine ⟨fun h => ?_, fun h => absurd h.1 c⟩
    have r := fcl_rng (t := ftop p hi) (v := v) (by omega)
    have g1 := ffl_ge hF r.1
    have g2 := ffl_le hF (v := fcl (ftop p hi) v) (by omega) (by omega)
    omega
theorem fsp_mono {v u : Int} (h : v ≤ u) : ∀ n b, fsp p n b v ≤ fsp p n b u := by
  intro n
  induction n with
  | zero => intro b; exact Nat.le_refl _
  | succ n ih =>
    intro b
    show (if 2 ^ p ≤ v / 2 ^ b then fsp p n (b + 1) v else b) ≤ (if 2 ^ p ≤ u / 2 ^ b then fsp p n (b + 1) u else b)
    have hd : v / 2 ^ b ≤ u / 2 ^ b := Int.ediv_le_ediv (pw_pos b) h
    by_cases c : 2 ^ p ≤ v / 2 ^ b
    · rw [if_pos c, if_pos (by omega)]
      exact ih (b + 1)
    · rw [if_neg c]
      split
      · have := (fsp_rng p u n (b + 1)).1; omega
      · exact Nat.le_refl _
/-- all numbers of an exponent fit where the longest odd one fits -/
theorem isB_all (hF : Fok p lo hi) {p' e : Nat} (hp : 1 ≤ p') (h : isB p lo hi (ftop p' e)) {m : Int} (h1 : 0 ≤ m) (h2 : m ≤ 2 ^ p' - 1) : isB p lo hi (m * 2 ^ e) := by
  have pe := pw_pos e
  have hx : 0 ≤ ftop p' e := Int.mul_nonneg (by have := pw_pos p'; omega) (by omega)
  have hm0 : 0 ≤ m * 2 ^ e := Int.mul_nonneg h1 (by omega)
  have hle : m * 2 ^ e ≤ ftop p' e := Int.mul_le_mul_of_nonneg_right h2 (by omega)
  obtain ⟨a1, a2⟩ := h
  rw [show iabs (ftop p' e) = ftop p' e from if_pos hx] at a1 a2
  unfold isB
  rw [show iabs (m * 2 ^ e) = m * 2 ^ e from if_pos hm0]
  refine ⟨by omega, ?_⟩
  unfold ffl at a2 ⊢
  rw [show iabs (ftop p' e) = ftop p' e from if_pos hx] at a2
  rw [show iabs (m * 2 ^ e) = m * 2 ^ e from if_pos hm0]
  have mono : fbits p lo hi (m * 2 ^ e) ≤ fbits p lo hi (ftop p' e) := fsp_mono hle _ _
  have hbe : fbits p lo hi (ftop p' e) ≤ e := by
    generalize fbits p lo hi (ftop p' e) = b at a2
    rcases Nat.lt_or_ge e b with c | c
    · exfalso
      have e2 : (2 : Int) ^ b = 2 ^ (b - e - 1) * 2 * 2 ^ e := by
        rw [Int.mul_assoc, show (2 : Int) * 2 ^ e = 2 ^ (e + 1) by rw [Int.pow_succ, Int.mul_comm], ← Int.pow_add, show b - e - 1 + (e + 1) = b by omega]
      generalize ftop p' e / 2 ^ b = q at a2
      unfold ftop at a2
      rw [e2, ← Int.mul_assoc, ← Int.mul_assoc] at a2
      have a3 := Int.eq_of_mul_eq_mul_right (show (2 : Int) ^ e ≠ 0 by omega) a2
      have e3 : (2 : Int) ^ p' = 2 ^ (p' - 1) * 2 := by
        rw [← Int.pow_succ, show (p' - 1).succ = p' by omega]
      rw [e3] at a3
      omega
    · exact c
  generalize fbits p lo hi (m * 2 ^ e) = b at mono ⊢
  have e4 : m * 2 ^ e = m * 2 ^ (e - b) * 2 ^ b := by
    rw [Int.mul_assoc, ← Int.pow_add, show e - b + b = e by omega]
  have pb := pw_pos b
  rw [e4, Int.mul_ediv_cancel _ (by omega)]
theorem fcp_top {v : Int} (h : ftop p hi ≤ v) : fcp p lo hi v = fcp p lo hi (ftop p hi) := by
  unfold fcp
  rw [if_pos (Int.le_refl _)]
  by_cases c : v ≤ ftop p hi
  · rw [if_pos c, show v = ftop p hi by omega]
  · rw [if_neg c]
end
/-! ===== Model: formats explored ===== -/
section
variable {M : Nat} {y : QY} {w : QWd} {sz : Nat} {post : QPo}
theorem m_prt {k j : Nat} {x : Int} (hm : mAt w M y) (hk : k < 4) (hj : j < 3) (hx : x = (if j = 0 then ((sFm (yS y) k).1 : Int) else if j = 1 then ((sFm (yS y) k).2.1 : Int) - 10 else ((sFm (yS y) k).2.2 : Int) - 10)) (h : post (some (.int (iI x))) w) : T_X8_part [.ref M, .int (iI k), .int (iI j)] w sz post := by
  obtain ⟨⟨lo, up, ov, um, us, un, xu, xd, ld, st, sp, bk, od, en, h0⟩, ⟨f, hp, hf⟩, -⟩ := hm
  refine m_part h0 hp hk hj ?_
  subst hx
  rcases (show j = 0 ∨ j = 1 ∨ j = 2 by omega) with rfl | rfl | rfl
  · rw [hf.1.h (by omega), pgH_p0 hk, lI_i]; exact h
  · rw [hf.1.h (by omega), pgH_p1 hk, lI_i]; exact h
  · rw [hf.1.h (by omega), pgH_p2 hk, lI_i]; exact h
theorem mAt.kl (hm : mAt w M y) : q_kl w M 8 := by
  obtain ⟨⟨lo, up, ov, um, us, un, xu, xd, ld, st, sp, bk, od, en, h0⟩, -⟩ := hm
  exact ⟨_, h0⟩
theorem m_most {k : Nat} (hm : mAt w M y) (hy : yOk y) (hk : k < 4) (h : post (some (.long (lI (ftop (sFm (yS y) k).1 (sFm (yS y) k).2.2)))) w) : T_X8_most [.ref M, .int (iI k)] w sz post := by
  refine Ti_X8_most (fun G hG => hG (fun _ => false) 60 _ _ _ _ _ _ ?_)
  simp only [qe_x, qe_v, q_get, Bool.cond_false, Bool.cond_true, Nat.reduceAdd, Nat.reduceBEq, Nat.reduceLT, Nat.reduceLeDiff, Nat.add_zero, Nat.zero_add, Nat.le_refl, true_and, and_true, List.length_cons, List.length_nil, Option.some.injEq, exists_eq_left', exists_eq_left, exists_eq', reduceCtorEq, dX8_most_0, qe_aload_0, qe_al, dX8_most_1, qe_iload_1, qe_il, dX8_most_2, qe_iconst, dX8_most_3, qe_invv, ms_X8_most_108, qe_c0, qe_c1, qe_c2, qe_c3, qe_c8, qe_c9, qe_cs, qe_cv, qe_tk, qe_tk0, qe_cat0, qe_cati, qe_catl, qe_catr, qe_catn, qe_ob, qe_cpy, qe_tl, qe_tl0, dX8_most_6, dX8_most_7, dX8_most_8, dX8_most_9, dX8_most_12, qe_invs, ms_X8_most_71, dX8_most_15, qe_lret]
  refine ⟨hm.kl, m_prt (k := k) (j := 0) hm hk (by omega) rfl ?_⟩
  simp only [qe_x, qe_v, q_get, Bool.cond_false, Bool.cond_true, Nat.reduceAdd, Nat.reduceBEq, Nat.reduceLT, Nat.reduceLeDiff, Nat.add_zero, Nat.zero_add, Nat.le_refl, true_and, and_true, List.length_cons, List.length_nil, Option.some.injEq, exists_eq_left', exists_eq_left, exists_eq', reduceCtorEq, dX8_most_0, qe_aload_0, qe_al, dX8_most_1, qe_iload_1, qe_il, dX8_most_2, qe_iconst, dX8_most_3, qe_invv, ms_X8_most_108, qe_c0, qe_c1, qe_c2, qe_c3, qe_c8, qe_c9, qe_cs, qe_cv, qe_tk, qe_tk0, qe_cat0, qe_cati, qe_catl, qe_catr, qe_catn, qe_ob, qe_cpy, qe_tl, qe_tl0, dX8_most_6, dX8_most_7, dX8_most_8, dX8_most_9, dX8_most_12, qe_invs, ms_X8_most_71, dX8_most_15, qe_lret]
  refine ⟨hm.kl, m_prt (k := k) (j := 2) hm hk (by omega) rfl ?_⟩
  simp only [qe_x, qe_v, q_get, Bool.cond_false, Bool.cond_true, Nat.reduceAdd, Nat.reduceBEq, Nat.reduceLT, Nat.reduceLeDiff, Nat.add_zero, Nat.zero_add, Nat.le_refl, true_and, and_true, List.length_cons, List.length_nil, Option.some.injEq, exists_eq_left', exists_eq_left, exists_eq', reduceCtorEq, dX8_most_0, qe_aload_0, qe_al, dX8_most_1, qe_iload_1, qe_il, dX8_most_2, qe_iconst, dX8_most_3, qe_invv, ms_X8_most_108, qe_c0, qe_c1, qe_c2, qe_c3, qe_c8, qe_c9, qe_cs, qe_cv, qe_tk, qe_tk0, qe_cat0, qe_cati, qe_catl, qe_catr, qe_catn, qe_ob, qe_cpy, qe_tl, qe_tl0, dX8_most_6, dX8_most_7, dX8_most_8, dX8_most_9, dX8_most_12, qe_invs, ms_X8_most_71, dX8_most_15, qe_lret]
  refine m_greatest (hy.1.1 k hk) ?_
  simp only [qe_x, qe_v, q_get, Bool.cond_false, Bool.cond_true, Nat.reduceAdd, Nat.reduceBEq, Nat.reduceLT, Nat.reduceLeDiff, Nat.add_zero, Nat.zero_add, Nat.le_refl, true_and, and_true, List.length_cons, List.length_nil, Option.some.injEq, exists_eq_left', exists_eq_left, exists_eq', reduceCtorEq, dX8_most_0, qe_aload_0, qe_al, dX8_most_1, qe_iload_1, qe_il, dX8_most_2, qe_iconst, dX8_most_3, qe_invv, ms_X8_most_108, qe_c0, qe_c1, qe_c2, qe_c3, qe_c8, qe_c9, qe_cs, qe_cv, qe_tk, qe_tk0, qe_cat0, qe_cati, qe_catl, qe_catr, qe_catn, qe_ob, qe_cpy, qe_tl, qe_tl0, dX8_most_6, dX8_most_7, dX8_most_8, dX8_most_9, dX8_most_12, qe_invs, ms_X8_most_71, dX8_most_15, qe_lret]
  exact h
theorem m_isIn {k : Nat} {v : Int} (hm : mAt w M y) (hy : yOk y) (hk : k < 4) (hv : -1048576 ≤ v ∧ v ≤ 1048576) (h1 : isB (sFm (yS y) k).1 (sFm (yS y) k).2.1 (sFm (yS y) k).2.2 v → post (some (.int (iI 1))) w) (h2 : ¬ isB (sFm (yS y) k).1 (sFm (yS y) k).2.1 (sFm (yS y) k).2.2 v → post (some (.int (iI 0))) w) : T_X8_isIn [.ref M, .int (iI k), .long (lI v)] w sz post := by
  have hF : Fok (sFm (yS y) k).1 (sFm (yS y) k).2.1 (sFm (yS y) k).2.2 := hy.1.1 k hk
  have ht := ftop_rng hF
  refine Ti_X8_isIn (fun G hG => ?_)
  have ab : iabs v = v ∧ 0 ≤ v ∨ iabs v = -v ∧ v < 0 := by unfold iabs; split <;> omega
  have fl := ffl_le hF (v := iabs v) (by omega) (by omega)
  have j12 : ∀ x : Int, x = iabs v → G 12 [some (.ref M), some (.int (iI k)), some (.long (lI v)), none, none, none] [.long (lI x)] w sz 0 := by
    intro x hx
    subst hx
    refine hG (fun pc => pc == 12) 60 _ _ _ _ _ _ ?_
    simp only [qe_x, qe_v, q_get, Bool.cond_false, Bool.cond_true, Nat.reduceAdd, Nat.reduceBEq, Nat.reduceLT, Nat.reduceLeDiff, Nat.add_zero, Nat.zero_add, Nat.le_refl, true_and, and_true, List.length_cons, List.length_nil, Option.some.injEq, exists_eq_left', exists_eq_left, exists_eq', reduceCtorEq, dX8_isIn_0, qe_lload_2, qe_ll, dX8_isIn_1, qe_lconst0, dX8_isIn_2, qe_lcmp, iI_cmp_lt, iI_cmp_le, iI_cmp_ge, iI_cmp_gt, iI_cmp_eq, dX8_isIn_3, qe_if_ge, q_br, q_tg, Int.reduceNatCast', Int.reduceAdd, Int.reduceToNat, Int.reduceLE, Int.reduceNeg, dX8_isIn_6, dX8_isIn_7, qe_lneg, dX8_isIn_8, qe_goto, dX8_isIn_11, dX8_isIn_12, qe_lstore, q_st1, q_st2, q_clr, Value.category, Nat.reduceEqDiff, reduceIte, dX8_isIn_14, qe_lload, dX8_isIn_16, qe_aload_0, qe_al, dX8_isIn_17, qe_iload_1, qe_il, dX8_isIn_18, qe_invv, ms_X8_isIn_280, qe_c0, qe_c1, qe_c2, qe_c3, qe_c8, qe_c9, qe_cs, qe_cv, qe_tk, qe_tk0, qe_cat0, qe_cati, qe_catl, qe_catr, qe_catn, qe_ob, qe_cpy, qe_tl, qe_tl0, dX8_isIn_21, dX8_isIn_22, qe_if_gt, dX8_isIn_25, dX8_isIn_26, dX8_isIn_27, qe_iconst, dX8_isIn_28, ms_X8_isIn_108, dX8_isIn_31, dX8_isIn_32, dX8_isIn_33, dX8_isIn_34, dX8_isIn_37, dX8_isIn_38, dX8_isIn_39, dX8_isIn_40, dX8_isIn_43, dX8_isIn_45, qe_invs, ms_X8_isIn_61, dX8_isIn_48, dX8_isIn_50, dX8_isIn_51, qe_if_ne, dX8_isIn_54, dX8_isIn_55, dX8_isIn_58, dX8_isIn_59, qe_iret, qe_nar_i, qe_nar_0, qe_nar_1]
    refine ⟨hm.kl, m_most hm hy hk ?_⟩
    simp only [qe_x, qe_v, q_get, Bool.cond_false, Bool.cond_true, Nat.reduceAdd, Nat.reduceBEq, Nat.reduceLT, Nat.reduceLeDiff, Nat.add_zero, Nat.zero_add, Nat.le_refl, true_and, and_true, List.length_cons, List.length_nil, Option.some.injEq, exists_eq_left', exists_eq_left, exists_eq', reduceCtorEq, dX8_isIn_0, qe_lload_2, qe_ll, dX8_isIn_1, qe_lconst0, dX8_isIn_2, qe_lcmp, iI_cmp_lt, iI_cmp_le, iI_cmp_ge, iI_cmp_gt, iI_cmp_eq, dX8_isIn_3, qe_if_ge, q_br, q_tg, Int.reduceNatCast', Int.reduceAdd, Int.reduceToNat, Int.reduceLE, Int.reduceNeg, dX8_isIn_6, dX8_isIn_7, qe_lneg, dX8_isIn_8, qe_goto, dX8_isIn_11, dX8_isIn_12, qe_lstore, q_st1, q_st2, q_clr, Value.category, Nat.reduceEqDiff, reduceIte, dX8_isIn_14, qe_lload, dX8_isIn_16, qe_aload_0, qe_al, dX8_isIn_17, qe_iload_1, qe_il, dX8_isIn_18, qe_invv, ms_X8_isIn_280, qe_c0, qe_c1, qe_c2, qe_c3, qe_c8, qe_c9, qe_cs, qe_cv, qe_tk, qe_tk0, qe_cat0, qe_cati, qe_catl, qe_catr, qe_catn, qe_ob, qe_cpy, qe_tl, qe_tl0, dX8_isIn_21, dX8_isIn_22, qe_if_gt, dX8_isIn_25, dX8_isIn_26, dX8_isIn_27, qe_iconst, dX8_isIn_28, ms_X8_isIn_108, dX8_isIn_31, dX8_isIn_32, dX8_isIn_33, dX8_isIn_34, dX8_isIn_37, dX8_isIn_38, dX8_isIn_39, dX8_isIn_40, dX8_isIn_43, dX8_isIn_45, qe_invs, ms_X8_isIn_61, dX8_isIn_48, dX8_isIn_50, dX8_isIn_51, qe_if_ne, dX8_isIn_54, dX8_isIn_55, dX8_isIn_58, dX8_isIn_59, qe_iret, qe_nar_i, qe_nar_0, qe_nar_1]
    simp (disch := omega) only [lI_lt]
    refine ⟨fun c => h2 (fun z => by have := z.1; omega), fun c => ⟨hm.kl, m_prt (k := k) (j := 0) hm hk (by omega) rfl ?_⟩⟩
    simp only [qe_x, qe_v, q_get, Bool.cond_false, Bool.cond_true, Nat.reduceAdd, Nat.reduceBEq, Nat.reduceLT, Nat.reduceLeDiff, Nat.add_zero, Nat.zero_add, Nat.le_refl, true_and, and_true, List.length_cons, List.length_nil, Option.some.injEq, exists_eq_left', exists_eq_left, exists_eq', reduceCtorEq, dX8_isIn_0, qe_lload_2, qe_ll, dX8_isIn_1, qe_lconst0, dX8_isIn_2, qe_lcmp, iI_cmp_lt, iI_cmp_le, iI_cmp_ge, iI_cmp_gt, iI_cmp_eq, dX8_isIn_3, qe_if_ge, q_br, q_tg, Int.reduceNatCast', Int.reduceAdd, Int.reduceToNat, Int.reduceLE, Int.reduceNeg, dX8_isIn_6, dX8_isIn_7, qe_lneg, dX8_isIn_8, qe_goto, dX8_isIn_11, dX8_isIn_12, qe_lstore, q_st1, q_st2, q_clr, Value.category, Nat.reduceEqDiff, reduceIte, dX8_isIn_14, qe_lload, dX8_isIn_16, qe_aload_0, qe_al, dX8_isIn_17, qe_iload_1, qe_il, dX8_isIn_18, qe_invv, ms_X8_isIn_280, qe_c0, qe_c1, qe_c2, qe_c3, qe_c8, qe_c9, qe_cs, qe_cv, qe_tk, qe_tk0, qe_cat0, qe_cati, qe_catl, qe_catr, qe_catn, qe_ob, qe_cpy, qe_tl, qe_tl0, dX8_isIn_21, dX8_isIn_22, qe_if_gt, dX8_isIn_25, dX8_isIn_26, dX8_isIn_27, qe_iconst, dX8_isIn_28, ms_X8_isIn_108, dX8_isIn_31, dX8_isIn_32, dX8_isIn_33, dX8_isIn_34, dX8_isIn_37, dX8_isIn_38, dX8_isIn_39, dX8_isIn_40, dX8_isIn_43, dX8_isIn_45, qe_invs, ms_X8_isIn_61, dX8_isIn_48, dX8_isIn_50, dX8_isIn_51, qe_if_ne, dX8_isIn_54, dX8_isIn_55, dX8_isIn_58, dX8_isIn_59, qe_iret, qe_nar_i, qe_nar_0, qe_nar_1]
    refine ⟨hm.kl, m_prt (k := k) (j := 1) hm hk (by omega) rfl ?_⟩
    simp only [qe_x, qe_v, q_get, Bool.cond_false, Bool.cond_true, Nat.reduceAdd, Nat.reduceBEq, Nat.reduceLT, Nat.reduceLeDiff, Nat.add_zero, Nat.zero_add, Nat.le_refl, true_and, and_true, List.length_cons, List.length_nil, Option.some.injEq, exists_eq_left', exists_eq_left, exists_eq', reduceCtorEq, dX8_isIn_0, qe_lload_2, qe_ll, dX8_isIn_1, qe_lconst0, dX8_isIn_2, qe_lcmp, iI_cmp_lt, iI_cmp_le, iI_cmp_ge, iI_cmp_gt, iI_cmp_eq, dX8_isIn_3, qe_if_ge, q_br, q_tg, Int.reduceNatCast', Int.reduceAdd, Int.reduceToNat, Int.reduceLE, Int.reduceNeg, dX8_isIn_6, dX8_isIn_7, qe_lneg, dX8_isIn_8, qe_goto, dX8_isIn_11, dX8_isIn_12, qe_lstore, q_st1, q_st2, q_clr, Value.category, Nat.reduceEqDiff, reduceIte, dX8_isIn_14, qe_lload, dX8_isIn_16, qe_aload_0, qe_al, dX8_isIn_17, qe_iload_1, qe_il, dX8_isIn_18, qe_invv, ms_X8_isIn_280, qe_c0, qe_c1, qe_c2, qe_c3, qe_c8, qe_c9, qe_cs, qe_cv, qe_tk, qe_tk0, qe_cat0, qe_cati, qe_catl, qe_catr, qe_catn, qe_ob, qe_cpy, qe_tl, qe_tl0, dX8_isIn_21, dX8_isIn_22, qe_if_gt, dX8_isIn_25, dX8_isIn_26, dX8_isIn_27, qe_iconst, dX8_isIn_28, ms_X8_isIn_108, dX8_isIn_31, dX8_isIn_32, dX8_isIn_33, dX8_isIn_34, dX8_isIn_37, dX8_isIn_38, dX8_isIn_39, dX8_isIn_40, dX8_isIn_43, dX8_isIn_45, qe_invs, ms_X8_isIn_61, dX8_isIn_48, dX8_isIn_50, dX8_isIn_51, qe_if_ne, dX8_isIn_54, dX8_isIn_55, dX8_isIn_58, dX8_isIn_59, qe_iret, qe_nar_i, qe_nar_0, qe_nar_1]
    refine ⟨hm.kl, m_prt (k := k) (j := 2) hm hk (by omega) rfl ?_⟩
    simp only [qe_x, qe_v, q_get, Bool.cond_false, Bool.cond_true, Nat.reduceAdd, Nat.reduceBEq, Nat.reduceLT, Nat.reduceLeDiff, Nat.add_zero, Nat.zero_add, Nat.le_refl, true_and, and_true, List.length_cons, List.length_nil, Option.some.injEq, exists_eq_left', exists_eq_left, exists_eq', reduceCtorEq, dX8_isIn_0, qe_lload_2, qe_ll, dX8_isIn_1, qe_lconst0, dX8_isIn_2, qe_lcmp, iI_cmp_lt, iI_cmp_le, iI_cmp_ge, iI_cmp_gt, iI_cmp_eq, dX8_isIn_3, qe_if_ge, q_br, q_tg, Int.reduceNatCast', Int.reduceAdd, Int.reduceToNat, Int.reduceLE, Int.reduceNeg, dX8_isIn_6, dX8_isIn_7, qe_lneg, dX8_isIn_8, qe_goto, dX8_isIn_11, dX8_isIn_12, qe_lstore, q_st1, q_st2, q_clr, Value.category, Nat.reduceEqDiff, reduceIte, dX8_isIn_14, qe_lload, dX8_isIn_16, qe_aload_0, qe_al, dX8_isIn_17, qe_iload_1, qe_il, dX8_isIn_18, qe_invv, ms_X8_isIn_280, qe_c0, qe_c1, qe_c2, qe_c3, qe_c8, qe_c9, qe_cs, qe_cv, qe_tk, qe_tk0, qe_cat0, qe_cati, qe_catl, qe_catr, qe_catn, qe_ob, qe_cpy, qe_tl, qe_tl0, dX8_isIn_21, dX8_isIn_22, qe_if_gt, dX8_isIn_25, dX8_isIn_26, dX8_isIn_27, qe_iconst, dX8_isIn_28, ms_X8_isIn_108, dX8_isIn_31, dX8_isIn_32, dX8_isIn_33, dX8_isIn_34, dX8_isIn_37, dX8_isIn_38, dX8_isIn_39, dX8_isIn_40, dX8_isIn_43, dX8_isIn_45, qe_invs, ms_X8_isIn_61, dX8_isIn_48, dX8_isIn_50, dX8_isIn_51, qe_if_ne, dX8_isIn_54, dX8_isIn_55, dX8_isIn_58, dX8_isIn_59, qe_iret, qe_nar_i, qe_nar_0, qe_nar_1]
    refine m_cut hF ⟨by omega, by omega⟩ ?_
    simp only [qe_x, qe_v, q_get, Bool.cond_false, Bool.cond_true, Nat.reduceAdd, Nat.reduceBEq, Nat.reduceLT, Nat.reduceLeDiff, Nat.add_zero, Nat.zero_add, Nat.le_refl, true_and, and_true, List.length_cons, List.length_nil, Option.some.injEq, exists_eq_left', exists_eq_left, exists_eq', reduceCtorEq, dX8_isIn_0, qe_lload_2, qe_ll, dX8_isIn_1, qe_lconst0, dX8_isIn_2, qe_lcmp, iI_cmp_lt, iI_cmp_le, iI_cmp_ge, iI_cmp_gt, iI_cmp_eq, dX8_isIn_3, qe_if_ge, q_br, q_tg, Int.reduceNatCast', Int.reduceAdd, Int.reduceToNat, Int.reduceLE, Int.reduceNeg, dX8_isIn_6, dX8_isIn_7, qe_lneg, dX8_isIn_8, qe_goto, dX8_isIn_11, dX8_isIn_12, qe_lstore, q_st1, q_st2, q_clr, Value.category, Nat.reduceEqDiff, reduceIte, dX8_isIn_14, qe_lload, dX8_isIn_16, qe_aload_0, qe_al, dX8_isIn_17, qe_iload_1, qe_il, dX8_isIn_18, qe_invv, ms_X8_isIn_280, qe_c0, qe_c1, qe_c2, qe_c3, qe_c8, qe_c9, qe_cs, qe_cv, qe_tk, qe_tk0, qe_cat0, qe_cati, qe_catl, qe_catr, qe_catn, qe_ob, qe_cpy, qe_tl, qe_tl0, dX8_isIn_21, dX8_isIn_22, qe_if_gt, dX8_isIn_25, dX8_isIn_26, dX8_isIn_27, qe_iconst, dX8_isIn_28, ms_X8_isIn_108, dX8_isIn_31, dX8_isIn_32, dX8_isIn_33, dX8_isIn_34, dX8_isIn_37, dX8_isIn_38, dX8_isIn_39, dX8_isIn_40, dX8_isIn_43, dX8_isIn_45, qe_invs, ms_X8_isIn_61, dX8_isIn_48, dX8_isIn_50, dX8_isIn_51, qe_if_ne, dX8_isIn_54, dX8_isIn_55, dX8_isIn_58, dX8_isIn_59, qe_iret, qe_nar_i, qe_nar_0, qe_nar_1]
    simp (disch := omega) only [lI_eq]
    exact ⟨fun z => h2 (fun q => z q.2), fun z => h1 ⟨by omega, Decidable.not_not.mp z⟩⟩
  refine hG (fun pc => pc == 12) 60 _ _ _ _ _ _ ?_
  simp only [qe_x, qe_v, q_get, Bool.cond_false, Bool.cond_true, Nat.reduceAdd, Nat.reduceBEq, Nat.reduceLT, Nat.reduceLeDiff, Nat.add_zero, Nat.zero_add, Nat.le_refl, true_and, and_true, List.length_cons, List.length_nil, Option.some.injEq, exists_eq_left', exists_eq_left, exists_eq', reduceCtorEq, dX8_isIn_0, qe_lload_2, qe_ll, dX8_isIn_1, qe_lconst0, dX8_isIn_2, qe_lcmp, iI_cmp_lt, iI_cmp_le, iI_cmp_ge, iI_cmp_gt, iI_cmp_eq, dX8_isIn_3, qe_if_ge, q_br, q_tg, Int.reduceNatCast', Int.reduceAdd, Int.reduceToNat, Int.reduceLE, Int.reduceNeg, dX8_isIn_6, dX8_isIn_7, qe_lneg, dX8_isIn_8, qe_goto, dX8_isIn_11, dX8_isIn_12, qe_lstore, q_st1, q_st2, q_clr, Value.category, Nat.reduceEqDiff, reduceIte, dX8_isIn_14, qe_lload, dX8_isIn_16, qe_aload_0, qe_al, dX8_isIn_17, qe_iload_1, qe_il, dX8_isIn_18, qe_invv, ms_X8_isIn_280, qe_c0, qe_c1, qe_c2, qe_c3, qe_c8, qe_c9, qe_cs, qe_cv, qe_tk, qe_tk0, qe_cat0, qe_cati, qe_catl, qe_catr, qe_catn, qe_ob, qe_cpy, qe_tl, qe_tl0, dX8_isIn_21, dX8_isIn_22, qe_if_gt, dX8_isIn_25, dX8_isIn_26, dX8_isIn_27, qe_iconst, dX8_isIn_28, ms_X8_isIn_108, dX8_isIn_31, dX8_isIn_32, dX8_isIn_33, dX8_isIn_34, dX8_isIn_37, dX8_isIn_38, dX8_isIn_39, dX8_isIn_40, dX8_isIn_43, dX8_isIn_45, qe_invs, ms_X8_isIn_61, dX8_isIn_48, dX8_isIn_50, dX8_isIn_51, qe_if_ne, dX8_isIn_54, dX8_isIn_55, dX8_isIn_58, dX8_isIn_59, qe_iret, qe_nar_i, qe_nar_0, qe_nar_1, lI_neg]
  simp (disch := omega) only [lI_le]
  exact ⟨fun c => j12 v (by omega), fun c => j12 (-v) (by omega)⟩
theorem m_isValue {f v : Int} (hm : mAt w M y) (hy : yOk y) (hf : i32 f) (hv : i32 v) (h : post (some (.int (iI (aIsValue y f v)))) w) : T_X8_isValue [.ref M, .int (iI f), .int (iI v)] w sz post := by
  unfold aIsValue at h
  refine Ti_X8_isValue (fun G hG => hG (fun _ => false) 60 _ _ _ _ _ _ ?_)
  simp only [qe_x, qe_v, q_get, Bool.cond_false, Bool.cond_true, Nat.reduceAdd, Nat.reduceBEq, Nat.reduceLT, Nat.reduceLeDiff, Nat.add_zero, Nat.zero_add, Nat.le_refl, true_and, and_true, List.length_cons, List.length_nil, Option.some.injEq, exists_eq_left', exists_eq_left, exists_eq', reduceCtorEq, dX8_isValue_0, qe_iload_1, qe_il, dX8_isValue_1, qe_invs, ms_X8_isValue_100, qe_c0, qe_c1, qe_c2, qe_c3, qe_c8, qe_c9, qe_cs, qe_cv, qe_tk, qe_tk0, qe_cat0, qe_cati, qe_catl, qe_catr, qe_catn, qe_ob, qe_cpy, qe_tl, qe_tl0, dX8_isValue_4, qe_if_eq, q_br, q_tg, Int.reduceNatCast', Int.reduceAdd, Int.reduceToNat, Int.reduceLE, Int.reduceNeg, dX8_isValue_7, qe_iload_2, dX8_isValue_8, ms_X8_isValue_283, dX8_isValue_11, qe_if_ne, dX8_isValue_14, qe_ldc, qe_pk, qCi_8_104, dX8_isValue_16, qe_iret, qe_nar_i, qe_nar_0, qe_nar_1, dX8_isValue_17, qe_aload_0, qe_al, dX8_isValue_18, dX8_isValue_19, dX8_isValue_20, qe_i2l, dX8_isValue_21, qe_invv, ms_X8_isValue_286, dX8_isValue_24, dX8_isValue_27, qe_iconst, dX8_isValue_28, qe_goto, dX8_isValue_31, dX8_isValue_32]
  refine m_isFormat hf ?_
  by_cases c1 : 0 ≤ f ∧ f < 4
  · rw [decide_eq_true c1, bI_t]
    simp only [qe_x, qe_v, q_get, Bool.cond_false, Bool.cond_true, Nat.reduceAdd, Nat.reduceBEq, Nat.reduceLT, Nat.reduceLeDiff, Nat.add_zero, Nat.zero_add, Nat.le_refl, true_and, and_true, List.length_cons, List.length_nil, Option.some.injEq, exists_eq_left', exists_eq_left, exists_eq', reduceCtorEq, dX8_isValue_0, qe_iload_1, qe_il, dX8_isValue_1, qe_invs, ms_X8_isValue_100, qe_c0, qe_c1, qe_c2, qe_c3, qe_c8, qe_c9, qe_cs, qe_cv, qe_tk, qe_tk0, qe_cat0, qe_cati, qe_catl, qe_catr, qe_catn, qe_ob, qe_cpy, qe_tl, qe_tl0, dX8_isValue_4, qe_if_eq, q_br, q_tg, Int.reduceNatCast', Int.reduceAdd, Int.reduceToNat, Int.reduceLE, Int.reduceNeg, dX8_isValue_7, qe_iload_2, dX8_isValue_8, ms_X8_isValue_283, dX8_isValue_11, qe_if_ne, dX8_isValue_14, qe_ldc, qe_pk, qCi_8_104, dX8_isValue_16, qe_iret, qe_nar_i, qe_nar_0, qe_nar_1, dX8_isValue_17, qe_aload_0, qe_al, dX8_isValue_18, dX8_isValue_19, dX8_isValue_20, qe_i2l, dX8_isValue_21, qe_invv, ms_X8_isValue_286, dX8_isValue_24, dX8_isValue_27, qe_iconst, dX8_isValue_28, qe_goto, dX8_isValue_31, dX8_isValue_32]
    refine ⟨fun q => absurd q i10, fun _ => m_isNumber hv ?_⟩
    by_cases c2 : -1048575 ≤ v ∧ v ≤ 1048575
    · rw [decide_eq_true c2, bI_t]
      rw [if_pos ⟨c1, c2⟩] at h
      obtain ⟨f, rfl⟩ : ∃ R : Nat, f = R := ⟨f.toNat, by omega⟩
      unfold yF at h
      rw [Int.toNat_natCast] at h
      have be := isB_eq (hy.1.1 f (by omega)) (v := v) ⟨by omega, by omega⟩
      simp only [qe_x, qe_v, q_get, Bool.cond_false, Bool.cond_true, Nat.reduceAdd, Nat.reduceBEq, Nat.reduceLT, Nat.reduceLeDiff, Nat.add_zero, Nat.zero_add, Nat.le_refl, true_and, and_true, List.length_cons, List.length_nil, Option.some.injEq, exists_eq_left', exists_eq_left, exists_eq', reduceCtorEq, dX8_isValue_0, qe_iload_1, qe_il, dX8_isValue_1, qe_invs, ms_X8_isValue_100, qe_c0, qe_c1, qe_c2, qe_c3, qe_c8, qe_c9, qe_cs, qe_cv, qe_tk, qe_tk0, qe_cat0, qe_cati, qe_catl, qe_catr, qe_catn, qe_ob, qe_cpy, qe_tl, qe_tl0, dX8_isValue_4, qe_if_eq, q_br, q_tg, Int.reduceNatCast', Int.reduceAdd, Int.reduceToNat, Int.reduceLE, Int.reduceNeg, dX8_isValue_7, qe_iload_2, dX8_isValue_8, ms_X8_isValue_283, dX8_isValue_11, qe_if_ne, dX8_isValue_14, qe_ldc, qe_pk, qCi_8_104, dX8_isValue_16, qe_iret, qe_nar_i, qe_nar_0, qe_nar_1, dX8_isValue_17, qe_aload_0, qe_al, dX8_isValue_18, dX8_isValue_19, dX8_isValue_20, qe_i2l, dX8_isValue_21, qe_invv, ms_X8_isValue_286, dX8_isValue_24, dX8_isValue_27, qe_iconst, dX8_isValue_28, qe_goto, dX8_isValue_31, dX8_isValue_32]
      rw [iI_l (by omega) (by omega)]
      refine ⟨fun _ => ⟨hm.kl, m_isIn hm hy (by omega) ⟨by omega, by omega⟩ (fun b => ?_) (fun b => ?_)⟩, fun q => absurd i10 q⟩
      · rw [if_pos (be.mpr b)] at h
        simp only [qe_x, qe_v, q_get, Bool.cond_false, Bool.cond_true, Nat.reduceAdd, Nat.reduceBEq, Nat.reduceLT, Nat.reduceLeDiff, Nat.add_zero, Nat.zero_add, Nat.le_refl, true_and, and_true, List.length_cons, List.length_nil, Option.some.injEq, exists_eq_left', exists_eq_left, exists_eq', reduceCtorEq, dX8_isValue_0, qe_iload_1, qe_il, dX8_isValue_1, qe_invs, ms_X8_isValue_100, qe_c0, qe_c1, qe_c2, qe_c3, qe_c8, qe_c9, qe_cs, qe_cv, qe_tk, qe_tk0, qe_cat0, qe_cati, qe_catl, qe_catr, qe_catn, qe_ob, qe_cpy, qe_tl, qe_tl0, dX8_isValue_4, qe_if_eq, q_br, q_tg, Int.reduceNatCast', Int.reduceAdd, Int.reduceToNat, Int.reduceLE, Int.reduceNeg, dX8_isValue_7, qe_iload_2, dX8_isValue_8, ms_X8_isValue_283, dX8_isValue_11, qe_if_ne, dX8_isValue_14, qe_ldc, qe_pk, qCi_8_104, dX8_isValue_16, qe_iret, qe_nar_i, qe_nar_0, qe_nar_1, dX8_isValue_17, qe_aload_0, qe_al, dX8_isValue_18, dX8_isValue_19, dX8_isValue_20, qe_i2l, dX8_isValue_21, qe_invv, ms_X8_isValue_286, dX8_isValue_24, dX8_isValue_27, qe_iconst, dX8_isValue_28, qe_goto, dX8_isValue_31, dX8_isValue_32]
        exact ⟨fun q => absurd q i10, fun _ => h⟩
      · rw [if_neg (fun z => b (be.mp z))] at h
        simp only [qe_x, qe_v, q_get, Bool.cond_false, Bool.cond_true, Nat.reduceAdd, Nat.reduceBEq, Nat.reduceLT, Nat.reduceLeDiff, Nat.add_zero, Nat.zero_add, Nat.le_refl, true_and, and_true, List.length_cons, List.length_nil, Option.some.injEq, exists_eq_left', exists_eq_left, exists_eq', reduceCtorEq, dX8_isValue_0, qe_iload_1, qe_il, dX8_isValue_1, qe_invs, ms_X8_isValue_100, qe_c0, qe_c1, qe_c2, qe_c3, qe_c8, qe_c9, qe_cs, qe_cv, qe_tk, qe_tk0, qe_cat0, qe_cati, qe_catl, qe_catr, qe_catn, qe_ob, qe_cpy, qe_tl, qe_tl0, dX8_isValue_4, qe_if_eq, q_br, q_tg, Int.reduceNatCast', Int.reduceAdd, Int.reduceToNat, Int.reduceLE, Int.reduceNeg, dX8_isValue_7, qe_iload_2, dX8_isValue_8, ms_X8_isValue_283, dX8_isValue_11, qe_if_ne, dX8_isValue_14, qe_ldc, qe_pk, qCi_8_104, dX8_isValue_16, qe_iret, qe_nar_i, qe_nar_0, qe_nar_1, dX8_isValue_17, qe_aload_0, qe_al, dX8_isValue_18, dX8_isValue_19, dX8_isValue_20, qe_i2l, dX8_isValue_21, qe_invv, ms_X8_isValue_286, dX8_isValue_24, dX8_isValue_27, qe_iconst, dX8_isValue_28, qe_goto, dX8_isValue_31, dX8_isValue_32]
        exact ⟨fun _ => h, fun q => absurd trivial q⟩
    · rw [decide_eq_false c2, bI_f]
      rw [if_neg (fun z => c2 z.2)] at h
      simp only [qe_x, qe_v, q_get, Bool.cond_false, Bool.cond_true, Nat.reduceAdd, Nat.reduceBEq, Nat.reduceLT, Nat.reduceLeDiff, Nat.add_zero, Nat.zero_add, Nat.le_refl, true_and, and_true, List.length_cons, List.length_nil, Option.some.injEq, exists_eq_left', exists_eq_left, exists_eq', reduceCtorEq, dX8_isValue_0, qe_iload_1, qe_il, dX8_isValue_1, qe_invs, ms_X8_isValue_100, qe_c0, qe_c1, qe_c2, qe_c3, qe_c8, qe_c9, qe_cs, qe_cv, qe_tk, qe_tk0, qe_cat0, qe_cati, qe_catl, qe_catr, qe_catn, qe_ob, qe_cpy, qe_tl, qe_tl0, dX8_isValue_4, qe_if_eq, q_br, q_tg, Int.reduceNatCast', Int.reduceAdd, Int.reduceToNat, Int.reduceLE, Int.reduceNeg, dX8_isValue_7, qe_iload_2, dX8_isValue_8, ms_X8_isValue_283, dX8_isValue_11, qe_if_ne, dX8_isValue_14, qe_ldc, qe_pk, qCi_8_104, dX8_isValue_16, qe_iret, qe_nar_i, qe_nar_0, qe_nar_1, dX8_isValue_17, qe_aload_0, qe_al, dX8_isValue_18, dX8_isValue_19, dX8_isValue_20, qe_i2l, dX8_isValue_21, qe_invv, ms_X8_isValue_286, dX8_isValue_24, dX8_isValue_27, qe_iconst, dX8_isValue_28, qe_goto, dX8_isValue_31, dX8_isValue_32]
      exact ⟨fun q => absurd trivial q, fun _ => h⟩
  · rw [decide_eq_false c1, bI_f]
    rw [if_neg (fun z => c1 z.1)] at h
    simp only [qe_x, qe_v, q_get, Bool.cond_false, Bool.cond_true, Nat.reduceAdd, Nat.reduceBEq, Nat.reduceLT, Nat.reduceLeDiff, Nat.add_zero, Nat.zero_add, Nat.le_refl, true_and, and_true, List.length_cons, List.length_nil, Option.some.injEq, exists_eq_left', exists_eq_left, exists_eq', reduceCtorEq, dX8_isValue_0, qe_iload_1, qe_il, dX8_isValue_1, qe_invs, ms_X8_isValue_100, qe_c0, qe_c1, qe_c2, qe_c3, qe_c8, qe_c9, qe_cs, qe_cv, qe_tk, qe_tk0, qe_cat0, qe_cati, qe_catl, qe_catr, qe_catn, qe_ob, qe_cpy, qe_tl, qe_tl0, dX8_isValue_4, qe_if_eq, q_br, q_tg, Int.reduceNatCast', Int.reduceAdd, Int.reduceToNat, Int.reduceLE, Int.reduceNeg, dX8_isValue_7, qe_iload_2, dX8_isValue_8, ms_X8_isValue_283, dX8_isValue_11, qe_if_ne, dX8_isValue_14, qe_ldc, qe_pk, qCi_8_104, dX8_isValue_16, qe_iret, qe_nar_i, qe_nar_0, qe_nar_1, dX8_isValue_17, qe_aload_0, qe_al, dX8_isValue_18, dX8_isValue_19, dX8_isValue_20, qe_i2l, dX8_isValue_21, qe_invv, ms_X8_isValue_286, dX8_isValue_24, dX8_isValue_27, qe_iconst, dX8_isValue_28, qe_goto, dX8_isValue_31, dX8_isValue_32]
    exact ⟨fun _ => h, fun q => absurd trivial q⟩
/-- the least value from a number on -/
def frm (p lo hi : Nat) (x : Int) : Int := if ftop p hi < x then -2000000009 else if x < -ftop p hi then -ftop p hi else -ffl p lo hi (-x)
theorem m_from {k : Nat} {x : Int} (hm : mAt w M y) (hy : yOk y) (hk : k < 4) (hx : -1048576 ≤ x ∧ x ≤ 1048576) (h : post (some (.long (lI (frm (sFm (yS y) k).1 (sFm (yS y) k).2.1 (sFm (yS y) k).2.2 x)))) w) : T_X8_from [.ref M, .int (iI k), .long (lI x)] w sz post := by
  have hF : Fok (sFm (yS y) k).1 (sFm (yS y) k).2.1 (sFm (yS y) k).2.2 := hy.1.1 k hk
  have ht := ftop_rng hF
  unfold frm at h
  refine Ti_X8_from (fun G hG => hG (fun _ => false) 60 _ _ _ _ _ _ ?_)
  simp only [qe_x, qe_v, q_get, Bool.cond_false, Bool.cond_true, Nat.reduceAdd, Nat.reduceBEq, Nat.reduceLT, Nat.reduceLeDiff, Nat.add_zero, Nat.zero_add, Nat.le_refl, true_and, and_true, List.length_cons, List.length_nil, Option.some.injEq, exists_eq_left', exists_eq_left, exists_eq', reduceCtorEq, dX8_from_0, qe_lload_2, qe_ll, dX8_from_1, qe_aload_0, qe_al, dX8_from_2, qe_iload_1, qe_il, dX8_from_3, qe_invv, ms_X8_from_280, qe_c0, qe_c1, qe_c2, qe_c3, qe_c8, qe_c9, qe_cs, qe_cv, qe_tk, qe_tk0, qe_cat0, qe_cati, qe_catl, qe_catr, qe_catn, qe_ob, qe_cpy, qe_tl, qe_tl0, dX8_from_6, qe_lcmp, iI_cmp_lt, iI_cmp_le, iI_cmp_ge, iI_cmp_gt, iI_cmp_eq, dX8_from_7, qe_if_le, q_br, q_tg, Int.reduceNatCast', Int.reduceAdd, Int.reduceToNat, Int.reduceLE, Int.reduceNeg, dX8_from_10, qe_ldc2, qe_pk, qDi_8_267, dX8_from_13, qe_lret, dX8_from_14, dX8_from_15, dX8_from_16, dX8_from_17, dX8_from_20, qe_lneg, dX8_from_21, dX8_from_22, qe_if_ge, dX8_from_25, dX8_from_26, dX8_from_27, dX8_from_30, dX8_from_31, qe_goto, dX8_from_34, dX8_from_35, dX8_from_36, qe_iconst, dX8_from_37, ms_X8_from_108, dX8_from_40, dX8_from_41, dX8_from_42, dX8_from_43, dX8_from_46, dX8_from_47, dX8_from_48, dX8_from_49, dX8_from_52, dX8_from_53, qe_invs, ms_X8_from_90, dX8_from_56]
  refine ⟨hm.kl, m_most hm hy hk ?_⟩
  simp only [qe_x, qe_v, q_get, Bool.cond_false, Bool.cond_true, Nat.reduceAdd, Nat.reduceBEq, Nat.reduceLT, Nat.reduceLeDiff, Nat.add_zero, Nat.zero_add, Nat.le_refl, true_and, and_true, List.length_cons, List.length_nil, Option.some.injEq, exists_eq_left', exists_eq_left, exists_eq', reduceCtorEq, dX8_from_0, qe_lload_2, qe_ll, dX8_from_1, qe_aload_0, qe_al, dX8_from_2, qe_iload_1, qe_il, dX8_from_3, qe_invv, ms_X8_from_280, qe_c0, qe_c1, qe_c2, qe_c3, qe_c8, qe_c9, qe_cs, qe_cv, qe_tk, qe_tk0, qe_cat0, qe_cati, qe_catl, qe_catr, qe_catn, qe_ob, qe_cpy, qe_tl, qe_tl0, dX8_from_6, qe_lcmp, iI_cmp_lt, iI_cmp_le, iI_cmp_ge, iI_cmp_gt, iI_cmp_eq, dX8_from_7, qe_if_le, q_br, q_tg, Int.reduceNatCast', Int.reduceAdd, Int.reduceToNat, Int.reduceLE, Int.reduceNeg, dX8_from_10, qe_ldc2, qe_pk, qDi_8_267, dX8_from_13, qe_lret, dX8_from_14, dX8_from_15, dX8_from_16, dX8_from_17, dX8_from_20, qe_lneg, dX8_from_21, dX8_from_22, qe_if_ge, dX8_from_25, dX8_from_26, dX8_from_27, dX8_from_30, dX8_from_31, qe_goto, dX8_from_34, dX8_from_35, dX8_from_36, qe_iconst, dX8_from_37, ms_X8_from_108, dX8_from_40, dX8_from_41, dX8_from_42, dX8_from_43, dX8_from_46, dX8_from_47, dX8_from_48, dX8_from_49, dX8_from_52, dX8_from_53, qe_invs, ms_X8_from_90, dX8_from_56]
  simp (disch := omega) only [lI_le]
  refine ⟨fun c => ⟨hm.kl, m_most hm hy hk ?_⟩, fun c => ?_⟩
  · rw [if_neg (by omega)] at h
    simp only [qe_x, qe_v, q_get, Bool.cond_false, Bool.cond_true, Nat.reduceAdd, Nat.reduceBEq, Nat.reduceLT, Nat.reduceLeDiff, Nat.add_zero, Nat.zero_add, Nat.le_refl, true_and, and_true, List.length_cons, List.length_nil, Option.some.injEq, exists_eq_left', exists_eq_left, exists_eq', reduceCtorEq, dX8_from_0, qe_lload_2, qe_ll, dX8_from_1, qe_aload_0, qe_al, dX8_from_2, qe_iload_1, qe_il, dX8_from_3, qe_invv, ms_X8_from_280, qe_c0, qe_c1, qe_c2, qe_c3, qe_c8, qe_c9, qe_cs, qe_cv, qe_tk, qe_tk0, qe_cat0, qe_cati, qe_catl, qe_catr, qe_catn, qe_ob, qe_cpy, qe_tl, qe_tl0, dX8_from_6, qe_lcmp, iI_cmp_lt, iI_cmp_le, iI_cmp_ge, iI_cmp_gt, iI_cmp_eq, dX8_from_7, qe_if_le, q_br, q_tg, Int.reduceNatCast', Int.reduceAdd, Int.reduceToNat, Int.reduceLE, Int.reduceNeg, dX8_from_10, qe_ldc2, qe_pk, qDi_8_267, dX8_from_13, qe_lret, dX8_from_14, dX8_from_15, dX8_from_16, dX8_from_17, dX8_from_20, qe_lneg, dX8_from_21, dX8_from_22, qe_if_ge, dX8_from_25, dX8_from_26, dX8_from_27, dX8_from_30, dX8_from_31, qe_goto, dX8_from_34, dX8_from_35, dX8_from_36, qe_iconst, dX8_from_37, ms_X8_from_108, dX8_from_40, dX8_from_41, dX8_from_42, dX8_from_43, dX8_from_46, dX8_from_47, dX8_from_48, dX8_from_49, dX8_from_52, dX8_from_53, qe_invs, ms_X8_from_90, dX8_from_56, lI_neg]
    simp (disch := omega) only [lI_le]
    refine ⟨fun c2 => ⟨hm.kl, m_prt (k := k) (j := 0) hm hk (by omega) rfl ?_⟩, fun c2 => ⟨hm.kl, m_most hm hy hk ?_⟩⟩
    · rw [if_neg (by omega)] at h
      simp only [qe_x, qe_v, q_get, Bool.cond_false, Bool.cond_true, Nat.reduceAdd, Nat.reduceBEq, Nat.reduceLT, Nat.reduceLeDiff, Nat.add_zero, Nat.zero_add, Nat.le_refl, true_and, and_true, List.length_cons, List.length_nil, Option.some.injEq, exists_eq_left', exists_eq_left, exists_eq', reduceCtorEq, dX8_from_0, qe_lload_2, qe_ll, dX8_from_1, qe_aload_0, qe_al, dX8_from_2, qe_iload_1, qe_il, dX8_from_3, qe_invv, ms_X8_from_280, qe_c0, qe_c1, qe_c2, qe_c3, qe_c8, qe_c9, qe_cs, qe_cv, qe_tk, qe_tk0, qe_cat0, qe_cati, qe_catl, qe_catr, qe_catn, qe_ob, qe_cpy, qe_tl, qe_tl0, dX8_from_6, qe_lcmp, iI_cmp_lt, iI_cmp_le, iI_cmp_ge, iI_cmp_gt, iI_cmp_eq, dX8_from_7, qe_if_le, q_br, q_tg, Int.reduceNatCast', Int.reduceAdd, Int.reduceToNat, Int.reduceLE, Int.reduceNeg, dX8_from_10, qe_ldc2, qe_pk, qDi_8_267, dX8_from_13, qe_lret, dX8_from_14, dX8_from_15, dX8_from_16, dX8_from_17, dX8_from_20, qe_lneg, dX8_from_21, dX8_from_22, qe_if_ge, dX8_from_25, dX8_from_26, dX8_from_27, dX8_from_30, dX8_from_31, qe_goto, dX8_from_34, dX8_from_35, dX8_from_36, qe_iconst, dX8_from_37, ms_X8_from_108, dX8_from_40, dX8_from_41, dX8_from_42, dX8_from_43, dX8_from_46, dX8_from_47, dX8_from_48, dX8_from_49, dX8_from_52, dX8_from_53, qe_invs, ms_X8_from_90, dX8_from_56]
      refine ⟨hm.kl, m_prt (k := k) (j := 1) hm hk (by omega) rfl ?_⟩
      simp only [qe_x, qe_v, q_get, Bool.cond_false, Bool.cond_true, Nat.reduceAdd, Nat.reduceBEq, Nat.reduceLT, Nat.reduceLeDiff, Nat.add_zero, Nat.zero_add, Nat.le_refl, true_and, and_true, List.length_cons, List.length_nil, Option.some.injEq, exists_eq_left', exists_eq_left, exists_eq', reduceCtorEq, dX8_from_0, qe_lload_2, qe_ll, dX8_from_1, qe_aload_0, qe_al, dX8_from_2, qe_iload_1, qe_il, dX8_from_3, qe_invv, ms_X8_from_280, qe_c0, qe_c1, qe_c2, qe_c3, qe_c8, qe_c9, qe_cs, qe_cv, qe_tk, qe_tk0, qe_cat0, qe_cati, qe_catl, qe_catr, qe_catn, qe_ob, qe_cpy, qe_tl, qe_tl0, dX8_from_6, qe_lcmp, iI_cmp_lt, iI_cmp_le, iI_cmp_ge, iI_cmp_gt, iI_cmp_eq, dX8_from_7, qe_if_le, q_br, q_tg, Int.reduceNatCast', Int.reduceAdd, Int.reduceToNat, Int.reduceLE, Int.reduceNeg, dX8_from_10, qe_ldc2, qe_pk, qDi_8_267, dX8_from_13, qe_lret, dX8_from_14, dX8_from_15, dX8_from_16, dX8_from_17, dX8_from_20, qe_lneg, dX8_from_21, dX8_from_22, qe_if_ge, dX8_from_25, dX8_from_26, dX8_from_27, dX8_from_30, dX8_from_31, qe_goto, dX8_from_34, dX8_from_35, dX8_from_36, qe_iconst, dX8_from_37, ms_X8_from_108, dX8_from_40, dX8_from_41, dX8_from_42, dX8_from_43, dX8_from_46, dX8_from_47, dX8_from_48, dX8_from_49, dX8_from_52, dX8_from_53, qe_invs, ms_X8_from_90, dX8_from_56]
      refine ⟨hm.kl, m_prt (k := k) (j := 2) hm hk (by omega) rfl ?_⟩
      simp only [qe_x, qe_v, q_get, Bool.cond_false, Bool.cond_true, Nat.reduceAdd, Nat.reduceBEq, Nat.reduceLT, Nat.reduceLeDiff, Nat.add_zero, Nat.zero_add, Nat.le_refl, true_and, and_true, List.length_cons, List.length_nil, Option.some.injEq, exists_eq_left', exists_eq_left, exists_eq', reduceCtorEq, dX8_from_0, qe_lload_2, qe_ll, dX8_from_1, qe_aload_0, qe_al, dX8_from_2, qe_iload_1, qe_il, dX8_from_3, qe_invv, ms_X8_from_280, qe_c0, qe_c1, qe_c2, qe_c3, qe_c8, qe_c9, qe_cs, qe_cv, qe_tk, qe_tk0, qe_cat0, qe_cati, qe_catl, qe_catr, qe_catn, qe_ob, qe_cpy, qe_tl, qe_tl0, dX8_from_6, qe_lcmp, iI_cmp_lt, iI_cmp_le, iI_cmp_ge, iI_cmp_gt, iI_cmp_eq, dX8_from_7, qe_if_le, q_br, q_tg, Int.reduceNatCast', Int.reduceAdd, Int.reduceToNat, Int.reduceLE, Int.reduceNeg, dX8_from_10, qe_ldc2, qe_pk, qDi_8_267, dX8_from_13, qe_lret, dX8_from_14, dX8_from_15, dX8_from_16, dX8_from_17, dX8_from_20, qe_lneg, dX8_from_21, dX8_from_22, qe_if_ge, dX8_from_25, dX8_from_26, dX8_from_27, dX8_from_30, dX8_from_31, qe_goto, dX8_from_34, dX8_from_35, dX8_from_36, qe_iconst, dX8_from_37, ms_X8_from_108, dX8_from_40, dX8_from_41, dX8_from_42, dX8_from_43, dX8_from_46, dX8_from_47, dX8_from_48, dX8_from_49, dX8_from_52, dX8_from_53, qe_invs, ms_X8_from_90, dX8_from_56]
      refine m_over hF ⟨by omega, by omega⟩ ?_
      simp only [qe_x, qe_v, q_get, Bool.cond_false, Bool.cond_true, Nat.reduceAdd, Nat.reduceBEq, Nat.reduceLT, Nat.reduceLeDiff, Nat.add_zero, Nat.zero_add, Nat.le_refl, true_and, and_true, List.length_cons, List.length_nil, Option.some.injEq, exists_eq_left', exists_eq_left, exists_eq', reduceCtorEq, dX8_from_0, qe_lload_2, qe_ll, dX8_from_1, qe_aload_0, qe_al, dX8_from_2, qe_iload_1, qe_il, dX8_from_3, qe_invv, ms_X8_from_280, qe_c0, qe_c1, qe_c2, qe_c3, qe_c8, qe_c9, qe_cs, qe_cv, qe_tk, qe_tk0, qe_cat0, qe_cati, qe_catl, qe_catr, qe_catn, qe_ob, qe_cpy, qe_tl, qe_tl0, dX8_from_6, qe_lcmp, iI_cmp_lt, iI_cmp_le, iI_cmp_ge, iI_cmp_gt, iI_cmp_eq, dX8_from_7, qe_if_le, q_br, q_tg, Int.reduceNatCast', Int.reduceAdd, Int.reduceToNat, Int.reduceLE, Int.reduceNeg, dX8_from_10, qe_ldc2, qe_pk, qDi_8_267, dX8_from_13, qe_lret, dX8_from_14, dX8_from_15, dX8_from_16, dX8_from_17, dX8_from_20, qe_lneg, dX8_from_21, dX8_from_22, qe_if_ge, dX8_from_25, dX8_from_26, dX8_from_27, dX8_from_30, dX8_from_31, qe_goto, dX8_from_34, dX8_from_35, dX8_from_36, qe_iconst, dX8_from_37, ms_X8_from_108, dX8_from_40, dX8_from_41, dX8_from_42, dX8_from_43, dX8_from_46, dX8_from_47, dX8_from_48, dX8_from_49, dX8_from_52, dX8_from_53, qe_invs, ms_X8_from_90, dX8_from_56]
      exact h
    · rw [if_pos (by omega)] at h
      simp only [qe_x, qe_v, q_get, Bool.cond_false, Bool.cond_true, Nat.reduceAdd, Nat.reduceBEq, Nat.reduceLT, Nat.reduceLeDiff, Nat.add_zero, Nat.zero_add, Nat.le_refl, true_and, and_true, List.length_cons, List.length_nil, Option.some.injEq, exists_eq_left', exists_eq_left, exists_eq', reduceCtorEq, dX8_from_0, qe_lload_2, qe_ll, dX8_from_1, qe_aload_0, qe_al, dX8_from_2, qe_iload_1, qe_il, dX8_from_3, qe_invv, ms_X8_from_280, qe_c0, qe_c1, qe_c2, qe_c3, qe_c8, qe_c9, qe_cs, qe_cv, qe_tk, qe_tk0, qe_cat0, qe_cati, qe_catl, qe_catr, qe_catn, qe_ob, qe_cpy, qe_tl, qe_tl0, dX8_from_6, qe_lcmp, iI_cmp_lt, iI_cmp_le, iI_cmp_ge, iI_cmp_gt, iI_cmp_eq, dX8_from_7, qe_if_le, q_br, q_tg, Int.reduceNatCast', Int.reduceAdd, Int.reduceToNat, Int.reduceLE, Int.reduceNeg, dX8_from_10, qe_ldc2, qe_pk, qDi_8_267, dX8_from_13, qe_lret, dX8_from_14, dX8_from_15, dX8_from_16, dX8_from_17, dX8_from_20, qe_lneg, dX8_from_21, dX8_from_22, qe_if_ge, dX8_from_25, dX8_from_26, dX8_from_27, dX8_from_30, dX8_from_31, qe_goto, dX8_from_34, dX8_from_35, dX8_from_36, qe_iconst, dX8_from_37, ms_X8_from_108, dX8_from_40, dX8_from_41, dX8_from_42, dX8_from_43, dX8_from_46, dX8_from_47, dX8_from_48, dX8_from_49, dX8_from_52, dX8_from_53, qe_invs, ms_X8_from_90, dX8_from_56, lI_neg]
      exact h
  · rw [if_pos (by omega)] at h
    exact h
end
